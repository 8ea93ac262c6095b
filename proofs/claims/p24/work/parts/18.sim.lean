/-! THE SIMULATION: the primitives that are called, and the whole of it -/
section
variable {X : mm_X} {rec : mm_C} {y pc : Nat} {ls st : List Value} {σ σ' : mm_S} {o : Option Value ⊕ Nat} {len : Nat}
theorem mm_ivks {i kd lo hi : Nat} (h : mm_ivk rec y pc ls st σ i kd lo hi = some (o, σ')) : ∃ z, mm_lu mm_ivt y i = some z ∧ ((z < 1000 ∧ mm_inv rec y pc ls st σ z kd = some (o, σ')) ∨ (¬ z < 1000 ∧ lo ≤ z ∧ z ≤ hi ∧ mm_prim rec y pc ls st σ (z - 1000) = some (o, σ'))) := by
  unfold mm_ivk at h
  cases hz : mm_lu mm_ivt y i with
  | none => rw [hz] at h; cases h
  | some z =>
    rw [hz] at h
    refine ⟨z, rfl, ?_⟩
    replace h := mm_ifs h
    rcases h with ⟨hc, h⟩ | ⟨hc, h⟩
    · exact Or.inl ⟨hc, h⟩
    · replace h := mm_its h
      obtain ⟨hq, h⟩ := h
      exact Or.inr ⟨hc, hq.1, hq.2, h⟩
theorem mm_s_invokestatic {n : Nat} (hs : mm_Sim X rec) (hd : decode (mm_by y) pc = .ok (.invokestatic n, len)) (h : mm_step rec y pc ls st σ (.invokestatic n) len = some (o, σ')) : mm_Sm X y pc ls st σ o σ' := by
  simp only [mm_step] at h
  replace h := mm_its h
  obtain ⟨hlen, h⟩ := h
  subst hlen
  replace h := mm_ivks h
  obtain ⟨z, hu, h⟩ := h
  rcases h with ⟨hz, h⟩ | ⟨hz, h1, h2, h⟩
  · exact mm_s_static hs hd hu hz h
  · have hlk := mm_ivp hu hz
    have hz3 : z = 1006 ∨ z = 1007 ∨ z = 1008 := by omega
    rcases hz3 with rfl | rfl | rfl
    · replace h : (if 2 ≤ mm_rk y then mm_p1 st fun x r => if mm_cats r ≤ 8 then rec y (pc + 3) ls (.int (if 0 ≤ x then x else 0 - x) :: r) σ else none else none) = some (o, σ') := h
      replace h := mm_its h
      obtain ⟨hrk, h⟩ := h
      replace h := mm_p1s h
      obtain ⟨x, r, rfl, h⟩ := h
      replace h := mm_its h
      obtain ⟨hcat, h⟩ := h
      exact mm_pure (hs _ _ _ _ _ _ _ h) (fun _ _ _ q => q.tl.i) (fun K H locs cells slots Q mls ι η hF hG hH hL hst hlo hR k => by
        have a1 := hF.2.2.2.2.2.2.2.2.2.1
        have a2 := hF.2.2.2.2.2.2.2.2.2.2.1
        have a3 := mm_sum hcat ι
        exact va_mabs hF.1 hF.2.1 (by rw [hF.2.2.1, hL.1]) hF.2.2.2.1 (hF.2.2.2.2.1 _ hlk) (hF.2.2.2.2.1 _ (mm_pws_in (by simp [mm_pws]))) (hF.2.2.2.2.1 _ (mm_pws_in (by simp [mm_pws]))) (hF.2.2.2.2.1 _ (mm_pws_in (by simp [mm_pws]))) (by show 1 ≤ (mm_KR K).frames; omega) (by show _ ≤ (mm_KR K).locals; omega) hR.1 hR.2 hd k)
    · replace h : (if 2 ≤ mm_rk y then mm_p2 st fun x z r => if mm_cats r ≤ 8 then rec y (pc + 3) ls (.int (if x < z then z else x) :: r) σ else none else none) = some (o, σ') := h
      replace h := mm_its h
      obtain ⟨hrk, h⟩ := h
      replace h := mm_p2s h
      obtain ⟨x, z, r, rfl, h⟩ := h
      replace h := mm_its h
      obtain ⟨hcat, h⟩ := h
      exact mm_pure (hs _ _ _ _ _ _ _ h) (fun _ _ _ q => q.tl.tl.i) (fun K H locs cells slots Q mls ι η hF hG hH hL hst hlo hR k => by
        have a1 := hF.2.2.2.2.2.2.2.2.2.1
        have a2 := hF.2.2.2.2.2.2.2.2.2.2.1
        have a3 := mm_sum hcat ι
        exact va_mmax hF.1 hF.2.1 (by rw [hF.2.2.1, hL.1]) hF.2.2.2.1 (hF.2.2.2.2.1 _ hlk) (hF.2.2.2.2.1 _ (mm_pws_in (by simp [mm_pws]))) (hF.2.2.2.2.1 _ (mm_pws_in (by simp [mm_pws]))) (hF.2.2.2.2.1 _ (mm_pws_in (by simp [mm_pws]))) (by show 1 ≤ (mm_KR K).frames; omega) (by show _ ≤ (mm_KR K).locals; omega) hR.1 hR.2 hd k)
    · replace h : (if 2 ≤ mm_rk y then mm_p2 st fun x z r => if mm_cats r ≤ 8 then rec y (pc + 3) ls (.int (if z < x then z else x) :: r) σ else none else none) = some (o, σ') := h
      replace h := mm_its h
      obtain ⟨hrk, h⟩ := h
      replace h := mm_p2s h
      obtain ⟨x, z, r, rfl, h⟩ := h
      replace h := mm_its h
      obtain ⟨hcat, h⟩ := h
      exact mm_pure (hs _ _ _ _ _ _ _ h) (fun _ _ _ q => q.tl.tl.i) (fun K H locs cells slots Q mls ι η hF hG hH hL hst hlo hR k => by
        have a1 := hF.2.2.2.2.2.2.2.2.2.1
        have a2 := hF.2.2.2.2.2.2.2.2.2.2.1
        have a3 := mm_sum hcat ι
        exact va_mmin hF.1 hF.2.1 (by rw [hF.2.2.1, hL.1]) hF.2.2.2.1 (hF.2.2.2.2.1 _ hlk) (hF.2.2.2.2.1 _ (mm_pws_in (by simp [mm_pws]))) (hF.2.2.2.2.1 _ (mm_pws_in (by simp [mm_pws]))) (hF.2.2.2.2.1 _ (mm_pws_in (by simp [mm_pws]))) (by show 1 ≤ (mm_KR K).frames; omega) (by show _ ≤ (mm_KR K).locals; omega) hR.1 hR.2 hd k)
theorem mm_s_invokevirtual {n : Nat} (hLs : ∀ l : Launch, l.stackTraces = false → mm_Ls X l) (hs : mm_Sim X rec) (hd : decode (mm_by y) pc = .ok (.invokevirtual n, len)) (h : mm_step rec y pc ls st σ (.invokevirtual n) len = some (o, σ')) : mm_Sm X y pc ls st σ o σ' := by
  simp only [mm_step] at h
  replace h := mm_its h
  obtain ⟨hlen, h⟩ := h
  subst hlen
  replace h := mm_ivks h
  obtain ⟨z, hu, h⟩ := h
  rcases h with ⟨hz, h⟩ | ⟨hz, h1, h2, h⟩
  · exact mm_s_object (Or.inl ⟨rfl, rfl⟩) hs hd hu hz h
  · have hlk := mm_ivp hu hz
    have hz3 : z = 1000 ∨ z = 1001 ∨ z = 1002 ∨ z = 1003 := by omega
    rcases hz3 with rfl | rfl | rfl | rfl
    · replace h : (if 1 ≤ mm_rk y then mm_pr st fun a r => (mm_lst σ a).bind fun l => if mm_cats r ≤ 8 then rec y (pc + 3) ls (.int (Int32.ofNat l.length) :: r) σ else none else none) = some (o, σ') := h
      replace h := mm_its h
      obtain ⟨hrk, h⟩ := h
      replace h := mm_prs h
      obtain ⟨a, r, hst, h⟩ := h
      replace h := mm_bds h
      obtain ⟨x, hx, h⟩ := h
      replace h := mm_its h
      obtain ⟨hcat, h⟩ := h
      exact mm_s_list (q := 0) (As := []) (rest := r) (a := a) (v := some (.int (Int32.ofNat x.length))) (σ1 := σ) hs (by decide) hd hlk hst rfl hcat ⟨by show 0 + 1 ≤ _; omega, by show 25 + 0 ≤ _; omega⟩ (fun l hl => (hLs l hl).1 σ a x hx) hx ⟨rfl, Nat.le_refl _, Nat.le_refl _⟩ h
    · replace h : (if 4 ≤ mm_rk y then mm_pi st fun a i r => (mm_lst σ a).bind fun l => if mm_cats r ≤ 8 then (if i < 0 ∨ l.length ≤ i.toNatClampNeg then none else
        (l[i.toNatClampNeg]?).bind fun v => rec y (pc + 3) ls (.ref v :: r) σ) else none else none) = some (o, σ') := h
      replace h := mm_its h
      obtain ⟨hrk, h⟩ := h
      replace h := mm_pis h
      obtain ⟨a, i, r, hst, h⟩ := h
      replace h := mm_bds h
      obtain ⟨x, hx, h⟩ := h
      replace h := mm_its h
      obtain ⟨hcat, h⟩ := h
      replace h := mm_itn h
      obtain ⟨hin, h⟩ := h
      replace h := mm_bds h
      obtain ⟨v, hv, h⟩ := h
      exact mm_s_list (q := 1) (As := [.int i]) (rest := r) (a := a) (v := some (.ref v)) (σ1 := σ) hs (by decide) hd hlk hst rfl hcat ⟨by show 3 + 1 ≤ _; omega, by show 25 + 90 ≤ _; omega⟩ (fun l hl => (hLs l hl).2.1 σ a x i v hx hin hv) hx ⟨rfl, Nat.le_refl _, Nat.le_refl _⟩ h
    · replace h : (if 9 ≤ mm_rk y then mm_rr st fun v a r => (mm_lst σ a).bind fun l => if (mm_cats r ≤ 8 ∧ l.length < 60000) ∧ mm_oks σ (l ++ [v]) = true then
        rec y (pc + 3) ls (.int 1 :: r) (mm_bmp (mm_put σ a (.inr (.inr (.inr (l ++ [v]))))) 1 (2 * l.length + 10)) else none else none) = some (o, σ') := h
      replace h := mm_its h
      obtain ⟨hrk, h⟩ := h
      replace h := mm_rrs h
      obtain ⟨v, a, r, hst, h⟩ := h
      replace h := mm_bds h
      obtain ⟨x, hx, h⟩ := h
      replace h := mm_its h
      obtain ⟨hcat, h⟩ := h
      exact mm_s_list (q := 2) (As := [.ref v]) (rest := r) (a := a) (v := some (.int 1)) hs (by decide) hd hlk hst rfl hcat.1.1 ⟨by show 8 + 1 ≤ _; omega, by show 25 + 240 ≤ _; omega⟩ (fun l hl => (hLs l hl).2.2.1 σ a x v hx hcat.1.2 hcat.2) hx ⟨rfl, Nat.le_add_right _ _, Nat.le_add_right _ _⟩ h
    · replace h : (if 1 ≤ mm_rk y then mm_pr st fun a r => (mm_lst σ a).bind fun l => if mm_cats r ≤ 8 then rec y (pc + 3) ls r (mm_put σ a (.inr (.inr (.inr [])))) else none else none) = some (o, σ') := h
      replace h := mm_its h
      obtain ⟨hrk, h⟩ := h
      replace h := mm_prs h
      obtain ⟨a, r, hst, h⟩ := h
      replace h := mm_bds h
      obtain ⟨x, hx, h⟩ := h
      replace h := mm_its h
      obtain ⟨hcat, h⟩ := h
      exact mm_s_list (q := 3) (As := []) (rest := r) (a := a) (v := none) hs (by decide) hd hlk hst rfl hcat ⟨by show 0 + 1 ≤ _; omega, by show 25 + 0 ≤ _; omega⟩ (fun l hl => (hLs l hl).2.2.2.1 σ a x hx) hx ⟨rfl, Nat.le_refl _, Nat.le_refl _⟩ h
theorem mm_s_invokespecial {n : Nat} (hLs : ∀ l : Launch, l.stackTraces = false → mm_Ls X l) (hs : mm_Sim X rec) (hd : decode (mm_by y) pc = .ok (.invokespecial n, len)) (h : mm_step rec y pc ls st σ (.invokespecial n) len = some (o, σ')) : mm_Sm X y pc ls st σ o σ' := by
  simp only [mm_step] at h
  replace h := mm_its h
  obtain ⟨hlen, h⟩ := h
  subst hlen
  replace h := mm_ivks h
  obtain ⟨z, hu, h⟩ := h
  rcases h with ⟨hz, h⟩ | ⟨hz, h1, h2, h⟩
  · exact mm_s_object (Or.inr ⟨rfl, rfl⟩) hs hd hu hz h
  · have hlk := mm_ivp hu hz
    have hz3 : z = 1004 ∨ z = 1005 := by omega
    rcases hz3 with rfl | rfl
    · replace h : (if 5 ≤ mm_rk y then mm_pr st fun a r => if mm_fr σ a = true ∧ mm_cats r ≤ 8 then rec y (pc + 3) ls r (mm_put σ a (.inr (.inr (.inr [])))) else none else none) = some (o, σ') := h
      replace h := mm_its h
      obtain ⟨hrk, h⟩ := h
      replace h := mm_prs h
      obtain ⟨a, r, rfl, h⟩ := h
      replace h := mm_its h
      obtain ⟨hcat, h⟩ := h
      obtain ⟨hfr, hcat⟩ := hcat
      obtain ⟨hm, hW⟩ := hs _ _ _ _ _ _ _ h
      refine ⟨hm, fun K H locs cells slots mc ms mls ι η hF hG hH hL hST hlo hc hR => ?_⟩
      have a1 := hF.2.2.2.2.2.2.2.2.2.1
      have a2 := hF.2.2.2.2.2.2.2.2.2.2.1
      have hfix : CallFix K.1 (mm_Km K) K.2.2.2.2.2.2.2.2.2 (mm_by y) (mm_mx y) (mm_Ks K) (mm_Ka K) mm_good (mm_cn (mm_own y)) := ⟨hF.1, hF.2.1, hF.2.2.1, hF.2.2.2.1, hF.2.2.2.2.1⟩
      have hsA : mm_ST σ.2.1 [.ref a] := fun w hw => hST w (by rw [List.mem_singleton.mp hw]; exact List.mem_cons_self)
      have hM := (hLs K.2.1 hF.2.2.2.2.2.2.2.2.2.2.2.2).2.2.2.2 σ a hfr ι η hsA
      have hini : (Cond.initialized RJx4a65c).before (mm_Ka K) (mm_Ks K) = true := hF.2.2.2.2.1 _ (mm_lw_in (by simp [mm_lw]))
      have hW9 : 2 * (F0 (mm_Km K) pc mls ((Value.ref a :: r).map (mm_v ι))).monitorRoom + ((r.map (mm_v ι)).map fun v => v.category).sum ≤ 8 := by
        have := mm_sum hcat ι
        show 2 * 0 + _ ≤ 8
        omega
      have hps : PreS (mm_Ks K) H (mm_Pc X [.ref a] σ ι η) (.ref (ι a) :: []) := ⟨mm_Pc_blind, fun U hU hW => ⟨rfl, hG.warm hW, by rw [hU]; exact hH.moved hW.alike hU⟩⟩
      refine mm_behind (σ1 := mm_put σ a (.inr (.inr (.inr [])))) (o1 := .inl none) (mcc := (mm_put σ a (.inr (.inr (.inr [])))).2.2.1 - σ.2.2.1) (msc := (mm_put σ a (.inr (.inr (.inr [])))).2.2.2 - σ.2.2.2) (a := (Value.ref (ι a) :: []).toArray) (rest := r) hF hG hL hST.tl hlo hc hR ⟨rfl, rfl⟩ ⟨Nat.le_refl _, Nat.le_refl _, Nat.le_refl _⟩ (mm_ran ?_) (fun w e => by cases e; exact hs _ _ _ _ _ _ _ h) (fun E e => by cases e) hH.2.2.2.2.2.2.2.2.2 hH.2.2.2.2.2.2.2.2.1
      have z1 : (mm_put σ a (.inr (.inr (.inr [])))).2.2.1 - σ.2.2.1 = 0 := Nat.sub_self _
      have z2 : (mm_put σ a (.inr (.inr (.inr [])))).2.2.2 - σ.2.2.2 = 0 := Nat.sub_self _
      rw [z1, z2] at hM ⊢
      exact va_runI (As := []) hfix hM ⟨callB_of 0 hF.2.2.2.2.1 (mm_good_good _ (mm_lw_in (by simp [mm_lw]))) rfl rfl rfl hini (hF.2.2.2.2.1 _ hlk) (by decide +kernel) (by simp only [mm_prm]; constructor <;> omega), rfl, hF.2.2.2.2.1 _ (mm_lw_in (by simp [mm_lw]))⟩ hps rfl rfl hL.1 rfl hW9 hd ⟨by have := hm.2.1; have h3 : (mm_put σ a (.inr (.inr (.inr [])))).2.2.1 = σ.2.2.1 := rfl; omega, by have := hm.2.2; have h3 : (mm_put σ a (.inr (.inr (.inr [])))).2.2.2 = σ.2.2.2 := rfl; omega⟩
    · replace h : (if 1 ≤ mm_rk y then mm_pr st fun a r => if mm_cats r ≤ 8 then rec y (pc + 3) ls r σ else none else none) = some (o, σ') := h
      replace h := mm_its h
      obtain ⟨hrk, h⟩ := h
      replace h := mm_prs h
      obtain ⟨a, r, rfl, h⟩ := h
      replace h := mm_its h
      obtain ⟨hcat, h⟩ := h
      exact mm_pure (hs _ _ _ _ _ _ _ h) (fun _ _ _ q => q.tl) (fun K H locs cells slots Q mls ι η hF hG hH hL hst hlo hR k => by
        have a1 := hF.2.2.2.2.2.2.2.2.2.1
        have a2 := hF.2.2.2.2.2.2.2.2.2.2.1
        have a3 := mm_sum hcat ι
        exact W.objInit hF.1 hF.2.1 hF.2.2.2.1 (hF.2.2.2.2.1 _ hlk) (hF.2.2.2.2.1 _ (mm_pws_in (by simp [mm_pws]))) (hF.2.2.2.2.1 _ (mm_pws_in (by simp [mm_pws]))) rfl (by rw [hF.2.2.1]; exact hL.1) rfl hd (by show 1 ≤ (mm_KR K).frames; omega) (by show 2 * 0 + _ + 12 ≤ (mm_KR K).locals; omega) k)
set_option maxHeartbeats 4000000 in
theorem mm_sim_step (hLs : ∀ l : Launch, l.stackTraces = false → mm_Ls X l) (hs : mm_Sim X rec) {i : ClassFile.Instr} (hd : decode (mm_by y) pc = .ok (i, len)) (h : mm_step rec y pc ls st σ i len = some (o, σ')) : mm_Sm X y pc ls st σ o σ' := by
  cases i
  case iconst => exact mm_s_iconst hs hd h
  case bipush => exact mm_s_bipush hs hd h
  case sipush => exact mm_s_sipush hs hd h
  case lconst => exact mm_s_lconst hs hd h
  case aconst_null => exact mm_s_aconst_null hs hd h
  case ldc => exact mm_s_ldc hs hd h
  case iload_n => exact mm_s_iload_n hs hd h
  case iload => exact mm_s_iload hs hd h
  case aload_n => exact mm_s_aload_n hs hd h
  case aload => exact mm_s_aload hs hd h
  case istore_n => exact mm_s_istore_n hs hd h
  case istore => exact mm_s_istore hs hd h
  case astore_n => exact mm_s_astore_n hs hd h
  case astore => exact mm_s_astore hs hd h
  case iinc => exact mm_s_iinc hs hd h
  case dup => exact mm_s_dup hs hd h
  case dup_x1 => exact mm_s_dup_x1 hs hd h
  case dup2 => exact mm_s_dup2 hs hd h
  case pop => exact mm_s_pop hs hd h
  case iadd => exact mm_s_iadd hs hd h
  case isub => exact mm_s_isub hs hd h
  case imul => exact mm_s_imul hs hd h
  case idiv => exact mm_s_idiv hs hd h
  case irem => exact mm_s_irem hs hd h
  case ineg => exact mm_s_ineg hs hd h
  case iand => exact mm_s_iand hs hd h
  case ior => exact mm_s_ior hs hd h
  case ixor => exact mm_s_ixor hs hd h
  case ishl => exact mm_s_ishl hs hd h
  case ishr => exact mm_s_ishr hs hd h
  case iushr => exact mm_s_iushr hs hd h
  case i2l => exact mm_s_i2l hs hd h
  case lcmp => exact mm_s_lcmp hs hd h
  case goto => exact mm_s_goto hs hd h
  case ifCond => exact mm_s_ifCond hs hd h
  case if_icmp => exact mm_s_if_icmp hs hd h
  case ifnull => exact mm_s_ifnull hs hd h
  case tableswitch => exact mm_s_tableswitch hs hd h
  case lookupswitch => exact mm_s_lookupswitch hs hd h
  case arraylength => exact mm_s_arraylength hs hd h
  case iaload => exact mm_s_iaload hs hd h
  case baload => exact mm_s_baload hs hd h
  case iastore => exact mm_s_iastore hs hd h
  case bastore => exact mm_s_bastore hs hd h
  case laload => exact mm_s_laload hs hd h
  case lastore => exact mm_s_lastore hs hd h
  case getfield => exact mm_s_getfield hs hd h
  case putfield => exact mm_s_putfield hs hd h
  case getstatic => exact mm_s_getstatic hs hd h
  case new => exact mm_s_new hs hd h
  case newarray => exact mm_s_newarray hs hd h
  case checkcast => exact mm_s_checkcast hs hd h
  case invokestatic => exact mm_s_invokestatic hs hd h
  case invokevirtual => exact mm_s_invokevirtual hLs hs hd h
  case invokespecial => exact mm_s_invokespecial hLs hs hd h
  case ireturn => exact mm_s_ireturn hd h
  case areturn => exact mm_s_areturn hd h
  case return_ => exact mm_s_return hd h
  all_goals (simp only [mm_step] at h; cases h)
/-- THE SIMULATION -/
theorem mm_sim (hLs : ∀ l : Launch, l.stackTraces = false → mm_Ls X l) : ∀ n, mm_Sim X (mm_run n)
  | 0 => fun y pc ls st σ o σ' h => by cases h
  | n + 1 => fun y pc ls st σ o σ' h => by
    have ih := mm_sim hLs n
    simp only [mm_run] at h
    cases hd : decode (mm_by y) pc with
    | error e => rw [hd] at h; cases h
    | ok q =>
      rw [hd] at h
      exact mm_sim_step hLs ih hd h
end

