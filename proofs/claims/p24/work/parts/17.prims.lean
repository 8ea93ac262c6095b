/-! THE SIMULATION: calls on an object, primitives, and the whole -/
section
variable {X : mm_X} {rec : mm_C} {y pc : Nat} {ls st : List Value} {σ σ' : mm_S} {o : Option Value ⊕ Nat} {len : Nat}
theorem mm_s_object {i kd : Nat} {ins : ClassFile.Instr} (hk0 : (kd = 1 ∧ ins = .invokevirtual i) ∨ (kd = 2 ∧ ins = .invokespecial i)) (hs : mm_Sim X rec) (hd : decode (mm_by y) pc = .ok (ins, 3)) {z : Nat} (hu : mm_lu mm_ivt y i = some z) (hz : z < 1000) (h : mm_inv rec y pc ls st σ z kd = some (o, σ')) : mm_Sm X y pc ls st σ o σ' := by
  unfold mm_inv at h
  replace h := mm_its h
  obtain ⟨hkd, h⟩ := h
  obtain ⟨hkd, hnp⟩ := hkd
  rw [if_neg (by rcases hk0 with ⟨q, -⟩ | ⟨q, -⟩ <;> omega)] at h
  replace h := mm_prs h
  obtain ⟨a, r, hdrop, h⟩ := h
  replace h := mm_bds h
  obtain ⟨c, hc, h⟩ := h
  replace h := mm_its h
  obtain ⟨hcz, h⟩ := h
  subst hcz
  have hin : ∀ v, v ∈ (Value.ref a :: r) → v ∈ st := fun v hv => List.mem_of_mem_drop (by rw [hdrop]; exact hv)
  refine mm_s_call hs h (fun q => ⟨fun v hv => ?_, fun v hv => q v (hin v (List.mem_cons_of_mem _ hv))⟩) (fun o1 σ1 h1 hq c1 c2 c3 c4 c5 c6 m1 m2 K H locs cells slots mls ι η hF hG hH hL s1 hR => ?_)
  · rcases List.mem_cons.mp hv with rfl | hv
    · exact q _ (hin _ List.mem_cons_self)
    · exact q v (List.mem_of_mem_take (List.mem_reverse.mp hv))
  obtain ⟨t1, t2, t3, t4, t5, t6, t7⟩ := mm_mok_at c3
  have hnh : mm_lh mm_hr z = [] := t6.elim id fun q => by rcases hk0 with ⟨w, -⟩ | ⟨w, -⟩ <;> omega
  have hst0 : st.map (mm_v ι) = ((st.take (mm_np z)).reverse.map (mm_v ι)).reverse ++ .ref (ι a) :: r.map (mm_v ι) := by
    rw [← List.map_reverse, List.reverse_reverse]
    have : (Value.ref (ι a) :: r.map (mm_v ι)) = (st.drop (mm_np z)).map (mm_v ι) := by rw [hdrop]; rfl
    rw [this, ← List.map_append, List.take_append_drop]
  have hlen : ((st.take (mm_np z)).reverse.map (mm_v ι)).length = mm_np z := by
    rw [List.length_map, List.length_reverse, List.length_take]; omega
  have hfix : CallFix K.1 (mm_Km K) K.2.2.2.2.2.2.2.2.2 (mm_by y) (mm_mx y) (mm_Ks K) (mm_Ka K) mm_good (mm_cn (mm_own y)) := ⟨hF.1, hF.2.1, hF.2.2.1, hF.2.2.2.1, hF.2.2.2.2.1⟩
  have hroom : (mm_room z (σ1.2.2.1 - σ.2.2.1) (σ1.2.2.2 - σ.2.2.2)).frames + 1 ≤ (mm_KR K).frames ∧ 8 + (mm_mx z + 11) + (mm_room z (σ1.2.2.1 - σ.2.2.1) (σ1.2.2.2 - σ.2.2.2)).locals ≤ (mm_KR K).locals := by
    have a1 := hF.2.2.2.2.2.2.2.2.2.1
    have a2 := hF.2.2.2.2.2.2.2.2.2.2.1
    unfold mm_room
    dsimp only
    constructor <;> omega
  have hW9 : 2 * (F0 (mm_Km K) pc mls (st.map (mm_v ι))).monitorRoom + ((r.map (mm_v ι)).map fun v => v.category).sum ≤ 8 := by
    have := mm_sum c1 ι
    show 2 * 0 + _ ≤ 8
    omega
  have hlo : mls.size = mm_mx y := hL.1
  have hcw : Cond.code (mm_nm z) (mm_by z) (mm_mx z) (mm_rt z) ∈ mm_good := by have := (mm_mw_in c3).2; unfold mm_cw at this; rwa [if_pos hnh] at this
  have hlk : Cond.methodLink (mm_cn (mm_own y)) i (mm_nm z) ∈ mm_good := (mm_ivs hu hz).elim id fun q => by
    exfalso
    have := mm_nb.1
    rw [← q.2] at this
    rcases hk0 with ⟨w, -⟩ | ⟨w, -⟩ <;> omega
  have hpc : ∀ U : State, U.heap = H → (mm_Ks K).WarmedH U.vm → mm_Pc X (.ref a :: (st.take (mm_np z)).reverse) σ ι η (Value.ref (ι a) :: (st.take (mm_np z)).reverse.map (mm_v ι)).toArray U := fun U hU hW => ⟨rfl, hG.warm hW, by rw [hU]; exact hH.moved hW.alike hU⟩
  have hM := mm_con (l := K.2.1) hs hF.2.2.2.2.2.2.2.2.2.2.2.2 c3 hnh h1 c6 c5 s1 ι η
  have hcb := callB_of (mm_np z) hF.2.2.2.2.1 (mm_good_good _ hcw) (ws' := mm_good) rfl (rm := mm_room z (σ1.2.2.1 - σ.2.2.1) (σ1.2.2.2 - σ.2.2.2)) (mc := σ1.2.2.1 - σ.2.2.1) (ms := σ1.2.2.2 - σ.2.2.2) rfl rfl (hF.2.2.2.2.1 _ (mm_mw_in c3).1) (hF.2.2.2.2.1 _ hlk) ⟨t3.1, t3.2, t4⟩ hroom
  obtain ⟨fs, hfs⟩ := mm_cis hc
  rcases hk0 with ⟨rfl, rfl⟩ | ⟨rfl, rfl⟩
  · have hi : Cond.instanceMethod (mm_nm z) ∈ mm_good ∧ Cond.selects (mm_nm z).cls (mm_nm z) (mm_nm z) ∈ mm_good := ⟨t5 _ (by unfold mm_mw; rw [hkd]; simp), t5 _ (by unfold mm_mw; rw [hkd]; simp)⟩
    exact vx_runV hfix hM ⟨hcb, hF.2.2.2.2.1 _ hi.1, hF.2.2.2.2.1 _ hi.2⟩ ⟨mm_Pc_blind, by rw [t1]; exact mm_cell hG hH hfs, hpc⟩ rfl hlen hlo hst0 hW9 hd hR
  · have hi : Cond.instanceMethod (mm_nm z) ∈ mm_good := t5 _ (by unfold mm_mw; rw [hkd]; simp)
    obtain ⟨v, rfl⟩ := hq (Or.inl hkd)
    obtain ⟨-, hrt, hnm⟩ : mm_kd z = 2 ∧ mm_rt z = none ∧ (mm_nm z).name = "<init>" := t7.elim (fun q => by omega) id
    rw [hrt] at hM hcb
    exact mm_ran (va_runI hfix (mm_quiet hM) ⟨hcb, hnm, hF.2.2.2.2.1 _ hi⟩ ⟨mm_Pc_blind, hpc⟩ rfl hlen hlo hst0 hW9 hd hR)
/-- a list's method, as the primitive has it -/
def mm_pcw (q : Nat) : Cond := match q with
  | 0 => .code yJx4a65c_size_8abf5 cJx4a65c_size_8abf5 1 (some .int)
  | 1 => .code yJx4a65c_get_915e3 cJx4a65c_get_915e3 2 (some (.object "java/lang/Object"))
  | 2 => .code yJx4a65c_add_9ea2d cJx4a65c_add_9ea2d 2 (some .boolean)
  | 3 => .code yJx4a65c_clear_da8c8 cJx4a65c_clear_da8c8 4 none
  | _ => .code yJx4a65c_init_da8c8 cJx4a65c_init_da8c8 1 none
def mm_prm (q mc ms : Nat) : Room := match q with
  | 0 => { frames := 0, cells := mc, slots := ms, locals := 0 }
  | 1 => { frames := 3, cells := mc, slots := ms, locals := 90 }
  | 2 => { frames := 8, cells := mc, slots := ms, locals := 240 }
  | 3 => { frames := 0, cells := mc, slots := ms, locals := 0 }
  | _ => { frames := 4, cells := mc, slots := ms, locals := 120 }
def mm_PM (X : mm_X) (l : Launch) (q : Nat) (As : List Value) (σ : mm_S) (v : Option Value) (σ1 : mm_S) : Prop := ∀ ι η, mm_ST σ.2.1 As →
  Met l (mm_pn q) (mm_pcw q :: mm_good) (mm_prm q (σ1.2.2.1 - σ.2.2.1) (σ1.2.2.2 - σ.2.2.2)) (mm_Pc X As σ ι η) (mm_Qc X (.inl v) σ1 ι σ.2.1) (σ1.2.2.1 - σ.2.2.1) (σ1.2.2.2 - σ.2.2.2) (mm_A X)
/-- what is owed of ArrayList's methods -/
def mm_Ls (X : mm_X) (l : Launch) : Prop :=
  (∀ σ a x, mm_lst σ a = some x → mm_PM X l 0 [.ref a] σ (some (.int (Int32.ofNat x.length))) σ) ∧
  (∀ σ a x (i : Int32) v, mm_lst σ a = some x → ¬ (i < 0 ∨ x.length ≤ i.toNatClampNeg) → x[i.toNatClampNeg]? = some v → mm_PM X l 1 [.ref a, .int i] σ (some (.ref v)) σ) ∧
  (∀ σ a x v, mm_lst σ a = some x → x.length < 60000 → mm_oks σ (x ++ [v]) = true → mm_PM X l 2 [.ref a, .ref v] σ (some (.int 1)) (mm_bmp (mm_put σ a (.inr (.inr (.inr (x ++ [v]))))) 1 (2 * x.length + 10))) ∧
  (∀ σ a x, mm_lst σ a = some x → mm_PM X l 3 [.ref a] σ none (mm_put σ a (.inr (.inr (.inr [])))))  ∧
  (∀ σ a, mm_fr σ a = true → mm_PM X l 4 [.ref a] σ none (mm_put σ a (.inr (.inr (.inr [])))))
theorem mm_ivp {i z : Nat} (h : mm_lu mm_ivt y i = some z) (hz : ¬ z < 1000) : Cond.methodLink (mm_cn (mm_own y)) i (mm_pn (z - 1000)) ∈ mm_good := by
  obtain ⟨hi, hk⟩ := mm_lu_of h _ mm_ivt_ok
  unfold mm_iok at hk
  simp only [mm_k1 hi, mm_k2 hi, Bool.and_eq_true, Bool.or_eq_true, decide_eq_true_eq] at hk
  rcases hk.2 with hk | hk
  · split at hk
    · have := mm_ck_in hk List.mem_cons_self
      unfold mm_iw at this
      rw [if_neg hz] at this
      simpa only [mm_k1 hi, mm_k2 hi] using this
    · cases hk
  · omega
theorem mm_lsts {a : Nat} {x : List Nat} (h : mm_lst σ a = some x) : σ.1 a = some (.inr (.inr (.inr x))) := by
  unfold mm_lst at h
  split at h
  · rename_i q; cases h; exact q
  · cases h
/-- the cell of a list -/
theorem mm_lcell {ι η : Nat → Nat} {s : State} {H : Heap} {a : Nat} {x : List Nat} (hG : mm_G X s) (hH : mm_H X σ ι η s H) (h : mm_lst σ a = some x) : ∃ cell : Cell, H[ι a]? = some cell ∧ cell.vm.isStatics = false ∧ s.vm.findClass RJx4a65c = some cell.cls := by
  obtain ⟨-, -, -, -, mc, ⟨cell, q1, q2, q3, q4⟩, -⟩ := hH.2.2.2.2.2.1 a _ (mm_lsts h)
  exact ⟨cell, q1, by rw [q3]; rfl, by rw [q2]; exact (hG.1 8 _ rfl).2.1⟩
def mm_lw : List Cond := [mm_pcw 0, mm_pcw 1, mm_pcw 2, mm_pcw 3, mm_pcw 4, .initialized RJx4a65c, .instanceMethod (mm_pn 0), .instanceMethod (mm_pn 1), .instanceMethod (mm_pn 2), .instanceMethod (mm_pn 3), .instanceMethod (mm_pn 4), .selects RJx4a65c (mm_pn 0) (mm_pn 0), .selects RJx4a65c (mm_pn 1) (mm_pn 1), .selects RJx4a65c (mm_pn 2) (mm_pn 2), .selects RJx4a65c (mm_pn 3) (mm_pn 3)]
set_option maxRecDepth 1000000 in
theorem mm_lw_ok : mm_ck mm_lw [129, 240, 541, 133, 74, 43, 127, 238, 539, 131, 73, 128, 239, 540, 132] = true := by decide +kernel
theorem mm_lw_in {w : Cond} (h : w ∈ mm_lw) : w ∈ mm_good := mm_ck_in mm_lw_ok h
/-- a list's method is called on a receiver -/
theorem mm_s_list {q i : Nat} {rest As : List Value} {a : Nat} {v : Option Value} {σ1 : mm_S} (hs : mm_Sim X rec) (hq : q < 4) (hd : decode (mm_by y) pc = .ok (.invokevirtual i, 3)) (hlk : Cond.methodLink (mm_cn (mm_own y)) i (mm_pn q) ∈ mm_good) (hst : st = As.reverse ++ .ref a :: rest) (hAs : As.length = (if q = 1 ∨ q = 2 then 1 else 0)) (hcat : mm_cats rest ≤ 8)
    (hrk : (mm_prm q 0 0).frames + 1 ≤ mm_rk y ∧ 25 + (mm_prm q 0 0).locals ≤ 38 * mm_rk y) (hl : ∀ l, l.stackTraces = false → mm_PM X l q (.ref a :: As) σ v σ1) {x : List Nat} (hx : mm_lst σ a = some x) (hm : σ.2.1 = σ1.2.1 ∧ σ.2.2.1 ≤ σ1.2.2.1 ∧ σ.2.2.2 ≤ σ1.2.2.2)
    (h : rec y (pc + 3) ls (v.toList ++ rest) σ1 = some (o, σ')) : mm_Sm X y pc ls st σ o σ' := by
  have hm2 := (hs _ _ _ _ _ _ _ h).1
  refine ⟨⟨by omega, by omega, by omega⟩, fun K H locs cells slots mc ms mls ι η hF hG hH hL hST hlo hc hR => ?_⟩
  have hin : ∀ w, w ∈ (Value.ref a :: rest) → w ∈ st := fun w hw => by rw [hst]; exact List.mem_append_right _ hw
  have hsA : mm_ST σ.2.1 (.ref a :: As) := fun w hw => by
    rcases List.mem_cons.mp hw with rfl | hw
    · exact hST _ (hin _ List.mem_cons_self)
    · exact hST w (by rw [hst]; exact List.mem_append_left _ (List.mem_reverse.mpr hw))
  have hsr : mm_ST σ.2.1 rest := fun w hw => hST w (hin w (List.mem_cons_of_mem _ hw))
  have hst0 : st.map (mm_v ι) = (As.map (mm_v ι)).reverse ++ .ref (ι a) :: rest.map (mm_v ι) := by
    rw [hst, List.map_append, List.map_reverse]; rfl
  have hfix : CallFix K.1 (mm_Km K) K.2.2.2.2.2.2.2.2.2 (mm_by y) (mm_mx y) (mm_Ks K) (mm_Ka K) mm_good (mm_cn (mm_own y)) := ⟨hF.1, hF.2.1, hF.2.2.1, hF.2.2.2.1, hF.2.2.2.2.1⟩
  have hM := hl K.2.1 hF.2.2.2.2.2.2.2.2.2.2.2.2 ι η hsA
  have a1 := hF.2.2.2.2.2.2.2.2.2.1
  have a2 := hF.2.2.2.2.2.2.2.2.2.2.1
  have hW9 : 2 * (F0 (mm_Km K) pc mls (st.map (mm_v ι))).monitorRoom + ((rest.map (mm_v ι)).map fun v => v.category).sum ≤ 8 := by
    have := mm_sum hcat ι
    show 2 * 0 + _ ≤ 8
    omega
  have hpc : ∀ U : State, U.heap = H → (mm_Ks K).WarmedH U.vm → mm_Pc X (.ref a :: As) σ ι η (Value.ref (ι a) :: As.map (mm_v ι)).toArray U := fun U hU hW => ⟨rfl, hG.warm hW, by rw [hU]; exact hH.moved hW.alike hU⟩
  have hini : (Cond.initialized RJx4a65c).before (mm_Ka K) (mm_Ks K) = true := hF.2.2.2.2.1 _ (mm_lw_in (by simp [mm_lw]))
  have hpv : PreV (mm_Ks K) H RJx4a65c (ι a) (mm_Pc X (.ref a :: As) σ ι η) (As.map (mm_v ι)) := ⟨mm_Pc_blind, mm_lcell hG hH hx, hpc⟩
  have hRR : cells + (σ1.2.2.1 - σ.2.2.1) ≤ (mm_KR K).cells ∧ slots + (σ1.2.2.2 - σ.2.2.2) ≤ (mm_KR K).slots := by omega
  have hlen : (As.map (mm_v ι)).length = (if q = 1 ∨ q = 2 then 1 else 0) := by rw [List.length_map]; exact hAs
  have hbe := fun hr => mm_behind (H := H) (pc := pc) (ls := ls) (o := o) (σ' := σ') (σ1 := σ1) (o1 := .inl v) (mcc := σ1.2.2.1 - σ.2.2.1) (msc := σ1.2.2.2 - σ.2.2.2) (a := (Value.ref (ι a) :: As.map (mm_v ι)).toArray) (st0 := st.map (mm_v ι)) hF hG hL hsr hlo hc hR ⟨rfl, rfl⟩ ⟨by omega, hm.2.1, hm.2.2⟩ hr (fun w e => by cases e; exact hs _ _ _ _ _ _ _ h) (fun E e => by cases e) hH.2.2.2.2.2.2.2.2.2 hH.2.2.2.2.2.2.2.2.1
  refine hbe (mm_ran ?_)
  match q, hq with
  | 0, _ => exact va_runV hfix hM ⟨callB_of 0 hF.2.2.2.2.1 (mm_good_good _ (mm_lw_in (by simp [mm_lw]))) rfl rfl rfl hini (hF.2.2.2.2.1 _ hlk) (by decide +kernel) (by simp only [mm_prm] at hrk ⊢; constructor <;> omega), hF.2.2.2.2.1 _ (mm_lw_in (by simp [mm_lw])), hF.2.2.2.2.1 _ (mm_lw_in (by simp [mm_lw]))⟩ hpv rfl hlen hL.1 hst0 hW9 hd hRR
  | 1, _ => exact va_runV hfix hM ⟨callB_of 1 hF.2.2.2.2.1 (mm_good_good _ (mm_lw_in (by simp [mm_lw]))) rfl rfl rfl hini (hF.2.2.2.2.1 _ hlk) (by decide +kernel) (by simp only [mm_prm] at hrk ⊢; constructor <;> omega), hF.2.2.2.2.1 _ (mm_lw_in (by simp [mm_lw])), hF.2.2.2.2.1 _ (mm_lw_in (by simp [mm_lw]))⟩ hpv rfl hlen hL.1 hst0 hW9 hd hRR
  | 2, _ => exact va_runV hfix hM ⟨callB_of 1 hF.2.2.2.2.1 (mm_good_good _ (mm_lw_in (by simp [mm_lw]))) rfl rfl rfl hini (hF.2.2.2.2.1 _ hlk) (by decide +kernel) (by simp only [mm_prm] at hrk ⊢; constructor <;> omega), hF.2.2.2.2.1 _ (mm_lw_in (by simp [mm_lw])), hF.2.2.2.2.1 _ (mm_lw_in (by simp [mm_lw]))⟩ hpv rfl hlen hL.1 hst0 hW9 hd hRR
  | 3, _ => exact va_runV hfix hM ⟨callB_of 0 hF.2.2.2.2.1 (mm_good_good _ (mm_lw_in (by simp [mm_lw]))) rfl rfl rfl hini (hF.2.2.2.2.1 _ hlk) (by decide +kernel) (by simp only [mm_prm] at hrk ⊢; constructor <;> omega), hF.2.2.2.2.1 _ (mm_lw_in (by simp [mm_lw])), hF.2.2.2.2.1 _ (mm_lw_in (by simp [mm_lw]))⟩ hpv rfl hlen hL.1 hst0 hW9 hd hRR
theorem mm_pws_in {w : Cond} (h : w ∈ mm_pws) : w ∈ mm_good := mm_ck_in mm_pws_ok h
end

