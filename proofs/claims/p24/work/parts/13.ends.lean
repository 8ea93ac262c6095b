/-! THE SIMULATION: objects that are made, exceptions that are thrown, returns -/
section
variable {X : mm_X} {rec : mm_C} {y pc : Nat} {ls st : List Value} {σ σ' : mm_S} {o : Option Value ⊕ Nat} {len : Nat}
theorem mm_xn_fit : ∀ E, E < 3 → Bundle.fit (mm_xn E) = true := by decide +kernel
theorem mm_chain_fit : ∀ n ∈ mm_chain, Bundle.fit n = true := by decide +kernel
theorem mm_oth_in : ∀ E, E < 3 → ∀ w ∈ vx_atS RX6 (mm_xic E) (mm_xn E) mm_chain, w ∈ mm_oth := by
  intro E hE w hw
  match E, hE, hw with
  | 0, _, hw => exact List.mem_append_right _ (List.mem_append_left _ hw)
  | 1, _, hw => exact List.mem_append_right _ (List.mem_append_right _ (List.mem_append_left _ hw))
  | 2, _, hw => exact List.mem_append_right _ (List.mem_append_right _ (List.mem_append_right _ (List.mem_append_left _ hw)))
  | n + 3, h, _ => exact absurd h (by omega)
theorem mm_oth_wit {w : Cond} (h : w ∈ mm_oth) : w.onTables = true := by
  have := List.all_eq_true.mp mm_oth_wm w h
  unfold mm_wm at this
  rw [Bool.and_eq_true] at this
  exact this.1
theorem mm_thrs {E : Nat} (h : mm_thr y pc E = true) : ∃ i tx, (i, tx) ∈ mm_str ∧ decode (mm_by y) (pc + 3) = .ok (.dup, 1) ∧ ((decode (mm_by y) (pc + 4) = .ok (.ldc i, 2) ∧ decode (mm_by y) (pc + 6) = .ok (.invokespecial (mm_xic E), 3) ∧ decode (mm_by y) (pc + 9) = .ok (.athrow, 1)) ∨
    (decode (mm_by y) (pc + 4) = .ok (.ldc_w i, 3) ∧ decode (mm_by y) (pc + 7) = .ok (.invokespecial (mm_xic E), 3) ∧ decode (mm_by y) (pc + 10) = .ok (.athrow, 1))) := by
  unfold mm_thr at h
  split at h
  · rename_i i h1 h2
    simp only [Bool.and_eq_true, decide_eq_true_eq, List.any_eq_true, beq_iff_eq] at h
    obtain ⟨⟨h3, h4⟩, ⟨a, tx⟩, h5, rfl⟩ := h
    exact ⟨a, tx, h5, h1, Or.inl ⟨h2, h3, h4⟩⟩
  · rename_i i h1 h2
    simp only [Bool.and_eq_true, decide_eq_true_eq, List.any_eq_true, beq_iff_eq] at h
    obtain ⟨⟨h3, h4⟩, ⟨a, tx⟩, h5, rfl⟩ := h
    exact ⟨a, tx, h5, h1, Or.inr ⟨h2, h3, h4⟩⟩
  · cases h
theorem mm_s_new {n : Nat} (hs : mm_Sim X rec) (hd : decode (mm_by y) pc = .ok (.new n, len)) (h : mm_step rec y pc ls st σ (.new n) len = some (o, σ')) : mm_Sm X y pc ls st σ o σ' := by
  simp only [mm_step] at h
  replace h := mm_its h
  obtain ⟨hlen, h⟩ := h
  subst hlen
  replace h := mm_bds h
  obtain ⟨c, hu, h⟩ := h
  obtain ⟨hi, hk⟩ := mm_lu_of hu _ mm_nwt_ok
  unfold mm_nok at hk
  rw [Bool.and_eq_true] at hk
  obtain ⟨-, hk⟩ := hk
  replace h := mm_ifs h
  rcases h with ⟨hc, h⟩ | ⟨hc, h⟩
  · replace h := mm_bds h
    obtain ⟨fs, hfs, h⟩ := h
    rw [if_pos hc] at hk
    have hlt : c < 9 := (List.getElem?_eq_some_iff.mp hfs).1
    obtain ⟨r, hr⟩ : ∃ r, mm_cls[c]? = some r := ⟨_, List.getElem?_eq_getElem (show c < mm_cls.length from hlt)⟩
    rw [hr] at hk
    obtain ⟨ty0, i1, i2, i3, i4⟩ := mm_info hr
    obtain ⟨hin, hC, hlen, -⟩ := mm_cls_at hr
    rw [hfs] at i3 i4 hlen
    obtain ⟨C, T, N⟩ := r
    dsimp only [Option.getD_some] at i1 i2 i3 i4 hin hC hlen
    simp only [mm_k1 hi, mm_k2 hi, Bool.and_eq_true, decide_eq_true_eq] at hk
    refine mm_mk (hs _ _ _ _ _ _ _ h) (fun q => q) rfl (fun v hv => ?_) (fun K H locs cells slots Q mls ι η ι' hF hG hi2 hst' hR k => ?_)
    · rcases mm_dfl_vv fs (List.mem_of_getElem? hfs) v hv with rfl | rfl <;> trivial
    · have hKn := hG.1 _ _ hr
      rw [hlen] at hR k
      refine W.newcK hF.1 hF.2.1 hF.2.2.2.1 (hF.2.2.2.2.1 _ hk.1.1) (hF.2.2.2.2.1 _ hk.1.2) (hF.2.2.2.2.1 _ hk.2) rfl hd hR.1 hR.2 hKn.2.1 rfl fun H1 kC hkC e1 z1 o1 => ?_
      refine k H1 z1 o1 ⟨_, hr, hlen, ?_⟩
      rw [hi2, i4 ι']
      exact (u_born ty0 hF.2.2.2.2.1 hin hKn hkC e1 i1).to i3
  · replace h := mm_its h
    obtain ⟨hq, h⟩ := h
    obtain ⟨q1, q2, q3, q4, q5⟩ := hq
    rw [if_neg hc] at hk
    simp only [mm_k1 hi, mm_k2 hi, Bool.and_eq_true, decide_eq_true_eq] at hk
    obtain ⟨⟨⟨-, hE⟩, hlk⟩, hini⟩ := hk
    generalize c - 100 = E at *
    cases h
    refine ⟨⟨Nat.le_refl _, Nat.le_succ _, Nat.le_add_right _ _⟩, fun K H locs cells slots mc ms mls ι η hF hG hH hL hst hlo hcc hR => ?_⟩
    have hcc1 : cells + 1 ≤ mc := by have := hcc.1; simp only [mm_bmp] at this; omega
    have hcc2 : slots + 6 ≤ ms := by have := hcc.2; simp only [mm_bmp] at this; omega
    have hown : (mm_Ks K).vm.findClass RX6 = some (mm_Km K).cls := by
      have := hF.2.2.2.1
      rw [q4] at this
      exact this
    have htab : ∀ x ∈ (K.2.2.2.2.2.2.2.2.2).exceptionTable.toList, ∀ z, covers x z = false := by
      rw [hF.2.2.2.2.2.1, q3]
      intro x hx
      cases hx
    have hat : ∀ w ∈ vx_atS RX6 (mm_xic E) (mm_xn E) mm_chain, w.before (mm_Ka K) (mm_Ks K) = true := fun w hw => va_Nw.use (mm_oth_wit (mm_oth_in E hE w hw)) (hG.2.2.2.2.1 w (mm_oth_in E hE w hw))
    have hgood : ∀ w ∈ Cond.classLink RX6 n (mm_xn E) :: Cond.initialized (mm_xn E) :: vx_atS RX6 (mm_xic E) (mm_xn E) mm_chain, vx_ot w = true := by
      intro w hw
      unfold vx_ot
      rcases List.mem_cons.mp hw with rfl | hw
      · rfl
      · rcases List.mem_cons.mp hw with rfl | hw
        · rfl
        · rw [mm_oth_wit (mm_oth_in E hE w hw)]; rfl
    have hAq : ∀ a : Nat, a < X.2.2.2.size → ¬ mm_A X a → H[a]? = X.2.2.2[a]? := fun a ha _ => hH.1.2 a ha
    have hU := vx_Zq.kept hG.2.2.2.2.2.2.1 (H1 := (mm_Ks K).heap) (fun a ha hna => hH.2.2.2.2.2.2.2.2.2 a ha)
    have hN := vx_Zq.kept hG.2.2.2.2.2.2.2.1 (H1 := (mm_Ks K).heap) (fun a ha hna => hH.2.2.2.2.2.2.2.2.2 a ha)
    have hS : va_S (mm_A X) (mm_Ks K).heap H locs := ⟨hH.2.2.2.2.2.2.2.1, fun q hq hA => by
      have hlt : q < X.2.2.2.size := Nat.not_le.mp hA
      rw [hH.1.2 q hlt, hH.2.2.2.2.2.2.2.2.2 q hlt], hlo⟩
    have hx : ∀ t : State, (mm_Ks K).vm.Alike t.vm → H.size ≤ t.heap.size → (∀ q : Nat, q < H.size → t.heap[q]? = H[q]?) → mm_Xc X (.inr E) (mm_bmp σ 1 6) ι σ.2.1 (mm_xn E) (mm_Ks K) t := fun t hA z oq =>
      ⟨E, ι, η, rfl, rfl, fun _ _ => rfl, (hH.grow z oq).moved hA rfl⟩
    have hrest : ((st.map (mm_v ι)).map fun v => v.category).sum ≤ 8 := by
      rw [List.map_map]
      have : ((fun v : Value => v.category) ∘ mm_v ι) = fun v => v.category := funext fun v => mm_vcat ι v
      rw [this]
      exact q1
    have hfr : 7 ≤ (mm_KR K).frames := Nat.le_trans q2 hF.2.2.2.2.2.2.2.2.2.1
    have hlo2 : 210 ≤ (mm_KR K).locals := Nat.le_trans (by omega) hF.2.2.2.2.2.2.2.2.2.2.1
    have hlen9 : mm_chain.length = 2 := rfl
    replace q5 := mm_thrs q5
    obtain ⟨i, tx, hi2, d3, hh⟩ := q5
    obtain ⟨sa, hsa⟩ := hG.2.2.2.2.2.1 _ hi2
    have hsz : mls.size = (K.2.2.2.2.2.2.2.2.2).maxLocals := by rw [hL.1, hF.2.2.1]
    rcases hh with ⟨d4, d6, d9⟩ | ⟨d4, d6, d9⟩
    · exact vx_throwS (names := mm_chain) (A := mm_A X) hF.1 hF.2.1 hF.2.2.2.2.2.2.2.2.2.2.2.2 hown (mm_xn_fit E hE) mm_chain_fit (hF.2.2.2.2.1 _ hlk) (hF.2.2.2.2.1 _ hini) hsa hat hgood hU hN hS hsz hd d3 d4 d6 d9 (fun x hx => htab x hx _)
        (by rw [hlen9]; show 2 + 3 < (mm_KR K).frames; omega) (by rw [hlen9]; show _ ≤ (mm_KR K).locals; omega) (by show _ ≤ (mm_KR K).cells; omega) (by show _ ≤ (mm_KR K).slots; omega) hF.2.2.2.2.2.2.1 hx hlo hcc1 hcc2
    · exact vx_throwSW (names := mm_chain) (A := mm_A X) hF.1 hF.2.1 hF.2.2.2.2.2.2.2.2.2.2.2.2 hown (mm_xn_fit E hE) mm_chain_fit (hF.2.2.2.2.1 _ hlk) (hF.2.2.2.2.1 _ hini) hsa hat hgood hU hN hS hsz hd d3 d4 d6 d9 (fun x hx => htab x hx _)
        (by rw [hlen9]; show 2 + 3 < (mm_KR K).frames; omega) (by rw [hlen9]; show _ ≤ (mm_KR K).locals; omega) (by show _ ≤ (mm_KR K).cells; omega) (by show _ ≤ (mm_KR K).slots; omega) hF.2.2.2.2.2.2.1 hx hlo hcc1 hcc2
theorem mm_w_mono {K : mm_K} {H : Heap} {locs : List Loc} {cells slots : Nat} {Q Q' : State → Prop} {g : JFrame} (h : ∀ t, Q t → Q' t) (k : mm_W K H locs cells slots Q g) : mm_W K H locs cells slots Q' g := fun T hT X => by
  obtain ⟨t, a, b⟩ := k T hT X
  exact ⟨t, a, h t b⟩
theorem mm_s_ireturn (hd : decode (mm_by y) pc = .ok (.ireturn, len)) (h : mm_step rec y pc ls st σ (.ireturn) len = some (o, σ')) : mm_Sm X y pc ls st σ o σ' := by
  simp only [mm_step] at h
  replace h := mm_its h
  obtain ⟨hlen, h⟩ := h
  subst hlen
  split at h
  · rename_i x
    replace h := mm_its h
    obtain ⟨hr, h⟩ := h
    cases h
    refine ⟨⟨Nat.le_refl _, Nat.le_refl _, Nat.le_refl _⟩, fun K H locs cells slots mc ms mls ι η hF hG hH hL hst hlo hc hR => ?_⟩
    obtain ⟨ty, hty, hn⟩ : ∃ ty, mm_rt y = some ty ∧ narrow ty (.int x) = .int x := by
      unfold mm_rtn at hr
      split at hr
      · rename_i q _; exact ⟨_, q, rfl⟩
      · rename_i q1 q2
        cases q2
        refine ⟨_, q1, ?_⟩
        simp at hr
        rcases hr with rfl | rfl <;> rfl
      · rename_i q2; cases q2
      · cases hr
    refine W.widen (k := mc) (n := ms) (by omega) (by omega) (vx_ret (W.zret hF.1 hF.2.1 (by rw [hF.2.2.2.2.2.2.2.1, hty]) hn (fun t ht hW => ?_) hlo hd hF.2.2.2.2.2.2.1))
    exact ⟨some (.int x), ι, η, rfl, rfl, fun _ _ => rfl, by rw [ht]; exact hH.moved hW.alike ht, fun w hw => by cases hw; trivial⟩
  · cases h
theorem mm_s_areturn (hd : decode (mm_by y) pc = .ok (.areturn, len)) (h : mm_step rec y pc ls st σ (.areturn) len = some (o, σ')) : mm_Sm X y pc ls st σ o σ' := by
  simp only [mm_step] at h
  replace h := mm_its h
  obtain ⟨hlen, h⟩ := h
  subst hlen
  split at h
  · rename_i x
    replace h := mm_its h
    obtain ⟨hr, h⟩ := h
    cases h
    refine ⟨⟨Nat.le_refl _, Nat.le_refl _, Nat.le_refl _⟩, fun K H locs cells slots mc ms mls ι η hF hG hH hL hst hlo hc hR => ?_⟩
    obtain ⟨C, hty⟩ : ∃ C, mm_rt y = some (.object C) := by
      unfold mm_rtn at hr
      split at hr
      · rename_i q _ q2; cases q2
      · rename_i q2; cases q2
      · rename_i q1 q2; exact ⟨_, q1⟩
      · cases hr
    refine W.widen (k := mc) (n := ms) (by omega) (by omega) (vx_ret (W.aret hF.1 hF.2.1 (by rw [hF.2.2.2.2.2.2.2.1, hty]) (Or.inl ⟨_, rfl⟩) (Or.inr ⟨_, rfl⟩) (fun t ht hW => ?_) hlo hd hF.2.2.2.2.2.2.1))
    exact ⟨some (.ref x), ι, η, rfl, rfl, fun _ _ => rfl, by rw [ht]; exact hH.moved hW.alike ht, fun w hw => by cases hw; exact hst.hd⟩
  · cases h
theorem mm_s_return (hd : decode (mm_by y) pc = .ok (.return_, len)) (h : mm_step rec y pc ls st σ (.return_) len = some (o, σ')) : mm_Sm X y pc ls st σ o σ' := by
  simp only [mm_step] at h
  replace h := mm_its h
  obtain ⟨hlen, h⟩ := h
  obtain ⟨hlen, he, hr⟩ := hlen
  subst hlen
  subst he
  cases h
  refine ⟨⟨Nat.le_refl _, Nat.le_refl _, Nat.le_refl _⟩, fun K H locs cells slots mc ms mls ι η hF hG hH hL hst hlo hc hR => ?_⟩
  refine W.widen (k := mc) (n := ms) (by omega) (by omega) (vx_ret (W.vret hF.1 hF.2.1 (by rw [hF.2.2.2.2.2.2.2.1, hr]) (fun t ht hW => ?_) hlo hd hF.2.2.2.2.2.2.1))
  exact ⟨none, ι, η, rfl, rfl, fun _ _ => rfl, by rw [ht]; exact hH.moved hW.alike ht, fun w hw => by cases hw⟩
end

