/-! THE SIMULATION: fields that are written, things that are made -/
theorem mm_info {ci : Nat} {r : vw_C} (h : mm_cls[ci]? = some r) : ∃ ty0 : Nat → FieldType, (∀ k, k < r.2.2 → parseFieldDescriptor (r.2.1 k).2.2.1 = some (ty0 k)) ∧ (∀ a, a < r.2.2 → ∀ b, b < r.2.2 → a ≠ b → (r.2.1 a).2.1 ≠ (r.2.1 b).2.1) ∧
    (∀ j, j < r.2.2 → defaultValue (ty0 j) = vp_V ((mm_dfl[ci]?).getD []) j) ∧ ∀ ι, ((mm_dfl[ci]?).getD []).map (mm_v ι) = (mm_dfl[ci]?).getD [] := by
  match ci, h with
  | 0, h => cases h; exact ⟨tyX0, tyX0_ok, nmX0, by decide +kernel, fun _ => rfl⟩
  | 1, h => cases h; exact ⟨tyX1, tyX1_ok, nmX1, by decide +kernel, fun _ => rfl⟩
  | 2, h => cases h; exact ⟨tyX2, tyX2_ok, nmX2, by decide +kernel, fun _ => rfl⟩
  | 3, h => cases h; exact ⟨tyX3, tyX3_ok, nmX3, by decide +kernel, fun _ => rfl⟩
  | 4, h => cases h; exact ⟨tyX4, tyX4_ok, nmX4, by decide +kernel, fun _ => rfl⟩
  | 5, h => cases h; exact ⟨tyX5, tyX5_ok, nmX5, by decide +kernel, fun _ => rfl⟩
  | 6, h => cases h; exact ⟨tyX6, tyX6_ok, nmX6, by decide +kernel, fun _ => rfl⟩
  | 7, h => cases h; exact ⟨tyX5, tyX5_ok, nmX5, by decide +kernel, fun _ => rfl⟩
  | 8, h => cases h; exact ⟨tyJx4a65c, tyJx4a65c_ok, nmJx4a65c, by decide +kernel, fun _ => rfl⟩
  | n + 9, h => simp [mm_cls] at h
theorem mm_dfl_vv : ∀ fs ∈ mm_dfl, ∀ v ∈ fs, v = .int 0 ∨ v = .null := by decide +kernel
theorem mm_sbool {d : Nat} {v : Value} {t : FieldType} (hv : mm_ty d t = true) (y : Nat) (hp : mm_pf y d v = true) (ι : Nat → Nat) : narrow t (mm_v ι v) = mm_v ι v ∧ fits t (mm_v ι v) = true := by
  unfold mm_pf at hp
  rw [Bool.and_eq_true] at hp
  replace hp := hp.1
  unfold mm_ty at hv
  split at hv
  · rename_i q
    rw [q] at hp
    split at hp <;> simp_all [mm_v]
    exact ⟨rfl, rfl⟩
  · rename_i q
    rw [q] at hp
    split at hp <;> simp_all [mm_v] <;> exact ⟨rfl, rfl⟩
  · rename_i q
    rw [q] at hp
    split at hp <;> simp_all [mm_v] <;> exact ⟨rfl, rfl⟩
  · rename_i q
    rw [q] at hp
    split at hp <;> simp_all [mm_v]
    rcases hp with rfl | rfl <;> exact ⟨rfl, rfl⟩
  · cases hv
section
variable {X : mm_X} {rec : mm_C} {y pc : Nat} {ls st : List Value} {σ σ' : mm_S} {o : Option Value ⊕ Nat} {len : Nat}
theorem mm_setfs {a ci k : Nat} {v : Value} {σ1 : mm_S} (h : mm_setf σ a ci k v = some σ1) : ∃ fs, σ.1 a = some (.inl (ci, fs)) ∧ k < fs.length ∧ σ1 = mm_put σ a (.inl (ci, fs.set k v)) := by
  unfold mm_setf at h
  split at h
  · rename_i c fs q
    replace h := mm_its h
    obtain ⟨hc, h⟩ := h
    obtain ⟨e, hl⟩ := hc
    subst e
    cases h
    exact ⟨fs, q, hl, rfl⟩
  · cases h
theorem mm_s_putfield {n : Nat} (hs : mm_Sim X rec) (hd : decode (mm_by y) pc = .ok (.putfield n, len)) (h : mm_step rec y pc ls st σ (.putfield n) len = some (o, σ')) : mm_Sm X y pc ls st σ o σ' := by
  simp only [mm_step] at h
  replace h := mm_its h
  obtain ⟨hlen, h⟩ := h
  subst hlen
  replace h := mm_bds h
  obtain ⟨d, hu, h⟩ := h
  replace h := mm_pvs h
  obtain ⟨v, a, t, rfl, h⟩ := h
  replace h := mm_its h
  obtain ⟨hp, h⟩ := h
  replace h := mm_bds h
  obtain ⟨σ1, h1, h⟩ := h
  replace h1 := mm_setfs h1
  obtain ⟨fs, hfs, hl, rfl⟩ := h1
  refine mm_wr (hs _ _ _ _ _ _ _ h) (fun q => q.tl.tl) hfs rfl rfl rfl rfl (fun hst hov => ?_) (fun K H locs cells slots Q mls ι η hF hG hat hst k => ?_)
  · intro w hw
    rcases List.mem_or_eq_of_mem_set hw with hw | hw
    · exact hov w hw
    · rw [hw]; exact hst.hd
  · obtain ⟨hi, hk⟩ := mm_lu_of hu _ mm_fdt_ok
    obtain ⟨r, hr, hlen, cell, q1, q2, q3, q4⟩ := hat
    unfold mm_fok at hk
    simp only [mm_k1 hi, mm_k2 hi, hr] at hk
    obtain ⟨ty0, i1, i2, i3, i4⟩ := mm_info hr
    obtain ⟨C, T, N⟩ := r
    obtain ⟨hin, hC, -, -⟩ := mm_cls_at hr
    dsimp only at i1 i2 i3 hin hC hlen q4
    simp only [Bool.and_eq_true, Bool.or_eq_true, decide_eq_true_eq] at hk
    obtain ⟨⟨⟨⟨⟨hN, hw⟩, hty⟩, -⟩, hfn⟩, hfo⟩ := hk
    generalize hkk : d / 10 % 100 = kk at *
    have hpd := i1 kk hN
    rw [hpd] at hty
    obtain ⟨hnar, hfit⟩ := mm_sbool hty y hp ι
    have hK : va_K X.1 mm_cls [] (mm_Ks K) := ⟨hG.1, fun k q h => by simp at h⟩
    have hap := va_apart (own := mm_cn (mm_own y)) hF.2.2.2.2.1 hin ty0 i1 i2 hK hr
    obtain ⟨hS, hfc, kC, hkC, hkind⟩ := hG.1 _ _ hr
    obtain ⟨cf, kf, fi, f, hif, hsl⟩ := hS kk hN
    have hlay := hF.2.2.2.2.1 _ (hin _ (u_in_lay hN))
    have hst' := (u_facts hfc hkC (u_lays hF.2.2.2.2.1 hin hN) hif).1
    have hres : ∀ H1 : Heap, H1[ι a]? = some (cell.setSlot (X.1.2 (d / 1000) kk) (mm_v ι v)) → mm_at X ι η (mm_Ks K) a (.inl (d / 1000, fs.set kk v)) H1 := fun H1 e1 => by
      refine ⟨_, hr, by rw [List.length_set]; exact hlen, ?_⟩
      rw [List.map_set]
      exact t_OB.to (V := updV (vp_V (fs.map (mm_v ι))) kk (mm_v ι v)) ⟨_, e1, q2, q3, t_set q4 hap hN (mm_v ι v)⟩ (fun j _ => vp_updV_set (by rw [List.length_map]; exact hl) (mm_v ι v) j)
    unfold u_lay at hlay
    have hslot : cell.slots[X.1.2 (d / 1000) kk]? = some (vp_V (fs.map (mm_v ι)) kk) := q4 kk hN
    by_cases hfin : (T kk).2.2.2 = true
    · rw [if_pos hfin] at hlay
      have hpf : mm_kd y = 2 ∧ mm_own y = d / 1000 := by
        unfold mm_pf at hp
        rw [Bool.and_eq_true, hkk, ← hfn, hfin] at hp
        simpa using hp.2
      rw [hfin] at hfo
      have hdecl : (T kk).1 = mm_cn (d / 1000) := by simpa using hfo
      have hlink : (Cond.fieldLink (mm_cn (mm_own y)) n (T kk).1 (T kk).2.1 (T kk).2.2.1).before (mm_Ka K) (mm_Ks K) = true := by
        rcases hw with hw | hw
        · exact hF.2.2.2.2.1 _ hw
        · exact absurd hpf.2 hw.2
      have hcf : (mm_Km K).cls = cf := by
        obtain ⟨_, _, c', _, _, _, -, -, hf', -, -, -, hown2, -⟩ := Cond.laysFinal_spec hlay
        have e1 : c' = cf := by have := hif.symm.trans hf'; simp at this; exact this.1.symm
        rw [hdecl, ← hpf.2] at hown2
        rw [← e1]; exact Option.some.inj (hF.2.2.2.1.symm.trans hown2)
      have h6 := u_fits hfc hkC hkind (Or.inr hlay) hif hpd hnar hfit
      have hnm : (K.2.2.2.2.2.2.2.2.1).name = "<init>" := by
        rw [hF.2.2.2.2.2.2.2.2.1]
        exact mm_kd2 y hF.2.2.2.2.2.2.2.2.2.2.2.1 hpf.1
      refine W.putFinK hF.1 hF.2.1 hF.2.2.2.1 hlink hif hst' hcf hnm (by rw [q2]; exact h6) q1 q3 (by rw [hsl]; exact k2_hasslot hslot) rfl rfl hd fun H' e1 e2 e3 => ?_
      rw [hsl] at e1 ⊢
      exact k H' _ e2 e3 (hres H' e1)
    · have hfin : (T kk).2.2.2 = false := by simpa using hfin
      rw [if_neg (by rw [hfin]; decide)] at hlay
      have h6 := u_store hfc hkC hkind hlay hif hpd hnar hfit
      rcases hw with hw | ⟨hw, -⟩
      · refine W.putK hF.1 hF.2.1 (f := f) ⟨hF.2.2.2.1, hF.2.2.2.2.1 _ hw, ⟨_, _, _, hif⟩, hst'⟩ (by rw [q2]; exact h6) q1 q3 (by rw [hsl]; exact k2_hasslot hslot) rfl rfl hd fun H' e1 e2 e3 => ?_
        rw [hsl] at e1 ⊢
        exact k H' _ e2 e3 (hres H' e1)
      · refine va_WputK hF.1 hF.2.1 (f := f) hF.2.2.2.1 (va_Nw.use rfl (hG.2.2.2.2.1 _ (List.mem_append_left _ hw))) hif hst' (by rw [q2]; exact h6) q1 q3 (by rw [hsl]; exact k2_hasslot hslot) rfl rfl hd fun H' e1 e2 e3 => ?_
        rw [hsl] at e1 ⊢
        exact k H' _ e2 e3 (hres H' e1)
/-- a step that makes a thing that is no list -/
theorem mm_mk {pc' n : Nat} {st' : List Value} {o1 : mm_O} (hr : mm_Sm X y pc' ls (.ref σ.2.1 :: st') (mm_new σ o1 n) o σ') (hv : mm_ST σ.2.1 st → mm_ST σ.2.1 st') (hl1 : mm_il o1 = false) (hov : mm_ov (σ.2.1 + 1) o1)
    (hw : ∀ (K : mm_K) (H : Heap) (locs : List Loc) (cells slots : Nat) (Q : State → Prop) (mls : Array Slot) (ι η ι' : Nat → Nat), mm_Fx K y → mm_G X (mm_Ks K) → ι' σ.2.1 = H.size → st'.map (mm_v ι') = st'.map (mm_v ι) → (cells + 1 ≤ (mm_KR K).cells ∧ slots + n ≤ (mm_KR K).slots) →
      (∀ H1 : Heap, H1.size = H.size + 1 → (∀ q : Nat, q < H.size → H1[q]? = H[q]?) → mm_at X ι' η (mm_Ks K) σ.2.1 o1 H1 → mm_W K H1 locs (cells + 1) (slots + n) Q (F0 (mm_Km K) pc' mls (.ref H.size :: st'.map (mm_v ι)))) → mm_W K H locs cells slots Q (F0 (mm_Km K) pc mls (st.map (mm_v ι)))) : mm_Sm X y pc ls st σ o σ' := by
  have hnx : (mm_new σ o1 n).2.1 = σ.2.1 + 1 := rfl
  have hcc : (mm_new σ o1 n).2.2.1 = σ.2.2.1 + 1 := rfl
  have hsl : (mm_new σ o1 n).2.2.2 = σ.2.2.2 + n := rfl
  obtain ⟨⟨m1, m2, m3⟩, hr⟩ := hr
  rw [hnx] at m1
  rw [hcc] at m2
  rw [hsl] at m3
  refine ⟨⟨by omega, by omega, by omega⟩, fun K H locs cells slots mc ms mls ι η hF hG hH hL hst hlo hc hR => ?_⟩
  have hi1 : ∀ i, i < σ.2.1 → (fun j => if j = σ.2.1 then H.size else ι j) i = ι i := fun i hi => if_neg (by omega)
  have hi2 : (fun j => if j = σ.2.1 then H.size else ι j) σ.2.1 = H.size := if_pos rfl
  have hnew := fun H1 => mm_H.new (U := mm_Ks K) (H1 := H1) (o := o1) (n := n) hH hl1 hov
  generalize (fun j => if j = σ.2.1 then H.size else ι j) = ι' at hi1 hi2 hnew
  have hst' := mm_st_ext hi1 (hv hst)
  refine hw K H locs cells slots _ mls ι η ι' hF hG hi2 hst' ⟨by omega, by omega⟩ fun H1 z oq hat => ?_
  have hk := hr K H1 locs (cells + 1) (slots + n) mc ms mls ι' η hF hG (hnew H1 z oq hat) (hL.ext hi1 (by rw [hnx]; omega)) (((hv hst).mono (by rw [hnx]; omega)).cn (show σ.2.1 < _ by rw [hnx]; omega)) hlo (by rw [hcc, hsl]; omega) hR
  rw [← hst', ← hi2]
  refine fun T hT XX => ?_
  obtain ⟨tt, a1, a2⟩ := hk T hT XX
  refine ⟨tt, a1, ?_⟩
  obtain ⟨oc, b1, b2, b3⟩ := a2
  refine ⟨oc, b1, b2, ?_⟩
  rcases b3 with ⟨⟨v, ι1, η1, c1, c2, c3, c4, c5⟩, b4⟩ | ⟨q, b4, E, ce, L, ⟨ee, ι1, η1, c1, c2, c3, c4⟩, b5⟩
  · exact Or.inl ⟨⟨v, ι1, η1, c1, c2, fun i hi => (c3 i (by rw [hnx]; omega)).trans (hi1 i hi), c4, c5⟩, b4⟩
  · exact Or.inr ⟨q, b4, E, ce, L, ⟨ee, ι1, η1, c1, c2, fun i hi => (c3 i (by rw [hnx]; omega)).trans (hi1 i hi), c4⟩, b5⟩
theorem mm_s_newarray {at_ : ClassFile.ArrayType} (hs : mm_Sim X rec) (hd : decode (mm_by y) pc = .ok (.newarray at_, len)) (h : mm_step rec y pc ls st σ (.newarray at_) len = some (o, σ')) : mm_Sm X y pc ls st σ o σ' := by
  simp only [mm_step] at h
  replace h := mm_its h
  obtain ⟨hlen, h⟩ := h
  subst hlen
  replace h := mm_p1s h
  obtain ⟨n, t, rfl, h⟩ := h
  replace h := mm_itn h
  obtain ⟨hn, h⟩ := h
  have hn0 : ¬ n < 0 := fun q => hn (Or.inl q)
  have hnb : n.toNatClampNeg ≤ 100000 := Nat.not_lt.mp fun q => hn (Or.inr q)
  cases at_ with
  | int =>
    refine mm_mk (hs _ _ _ _ _ _ _ h) (fun q => q.tl) rfl trivial (fun K H locs cells slots Q mls ι η ι' hF hG hi2 hst' hR k => ?_)
    refine va_newaK (atype := .int) hF.1 hF.2.1 (hF.2.2.2.2.1 _ mm_arr_ok.1) rfl hd rfl hn0 rfl (Nat.le_trans (Nat.mul_le_mul hnb (show componentBytes (newarray.typeOf .int) ≤ 8 by decide)) (by decide)) hR.1 hR.2 rfl fun H1 cA e1 e2 e3 e4 e5 => ?_
    have hcA : cA = X.2.1.1 := Option.some.inj (e5.symm.trans hG.2.1.2)
    exact k H1 e2 e3 ⟨by rw [hi2, e1, hcA]; rfl, hnb⟩
  | boolean =>
    refine mm_mk (hs _ _ _ _ _ _ _ h) (fun q => q.tl) rfl trivial (fun K H locs cells slots Q mls ι η ι' hF hG hi2 hst' hR k => ?_)
    refine va_newaK (atype := .boolean) hF.1 hF.2.1 (hF.2.2.2.2.1 _ mm_arr_ok.2.1) rfl hd rfl hn0 rfl (Nat.le_trans (Nat.mul_le_mul hnb (show componentBytes (newarray.typeOf .boolean) ≤ 8 by decide)) (by decide)) hR.1 hR.2 rfl fun H1 cA e1 e2 e3 e4 e5 => ?_
    have hcA : cA = X.2.1.2.1 := Option.some.inj (e5.symm.trans hG.2.2.1.2)
    exact k H1 e2 e3 ⟨by rw [hi2, e1, hcA]; rfl, hnb⟩
  | _ => cases h
end

