/-! LEVEL 2: the class's rules go -/
section
variable {σ : mm_S} {tg : Nat → Nat × Nat} {ad : Nat × Nat → Nat} {c : Nat → Nat} {g : Nat → Nat → Int32} {n : Nat}
theorem hn_uf {r r' i i' j : Nat} {x : Int32} (h : r' = r → i' ≠ i) (hj : j < 7) : hn (uf g r (7 * i + j) x r') i' = hn (g r') i' := by
  by_cases e : r' = r
  · subst e
    have := h rfl
    unfold hn
    rw [uf_s]
    unfold upd
    rw [if_neg (by omega), if_neg (by omega), if_neg (by omega), if_neg (by omega), if_neg (by omega), if_neg (by omega), if_neg (by omega)]
  · rw [uf_n e]
theorem CO_uf33 {i j k' i' : Nat} {x : Int32} (hj : j < 7) (h : ¬ (k' = 4 ∧ i' = i)) : CO ad c (uf g 33 (7 * i + j) x) k' i' = CO ad c g k' i' := by
  match k' with
  | 4 =>
    show Sum.inl (1, _) = Sum.inl (1, _)
    rw [hn_uf (fun _ z => h ⟨rfl, z⟩) hj]
  | 0 => rfl
  | 1 => rfl
  | 2 => rfl
  | 3 => rfl
  | 5 => rfl
  | 6 => rfl
  | 7 => rfl
  | 8 => rfl
  | 9 => rfl
  | k + 10 => rfl
theorem cw_4 (w : WF tg ad c n) {i j : Nat} {x : Int32} (hi : i < c 1) (hj : j < 7) : mm_setf (CW σ tg ad c g) (ad (4, i)) 1 j (.int x) = some (CW σ tg ad c (uf g 33 (7 * i + j) x)) := by
  obtain ⟨L2, L3, L4⟩ := w.i hi
  unfold mm_setf
  rw [CW_tg L4 (by decide)]
  show (if 1 = 1 ∧ j < (hn (g 33) i).length then some (mm_put (CW σ tg ad c g) (ad (4, i)) (Sum.inl (1, (hn (g 33) i).set j (.int x)))) else none) = _
  rw [if_pos ⟨rfl, hj⟩]
  refine congrArg some (CW_put w.2.IN L4 (by decide) ?_ ⟨rfl, rfl, rfl, rfl, rfl⟩ (fun k' i' h => CO_uf33 hj h) (uf_n (by decide)) (uf_n (by decide)) (uf_n (by decide)))
  show Sum.inl (1, _) = Sum.inl (1, _)
  have e : j = 0 ∨ j = 1 ∨ j = 2 ∨ j = 3 ∨ j = 4 ∨ j = 5 ∨ j = 6 := by omega
  unfold hn
  rw [uf_s]
  rcases e with e | e | e | e | e | e | e <;> subst e <;> simp [upd]
theorem ir {k : Nat} (w : WF tg ad c n) (hk : k < c 1) : 0 ≤ nI k ∧ nI k < nI (c 1) := ⟨nI_pos' (by have := w.1.2.1; omega), nI_lt hk (by have := w.1.2.1; omega)⟩
theorem ir_no {k : Nat} (w : WF tg ad c n) (hk : c 1 ≤ k) (hk2 : k < 100) : ¬ (0 ≤ nI k ∧ nI k < nI (c 1)) := fun z => nI_nlt hk (by omega) z.2
theorem ir_m : ¬ (0 ≤ pm 0 ∧ pm 0 < nI (c 1)) := fun z => absurd z.1 (by decide)
theorem c_67 (w : WF tg ad c n) {k : Nat} (hk : k ≤ c 1) : mm_M 67 [.ref 2, .int (nI k)] (CW σ tg ad c g) = some (.inl (some (.int (if 0 < k then 1 else 0))), (CW σ tg ad c g)) := by
  have e : nI k - 1 = pm k := rfl
  cases k with
  | zero =>
    simp only [M_67, e67_0, e67_7, e67_10, e67_13, cf_1, cz_4, e, c_101, eq_false (ir_m (c := c)), bz, K0_v, K0_n, K0_x, K2_v, K2_n, K1_v, K1_n, K1_x, bI_s, bJ_s, bV_s, bS_s, l_10, l_00, bz_01, bz_0, bz_1, em_n, if_true, if_false, ite_not, ite_true, ite_false, not_true_eq_false, not_false_eq_true, or_true, true_or]
    rfl
  | succ k =>
    rw [pm_s] at e
    simp only [M_67, e67_0, e67_7, e67_10, e67_13, cf_1, cz_4, e, c_101, eq_true (ir w (show k < c 1 by omega)), bz, K0_v, K0_n, K0_x, K2_v, K2_n, K1_v, K1_n, K1_x, bI_s, bJ_s, bV_s, bS_s, l_10, l_00, bz_01, bz_0, bz_1, em_n, if_true, if_false, ite_not, ite_true, ite_false, not_true_eq_false, not_false_eq_true, or_true, true_or]
    rw [if_pos (Nat.succ_pos k)]
theorem c_62 (w : WF tg ad c n) {k : Nat} (hk : k < c 1) : mm_M 62 [.ref 2, .int (nI k)] (CW σ tg ad c g) = some (.inl (some (.int (if g 33 (7 * k + 5) = 0 then 1 else 0))), (CW σ tg ad c g)) := by
  obtain ⟨L2, L3, L4⟩ := w.i hk
  have hc := w.1.2.1
  simp only [M_62, e62_0, e62_5, e62_8, e62_11, e62_14, e62_18, e62_22, e62_25, e62_28, e62_31, e62_34, e62_38, e62_39, cf_1, cz_4, c_101, eq_true (ir w hk), cg_4 hk (by omega), ck_2 L2, cr_2_4 L2, ci_4_5 L4, K0_v, K0_n, K0_x, K2_v, K2_n, K1_v, K1_n, K1_x, bI_s, bJ_s, bV_s, bS_s, l_10, l_00, bz_01, bz_0, bz_1, em_n, if_true, if_false, ite_not, ite_true, ite_false, not_true_eq_false, not_false_eq_true, or_true, true_or]
  split <;> rfl
theorem c_62o {p : Int32} (h : ¬ (0 ≤ p ∧ p < nI (c 1))) : mm_M 62 [.ref 2, .int p] (CW σ tg ad c g) = some (.inl (some (.int 1)), (CW σ tg ad c g)) := by
  simp only [M_62, e62_0, e62_5, e62_8, e62_11, e62_14, e62_18, e62_22, e62_25, e62_28, e62_31, e62_34, e62_38, e62_39, cf_1, cz_4, c_101, eq_false h, K0_v, K0_n, K0_x, K2_v, K2_n, K1_v, K1_n, K1_x, bI_s, bJ_s, bV_s, bS_s, l_10, l_00, bz_01, bz_0, bz_1, em_n, if_true, if_false, ite_not, ite_true, ite_false, not_true_eq_false, not_false_eq_true, or_true, true_or]
theorem c_61 (w : WF tg ad c n) {k : Nat} (hk : k < c 1) : mm_M 61 [.ref 2, .int (nI k), .ref (ad (2, k))] (CW σ tg ad c g) = some (.inl none, CW σ tg ad c (chg g (c 1) 0 k)) := by
  obtain ⟨L2, L3, L4⟩ := w.i hk
  have hc := w.1.2.1
  have e : nI k - 1 = pm k := rfl
  have A : mm_M 62 [.ref 2, .int (pm k)] (CW σ tg ad c g) = some (.inl (some (.int (if k = 0 ∨ g 33 (7 * (k - 1) + 5) = 0 then 1 else 0))), (CW σ tg ad c g)) := by
    cases k with
    | zero => rw [c_62o ir_m]; rfl
    | succ k =>
      rw [pm_s, c_62 w (by omega)]
      simp
  have B : mm_M 62 [.ref 2, .int (nI (k + 1))] (CW σ tg ad c g) = some (.inl (some (.int (if c 1 ≤ k + 1 ∨ g 33 (7 * (k + 1) + 5) = 0 then 1 else 0))), (CW σ tg ad c g)) := by
    by_cases h : c 1 ≤ k + 1
    · rw [c_62o (ir_no w h (by omega)), if_pos (Or.inl h)]
    · rw [c_62 w (by omega)]
      simp [h]
  unfold chg
  rw [if_pos rfl]
  by_cases h1 : g 33 (7 * k + 5) = 1
  · by_cases h2 : k = 0 ∨ g 33 (7 * (k - 1) + 5) = 0
    · rw [if_pos h2] at A
      by_cases h3 : c 1 ≤ k + 1 ∨ g 33 (7 * (k + 1) + 5) = 0
      · rw [if_pos h3] at B
        rw [if_pos ⟨h1, h2, h3⟩]
        simp only [M_61, e61_0, e61_4, e61_7, e61_11, e61_18, e61_21, e61_28, e61_31, e61_35, e61_39, cr_2_4 L2, ci_4_5 L4, eq_true h1, e, nI_1, aM_62, A, B, one_ne, cw_4 w hk (show 5 < 7 by decide), K0_v, K0_n, K0_x, K2_v, K2_n, K1_v, K1_n, K1_x, bI_s, bJ_s, bV_s, bS_s, l_10, l_00, bz_01, bz_0, bz_1, em_n, if_true, if_false, ite_not, ite_true, ite_false, not_true_eq_false, not_false_eq_true, or_true, true_or]
      · rw [if_neg h3] at B
        rw [if_neg (fun z => h3 z.2.2)]
        simp only [M_61, e61_0, e61_4, e61_7, e61_11, e61_18, e61_21, e61_28, e61_31, e61_35, e61_39, cr_2_4 L2, ci_4_5 L4, eq_true h1, e, nI_1, aM_62, A, B, one_ne, K0_v, K0_n, K0_x, K2_v, K2_n, K1_v, K1_n, K1_x, bI_s, bJ_s, bV_s, bS_s, l_10, l_00, bz_01, bz_0, bz_1, em_n, if_true, if_false, ite_not, ite_true, ite_false, not_true_eq_false, not_false_eq_true, or_true, true_or]
    · rw [if_neg h2] at A
      rw [if_neg (fun z => h2 z.2.1)]
      simp only [M_61, e61_0, e61_4, e61_7, e61_11, e61_18, e61_21, e61_28, e61_31, e61_35, e61_39, cr_2_4 L2, ci_4_5 L4, eq_true h1, e, nI_1, aM_62, A, K0_v, K0_n, K0_x, K2_v, K2_n, K1_v, K1_n, K1_x, bI_s, bJ_s, bV_s, bS_s, l_10, l_00, bz_01, bz_0, bz_1, em_n, if_true, if_false, ite_not, ite_true, ite_false, not_true_eq_false, not_false_eq_true, or_true, true_or]
  · rw [if_neg (fun z => h1 z.1)]
    simp only [M_61, e61_0, e61_4, e61_7, e61_11, e61_18, e61_21, e61_28, e61_31, e61_35, e61_39, cr_2_4 L2, ci_4_5 L4, eq_false h1, K0_v, K0_n, K0_x, K2_v, K2_n, K1_v, K1_n, K1_x, bI_s, bJ_s, bV_s, bS_s, l_10, l_00, bz_01, bz_0, bz_1, em_n, if_true, if_false, ite_not, ite_true, ite_false, not_true_eq_false, not_false_eq_true, or_true, true_or]
theorem c_63 (w : WF tg ad c n) {k : Nat} (hk : k < c 1) : mm_M 63 [.ref 2, .int (nI k), .ref (ad (2, k))] (CW σ tg ad c g) = some (.inl none, CW σ tg ad c (chg g (c 1) 1 k)) := by
  obtain ⟨L2, L3, L4⟩ := w.i hk
  have hc := w.1.2.1
  have e : nI k - 1 = pm k := rfl
  unfold chg
  rw [if_neg (show ¬ (1 : Int32) = 0 by decide), if_pos rfl]
  by_cases hp : g 13 k = 1 ∨ g 13 k = 2 ∨ g 13 k = 3
  · have hp' := (pp_iff _).mpr hp
    by_cases h1 : k + 1 < c 1
    · obtain ⟨M2, M3, M4⟩ := w.i h1
      have q : (nI (k + 1) < nI (c 1)) = True := eq_true (nI_lt h1 (by omega))
      rw [if_pos ⟨hp', by omega⟩, if_pos h1]
      simp only [M_63, e63_0, e63_4, e63_7, e63_8, e63_15, e63_18, e63_21, e63_25, e63_26, e63_31, e63_37, e63_40, e63_48, e63_51, e63_54, e63_57, e63_61, e63_65, e63_70, e63_73, e63_76, e63_79, e63_82, iM_13 L2, c_13 L2, eq_true hp, nI_1, cf_1, cz_4, q, c_101, eq_true (ir w h1).1, and_self, cg_4 h1 (by omega), ck_2 M2, cr_2_4 L2, cr_2_4 M2, ci_4_0 M4, cw_4 w hk (show 0 < 7 by decide), K0_v, K0_n, K0_x, K2_v, K2_n, K1_v, K1_n, K1_x, bI_s, bJ_s, bV_s, bS_s, l_10, l_00, bz_01, bz_0, bz_1, em_n, if_true, if_false, ite_not, ite_true, ite_false, not_true_eq_false, not_false_eq_true, or_true, true_or]
    · have q : (nI (k + 1) < nI (c 1)) = False := eq_false (nI_nlt (by omega) (by omega))
      cases k with
      | zero =>
        rw [if_neg (fun z => h1 (by omega))]
        simp only [M_63, e63_0, e63_4, e63_7, e63_8, e63_15, e63_18, e63_21, e63_25, e63_26, e63_31, e63_37, e63_40, e63_48, e63_51, e63_54, e63_57, e63_61, e63_65, e63_70, e63_73, e63_76, e63_79, e63_82, iM_13 L2, c_13 L2, eq_true hp, nI_1, cf_1, cz_4, q, one_ne, e, c_101, eq_false (ir_m (c := c)), K0_v, K0_n, K0_x, K2_v, K2_n, K1_v, K1_n, K1_x, bI_s, bJ_s, bV_s, bS_s, l_10, l_00, bz_01, bz_0, bz_1, em_n, if_true, if_false, ite_not, ite_true, ite_false, not_true_eq_false, not_false_eq_true, or_true, true_or]
      | succ j =>
        have hj : j < c 1 := by omega
        obtain ⟨M2, M3, M4⟩ := w.i hj
        rw [pm_s] at e
        rw [if_pos ⟨hp', by omega⟩, if_neg h1]
        simp only [M_63, e63_0, e63_4, e63_7, e63_8, e63_15, e63_18, e63_21, e63_25, e63_26, e63_31, e63_37, e63_40, e63_48, e63_51, e63_54, e63_57, e63_61, e63_65, e63_70, e63_73, e63_76, e63_79, e63_82, iM_13 L2, c_13 L2, eq_true hp, nI_1, cf_1, cz_4, q, one_ne, e, c_101, eq_true (ir w hj), cg_4 hj (by omega), ck_2 M2, cr_2_4 L2, cr_2_4 M2, ci_4_0 M4, cw_4 w hk (show 0 < 7 by decide), Nat.add_sub_cancel, K0_v, K0_n, K0_x, K2_v, K2_n, K1_v, K1_n, K1_x, bI_s, bJ_s, bV_s, bS_s, l_10, l_00, bz_01, bz_0, bz_1, em_n, if_true, if_false, ite_not, ite_true, ite_false, not_true_eq_false, not_false_eq_true, or_true, true_or]
  · rw [if_neg (fun z => hp ((pp_iff _).mp z.1))]
    simp only [M_63, e63_0, e63_4, e63_7, e63_8, e63_15, e63_18, e63_21, e63_25, e63_26, e63_31, e63_37, e63_40, e63_48, e63_51, e63_54, e63_57, e63_61, e63_65, e63_70, e63_73, e63_76, e63_79, e63_82, iM_13 L2, c_13 L2, eq_false hp, K0_v, K0_n, K0_x, K2_v, K2_n, K1_v, K1_n, K1_x, bI_s, bJ_s, bV_s, bS_s, l_10, l_00, bz_01, bz_0, bz_1, em_n, if_true, if_false, ite_not, ite_true, ite_false, not_true_eq_false, not_false_eq_true, or_true, true_or]
theorem c_64 (w : WF tg ad c n) {k : Nat} (hk : k < c 1) : mm_M 64 [.ref 2, .int (nI k), .ref (ad (2, k))] (CW σ tg ad c g) = some (.inl none, CW σ tg ad c (chg g (c 1) 2 k)) := by
  obtain ⟨L2, L3, L4⟩ := w.i hk
  have hc := w.1.2.1
  have c67 := c_67 (σ := σ) (g := g) w (Nat.le_of_lt hk)
  unfold chg
  rw [if_neg (show ¬ (2 : Int32) = 0 by decide), if_neg (show ¬ (2 : Int32) = 1 by decide), if_pos rfl]
  cases k with
  | zero =>
    rw [if_neg (by omega)] at c67
    rw [if_neg (fun z => absurd z.1 (by omega))]
    simp only [M_64, e64_0, e64_5, e64_8, e64_9, e64_13, e64_19, e64_22, e64_25, e64_28, e64_34, e64_37, e64_45, e64_49, e64_53, aM_67, c67, K0_v, K0_n, K0_x, K2_v, K2_n, K1_v, K1_n, K1_x, bI_s, bJ_s, bV_s, bS_s, l_10, l_00, bz_01, bz_0, bz_1, em_n, if_true, if_false, ite_not, ite_true, ite_false, not_true_eq_false, not_false_eq_true, or_true, true_or]
  | succ j =>
    have e : nI (j + 1) - 1 = nI j := pm_s j
    have hj : j < c 1 := by omega
    obtain ⟨M2, M3, M4⟩ := w.i hj
    rw [if_pos (by omega)] at c67
    simp only [M_64, e64_0, e64_5, e64_8, e64_9, e64_13, e64_19, e64_22, e64_25, e64_28, e64_34, e64_37, e64_45, e64_49, e64_53, aM_67, c67, one_ne, cf_1, e, cg_4 hj (by omega), ck_2 M2, cr_2_4 L2, cr_2_4 M2, ci_4_4 M4, ci_4_3 L4, cw_4 w hk (show 3 < 7 by decide), Nat.add_sub_cancel, K0_v, K0_n, K0_x, K2_v, K2_n, K1_v, K1_n, K1_x, bI_s, bJ_s, bV_s, bS_s, l_10, l_00, bz_01, bz_0, bz_1, em_n, if_true, if_false, ite_not, ite_true, ite_false, not_true_eq_false, not_false_eq_true, or_true, true_or]
    by_cases h : ab (g 33 (7 * j + 4) - g 33 (7 * (j + 1) + 3)) = 2
    · have h' := h
      unfold ab at h'
      rw [if_pos h', if_pos ⟨by omega, h⟩]
    · have h' := h
      unfold ab at h'
      rw [if_neg h', if_neg (fun z => h z.2)]
theorem c_65 (w : WF tg ad c n) {k : Nat} (hk : k < c 1) : mm_M 65 [.ref 2, .int (nI k), .ref (ad (2, k))] (CW σ tg ad c g) = some (.inl none, CW σ tg ad c (chg g (c 1) 3 k)) := by
  obtain ⟨L2, L3, L4⟩ := w.i hk
  have hc := w.1.2.1
  have c67 := c_67 (σ := σ) (g := g) w (Nat.le_of_lt hk)
  unfold chg
  rw [if_neg (show ¬ (3 : Int32) = 0 by decide), if_neg (show ¬ (3 : Int32) = 1 by decide), if_neg (show ¬ (3 : Int32) = 2 by decide), if_pos rfl]
  by_cases h0 : g 13 k = 0
  · cases k with
    | zero =>
      rw [if_neg (by omega)] at c67
      rw [if_neg (fun z => absurd z.1 (by omega))]
      simp only [M_65, e65_0, e65_4, e65_7, e65_12, e65_15, e65_19, e65_22, e65_25, e65_26, e65_30, e65_36, e65_39, e65_42, e65_45, e65_50, e65_53, e65_59, e65_62, e65_70, e65_76, e65_79, e65_83, e65_88, e65_92, e65_97, ci_2_0 L2, eq_true h0, aM_67, c67, K0_v, K0_n, K0_x, K2_v, K2_n, K1_v, K1_n, K1_x, bI_s, bJ_s, bV_s, bS_s, l_10, l_00, bz_01, bz_0, bz_1, em_n, if_true, if_false, ite_not, ite_true, ite_false, not_true_eq_false, not_false_eq_true, or_true, true_or]
    | succ j =>
      have e : nI (j + 1) - 1 = nI j := pm_s j
      have hj : j < c 1 := by omega
      obtain ⟨M2, M3, M4⟩ := w.i hj
      have c10 := c_10 (Hd_4 (σ := σ) (c := c) (g := g) L4)
      rw [if_pos (by omega)] at c67
      by_cases h1 : g 33 (7 * (j + 1) + 1) ≠ g 33 (7 * (j + 1) + 2)
      · have h1' := eq_true (show h7 (g 33) (j + 1) 1 ≠ h7 (g 33) (j + 1) 2 from h1)
        have W2 := fun x : Int32 => cw_4 (σ := σ) (g := uf g 33 (7 * (j + 1) + 1) x) (x := g 33 (7 * (j + 1) + 1)) w hk (show 2 < 7 by decide)
        simp only [M_65, e65_0, e65_4, e65_7, e65_12, e65_15, e65_19, e65_22, e65_25, e65_26, e65_30, e65_36, e65_39, e65_42, e65_45, e65_50, e65_53, e65_59, e65_62, e65_70, e65_76, e65_79, e65_83, e65_88, e65_92, e65_97, ci_2_0 L2, eq_true h0, aM_67, c67, one_ne, cf_1, e, cg_4 hj (by omega), ck_2 M2, cr_2_4 L2, cr_2_4 M2, hM_10 (Hd_4 L4), c10, h1', ci_4_1 L4, ci_4_2 L4, ci_4_2 M4, c_104, cw_4 w hk (show 1 < 7 by decide), W2, Nat.add_sub_cancel, K0_v, K0_n, K0_x, K2_v, K2_n, K1_v, K1_n, K1_x, bI_s, bJ_s, bV_s, bS_s, l_10, l_00, bz_01, bz_0, bz_1, em_n, if_true, if_false, ite_not, ite_true, ite_false, not_true_eq_false, not_false_eq_true, or_true, true_or]
        by_cases h : ds (g 33 (7 * j + 2)) (g 33 (7 * (j + 1) + 2)) < ds (g 33 (7 * j + 2)) (g 33 (7 * (j + 1) + 1))
        · rw [if_neg (nle_of_lt h), if_pos ⟨by omega, trivial, h1, h⟩]
        · rw [if_pos (Int32.not_lt.mp h), if_neg (fun z => h z.2.2.2)]
      · have h1' := eq_false (show ¬ (h7 (g 33) (j + 1) 1 ≠ h7 (g 33) (j + 1) 2) from h1)
        rw [if_neg (fun z => h1 z.2.2.1)]
        simp only [M_65, e65_0, e65_4, e65_7, e65_12, e65_15, e65_19, e65_22, e65_25, e65_26, e65_30, e65_36, e65_39, e65_42, e65_45, e65_50, e65_53, e65_59, e65_62, e65_70, e65_76, e65_79, e65_83, e65_88, e65_92, e65_97, ci_2_0 L2, eq_true h0, aM_67, c67, one_ne, cr_2_4 L2, hM_10 (Hd_4 L4), c10, h1', K0_v, K0_n, K0_x, K2_v, K2_n, K1_v, K1_n, K1_x, bI_s, bJ_s, bV_s, bS_s, l_10, l_00, bz_01, bz_0, bz_1, em_n, if_true, if_false, ite_not, ite_true, ite_false, not_true_eq_false, not_false_eq_true, or_true, true_or]
  · rw [if_neg (fun z => h0 z.2.1)]
    simp only [M_65, e65_0, e65_4, e65_7, e65_12, e65_15, e65_19, e65_22, e65_25, e65_26, e65_30, e65_36, e65_39, e65_42, e65_45, e65_50, e65_53, e65_59, e65_62, e65_70, e65_76, e65_79, e65_83, e65_88, e65_92, e65_97, ci_2_0 L2, eq_false h0, K0_v, K0_n, K0_x, K2_v, K2_n, K1_v, K1_n, K1_x, bI_s, bJ_s, bV_s, bS_s, l_10, l_00, bz_01, bz_0, bz_1, em_n, if_true, if_false, ite_not, ite_true, ite_false, not_true_eq_false, not_false_eq_true, or_true, true_or]
theorem uf_same {f : Nat → Nat → Int32} {r i : Nat} {x : Int32} (h : f r i = x) : uf f r i x = f := by
  funext r' k
  unfold uf
  split
  · rename_i e
    subst e
    unfold upd
    split
    · rename_i e2; rw [e2, h]
    · rfl
  · rfl
theorem c_66 (w : WF tg ad c n) {k : Nat} (hk : k < c 1) (hf : g 13 k = 5 → g 33 (7 * k + 1) = 4) : mm_M 66 [.ref 2, .int (nI k), .ref (ad (2, k))] (CW σ tg ad c g) = some (.inl none, CW σ tg ad c (chg g (c 1) 4 k)) := by
  obtain ⟨L2, L3, L4⟩ := w.i hk
  have hc := w.1.2.1
  have c67 := c_67 (σ := σ) (g := g) w (Nat.le_of_lt hk)
  unfold chg
  rw [if_neg (show ¬ (4 : Int32) = 0 by decide), if_neg (show ¬ (4 : Int32) = 1 by decide), if_neg (show ¬ (4 : Int32) = 2 by decide), if_neg (show ¬ (4 : Int32) = 3 by decide), if_pos rfl]
  by_cases h0 : g 13 k = 5
  · cases k with
    | zero =>
      rw [if_neg (by omega)] at c67
      rw [if_neg (fun z => absurd z.1 (by omega))]
      simp only [M_66, e66_0, e66_4, e66_8, e66_13, e66_16, e66_17, e66_21, e66_27, e66_30, e66_35, e66_39, e66_43, e66_47, e66_50, e66_54, e66_58, e66_62, e66_66, ci_2_0 L2, eq_true h0, aM_67, c67, K0_v, K0_n, K0_x, K2_v, K2_n, K1_v, K1_n, K1_x, bI_s, bJ_s, bV_s, bS_s, l_10, l_00, bz_01, bz_0, bz_1, em_n, if_true, if_false, ite_not, ite_true, ite_false, not_true_eq_false, not_false_eq_true, or_true, true_or]
    | succ j =>
      have e : nI (j + 1) - 1 = nI j := pm_s j
      have hj : j < c 1 := by omega
      obtain ⟨M2, M3, M4⟩ := w.i hj
      rw [if_pos (by omega)] at c67
      have W1 := cw_4 (σ := σ) (g := g) (x := 4) w hk (show 1 < 7 by decide)
      rw [uf_same (hf h0)] at W1
      by_cases h1 : g 13 j = 5
      · by_cases h2 : g 14 (j + 1) = g 14 j
        · simp only [M_66, e66_0, e66_4, e66_8, e66_13, e66_16, e66_17, e66_21, e66_27, e66_30, e66_35, e66_39, e66_43, e66_47, e66_50, e66_54, e66_58, e66_62, e66_66, ci_2_0 L2, ci_2_0 M2, ci_2_1 L2, ci_2_1 M2, eq_true h0, aM_67, c67, one_ne, cf_1, e, cg_4 hj (by omega), ck_2 M2, eq_true h1, eq_true h2, eq_true h2.symm, cr_2_4 L2, W1, cw_4 w hk (show 2 < 7 by decide), Nat.add_sub_cancel, K0_v, K0_n, K0_x, K2_v, K2_n, K1_v, K1_n, K1_x, bI_s, bJ_s, bV_s, bS_s, l_10, l_00, bz_01, bz_0, bz_1, em_n, if_true, if_false, ite_not, ite_true, ite_false, not_true_eq_false, not_false_eq_true, or_true, true_or]
          rw [if_pos ⟨by omega, trivial, trivial, trivial⟩]
        · simp only [M_66, e66_0, e66_4, e66_8, e66_13, e66_16, e66_17, e66_21, e66_27, e66_30, e66_35, e66_39, e66_43, e66_47, e66_50, e66_54, e66_58, e66_62, e66_66, ci_2_0 L2, ci_2_0 M2, ci_2_1 L2, ci_2_1 M2, eq_true h0, aM_67, c67, one_ne, cf_1, e, cg_4 hj (by omega), ck_2 M2, eq_true h1, eq_false h2, eq_false (fun z => h2 (Eq.symm z)), Nat.add_sub_cancel, K0_v, K0_n, K0_x, K2_v, K2_n, K1_v, K1_n, K1_x, bI_s, bJ_s, bV_s, bS_s, l_10, l_00, bz_01, bz_0, bz_1, em_n, if_true, if_false, ite_not, ite_true, ite_false, not_true_eq_false, not_false_eq_true, or_true, true_or]
          rw [if_neg (fun z => z.2.2.2)]
      · simp only [M_66, e66_0, e66_4, e66_8, e66_13, e66_16, e66_17, e66_21, e66_27, e66_30, e66_35, e66_39, e66_43, e66_47, e66_50, e66_54, e66_58, e66_62, e66_66, ci_2_0 L2, ci_2_0 M2, eq_true h0, aM_67, c67, one_ne, cf_1, e, cg_4 hj (by omega), ck_2 M2, eq_false h1, Nat.add_sub_cancel, K0_v, K0_n, K0_x, K2_v, K2_n, K1_v, K1_n, K1_x, bI_s, bJ_s, bV_s, bS_s, l_10, l_00, bz_01, bz_0, bz_1, em_n, if_true, if_false, ite_not, ite_true, ite_false, not_true_eq_false, not_false_eq_true, or_true, true_or]
        rw [if_neg (fun z => z.2.2.1)]
  · rw [if_neg (fun z => h0 z.2.1)]
    simp only [M_66, e66_0, e66_4, e66_8, e66_13, e66_16, e66_17, e66_21, e66_27, e66_30, e66_35, e66_39, e66_43, e66_47, e66_50, e66_54, e66_58, e66_62, e66_66, ci_2_0 L2, eq_false h0, K0_v, K0_n, K0_x, K2_v, K2_n, K1_v, K1_n, K1_x, bI_s, bJ_s, bV_s, bS_s, l_10, l_00, bz_01, bz_0, bz_1, em_n, if_true, if_false, ite_not, ite_true, ite_false, not_true_eq_false, not_false_eq_true, or_true, true_or]
end
