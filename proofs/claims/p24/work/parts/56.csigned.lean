/-! LEVEL 2: the class's signed, at -/
noncomputable def sga (N R : Nat) (g : Nat → Nat → Int32) : Nat → Nat → Int32 := (up sgs N 0 (0, apc N R g)).2
def sd (g : Nat → Nat → Int32) (k : Nat) (t : Int32) : Int32 := if 0 < ((t - g 35 (3 * k + 1)) - 2) + 1 then ((t - g 35 (3 * k + 1)) - 2) + 1 else 0
section
variable {σ : mm_S} {tg : Nat → Nat × Nat} {ad : Nat × Nat → Nat} {c : Nat → Nat} {g : Nat → Nat → Int32} {n : Nat}
theorem c_71 (w : WF tg ad c n) (hv : VI g (c 0) (c 1)) (hu : LU g (c 1)) : mm_M 71 [.ref 2] (CW σ tg ad c g) = some (.inl none, CW σ tg ad c (sga (c 1) (c 3) g)) := by
  have l := l_71 (σ := σ) w (c 1) 0 0 (apc (c 1) (c 3) g) mm_un (by omega)
  rw [nI_0] at l
  rw [M_71, e71_0, aM_59, c_59 w hv hu, K0_n, e71_4]
  exact l
theorem l_74 (w : WF tg ad c n) (t : Int32) : ∀ m k, k + m = c 1 → mm_L 74 2 [.ref 2, .int t, .int (nI k)] [] (CW σ tg ad c g) = some (.inl (some (.int (fo (fi (fun k => t < g 35 (3 * k + 2)) m k)))), (CW σ tg ad c g))
  | 0, k, h => by
    have hc := w.1.2.1
    have q := eq_true (nI_le (a := c 1) (b := k) (by omega) (by omega))
    rw [e74_2]
    simp only [cf_1, cz_4, q, e74_7, e74_10, e74_39, K0_v, K0_n, K0_x, K2_v, K2_n, K1_v, K1_n, K1_x, bI_s, bJ_s, bV_s, bS_s, l_10, l_00, bz_01, bz_0, bz_1, em_n, if_true, if_false, ite_not, ite_true, ite_false, not_true_eq_false, not_false_eq_true, or_true, true_or, fi, fo]
  | m + 1, k, h => by
    have hc := w.1.2.1
    have hk : k < c 1 := by omega
    obtain ⟨L2, L3, L4⟩ := w.i hk
    have q := eq_false (nI_ge (a := k) (b := c 1) hk (by omega))
    rw [e74_2]
    simp only [cf_1, cz_4, q, e74_7, e74_10, e74_13, e74_18, e74_22, e74_25, e74_28, e74_31, e74_33, e74_39, cg_4 hk (by omega), ck_2 L2, ci_2_7 L2, nI_1, l_74 w t m (k + 1) (show k + 1 + m = c 1 by omega), K0_v, K0_n, K0_x, K2_v, K2_n, K1_v, K1_n, K1_x, bI_s, bJ_s, bV_s, bS_s, l_10, l_00, bz_01, bz_0, bz_1, em_n, if_true, if_false, ite_not, ite_true, ite_false, not_true_eq_false, not_false_eq_true, or_true, true_or, fi]
    by_cases h2 : t < g 35 (3 * k + 2)
    · rw [if_neg (nle_of_lt h2), if_pos h2]; rfl
    · rw [if_pos (Int32.not_lt.mp h2), if_neg h2]
theorem c_74 (w : WF tg ad c n) (t : Int32) : mm_M 74 [.ref 2, .int t] (CW σ tg ad c g) = some (.inl (some (.int (fo (fi (fun k => t < g 35 (3 * k + 2)) (c 1) 0)))), (CW σ tg ad c g)) := by
  have l := l_74 (σ := σ) (g := g) w t (c 1) 0 (by omega)
  rw [nI_0] at l
  rw [M_74, e74_0]
  exact l
theorem c_78 (w : WF tg ad c n) {k : Nat} (hk : k < c 1) (t : Int32) : mm_M 78 [.ref (ad (2, k)), .int t] (CW σ tg ad c g) = some (.inl (some (.int (sd g k t))), (CW σ tg ad c g)) := by
  obtain ⟨L2, L3, L4⟩ := w.i hk
  simp only [M_78, e78_0, e78_6, ci_2_6 L2, sd, K0_v, K0_n, K0_x, K2_v, K2_n, K1_v, K1_n, K1_x, bI_s, bJ_s, bV_s, bS_s, l_10, l_00, bz_01, bz_0, bz_1, em_n, if_true, if_false, ite_not, ite_true, ite_false, not_true_eq_false, not_false_eq_true, or_true, true_or]
theorem c_76 (w : WF tg ad c n) {k : Nat} (hk : k < c 1) (t : Int32) : mm_M 76 [.ref (ad (2, k)), .int t] (CW σ tg ad c g) = some (.inl (some (.int (cw (g 33 (7 * k + 1)) (g 33 (7 * k + 2)) (sd g k t)))), (CW σ tg ad c g)) := by
  obtain ⟨L2, L3, L4⟩ := w.i hk
  simp only [M_76, e76_0, e76_4, e76_7, e76_11, e76_14, e76_19, e76_22, cr_2_4 L2, ci_4_1 L4, ci_4_2 L4, c_78 w hk, c_79, K0_v, K0_n, K0_x, K2_v, K2_n, K1_v, K1_n, K1_x, bI_s, bJ_s, bV_s, bS_s, l_10, l_00, bz_01, bz_0, bz_1, em_n, if_true, if_false, ite_not, ite_true, ite_false, not_true_eq_false, not_false_eq_true, or_true, true_or]
theorem c_77 (w : WF tg ad c n) {k : Nat} (hk : k < c 1) (t : Int32) : mm_M 77 [.ref (ad (2, k)), .int t] (CW σ tg ad c g) = some (.inl (some (.int (if sd g k t ≤ 0 then g 33 (7 * k + 3) else g 33 (7 * k + 4)))), (CW σ tg ad c g)) := by
  obtain ⟨L2, L3, L4⟩ := w.i hk
  simp only [M_77, e77_0, e77_5, e77_8, e77_12, e77_15, e77_18, e77_22, e77_25, cr_2_4 L2, ci_4_3 L4, ci_4_4 L4, c_78 w hk, K0_v, K0_n, K0_x, K2_v, K2_n, K1_v, K1_n, K1_x, bI_s, bJ_s, bV_s, bS_s, l_10, l_00, bz_01, bz_0, bz_1, em_n, if_true, if_false, ite_not, ite_true, ite_false, not_true_eq_false, not_false_eq_true, or_true, true_or]
  split <;> rfl
theorem c_75 (w : WF tg ad c n) {k : Nat} (hk : k < c 1) (t : Int32) : mm_M 75 [.ref 2, .int (nI k), .int t] (CW σ tg ad c g) = some (.inl (some (.int (cw (if 0 < k then g 33 (7 * (k - 1) + 2) else g 33 (7 * k + 1)) (g 33 (7 * k + 1)) (t - g 35 (3 * k + 0) + 1)))), (CW σ tg ad c g)) := by
  obtain ⟨L2, L3, L4⟩ := w.i hk
  have hc := w.1.2.1
  have c67 := c_67 (σ := σ) (g := g) w (Nat.le_of_lt hk)
  cases k with
  | zero =>
    rw [if_neg (by omega)] at c67
    rw [if_neg (by omega)]
    simp only [M_75, e75_0, e75_4, e75_8, e75_11, e75_14, e75_20, e75_23, e75_27, e75_33, e75_36, e75_39, e75_42, e75_45, e75_49, e75_57, e75_62, e75_66, e75_69, e75_72, e75_78, cf_1, cg_4 hk (by omega), ck_2 L2, cr_2_4 L2, aM_67, c67, ci_4_1 L4, ci_2_5 L2, c_79, K0_v, K0_n, K0_x, K2_v, K2_n, K1_v, K1_n, K1_x, bI_s, bJ_s, bV_s, bS_s, l_10, l_00, bz_01, bz_0, bz_1, em_n, if_true, if_false, ite_not, ite_true, ite_false, not_true_eq_false, not_false_eq_true, or_true, true_or]
  | succ j =>
    have hj : j < c 1 := by omega
    obtain ⟨M2, M3, M4⟩ := w.i hj
    have e : nI (j + 1) - 1 = nI j := pm_s j
    rw [if_pos (by omega)] at c67
    rw [if_pos (by omega), Nat.add_sub_cancel]
    simp only [M_75, e75_0, e75_4, e75_8, e75_11, e75_14, e75_20, e75_23, e75_27, e75_33, e75_36, e75_39, e75_42, e75_45, e75_49, e75_57, e75_62, e75_66, e75_69, e75_72, e75_78, cf_1, cg_4 hk (by omega), cg_4 hj (by omega), ck_2 L2, ck_2 M2, cr_2_4 L2, cr_2_4 M2, aM_67, c67, one_ne, e, ci_4_1 L4, ci_4_2 M4, ci_2_5 L2, c_79, K0_v, K0_n, K0_x, K2_v, K2_n, K1_v, K1_n, K1_x, bI_s, bJ_s, bV_s, bS_s, l_10, l_00, bz_01, bz_0, bz_1, em_n, if_true, if_false, ite_not, ite_true, ite_false, not_true_eq_false, not_false_eq_true, or_true, true_or]
theorem c_82 {τ : mm_S} {a : Nat} {x : Nat → Int32} (h : Hd τ a x) (hl : LO τ) : mm_M 82 [.ref a] τ = some (.inl (some (.int (if (x 1 = x 2 ∧ x 3 = x 4) ∧ x 3 = 0 ∧ x 0 = 1 then la (x 1) else -1))), τ) := by
  by_cases q : x 1 = x 2 ∧ x 3 = x 4
  · by_cases q1 : x 3 = 0
    · by_cases q2 : x 0 = 1
      · rw [if_pos ⟨q, q1, q2⟩]
        simp only [M_82, e82_0, e82_4, e82_7, e82_11, e82_14, e82_18, e82_22, e82_26, e82_27, e82_32, e82_36, e82_39, e82_42, e82_43, hM_11 h, c_11 h, eq_true q, hg_3 h, eq_true q1, hg_0 h, eq_true q2, one_ne, hg_1 h, c_56 hl, K0_v, K0_n, K0_x, K2_v, K2_n, K1_v, K1_n, K1_x, bI_s, bJ_s, bV_s, bS_s, l_10, l_00, bz_01, bz_0, bz_1, em_n, if_true, if_false, ite_not, ite_true, ite_false, not_true_eq_false, not_false_eq_true, or_true, true_or]
      · rw [if_neg (fun z => q2 z.2.2)]
        simp only [M_82, e82_0, e82_4, e82_7, e82_11, e82_14, e82_18, e82_22, e82_26, e82_27, e82_32, e82_36, e82_39, e82_42, e82_43, hM_11 h, c_11 h, eq_true q, hg_3 h, eq_true q1, hg_0 h, eq_false q2, K0_v, K0_n, K0_x, K2_v, K2_n, K1_v, K1_n, K1_x, bI_s, bJ_s, bV_s, bS_s, l_10, l_00, bz_01, bz_0, bz_1, em_n, if_true, if_false, ite_not, ite_true, ite_false, not_true_eq_false, not_false_eq_true, or_true, true_or]
    · rw [if_neg (fun z => q1 z.2.1)]
      simp only [M_82, e82_0, e82_4, e82_7, e82_11, e82_14, e82_18, e82_22, e82_26, e82_27, e82_32, e82_36, e82_39, e82_42, e82_43, hM_11 h, c_11 h, eq_true q, hg_3 h, eq_false q1, K0_v, K0_n, K0_x, K2_v, K2_n, K1_v, K1_n, K1_x, bI_s, bJ_s, bV_s, bS_s, l_10, l_00, bz_01, bz_0, bz_1, em_n, if_true, if_false, ite_not, ite_true, ite_false, not_true_eq_false, not_false_eq_true, or_true, true_or]
  · rw [if_neg (fun z => q z.1)]
    simp only [M_82, e82_0, e82_4, e82_7, e82_11, e82_14, e82_18, e82_22, e82_26, e82_27, e82_32, e82_36, e82_39, e82_42, e82_43, hM_11 h, c_11 h, eq_false q, K0_v, K0_n, K0_x, K2_v, K2_n, K1_v, K1_n, K1_x, bI_s, bJ_s, bV_s, bS_s, l_10, l_00, bz_01, bz_0, bz_1, em_n, if_true, if_false, ite_not, ite_true, ite_false, not_true_eq_false, not_false_eq_true, or_true, true_or]
end
