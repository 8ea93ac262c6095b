/-! LEVEL 2: the reference's ticks -/
def le1 (a : Int32) : Int32 := if a < 1 then 1 else a
def tmk (x : Nat → Int32) : Int32 := if x 1 = x 2 ∧ x 3 = x 4 then 3 else 4 + le1 (ds (x 1) (x 2))
def tmp (x y : Nat → Int32) : Int32 := if x 0 = y 0 ∧ x 2 = y 1 ∧ x 4 = y 3 then 0 else le1 (ds (x 2) (y 1))
def tmq (r : Nat → Int32) : Nat → Int32
  | 0 => 0
  | k + 1 => tmp (h7 r k) (h7 r (k + 1))
section
variable {σ : mm_S} {c : Nat → Nat} {f : Nat → Nat → Int32}
theorem c_143 {k : Nat} (hk : k < 14) : mm_M 143 [.ref 11, .int (nI k)] (MW σ (vN c) f) = some (.inl (some (.int (bz (¬ (h7 (f 33) k 1 = h7 (f 33) k 2 ∧ h7 (f 33) k 3 = h7 (f 33) k 4))))), (MW σ (vN c) f)) := by
  show _ = some (Sum.inl (some (Value.int (bz (¬ (f 33 (7 * k + 1) = f 33 (7 * k + 2) ∧ f 33 (7 * k + 3) = f 33 (7 * k + 4)))))), (MW σ (vN c) f))
  simp only [M_143, e143_0, e143_6, e143_12, e143_15, e143_21, e143_27, e143_30, e143_34, e143_35, Mo_136, c_136b hk, c_136c hk, c_136d hk, c_136e hk, K0_v, K0_n, K0_x, K2_v, K2_n, K1_v, K1_n, K1_x, bI_s, bJ_s, bV_s, bS_s, l_10, l_00, bz_01, bz_0, bz_1, em_n, if_true, if_false, ite_not, ite_true, ite_false, not_true_eq_false, not_false_eq_true, or_true, true_or]
  by_cases h1 : f 33 (7 * k + 1) = f 33 (7 * k + 2)
  · by_cases h2 : f 33 (7 * k + 3) = f 33 (7 * k + 4) <;> simp [h1, h2, bz]
  · simp [h1, bz]
theorem c_145 {k : Nat} (hk : k < 14) : mm_M 145 [.ref 11, .int (nI k)] (MW σ (vN c) f) = some (.inl (some (.int (tmk (h7 (f 33) k)))), (MW σ (vN c) f)) := by
  unfold tmk
  by_cases h : h7 (f 33) k 1 = h7 (f 33) k 2 ∧ h7 (f 33) k 3 = h7 (f 33) k 4
  · rw [if_pos h]
    simp only [M_145, e145_0, e145_5, e145_8, e145_15, e145_21, e145_24, e145_27, e145_31, e145_32, Mo_143, c_143 hk, eq_true h, K0_v, K0_n, K0_x, K2_v, K2_n, K1_v, K1_n, K1_x, bI_s, bJ_s, bV_s, bS_s, l_10, l_00, bz_01, bz_0, bz_1, em_n, if_true, if_false, ite_not, ite_true, ite_false, not_true_eq_false, not_false_eq_true, or_true, true_or]
  · rw [if_neg h]
    simp only [M_145, e145_0, e145_5, e145_8, e145_15, e145_21, e145_24, e145_27, e145_31, e145_32, Mo_143, c_143 hk, eq_false h, Mo_136, c_136b hk, c_136c hk, c_110, c_144, K0_v, K0_n, K0_x, K2_v, K2_n, K1_v, K1_n, K1_x, bI_s, bJ_s, bV_s, bS_s, l_10, l_00, bz_01, bz_0, bz_1, em_n, if_true, if_false, ite_not, ite_true, ite_false, not_true_eq_false, not_false_eq_true, or_true, true_or]
    rfl
theorem c_146 {k : Nat} (hk : k < 14) : mm_M 146 [.ref 11, .int (nI k)] (MW σ (vN c) f) = some (.inl (some (.int (tmq (f 33) k))), (MW σ (vN c) f)) := by
  cases k with
  | zero =>
    simp only [M_146, e146_0, e146_4, e146_6, e146_14, e146_20, e146_23, e146_31, e146_37, e146_40, e146_48, e146_54, e146_57, e146_61, e146_62, e146_67, e146_71, e146_79, e146_85, e146_88, e146_91, te_0, K0_v, K0_n, K0_x, K2_v, K2_n, K1_v, K1_n, K1_x, bI_s, bJ_s, bV_s, bS_s, l_10, l_00, bz_01, bz_0, bz_1, em_n, if_true, if_false, ite_not, ite_true, ite_false, not_true_eq_false, not_false_eq_true, or_true, true_or]
    rfl
  | succ j =>
    have z : (nI (j + 1) = 0) = False := eq_false (nI_ne0 (by omega) (by omega))
    have e : nI (j + 1) - 1 = nI j := pm_s j
    have hj : j < 14 := by omega
    show _ = some (Sum.inl (some (Value.int (if f 33 (7 * j + 0) = f 33 (7 * (j + 1) + 0) ∧ f 33 (7 * j + 2) = f 33 (7 * (j + 1) + 1) ∧ f 33 (7 * j + 4) = f 33 (7 * (j + 1) + 3) then 0 else le1 (ds (f 33 (7 * j + 2)) (f 33 (7 * (j + 1) + 1)))))), (MW σ (vN c) f))
    simp only [M_146, e146_0, e146_4, e146_6, e146_14, e146_20, e146_23, e146_31, e146_37, e146_40, e146_48, e146_54, e146_57, e146_61, e146_62, e146_67, e146_71, e146_79, e146_85, e146_88, e146_91, z, e, Mo_136, c_136a hj, c_136a hk, c_136c hj, c_136b hk, c_136e hj, c_136d hk, c_110, c_144, K0_v, K0_n, K0_x, K2_v, K2_n, K1_v, K1_n, K1_x, bI_s, bJ_s, bV_s, bS_s, l_10, l_00, bz_01, bz_0, bz_1, em_n, if_true, if_false, ite_not, ite_true, ite_false, not_true_eq_false, not_false_eq_true, or_true, true_or]
    unfold le1
    by_cases h1 : f 33 (7 * j + 0) = f 33 (7 * (j + 1) + 0)
    · by_cases h2 : f 33 (7 * j + 2) = f 33 (7 * (j + 1) + 1)
      · by_cases h3 : f 33 (7 * j + 4) = f 33 (7 * (j + 1) + 3)
        · simp only [eq_true h1, eq_true h2, eq_true h3, one_ne, and_self, K0_v, K0_n, K0_x, K2_v, K2_n, K1_v, K1_n, K1_x, bI_s, bJ_s, bV_s, bS_s, l_10, l_00, bz_01, bz_0, bz_1, em_n, if_true, if_false, ite_not, ite_true, ite_false, not_true_eq_false, not_false_eq_true, or_true, true_or]
        · simp only [eq_true h1, eq_true h2, eq_false h3, and_false, K0_v, K0_n, K0_x, K2_v, K2_n, K1_v, K1_n, K1_x, bI_s, bJ_s, bV_s, bS_s, l_10, l_00, bz_01, bz_0, bz_1, em_n, if_true, if_false, ite_not, ite_true, ite_false, not_true_eq_false, not_false_eq_true, or_true, true_or]
      · simp only [eq_true h1, eq_false h2, false_and, and_false, K0_v, K0_n, K0_x, K2_v, K2_n, K1_v, K1_n, K1_x, bI_s, bJ_s, bV_s, bS_s, l_10, l_00, bz_01, bz_0, bz_1, em_n, if_true, if_false, ite_not, ite_true, ite_false, not_true_eq_false, not_false_eq_true, or_true, true_or]
    · simp only [eq_false h1, false_and, K0_v, K0_n, K0_x, K2_v, K2_n, K1_v, K1_n, K1_x, bI_s, bJ_s, bV_s, bS_s, l_10, l_00, bz_01, bz_0, bz_1, em_n, if_true, if_false, ite_not, ite_true, ite_false, not_true_eq_false, not_false_eq_true, or_true, true_or]
end
