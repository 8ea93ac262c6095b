/-! LEVEL 2: hands, anywhere -/
def Hd (σ : mm_S) (a : Nat) (x : Nat → Int32) : Prop := σ.1 a = some (.inl (1, [.int (x 0), .int (x 1), .int (x 2), .int (x 3), .int (x 4), .int (x 5), .int (x 6)]))
def cu (x y : Nat → Int32) : Int32 := 0 + (if x 0 = y 0 then 0 else 1) + (if x 1 = y 1 then 0 else 1) + (if x 2 = y 2 then 0 else 1) + (if x 3 = y 3 then 0 else 1) + (if x 4 = y 4 then 0 else 1) + (if x 5 = y 5 then 0 else 1)
/-- all six alike -/
def al (x y : Nat → Int32) : Prop := x 0 = y 0 ∧ x 1 = y 1 ∧ x 2 = y 2 ∧ x 3 = y 3 ∧ x 4 = y 4 ∧ x 5 = y 5

/-- the number by a school -/
def wr (s : Int32) (x : Nat → Int32) : Int32 :=
  if s = 0 then 81 * x 0 + 9 * x 1 + x 2
  else if s = 1 then 48 * x 0 + 12 * x 3 + 3 * x 4 + x 5
  else (if x 0 < 4 then 9 else 0) + 3 * (di (x 1 / 3) (x 2 / 3) + 1) + (di (cl (x 1)) (cl (x 2)) + 1)
def tp (x y : Nat → Int32) : Int32 := if x 0 = y 0 ∧ x 2 = y 1 ∧ x 4 = y 3 then 0 else ls1 (ds (x 2) (y 1))
def ti (x : Nat → Int32) : Int32 := if x 1 = x 2 ∧ x 3 = x 4 then 3 else 2 + ls1 (ds (x 1) (x 2)) + 2
section
variable {σ : mm_S} {a b : Nat} {x y : Nat → Int32} {As : List Value}
theorem hg_0 (h : Hd σ a x) : mm_geti σ a 1 0 = some (x 0) := by
  unfold mm_geti mm_fld
  rw [h]
  rfl
theorem hg_1 (h : Hd σ a x) : mm_geti σ a 1 1 = some (x 1) := by
  unfold mm_geti mm_fld
  rw [h]
  rfl
theorem hg_2 (h : Hd σ a x) : mm_geti σ a 1 2 = some (x 2) := by
  unfold mm_geti mm_fld
  rw [h]
  rfl
theorem hg_3 (h : Hd σ a x) : mm_geti σ a 1 3 = some (x 3) := by
  unfold mm_geti mm_fld
  rw [h]
  rfl
theorem hg_4 (h : Hd σ a x) : mm_geti σ a 1 4 = some (x 4) := by
  unfold mm_geti mm_fld
  rw [h]
  rfl
theorem hg_5 (h : Hd σ a x) : mm_geti σ a 1 5 = some (x 5) := by
  unfold mm_geti mm_fld
  rw [h]
  rfl
theorem hg_6 (h : Hd σ a x) : mm_geti σ a 1 6 = some (x 6) := by
  unfold mm_geti mm_fld
  rw [h]
  rfl
theorem hM_7 (h : Hd σ a x) : mm_Mo 7 a As σ = mm_M 7 (.ref a :: As) σ := if_pos (by unfold mm_rc mm_ci; rw [h]; rfl)
theorem hM_8 (h : Hd σ a x) : mm_Mo 8 a As σ = mm_M 8 (.ref a :: As) σ := if_pos (by unfold mm_rc mm_ci; rw [h]; rfl)
theorem hM_9 (h : Hd σ a x) : mm_Mo 9 a As σ = mm_M 9 (.ref a :: As) σ := if_pos (by unfold mm_rc mm_ci; rw [h]; rfl)
theorem hM_10 (h : Hd σ a x) : mm_Mo 10 a As σ = mm_M 10 (.ref a :: As) σ := if_pos (by unfold mm_rc mm_ci; rw [h]; rfl)
theorem hM_11 (h : Hd σ a x) : mm_Mo 11 a As σ = mm_M 11 (.ref a :: As) σ := if_pos (by unfold mm_rc mm_ci; rw [h]; rfl)
theorem c_8 (h : Hd σ a x) (h2 : Hd σ b y) : mm_M 8 [.ref a, .ref b] σ = some (.inl (some (.int (cu x y))), σ) := by
  simp only [M_8, e8_0, e8_7, e8_11, e8_14, e8_18, e8_19, e8_26, e8_30, e8_33, e8_37, e8_38, e8_45, e8_49, e8_52, e8_56, e8_57, e8_64, e8_68, e8_71, e8_75, e8_76, e8_83, e8_87, e8_90, e8_94, e8_95, e8_102, e8_106, e8_109, e8_113, e8_114, hg_0 h, hg_1 h, hg_2 h, hg_3 h, hg_4 h, hg_5 h, hg_6 h, hg_0 h2, hg_1 h2, hg_2 h2, hg_3 h2, hg_4 h2, hg_5 h2, hg_6 h2, K0_v, K0_n, K0_x, K2_v, K2_n, K1_v, K1_n, K1_x, bI_s, bJ_s, bV_s, bS_s, l_10, l_00, bz_01, bz_0, bz_1, em_n, if_true, if_false, ite_not, ite_true, ite_false]
  unfold cu
  repeat' split
  all_goals rfl
theorem c_9 (h : Hd σ a x) (h2 : Hd σ b y) : mm_M 9 [.ref a, .ref b] σ = some (.inl (some (.int (bz (cu x y = 0 ∧ x 6 = y 6)))), σ) := by
  simp only [M_9, e9_0, e9_5, e9_8, e9_12, e9_16, e9_19, e9_23, e9_24, hM_8 h, c_8 h h2, hg_6 h, hg_6 h2, K0_v, K0_n, K0_x, K2_v, K2_n, K1_v, K1_n, K1_x, bI_s, bJ_s, bV_s, bS_s, l_10, l_00, bz_01, bz_0, bz_1, em_n, if_true, if_false, ite_not, ite_true, ite_false]
  by_cases q : cu x y = 0
  · by_cases q2 : x 6 = y 6 <;> simp [q, q2, bz]
  · simp [q, bz]
theorem c_10 (h : Hd σ a x) : mm_M 10 [.ref a] σ = some (.inl (some (.int (bz (x 1 ≠ x 2)))), σ) := by
  simp only [M_10, e10_0, e10_4, e10_8, e10_11, e10_15, e10_16, hg_0 h, hg_1 h, hg_2 h, hg_3 h, hg_4 h, hg_5 h, hg_6 h, K0_v, K0_n, K0_x, K2_v, K2_n, K1_v, K1_n, K1_x, bI_s, bJ_s, bV_s, bS_s, l_10, l_00, bz_01, bz_0, bz_1, em_n, if_true, if_false, ite_not, ite_true, ite_false]
  by_cases q : x 1 = x 2 <;> simp [q, bz]
theorem c_11 (h : Hd σ a x) : mm_M 11 [.ref a] σ = some (.inl (some (.int (bz (x 1 = x 2 ∧ x 3 = x 4)))), σ) := by
  simp only [M_11, e11_0, e11_4, e11_7, e11_11, e11_15, e11_18, e11_22, e11_23, hM_10 h, c_10 h, hg_0 h, hg_1 h, hg_2 h, hg_3 h, hg_4 h, hg_5 h, hg_6 h, K0_v, K0_n, K0_x, K2_v, K2_n, K1_v, K1_n, K1_x, bI_s, bJ_s, bV_s, bS_s, l_10, l_00, bz_01, bz_0, bz_1, em_n, if_true, if_false, ite_not, ite_true, ite_false]
  by_cases q : x 1 = x 2
  · by_cases q2 : x 3 = x 4 <;> simp [q, q2, bz]
  · simp [q, bz]
theorem c_29 (h : Hd σ a x) (s : Int32) : mm_M 29 [.int s, .ref a] σ = some (.inl (some (.int (wr s x))), σ) := by
  simp only [M_29, e29_0, e29_28, e29_34, e29_41, e29_47, e29_49, e29_55, e29_62, e29_69, e29_75, e29_77, e29_81, e29_85, e29_90, e29_91, e29_96, e29_99, e29_103, e29_106, e29_109, e29_116, e29_119, e29_123, e29_126, e29_129, hg_0 h, hg_1 h, hg_2 h, hg_3 h, hg_4 h, hg_5 h, hg_6 h, c_102, c_103, c_105, K0_v, K0_n, K0_x, K2_v, K2_n, K1_v, K1_n, K1_x, bI_s, bJ_s, bV_s, bS_s, l_10, l_00, bz_01, bz_0, bz_1, em_n, if_true, if_false, ite_not, ite_true, ite_false]
  unfold wr
  by_cases q : s = 0
  · simp [q]
  · by_cases q1 : s = 1
    · simp [q1]
    · by_cases q2 : x 0 < 4
      · simp [q, q1, q2, nle_of_lt q2]
      · simp [q, q1, q2, Int32.not_lt.mp q2]
theorem c_72 (h : Hd σ a x) (h2 : Hd σ b y) : mm_M 72 [.ref a, .ref b] σ = some (.inl (some (.int (tp x y))), σ) := by
  simp only [M_72, e72_0, e72_4, e72_8, e72_11, e72_15, e72_19, e72_22, e72_26, e72_30, e72_33, e72_35, e72_40, e72_44, e72_47, hg_0 h, hg_1 h, hg_2 h, hg_3 h, hg_4 h, hg_5 h, hg_6 h, hg_0 h2, hg_1 h2, hg_2 h2, hg_3 h2, hg_4 h2, hg_5 h2, hg_6 h2, c_104, K0_v, K0_n, K0_x, K2_v, K2_n, K1_v, K1_n, K1_x, bI_s, bJ_s, bV_s, bS_s, l_10, l_00, bz_01, bz_0, bz_1, em_n, if_true, if_false, ite_not, ite_true, ite_false]
  unfold tp ls1
  by_cases q : x 0 = y 0 <;> by_cases q1 : x 2 = y 1 <;> by_cases q2 : x 4 = y 3 <;> simp [q, q1, q2]
theorem c_73 (h : Hd σ a x) : mm_M 73 [.ref a] σ = some (.inl (some (.int (ti x))), σ) := by
  simp only [M_73, e73_0, e73_4, e73_7, e73_11, e73_15, e73_18, e73_20, e73_26, e73_30, e73_33, hg_0 h, hg_1 h, hg_2 h, hg_3 h, hg_4 h, hg_5 h, hg_6 h, hM_10 h, c_10 h, c_104, K0_v, K0_n, K0_x, K2_v, K2_n, K1_v, K1_n, K1_x, bI_s, bJ_s, bV_s, bS_s, l_10, l_00, bz_01, bz_0, bz_1, em_n, if_true, if_false, ite_not, ite_true, ite_false]
  unfold ti ls1
  by_cases q : x 1 = x 2 <;> by_cases q1 : x 3 = x 4 <;> simp [q, q1]
theorem c_83 (h : Hd σ a x) : mm_M 83 [.ref a] σ = some (.inl (some (.int (if (x 1 = x 2 ∧ x 3 = x 4) ∧ x 1 = 4 ∧ 0 ≤ 8 * x 3 + x 0 ∧ 8 * x 3 + x 0 < 26 then 8 * x 3 + x 0 else -1))), σ) := by
  simp only [M_83, e83_0, e83_6, e83_11, e83_17, e83_20, e83_24, e83_28, e83_34, e83_37, e83_41, e83_42, hg_0 h, hg_1 h, hg_2 h, hg_3 h, hg_4 h, hg_5 h, hg_6 h, hM_11 h, c_11 h, c_101, K0_v, K0_n, K0_x, K2_v, K2_n, K1_v, K1_n, K1_x, bI_s, bJ_s, bV_s, bS_s, l_10, l_00, bz_01, bz_0, bz_1, em_n, if_true, if_false, ite_not, ite_true, ite_false]
  by_cases q : (x 1 = x 2 ∧ x 3 = x 4)
  · by_cases q1 : x 1 = 4
    · by_cases q2 : 0 ≤ 8 * x 3 + x 0 ∧ 8 * x 3 + x 0 < 26
      · simp only [eq_true q, eq_true q1, eq_true q2, and_self, K0_v, K0_n, K0_x, K2_v, K2_n, K1_v, K1_n, K1_x, bI_s, bJ_s, bV_s, bS_s, l_10, l_00, bz_01, bz_0, bz_1, em_n, if_true, if_false, ite_not, ite_true, ite_false, not_true_eq_false]
      · simp only [eq_true q, eq_true q1, eq_false q2, and_false, K0_v, K0_n, K0_x, K2_v, K2_n, K1_v, K1_n, K1_x, bI_s, bJ_s, bV_s, bS_s, l_10, l_00, bz_01, bz_0, bz_1, em_n, if_true, if_false, ite_not, ite_true, ite_false, not_true_eq_false, not_false_eq_true]
    · simp only [eq_true q, eq_false q1, false_and, and_false, K0_v, K0_n, K0_x, K2_v, K2_n, K1_v, K1_n, K1_x, bI_s, bJ_s, bV_s, bS_s, l_10, l_00, bz_01, bz_0, bz_1, em_n, if_true, if_false, ite_not, ite_true, ite_false, not_true_eq_false, not_false_eq_true]
  · simp only [eq_false q, false_and, K0_v, K0_n, K0_x, K2_v, K2_n, K1_v, K1_n, K1_x, bI_s, bJ_s, bV_s, bS_s, l_10, l_00, bz_01, bz_0, bz_1, em_n, if_true, if_false, ite_not, ite_true, ite_false, not_true_eq_false, not_false_eq_true]
end
