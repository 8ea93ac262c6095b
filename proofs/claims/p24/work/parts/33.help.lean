/-! LEVEL 2: helpers without a heap -/
theorem l_10 : ((1 : Int32) = 0 ∨ (1 : Int32) = 1) = True := by decide
theorem em_n (p : Prop) : (¬ p ∨ p) = True := eq_true ((Classical.em p).symm)
theorem l_00 : ((0 : Int32) = 0 ∨ (0 : Int32) = 1) = True := by decide
def cl (a : Int32) : Int32 := a - a / 3 * 3
def ab (x : Int32) : Int32 := if 0 ≤ x then x else 0 - x
def mx (a b : Int32) : Int32 := if b < a then a else b
/-- distance -/
def ds (a b : Int32) : Int32 := ab (a / 3 - b / 3) + ab (cl a - cl b)
/-- direction -/
def di (a b : Int32) : Int32 := if b = a then 0 else if a < b then 1 else -1
/-- the place of a locus -/
def pl (a : Int32) : Int32 := if a = 0 then 3 else if a = 1 then 5 else if a = 2 then 0 else 2
def ar (a : Int32) : Int32 := if 0 < a - 1 then a - 1 else 0
def ls1 (a : Int32) : Int32 := if 1 < a then a else 1
section
variable (σ : mm_S) (a b c : Int32)
theorem c_101 : mm_M 101 [.int a, .int b] σ = some (.inl (some (.int (bz (0 ≤ a ∧ a < b)))), σ) := by
  simp only [M_101, e101_0, e101_4, e101_9, e101_13, e101_14]
  by_cases h : a < 0
  · rw [if_pos h]; simp [bz, nle_of_lt h]
  · rw [if_neg h]
    by_cases h2 : b ≤ a
    · rw [if_pos h2]; rw [i32_nlt] at h; simp [bz, h, h2]
    · rw [if_neg h2]; rw [i32_nlt] at h; rw [i32_nle] at h2; simp [bz, h, h2]
theorem c_102 : mm_M 102 [.int a] σ = some (.inl (some (.int (a / 3))), σ) := by
  simp only [M_102, e102_0]
theorem c_103 : mm_M 103 [.int a] σ = some (.inl (some (.int (cl a))), σ) := by
  simp only [M_103, e103_0, cl]
theorem c_104 : mm_M 104 [.int a, .int b] σ = some (.inl (some (.int (ds a b))), σ) := by
  simp only [M_104, e104_0, e104_4, e104_8, e104_16, e104_20, c_102, c_103, K0_v, K0_n, K0_x, K2_v, K2_n, K1_v, K1_n, K1_x, bI_s, bJ_s, bV_s, bS_s, l_10, l_00, bz_01, bz_0, bz_1, em_n, if_true, if_false, ite_not, ite_true, ite_false, ds, ab]
theorem c_105 : mm_M 105 [.int a, .int b] σ = some (.inl (some (.int (di a b))), σ) := by
  simp only [M_105, e105_0, e105_5, e105_7, e105_12, e105_16, e105_17, di]
  by_cases h : b = a
  · simp only [if_pos h]
  · by_cases h2 : b ≤ a
    · simp only [if_neg h, if_pos h2, if_neg (Int32.not_lt.mpr h2)]
    · simp only [if_neg h, if_neg h2, if_pos (Int32.not_le.mp h2)]
theorem c_52 : mm_M 52 [.int a] σ = some (.inl (some (.int (ar a))), σ) := by
  simp only [M_52, e52_0, ar]
/-- the way of the class in numbers -/
def cw (a b s : Int32) : Int32 :=
  let cs := ab (cl b - cl a)
  let rs := ab (b / 3 - a / 3)
  let bc := if cs < s then cs else s
  let br := if rs < s - bc then rs else s - bc
  a + bc * di (cl a) (cl b) + 3 * br * di (a / 3) (b / 3)
theorem c_79 : mm_M 79 [.int a, .int b, .int c] σ = some (.inl (some (.int (cw a b c))), σ) := by
  simp only [M_79, e79_0, e79_4, e79_8, e79_17, e79_21, e79_52, e79_56, e79_59, e79_69, e79_73, e79_76, c_102, c_103, c_105, K0_v, K0_n, K0_x, K2_v, K2_n, K1_v, K1_n, K1_x, bI_s, bJ_s, bV_s, bS_s, l_10, l_00, bz_01, bz_0, bz_1, em_n, if_true, if_false, ite_not, ite_true, ite_false, cw, ab]
  rfl
theorem c_42 (d : Int32) : mm_M 42 [.int a, .int b, .int c, .int d] σ = some (.inl (some (.int (bz (a = 0 ∨ a = 2 ∨ a = 3 ∨ (a = 1 ∧ 0 ≤ c ∧ c < 10) ∨ (a = 4 ∧ c ≠ d) ∨ (a = 5 ∧ 0 ≤ b ∧ b < 26))))), σ) := by
  simp only [M_42, e42_0, e42_40, e42_42, e42_48, e42_49, e42_54, e42_58, e42_59, e42_60, e42_66, e42_67, c_101, K0_v, K0_n, K0_x, K2_v, K2_n, K1_v, K1_n, K1_x, bI_s, bJ_s, bV_s, bS_s, l_10, l_00, bz_01, bz_0, bz_1, em_n, if_true, if_false, ite_not, ite_true, ite_false]
  by_cases h0 : a = 0
  · subst h0; simp [bz]
  · by_cases h1 : a = 1
    · subst h1; simp [bz]
    · by_cases h2 : a = 2
      · subst h2; simp [bz]
      · by_cases h3 : a = 3
        · subst h3; simp [bz]
        · by_cases h4 : a = 4
          · subst h4; by_cases h : c = d <;> simp [bz, h]
          · by_cases h5 : a = 5
            · subst h5; simp [bz]
            · simp [bz, h0, h1, h2, h3, h4, h5]
end
