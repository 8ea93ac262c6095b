/-! LEVEL 2: the class's item -/
def Hs (c : Nat → Nat) (k a b d : Int32) : Prop := (k = 0 → 0 ≤ a ∧ a < nI (c 0)) ∧ (k = 1 ∨ k = 2 ∨ k = 3 → 0 ≤ a ∧ a < 4) ∧ (k = 4 → (0 ≤ a ∧ a < nI (c 0)) ∧ (0 ≤ b ∧ b < 4) ∧ (0 ≤ d ∧ d < 4))
def Pb (g : Nat → Nat → Int32) (N : Nat) (r : Int32) : Prop := rb g 0 N = r ∨ rb g 1 N = r ∨ rb g 2 N = r ∨ rb g 3 N = r
def Ls (g : Nat → Nat → Int32) (N : Nat) (k a b d : Int32) : Prop := (k = 1 → rb g a N = -1 ∧ ¬ Pb g N b) ∧ (k = 2 ∨ k = 3 → rb g a N ≠ -1) ∧ (k = 4 → rb g b N ≠ -1 ∧ rb g d N ≠ -1)
def Ip (k a b d : Int32) : Prop := k = 0 ∨ k = 2 ∨ k = 3 ∨ (k = 1 ∧ 0 ≤ b ∧ b < 10) ∨ (k = 4 ∧ b ≠ d) ∨ (k = 5 ∧ 0 ≤ a ∧ a < 26)
def l7 (x : Nat → Int32) : List Value := [.int (x 0), .int (x 1), .int (x 2), .int (x 3), .int (x 4), .int (x 5), .int (x 6)]
theorem d01 : ((0 : Int32) = 1) = False := by decide
theorem d02 : ((0 : Int32) = 2) = False := by decide
theorem d03 : ((0 : Int32) = 3) = False := by decide
theorem d04 : ((0 : Int32) = 4) = False := by decide
theorem d05 : ((0 : Int32) = 5) = False := by decide
theorem d10 : ((1 : Int32) = 0) = False := by decide
theorem d12 : ((1 : Int32) = 2) = False := by decide
theorem d13 : ((1 : Int32) = 3) = False := by decide
theorem d14 : ((1 : Int32) = 4) = False := by decide
theorem d15 : ((1 : Int32) = 5) = False := by decide
theorem d20 : ((2 : Int32) = 0) = False := by decide
theorem d21 : ((2 : Int32) = 1) = False := by decide
theorem d23 : ((2 : Int32) = 3) = False := by decide
theorem d24 : ((2 : Int32) = 4) = False := by decide
theorem d25 : ((2 : Int32) = 5) = False := by decide
theorem d30 : ((3 : Int32) = 0) = False := by decide
theorem d31 : ((3 : Int32) = 1) = False := by decide
theorem d32 : ((3 : Int32) = 2) = False := by decide
theorem d34 : ((3 : Int32) = 4) = False := by decide
theorem d35 : ((3 : Int32) = 5) = False := by decide
theorem d40 : ((4 : Int32) = 0) = False := by decide
theorem d41 : ((4 : Int32) = 1) = False := by decide
theorem d42 : ((4 : Int32) = 2) = False := by decide
theorem d43 : ((4 : Int32) = 3) = False := by decide
theorem d45 : ((4 : Int32) = 5) = False := by decide
theorem d50 : ((5 : Int32) = 0) = False := by decide
theorem d51 : ((5 : Int32) = 1) = False := by decide
theorem d52 : ((5 : Int32) = 2) = False := by decide
theorem d53 : ((5 : Int32) = 3) = False := by decide
theorem d54 : ((5 : Int32) = 4) = False := by decide
section
variable {σ : mm_S} {tg : Nat → Nat × Nat} {ad : Nat × Nat → Nat} {c : Nat → Nat} {g : Nat → Nat → Int32}
theorem c_41t (hl : LO (CW σ tg ad c g)) {k a b d : Int32} (h : Hs c k a b d) : mm_M 41 [.ref 2, .int k, .int a, .int b, .int d] (CW σ tg ad c g) = some (.inl (some (.int 1)), (CW σ tg ad c g)) := by
  by_cases k0 : k = 0
  · simp only [M_41, e41_0, e41_36, e41_41, e41_42, e41_46, e41_47, e41_52, e41_55, e41_59, e41_62, e41_67, e41_70, e41_74, e41_75, e41_76, k0, aM_33, c_33, eq_true (h.1 k0), bz, K0_v, K0_n, K0_x, K2_v, K2_n, K1_v, K1_n, K1_x, bI_s, bJ_s, bV_s, bS_s, l_10, l_00, bz_01, bz_0, bz_1, em_n, if_true, if_false, ite_not, ite_true, ite_false, not_true_eq_false, not_false_eq_true, or_true, true_or]
  · by_cases kp : k = 1 ∨ k = 2 ∨ k = 3
    · have q := eq_true (h.2.1 kp)
      rcases kp with e | e | e <;> simp only [M_41, e41_0, e41_36, e41_41, e41_42, e41_46, e41_47, e41_52, e41_55, e41_59, e41_62, e41_67, e41_70, e41_74, e41_75, e41_76, e, d01, d02, d03, d04, d05, d10, d12, d13, d14, d15, d20, d21, d23, d24, d25, d30, d31, d32, d34, d35, d40, d41, d42, d43, d45, d50, d51, d52, d53, d54, c_54 hl, q, bz, K0_v, K0_n, K0_x, K2_v, K2_n, K1_v, K1_n, K1_x, bI_s, bJ_s, bV_s, bS_s, l_10, l_00, bz_01, bz_0, bz_1, em_n, if_true, if_false, ite_not, ite_true, ite_false, not_true_eq_false, not_false_eq_true, or_true, true_or]
    · by_cases k4 : k = 4
      · obtain ⟨q1, q2, q3⟩ := h.2.2 k4
        simp only [M_41, e41_0, e41_36, e41_41, e41_42, e41_46, e41_47, e41_52, e41_55, e41_59, e41_62, e41_67, e41_70, e41_74, e41_75, e41_76, k4, d01, d02, d03, d04, d05, d10, d12, d13, d14, d15, d20, d21, d23, d24, d25, d30, d31, d32, d34, d35, d40, d41, d42, d43, d45, d50, d51, d52, d53, d54, aM_33, c_33, c_54 hl, eq_true q1, eq_true q2, eq_true q3, K0_v, K0_n, K0_x, K2_v, K2_n, K1_v, K1_n, K1_x, bI_s, bJ_s, bV_s, bS_s, l_10, l_00, bz_01, bz_0, bz_1, em_n, if_true, if_false, ite_not, ite_true, ite_false, not_true_eq_false, not_false_eq_true, or_true, true_or]
      · have n1 : ¬ k = 1 := fun z => kp (Or.inl z)
        have n2 : ¬ k = 2 := fun z => kp (Or.inr (Or.inl z))
        have n3 : ¬ k = 3 := fun z => kp (Or.inr (Or.inr z))
        simp only [M_41, e41_0, e41_36, e41_41, e41_42, e41_46, e41_47, e41_52, e41_55, e41_59, e41_62, e41_67, e41_70, e41_74, e41_75, e41_76, eq_false k0, eq_false n1, eq_false n2, eq_false n3, eq_false k4, K0_v, K0_n, K0_x, K2_v, K2_n, K1_v, K1_n, K1_x, bI_s, bJ_s, bV_s, bS_s, l_10, l_00, bz_01, bz_0, bz_1, em_n, if_true, if_false, ite_not, ite_true, ite_false, not_true_eq_false, not_false_eq_true, or_true, true_or]
theorem c_41f (hl : LO (CW σ tg ad c g)) {k a b d : Int32} (h : ¬ Hs c k a b d) : mm_M 41 [.ref 2, .int k, .int a, .int b, .int d] (CW σ tg ad c g) = some (.inl (some (.int 0)), (CW σ tg ad c g)) := by
  by_cases k0 : k = 0
  · subst k0
    have q : ¬ (0 ≤ a ∧ a < nI (c 0)) := fun z => h ⟨fun _ => z, fun z => absurd z (by decide), fun z => absurd z (by decide)⟩
    simp only [M_41, e41_0, e41_36, e41_41, e41_42, e41_46, e41_47, e41_52, e41_55, e41_59, e41_62, e41_67, e41_70, e41_74, e41_75, e41_76, aM_33, c_33, eq_false q, bz, K0_v, K0_n, K0_x, K2_v, K2_n, K1_v, K1_n, K1_x, bI_s, bJ_s, bV_s, bS_s, l_10, l_00, bz_01, bz_0, bz_1, em_n, if_true, if_false, ite_not, ite_true, ite_false, not_true_eq_false, not_false_eq_true, or_true, true_or]
  · by_cases kp : k = 1 ∨ k = 2 ∨ k = 3
    · have q : ¬ (0 ≤ a ∧ a < 4) := fun z => h ⟨fun y => absurd y k0, fun _ => z, fun y => by rw [y] at kp; exact absurd kp (by decide)⟩
      rcases kp with e | e | e <;> simp only [M_41, e41_0, e41_36, e41_41, e41_42, e41_46, e41_47, e41_52, e41_55, e41_59, e41_62, e41_67, e41_70, e41_74, e41_75, e41_76, e, d01, d02, d03, d04, d05, d10, d12, d13, d14, d15, d20, d21, d23, d24, d25, d30, d31, d32, d34, d35, d40, d41, d42, d43, d45, d50, d51, d52, d53, d54, c_54 hl, eq_false q, bz, K0_v, K0_n, K0_x, K2_v, K2_n, K1_v, K1_n, K1_x, bI_s, bJ_s, bV_s, bS_s, l_10, l_00, bz_01, bz_0, bz_1, em_n, if_true, if_false, ite_not, ite_true, ite_false, not_true_eq_false, not_false_eq_true, or_true, true_or]
    · by_cases k4 : k = 4
      · by_cases q1 : 0 ≤ a ∧ a < nI (c 0)
        · by_cases q2 : 0 ≤ b ∧ b < 4
          · by_cases q3 : 0 ≤ d ∧ d < 4
            · exact absurd ⟨fun y => absurd y k0, fun y => absurd y kp, fun _ => ⟨q1, q2, q3⟩⟩ h
            · simp only [M_41, e41_0, e41_36, e41_41, e41_42, e41_46, e41_47, e41_52, e41_55, e41_59, e41_62, e41_67, e41_70, e41_74, e41_75, e41_76, k4, d01, d02, d03, d04, d05, d10, d12, d13, d14, d15, d20, d21, d23, d24, d25, d30, d31, d32, d34, d35, d40, d41, d42, d43, d45, d50, d51, d52, d53, d54, aM_33, c_33, c_54 hl, eq_true q1, eq_true q2, eq_false q3, K0_v, K0_n, K0_x, K2_v, K2_n, K1_v, K1_n, K1_x, bI_s, bJ_s, bV_s, bS_s, l_10, l_00, bz_01, bz_0, bz_1, em_n, if_true, if_false, ite_not, ite_true, ite_false, not_true_eq_false, not_false_eq_true, or_true, true_or]
          · simp only [M_41, e41_0, e41_36, e41_41, e41_42, e41_46, e41_47, e41_52, e41_55, e41_59, e41_62, e41_67, e41_70, e41_74, e41_75, e41_76, k4, d01, d02, d03, d04, d05, d10, d12, d13, d14, d15, d20, d21, d23, d24, d25, d30, d31, d32, d34, d35, d40, d41, d42, d43, d45, d50, d51, d52, d53, d54, aM_33, c_33, c_54 hl, eq_true q1, eq_false q2, K0_v, K0_n, K0_x, K2_v, K2_n, K1_v, K1_n, K1_x, bI_s, bJ_s, bV_s, bS_s, l_10, l_00, bz_01, bz_0, bz_1, em_n, if_true, if_false, ite_not, ite_true, ite_false, not_true_eq_false, not_false_eq_true, or_true, true_or]
        · simp only [M_41, e41_0, e41_36, e41_41, e41_42, e41_46, e41_47, e41_52, e41_55, e41_59, e41_62, e41_67, e41_70, e41_74, e41_75, e41_76, k4, d01, d02, d03, d04, d05, d10, d12, d13, d14, d15, d20, d21, d23, d24, d25, d30, d31, d32, d34, d35, d40, d41, d42, d43, d45, d50, d51, d52, d53, d54, aM_33, c_33, c_54 hl, eq_false q1, K0_v, K0_n, K0_x, K2_v, K2_n, K1_v, K1_n, K1_x, bI_s, bJ_s, bV_s, bS_s, l_10, l_00, bz_01, bz_0, bz_1, em_n, if_true, if_false, ite_not, ite_true, ite_false, not_true_eq_false, not_false_eq_true, or_true, true_or]
      · exact absurd ⟨fun y => absurd y k0, fun y => absurd y kp, fun y => absurd y k4⟩ h
theorem c_43t {n : Nat} (w : WF tg ad c n) (hl : LO (CW σ tg ad c g)) {k a b d : Int32} (h : Ls g (c 1) k a b d) : mm_M 43 [.ref 2, .int k, .int a, .int b, .int d] (CW σ tg ad c g) = some (.inl (some (.int 1)), (CW σ tg ad c g)) := by
  by_cases k1 : k = 1
  · obtain ⟨q1, q2⟩ := h.1 k1
    have q3 : ¬ (rb g 0 (c 1) = b ∨ rb g 1 (c 1) = b ∨ rb g 2 (c 1) = b ∨ rb g 3 (c 1) = b) := q2
    simp only [M_43, e43_0, e43_32, e43_37, e43_41, e43_46, e43_49, e43_53, e43_54, e43_55, e43_60, e43_64, e43_68, e43_69, e43_70, e43_75, e43_79, e43_85, e43_89, e43_93, e43_94, e43_95, k1, d01, d02, d03, d04, d05, d10, d12, d13, d14, d15, d20, d21, d23, d24, d25, d30, d31, d32, d34, d35, d40, d41, d42, d43, d45, d50, d51, d52, d53, d54, aM_45, c_45 w, aM_44, c_44 w hl, eq_true q1, eq_false q3, K0_v, K0_n, K0_x, K2_v, K2_n, K1_v, K1_n, K1_x, bI_s, bJ_s, bV_s, bS_s, l_10, l_00, bz_01, bz_0, bz_1, em_n, if_true, if_false, ite_not, ite_true, ite_false, not_true_eq_false, not_false_eq_true, or_true, true_or]
  · by_cases k2 : k = 2 ∨ k = 3
    · have q := eq_false (h.2.1 k2)
      rcases k2 with e | e <;> simp only [M_43, e43_0, e43_32, e43_37, e43_41, e43_46, e43_49, e43_53, e43_54, e43_55, e43_60, e43_64, e43_68, e43_69, e43_70, e43_75, e43_79, e43_85, e43_89, e43_93, e43_94, e43_95, e, d01, d02, d03, d04, d05, d10, d12, d13, d14, d15, d20, d21, d23, d24, d25, d30, d31, d32, d34, d35, d40, d41, d42, d43, d45, d50, d51, d52, d53, d54, aM_45, c_45 w, q, K0_v, K0_n, K0_x, K2_v, K2_n, K1_v, K1_n, K1_x, bI_s, bJ_s, bV_s, bS_s, l_10, l_00, bz_01, bz_0, bz_1, em_n, if_true, if_false, ite_not, ite_true, ite_false, not_true_eq_false, not_false_eq_true, or_true, true_or]
    · have n2 : ¬ k = 2 := fun z => k2 (Or.inl z)
      have n3 : ¬ k = 3 := fun z => k2 (Or.inr z)
      by_cases k4 : k = 4
      · obtain ⟨q1, q2⟩ := h.2.2 k4
        simp only [M_43, e43_0, e43_32, e43_37, e43_41, e43_46, e43_49, e43_53, e43_54, e43_55, e43_60, e43_64, e43_68, e43_69, e43_70, e43_75, e43_79, e43_85, e43_89, e43_93, e43_94, e43_95, k4, d01, d02, d03, d04, d05, d10, d12, d13, d14, d15, d20, d21, d23, d24, d25, d30, d31, d32, d34, d35, d40, d41, d42, d43, d45, d50, d51, d52, d53, d54, aM_45, c_45 w, eq_false q1, eq_false q2, K0_v, K0_n, K0_x, K2_v, K2_n, K1_v, K1_n, K1_x, bI_s, bJ_s, bV_s, bS_s, l_10, l_00, bz_01, bz_0, bz_1, em_n, if_true, if_false, ite_not, ite_true, ite_false, not_true_eq_false, not_false_eq_true, or_true, true_or]
      · simp only [M_43, e43_0, e43_32, e43_37, e43_41, e43_46, e43_49, e43_53, e43_54, e43_55, e43_60, e43_64, e43_68, e43_69, e43_70, e43_75, e43_79, e43_85, e43_89, e43_93, e43_94, e43_95, eq_false k1, eq_false n2, eq_false n3, eq_false k4, K0_v, K0_n, K0_x, K2_v, K2_n, K1_v, K1_n, K1_x, bI_s, bJ_s, bV_s, bS_s, l_10, l_00, bz_01, bz_0, bz_1, em_n, if_true, if_false, ite_not, ite_true, ite_false, not_true_eq_false, not_false_eq_true, or_true, true_or]
theorem c_43f {n : Nat} (w : WF tg ad c n) (hl : LO (CW σ tg ad c g)) {k a b d : Int32} (h : ¬ Ls g (c 1) k a b d) : mm_M 43 [.ref 2, .int k, .int a, .int b, .int d] (CW σ tg ad c g) = some (.inl (some (.int 0)), (CW σ tg ad c g)) := by
  by_cases k1 : k = 1
  · have z2 : ¬ (k = 2 ∨ k = 3) := by rw [k1]; decide
    have z4 : ¬ k = 4 := by rw [k1]; decide
    by_cases q1 : rb g a (c 1) = -1
    · by_cases q3 : rb g 0 (c 1) = b ∨ rb g 1 (c 1) = b ∨ rb g 2 (c 1) = b ∨ rb g 3 (c 1) = b
      · simp only [M_43, e43_0, e43_32, e43_37, e43_41, e43_46, e43_49, e43_53, e43_54, e43_55, e43_60, e43_64, e43_68, e43_69, e43_70, e43_75, e43_79, e43_85, e43_89, e43_93, e43_94, e43_95, k1, d01, d02, d03, d04, d05, d10, d12, d13, d14, d15, d20, d21, d23, d24, d25, d30, d31, d32, d34, d35, d40, d41, d42, d43, d45, d50, d51, d52, d53, d54, aM_45, c_45 w, aM_44, c_44 w hl, eq_true q1, eq_true q3, K0_v, K0_n, K0_x, K2_v, K2_n, K1_v, K1_n, K1_x, bI_s, bJ_s, bV_s, bS_s, l_10, l_00, bz_01, bz_0, bz_1, em_n, if_true, if_false, ite_not, ite_true, ite_false, not_true_eq_false, not_false_eq_true, or_true, true_or]
      · exact absurd ⟨fun _ => ⟨q1, q3⟩, fun y => absurd y z2, fun y => absurd y z4⟩ h
    · simp only [M_43, e43_0, e43_32, e43_37, e43_41, e43_46, e43_49, e43_53, e43_54, e43_55, e43_60, e43_64, e43_68, e43_69, e43_70, e43_75, e43_79, e43_85, e43_89, e43_93, e43_94, e43_95, k1, d01, d02, d03, d04, d05, d10, d12, d13, d14, d15, d20, d21, d23, d24, d25, d30, d31, d32, d34, d35, d40, d41, d42, d43, d45, d50, d51, d52, d53, d54, aM_45, c_45 w, eq_false q1, K0_v, K0_n, K0_x, K2_v, K2_n, K1_v, K1_n, K1_x, bI_s, bJ_s, bV_s, bS_s, l_10, l_00, bz_01, bz_0, bz_1, em_n, if_true, if_false, ite_not, ite_true, ite_false, not_true_eq_false, not_false_eq_true, or_true, true_or]
  · by_cases k2 : k = 2 ∨ k = 3
    · have z4 : ¬ k = 4 := by rcases k2 with e | e <;> (rw [e]; decide)
      have q : rb g a (c 1) = -1 := by
        by_cases q : rb g a (c 1) = -1
        · exact q
        · exact absurd ⟨fun y => absurd y k1, fun _ => q, fun y => absurd y z4⟩ h
      rcases k2 with e | e <;> simp only [M_43, e43_0, e43_32, e43_37, e43_41, e43_46, e43_49, e43_53, e43_54, e43_55, e43_60, e43_64, e43_68, e43_69, e43_70, e43_75, e43_79, e43_85, e43_89, e43_93, e43_94, e43_95, e, d01, d02, d03, d04, d05, d10, d12, d13, d14, d15, d20, d21, d23, d24, d25, d30, d31, d32, d34, d35, d40, d41, d42, d43, d45, d50, d51, d52, d53, d54, aM_45, c_45 w, eq_true q, K0_v, K0_n, K0_x, K2_v, K2_n, K1_v, K1_n, K1_x, bI_s, bJ_s, bV_s, bS_s, l_10, l_00, bz_01, bz_0, bz_1, em_n, if_true, if_false, ite_not, ite_true, ite_false, not_true_eq_false, not_false_eq_true, or_true, true_or]
    · by_cases k4 : k = 4
      · by_cases q1 : rb g b (c 1) = -1
        · simp only [M_43, e43_0, e43_32, e43_37, e43_41, e43_46, e43_49, e43_53, e43_54, e43_55, e43_60, e43_64, e43_68, e43_69, e43_70, e43_75, e43_79, e43_85, e43_89, e43_93, e43_94, e43_95, k4, d01, d02, d03, d04, d05, d10, d12, d13, d14, d15, d20, d21, d23, d24, d25, d30, d31, d32, d34, d35, d40, d41, d42, d43, d45, d50, d51, d52, d53, d54, aM_45, c_45 w, eq_true q1, K0_v, K0_n, K0_x, K2_v, K2_n, K1_v, K1_n, K1_x, bI_s, bJ_s, bV_s, bS_s, l_10, l_00, bz_01, bz_0, bz_1, em_n, if_true, if_false, ite_not, ite_true, ite_false, not_true_eq_false, not_false_eq_true, or_true, true_or]
        · by_cases q2 : rb g d (c 1) = -1
          · simp only [M_43, e43_0, e43_32, e43_37, e43_41, e43_46, e43_49, e43_53, e43_54, e43_55, e43_60, e43_64, e43_68, e43_69, e43_70, e43_75, e43_79, e43_85, e43_89, e43_93, e43_94, e43_95, k4, d01, d02, d03, d04, d05, d10, d12, d13, d14, d15, d20, d21, d23, d24, d25, d30, d31, d32, d34, d35, d40, d41, d42, d43, d45, d50, d51, d52, d53, d54, aM_45, c_45 w, eq_false q1, eq_true q2, K0_v, K0_n, K0_x, K2_v, K2_n, K1_v, K1_n, K1_x, bI_s, bJ_s, bV_s, bS_s, l_10, l_00, bz_01, bz_0, bz_1, em_n, if_true, if_false, ite_not, ite_true, ite_false, not_true_eq_false, not_false_eq_true, or_true, true_or]
          · exact absurd ⟨fun y => absurd y k1, fun y => absurd y k2, fun _ => ⟨q1, q2⟩⟩ h
      · exact absurd ⟨fun y => absurd y k1, fun y => absurd y k2, fun y => absurd y k4⟩ h
theorem c_6W (hI : IN tg ad σ.2.1) (h35 : 11 ≤ σ.2.1) {w : Nat} (a b d e i j k : Int32) : mm_Mo 6 σ.2.1 [.int a, .int b, .int d, .int e, .int i, .int j, .int k] (CW (mm_new σ (.inl (1, [.int 0, .int 0, .int 0, .int 0, .int 0, .int 0, .int 0])) w) tg ad c g) = some (.inl none, CW (mm_new σ (.inl (1, l7 (f7 a b d e i j k))) w) tg ad c g) := by
  have c6 := c_6 (τ := CW σ tg ad c g) (w := w) a b d e i j k
  rw [CW_mk hI h35, CW_mk hI h35, CW_n] at c6
  exact c6
theorem c_48 {τ : mm_S} (s p t : Int32) : mm_M 48 [.int s, .int p, .int t] τ = some (.inl (some (.ref τ.2.1)), mm_new τ (.inl (1, l7 (f7 s p p t t 0 (-1)))) 7) := by
  rw [M_48, e48_0, c_6, K2_n, e48_14]
  rfl
-- the hands told
theorem c_47L {a b d : Int32} : mm_M 47 [.ref 2, .int 5, .int a, .int b, .int d] (CW σ tg ad c g) = some (.inl (some (.ref σ.2.1)), mm_new (CW σ tg ad c g) (.inl (1, l7 (f7 (a - a / 8 * 8) 4 4 (a / 8) (a / 8) 0 (-1)))) 7) := by
  simp only [M_47, e47_0, e47_5, e47_21, e47_22, c_48, CW_n, K0_v, K0_n, K0_x, K2_v, K2_n, K1_v, K1_n, K1_x, bI_s, bJ_s, bV_s, bS_s, l_10, l_00, bz_01, bz_0, bz_1, em_n, if_true, if_false, ite_not, ite_true, ite_false, not_true_eq_false, not_false_eq_true, or_true, true_or]
theorem c_47P (hl : LO (CW σ tg ad c g)) {k a b d : Int32} (hk : k = 1 ∨ k = 2 ∨ k = 3) (ha : LC a) : mm_M 47 [.ref 2, .int k, .int a, .int b, .int d] (CW σ tg ad c g) = some (.inl (some (.ref σ.2.1)), mm_new (CW σ tg ad c g) (.inl (1, l7 (f7 1 (pl a) (pl a) 0 0 0 (-1)))) 7) := by
  rcases hk with e | e | e <;> simp only [M_47, e47_0, e47_5, e47_21, e47_22, e47_26, e47_31, e47_36, e47_39, e47_44, e47_48, e, d01, d02, d03, d04, d05, d10, d12, d13, d14, d15, d20, d21, d23, d24, d25, d30, d31, d32, d34, d35, d40, d41, d42, d43, d45, d50, d51, d52, d53, d54, c_55 hl ha, c_48, CW_n, K0_v, K0_n, K0_x, K2_v, K2_n, K1_v, K1_n, K1_x, bI_s, bJ_s, bV_s, bS_s, l_10, l_00, bz_01, bz_0, bz_1, em_n, if_true, if_false, ite_not, ite_true, ite_false, not_true_eq_false, not_false_eq_true, or_true, true_or]
theorem c_47S (w : WF tg ad c σ.2.1) {i : Nat} (hi : i < c 0) {b d : Int32} : mm_M 47 [.ref 2, .int 0, .int (nI i), .int b, .int d] (CW σ tg ad c g) = some (.inl (some (.ref σ.2.1)), mm_new (CW σ tg ad c g) (.inl (1, l7 (f7 (h7 (g 12) i 0) (h7 (g 12) i 1) (h7 (g 12) i 2) (h7 (g 12) i 3) (h7 (g 12) i 4) (h7 (g 12) i 5) (h7 (g 12) i 6)))) 7) := by
  have hc := w.1.1
  have L := w.s hi
  have q := eq_true (show 0 ≤ nI i ∧ nI i < nI (c 0) from ⟨nI_pos' (by omega), nI_lt hi (by omega)⟩)
  rw [CW_mk w.2.IN w.2.2.2]
  simp only [M_47, e47_0, e47_5, e47_21, e47_22, e47_26, e47_31, e47_36, e47_39, e47_44, e47_48, e47_49, e47_53, e47_57, e47_60, e47_67, e47_71, e47_74, e47_79, e47_86, e47_91, e47_94, e47_99, e47_110, e47_119, e47_124, e47_129, e47_134, e47_137, d01, d02, d03, d04, d05, d10, d12, d13, d14, d15, d20, d21, d23, d24, d25, d30, d31, d32, d34, d35, d40, d41, d42, d43, d45, d50, d51, d52, d53, d54, aM_33, c_33, q, cf_0, cg_3 hi (by omega), ck_1 L, CW_mk w.2.IN w.2.2.2, CW_n, hg_0 (Hd_1 L), hg_1 (Hd_1 L), hg_2 (Hd_1 L), hg_3 (Hd_1 L), hg_4 (Hd_1 L), hg_5 (Hd_1 L), hg_6 (Hd_1 L), c_6W w.2.IN w.2.2.2, K0_v, K0_n, K0_x, K2_v, K2_n, K1_v, K1_n, K1_x, bI_s, bJ_s, bV_s, bS_s, l_10, l_00, bz_01, bz_0, bz_1, em_n, if_true, if_false, ite_not, ite_true, ite_false, not_true_eq_false, not_false_eq_true, or_true, true_or]
theorem c_47V (w : WF tg ad c σ.2.1) (hl : LO (CW σ tg ad c g)) {i : Nat} (hi : i < c 0) {b d : Int32} (hb : LC b) (hd : LC d) : mm_M 47 [.ref 2, .int 4, .int (nI i), .int b, .int d] (CW σ tg ad c g) = some (.inl (some (.ref σ.2.1)), mm_new (CW σ tg ad c g) (.inl (1, l7 (f7 (h7 (g 12) i 0) (pl b) (pl d) (h7 (g 12) i 3) (h7 (g 12) i 4) (h7 (g 12) i 5) (h7 (g 12) i 6)))) 7) := by
  have hc := w.1.1
  have L := w.s hi
  have q := eq_true (show 0 ≤ nI i ∧ nI i < nI (c 0) from ⟨nI_pos' (by omega), nI_lt hi (by omega)⟩)
  rw [CW_mk w.2.IN w.2.2.2]
  simp only [M_47, e47_0, e47_5, e47_21, e47_22, e47_26, e47_31, e47_36, e47_39, e47_44, e47_48, e47_49, e47_53, e47_57, e47_60, e47_67, e47_71, e47_74, e47_79, e47_86, e47_91, e47_94, e47_99, e47_110, e47_119, e47_124, e47_129, e47_134, e47_137, d01, d02, d03, d04, d05, d10, d12, d13, d14, d15, d20, d21, d23, d24, d25, d30, d31, d32, d34, d35, d40, d41, d42, d43, d45, d50, d51, d52, d53, d54, aM_33, c_33, q, cf_0, cg_3 hi (by omega), ck_1 L, c_55 hl hb, c_55 hl hd, CW_mk w.2.IN w.2.2.2, CW_n, hg_0 (Hd_1 L), hg_1 (Hd_1 L), hg_2 (Hd_1 L), hg_3 (Hd_1 L), hg_4 (Hd_1 L), hg_5 (Hd_1 L), hg_6 (Hd_1 L), c_6W w.2.IN w.2.2.2, K0_v, K0_n, K0_x, K2_v, K2_n, K1_v, K1_n, K1_x, bI_s, bJ_s, bV_s, bS_s, l_10, l_00, bz_01, bz_0, bz_1, em_n, if_true, if_false, ite_not, ite_true, ite_false, not_true_eq_false, not_false_eq_true, or_true, true_or]
end
