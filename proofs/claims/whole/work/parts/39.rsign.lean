/-! LEVEL 2: the reference's sign -/
def U6 (a b d e i j : Int32) : Prop := (0 ≤ a ∧ a ≤ 7) ∧ (0 ≤ b ∧ b ≤ 8) ∧ (0 ≤ d ∧ d ≤ 8) ∧ (0 ≤ e ∧ e ≤ 3) ∧ (0 ≤ i ∧ i ≤ 3) ∧ (0 ≤ j ∧ j ≤ 2)
def U7 (a j k : Int32) : Prop := j = 2 → (0 ≤ k ∧ k ≤ 3) ∨ k = a
theorem U6_V6 (a b d e i j : Int32) : U6 a b d e i j ↔ V6 a b d e i j := by
  unfold U6 V6
  have h (p : Int32) := upto_lit (p := p) (n := 7) (by decide)
  have h8 (p : Int32) := upto_lit (p := p) (n := 8) (by decide)
  have h3 (p : Int32) := upto_lit (p := p) (n := 3) (by decide)
  have h2 (p : Int32) := upto_lit (p := p) (n := 2) (by decide)
  have e1 := h a; have e2 := h8 b; have e3 := h8 d; have e4 := h3 e; have e5 := h3 i; have e6 := h2 j
  exact and_congr e1 (and_congr e2 (and_congr e3 (and_congr e4 (and_congr e5 e6))))
theorem U7_V7 (a j k : Int32) : U7 a j k ↔ V7 a j k := by
  unfold U7 V7
  have h3 := upto_lit (p := k) (n := 3) (by decide)
  have h3' : (0 ≤ k ∧ k ≤ 3) ↔ (0 ≤ k ∧ k < 4) := h3
  rw [h3', or_comm]
theorem z_and (x : Int32) : 0 &&& x = 0 := by simp
theorem one_and1 : (1 : Int32) &&& 1 = 1 := by decide
theorem one_and0 : (1 : Int32) &&& 0 = 0 := by decide
theorem zz : ((0 : Int32) = 0) = True := by decide
section
variable {σ : mm_S} {c : Nat → Nat} {f : Nat → Nat → Int32}
theorem s116a {τ : mm_S} {a b d e i j k : Int32} (h : U6 a b d e i j) : mm_L 116 0 [.ref 11, .int a, .int b, .int d, .int e, .int i, .int j, .int k, mm_un, mm_un, mm_un] [] τ = mm_L 116 65 [.ref 11, .int a, .int b, .int d, .int e, .int i, .int j, .int k, mm_un, mm_un, mm_un] [.int 1] τ := by
  obtain ⟨h1, h2, h3, h4, h5, h6⟩ := h
  simp only [e116_0, e116_7, e116_10, e116_17, e116_20, e116_27, e116_30, e116_37, e116_40, e116_47, e116_50, e116_57, e116_60, e116_64, c_108, eq_true h1, eq_true h2, eq_true h3, eq_true h4, eq_true h5, eq_true h6, K0_v, K0_n, K0_x, K2_v, K2_n, K1_v, K1_n, K1_x, bI_s, bJ_s, bV_s, bS_s, l_10, l_00, bz_01, bz_0, bz_1, em_n, if_true, if_false, ite_not, ite_true, ite_false, not_true_eq_false, not_false_eq_true, or_true, true_or]
theorem s116b {τ : mm_S} {a b d e i j k : Int32} (h : ¬ U6 a b d e i j) : mm_L 116 0 [.ref 11, .int a, .int b, .int d, .int e, .int i, .int j, .int k, mm_un, mm_un, mm_un] [] τ = mm_L 116 65 [.ref 11, .int a, .int b, .int d, .int e, .int i, .int j, .int k, mm_un, mm_un, mm_un] [.int 0] τ := by
  by_cases h1 : 0 ≤ a ∧ a ≤ 7
  · by_cases h2 : 0 ≤ b ∧ b ≤ 8
    · by_cases h3 : 0 ≤ d ∧ d ≤ 8
      · by_cases h4 : 0 ≤ e ∧ e ≤ 3
        · by_cases h5 : 0 ≤ i ∧ i ≤ 3
          · by_cases h6 : 0 ≤ j ∧ j ≤ 2
            · exact absurd ⟨h1, h2, h3, h4, h5, h6⟩ h
            · simp only [e116_0, e116_7, e116_10, e116_17, e116_20, e116_27, e116_30, e116_37, e116_40, e116_47, e116_50, e116_57, e116_60, e116_64, c_108, eq_true h1, eq_true h2, eq_true h3, eq_true h4, eq_true h5, eq_false h6, K0_v, K0_n, K0_x, K2_v, K2_n, K1_v, K1_n, K1_x, bI_s, bJ_s, bV_s, bS_s, l_10, l_00, bz_01, bz_0, bz_1, em_n, if_true, if_false, ite_not, ite_true, ite_false, not_true_eq_false, not_false_eq_true, or_true, true_or]
          · simp only [e116_0, e116_7, e116_10, e116_17, e116_20, e116_27, e116_30, e116_37, e116_40, e116_47, e116_50, e116_57, e116_60, e116_64, c_108, eq_true h1, eq_true h2, eq_true h3, eq_true h4, eq_false h5, K0_v, K0_n, K0_x, K2_v, K2_n, K1_v, K1_n, K1_x, bI_s, bJ_s, bV_s, bS_s, l_10, l_00, bz_01, bz_0, bz_1, em_n, if_true, if_false, ite_not, ite_true, ite_false, not_true_eq_false, not_false_eq_true, or_true, true_or]
        · simp only [e116_0, e116_7, e116_10, e116_17, e116_20, e116_27, e116_30, e116_37, e116_40, e116_47, e116_50, e116_57, e116_60, e116_64, c_108, eq_true h1, eq_true h2, eq_true h3, eq_false h4, K0_v, K0_n, K0_x, K2_v, K2_n, K1_v, K1_n, K1_x, bI_s, bJ_s, bV_s, bS_s, l_10, l_00, bz_01, bz_0, bz_1, em_n, if_true, if_false, ite_not, ite_true, ite_false, not_true_eq_false, not_false_eq_true, or_true, true_or]
      · simp only [e116_0, e116_7, e116_10, e116_17, e116_20, e116_27, e116_30, e116_37, e116_40, e116_47, e116_50, e116_57, e116_60, e116_64, c_108, eq_true h1, eq_true h2, eq_false h3, K0_v, K0_n, K0_x, K2_v, K2_n, K1_v, K1_n, K1_x, bI_s, bJ_s, bV_s, bS_s, l_10, l_00, bz_01, bz_0, bz_1, em_n, if_true, if_false, ite_not, ite_true, ite_false, not_true_eq_false, not_false_eq_true, or_true, true_or]
    · simp only [e116_0, e116_7, e116_10, e116_17, e116_20, e116_27, e116_30, e116_37, e116_40, e116_47, e116_50, e116_57, e116_60, e116_64, c_108, eq_true h1, eq_false h2, K0_v, K0_n, K0_x, K2_v, K2_n, K1_v, K1_n, K1_x, bI_s, bJ_s, bV_s, bS_s, l_10, l_00, bz_01, bz_0, bz_1, em_n, if_true, if_false, ite_not, ite_true, ite_false, not_true_eq_false, not_false_eq_true, or_true, true_or]
  · simp only [e116_0, e116_7, e116_10, e116_17, e116_20, e116_27, e116_30, e116_37, e116_40, e116_47, e116_50, e116_57, e116_60, e116_64, c_108, eq_false h1, K0_v, K0_n, K0_x, K2_v, K2_n, K1_v, K1_n, K1_x, bI_s, bJ_s, bV_s, bS_s, l_10, l_00, bz_01, bz_0, bz_1, em_n, if_true, if_false, ite_not, ite_true, ite_false, not_true_eq_false, not_false_eq_true, or_true, true_or]
theorem s116c {τ : mm_S} {a b d e i j k s : Int32} (h : U7 a j k) : mm_L 116 65 [.ref 11, .int a, .int b, .int d, .int e, .int i, .int j, .int k, mm_un, mm_un, mm_un] [.int s] τ = mm_L 116 96 [.ref 11, .int a, .int b, .int d, .int e, .int i, .int j, .int k, .int s, mm_un, mm_un] [.int 1, .int s] τ := by
  by_cases hj : j = 2
  · rcases h hj with h2 | h2
    · simp only [e116_65, e116_75, e116_82, e116_85, e116_91, e116_95, c_108, eq_true hj, eq_true h2, K0_v, K0_n, K0_x, K2_v, K2_n, K1_v, K1_n, K1_x, bI_s, bJ_s, bV_s, bS_s, l_10, l_00, bz_01, bz_0, bz_1, em_n, if_true, if_false, ite_not, ite_true, ite_false, not_true_eq_false, not_false_eq_true, or_true, true_or]
    · by_cases h3 : 0 ≤ k ∧ k ≤ 3
      · simp only [e116_65, e116_75, e116_82, e116_85, e116_91, e116_95, c_108, eq_true hj, eq_true h3, K0_v, K0_n, K0_x, K2_v, K2_n, K1_v, K1_n, K1_x, bI_s, bJ_s, bV_s, bS_s, l_10, l_00, bz_01, bz_0, bz_1, em_n, if_true, if_false, ite_not, ite_true, ite_false, not_true_eq_false, not_false_eq_true, or_true, true_or]
      · simp only [e116_65, e116_75, e116_82, e116_85, e116_91, e116_95, c_108, eq_true hj, eq_false h3, eq_true h2, K0_v, K0_n, K0_x, K2_v, K2_n, K1_v, K1_n, K1_x, bI_s, bJ_s, bV_s, bS_s, l_10, l_00, bz_01, bz_0, bz_1, em_n, if_true, if_false, ite_not, ite_true, ite_false, not_true_eq_false, not_false_eq_true, or_true, true_or]
  · simp only [e116_65, e116_75, e116_82, e116_85, e116_91, e116_95, c_108, eq_false hj, K0_v, K0_n, K0_x, K2_v, K2_n, K1_v, K1_n, K1_x, bI_s, bJ_s, bV_s, bS_s, l_10, l_00, bz_01, bz_0, bz_1, em_n, if_true, if_false, ite_not, ite_true, ite_false, not_true_eq_false, not_false_eq_true, or_true, true_or]
theorem s116d {τ : mm_S} {a b d e i j k s : Int32} (h : ¬ U7 a j k) : mm_L 116 65 [.ref 11, .int a, .int b, .int d, .int e, .int i, .int j, .int k, mm_un, mm_un, mm_un] [.int s] τ = mm_L 116 96 [.ref 11, .int a, .int b, .int d, .int e, .int i, .int j, .int k, .int s, mm_un, mm_un] [.int 0, .int s] τ := by
  by_cases hj : j = 2
  · by_cases h3 : 0 ≤ k ∧ k ≤ 3
    · exact absurd (fun _ => Or.inl h3) h
    · by_cases h2 : k = a
      · exact absurd (fun _ => Or.inr h2) h
      · simp only [e116_65, e116_75, e116_82, e116_85, e116_91, e116_95, c_108, eq_true hj, eq_false h3, eq_false h2, K0_v, K0_n, K0_x, K2_v, K2_n, K1_v, K1_n, K1_x, bI_s, bJ_s, bV_s, bS_s, l_10, l_00, bz_01, bz_0, bz_1, em_n, if_true, if_false, ite_not, ite_true, ite_false, not_true_eq_false, not_false_eq_true, or_true, true_or]
  · exact absurd (fun z => absurd z hj) h
theorem c_116x {a b d e i j k : Int32} (h : ¬ (U6 a b d e i j ∧ U7 a j k)) : mm_M 116 [.ref 11, .int a, .int b, .int d, .int e, .int i, .int j, .int k] (MW σ (vN c) f) = some (.inl (some (.int 0)), MW σ (vN (u2 c 5 1)) f) := by
  rw [M_116]
  by_cases h1 : U6 a b d e i j
  · rw [s116a h1, s116d (fun z => h ⟨h1, z⟩)]
    simp only [e116_96, e116_105, e116_109, e116_113, e116_118, e116_122, e116_123, e116_126, e116_130, e116_133, one_and0, zz, ms_27, mg_27, vs_0, vs_1, vs_2, vs_3, vs_n, vN_, u5_0, u5_1, u5_2, u5_3, u5_4, u5_5, t_0, t_1, t_2, t_3, te_0, te_1, te_2, te_3, K0_v, K0_n, K0_x, K2_v, K2_n, K1_v, K1_n, K1_x, bI_s, bJ_s, bV_s, bS_s, l_10, l_00, bz_01, bz_0, bz_1, em_n, if_true, if_false, ite_not, ite_true, ite_false, not_true_eq_false, not_false_eq_true, or_true, true_or]
  · rw [s116b h1]
    by_cases h2 : U7 a j k
    · rw [s116c h2]
      simp only [e116_96, e116_105, e116_109, e116_113, e116_118, e116_122, e116_123, e116_126, e116_130, e116_133, z_and, zz, ms_27, mg_27, vs_0, vs_1, vs_2, vs_3, vs_n, vN_, u5_0, u5_1, u5_2, u5_3, u5_4, u5_5, t_0, t_1, t_2, t_3, te_0, te_1, te_2, te_3, K0_v, K0_n, K0_x, K2_v, K2_n, K1_v, K1_n, K1_x, bI_s, bJ_s, bV_s, bS_s, l_10, l_00, bz_01, bz_0, bz_1, em_n, if_true, if_false, ite_not, ite_true, ite_false, not_true_eq_false, not_false_eq_true, or_true, true_or]
    · rw [s116d h2]
      simp only [e116_96, e116_105, e116_109, e116_113, e116_118, e116_122, e116_123, e116_126, e116_130, e116_133, z_and, zz, ms_27, mg_27, vs_0, vs_1, vs_2, vs_3, vs_n, vN_, u5_0, u5_1, u5_2, u5_3, u5_4, u5_5, t_0, t_1, t_2, t_3, te_0, te_1, te_2, te_3, K0_v, K0_n, K0_x, K2_v, K2_n, K1_v, K1_n, K1_x, bI_s, bJ_s, bV_s, bS_s, l_10, l_00, bz_01, bz_0, bz_1, em_n, if_true, if_false, ite_not, ite_true, ite_false, not_true_eq_false, not_false_eq_true, or_true, true_or]
theorem c_116f {a b d e i j k : Int32} (h1 : U6 a b d e i j) (h2 : U7 a j k) (hc : c 0 = 30) : mm_M 116 [.ref 11, .int a, .int b, .int d, .int e, .int i, .int j, .int k] (MW σ (vN c) f) = some (.inl (some (.int 0)), MW σ (vN (u2 c 5 2)) f) := by
  rw [M_116, s116a h1, s116c h2]
  have q : (nI (c 0) = 30) = True := by rw [hc]; decide
  simp only [e116_96, e116_105, e116_109, e116_113, e116_118, e116_122, e116_123, e116_126, e116_130, e116_133, one_and1, one_ne, q, mg_0, ms_27, mg_27, vs_0, vs_1, vs_2, vs_3, vs_n, vN_, u5_0, u5_1, u5_2, u5_3, u5_4, u5_5, t_0, t_1, t_2, t_3, te_0, te_1, te_2, te_3, K0_v, K0_n, K0_x, K2_v, K2_n, K1_v, K1_n, K1_x, bI_s, bJ_s, bV_s, bS_s, l_10, l_00, bz_01, bz_0, bz_1, em_n, if_true, if_false, ite_not, ite_true, ite_false, not_true_eq_false, not_false_eq_true, or_true, true_or]
/-- just like, as the reference asks -/
def jr (x y : Nat → Int32) : Prop := ((((((x 5 ≠ 2 ∨ x 6 = y 6) ∧ x 0 = y 0) ∧ x 1 = y 1) ∧ x 2 = y 2) ∧ x 3 = y 3) ∧ x 4 = y 4) ∧ x 5 = y 5
noncomputable def jrd (f : Nat → Nat → Int32) (N : Nat) : DecidablePred (fun k => jr (h7 (f 12) k) (h7 (f 12) N)) := fun k => by unfold jr; infer_instance
theorem s116e {a b d e i j k : Int32} (h1 : U6 a b d e i j) (h2 : U7 a j k) (hc : c 0 < 30) : mm_M 116 [.ref 11, .int a, .int b, .int d, .int e, .int i, .int j, .int k] (MW σ (vN c) f) = mm_L 116 232 [.ref 11, .int a, .int b, .int d, .int e, .int i, .int j, .int k, .int 1, .int (nI (7 * c 0)), .int 0] [] (MW σ (vN (u2 c 5 0)) (w7 f 12 (c 0) (f7 a b d e i j k))) := by
  rw [M_116, s116a h1, s116c h2]
  have q : (nI (c 0) = 30) = False := eq_false (fun z => by have := (nI_eq (a := c 0) (b := 30) (by omega) (by omega)).mp z; omega)
  have w := uf_w7 f 12 (c 0) (f7 a b d e i j k)
  by_cases hj : j = 2
  · simp only [f7, eq_true hj, K0_v, K0_n, K0_x, K2_v, K2_n, K1_v, K1_n, K1_x, bI_s, bJ_s, bV_s, bS_s, l_10, l_00, bz_01, bz_0, bz_1, em_n, if_true, if_false, ite_not, ite_true, ite_false, not_true_eq_false, not_false_eq_true, or_true, true_or] at w
    simp only [e116_96, e116_105, e116_109, e116_113, e116_118, e116_122, e116_123, e116_126, e116_130, e116_133, e116_135, e116_141, e116_148, e116_154, e116_158, e116_164, e116_168, e116_174, e116_178, e116_185, e116_189, e116_196, e116_200, e116_207, e116_211, e116_222, e116_227, e116_228, e116_229, one_and1, one_ne, q, mg_0, mg_1, ms_27, mg_27, n7, nk_0, nk_1, nk_2, nk_3, nk_4, nk_5, nk_6, mt_12 (show 7 * c 0 + 0 < 210 by omega), mt_12 (show 7 * c 0 + 1 < 210 by omega), mt_12 (show 7 * c 0 + 2 < 210 by omega), mt_12 (show 7 * c 0 + 3 < 210 by omega), mt_12 (show 7 * c 0 + 4 < 210 by omega), mt_12 (show 7 * c 0 + 5 < 210 by omega), mt_12 (show 7 * c 0 + 6 < 210 by omega), eq_true hj, w, vs_0, vs_1, vs_2, vs_3, vs_n, vN_, u5_0, u5_1, u5_2, u5_3, u5_4, u5_5, t_0, t_1, t_2, t_3, te_0, te_1, te_2, te_3, K0_v, K0_n, K0_x, K2_v, K2_n, K1_v, K1_n, K1_x, bI_s, bJ_s, bV_s, bS_s, l_10, l_00, bz_01, bz_0, bz_1, em_n, if_true, if_false, ite_not, ite_true, ite_false, not_true_eq_false, not_false_eq_true, or_true, true_or]
  · simp only [f7, eq_false hj, K0_v, K0_n, K0_x, K2_v, K2_n, K1_v, K1_n, K1_x, bI_s, bJ_s, bV_s, bS_s, l_10, l_00, bz_01, bz_0, bz_1, em_n, if_true, if_false, ite_not, ite_true, ite_false, not_true_eq_false, not_false_eq_true, or_true, true_or] at w
    simp only [e116_96, e116_105, e116_109, e116_113, e116_118, e116_122, e116_123, e116_126, e116_130, e116_133, e116_135, e116_141, e116_148, e116_154, e116_158, e116_164, e116_168, e116_174, e116_178, e116_185, e116_189, e116_196, e116_200, e116_207, e116_211, e116_222, e116_227, e116_228, e116_229, one_and1, one_ne, q, mg_0, mg_1, ms_27, mg_27, n7, nk_0, nk_1, nk_2, nk_3, nk_4, nk_5, nk_6, mt_12 (show 7 * c 0 + 0 < 210 by omega), mt_12 (show 7 * c 0 + 1 < 210 by omega), mt_12 (show 7 * c 0 + 2 < 210 by omega), mt_12 (show 7 * c 0 + 3 < 210 by omega), mt_12 (show 7 * c 0 + 4 < 210 by omega), mt_12 (show 7 * c 0 + 5 < 210 by omega), mt_12 (show 7 * c 0 + 6 < 210 by omega), eq_false hj, w, vs_0, vs_1, vs_2, vs_3, vs_n, vN_, u5_0, u5_1, u5_2, u5_3, u5_4, u5_5, t_0, t_1, t_2, t_3, te_0, te_1, te_2, te_3, K0_v, K0_n, K0_x, K2_v, K2_n, K1_v, K1_n, K1_x, bI_s, bJ_s, bV_s, bS_s, l_10, l_00, bz_01, bz_0, bz_1, em_n, if_true, if_false, ite_not, ite_true, ite_false, not_true_eq_false, not_false_eq_true, or_true, true_or]
theorem u2_u2 (c : Nat → Nat) (k a b : Nat) : u2 (u2 c k a) k b = u2 c k b := by
  funext j
  unfold u2
  split <;> rfl
theorem jr_al (x y : Nat → Int32) : (((((((x 5 ≠ 2 ∨ x 6 = y 6) ∧ x 0 = y 0) ∧ x 1 = y 1) ∧ x 2 = y 2) ∧ x 3 = y 3) ∧ x 4 = y 4) ∧ x 5 = y 5) ↔ jr x y := Iff.rfl
noncomputable def tj (f : Nat → Nat → Int32) (N K t : Nat) : Nat := if (((((((h7 (f 12) K) 5 ≠ 2 ∨ (h7 (f 12) K) 6 = (h7 (f 12) N) 6) ∧ (h7 (f 12) K) 0 = (h7 (f 12) N) 0) ∧ (h7 (f 12) K) 1 = (h7 (f 12) N) 1) ∧ (h7 (f 12) K) 2 = (h7 (f 12) N) 2) ∧ (h7 (f 12) K) 3 = (h7 (f 12) N) 3) ∧ (h7 (f 12) K) 4 = (h7 (f 12) N) 4) ∧ (h7 (f 12) K) 5 = (h7 (f 12) N) 5 then 2 else t
theorem l_116 (hc : c 0 < 30) {a b d e i j k l8 l9 : Int32} : ∀ m K t, K + m = c 0 → mm_L 116 232 [.ref 11, .int a, .int b, .int d, .int e, .int i, .int j, .int k, .int l8, .int l9, .int (nI K)] [] (MW σ (vN (u2 c 5 t)) f) = mm_L 116 272 [.ref 11, .int a, .int b, .int d, .int e, .int i, .int j, .int k, .int l8, .int l9, .int (nI (c 0))] [] (MW σ (vN (u2 c 5 (up (tj f (c 0)) m K t))) f)
  | 0, K, t, h => by
    have e : K = c 0 := by omega
    subst e
    have q := eq_true (nI_le (a := c 0) (b := c 0) (by omega) (by omega))
    rw [e116_232]
    simp only [mg_0, vN_, u5_0, q, e116_238, K0_v, K0_n, K0_x, K2_v, K2_n, K1_v, K1_n, K1_x, bI_s, bJ_s, bV_s, bS_s, l_10, l_00, bz_01, bz_0, bz_1, em_n, if_true, if_false, ite_not, ite_true, ite_false, not_true_eq_false, not_false_eq_true, or_true, true_or, up]
  | m + 1, K, t, h => by
    have hk : K < c 0 := by omega
    have q := eq_false (nI_ge (a := K) (b := c 0) hk (by omega))
    rw [e116_232]
    simp only [mg_0, vN_, u5_0, u5_5, q, e116_238, e116_241, e116_249, Mo_115, c_115 (show K < 30 by omega) (show c 0 < 30 by omega), e116_252, e116_255, e116_259, mg_27, e116_263, ms_27, e116_266, vs_2, vs_n, u2_u2, nI_1, K0_v, K0_n, K0_x, K2_v, K2_n, K1_v, K1_n, K1_x, bI_s, bJ_s, bV_s, bS_s, l_10, l_00, bz_01, bz_0, bz_1, em_n, if_true, if_false, ite_not, ite_true, ite_false, not_true_eq_false, not_false_eq_true, or_true, true_or]
    rw [l_116 hc m (K + 1) 2 (by omega), l_116 hc m (K + 1) t (by omega)]
    simp only [up]
    unfold tj
    split <;> rfl
theorem tj_2 {f : Nat → Nat → Int32} {N : Nat} : ∀ m K, up (tj f N) m K 2 = 2
  | 0, K => rfl
  | m + 1, K => by
    show up (tj f N) m (K + 1) (tj f N K 2) = 2
    have : tj f N K 2 = 2 := by unfold tj; split <;> rfl
    rw [this]
    exact tj_2 m (K + 1)
theorem tj_02 {f : Nat → Nat → Int32} {N : Nat} : ∀ m K, up (tj f N) m K 0 = 0 ∨ up (tj f N) m K 0 = 2
  | 0, K => Or.inl rfl
  | m + 1, K => by
    show up (tj f N) m (K + 1) (tj f N K 0) = 0 ∨ up (tj f N) m (K + 1) (tj f N K 0) = 2
    have : tj f N K 0 = 0 ∨ tj f N K 0 = 2 := by
      unfold tj
      split
      · exact Or.inr rfl
      · exact Or.inl rfl
    rcases this with q | q <;> rw [q]
    · exact tj_02 m (K + 1)
    · exact Or.inr (tj_2 m (K + 1))
theorem c_116j {a b d e i j k : Int32} (h1 : U6 a b d e i j) (h2 : U7 a j k) (hc : c 0 < 30) (ht : up (tj (w7 f 12 (c 0) (f7 a b d e i j k)) (c 0)) (c 0) 0 0 = 2) : mm_M 116 [.ref 11, .int a, .int b, .int d, .int e, .int i, .int j, .int k] (MW σ (vN c) f) = some (.inl (some (.int 0)), MW σ (vN (u2 c 5 2)) (w7 f 12 (c 0) (f7 a b d e i j k))) := by
  rw [s116e h1 h2 hc]
  have l := l_116 (σ := σ) (c := c) (f := w7 f 12 (c 0) (f7 a b d e i j k)) hc (a := a) (b := b) (d := d) (e := e) (i := i) (j := j) (k := k) (l8 := 1) (l9 := nI (7 * c 0)) (c 0) 0 0 (by omega)
  rw [nI_0] at l
  rw [l, ht]
  simp only [e116_272, e116_276, e116_279, mg_27, vs_0, vs_1, vs_2, vs_3, vs_n, vN_, u5_0, u5_1, u5_2, u5_3, u5_4, u5_5, t_0, t_1, t_2, t_3, te_0, te_1, te_2, te_3, K0_v, K0_n, K0_x, K2_v, K2_n, K1_v, K1_n, K1_x, bI_s, bJ_s, bV_s, bS_s, l_10, l_00, bz_01, bz_0, bz_1, em_n, if_true, if_false, ite_not, ite_true, ite_false, not_true_eq_false, not_false_eq_true, or_true, true_or]
theorem c_116 {a b d e i j k : Int32} (h1 : U6 a b d e i j) (h2 : U7 a j k) (hc : c 0 < 30) (ht : up (tj (w7 f 12 (c 0) (f7 a b d e i j k)) (c 0)) (c 0) 0 0 = 0) : mm_M 116 [.ref 11, .int a, .int b, .int d, .int e, .int i, .int j, .int k] (MW σ (vN c) f) = some (.inl (some (.int (nI (c 0)))), MW σ (vN (u2 (u2 c 5 0) 0 (c 0 + 1))) (w7 f 12 (c 0) (f7 a b d e i j k))) := by
  rw [s116e h1 h2 hc]
  have l := l_116 (σ := σ) (c := c) (f := w7 f 12 (c 0) (f7 a b d e i j k)) hc (a := a) (b := b) (d := d) (e := e) (i := i) (j := j) (k := k) (l8 := 1) (l9 := nI (7 * c 0)) (c 0) 0 0 (by omega)
  rw [nI_0] at l
  rw [l, ht]
  simp only [e116_272, e116_276, e116_279, e116_281, e116_286, e116_291, e116_295, mg_27, mg_0, ms_0, nI_1, nI_pred, u2_s, vs_0, vs_1, vs_2, vs_3, vs_n, vN_, u5_0, u5_1, u5_2, u5_3, u5_4, u5_5, t_0, t_1, t_2, t_3, te_0, te_1, te_2, te_3, K0_v, K0_n, K0_x, K2_v, K2_n, K1_v, K1_n, K1_x, bI_s, bJ_s, bV_s, bS_s, l_10, l_00, bz_01, bz_0, bz_1, em_n, if_true, if_false, ite_not, ite_true, ite_false, not_true_eq_false, not_false_eq_true, or_true, true_or]
end
