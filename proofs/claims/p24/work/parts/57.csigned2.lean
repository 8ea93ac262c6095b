/-! LEVEL 2: the class's signed, at, readBack -/
section
variable {σ : mm_S} {tg : Nat → Nat × Nat} {ad : Nat × Nat → Nat} {c : Nat → Nat} {g : Nat → Nat → Int32} {n : Nat}
theorem c_68x {p q : Int32} (h : ¬ (0 ≤ p ∧ p < nI (c 1))) : mm_M 68 [.ref 2, .int p, .int q] (CW σ tg ad c g) = some (.inr 2, mm_bmp (CW σ tg ad c g) 1 6) := by
  simp only [M_68, e68_0, aM_53, c_53x h, K0_v, K0_n, K0_x, K2_v, K2_n, K1_v, K1_n, K1_x, bI_s, bJ_s, bV_s, bS_s, l_10, l_00, bz_01, bz_0, bz_1, em_n, if_true, if_false, ite_not, ite_true, ite_false, not_true_eq_false, not_false_eq_true, or_true, true_or]
theorem c_68y {p q : Int32} (h : 0 ≤ p ∧ p < nI (c 1)) (hq : ¬ (0 ≤ q ∧ q < 9)) : mm_M 68 [.ref 2, .int p, .int q] (CW σ tg ad c g) = some (.inr 0, mm_bmp (CW σ tg ad c g) 1 6) := by
  simp only [M_68, e68_0, e68_5, e68_11, e68_14, aM_53, c_53 h, c_101, eq_false hq, K0_v, K0_n, K0_x, K2_v, K2_n, K1_v, K1_n, K1_x, bI_s, bJ_s, bV_s, bS_s, l_10, l_00, bz_01, bz_0, bz_1, em_n, if_true, if_false, ite_not, ite_true, ite_false, not_true_eq_false, not_false_eq_true, or_true, true_or]
def sv (g : Nat → Nat → Int32) (k : Nat) (q : Nat) : Int32 := if q < 6 then g 33 (7 * k + q) else g 35 (3 * k + (q - 6))
theorem c_68 (w : WF tg ad c n) (hv : VI g (c 0) (c 1)) (hu : LU g (c 1)) {k q : Nat} (hk : k < c 1) (hq : q < 9) : mm_M 68 [.ref 2, .int (nI k), .int (nI q)] (CW σ tg ad c g) = some (.inl (some (.int (sv (sga (c 1) (c 3) g) k q))), CW σ tg ad c (sga (c 1) (c 3) g)) := by
  obtain ⟨L2, L3, L4⟩ := w.i hk
  have hc := w.1.2.1
  have q9 := eq_true (show 0 ≤ nI q ∧ nI q < 9 from ⟨nI_pos' (by omega), show nI q < nI 9 from nI_lt hq (by decide)⟩)
  have key : mm_M 68 [.ref 2, .int (nI k), .int (nI q)] (CW σ tg ad c g) = mm_L 68 39 [.ref 2, .int (nI k), .int (nI q), mm_un] [.ref (ad (2, k))] (CW σ tg ad c (sga (c 1) (c 3) g)) := by
    simp only [M_68, e68_0, e68_5, e68_11, e68_14, e68_24, e68_28, e68_32, e68_36, aM_53, c_53 (ir w hk), c_101, q9, aM_71, c_71 w hv hu, cf_1, cg_4 hk (by omega), ck_2 L2, K0_v, K0_n, K0_x, K2_v, K2_n, K1_v, K1_n, K1_x, bI_s, bJ_s, bV_s, bS_s, l_10, l_00, bz_01, bz_0, bz_1, em_n, if_true, if_false, ite_not, ite_true, ite_false, not_true_eq_false, not_false_eq_true, or_true, true_or]
  rw [key, e68_39]
  have e : q = 0 ∨ q = 1 ∨ q = 2 ∨ q = 3 ∨ q = 4 ∨ q = 5 ∨ q = 6 ∨ q = 7 ∨ q = 8 := by omega
  rcases e with e | e | e | e | e | e | e | e | e <;> subst e
  · rw [if_pos (by decide)]
    simp only [e68_88, e68_92, e68_95, e68_96, e68_100, e68_103, e68_104, e68_108, e68_111, e68_112, e68_116, e68_119, e68_120, e68_124, e68_127, e68_128, e68_132, e68_135, e68_136, e68_140, e68_141, e68_145, e68_146, e68_150, cr_2_4 L2, ci_4_0 L4, K0_v, K0_n, K0_x, K2_v, K2_n, K1_v, K1_n, K1_x, bI_s, bJ_s, bV_s, bS_s, l_10, l_00, bz_01, bz_0, bz_1, em_n, if_true, if_false, ite_not, ite_true, ite_false, not_true_eq_false, not_false_eq_true, or_true, true_or]; rfl
  · rw [if_neg (by decide), if_pos (by decide)]
    simp only [e68_88, e68_92, e68_95, e68_96, e68_100, e68_103, e68_104, e68_108, e68_111, e68_112, e68_116, e68_119, e68_120, e68_124, e68_127, e68_128, e68_132, e68_135, e68_136, e68_140, e68_141, e68_145, e68_146, e68_150, cr_2_4 L2, ci_4_1 L4, K0_v, K0_n, K0_x, K2_v, K2_n, K1_v, K1_n, K1_x, bI_s, bJ_s, bV_s, bS_s, l_10, l_00, bz_01, bz_0, bz_1, em_n, if_true, if_false, ite_not, ite_true, ite_false, not_true_eq_false, not_false_eq_true, or_true, true_or]; rfl
  · rw [if_neg (by decide), if_neg (by decide), if_pos (by decide)]
    simp only [e68_88, e68_92, e68_95, e68_96, e68_100, e68_103, e68_104, e68_108, e68_111, e68_112, e68_116, e68_119, e68_120, e68_124, e68_127, e68_128, e68_132, e68_135, e68_136, e68_140, e68_141, e68_145, e68_146, e68_150, cr_2_4 L2, ci_4_2 L4, K0_v, K0_n, K0_x, K2_v, K2_n, K1_v, K1_n, K1_x, bI_s, bJ_s, bV_s, bS_s, l_10, l_00, bz_01, bz_0, bz_1, em_n, if_true, if_false, ite_not, ite_true, ite_false, not_true_eq_false, not_false_eq_true, or_true, true_or]; rfl
  · rw [if_neg (by decide), if_neg (by decide), if_neg (by decide), if_pos (by decide)]
    simp only [e68_88, e68_92, e68_95, e68_96, e68_100, e68_103, e68_104, e68_108, e68_111, e68_112, e68_116, e68_119, e68_120, e68_124, e68_127, e68_128, e68_132, e68_135, e68_136, e68_140, e68_141, e68_145, e68_146, e68_150, cr_2_4 L2, ci_4_3 L4, K0_v, K0_n, K0_x, K2_v, K2_n, K1_v, K1_n, K1_x, bI_s, bJ_s, bV_s, bS_s, l_10, l_00, bz_01, bz_0, bz_1, em_n, if_true, if_false, ite_not, ite_true, ite_false, not_true_eq_false, not_false_eq_true, or_true, true_or]; rfl
  · rw [if_neg (by decide), if_neg (by decide), if_neg (by decide), if_neg (by decide), if_pos (by decide)]
    simp only [e68_88, e68_92, e68_95, e68_96, e68_100, e68_103, e68_104, e68_108, e68_111, e68_112, e68_116, e68_119, e68_120, e68_124, e68_127, e68_128, e68_132, e68_135, e68_136, e68_140, e68_141, e68_145, e68_146, e68_150, cr_2_4 L2, ci_4_4 L4, K0_v, K0_n, K0_x, K2_v, K2_n, K1_v, K1_n, K1_x, bI_s, bJ_s, bV_s, bS_s, l_10, l_00, bz_01, bz_0, bz_1, em_n, if_true, if_false, ite_not, ite_true, ite_false, not_true_eq_false, not_false_eq_true, or_true, true_or]; rfl
  · rw [if_neg (by decide), if_neg (by decide), if_neg (by decide), if_neg (by decide), if_neg (by decide), if_pos (by decide)]
    simp only [e68_88, e68_92, e68_95, e68_96, e68_100, e68_103, e68_104, e68_108, e68_111, e68_112, e68_116, e68_119, e68_120, e68_124, e68_127, e68_128, e68_132, e68_135, e68_136, e68_140, e68_141, e68_145, e68_146, e68_150, cr_2_4 L2, ci_4_5 L4, K0_v, K0_n, K0_x, K2_v, K2_n, K1_v, K1_n, K1_x, bI_s, bJ_s, bV_s, bS_s, l_10, l_00, bz_01, bz_0, bz_1, em_n, if_true, if_false, ite_not, ite_true, ite_false, not_true_eq_false, not_false_eq_true, or_true, true_or]; rfl
  · rw [if_neg (by decide), if_neg (by decide), if_neg (by decide), if_neg (by decide), if_neg (by decide), if_neg (by decide), if_pos (by decide)]
    simp only [e68_88, e68_92, e68_95, e68_96, e68_100, e68_103, e68_104, e68_108, e68_111, e68_112, e68_116, e68_119, e68_120, e68_124, e68_127, e68_128, e68_132, e68_135, e68_136, e68_140, e68_141, e68_145, e68_146, e68_150, ci_2_5 L2, K0_v, K0_n, K0_x, K2_v, K2_n, K1_v, K1_n, K1_x, bI_s, bJ_s, bV_s, bS_s, l_10, l_00, bz_01, bz_0, bz_1, em_n, if_true, if_false, ite_not, ite_true, ite_false, not_true_eq_false, not_false_eq_true, or_true, true_or]; rfl
  · rw [if_neg (by decide), if_neg (by decide), if_neg (by decide), if_neg (by decide), if_neg (by decide), if_neg (by decide), if_neg (by decide), if_pos (by decide)]
    simp only [e68_88, e68_92, e68_95, e68_96, e68_100, e68_103, e68_104, e68_108, e68_111, e68_112, e68_116, e68_119, e68_120, e68_124, e68_127, e68_128, e68_132, e68_135, e68_136, e68_140, e68_141, e68_145, e68_146, e68_150, ci_2_6 L2, K0_v, K0_n, K0_x, K2_v, K2_n, K1_v, K1_n, K1_x, bI_s, bJ_s, bV_s, bS_s, l_10, l_00, bz_01, bz_0, bz_1, em_n, if_true, if_false, ite_not, ite_true, ite_false, not_true_eq_false, not_false_eq_true, or_true, true_or]; rfl
  · rw [if_neg (by decide), if_neg (by decide), if_neg (by decide), if_neg (by decide), if_neg (by decide), if_neg (by decide), if_neg (by decide), if_neg (by decide)]
    simp only [e68_88, e68_92, e68_95, e68_96, e68_100, e68_103, e68_104, e68_108, e68_111, e68_112, e68_116, e68_119, e68_120, e68_124, e68_127, e68_128, e68_132, e68_135, e68_136, e68_140, e68_141, e68_145, e68_146, e68_150, ci_2_7 L2, K0_v, K0_n, K0_x, K2_v, K2_n, K1_v, K1_n, K1_x, bI_s, bJ_s, bV_s, bS_s, l_10, l_00, bz_01, bz_0, bz_1, em_n, if_true, if_false, ite_not, ite_true, ite_false, not_true_eq_false, not_false_eq_true, or_true, true_or]; rfl
-- at
theorem c_69x {p q : Int32} (h : ¬ 0 ≤ p) : mm_M 69 [.ref 2, .int p, .int q] (CW σ tg ad c g) = some (.inr 2, mm_bmp (CW σ tg ad c g) 1 6) := by
  simp only [M_69, e69_0, e69_4, e69_15, eq_false h, K0_v, K0_n, K0_x, K2_v, K2_n, K1_v, K1_n, K1_x, bI_s, bJ_s, bV_s, bS_s, l_10, l_00, bz_01, bz_0, bz_1, em_n, if_true, if_false, ite_not, ite_true, ite_false, not_true_eq_false, not_false_eq_true, or_true, true_or]
theorem c_69y {p q : Int32} (h : 0 ≤ p) (hq : ¬ (0 ≤ q ∧ q < 8)) : mm_M 69 [.ref 2, .int p, .int q] (CW σ tg ad c g) = some (.inr 0, mm_bmp (CW σ tg ad c g) 1 6) := by
  simp only [M_69, e69_0, e69_4, e69_15, e69_21, e69_24, eq_true h, c_101, eq_false hq, K0_v, K0_n, K0_x, K2_v, K2_n, K1_v, K1_n, K1_x, bI_s, bJ_s, bV_s, bS_s, l_10, l_00, bz_01, bz_0, bz_1, em_n, if_true, if_false, ite_not, ite_true, ite_false, not_true_eq_false, not_false_eq_true, or_true, true_or]
/-- what at answers, when the item at the tick is K -/
noncomputable def av (g : Nat → Nat → Int32) (F : Nat) (t : Int32) (K : Nat) (q : Nat) : Int32 :=
  if q = 0 then g 33 (7 * K + 0)
  else if q = 1 then (if t < g 35 (3 * K + 1) then cw (if 0 < K then g 33 (7 * (K - 1) + 2) else g 33 (7 * K + 1)) (g 33 (7 * K + 1)) (t - g 35 (3 * K + 0) + 1) else cw (g 33 (7 * K + 1)) (g 33 (7 * K + 2)) (sd g K t))
  else if q = 2 then (if t < g 35 (3 * K + 1) then g 33 (7 * K + 3) else if sd g K t ≤ 0 then g 33 (7 * K + 3) else g 33 (7 * K + 4))
  else if q = 3 then (if t < g 35 (3 * K + 1) then 0 else g 33 (7 * K + 5))
  else if q = 7 then nI K
  else fs g F (nI q - 4) (K + 1)
theorem av_1 {F : Nat} {t : Int32} {K : Nat} : av g F t K 1 = if t < g 35 (3 * K + 1) then cw (if 0 < K then g 33 (7 * (K - 1) + 2) else g 33 (7 * K + 1)) (g 33 (7 * K + 1)) (t - g 35 (3 * K + 0) + 1) else cw (g 33 (7 * K + 1)) (g 33 (7 * K + 2)) (sd g K t) := rfl
theorem av_2 {F : Nat} {t : Int32} {K : Nat} : av g F t K 2 = if t < g 35 (3 * K + 1) then g 33 (7 * K + 3) else if sd g K t ≤ 0 then g 33 (7 * K + 3) else g 33 (7 * K + 4) := rfl
theorem av_3 {F : Nat} {t : Int32} {K : Nat} : av g F t K 3 = if t < g 35 (3 * K + 1) then 0 else g 33 (7 * K + 5) := rfl
theorem c_69n (w : WF tg ad c n) (hv : VI g (c 0) (c 1)) (hu : LU g (c 1)) {t q : Int32} (ht : 0 ≤ t) (hq : 0 ≤ q ∧ q < 8) (hK : fi (fun k => t < sga (c 1) (c 3) g 35 (3 * k + 2)) (c 1) 0 = none) : mm_M 69 [.ref 2, .int t, .int q] (CW σ tg ad c g) = some (.inl (some (.int (-1))), CW σ tg ad c (sga (c 1) (c 3) g)) := by
  have e := c_74 (σ := σ) (g := sga (c 1) (c 3) g) w t
  rw [hK] at e
  have z : ¬ (0 ≤ fo none ∧ fo none < nI (c 1)) := fun y => absurd y.1 (by decide)
  simp only [M_69, e69_0, e69_4, e69_15, e69_21, e69_24, e69_34, e69_38, e69_43, e69_49, e69_52, e69_55, e69_58, e69_60, eq_true ht, c_101, eq_true hq, aM_71, c_71 w hv hu, aM_74, e, cf_1, cz_4, eq_false z, K0_v, K0_n, K0_x, K2_v, K2_n, K1_v, K1_n, K1_x, bI_s, bJ_s, bV_s, bS_s, l_10, l_00, bz_01, bz_0, bz_1, em_n, if_true, if_false, ite_not, ite_true, ite_false, not_true_eq_false, not_false_eq_true, or_true, true_or]
theorem c_69 (w : WF tg ad c n) (hv : VI g (c 0) (c 1)) (hu : LU g (c 1)) {t : Int32} {q K : Nat} (ht : 0 ≤ t) (hq : q < 8) (hK : fi (fun k => t < sga (c 1) (c 3) g 35 (3 * k + 2)) (c 1) 0 = some K) (hK1 : K < c 1) : mm_M 69 [.ref 2, .int t, .int (nI q)] (CW σ tg ad c g) = some (.inl (some (.int (av (sga (c 1) (c 3) g) (c 2) t K q))), CW σ tg ad c (sga (c 1) (c 3) g)) := by
  obtain ⟨L2, L3, L4⟩ := w.i hK1
  have hc := w.1.2.1
  have e := c_74 (σ := σ) (g := sga (c 1) (c 3) g) w t
  rw [hK] at e
  have e' : fo (some K) = nI K := rfl
  rw [e'] at e
  have q8 := eq_true (show 0 ≤ nI q ∧ nI q < 8 from ⟨nI_pos' (by omega), show nI q < nI 8 from nI_lt hq (by decide)⟩)
  have key : mm_M 69 [.ref 2, .int t, .int (nI q)] (CW σ tg ad c g) = mm_L 69 87 [.ref 2, .int t, .int (nI q), .int (nI K), .ref (ad (2, K)), mm_un] [.int (bz (t < sga (c 1) (c 3) g 35 (3 * K + 1)))] (CW σ tg ad c (sga (c 1) (c 3) g)) := by
    by_cases h : t < sga (c 1) (c 3) g 35 (3 * K + 1)
    · rw [bz_t h]
      simp only [M_69, e69_0, e69_4, e69_15, e69_21, e69_24, e69_34, e69_38, e69_43, e69_49, e69_52, e69_55, e69_58, e69_60, e69_64, e69_68, e69_71, e69_79, e69_82, e69_86, eq_true ht, c_101, q8, aM_71, c_71 w hv hu, aM_74, e, cf_1, cz_4, eq_true (ir w hK1), cg_4 hK1 (by omega), ck_2 L2, ci_2_6 L2, eq_false (nle_of_lt h), K0_v, K0_n, K0_x, K2_v, K2_n, K1_v, K1_n, K1_x, bI_s, bJ_s, bV_s, bS_s, l_10, l_00, bz_01, bz_0, bz_1, em_n, if_true, if_false, ite_not, ite_true, ite_false, not_true_eq_false, not_false_eq_true, or_true, true_or]
    · rw [bz_f h]
      simp only [M_69, e69_0, e69_4, e69_15, e69_21, e69_24, e69_34, e69_38, e69_43, e69_49, e69_52, e69_55, e69_58, e69_60, e69_64, e69_68, e69_71, e69_79, e69_82, e69_86, eq_true ht, c_101, q8, aM_71, c_71 w hv hu, aM_74, e, cf_1, cz_4, eq_true (ir w hK1), cg_4 hK1 (by omega), ck_2 L2, ci_2_6 L2, eq_true (Int32.not_lt.mp h), K0_v, K0_n, K0_x, K2_v, K2_n, K1_v, K1_n, K1_x, bI_s, bJ_s, bV_s, bS_s, l_10, l_00, bz_01, bz_0, bz_1, em_n, if_true, if_false, ite_not, ite_true, ite_false, not_true_eq_false, not_false_eq_true, or_true, true_or]
  rw [key, e69_87]
  generalize sga (c 1) (c 3) g = G
  have e : q = 0 ∨ q = 1 ∨ q = 2 ∨ q = 3 ∨ q = 4 ∨ q = 5 ∨ q = 6 ∨ q = 7 := by omega
  have fq : ∀ x : Int32, mm_M 50 [.ref 2, .int (nI K), .int x] (CW σ tg ad c G) = some (.inl (some (.int (fs G (c 2) x (K + 1)))), CW σ tg ad c G) := fun x => c_50 w hK1 x
  rcases e with e | e | e | e | e | e | e | e <;> subst e
  · rw [if_pos (by decide)]
    simp only [e69_136, e69_141, e69_144, e69_145, e69_150, e69_156, e69_159, e69_165, e69_166, e69_171, e69_176, e69_179, e69_182, e69_188, e69_189, e69_194, e69_198, e69_203, e69_206, e69_207, e69_209, e69_217, cr_2_4 L2, ci_4_0 L4, K0_v, K0_n, K0_x, K2_v, K2_n, K1_v, K1_n, K1_x, bI_s, bJ_s, bV_s, bS_s, l_10, l_00, bz_01, bz_0, bz_1, em_n, if_true, if_false, ite_not, ite_true, ite_false, not_true_eq_false, not_false_eq_true, or_true, true_or]; rfl
  · rw [if_neg (by decide), if_pos (by decide)]
    simp only [e69_136, e69_141, e69_144, e69_145, e69_150, e69_156, e69_159, e69_165, e69_166, e69_171, e69_176, e69_179, e69_182, e69_188, e69_189, e69_194, e69_198, e69_203, e69_206, e69_207, e69_209, e69_217, aM_75, c_75 w hK1, c_76 w hK1, K0_v, K0_n, K0_x, K2_v, K2_n, K1_v, K1_n, K1_x, bI_s, bJ_s, bV_s, bS_s, l_10, l_00, bz_01, bz_0, bz_1, em_n, if_true, if_false, ite_not, ite_true, ite_false, not_true_eq_false, not_false_eq_true, or_true, true_or]
    rw [av_1]
    by_cases h : t < G 35 (3 * K + 1)
    · simp only [eq_true h, K0_v, K0_n, K0_x, K2_v, K2_n, K1_v, K1_n, K1_x, bI_s, bJ_s, bV_s, bS_s, l_10, l_00, bz_01, bz_0, bz_1, em_n, if_true, if_false, ite_not, ite_true, ite_false, not_true_eq_false, not_false_eq_true, or_true, true_or]
    · simp only [eq_false h, K0_v, K0_n, K0_x, K2_v, K2_n, K1_v, K1_n, K1_x, bI_s, bJ_s, bV_s, bS_s, l_10, l_00, bz_01, bz_0, bz_1, em_n, if_true, if_false, ite_not, ite_true, ite_false, not_true_eq_false, not_false_eq_true, or_true, true_or]
  · rw [if_neg (by decide), if_neg (by decide), if_pos (by decide)]
    simp only [e69_136, e69_141, e69_144, e69_145, e69_150, e69_156, e69_159, e69_165, e69_166, e69_171, e69_176, e69_179, e69_182, e69_188, e69_189, e69_194, e69_198, e69_203, e69_206, e69_207, e69_209, e69_217, cr_2_4 L2, ci_4_3 L4, c_77 w hK1, K0_v, K0_n, K0_x, K2_v, K2_n, K1_v, K1_n, K1_x, bI_s, bJ_s, bV_s, bS_s, l_10, l_00, bz_01, bz_0, bz_1, em_n, if_true, if_false, ite_not, ite_true, ite_false, not_true_eq_false, not_false_eq_true, or_true, true_or]
    rw [av_2]
    by_cases h : t < G 35 (3 * K + 1)
    · simp only [eq_true h, K0_v, K0_n, K0_x, K2_v, K2_n, K1_v, K1_n, K1_x, bI_s, bJ_s, bV_s, bS_s, l_10, l_00, bz_01, bz_0, bz_1, em_n, if_true, if_false, ite_not, ite_true, ite_false, not_true_eq_false, not_false_eq_true, or_true, true_or]
    · simp only [eq_false h, K0_v, K0_n, K0_x, K2_v, K2_n, K1_v, K1_n, K1_x, bI_s, bJ_s, bV_s, bS_s, l_10, l_00, bz_01, bz_0, bz_1, em_n, if_true, if_false, ite_not, ite_true, ite_false, not_true_eq_false, not_false_eq_true, or_true, true_or]
  · rw [if_neg (by decide), if_neg (by decide), if_neg (by decide), if_pos (by decide)]
    simp only [e69_136, e69_141, e69_144, e69_145, e69_150, e69_156, e69_159, e69_165, e69_166, e69_171, e69_176, e69_179, e69_182, e69_188, e69_189, e69_194, e69_198, e69_203, e69_206, e69_207, e69_209, e69_217, cr_2_4 L2, ci_4_5 L4, K0_v, K0_n, K0_x, K2_v, K2_n, K1_v, K1_n, K1_x, bI_s, bJ_s, bV_s, bS_s, l_10, l_00, bz_01, bz_0, bz_1, em_n, if_true, if_false, ite_not, ite_true, ite_false, not_true_eq_false, not_false_eq_true, or_true, true_or]
    rw [av_3]
    by_cases h : t < G 35 (3 * K + 1)
    · simp only [eq_true h, K0_v, K0_n, K0_x, K2_v, K2_n, K1_v, K1_n, K1_x, bI_s, bJ_s, bV_s, bS_s, l_10, l_00, bz_01, bz_0, bz_1, em_n, if_true, if_false, ite_not, ite_true, ite_false, not_true_eq_false, not_false_eq_true, or_true, true_or]
    · simp only [eq_false h, K0_v, K0_n, K0_x, K2_v, K2_n, K1_v, K1_n, K1_x, bI_s, bJ_s, bV_s, bS_s, l_10, l_00, bz_01, bz_0, bz_1, em_n, if_true, if_false, ite_not, ite_true, ite_false, not_true_eq_false, not_false_eq_true, or_true, true_or]
  · rw [if_neg (by decide), if_neg (by decide), if_neg (by decide), if_neg (by decide), if_pos (by decide)]
    simp only [e69_136, e69_141, e69_144, e69_145, e69_150, e69_156, e69_159, e69_165, e69_166, e69_171, e69_176, e69_179, e69_182, e69_188, e69_189, e69_194, e69_198, e69_203, e69_206, e69_207, e69_209, e69_217, aM_50, fq, K0_v, K0_n, K0_x, K2_v, K2_n, K1_v, K1_n, K1_x, bI_s, bJ_s, bV_s, bS_s, l_10, l_00, bz_01, bz_0, bz_1, em_n, if_true, if_false, ite_not, ite_true, ite_false, not_true_eq_false, not_false_eq_true, or_true, true_or]; rfl
  · rw [if_neg (by decide), if_neg (by decide), if_neg (by decide), if_neg (by decide), if_neg (by decide), if_pos (by decide)]
    simp only [e69_136, e69_141, e69_144, e69_145, e69_150, e69_156, e69_159, e69_165, e69_166, e69_171, e69_176, e69_179, e69_182, e69_188, e69_189, e69_194, e69_198, e69_203, e69_206, e69_207, e69_209, e69_217, aM_50, fq, K0_v, K0_n, K0_x, K2_v, K2_n, K1_v, K1_n, K1_x, bI_s, bJ_s, bV_s, bS_s, l_10, l_00, bz_01, bz_0, bz_1, em_n, if_true, if_false, ite_not, ite_true, ite_false, not_true_eq_false, not_false_eq_true, or_true, true_or]; rfl
  · rw [if_neg (by decide), if_neg (by decide), if_neg (by decide), if_neg (by decide), if_neg (by decide), if_neg (by decide), if_pos (by decide)]
    simp only [e69_136, e69_141, e69_144, e69_145, e69_150, e69_156, e69_159, e69_165, e69_166, e69_171, e69_176, e69_179, e69_182, e69_188, e69_189, e69_194, e69_198, e69_203, e69_206, e69_207, e69_209, e69_217, aM_50, fq, K0_v, K0_n, K0_x, K2_v, K2_n, K1_v, K1_n, K1_x, bI_s, bJ_s, bV_s, bS_s, l_10, l_00, bz_01, bz_0, bz_1, em_n, if_true, if_false, ite_not, ite_true, ite_false, not_true_eq_false, not_false_eq_true, or_true, true_or]; rfl
  · rw [if_neg (by decide), if_neg (by decide), if_neg (by decide), if_neg (by decide), if_neg (by decide), if_neg (by decide), if_neg (by decide), if_pos (by decide)]
    simp only [e69_136, e69_141, e69_144, e69_145, e69_150, e69_156, e69_159, e69_165, e69_166, e69_171, e69_176, e69_179, e69_182, e69_188, e69_189, e69_194, e69_198, e69_203, e69_206, e69_207, e69_209, e69_217, K0_v, K0_n, K0_x, K2_v, K2_n, K1_v, K1_n, K1_x, bI_s, bJ_s, bV_s, bS_s, l_10, l_00, bz_01, bz_0, bz_1, em_n, if_true, if_false, ite_not, ite_true, ite_false, not_true_eq_false, not_false_eq_true, or_true, true_or]; rfl
end
