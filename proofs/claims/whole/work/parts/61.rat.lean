/-! LEVEL 2: the reference's at -/
/-- the item at a tick, and how far into it -/
def wk (r : Nat → Int32) : Nat → Nat → Int32 → Nat × Int32
  | 0, k, t => (k, t)
  | m + 1, k, t => if t < tmq r k + tmk (h7 r k) then (k, t) else wk r m (k + 1) (t - (tmq r k + tmk (h7 r k)))
theorem wk_le (r : Nat → Int32) : ∀ m k t, (wk r m k t).1 ≤ k + m
  | 0, k, t => Nat.le_refl _
  | m + 1, k, t => by
    have ih := wk_le r m (k + 1) (t - (tmq r k + tmk (h7 r k)))
    unfold wk
    split
    · exact Nat.le_add_right _ _
    · omega
theorem wk_0 (r : Nat → Int32) : ∀ m k t, k ≤ (wk r m k t).1 ∧ ((wk r m k t).1 = k → (wk r m k t).2 = t)
  | 0, k, t => ⟨Nat.le_refl _, fun _ => rfl⟩
  | m + 1, k, t => by
    have ih := wk_0 r m (k + 1) (t - (tmq r k + tmk (h7 r k)))
    unfold wk
    split
    · exact ⟨Nat.le_refl _, fun _ => rfl⟩
    · exact ⟨by omega, fun z => by omega⟩
def omk (f : Nat → Nat → Int32) (K : Nat) (L : Int32) : Int32 := if (h7 (f 33) K 1 = h7 (f 33) K 2 ∧ h7 (f 33) K 3 = h7 (f 33) K 4) ∨ ¬ 2 ≤ L - tmq (f 33) K then 0 else L - tmq (f 33) K - 1
noncomputable def avm (f : Nat → Nat → Int32) (N : Nat) (K : Nat) (L : Int32) (q : Nat) : Int32 :=
  if q = 7 then nI K
  else if q = 0 then f 33 (7 * K + 0)
  else if 3 < q then fg f (ovv f N (nI (sa f N (nI q - 4) K)) (nI q - 4))
  else if q = 3 then (if L < tmq (f 33) K then 0 else f 33 (7 * K + 5))
  else if L < tmq (f 33) K then (if q = 2 then f 33 (7 * K + 3) else alg (f 33 (7 * (K - 1) + 2)) (f 33 (7 * K + 1)) (aq (L + 1)))
  else if q = 1 then alg (f 33 (7 * K + 1)) (f 33 (7 * K + 2)) (aq (omk f K L))
  else if omk f K L = 0 then f 33 (7 * K + 3) else f 33 (7 * K + 4)
theorem nI_lits : (7 : Int32) = nI 7 ∧ (0 : Int32) = nI 0 ∧ (3 : Int32) = nI 3 ∧ (2 : Int32) = nI 2 ∧ (1 : Int32) = nI 1 := ⟨rfl, rfl, rfl, rfl, rfl⟩
section
variable {σ : mm_S} {c : Nat → Nat} {f : Nat → Nat → Int32}
theorem l_150 (hc1 : c 1 ≤ 14) {p q : Int32} {l5 l6 l7 : Value} : ∀ m k (t : Int32), k + m = c 1 → mm_L 150 45 [.ref 11, .int p, .int q, .int (nI k), .int t, l5, l6, l7] [] (MW σ (vN c) f) = mm_L 150 91 [.ref 11, .int p, .int q, .int (nI (wk (f 33) m k t).1), .int (wk (f 33) m k t).2, l5, l6, l7] [] (MW σ (vN c) f)
  | 0, k, t, h => by
    have e : k = c 1 := by omega
    have z := eq_true (nI_le (a := c 1) (b := k) (by omega) (by omega))
    rw [e150_45]
    simp only [mg_2, vN_, z, e150_50, wk, K0_v, K0_n, K0_x, K2_v, K2_n, K1_v, K1_n, K1_x, bI_s, bJ_s, bV_s, bS_s, l_10, l_00, bz_01, bz_0, bz_1, em_n, if_true, if_false, ite_not, ite_true, ite_false, not_true_eq_false, not_false_eq_true, or_true, true_or]
  | m + 1, k, t, h => by
    have z := eq_false (nI_ge (a := k) (b := c 1) (by omega) (by omega))
    have ih := l_150 hc1 (p := p) (q := q) (l5 := l5) (l6 := l6) (l7 := l7) m (k + 1) (t - (tmq (f 33) k + tmk (h7 (f 33) k))) (by omega)
    have hk : k < 14 := by omega
    rw [e150_45]
    unfold wk
    by_cases h2 : t < tmq (f 33) k + tmk (h7 (f 33) k)
    · rw [if_pos h2]
      simp only [mg_2, vN_, z, e150_50, e150_53, e150_60, e150_65, e150_69, e150_76, e150_81, Mo_146, c_146 hk, Mo_145, c_145 hk, eq_true h2, K0_v, K0_n, K0_x, K2_v, K2_n, K1_v, K1_n, K1_x, bI_s, bJ_s, bV_s, bS_s, l_10, l_00, bz_01, bz_0, bz_1, em_n, if_true, if_false, ite_not, ite_true, ite_false, not_true_eq_false, not_false_eq_true, or_true, true_or]
    · rw [if_neg h2, ← ih]
      simp only [mg_2, vN_, z, e150_50, e150_53, e150_60, e150_65, e150_69, e150_76, e150_81, Mo_146, c_146 hk, Mo_145, c_145 hk, eq_false h2, nI_1, K0_v, K0_n, K0_x, K2_v, K2_n, K1_v, K1_n, K1_x, bI_s, bJ_s, bV_s, bS_s, l_10, l_00, bz_01, bz_0, bz_1, em_n, if_true, if_false, ite_not, ite_true, ite_false, not_true_eq_false, not_false_eq_true, or_true, true_or]
theorem c_150x {p q : Int32} (hp : ¬ 0 ≤ p) : mm_M 150 [.ref 11, .int p, .int q] (MW σ (vN c) f) = some (.inl (some (.int 0)), MW σ (vN (u2 c 5 1)) f) := by
  simp only [M_150, e150_0, e150_5, e150_9, e150_16, e150_19, e150_23, e150_24, e150_27, e150_31, e150_34, eq_false hp, ms_27, mg_27, vs_0, vs_1, vs_2, vs_3, vs_n, vN_, u5_0, u5_1, u5_2, u5_3, u5_4, u5_5, t_0, t_1, t_2, t_3, te_0, te_1, te_2, te_3, K0_v, K0_n, K0_x, K2_v, K2_n, K1_v, K1_n, K1_x, bI_s, bJ_s, bV_s, bS_s, l_10, l_00, bz_01, bz_0, bz_1, em_n, if_true, if_false, ite_not, ite_true, ite_false, not_true_eq_false, not_false_eq_true, or_true, true_or]
theorem c_150y {p q : Int32} (hp : 0 ≤ p) (hq : ¬ (0 ≤ q ∧ q ≤ 7)) : mm_M 150 [.ref 11, .int p, .int q] (MW σ (vN c) f) = some (.inl (some (.int 0)), MW σ (vN (u2 c 5 2)) f) := by
  simp only [M_150, e150_0, e150_5, e150_9, e150_16, e150_19, e150_23, e150_24, e150_27, e150_31, e150_34, eq_true hp, c_108, eq_false hq, ms_27, mg_27, vs_0, vs_1, vs_2, vs_3, vs_n, vN_, u5_0, u5_1, u5_2, u5_3, u5_4, u5_5, t_0, t_1, t_2, t_3, te_0, te_1, te_2, te_3, K0_v, K0_n, K0_x, K2_v, K2_n, K1_v, K1_n, K1_x, bI_s, bJ_s, bV_s, bS_s, l_10, l_00, bz_01, bz_0, bz_1, em_n, if_true, if_false, ite_not, ite_true, ite_false, not_true_eq_false, not_false_eq_true, or_true, true_or]
theorem s_150 (hc1 : c 1 ≤ 14) (hc3 : c 3 ≤ 6) (hv : VI f 30 (c 1)) {p q : Int32} (hp : 0 ≤ p) (hq : 0 ≤ q ∧ q ≤ 7) {K : Nat} {L : Int32} (hK : wk (apm (c 1) (c 3) f 33) (c 1) 0 p = (K, L)) : mm_M 150 [.ref 11, .int p, .int q] (MW σ (vN c) f) = mm_L 150 91 [.ref 11, .int p, .int q, .int (nI K), .int L, mm_un, mm_un, mm_un] [] (MW σ (vN (u2 c 5 0)) (apm (c 1) (c 3) f)) := by
  have e : mm_M 142 [.ref 11] (MW σ (vN (u2 c 5 0)) f) = some (.inl none, MW σ (vN (u2 c 5 0)) (apm (c 1) (c 3) f)) := by
    have z := c_142 (σ := σ) (c := u2 c 5 0) (f := f) (by rw [u5_1]; exact hc1) (by rw [u5_3]; exact hc3) (by rw [u5_1]; exact hv)
    rw [u5_1, u5_3] at z
    exact z
  have l := l_150 (σ := σ) (c := u2 c 5 0) (f := apm (c 1) (c 3) f) (by rw [u5_1]; exact hc1) (p := p) (q := q) (l5 := mm_un) (l6 := mm_un) (l7 := mm_un) (c 1) 0 p (by rw [u5_1]; omega)
  rw [nI_0, hK] at l
  rw [← l]
  simp only [M_150, e150_0, e150_5, e150_9, e150_16, e150_19, e150_23, e150_24, e150_27, e150_31, e150_34, e150_36, e150_40, eq_true hp, c_108, eq_true hq, ms_27, mg_27, Mo_142, e, vs_0, vs_1, vs_2, vs_3, vs_n, vN_, u5_0, u5_1, u5_2, u5_3, u5_4, u5_5, t_0, t_1, t_2, t_3, te_0, te_1, te_2, te_3, K0_v, K0_n, K0_x, K2_v, K2_n, K1_v, K1_n, K1_x, bI_s, bJ_s, bV_s, bS_s, l_10, l_00, bz_01, bz_0, bz_1, em_n, if_true, if_false, ite_not, ite_true, ite_false, not_true_eq_false, not_false_eq_true, or_true, true_or]
theorem c_150n (hc1 : c 1 ≤ 14) (hc3 : c 3 ≤ 6) (hv : VI f 30 (c 1)) {p q : Int32} (hp : 0 ≤ p) (hq : 0 ≤ q ∧ q ≤ 7) (hK : (wk (apm (c 1) (c 3) f 33) (c 1) 0 p).1 = c 1) : mm_M 150 [.ref 11, .int p, .int q] (MW σ (vN c) f) = some (.inl (some (.int (-1))), MW σ (vN (u2 c 5 0)) (apm (c 1) (c 3) f)) := by
  rw [s_150 hc1 hc3 hv hp hq (K := c 1) (L := (wk (apm (c 1) (c 3) f 33) (c 1) 0 p).2) (Prod.ext hK rfl)]
  simp only [e150_91, e150_96, e150_99, mg_2, vN_, u5_1, K0_v, K0_n, K0_x, K2_v, K2_n, K1_v, K1_n, K1_x, bI_s, bJ_s, bV_s, bS_s, l_10, l_00, bz_01, bz_0, bz_1, em_n, if_true, if_false, ite_not, ite_true, ite_false, not_true_eq_false, not_false_eq_true, or_true, true_or]
theorem c_150 (hc1 : c 1 ≤ 14) (hc2 : c 2 ≤ 8) (hc3 : c 3 ≤ 6) (hv : VI f 30 (c 1)) {p : Int32} {q : Nat} (hp : 0 ≤ p) (hq : q < 8) (hK : (wk (apm (c 1) (c 3) f 33) (c 1) 0 p).1 < c 1) : mm_M 150 [.ref 11, .int p, .int (nI q)] (MW σ (vN c) f) = some (.inl (some (.int (avm (apm (c 1) (c 3) f) (c 2) (wk (apm (c 1) (c 3) f 33) (c 1) 0 p).1 (wk (apm (c 1) (c 3) f 33) (c 1) 0 p).2 q))), MW σ (vN (u2 c 5 0)) (apm (c 1) (c 3) f)) := by
  have q9 : 0 ≤ nI q ∧ nI q ≤ 7 := ⟨nI_pos' (by omega), show nI q ≤ nI 7 from nI_le (by omega) (by decide)⟩
  have w0 := wk_0 (apm (c 1) (c 3) f 33) (c 1) 0 p
  rw [s_150 hc1 hc3 hv hp q9 (K := (wk (apm (c 1) (c 3) f 33) (c 1) 0 p).1) (L := (wk (apm (c 1) (c 3) f 33) (c 1) 0 p).2) rfl]
  generalize (wk (apm (c 1) (c 3) f 33) (c 1) 0 p).1 = K at *
  generalize (wk (apm (c 1) (c 3) f 33) (c 1) 0 p).2 = L at *
  generalize apm (c 1) (c 3) f = F
  have hk : K < 14 := by omega
  have n1 : (nI K = nI (c 1)) = False := eq_false (fun z => by have := (nI_eq (a := K) (b := c 1) (by omega) (by omega)).mp z; omega)
  have c131 : ∀ a : Int32, mm_M 131 [.ref 11, .int (nI K), .int a] (MW σ (vN (u2 c 5 0)) F) = some (.inl (some (.int (fg F (ovv F (c 2) (nI (sa F (c 2) a K)) a)))), MW σ (vN (u2 c 5 0)) F) := fun a => by
    have e := c_131 (σ := σ) (f := F) (c := u2 c 5 0) (by rw [u5_2]; exact hc2) a (K := K) hk
    rw [u5_2] at e
    exact e
  have mid : ∀ b : Int32, b = bz (L < tmq (F 33) K) → mm_L 150 91 [.ref 11, .int p, .int (nI q), .int (nI K), .int L, mm_un, mm_un, mm_un] [] (MW σ (vN (u2 c 5 0)) F) = mm_L 150 116 [.ref 11, .int p, .int (nI q), .int (nI K), .int L, mm_un, mm_un, mm_un] [.int b] (MW σ (vN (u2 c 5 0)) F) := fun b hb => by
    subst hb
    by_cases h : L < tmq (F 33) K
    · rw [bz_t h]
      simp only [e150_91, e150_96, e150_99, e150_101, e150_108, e150_111, e150_115, mg_2, vN_, u5_1, n1, Mo_146, c_146 hk, eq_false (nle_of_lt h), K0_v, K0_n, K0_x, K2_v, K2_n, K1_v, K1_n, K1_x, bI_s, bJ_s, bV_s, bS_s, l_10, l_00, bz_01, bz_0, bz_1, em_n, if_true, if_false, ite_not, ite_true, ite_false, not_true_eq_false, not_false_eq_true, or_true, true_or]
    · rw [bz_f h]
      simp only [e150_91, e150_96, e150_99, e150_101, e150_108, e150_111, e150_115, mg_2, vN_, u5_1, n1, Mo_146, c_146 hk, eq_true (Int32.not_lt.mp h), K0_v, K0_n, K0_x, K2_v, K2_n, K1_v, K1_n, K1_x, bI_s, bJ_s, bV_s, bS_s, l_10, l_00, bz_01, bz_0, bz_1, em_n, if_true, if_false, ite_not, ite_true, ite_false, not_true_eq_false, not_false_eq_true, or_true, true_or]
  rw [mid _ rfl, e150_116]
  unfold avm
  by_cases y7 : q = 7
  · subst y7
    rw [if_pos (by rfl), if_pos rfl]
    simp only [e150_124, e150_126, e150_130, e150_136, e150_137, e150_142, e150_150, e150_151, e150_156, e150_161, e150_165, e150_171, e150_172, e150_177, e150_182, e150_188, e150_191, e150_199, e150_205, e150_212, e150_213, e150_220, e150_228, e150_231, e150_237, e150_241, e150_245, e150_252, e150_258, e150_264, e150_269, e150_272, e150_277, e150_283, e150_286, e150_292, K0_v, K0_n, K0_x, K2_v, K2_n, K1_v, K1_n, K1_x, bI_s, bJ_s, bV_s, bS_s, l_10, l_00, bz_01, bz_0, bz_1, em_n, if_true, if_false, ite_not, ite_true, ite_false, not_true_eq_false, not_false_eq_true, or_true, true_or]
  rw [if_neg (show ¬ nI q = 7 from fun z => y7 ((nI_eq (a := q) (b := 7) (by omega) (by decide)).mp z)), if_neg y7]
  by_cases h0 : q = 0
  · subst h0
    rw [if_pos rfl]
    simp only [e150_124, e150_126, e150_130, e150_136, e150_137, e150_142, e150_150, e150_151, e150_156, e150_161, e150_165, e150_171, e150_172, e150_177, e150_182, e150_188, e150_191, e150_199, e150_205, e150_212, e150_213, e150_220, e150_228, e150_231, e150_237, e150_241, e150_245, e150_252, e150_258, e150_264, e150_269, e150_272, e150_277, e150_283, e150_286, e150_292, eq_true (show nI 0 = 0 from rfl), Mo_136, c_136a hk, K0_v, K0_n, K0_x, K2_v, K2_n, K1_v, K1_n, K1_x, bI_s, bJ_s, bV_s, bS_s, l_10, l_00, bz_01, bz_0, bz_1, em_n, if_true, if_false, ite_not, ite_true, ite_false, not_true_eq_false, not_false_eq_true, or_true, true_or]
  have z0 : (nI q = 0) = False := eq_false (nI_ne0 (by omega) (by omega))
  rw [if_neg h0]
  by_cases h3 : 3 < q
  · rw [if_pos h3]
    simp only [e150_124, e150_126, e150_130, e150_136, e150_137, e150_142, e150_150, e150_151, e150_156, e150_161, e150_165, e150_171, e150_172, e150_177, e150_182, e150_188, e150_191, e150_199, e150_205, e150_212, e150_213, e150_220, e150_228, e150_231, e150_237, e150_241, e150_245, e150_252, e150_258, e150_264, e150_269, e150_272, e150_277, e150_283, e150_286, e150_292, z0, eq_false (show ¬ nI q ≤ 3 from show ¬ nI q ≤ nI 3 from nI_ge h3 (by omega)), Mo_131, c131, K0_v, K0_n, K0_x, K2_v, K2_n, K1_v, K1_n, K1_x, bI_s, bJ_s, bV_s, bS_s, l_10, l_00, bz_01, bz_0, bz_1, em_n, if_true, if_false, ite_not, ite_true, ite_false, not_true_eq_false, not_false_eq_true, or_true, true_or]
  have z3 : (nI q ≤ 3) = True := eq_true (show nI q ≤ nI 3 from nI_le (by omega) (by omega))
  rw [if_neg h3]
  by_cases h3 : q = 3
  · subst h3
    rw [if_pos rfl]
    by_cases h : L < tmq (F 33) K
    · simp only [e150_124, e150_126, e150_130, e150_136, e150_137, e150_142, e150_150, e150_151, e150_156, e150_161, e150_165, e150_171, e150_172, e150_177, e150_182, e150_188, e150_191, e150_199, e150_205, e150_212, e150_213, e150_220, e150_228, e150_231, e150_237, e150_241, e150_245, e150_252, e150_258, e150_264, e150_269, e150_272, e150_277, e150_283, e150_286, e150_292, z0, z3, eq_true (show nI 3 = 3 from rfl), eq_true h, K0_v, K0_n, K0_x, K2_v, K2_n, K1_v, K1_n, K1_x, bI_s, bJ_s, bV_s, bS_s, l_10, l_00, bz_01, bz_0, bz_1, em_n, if_true, if_false, ite_not, ite_true, ite_false, not_true_eq_false, not_false_eq_true, or_true, true_or]
    · simp only [e150_124, e150_126, e150_130, e150_136, e150_137, e150_142, e150_150, e150_151, e150_156, e150_161, e150_165, e150_171, e150_172, e150_177, e150_182, e150_188, e150_191, e150_199, e150_205, e150_212, e150_213, e150_220, e150_228, e150_231, e150_237, e150_241, e150_245, e150_252, e150_258, e150_264, e150_269, e150_272, e150_277, e150_283, e150_286, e150_292, z0, z3, eq_true (show nI 3 = 3 from rfl), eq_false h, Mo_136, c_136f hk, K0_v, K0_n, K0_x, K2_v, K2_n, K1_v, K1_n, K1_x, bI_s, bJ_s, bV_s, bS_s, l_10, l_00, bz_01, bz_0, bz_1, em_n, if_true, if_false, ite_not, ite_true, ite_false, not_true_eq_false, not_false_eq_true, or_true, true_or]
  have y3 : (nI q = 3) = False := eq_false (fun z => h3 ((nI_eq (a := q) (b := 3) (by omega) (by decide)).mp z))
  rw [if_neg h3]
  by_cases h : L < tmq (F 33) K
  · rw [if_pos h]
    cases K with
    | zero =>
      exfalso
      have := w0.2 rfl
      subst this
      exact absurd h (Int32.not_lt.mpr hp)
    | succ j =>
      have e : nI (j + 1) - 1 = nI j := pm_s j
      have hj : j < 14 := by omega
      have e2 : j + 1 - 1 = j := rfl
      have m136 : mm_M 136 [.ref 11, .int (nI j), .int 2] (MW σ (vN (u2 c 5 0)) F) = _ := c_136c hj
      by_cases h2 : q = 2
      · subst h2
        simp only [e150_124, e150_126, e150_130, e150_136, e150_137, e150_142, e150_150, e150_151, e150_156, e150_161, e150_165, e150_171, e150_172, e150_177, e150_182, e150_188, e150_191, e150_199, e150_205, e150_212, e150_213, e150_220, e150_228, e150_231, e150_237, e150_241, e150_245, e150_252, e150_258, e150_264, e150_269, e150_272, e150_277, e150_283, e150_286, e150_292, z0, z3, y3, eq_true (show nI 2 = 2 from rfl), eq_true h, Mo_136, c_136d hk, K0_v, K0_n, K0_x, K2_v, K2_n, K1_v, K1_n, K1_x, bI_s, bJ_s, bV_s, bS_s, l_10, l_00, bz_01, bz_0, bz_1, em_n, if_true, if_false, ite_not, ite_true, ite_false, not_true_eq_false, not_false_eq_true, or_true, true_or]
      · have y2 : (nI q = 2) = False := eq_false (fun z => h2 ((nI_eq (a := q) (b := 2) (by omega) (by decide)).mp z))
        simp only [e150_124, e150_126, e150_130, e150_136, e150_137, e150_142, e150_150, e150_151, e150_156, e150_161, e150_165, e150_171, e150_172, e150_177, e150_182, e150_188, e150_191, e150_199, e150_205, e150_212, e150_213, e150_220, e150_228, e150_231, e150_237, e150_241, e150_245, e150_252, e150_258, e150_264, e150_269, e150_272, e150_277, e150_283, e150_286, e150_292, z0, z3, y3, y2, eq_true h, eq_false h2, e, e2, Mo_136, m136, c_136b hk, c_149q, K0_v, K0_n, K0_x, K2_v, K2_n, K1_v, K1_n, K1_x, bI_s, bJ_s, bV_s, bS_s, l_10, l_00, bz_01, bz_0, bz_1, em_n, if_true, if_false, ite_not, ite_true, ite_false, not_true_eq_false, not_false_eq_true, or_true, true_or]
  · rw [if_neg h]
    have key : mm_L 150 213 [.ref 11, .int p, .int (nI q), .int (nI K), .int L, .int 0, mm_un, mm_un] [] (MW σ (vN (u2 c 5 0)) F) = mm_L 150 245 [.ref 11, .int p, .int (nI q), .int (nI K), .int L, .int 0, .int (L - tmq (F 33) K), mm_un] [.int (omk F K L)] (MW σ (vN (u2 c 5 0)) F) := by
      unfold omk
      by_cases h1 : h7 (F 33) K 1 = h7 (F 33) K 2 ∧ h7 (F 33) K 3 = h7 (F 33) K 4
      · rw [if_pos (Or.inl h1)]
        simp only [e150_213, e150_220, e150_228, e150_231, e150_237, e150_241, Mo_146, c_146 hk, Mo_143, c_143 hk, eq_true h1, K0_v, K0_n, K0_x, K2_v, K2_n, K1_v, K1_n, K1_x, bI_s, bJ_s, bV_s, bS_s, l_10, l_00, bz_01, bz_0, bz_1, em_n, if_true, if_false, ite_not, ite_true, ite_false, not_true_eq_false, not_false_eq_true, or_true, true_or]
      · by_cases h2 : 2 ≤ L - tmq (F 33) K
        · rw [if_neg (fun z => z.elim h1 (fun y => y h2))]
          simp only [e150_213, e150_220, e150_228, e150_231, e150_237, e150_241, Mo_146, c_146 hk, Mo_143, c_143 hk, eq_false h1, eq_true h2, K0_v, K0_n, K0_x, K2_v, K2_n, K1_v, K1_n, K1_x, bI_s, bJ_s, bV_s, bS_s, l_10, l_00, bz_01, bz_0, bz_1, em_n, if_true, if_false, ite_not, ite_true, ite_false, not_true_eq_false, not_false_eq_true, or_true, true_or]
        · rw [if_pos (Or.inr h2)]
          simp only [e150_213, e150_220, e150_228, e150_231, e150_237, e150_241, Mo_146, c_146 hk, Mo_143, c_143 hk, eq_false h1, eq_false h2, K0_v, K0_n, K0_x, K2_v, K2_n, K1_v, K1_n, K1_x, bI_s, bJ_s, bV_s, bS_s, l_10, l_00, bz_01, bz_0, bz_1, em_n, if_true, if_false, ite_not, ite_true, ite_false, not_true_eq_false, not_false_eq_true, or_true, true_or]
    have pre : mm_L 150 126 [.ref 11, .int p, .int (nI q), .int (nI K), .int L, .int 0, mm_un, mm_un] [] (MW σ (vN (u2 c 5 0)) F) = mm_L 150 213 [.ref 11, .int p, .int (nI q), .int (nI K), .int L, .int 0, mm_un, mm_un] [] (MW σ (vN (u2 c 5 0)) F) := by
      simp only [e150_126, e150_130, e150_136, e150_137, e150_142, e150_150, e150_151, e150_156, e150_161, e150_165, e150_171, e150_172, z0, z3, y3, K0_v, K0_n, K0_x, K2_v, K2_n, K1_v, K1_n, K1_x, bI_s, bJ_s, bV_s, bS_s, l_10, l_00, bz_01, bz_0, bz_1, em_n, if_true, if_false, ite_not, ite_true, ite_false, not_true_eq_false, not_false_eq_true, or_true, true_or]
    rw [bz_f h, pre, key, e150_245]
    by_cases h1 : q = 1
    · subst h1
      simp only [e150_252, e150_258, e150_264, e150_269, e150_272, e150_277, e150_283, e150_286, e150_292, eq_true (show nI 1 = 1 from rfl), Mo_136, c_136b hk, c_136c hk, c_149q, K0_v, K0_n, K0_x, K2_v, K2_n, K1_v, K1_n, K1_x, bI_s, bJ_s, bV_s, bS_s, l_10, l_00, bz_01, bz_0, bz_1, em_n, if_true, if_false, ite_not, ite_true, ite_false, not_true_eq_false, not_false_eq_true, or_true, true_or]
    · have y1 : (nI q = 1) = False := eq_false (fun z => h1 ((nI_eq (a := q) (b := 1) (by omega) (by decide)).mp z))
      by_cases o : omk F K L = 0
      · simp only [e150_252, e150_258, e150_264, e150_269, e150_272, e150_277, e150_283, e150_286, e150_292, y1, eq_false h1, eq_true o, Mo_136, c_136d hk, K0_v, K0_n, K0_x, K2_v, K2_n, K1_v, K1_n, K1_x, bI_s, bJ_s, bV_s, bS_s, l_10, l_00, bz_01, bz_0, bz_1, em_n, if_true, if_false, ite_not, ite_true, ite_false, not_true_eq_false, not_false_eq_true, or_true, true_or]
      · simp only [e150_252, e150_258, e150_264, e150_269, e150_272, e150_277, e150_283, e150_286, e150_292, y1, eq_false h1, eq_false o, Mo_136, c_136e hk, K0_v, K0_n, K0_x, K2_v, K2_n, K1_v, K1_n, K1_x, bI_s, bJ_s, bV_s, bS_s, l_10, l_00, bz_01, bz_0, bz_1, em_n, if_true, if_false, ite_not, ite_true, ite_false, not_true_eq_false, not_false_eq_true, or_true, true_or]
end
