/-! LEVEL 2: the reference's signed; the way along -/
/-- ticks ahead of item k -/
def bgn (r : Nat → Int32) : Nat → Int32
  | 0 => 0
  | k + 1 => bgn r k + (tmq r k + tmk (h7 r k))
/-- one step on the way -/
def als (b : Int32) (_ : Nat) (x : Int32 × Int32) : Int32 × Int32 :=
  if x.2 = cl b then (if x.1 = b / 3 then x else if b / 3 ≤ x.1 then (x.1 + -1, x.2) else (x.1 + 1, x.2)) else if cl b ≤ x.2 then (x.1, x.2 + -1) else (x.1, x.2 + 1)
/-- so many steps -/
def alg (a b : Int32) (n : Nat) : Int32 := 3 * (up (als b) n 0 (a / 3, cl a)).1 + (up (als b) n 0 (a / 3, cl a)).2
theorem l_149 (σ : mm_S) {a b : Int32} {n : Nat} (hn : n < 2 ^ 31) : ∀ m k (x : Int32 × Int32), k + m = n → mm_L 149 12 [.int a, .int b, .int (nI n), .int x.1, .int x.2, .int (nI k)] [] σ = some (.inl (some (.int (3 * (up (als b) m k x).1 + (up (als b) m k x).2))), σ)
  | 0, k, x, h => by
    have q := eq_true (nI_le (a := n) (b := k) (by omega) (by omega))
    rw [e149_12]
    simp only [q, e149_75, K0_v, K0_n, K0_x, K2_v, K2_n, K1_v, K1_n, K1_x, bI_s, bJ_s, bV_s, bS_s, l_10, l_00, bz_01, bz_0, bz_1, em_n, if_true, if_false, ite_not, ite_true, ite_false, not_true_eq_false, not_false_eq_true, or_true, true_or, up]
  | m + 1, k, x, h => by
    have q := eq_false (nI_ge (a := k) (b := n) (by omega) (by omega))
    have ih := fun x' => l_149 σ (a := a) (b := b) hn m (k + 1) x' (by omega)
    rw [e149_12]
    show _ = some (Sum.inl (some (Value.int (3 * (up (als b) m (k + 1) (als b k x)).1 + (up (als b) m (k + 1) (als b k x)).2))), σ)
    rw [← ih (als b k x)]
    unfold als cl
    by_cases h1 : x.2 = b - b / 3 * 3
    · by_cases h2 : x.1 = b / 3
      · simp only [q, e149_0, e149_18, e149_26, e149_36, e149_40, e149_41, e149_47, e149_54, e149_62, e149_66, e149_67, e149_69, e149_75, eq_true h1, eq_true h2, nI_1, K0_v, K0_n, K0_x, K2_v, K2_n, K1_v, K1_n, K1_x, bI_s, bJ_s, bV_s, bS_s, l_10, l_00, bz_01, bz_0, bz_1, em_n, if_true, if_false, ite_not, ite_true, ite_false, not_true_eq_false, not_false_eq_true, or_true, true_or]
      · by_cases h3 : b / 3 ≤ x.1
        · simp only [q, e149_0, e149_18, e149_26, e149_36, e149_40, e149_41, e149_47, e149_54, e149_62, e149_66, e149_67, e149_69, e149_75, eq_true h1, eq_false h2, eq_true h3, nI_1, K0_v, K0_n, K0_x, K2_v, K2_n, K1_v, K1_n, K1_x, bI_s, bJ_s, bV_s, bS_s, l_10, l_00, bz_01, bz_0, bz_1, em_n, if_true, if_false, ite_not, ite_true, ite_false, not_true_eq_false, not_false_eq_true, or_true, true_or]
        · simp only [q, e149_0, e149_18, e149_26, e149_36, e149_40, e149_41, e149_47, e149_54, e149_62, e149_66, e149_67, e149_69, e149_75, eq_true h1, eq_false h2, eq_false h3, nI_1, K0_v, K0_n, K0_x, K2_v, K2_n, K1_v, K1_n, K1_x, bI_s, bJ_s, bV_s, bS_s, l_10, l_00, bz_01, bz_0, bz_1, em_n, if_true, if_false, ite_not, ite_true, ite_false, not_true_eq_false, not_false_eq_true, or_true, true_or]
    · by_cases h3 : b - b / 3 * 3 ≤ x.2
      · simp only [q, e149_0, e149_18, e149_26, e149_36, e149_40, e149_41, e149_47, e149_54, e149_62, e149_66, e149_67, e149_69, e149_75, eq_false h1, eq_true h3, nI_1, K0_v, K0_n, K0_x, K2_v, K2_n, K1_v, K1_n, K1_x, bI_s, bJ_s, bV_s, bS_s, l_10, l_00, bz_01, bz_0, bz_1, em_n, if_true, if_false, ite_not, ite_true, ite_false, not_true_eq_false, not_false_eq_true, or_true, true_or]
      · simp only [q, e149_0, e149_18, e149_26, e149_36, e149_40, e149_41, e149_47, e149_54, e149_62, e149_66, e149_67, e149_69, e149_75, eq_false h1, eq_false h3, nI_1, K0_v, K0_n, K0_x, K2_v, K2_n, K1_v, K1_n, K1_x, bI_s, bJ_s, bV_s, bS_s, l_10, l_00, bz_01, bz_0, bz_1, em_n, if_true, if_false, ite_not, ite_true, ite_false, not_true_eq_false, not_false_eq_true, or_true, true_or]
theorem c_149 (σ : mm_S) {a b : Int32} {n : Nat} (hn : n < 2 ^ 31) : mm_M 149 [.int a, .int b, .int (nI n)] σ = some (.inl (some (.int (alg a b n))), σ) := by
  have l := l_149 σ (a := a) (b := b) hn n 0 (a / 3, cl a) (by omega)
  rw [nI_0] at l
  rw [M_149, e149_0]
  exact l
theorem c_149z (σ : mm_S) {a b s : Int32} (h : s < 0) : mm_M 149 [.int a, .int b, .int s] σ = some (.inl (some (.int (alg a b 0))), σ) := by
  rw [M_149, e149_0, e149_12, if_pos (Int32.le_of_lt h), e149_75]
  rfl
def aq (s : Int32) : Nat := s.toNatClampNeg
theorem c_149q (σ : mm_S) (a b s : Int32) : mm_M 149 [.int a, .int b, .int s] σ = some (.inl (some (.int (alg a b (aq s)))), σ) := by
  by_cases h : s < 0
  · rw [c_149z σ h]
    have : aq s = 0 := by
      unfold aq
      have h2 : s.toInt < 0 := Int32.lt_iff_toInt_lt.mp h
      show s.toInt.toNat = 0
      omega
    rw [this]
  · obtain ⟨n, h1, h2⟩ := nI_of (x := s) (by rw [i32_nlt] at h ⊢; exact h)
    subst h2
    have : aq (nI n) = n := by
      unfold aq
      show (nI n).toInt.toNat = n
      rw [nI_toInt h1]
      rfl
    rw [c_149 σ h1, this]
section
variable {σ : mm_S} {c : Nat → Nat} {f : Nat → Nat → Int32}
theorem l_147 {K : Nat} (hK : K ≤ 14) : ∀ m k, k + m = K → mm_L 147 4 [.ref 11, .int (nI K), .int (bgn (f 33) k), .int (nI k)] [] (MW σ (vN c) f) = some (.inl (some (.int (bgn (f 33) K))), (MW σ (vN c) f))
  | 0, k, h => by
    have e : k = K := by omega
    subst e
    have q := eq_true (nI_le (a := k) (b := k) (by omega) (by omega))
    rw [e147_4]
    simp only [q, e147_29, K0_v, K0_n, K0_x, K2_v, K2_n, K1_v, K1_n, K1_x, bI_s, bJ_s, bV_s, bS_s, l_10, l_00, bz_01, bz_0, bz_1, em_n, if_true, if_false, ite_not, ite_true, ite_false, not_true_eq_false, not_false_eq_true, or_true, true_or]
  | m + 1, k, h => by
    have q := eq_false (nI_ge (a := k) (b := K) (by omega) (by omega))
    rw [e147_4]
    simp only [q, e147_0, e147_9, e147_15, e147_20, e147_29, Mo_146, c_146 (show k < 14 by omega), Mo_145, c_145 (show k < 14 by omega), nI_1, K0_v, K0_n, K0_x, K2_v, K2_n, K1_v, K1_n, K1_x, bI_s, bJ_s, bV_s, bS_s, l_10, l_00, bz_01, bz_0, bz_1, em_n, if_true, if_false, ite_not, ite_true, ite_false, not_true_eq_false, not_false_eq_true, or_true, true_or]
    exact l_147 hK m (k + 1) (by omega)
theorem c_147 {K : Nat} (hK : K ≤ 14) : mm_M 147 [.ref 11, .int (nI K)] (MW σ (vN c) f) = some (.inl (some (.int (bgn (f 33) K))), (MW σ (vN c) f)) := by
  have l := l_147 (σ := σ) (c := c) (f := f) hK K 0 (by omega)
  rw [nI_0] at l
  rw [M_147, e147_0]
  exact l
def svm (f : Nat → Nat → Int32) (k q : Nat) : Int32 := if q < 6 then f 33 (7 * k + q) else if q = 6 then bgn (f 33) k else if q = 7 then bgn (f 33) k + tmq (f 33) k else bgn (f 33) k + tmq (f 33) k + tmk (h7 (f 33) k)
theorem c_148x (hc1 : c 1 ≤ 14) {p q : Int32} (hp : ¬ (0 ≤ p ∧ p < nI (c 1))) : mm_M 148 [.ref 11, .int p, .int q] (MW σ (vN c) f) = some (.inl (some (.int 0)), MW σ (vN (u2 c 5 1)) f) := by
  simp only [M_148, e148_0, e148_6, e148_9, e148_13, e148_20, e148_23, e148_27, e148_28, e148_31, e148_35, e148_38, e148_40, e148_44, e148_50, e148_56, e148_57, e148_62, e148_69, e148_73, e148_79, e148_85, e148_89, e148_95, e148_101, e148_102, Mo_113, c_113 hc1, eq_false hp, ms_27, mg_27, vs_0, vs_1, vs_2, vs_3, vs_n, vN_, u5_0, u5_1, u5_2, u5_3, u5_4, u5_5, t_0, t_1, t_2, t_3, te_0, te_1, te_2, te_3, K0_v, K0_n, K0_x, K2_v, K2_n, K1_v, K1_n, K1_x, bI_s, bJ_s, bV_s, bS_s, l_10, l_00, bz_01, bz_0, bz_1, em_n, if_true, if_false, ite_not, ite_true, ite_false, not_true_eq_false, not_false_eq_true, or_true, true_or]
theorem c_148y (hc1 : c 1 ≤ 14) {p q : Int32} (hp : 0 ≤ p ∧ p < nI (c 1)) (ha : ¬ (0 ≤ q ∧ q ≤ 8)) : mm_M 148 [.ref 11, .int p, .int q] (MW σ (vN c) f) = some (.inl (some (.int 0)), MW σ (vN (u2 c 5 2)) f) := by
  simp only [M_148, e148_0, e148_6, e148_9, e148_13, e148_20, e148_23, e148_27, e148_28, e148_31, e148_35, e148_38, e148_40, e148_44, e148_50, e148_56, e148_57, e148_62, e148_69, e148_73, e148_79, e148_85, e148_89, e148_95, e148_101, e148_102, Mo_113, c_113 hc1, eq_true hp, c_108, eq_false ha, ms_27, mg_27, vs_0, vs_1, vs_2, vs_3, vs_n, vN_, u5_0, u5_1, u5_2, u5_3, u5_4, u5_5, t_0, t_1, t_2, t_3, te_0, te_1, te_2, te_3, K0_v, K0_n, K0_x, K2_v, K2_n, K1_v, K1_n, K1_x, bI_s, bJ_s, bV_s, bS_s, l_10, l_00, bz_01, bz_0, bz_1, em_n, if_true, if_false, ite_not, ite_true, ite_false, not_true_eq_false, not_false_eq_true, or_true, true_or]
theorem c_148 (hc1 : c 1 ≤ 14) (hc3 : c 3 ≤ 6) (hv : VI f 30 (c 1)) {k q : Nat} (hk : k < c 1) (hq : q < 9) : mm_M 148 [.ref 11, .int (nI k), .int (nI q)] (MW σ (vN c) f) = some (.inl (some (.int (svm (apm (c 1) (c 3) f) k q))), MW σ (vN (u2 c 5 0)) (apm (c 1) (c 3) f)) := by
  have h := eq_true (show 0 ≤ nI k ∧ nI k < nI (c 1) from ⟨nI_pos' (by omega), nI_lt hk (by omega)⟩)
  have q9 := eq_true (show 0 ≤ nI q ∧ nI q ≤ 8 from ⟨nI_pos' (by omega), show nI q ≤ nI 8 from nI_le (by omega) (by decide)⟩)
  have hk' : k < 14 := by omega
  have e : mm_M 142 [.ref 11] (MW σ (vN (u2 c 5 0)) f) = some (.inl none, MW σ (vN (u2 c 5 0)) (apm (c 1) (c 3) f)) := by
    have z := c_142 (σ := σ) (c := u2 c 5 0) (f := f) (by rw [u5_1]; exact hc1) (by rw [u5_3]; exact hc3) (by rw [u5_1]; exact hv)
    rw [u5_1, u5_3] at z
    exact z
  have key : mm_M 148 [.ref 11, .int (nI k), .int (nI q)] (MW σ (vN c) f) = mm_L 148 44 [.ref 11, .int (nI k), .int (nI q), mm_un] [] (MW σ (vN (u2 c 5 0)) (apm (c 1) (c 3) f)) := by
    simp only [M_148, e148_0, e148_6, e148_9, e148_13, e148_20, e148_23, e148_27, e148_28, e148_31, e148_35, e148_38, e148_40, Mo_113, c_113 hc1, h, c_108, q9, ms_27, mg_27, Mo_142, e, vs_0, vs_1, vs_2, vs_3, vs_n, vN_, u5_0, u5_1, u5_2, u5_3, u5_4, u5_5, t_0, t_1, t_2, t_3, te_0, te_1, te_2, te_3, K0_v, K0_n, K0_x, K2_v, K2_n, K1_v, K1_n, K1_x, bI_s, bJ_s, bV_s, bS_s, l_10, l_00, bz_01, bz_0, bz_1, em_n, if_true, if_false, ite_not, ite_true, ite_false, not_true_eq_false, not_false_eq_true, or_true, true_or]
  rw [key]
  generalize apm (c 1) (c 3) f = F
  unfold svm
  by_cases h6 : q < 6
  · rw [if_pos h6]
    simp only [e148_44, e148_50, e148_56, e148_57, e148_62, e148_69, e148_73, e148_79, e148_85, e148_89, e148_95, e148_101, e148_102, eq_false (show ¬ (6 : Int32) ≤ nI q from show ¬ nI 6 ≤ nI q from nI_ge h6 (by decide)), Mo_136, c_136 hk' (show q < 7 by omega), K0_v, K0_n, K0_x, K2_v, K2_n, K1_v, K1_n, K1_x, bI_s, bJ_s, bV_s, bS_s, l_10, l_00, bz_01, bz_0, bz_1, em_n, if_true, if_false, ite_not, ite_true, ite_false, not_true_eq_false, not_false_eq_true, or_true, true_or]
  · rw [if_neg h6]
    simp only [e148_44, e148_50, e148_56, e148_57, e148_62, e148_69, e148_73, e148_79, e148_85, e148_89, e148_95, e148_101, e148_102, eq_true (show (6 : Int32) ≤ nI q from show nI 6 ≤ nI q from nI_le (by omega) (by omega)), Mo_147, c_147 (Nat.le_of_lt hk'), Mo_146, c_146 hk', Mo_145, c_145 hk', K0_v, K0_n, K0_x, K2_v, K2_n, K1_v, K1_n, K1_x, bI_s, bJ_s, bV_s, bS_s, l_10, l_00, bz_01, bz_0, bz_1, em_n, if_true, if_false, ite_not, ite_true, ite_false, not_true_eq_false, not_false_eq_true, or_true, true_or]
    have e : q = 6 ∨ q = 7 ∨ q = 8 := by omega
    rcases e with e | e | e <;> subst e
    · rw [if_pos (by decide)]; rfl
    · rw [if_neg (by decide), if_pos (by decide)]; rfl
    · rw [if_neg (by decide), if_neg (by decide)]; rfl
end
