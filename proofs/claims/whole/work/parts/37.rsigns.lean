/-! LEVEL 2: the reference's numbers and signs -/
def vN (c : Nat → Nat) : Nat → Int32 := fun k => nI (c k)
theorem vN_ (c : Nat → Nat) (k : Nat) : vN c k = nI (c k) := rfl
theorem vs_n (c : Nat → Nat) (k m : Nat) : upd (vN c) k (nI m) = vN (u2 c k m) := by
  funext j
  unfold upd vN u2
  by_cases h : j = k <;> simp [h]
theorem vs_0 (c : Nat → Nat) (k : Nat) : upd (vN c) k 0 = vN (u2 c k 0) := vs_n c k 0
theorem vs_1 (c : Nat → Nat) (k : Nat) : upd (vN c) k 1 = vN (u2 c k 1) := vs_n c k 1
theorem vs_2 (c : Nat → Nat) (k : Nat) : upd (vN c) k 2 = vN (u2 c k 2) := vs_n c k 2
theorem vs_3 (c : Nat → Nat) (k : Nat) : upd (vN c) k 3 = vN (u2 c k 3) := vs_n c k 3
theorem u5_0 (c : Nat → Nat) (x : Nat) : u2 c 5 x 0 = c 0 := u2_n (by decide)
theorem u5_1 (c : Nat → Nat) (x : Nat) : u2 c 5 x 1 = c 1 := u2_n (by decide)
theorem u5_2 (c : Nat → Nat) (x : Nat) : u2 c 5 x 2 = c 2 := u2_n (by decide)
theorem u5_3 (c : Nat → Nat) (x : Nat) : u2 c 5 x 3 = c 3 := u2_n (by decide)
theorem u5_4 (c : Nat → Nat) (x : Nat) : u2 c 5 x 4 = c 4 := u2_n (by decide)
theorem u5_5 (c : Nat → Nat) (x : Nat) : u2 c 5 x 5 = x := u2_s _ _ _
theorem t_0 : (nI 0 ≤ 0) = True := by decide
theorem t_1 : (nI 1 ≤ 0) = False := by decide
theorem t_2 : (nI 2 ≤ 0) = False := by decide
theorem t_3 : (nI 3 ≤ 0) = False := by decide
theorem te_0 : (nI 0 = 0) = True := by decide
theorem te_1 : (nI 1 = 0) = False := by decide
theorem te_2 : (nI 2 = 0) = False := by decide
theorem te_3 : (nI 3 = 0) = False := by decide
theorem n7 (a : Nat) : (7 : Int32) * nI a = nI (7 * a) := nI_mul 7 a
theorem nk_0 (a : Nat) : nI a + 0 = nI (a + 0) := nI_add a 0
theorem nk_1 (a : Nat) : nI a + 1 = nI (a + 1) := nI_add a 1
theorem nk_2 (a : Nat) : nI a + 2 = nI (a + 2) := nI_add a 2
theorem nk_3 (a : Nat) : nI a + 3 = nI (a + 3) := nI_add a 3
theorem nk_4 (a : Nat) : nI a + 4 = nI (a + 4) := nI_add a 4
theorem nk_5 (a : Nat) : nI a + 5 = nI (a + 5) := nI_add a 5
theorem nk_6 (a : Nat) : nI a + 6 = nI (a + 6) := nI_add a 6
/-- below, and up to one less -/
theorem upto_lt {p : Int32} {n : Nat} (hn : n < 2 ^ 31) : (0 ≤ p ∧ p ≤ nI n - 1) ↔ (0 ≤ p ∧ p < nI n) := by
  constructor
  · rintro ⟨h0, h1⟩
    refine ⟨h0, ?_⟩
    cases n with
    | zero =>
      have := Int32.le_trans h0 h1
      exact absurd this (by decide)
    | succ n =>
      rw [nI_pred] at h1
      obtain ⟨k, h2, rfl⟩ := nI_upto (by omega) h0 h1
      exact nI_lt (by omega) (by omega)
  · rintro ⟨h0, h1⟩
    refine ⟨h0, ?_⟩
    obtain ⟨k, h2, rfl⟩ := nI_below hn h0 h1
    cases n with
    | zero => omega
    | succ n =>
      rw [nI_pred]
      exact nI_le (by omega) (by omega)
theorem upto_lit {p : Int32} {n : Nat} (hn : n < 2 ^ 31 - 1) : (0 ≤ p ∧ p ≤ nI n) ↔ (0 ≤ p ∧ p < nI (n + 1)) := by
  have := upto_lt (p := p) (n := n + 1) (by omega)
  rw [nI_pred] at this
  exact this
section
variable {σ : mm_S} {c : Nat → Nat} {f : Nat → Nat → Int32}
theorem c_112 (hc : c 0 ≤ 30) (p : Int32) : mm_M 112 [.ref 11, .int p] (MW σ (vN c) f) = some (.inl (some (.int (bz (0 ≤ p ∧ p < nI (c 0))))), (MW σ (vN c) f)) := by
  simp only [M_112, e112_0, e112_6, e112_11, mg_0, vN_, c_108, K0_v, K0_n, K0_x, K2_v, K2_n, K1_v, K1_n, K1_x, bI_s, bJ_s, bV_s, bS_s, l_10, l_00, bz_01, bz_0, bz_1, em_n, if_true, if_false, ite_not, ite_true, ite_false, not_true_eq_false, not_false_eq_true, or_true, true_or]
  rw [bz_c (upto_lt (by omega))]
theorem l_117 {a b j : Nat} (ha : a < 30) (hb : b < 30) (hj : j < 6) (n : Int32) : mm_L 117 5 [.ref 11, .int (nI a), .int (nI b), .int n, .int (nI j)] [] (MW σ (vN c) f) = mm_L 117 5 [.ref 11, .int (nI a), .int (nI b), .int (n + if f 12 (7 * a + j) = f 12 (7 * b + j) then 0 else 1), .int (nI (j + 1))] [] (MW σ (vN c) f) := by
  have q : (5 < nI j) = False := eq_false (show ¬ nI 5 < nI j from nI_nlt (by omega) (by omega))
  rw [e117_5]
  simp only [e117_0, e117_11, e117_16, e117_24, e117_28, e117_36, e117_39, e117_43, e117_44, e117_52, q, mg_1, n7, nI_add, nI_1, ma_12 (show 7 * a + j < 210 by omega), ma_12 (show 7 * b + j < 210 by omega), K0_v, K0_n, K0_x, K2_v, K2_n, K1_v, K1_n, K1_x, bI_s, bJ_s, bV_s, bS_s, l_10, l_00, bz_01, bz_0, bz_1, em_n, if_true, if_false, ite_not, ite_true, ite_false, not_true_eq_false, not_false_eq_true, or_true, true_or]
  split <;> rfl
theorem c_117 {a b : Nat} (ha : a < 30) (hb : b < 30) : mm_M 117 [.ref 11, .int (nI a), .int (nI b)] (MW σ (vN c) f) = some (.inl (some (.int (cu (h7 (f 12) a) (h7 (f 12) b)))), (MW σ (vN c) f)) := by
  have q : (5 < nI 6) = True := by decide
  rw [M_117, e117_0, nI_lit0]
  rw [l_117 ha hb (by omega), l_117 ha hb (by omega), l_117 ha hb (by omega), l_117 ha hb (by omega), l_117 ha hb (by omega), l_117 ha hb (by omega), e117_5]
  simp only [q, K0_v, K0_n, K0_x, K2_v, K2_n, K1_v, K1_n, K1_x, bI_s, bJ_s, bV_s, bS_s, l_10, l_00, bz_01, bz_0, bz_1, em_n, if_true, if_false, ite_not, ite_true, ite_false, not_true_eq_false, not_false_eq_true, or_true, true_or, e117_52]
  rfl
theorem bz_and0 (p : Prop) [Decidable p] : bz p &&& 0 = 0 := by unfold bz; by_cases h : p <;> simp [h]
theorem bz_and1 (p : Prop) [Decidable p] : bz p &&& 1 = bz p := by unfold bz; by_cases h : p <;> simp [h]
theorem bz_and (p q : Prop) [Decidable p] [Decidable q] : bz p &&& bz q = bz (p ∧ q) := by unfold bz; by_cases h : p <;> by_cases h2 : q <;> simp [h, h2]
theorem bz_or (p q : Prop) [Decidable p] [Decidable q] : bz p ||| bz q = bz (p ∨ q) := by unfold bz; by_cases h : p <;> by_cases h2 : q <;> simp [h, h2]
theorem l_115 {a b j : Nat} (ha : a < 30) (hb : b < 30) (hj : j < 6) (n : Int32) : mm_L 115 51 [.ref 11, .int (nI a), .int (nI b), .int n, .int (nI j)] [] (MW σ (vN c) f) = mm_L 115 51 [.ref 11, .int (nI a), .int (nI b), .int (n &&& bz (f 12 (7 * a + j) = f 12 (7 * b + j))), .int (nI (j + 1))] [] (MW σ (vN c) f) := by
  have q : (5 < nI j) = False := eq_false (show ¬ nI 5 < nI j from nI_nlt (by omega) (by omega))
  rw [e115_51]
  simp only [e115_0, e115_4, e115_11, e115_15, e115_19, e115_27, e115_31, e115_39, e115_42, e115_46, e115_47, e115_57, e115_62, e115_70, e115_74, e115_82, e115_85, e115_89, e115_90, e115_98, q, mg_1, n7, nI_add, nI_1, ma_12 (show 7 * a + j < 210 by omega), ma_12 (show 7 * b + j < 210 by omega), K0_v, K0_n, K0_x, K2_v, K2_n, K1_v, K1_n, K1_x, bI_s, bJ_s, bV_s, bS_s, l_10, l_00, bz_01, bz_0, bz_1, em_n, if_true, if_false, ite_not, ite_true, ite_false, not_true_eq_false, not_false_eq_true, or_true, true_or]
  unfold bz
  split <;> rfl
theorem c_115 {a b : Nat} (ha : a < 30) (hb : b < 30) : mm_M 115 [.ref 11, .int (nI a), .int (nI b)] (MW σ (vN c) f) = some (.inl (some (.int (bz (((((((h7 (f 12) a 5 ≠ 2 ∨ h7 (f 12) a 6 = h7 (f 12) b 6) ∧ h7 (f 12) a 0 = h7 (f 12) b 0) ∧ h7 (f 12) a 1 = h7 (f 12) b 1) ∧ h7 (f 12) a 2 = h7 (f 12) b 2) ∧ h7 (f 12) a 3 = h7 (f 12) b 3) ∧ h7 (f 12) a 4 = h7 (f 12) b 4) ∧ h7 (f 12) a 5 = h7 (f 12) b 5)))), (MW σ (vN c) f)) := by
  have q : (5 < nI 6) = True := by decide
  have key : mm_M 115 [.ref 11, .int (nI a), .int (nI b)] (MW σ (vN c) f) = mm_L 115 51 [.ref 11, .int (nI a), .int (nI b), .int (bz (h7 (f 12) a 5 ≠ 2 ∨ h7 (f 12) a 6 = h7 (f 12) b 6)), .int (nI 0)] [] (MW σ (vN c) f) := by
    simp only [M_115, e115_0, e115_4, e115_11, e115_15, e115_19, e115_27, e115_31, e115_39, e115_42, e115_46, e115_47, e115_57, e115_62, e115_70, e115_74, e115_82, e115_85, e115_89, e115_90, e115_98, mg_1, n7, nk_5, nk_6, ma_12 (show 7 * a + 5 < 210 by omega), ma_12 (show 7 * a + 6 < 210 by omega), ma_12 (show 7 * b + 6 < 210 by omega), K0_v, K0_n, K0_x, K2_v, K2_n, K1_v, K1_n, K1_x, bI_s, bJ_s, bV_s, bS_s, l_10, l_00, bz_01, bz_0, bz_1, em_n, if_true, if_false, ite_not, ite_true, ite_false, not_true_eq_false, not_false_eq_true, or_true, true_or]
    show _ = mm_L 115 51 [.ref 11, .int (nI a), .int (nI b), .int (bz (f 12 (7 * a + 5) ≠ 2 ∨ f 12 (7 * a + 6) = f 12 (7 * b + 6))), .int 0] [] (MW σ (vN c) f)
    by_cases p : f 12 (7 * a + 5) = 2
    · by_cases p2 : f 12 (7 * a + 6) = f 12 (7 * b + 6)
      · rw [bz_t (show f 12 (7 * a + 5) ≠ 2 ∨ f 12 (7 * a + 6) = f 12 (7 * b + 6) from Or.inr p2)]
        simp only [eq_true p, eq_true p2, K0_v, K0_n, K0_x, K2_v, K2_n, K1_v, K1_n, K1_x, bI_s, bJ_s, bV_s, bS_s, l_10, l_00, bz_01, bz_0, bz_1, em_n, if_true, if_false, ite_not, ite_true, ite_false, not_true_eq_false, not_false_eq_true, or_true, true_or]
      · rw [bz_f (show ¬ (f 12 (7 * a + 5) ≠ 2 ∨ f 12 (7 * a + 6) = f 12 (7 * b + 6)) from fun z => z.elim (fun y => y p) p2)]
        simp only [eq_true p, eq_false p2, K0_v, K0_n, K0_x, K2_v, K2_n, K1_v, K1_n, K1_x, bI_s, bJ_s, bV_s, bS_s, l_10, l_00, bz_01, bz_0, bz_1, em_n, if_true, if_false, ite_not, ite_true, ite_false, not_true_eq_false, not_false_eq_true, or_true, true_or]
    · rw [bz_t (show f 12 (7 * a + 5) ≠ 2 ∨ f 12 (7 * a + 6) = f 12 (7 * b + 6) from Or.inl p)]
      simp only [eq_false p, K0_v, K0_n, K0_x, K2_v, K2_n, K1_v, K1_n, K1_x, bI_s, bJ_s, bV_s, bS_s, l_10, l_00, bz_01, bz_0, bz_1, em_n, if_true, if_false, ite_not, ite_true, ite_false, not_true_eq_false, not_false_eq_true, or_true, true_or]
  rw [key, l_115 ha hb (by omega), l_115 ha hb (by omega), l_115 ha hb (by omega), l_115 ha hb (by omega), l_115 ha hb (by omega), l_115 ha hb (by omega), e115_51]
  simp only [q, bz_and, K0_v, K0_n, K0_x, K2_v, K2_n, K1_v, K1_n, K1_x, bI_s, bJ_s, bV_s, bS_s, l_10, l_00, bz_01, bz_0, bz_1, em_n, if_true, if_false, ite_not, ite_true, ite_false, not_true_eq_false, not_false_eq_true, or_true, true_or, e115_98]
  rfl
-- the number by a school
def wm (s : Int32) (x : Nat → Int32) : Int32 :=
  if s = 0 then 81 * x 0 + 9 * x 1 + x 2
  else if s = 1 then 48 * x 0 + 12 * x 3 + 3 * x 4 + x 5
  else (if x 0 < 4 then 9 else 0) + 3 * wy (x 1 / 3) (x 2 / 3) + wy (cl (x 1)) (cl (x 2))
theorem wy_di (a b : Int32) : di a b + 1 = wy a b := by
  unfold di wy
  by_cases h : b = a
  · subst h; simp
  · by_cases h2 : a < b
    · rw [if_neg h, if_pos h2, if_neg (fun q => Int32.lt_irrefl (Int32.lt_trans h2 q)), if_neg h]; rfl
    · rw [if_neg h, if_neg h2]
      rw [i32_nlt] at h2
      have : b < a := Int32.lt_of_le_of_ne h2 h
      rw [if_pos this]; rfl
theorem wm_wr (s : Int32) (x : Nat → Int32) : wm s x = wr s x := by
  unfold wm wr
  rw [wy_di, wy_di]
theorem c_120 {a : Nat} (ha : a < 30) (s : Int32) : mm_M 120 [.ref 11, .int (nI a), .int s] (MW σ (vN c) f) = some (.inl (some (.int (wr s (h7 (f 12) a)))), (MW σ (vN c) f)) := by
  rw [← wm_wr]
  simp only [M_120, e120_0, e120_9, e120_13, e120_19, e120_23, e120_29, e120_35, e120_39, e120_50, e120_55, e120_61, e120_65, e120_72, e120_76, e120_83, e120_87, e120_93, e120_97, e120_99, e120_103, e120_107, e120_111, e120_116, e120_117, e120_129, e120_142, mg_1, n7, nk_0, nk_1, nk_2, nk_3, nk_4, nk_5, ma_12 (show 7 * a + 0 < 210 by omega), ma_12 (show 7 * a + 1 < 210 by omega), ma_12 (show 7 * a + 2 < 210 by omega), ma_12 (show 7 * a + 3 < 210 by omega), ma_12 (show 7 * a + 4 < 210 by omega), ma_12 (show 7 * a + 5 < 210 by omega), c_119, K0_v, K0_n, K0_x, K2_v, K2_n, K1_v, K1_n, K1_x, bI_s, bJ_s, bV_s, bS_s, l_10, l_00, bz_01, bz_0, bz_1, em_n, if_true, if_false, ite_not, ite_true, ite_false, not_true_eq_false, not_false_eq_true, or_true, true_or]
  unfold wm h7 cl
  by_cases h : s = 0
  · simp only [eq_true h, K0_v, K0_n, K0_x, K2_v, K2_n, K1_v, K1_n, K1_x, bI_s, bJ_s, bV_s, bS_s, l_10, l_00, bz_01, bz_0, bz_1, em_n, if_true, if_false, ite_not, ite_true, ite_false, not_true_eq_false, not_false_eq_true, or_true, true_or]
  · by_cases h2 : s = 1
    · simp only [eq_false h, eq_true h2, K0_v, K0_n, K0_x, K2_v, K2_n, K1_v, K1_n, K1_x, bI_s, bJ_s, bV_s, bS_s, l_10, l_00, bz_01, bz_0, bz_1, em_n, if_true, if_false, ite_not, ite_true, ite_false, not_true_eq_false, not_false_eq_true, or_true, true_or]
    · by_cases h3 : f 12 (7 * a + 0) < 4
      · simp only [eq_false h, eq_false h2, eq_true h3, eq_false (nle_of_lt h3), K0_v, K0_n, K0_x, K2_v, K2_n, K1_v, K1_n, K1_x, bI_s, bJ_s, bV_s, bS_s, l_10, l_00, bz_01, bz_0, bz_1, em_n, if_true, if_false, ite_not, ite_true, ite_false, not_true_eq_false, not_false_eq_true, or_true, true_or]
      · simp only [eq_false h, eq_false h2, eq_false h3, eq_true (Int32.not_lt.mp h3), K0_v, K0_n, K0_x, K2_v, K2_n, K1_v, K1_n, K1_x, bI_s, bJ_s, bV_s, bS_s, l_10, l_00, bz_01, bz_0, bz_1, em_n, if_true, if_false, ite_not, ite_true, ite_false, not_true_eq_false, not_false_eq_true, or_true, true_or]
theorem c_107 : mm_M 107 [.ref 11] (MW σ (vN c) f) = some (.inl (some (.int (nI (c 5)))), (MW σ (vN c) f)) := by
  simp only [M_107, e107_0, e107_4, mg_27, vN_, K0_v, K0_n, K0_x, K2_v, K2_n, K1_v, K1_n, K1_x, bI_s, bJ_s, bV_s, bS_s, l_10, l_00, bz_01, bz_0, bz_1, em_n, if_true, if_false, ite_not, ite_true, ite_false, not_true_eq_false, not_false_eq_true, or_true, true_or]
-- written
theorem c_121 (hc : c 0 ≤ 30) {a : Nat} (ha : a < c 0) {s : Int32} (hs : 0 ≤ s ∧ s ≤ 2) : mm_M 121 [.ref 11, .int (nI a), .int s] (MW σ (vN c) f) = some (.inl (some (.int (wr s (h7 (f 12) a)))), MW σ (vN (u2 c 5 0)) f) := by
  have h := eq_true (show 0 ≤ nI a ∧ nI a < nI (c 0) from ⟨nI_pos' (by omega), nI_lt ha (by omega)⟩)
  simp only [M_121, e121_0, e121_6, e121_9, e121_13, e121_19, e121_22, e121_26, e121_27, e121_30, e121_34, e121_37, e121_41, e121_47, Mo_112, Mo_120, c_112 hc, h, eq_true hs, c_108, ms_27, mg_27, c_120 (show a < 30 by omega), vs_0, vs_1, vs_2, vs_3, vs_n, vN_, u5_0, u5_1, u5_2, u5_3, u5_4, u5_5, t_0, t_1, t_2, t_3, te_0, te_1, te_2, te_3, K0_v, K0_n, K0_x, K2_v, K2_n, K1_v, K1_n, K1_x, bI_s, bJ_s, bV_s, bS_s, l_10, l_00, bz_01, bz_0, bz_1, em_n, if_true, if_false, ite_not, ite_true, ite_false, not_true_eq_false, not_false_eq_true, or_true, true_or]
theorem c_121x (hc : c 0 ≤ 30) {p s : Int32} (hp : ¬ (0 ≤ p ∧ p < nI (c 0))) : mm_M 121 [.ref 11, .int p, .int s] (MW σ (vN c) f) = some (.inl (some (.int 0)), MW σ (vN (u2 c 5 1)) f) := by
  simp only [M_121, e121_0, e121_6, e121_9, e121_13, e121_19, e121_22, e121_26, e121_27, e121_30, e121_34, e121_37, e121_41, e121_47, Mo_112, Mo_120, c_112 hc, eq_false hp, ms_27, mg_27, vs_0, vs_1, vs_2, vs_3, vs_n, vN_, u5_0, u5_1, u5_2, u5_3, u5_4, u5_5, t_0, t_1, t_2, t_3, te_0, te_1, te_2, te_3, K0_v, K0_n, K0_x, K2_v, K2_n, K1_v, K1_n, K1_x, bI_s, bJ_s, bV_s, bS_s, l_10, l_00, bz_01, bz_0, bz_1, em_n, if_true, if_false, ite_not, ite_true, ite_false, not_true_eq_false, not_false_eq_true, or_true, true_or]
theorem c_121y (hc : c 0 ≤ 30) {p s : Int32} (hp : (0 ≤ p ∧ p < nI (c 0))) (hs : ¬ (0 ≤ s ∧ s ≤ 2)) : mm_M 121 [.ref 11, .int p, .int s] (MW σ (vN c) f) = some (.inl (some (.int 0)), MW σ (vN (u2 c 5 2)) f) := by
  simp only [M_121, e121_0, e121_6, e121_9, e121_13, e121_19, e121_22, e121_26, e121_27, e121_30, e121_34, e121_37, e121_41, e121_47, Mo_112, Mo_120, c_112 hc, eq_true hp, eq_false hs, c_108, ms_27, mg_27, vs_0, vs_1, vs_2, vs_3, vs_n, vN_, u5_0, u5_1, u5_2, u5_3, u5_4, u5_5, t_0, t_1, t_2, t_3, te_0, te_1, te_2, te_3, K0_v, K0_n, K0_x, K2_v, K2_n, K1_v, K1_n, K1_x, bI_s, bJ_s, bV_s, bS_s, l_10, l_00, bz_01, bz_0, bz_1, em_n, if_true, if_false, ite_not, ite_true, ite_false, not_true_eq_false, not_false_eq_true, or_true, true_or]
-- nearest
def mb (f : Nat → Nat → Int32) (P k : Nat) (o : Option Nat) : Option Nat :=
  if k = P then o else match o with
    | none => some k
    | some m => if cu (h7 (f 12) P) (h7 (f 12) k) < cu (h7 (f 12) P) (h7 (f 12) m) then some k else some m
theorem l_118 (hc : c 0 ≤ 30) (q : Int32) {P : Nat} (hP : P < c 0) : ∀ m k (o : Option Nat), k + m = c 0 → (∀ x ∈ o, x < c 0) → ∃ o', up (mb f P) m k o = o' ∧ (∀ x ∈ o', x < c 0) ∧ mm_L 118 44 [.ref 11, .int (nI P), .int q, .int (fo o), .int (nI k)] [] (MW σ (vN c) f) = mm_L 118 93 [.ref 11, .int (nI P), .int q, .int (fo o'), .int (nI (c 0))] [] (MW σ (vN c) f)
  | 0, k, o, h, ho => by
    refine ⟨o, rfl, ho, ?_⟩
    have e : k = c 0 := by omega
    subst e
    have q := eq_true (nI_le (a := c 0) (b := c 0) (by omega) (by omega))
    rw [e118_44]
    simp only [mg_0, vN_, q, e118_0, e118_6, e118_9, e118_13, e118_19, e118_22, e118_26, e118_27, e118_30, e118_34, e118_37, e118_39, e118_50, e118_53, e118_59, e118_64, e118_71, e118_77, e118_80, e118_85, e118_86, e118_93, e118_98, e118_102, e118_106, e118_112, K0_v, K0_n, K0_x, K2_v, K2_n, K1_v, K1_n, K1_x, bI_s, bJ_s, bV_s, bS_s, l_10, l_00, bz_01, bz_0, bz_1, em_n, if_true, if_false, ite_not, ite_true, ite_false, not_true_eq_false, not_false_eq_true, or_true, true_or]
  | m + 1, k, o, h, ho => by
    have hk : k < c 0 := by omega
    have q := eq_false (nI_ge (a := k) (b := c 0) hk (by omega))
    have ho' : ∀ x ∈ mb f P k o, x < c 0 := by
      intro x hx
      unfold mb at hx
      split at hx
      · exact ho x hx
      · split at hx
        · cases hx; exact hk
        · split at hx
          · cases hx; exact hk
          · exact ho x hx
    obtain ⟨o', h1, h2, h3⟩ := l_118 hc _ hP m (k + 1) (mb f P k o) (by omega) ho'
    refine ⟨o', h1, h2, ?_⟩
    rw [← h3, e118_44]
    by_cases e : k = P
    · have e2 := eq_true ((nI_eq (a := k) (b := P) (by omega) (by omega)).mpr e)
      simp only [mg_0, vN_, q, e2, e118_50, e118_53, e118_85, e118_86, K0_v, K0_n, K0_x, K2_v, K2_n, K1_v, K1_n, K1_x, bI_s, bJ_s, bV_s, bS_s, l_10, l_00, bz_01, bz_0, bz_1, em_n, if_true, if_false, ite_not, ite_true, ite_false, not_true_eq_false, not_false_eq_true, or_true, true_or, nI_1]
      simp only [mb, if_pos e]
    · have e2 := eq_false (fun z => e ((nI_eq (a := k) (b := P) (by omega) (by omega)).mp z))
      cases o with
      | none =>
        have e3 : (fo none = -1) = True := by simp [fo]
        simp only [mg_0, vN_, q, e2, e3, e118_50, e118_53, e118_59, e118_80, e118_86, K0_v, K0_n, K0_x, K2_v, K2_n, K1_v, K1_n, K1_x, bI_s, bJ_s, bV_s, bS_s, l_10, l_00, bz_01, bz_0, bz_1, em_n, if_true, if_false, ite_not, ite_true, ite_false, not_true_eq_false, not_false_eq_true, or_true, true_or, nI_1]
        simp only [mb, if_neg e, fo]
      | some x =>
        have hx := ho x rfl
        have e3 : (fo (some x) = -1) = False := eq_false (nI_m1 (k := x) (by omega))
        have e4 : fo (some x) = nI x := rfl
        simp only [mg_0, vN_, q, e2, e3, Mo_117, c_117 (show P < 30 by omega) (show k < 30 by omega), e118_50, e118_53, e118_59, e118_64, e118_71, e118_77, e118_80, e118_85, e118_86, K0_v, K0_n, K0_x, K2_v, K2_n, K1_v, K1_n, K1_x, bI_s, bJ_s, bV_s, bS_s, l_10, l_00, bz_01, bz_0, bz_1, em_n, if_true, if_false, ite_not, ite_true, ite_false, not_true_eq_false, not_false_eq_true, or_true, true_or, nI_1]
        simp only [e4, Mo_117, c_117 (show P < 30 by omega) (show x < 30 by omega), K0_v, K0_n, K0_x, K2_v, K2_n, K1_v, K1_n, K1_x, bI_s, bJ_s, bV_s, bS_s, l_10, l_00, bz_01, bz_0, bz_1, em_n, if_true, if_false, ite_not, ite_true, ite_false, not_true_eq_false, not_false_eq_true, or_true, true_or, e118_77, e118_80, e118_85, e118_86]
        simp only [mb, if_neg e]
        by_cases p : cu (h7 (f 12) P) (h7 (f 12) k) < cu (h7 (f 12) P) (h7 (f 12) x)
        · simp only [eq_true p, eq_false (nle_of_lt p), K0_v, K0_n, K0_x, K2_v, K2_n, K1_v, K1_n, K1_x, bI_s, bJ_s, bV_s, bS_s, l_10, l_00, bz_01, bz_0, bz_1, em_n, if_true, if_false, ite_not, ite_true, ite_false, not_true_eq_false, not_false_eq_true, or_true, true_or, fo, nI_1]
        · simp only [eq_false p, eq_true (Int32.not_lt.mp p), K0_v, K0_n, K0_x, K2_v, K2_n, K1_v, K1_n, K1_x, bI_s, bJ_s, bV_s, bS_s, l_10, l_00, bz_01, bz_0, bz_1, em_n, if_true, if_false, ite_not, ite_true, ite_false, not_true_eq_false, not_false_eq_true, or_true, true_or, fo, nI_1]
def fw (f : Nat → Nat → Int32) (P : Nat) : Option Nat → Int32
  | none => -1
  | some m => cu (h7 (f 12) P) (h7 (f 12) m)
theorem c_118 (hc : c 0 ≤ 30) {P : Nat} (hP : P < c 0) {q : Int32} (hq : 0 ≤ q ∧ q ≤ 1) : mm_M 118 [.ref 11, .int (nI P), .int q] (MW σ (vN c) f) = some (.inl (some (.int (if q = 0 then fo (up (mb f P) (c 0) 0 none) else fw f P (up (mb f P) (c 0) 0 none)))), MW σ (vN (u2 c 5 0)) f) := by
  have h := eq_true (show 0 ≤ nI P ∧ nI P < nI (c 0) from ⟨nI_pos' (by omega), nI_lt hP (by omega)⟩)
  simp only [M_118, e118_0, e118_6, e118_9, e118_13, e118_19, e118_22, e118_26, e118_27, e118_30, e118_34, e118_37, e118_39, Mo_112, c_112 hc, h, eq_true hq, c_108, ms_27, mg_27, vs_0, vs_1, vs_2, vs_3, vs_n, vN_, u5_0, u5_1, u5_2, u5_3, u5_4, u5_5, t_0, t_1, t_2, t_3, te_0, te_1, te_2, te_3, K0_v, K0_n, K0_x, K2_v, K2_n, K1_v, K1_n, K1_x, bI_s, bJ_s, bV_s, bS_s, l_10, l_00, bz_01, bz_0, bz_1, em_n, if_true, if_false, ite_not, ite_true, ite_false, not_true_eq_false, not_false_eq_true, or_true, true_or]
  obtain ⟨o', h1, h2, h3⟩ := l_118 (σ := σ) (f := f) (c := u2 c 5 0) (by rw [u5_0]; exact hc) q (P := P) (by rw [u5_0]; exact hP) (c 0) 0 none (by rw [u5_0]; omega) (fun _ z => by cases z)
  rw [nI_0] at h3
  show mm_L 118 44 [.ref 11, .int (nI P), .int q, .int (fo none), .int 0] [] _ = _
  rw [h3, h1, e118_93]
  cases o' with
  | none =>
    simp only [show (fo none = -1) = True from by simp [fo], K0_v, K0_n, K0_x, K2_v, K2_n, K1_v, K1_n, K1_x, bI_s, bJ_s, bV_s, bS_s, l_10, l_00, bz_01, bz_0, bz_1, em_n, if_true, if_false, ite_not, ite_true, ite_false, not_true_eq_false, not_false_eq_true, or_true, true_or, e118_102, e118_112, fo, fw]
    split <;> rfl
  | some x =>
    have hx := h2 x rfl
    rw [u5_0] at hx
    have e3 : (nI x = -1) = False := eq_false (nI_m1 (k := x) (by omega))
    have e4 : fo (some x) = nI x := rfl
    simp only [e3, e4, K0_v, K0_n, K0_x, K2_v, K2_n, K1_v, K1_n, K1_x, bI_s, bJ_s, bV_s, bS_s, l_10, l_00, bz_01, bz_0, bz_1, em_n, if_true, if_false, ite_not, ite_true, ite_false, not_true_eq_false, not_false_eq_true, or_true, true_or, e118_98, e118_102, e118_106, e118_112, Mo_117, c_117 (show P < 30 by omega) (show x < 30 by omega), fw]
    split <;> rfl
theorem c_118x (hc : c 0 ≤ 30) {p q : Int32} (hp : ¬ (0 ≤ p ∧ p < nI (c 0))) : mm_M 118 [.ref 11, .int p, .int q] (MW σ (vN c) f) = some (.inl (some (.int 0)), MW σ (vN (u2 c 5 1)) f) := by
  simp only [M_118, e118_0, e118_6, e118_9, e118_13, e118_19, e118_22, e118_26, e118_27, e118_30, e118_34, e118_37, e118_39, Mo_112, c_112 hc, eq_false hp, ms_27, mg_27, vs_0, vs_1, vs_2, vs_3, vs_n, vN_, u5_0, u5_1, u5_2, u5_3, u5_4, u5_5, t_0, t_1, t_2, t_3, te_0, te_1, te_2, te_3, K0_v, K0_n, K0_x, K2_v, K2_n, K1_v, K1_n, K1_x, bI_s, bJ_s, bV_s, bS_s, l_10, l_00, bz_01, bz_0, bz_1, em_n, if_true, if_false, ite_not, ite_true, ite_false, not_true_eq_false, not_false_eq_true, or_true, true_or]
theorem c_118y (hc : c 0 ≤ 30) {p q : Int32} (hp : (0 ≤ p ∧ p < nI (c 0))) (hq : ¬ (0 ≤ q ∧ q ≤ 1)) : mm_M 118 [.ref 11, .int p, .int q] (MW σ (vN c) f) = some (.inl (some (.int 0)), MW σ (vN (u2 c 5 2)) f) := by
  simp only [M_118, e118_0, e118_6, e118_9, e118_13, e118_19, e118_22, e118_26, e118_27, e118_30, e118_34, e118_37, e118_39, Mo_112, c_112 hc, eq_true hp, eq_false hq, c_108, ms_27, mg_27, vs_0, vs_1, vs_2, vs_3, vs_n, vN_, u5_0, u5_1, u5_2, u5_3, u5_4, u5_5, t_0, t_1, t_2, t_3, te_0, te_1, te_2, te_3, K0_v, K0_n, K0_x, K2_v, K2_n, K1_v, K1_n, K1_x, bI_s, bJ_s, bV_s, bS_s, l_10, l_00, bz_01, bz_0, bz_1, em_n, if_true, if_false, ite_not, ite_true, ite_false, not_true_eq_false, not_false_eq_true, or_true, true_or]
-- loses
noncomputable def lm (f : Nat → Nat → Int32) (s o : Int32) (i : Nat) (k : Nat) (n : Int32) : Int32 := n + if wr s (h7 (f 12) i) ≠ wr s (h7 (f 12) k) ∧ wr o (h7 (f 12) i) = wr o (h7 (f 12) k) then 1 else 0
theorem lm_lp (f : Nat → Nat → Int32) (s o : Int32) (i : Nat) (k : Nat) (n : Int32) : lm f s o i k n = lp f s o i k n := by
  unfold lm lp
  split
  · rfl
  · exact Int32.add_zero n
theorem l_122 (hc : c 0 ≤ 30) (s o : Int32) {i : Nat} (hi : i < c 0) : ∀ m k n, k + m = c 0 → mm_L 122 54 [.ref 11, .int s, .int o, .int n, .int (nI i), .int (nI k)] [] (MW σ (vN c) f) = mm_L 122 32 [.ref 11, .int s, .int o, .int (up (lp f s o i) m k n), .int (nI (i + 1)), .int (nI (c 0))] [] (MW σ (vN c) f)
  | 0, k, n, h => by
    have e : k = c 0 := by omega
    subst e
    have q := eq_true (nI_le (a := c 0) (b := c 0) (by omega) (by omega))
    rw [e122_54]
    simp only [mg_0, vN_, q, e122_60, e122_111, K0_v, K0_n, K0_x, K2_v, K2_n, K1_v, K1_n, K1_x, bI_s, bJ_s, bV_s, bS_s, l_10, l_00, bz_01, bz_0, bz_1, em_n, if_true, if_false, ite_not, ite_true, ite_false, not_true_eq_false, not_false_eq_true, or_true, true_or, up, nI_1]
  | m + 1, k, n, h => by
    have hk : k < c 0 := by omega
    have q := eq_false (nI_ge (a := k) (b := c 0) hk (by omega))
    rw [e122_54]
    simp only [mg_0, vN_, q, e122_60, e122_63, e122_71, e122_78, e122_81, e122_88, e122_95, e122_98, e122_102, e122_103, Mo_120, c_120 (show i < 30 by omega), c_120 (show k < 30 by omega), K0_v, K0_n, K0_x, K2_v, K2_n, K1_v, K1_n, K1_x, bI_s, bJ_s, bV_s, bS_s, l_10, l_00, bz_01, bz_0, bz_1, em_n, if_true, if_false, ite_not, ite_true, ite_false, not_true_eq_false, not_false_eq_true, or_true, true_or, nI_1]
    rw [l_122 hc s o hi m (k + 1) (n + 0) (by omega), l_122 hc s o hi m (k + 1) (n + 1) (by omega)]
    simp only [up, ← lm_lp f s o i k n, lm, ne_eq]
    by_cases p1 : wr s (h7 (f 12) i) = wr s (h7 (f 12) k)
    · simp only [eq_true p1, K0_v, K0_n, K0_x, K2_v, K2_n, K1_v, K1_n, K1_x, bI_s, bJ_s, bV_s, bS_s, l_10, l_00, bz_01, bz_0, bz_1, em_n, if_true, if_false, ite_not, ite_true, ite_false, not_true_eq_false, not_false_eq_true, or_true, true_or, false_and]
    · by_cases p2 : wr o (h7 (f 12) i) = wr o (h7 (f 12) k)
      · simp only [eq_false p1, eq_true p2, K0_v, K0_n, K0_x, K2_v, K2_n, K1_v, K1_n, K1_x, bI_s, bJ_s, bV_s, bS_s, l_10, l_00, bz_01, bz_0, bz_1, em_n, if_true, if_false, ite_not, ite_true, ite_false, not_true_eq_false, not_false_eq_true, or_true, true_or, true_and]
      · simp only [eq_false p1, eq_false p2, K0_v, K0_n, K0_x, K2_v, K2_n, K1_v, K1_n, K1_x, bI_s, bJ_s, bV_s, bS_s, l_10, l_00, bz_01, bz_0, bz_1, em_n, if_true, if_false, ite_not, ite_true, ite_false, not_true_eq_false, not_false_eq_true, or_true, true_or, true_and]
theorem l_122o (hc : c 0 ≤ 30) (h5 : c 5 = 0) (s o : Int32) : ∀ m i n (l5 : Value), i + m = c 0 → mm_L 122 32 [.ref 11, .int s, .int o, .int n, .int (nI i), l5] [] (MW σ (vN c) f) = some (.inl (some (.int (up (lq f (c 0) s o) m i n))), (MW σ (vN c) f))
  | 0, i, n, l5, h => by
    have q := eq_true (nI_le (a := c 0) (b := i) (by omega) (by omega))
    rw [e122_32]
    simp only [mg_0, vN_, q, e122_38, e122_117, K0_v, K0_n, K0_x, K2_v, K2_n, K1_v, K1_n, K1_x, bI_s, bJ_s, bV_s, bS_s, l_10, l_00, bz_01, bz_0, bz_1, em_n, if_true, if_false, ite_not, ite_true, ite_false, not_true_eq_false, not_false_eq_true, or_true, true_or, up]
  | m + 1, i, n, l5, h => by
    have hi : i < c 0 := by omega
    have q := eq_false (nI_ge (a := i) (b := c 0) hi (by omega))
    rw [e122_32]
    simp only [mg_0, mg_27, h5, te_0, vN_, q, e122_38, e122_41, e122_45, e122_48, K0_v, K0_n, K0_x, K2_v, K2_n, K1_v, K1_n, K1_x, bI_s, bJ_s, bV_s, bS_s, l_10, l_00, bz_01, bz_0, bz_1, em_n, if_true, if_false, ite_not, ite_true, ite_false, not_true_eq_false, not_false_eq_true, or_true, true_or, nI_1]
    rw [l_122 hc s o hi (c 0 - (i + 1)) (i + 1) n (by omega), l_122o hc h5 s o m (i + 1) _ _ (by omega)]
    rfl
theorem c_122 (hc : c 0 ≤ 30) {s o : Int32} (hs : 0 ≤ s ∧ s ≤ 2) (ho : 0 ≤ o ∧ o ≤ 2) : mm_M 122 [.ref 11, .int s, .int o] (MW σ (vN c) f) = some (.inl (some (.int (up (lq f (c 0) s o) (c 0) 0 0))), MW σ (vN (u2 c 5 0)) f) := by
  simp only [M_122, e122_0, e122_7, e122_10, e122_16, e122_19, e122_23, e122_24, e122_27, eq_true hs, eq_true ho, c_108, ms_27, vs_0, vs_1, vs_2, vs_3, vs_n, vN_, u5_0, u5_1, u5_2, u5_3, u5_4, u5_5, t_0, t_1, t_2, t_3, te_0, te_1, te_2, te_3, K0_v, K0_n, K0_x, K2_v, K2_n, K1_v, K1_n, K1_x, bI_s, bJ_s, bV_s, bS_s, l_10, l_00, bz_01, bz_0, bz_1, em_n, if_true, if_false, ite_not, ite_true, ite_false, not_true_eq_false, not_false_eq_true, or_true, true_or]
  have l := l_122o (σ := σ) (f := f) (c := u2 c 5 0) (by rw [u5_0]; exact hc) (u5_5 c 0) s o (c 0) 0 0 mm_un (by rw [u5_0]; omega)
  rw [nI_0, u5_0] at l
  exact l
theorem c_122x (hc : c 0 ≤ 30) {s o : Int32} (hs : ¬ ((0 ≤ s ∧ s ≤ 2) ∧ (0 ≤ o ∧ o ≤ 2))) : mm_M 122 [.ref 11, .int s, .int o] (MW σ (vN c) f) = some (.inl (some (.int 0)), MW σ (vN (u2 c 5 1)) f) := by
  have key : mm_M 122 [.ref 11, .int s, .int o] (MW σ (vN c) f) = mm_L 122 32 [.ref 11, .int s, .int o, .int 0, .int 0, mm_un] [] (MW σ (vN (u2 c 5 1)) f) := by
    by_cases h : 0 ≤ s ∧ s ≤ 2
    · have h2 : ¬ (0 ≤ o ∧ o ≤ 2) := fun z => hs ⟨h, z⟩
      simp only [M_122, e122_0, e122_7, e122_10, e122_16, e122_19, e122_23, e122_24, e122_27, eq_true h, eq_false h2, c_108, ms_27, vs_0, vs_1, vs_2, vs_3, vs_n, vN_, u5_0, u5_1, u5_2, u5_3, u5_4, u5_5, t_0, t_1, t_2, t_3, te_0, te_1, te_2, te_3, K0_v, K0_n, K0_x, K2_v, K2_n, K1_v, K1_n, K1_x, bI_s, bJ_s, bV_s, bS_s, l_10, l_00, bz_01, bz_0, bz_1, em_n, if_true, if_false, ite_not, ite_true, ite_false, not_true_eq_false, not_false_eq_true, or_true, true_or]
    · simp only [M_122, e122_0, e122_7, e122_10, e122_16, e122_19, e122_23, e122_24, e122_27, eq_false h, c_108, ms_27, vs_0, vs_1, vs_2, vs_3, vs_n, vN_, u5_0, u5_1, u5_2, u5_3, u5_4, u5_5, t_0, t_1, t_2, t_3, te_0, te_1, te_2, te_3, K0_v, K0_n, K0_x, K2_v, K2_n, K1_v, K1_n, K1_x, bI_s, bJ_s, bV_s, bS_s, l_10, l_00, bz_01, bz_0, bz_1, em_n, if_true, if_false, ite_not, ite_true, ite_false, not_true_eq_false, not_false_eq_true, or_true, true_or]
  rw [key, e122_32]
  simp only [mg_0, mg_27, e122_38, e122_41, e122_45, e122_117, vs_0, vs_1, vs_2, vs_3, vs_n, vN_, u5_0, u5_1, u5_2, u5_3, u5_4, u5_5, t_0, t_1, t_2, t_3, te_0, te_1, te_2, te_3, K0_v, K0_n, K0_x, K2_v, K2_n, K1_v, K1_n, K1_x, bI_s, bJ_s, bV_s, bS_s, l_10, l_00, bz_01, bz_0, bz_1, em_n, if_true, if_false, ite_not, ite_true, ite_false, not_true_eq_false, not_false_eq_true, or_true, true_or]
  split <;> rfl
end
