/-! LEVEL 2: the reference's clips -/
def rgc (f : Nat → Nat → Int32) (I : Nat) (a b x y : Int32) : Nat → Nat → Int32 := uf (uf (uf (uf (uf f 24 I a) 25 I b) 26 I x) 27 I y) 23 I 0
def pgv (f : Nat → Nat → Int32) (x : Int32) : Int32 := if x = -1 then 0 else f 23 x.toNatClampNeg
def rgo (p q : Int32) (f : Nat → Nat → Int32) (k : Nat) : Prop := f 23 k = 0 ∧ ((((f 24 k >>> (p &&& 31)) &&& 1 = 1) ∧ (q = -1 ∨ f 25 k = q)) ∨ pgv f (f 26 k) ≠ 0 ∨ pgv f (f 27 k) ≠ 0)
noncomputable def rgd (p q : Int32) (f : Nat → Nat → Int32) (k : Nat) : Decidable (rgo p q f k) := by unfold rgo; infer_instance
noncomputable def rgs (p q : Int32) (k : Nat) (X : Int32 × (Nat → Nat → Int32)) : Int32 × (Nat → Nat → Int32) := @ite _ (rgo p q X.2 k) (rgd p q X.2 k) (X.1 + 1, uf X.2 23 k 1) X
/-- parents are clips before -/
def PV (f : Nat → Nat → Int32) (C : Nat) : Prop := ∀ k, k < C → (f 26 k = -1 ∨ ∃ j, j < k ∧ f 26 k = nI j) ∧ (f 27 k = -1 ∨ ∃ j, j < k ∧ f 27 k = nI j)
def alw (f : Nat → Nat → Int32) (q P : Int32) (j : Nat) (x : Int32) : Int32 := x &&& bz ((P >>> (nI j &&& 31)) &&& 1 = 0 ∨ (f 28 j >>> (q &&& 31)) &&& 1 = 1)
section
variable {σ : mm_S} {c : Nat → Nat} {f : Nat → Nat → Int32}
theorem n12 (a : Nat) : (12 : Int32) * nI a = nI (12 * a) := nI_mul 12 a
theorem n4 (a : Nat) : (4 : Int32) * nI a = nI (4 * a) := nI_mul 4 a
theorem n200 (a : Nat) : (200 : Int32) * nI a = nI (200 * a) := nI_mul 200 a
theorem n10 (a : Nat) : (10 : Int32) * nI a = nI (10 * a) := nI_mul 10 a
theorem c_154x (hc : c 4 ≤ 24) {p : Int32} (h : ¬ (0 ≤ p ∧ p < nI (c 4))) : mm_M 154 [.ref 11, .int p] (MW σ (vN c) f) = some (.inl (some (.int 0)), (MW σ (vN c) f)) := by
  have u := upto_lt (p := p) (n := c 4) (by omega)
  simp only [M_154, e154_0, e154_6, e154_11, e154_14, e154_18, e154_20, e154_23, e154_27, e154_28, mg_15, vN_, c_108, eq_false (fun z => h (u.mp z)), K0_v, K0_n, K0_x, K2_v, K2_n, K1_v, K1_n, K1_x, bI_s, bJ_s, bV_s, bS_s, l_10, l_00, bz_01, bz_0, bz_1, em_n, if_true, if_false, ite_not, ite_true, ite_false, not_true_eq_false, not_false_eq_true, or_true, true_or]
theorem c_154 (hc : c 4 ≤ 24) {k : Nat} (hk : k < c 4) : mm_M 154 [.ref 11, .int (nI k)] (MW σ (vN c) f) = some (.inl (some (.int (bz (f 23 k = 0)))), (MW σ (vN c) f)) := by
  have u := (upto_lt (p := nI k) (n := c 4) (by omega)).mpr ⟨nI_pos' (by omega), nI_lt hk (by omega)⟩
  by_cases h : f 23 k = 0
  · rw [bz_t h]
    simp only [M_154, e154_0, e154_6, e154_11, e154_14, e154_18, e154_20, e154_23, e154_27, e154_28, mg_15, vN_, c_108, eq_true u, mg_16, MW_getz (show k < 24 by omega), eq_true h, K0_v, K0_n, K0_x, K2_v, K2_n, K1_v, K1_n, K1_x, bI_s, bJ_s, bV_s, bS_s, l_10, l_00, bz_01, bz_0, bz_1, em_n, if_true, if_false, ite_not, ite_true, ite_false, not_true_eq_false, not_false_eq_true, or_true, true_or]
  · rw [bz_f h]
    simp only [M_154, e154_0, e154_6, e154_11, e154_14, e154_18, e154_20, e154_23, e154_27, e154_28, mg_15, vN_, c_108, eq_true u, mg_16, MW_getz (show k < 24 by omega), eq_false h, K0_v, K0_n, K0_x, K2_v, K2_n, K1_v, K1_n, K1_x, bI_s, bJ_s, bV_s, bS_s, l_10, l_00, bz_01, bz_0, bz_1, em_n, if_true, if_false, ite_not, ite_true, ite_false, not_true_eq_false, not_false_eq_true, or_true, true_or]
theorem c_155 {k : Nat} (hk : k < 24) : mm_M 155 [.ref 11, .int (nI k)] (MW σ (vN c) f) = some (.inl (some (.int (f 24 k))), (MW σ (vN c) f)) := by
  simp only [M_155, e155_0, e155_4, e155_6, mg_17, ma_24 hk, K0_v, K0_n, K0_x, K2_v, K2_n, K1_v, K1_n, K1_x, bI_s, bJ_s, bV_s, bS_s, l_10, l_00, bz_01, bz_0, bz_1, em_n, if_true, if_false, ite_not, ite_true, ite_false, not_true_eq_false, not_false_eq_true, or_true, true_or]
theorem c_156 (hc : c 4 < 24) (a b x y : Int32) : mm_M 156 [.ref 11, .int a, .int b, .int x, .int y] (MW σ (vN c) f) = some (.inl (some (.int (nI (c 4)))), MW σ (vN (u2 c 4 (c 4 + 1))) (rgc f (c 4) a b x y)) := by
  have v4 : upd (vN c) 4 (nI (c 4 + 1)) = vN (u2 c 4 (c 4 + 1)) := vs_n c 4 (c 4 + 1)
  simp only [M_156, e156_0, e156_4, e156_8, e156_10, e156_14, e156_18, e156_20, e156_24, e156_28, e156_30, e156_34, e156_38, e156_41, e156_45, e156_49, e156_51, e156_56, e156_61, e156_65, mg_17, mg_15, vN_, mt_24 hc, mg_18, mt_25 hc, mg_19, mt_26 hc, mg_20, mt_27 hc, mg_16, MW_setz hc, ms_15, nI_1, v4, u2_s, nI_pred, K0_v, K0_n, K0_x, K2_v, K2_n, K1_v, K1_n, K1_x, bI_s, bJ_s, bV_s, bS_s, l_10, l_00, bz_01, bz_0, bz_1, em_n, if_true, if_false, ite_not, ite_true, ite_false, not_true_eq_false, not_false_eq_true, or_true, true_or]
  rfl
theorem c_157x {p : Int32} (h : ¬ (0 ≤ p ∧ p ≤ 5)) : mm_M 157 [.ref 11, .int p] (MW σ (vN c) f) = some (.inl (some (.int 0)), MW σ (vN (u2 c 5 1)) f) := by
  simp only [M_157, e157_0, e157_7, e157_10, e157_14, e157_18, e157_23, e157_27, e157_28, e157_31, e157_35, e157_38, e157_42, e157_52, c_108, eq_false h, ms_27, mg_27, vs_0, vs_1, vs_2, vs_3, vs_n, vN_, u5_0, u5_1, u5_2, u5_3, u5_4, u5_5, t_0, t_1, t_2, t_3, te_0, te_1, te_2, te_3, K0_v, K0_n, K0_x, K2_v, K2_n, K1_v, K1_n, K1_x, bI_s, bJ_s, bV_s, bS_s, l_10, l_00, bz_01, bz_0, bz_1, em_n, if_true, if_false, ite_not, ite_true, ite_false, not_true_eq_false, not_false_eq_true, or_true, true_or]
theorem c_157y {p : Int32} (h : 0 ≤ p ∧ p ≤ 5) (hc : c 4 = 24) : mm_M 157 [.ref 11, .int p] (MW σ (vN c) f) = some (.inl (some (.int 0)), MW σ (vN (u2 c 5 2)) f) := by
  have z : (nI (c 4) = 24) = True := by rw [hc]; decide
  simp only [M_157, e157_0, e157_7, e157_10, e157_14, e157_18, e157_23, e157_27, e157_28, e157_31, e157_35, e157_38, e157_42, e157_52, c_108, eq_true h, mg_15, z, ms_27, mg_27, vs_0, vs_1, vs_2, vs_3, vs_n, vN_, u5_0, u5_1, u5_2, u5_3, u5_4, u5_5, t_0, t_1, t_2, t_3, te_0, te_1, te_2, te_3, K0_v, K0_n, K0_x, K2_v, K2_n, K1_v, K1_n, K1_x, bI_s, bJ_s, bV_s, bS_s, l_10, l_00, bz_01, bz_0, bz_1, em_n, if_true, if_false, ite_not, ite_true, ite_false, not_true_eq_false, not_false_eq_true, or_true, true_or]
theorem ne24 {n : Nat} (h : n < 24) : (nI n = 24) = False := eq_false (fun z => by have := (nI_eq (a := n) (b := 24) (by omega) (by decide)).mp z; omega)
theorem c_157 {p : Int32} (h : 0 ≤ p ∧ p ≤ 5) (hc : c 4 < 24) : mm_M 157 [.ref 11, .int p] (MW σ (vN c) f) = some (.inl (some (.int (nI (c 4)))), MW σ (vN (u2 (u2 c 5 0) 4 (c 4 + 1))) (rgc f (c 4) (1 <<< (p &&& 31)) (-1) (-1) (-1))) := by
  have l := c_156 (σ := σ) (c := u2 c 5 0) (f := f) (by rw [u5_4]; exact hc) (1 <<< (p &&& 31)) (-1) (-1) (-1)
  rw [u5_4] at l
  simp only [M_157, e157_0, e157_7, e157_10, e157_14, e157_18, e157_23, e157_27, e157_28, e157_31, e157_35, e157_38, e157_42, e157_52, c_108, eq_true h, mg_15, ne24 hc, ms_27, mg_27, Mo_156, l, vs_0, vs_1, vs_2, vs_3, vs_n, vN_, u5_0, u5_1, u5_2, u5_3, u5_4, u5_5, t_0, t_1, t_2, t_3, te_0, te_1, te_2, te_3, K0_v, K0_n, K0_x, K2_v, K2_n, K1_v, K1_n, K1_x, bI_s, bJ_s, bV_s, bS_s, l_10, l_00, bz_01, bz_0, bz_1, em_n, if_true, if_false, ite_not, ite_true, ite_false, not_true_eq_false, not_false_eq_true, or_true, true_or]
-- make
theorem c_158a (hc : c 4 ≤ 24) {p q o : Int32} (h : ¬ (0 ≤ p ∧ p < nI (c 4))) : mm_M 158 [.ref 11, .int q, .int p, .int o] (MW σ (vN c) f) = some (.inl (some (.int 0)), MW σ (vN (u2 c 5 1)) f) := by
  simp only [M_158, e158_0, e158_6, e158_9, e158_14, e158_19, e158_22, e158_26, e158_32, e158_35, e158_39, e158_40, e158_43, e158_47, e158_50, Mo_154, c_154x hc h, ms_27, mg_27, vs_0, vs_1, vs_2, vs_3, vs_n, vN_, u5_0, u5_1, u5_2, u5_3, u5_4, u5_5, t_0, t_1, t_2, t_3, te_0, te_1, te_2, te_3, K0_v, K0_n, K0_x, K2_v, K2_n, K1_v, K1_n, K1_x, bI_s, bJ_s, bV_s, bS_s, l_10, l_00, bz_01, bz_0, bz_1, em_n, if_true, if_false, ite_not, ite_true, ite_false, not_true_eq_false, not_false_eq_true, or_true, true_or]
theorem c_158b (hc : c 4 ≤ 24) {k : Nat} {q o : Int32} (hk : k < c 4) (h : f 23 k ≠ 0) : mm_M 158 [.ref 11, .int q, .int (nI k), .int o] (MW σ (vN c) f) = some (.inl (some (.int 0)), MW σ (vN (u2 c 5 1)) f) := by
  simp only [M_158, e158_0, e158_6, e158_9, e158_14, e158_19, e158_22, e158_26, e158_32, e158_35, e158_39, e158_40, e158_43, e158_47, e158_50, Mo_154, c_154 hc hk, eq_false h, ms_27, mg_27, vs_0, vs_1, vs_2, vs_3, vs_n, vN_, u5_0, u5_1, u5_2, u5_3, u5_4, u5_5, t_0, t_1, t_2, t_3, te_0, te_1, te_2, te_3, K0_v, K0_n, K0_x, K2_v, K2_n, K1_v, K1_n, K1_x, bI_s, bJ_s, bV_s, bS_s, l_10, l_00, bz_01, bz_0, bz_1, em_n, if_true, if_false, ite_not, ite_true, ite_false, not_true_eq_false, not_false_eq_true, or_true, true_or]
theorem c_158c (hc : c 4 ≤ 24) {k : Nat} {q o : Int32} (hk : k < c 4) (h : f 23 k = 0) (ho : o ≠ -1) (h2 : ¬ (0 ≤ o ∧ o < nI (c 4))) : mm_M 158 [.ref 11, .int q, .int (nI k), .int o] (MW σ (vN c) f) = some (.inl (some (.int 0)), MW σ (vN (u2 c 5 1)) f) := by
  simp only [M_158, e158_0, e158_6, e158_9, e158_14, e158_19, e158_22, e158_26, e158_32, e158_35, e158_39, e158_40, e158_43, e158_47, e158_50, Mo_154, c_154 hc hk, eq_true h, eq_false ho, c_154x hc h2, ms_27, mg_27, vs_0, vs_1, vs_2, vs_3, vs_n, vN_, u5_0, u5_1, u5_2, u5_3, u5_4, u5_5, t_0, t_1, t_2, t_3, te_0, te_1, te_2, te_3, K0_v, K0_n, K0_x, K2_v, K2_n, K1_v, K1_n, K1_x, bI_s, bJ_s, bV_s, bS_s, l_10, l_00, bz_01, bz_0, bz_1, em_n, if_true, if_false, ite_not, ite_true, ite_false, not_true_eq_false, not_false_eq_true, or_true, true_or]
theorem c_158d (hc : c 4 ≤ 24) {k m : Nat} {q : Int32} (hk : k < c 4) (h : f 23 k = 0) (hm : m < c 4) (h2 : f 23 m ≠ 0) : mm_M 158 [.ref 11, .int q, .int (nI k), .int (nI m)] (MW σ (vN c) f) = some (.inl (some (.int 0)), MW σ (vN (u2 c 5 1)) f) := by
  simp only [M_158, e158_0, e158_6, e158_9, e158_14, e158_19, e158_22, e158_26, e158_32, e158_35, e158_39, e158_40, e158_43, e158_47, e158_50, Mo_154, c_154 hc hk, eq_true h, eq_false (nI_m1 (k := m) (by omega)), c_154 hc hm, eq_false h2, ms_27, mg_27, vs_0, vs_1, vs_2, vs_3, vs_n, vN_, u5_0, u5_1, u5_2, u5_3, u5_4, u5_5, t_0, t_1, t_2, t_3, te_0, te_1, te_2, te_3, K0_v, K0_n, K0_x, K2_v, K2_n, K1_v, K1_n, K1_x, bI_s, bJ_s, bV_s, bS_s, l_10, l_00, bz_01, bz_0, bz_1, em_n, if_true, if_false, ite_not, ite_true, ite_false, not_true_eq_false, not_false_eq_true, or_true, true_or]
theorem c_158e (hc : c 4 ≤ 24) {k m : Nat} {q o : Int32} (hk : k < c 4) (h : f 23 k = 0) (ho : OC c f k o m) (hq : ¬ (0 ≤ q ∧ q ≤ 2)) : mm_M 158 [.ref 11, .int q, .int (nI k), .int o] (MW σ (vN c) f) = some (.inl (some (.int 0)), MW σ (vN (u2 c 5 2)) f) := by
  rcases ho with ⟨rfl, rfl⟩ | ⟨rfl, hm, h2⟩
  · simp only [M_158, e158_0, e158_6, e158_9, e158_14, e158_19, e158_22, e158_26, e158_32, e158_35, e158_39, e158_40, e158_43, e158_47, e158_50, Mo_154, c_154 hc hk, eq_true h, c_108, eq_false hq, ms_27, mg_27, vs_0, vs_1, vs_2, vs_3, vs_n, vN_, u5_0, u5_1, u5_2, u5_3, u5_4, u5_5, t_0, t_1, t_2, t_3, te_0, te_1, te_2, te_3, K0_v, K0_n, K0_x, K2_v, K2_n, K1_v, K1_n, K1_x, bI_s, bJ_s, bV_s, bS_s, l_10, l_00, bz_01, bz_0, bz_1, em_n, if_true, if_false, ite_not, ite_true, ite_false, not_true_eq_false, not_false_eq_true, or_true, true_or]
  · simp only [M_158, e158_0, e158_6, e158_9, e158_14, e158_19, e158_22, e158_26, e158_32, e158_35, e158_39, e158_40, e158_43, e158_47, e158_50, Mo_154, c_154 hc hk, eq_true h, eq_false (nI_m1 (k := m) (by omega)), c_154 hc hm, eq_true h2, c_108, eq_false hq, ms_27, mg_27, vs_0, vs_1, vs_2, vs_3, vs_n, vN_, u5_0, u5_1, u5_2, u5_3, u5_4, u5_5, t_0, t_1, t_2, t_3, te_0, te_1, te_2, te_3, K0_v, K0_n, K0_x, K2_v, K2_n, K1_v, K1_n, K1_x, bI_s, bJ_s, bV_s, bS_s, l_10, l_00, bz_01, bz_0, bz_1, em_n, if_true, if_false, ite_not, ite_true, ite_false, not_true_eq_false, not_false_eq_true, or_true, true_or]
theorem l_158 {q P : Int32} {l1 l2 : Int32} : ∀ m k (x : Int32), k + m = 6 → mm_L 158 80 [.ref 11, .int q, .int l1, .int l2, .int P, .int x, .int (nI k)] [] (MW σ (vN c) f) = mm_L 158 128 [.ref 11, .int q, .int l1, .int l2, .int P, .int (up (alw f q P) m k x), .int (nI 6)] [] (MW σ (vN c) f)
  | 0, k, x, h => by
    have e : k = 6 := by omega
    subst e
    rw [e158_80, if_pos (by decide)]
    rfl
  | m + 1, k, x, h => by
    have z := eq_false (show ¬ (6 : Int32) ≤ nI k from show ¬ nI 6 ≤ nI k from nI_ge (by omega) (by decide))
    have ih := fun x => l_158 (q := q) (P := P) (l1 := l1) (l2 := l2) m (k + 1) x (by omega)
    rw [e158_80]
    show _ = mm_L 158 128 [.ref 11, .int q, .int l1, .int l2, .int P, .int (up (alw f q P) m (k + 1) (alw f q P k x)), .int (nI 6)] [] (MW σ (vN c) f)
    rw [← ih]
    unfold alw
    by_cases h1 : (P >>> (nI k &&& 31)) &&& 1 = 0
    · rw [bz_t (Or.inl h1)]
      simp only [z, e158_87, e158_99, e158_103, e158_106, e158_114, e158_118, e158_119, eq_true h1, nI_1, K0_v, K0_n, K0_x, K2_v, K2_n, K1_v, K1_n, K1_x, bI_s, bJ_s, bV_s, bS_s, l_10, l_00, bz_01, bz_0, bz_1, em_n, if_true, if_false, ite_not, ite_true, ite_false, not_true_eq_false, not_false_eq_true, or_true, true_or]
    · by_cases h2 : (f 28 k >>> (q &&& 31)) &&& 1 = 1
      · rw [bz_t (Or.inr h2)]
        simp only [z, e158_87, e158_99, e158_103, e158_106, e158_114, e158_118, e158_119, eq_false h1, mg_21, ma_28 (show k < 6 by omega), eq_true h2, nI_1, K0_v, K0_n, K0_x, K2_v, K2_n, K1_v, K1_n, K1_x, bI_s, bJ_s, bV_s, bS_s, l_10, l_00, bz_01, bz_0, bz_1, em_n, if_true, if_false, ite_not, ite_true, ite_false, not_true_eq_false, not_false_eq_true, or_true, true_or]
      · rw [bz_f (fun y => y.elim h1 h2)]
        simp only [z, e158_87, e158_99, e158_103, e158_106, e158_114, e158_118, e158_119, eq_false h1, mg_21, ma_28 (show k < 6 by omega), eq_false h2, nI_1, K0_v, K0_n, K0_x, K2_v, K2_n, K1_v, K1_n, K1_x, bI_s, bJ_s, bV_s, bS_s, l_10, l_00, bz_01, bz_0, bz_1, em_n, if_true, if_false, ite_not, ite_true, ite_false, not_true_eq_false, not_false_eq_true, or_true, true_or]
def rpe (f : Nat → Nat → Int32) (k : Nat) (o : Int32) (m : Nat) : Int32 := if o = -1 then f 24 k ||| 0 else f 24 k ||| f 24 m
theorem s_158 (hc : c 4 ≤ 24) {k m : Nat} {q o : Int32} (hk : k < c 4) (h : f 23 k = 0) (ho : OC c f k o m) (hq : 0 ≤ q ∧ q ≤ 2) : mm_M 158 [.ref 11, .int q, .int (nI k), .int o] (MW σ (vN c) f) = mm_L 158 128 [.ref 11, .int q, .int (nI k), .int o, .int (rpe f k o m), .int (up (alw f q (rpe f k o m)) 6 0 1), .int (nI 6)] [] (MW σ (vN (u2 c 5 0)) f) := by
  have hl := l_158 (σ := σ) (c := u2 c 5 0) (f := f) (q := q) (P := rpe f k o m) (l1 := nI k) (l2 := o) 6 0 1 (by omega)
  rw [nI_0] at hl
  rw [← hl]
  unfold rpe
  rcases ho with ⟨rfl, rfl⟩ | ⟨rfl, hm, h2⟩
  · simp only [M_158, e158_0, e158_6, e158_9, e158_14, e158_19, e158_22, e158_26, e158_32, e158_35, e158_39, e158_40, e158_43, e158_47, e158_50, e158_52, e158_57, e158_62, e158_66, e158_71, Mo_154, c_154 hc hk, eq_true h, c_108, eq_true hq, ms_27, mg_27, Mo_155, c_155 (show m < 24 by omega), vs_0, vs_1, vs_2, vs_3, vs_n, vN_, u5_0, u5_1, u5_2, u5_3, u5_4, u5_5, t_0, t_1, t_2, t_3, te_0, te_1, te_2, te_3, K0_v, K0_n, K0_x, K2_v, K2_n, K1_v, K1_n, K1_x, bI_s, bJ_s, bV_s, bS_s, l_10, l_00, bz_01, bz_0, bz_1, em_n, if_true, if_false, ite_not, ite_true, ite_false, not_true_eq_false, not_false_eq_true, or_true, true_or]
  · simp only [M_158, e158_0, e158_6, e158_9, e158_14, e158_19, e158_22, e158_26, e158_32, e158_35, e158_39, e158_40, e158_43, e158_47, e158_50, e158_52, e158_57, e158_62, e158_66, e158_71, Mo_154, c_154 hc hk, eq_true h, eq_false (nI_m1 (k := m) (by omega)), c_154 hc hm, eq_true h2, c_108, eq_true hq, ms_27, mg_27, Mo_155, c_155 (show k < 24 by omega), c_155 (show m < 24 by omega), vs_0, vs_1, vs_2, vs_3, vs_n, vN_, u5_0, u5_1, u5_2, u5_3, u5_4, u5_5, t_0, t_1, t_2, t_3, te_0, te_1, te_2, te_3, K0_v, K0_n, K0_x, K2_v, K2_n, K1_v, K1_n, K1_x, bI_s, bJ_s, bV_s, bS_s, l_10, l_00, bz_01, bz_0, bz_1, em_n, if_true, if_false, ite_not, ite_true, ite_false, not_true_eq_false, not_false_eq_true, or_true, true_or]
theorem c_158f {k m : Nat} {q o : Int32} (hk : k < c 4) (h : f 23 k = 0) (ho : OC c f k o m) (hq : 0 ≤ q ∧ q ≤ 2) (hc : c 4 = 24) : mm_M 158 [.ref 11, .int q, .int (nI k), .int o] (MW σ (vN c) f) = some (.inl (some (.int 0)), MW σ (vN (u2 c 5 3)) f) := by
  have z : (nI (c 4) = 24) = True := by rw [hc]; decide
  rw [s_158 (by omega) hk h ho hq]
  simp only [e158_128, e158_133, e158_138, e158_143, e158_147, e158_148, e158_151, e158_155, e158_158, e158_162, e158_171, mg_15, z, ms_27, mg_27, u2_u2, vs_0, vs_1, vs_2, vs_3, vs_n, vN_, u5_0, u5_1, u5_2, u5_3, u5_4, u5_5, t_0, t_1, t_2, t_3, te_0, te_1, te_2, te_3, K0_v, K0_n, K0_x, K2_v, K2_n, K1_v, K1_n, K1_x, bI_s, bJ_s, bV_s, bS_s, l_10, l_00, bz_01, bz_0, bz_1, em_n, if_true, if_false, ite_not, ite_true, ite_false, not_true_eq_false, not_false_eq_true, or_true, true_or]
theorem c_158g {k m : Nat} {q o : Int32} (hk : k < c 4) (h : f 23 k = 0) (ho : OC c f k o m) (hq : 0 ≤ q ∧ q ≤ 2) (hc : c 4 < 24) (hr : up (alw f q (rpe f k o m)) 6 0 1 = 0) : mm_M 158 [.ref 11, .int q, .int (nI k), .int o] (MW σ (vN c) f) = some (.inl (some (.int 0)), MW σ (vN (u2 c 5 3)) f) := by
  rw [s_158 (by omega) hk h ho hq, hr]
  simp only [e158_128, e158_133, e158_138, e158_143, e158_147, e158_148, e158_151, e158_155, e158_158, e158_162, e158_171, mg_15, ne24 hc, ms_27, mg_27, u2_u2, vs_0, vs_1, vs_2, vs_3, vs_n, vN_, u5_0, u5_1, u5_2, u5_3, u5_4, u5_5, t_0, t_1, t_2, t_3, te_0, te_1, te_2, te_3, K0_v, K0_n, K0_x, K2_v, K2_n, K1_v, K1_n, K1_x, bI_s, bJ_s, bV_s, bS_s, l_10, l_00, bz_01, bz_0, bz_1, em_n, if_true, if_false, ite_not, ite_true, ite_false, not_true_eq_false, not_false_eq_true, or_true, true_or]
theorem c_158 {k m : Nat} {q o : Int32} (hk : k < c 4) (h : f 23 k = 0) (ho : OC c f k o m) (hq : 0 ≤ q ∧ q ≤ 2) (hc : c 4 < 24) (hr : up (alw f q (rpe f k o m)) 6 0 1 ≠ 0) : mm_M 158 [.ref 11, .int q, .int (nI k), .int o] (MW σ (vN c) f) = some (.inl (some (.int (nI (c 4)))), MW σ (vN (u2 (u2 c 5 0) 4 (c 4 + 1))) (rgc f (c 4) (rpe f k o m) q (nI k) o)) := by
  have l := c_156 (σ := σ) (c := u2 c 5 0) (f := f) (by rw [u5_4]; exact hc) (rpe f k o m) q (nI k) o
  rw [u5_4] at l
  rw [s_158 (by omega) hk h ho hq]
  simp only [e158_128, e158_133, e158_138, e158_143, e158_147, e158_148, e158_151, e158_155, e158_158, e158_162, e158_171, mg_15, ne24 hc, eq_false hr, ms_27, mg_27, u2_u2, Mo_156, l, vs_0, vs_1, vs_2, vs_3, vs_n, vN_, u5_0, u5_1, u5_2, u5_3, u5_4, u5_5, t_0, t_1, t_2, t_3, te_0, te_1, te_2, te_3, K0_v, K0_n, K0_x, K2_v, K2_n, K1_v, K1_n, K1_x, bI_s, bJ_s, bV_s, bS_s, l_10, l_00, bz_01, bz_0, bz_1, em_n, if_true, if_false, ite_not, ite_true, ite_false, not_true_eq_false, not_false_eq_true, or_true, true_or]
-- goes
theorem PV.uf {C k : Nat} {x : Int32} (h : PV f C) : PV (uf f 23 k x) C := by
  intro i hi
  rw [uf_n (by decide), uf_n (by decide)]
  exact h i hi
theorem l_159 (hc : c 4 ≤ 24) (p q : Int32) : ∀ m k (x : Int32) (f : Nat → Nat → Int32) (l5 l6 : Value), PV f (c 4) → k + m = c 4 → mm_L 159 5 [.ref 11, .int p, .int q, .int x, .int (nI k), l5, l6] [] (MW σ (vN c) f) = some (.inl (some (.int (up (rgs p q) m k (x, f)).1)), MW σ (vN c) (up (rgs p q) m k (x, f)).2)
  | 0, k, x, f, l5, l6, hv, hk => by
    have z := eq_true (nI_le (a := c 4) (b := k) (by omega) (by omega))
    rw [e159_5]
    simp only [mg_15, vN_, z, e159_11, e159_147, K0_v, K0_n, K0_x, K2_v, K2_n, K1_v, K1_n, K1_x, bI_s, bJ_s, bV_s, bS_s, l_10, l_00, bz_01, bz_0, bz_1, em_n, if_true, if_false, ite_not, ite_true, ite_false, not_true_eq_false, not_false_eq_true, or_true, true_or, up]
  | m + 1, k, x, f, l5, l6, hv, hk => by
    have hk' : k < c 4 := by omega
    have k24 : k < 24 := by omega
    have z := eq_false (nI_ge (a := k) (b := c 4) hk' (by omega))
    obtain ⟨v6, v7⟩ := hv k hk'
    have s55 : ∃ P : Prop, ∃ _ : Decidable P, (P ↔ ((f 24 k >>> (p &&& 31)) &&& 1 = 1) ∧ (q = -1 ∨ f 25 k = q)) ∧ mm_L 159 5 [.ref 11, .int p, .int q, .int x, .int (nI k), l5, l6] [] (MW σ (vN c) f) = mm_L 159 55 [.ref 11, .int p, .int q, .int x, .int (nI k), .int (bz P), l6] [.ref 26] (MW σ (vN c) f) := by
      by_cases h1 : (f 24 k >>> (p &&& 31)) &&& 1 = 1
      · by_cases h2 : q = -1
        · refine ⟨True, inferInstance, ⟨fun _ => ⟨h1, Or.inl h2⟩, fun _ => trivial⟩, ?_⟩
          rw [e159_5]
          simp only [mg_15, vN_, z, e159_11, e159_14, e159_20, e159_28, e159_33, e159_37, e159_40, e159_44, e159_48, e159_49, Mo_155, c_155 k24, eq_true h1, eq_true h2, mg_19, bz_t True.intro, K0_v, K0_n, K0_x, K2_v, K2_n, K1_v, K1_n, K1_x, bI_s, bJ_s, bV_s, bS_s, l_10, l_00, bz_01, bz_0, bz_1, em_n, if_true, if_false, ite_not, ite_true, ite_false, not_true_eq_false, not_false_eq_true, or_true, true_or]
        · by_cases h3 : f 25 k = q
          · refine ⟨True, inferInstance, ⟨fun _ => ⟨h1, Or.inr h3⟩, fun _ => trivial⟩, ?_⟩
            rw [e159_5]
            simp only [mg_15, vN_, z, e159_11, e159_14, e159_20, e159_28, e159_33, e159_37, e159_40, e159_44, e159_48, e159_49, Mo_155, c_155 k24, eq_true h1, eq_false h2, mg_18, ma_25 k24, eq_true h3, mg_19, bz_t True.intro, K0_v, K0_n, K0_x, K2_v, K2_n, K1_v, K1_n, K1_x, bI_s, bJ_s, bV_s, bS_s, l_10, l_00, bz_01, bz_0, bz_1, em_n, if_true, if_false, ite_not, ite_true, ite_false, not_true_eq_false, not_false_eq_true, or_true, true_or]
          · refine ⟨False, inferInstance, ⟨fun y => y.elim, fun y => y.2.elim h2 h3⟩, ?_⟩
            rw [e159_5]
            simp only [mg_15, vN_, z, e159_11, e159_14, e159_20, e159_28, e159_33, e159_37, e159_40, e159_44, e159_48, e159_49, Mo_155, c_155 k24, eq_true h1, eq_false h2, mg_18, ma_25 k24, eq_false h3, mg_19, bz_f not_false, K0_v, K0_n, K0_x, K2_v, K2_n, K1_v, K1_n, K1_x, bI_s, bJ_s, bV_s, bS_s, l_10, l_00, bz_01, bz_0, bz_1, em_n, if_true, if_false, ite_not, ite_true, ite_false, not_true_eq_false, not_false_eq_true, or_true, true_or]
      · refine ⟨False, inferInstance, ⟨fun y => y.elim, fun y => h1 y.1⟩, ?_⟩
        rw [e159_5]
        simp only [mg_15, vN_, z, e159_11, e159_14, e159_20, e159_28, e159_33, e159_37, e159_40, e159_44, e159_48, e159_49, Mo_155, c_155 k24, eq_false h1, mg_19, bz_f not_false, K0_v, K0_n, K0_x, K2_v, K2_n, K1_v, K1_n, K1_x, bI_s, bJ_s, bV_s, bS_s, l_10, l_00, bz_01, bz_0, bz_1, em_n, if_true, if_false, ite_not, ite_true, ite_false, not_true_eq_false, not_false_eq_true, or_true, true_or]
    obtain ⟨P, dP, hP, s55⟩ := s55
    have two : mm_L 159 77 [.ref 11, .int p, .int q, .int x, .int (nI k), .int (bz P), l6] [] (MW σ (vN c) f) = mm_L 159 108 [.ref 11, .int p, .int q, .int x, .int (nI k), .int (bz P), l6] [.int (bz (pgv f (f 27 k) ≠ 0))] (MW σ (vN c) f) := by
      rcases v7 with h | ⟨j, hj, h⟩
      · rw [bz_f (show ¬ pgv f (f 27 k) ≠ 0 from fun y => y (if_pos h))]
        simp only [e159_77, e159_81, e159_84, e159_88, e159_92, e159_96, e159_99, e159_100, e159_103, e159_107, mg_20, ma_27 k24, eq_true h, K0_v, K0_n, K0_x, K2_v, K2_n, K1_v, K1_n, K1_x, bI_s, bJ_s, bV_s, bS_s, l_10, l_00, bz_01, bz_0, bz_1, em_n, if_true, if_false, ite_not, ite_true, ite_false, not_true_eq_false, not_false_eq_true, or_true, true_or]
      · have e : pgv f (f 27 k) = f 23 j := by
          unfold pgv
          rw [h, if_neg (nI_m1 (by omega)), nI_clamp (by omega)]
        by_cases y : f 23 j = 0
        · rw [bz_f (show ¬ pgv f (f 27 k) ≠ 0 from fun w => w (e.trans y))]
          simp only [e159_77, e159_81, e159_84, e159_88, e159_92, e159_96, e159_99, e159_100, e159_103, e159_107, mg_20, ma_27 k24, h, eq_false (nI_m1 (k := j) (by omega)), mg_16, MW_getz (show j < 24 by omega), eq_true y, K0_v, K0_n, K0_x, K2_v, K2_n, K1_v, K1_n, K1_x, bI_s, bJ_s, bV_s, bS_s, l_10, l_00, bz_01, bz_0, bz_1, em_n, if_true, if_false, ite_not, ite_true, ite_false, not_true_eq_false, not_false_eq_true, or_true, true_or]
        · rw [bz_t (show pgv f (f 27 k) ≠ 0 from fun w => y (e.symm.trans w))]
          simp only [e159_77, e159_81, e159_84, e159_88, e159_92, e159_96, e159_99, e159_100, e159_103, e159_107, mg_20, ma_27 k24, h, eq_false (nI_m1 (k := j) (by omega)), mg_16, MW_getz (show j < 24 by omega), eq_false y, K0_v, K0_n, K0_x, K2_v, K2_n, K1_v, K1_n, K1_x, bI_s, bJ_s, bV_s, bS_s, l_10, l_00, bz_01, bz_0, bz_1, em_n, if_true, if_false, ite_not, ite_true, ite_false, not_true_eq_false, not_false_eq_true, or_true, true_or]
    have one : mm_L 159 55 [.ref 11, .int p, .int q, .int x, .int (nI k), .int (bz P), l6] [.ref 26] (MW σ (vN c) f) = mm_L 159 108 [.ref 11, .int p, .int q, .int x, .int (nI k), .int (bz P), l6] [.int (bz (pgv f (f 26 k) ≠ 0 ∨ pgv f (f 27 k) ≠ 0))] (MW σ (vN c) f) := by
      rcases v6 with h | ⟨j, hj, h⟩
      · have e : pgv f (f 26 k) = 0 := if_pos h
        rw [bz_c (show (pgv f (f 26 k) ≠ 0 ∨ pgv f (f 27 k) ≠ 0) ↔ pgv f (f 27 k) ≠ 0 from ⟨fun w => w.elim (fun y => absurd e y) id, Or.inr⟩), ← two]
        simp only [e159_55, e159_58, e159_62, e159_66, e159_70, e159_73, e159_74, ma_26 k24, eq_true h, K0_v, K0_n, K0_x, K2_v, K2_n, K1_v, K1_n, K1_x, bI_s, bJ_s, bV_s, bS_s, l_10, l_00, bz_01, bz_0, bz_1, em_n, if_true, if_false, ite_not, ite_true, ite_false, not_true_eq_false, not_false_eq_true, or_true, true_or]
      · have e : pgv f (f 26 k) = f 23 j := by
          unfold pgv
          rw [h, if_neg (nI_m1 (by omega)), nI_clamp (by omega)]
        by_cases y : f 23 j = 0
        · rw [bz_c (show (pgv f (f 26 k) ≠ 0 ∨ pgv f (f 27 k) ≠ 0) ↔ pgv f (f 27 k) ≠ 0 from ⟨fun w => w.elim (fun u => absurd (e.trans y) u) id, Or.inr⟩), ← two]
          simp only [e159_55, e159_58, e159_62, e159_66, e159_70, e159_73, e159_74, mg_19, ma_26 k24, h, eq_false (nI_m1 (k := j) (by omega)), mg_16, MW_getz (show j < 24 by omega), eq_true y, K0_v, K0_n, K0_x, K2_v, K2_n, K1_v, K1_n, K1_x, bI_s, bJ_s, bV_s, bS_s, l_10, l_00, bz_01, bz_0, bz_1, em_n, if_true, if_false, ite_not, ite_true, ite_false, not_true_eq_false, not_false_eq_true, or_true, true_or]
        · rw [bz_t (show pgv f (f 26 k) ≠ 0 ∨ pgv f (f 27 k) ≠ 0 from Or.inl (fun w => y (e.symm.trans w)))]
          simp only [e159_55, e159_58, e159_62, e159_66, e159_70, e159_73, e159_74, e159_103, e159_107, mg_19, ma_26 k24, h, eq_false (nI_m1 (k := j) (by omega)), mg_16, MW_getz (show j < 24 by omega), eq_false y, K0_v, K0_n, K0_x, K2_v, K2_n, K1_v, K1_n, K1_x, bI_s, bJ_s, bV_s, bS_s, l_10, l_00, bz_01, bz_0, bz_1, em_n, if_true, if_false, ite_not, ite_true, ite_false, not_true_eq_false, not_false_eq_true, or_true, true_or]
    rw [s55, one]
    have es : up (rgs p q) (m + 1) k (x, f) = up (rgs p q) m (k + 1) (rgs p q k (x, f)) := rfl
    rw [es]
    by_cases h : rgo p q f k
    · have e : rgs p q k (x, f) = (x + 1, uf f 23 k 1) := if_pd h
      have ih := l_159 hc p q m (k + 1) (x + 1) (uf f 23 k 1) (.int (bz P)) (.int (bz (pgv f (f 26 k) ≠ 0 ∨ pgv f (f 27 k) ≠ 0))) hv.uf (by omega)
      rw [e, ← ih]
      have h0 := h.1
      by_cases hP' : P
      · simp only [e159_108, e159_114, e159_117, e159_120, e159_125, e159_130, e159_134, e159_138, e159_141, mg_16, MW_getz k24, eq_true h0, eq_true hP', MW_setz k24, nI_1, one_ne, K0_v, K0_n, K0_x, K2_v, K2_n, K1_v, K1_n, K1_x, bI_s, bJ_s, bV_s, bS_s, l_10, l_00, bz_01, bz_0, bz_1, em_n, if_true, if_false, ite_not, ite_true, ite_false, not_true_eq_false, not_false_eq_true, or_true, true_or]
      · have hQ : pgv f (f 26 k) ≠ 0 ∨ pgv f (f 27 k) ≠ 0 := h.2.elim (fun y => absurd (hP.mpr y) hP') id
        simp only [e159_108, e159_114, e159_117, e159_120, e159_125, e159_130, e159_134, e159_138, e159_141, mg_16, MW_getz k24, eq_true h0, eq_false hP', eq_true hQ, MW_setz k24, nI_1, one_ne, K0_v, K0_n, K0_x, K2_v, K2_n, K1_v, K1_n, K1_x, bI_s, bJ_s, bV_s, bS_s, l_10, l_00, bz_01, bz_0, bz_1, em_n, if_true, if_false, ite_not, ite_true, ite_false, not_true_eq_false, not_false_eq_true, or_true, true_or]
    · have e : rgs p q k (x, f) = (x, f) := if_nd h
      have ih := l_159 hc p q m (k + 1) x f (.int (bz P)) (.int (bz (pgv f (f 26 k) ≠ 0 ∨ pgv f (f 27 k) ≠ 0))) hv (by omega)
      rw [e, ← ih]
      by_cases h0 : f 23 k = 0
      · have hP' : ¬ P := fun y => h ⟨h0, Or.inl (hP.mp y)⟩
        have hQ : ¬ (pgv f (f 26 k) ≠ 0 ∨ pgv f (f 27 k) ≠ 0) := fun y => h ⟨h0, Or.inr y⟩
        simp only [e159_108, e159_114, e159_117, e159_120, e159_125, e159_130, e159_134, e159_138, e159_141, mg_16, MW_getz k24, eq_true h0, eq_false hP', eq_false hQ, nI_1, K0_v, K0_n, K0_x, K2_v, K2_n, K1_v, K1_n, K1_x, bI_s, bJ_s, bV_s, bS_s, l_10, l_00, bz_01, bz_0, bz_1, em_n, if_true, if_false, ite_not, ite_true, ite_false, not_true_eq_false, not_false_eq_true, or_true, true_or]
      · simp only [e159_108, e159_114, e159_117, e159_120, e159_125, e159_130, e159_134, e159_138, e159_141, mg_16, MW_getz k24, eq_false h0, nI_1, K0_v, K0_n, K0_x, K2_v, K2_n, K1_v, K1_n, K1_x, bI_s, bJ_s, bV_s, bS_s, l_10, l_00, bz_01, bz_0, bz_1, em_n, if_true, if_false, ite_not, ite_true, ite_false, not_true_eq_false, not_false_eq_true, or_true, true_or]
theorem c_159 (hc : c 4 ≤ 24) (hv : PV f (c 4)) (p q : Int32) : mm_M 159 [.ref 11, .int p, .int q] (MW σ (vN c) f) = some (.inl (some (.int (up (rgs p q) (c 4) 0 (0, f)).1)), MW σ (vN c) (up (rgs p q) (c 4) 0 (0, f)).2) := by
  have l := l_159 (σ := σ) hc p q (c 4) 0 0 f mm_un mm_un hv (by omega)
  rw [nI_0] at l
  rw [M_159, e159_0]
  exact l
theorem c_161x {p : Int32} (h : ¬ (0 ≤ p ∧ p ≤ 5)) : mm_M 161 [.ref 11, .int p] (MW σ (vN c) f) = some (.inl (some (.int 0)), MW σ (vN (u2 c 5 1)) f) := by
  simp only [M_161, e161_0, e161_7, e161_10, e161_14, e161_15, e161_18, e161_22, e161_25, e161_29, e161_35, c_108, eq_false h, ms_27, mg_27, vs_0, vs_1, vs_2, vs_3, vs_n, vN_, u5_0, u5_1, u5_2, u5_3, u5_4, u5_5, t_0, t_1, t_2, t_3, te_0, te_1, te_2, te_3, K0_v, K0_n, K0_x, K2_v, K2_n, K1_v, K1_n, K1_x, bI_s, bJ_s, bV_s, bS_s, l_10, l_00, bz_01, bz_0, bz_1, em_n, if_true, if_false, ite_not, ite_true, ite_false, not_true_eq_false, not_false_eq_true, or_true, true_or]
theorem c_161 (hc : c 4 ≤ 24) (hv : PV f (c 4)) {p : Int32} (h : 0 ≤ p ∧ p ≤ 5) : mm_M 161 [.ref 11, .int p] (MW σ (vN c) f) = some (.inl (some (.int (up (rgs p (-1)) (c 4) 0 (0, f)).1)), MW σ (vN (u2 c 5 0)) (up (rgs p (-1)) (c 4) 0 (0, f)).2) := by
  have l := c_159 (σ := σ) (c := u2 c 5 0) (f := f) (by rw [u5_4]; exact hc) (by rw [u5_4]; exact hv) p (-1)
  rw [u5_4] at l
  simp only [M_161, e161_0, e161_7, e161_10, e161_14, e161_15, e161_18, e161_22, e161_25, e161_29, e161_35, c_108, eq_true h, ms_27, mg_27, Mo_159, l, vs_0, vs_1, vs_2, vs_3, vs_n, vN_, u5_0, u5_1, u5_2, u5_3, u5_4, u5_5, t_0, t_1, t_2, t_3, te_0, te_1, te_2, te_3, K0_v, K0_n, K0_x, K2_v, K2_n, K1_v, K1_n, K1_x, bI_s, bJ_s, bV_s, bS_s, l_10, l_00, bz_01, bz_0, bz_1, em_n, if_true, if_false, ite_not, ite_true, ite_false, not_true_eq_false, not_false_eq_true, or_true, true_or]
theorem c_160x {p q b : Int32} (h : ¬ (0 ≤ p ∧ p ≤ 5)) : mm_M 160 [.ref 11, .int p, .int q, .int b] (MW σ (vN c) f) = some (.inl (some (.int 0)), MW σ (vN (u2 c 5 1)) f) := by
  simp only [M_160, e160_0, e160_7, e160_10, e160_14, e160_20, e160_23, e160_27, e160_28, e160_31, e160_35, e160_38, e160_40, e160_44, e160_49, e160_53, e160_55, e160_62, e160_66, e160_68, e160_74, e160_75, e160_79, e160_83, e160_89, c_108, eq_false h, ms_27, mg_27, vs_0, vs_1, vs_2, vs_3, vs_n, vN_, u5_0, u5_1, u5_2, u5_3, u5_4, u5_5, t_0, t_1, t_2, t_3, te_0, te_1, te_2, te_3, K0_v, K0_n, K0_x, K2_v, K2_n, K1_v, K1_n, K1_x, bI_s, bJ_s, bV_s, bS_s, l_10, l_00, bz_01, bz_0, bz_1, em_n, if_true, if_false, ite_not, ite_true, ite_false, not_true_eq_false, not_false_eq_true, or_true, true_or]
theorem c_160y {p q b : Int32} (h : 0 ≤ p ∧ p ≤ 5) (hq : ¬ (0 ≤ q ∧ q ≤ 2)) : mm_M 160 [.ref 11, .int p, .int q, .int b] (MW σ (vN c) f) = some (.inl (some (.int 0)), MW σ (vN (u2 c 5 2)) f) := by
  simp only [M_160, e160_0, e160_7, e160_10, e160_14, e160_20, e160_23, e160_27, e160_28, e160_31, e160_35, e160_38, e160_40, e160_44, e160_49, e160_53, e160_55, e160_62, e160_66, e160_68, e160_74, e160_75, e160_79, e160_83, e160_89, c_108, eq_true h, eq_false hq, ms_27, mg_27, vs_0, vs_1, vs_2, vs_3, vs_n, vN_, u5_0, u5_1, u5_2, u5_3, u5_4, u5_5, t_0, t_1, t_2, t_3, te_0, te_1, te_2, te_3, K0_v, K0_n, K0_x, K2_v, K2_n, K1_v, K1_n, K1_x, bI_s, bJ_s, bV_s, bS_s, l_10, l_00, bz_01, bz_0, bz_1, em_n, if_true, if_false, ite_not, ite_true, ite_false, not_true_eq_false, not_false_eq_true, or_true, true_or]
theorem c_160t {p : Nat} {q b : Int32} (h : p < 6) (hq : 0 ≤ q ∧ q ≤ 2) (hb : b ≠ 0) : mm_M 160 [.ref 11, .int (nI p), .int q, .int b] (MW σ (vN c) f) = some (.inl (some (.int 0)), MW σ (vN (u2 c 5 0)) (uf f 28 p (f 28 p ||| (1 <<< (q &&& 31))))) := by
  have h2 : 0 ≤ nI p ∧ nI p ≤ 5 := ⟨nI_pos' (by omega), show nI p ≤ nI 5 from nI_le (by omega) (by decide)⟩
  simp only [M_160, e160_0, e160_7, e160_10, e160_14, e160_20, e160_23, e160_27, e160_28, e160_31, e160_35, e160_38, e160_40, e160_44, e160_49, e160_53, e160_55, e160_62, e160_66, e160_68, e160_74, e160_75, e160_79, e160_83, e160_89, c_108, eq_true h2, eq_true hq, ms_27, mg_27, eq_false hb, mg_21, ma_28 h, mt_28 h, vs_0, vs_1, vs_2, vs_3, vs_n, vN_, u5_0, u5_1, u5_2, u5_3, u5_4, u5_5, t_0, t_1, t_2, t_3, te_0, te_1, te_2, te_3, K0_v, K0_n, K0_x, K2_v, K2_n, K1_v, K1_n, K1_x, bI_s, bJ_s, bV_s, bS_s, l_10, l_00, bz_01, bz_0, bz_1, em_n, if_true, if_false, ite_not, ite_true, ite_false, not_true_eq_false, not_false_eq_true, or_true, true_or]
theorem c_160 (hc : c 4 ≤ 24) (hv : PV f (c 4)) {p : Nat} {q : Int32} (h : p < 6) (hq : 0 ≤ q ∧ q ≤ 2) : mm_M 160 [.ref 11, .int (nI p), .int q, .int 0] (MW σ (vN c) f) = some (.inl (some (.int (up (rgs (nI p) q) (c 4) 0 (0, uf f 28 p (f 28 p &&& ((1 <<< (q &&& 31)) ^^^ (-1))))).1)), MW σ (vN (u2 c 5 0)) (up (rgs (nI p) q) (c 4) 0 (0, uf f 28 p (f 28 p &&& ((1 <<< (q &&& 31)) ^^^ (-1))))).2) := by
  have h2 : 0 ≤ nI p ∧ nI p ≤ 5 := ⟨nI_pos' (by omega), show nI p ≤ nI 5 from nI_le (by omega) (by decide)⟩
  have hv' : PV (uf f 28 p (f 28 p &&& ((1 <<< (q &&& 31)) ^^^ (-1)))) (c 4) := by
    intro i hi
    rw [uf_n (by decide), uf_n (by decide)]
    exact hv i hi
  have l := c_159 (σ := σ) (c := u2 c 5 0) (f := uf f 28 p (f 28 p &&& ((1 <<< (q &&& 31)) ^^^ (-1)))) (by rw [u5_4]; exact hc) (by rw [u5_4]; exact hv') (nI p) q
  rw [u5_4] at l
  simp only [M_160, e160_0, e160_7, e160_10, e160_14, e160_20, e160_23, e160_27, e160_28, e160_31, e160_35, e160_38, e160_40, e160_44, e160_49, e160_53, e160_55, e160_62, e160_66, e160_68, e160_74, e160_75, e160_79, e160_83, e160_89, c_108, eq_true h2, eq_true hq, ms_27, mg_27, mg_21, ma_28 h, mt_28 h, Mo_159, l, vs_0, vs_1, vs_2, vs_3, vs_n, vN_, u5_0, u5_1, u5_2, u5_3, u5_4, u5_5, t_0, t_1, t_2, t_3, te_0, te_1, te_2, te_3, K0_v, K0_n, K0_x, K2_v, K2_n, K1_v, K1_n, K1_x, bI_s, bJ_s, bV_s, bS_s, l_10, l_00, bz_01, bz_0, bz_1, em_n, if_true, if_false, ite_not, ite_true, ite_false, not_true_eq_false, not_false_eq_true, or_true, true_or]
theorem c_162x (hc : c 4 ≤ 24) {p : Int32} (h : ¬ (0 ≤ p ∧ p < nI (c 4))) : mm_M 162 [.ref 11, .int p] (MW σ (vN c) f) = some (.inl (some (.int 0)), MW σ (vN (u2 c 5 1)) f) := by
  have u := upto_lt (p := p) (n := c 4) (by omega)
  simp only [M_162, e162_0, e162_7, e162_12, e162_15, e162_19, e162_20, e162_23, e162_27, e162_30, e162_34, e162_36, e162_39, e162_43, e162_48, mg_15, vN_, c_108, eq_false (fun z => h (u.mp z)), ms_27, mg_27, show (0 < nI 1) = True from eq_true (by decide), vs_0, vs_1, vs_2, vs_3, vs_n, vN_, u5_0, u5_1, u5_2, u5_3, u5_4, u5_5, t_0, t_1, t_2, t_3, te_0, te_1, te_2, te_3, K0_v, K0_n, K0_x, K2_v, K2_n, K1_v, K1_n, K1_x, bI_s, bJ_s, bV_s, bS_s, l_10, l_00, bz_01, bz_0, bz_1, em_n, if_true, if_false, ite_not, ite_true, ite_false, not_true_eq_false, not_false_eq_true, or_true, true_or]
theorem c_162 (hc : c 4 ≤ 24) {k : Nat} (hk : k < c 4) : mm_M 162 [.ref 11, .int (nI k)] (MW σ (vN c) f) = some (.inl (some (.int (if f 23 k = 0 then f 24 k else 0))), MW σ (vN (u2 c 5 0)) f) := by
  have u := (upto_lt (p := nI k) (n := c 4) (by omega)).mpr ⟨nI_pos' (by omega), nI_lt hk (by omega)⟩
  have z0 : (0 < nI 0) = False := eq_false (by decide)
  by_cases h : f 23 k = 0
  · simp only [M_162, e162_0, e162_7, e162_12, e162_15, e162_19, e162_20, e162_23, e162_27, e162_30, e162_34, e162_36, e162_39, e162_43, e162_48, mg_15, vN_, c_108, eq_true u, ms_27, mg_27, mg_16, MW_getz (show k < 24 by omega), eq_true h, Mo_155, c_155 (show k < 24 by omega), z0, vs_0, vs_1, vs_2, vs_3, vs_n, vN_, u5_0, u5_1, u5_2, u5_3, u5_4, u5_5, t_0, t_1, t_2, t_3, te_0, te_1, te_2, te_3, K0_v, K0_n, K0_x, K2_v, K2_n, K1_v, K1_n, K1_x, bI_s, bJ_s, bV_s, bS_s, l_10, l_00, bz_01, bz_0, bz_1, em_n, if_true, if_false, ite_not, ite_true, ite_false, not_true_eq_false, not_false_eq_true, or_true, true_or]
  · simp only [M_162, e162_0, e162_7, e162_12, e162_15, e162_19, e162_20, e162_23, e162_27, e162_30, e162_34, e162_36, e162_39, e162_43, e162_48, mg_15, vN_, c_108, eq_true u, ms_27, mg_27, mg_16, MW_getz (show k < 24 by omega), eq_false h, z0, vs_0, vs_1, vs_2, vs_3, vs_n, vN_, u5_0, u5_1, u5_2, u5_3, u5_4, u5_5, t_0, t_1, t_2, t_3, te_0, te_1, te_2, te_3, K0_v, K0_n, K0_x, K2_v, K2_n, K1_v, K1_n, K1_x, bI_s, bJ_s, bV_s, bS_s, l_10, l_00, bz_01, bz_0, bz_1, em_n, if_true, if_false, ite_not, ite_true, ite_false, not_true_eq_false, not_false_eq_true, or_true, true_or]
end
theorem c_164n {σ : mm_S} {k a b : Nat} : mm_M 164 [.int (nI k), .int (nI a), .int (nI b)] σ = some (.inl (some (.int (nI (12 * k + 4 * a + b)))), σ) := by
  simp only [M_164, e164_0, n12, n4, nI_add]
