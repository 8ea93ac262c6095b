/-! LEVEL 2: the reference's faces -/
def am (x : Int32) : Int32 := if x < 2 then 0 else x - 1
def bu (f : Nat → Nat → Int32) (a p q : Int32) (k : Nat) : Prop := am (f 18 k) = am a ∧ f 19 k ≤ q ∧ p ≤ f 20 k
noncomputable def bud (f : Nat → Nat → Int32) (a p q : Int32) : DecidablePred (bu f a p q) := fun k => by unfold bu; infer_instance
section
variable {σ : mm_S} {c : Nat → Nat} {f : Nat → Nat → Int32}
theorem l_128z {a p q : Int32} {k : Nat} (h5 : c 5 = 3) (hk : k ≤ c 2) (hc : c 2 ≤ 8) : mm_L 128 59 [.ref 11, .int a, .int p, .int q, .int (nI k)] [] (MW σ (vN c) f) = some (.inl (some (.int 0)), (MW σ (vN c) f)) := by
  rw [e128_59]
  by_cases e : k = c 2
  · have z := eq_true (nI_le (a := c 2) (b := k) (by omega) (by omega))
    simp only [mg_8, vN_, z, e128_65, e128_129, mg_27, h5, e128_133, e128_136, vs_0, vs_1, vs_2, vs_3, vs_n, vN_, u5_0, u5_1, u5_2, u5_3, u5_4, u5_5, t_0, t_1, t_2, t_3, te_0, te_1, te_2, te_3, K0_v, K0_n, K0_x, K2_v, K2_n, K1_v, K1_n, K1_x, bI_s, bJ_s, bV_s, bS_s, l_10, l_00, bz_01, bz_0, bz_1, em_n, if_true, if_false, ite_not, ite_true, ite_false, not_true_eq_false, not_false_eq_true, or_true, true_or]
  · have z := eq_false (nI_ge (a := k) (b := c 2) (by omega) (by omega))
    simp only [mg_8, vN_, z, e128_65, e128_68, e128_72, e128_129, mg_27, h5, e128_133, e128_136, vs_0, vs_1, vs_2, vs_3, vs_n, vN_, u5_0, u5_1, u5_2, u5_3, u5_4, u5_5, t_0, t_1, t_2, t_3, te_0, te_1, te_2, te_3, K0_v, K0_n, K0_x, K2_v, K2_n, K1_v, K1_n, K1_x, bI_s, bJ_s, bV_s, bS_s, l_10, l_00, bz_01, bz_0, bz_1, em_n, if_true, if_false, ite_not, ite_true, ite_false, not_true_eq_false, not_false_eq_true, or_true, true_or]
theorem l_128 (hc : c 2 ≤ 8) {a p q : Int32} (h5 : c 5 = 0) : ∀ m k, k + m = c 2 → mm_L 128 59 [.ref 11, .int a, .int p, .int q, .int (nI k)] [] (MW σ (vN c) f) = if (@fi (bu f a p q) (bud f a p q) m k).isSome = true then some (.inl (some (.int 0)), MW σ (vN (u2 c 5 3)) f) else mm_L 128 138 [.ref 11, .int a, .int p, .int q, .int (nI (c 2))] [] (MW σ (vN c) f)
  | 0, k, h => by
    have e : k = c 2 := by omega
    subst e
    have z := eq_true (nI_le (a := c 2) (b := c 2) (by omega) (by omega))
    rw [e128_59]
    simp only [mg_8, vN_, z, e128_65, e128_129, mg_27, h5, e128_133, vs_0, vs_1, vs_2, vs_3, vs_n, vN_, u5_0, u5_1, u5_2, u5_3, u5_4, u5_5, t_0, t_1, t_2, t_3, te_0, te_1, te_2, te_3, K0_v, K0_n, K0_x, K2_v, K2_n, K1_v, K1_n, K1_x, bI_s, bJ_s, bV_s, bS_s, l_10, l_00, bz_01, bz_0, bz_1, em_n, if_true, if_false, ite_not, ite_true, ite_false, not_true_eq_false, not_false_eq_true, or_true, true_or]
    rfl
  | m + 1, k, h => by
    have hk : k < c 2 := by omega
    have hk8 : k < 8 := by omega
    have z := eq_false (nI_ge (a := k) (b := c 2) hk (by omega))
    have ih := l_128 hc (a := a) (p := p) (q := q) h5 m (k + 1) (by omega)
    have u0 : u2 c 5 0 = c := by
      funext j
      unfold u2
      split
      · rename_i e; rw [e, h5]
      · rfl
    have bad := l_128z (σ := σ) (f := f) (c := u2 c 5 3) (a := a) (p := p) (q := q) (k := k + 1) (u5_5 c 3) (by rw [u5_2]; omega) (by rw [u5_2]; exact hc)
    rw [e128_59]
    simp only [e128_0, e128_6, e128_9, e128_14, e128_17, e128_21, e128_27, e128_30, e128_35, e128_39, e128_43, e128_48, e128_52, e128_53, e128_56, e128_65, e128_68, e128_72, e128_75, e128_80, e128_83, e128_86, e128_90, e128_93, e128_97, e128_100, e128_104, e128_109, e128_112, e128_115, e128_119, e128_120, e128_123, e128_129, e128_133, e128_136, e128_138, e128_142, e128_146, e128_148, e128_152, e128_156, e128_158, e128_162, e128_166, e128_168, e128_173, e128_178, e128_182, mg_8, vN_, z, mg_27, h5, mg_9, mg_10, mg_11, ma_18 hk8, ma_19 hk8, ma_20 hk8, c_127, ms_27, u0, nI_1, ih, bad, vs_0, vs_1, vs_2, vs_3, vs_n, vN_, u5_0, u5_1, u5_2, u5_3, u5_4, u5_5, t_0, t_1, t_2, t_3, te_0, te_1, te_2, te_3, K0_v, K0_n, K0_x, K2_v, K2_n, K1_v, K1_n, K1_x, bI_s, bJ_s, bV_s, bS_s, l_10, l_00, bz_01, bz_0, bz_1, em_n, if_true, if_false, ite_not, ite_true, ite_false, not_true_eq_false, not_false_eq_true, or_true, true_or]
    have e1 : ∀ x : Int32, (if x < 2 then (0 : Int32) else x - 1) = am x := fun _ => rfl
    simp only [e1]
    by_cases h1 : am (f 18 k) = am a
    · by_cases h2 : q < f 19 k
      · have n : ¬ bu f a p q k := fun y => nle_of_lt h2 y.2.1
        simp only [eq_true h1, eq_true h2, fi, if_neg n, u0, ih, K0_v, K0_n, K0_x, K2_v, K2_n, K1_v, K1_n, K1_x, bI_s, bJ_s, bV_s, bS_s, l_10, l_00, bz_01, bz_0, bz_1, em_n, if_true, if_false, ite_not, ite_true, ite_false, not_true_eq_false, not_false_eq_true, or_true, true_or]
      · by_cases h3 : f 20 k < p
        · have n : ¬ bu f a p q k := fun y => nle_of_lt h3 y.2.2
          simp only [eq_true h1, eq_false h2, eq_true h3, fi, if_neg n, u0, ih, K0_v, K0_n, K0_x, K2_v, K2_n, K1_v, K1_n, K1_x, bI_s, bJ_s, bV_s, bS_s, l_10, l_00, bz_01, bz_0, bz_1, em_n, if_true, if_false, ite_not, ite_true, ite_false, not_true_eq_false, not_false_eq_true, or_true, true_or]
        · have n : bu f a p q k := ⟨h1, Int32.not_lt.mp h2, Int32.not_lt.mp h3⟩
          simp only [eq_true h1, eq_false h2, eq_false h3, fi, if_pos n, bad, Option.isSome, K0_v, K0_n, K0_x, K2_v, K2_n, K1_v, K1_n, K1_x, bI_s, bJ_s, bV_s, bS_s, l_10, l_00, bz_01, bz_0, bz_1, em_n, if_true, if_false, ite_not, ite_true, ite_false, not_true_eq_false, not_false_eq_true, or_true, true_or]
    · have n : ¬ bu f a p q k := fun y => h1 y.1
      simp only [eq_false h1, fi, if_neg n, u0, ih, K0_v, K0_n, K0_x, K2_v, K2_n, K1_v, K1_n, K1_x, bI_s, bJ_s, bV_s, bS_s, l_10, l_00, bz_01, bz_0, bz_1, em_n, if_true, if_false, ite_not, ite_true, ite_false, not_true_eq_false, not_false_eq_true, or_true, true_or]
theorem s128x (hc : c 2 ≤ 8) {a p q : Int32} {t : Nat} (ht : t = 1 ∨ t = 2 ∨ t = 3) {k : Int32} : mm_L 128 56 [.ref 11, .int a, .int p, .int q, mm_un] [] (MW σ (vN (u2 c 5 t)) f) = some (.inl (some (.int 0)), MW σ (vN (u2 c 5 t)) f) := by
  rw [e128_56, e128_59]
  rcases ht with e | e | e <;> subst e <;> simp only [mg_8, e128_65, e128_68, e128_72, e128_129, mg_27, e128_133, e128_136, vs_0, vs_1, vs_2, vs_3, vs_n, vN_, u5_0, u5_1, u5_2, u5_3, u5_4, u5_5, t_0, t_1, t_2, t_3, te_0, te_1, te_2, te_3, K0_v, K0_n, K0_x, K2_v, K2_n, K1_v, K1_n, K1_x, bI_s, bJ_s, bV_s, bS_s, l_10, l_00, bz_01, bz_0, bz_1, em_n, if_true, if_false, ite_not, ite_true, ite_false, not_true_eq_false, not_false_eq_true, or_true, true_or] <;> split <;> rfl
theorem c_128a (hc : c 2 ≤ 8) (hc1 : c 1 ≤ 14) {a p q : Int32} (h : ¬ ((0 ≤ p ∧ p < nI (c 1)) ∧ (0 ≤ q ∧ q < nI (c 1)))) : mm_M 128 [.ref 11, .int a, .int p, .int q] (MW σ (vN c) f) = some (.inl (some (.int 0)), MW σ (vN (u2 c 5 1)) f) := by
  by_cases h1 : 0 ≤ p ∧ p < nI (c 1)
  · have h2 : ¬ (0 ≤ q ∧ q < nI (c 1)) := fun z => h ⟨h1, z⟩
    simp only [M_128, e128_0, e128_6, e128_9, e128_14, e128_17, e128_21, e128_27, e128_30, e128_35, e128_39, e128_43, e128_48, e128_52, e128_53, Mo_113, c_113 hc1, eq_true h1, eq_false h2, ms_27, vs_0, vs_1, vs_2, vs_3, vs_n, vN_, u5_0, u5_1, u5_2, u5_3, u5_4, u5_5, t_0, t_1, t_2, t_3, te_0, te_1, te_2, te_3, K0_v, K0_n, K0_x, K2_v, K2_n, K1_v, K1_n, K1_x, bI_s, bJ_s, bV_s, bS_s, l_10, l_00, bz_01, bz_0, bz_1, em_n, if_true, if_false, ite_not, ite_true, ite_false, not_true_eq_false, not_false_eq_true, or_true, true_or]
    exact s128x hc (by decide) (k := 0)
  · simp only [M_128, e128_0, e128_6, e128_9, e128_14, e128_17, e128_21, e128_27, e128_30, e128_35, e128_39, e128_43, e128_48, e128_52, e128_53, Mo_113, c_113 hc1, eq_false h1, ms_27, vs_0, vs_1, vs_2, vs_3, vs_n, vN_, u5_0, u5_1, u5_2, u5_3, u5_4, u5_5, t_0, t_1, t_2, t_3, te_0, te_1, te_2, te_3, K0_v, K0_n, K0_x, K2_v, K2_n, K1_v, K1_n, K1_x, bI_s, bJ_s, bV_s, bS_s, l_10, l_00, bz_01, bz_0, bz_1, em_n, if_true, if_false, ite_not, ite_true, ite_false, not_true_eq_false, not_false_eq_true, or_true, true_or]
    exact s128x hc (by decide) (k := 0)
theorem c_128b (hc : c 2 ≤ 8) (hc1 : c 1 ≤ 14) {a p q : Int32} (h1 : 0 ≤ p ∧ p < nI (c 1)) (h2 : 0 ≤ q ∧ q < nI (c 1)) (h : ¬ ((0 ≤ a ∧ a ≤ 3) ∧ p ≤ q)) : mm_M 128 [.ref 11, .int a, .int p, .int q] (MW σ (vN c) f) = some (.inl (some (.int 0)), MW σ (vN (u2 c 5 2)) f) := by
  by_cases h3 : 0 ≤ a ∧ a ≤ 3
  · have h4 : ¬ p ≤ q := fun z => h ⟨h3, z⟩
    simp only [M_128, e128_0, e128_6, e128_9, e128_14, e128_17, e128_21, e128_27, e128_30, e128_35, e128_39, e128_43, e128_48, e128_52, e128_53, Mo_113, c_113 hc1, eq_true h1, eq_true h2, c_108, eq_true h3, eq_false h4, ms_27, vs_0, vs_1, vs_2, vs_3, vs_n, vN_, u5_0, u5_1, u5_2, u5_3, u5_4, u5_5, t_0, t_1, t_2, t_3, te_0, te_1, te_2, te_3, K0_v, K0_n, K0_x, K2_v, K2_n, K1_v, K1_n, K1_x, bI_s, bJ_s, bV_s, bS_s, l_10, l_00, bz_01, bz_0, bz_1, em_n, if_true, if_false, ite_not, ite_true, ite_false, not_true_eq_false, not_false_eq_true, or_true, true_or]
    exact s128x hc (by decide) (k := 0)
  · simp only [M_128, e128_0, e128_6, e128_9, e128_14, e128_17, e128_21, e128_27, e128_30, e128_35, e128_39, e128_43, e128_48, e128_52, e128_53, Mo_113, c_113 hc1, eq_true h1, eq_true h2, c_108, eq_false h3, ms_27, vs_0, vs_1, vs_2, vs_3, vs_n, vN_, u5_0, u5_1, u5_2, u5_3, u5_4, u5_5, t_0, t_1, t_2, t_3, te_0, te_1, te_2, te_3, K0_v, K0_n, K0_x, K2_v, K2_n, K1_v, K1_n, K1_x, bI_s, bJ_s, bV_s, bS_s, l_10, l_00, bz_01, bz_0, bz_1, em_n, if_true, if_false, ite_not, ite_true, ite_false, not_true_eq_false, not_false_eq_true, or_true, true_or]
    exact s128x hc (by decide) (k := 0)
theorem c_128c (hc : c 2 = 8) (hc1 : c 1 ≤ 14) {a p q : Int32} (h1 : 0 ≤ p ∧ p < nI (c 1)) (h2 : 0 ≤ q ∧ q < nI (c 1)) (h3 : 0 ≤ a ∧ a ≤ 3) (h4 : p ≤ q) : mm_M 128 [.ref 11, .int a, .int p, .int q] (MW σ (vN c) f) = some (.inl (some (.int 0)), MW σ (vN (u2 c 5 3)) f) := by
  have z : (nI (c 2) = 8) = True := by rw [hc]; decide
  simp only [M_128, e128_0, e128_6, e128_9, e128_14, e128_17, e128_21, e128_27, e128_30, e128_35, e128_39, e128_43, e128_48, e128_52, e128_53, Mo_113, c_113 hc1, eq_true h1, eq_true h2, c_108, eq_true h3, eq_true h4, mg_8, vN_, z, ms_27, vs_0, vs_1, vs_2, vs_3, vs_n, vN_, u5_0, u5_1, u5_2, u5_3, u5_4, u5_5, t_0, t_1, t_2, t_3, te_0, te_1, te_2, te_3, K0_v, K0_n, K0_x, K2_v, K2_n, K1_v, K1_n, K1_x, bI_s, bJ_s, bV_s, bS_s, l_10, l_00, bz_01, bz_0, bz_1, em_n, if_true, if_false, ite_not, ite_true, ite_false, not_true_eq_false, not_false_eq_true, or_true, true_or]
  exact s128x (by omega) (by decide) (k := 0)
theorem s128 (hc : c 2 < 8) (hc1 : c 1 ≤ 14) {a p q : Int32} (h1 : 0 ≤ p ∧ p < nI (c 1)) (h2 : 0 ≤ q ∧ q < nI (c 1)) (h3 : 0 ≤ a ∧ a ≤ 3) (h4 : p ≤ q) : mm_M 128 [.ref 11, .int a, .int p, .int q] (MW σ (vN c) f) = if (@fi (bu f a p q) (bud f a p q) (c 2) 0).isSome = true then some (.inl (some (.int 0)), MW σ (vN (u2 c 5 3)) f) else mm_L 128 138 [.ref 11, .int a, .int p, .int q, .int (nI (c 2))] [] (MW σ (vN (u2 c 5 0)) f) := by
  have z : (nI (c 2) = 8) = False := eq_false (fun z => by have := (nI_eq (a := c 2) (b := 8) (by omega) (by omega)).mp z; omega)
  simp only [M_128, e128_0, e128_6, e128_9, e128_14, e128_17, e128_21, e128_27, e128_30, e128_35, e128_39, e128_43, e128_48, e128_52, e128_53, e128_56, Mo_113, c_113 hc1, eq_true h1, eq_true h2, c_108, eq_true h3, eq_true h4, mg_8, vN_, z, ms_27, vs_0, vs_1, vs_2, vs_3, vs_n, vN_, u5_0, u5_1, u5_2, u5_3, u5_4, u5_5, t_0, t_1, t_2, t_3, te_0, te_1, te_2, te_3, K0_v, K0_n, K0_x, K2_v, K2_n, K1_v, K1_n, K1_x, bI_s, bJ_s, bV_s, bS_s, l_10, l_00, bz_01, bz_0, bz_1, em_n, if_true, if_false, ite_not, ite_true, ite_false, not_true_eq_false, not_false_eq_true, or_true, true_or]
  have l := l_128 (σ := σ) (f := f) (c := u2 c 5 0) (by rw [u5_2]; omega) (a := a) (p := p) (q := q) (u5_5 c 0) (c 2) 0 (by rw [u5_2]; omega)
  rw [nI_0, u5_2, u2_u2] at l
  exact l
theorem c_128d (hc : c 2 < 8) (hc1 : c 1 ≤ 14) {a p q : Int32} (h1 : 0 ≤ p ∧ p < nI (c 1)) (h2 : 0 ≤ q ∧ q < nI (c 1)) (h3 : 0 ≤ a ∧ a ≤ 3) (h4 : p ≤ q) (h5 : (@fi (bu f a p q) (bud f a p q) (c 2) 0).isSome = true) : mm_M 128 [.ref 11, .int a, .int p, .int q] (MW σ (vN c) f) = some (.inl (some (.int 0)), MW σ (vN (u2 c 5 3)) f) := by
  rw [s128 hc hc1 h1 h2 h3 h4, if_pos h5]
theorem c_128 (hc : c 2 < 8) (hc1 : c 1 ≤ 14) {a p q : Int32} (h1 : 0 ≤ p ∧ p < nI (c 1)) (h2 : 0 ≤ q ∧ q < nI (c 1)) (h3 : 0 ≤ a ∧ a ≤ 3) (h4 : p ≤ q) (h5 : ¬ (@fi (bu f a p q) (bud f a p q) (c 2) 0).isSome = true) : mm_M 128 [.ref 11, .int a, .int p, .int q] (MW σ (vN c) f) = some (.inl (some (.int (nI (c 2 + 1)))), MW σ (vN (u2 (u2 c 5 0) 2 (c 2 + 1))) (uf (uf (uf f 18 (c 2) a) 19 (c 2) p) 20 (c 2) q)) := by
  rw [s128 hc hc1 h1 h2 h3 h4, if_neg h5]
  simp only [e128_138, e128_142, e128_146, e128_148, e128_152, e128_156, e128_158, e128_162, e128_166, e128_168, e128_173, e128_178, e128_182, mg_8, ms_8, mg_9, mg_10, mg_11, mt_18 hc, mt_19 hc, mt_20 hc, nI_1, u2_s, vs_0, vs_1, vs_2, vs_3, vs_n, vN_, u5_0, u5_1, u5_2, u5_3, u5_4, u5_5, t_0, t_1, t_2, t_3, te_0, te_1, te_2, te_3, K0_v, K0_n, K0_x, K2_v, K2_n, K1_v, K1_n, K1_x, bI_s, bJ_s, bV_s, bS_s, l_10, l_00, bz_01, bz_0, bz_1, em_n, if_true, if_false, ite_not, ite_true, ite_false, not_true_eq_false, not_false_eq_true, or_true, true_or]
-- the face over an item
noncomputable def ov (f : Nat → Nat → Int32) (i a : Int32) (k : Nat) (o : Option Nat) : Option Nat := if am (f 18 k) = a ∧ f 19 k ≤ i ∧ i ≤ f 20 k then some k else o
theorem l_129 (hc : c 2 ≤ 8) (i a : Int32) : ∀ m k o, k + m = c 2 → mm_L 129 5 [.ref 11, .int i, .int a, .int (fo o), .int (nI k)] [] (MW σ (vN c) f) = some (.inl (some (.int (fo (up (ov f i a) m k o)))), (MW σ (vN c) f))
  | 0, k, o, h => by
    have q := eq_true (nI_le (a := c 2) (b := k) (by omega) (by omega))
    rw [e129_5]
    simp only [mg_8, vN_, q, e129_11, e129_62, K0_v, K0_n, K0_x, K2_v, K2_n, K1_v, K1_n, K1_x, bI_s, bJ_s, bV_s, bS_s, l_10, l_00, bz_01, bz_0, bz_1, em_n, if_true, if_false, ite_not, ite_true, ite_false, not_true_eq_false, not_false_eq_true, or_true, true_or, up]
  | m + 1, k, o, h => by
    have hk : k < c 2 := by omega
    have hk8 : k < 8 := by omega
    have q := eq_false (nI_ge (a := k) (b := c 2) hk (by omega))
    have ih := fun o => l_129 hc i a m (k + 1) o (by omega)
    have ih2 := ih (some k)
    rw [e129_5]
    have e1 : ∀ x : Int32, (if x < 2 then (0 : Int32) else x - 1) = am x := fun _ => rfl
    simp only [e129_0, e129_11, e129_14, e129_18, e129_21, e129_24, e129_28, e129_33, e129_36, e129_40, e129_43, e129_46, e129_49, e129_54, e129_55, e129_62, mg_8, vN_, q, mg_9, mg_10, mg_11, ma_18 hk8, ma_19 hk8, ma_20 hk8, c_127, c_108, nI_1, e1, ih, K0_v, K0_n, K0_x, K2_v, K2_n, K1_v, K1_n, K1_x, bI_s, bJ_s, bV_s, bS_s, l_10, l_00, bz_01, bz_0, bz_1, em_n, if_true, if_false, ite_not, ite_true, ite_false, not_true_eq_false, not_false_eq_true, or_true, true_or]
    simp only [up]
    by_cases h1 : am (f 18 k) = a
    · by_cases h2 : f 19 k ≤ i ∧ i ≤ f 20 k
      · have p : am (f 18 k) = a ∧ f 19 k ≤ i ∧ i ≤ f 20 k := ⟨h1, h2⟩
        have e : ov f i a k o = some k := by unfold ov; rw [if_pos p]
        rw [e, ← ih2]
        simp only [eq_true h1, eq_true h2, K0_v, K0_n, K0_x, K2_v, K2_n, K1_v, K1_n, K1_x, bI_s, bJ_s, bV_s, bS_s, l_10, l_00, bz_01, bz_0, bz_1, em_n, if_true, if_false, ite_not, ite_true, ite_false, not_true_eq_false, not_false_eq_true, or_true, true_or, fo]
      · have p : ¬ (am (f 18 k) = a ∧ f 19 k ≤ i ∧ i ≤ f 20 k) := fun z => h2 z.2
        have e : ov f i a k o = o := by unfold ov; rw [if_neg p]
        rw [e]
        simp only [eq_true h1, eq_false h2, K0_v, K0_n, K0_x, K2_v, K2_n, K1_v, K1_n, K1_x, bI_s, bJ_s, bV_s, bS_s, l_10, l_00, bz_01, bz_0, bz_1, em_n, if_true, if_false, ite_not, ite_true, ite_false, not_true_eq_false, not_false_eq_true, or_true, true_or]
    · have p : ¬ (am (f 18 k) = a ∧ f 19 k ≤ i ∧ i ≤ f 20 k) := fun z => h1 z.1
      have e : ov f i a k o = o := by unfold ov; rw [if_neg p]
      rw [e]
      simp only [eq_false h1, K0_v, K0_n, K0_x, K2_v, K2_n, K1_v, K1_n, K1_x, bI_s, bJ_s, bV_s, bS_s, l_10, l_00, bz_01, bz_0, bz_1, em_n, if_true, if_false, ite_not, ite_true, ite_false, not_true_eq_false, not_false_eq_true, or_true, true_or]
noncomputable def ovv (f : Nat → Nat → Int32) (N : Nat) (i a : Int32) : Option Nat := up (ov f i a) N 0 none
theorem c_129 (hc : c 2 ≤ 8) (i a : Int32) : mm_M 129 [.ref 11, .int i, .int a] (MW σ (vN c) f) = some (.inl (some (.int (fo (ovv f (c 2) i a)))), (MW σ (vN c) f)) := by
  have l := l_129 (σ := σ) (f := f) hc i a (c 2) 0 none (by omega)
  rw [nI_0] at l
  rw [M_129, e129_0]
  exact l
theorem ovv_lt {f : Nat → Nat → Int32} {N : Nat} {i a : Int32} : ∀ x ∈ ovv f N i a, x < N := by
  have key : ∀ m k o, (∀ x ∈ o, x < k + m) → ∀ x ∈ up (ov f i a) m k o, x < k + m := by
    intro m
    induction m with
    | zero => exact fun k o h => h
    | succ m ih =>
      intro k o h x hx
      have := ih (k + 1) (ov f i a k o) (fun y hy => by
        unfold ov at hy
        split at hy
        · cases hy; omega
        · have := h y hy; omega) x hx
      omega
  intro x hx
  have := key N 0 none (fun _ h => by cases h) x hx
  omega
theorem c_130 {k : Nat} (hk : k < 14) : mm_M 130 [.ref 11, .int (nI k)] (MW σ (vN c) f) = some (.inl (some (.int (bz (1 ≤ f 13 k ∧ f 13 k ≤ 3)))), (MW σ (vN c) f)) := by
  simp only [M_130, e130_0, e130_4, e130_6, e130_11, mg_3, ma_13 hk, c_108, K0_v, K0_n, K0_x, K2_v, K2_n, K1_v, K1_n, K1_x, bI_s, bJ_s, bV_s, bS_s, l_10, l_00, bz_01, bz_0, bz_1, em_n, if_true, if_false, ite_not, ite_true, ite_false, not_true_eq_false, not_false_eq_true, or_true, true_or]
/-- the place that is looked at -/
noncomputable def sa (f : Nat → Nat → Int32) (N : Nat) (a : Int32) : Nat → Nat
  | 0 => 0
  | k + 1 => if ovv f N (nI (k + 1)) a = none ∧ (1 ≤ f 13 (k + 1) ∧ f 13 (k + 1) ≤ 3) then sa f N a k else k + 1
def fg (f : Nat → Nat → Int32) : Option Nat → Int32
  | some k => f 18 k
  | none => -1
theorem fo_none (o : Option Nat) (h : ∀ x ∈ o, x < 2 ^ 31) : (fo o = -1) ↔ o = none := by
  cases o with
  | none => simp [fo]
  | some x => simp only [fo]; exact ⟨fun z => absurd z (nI_m1 (h x rfl)), fun z => by cases z⟩
theorem l_131e (hc : c 2 ≤ 8) {i a : Int32} {K : Nat} {l4 : Value} (hK : mm_L 131 2 [.ref 11, .int i, .int a, .int (nI K), l4] [] (MW σ (vN c) f) = mm_L 131 30 [.ref 11, .int i, .int a, .int (nI K), l4] [] (MW σ (vN c) f)) : mm_L 131 2 [.ref 11, .int i, .int a, .int (nI K), l4] [] (MW σ (vN c) f) = some (.inl (some (.int (fg f (ovv f (c 2) (nI K) a)))), (MW σ (vN c) f)) := by
  rw [hK]
  have b := ovv_lt (f := f) (N := c 2) (i := nI K) (a := a)
  cases h : ovv f (c 2) (nI K) a with
  | none =>
    simp only [e131_30, e131_36, e131_44, e131_55, Mo_129, c_129 hc, h, show (fo none = -1) = True from by simp [fo], K0_v, K0_n, K0_x, K2_v, K2_n, K1_v, K1_n, K1_x, bI_s, bJ_s, bV_s, bS_s, l_10, l_00, bz_01, bz_0, bz_1, em_n, if_true, if_false, ite_not, ite_true, ite_false, not_true_eq_false, not_false_eq_true, or_true, true_or, fg]
  | some x =>
    have hx := b x h
    have e : (nI x = -1) = False := eq_false (nI_m1 (by omega))
    simp only [e131_30, e131_36, e131_48, e131_52, e131_55, Mo_129, c_129 hc, h, fo, e, mg_9, ma_18 (show x < 8 by omega), K0_v, K0_n, K0_x, K2_v, K2_n, K1_v, K1_n, K1_x, bI_s, bJ_s, bV_s, bS_s, l_10, l_00, bz_01, bz_0, bz_1, em_n, if_true, if_false, ite_not, ite_true, ite_false, not_true_eq_false, not_false_eq_true, or_true, true_or, fg]
theorem l_131 (hc : c 2 ≤ 8) (i a : Int32) : ∀ K (l4 : Value), K < 14 → mm_L 131 2 [.ref 11, .int i, .int a, .int (nI K), l4] [] (MW σ (vN c) f) = some (.inl (some (.int (fg f (ovv f (c 2) (nI (sa f (c 2) a K)) a)))), (MW σ (vN c) f))
  | 0, l4, hK => by
    refine l_131e hc ?_
    rw [e131_2]
    simp only [t_0, K0_v, K0_n, K0_x, K2_v, K2_n, K1_v, K1_n, K1_x, bI_s, bJ_s, bV_s, bS_s, l_10, l_00, bz_01, bz_0, bz_1, em_n, if_true, if_false, ite_not, ite_true, ite_false, not_true_eq_false, not_false_eq_true, or_true, true_or]
  | K + 1, l4, hK => by
    have q : (nI (K + 1) ≤ 0) = False := eq_false (nI_nle (by omega) (by omega))
    have b := ovv_lt (f := f) (N := c 2) (i := nI (K + 1)) (a := a)
    have fn := fo_none (ovv f (c 2) (nI (K + 1)) a) (fun x hx => by have := b x hx; omega)
    by_cases h1 : ovv f (c 2) (nI (K + 1)) a = none
    · by_cases h2 : 1 ≤ f 13 (K + 1) ∧ f 13 (K + 1) ≤ 3
      · have e : sa f (c 2) a (K + 1) = sa f (c 2) a K := by
          show (if _ then _ else _) = _
          rw [if_pos ⟨h1, h2⟩]
        rw [e, ← l_131 hc i a K l4 (by omega), e131_2]
        simp only [q, e131_6, e131_12, e131_16, e131_21, e131_24, Mo_129, c_129 hc, eq_true (fn.mpr h1), Mo_130, c_130 hK, eq_true h2, pm_add, K0_v, K0_n, K0_x, K2_v, K2_n, K1_v, K1_n, K1_x, bI_s, bJ_s, bV_s, bS_s, l_10, l_00, bz_01, bz_0, bz_1, em_n, if_true, if_false, ite_not, ite_true, ite_false, not_true_eq_false, not_false_eq_true, or_true, true_or]
      · have e : sa f (c 2) a (K + 1) = K + 1 := by
          show (if _ then _ else _) = _
          rw [if_neg (fun z => h2 z.2)]
        rw [e]
        refine l_131e hc ?_
        rw [e131_2]
        simp only [q, e131_6, e131_12, e131_16, e131_21, e131_24, Mo_129, c_129 hc, eq_true (fn.mpr h1), Mo_130, c_130 hK, eq_false h2, K0_v, K0_n, K0_x, K2_v, K2_n, K1_v, K1_n, K1_x, bI_s, bJ_s, bV_s, bS_s, l_10, l_00, bz_01, bz_0, bz_1, em_n, if_true, if_false, ite_not, ite_true, ite_false, not_true_eq_false, not_false_eq_true, or_true, true_or]
    · have e : sa f (c 2) a (K + 1) = K + 1 := by
        show (if _ then _ else _) = _
        rw [if_neg (fun z => h1 z.1)]
      rw [e]
      refine l_131e hc ?_
      rw [e131_2]
      simp only [q, e131_6, e131_12, Mo_129, c_129 hc, eq_false (fun z => h1 (fn.mp z)), K0_v, K0_n, K0_x, K2_v, K2_n, K1_v, K1_n, K1_x, bI_s, bJ_s, bV_s, bS_s, l_10, l_00, bz_01, bz_0, bz_1, em_n, if_true, if_false, ite_not, ite_true, ite_false, not_true_eq_false, not_false_eq_true, or_true, true_or]
theorem c_131 (hc : c 2 ≤ 8) (a : Int32) {K : Nat} (hK : K < 14) : mm_M 131 [.ref 11, .int (nI K), .int a] (MW σ (vN c) f) = some (.inl (some (.int (fg f (ovv f (c 2) (nI (sa f (c 2) a K)) a)))), (MW σ (vN c) f)) := by
  rw [M_131, e131_0, l_131 hc _ a K _ hK]
theorem c_132 (hc : c 2 ≤ 8) (hc1 : c 1 ≤ 14) {K : Nat} (hK : K < c 1) {a : Int32} (ha : 0 ≤ a ∧ a ≤ 2) : mm_M 132 [.ref 11, .int (nI K), .int a] (MW σ (vN c) f) = some (.inl (some (.int (fg f (ovv f (c 2) (nI (sa f (c 2) a K)) a)))), MW σ (vN (u2 c 5 0)) f) := by
  have h := eq_true (show 0 ≤ nI K ∧ nI K < nI (c 1) from ⟨nI_pos' (by omega), nI_lt hK (by omega)⟩)
  have e := c_131 (σ := σ) (f := f) (c := u2 c 5 0) (by rw [u5_2]; exact hc) a (K := K) (by omega)
  rw [u5_2] at e
  simp only [M_132, e132_0, e132_6, e132_9, e132_13, e132_19, e132_22, e132_26, e132_27, e132_30, e132_34, e132_37, e132_41, e132_47, Mo_113, c_113 hc1, h, c_108, eq_true ha, ms_27, mg_27, Mo_131, e, vs_0, vs_1, vs_2, vs_3, vs_n, vN_, u5_0, u5_1, u5_2, u5_3, u5_4, u5_5, t_0, t_1, t_2, t_3, te_0, te_1, te_2, te_3, K0_v, K0_n, K0_x, K2_v, K2_n, K1_v, K1_n, K1_x, bI_s, bJ_s, bV_s, bS_s, l_10, l_00, bz_01, bz_0, bz_1, em_n, if_true, if_false, ite_not, ite_true, ite_false, not_true_eq_false, not_false_eq_true, or_true, true_or]
theorem c_132x (hc1 : c 1 ≤ 14) {p a : Int32} (hp : ¬ (0 ≤ p ∧ p < nI (c 1))) : mm_M 132 [.ref 11, .int p, .int a] (MW σ (vN c) f) = some (.inl (some (.int 0)), MW σ (vN (u2 c 5 1)) f) := by
  simp only [M_132, e132_0, e132_6, e132_9, e132_13, e132_19, e132_22, e132_26, e132_27, e132_30, e132_34, e132_37, e132_41, e132_47, Mo_113, c_113 hc1, eq_false hp, ms_27, mg_27, vs_0, vs_1, vs_2, vs_3, vs_n, vN_, u5_0, u5_1, u5_2, u5_3, u5_4, u5_5, t_0, t_1, t_2, t_3, te_0, te_1, te_2, te_3, K0_v, K0_n, K0_x, K2_v, K2_n, K1_v, K1_n, K1_x, bI_s, bJ_s, bV_s, bS_s, l_10, l_00, bz_01, bz_0, bz_1, em_n, if_true, if_false, ite_not, ite_true, ite_false, not_true_eq_false, not_false_eq_true, or_true, true_or]
theorem c_132y (hc1 : c 1 ≤ 14) {p a : Int32} (hp : 0 ≤ p ∧ p < nI (c 1)) (ha : ¬ (0 ≤ a ∧ a ≤ 2)) : mm_M 132 [.ref 11, .int p, .int a] (MW σ (vN c) f) = some (.inl (some (.int 0)), MW σ (vN (u2 c 5 2)) f) := by
  simp only [M_132, e132_0, e132_6, e132_9, e132_13, e132_19, e132_22, e132_26, e132_27, e132_30, e132_34, e132_37, e132_41, e132_47, Mo_113, c_113 hc1, eq_true hp, c_108, eq_false ha, ms_27, mg_27, vs_0, vs_1, vs_2, vs_3, vs_n, vN_, u5_0, u5_1, u5_2, u5_3, u5_4, u5_5, t_0, t_1, t_2, t_3, te_0, te_1, te_2, te_3, K0_v, K0_n, K0_x, K2_v, K2_n, K1_v, K1_n, K1_x, bI_s, bJ_s, bV_s, bS_s, l_10, l_00, bz_01, bz_0, bz_1, em_n, if_true, if_false, ite_not, ite_true, ite_false, not_true_eq_false, not_false_eq_true, or_true, true_or]
-- stands for
theorem l_133 (hc1 : c 1 ≤ 14) (h5 : c 5 = 0) (p : Int32) {N : Nat} (hN : N ≤ c 1) : ∀ m k x (l5 : Value), k + m = N → mm_L 133 29 [.ref 11, .int (pm N), .int p, .int x, .int (nI k), l5] [] (MW σ (vN c) f) = some (.inl (some (.int (up (rs f p) m k x))), (MW σ (vN c) f))
  | 0, k, x, l5, hk => by
    have q := eq_true ((pm_lt (N := N) (k := k) (by omega) (by omega)).mpr (by omega))
    rw [e133_29]
    simp only [q, e133_114, e133_118, e133_125, e133_126, mg_27, vN_, h5, t_0, K0_v, K0_n, K0_x, K2_v, K2_n, K1_v, K1_n, K1_x, bI_s, bJ_s, bV_s, bS_s, l_10, l_00, bz_01, bz_0, bz_1, em_n, if_true, if_false, ite_not, ite_true, ite_false, not_true_eq_false, not_false_eq_true, or_true, true_or, up]
  | m + 1, k, x, l5, hk => by
    have hk1 : k < 14 := by omega
    have q := eq_false (fun z => absurd ((pm_lt (N := N) (k := k) (by omega) (by omega)).mp z) (by omega))
    rw [e133_29]
    simp only [e133_0, e133_6, e133_9, e133_13, e133_16, e133_20, e133_21, e133_24, e133_35, e133_39, e133_42, e133_46, e133_49, e133_53, e133_57, e133_58, e133_65, e133_69, e133_72, e133_76, e133_80, e133_83, e133_86, e133_91, e133_95, e133_98, e133_102, e133_106, e133_107, e133_114, e133_118, e133_121, e133_125, e133_126, q, mg_27, vN_, h5, te_0, mg_3, mg_4, mg_5, ma_13 hk1, ma_14 hk1, ma_15 hk1, nI_1, l_133 hc1 h5 p hN m (k + 1) _ _ (show k + 1 + m = N by omega), K0_v, K0_n, K0_x, K2_v, K2_n, K1_v, K1_n, K1_x, bI_s, bJ_s, bV_s, bS_s, l_10, l_00, bz_01, bz_0, bz_1, em_n, if_true, if_false, ite_not, ite_true, ite_false, not_true_eq_false, not_false_eq_true, or_true, true_or]
    simp only [up, rs]
    by_cases h1 : f 14 k = p
    · by_cases h2 : f 13 k = 1
      · simp only [eq_true h1, eq_true h2, one_ne, and_self, K0_v, K0_n, K0_x, K2_v, K2_n, K1_v, K1_n, K1_x, bI_s, bJ_s, bV_s, bS_s, l_10, l_00, bz_01, bz_0, bz_1, em_n, if_true, if_false, ite_not, ite_true, ite_false, not_true_eq_false, not_false_eq_true, or_true, true_or]
      · by_cases h3 : f 13 k = 3
        · simp only [eq_true h1, eq_false h2, eq_true h3, one_ne, and_self, false_and, K0_v, K0_n, K0_x, K2_v, K2_n, K1_v, K1_n, K1_x, bI_s, bJ_s, bV_s, bS_s, l_10, l_00, bz_01, bz_0, bz_1, em_n, if_true, if_false, ite_not, ite_true, ite_false, not_true_eq_false, not_false_eq_true, or_true, true_or]
        · simp only [eq_true h1, eq_false h2, eq_false h3, one_ne, false_and, K0_v, K0_n, K0_x, K2_v, K2_n, K1_v, K1_n, K1_x, bI_s, bJ_s, bV_s, bS_s, l_10, l_00, bz_01, bz_0, bz_1, em_n, if_true, if_false, ite_not, ite_true, ite_false, not_true_eq_false, not_false_eq_true, or_true, true_or]
    · simp only [eq_false h1, and_false, K0_v, K0_n, K0_x, K2_v, K2_n, K1_v, K1_n, K1_x, bI_s, bJ_s, bV_s, bS_s, l_10, l_00, bz_01, bz_0, bz_1, em_n, if_true, if_false, ite_not, ite_true, ite_false, not_true_eq_false, not_false_eq_true, or_true, true_or]
theorem c_133 (hc1 : c 1 ≤ 14) {K : Nat} (hK : K < c 1) {p : Int32} (hp : 0 ≤ p ∧ p < 4) : mm_M 133 [.ref 11, .int (nI K), .int p] (MW σ (vN c) f) = some (.inl (some (.int (rb f p (K + 1)))), MW σ (vN (u2 c 5 0)) f) := by
  have h := eq_true (show 0 ≤ nI K ∧ nI K < nI (c 1) from ⟨nI_pos' (by omega), nI_lt hK (by omega)⟩)
  simp only [M_133, e133_0, e133_6, e133_9, e133_13, e133_16, e133_20, e133_21, e133_24, Mo_113, c_113 hc1, h, c_114l, eq_true hp, ms_27, vs_0, vs_1, vs_2, vs_3, vs_n, vN_, u5_0, u5_1, u5_2, u5_3, u5_4, u5_5, t_0, t_1, t_2, t_3, te_0, te_1, te_2, te_3, K0_v, K0_n, K0_x, K2_v, K2_n, K1_v, K1_n, K1_x, bI_s, bJ_s, bV_s, bS_s, l_10, l_00, bz_01, bz_0, bz_1, em_n, if_true, if_false, ite_not, ite_true, ite_false, not_true_eq_false, not_false_eq_true, or_true, true_or]
  have e := l_133 (σ := σ) (f := f) (c := u2 c 5 0) (by rw [u5_1]; exact hc1) (u5_5 c 0) p (N := K + 1) (by rw [u5_1]; exact hK) (K + 1) 0 (-1) mm_un (by omega)
  rw [pm_s, nI_0] at e
  exact e
theorem c_133x (hc1 : c 1 ≤ 14) {q p : Int32} (hp : ¬ ((0 ≤ q ∧ q < nI (c 1)) ∧ (0 ≤ p ∧ p < 4))) : mm_M 133 [.ref 11, .int q, .int p] (MW σ (vN c) f) = some (.inl (some (.int 0)), MW σ (vN (u2 c 5 1)) f) := by
  have key : mm_M 133 [.ref 11, .int q, .int p] (MW σ (vN c) f) = mm_L 133 29 [.ref 11, .int q, .int p, .int (-1), .int 0, mm_un] [] (MW σ (vN (u2 c 5 1)) f) := by
    by_cases h1 : 0 ≤ q ∧ q < nI (c 1)
    · have h2 : ¬ (0 ≤ p ∧ p < 4) := fun z => hp ⟨h1, z⟩
      simp only [M_133, e133_0, e133_6, e133_9, e133_13, e133_16, e133_20, e133_21, e133_24, Mo_113, c_113 hc1, eq_true h1, c_114l, eq_false h2, ms_27, vs_0, vs_1, vs_2, vs_3, vs_n, vN_, u5_0, u5_1, u5_2, u5_3, u5_4, u5_5, t_0, t_1, t_2, t_3, te_0, te_1, te_2, te_3, K0_v, K0_n, K0_x, K2_v, K2_n, K1_v, K1_n, K1_x, bI_s, bJ_s, bV_s, bS_s, l_10, l_00, bz_01, bz_0, bz_1, em_n, if_true, if_false, ite_not, ite_true, ite_false, not_true_eq_false, not_false_eq_true, or_true, true_or]
    · simp only [M_133, e133_0, e133_6, e133_9, e133_13, e133_16, e133_20, e133_21, e133_24, Mo_113, c_113 hc1, eq_false h1, ms_27, vs_0, vs_1, vs_2, vs_3, vs_n, vN_, u5_0, u5_1, u5_2, u5_3, u5_4, u5_5, t_0, t_1, t_2, t_3, te_0, te_1, te_2, te_3, K0_v, K0_n, K0_x, K2_v, K2_n, K1_v, K1_n, K1_x, bI_s, bJ_s, bV_s, bS_s, l_10, l_00, bz_01, bz_0, bz_1, em_n, if_true, if_false, ite_not, ite_true, ite_false, not_true_eq_false, not_false_eq_true, or_true, true_or]
  rw [key, e133_29]
  simp only [e133_35, e133_39, e133_114, e133_118, e133_121, e133_126, mg_27, vs_0, vs_1, vs_2, vs_3, vs_n, vN_, u5_0, u5_1, u5_2, u5_3, u5_4, u5_5, t_0, t_1, t_2, t_3, te_0, te_1, te_2, te_3, K0_v, K0_n, K0_x, K2_v, K2_n, K1_v, K1_n, K1_x, bI_s, bJ_s, bV_s, bS_s, l_10, l_00, bz_01, bz_0, bz_1, em_n, if_true, if_false, ite_not, ite_true, ite_false, not_true_eq_false, not_false_eq_true, or_true, true_or]
  split <;> rfl
end
