/-! LEVEL 2: the reference's readBack -/
def jmp (f : Nat → Nat → Int32) (s : Nat) (x : Nat → Int32) : Prop := (((((f 12 (7 * s + 0) = x 0 ∧ f 12 (7 * s + 1) = x 1) ∧ f 12 (7 * s + 2) = x 2) ∧ f 12 (7 * s + 3) = x 3) ∧ f 12 (7 * s + 4) = x 4) ∧ f 12 (7 * s + 5) = x 5) ∧ (x 5 ≠ 2 ∨ f 12 (7 * s + 6) = x 6)
noncomputable def jmd (f : Nat → Nat → Int32) (x : Nat → Int32) : DecidablePred (fun s => jmp f s x) := fun s => by unfold jmp; infer_instance
noncomputable def rdl (f : Nat → Nat → Int32) (x : Nat → Int32) : Nat → Int32 × Int32 → Int32 × Int32
  | 0, y => y
  | k + 1, y => rdl f x k (@ite _ (jmp f k x) (jmd f x k) (nI k, y.2 + 1) y)
def stl (x : Nat → Int32) (K : Int32) : Prop := (x 1 = x 2 ∧ x 3 = x 4) ∧ K ≠ 0 ∧ K ≠ 4
noncomputable def std (x : Nat → Int32) (K : Int32) : Decidable (stl x K) := by unfold stl; infer_instance
def rht (x : Nat → Int32) (K : Int32) (k : Nat) : Prop := stl x K ∧ x 1 = pl (nI k) ∧ x 0 = 1 ∧ x 3 = 0
noncomputable def rhd (x : Nat → Int32) (K : Int32) : DecidablePred (rht x K) := fun k => by unfold rht stl; infer_instance
def rlt (x : Nat → Int32) (K : Int32) : Prop := stl x K ∧ x 1 = 4 ∧ 8 * x 3 + x 0 < 26
noncomputable def rld (x : Nat → Int32) (K : Int32) : Decidable (rlt x K) := by unfold rlt stl; infer_instance
noncomputable def rdt (f : Nat → Nat → Int32) (S : Nat) (x : Nat → Int32) : Int32 := if (rdl f x S (-1, 0)).2 = 0 then -1 else 10000 * (rdl f x S (-1, 0)).2 + (rdl f x S (-1, 0)).1 + 1
noncomputable def rdm (f : Nat → Nat → Int32) (S : Nat) (x : Nat → Int32) (K : Int32) : Int32 :=
  @ite _ (rht x K 0) (rhd x K 0) (200 + nI 0 + 1) (@ite _ (rht x K 1) (rhd x K 1) (200 + nI 1 + 1) (@ite _ (rht x K 2) (rhd x K 2) (200 + nI 2 + 1) (@ite _ (rht x K 3) (rhd x K 3) (200 + nI 3 + 1) (@ite _ (rlt x K) (rld x K) (500 + 8 * x 3 + x 0 + 1) (rdt f S x)))))
theorem if_pd {α : Type} {p : Prop} {d : Decidable p} {a b : α} (h : p) : @ite α p d a b = a := if_pos h
theorem if_nd {α : Type} {p : Prop} {d : Decidable p} {a b : α} (h : ¬ p) : @ite α p d a b = b := if_neg h
section
variable {σ : mm_S} {c : Nat → Nat} {f : Nat → Nat → Int32}
theorem s_151 {s i : Nat} (hs : s < 30) (hi : i < 14) {k : Nat} (hk : k < 6) (a : Int32) : mm_L 151 5 [.ref 11, .int (nI s), .int (nI i), .int a, .int (nI k)] [] (MW σ (vN c) f) = mm_L 151 5 [.ref 11, .int (nI s), .int (nI i), .int (a &&& bz (f 12 (7 * s + k) = f 33 (7 * i + k))), .int (nI (k + 1))] [] (MW σ (vN c) f) := by
  have q := eq_false (show ¬ (7 : Int32) ≤ nI k from show ¬ nI 7 ≤ nI k from nI_ge (by omega) (by decide))
  have z : (nI k = 6) = False := eq_false (fun z => by have := (nI_eq (a := k) (b := 6) (by omega) (by decide)).mp z; omega)
  rw [e151_5]
  by_cases h : f 12 (7 * s + k) = f 33 (7 * i + k)
  · rw [bz_t h]
    simp only [q, z, e151_0, e151_12, e151_20, e151_26, e151_30, e151_34, e151_42, e151_49, e151_52, e151_56, e151_57, e151_65, mg_1, n7, nI_add, ma_12 (show 7 * s + k < 210 by omega), Mo_136, c_136 hi (show k < 7 by omega), eq_true h, nI_1, K0_v, K0_n, K0_x, K2_v, K2_n, K1_v, K1_n, K1_x, bI_s, bJ_s, bV_s, bS_s, l_10, l_00, bz_01, bz_0, bz_1, em_n, if_true, if_false, ite_not, ite_true, ite_false, not_true_eq_false, not_false_eq_true, or_true, true_or]
  · rw [bz_f h]
    simp only [q, z, e151_0, e151_12, e151_20, e151_26, e151_30, e151_34, e151_42, e151_49, e151_52, e151_56, e151_57, e151_65, mg_1, n7, nI_add, ma_12 (show 7 * s + k < 210 by omega), Mo_136, c_136 hi (show k < 7 by omega), eq_false h, nI_1, K0_v, K0_n, K0_x, K2_v, K2_n, K1_v, K1_n, K1_x, bI_s, bJ_s, bV_s, bS_s, l_10, l_00, bz_01, bz_0, bz_1, em_n, if_true, if_false, ite_not, ite_true, ite_false, not_true_eq_false, not_false_eq_true, or_true, true_or]
theorem s_151b {s i : Nat} (hs : s < 30) (hi : i < 14) (a : Int32) : mm_L 151 5 [.ref 11, .int (nI s), .int (nI i), .int a, .int (nI 6)] [] (MW σ (vN c) f) = mm_L 151 5 [.ref 11, .int (nI s), .int (nI i), .int (a &&& bz (f 33 (7 * i + 5) ≠ 2 ∨ f 12 (7 * s + 6) = f 33 (7 * i + 6))), .int (nI 7)] [] (MW σ (vN c) f) := by
  have q := eq_false (show ¬ (7 : Int32) ≤ nI 6 by decide)
  have z : (nI 6 = 6) = True := eq_true rfl
  have z2 : nI 6 + 1 = nI 7 := rfl
  have c6 : mm_M 136 [.ref 11, .int (nI i), .int 6] (MW σ (vN c) f) = some (.inl (some (.int (f 33 (7 * i + 6)))), (MW σ (vN c) f)) := c_136 hi (by decide)
  have z6 : nI 6 = 6 := rfl
  rw [e151_5]
  by_cases h5 : f 33 (7 * i + 5) = 2
  · by_cases h : f 12 (7 * s + 6) = f 33 (7 * i + 6)
    · rw [bz_t (Or.inr h)]
      simp only [q, z, z2, e151_0, e151_12, e151_20, e151_26, e151_30, e151_34, e151_42, e151_49, e151_52, e151_56, e151_57, e151_65, mg_1, n7, nI_add, ma_12 (show 7 * s + 6 < 210 by omega), Mo_136, c_136f hi, eq_true h5, c_136 hi (show 6 < 7 by decide), eq_true h, K0_v, K0_n, K0_x, K2_v, K2_n, K1_v, K1_n, K1_x, bI_s, bJ_s, bV_s, bS_s, l_10, l_00, bz_01, bz_0, bz_1, em_n, if_true, if_false, ite_not, ite_true, ite_false, not_true_eq_false, not_false_eq_true, or_true, true_or]
    · rw [bz_f (fun y => y.elim (fun y => y h5) h)]
      simp only [q, z, z2, e151_0, e151_12, e151_20, e151_26, e151_30, e151_34, e151_42, e151_49, e151_52, e151_56, e151_57, e151_65, mg_1, n7, nI_add, ma_12 (show 7 * s + 6 < 210 by omega), Mo_136, c_136f hi, eq_true h5, c_136 hi (show 6 < 7 by decide), eq_false h, K0_v, K0_n, K0_x, K2_v, K2_n, K1_v, K1_n, K1_x, bI_s, bJ_s, bV_s, bS_s, l_10, l_00, bz_01, bz_0, bz_1, em_n, if_true, if_false, ite_not, ite_true, ite_false, not_true_eq_false, not_false_eq_true, or_true, true_or]
  · rw [bz_t (Or.inl h5)]
    simp only [q, z, z2, e151_0, e151_12, e151_20, e151_26, e151_30, e151_34, e151_42, e151_49, e151_52, e151_56, e151_57, e151_65, Mo_136, c_136f hi, eq_false h5, K0_v, K0_n, K0_x, K2_v, K2_n, K1_v, K1_n, K1_x, bI_s, bJ_s, bV_s, bS_s, l_10, l_00, bz_01, bz_0, bz_1, em_n, if_true, if_false, ite_not, ite_true, ite_false, not_true_eq_false, not_false_eq_true, or_true, true_or]
theorem c_151 {s i : Nat} (hs : s < 30) (hi : i < 14) : mm_M 151 [.ref 11, .int (nI s), .int (nI i)] (MW σ (vN c) f) = some (.inl (some (.int (@ite _ (jmp f s (h7 (f 33) i)) (jmd f _ s) 1 0))), (MW σ (vN c) f)) := by
  have e : ∀ p : Prop, ∀ d : Decidable p, (1 : Int32) &&& @bz p d = @bz p d := fun p d => by unfold bz; split <;> rfl
  rw [M_151, e151_0]
  show mm_L 151 5 [.ref 11, .int (nI s), .int (nI i), .int 1, .int (nI 0)] [] _ = _
  rw [s_151 hs hi (show 0 < 6 by decide), s_151 hs hi (show 1 < 6 by decide), s_151 hs hi (show 2 < 6 by decide), s_151 hs hi (show 3 < 6 by decide), s_151 hs hi (show 4 < 6 by decide), s_151 hs hi (show 5 < 6 by decide), s_151b hs hi, e151_5, if_pos (by decide), e151_65]
  simp only [e, bz_and, K0_v, K0_n, K0_x, K2_v, K2_n, K1_v, K1_n, K1_x, bI_s, bJ_s, bV_s, bS_s, l_10, l_00, bz_01, bz_0, bz_1, em_n, if_true, if_false, ite_not, ite_true, ite_false, not_true_eq_false, not_false_eq_true, or_true, true_or]
  rfl
theorem l_152 (hc0 : c 0 ≤ 30) {i : Nat} (hi : i < 14) {l2 l3 l4 l5 : Int32} : ∀ k (y : Int32 × Int32), k ≤ c 0 → mm_L 152 154 [.ref 11, .int (nI i), .int l2, .int l3, .int l4, .int l5, .int y.1, .int y.2, .int (pm k)] [] (MW σ (vN c) f) = some (.inl (some (.int (if (rdl f (h7 (f 33) i) k y).2 = 0 then -1 else 10000 * (rdl f (h7 (f 33) i) k y).2 + (rdl f (h7 (f 33) i) k y).1 + 1))), (MW σ (vN c) f))
  | 0, y, h => by
    have q := eq_true (show pm 0 < 0 by decide)
    rw [e152_154]
    by_cases e : y.2 = 0
    · simp only [q, e152_182, e152_187, e152_191, e152_202, rdl, eq_true e, K0_v, K0_n, K0_x, K2_v, K2_n, K1_v, K1_n, K1_x, bI_s, bJ_s, bV_s, bS_s, l_10, l_00, bz_01, bz_0, bz_1, em_n, if_true, if_false, ite_not, ite_true, ite_false, not_true_eq_false, not_false_eq_true, or_true, true_or]
    · simp only [q, e152_182, e152_187, e152_191, e152_202, rdl, eq_false e, K0_v, K0_n, K0_x, K2_v, K2_n, K1_v, K1_n, K1_x, bI_s, bJ_s, bV_s, bS_s, l_10, l_00, bz_01, bz_0, bz_1, em_n, if_true, if_false, ite_not, ite_true, ite_false, not_true_eq_false, not_false_eq_true, or_true, true_or]
  | k + 1, y, h => by
    have q := eq_false (show ¬ nI k < 0 from Int32.not_lt.mpr (nI_pos' (by omega)))
    have e : nI k + -1 = pm k := (Int32.sub_eq_add_neg ..).symm
    have ih := fun y => l_152 hc0 hi (l2 := l2) (l3 := l3) (l4 := l4) (l5 := l5) k y (by omega)
    rw [e152_154, pm_s]
    unfold rdl
    by_cases h1 : jmp f k (h7 (f 33) i)
    · rw [if_pd h1, ← ih]
      simp only [q, e152_159, e152_166, e152_169, e152_176, Mo_151, c_151 (show k < 30 by omega) hi, if_pd h1, one_ne, e, K0_v, K0_n, K0_x, K2_v, K2_n, K1_v, K1_n, K1_x, bI_s, bJ_s, bV_s, bS_s, l_10, l_00, bz_01, bz_0, bz_1, em_n, if_true, if_false, ite_not, ite_true, ite_false, not_true_eq_false, not_false_eq_true, or_true, true_or]
    · rw [if_nd h1, ← ih]
      simp only [q, e152_159, e152_166, e152_169, e152_176, Mo_151, c_151 (show k < 30 by omega) hi, if_nd h1, e, K0_v, K0_n, K0_x, K2_v, K2_n, K1_v, K1_n, K1_x, bI_s, bJ_s, bV_s, bS_s, l_10, l_00, bz_01, bz_0, bz_1, em_n, if_true, if_false, ite_not, ite_true, ite_false, not_true_eq_false, not_false_eq_true, or_true, true_or]
theorem s_152 {i k : Nat} (hk : k < 4) {x : Nat → Int32} {K : Int32} {l7 l8 : Value} : mm_L 152 59 [.ref 11, .int (nI i), .int (x 1), .int (x 3), .int (x 0), .int (@bz _ (std x K)), .int (nI k), l7, l8] [] (MW σ (vN c) f) = @ite _ (rht x K k) (rhd x K k) (some (.inl (some (.int (200 + nI k + 1))), (MW σ (vN c) f))) (mm_L 152 59 [.ref 11, .int (nI i), .int (x 1), .int (x 3), .int (x 0), .int (@bz _ (std x K)), .int (nI (k + 1)), l7, l8] [] (MW σ (vN c) f)) := by
  have q := eq_false (show ¬ (4 : Int32) ≤ nI k from show ¬ nI 4 ≤ nI k from nI_ge (by omega) (by decide))
  rw [e152_59]
  by_cases h : stl x K
  · by_cases h1 : x 1 = pl (nI k)
    · by_cases h0 : x 0 = 1
      · by_cases h3 : x 3 = 0
        · rw [if_pd (show rht x K k from ⟨h, h1, h0, h3⟩)]
          simp only [q, e152_65, e152_70, e152_76, e152_79, e152_85, e152_89, e152_98, eq_true h, c_111, eq_true h1, eq_true h0, eq_true h3, K0_v, K0_n, K0_x, K2_v, K2_n, K1_v, K1_n, K1_x, bI_s, bJ_s, bV_s, bS_s, l_10, l_00, bz_01, bz_0, bz_1, em_n, if_true, if_false, ite_not, ite_true, ite_false, not_true_eq_false, not_false_eq_true, or_true, true_or]
        · rw [if_nd (fun z : rht x K k => h3 z.2.2.2)]
          simp only [q, e152_65, e152_70, e152_76, e152_79, e152_85, e152_89, e152_98, eq_true h, c_111, eq_true h1, eq_true h0, eq_false h3, nI_1, K0_v, K0_n, K0_x, K2_v, K2_n, K1_v, K1_n, K1_x, bI_s, bJ_s, bV_s, bS_s, l_10, l_00, bz_01, bz_0, bz_1, em_n, if_true, if_false, ite_not, ite_true, ite_false, not_true_eq_false, not_false_eq_true, or_true, true_or]
      · rw [if_nd (fun z : rht x K k => h0 z.2.2.1)]
        simp only [q, e152_65, e152_70, e152_76, e152_79, e152_85, e152_89, e152_98, eq_true h, c_111, eq_true h1, eq_false h0, nI_1, K0_v, K0_n, K0_x, K2_v, K2_n, K1_v, K1_n, K1_x, bI_s, bJ_s, bV_s, bS_s, l_10, l_00, bz_01, bz_0, bz_1, em_n, if_true, if_false, ite_not, ite_true, ite_false, not_true_eq_false, not_false_eq_true, or_true, true_or]
    · rw [if_nd (fun z : rht x K k => h1 z.2.1)]
      simp only [q, e152_65, e152_70, e152_76, e152_79, e152_85, e152_89, e152_98, eq_true h, c_111, eq_false h1, nI_1, K0_v, K0_n, K0_x, K2_v, K2_n, K1_v, K1_n, K1_x, bI_s, bJ_s, bV_s, bS_s, l_10, l_00, bz_01, bz_0, bz_1, em_n, if_true, if_false, ite_not, ite_true, ite_false, not_true_eq_false, not_false_eq_true, or_true, true_or]
  · rw [if_nd (fun z : rht x K k => h z.1)]
    simp only [q, e152_65, e152_70, e152_76, e152_79, e152_85, e152_89, e152_98, eq_false h, nI_1, K0_v, K0_n, K0_x, K2_v, K2_n, K1_v, K1_n, K1_x, bI_s, bJ_s, bV_s, bS_s, l_10, l_00, bz_01, bz_0, bz_1, em_n, if_true, if_false, ite_not, ite_true, ite_false, not_true_eq_false, not_false_eq_true, or_true, true_or]
theorem c_152 (hc0 : c 0 ≤ 30) {i : Nat} (hi : i < 14) : mm_M 152 [.ref 11, .int (nI i)] (MW σ (vN c) f) = some (.inl (some (.int (rdm f (c 0) (h7 (f 33) i) (f 13 i)))), (MW σ (vN c) f)) := by
  have key : mm_M 152 [.ref 11, .int (nI i)] (MW σ (vN c) f) = mm_L 152 59 [.ref 11, .int (nI i), .int (h7 (f 33) i 1), .int (h7 (f 33) i 3), .int (h7 (f 33) i 0), .int (@bz _ (std (h7 (f 33) i) (f 13 i))), .int (nI 0), mm_un, mm_un] [] (MW σ (vN c) f) := by
    by_cases h1 : h7 (f 33) i 1 = h7 (f 33) i 2 ∧ h7 (f 33) i 3 = h7 (f 33) i 4
    · by_cases h2 : f 13 i = 0
      · have e : @bz _ (std (h7 (f 33) i) (f 13 i)) = 0 := if_nd (fun z : stl (h7 (f 33) i) (f 13 i) => z.2.1 h2)
        rw [e]
        simp only [M_152, e152_0, e152_6, e152_13, e152_20, e152_27, e152_30, e152_34, e152_36, e152_39, e152_43, e152_45, e152_49, e152_53, e152_54, Mo_136, c_136b hi, c_136d hi, c_136a hi, Mo_143, c_143 hi, eq_true h1, mg_3, ma_13 hi, eq_true h2, nI_0, K0_v, K0_n, K0_x, K2_v, K2_n, K1_v, K1_n, K1_x, bI_s, bJ_s, bV_s, bS_s, l_10, l_00, bz_01, bz_0, bz_1, em_n, if_true, if_false, ite_not, ite_true, ite_false, not_true_eq_false, not_false_eq_true, or_true, true_or]
        rfl
      · by_cases h3 : f 13 i = 4
        · have e : @bz _ (std (h7 (f 33) i) (f 13 i)) = 0 := if_nd (fun z : stl (h7 (f 33) i) (f 13 i) => z.2.2 h3)
          rw [e]
          simp only [M_152, e152_0, e152_6, e152_13, e152_20, e152_27, e152_30, e152_34, e152_36, e152_39, e152_43, e152_45, e152_49, e152_53, e152_54, Mo_136, c_136b hi, c_136d hi, c_136a hi, Mo_143, c_143 hi, eq_true h1, mg_3, ma_13 hi, eq_false h2, eq_true h3, nI_0, K0_v, K0_n, K0_x, K2_v, K2_n, K1_v, K1_n, K1_x, bI_s, bJ_s, bV_s, bS_s, l_10, l_00, bz_01, bz_0, bz_1, em_n, if_true, if_false, ite_not, ite_true, ite_false, not_true_eq_false, not_false_eq_true, or_true, true_or]
          rfl
        · have e : @bz _ (std (h7 (f 33) i) (f 13 i)) = 1 := if_pd (show stl (h7 (f 33) i) (f 13 i) from ⟨h1, h2, h3⟩)
          rw [e]
          simp only [M_152, e152_0, e152_6, e152_13, e152_20, e152_27, e152_30, e152_34, e152_36, e152_39, e152_43, e152_45, e152_49, e152_53, e152_54, Mo_136, c_136b hi, c_136d hi, c_136a hi, Mo_143, c_143 hi, eq_true h1, mg_3, ma_13 hi, eq_false h2, eq_false h3, nI_0, K0_v, K0_n, K0_x, K2_v, K2_n, K1_v, K1_n, K1_x, bI_s, bJ_s, bV_s, bS_s, l_10, l_00, bz_01, bz_0, bz_1, em_n, if_true, if_false, ite_not, ite_true, ite_false, not_true_eq_false, not_false_eq_true, or_true, true_or]
          rfl
    · have e : @bz _ (std (h7 (f 33) i) (f 13 i)) = 0 := if_nd (fun z : stl (h7 (f 33) i) (f 13 i) => h1 z.1)
      rw [e]
      simp only [M_152, e152_0, e152_6, e152_13, e152_20, e152_27, e152_30, e152_34, e152_36, e152_39, e152_43, e152_45, e152_49, e152_53, e152_54, Mo_136, c_136b hi, c_136d hi, c_136a hi, Mo_143, c_143 hi, eq_false h1, nI_0, K0_v, K0_n, K0_x, K2_v, K2_n, K1_v, K1_n, K1_x, bI_s, bJ_s, bV_s, bS_s, l_10, l_00, bz_01, bz_0, bz_1, em_n, if_true, if_false, ite_not, ite_true, ite_false, not_true_eq_false, not_false_eq_true, or_true, true_or]
      rfl
  rw [key]
  generalize hx : h7 (f 33) i = x
  generalize f 13 i = K
  rw [s_152 (show 0 < 4 by decide), s_152 (show 1 < 4 by decide), s_152 (show 2 < 4 by decide), s_152 (show 3 < 4 by decide)]
  unfold rdm
  by_cases h0 : rht x K 0
  · rw [if_pd h0, if_pd h0]
  rw [if_nd h0, if_nd h0]
  by_cases h0 : rht x K 1
  · rw [if_pd h0, if_pd h0]
  rw [if_nd h0, if_nd h0]
  by_cases h0 : rht x K 2
  · rw [if_pd h0, if_pd h0]
  rw [if_nd h0, if_nd h0]
  by_cases h0 : rht x K 3
  · rw [if_pd h0, if_pd h0]
  rw [if_nd h0, if_nd h0]
  have tail : mm_L 152 140 [.ref 11, .int (nI i), .int (x 1), .int (x 3), .int (x 0), .int (@bz _ (std x K)), .int (nI 4), mm_un, mm_un] [] (MW σ (vN c) f) = some (.inl (some (.int (rdt f (c 0) x))), (MW σ (vN c) f)) := by
    have e : nI (c 0) - 1 = pm (c 0) := rfl
    have l := l_152 (σ := σ) (c := c) (f := f) hc0 hi (l2 := x 1) (l3 := x 3) (l4 := x 0) (l5 := @bz _ (std x K)) (c 0) (-1, 0) (Nat.le_refl _)
    rw [hx] at l
    simp only [e152_140, e152_150, mg_0, vN_, e, K0_v, K0_n, K0_x, K2_v, K2_n, K1_v, K1_n, K1_x, bI_s, bJ_s, bV_s, bS_s, l_10, l_00, bz_01, bz_0, bz_1, em_n, if_true, if_false, ite_not, ite_true, ite_false, not_true_eq_false, not_false_eq_true, or_true, true_or]
    exact l
  rw [e152_59, if_pos (by decide)]
  by_cases h : stl x K
  · by_cases h1 : x 1 = 4
    · by_cases h2 : 8 * x 3 + x 0 < 26
      · rw [if_pd (show rlt x K from ⟨h, h1, h2⟩)]
        simp only [e152_104, e152_109, e152_114, e152_126, eq_true h, eq_true h1, eq_false (nle_of_lt h2), K0_v, K0_n, K0_x, K2_v, K2_n, K1_v, K1_n, K1_x, bI_s, bJ_s, bV_s, bS_s, l_10, l_00, bz_01, bz_0, bz_1, em_n, if_true, if_false, ite_not, ite_true, ite_false, not_true_eq_false, not_false_eq_true, or_true, true_or]
      · rw [if_nd (fun z : rlt x K => h2 z.2.2), ← tail]
        simp only [e152_104, e152_109, e152_114, e152_126, eq_true h, eq_true h1, eq_true (Int32.not_lt.mp h2), K0_v, K0_n, K0_x, K2_v, K2_n, K1_v, K1_n, K1_x, bI_s, bJ_s, bV_s, bS_s, l_10, l_00, bz_01, bz_0, bz_1, em_n, if_true, if_false, ite_not, ite_true, ite_false, not_true_eq_false, not_false_eq_true, or_true, true_or]
    · rw [if_nd (fun z : rlt x K => h1 z.2.1), ← tail]
      simp only [e152_104, e152_109, e152_114, e152_126, eq_true h, eq_false h1, K0_v, K0_n, K0_x, K2_v, K2_n, K1_v, K1_n, K1_x, bI_s, bJ_s, bV_s, bS_s, l_10, l_00, bz_01, bz_0, bz_1, em_n, if_true, if_false, ite_not, ite_true, ite_false, not_true_eq_false, not_false_eq_true, or_true, true_or]
  · rw [if_nd (fun z : rlt x K => h z.1), ← tail]
    simp only [e152_104, e152_109, e152_114, e152_126, eq_false h, K0_v, K0_n, K0_x, K2_v, K2_n, K1_v, K1_n, K1_x, bI_s, bJ_s, bV_s, bS_s, l_10, l_00, bz_01, bz_0, bz_1, em_n, if_true, if_false, ite_not, ite_true, ite_false, not_true_eq_false, not_false_eq_true, or_true, true_or]
noncomputable def ram (r : Int32) (q : Int32) : Int32 := if r = -1 then (if q = 2 then 0 else -1) else if q = 0 then (r - r / 10000 * 10000) / 100 else if q = 1 then (r - r / 100 * 100) - 1 else r / 10000
theorem c_153x (hc1 : c 1 ≤ 14) {p q : Int32} (hp : ¬ (0 ≤ p ∧ p < nI (c 1))) : mm_M 153 [.ref 11, .int p, .int q] (MW σ (vN c) f) = some (.inl (some (.int 0)), MW σ (vN (u2 c 5 1)) f) := by
  simp only [M_153, e153_0, e153_6, e153_9, e153_13, e153_19, e153_22, e153_26, e153_27, e153_30, e153_34, e153_37, e153_39, e153_43, e153_48, e153_54, e153_59, e153_63, e153_64, e153_65, e153_69, e153_80, e153_85, e153_94, e153_99, Mo_113, c_113 hc1, eq_false hp, ms_27, mg_27, vs_0, vs_1, vs_2, vs_3, vs_n, vN_, u5_0, u5_1, u5_2, u5_3, u5_4, u5_5, t_0, t_1, t_2, t_3, te_0, te_1, te_2, te_3, K0_v, K0_n, K0_x, K2_v, K2_n, K1_v, K1_n, K1_x, bI_s, bJ_s, bV_s, bS_s, l_10, l_00, bz_01, bz_0, bz_1, em_n, if_true, if_false, ite_not, ite_true, ite_false, not_true_eq_false, not_false_eq_true, or_true, true_or]
theorem c_153y (hc1 : c 1 ≤ 14) {p q : Int32} (hp : 0 ≤ p ∧ p < nI (c 1)) (ha : ¬ (0 ≤ q ∧ q ≤ 2)) : mm_M 153 [.ref 11, .int p, .int q] (MW σ (vN c) f) = some (.inl (some (.int 0)), MW σ (vN (u2 c 5 2)) f) := by
  simp only [M_153, e153_0, e153_6, e153_9, e153_13, e153_19, e153_22, e153_26, e153_27, e153_30, e153_34, e153_37, e153_39, e153_43, e153_48, e153_54, e153_59, e153_63, e153_64, e153_65, e153_69, e153_80, e153_85, e153_94, e153_99, Mo_113, c_113 hc1, eq_true hp, c_108, eq_false ha, ms_27, mg_27, vs_0, vs_1, vs_2, vs_3, vs_n, vN_, u5_0, u5_1, u5_2, u5_3, u5_4, u5_5, t_0, t_1, t_2, t_3, te_0, te_1, te_2, te_3, K0_v, K0_n, K0_x, K2_v, K2_n, K1_v, K1_n, K1_x, bI_s, bJ_s, bV_s, bS_s, l_10, l_00, bz_01, bz_0, bz_1, em_n, if_true, if_false, ite_not, ite_true, ite_false, not_true_eq_false, not_false_eq_true, or_true, true_or]
theorem c_153 (hc0 : c 0 ≤ 30) (hc1 : c 1 ≤ 14) (hc3 : c 3 ≤ 6) (hv : VI f 30 (c 1)) {k : Nat} {q : Int32} (hk : k < c 1) (hq : 0 ≤ q ∧ q ≤ 2) : mm_M 153 [.ref 11, .int (nI k), .int q] (MW σ (vN c) f) = some (.inl (some (.int (ram (rdm (apm (c 1) (c 3) f) (c 0) (h7 (apm (c 1) (c 3) f 33) k) (apm (c 1) (c 3) f 13 k)) q))), MW σ (vN (u2 c 5 0)) (apm (c 1) (c 3) f)) := by
  have h := eq_true (show 0 ≤ nI k ∧ nI k < nI (c 1) from ⟨nI_pos' (by omega), nI_lt hk (by omega)⟩)
  have hk' : k < 14 := by omega
  have e : mm_M 142 [.ref 11] (MW σ (vN (u2 c 5 0)) f) = some (.inl none, MW σ (vN (u2 c 5 0)) (apm (c 1) (c 3) f)) := by
    have z := c_142 (σ := σ) (c := u2 c 5 0) (f := f) (by rw [u5_1]; exact hc1) (by rw [u5_3]; exact hc3) (by rw [u5_1]; exact hv)
    rw [u5_1, u5_3] at z
    exact z
  have z := c_152 (σ := σ) (c := u2 c 5 0) (f := apm (c 1) (c 3) f) (by rw [u5_0]; exact hc0) hk'
  rw [u5_0] at z
  unfold ram
  by_cases h1 : rdm (apm (c 1) (c 3) f) (c 0) (h7 (apm (c 1) (c 3) f 33) k) (apm (c 1) (c 3) f 13 k) = -1
  · rw [if_pos h1]
    simp only [M_153, e153_0, e153_6, e153_9, e153_13, e153_19, e153_22, e153_26, e153_27, e153_30, e153_34, e153_37, e153_39, e153_43, e153_48, e153_54, e153_59, e153_63, e153_64, e153_65, e153_69, e153_80, e153_85, e153_94, e153_99, Mo_113, c_113 hc1, h, c_108, eq_true hq, ms_27, mg_27, Mo_142, e, Mo_152, z, eq_true h1, vs_0, vs_1, vs_2, vs_3, vs_n, vN_, u5_0, u5_1, u5_2, u5_3, u5_4, u5_5, t_0, t_1, t_2, t_3, te_0, te_1, te_2, te_3, K0_v, K0_n, K0_x, K2_v, K2_n, K1_v, K1_n, K1_x, bI_s, bJ_s, bV_s, bS_s, l_10, l_00, bz_01, bz_0, bz_1, em_n, if_true, if_false, ite_not, ite_true, ite_false, not_true_eq_false, not_false_eq_true, or_true, true_or]
    split <;> rfl
  · rw [if_neg h1]
    simp only [M_153, e153_0, e153_6, e153_9, e153_13, e153_19, e153_22, e153_26, e153_27, e153_30, e153_34, e153_37, e153_39, e153_43, e153_48, e153_54, e153_59, e153_63, e153_64, e153_65, e153_69, e153_80, e153_85, e153_94, e153_99, Mo_113, c_113 hc1, h, c_108, eq_true hq, ms_27, mg_27, Mo_142, e, Mo_152, z, eq_false h1, vs_0, vs_1, vs_2, vs_3, vs_n, vN_, u5_0, u5_1, u5_2, u5_3, u5_4, u5_5, t_0, t_1, t_2, t_3, te_0, te_1, te_2, te_3, K0_v, K0_n, K0_x, K2_v, K2_n, K1_v, K1_n, K1_x, bI_s, bJ_s, bV_s, bS_s, l_10, l_00, bz_01, bz_0, bz_1, em_n, if_true, if_false, ite_not, ite_true, ite_false, not_true_eq_false, not_false_eq_true, or_true, true_or]
    by_cases q0 : q = 0
    · simp only [eq_true q0, K0_v, K0_n, K0_x, K2_v, K2_n, K1_v, K1_n, K1_x, bI_s, bJ_s, bV_s, bS_s, l_10, l_00, bz_01, bz_0, bz_1, em_n, if_true, if_false, ite_not, ite_true, ite_false, not_true_eq_false, not_false_eq_true, or_true, true_or]
    · by_cases q1 : q = 1
      · simp only [eq_false q0, eq_true q1, K0_v, K0_n, K0_x, K2_v, K2_n, K1_v, K1_n, K1_x, bI_s, bJ_s, bV_s, bS_s, l_10, l_00, bz_01, bz_0, bz_1, em_n, if_true, if_false, ite_not, ite_true, ite_false, not_true_eq_false, not_false_eq_true, or_true, true_or]
      · simp only [eq_false q0, eq_false q1, K0_v, K0_n, K0_x, K2_v, K2_n, K1_v, K1_n, K1_x, bI_s, bJ_s, bV_s, bS_s, l_10, l_00, bz_01, bz_0, bz_1, em_n, if_true, if_false, ite_not, ite_true, ite_false, not_true_eq_false, not_false_eq_true, or_true, true_or]
end
