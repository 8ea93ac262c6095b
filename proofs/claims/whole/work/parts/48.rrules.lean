/-! LEVEL 2: the reference's rules are told; the pure steps of rules -/
section
variable {σ : mm_S} {c : Nat → Nat} {f : Nat → Nat → Int32}
theorem c_134a {a : Int32} (h : ¬ (0 ≤ a ∧ a ≤ 4)) : mm_M 134 [.ref 11, .int a] (MW σ (vN c) f) = some (.inl (some (.int 0)), MW σ (vN (u2 c 5 1)) f) := by
  simp only [M_134, e134_0, e134_7, e134_10, e134_14, e134_18, e134_23, e134_27, e134_28, e134_31, e134_35, e134_38, e134_40, e134_44, e134_48, e134_50, e134_54, e134_58, e134_60, e134_65, e134_70, e134_74, c_108, eq_false h, ms_27, mg_27, vs_0, vs_1, vs_2, vs_3, vs_n, vN_, u5_0, u5_1, u5_2, u5_3, u5_4, u5_5, t_0, t_1, t_2, t_3, te_0, te_1, te_2, te_3, K0_v, K0_n, K0_x, K2_v, K2_n, K1_v, K1_n, K1_x, bI_s, bJ_s, bV_s, bS_s, l_10, l_00, bz_01, bz_0, bz_1, em_n, if_true, if_false, ite_not, ite_true, ite_false, not_true_eq_false, not_false_eq_true, or_true, true_or]
theorem c_134b {a : Int32} (h : 0 ≤ a ∧ a ≤ 4) (hc : c 3 = 6) : mm_M 134 [.ref 11, .int a] (MW σ (vN c) f) = some (.inl (some (.int 0)), MW σ (vN (u2 c 5 2)) f) := by
  have z : (nI (c 3) = 6) = True := by rw [hc]; decide
  simp only [M_134, e134_0, e134_7, e134_10, e134_14, e134_18, e134_23, e134_27, e134_28, e134_31, e134_35, e134_38, e134_40, e134_44, e134_48, e134_50, e134_54, e134_58, e134_60, e134_65, e134_70, e134_74, c_108, eq_true h, mg_12, vN_, z, ms_27, mg_27, vs_0, vs_1, vs_2, vs_3, vs_n, vN_, u5_0, u5_1, u5_2, u5_3, u5_4, u5_5, t_0, t_1, t_2, t_3, te_0, te_1, te_2, te_3, K0_v, K0_n, K0_x, K2_v, K2_n, K1_v, K1_n, K1_x, bI_s, bJ_s, bV_s, bS_s, l_10, l_00, bz_01, bz_0, bz_1, em_n, if_true, if_false, ite_not, ite_true, ite_false, not_true_eq_false, not_false_eq_true, or_true, true_or]
theorem c_134 {a : Int32} (h : 0 ≤ a ∧ a ≤ 4) (hc : c 3 < 6) : mm_M 134 [.ref 11, .int a] (MW σ (vN c) f) = some (.inl (some (.int (nI (c 3)))), MW σ (vN (u2 (u2 c 5 0) 3 (c 3 + 1))) (uf (uf f 21 (c 3) a) 22 (c 3) 0)) := by
  have z : (nI (c 3) = 6) = False := eq_false (fun z => by have := (nI_eq (a := c 3) (b := 6) (by omega) (by omega)).mp z; omega)
  simp only [M_134, e134_0, e134_7, e134_10, e134_14, e134_18, e134_23, e134_27, e134_28, e134_31, e134_35, e134_38, e134_40, e134_44, e134_48, e134_50, e134_54, e134_58, e134_60, e134_65, e134_70, e134_74, c_108, eq_true h, mg_12, vN_, z, ms_27, mg_27, mg_13, mg_14, mt_21 hc, mt_22 hc, ms_12, nI_1, nI_pred, u2_s, vs_0, vs_1, vs_2, vs_3, vs_n, vN_, u5_0, u5_1, u5_2, u5_3, u5_4, u5_5, t_0, t_1, t_2, t_3, te_0, te_1, te_2, te_3, K0_v, K0_n, K0_x, K2_v, K2_n, K1_v, K1_n, K1_x, bI_s, bJ_s, bV_s, bS_s, l_10, l_00, bz_01, bz_0, bz_1, em_n, if_true, if_false, ite_not, ite_true, ite_false, not_true_eq_false, not_false_eq_true, or_true, true_or]
theorem c_135x (hc : c 0 ≤ 30) (hc3 : c 3 ≤ 6) {a p : Int32} (h : ¬ ((0 ≤ a ∧ a < nI (c 3)) ∧ (0 ≤ p ∧ p < nI (c 0)))) : mm_M 135 [.ref 11, .int a, .int p] (MW σ (vN c) f) = some (.inl (some (.int 0)), MW σ (vN (u2 c 5 1)) f) := by
  have u := upto_lt (p := a) (n := c 3) (by omega)
  by_cases h1 : 0 ≤ a ∧ a < nI (c 3)
  · have h2 : ¬ (0 ≤ p ∧ p < nI (c 0)) := fun z => h ⟨h1, z⟩
    simp only [M_135, e135_0, e135_7, e135_12, e135_15, e135_20, e135_23, e135_27, e135_28, e135_31, e135_35, e135_38, e135_40, e135_44, e135_47, e135_52, e135_56, e135_58, e135_66, e135_70, e135_71, mg_12, vN_, c_108, eq_true (u.mpr h1), Mo_112, c_112 hc, eq_false h2, ms_27, mg_27, vs_0, vs_1, vs_2, vs_3, vs_n, vN_, u5_0, u5_1, u5_2, u5_3, u5_4, u5_5, t_0, t_1, t_2, t_3, te_0, te_1, te_2, te_3, K0_v, K0_n, K0_x, K2_v, K2_n, K1_v, K1_n, K1_x, bI_s, bJ_s, bV_s, bS_s, l_10, l_00, bz_01, bz_0, bz_1, em_n, if_true, if_false, ite_not, ite_true, ite_false, not_true_eq_false, not_false_eq_true, or_true, true_or]
  · simp only [M_135, e135_0, e135_7, e135_12, e135_15, e135_20, e135_23, e135_27, e135_28, e135_31, e135_35, e135_38, e135_40, e135_44, e135_47, e135_52, e135_56, e135_58, e135_66, e135_70, e135_71, mg_12, vN_, c_108, eq_false (fun z => h1 (u.mp z)), ms_27, mg_27, vs_0, vs_1, vs_2, vs_3, vs_n, vN_, u5_0, u5_1, u5_2, u5_3, u5_4, u5_5, t_0, t_1, t_2, t_3, te_0, te_1, te_2, te_3, K0_v, K0_n, K0_x, K2_v, K2_n, K1_v, K1_n, K1_x, bI_s, bJ_s, bV_s, bS_s, l_10, l_00, bz_01, bz_0, bz_1, em_n, if_true, if_false, ite_not, ite_true, ite_false, not_true_eq_false, not_false_eq_true, or_true, true_or]
theorem c_135 (hc : c 0 ≤ 30) (hc3 : c 3 ≤ 6) {i s : Nat} (hi : i < c 3) (hs : s < c 0) : mm_M 135 [.ref 11, .int (nI i), .int (nI s)] (MW σ (vN c) f) = some (.inl (some (.int (if ((f 22 i ^^^ (1 <<< (nI s &&& 31))) >>> (nI s &&& 31)) &&& 1 = 1 then 1 else 0))), MW σ (vN (u2 c 5 0)) (uf f 22 i (f 22 i ^^^ (1 <<< (nI s &&& 31))))) := by
  have u := (upto_lt (p := nI i) (n := c 3) (by omega)).mpr ⟨nI_pos' (by omega), nI_lt hi (by omega)⟩
  have q := eq_true (show 0 ≤ nI s ∧ nI s < nI (c 0) from ⟨nI_pos' (by omega), nI_lt hs (by omega)⟩)
  have v : ∀ x : Int32, uf f 22 i x 22 i = x := fun x => by rw [uf_s]; exact if_pos rfl
  have hi6 : i < 6 := by omega
  simp only [M_135, e135_0, e135_7, e135_12, e135_15, e135_20, e135_23, e135_27, e135_28, e135_31, e135_35, e135_38, e135_40, e135_44, e135_47, e135_52, e135_56, e135_58, e135_66, e135_70, e135_71, mg_12, vN_, c_108, eq_true u, Mo_112, c_112 hc, q, ms_27, mg_27, mg_14, ma_22 hi6, mt_22 hi6, v, vs_0, vs_1, vs_2, vs_3, vs_n, vN_, u5_0, u5_1, u5_2, u5_3, u5_4, u5_5, t_0, t_1, t_2, t_3, te_0, te_1, te_2, te_3, K0_v, K0_n, K0_x, K2_v, K2_n, K1_v, K1_n, K1_x, bI_s, bJ_s, bV_s, bS_s, l_10, l_00, bz_01, bz_0, bz_1, em_n, if_true, if_false, ite_not, ite_true, ite_false, not_true_eq_false, not_false_eq_true, or_true, true_or]
  split <;> rfl
end
/-- the hands before rules -/
def pp (x : Int32) : Prop := 1 ≤ x ∧ x ≤ 3
theorem pp_iff (x : Int32) : (1 ≤ x ∧ x ≤ 3) ↔ (x = 1 ∨ x = 2 ∨ x = 3) := by
  constructor
  · rintro ⟨h1, h2⟩
    obtain ⟨k, hk, rfl⟩ := nI_upto (n := 3) (by decide) (Int32.le_trans (by decide) h1) h2
    have : k = 0 ∨ k = 1 ∨ k = 2 ∨ k = 3 := by omega
    rcases this with e | e | e | e <;> subst e
    · exact absurd h1 (by decide)
    · exact Or.inl rfl
    · exact Or.inr (Or.inl rfl)
    · exact Or.inr (Or.inr rfl)
  · rintro (e | e | e) <;> subst e <;> decide
noncomputable def chg (f : Nat → Nat → Int32) (N : Nat) (K : Int32) (k : Nat) : Nat → Nat → Int32 :=
  if K = 0 then (if f 33 (7 * k + 5) = 1 ∧ (k = 0 ∨ f 33 (7 * (k - 1) + 5) = 0) ∧ (N ≤ k + 1 ∨ f 33 (7 * (k + 1) + 5) = 0) then uf f 33 (7 * k + 5) 0 else f)
  else if K = 1 then (if (1 ≤ f 13 k ∧ f 13 k ≤ 3) ∧ 1 < N then uf f 33 (7 * k + 0) (f 33 (7 * (if k + 1 < N then k + 1 else k - 1) + 0)) else f)
  else if K = 2 then (if 0 < k ∧ ab (f 33 (7 * (k - 1) + 4) - f 33 (7 * k + 3)) = 2 then uf f 33 (7 * k + 3) (f 33 (7 * (k - 1) + 4)) else f)
  else if K = 3 then (if 0 < k ∧ f 13 k = 0 ∧ f 33 (7 * k + 1) ≠ f 33 (7 * k + 2) ∧ ds (f 33 (7 * (k - 1) + 2)) (f 33 (7 * k + 2)) < ds (f 33 (7 * (k - 1) + 2)) (f 33 (7 * k + 1)) then uf (uf f 33 (7 * k + 1) (f 33 (7 * k + 2))) 33 (7 * k + 2) (f 33 (7 * k + 1)) else f)
  else if K = 4 then (if 0 < k ∧ f 13 k = 5 ∧ f 13 (k - 1) = 5 ∧ f 14 k = f 14 (k - 1) then uf f 33 (7 * k + 2) 5 else f)
  else f
section
variable {σ : mm_S} {c : Nat → Nat} {f : Nat → Nat → Int32}
theorem c_136 {k j : Nat} (hk : k < 14) (hj : j < 7) : mm_M 136 [.ref 11, .int (nI k), .int (nI j)] (MW σ (vN c) f) = some (.inl (some (.int (f 33 (7 * k + j)))), (MW σ (vN c) f)) := by
  simp only [M_136, e136_0, e136_4, e136_11, mg_26, n7, nI_add, ma_33 (show 7 * k + j < 98 by omega), K0_v, K0_n, K0_x, K2_v, K2_n, K1_v, K1_n, K1_x, bI_s, bJ_s, bV_s, bS_s, l_10, l_00, bz_01, bz_0, bz_1, em_n, if_true, if_false, ite_not, ite_true, ite_false, not_true_eq_false, not_false_eq_true, or_true, true_or]
theorem c_137 {k j : Nat} {x : Int32} (hk : k < 14) (hj : j < 7) : mm_M 137 [.ref 11, .int (nI k), .int (nI j), .int x] (MW σ (vN c) f) = some (.inl none, MW σ (vN c) (uf f 33 (7 * k + j) x)) := by
  simp only [M_137, e137_0, e137_4, e137_12, mg_26, n7, nI_add, mt_33 (show 7 * k + j < 98 by omega), K0_v, K0_n, K0_x, K2_v, K2_n, K1_v, K1_n, K1_x, bI_s, bJ_s, bV_s, bS_s, l_10, l_00, bz_01, bz_0, bz_1, em_n, if_true, if_false, ite_not, ite_true, ite_false, not_true_eq_false, not_false_eq_true, or_true, true_or]
end
