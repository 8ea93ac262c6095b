/-! LEVEL 2: the class's readBack -/
def rp (x : Nat → Int32) : Int32 := if (x 1 = x 2 ∧ x 3 = x 4) ∧ x 3 = 0 ∧ x 0 = 1 then la (x 1) else -1
def rl (x : Nat → Int32) : Int32 := if (x 1 = x 2 ∧ x 3 = x 4) ∧ x 1 = 4 ∧ 0 ≤ 8 * x 3 + x 0 ∧ 8 * x 3 + x 0 < 26 then 8 * x 3 + x 0 else -1
noncomputable def rf (g : Nat → Nat → Int32) (N : Nat) (x : Nat → Int32) : Int32 := fo (@fi (je g x) (jed g x) N 0)
/-- the kind read back of item k -/
noncomputable def rk (g : Nat → Nat → Int32) (N k : Nat) : Int32 :=
  if ¬ (g 13 k = 0 ∨ g 13 k = 4) ∧ rp (h7 (g 33) k) ≠ -1 then 2
  else if ¬ (g 13 k = 0 ∨ g 13 k = 4) ∧ rl (h7 (g 33) k) ≠ -1 then 5
  else if rf g N (h7 (g 33) k) = -1 then -1 else 0
section
variable {σ : mm_S} {tg : Nat → Nat × Nat} {ad : Nat × Nat → Nat} {c : Nat → Nat} {g : Nat → Nat → Int32} {n : Nat}
theorem WF.os (w : WF tg ad c n) : OS tg ad c := ⟨fun i hi => w.s hi, w.1.1⟩
theorem c_80 (w : WF tg ad c n) (hl : LO (CW σ tg ad c g)) {k : Nat} (hk : k < c 1) : mm_M 80 [.ref 2, .ref (ad (2, k))] (CW σ tg ad c g) = some (.inl (some (.int (rk g (c 0) k))), (CW σ tg ad c g)) := by
  obtain ⟨L2, L3, L4⟩ := w.i hk
  have H := Hd_4 (σ := σ) (c := c) (g := g) L4
  have c82 : mm_M 82 [.ref (ad (4, k))] (CW σ tg ad c g) = some (.inl (some (.int (rp (h7 (g 33) k)))), (CW σ tg ad c g)) := c_82 H hl
  have c83 : mm_M 83 [.ref (ad (4, k))] (CW σ tg ad c g) = some (.inl (some (.int (rl (h7 (g 33) k)))), (CW σ tg ad c g)) := c_83 H
  have c31 : mm_M 31 [.ref 2, .ref (ad (4, k))] (CW σ tg ad c g) = some (.inl (some (.int (rf g (c 0) (h7 (g 33) k)))), (CW σ tg ad c g)) := c_31 w.os H
  have last : mm_L 80 33 [.ref 2, .ref (ad (2, k))] [] (CW σ tg ad c g) = some (.inl (some (.int (if rf g (c 0) (h7 (g 33) k) = -1 then -1 else 0))), (CW σ tg ad c g)) := by
    simp only [e80_33, e80_38, e80_41, e80_45, e80_49, e80_50, cr_2_4 L2, aM_31, c31, K0_v, K0_n, K0_x, K2_v, K2_n, K1_v, K1_n, K1_x, bI_s, bJ_s, bV_s, bS_s, l_10, l_00, bz_01, bz_0, bz_1, em_n, if_true, if_false, ite_not, ite_true, ite_false, not_true_eq_false, not_false_eq_true, or_true, true_or]
    split <;> rfl
  unfold rk
  by_cases hs : g 13 k = 0 ∨ g 13 k = 4
  · rw [if_neg (fun z => z.1 hs), if_neg (fun z => z.1 hs), ← last]
    simp only [M_80, e80_0, e80_4, e80_7, iM_14 L2, c_14 L2, eq_true hs, K0_v, K0_n, K0_x, K2_v, K2_n, K1_v, K1_n, K1_x, bI_s, bJ_s, bV_s, bS_s, l_10, l_00, bz_01, bz_0, bz_1, em_n, if_true, if_false, ite_not, ite_true, ite_false, not_true_eq_false, not_false_eq_true, or_true, true_or]
  · by_cases h1 : rp (h7 (g 33) k) = -1
    · rw [if_neg (fun z => z.2 h1)]
      by_cases h2 : rl (h7 (g 33) k) = -1
      · rw [if_neg (fun z => z.2 h2), ← last]
        simp only [M_80, e80_0, e80_4, e80_7, e80_11, e80_14, e80_18, e80_20, e80_24, e80_27, e80_31, iM_14 L2, c_14 L2, eq_false hs, cr_2_4 L2, c82, eq_true h1, c83, eq_true h2, K0_v, K0_n, K0_x, K2_v, K2_n, K1_v, K1_n, K1_x, bI_s, bJ_s, bV_s, bS_s, l_10, l_00, bz_01, bz_0, bz_1, em_n, if_true, if_false, ite_not, ite_true, ite_false, not_true_eq_false, not_false_eq_true, or_true, true_or]
      · rw [if_pos ⟨hs, h2⟩]
        simp only [M_80, e80_0, e80_4, e80_7, e80_11, e80_14, e80_18, e80_20, e80_24, e80_27, e80_31, iM_14 L2, c_14 L2, eq_false hs, cr_2_4 L2, c82, eq_true h1, c83, eq_false h2, K0_v, K0_n, K0_x, K2_v, K2_n, K1_v, K1_n, K1_x, bI_s, bJ_s, bV_s, bS_s, l_10, l_00, bz_01, bz_0, bz_1, em_n, if_true, if_false, ite_not, ite_true, ite_false, not_true_eq_false, not_false_eq_true, or_true, true_or]
    · rw [if_pos ⟨hs, h1⟩]
      simp only [M_80, e80_0, e80_4, e80_7, e80_11, e80_14, e80_18, e80_20, e80_24, e80_27, e80_31, iM_14 L2, c_14 L2, eq_false hs, cr_2_4 L2, c82, eq_false h1, K0_v, K0_n, K0_x, K2_v, K2_n, K1_v, K1_n, K1_x, bI_s, bJ_s, bV_s, bS_s, l_10, l_00, bz_01, bz_0, bz_1, em_n, if_true, if_false, ite_not, ite_true, ite_false, not_true_eq_false, not_false_eq_true, or_true, true_or]
noncomputable def rn (g : Nat → Nat → Int32) (N : Nat) (x : Nat → Int32) (K : Int32) : Int32 := if K = 0 then rf g N x else if K = 2 then rp x else if K = 5 then rl x else -1
theorem c_81 (w : WF tg ad c n) (hl : LO (CW σ tg ad c g)) {k : Nat} (hk : k < c 1) (K : Int32) : mm_M 81 [.ref 2, .int K, .ref (ad (4, k))] (CW σ tg ad c g) = some (.inl (some (.int (rn g (c 0) (h7 (g 33) k) K))), (CW σ tg ad c g)) := by
  obtain ⟨L2, L3, L4⟩ := w.i hk
  have H := Hd_4 (σ := σ) (c := c) (g := g) L4
  have c82 : mm_M 82 [.ref (ad (4, k))] (CW σ tg ad c g) = some (.inl (some (.int (rp (h7 (g 33) k)))), (CW σ tg ad c g)) := c_82 H hl
  have c83 : mm_M 83 [.ref (ad (4, k))] (CW σ tg ad c g) = some (.inl (some (.int (rl (h7 (g 33) k)))), (CW σ tg ad c g)) := c_83 H
  have c31 : mm_M 31 [.ref 2, .ref (ad (4, k))] (CW σ tg ad c g) = some (.inl (some (.int (rf g (c 0) (h7 (g 33) k)))), (CW σ tg ad c g)) := c_31 w.os H
  unfold rn
  by_cases k0 : K = 0
  · simp only [M_81, e81_0, e81_36, e81_41, e81_42, e81_46, e81_47, e81_51, e81_52, eq_true k0, aM_31, c31, K0_v, K0_n, K0_x, K2_v, K2_n, K1_v, K1_n, K1_x, bI_s, bJ_s, bV_s, bS_s, l_10, l_00, bz_01, bz_0, bz_1, em_n, if_true, if_false, ite_not, ite_true, ite_false, not_true_eq_false, not_false_eq_true, or_true, true_or]
  · by_cases k2 : K = 2
    · simp only [M_81, e81_0, e81_36, e81_41, e81_42, e81_46, e81_47, e81_51, e81_52, eq_false k0, eq_true k2, c82, K0_v, K0_n, K0_x, K2_v, K2_n, K1_v, K1_n, K1_x, bI_s, bJ_s, bV_s, bS_s, l_10, l_00, bz_01, bz_0, bz_1, em_n, if_true, if_false, ite_not, ite_true, ite_false, not_true_eq_false, not_false_eq_true, or_true, true_or]
    · by_cases k5 : K = 5
      · simp only [M_81, e81_0, e81_36, e81_41, e81_42, e81_46, e81_47, e81_51, e81_52, eq_false k0, eq_false k2, eq_true k5, c83, K0_v, K0_n, K0_x, K2_v, K2_n, K1_v, K1_n, K1_x, bI_s, bJ_s, bV_s, bS_s, l_10, l_00, bz_01, bz_0, bz_1, em_n, if_true, if_false, ite_not, ite_true, ite_false, not_true_eq_false, not_false_eq_true, or_true, true_or]
      · simp only [M_81, e81_0, e81_36, e81_41, e81_42, e81_46, e81_47, e81_51, e81_52, eq_false k0, eq_false k2, eq_false k5, K0_v, K0_n, K0_x, K2_v, K2_n, K1_v, K1_n, K1_x, bI_s, bJ_s, bV_s, bS_s, l_10, l_00, bz_01, bz_0, bz_1, em_n, if_true, if_false, ite_not, ite_true, ite_false, not_true_eq_false, not_false_eq_true, or_true, true_or]
theorem c_70x {p q : Int32} (h : ¬ (0 ≤ p ∧ p < nI (c 1))) : mm_M 70 [.ref 2, .int p, .int q] (CW σ tg ad c g) = some (.inr 2, mm_bmp (CW σ tg ad c g) 1 6) := by
  simp only [M_70, e70_0, aM_53, c_53x h, K0_v, K0_n, K0_x, K2_v, K2_n, K1_v, K1_n, K1_x, bI_s, bJ_s, bV_s, bS_s, l_10, l_00, bz_01, bz_0, bz_1, em_n, if_true, if_false, ite_not, ite_true, ite_false, not_true_eq_false, not_false_eq_true, or_true, true_or]
theorem c_70y {p q : Int32} (h : 0 ≤ p ∧ p < nI (c 1)) (hq : ¬ (0 ≤ q ∧ q < 3)) : mm_M 70 [.ref 2, .int p, .int q] (CW σ tg ad c g) = some (.inr 0, mm_bmp (CW σ tg ad c g) 1 6) := by
  simp only [M_70, e70_0, e70_5, e70_10, e70_13, aM_53, c_53 h, c_101, eq_false hq, K0_v, K0_n, K0_x, K2_v, K2_n, K1_v, K1_n, K1_x, bI_s, bJ_s, bV_s, bS_s, l_10, l_00, bz_01, bz_0, bz_1, em_n, if_true, if_false, ite_not, ite_true, ite_false, not_true_eq_false, not_false_eq_true, or_true, true_or]
noncomputable def ra (g : Nat → Nat → Int32) (N k : Nat) (q : Int32) : Int32 :=
  if q = 0 then rk g N k else if q = 1 then rn g N (h7 (g 33) k) (rk g N k) else if rk g N k = 0 then up (jn g (h7 (g 33) k)) N 0 0 else 0
theorem c_70 (w : WF tg ad c n) (hl : ∀ g, LO (CW σ tg ad c g)) (hv : VI g (c 0) (c 1)) (hu : LU g (c 1)) {k : Nat} (hk : k < c 1) {q : Int32} (hq : 0 ≤ q ∧ q < 3) : mm_M 70 [.ref 2, .int (nI k), .int q] (CW σ tg ad c g) = some (.inl (some (.int (ra (apc (c 1) (c 3) g) (c 0) k q))), CW σ tg ad c (apc (c 1) (c 3) g)) := by
  obtain ⟨L2, L3, L4⟩ := w.i hk
  have hc := w.1.2.1
  have H := fun g => Hd_4 (σ := σ) (c := c) (g := g) L4
  unfold ra
  by_cases q0 : q = 0
  · simp only [M_70, e70_0, e70_5, e70_10, e70_13, e70_23, e70_27, e70_31, e70_35, e70_38, e70_44, e70_72, e70_75, e70_82, e70_85, e70_86, e70_91, e70_96, e70_99, e70_102, e70_103, aM_53, c_53 (ir w hk), c_101, eq_true hq, aM_59, c_59 w hv hu, cf_1, cg_4 hk (by omega), ck_2 L2, aM_80, c_80 w (hl _) hk, eq_true q0, K0_v, K0_n, K0_x, K2_v, K2_n, K1_v, K1_n, K1_x, bI_s, bJ_s, bV_s, bS_s, l_10, l_00, bz_01, bz_0, bz_1, em_n, if_true, if_false, ite_not, ite_true, ite_false, not_true_eq_false, not_false_eq_true, or_true, true_or]
  · by_cases q1 : q = 1
    · simp only [M_70, e70_0, e70_5, e70_10, e70_13, e70_23, e70_27, e70_31, e70_35, e70_38, e70_44, e70_72, e70_75, e70_82, e70_85, e70_86, e70_91, e70_96, e70_99, e70_102, e70_103, aM_53, c_53 (ir w hk), c_101, eq_true hq, aM_59, c_59 w hv hu, cf_1, cg_4 hk (by omega), ck_2 L2, aM_80, c_80 w (hl _) hk, eq_false q0, eq_true q1, cr_2_4 L2, aM_81, c_81 w (hl _) hk, K0_v, K0_n, K0_x, K2_v, K2_n, K1_v, K1_n, K1_x, bI_s, bJ_s, bV_s, bS_s, l_10, l_00, bz_01, bz_0, bz_1, em_n, if_true, if_false, ite_not, ite_true, ite_false, not_true_eq_false, not_false_eq_true, or_true, true_or]
    · simp only [M_70, e70_0, e70_5, e70_10, e70_13, e70_23, e70_27, e70_31, e70_35, e70_38, e70_44, e70_72, e70_75, e70_82, e70_85, e70_86, e70_91, e70_96, e70_99, e70_102, e70_103, aM_53, c_53 (ir w hk), c_101, eq_true hq, aM_59, c_59 w hv hu, cf_1, cg_4 hk (by omega), ck_2 L2, aM_80, c_80 w (hl _) hk, eq_false q0, eq_false q1, cr_2_4 L2, aM_32, c_32 w.os (H _), K0_v, K0_n, K0_x, K2_v, K2_n, K1_v, K1_n, K1_x, bI_s, bJ_s, bV_s, bS_s, l_10, l_00, bz_01, bz_0, bz_1, em_n, if_true, if_false, ite_not, ite_true, ite_false, not_true_eq_false, not_false_eq_true, or_true, true_or]
      split <;> rfl
end
