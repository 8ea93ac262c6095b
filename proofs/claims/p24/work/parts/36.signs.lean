/-! LEVEL 2: the class's signs -/
def h7 (r : Nat → Int32) (i : Nat) : Nat → Int32 := fun j => r (7 * i + j)
def fo : Option Nat → Int32
  | some k => nI k
  | none => -1
def OS (tg : Nat → Nat × Nat) (ad : Nat × Nat → Nat) (c : Nat → Nat) : Prop := (∀ i, i < c 0 → LV tg ad 1 i) ∧ c 0 ≤ 30
section
variable {σ : mm_S} {tg : Nat → Nat × Nat} {ad : Nat × Nat → Nat} {c : Nat → Nat} {g : Nat → Nat → Int32} {b : Nat} {y : Nat → Int32}
theorem Hd_1 {i : Nat} (h : LV tg ad 1 i) : Hd (CW σ tg ad c g) (ad (1, i)) (h7 (g 12) i) := CW_tg h (by decide)
theorem Hd_3 {i : Nat} (h : LV tg ad 3 i) : Hd (CW σ tg ad c g) (ad (3, i)) (h7 (g 34) i) := CW_tg h (by decide)
theorem Hd_4 {i : Nat} (h : LV tg ad 4 i) : Hd (CW σ tg ad c g) (ad (4, i)) (h7 (g 33) i) := CW_tg h (by decide)
theorem c_33 (p : Int32) : mm_M 33 [.ref 2, .int p] (CW σ tg ad c g) = some (.inl (some (.int (bz (0 ≤ p ∧ p < nI (c 0))))), (CW σ tg ad c g)) := by
  simp only [M_33, e33_0, e33_5, e33_8, e33_11, cf_0, cz_3, c_101, K0_v, K0_n, K0_x, K2_v, K2_n, K1_v, K1_n, K1_x, bI_s, bJ_s, bV_s, bS_s, l_10, l_00, bz_01, bz_0, bz_1, em_n, if_true, if_false, ite_not, ite_true, ite_false, not_true_eq_false, not_false_eq_true, or_true, true_or]
theorem c_34 {p : Int32} (h : 0 ≤ p ∧ p < nI (c 0)) : mm_M 34 [.ref 2, .int p] (CW σ tg ad c g) = some (.inl none, (CW σ tg ad c g)) := by
  simp only [M_34, e34_0, e34_5, e34_8, e34_18, aM_33, c_33, eq_true h, K0_v, K0_n, K0_x, K2_v, K2_n, K1_v, K1_n, K1_x, bI_s, bJ_s, bV_s, bS_s, l_10, l_00, bz_01, bz_0, bz_1, em_n, if_true, if_false, ite_not, ite_true, ite_false, not_true_eq_false, not_false_eq_true, or_true, true_or]
theorem c_34x {p : Int32} (h : ¬ (0 ≤ p ∧ p < nI (c 0))) : mm_M 34 [.ref 2, .int p] (CW σ tg ad c g) = some (.inr 2, mm_bmp (CW σ tg ad c g) 1 6) := by
  simp only [M_34, e34_0, e34_5, e34_8, e34_18, aM_33, c_33, eq_false h, K0_v, K0_n, K0_x, K2_v, K2_n, K1_v, K1_n, K1_x, bI_s, bJ_s, bV_s, bS_s, l_10, l_00, bz_01, bz_0, bz_1, em_n, if_true, if_false, ite_not, ite_true, ite_false, not_true_eq_false, not_false_eq_true, or_true, true_or]
theorem c_35 {τ : mm_S} {p : Int32} (h : 0 ≤ p ∧ p < 3) : mm_M 35 [.int p] τ = some (.inl none, τ) := by
  simp only [M_35, e35_0, e35_5, e35_8, e35_18, c_101, eq_true h, K0_v, K0_n, K0_x, K2_v, K2_n, K1_v, K1_n, K1_x, bI_s, bJ_s, bV_s, bS_s, l_10, l_00, bz_01, bz_0, bz_1, em_n, if_true, if_false, ite_not, ite_true, ite_false, not_true_eq_false, not_false_eq_true, or_true, true_or]
theorem c_35x {τ : mm_S} {p : Int32} (h : ¬ (0 ≤ p ∧ p < 3)) : mm_M 35 [.int p] τ = some (.inr 0, mm_bmp τ 1 6) := by
  simp only [M_35, e35_0, e35_5, e35_8, e35_18, c_101, eq_false h, K0_v, K0_n, K0_x, K2_v, K2_n, K1_v, K1_n, K1_x, bI_s, bJ_s, bV_s, bS_s, l_10, l_00, bz_01, bz_0, bz_1, em_n, if_true, if_false, ite_not, ite_true, ite_false, not_true_eq_false, not_false_eq_true, or_true, true_or]
/-- a sign just like y -/
def je (g : Nat → Nat → Int32) (y : Nat → Int32) (k : Nat) : Prop := cu (h7 (g 12) k) y = 0 ∧ h7 (g 12) k 6 = y 6
noncomputable def jed (g : Nat → Nat → Int32) (y : Nat → Int32) : DecidablePred (je g y) := fun k => by unfold je; infer_instance
theorem l_31 (hS : OS tg ad c) (hb : Hd (CW σ tg ad c g) b y) : ∀ m k, k + m = c 0 → mm_L 31 2 [.ref 2, .ref b, .int (nI k)] [] (CW σ tg ad c g) = some (.inl (some (.int (fo (@fi (je g y) (jed g y) m k)))), (CW σ tg ad c g))
  | 0, k, h => by
    have hc := hS.2
    have q := eq_true (nI_le (a := c 0) (b := k) (by omega) (by omega))
    rw [e31_2]
    simp only [cf_0, cz_3, q, e31_0, e31_7, e31_10, e31_13, e31_17, e31_21, e31_24, e31_28, e31_31, e31_33, e31_39, K0_v, K0_n, K0_x, K2_v, K2_n, K1_v, K1_n, K1_x, bI_s, bJ_s, bV_s, bS_s, l_10, l_00, bz_01, bz_0, bz_1, em_n, if_true, if_false, ite_not, ite_true, ite_false, not_true_eq_false, not_false_eq_true, or_true, true_or, fi, fo]
  | m + 1, k, h => by
    have hc := hS.2
    have hk : k < c 0 := by omega
    have hL := hS.1 k hk
    have q := eq_false (nI_ge (a := k) (b := c 0) hk (by omega))
    rw [e31_2]
    simp only [cf_0, cz_3, q, cg_3 hk (by omega), ck_1 hL, hM_9 (Hd_1 hL), c_9 (Hd_1 hL) hb, e31_0, e31_7, e31_10, e31_13, e31_17, e31_21, e31_24, e31_28, e31_31, e31_33, e31_39, K0_v, K0_n, K0_x, K2_v, K2_n, K1_v, K1_n, K1_x, bI_s, bJ_s, bV_s, bS_s, l_10, l_00, bz_01, bz_0, bz_1, em_n, if_true, if_false, ite_not, ite_true, ite_false, not_true_eq_false, not_false_eq_true, or_true, true_or, nI_1]
    rw [l_31 hS hb m (k + 1) (by omega)]
    by_cases p : cu (h7 (g 12) k) y = 0 ∧ h7 (g 12) k 6 = y 6
    · have p' : je g y k := p
      rw [if_pos p]
      simp only [fi, if_pos p', fo]
    · have p' : ¬ je g y k := p
      rw [if_neg p]
      simp only [fi, if_neg p']
theorem c_31 (hS : OS tg ad c) (hb : Hd (CW σ tg ad c g) b y) : mm_M 31 [.ref 2, .ref b] (CW σ tg ad c g) = some (.inl (some (.int (fo (@fi (je g y) (jed g y) (c 0) 0)))), (CW σ tg ad c g)) := by
  rw [M_31, e31_0, nI_lit0, l_31 hS hb (c 0) 0 (by omega)]
noncomputable def jn (g : Nat → Nat → Int32) (y : Nat → Int32) (k : Nat) (n : Int32) : Int32 := if cu (h7 (g 12) k) y = 0 ∧ h7 (g 12) k 6 = y 6 then n + 1 else n
theorem l_32 (hS : OS tg ad c) (hb : Hd (CW σ tg ad c g) b y) : ∀ m k n, k + m = c 0 → mm_L 32 4 [.ref 2, .ref b, .int n, .int (nI k)] [] (CW σ tg ad c g) = some (.inl (some (.int (up (jn g y) m k n))), (CW σ tg ad c g))
  | 0, k, n, h => by
    have hc := hS.2
    have q := eq_true (nI_le (a := c 0) (b := k) (by omega) (by omega))
    rw [e32_4]
    simp only [cf_0, cz_3, q, e32_0, e32_9, e32_12, e32_15, e32_19, e32_23, e32_26, e32_30, e32_33, e32_36, e32_42, K0_v, K0_n, K0_x, K2_v, K2_n, K1_v, K1_n, K1_x, bI_s, bJ_s, bV_s, bS_s, l_10, l_00, bz_01, bz_0, bz_1, em_n, if_true, if_false, ite_not, ite_true, ite_false, not_true_eq_false, not_false_eq_true, or_true, true_or, up]
  | m + 1, k, n, h => by
    have hc := hS.2
    have hk : k < c 0 := by omega
    have hL := hS.1 k hk
    have q := eq_false (nI_ge (a := k) (b := c 0) hk (by omega))
    rw [e32_4]
    simp only [cf_0, cz_3, q, cg_3 hk (by omega), ck_1 hL, hM_9 (Hd_1 hL), c_9 (Hd_1 hL) hb, e32_0, e32_9, e32_12, e32_15, e32_19, e32_23, e32_26, e32_30, e32_33, e32_36, e32_42, K0_v, K0_n, K0_x, K2_v, K2_n, K1_v, K1_n, K1_x, bI_s, bJ_s, bV_s, bS_s, l_10, l_00, bz_01, bz_0, bz_1, em_n, if_true, if_false, ite_not, ite_true, ite_false, not_true_eq_false, not_false_eq_true, or_true, true_or, nI_1]
    rw [l_32 hS hb m (k + 1) n (by omega), l_32 hS hb m (k + 1) (n + 1) (by omega)]
    simp only [up, jn]
    split <;> rfl
theorem c_32 (hS : OS tg ad c) (hb : Hd (CW σ tg ad c g) b y) : mm_M 32 [.ref 2, .ref b] (CW σ tg ad c g) = some (.inl (some (.int (up (jn g y) (c 0) 0 0))), (CW σ tg ad c g)) := by
  rw [M_32, e32_0, nI_lit0, l_32 hS hb (c 0) 0 _ (by omega)]
theorem c_28 (hS : OS tg ad c) (s : Int32) {i j : Nat} (hi : i < c 0) (hj : j < c 0) : mm_M 28 [.ref 2, .int s, .int (nI i), .int (nI j)] (CW σ tg ad c g) = some (.inl (some (.int (bz (wr s (h7 (g 12) i) ≠ wr s (h7 (g 12) j))))), (CW σ tg ad c g)) := by
  have hc := hS.2
  have Li := hS.1 i hi
  have Lj := hS.1 j hj
  simp only [M_28, e28_0, e28_5, e28_9, e28_12, e28_15, e28_20, e28_24, e28_27, e28_30, e28_33, e28_37, e28_38, cf_0, cg_3 hi (by omega), cg_3 hj (by omega), ck_1 Li, ck_1 Lj, c_29 (Hd_1 Li), c_29 (Hd_1 Lj), K0_v, K0_n, K0_x, K2_v, K2_n, K1_v, K1_n, K1_x, bI_s, bJ_s, bV_s, bS_s, l_10, l_00, bz_01, bz_0, bz_1, em_n, if_true, if_false, ite_not, ite_true, ite_false, not_true_eq_false, not_false_eq_true, or_true, true_or]
  by_cases p : wr s (h7 (g 12) i) = wr s (h7 (g 12) j) <;> simp [p, bz]
-- written
theorem c_26 (hS : OS tg ad c) {i : Nat} (hi : i < c 0) {s : Int32} (hs : 0 ≤ s ∧ s < 3) : mm_M 26 [.ref 2, .int (nI i), .int s] (CW σ tg ad c g) = some (.inl (some (.int (wr s (h7 (g 12) i)))), (CW σ tg ad c g)) := by
  have hc := hS.2
  have Li := hS.1 i hi
  simp only [M_26, e26_0, e26_5, e26_9, e26_14, e26_18, e26_21, e26_24, aM_34, c_34 ⟨nI_pos' (by omega), nI_lt hi (by omega)⟩, c_35 hs, cf_0, cg_3 hi (by omega), ck_1 Li, c_29 (Hd_1 Li), K0_v, K0_n, K0_x, K2_v, K2_n, K1_v, K1_n, K1_x, bI_s, bJ_s, bV_s, bS_s, l_10, l_00, bz_01, bz_0, bz_1, em_n, if_true, if_false, ite_not, ite_true, ite_false, not_true_eq_false, not_false_eq_true, or_true, true_or]
theorem c_26x {p s : Int32} (h : ¬ (0 ≤ p ∧ p < nI (c 0))) : mm_M 26 [.ref 2, .int p, .int s] (CW σ tg ad c g) = some (.inr 2, mm_bmp (CW σ tg ad c g) 1 6) := by
  simp only [M_26, e26_0, e26_5, e26_9, e26_14, e26_18, e26_21, e26_24, aM_34, c_34x h, K0_v, K0_n, K0_x, K2_v, K2_n, K1_v, K1_n, K1_x, bI_s, bJ_s, bV_s, bS_s, l_10, l_00, bz_01, bz_0, bz_1, em_n, if_true, if_false, ite_not, ite_true, ite_false, not_true_eq_false, not_false_eq_true, or_true, true_or]
theorem c_26y {p s : Int32} (h : (0 ≤ p ∧ p < nI (c 0))) (hs : ¬ (0 ≤ s ∧ s < 3)) : mm_M 26 [.ref 2, .int p, .int s] (CW σ tg ad c g) = some (.inr 0, mm_bmp (CW σ tg ad c g) 1 6) := by
  simp only [M_26, e26_0, e26_5, e26_9, e26_14, e26_18, e26_21, e26_24, aM_34, c_34 h, c_35x hs, K0_v, K0_n, K0_x, K2_v, K2_n, K1_v, K1_n, K1_x, bI_s, bJ_s, bV_s, bS_s, l_10, l_00, bz_01, bz_0, bz_1, em_n, if_true, if_false, ite_not, ite_true, ite_false, not_true_eq_false, not_false_eq_true, or_true, true_or]
-- nearest
def nb (g : Nat → Nat → Int32) (P : Nat) (k : Nat) (x : Int32 × Int32) : Int32 × Int32 := if k = P then x else if x.1 = -1 ∨ cu (h7 (g 12) P) (h7 (g 12) k) < x.2 then (nI k, cu (h7 (g 12) P) (h7 (g 12) k)) else x
theorem l_25 (hS : OS tg ad c) (q : Int32) {P : Nat} (hP : P < c 0) : ∀ m k (x : Int32 × Int32) (l7 : Value), k + m = c 0 → mm_L 25 44 [.ref 2, .int (nI P), .int q, .ref (ad (1, P)), .int x.1, .int x.2, .int (nI k), l7] [] (CW σ tg ad c g) = some (.inl (some (.int (if q = 0 then (up (nb g P) m k x).1 else (up (nb g P) m k x).2))), (CW σ tg ad c g))
  | 0, k, x, l7, h => by
    have hc := hS.2
    have q := eq_true (nI_le (a := c 0) (b := k) (by omega) (by omega))
    rw [e25_44]
    simp only [cf_0, cz_3, q, e25_0, e25_5, e25_10, e25_13, e25_23, e25_27, e25_31, e25_34, e25_50, e25_53, e25_56, e25_62, e25_65, e25_70, e25_75, e25_78, e25_81, e25_89, e25_96, e25_104, e25_110, e25_114, e25_119, e25_121, K0_v, K0_n, K0_x, K2_v, K2_n, K1_v, K1_n, K1_x, bI_s, bJ_s, bV_s, bS_s, l_10, l_00, bz_01, bz_0, bz_1, em_n, if_true, if_false, ite_not, ite_true, ite_false, not_true_eq_false, not_false_eq_true, or_true, true_or, up]
    split <;> rfl
  | m + 1, k, x, l7, h => by
    have hc := hS.2
    have hk : k < c 0 := by omega
    have hL := hS.1 k hk
    have hLP := hS.1 P hP
    have q := eq_false (nI_ge (a := k) (b := c 0) hk (by omega))
    rw [e25_44]
    by_cases e : k = P
    · have e2 := eq_true ((nI_eq (a := k) (b := P) (by omega) (by omega)).mpr e)
      simp only [cf_0, cz_3, q, e2, e25_0, e25_5, e25_10, e25_13, e25_23, e25_27, e25_31, e25_34, e25_50, e25_53, e25_56, e25_62, e25_65, e25_70, e25_75, e25_78, e25_81, e25_89, e25_96, e25_104, e25_110, e25_114, e25_119, e25_121, K0_v, K0_n, K0_x, K2_v, K2_n, K1_v, K1_n, K1_x, bI_s, bJ_s, bV_s, bS_s, l_10, l_00, bz_01, bz_0, bz_1, em_n, if_true, if_false, ite_not, ite_true, ite_false, not_true_eq_false, not_false_eq_true, or_true, true_or, nI_1]
      rw [l_25 hS _ hP m (k + 1) x l7 (by omega)]
      simp only [up, nb, if_pos e]
    · have e2 := eq_false (fun z => e ((nI_eq (a := k) (b := P) (by omega) (by omega)).mp z))
      simp only [cf_0, cz_3, q, e2, cg_3 hk (by omega), ck_1 hL, hM_8 (Hd_1 hLP), c_8 (Hd_1 hLP) (Hd_1 hL), e25_0, e25_5, e25_10, e25_13, e25_23, e25_27, e25_31, e25_34, e25_50, e25_53, e25_56, e25_62, e25_65, e25_70, e25_75, e25_78, e25_81, e25_89, e25_96, e25_104, e25_110, e25_114, e25_119, e25_121, K0_v, K0_n, K0_x, K2_v, K2_n, K1_v, K1_n, K1_x, bI_s, bJ_s, bV_s, bS_s, l_10, l_00, bz_01, bz_0, bz_1, em_n, if_true, if_false, ite_not, ite_true, ite_false, not_true_eq_false, not_false_eq_true, or_true, true_or, nI_1]
      rw [l_25 hS _ hP m (k + 1) x _ (by omega), l_25 hS _ hP m (k + 1) (nI k, cu (h7 (g 12) P) (h7 (g 12) k)) _ (by omega)]
      simp only [up, nb, if_neg e]
      by_cases p1 : x.1 = -1
      · simp only [eq_true p1, true_or, K0_v, K0_n, K0_x, K2_v, K2_n, K1_v, K1_n, K1_x, bI_s, bJ_s, bV_s, bS_s, l_10, l_00, bz_01, bz_0, bz_1, em_n, if_true, if_false, ite_not, ite_true, ite_false, not_true_eq_false, not_false_eq_true, or_true, true_or]
      · by_cases p2 : x.2 ≤ cu (h7 (g 12) P) (h7 (g 12) k)
        · simp only [eq_false p1, false_or, eq_true p2, eq_false (Int32.not_lt.mpr p2), K0_v, K0_n, K0_x, K2_v, K2_n, K1_v, K1_n, K1_x, bI_s, bJ_s, bV_s, bS_s, l_10, l_00, bz_01, bz_0, bz_1, em_n, if_true, if_false, ite_not, ite_true, ite_false, not_true_eq_false, not_false_eq_true, or_true, true_or]
        · simp only [eq_false p1, false_or, eq_false p2, eq_true (Int32.not_le.mp p2), K0_v, K0_n, K0_x, K2_v, K2_n, K1_v, K1_n, K1_x, bI_s, bJ_s, bV_s, bS_s, l_10, l_00, bz_01, bz_0, bz_1, em_n, if_true, if_false, ite_not, ite_true, ite_false, not_true_eq_false, not_false_eq_true, or_true, true_or]
theorem c_25 (hS : OS tg ad c) {P : Nat} (hP : P < c 0) {q : Int32} (hq : 0 ≤ q ∧ q < 2) : mm_M 25 [.ref 2, .int (nI P), .int q] (CW σ tg ad c g) = some (.inl (some (.int (if q = 0 then (up (nb g P) (c 0) 0 (-1, -1)).1 else (up (nb g P) (c 0) 0 (-1, -1)).2))), (CW σ tg ad c g)) := by
  have hc := hS.2
  have hLP := hS.1 P hP
  simp only [M_25, e25_0, e25_5, e25_10, e25_13, e25_23, e25_27, e25_31, e25_34, e25_50, e25_53, e25_56, e25_62, e25_65, e25_70, e25_75, e25_78, e25_81, e25_89, e25_96, e25_104, e25_110, e25_114, e25_119, e25_121, aM_34, c_34 ⟨nI_pos' (by omega), nI_lt hP (by omega)⟩, c_101, eq_true hq, cf_0, cg_3 hP (by omega), ck_1 hLP, K0_v, K0_n, K0_x, K2_v, K2_n, K1_v, K1_n, K1_x, bI_s, bJ_s, bV_s, bS_s, l_10, l_00, bz_01, bz_0, bz_1, em_n, if_true, if_false, ite_not, ite_true, ite_false, not_true_eq_false, not_false_eq_true, or_true, true_or]
  have l := l_25 (σ := σ) (g := g) hS q hP (c 0) 0 (-1, -1) mm_un (by omega)
  rw [nI_0] at l
  rw [l]
theorem c_25x {p q : Int32} (h : ¬ (0 ≤ p ∧ p < nI (c 0))) : mm_M 25 [.ref 2, .int p, .int q] (CW σ tg ad c g) = some (.inr 2, mm_bmp (CW σ tg ad c g) 1 6) := by
  simp only [M_25, e25_0, e25_5, e25_10, e25_13, e25_23, e25_27, e25_31, e25_34, e25_50, e25_53, e25_56, e25_62, e25_65, e25_70, e25_75, e25_78, e25_81, e25_89, e25_96, e25_104, e25_110, e25_114, e25_119, e25_121, aM_34, c_34x h, K0_v, K0_n, K0_x, K2_v, K2_n, K1_v, K1_n, K1_x, bI_s, bJ_s, bV_s, bS_s, l_10, l_00, bz_01, bz_0, bz_1, em_n, if_true, if_false, ite_not, ite_true, ite_false, not_true_eq_false, not_false_eq_true, or_true, true_or]
theorem c_25y {p q : Int32} (h : (0 ≤ p ∧ p < nI (c 0))) (hs : ¬ (0 ≤ q ∧ q < 2)) : mm_M 25 [.ref 2, .int p, .int q] (CW σ tg ad c g) = some (.inr 0, mm_bmp (CW σ tg ad c g) 1 6) := by
  simp only [M_25, e25_0, e25_5, e25_10, e25_13, e25_23, e25_27, e25_31, e25_34, e25_50, e25_53, e25_56, e25_62, e25_65, e25_70, e25_75, e25_78, e25_81, e25_89, e25_96, e25_104, e25_110, e25_114, e25_119, e25_121, aM_34, c_34 h, c_101, eq_false hs, K0_v, K0_n, K0_x, K2_v, K2_n, K1_v, K1_n, K1_x, bI_s, bJ_s, bV_s, bS_s, l_10, l_00, bz_01, bz_0, bz_1, em_n, if_true, if_false, ite_not, ite_true, ite_false, not_true_eq_false, not_false_eq_true, or_true, true_or]
-- loses
noncomputable def lp (g : Nat → Nat → Int32) (s o : Int32) (i : Nat) (k : Nat) (n : Int32) : Int32 := if wr s (h7 (g 12) i) ≠ wr s (h7 (g 12) k) ∧ wr o (h7 (g 12) i) = wr o (h7 (g 12) k) then n + 1 else n
theorem l_27 (hS : OS tg ad c) (s o : Int32) {i : Nat} (hi : i < c 0) : ∀ m k n, k + m = c 0 → mm_L 27 31 [.ref 2, .int s, .int o, .int n, .int (nI i), .int (nI k)] [] (CW σ tg ad c g) = mm_L 27 13 [.ref 2, .int s, .int o, .int (up (lp g s o i) m k n), .int (nI (i + 1)), .int (nI (c 0))] [] (CW σ tg ad c g)
  | 0, k, n, h => by
    have hc := hS.2
    have e : k = c 0 := by omega
    subst e
    have q := eq_true (nI_le (a := c 0) (b := c 0) (by omega) (by omega))
    rw [e27_31]
    simp only [cf_0, cz_3, q, e27_37, e27_40, e27_76, K0_v, K0_n, K0_x, K2_v, K2_n, K1_v, K1_n, K1_x, bI_s, bJ_s, bV_s, bS_s, l_10, l_00, bz_01, bz_0, bz_1, em_n, if_true, if_false, ite_not, ite_true, ite_false, not_true_eq_false, not_false_eq_true, or_true, true_or, up, nI_1]
  | m + 1, k, n, h => by
    have hc := hS.2
    have hk : k < c 0 := by omega
    have q := eq_false (nI_ge (a := k) (b := c 0) hk (by omega))
    rw [e27_31]
    simp only [cf_0, cz_3, q, aM_28, c_28 hS _ hi hk, e27_0, e27_4, e27_8, e27_19, e27_22, e27_25, e27_37, e27_40, e27_43, e27_52, e27_55, e27_64, e27_67, e27_70, e27_76, e27_82, K0_v, K0_n, K0_x, K2_v, K2_n, K1_v, K1_n, K1_x, bI_s, bJ_s, bV_s, bS_s, l_10, l_00, bz_01, bz_0, bz_1, em_n, if_true, if_false, ite_not, ite_true, ite_false, not_true_eq_false, not_false_eq_true, or_true, true_or, nI_1]
    rw [l_27 hS s o hi m (k + 1) n (by omega), l_27 hS s o hi m (k + 1) (n + 1) (by omega)]
    simp only [up, lp, ne_eq]
    by_cases p1 : wr s (h7 (g 12) i) = wr s (h7 (g 12) k)
    · simp only [eq_true p1, K0_v, K0_n, K0_x, K2_v, K2_n, K1_v, K1_n, K1_x, bI_s, bJ_s, bV_s, bS_s, l_10, l_00, bz_01, bz_0, bz_1, em_n, if_true, if_false, ite_not, ite_true, ite_false, not_true_eq_false, not_false_eq_true, or_true, true_or, false_and]
    · by_cases p2 : wr o (h7 (g 12) i) = wr o (h7 (g 12) k)
      · simp only [eq_false p1, eq_true p2, K0_v, K0_n, K0_x, K2_v, K2_n, K1_v, K1_n, K1_x, bI_s, bJ_s, bV_s, bS_s, l_10, l_00, bz_01, bz_0, bz_1, em_n, if_true, if_false, ite_not, ite_true, ite_false, not_true_eq_false, not_false_eq_true, or_true, true_or, true_and]
      · simp only [eq_false p1, eq_false p2, K0_v, K0_n, K0_x, K2_v, K2_n, K1_v, K1_n, K1_x, bI_s, bJ_s, bV_s, bS_s, l_10, l_00, bz_01, bz_0, bz_1, em_n, if_true, if_false, ite_not, ite_true, ite_false, not_true_eq_false, not_false_eq_true, or_true, true_or, true_and]
noncomputable def lq (g : Nat → Nat → Int32) (N : Nat) (s o : Int32) (i : Nat) (n : Int32) : Int32 := up (lp g s o i) (N - (i + 1)) (i + 1) n
theorem l_27o (hS : OS tg ad c) (s o : Int32) : ∀ m i n (l5 : Value), i + m = c 0 → mm_L 27 13 [.ref 2, .int s, .int o, .int n, .int (nI i), l5] [] (CW σ tg ad c g) = some (.inl (some (.int (up (lq g (c 0) s o) m i n))), (CW σ tg ad c g))
  | 0, i, n, l5, h => by
    have hc := hS.2
    have q := eq_true (nI_le (a := c 0) (b := i) (by omega) (by omega))
    rw [e27_13]
    simp only [cf_0, cz_3, q, e27_0, e27_4, e27_8, e27_19, e27_22, e27_25, e27_37, e27_40, e27_43, e27_52, e27_55, e27_64, e27_67, e27_70, e27_76, e27_82, K0_v, K0_n, K0_x, K2_v, K2_n, K1_v, K1_n, K1_x, bI_s, bJ_s, bV_s, bS_s, l_10, l_00, bz_01, bz_0, bz_1, em_n, if_true, if_false, ite_not, ite_true, ite_false, not_true_eq_false, not_false_eq_true, or_true, true_or, up]
  | m + 1, i, n, l5, h => by
    have hc := hS.2
    have hi : i < c 0 := by omega
    have q := eq_false (nI_ge (a := i) (b := c 0) hi (by omega))
    rw [e27_13]
    simp only [cf_0, cz_3, q, e27_19, e27_22, e27_25, K0_v, K0_n, K0_x, K2_v, K2_n, K1_v, K1_n, K1_x, bI_s, bJ_s, bV_s, bS_s, l_10, l_00, bz_01, bz_0, bz_1, em_n, if_true, if_false, ite_not, ite_true, ite_false, not_true_eq_false, not_false_eq_true, or_true, true_or, nI_1]
    rw [l_27 hS s o hi (c 0 - (i + 1)) (i + 1) n (by omega), l_27o hS s o m (i + 1) _ _ (by omega)]
    rfl
theorem c_27 (hS : OS tg ad c) {s o : Int32} (hs : 0 ≤ s ∧ s < 3) (ho : 0 ≤ o ∧ o < 3) : mm_M 27 [.ref 2, .int s, .int o] (CW σ tg ad c g) = some (.inl (some (.int (up (lq g (c 0) s o) (c 0) 0 0))), (CW σ tg ad c g)) := by
  simp only [M_27, e27_0, e27_4, e27_8, c_35 hs, c_35 ho, K0_v, K0_n, K0_x, K2_v, K2_n, K1_v, K1_n, K1_x, bI_s, bJ_s, bV_s, bS_s, l_10, l_00, bz_01, bz_0, bz_1, em_n, if_true, if_false, ite_not, ite_true, ite_false, not_true_eq_false, not_false_eq_true, or_true, true_or]
  rw [nI_lit0, l_27o hS s o (c 0) 0 _ _ (by omega)]
theorem c_27x {s o : Int32} (hs : ¬ (0 ≤ s ∧ s < 3)) : mm_M 27 [.ref 2, .int s, .int o] (CW σ tg ad c g) = some (.inr 0, mm_bmp (CW σ tg ad c g) 1 6) := by
  simp only [M_27, e27_0, e27_4, e27_8, c_35x hs, K0_v, K0_n, K0_x, K2_v, K2_n, K1_v, K1_n, K1_x, bI_s, bJ_s, bV_s, bS_s, l_10, l_00, bz_01, bz_0, bz_1, em_n, if_true, if_false, ite_not, ite_true, ite_false, not_true_eq_false, not_false_eq_true, or_true, true_or]
theorem c_27y {s o : Int32} (hs : (0 ≤ s ∧ s < 3)) (ho : ¬ (0 ≤ o ∧ o < 3)) : mm_M 27 [.ref 2, .int s, .int o] (CW σ tg ad c g) = some (.inr 0, mm_bmp (CW σ tg ad c g) 1 6) := by
  simp only [M_27, e27_0, e27_4, e27_8, c_35 hs, c_35x ho, K0_v, K0_n, K0_x, K2_v, K2_n, K1_v, K1_n, K1_x, bI_s, bJ_s, bV_s, bS_s, l_10, l_00, bz_01, bz_0, bz_1, em_n, if_true, if_false, ite_not, ite_true, ite_false, not_true_eq_false, not_false_eq_true, or_true, true_or]
end
