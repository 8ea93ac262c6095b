/-! LEVEL 2: the class's clips are read -/
def ckm (g : Nat → Nat → Int32) (i : Nat) (a b : Int32) (m : Nat) (n : Int32) : Int32 := if g 40 (1000 * i + m) = a ∧ g 41 (1000 * i + m) = b then n + 1 else n
def hm (g : Nat → Nat → Int32) (i : Nat) (a b p q : Int32) (m : Nat) : Prop := (g 40 (1000 * i + m) = a ∧ g 41 (1000 * i + m) = b) ∧ g 42 (1000 * i + m) < q ∧ p < g 43 (1000 * i + m)
noncomputable def hmd (g : Nat → Nat → Int32) (i : Nat) (a b p q : Int32) : DecidablePred (hm g i a b p q) := fun m => by unfold hm; infer_instance
def ob : Option Nat → Int32
  | none => 0
  | some _ => 1
def gv (g : Nat → Nat → Int32) : Nat → Int32
  | 0 => 0
  | k + 1 => g 23 k
/-- the marks of clips below C are within the ticks -/
def MV (g : Nat → Nat → Int32) (c : Nat → Nat) : Prop := ∀ i, i < c 4 → ∀ m, m < c (100 + i) → ∃ p q, g 42 (1000 * i + m) = nI p ∧ g 43 (1000 * i + m) = nI q ∧ p < q ∧ q ≤ 200
def AR (A r : Nat) : Prop := (A = 9 ∧ r = 36) ∨ (A = 10 ∧ r = 37)
section
variable {σ : mm_S} {tg : Nat → Nat × Nat} {ad : Nat × Nat → Nat} {c : Nat → Nat} {g : Nat → Nat → Int32} {n : Nat}
theorem kM_16 {i : Nat} (h : LV tg ad 10 i) {As : List Value} : mm_Mo 16 (ad (10, i)) As (CW σ tg ad c g) = mm_M 16 (.ref (ad (10, i)) :: As) (CW σ tg ad c g) := if_pos (by unfold mm_rc; rw [cx_10 h]; rfl)
theorem kM_17 {i : Nat} (h : LV tg ad 10 i) {As : List Value} : mm_Mo 17 (ad (10, i)) As (CW σ tg ad c g) = mm_M 17 (.ref (ad (10, i)) :: As) (CW σ tg ad c g) := if_pos (by unfold mm_rc; rw [cx_10 h]; rfl)
theorem kM_18 {i : Nat} (h : LV tg ad 10 i) {As : List Value} : mm_Mo 18 (ad (10, i)) As (CW σ tg ad c g) = mm_M 18 (.ref (ad (10, i)) :: As) (CW σ tg ad c g) := if_pos (by unfold mm_rc; rw [cx_10 h]; rfl)
theorem pM_1 {i : Nat} (h : LV tg ad 8 i) {As : List Value} : mm_Mo 1 (ad (8, i)) As (CW σ tg ad c g) = mm_M 1 (.ref (ad (8, i)) :: As) (CW σ tg ad c g) := if_pos (by unfold mm_rc; rw [cx_8 h]; rfl)
theorem pM_2 {i : Nat} (h : LV tg ad 8 i) {As : List Value} : mm_Mo 2 (ad (8, i)) As (CW σ tg ad c g) = mm_M 2 (.ref (ad (8, i)) :: As) (CW σ tg ad c g) := if_pos (by unfold mm_rc; rw [cx_8 h]; rfl)
theorem pM_3 {i : Nat} (h : LV tg ad 8 i) {As : List Value} : mm_Mo 3 (ad (8, i)) As (CW σ tg ad c g) = mm_M 3 (.ref (ad (8, i)) :: As) (CW σ tg ad c g) := if_pos (by unfold mm_rc; rw [cx_8 h]; rfl)
theorem pM_4 {i : Nat} (h : LV tg ad 8 i) {As : List Value} : mm_Mo 4 (ad (8, i)) As (CW σ tg ad c g) = mm_M 4 (.ref (ad (8, i)) :: As) (CW σ tg ad c g) := if_pos (by unfold mm_rc; rw [cx_8 h]; rfl)
theorem pM_5 {i : Nat} (h : LV tg ad 8 i) {As : List Value} : mm_Mo 5 (ad (8, i)) As (CW σ tg ad c g) = mm_M 5 (.ref (ad (8, i)) :: As) (CW σ tg ad c g) := if_pos (by unfold mm_rc; rw [cx_8 h]; rfl)
theorem c_16 {j : Nat} (h : LV tg ad 10 j) (a b : Int32) : mm_M 16 [.ref (ad (10, j)), .int a, .int b] (CW σ tg ad c g) = some (.inl (some (.int (bz (g 40 j = a ∧ g 41 j = b)))), (CW σ tg ad c g)) := by
  by_cases h1 : g 40 j = a
  · by_cases h2 : g 41 j = b
    · rw [bz_t ⟨h1, h2⟩]
      simp only [M_16, e16_0, e16_4, e16_8, e16_12, e16_16, e16_20, e16_21, ci_10_0 h, ci_10_1 h, eq_true h1, eq_true h2, K0_v, K0_n, K0_x, K2_v, K2_n, K1_v, K1_n, K1_x, bI_s, bJ_s, bV_s, bS_s, l_10, l_00, bz_01, bz_0, bz_1, em_n, if_true, if_false, ite_not, ite_true, ite_false, not_true_eq_false, not_false_eq_true, or_true, true_or]
    · rw [bz_f (fun z => h2 z.2)]
      simp only [M_16, e16_0, e16_4, e16_8, e16_12, e16_16, e16_20, e16_21, ci_10_0 h, ci_10_1 h, eq_true h1, eq_false h2, K0_v, K0_n, K0_x, K2_v, K2_n, K1_v, K1_n, K1_x, bI_s, bJ_s, bV_s, bS_s, l_10, l_00, bz_01, bz_0, bz_1, em_n, if_true, if_false, ite_not, ite_true, ite_false, not_true_eq_false, not_false_eq_true, or_true, true_or]
  · rw [bz_f (fun z => h1 z.1)]
    simp only [M_16, e16_0, e16_4, e16_8, e16_12, e16_16, e16_20, e16_21, ci_10_0 h, ci_10_1 h, eq_false h1, K0_v, K0_n, K0_x, K2_v, K2_n, K1_v, K1_n, K1_x, bI_s, bJ_s, bV_s, bS_s, l_10, l_00, bz_01, bz_0, bz_1, em_n, if_true, if_false, ite_not, ite_true, ite_false, not_true_eq_false, not_false_eq_true, or_true, true_or]
theorem l_3 (w : WF tg ad c n) {i : Nat} (hi : i < c 4) (a b : Int32) : ∀ m k (x : Int32), k + m = c (100 + i) → mm_L 3 5 [.ref (ad (8, i)), .int a, .int b, .int x, .int (nI k)] [] (CW σ tg ad c g) = some (.inl (some (.int (up (ckm g i a b) m k x))), (CW σ tg ad c g))
  | 0, k, x, h => by
    obtain ⟨L8, L9⟩ := w.cl hi
    have bb := (w.1.2.2.2.2.2 i hi).1
    have q := eq_true (nI_le (a := c (100 + i)) (b := k) (by omega) (by omega))
    rw [e3_5]
    simp only [cr_8_4 L8, cz_9 L9, q, e3_11, e3_14, e3_46, K0_v, K0_n, K0_x, K2_v, K2_n, K1_v, K1_n, K1_x, bI_s, bJ_s, bV_s, bS_s, l_10, l_00, bz_01, bz_0, bz_1, em_n, if_true, if_false, ite_not, ite_true, ite_false, not_true_eq_false, not_false_eq_true, or_true, true_or, up]
  | m + 1, k, x, h => by
    obtain ⟨L8, L9⟩ := w.cl hi
    have bb := (w.1.2.2.2.2.2 i hi).1
    have hk : k < c (100 + i) := by omega
    have L10 := w.m hi hk
    have q := eq_false (nI_ge (a := k) (b := c (100 + i)) hk (by omega))
    have ih := fun x => l_3 w hi a b m (k + 1) x (by omega)
    rw [e3_5]
    show _ = some (Sum.inl (some (Value.int (up (ckm g i a b) m (k + 1) (ckm g i a b k x)))), _)
    rw [← ih]
    unfold ckm
    by_cases h1 : g 40 (1000 * i + k) = a ∧ g 41 (1000 * i + k) = b
    · simp only [cr_8_4 L8, cz_9 L9, q, e3_0, e3_11, e3_14, e3_17, e3_21, e3_26, e3_29, e3_34, e3_37, e3_40, e3_46, cg_9 L9 hk (by omega), ck_10 L10, kM_16 L10, c_16 L10, eq_true h1, one_ne, nI_1, K0_v, K0_n, K0_x, K2_v, K2_n, K1_v, K1_n, K1_x, bI_s, bJ_s, bV_s, bS_s, l_10, l_00, bz_01, bz_0, bz_1, em_n, if_true, if_false, ite_not, ite_true, ite_false, not_true_eq_false, not_false_eq_true, or_true, true_or]
    · simp only [cr_8_4 L8, cz_9 L9, q, e3_0, e3_11, e3_14, e3_17, e3_21, e3_26, e3_29, e3_34, e3_37, e3_40, e3_46, cg_9 L9 hk (by omega), ck_10 L10, kM_16 L10, c_16 L10, eq_false h1, nI_1, K0_v, K0_n, K0_x, K2_v, K2_n, K1_v, K1_n, K1_x, bI_s, bJ_s, bV_s, bS_s, l_10, l_00, bz_01, bz_0, bz_1, em_n, if_true, if_false, ite_not, ite_true, ite_false, not_true_eq_false, not_false_eq_true, or_true, true_or]
theorem c_3 (w : WF tg ad c n) {i : Nat} (hi : i < c 4) (a b : Int32) : mm_M 3 [.ref (ad (8, i)), .int a, .int b] (CW σ tg ad c g) = some (.inl (some (.int (up (ckm g i a b) (c (100 + i)) 0 0))), (CW σ tg ad c g)) := by
  have l := l_3 (g := g) (σ := σ) w hi a b (c (100 + i)) 0 0 (by omega)
  rw [nI_0] at l
  rw [M_3, e3_0]
  exact l
theorem l_4 (w : WF tg ad c n) {i : Nat} (hi : i < c 4) (a b p q : Int32) : ∀ m k (x : Value), k + m = c (100 + i) → mm_L 4 3 [.ref (ad (8, i)), .int a, .int b, .int p, .int q, .int (nI k), x] [] (CW σ tg ad c g) = some (.inl (some (.int (ob (@fi (hm g i a b p q) (hmd g i a b p q) m k)))), (CW σ tg ad c g))
  | 0, k, x, h => by
    obtain ⟨L8, L9⟩ := w.cl hi
    have bb := (w.1.2.2.2.2.2 i hi).1
    have q := eq_true (nI_le (a := c (100 + i)) (b := k) (by omega) (by omega))
    rw [e4_3]
    simp only [cr_8_4 L8, cz_9 L9, q, e4_9, e4_12, e4_66, K0_v, K0_n, K0_x, K2_v, K2_n, K1_v, K1_n, K1_x, bI_s, bJ_s, bV_s, bS_s, l_10, l_00, bz_01, bz_0, bz_1, em_n, if_true, if_false, ite_not, ite_true, ite_false, not_true_eq_false, not_false_eq_true, or_true, true_or, fi, ob]
  | m + 1, k, x, h => by
    obtain ⟨L8, L9⟩ := w.cl hi
    have bb := (w.1.2.2.2.2.2 i hi).1
    have hk : k < c (100 + i) := by omega
    have L10 := w.m hi hk
    have z := eq_false (nI_ge (a := k) (b := c (100 + i)) hk (by omega))
    have ih := fun x => l_4 w hi a b p q m (k + 1) x (by omega)
    rw [e4_3]
    unfold fi
    by_cases h1 : g 40 (1000 * i + k) = a ∧ g 41 (1000 * i + k) = b
    · by_cases h2 : g 42 (1000 * i + k) < q
      · by_cases h3 : p < g 43 (1000 * i + k)
        · rw [if_pd (show hm g i a b p q k from ⟨h1, h2, h3⟩)]
          simp only [cr_8_4 L8, cz_9 L9, z, e4_0, e4_9, e4_12, e4_15, e4_19, e4_24, e4_27, e4_36, e4_39, e4_44, e4_49, e4_55, e4_58, e4_60, e4_66, cg_9 L9 hk (by omega), ck_10 L10, kM_16 L10, c_16 L10, eq_true h1, ci_10_2 L10, ci_10_3 L10, eq_false (nle_of_lt h2), eq_false (nle_of_lt h3), one_ne, nI_1, K0_v, K0_n, K0_x, K2_v, K2_n, K1_v, K1_n, K1_x, bI_s, bJ_s, bV_s, bS_s, l_10, l_00, bz_01, bz_0, bz_1, em_n, if_true, if_false, ite_not, ite_true, ite_false, not_true_eq_false, not_false_eq_true, or_true, true_or, ob]
        · rw [if_nd (fun y : hm g i a b p q k => h3 y.2.2)]
          simp only [cr_8_4 L8, cz_9 L9, z, e4_0, e4_9, e4_12, e4_15, e4_19, e4_24, e4_27, e4_36, e4_39, e4_44, e4_49, e4_55, e4_58, e4_60, e4_66, cg_9 L9 hk (by omega), ck_10 L10, kM_16 L10, c_16 L10, eq_true h1, ci_10_2 L10, ci_10_3 L10, eq_false (nle_of_lt h2), eq_true (Int32.not_lt.mp h3), one_ne, nI_1, ih, K0_v, K0_n, K0_x, K2_v, K2_n, K1_v, K1_n, K1_x, bI_s, bJ_s, bV_s, bS_s, l_10, l_00, bz_01, bz_0, bz_1, em_n, if_true, if_false, ite_not, ite_true, ite_false, not_true_eq_false, not_false_eq_true, or_true, true_or]
      · rw [if_nd (fun y : hm g i a b p q k => h2 y.2.1)]
        simp only [cr_8_4 L8, cz_9 L9, z, e4_0, e4_9, e4_12, e4_15, e4_19, e4_24, e4_27, e4_36, e4_39, e4_44, e4_49, e4_55, e4_58, e4_60, e4_66, cg_9 L9 hk (by omega), ck_10 L10, kM_16 L10, c_16 L10, eq_true h1, ci_10_2 L10, eq_true (Int32.not_lt.mp h2), one_ne, nI_1, ih, K0_v, K0_n, K0_x, K2_v, K2_n, K1_v, K1_n, K1_x, bI_s, bJ_s, bV_s, bS_s, l_10, l_00, bz_01, bz_0, bz_1, em_n, if_true, if_false, ite_not, ite_true, ite_false, not_true_eq_false, not_false_eq_true, or_true, true_or]
    · rw [if_nd (fun y : hm g i a b p q k => h1 y.1)]
      simp only [cr_8_4 L8, cz_9 L9, z, e4_0, e4_9, e4_12, e4_15, e4_19, e4_24, e4_27, e4_36, e4_39, e4_44, e4_49, e4_55, e4_58, e4_60, e4_66, cg_9 L9 hk (by omega), ck_10 L10, kM_16 L10, c_16 L10, eq_false h1, nI_1, ih, K0_v, K0_n, K0_x, K2_v, K2_n, K1_v, K1_n, K1_x, bI_s, bJ_s, bV_s, bS_s, l_10, l_00, bz_01, bz_0, bz_1, em_n, if_true, if_false, ite_not, ite_true, ite_false, not_true_eq_false, not_false_eq_true, or_true, true_or]
theorem c_4 (w : WF tg ad c n) {i : Nat} (hi : i < c 4) (a b p q : Int32) : mm_M 4 [.ref (ad (8, i)), .int a, .int b, .int p, .int q] (CW σ tg ad c g) = some (.inl (some (.int (ob (@fi (hm g i a b p q) (hmd g i a b p q) (c (100 + i)) 0)))), (CW σ tg ad c g)) := by
  have l := l_4 (g := g) (σ := σ) w hi a b p q (c (100 + i)) 0 mm_un (by omega)
  rw [nI_0] at l
  rw [M_4, e4_0]
  exact l
theorem c_1 {i : Nat} (h : LV tg ad 8 i) (p : Int32) : mm_M 1 [.ref (ad (8, i)), .int p] (CW σ tg ad c g) = some (.inl (some (.int (bz ((g 24 i >>> (p &&& 31)) &&& 1 = 1)))), (CW σ tg ad c g)) := by
  by_cases h1 : (g 24 i >>> (p &&& 31)) &&& 1 = 1
  · rw [bz_t h1]
    simp only [M_1, e1_0, e1_4, e1_12, e1_16, e1_17, ci_8_0 h, eq_true h1, K0_v, K0_n, K0_x, K2_v, K2_n, K1_v, K1_n, K1_x, bI_s, bJ_s, bV_s, bS_s, l_10, l_00, bz_01, bz_0, bz_1, em_n, if_true, if_false, ite_not, ite_true, ite_false, not_true_eq_false, not_false_eq_true, or_true, true_or]
  · rw [bz_f h1]
    simp only [M_1, e1_0, e1_4, e1_12, e1_16, e1_17, ci_8_0 h, eq_false h1, K0_v, K0_n, K0_x, K2_v, K2_n, K1_v, K1_n, K1_x, bI_s, bJ_s, bV_s, bS_s, l_10, l_00, bz_01, bz_0, bz_1, em_n, if_true, if_false, ite_not, ite_true, ite_false, not_true_eq_false, not_false_eq_true, or_true, true_or]
theorem c_2 (w : WF tg ad c n) {i : Nat} (hi : i < c 4) : mm_M 2 [.ref (ad (8, i))] (CW σ tg ad c g) = some (.inl (some (.int (bz (gv g (c (200 + i)) ≠ 0 ∨ gv g (c (300 + i)) ≠ 0)))), (CW σ tg ad c g)) := by
  obtain ⟨L8, L9⟩ := w.cl hi
  have b := w.1.2.2.2.2.2 i hi
  have h2 := cr_8_2 (σ := σ) (c := c) (g := g) L8
  have h3 := cr_8_3 (σ := σ) (c := c) (g := g) L8
  have two : mm_L 2 17 [.ref (ad (8, i))] [] (CW σ tg ad c g) = some (.inl (some (.int (bz (gv g (c (300 + i)) ≠ 0)))), (CW σ tg ad c g)) := by
    cases e3 : c (300 + i) with
    | zero =>
      rw [e3] at h3
      rw [bz_f (show ¬ gv g 0 ≠ 0 from fun z => z rfl)]
      simp only [e2_17, e2_21, e2_21n, e2_24, e2_28, e2_31, e2_34, e2_38, e2_39, h3, pr, e2_21n, K0_v, K0_n, K0_x, K2_v, K2_n, K1_v, K1_n, K1_x, bI_s, bJ_s, bV_s, bS_s, l_10, l_00, bz_01, bz_0, bz_1, em_n, if_true, if_false, ite_not, ite_true, ite_false, not_true_eq_false, not_false_eq_true, or_true, true_or]
    | succ k =>
      rw [e3] at h3
      have L := (w.cl (show k < c 4 by omega)).1
      by_cases z : g 23 k = 0
      · rw [bz_f (show ¬ gv g (k + 1) ≠ 0 from fun y => y z)]
        simp only [e2_17, e2_21, e2_21n, e2_24, e2_28, e2_31, e2_34, e2_38, e2_39, h3, pr, ci_8_5 L, eq_true z, K0_v, K0_n, K0_x, K2_v, K2_n, K1_v, K1_n, K1_x, bI_s, bJ_s, bV_s, bS_s, l_10, l_00, bz_01, bz_0, bz_1, em_n, if_true, if_false, ite_not, ite_true, ite_false, not_true_eq_false, not_false_eq_true, or_true, true_or]
      · rw [bz_t (show gv g (k + 1) ≠ 0 from z)]
        simp only [e2_17, e2_21, e2_21n, e2_24, e2_28, e2_31, e2_34, e2_38, e2_39, h3, pr, ci_8_5 L, eq_false z, K0_v, K0_n, K0_x, K2_v, K2_n, K1_v, K1_n, K1_x, bI_s, bJ_s, bV_s, bS_s, l_10, l_00, bz_01, bz_0, bz_1, em_n, if_true, if_false, ite_not, ite_true, ite_false, not_true_eq_false, not_false_eq_true, or_true, true_or]
  cases e2 : c (200 + i) with
  | zero =>
    rw [e2] at h2
    rw [bz_c (show (gv g 0 ≠ 0 ∨ gv g (c (300 + i)) ≠ 0) ↔ gv g (c (300 + i)) ≠ 0 from ⟨fun z => z.elim (fun y => absurd rfl y) id, Or.inr⟩), ← two]
    simp only [M_2, e2_0, e2_4, e2_4n, e2_7, e2_11, e2_14, h2, pr, e2_4n, K0_v, K0_n, K0_x, K2_v, K2_n, K1_v, K1_n, K1_x, bI_s, bJ_s, bV_s, bS_s, l_10, l_00, bz_01, bz_0, bz_1, em_n, if_true, if_false, ite_not, ite_true, ite_false, not_true_eq_false, not_false_eq_true, or_true, true_or]
  | succ k =>
    rw [e2] at h2
    have L := (w.cl (show k < c 4 by omega)).1
    by_cases z : g 23 k = 0
    · rw [bz_c (show (gv g (k + 1) ≠ 0 ∨ gv g (c (300 + i)) ≠ 0) ↔ gv g (c (300 + i)) ≠ 0 from ⟨fun y => y.elim (fun y => absurd z y) id, Or.inr⟩), ← two]
      simp only [M_2, e2_0, e2_4, e2_4n, e2_7, e2_11, e2_14, h2, pr, ci_8_5 L, eq_true z, K0_v, K0_n, K0_x, K2_v, K2_n, K1_v, K1_n, K1_x, bI_s, bJ_s, bV_s, bS_s, l_10, l_00, bz_01, bz_0, bz_1, em_n, if_true, if_false, ite_not, ite_true, ite_false, not_true_eq_false, not_false_eq_true, or_true, true_or]
    · rw [bz_t (Or.inl (show gv g (k + 1) ≠ 0 from z))]
      simp only [M_2, e2_0, e2_4, e2_4n, e2_7, e2_11, e2_14, e2_34, e2_38, e2_39, h2, pr, ci_8_5 L, eq_false z, K0_v, K0_n, K0_x, K2_v, K2_n, K1_v, K1_n, K1_x, bI_s, bJ_s, bV_s, bS_s, l_10, l_00, bz_01, bz_0, bz_1, em_n, if_true, if_false, ite_not, ite_true, ite_false, not_true_eq_false, not_false_eq_true, or_true, true_or]
theorem c_97x {p : Int32} (h : ¬ (0 ≤ p ∧ p < 6)) : mm_M 97 [.int p] (CW σ tg ad c g) = some (.inr 2, mm_bmp (CW σ tg ad c g) 1 6) := by
  simp only [M_97, e97_0, e97_6, e97_9, e97_20, c_101, eq_false h, K0_v, K0_n, K0_x, K2_v, K2_n, K1_v, K1_n, K1_x, bI_s, bJ_s, bV_s, bS_s, l_10, l_00, bz_01, bz_0, bz_1, em_n, if_true, if_false, ite_not, ite_true, ite_false, not_true_eq_false, not_false_eq_true, or_true, true_or]
theorem c_97 {p : Int32} (h : 0 ≤ p ∧ p < 6) : mm_M 97 [.int p] (CW σ tg ad c g) = some (.inl none, (CW σ tg ad c g)) := by
  simp only [M_97, e97_0, e97_6, e97_9, e97_20, c_101, eq_true h, K0_v, K0_n, K0_x, K2_v, K2_n, K1_v, K1_n, K1_x, bI_s, bJ_s, bV_s, bS_s, l_10, l_00, bz_01, bz_0, bz_1, em_n, if_true, if_false, ite_not, ite_true, ite_false, not_true_eq_false, not_false_eq_true, or_true, true_or]
theorem c_98x {p : Int32} (h : ¬ (0 ≤ p ∧ p < 3)) : mm_M 98 [.int p] (CW σ tg ad c g) = some (.inr 0, mm_bmp (CW σ tg ad c g) 1 6) := by
  simp only [M_98, e98_0, e98_5, e98_8, e98_19, c_101, eq_false h, K0_v, K0_n, K0_x, K2_v, K2_n, K1_v, K1_n, K1_x, bI_s, bJ_s, bV_s, bS_s, l_10, l_00, bz_01, bz_0, bz_1, em_n, if_true, if_false, ite_not, ite_true, ite_false, not_true_eq_false, not_false_eq_true, or_true, true_or]
theorem c_98 {p : Int32} (h : 0 ≤ p ∧ p < 3) : mm_M 98 [.int p] (CW σ tg ad c g) = some (.inl none, (CW σ tg ad c g)) := by
  simp only [M_98, e98_0, e98_5, e98_8, e98_19, c_101, eq_true h, K0_v, K0_n, K0_x, K2_v, K2_n, K1_v, K1_n, K1_x, bI_s, bJ_s, bV_s, bS_s, l_10, l_00, bz_01, bz_0, bz_1, em_n, if_true, if_false, ite_not, ite_true, ite_false, not_true_eq_false, not_false_eq_true, or_true, true_or]
theorem c_99x {p : Int32} (h : ¬ (0 ≤ p ∧ p < 3)) : mm_M 99 [.int p] (CW σ tg ad c g) = some (.inr 2, mm_bmp (CW σ tg ad c g) 1 6) := by
  simp only [M_99, e99_0, e99_5, e99_8, e99_19, c_101, eq_false h, K0_v, K0_n, K0_x, K2_v, K2_n, K1_v, K1_n, K1_x, bI_s, bJ_s, bV_s, bS_s, l_10, l_00, bz_01, bz_0, bz_1, em_n, if_true, if_false, ite_not, ite_true, ite_false, not_true_eq_false, not_false_eq_true, or_true, true_or]
theorem c_99 {p : Int32} (h : 0 ≤ p ∧ p < 3) : mm_M 99 [.int p] (CW σ tg ad c g) = some (.inl none, (CW σ tg ad c g)) := by
  simp only [M_99, e99_0, e99_5, e99_8, e99_19, c_101, eq_true h, K0_v, K0_n, K0_x, K2_v, K2_n, K1_v, K1_n, K1_x, bI_s, bJ_s, bV_s, bS_s, l_10, l_00, bz_01, bz_0, bz_1, em_n, if_true, if_false, ite_not, ite_true, ite_false, not_true_eq_false, not_false_eq_true, or_true, true_or]
theorem c_100x {p : Int32} (h : ¬ (0 ≤ p ∧ p < 4)) : mm_M 100 [.int p] (CW σ tg ad c g) = some (.inr 2, mm_bmp (CW σ tg ad c g) 1 6) := by
  simp only [M_100, e100_0, e100_5, e100_8, e100_19, c_101, eq_false h, K0_v, K0_n, K0_x, K2_v, K2_n, K1_v, K1_n, K1_x, bI_s, bJ_s, bV_s, bS_s, l_10, l_00, bz_01, bz_0, bz_1, em_n, if_true, if_false, ite_not, ite_true, ite_false, not_true_eq_false, not_false_eq_true, or_true, true_or]
theorem c_100 {p : Int32} (h : 0 ≤ p ∧ p < 4) : mm_M 100 [.int p] (CW σ tg ad c g) = some (.inl none, (CW σ tg ad c g)) := by
  simp only [M_100, e100_0, e100_5, e100_8, e100_19, c_101, eq_true h, K0_v, K0_n, K0_x, K2_v, K2_n, K1_v, K1_n, K1_x, bI_s, bJ_s, bV_s, bS_s, l_10, l_00, bz_01, bz_0, bz_1, em_n, if_true, if_false, ite_not, ite_true, ite_false, not_true_eq_false, not_false_eq_true, or_true, true_or]
theorem c_96x {p : Int32} (h : ¬ (0 ≤ p ∧ p < nI (c 4))) : mm_M 96 [.ref 2, .int p] (CW σ tg ad c g) = some (.inr 2, mm_bmp (CW σ tg ad c g) 1 6) := by
  simp only [M_96, e96_0, e96_5, e96_8, e96_11, e96_14, e96_18, e96_22, e96_25, e96_28, e96_31, e96_42, cf_4, cz_7, c_101, eq_false h, K0_v, K0_n, K0_x, K2_v, K2_n, K1_v, K1_n, K1_x, bI_s, bJ_s, bV_s, bS_s, l_10, l_00, bz_01, bz_0, bz_1, em_n, if_true, if_false, ite_not, ite_true, ite_false, not_true_eq_false, not_false_eq_true, or_true, true_or]
theorem ir4 (w : WF tg ad c n) {k : Nat} (hk : k < c 4) : 0 ≤ nI k ∧ nI k < nI (c 4) := by
  have b := w.1.2.2.2.2.1
  exact ⟨nI_pos' (by omega), nI_lt hk (by omega)⟩
theorem c_96y (w : WF tg ad c n) {k : Nat} (hk : k < c 4) (h : g 23 k ≠ 0) : mm_M 96 [.ref 2, .int (nI k)] (CW σ tg ad c g) = some (.inr 2, mm_bmp (CW σ tg ad c g) 1 6) := by
  have b := w.1.2.2.2.2.1
  obtain ⟨L8, L9⟩ := w.cl hk
  simp only [M_96, e96_0, e96_5, e96_8, e96_11, e96_14, e96_18, e96_22, e96_25, e96_28, e96_31, e96_42, cf_4, cz_7, c_101, eq_true (ir4 w hk), cg_7 hk (by omega), ck_8 L8, ci_8_5 L8, eq_false h, K0_v, K0_n, K0_x, K2_v, K2_n, K1_v, K1_n, K1_x, bI_s, bJ_s, bV_s, bS_s, l_10, l_00, bz_01, bz_0, bz_1, em_n, if_true, if_false, ite_not, ite_true, ite_false, not_true_eq_false, not_false_eq_true, or_true, true_or]
theorem c_96 (w : WF tg ad c n) {k : Nat} (hk : k < c 4) (h : g 23 k = 0) : mm_M 96 [.ref 2, .int (nI k)] (CW σ tg ad c g) = some (.inl none, (CW σ tg ad c g)) := by
  have b := w.1.2.2.2.2.1
  obtain ⟨L8, L9⟩ := w.cl hk
  simp only [M_96, e96_0, e96_5, e96_8, e96_11, e96_14, e96_18, e96_22, e96_25, e96_28, e96_31, e96_42, cf_4, cz_7, c_101, eq_true (ir4 w hk), cg_7 hk (by omega), ck_8 L8, ci_8_5 L8, eq_true h, K0_v, K0_n, K0_x, K2_v, K2_n, K1_v, K1_n, K1_x, bI_s, bJ_s, bV_s, bS_s, l_10, l_00, bz_01, bz_0, bz_1, em_n, if_true, if_false, ite_not, ite_true, ite_false, not_true_eq_false, not_false_eq_true, or_true, true_or]
theorem c_88x {p : Int32} (h : ¬ (0 ≤ p ∧ p < nI (c 4))) : mm_M 88 [.ref 2, .int p] (CW σ tg ad c g) = some (.inr 2, mm_bmp (CW σ tg ad c g) 1 6) := by
  simp only [M_88, e88_0, e88_5, e88_8, e88_11, e88_14, e88_25, e88_29, e88_33, e88_36, e88_41, e88_44, e88_48, e88_52, cf_4, cz_7, c_101, eq_false h, K0_v, K0_n, K0_x, K2_v, K2_n, K1_v, K1_n, K1_x, bI_s, bJ_s, bV_s, bS_s, l_10, l_00, bz_01, bz_0, bz_1, em_n, if_true, if_false, ite_not, ite_true, ite_false, not_true_eq_false, not_false_eq_true, or_true, true_or]
theorem c_88 (w : WF tg ad c n) {k : Nat} (hk : k < c 4) : mm_M 88 [.ref 2, .int (nI k)] (CW σ tg ad c g) = some (.inl (some (.int (if g 23 k = 0 then g 24 k else 0))), (CW σ tg ad c g)) := by
  have b := w.1.2.2.2.2.1
  obtain ⟨L8, L9⟩ := w.cl hk
  by_cases h : g 23 k = 0
  · simp only [M_88, e88_0, e88_5, e88_8, e88_11, e88_14, e88_25, e88_29, e88_33, e88_36, e88_41, e88_44, e88_48, e88_52, cf_4, cz_7, c_101, eq_true (ir4 w hk), cg_7 hk (by omega), ck_8 L8, ci_8_5 L8, ci_8_0 L8, eq_true h, K0_v, K0_n, K0_x, K2_v, K2_n, K1_v, K1_n, K1_x, bI_s, bJ_s, bV_s, bS_s, l_10, l_00, bz_01, bz_0, bz_1, em_n, if_true, if_false, ite_not, ite_true, ite_false, not_true_eq_false, not_false_eq_true, or_true, true_or]
  · simp only [M_88, e88_0, e88_5, e88_8, e88_11, e88_14, e88_25, e88_29, e88_33, e88_36, e88_41, e88_44, e88_48, e88_52, cf_4, cz_7, c_101, eq_true (ir4 w hk), cg_7 hk (by omega), ck_8 L8, ci_8_5 L8, ci_8_0 L8, eq_false h, K0_v, K0_n, K0_x, K2_v, K2_n, K1_v, K1_n, K1_x, bI_s, bJ_s, bV_s, bS_s, l_10, l_00, bz_01, bz_0, bz_1, em_n, if_true, if_false, ite_not, ite_true, ite_false, not_true_eq_false, not_false_eq_true, or_true, true_or]
end
