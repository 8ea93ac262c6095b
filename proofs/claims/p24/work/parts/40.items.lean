/-! LEVEL 2: the class's items, asked -/
def lo : Nat → Int32
  | 0 => 3
  | 1 => 5
  | 2 => 0
  | _ => 2
def LO (τ : mm_S) : Prop := τ.1 1 = some (.inr (.inl (2, 4, lo)))
def LC (p : Int32) : Prop := 0 ≤ p ∧ p < 4
def pm (N : Nat) : Int32 := nI N - 1
theorem pm_s (N : Nat) : pm (N + 1) = nI N := nI_pred N
theorem pm_lt {N k : Nat} (hN : N < 2 ^ 31) (hk : k < 2 ^ 31) : (pm N < nI k) ↔ N ≤ k := by
  cases N with
  | zero =>
    refine ⟨fun _ => Nat.zero_le _, fun _ => ?_⟩
    have h1 : pm 0 < 0 := by decide
    exact Int32.lt_of_lt_of_le h1 (nI_pos' hk)
  | succ N =>
    rw [pm_s, nI_ltI (by omega) hk]
    omega
def pk (x : Int32) : Prop := x = 1 ∨ x = 2 ∨ x = 3
def oz (x : Int32) : Prop := x = 0 ∨ x = 4
def rs (g : Nat → Nat → Int32) (p : Int32) (k : Nat) (x : Int32) : Int32 := if g 13 k = 1 ∧ g 14 k = p then g 15 k else if g 13 k = 3 ∧ g 14 k = p then -1 else x
def rb (g : Nat → Nat → Int32) (p : Int32) (N : Nat) : Int32 := up (rs g p) N 0 (-1)
def rpl (g : Nat → Nat → Int32) (N : Nat) (r : Int32) : Prop := rb g 0 N = r ∨ rb g 1 N = r ∨ rb g 2 N = r ∨ rb g 3 N = r
theorem len1 {τ : mm_S} (h : LO τ) : (mm_len τ 1).map Int32.ofNat = some 4 := by
  unfold mm_len
  rw [h]
  rfl
theorem c_54 {τ : mm_S} (h : LO τ) (p : Int32) : mm_M 54 [.int p] τ = some (.inl (some (.int (bz (0 ≤ p ∧ p < 4)))), τ) := by
  simp only [M_54, e54_0, e54_5, e54_8, len1 h, c_101, K0_v, K0_n, K0_x, K2_v, K2_n, K1_v, K1_n, K1_x, bI_s, bJ_s, bV_s, bS_s, l_10, l_00, bz_01, bz_0, bz_1, em_n, if_true, if_false, ite_not, ite_true, ite_false, not_true_eq_false, not_false_eq_true, or_true, true_or]
theorem lo_at {τ : mm_S} (h : LO τ) {k : Nat} (hk : k < 4) : mm_ald τ 1 (nI k) false = some (lo k) := by
  unfold mm_ald mm_arr
  rw [h]
  show (if nI k < 0 ∨ 4 ≤ (nI k).toNatClampNeg then none else _) = _
  rw [nI_clamp (by omega), if_neg (fun q => q.elim (nI_pos (by omega)) (by omega))]
  rfl
theorem lo_pl {k : Nat} (hk : k < 4) : lo k = pl (nI k) := by
  have : k = 0 ∨ k = 1 ∨ k = 2 ∨ k = 3 := by omega
  rcases this with e | e | e | e <;> subst e <;> decide
theorem c_55 {τ : mm_S} (h : LO τ) {p : Int32} (hp : LC p) : mm_M 55 [.int p] τ = some (.inl (some (.int (pl p))), τ) := by
  obtain ⟨k, hk, rfl⟩ := nI_below (n := 4) (by decide) hp.1 hp.2
  simp only [M_55, e55_0, e55_4, e55_7, e55_12, e55_15, e55_16, c_54 h, eq_true (show 0 ≤ nI k ∧ nI k < 4 from hp), lo_at h hk, lo_pl hk, K0_v, K0_n, K0_x, K2_v, K2_n, K1_v, K1_n, K1_x, bI_s, bJ_s, bV_s, bS_s, l_10, l_00, bz_01, bz_0, bz_1, em_n, if_true, if_false, ite_not, ite_true, ite_false, not_true_eq_false, not_false_eq_true, or_true, true_or]
def la (p : Int32) : Int32 := if p = 3 then 0 else if p = 5 then 1 else if p = 0 then 2 else if p = 2 then 3 else -1
theorem la_step {τ : mm_S} (h : LO τ) (p : Int32) {k : Nat} (hk : k < 4) : mm_L 56 2 [.int p, .int (nI k)] [] τ = if lo k = p then some (.inl (some (.int (nI k))), τ) else mm_L 56 2 [.int p, .int (nI (k + 1))] [] τ := by
  have q : (4 ≤ nI k) = False := eq_false (show ¬ nI 4 ≤ nI k from nI_ge hk (by decide))
  rw [e56_2]
  simp only [e56_0, e56_7, e56_10, e56_15, e56_19, e56_21, e56_27, len1 h, q, lo_at h hk, nI_1, K0_v, K0_n, K0_x, K2_v, K2_n, K1_v, K1_n, K1_x, bI_s, bJ_s, bV_s, bS_s, l_10, l_00, bz_01, bz_0, bz_1, em_n, if_true, if_false, ite_not, ite_true, ite_false, not_true_eq_false, not_false_eq_true, or_true, true_or]
theorem c_56 {τ : mm_S} (h : LO τ) (p : Int32) : mm_M 56 [.int p] τ = some (.inl (some (.int (la p))), τ) := by
  have q : (4 ≤ nI 4) = True := by decide
  rw [M_56, e56_0, nI_lit0, la_step h p (by omega), la_step h p (by omega), la_step h p (by omega), la_step h p (by omega), e56_2]
  simp only [e56_0, e56_7, e56_10, e56_15, e56_19, e56_21, e56_27, len1 h, q, K0_v, K0_n, K0_x, K2_v, K2_n, K1_v, K1_n, K1_x, bI_s, bJ_s, bV_s, bS_s, l_10, l_00, bz_01, bz_0, bz_1, em_n, if_true, if_false, ite_not, ite_true, ite_false, not_true_eq_false, not_false_eq_true, or_true, true_or]
  unfold la
  simp only [lo, eq_comm (a := p)]
  split
  · rfl
  · split
    · rfl
    · split
      · rfl
      · split <;> rfl
section
variable {σ : mm_S} {tg : Nat → Nat × Nat} {ad : Nat × Nat → Nat} {c : Nat → Nat} {g : Nat → Nat → Int32}
theorem c_53 {p : Int32} (h : 0 ≤ p ∧ p < nI (c 1)) : mm_M 53 [.ref 2, .int p] (CW σ tg ad c g) = some (.inl none, (CW σ tg ad c g)) := by
  simp only [M_53, e53_0, e53_5, e53_8, e53_11, e53_14, e53_24, cf_1, cz_4, c_101, eq_true h, K0_v, K0_n, K0_x, K2_v, K2_n, K1_v, K1_n, K1_x, bI_s, bJ_s, bV_s, bS_s, l_10, l_00, bz_01, bz_0, bz_1, em_n, if_true, if_false, ite_not, ite_true, ite_false, not_true_eq_false, not_false_eq_true, or_true, true_or]
theorem c_53x {p : Int32} (h : ¬ (0 ≤ p ∧ p < nI (c 1))) : mm_M 53 [.ref 2, .int p] (CW σ tg ad c g) = some (.inr 2, mm_bmp (CW σ tg ad c g) 1 6) := by
  simp only [M_53, e53_0, e53_5, e53_8, e53_11, e53_14, e53_24, cf_1, cz_4, c_101, eq_false h, K0_v, K0_n, K0_x, K2_v, K2_n, K1_v, K1_n, K1_x, bI_s, bJ_s, bV_s, bS_s, l_10, l_00, bz_01, bz_0, bz_1, em_n, if_true, if_false, ite_not, ite_true, ite_false, not_true_eq_false, not_false_eq_true, or_true, true_or]
theorem iM_13 {i : Nat} (h : LV tg ad 2 i) {As : List Value} : mm_Mo 13 (ad (2, i)) As (CW σ tg ad c g) = mm_M 13 (.ref (ad (2, i)) :: As) (CW σ tg ad c g) := if_pos (by unfold mm_rc; rw [cx_2 h]; rfl)
theorem iM_14 {i : Nat} (h : LV tg ad 2 i) {As : List Value} : mm_Mo 14 (ad (2, i)) As (CW σ tg ad c g) = mm_M 14 (.ref (ad (2, i)) :: As) (CW σ tg ad c g) := if_pos (by unfold mm_rc; rw [cx_2 h]; rfl)
theorem c_13 {i : Nat} (h : LV tg ad 2 i) : mm_M 13 [.ref (ad (2, i))] (CW σ tg ad c g) = some (.inl (some (.int (bz (g 13 i = 1 ∨ g 13 i = 2 ∨ g 13 i = 3)))), (CW σ tg ad c g)) := by
  simp only [M_13, e13_0, e13_4, e13_8, e13_12, e13_16, e13_20, e13_24, e13_28, e13_29, ci_2_0 h, K0_v, K0_n, K0_x, K2_v, K2_n, K1_v, K1_n, K1_x, bI_s, bJ_s, bV_s, bS_s, l_10, l_00, bz_01, bz_0, bz_1, em_n, if_true, if_false, ite_not, ite_true, ite_false, not_true_eq_false, not_false_eq_true, or_true, true_or]
  by_cases h1 : g 13 i = 1
  · simp [h1, bz]
  · by_cases h2 : g 13 i = 2
    · simp [h2, bz]
    · by_cases h3 : g 13 i = 3
      · simp [h3, bz]
      · simp [h1, h2, h3, bz]
theorem c_14 {i : Nat} (h : LV tg ad 2 i) : mm_M 14 [.ref (ad (2, i))] (CW σ tg ad c g) = some (.inl (some (.int (bz (g 13 i = 0 ∨ g 13 i = 4)))), (CW σ tg ad c g)) := by
  simp only [M_14, e14_0, e14_4, e14_7, e14_11, e14_15, e14_19, e14_20, ci_2_0 h, K0_v, K0_n, K0_x, K2_v, K2_n, K1_v, K1_n, K1_x, bI_s, bJ_s, bV_s, bS_s, l_10, l_00, bz_01, bz_0, bz_1, em_n, if_true, if_false, ite_not, ite_true, ite_false, not_true_eq_false, not_false_eq_true, or_true, true_or]
  by_cases h1 : g 13 i = 0
  · simp [h1, bz]
  · by_cases h2 : g 13 i = 4
    · simp [h2, bz]
    · simp [h1, h2, bz]
theorem l_46 {n : Nat} (h : WF tg ad c n) (p : Int32) {N : Nat} (hN : N ≤ c 1) : ∀ m k x (l5 : Value), k + m = N → mm_L 46 5 [.ref 2, .int (pm N), .int p, .int x, .int (nI k), l5] [] (CW σ tg ad c g) = some (.inl (some (.int (up (rs g p) m k x))), (CW σ tg ad c g))
  | 0, k, x, l5, hk => by
    have hc := h.1.2.1
    have q := eq_true ((pm_lt (N := N) (k := k) (by omega) (by omega)).mpr (by omega))
    rw [e46_5]
    simp only [q, e46_90, K0_v, K0_n, K0_x, K2_v, K2_n, K1_v, K1_n, K1_x, bI_s, bJ_s, bV_s, bS_s, l_10, l_00, bz_01, bz_0, bz_1, em_n, if_true, if_false, ite_not, ite_true, ite_false, not_true_eq_false, not_false_eq_true, or_true, true_or, up]
  | m + 1, k, x, l5, hk => by
    have hc := h.1.2.1
    have hk1 : k < c 1 := by omega
    have L := (h.i hk1).1
    have q := eq_false (fun z => absurd ((pm_lt (N := N) (k := k) (by omega) (by omega)).mp z) (by omega))
    have q2 := eq_false (nI_ge (a := k) (b := c 1) hk1 (by omega))
    rw [e46_5]
    simp only [e46_0, e46_11, e46_17, e46_20, e46_23, e46_27, e46_32, e46_35, e46_42, e46_46, e46_51, e46_55, e46_60, e46_64, e46_69, e46_73, e46_78, e46_82, e46_84, e46_90, q, q2, cf_1, cz_4, cg_4 hk1 (by omega), ck_2 L, ci_2_0 L, ci_2_1 L, ci_2_2 L, nI_1, K0_v, K0_n, K0_x, K2_v, K2_n, K1_v, K1_n, K1_x, bI_s, bJ_s, bV_s, bS_s, l_10, l_00, bz_01, bz_0, bz_1, em_n, if_true, if_false, ite_not, ite_true, ite_false, not_true_eq_false, not_false_eq_true, or_true, true_or]
    simp only [l_46 h p hN m (k + 1) _ _ (by omega), up, rs]
    by_cases h1 : g 13 k = 1
    · by_cases h2 : g 14 k = p
      · simp only [eq_true h1, eq_true h2, and_self, K0_v, K0_n, K0_x, K2_v, K2_n, K1_v, K1_n, K1_x, bI_s, bJ_s, bV_s, bS_s, l_10, l_00, bz_01, bz_0, bz_1, em_n, if_true, if_false, ite_not, ite_true, ite_false, not_true_eq_false, not_false_eq_true, or_true, true_or]
      · have h3 : ¬ g 13 k = 3 := by rw [h1]; decide
        simp only [eq_true h1, eq_false h2, eq_false h3, and_false, K0_v, K0_n, K0_x, K2_v, K2_n, K1_v, K1_n, K1_x, bI_s, bJ_s, bV_s, bS_s, l_10, l_00, bz_01, bz_0, bz_1, em_n, if_true, if_false, ite_not, ite_true, ite_false, not_true_eq_false, not_false_eq_true, or_true, true_or]
    · by_cases h3 : g 13 k = 3
      · by_cases h2 : g 14 k = p
        · simp only [eq_false h1, eq_true h2, eq_true h3, false_and, and_self, K0_v, K0_n, K0_x, K2_v, K2_n, K1_v, K1_n, K1_x, bI_s, bJ_s, bV_s, bS_s, l_10, l_00, bz_01, bz_0, bz_1, em_n, if_true, if_false, ite_not, ite_true, ite_false, not_true_eq_false, not_false_eq_true, or_true, true_or]
        · simp only [eq_false h1, eq_false h2, eq_true h3, and_false, K0_v, K0_n, K0_x, K2_v, K2_n, K1_v, K1_n, K1_x, bI_s, bJ_s, bV_s, bS_s, l_10, l_00, bz_01, bz_0, bz_1, em_n, if_true, if_false, ite_not, ite_true, ite_false, not_true_eq_false, not_false_eq_true, or_true, true_or]
      · simp only [eq_false h1, eq_false h3, false_and, K0_v, K0_n, K0_x, K2_v, K2_n, K1_v, K1_n, K1_x, bI_s, bJ_s, bV_s, bS_s, l_10, l_00, bz_01, bz_0, bz_1, em_n, if_true, if_false, ite_not, ite_true, ite_false, not_true_eq_false, not_false_eq_true, or_true, true_or]
theorem c_46 {n : Nat} (h : WF tg ad c n) (p : Int32) {N : Nat} (hN : N ≤ c 1) : mm_M 46 [.ref 2, .int (pm N), .int p] (CW σ tg ad c g) = some (.inl (some (.int (rb g p N))), (CW σ tg ad c g)) := by
  rw [M_46, e46_0, nI_lit0, l_46 h p hN N 0 _ _ (by omega)]
  rfl
theorem c_45 {n : Nat} (h : WF tg ad c n) (p : Int32) : mm_M 45 [.ref 2, .int p] (CW σ tg ad c g) = some (.inl (some (.int (rb g p (c 1)))), (CW σ tg ad c g)) := by
  have e := c_46 (σ := σ) (g := g) h p (Nat.le_refl (c 1))
  unfold pm at e
  simp only [M_45, e45_0, e45_5, e45_8, e45_14, cf_1, cz_4, aM_46, e, K0_v, K0_n, K0_x, K2_v, K2_n, K1_v, K1_n, K1_x, bI_s, bJ_s, bV_s, bS_s, l_10, l_00, bz_01, bz_0, bz_1, em_n, if_true, if_false, ite_not, ite_true, ite_false, not_true_eq_false, not_false_eq_true, or_true, true_or]
theorem c_44 {n : Nat} (h : WF tg ad c n) (hl : LO (CW σ tg ad c g)) (r : Int32) : mm_M 44 [.ref 2, .int r] (CW σ tg ad c g) = some (.inl (some (.int (bz (rb g 0 (c 1) = r ∨ rb g 1 (c 1) = r ∨ rb g 2 (c 1) = r ∨ rb g 3 (c 1) = r)))), (CW σ tg ad c g)) := by
  have st : ∀ k, k < 4 → mm_L 44 2 [.ref 2, .int r, .int (nI k)] [] (CW σ tg ad c g) = if rb g (nI k) (c 1) = r then some (.inl (some (.int 1)), (CW σ tg ad c g)) else mm_L 44 2 [.ref 2, .int r, .int (nI (k + 1))] [] (CW σ tg ad c g) := by
    intro k hk
    have q : (4 ≤ nI k) = False := eq_false (show ¬ nI 4 ≤ nI k from nI_ge hk (by decide))
    rw [e44_2]
    simp only [e44_0, e44_7, e44_10, e44_15, e44_19, e44_21, e44_27, len1 hl, q, aM_45, c_45 h, nI_1, K0_v, K0_n, K0_x, K2_v, K2_n, K1_v, K1_n, K1_x, bI_s, bJ_s, bV_s, bS_s, l_10, l_00, bz_01, bz_0, bz_1, em_n, if_true, if_false, ite_not, ite_true, ite_false, not_true_eq_false, not_false_eq_true, or_true, true_or]
  have q : (4 ≤ nI 4) = True := by decide
  rw [M_44, e44_0, nI_lit0, st 0 (by omega), st 1 (by omega), st 2 (by omega), st 3 (by omega), e44_2]
  simp only [e44_0, e44_7, e44_10, e44_15, e44_19, e44_21, e44_27, len1 hl, q, K0_v, K0_n, K0_x, K2_v, K2_n, K1_v, K1_n, K1_x, bI_s, bJ_s, bV_s, bS_s, l_10, l_00, bz_01, bz_0, bz_1, em_n, if_true, if_false, ite_not, ite_true, ite_false, not_true_eq_false, not_false_eq_true, or_true, true_or]
  show (if rb g 0 (c 1) = r then _ else if rb g 1 (c 1) = r then _ else if rb g 2 (c 1) = r then _ else if rb g 3 (c 1) = r then _ else _) = some (Sum.inl (some (Value.int (bz (rb g 0 (c 1) = r ∨ rb g 1 (c 1) = r ∨ rb g 2 (c 1) = r ∨ rb g 3 (c 1) = r)))), (CW σ tg ad c g))
  by_cases h0 : rb g 0 (c 1) = r
  · simp [h0, bz]
  · by_cases h1 : rb g 1 (c 1) = r
    · simp [h0, h1, bz]
    · by_cases h2 : rb g 2 (c 1) = r
      · simp [h0, h1, h2, bz]
      · by_cases h3 : rb g 3 (c 1) = r <;> simp [h0, h1, h2, h3, bz]
theorem c_40 {n : Nat} (h : WF tg ad c n) (hl : LO (CW σ tg ad c g)) {K : Nat} (hK : K < c 1) {p : Int32} (hp : LC p) : mm_M 40 [.ref 2, .int (nI K), .int p] (CW σ tg ad c g) = some (.inl (some (.int (rb g p (K + 1)))), (CW σ tg ad c g)) := by
  have hc := h.1.2.1
  have e := c_46 (σ := σ) (g := g) h p (N := K + 1) hK
  rw [pm_s] at e
  simp only [M_40, e40_0, e40_5, e40_9, e40_12, e40_22, e40_28, aM_53, aM_46, c_53 ⟨nI_pos' (show K < 2 ^ 31 by omega), nI_lt hK (by omega)⟩, c_54 hl, eq_true (show 0 ≤ p ∧ p < 4 from hp), e, K0_v, K0_n, K0_x, K2_v, K2_n, K1_v, K1_n, K1_x, bI_s, bJ_s, bV_s, bS_s, l_10, l_00, bz_01, bz_0, bz_1, em_n, if_true, if_false, ite_not, ite_true, ite_false, not_true_eq_false, not_false_eq_true, or_true, true_or]
theorem c_40x {p q : Int32} (h : ¬ (0 ≤ p ∧ p < nI (c 1))) : mm_M 40 [.ref 2, .int p, .int q] (CW σ tg ad c g) = some (.inr 2, mm_bmp (CW σ tg ad c g) 1 6) := by
  simp only [M_40, e40_0, e40_5, e40_9, e40_12, e40_22, e40_28, aM_53, c_53x h, K0_v, K0_n, K0_x, K2_v, K2_n, K1_v, K1_n, K1_x, bI_s, bJ_s, bV_s, bS_s, l_10, l_00, bz_01, bz_0, bz_1, em_n, if_true, if_false, ite_not, ite_true, ite_false, not_true_eq_false, not_false_eq_true, or_true, true_or]
theorem c_40y (hl : LO (CW σ tg ad c g)) {p q : Int32} (h : (0 ≤ p ∧ p < nI (c 1))) (hq : ¬ LC q) : mm_M 40 [.ref 2, .int p, .int q] (CW σ tg ad c g) = some (.inr 2, mm_bmp (CW σ tg ad c g) 1 6) := by
  simp only [M_40, e40_0, e40_5, e40_9, e40_12, e40_22, e40_28, aM_53, c_53 h, c_54 hl, eq_false (show ¬ (0 ≤ q ∧ q < 4) from hq), K0_v, K0_n, K0_x, K2_v, K2_n, K1_v, K1_n, K1_x, bI_s, bJ_s, bV_s, bS_s, l_10, l_00, bz_01, bz_0, bz_1, em_n, if_true, if_false, ite_not, ite_true, ite_false, not_true_eq_false, not_false_eq_true, or_true, true_or]
-- faces
/-- face k is of the articulator and lies over the item -/
def fv (g : Nat → Nat → Int32) (i a : Int32) (k : Nat) : Prop := ar (g 18 k) = a ∧ g 19 k ≤ i ∧ i ≤ g 20 k
noncomputable def fvd (g : Nat → Nat → Int32) (i a : Int32) : DecidablePred (fv g i a) := fun k => by unfold fv; infer_instance
def ff (g : Nat → Nat → Int32) : Option Nat → Int32
  | some k => g 18 k
  | none => -1
theorem l_51 {n : Nat} (h : WF tg ad c n) (i a : Int32) : ∀ m k (l4 : Value), k + m = c 2 → mm_L 51 2 [.ref 2, .int i, .int a, .int (nI k), l4] [] (CW σ tg ad c g) = some (.inl (some (.int (ff g (@fi (fv g i a) (fvd g i a) m k)))), (CW σ tg ad c g))
  | 0, k, l4, hk => by
    have hc := h.1.2.2.1
    have q := eq_true (nI_le (a := c 2) (b := k) (by omega) (by omega))
    rw [e51_2]
    simp only [cf_2, cz_5, q, e51_0, e51_7, e51_10, e51_13, e51_17, e51_21, e51_24, e51_31, e51_34, e51_38, e51_43, e51_47, e51_53, e51_56, e51_61, e51_62, e51_68, K0_v, K0_n, K0_x, K2_v, K2_n, K1_v, K1_n, K1_x, bI_s, bJ_s, bV_s, bS_s, l_10, l_00, bz_01, bz_0, bz_1, em_n, if_true, if_false, ite_not, ite_true, ite_false, not_true_eq_false, not_false_eq_true, or_true, true_or, fi, ff]
  | m + 1, k, l4, hk => by
    have hc := h.1.2.2.1
    have hk1 : k < c 2 := by omega
    have L := h.f hk1
    have q := eq_false (nI_ge (a := k) (b := c 2) hk1 (by omega))
    rw [e51_2]
    simp only [cf_2, cz_5, q, cg_5 hk1 (by omega), ck_5 L, ci_5_0 L, ci_5_1 L, ci_5_2 L, c_52, e51_0, e51_7, e51_10, e51_13, e51_17, e51_21, e51_24, e51_31, e51_34, e51_38, e51_43, e51_47, e51_53, e51_56, e51_61, e51_62, e51_68, nI_1, K0_v, K0_n, K0_x, K2_v, K2_n, K1_v, K1_n, K1_x, bI_s, bJ_s, bV_s, bS_s, l_10, l_00, bz_01, bz_0, bz_1, em_n, if_true, if_false, ite_not, ite_true, ite_false, not_true_eq_false, not_false_eq_true, or_true, true_or]
    simp only [l_51 h i a m (k + 1) _ (by omega)]
    by_cases h1 : ar (g 18 k) = a
    · by_cases h2 : i < g 19 k
      · have p : ¬ fv g i a k := fun z => nle_of_lt h2 z.2.1
        simp only [fi, if_neg p, eq_true h1, eq_true h2, K0_v, K0_n, K0_x, K2_v, K2_n, K1_v, K1_n, K1_x, bI_s, bJ_s, bV_s, bS_s, l_10, l_00, bz_01, bz_0, bz_1, em_n, if_true, if_false, ite_not, ite_true, ite_false, not_true_eq_false, not_false_eq_true, or_true, true_or]
      · by_cases h3 : g 20 k < i
        · have p : ¬ fv g i a k := fun z => nle_of_lt h3 z.2.2
          simp only [fi, if_neg p, eq_true h1, eq_false h2, eq_true h3, K0_v, K0_n, K0_x, K2_v, K2_n, K1_v, K1_n, K1_x, bI_s, bJ_s, bV_s, bS_s, l_10, l_00, bz_01, bz_0, bz_1, em_n, if_true, if_false, ite_not, ite_true, ite_false, not_true_eq_false, not_false_eq_true, or_true, true_or]
        · have p : fv g i a k := ⟨h1, Int32.not_lt.mp h2, Int32.not_lt.mp h3⟩
          simp only [fi, if_pos p, eq_true h1, eq_false h2, eq_false h3, K0_v, K0_n, K0_x, K2_v, K2_n, K1_v, K1_n, K1_x, bI_s, bJ_s, bV_s, bS_s, l_10, l_00, bz_01, bz_0, bz_1, em_n, if_true, if_false, ite_not, ite_true, ite_false, not_true_eq_false, not_false_eq_true, or_true, true_or, ff]
    · have p : ¬ fv g i a k := fun z => h1 z.1
      simp only [fi, if_neg p, eq_false h1, K0_v, K0_n, K0_x, K2_v, K2_n, K1_v, K1_n, K1_x, bI_s, bJ_s, bV_s, bS_s, l_10, l_00, bz_01, bz_0, bz_1, em_n, if_true, if_false, ite_not, ite_true, ite_false, not_true_eq_false, not_false_eq_true, or_true, true_or]
theorem c_51 {n : Nat} (h : WF tg ad c n) (i a : Int32) : mm_M 51 [.ref 2, .int i, .int a] (CW σ tg ad c g) = some (.inl (some (.int (ff g (@fi (fv g i a) (fvd g i a) (c 2) 0)))), (CW σ tg ad c g)) := by
  rw [M_51, e51_0, nI_lit0, l_51 h i a (c 2) 0 _ (by omega)]
/-- the face shown: back over pointings -/
noncomputable def fs (g : Nat → Nat → Int32) (N : Nat) (a : Int32) : Nat → Int32
  | 0 => -1
  | k + 1 => if ff g (@fi (fv g (nI k) a) (fvd g (nI k) a) N 0) = -1 then (if g 13 k = 1 ∨ g 13 k = 2 ∨ g 13 k = 3 then fs g N a k else -1) else ff g (@fi (fv g (nI k) a) (fvd g (nI k) a) N 0)
theorem pm_add (k : Nat) : nI (k + 1) + -1 = nI k := by
  rw [← nI_pred k, Int32.sub_eq_add_neg]
theorem l_50 {n : Nat} (h : WF tg ad c n) (i a : Int32) : ∀ k (l4 : Value), k ≤ c 1 → mm_L 50 2 [.ref 2, .int i, .int a, .int (pm k), l4] [] (CW σ tg ad c g) = some (.inl (some (.int (fs g (c 2) a k))), (CW σ tg ad c g))
  | 0, l4, hk => by
    have q : (pm 0 < 0) = True := by decide
    rw [e50_2]
    simp only [q, e50_59, K0_v, K0_n, K0_x, K2_v, K2_n, K1_v, K1_n, K1_x, bI_s, bJ_s, bV_s, bS_s, l_10, l_00, bz_01, bz_0, bz_1, em_n, if_true, if_false, ite_not, ite_true, ite_false, not_true_eq_false, not_false_eq_true, or_true, true_or, fs]
  | k + 1, l4, hk => by
    have hc := h.1.2.1
    have hk1 : k < c 1 := by omega
    have L := (h.i hk1).1
    have q : (nI k < 0) = False := eq_false (nI_pos (by omega))
    have q2 := eq_false (nI_ge (a := k) (b := c 1) hk1 (by omega))
    rw [e50_2, pm_s]
    have ih := l_50 h i a k (.int (ff g (@fi (fv g (nI k) a) (fvd g (nI k) a) (c 2) 0))) (by omega)
    have e : nI k + -1 = pm k := by unfold pm; rw [Int32.sub_eq_add_neg]
    by_cases h1 : ff g (@fi (fv g (nI k) a) (fvd g (nI k) a) (c 2) 0) = -1
    · by_cases h2 : g 13 k = 1 ∨ g 13 k = 2 ∨ g 13 k = 3
      · simp only [e50_0, e50_6, e50_11, e50_14, e50_17, e50_23, e50_31, e50_34, e50_38, e50_42, e50_45, e50_48, e50_51, e50_53, e50_59, q, q2, cf_1, cz_4, aM_51, c_51 h, eq_true h1, cg_4 hk1 (by omega), ck_2 L, iM_13 L, c_13 L, eq_true h2, e, ih, fs, K0_v, K0_n, K0_x, K2_v, K2_n, K1_v, K1_n, K1_x, bI_s, bJ_s, bV_s, bS_s, l_10, l_00, bz_01, bz_0, bz_1, em_n, if_true, if_false, ite_not, ite_true, ite_false, not_true_eq_false, not_false_eq_true, or_true, true_or]
      · simp only [e50_0, e50_6, e50_11, e50_14, e50_17, e50_23, e50_31, e50_34, e50_38, e50_42, e50_45, e50_48, e50_51, e50_53, e50_59, q, q2, cf_1, cz_4, aM_51, c_51 h, eq_true h1, cg_4 hk1 (by omega), ck_2 L, iM_13 L, c_13 L, eq_false h2, fs, K0_v, K0_n, K0_x, K2_v, K2_n, K1_v, K1_n, K1_x, bI_s, bJ_s, bV_s, bS_s, l_10, l_00, bz_01, bz_0, bz_1, em_n, if_true, if_false, ite_not, ite_true, ite_false, not_true_eq_false, not_false_eq_true, or_true, true_or]
    · simp only [e50_0, e50_6, e50_11, e50_14, e50_17, e50_23, e50_31, e50_34, e50_38, e50_42, e50_45, e50_48, e50_51, e50_53, e50_59, q, q2, cf_1, cz_4, aM_51, c_51 h, eq_false h1, fs, K0_v, K0_n, K0_x, K2_v, K2_n, K1_v, K1_n, K1_x, bI_s, bJ_s, bV_s, bS_s, l_10, l_00, bz_01, bz_0, bz_1, em_n, if_true, if_false, ite_not, ite_true, ite_false, not_true_eq_false, not_false_eq_true, or_true, true_or]
theorem c_50 {n : Nat} (h : WF tg ad c n) {K : Nat} (hK : K < c 1) (a : Int32) : mm_M 50 [.ref 2, .int (nI K), .int a] (CW σ tg ad c g) = some (.inl (some (.int (fs g (c 2) a (K + 1)))), (CW σ tg ad c g)) := by
  rw [M_50, e50_0, ← pm_s, l_50 h _ a (K + 1) _ (by omega)]
theorem c_39 {n : Nat} (h : WF tg ad c n) {K : Nat} (hK : K < c 1) {a : Int32} (ha : 0 ≤ a ∧ a < 3) : mm_M 39 [.ref 2, .int (nI K), .int a] (CW σ tg ad c g) = some (.inl (some (.int (fs g (c 2) a (K + 1)))), (CW σ tg ad c g)) := by
  have hc := h.1.2.1
  simp only [M_39, e39_0, e39_5, e39_10, e39_13, e39_23, e39_29, aM_53, aM_50, c_53 ⟨nI_pos' (show K < 2 ^ 31 by omega), nI_lt hK (by omega)⟩, c_101, eq_true ha, c_50 h hK, K0_v, K0_n, K0_x, K2_v, K2_n, K1_v, K1_n, K1_x, bI_s, bJ_s, bV_s, bS_s, l_10, l_00, bz_01, bz_0, bz_1, em_n, if_true, if_false, ite_not, ite_true, ite_false, not_true_eq_false, not_false_eq_true, or_true, true_or]
theorem c_39x {p q : Int32} (h : ¬ (0 ≤ p ∧ p < nI (c 1))) : mm_M 39 [.ref 2, .int p, .int q] (CW σ tg ad c g) = some (.inr 2, mm_bmp (CW σ tg ad c g) 1 6) := by
  simp only [M_39, e39_0, e39_5, e39_10, e39_13, e39_23, e39_29, aM_53, c_53x h, K0_v, K0_n, K0_x, K2_v, K2_n, K1_v, K1_n, K1_x, bI_s, bJ_s, bV_s, bS_s, l_10, l_00, bz_01, bz_0, bz_1, em_n, if_true, if_false, ite_not, ite_true, ite_false, not_true_eq_false, not_false_eq_true, or_true, true_or]
theorem c_39y {p q : Int32} (h : (0 ≤ p ∧ p < nI (c 1))) (hq : ¬ (0 ≤ q ∧ q < 3)) : mm_M 39 [.ref 2, .int p, .int q] (CW σ tg ad c g) = some (.inr 0, mm_bmp (CW σ tg ad c g) 1 6) := by
  simp only [M_39, e39_0, e39_5, e39_10, e39_13, e39_23, e39_29, aM_53, c_53 h, c_101, eq_false hq, K0_v, K0_n, K0_x, K2_v, K2_n, K1_v, K1_n, K1_x, bI_s, bJ_s, bV_s, bS_s, l_10, l_00, bz_01, bz_0, bz_1, em_n, if_true, if_false, ite_not, ite_true, ite_false, not_true_eq_false, not_false_eq_true, or_true, true_or]
end
