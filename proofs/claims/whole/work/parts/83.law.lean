/-! JOINT: the law's loop -/
theorem JI.mono {σ : mm_S} {tg : Nat → Nat × Nat} {ad : Nat × Nat → Nat} {c : Nat → Nat} {g f : Nat → Nat → Int32} {L K1 K2 K1' K2' : Nat} {s : Nat → Int32} (h : JI σ tg ad c g f L s K1 K2) (h1 : K1 ≤ K1') (h2 : K2 ≤ K2') : JI σ tg ad c g f L s K1' K2' := ⟨h.1, h.2.1, h.2.2.1, h.2.2.2.1, h.2.2.2.2.1, Nat.le_trans h.2.2.2.2.2.1 h1, Nat.le_trans h.2.2.2.2.2.2 h2⟩
theorem end_lt {L i : Nat} (hL : L ≤ 4096) (hi : i ≤ 5000) : (nI L - 8 < nI i) ↔ L < i + 8 := by
  by_cases h : 8 ≤ L
  · rw [show (8 : Int32) = nI 8 from rfl, nI_sub h, nI_ltI (by omega) (by omega)]
    omega
  · have d : ∀ k : Fin 8, nI k.1 - 8 < 0 := by decide
    have := d ⟨L, by omega⟩
    exact ⟨fun _ => by omega, fun _ => Int32.lt_of_lt_of_le this (nI_pos' (by omega))⟩
section
variable {L : Nat} {s : Nat → Int32}
theorem b_all (hL : L ≤ 4096) {i : Nat} (hi : i + 8 ≤ L) (σ : mm_S) (tg : Nat → Nat × Nat) (ad : Nat × Nat → Nat) (c : Nat → Nat) (g f : Nat → Nat → Int32) (t K1 K2 : Nat) (l5 l6 : Value) (hI : JI σ tg ad c g f L s K1 K2) : ∃ σ' tg' ad' c' g' f' t' l5' l6', mm_L 187 37 [.ref 0, .ref 2, .ref 11, .ref 34, .int (nI i), l5, l6] [.int (s i)] (JW σ tg ad c g c t f) = mm_L 187 1698 [.ref 0, .ref 2, .ref 11, .ref 34, .int (nI i), l5', l6'] [] (JW σ' tg' ad' c' g' c' t' f') ∧ JI σ' tg' ad' c' g' f' L s (K1 + 8) (K2 + 400) := by
  rw [e187_37]
  by_cases h : s i &&& 31 = 0
  · rw [if_pos h]; exact b_0 hL hi _ _ _ _ _ _ _ _ _ _ _ hI
  rw [if_neg h]
  by_cases h : s i &&& 31 = 1
  · rw [if_pos h]; exact b_1 hL hi _ _ _ _ _ _ _ _ _ _ _ hI
  rw [if_neg h]
  by_cases h : s i &&& 31 = 2
  · rw [if_pos h]; exact b_2 hL hi _ _ _ _ _ _ _ _ _ _ _ hI
  rw [if_neg h]
  by_cases h : s i &&& 31 = 3
  · rw [if_pos h]; exact b_3 hL hi _ _ _ _ _ _ _ _ _ _ _ hI
  rw [if_neg h]
  by_cases h : s i &&& 31 = 4
  · rw [if_pos h]; exact b_4 hL hi _ _ _ _ _ _ _ _ _ _ _ hI
  rw [if_neg h]
  by_cases h : s i &&& 31 = 5
  · rw [if_pos h]; exact b_5 hL hi _ _ _ _ _ _ _ _ _ _ _ hI
  rw [if_neg h]
  by_cases h : s i &&& 31 = 6
  · rw [if_pos h]; exact b_6 hL hi _ _ _ _ _ _ _ _ _ _ _ hI
  rw [if_neg h]
  by_cases h : s i &&& 31 = 7
  · rw [if_pos h]; exact b_7 hL hi _ _ _ _ _ _ _ _ _ _ _ hI
  rw [if_neg h]
  by_cases h : s i &&& 31 = 8
  · rw [if_pos h]; exact b_8 hL hi _ _ _ _ _ _ _ _ _ _ _ hI
  rw [if_neg h]
  by_cases h : s i &&& 31 = 9
  · rw [if_pos h]; exact b_9 hL hi _ _ _ _ _ _ _ _ _ _ _ hI
  rw [if_neg h]
  by_cases h : s i &&& 31 = 10
  · rw [if_pos h]; exact b_10 hL hi _ _ _ _ _ _ _ _ _ _ _ hI
  rw [if_neg h]
  by_cases h : s i &&& 31 = 11
  · rw [if_pos h]; exact b_11 hL hi _ _ _ _ _ _ _ _ _ _ _ hI
  rw [if_neg h]
  by_cases h : s i &&& 31 = 12
  · rw [if_pos h]; exact b_12 hL hi _ _ _ _ _ _ _ _ _ _ _ hI
  rw [if_neg h]
  by_cases h : s i &&& 31 = 13
  · rw [if_pos h]; exact b_13 hL hi _ _ _ _ _ _ _ _ _ _ _ hI
  rw [if_neg h]
  by_cases h : s i &&& 31 = 14
  · rw [if_pos h]; exact b_14 hL hi _ _ _ _ _ _ _ _ _ _ _ hI
  rw [if_neg h]
  by_cases h : s i &&& 31 = 15
  · rw [if_pos h]; exact b_15 hL hi _ _ _ _ _ _ _ _ _ _ _ hI
  rw [if_neg h]
  by_cases h : s i &&& 31 = 16
  · rw [if_pos h]; exact b_16 hL hi _ _ _ _ _ _ _ _ _ _ _ hI
  rw [if_neg h]
  by_cases h : s i &&& 31 = 17
  · rw [if_pos h]; exact b_17 hL hi _ _ _ _ _ _ _ _ _ _ _ hI
  rw [if_neg h]
  by_cases h : s i &&& 31 = 18
  · rw [if_pos h]; exact b_18 hL hi _ _ _ _ _ _ _ _ _ _ _ hI
  rw [if_neg h]
  by_cases h : s i &&& 31 = 19
  · rw [if_pos h]; exact b_19 hL hi _ _ _ _ _ _ _ _ _ _ _ hI
  rw [if_neg h]
  by_cases h : s i &&& 31 = 20
  · rw [if_pos h]; exact b_20 hL hi _ _ _ _ _ _ _ _ _ _ _ hI
  rw [if_neg h]
  exact ⟨σ, tg, ad, c, g, f, t, l5, l6, rfl, hI.mono (Nat.le_add_right _ _) (Nat.le_add_right _ _)⟩
theorem law_loop (hL : L ≤ 4096) : ∀ m i (σ : mm_S) (tg : Nat → Nat × Nat) (ad : Nat × Nat → Nat) (c : Nat → Nat) (g f : Nat → Nat → Int32) (t K1 K2 : Nat) (l5 l6 : Value), i ≤ 5000 → i + 8 * m ≤ 5000 → L < i + 8 * (m + 1) → JI σ tg ad c g f L s K1 K2 → ∃ τ : mm_S, mm_L 187 23 [.ref 0, .ref 2, .ref 11, .ref 34, .int (nI i), l5, l6] [] (JW σ tg ad c g c t f) = some (.inl (some (.int 1)), τ) ∧ τ.2.2.1 ≤ K1 + 8 * m ∧ τ.2.2.2 ≤ K2 + 400 * m
  | m, i, σ, tg, ad, c, g, f, t, K1, K2, l5, l6, hi, hm, hm2, hI => by
    have e0 : mm_L 187 23 [.ref 0, .ref 2, .ref 11, .ref 34, .int (nI i), l5, l6] [] (JW σ tg ad c g c t f) = if nI L - 8 < nI i then mm_L 187 1704 [.ref 0, .ref 2, .ref 11, .ref 34, .int (nI i), l5, l6] [] (JW σ tg ad c g c t f) else mm_L 187 33 [.ref 0, .ref 2, .ref 11, .ref 34, .int (nI i), l5, l6] [] (JW σ tg ad c g c t f) := by
      rw [e187_23, JW_len hI.1 hI.2.2.2.2.1]
      show mm_bI (some (nI L)) _ _ _ _ _ = _
      rw [bI_s, e187_27]
    by_cases h : L < i + 8
    · refine ⟨JW σ tg ad c g c t f, ?_, Nat.le_trans hI.2.2.2.2.2.1 (Nat.le_add_right _ _), Nat.le_trans hI.2.2.2.2.2.2 (Nat.le_add_right _ _)⟩
      rw [e0, if_pos ((end_lt hL hi).mpr h), e187_1704, if_pos (Or.inr rfl)]
    · cases m with
      | zero => exact absurd hm2 (by omega)
      | succ m =>
        obtain ⟨σ', tg', ad', c', g', f', t', l5', l6', e1, hI'⟩ := b_all hL (show i + 8 ≤ L by omega) σ tg ad c g f t K1 K2 l5 l6 hI
        obtain ⟨τ, e2, k1, k2⟩ := law_loop hL m (i + 8) σ' tg' ad' c' g' f' t' (K1 + 8) (K2 + 400) l5' l6' (by omega) (by omega) (by omega) hI'
        refine ⟨τ, ?_, by omega, by omega⟩
        rw [e0, if_neg (fun z => h ((end_lt hL hi).mp z)), e187_33, JW_get hI.1 hI.2.2.2.2.1 hL (show i < L by omega), bI_s, e1, e187_1698, np_8, e2]
end
