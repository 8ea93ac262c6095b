/-! LEVEL 2: the class lets clips go -/
/-- the heap below 11 that is no class's -/
def SB (σ σ' : mm_S) : Prop := ∀ a, a < 11 → (a < 2 ∨ 10 < a) → σ'.1 a = σ.1 a
theorem SB.rfl {σ : mm_S} : SB σ σ := fun _ _ _ => Eq.refl _
theorem SB.trans {σ τ υ : mm_S} (h : SB σ τ) (h2 : SB τ υ) : SB σ υ := fun a h3 h4 => (h2 a h3 h4).trans (h a h3 h4)
def tm (tg : Nat → Nat × Nat) (k : Nat) : Nat → Nat × Nat := fun a => if (tg a).1 = 10 ∧ (tg a).2 / 1000 = k then (0, 0) else tg a
def lgc (p q : Int32) (c : Nat → Nat) (g : Nat → Nat → Int32) (k : Nat) : Prop := g 23 k = 0 ∧ ((((g 24 k >>> (p &&& 31)) &&& 1 = 1) ∧ (q = -1 ∨ g 25 k = q)) ∨ gv g (c (200 + k)) ≠ 0 ∨ gv g (c (300 + k)) ≠ 0)
noncomputable def lgd (p q : Int32) (c : Nat → Nat) (g : Nat → Nat → Int32) (k : Nat) : Decidable (lgc p q c g k) := by unfold lgc; infer_instance
noncomputable def lgs (p q : Int32) (k : Nat) (X : Int32 × (Nat → Nat) × (Nat → Nat → Int32)) : Int32 × (Nat → Nat) × (Nat → Nat → Int32) := @ite _ (lgc p q X.2.1 X.2.2 k) (lgd p q X.2.1 X.2.2 k) (X.1 + 1, u2 X.2.1 (100 + k) 0, uf X.2.2 23 k 1) X
section
variable {σ : mm_S} {tg : Nat → Nat × Nat} {ad : Nat × Nat → Nat} {c : Nat → Nat} {g : Nat → Nat → Int32} {n : Nat}
theorem CO_uf23 {i k' i' : Nat} {x : Int32} (h : ¬ (k' = 8 ∧ i' = i)) : CO ad c (uf g 23 i x) k' i' = CO ad c g k' i' := by
  have w : ∀ r', ¬ r' = 23 → uf g 23 i x r' = g r' := fun r' q => uf_n q
  match k' with
  | 8 =>
    have hi : i' ≠ i := fun z => h ⟨rfl, z⟩
    show Sum.inl (0, _) = Sum.inl (0, _)
    rw [uf_o (by omega), w 24 (by decide), w 25 (by decide)]
  | 0 => unfold CO; simp only [w 40 (by decide), w 41 (by decide), w 42 (by decide), w 43 (by decide), w 44 (by decide)]
  | 1 => unfold CO; simp only [w 12 (by decide)]
  | 2 => unfold CO; simp only [w 13 (by decide), w 14 (by decide), w 15 (by decide), w 35 (by decide)]
  | 3 => unfold CO; simp only [w 34 (by decide)]
  | 4 => unfold CO; simp only [w 33 (by decide)]
  | 5 => unfold CO; simp only [w 18 (by decide), w 19 (by decide), w 20 (by decide)]
  | 6 => unfold CO; simp only [w 21 (by decide)]
  | 7 => unfold CO; simp only [w 22 (by decide)]
  | 9 => rfl
  | k + 10 => unfold CO; simp only [w 40 (by decide), w 41 (by decide), w 42 (by decide), w 43 (by decide), w 44 (by decide)]
theorem cw_85 (w : WF tg ad c n) {k : Nat} {x : Int32} (hk : k < c 4) : mm_setf (CW σ tg ad c g) (ad (8, k)) 0 5 (.int x) = some (CW σ tg ad c (uf g 23 k x)) := by
  obtain ⟨L8, L9⟩ := w.cl hk
  unfold mm_setf
  rw [CW_tg L8 (by decide)]
  show (if 0 = 0 ∧ 5 < 6 then some (mm_put (CW σ tg ad c g) (ad (8, k)) (Sum.inl (0, List.set _ 5 (.int x)))) else none) = _
  rw [if_pos ⟨rfl, by omega⟩]
  refine congrArg some (CW_put w.2.IN L8 (by decide) ?_ ⟨rfl, rfl, rfl, rfl, rfl⟩ (fun k' i' h => CO_uf23 h) (uf_n (by decide)) (uf_n (by decide)) (uf_n (by decide)))
  show Sum.inl (0, _) = Sum.inl (0, _)
  rw [uf_n (show 24 ≠ 23 by decide), uf_n (show 25 ≠ 23 by decide), uf_s]
  simp [upd]
theorem CO_100 {k K I x : Nat} (hk : k < 100) (h : ¬ (K = 9 ∧ I = k)) : CO ad (u2 c (100 + k) x) g K I = CO ad c g K I := by
  match K with
  | 9 =>
    have hi : I ≠ k := fun z => h ⟨rfl, z⟩
    show Sum.inr _ = Sum.inr _
    rw [u2_n (show 100 + I ≠ 100 + k by omega)]
  | 8 =>
    show Sum.inl (0, _) = Sum.inl (0, _)
    rw [u2_n (show 200 + I ≠ 100 + k by omega), u2_n (show 300 + I ≠ 100 + k by omega)]
  | 0 => rfl
  | 1 => rfl
  | 2 => rfl
  | 3 => rfl
  | 4 => rfl
  | 5 => rfl
  | 6 => rfl
  | 7 => rfl
  | K + 10 => rfl
theorem cl_9 (w : WF tg ad c n) {k : Nat} (hk : k < c 4) : mm_lcl (CW σ tg ad c g) (ad (9, k)) = some (CW (CW σ tg ad c g) (tm tg k) ad (u2 c (100 + k) 0) g) := by
  obtain ⟨L8, L9⟩ := w.cl hk
  have b4 := w.1.2.2.2.2.1
  have key : mm_lcl (CW σ tg ad c g) (ad (9, k)) = some (mm_put (CW σ tg ad c g) (ad (9, k)) (.inr (.inr (.inr [])))) := by
    unfold mm_lcl mm_lst
    rw [CW_tg L9 (by decide)]
    rfl
  rw [key]
  refine congrArg some (Prod.ext (funext fun a => ?_) rfl)
  show (if a = ad (9, k) then _ else (CW σ tg ad c g).1 a) = _
  by_cases e9 : a = ad (9, k)
  · subst e9
    have hl : 10 < ad (9, k) := by have := L9.2; omega
    have ht : tm tg k (ad (9, k)) = (9, k) := by
      unfold tm
      rw [L9.1, if_neg (fun z => by cases z.1)]
    rw [if_pos rfl, CW_hi (Or.inr hl), ht]
    show _ = some (Sum.inr (Sum.inr (Sum.inr (List.map _ (List.range (u2 c (100 + k) 0 (100 + k)))))))
    rw [u2_s]
    rfl
  · rw [if_neg e9]
    by_cases e2 : a < 2 ∨ 10 < a
    · rw [CW_hi e2 (tg := tm tg k)]
      unfold tm
      by_cases h : (tg a).1 = 10 ∧ (tg a).2 / 1000 = k
      · rw [if_pos h, if_pos rfl]
      · rw [if_neg h]
        by_cases h0 : (tg a).1 = 0
        · rw [if_pos h0]
        · rw [if_neg h0, CO_100 (by omega), CW_hi e2, if_neg h0]
          rintro ⟨q1, q2⟩
          apply e9
          rw [← (w.2.2.1 a h0).2.1, ← q1, ← q2]
    · exact CW_lo e2 (fun _ => by rw [u2_n (by omega)]) (fun _ => by rw [u2_n (by omega)]) (fun _ => by rw [u2_n (by omega)]) (fun _ => by rw [u2_n (by omega)]) (fun _ => by rw [u2_n (by omega)]) (fun _ => rfl) (fun _ => rfl) (fun _ => rfl)
theorem WF.gon (w : WF tg ad c n) {k : Nat} (hk : k < c 4) : WF (tm tg k) ad (u2 c (100 + k) 0) n := by
  obtain ⟨⟨b0, b1, b2, b3, b4, b5⟩, p1, p2, p3⟩ := w
  have ul : ∀ q, q < 5 → u2 c (100 + k) 0 q = c q := fun q hq => u2_n (by omega)
  refine ⟨⟨by rw [ul 0 (by decide)]; exact b0, by rw [ul 1 (by decide)]; exact b1, by rw [ul 2 (by decide)]; exact b2, by rw [ul 3 (by decide)]; exact b3, by rw [ul 4 (by decide)]; exact b4, ?_⟩, ?_, ?_, p3⟩
  · intro i hi
    rw [ul 4 (by decide)] at hi
    rw [u2_n (show 200 + i ≠ 100 + k by omega), u2_n (show 300 + i ≠ 100 + k by omega)]
    refine ⟨?_, (b5 i hi).2⟩
    unfold u2
    split
    · omega
    · exact (b5 i hi).1
  · intro K i h
    unfold LI at h
    rw [ul 0 (by decide), ul 1 (by decide), ul 2 (by decide), ul 3 (by decide), ul 4 (by decide)] at h
    have hx : ¬ (K = 10 ∧ i / 1000 = k) := by
      rintro ⟨rfl, h2⟩
      rw [h2, u2_s] at h
      omega
    have hy : K = 10 → u2 c (100 + k) 0 (100 + i / 1000) = c (100 + i / 1000) := fun z => u2_n (by omega)
    obtain ⟨⟨l1, l2⟩, l3⟩ := p1 K i (by
      unfold LI
      by_cases z : K = 10
      · rw [hy z] at h; exact h
      · omega)
    refine ⟨⟨?_, l2⟩, l3⟩
    unfold tm
    rw [l1, if_neg hx]
  · intro a h
    unfold tm at h ⊢
    by_cases e : (tg a).1 = 10 ∧ (tg a).2 / 1000 = k
    · rw [if_pos e] at h; exact absurd rfl h
    · rw [if_neg e] at h ⊢
      obtain ⟨q1, q2⟩ := p2 a h
      refine ⟨?_, q2⟩
      unfold LI at q1 ⊢
      rw [ul 0 (by decide), ul 1 (by decide), ul 2 (by decide), ul 3 (by decide), ul 4 (by decide)]
      by_cases z : (tg a).1 = 10
      · rw [u2_n (show 100 + (tg a).2 / 1000 ≠ 100 + k by omega)]
        exact q1
      · omega
theorem l_92 (p q : Int32) {n : Nat} {N : Nat} : ∀ m k (x : Int32) (σ : mm_S) (tg : Nat → Nat × Nat) (c : Nat → Nat) (g : Nat → Nat → Int32) (l5 l6 : Value), WF tg ad c n → c 4 = N → k + m = N → ∃ σ' tg', mm_L 92 5 [.ref 2, .int p, .int q, .int x, .int (nI k), l5, l6] [] (CW σ tg ad c g) = some (.inl (some (.int (up (lgs p q) m k (x, c, g)).1)), CW σ' tg' ad (up (lgs p q) m k (x, c, g)).2.1 (up (lgs p q) m k (x, c, g)).2.2) ∧ WF tg' ad (up (lgs p q) m k (x, c, g)).2.1 n ∧ SB σ σ' ∧ σ'.2 = σ.2
  | 0, k, x, σ, tg, c, g, l5, l6, w, hN, hk => by
    have b4 := w.1.2.2.2.2.1
    have z := eq_true (nI_le (a := c 4) (b := k) (by omega) (by omega))
    refine ⟨σ, tg, ?_, w, SB.rfl, rfl⟩
    rw [e92_5]
    simp only [cf_4, cz_7, z, e92_11, e92_14, e92_105, K0_v, K0_n, K0_x, K2_v, K2_n, K1_v, K1_n, K1_x, bI_s, bJ_s, bV_s, bS_s, l_10, l_00, bz_01, bz_0, bz_1, em_n, if_true, if_false, ite_not, ite_true, ite_false, not_true_eq_false, not_false_eq_true, or_true, true_or, up]
  | m + 1, k, x, σ, tg, c, g, l5, l6, w, hN, hk => by
    have b4 := w.1.2.2.2.2.1
    have hk' : k < c 4 := by omega
    obtain ⟨L8, L9⟩ := w.cl hk'
    have z := eq_false (nI_ge (a := k) (b := c 4) hk' (by omega))
    have s66 : ∃ P : Prop, ∃ _ : Decidable P, (P ↔ ((g 24 k >>> (p &&& 31)) &&& 1 = 1) ∧ (q = -1 ∨ g 25 k = q)) ∧ mm_L 92 5 [.ref 2, .int p, .int q, .int x, .int (nI k), l5, l6] [] (CW σ tg ad c g) = mm_L 92 66 [.ref 2, .int p, .int q, .int x, .int (nI k), .ref (ad (8, k)), .int (bz P)] [.int (g 23 k)] (CW σ tg ad c g) := by
      by_cases h1 : (g 24 k >>> (p &&& 31)) &&& 1 = 1
      · by_cases h2 : q = -1
        · refine ⟨True, inferInstance, ⟨fun _ => ⟨h1, Or.inl h2⟩, fun _ => trivial⟩, ?_⟩
          rw [e92_5]
          simp only [cf_4, cz_7, z, e92_11, e92_14, e92_17, e92_21, e92_26, e92_29, e92_37, e92_40, e92_45, e92_50, e92_54, e92_58, e92_59, cg_7 hk' (by omega), ck_8 L8, pM_1 L8, c_1 L8, eq_true h1, eq_true h2, ci_8_5 L8, one_ne, bz_t True.intro, K0_v, K0_n, K0_x, K2_v, K2_n, K1_v, K1_n, K1_x, bI_s, bJ_s, bV_s, bS_s, l_10, l_00, bz_01, bz_0, bz_1, em_n, if_true, if_false, ite_not, ite_true, ite_false, not_true_eq_false, not_false_eq_true, or_true, true_or]
        · by_cases h3 : g 25 k = q
          · refine ⟨True, inferInstance, ⟨fun _ => ⟨h1, Or.inr h3⟩, fun _ => trivial⟩, ?_⟩
            rw [e92_5]
            simp only [cf_4, cz_7, z, e92_11, e92_14, e92_17, e92_21, e92_26, e92_29, e92_37, e92_40, e92_45, e92_50, e92_54, e92_58, e92_59, cg_7 hk' (by omega), ck_8 L8, pM_1 L8, c_1 L8, eq_true h1, eq_false h2, ci_8_1 L8, eq_true h3, ci_8_5 L8, one_ne, bz_t True.intro, K0_v, K0_n, K0_x, K2_v, K2_n, K1_v, K1_n, K1_x, bI_s, bJ_s, bV_s, bS_s, l_10, l_00, bz_01, bz_0, bz_1, em_n, if_true, if_false, ite_not, ite_true, ite_false, not_true_eq_false, not_false_eq_true, or_true, true_or]
          · refine ⟨False, inferInstance, ⟨fun y => y.elim, fun y => y.2.elim h2 h3⟩, ?_⟩
            rw [e92_5]
            simp only [cf_4, cz_7, z, e92_11, e92_14, e92_17, e92_21, e92_26, e92_29, e92_37, e92_40, e92_45, e92_50, e92_54, e92_58, e92_59, cg_7 hk' (by omega), ck_8 L8, pM_1 L8, c_1 L8, eq_true h1, eq_false h2, ci_8_1 L8, eq_false h3, ci_8_5 L8, one_ne, bz_f not_false, K0_v, K0_n, K0_x, K2_v, K2_n, K1_v, K1_n, K1_x, bI_s, bJ_s, bV_s, bS_s, l_10, l_00, bz_01, bz_0, bz_1, em_n, if_true, if_false, ite_not, ite_true, ite_false, not_true_eq_false, not_false_eq_true, or_true, true_or]
      · refine ⟨False, inferInstance, ⟨fun y => y.elim, fun y => h1 y.1⟩, ?_⟩
        rw [e92_5]
        simp only [cf_4, cz_7, z, e92_11, e92_14, e92_17, e92_21, e92_26, e92_29, e92_37, e92_40, e92_45, e92_50, e92_54, e92_58, e92_59, cg_7 hk' (by omega), ck_8 L8, pM_1 L8, c_1 L8, eq_false h1, ci_8_5 L8, one_ne, bz_f not_false, K0_v, K0_n, K0_x, K2_v, K2_n, K1_v, K1_n, K1_x, bI_s, bJ_s, bV_s, bS_s, l_10, l_00, bz_01, bz_0, bz_1, em_n, if_true, if_false, ite_not, ite_true, ite_false, not_true_eq_false, not_false_eq_true, or_true, true_or]
    obtain ⟨P, dP, hP, s66⟩ := s66
    rw [s66]
    have es : up (lgs p q) (m + 1) k (x, c, g) = up (lgs p q) m (k + 1) (lgs p q k (x, c, g)) := rfl
    rw [es]
    have stay : ¬ lgc p q c g k → mm_L 92 66 [.ref 2, .int p, .int q, .int x, .int (nI k), .ref (ad (8, k)), .int (bz P)] [.int (g 23 k)] (CW σ tg ad c g) = mm_L 92 5 [.ref 2, .int p, .int q, .int x, .int (nI (k + 1)), .ref (ad (8, k)), .int (bz P)] [] (CW σ tg ad c g) := fun h => by
      by_cases h0 : g 23 k = 0
      · have hP' : ¬ P := fun y => h ⟨h0, Or.inl (hP.mp y)⟩
        have hQ : ¬ (gv g (c (200 + k)) ≠ 0 ∨ gv g (c (300 + k)) ≠ 0) := fun y => h ⟨h0, Or.inr y⟩
        simp only [e92_66, e92_69, e92_74, e92_79, e92_82, e92_88, e92_93, e92_96, e92_99, eq_true h0, eq_false hP', pM_2 L8, c_2 w hk', eq_false hQ, nI_1, K0_v, K0_n, K0_x, K2_v, K2_n, K1_v, K1_n, K1_x, bI_s, bJ_s, bV_s, bS_s, l_10, l_00, bz_01, bz_0, bz_1, em_n, if_true, if_false, ite_not, ite_true, ite_false, not_true_eq_false, not_false_eq_true, or_true, true_or]
      · simp only [e92_66, e92_69, e92_74, e92_79, e92_82, e92_88, e92_93, e92_96, e92_99, eq_false h0, nI_1, K0_v, K0_n, K0_x, K2_v, K2_n, K1_v, K1_n, K1_x, bI_s, bJ_s, bV_s, bS_s, l_10, l_00, bz_01, bz_0, bz_1, em_n, if_true, if_false, ite_not, ite_true, ite_false, not_true_eq_false, not_false_eq_true, or_true, true_or]
    have goes : lgc p q c g k → mm_L 92 66 [.ref 2, .int p, .int q, .int x, .int (nI k), .ref (ad (8, k)), .int (bz P)] [.int (g 23 k)] (CW σ tg ad c g) = mm_L 92 5 [.ref 2, .int p, .int q, .int (x + 1), .int (nI (k + 1)), .ref (ad (8, k)), .int (bz P)] [] (CW (CW σ tg ad c (uf g 23 k 1)) (tm tg k) ad (u2 c (100 + k) 0) (uf g 23 k 1)) := fun h => by
      have h0 := h.1
      by_cases hP' : P
      · simp only [e92_66, e92_69, e92_74, e92_79, e92_82, e92_88, e92_93, e92_96, e92_99, eq_true h0, eq_true hP', cw_85 w hk', cr_8_4 L8, cl_9 w hk', nI_1, K0_v, K0_n, K0_x, K2_v, K2_n, K1_v, K1_n, K1_x, bI_s, bJ_s, bV_s, bS_s, l_10, l_00, bz_01, bz_0, bz_1, em_n, if_true, if_false, ite_not, ite_true, ite_false, not_true_eq_false, not_false_eq_true, or_true, true_or]
      · have hQ : gv g (c (200 + k)) ≠ 0 ∨ gv g (c (300 + k)) ≠ 0 := h.2.elim (fun y => absurd (hP.mpr y) hP') id
        simp only [e92_66, e92_69, e92_74, e92_79, e92_82, e92_88, e92_93, e92_96, e92_99, eq_true h0, eq_false hP', pM_2 L8, c_2 w hk', eq_true hQ, cw_85 w hk', cr_8_4 L8, cl_9 w hk', nI_1, K0_v, K0_n, K0_x, K2_v, K2_n, K1_v, K1_n, K1_x, bI_s, bJ_s, bV_s, bS_s, l_10, l_00, bz_01, bz_0, bz_1, em_n, if_true, if_false, ite_not, ite_true, ite_false, not_true_eq_false, not_false_eq_true, or_true, true_or]
    by_cases h : lgc p q c g k
    · have e : lgs p q k (x, c, g) = (x + 1, u2 c (100 + k) 0, uf g 23 k 1) := if_pd h
      obtain ⟨σ', tg', y1, y2, y3, y4⟩ := l_92 p q m (k + 1) (x + 1) (CW σ tg ad c (uf g 23 k 1)) (tm tg k) (u2 c (100 + k) 0) (uf g 23 k 1) (.ref (ad (8, k))) (.int (bz P)) (w.gon hk') ((u2_n (show 4 ≠ 100 + k by omega)).trans hN) (by omega)
      refine ⟨σ', tg', ?_, ?_, ?_, y4⟩
      · rw [goes h, e]; exact y1
      · rw [e]; exact y2
      · refine SB.trans (fun a h1 h2 => ?_) y3
        rw [CW_mid h2 (w.2.no (Or.inl h1))]
    · have e : lgs p q k (x, c, g) = (x, c, g) := if_nd h
      obtain ⟨σ', tg', y1, y2, y3, y4⟩ := l_92 p q m (k + 1) x σ tg c g (.ref (ad (8, k))) (.int (bz P)) w hN (by omega)
      refine ⟨σ', tg', ?_, ?_, y3, y4⟩
      · rw [stay h, e]; exact y1
      · rw [e]; exact y2
theorem c_92 (w : WF tg ad c n) (p q : Int32) : ∃ σ' tg', mm_M 92 [.ref 2, .int p, .int q] (CW σ tg ad c g) = some (.inl (some (.int (up (lgs p q) (c 4) 0 (0, c, g)).1)), CW σ' tg' ad (up (lgs p q) (c 4) 0 (0, c, g)).2.1 (up (lgs p q) (c 4) 0 (0, c, g)).2.2) ∧ WF tg' ad (up (lgs p q) (c 4) 0 (0, c, g)).2.1 n ∧ SB σ σ' ∧ σ'.2 = σ.2 := by
  have l := l_92 (ad := ad) p q (c 4) 0 0 σ tg c g mm_un mm_un w rfl (by omega)
  rw [nI_0] at l
  rw [M_92, e92_0]
  exact l
-- withdraw, allow
theorem c_87x {p : Int32} (h : ¬ (0 ≤ p ∧ p < 6)) : mm_M 87 [.ref 2, .int p] (CW σ tg ad c g) = some (.inr 2, mm_bmp (CW σ tg ad c g) 1 6) := by
  simp only [M_87, e87_0, e87_4, e87_10, c_97x h, K0_v, K0_n, K0_x, K2_v, K2_n, K1_v, K1_n, K1_x, bI_s, bJ_s, bV_s, bS_s, l_10, l_00, bz_01, bz_0, bz_1, em_n, if_true, if_false, ite_not, ite_true, ite_false, not_true_eq_false, not_false_eq_true, or_true, true_or]
theorem c_87 (w : WF tg ad c n) {p : Int32} (h : 0 ≤ p ∧ p < 6) : ∃ σ' tg', mm_M 87 [.ref 2, .int p] (CW σ tg ad c g) = some (.inl (some (.int (up (lgs p (-1)) (c 4) 0 (0, c, g)).1)), CW σ' tg' ad (up (lgs p (-1)) (c 4) 0 (0, c, g)).2.1 (up (lgs p (-1)) (c 4) 0 (0, c, g)).2.2) ∧ WF tg' ad (up (lgs p (-1)) (c 4) 0 (0, c, g)).2.1 n ∧ SB σ σ' ∧ σ'.2 = σ.2 := by
  obtain ⟨σ', tg', y1, y2⟩ := c_92 (σ := σ) (g := g) w p (-1)
  refine ⟨σ', tg', ?_, y2⟩
  simp only [M_87, e87_0, e87_4, e87_10, c_97 h, aM_92, y1, K0_v, K0_n, K0_x, K2_v, K2_n, K1_v, K1_n, K1_x, bI_s, bJ_s, bV_s, bS_s, l_10, l_00, bz_01, bz_0, bz_1, em_n, if_true, if_false, ite_not, ite_true, ite_false, not_true_eq_false, not_false_eq_true, or_true, true_or]
theorem c_86x {p q b : Int32} (h : ¬ (0 ≤ p ∧ p < 6)) : mm_M 86 [.ref 2, .int p, .int q, .int b] (CW σ tg ad c g) = some (.inr 2, mm_bmp (CW σ tg ad c g) 1 6) := by
  simp only [M_86, e86_0, e86_4, e86_8, e86_12, e86_16, e86_19, e86_26, e86_28, e86_32, e86_35, e86_40, e86_46, c_97x h, K0_v, K0_n, K0_x, K2_v, K2_n, K1_v, K1_n, K1_x, bI_s, bJ_s, bV_s, bS_s, l_10, l_00, bz_01, bz_0, bz_1, em_n, if_true, if_false, ite_not, ite_true, ite_false, not_true_eq_false, not_false_eq_true, or_true, true_or]
theorem c_86y {p q b : Int32} (h : 0 ≤ p ∧ p < 6) (hq : ¬ (0 ≤ q ∧ q < 3)) : mm_M 86 [.ref 2, .int p, .int q, .int b] (CW σ tg ad c g) = some (.inr 0, mm_bmp (CW σ tg ad c g) 1 6) := by
  simp only [M_86, e86_0, e86_4, e86_8, e86_12, e86_16, e86_19, e86_26, e86_28, e86_32, e86_35, e86_40, e86_46, c_97 h, c_98x hq, K0_v, K0_n, K0_x, K2_v, K2_n, K1_v, K1_n, K1_x, bI_s, bJ_s, bV_s, bS_s, l_10, l_00, bz_01, bz_0, bz_1, em_n, if_true, if_false, ite_not, ite_true, ite_false, not_true_eq_false, not_false_eq_true, or_true, true_or]
theorem cw_8 {k : Nat} {x : Int32} (hk : k < 3) : mm_ast (CW σ tg ad c g) 8 (nI k) 0 x = some (CW σ tg ad c (uf g 28 k x)) := by
  have key : mm_ast (CW σ tg ad c g) 8 (nI k) 0 x = some (mm_put (CW σ tg ad c g) 8 (.inr (.inl (0, 3, upd (g 28) k x)))) := by
    unfold mm_ast mm_arr
    have e : (CW σ tg ad c g).1 8 = some (.inr (.inl (0, 3, g 28))) := rfl
    rw [e]
    show (if nI k < 0 ∨ 3 ≤ (nI k).toNatClampNeg then none else _) = _
    rw [nI_clamp (by omega), if_neg (fun q => q.elim (nI_pos (by omega)) (by omega))]
    rfl
  rw [key, CW_row (L := 3) (r := 28) (by omega), uf_row]
theorem c_86t {p b : Int32} {q : Nat} (h : 0 ≤ p ∧ p < 6) (hq : q < 3) (hb : b ≠ 0) : mm_M 86 [.ref 2, .int p, .int (nI q), .int b] (CW σ tg ad c g) = some (.inl (some (.int 0)), CW σ tg ad c (uf g 28 q (g 28 q &&& ((1 <<< (p &&& 31)) ^^^ (-1))))) := by
  have h2 : 0 ≤ nI q ∧ nI q < 3 := ⟨nI_pos' (by omega), show nI q < nI 3 from nI_lt hq (by decide)⟩
  simp only [M_86, e86_0, e86_4, e86_8, e86_12, e86_16, e86_19, e86_26, e86_28, e86_32, e86_35, e86_40, e86_46, c_97 h, c_98 h2, eq_false hb, cf_5, cb_a8 hq, cw_8 hq, K0_v, K0_n, K0_x, K2_v, K2_n, K1_v, K1_n, K1_x, bI_s, bJ_s, bV_s, bS_s, l_10, l_00, bz_01, bz_0, bz_1, em_n, if_true, if_false, ite_not, ite_true, ite_false, not_true_eq_false, not_false_eq_true, or_true, true_or]
theorem c_86 (w : WF tg ad c n) {p : Int32} {q : Nat} (h : 0 ≤ p ∧ p < 6) (hq : q < 3) : ∃ σ' tg', mm_M 86 [.ref 2, .int p, .int (nI q), .int 0] (CW σ tg ad c g) = some (.inl (some (.int (up (lgs p (nI q)) (c 4) 0 (0, c, uf g 28 q (g 28 q ||| (1 <<< (p &&& 31))))).1)), CW σ' tg' ad (up (lgs p (nI q)) (c 4) 0 (0, c, uf g 28 q (g 28 q ||| (1 <<< (p &&& 31))))).2.1 (up (lgs p (nI q)) (c 4) 0 (0, c, uf g 28 q (g 28 q ||| (1 <<< (p &&& 31))))).2.2) ∧ WF tg' ad (up (lgs p (nI q)) (c 4) 0 (0, c, uf g 28 q (g 28 q ||| (1 <<< (p &&& 31))))).2.1 n ∧ SB σ σ' ∧ σ'.2 = σ.2 := by
  have h2 : 0 ≤ nI q ∧ nI q < 3 := ⟨nI_pos' (by omega), show nI q < nI 3 from nI_lt hq (by decide)⟩
  obtain ⟨σ', tg', y1, y2⟩ := c_92 (σ := σ) (g := uf g 28 q (g 28 q ||| (1 <<< (p &&& 31)))) w p (nI q)
  refine ⟨σ', tg', ?_, y2⟩
  simp only [M_86, e86_0, e86_4, e86_8, e86_12, e86_16, e86_19, e86_26, e86_28, e86_32, e86_35, e86_40, e86_46, c_97 h, c_98 h2, cf_5, cb_a8 hq, cw_8 hq, aM_92, y1, K0_v, K0_n, K0_x, K2_v, K2_n, K1_v, K1_n, K1_x, bI_s, bJ_s, bV_s, bS_s, l_10, l_00, bz_01, bz_0, bz_1, em_n, if_true, if_false, ite_not, ite_true, ite_false, not_true_eq_false, not_false_eq_true, or_true, true_or]
end
