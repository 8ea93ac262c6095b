/-! LEVEL 2: the class's face and clear -/
def bc (g : Nat → Nat → Int32) (a p q : Int32) (k : Nat) : Prop := ar (g 18 k) = a ∧ g 19 k ≤ q ∧ p ≤ g 20 k
noncomputable def bcd (g : Nat → Nat → Int32) (a p q : Int32) : DecidablePred (bc g a p q) := fun k => by unfold bc; infer_instance
section
variable {σ : mm_S} {tg : Nat → Nat × Nat} {ad : Nat × Nat → Nat} {c : Nat → Nat} {g : Nat → Nat → Int32}
theorem l_49 {n : Nat} (h : WF tg ad c n) (a p q : Int32) : ∀ m k (l5 : Value), k + m = c 2 → mm_L 49 3 [.ref 2, .int a, .int p, .int q, .int (nI k), l5] [] (CW σ tg ad c g) = some (.inl (some (.int (if (@fi (bc g a p q) (bcd g a p q) m k).isSome = true then 1 else 0))), (CW σ tg ad c g))
  | 0, k, l5, hk => by
    have hc := h.1.2.2.1
    have z := eq_true (nI_le (a := c 2) (b := k) (by omega) (by omega))
    rw [e49_3]
    simp only [cf_2, cz_5, z, e49_9, e49_12, e49_67, K0_v, K0_n, K0_x, K2_v, K2_n, K1_v, K1_n, K1_x, bI_s, bJ_s, bV_s, bS_s, l_10, l_00, bz_01, bz_0, bz_1, em_n, if_true, if_false, ite_not, ite_true, ite_false, not_true_eq_false, not_false_eq_true, or_true, true_or]
    rfl
  | m + 1, k, l5, hk => by
    have hc := h.1.2.2.1
    have hk1 : k < c 2 := by omega
    have L := h.f hk1
    have z := eq_false (nI_ge (a := k) (b := c 2) hk1 (by omega))
    rw [e49_3]
    simp only [cf_2, cz_5, z, cg_5 hk1 (by omega), ck_5 L, ci_5_0 L, ci_5_1 L, ci_5_2 L, c_52, e49_0, e49_9, e49_12, e49_15, e49_19, e49_24, e49_27, e49_34, e49_37, e49_41, e49_46, e49_50, e49_56, e49_59, e49_61, e49_67, nI_1, l_49 h a p q m (k + 1) _ (show k + 1 + m = c 2 by omega), K0_v, K0_n, K0_x, K2_v, K2_n, K1_v, K1_n, K1_x, bI_s, bJ_s, bV_s, bS_s, l_10, l_00, bz_01, bz_0, bz_1, em_n, if_true, if_false, ite_not, ite_true, ite_false, not_true_eq_false, not_false_eq_true, or_true, true_or]
    by_cases h1 : ar (g 18 k) = a
    · by_cases h2 : q < g 19 k
      · have n : ¬ bc g a p q k := fun y => nle_of_lt h2 y.2.1
        simp only [eq_true h1, eq_true h2, fi, if_neg n, K0_v, K0_n, K0_x, K2_v, K2_n, K1_v, K1_n, K1_x, bI_s, bJ_s, bV_s, bS_s, l_10, l_00, bz_01, bz_0, bz_1, em_n, if_true, if_false, ite_not, ite_true, ite_false, not_true_eq_false, not_false_eq_true, or_true, true_or]
      · by_cases h3 : g 20 k < p
        · have n : ¬ bc g a p q k := fun y => nle_of_lt h3 y.2.2
          simp only [eq_true h1, eq_false h2, eq_true h3, fi, if_neg n, K0_v, K0_n, K0_x, K2_v, K2_n, K1_v, K1_n, K1_x, bI_s, bJ_s, bV_s, bS_s, l_10, l_00, bz_01, bz_0, bz_1, em_n, if_true, if_false, ite_not, ite_true, ite_false, not_true_eq_false, not_false_eq_true, or_true, true_or]
        · have n : bc g a p q k := ⟨h1, Int32.not_lt.mp h2, Int32.not_lt.mp h3⟩
          simp only [eq_true h1, eq_false h2, eq_false h3, fi, if_pos n, Option.isSome, K0_v, K0_n, K0_x, K2_v, K2_n, K1_v, K1_n, K1_x, bI_s, bJ_s, bV_s, bS_s, l_10, l_00, bz_01, bz_0, bz_1, em_n, if_true, if_false, ite_not, ite_true, ite_false, not_true_eq_false, not_false_eq_true, or_true, true_or]
    · have n : ¬ bc g a p q k := fun y => h1 y.1
      simp only [eq_false h1, fi, if_neg n, K0_v, K0_n, K0_x, K2_v, K2_n, K1_v, K1_n, K1_x, bI_s, bJ_s, bV_s, bS_s, l_10, l_00, bz_01, bz_0, bz_1, em_n, if_true, if_false, ite_not, ite_true, ite_false, not_true_eq_false, not_false_eq_true, or_true, true_or]
theorem c_49 {n : Nat} (h : WF tg ad c n) (a p q : Int32) : mm_M 49 [.ref 2, .int a, .int p, .int q] (CW σ tg ad c g) = some (.inl (some (.int (if (@fi (bc g a p q) (bcd g a p q) (c 2) 0).isSome = true then 1 else 0))), (CW σ tg ad c g)) := by
  have l := l_49 (σ := σ) (g := g) h a p q (c 2) 0 mm_un (by omega)
  rw [nI_0] at l
  rw [M_49, e49_0]
  exact l
theorem c_22 {τ : mm_S} {w : Nat} (a b d : Int32) : mm_Mo 22 τ.2.1 [.int a, .int b, .int d] (mm_new τ (.inl (5, [.int 0, .int 0, .int 0])) w) = some (.inl none, mm_new τ (.inl (5, [.int a, .int b, .int d])) w) := by
  rw [rc_new (show mm_own 22 = 5 from rfl)]
  simp only [M_22, e22_0, e22_9, e22_14, e22_19, setf_new, List.length_cons, List.length_nil, List.set_cons_zero, List.set_cons_succ, Nat.reduceAdd, Nat.reduceLT, K0_v, K0_n, K0_x, K2_v, K2_n, K1_v, K1_n, K1_x, bI_s, bJ_s, bV_s, bS_s, l_10, l_00, bz_01, bz_0, bz_1, em_n, if_true, if_false, ite_not, ite_true, ite_false, not_true_eq_false, not_false_eq_true, or_true, true_or]
theorem c_38a {a p q : Int32} (h : ¬ ((0 ≤ p ∧ p < nI (c 1)) ∧ (0 ≤ q ∧ q < nI (c 1)))) : mm_M 38 [.ref 2, .int a, .int p, .int q] (CW σ tg ad c g) = some (.inr 2, mm_bmp (CW σ tg ad c g) 1 6) := by
  by_cases h1 : 0 ≤ p ∧ p < nI (c 1)
  · have h2 : ¬ (0 ≤ q ∧ q < nI (c 1)) := fun z => h ⟨h1, z⟩
    simp only [M_38, e38_0, e38_5, e38_10, aM_53, c_53 h1, c_53x h2, K0_v, K0_n, K0_x, K2_v, K2_n, K1_v, K1_n, K1_x, bI_s, bJ_s, bV_s, bS_s, l_10, l_00, bz_01, bz_0, bz_1, em_n, if_true, if_false, ite_not, ite_true, ite_false, not_true_eq_false, not_false_eq_true, or_true, true_or]
  · simp only [M_38, e38_0, e38_5, e38_10, aM_53, c_53x h1, K0_v, K0_n, K0_x, K2_v, K2_n, K1_v, K1_n, K1_x, bI_s, bJ_s, bV_s, bS_s, l_10, l_00, bz_01, bz_0, bz_1, em_n, if_true, if_false, ite_not, ite_true, ite_false, not_true_eq_false, not_false_eq_true, or_true, true_or]
theorem c_38b {a p q : Int32} (h1 : 0 ≤ p ∧ p < nI (c 1)) (h2 : 0 ≤ q ∧ q < nI (c 1)) (h : ¬ ((0 ≤ a ∧ a < 4) ∧ p ≤ q)) : mm_M 38 [.ref 2, .int a, .int p, .int q] (CW σ tg ad c g) = some (.inr 0, mm_bmp (CW σ tg ad c g) 1 6) := by
  by_cases h3 : 0 ≤ a ∧ a < 4
  · have h4 : ¬ p ≤ q := fun z => h ⟨h3, z⟩
    simp only [M_38, e38_0, e38_5, e38_10, e38_15, e38_18, e38_23, aM_53, c_53 h1, c_53 h2, c_101, eq_true h3, eq_false h4, K0_v, K0_n, K0_x, K2_v, K2_n, K1_v, K1_n, K1_x, bI_s, bJ_s, bV_s, bS_s, l_10, l_00, bz_01, bz_0, bz_1, em_n, if_true, if_false, ite_not, ite_true, ite_false, not_true_eq_false, not_false_eq_true, or_true, true_or]
  · simp only [M_38, e38_0, e38_5, e38_10, e38_15, e38_18, e38_23, aM_53, c_53 h1, c_53 h2, c_101, eq_false h3, K0_v, K0_n, K0_x, K2_v, K2_n, K1_v, K1_n, K1_x, bI_s, bJ_s, bV_s, bS_s, l_10, l_00, bz_01, bz_0, bz_1, em_n, if_true, if_false, ite_not, ite_true, ite_false, not_true_eq_false, not_false_eq_true, or_true, true_or]
theorem c_38c (hc : c 2 = 8) {a p q : Int32} (h1 : 0 ≤ p ∧ p < nI (c 1)) (h2 : 0 ≤ q ∧ q < nI (c 1)) (h3 : 0 ≤ a ∧ a < 4) (h4 : p ≤ q) : mm_M 38 [.ref 2, .int a, .int p, .int q] (CW σ tg ad c g) = some (.inr 1, mm_bmp (CW σ tg ad c g) 1 6) := by
  have z : (nI (c 2) < 8) = False := by rw [hc]; decide
  simp only [M_38, e38_0, e38_5, e38_10, e38_15, e38_18, e38_23, e38_33, e38_37, e38_40, e38_45, aM_53, c_53 h1, c_53 h2, c_101, eq_true h3, eq_true h4, cf_2, cz_5, z, K0_v, K0_n, K0_x, K2_v, K2_n, K1_v, K1_n, K1_x, bI_s, bJ_s, bV_s, bS_s, l_10, l_00, bz_01, bz_0, bz_1, em_n, if_true, if_false, ite_not, ite_true, ite_false, not_true_eq_false, not_false_eq_true, or_true, true_or]
theorem c_38d {n : Nat} (w : WF tg ad c n) (hc : c 2 < 8) {a p q : Int32} (h1 : 0 ≤ p ∧ p < nI (c 1)) (h2 : 0 ≤ q ∧ q < nI (c 1)) (h3 : 0 ≤ a ∧ a < 4) (h4 : p ≤ q) (h5 : (@fi (bc g (ar a) p q) (bcd g (ar a) p q) (c 2) 0).isSome = true) : mm_M 38 [.ref 2, .int a, .int p, .int q] (CW σ tg ad c g) = some (.inr 1, mm_bmp (CW σ tg ad c g) 1 6) := by
  have z : (nI (c 2) < 8) = True := eq_true (show nI (c 2) < nI 8 from nI_lt hc (by decide))
  have e := c_49 (σ := σ) (g := g) w (ar a) p q
  rw [if_pos h5] at e
  simp only [M_38, e38_0, e38_5, e38_10, e38_15, e38_18, e38_23, e38_33, e38_37, e38_40, e38_45, e38_55, e38_60, e38_65, e38_68, aM_53, c_53 h1, c_53 h2, c_101, eq_true h3, eq_true h4, cf_2, cz_5, z, c_52, aM_49, e, one_ne, K0_v, K0_n, K0_x, K2_v, K2_n, K1_v, K1_n, K1_x, bI_s, bJ_s, bV_s, bS_s, l_10, l_00, bz_01, bz_0, bz_1, em_n, if_true, if_false, ite_not, ite_true, ite_false, not_true_eq_false, not_false_eq_true, or_true, true_or]
def g3 (g : Nat → Nat → Int32) (I : Nat) (a p q : Int32) : Nat → Nat → Int32 := uf (uf (uf g 18 I a) 19 I p) 20 I q
theorem g3_r {g : Nat → Nat → Int32} {I r : Nat} {a p q : Int32} (h : r ≠ 18 ∧ r ≠ 19 ∧ r ≠ 20) : g3 g I a p q r = g r := by
  unfold g3
  rw [uf_n h.2.2, uf_n h.2.1, uf_n h.1]
theorem g3_o {g : Nat → Nat → Int32} {I r j : Nat} {a p q : Int32} (h : j ≠ I) : g3 g I a p q r j = g r j := by
  have u : ∀ (f : Nat → Nat → Int32) (a : Nat) (x : Int32), uf f a I x r j = f r j := by
    intro f a x
    unfold uf
    split
    · unfold upd; rename_i e; rw [if_neg h]
    · rfl
  unfold g3
  rw [u, u, u]
theorem g3_18 {g : Nat → Nat → Int32} {I : Nat} {a p q : Int32} : g3 g I a p q 18 I = a := by
  unfold g3
  rw [uf_n (by decide), uf_n (by decide), uf_s]
  exact if_pos rfl
theorem g3_19 {g : Nat → Nat → Int32} {I : Nat} {a p q : Int32} : g3 g I a p q 19 I = p := by
  unfold g3
  rw [uf_n (by decide), uf_s]
  exact if_pos rfl
theorem g3_20 {g : Nat → Nat → Int32} {I : Nat} {a p q : Int32} : g3 g I a p q 20 I = q := by
  unfold g3
  rw [uf_s]
  exact if_pos rfl
theorem WF.addf (w : WF tg ad c σ.2.1) (hc : c 2 < 8) {n : Nat} (hn : n = σ.2.1) : WF (u2 tg n (5, c 2)) (u2 ad (5, c 2) n) (u2 c 2 (c 2 + 1)) (n + 1) := by
  subst hn
  have h35 := w.2.2.2
  have A := w.2.add (K := 5) (I := c 2) (a := σ.2.1) (n' := σ.2.1 + 1) (by decide) (by unfold LI; omega) (w.2.no (Or.inr (Nat.le_refl _))) (by omega) (by omega) (by omega)
  refine ⟨?_, A.iff fun k i => ?_⟩
  · obtain ⟨b0, b1, b2, b3, b4, b5⟩ := w.1
    refine ⟨by rw [u2_n (by decide)]; exact b0, by rw [u2_n (by decide)]; exact b1, by rw [u2_s]; omega, by rw [u2_n (by decide)]; exact b3, by rw [u2_n (by decide)]; exact b4, ?_⟩
    intro i hi
    rw [u2_n (by decide)] at hi
    rw [u2_n (by omega), u2_n (by omega), u2_n (by omega)]
    exact b5 i hi
  · unfold PA LI
    rw [u2_s, u2_n (show 0 ≠ 2 by decide), u2_n (show 1 ≠ 2 by decide), u2_n (show 3 ≠ 2 by decide), u2_n (show 4 ≠ 2 by decide), u2_n (show 100 + i / 1000 ≠ 2 by omega)]
    omega
theorem c_38 (w : WF tg ad c σ.2.1) (hc : c 2 < 8) {a p q : Int32} (h1 : 0 ≤ p ∧ p < nI (c 1)) (h2 : 0 ≤ q ∧ q < nI (c 1)) (h3 : 0 ≤ a ∧ a < 4) (h4 : p ≤ q) (h5 : ¬ (@fi (bc g (ar a) p q) (bcd g (ar a) p q) (c 2) 0).isSome = true) :
    mm_M 38 [.ref 2, .int a, .int p, .int q] (CW σ tg ad c g) = some (.inl (some (.int (nI (c 2 + 1)))), CW (mm_bmp (mm_new σ (.inl (5, [.int a, .int p, .int q])) 3) 1 (2 * c 2 + 10)) (u2 tg σ.2.1 (5, c 2)) (u2 ad (5, c 2) σ.2.1) (u2 c 2 (c 2 + 1)) (g3 g (c 2) a p q)) := by
  have z : (nI (c 2) < 8) = True := eq_true (show nI (c 2) < nI 8 from nI_lt hc (by decide))
  have e := c_49 (σ := σ) (g := g) w (ar a) p q
  rw [if_neg h5] at e
  have hN : ¬ LI c 5 (c 2) := by unfold LI; omega
  have hcw := WP.cw (σ := mm_new σ (.inl (5, [.int a, .int p, .int q])) 3) (w.2.up (Nat.le_succ _)) (c := c) (g := g) (g' := g3 g (c 2) a p q) (K := 5) (I := c 2) (a := σ.2.1) (by decide) hN (w.2.no (Or.inr (Nat.le_refl _))) w.2.2.2 new_at
    (by
      show Sum.inl (5, [Value.int (g3 g (c 2) a p q 18 (c 2)), .int (g3 g (c 2) a p q 19 (c 2)), .int (g3 g (c 2) a p q 20 (c 2))]) = _
      rw [g3_18, g3_19, g3_20])
    (by
      intro k' i' hk
      rw [CO_ad (Or.inr (Or.inr (Or.inl rfl)))]
      by_cases hk5 : k' = 5
      · subst hk5
        have : i' ≠ c 2 := by unfold LI at hk; omega
        show Sum.inl (5, _) = Sum.inl (5, _)
        rw [g3_o this, g3_o this, g3_o this]
      · have r : ∀ r', ¬ (r' = 18 ∨ r' = 19 ∨ r' = 20) → g3 g (c 2) a p q r' = g r' := fun r' hr => g3_r (by omega)
        unfold CO
        split <;> first | rfl | exact absurd rfl hk5 | (simp only [r 12 (by decide), r 13 (by decide), r 14 (by decide), r 15 (by decide), r 35 (by decide), r 33 (by decide), r 34 (by decide), r 21 (by decide), r 22 (by decide), r 24 (by decide), r 25 (by decide), r 23 (by decide), r 40 (by decide), r 41 (by decide), r 42 (by decide), r 43 (by decide), r 44 (by decide)]))
    ⟨by omega, by omega, fun _ => Nat.le_refl _, by omega, by omega⟩ (g3_r (by decide)) (g3_r (by decide)) (g3_r (by decide))
  have had : u2 ad (5, c 2) σ.2.1 (5, c 2) = σ.2.1 := u2_s _ _ _
  have c22 := c_22 (τ := CW σ tg ad c g) (w := 3) a p q
  rw [CW_mk w.2.IN w.2.2.2, CW_mk w.2.IN w.2.2.2, CW_n] at c22
  have wA := WF.addf w (show c 2 < 8 by omega) rfl
  have l := ca_5 (σ := mm_new σ (.inl (5, [.int a, .int p, .int q])) 3) (tg := u2 tg σ.2.1 (5, c 2)) (ad := u2 ad (5, c 2) σ.2.1) (c := c) (g := g3 g (c 2) a p q) (fun k hk => wA.f (by rw [u2_s]; omega)) (by omega)
  rw [had] at l
  simp only [M_38, e38_0, e38_5, e38_10, e38_15, e38_18, e38_23, e38_33, e38_37, e38_40, e38_45, e38_55, e38_60, e38_65, e38_68, e38_78, e38_82, e38_92, aM_53, c_53 h1, c_53 h2, c_101, eq_true h3, eq_true h4, cf_2, cz_5, z, c_52, aM_49, e, CW_mk w.2.IN w.2.2.2, CW_n, c22, hcw, l, u2_s, K0_v, K0_n, K0_x, K2_v, K2_n, K1_v, K1_n, K1_x, bI_s, bJ_s, bV_s, bS_s, l_10, l_00, bz_01, bz_0, bz_1, em_n, if_true, if_false, ite_not, ite_true, ite_false, not_true_eq_false, not_false_eq_true, or_true, true_or]
  simp only [e38_92, e38_95, e38_100, e38_103, cf_2, cz_5, u2_s, K0_v, K0_n, K0_x, K2_v, K2_n, K1_v, K1_n, K1_x, bI_s, bJ_s, bV_s, bS_s, l_10, l_00, bz_01, bz_0, bz_1, em_n, if_true, if_false, ite_not, ite_true, ite_false, not_true_eq_false, not_false_eq_true, or_true, true_or]
-- clear
/-- what is forgotten -/
def tk (tg : Nat → Nat × Nat) : Nat → Nat × Nat := fun a => if 2 ≤ (tg a).1 ∧ (tg a).1 ≤ 5 then (0, 0) else tg a
theorem cl4_set : mm_lcl (CW σ tg ad c g) 4 = some (mm_put (CW σ tg ad c g) 4 (.inr (.inr (.inr [])))) := by
  unfold mm_lcl
  rw [cl_4]
  rfl
theorem c_37 {n : Nat} (w : WF tg ad c n) : mm_M 37 [.ref 2] (CW σ tg ad c g) = some (.inl (some (.int (nI (c 1)))), CW (CW σ tg ad c g) (tk tg) ad (u2 (u2 c 1 0) 2 0) g) := by
  have key : ∀ τ : mm_S, mm_lst τ 5 ≠ none → mm_lcl τ 5 = some (mm_put τ 5 (.inr (.inr (.inr [])))) := by
    intro τ h
    unfold mm_lcl
    cases e : mm_lst τ 5 with
    | none => exact absurd e h
    | some l => rfl
  have k5 : mm_lst (mm_put (CW σ tg ad c g) 4 (.inr (.inr (.inr [])))) 5 ≠ none := by
    unfold mm_lst
    show (match (CW σ tg ad c g).1 5 with | some (.inr (.inr (.inr x))) => some x | _ => none) ≠ none
    exact fun z => by cases z
  have f2 : mm_getr (mm_put (CW σ tg ad c g) 4 (.inr (.inr (.inr [])))) 2 6 2 = some (.ref 5) := rfl
  simp only [M_37, e37_0, e37_4, e37_7, e37_12, e37_15, e37_19, e37_22, cf_1, cz_4, cl4_set, f2, key _ k5, K0_v, K0_n, K0_x, K2_v, K2_n, K1_v, K1_n, K1_x, bI_s, bJ_s, bV_s, bS_s, l_10, l_00, bz_01, bz_0, bz_1, em_n, if_true, if_false, ite_not, ite_true, ite_false, not_true_eq_false, not_false_eq_true, or_true, true_or]
  refine congrArg some (Prod.ext rfl (Prod.ext (funext fun a => ?_) rfl))
  show (if a = 5 then _ else if a = 4 then _ else (CW σ tg ad c g).1 a) = _
  by_cases e5 : a = 5
  · subst e5
    rw [if_pos rfl]
    show _ = some (Sum.inr (Sum.inr (Sum.inr (List.map _ (List.range (u2 (u2 c 1 0) 2 0 2))))))
    rw [u2_s]
    rfl
  · rw [if_neg e5]
    by_cases e4 : a = 4
    · subst e4
      rw [if_pos rfl]
      show _ = some (Sum.inr (Sum.inr (Sum.inr (List.map _ (List.range (u2 (u2 c 1 0) 2 0 1))))))
      rw [u2_n (by decide), u2_s]
      rfl
    · rw [if_neg e4]
      by_cases e2 : a < 2 ∨ 10 < a
      · have ec : ∀ k i, CO ad (u2 (u2 c 1 0) 2 0) g k i = CO ad c g k i := fun k i => by rw [CO_cnt (by decide), CO_cnt (by decide)]
        rw [CW_hi e2 (tg := tk tg)]
        unfold tk
        by_cases h : 2 ≤ (tg a).1 ∧ (tg a).1 ≤ 5
        · rw [if_pos h, if_pos rfl]
        · rw [if_neg h]
          by_cases h0 : (tg a).1 = 0
          · rw [if_pos h0]
          · rw [if_neg h0, ec, CW_hi e2, if_neg h0]
      · exact CW_lo e2 (fun _ => by rw [u2_n (by decide), u2_n (by decide)]) (fun z => absurd z e4) (fun z => absurd z e5) (fun _ => by rw [u2_n (by decide), u2_n (by decide)]) (fun _ => by rw [u2_n (by decide), u2_n (by decide)]) (fun _ => rfl) (fun _ => rfl) (fun _ => rfl)
theorem WF.clr {n : Nat} (w : WF tg ad c n) : WF (tk tg) ad (u2 (u2 c 1 0) 2 0) n := by
  obtain ⟨⟨b0, b1, b2, b3, b4, b5⟩, p1, p2, p3⟩ := w
  have u0 : u2 (u2 c 1 0) 2 0 0 = c 0 := by rw [u2_n (by decide), u2_n (by decide)]
  have u1 : u2 (u2 c 1 0) 2 0 1 = 0 := by rw [u2_n (by decide), u2_s]
  have u2' : u2 (u2 c 1 0) 2 0 2 = 0 := u2_s _ _ _
  have u3 : u2 (u2 c 1 0) 2 0 3 = c 3 := by rw [u2_n (by decide), u2_n (by decide)]
  have u4 : u2 (u2 c 1 0) 2 0 4 = c 4 := by rw [u2_n (by decide), u2_n (by decide)]
  have uh : ∀ q, 100 ≤ q → u2 (u2 c 1 0) 2 0 q = c q := fun q hq => by rw [u2_n (by omega), u2_n (by omega)]
  refine ⟨⟨by rw [u0]; exact b0, by rw [u1]; omega, by rw [u2']; omega, by rw [u3]; exact b3, by rw [u4]; exact b4, ?_⟩, ?_, ?_, p3⟩
  · intro i hi
    rw [u4] at hi
    rw [uh _ (by omega), uh _ (by omega), uh _ (by omega)]
    exact b5 i hi
  · intro k i h
    unfold LI at h
    rw [u0, u1, u2', u3, u4, uh _ (by omega)] at h
    have hk : ¬ (2 ≤ k ∧ k ≤ 5) := by omega
    obtain ⟨⟨l1, l2⟩, l3⟩ := p1 k i (by unfold LI; omega)
    refine ⟨⟨?_, l2⟩, l3⟩
    unfold tk
    rw [l1, if_neg hk]
  · intro a h
    unfold tk at h ⊢
    by_cases e : 2 ≤ (tg a).1 ∧ (tg a).1 ≤ 5
    · rw [if_pos e] at h; exact absurd rfl h
    · rw [if_neg e] at h ⊢
      obtain ⟨q1, q2⟩ := p2 a h
      refine ⟨?_, q2⟩
      unfold LI at q1 ⊢
      rw [u0, u1, u2', u3, u4, uh _ (by omega)]
      omega
end
