/-! LEVEL 2: sign -/
theorem one_ne : ((1 : Int32) = 0) = False := by decide
section
variable {σ : mm_S} {tg : Nat → Nat × Nat} {ad : Nat × Nat → Nat} {c : Nat → Nat} {g : Nat → Nat → Int32} {n : Nat}
theorem CO_ad {K I a k i : Nat} (h : K = 1 ∨ K = 2 ∨ K = 5 ∨ K = 6) : CO (u2 ad (K, I) a) c g k i = CO ad c g k i := by
  have u : ∀ q j, q = 3 ∨ q = 4 ∨ q = 7 ∨ q = 8 ∨ q = 9 ∨ q = 10 → u2 ad (K, I) a (q, j) = ad (q, j) := fun q j hq => u2_n (fun z => by injection z; omega)
  have p : ∀ q, pr (u2 ad (K, I) a) q = pr ad q := fun q => by
    cases q with
    | zero => rfl
    | succ q => show Value.ref _ = Value.ref _; rw [u _ _ (by omega)]
  unfold CO
  split <;> first | rfl | simp only [u, p, true_or, or_true]
theorem hn_w7 {r r' I i : Nat} {x : Nat → Int32} (h : r' = r → i ≠ I) : hn (w7 g r I x r') i = hn (g r') i := by
  by_cases e : r' = r
  · subst e
    have := h rfl
    unfold hn
    rw [w7_o (by omega), w7_o (by omega), w7_o (by omega), w7_o (by omega), w7_o (by omega), w7_o (by omega), w7_o (by omega)]
  · rw [w7_r e]
theorem CO_w7 {r k i I : Nat} {x : Nat → Int32} (h : r = 12 ∨ r = 33 ∨ r = 34 → (r = 12 → k = 1 → i ≠ I) ∧ (r = 33 → k = 4 → i ≠ I) ∧ (r = 34 → k = 3 → i ≠ I)) (hr : r = 12 ∨ r = 33 ∨ r = 34) : CO ad c (w7 g r I x) k i = CO ad c g k i := by
  obtain ⟨h1, h2, h3⟩ := h hr
  have w : ∀ r', ¬ (r' = 12 ∨ r' = 33 ∨ r' = 34) → w7 g r I x r' = g r' := fun r' q => w7_r (by omega)
  unfold CO
  split <;> first | rfl | (rw [hn_w7]; intro q; subst q; first | exact h1 rfl rfl | exact h2 rfl rfl | exact h3 rfl rfl) | (simp only [w 13 (by decide), w 14 (by decide), w 15 (by decide), w 35 (by decide), w 18 (by decide), w 19 (by decide), w 20 (by decide), w 21 (by decide), w 22 (by decide), w 24 (by decide), w 25 (by decide), w 23 (by decide), w 40 (by decide), w 41 (by decide), w 42 (by decide), w 43 (by decide), w 44 (by decide)])
theorem c_6 {τ : mm_S} {w : Nat} (a b d e i j k : Int32) : mm_Mo 6 τ.2.1 [.int a, .int b, .int d, .int e, .int i, .int j, .int k] (mm_new τ (.inl (1, [.int 0, .int 0, .int 0, .int 0, .int 0, .int 0, .int 0])) w) = some (.inl none, mm_new τ (.inl (1, [.int a, .int b, .int d, .int e, .int i, .int j, .int (if j = 2 then k else -1)])) w) := by
  rw [rc_new (show mm_own 6 = 1 from rfl)]
  simp only [M_6, e6_0, e6_9, e6_14, e6_19, e6_25, e6_31, e6_37, e6_44, e6_49, e6_50, e6_53, setf_new, List.length_cons, List.length_nil, List.set_cons_zero, List.set_cons_succ, Nat.reduceAdd, Nat.reduceLT, K0_v, K0_n, K0_x, K2_v, K2_n, K1_v, K1_n, K1_x, bI_s, bJ_s, bV_s, bS_s, l_10, l_00, bz_01, bz_0, bz_1, em_n, if_true, if_false, ite_not, ite_true, ite_false, not_true_eq_false, not_false_eq_true, or_true, true_or]
  by_cases h : j = 2
  · simp only [eq_true h, setf_new, List.length_cons, List.length_nil, List.set_cons_zero, List.set_cons_succ, Nat.reduceAdd, Nat.reduceLT, K0_v, K0_n, K0_x, K2_v, K2_n, K1_v, K1_n, K1_x, bI_s, bJ_s, bV_s, bS_s, l_10, l_00, bz_01, bz_0, bz_1, em_n, if_true, if_false, ite_not, ite_true, ite_false, not_true_eq_false, not_false_eq_true, or_true, true_or]
  · simp only [eq_false h, setf_new, List.length_cons, List.length_nil, List.set_cons_zero, List.set_cons_succ, Nat.reduceAdd, Nat.reduceLT, K0_v, K0_n, K0_x, K2_v, K2_n, K1_v, K1_n, K1_x, bI_s, bJ_s, bV_s, bS_s, l_10, l_00, bz_01, bz_0, bz_1, em_n, if_true, if_false, ite_not, ite_true, ite_false, not_true_eq_false, not_false_eq_true, or_true, true_or]
theorem c_30 {τ : mm_S} (a b : Int32) : mm_M 30 [.int a, .int b] τ = some (.inl (some (.int (bz (b = a ∨ (0 ≤ b ∧ b < 4))))), τ) := by
  simp only [M_30, e30_0, e30_5, e30_10, e30_13, e30_17, e30_18, c_101, K0_v, K0_n, K0_x, K2_v, K2_n, K1_v, K1_n, K1_x, bI_s, bJ_s, bV_s, bS_s, l_10, l_00, bz_01, bz_0, bz_1, em_n, if_true, if_false, ite_not, ite_true, ite_false, not_true_eq_false, not_false_eq_true, or_true, true_or]
  by_cases h : b = a
  · simp [h, bz]
  · by_cases h2 : 0 ≤ b ∧ b < 4 <;> simp [h, h2, bz]
def f7 (a b d e i j k : Int32) : Nat → Int32
  | 0 => a
  | 1 => b
  | 2 => d
  | 3 => e
  | 4 => i
  | 5 => j
  | _ => if j = 2 then k else -1
def V6 (a b d e i j : Int32) : Prop := (0 ≤ a ∧ a < 8) ∧ (0 ≤ b ∧ b < 9) ∧ (0 ≤ d ∧ d < 9) ∧ (0 ≤ e ∧ e < 4) ∧ (0 ≤ i ∧ i < 4) ∧ (0 ≤ j ∧ j < 3)
def V7 (a j k : Int32) : Prop := j = 2 → k = a ∨ (0 ≤ k ∧ k < 4)
def ar7 (a b d e i j k : Int32) : List Value := [.ref 2, .int a, .int b, .int d, .int e, .int i, .int j, .int k]
theorem s24a {τ : mm_S} {a b d e i j k : Int32} (h : V6 a b d e i j) (l9 : Value) : mm_L 24 0 [.ref 2, .int a, .int b, .int d, .int e, .int i, .int j, .int k, mm_un, l9] [] τ = mm_L 24 76 [.ref 2, .int a, .int b, .int d, .int e, .int i, .int j, .int k, .int 1, l9] [] τ := by
  obtain ⟨h1, h2, h3, h4, h5, h6⟩ := h
  simp only [e24_0, e24_6, e24_9, e24_15, e24_18, e24_24, e24_27, e24_33, e24_36, e24_42, e24_45, e24_51, e24_54, e24_58, e24_59, c_101, eq_true h1, eq_true h2, eq_true h3, eq_true h4, eq_true h5, eq_true h6, one_ne, K0_v, K0_n, K0_x, K2_v, K2_n, K1_v, K1_n, K1_x, bI_s, bJ_s, bV_s, bS_s, l_10, l_00, bz_01, bz_0, bz_1, em_n, if_true, if_false, ite_not, ite_true, ite_false, not_true_eq_false, not_false_eq_true, or_true, true_or]
theorem s24b {τ : mm_S} {a b d e i j k : Int32} (h : ¬ V6 a b d e i j) (l9 : Value) : mm_L 24 0 [.ref 2, .int a, .int b, .int d, .int e, .int i, .int j, .int k, mm_un, l9] [] τ = some (.inr 0, mm_bmp τ 1 6) := by
  by_cases h1 : 0 ≤ a ∧ a < 8
  · by_cases h2 : 0 ≤ b ∧ b < 9
    · by_cases h3 : 0 ≤ d ∧ d < 9
      · by_cases h4 : 0 ≤ e ∧ e < 4
        · by_cases h5 : 0 ≤ i ∧ i < 4
          · by_cases h6 : 0 ≤ j ∧ j < 3
            · exact absurd ⟨h1, h2, h3, h4, h5, h6⟩ h
            · simp only [e24_0, e24_6, e24_9, e24_15, e24_18, e24_24, e24_27, e24_33, e24_36, e24_42, e24_45, e24_51, e24_54, e24_58, e24_59, e24_66, c_101, eq_true h1, eq_true h2, eq_true h3, eq_true h4, eq_true h5, eq_false h6, K0_v, K0_n, K0_x, K2_v, K2_n, K1_v, K1_n, K1_x, bI_s, bJ_s, bV_s, bS_s, l_10, l_00, bz_01, bz_0, bz_1, em_n, if_true, if_false, ite_not, ite_true, ite_false, not_true_eq_false, not_false_eq_true, or_true, true_or]
          · simp only [e24_0, e24_6, e24_9, e24_15, e24_18, e24_24, e24_27, e24_33, e24_36, e24_42, e24_45, e24_51, e24_54, e24_58, e24_59, e24_66, c_101, eq_true h1, eq_true h2, eq_true h3, eq_true h4, eq_false h5, K0_v, K0_n, K0_x, K2_v, K2_n, K1_v, K1_n, K1_x, bI_s, bJ_s, bV_s, bS_s, l_10, l_00, bz_01, bz_0, bz_1, em_n, if_true, if_false, ite_not, ite_true, ite_false, not_true_eq_false, not_false_eq_true, or_true, true_or]
        · simp only [e24_0, e24_6, e24_9, e24_15, e24_18, e24_24, e24_27, e24_33, e24_36, e24_42, e24_45, e24_51, e24_54, e24_58, e24_59, e24_66, c_101, eq_true h1, eq_true h2, eq_true h3, eq_false h4, K0_v, K0_n, K0_x, K2_v, K2_n, K1_v, K1_n, K1_x, bI_s, bJ_s, bV_s, bS_s, l_10, l_00, bz_01, bz_0, bz_1, em_n, if_true, if_false, ite_not, ite_true, ite_false, not_true_eq_false, not_false_eq_true, or_true, true_or]
      · simp only [e24_0, e24_6, e24_9, e24_15, e24_18, e24_24, e24_27, e24_33, e24_36, e24_42, e24_45, e24_51, e24_54, e24_58, e24_59, e24_66, c_101, eq_true h1, eq_true h2, eq_false h3, K0_v, K0_n, K0_x, K2_v, K2_n, K1_v, K1_n, K1_x, bI_s, bJ_s, bV_s, bS_s, l_10, l_00, bz_01, bz_0, bz_1, em_n, if_true, if_false, ite_not, ite_true, ite_false, not_true_eq_false, not_false_eq_true, or_true, true_or]
    · simp only [e24_0, e24_6, e24_9, e24_15, e24_18, e24_24, e24_27, e24_33, e24_36, e24_42, e24_45, e24_51, e24_54, e24_58, e24_59, e24_66, c_101, eq_true h1, eq_false h2, K0_v, K0_n, K0_x, K2_v, K2_n, K1_v, K1_n, K1_x, bI_s, bJ_s, bV_s, bS_s, l_10, l_00, bz_01, bz_0, bz_1, em_n, if_true, if_false, ite_not, ite_true, ite_false, not_true_eq_false, not_false_eq_true, or_true, true_or]
  · simp only [e24_0, e24_6, e24_9, e24_15, e24_18, e24_24, e24_27, e24_33, e24_36, e24_42, e24_45, e24_51, e24_54, e24_58, e24_59, e24_66, c_101, eq_false h1, K0_v, K0_n, K0_x, K2_v, K2_n, K1_v, K1_n, K1_x, bI_s, bJ_s, bV_s, bS_s, l_10, l_00, bz_01, bz_0, bz_1, em_n, if_true, if_false, ite_not, ite_true, ite_false, not_true_eq_false, not_false_eq_true, or_true, true_or]
theorem s24c {τ : mm_S} {a b d e i j k : Int32} (h : V7 a j k) (l8 : Int32) (l9 : Value) : mm_L 24 76 [.ref 2, .int a, .int b, .int d, .int e, .int i, .int j, .int k, .int l8, l9] [] τ = mm_L 24 101 [.ref 2, .int a, .int b, .int d, .int e, .int i, .int j, .int k, .int l8, l9] [] τ := by
  by_cases hj : j = 2
  · simp only [e24_76, e24_82, e24_88, c_30, eq_true hj, eq_true (h hj), K0_v, K0_n, K0_x, K2_v, K2_n, K1_v, K1_n, K1_x, bI_s, bJ_s, bV_s, bS_s, l_10, l_00, bz_01, bz_0, bz_1, em_n, if_true, if_false, ite_not, ite_true, ite_false, not_true_eq_false, not_false_eq_true, or_true, true_or]
  · simp only [e24_76, e24_82, e24_88, c_30, eq_false hj, K0_v, K0_n, K0_x, K2_v, K2_n, K1_v, K1_n, K1_x, bI_s, bJ_s, bV_s, bS_s, l_10, l_00, bz_01, bz_0, bz_1, em_n, if_true, if_false, ite_not, ite_true, ite_false, not_true_eq_false, not_false_eq_true, or_true, true_or]
theorem s24d {τ : mm_S} {a b d e i j k : Int32} (h : ¬ V7 a j k) (l8 : Int32) (l9 : Value) : mm_L 24 76 [.ref 2, .int a, .int b, .int d, .int e, .int i, .int j, .int k, .int l8, l9] [] τ = some (.inr 0, mm_bmp τ 1 6) := by
  by_cases hj : j = 2
  · have h2 : ¬ (k = a ∨ (0 ≤ k ∧ k < 4)) := fun z => h (fun _ => z)
    simp only [e24_76, e24_82, e24_88, e24_91, c_30, eq_true hj, eq_false h2, K0_v, K0_n, K0_x, K2_v, K2_n, K1_v, K1_n, K1_x, bI_s, bJ_s, bV_s, bS_s, l_10, l_00, bz_01, bz_0, bz_1, em_n, if_true, if_false, ite_not, ite_true, ite_false, not_true_eq_false, not_false_eq_true, or_true, true_or]
  · exact absurd (fun z => absurd z hj) h
theorem c_24x {a b d e i j k : Int32} (h : ¬ (V6 a b d e i j ∧ V7 a j k)) : mm_M 24 (ar7 a b d e i j k) (CW σ tg ad c g) = some (.inr 0, mm_bmp (CW σ tg ad c g) 1 6) := by
  unfold ar7
  rw [M_24]
  by_cases h1 : V6 a b d e i j
  · rw [s24a h1, s24d (fun z => h ⟨h1, z⟩)]
  · rw [s24b h1]
theorem c_24f {a b d e i j k : Int32} (h1 : V6 a b d e i j) (h2 : V7 a j k) (hc : c 0 = 30) : mm_M 24 (ar7 a b d e i j k) (CW σ tg ad c g) = some (.inr 1, mm_bmp (CW σ tg ad c g) 1 6) := by
  unfold ar7
  rw [M_24, s24a h1, s24c h2]
  have q : (nI (c 0) < 30) = False := by rw [hc]; decide
  simp only [e24_101, e24_105, e24_108, e24_113, cf_0, cz_3, q, K0_v, K0_n, K0_x, K2_v, K2_n, K1_v, K1_n, K1_x, bI_s, bJ_s, bV_s, bS_s, l_10, l_00, bz_01, bz_0, bz_1, em_n, if_true, if_false, ite_not, ite_true, ite_false, not_true_eq_false, not_false_eq_true, or_true, true_or]
theorem s24e (h : WF tg ad c σ.2.1) {a b d e i j k : Int32} (h1 : V6 a b d e i j) (h2 : V7 a j k) (hc : c 0 < 30) : mm_M 24 (ar7 a b d e i j k) (CW σ tg ad c g) = mm_L 24 149 [.ref 2, .int a, .int b, .int d, .int e, .int i, .int j, .int k, .int 1, .ref σ.2.1] [.int (fo (@fi (je g (f7 a b d e i j k)) (jed g (f7 a b d e i j k)) (c 0) 0))] (CW (mm_new σ (.inl (1, [.int a, .int b, .int d, .int e, .int i, .int j, .int (if j = 2 then k else -1)])) 7) tg ad c g) := by
  unfold ar7
  rw [M_24, s24a h1, s24c h2]
  have q : (nI (c 0) < 30) = True := eq_true (show nI (c 0) < nI 30 from nI_lt hc (by omega))
  have hS : OS tg ad c := ⟨fun i hi => h.s hi, h.1.1⟩
  have hb : Hd (CW (mm_new σ (.inl (1, [.int a, .int b, .int d, .int e, .int i, .int j, .int (if j = 2 then k else -1)])) 7) tg ad c g) σ.2.1 (f7 a b d e i j k) := by
    unfold Hd
    rw [CW_new h.2.2.2 (h.2.no (Or.inr (Nat.le_refl _))), new_at]
    rfl
  have c6 := c_6 (τ := CW σ tg ad c g) (w := 7) a b d e i j k
  rw [CW_mk h.2.IN h.2.2.2] at c6
  rw [CW_mk h.2.IN h.2.2.2] at c6
  rw [CW_n] at c6
  simp only [e24_101, e24_105, e24_108, cf_0, cz_3, q, K0_v, K0_n, K0_x, K2_v, K2_n, K1_v, K1_n, K1_x, bI_s, bJ_s, bV_s, bS_s, l_10, l_00, bz_01, bz_0, bz_1, em_n, if_true, if_false, ite_not, ite_true, ite_false, not_true_eq_false, not_false_eq_true, or_true, true_or]
  rw [e24_123, CW_mk h.2.IN h.2.2.2, CW_n, c6, K2_n, e24_141, aM_31, c_31 hS hb, K0_v]
theorem c_24j (h : WF tg ad c σ.2.1) {a b d e i j k : Int32} (h1 : V6 a b d e i j) (h2 : V7 a j k) (hc : c 0 < 30) {z : Nat} (hz : @fi (je g (f7 a b d e i j k)) (jed g (f7 a b d e i j k)) (c 0) 0 = some z) (hz2 : z < 2 ^ 31) :
    mm_M 24 (ar7 a b d e i j k) (CW σ tg ad c g) = some (.inr 1, CW (mm_bmp (mm_new σ (.inl (1, [.int a, .int b, .int d, .int e, .int i, .int j, .int (if j = 2 then k else -1)])) 7) 1 6) tg ad c g) := by
  rw [s24e h h1 h2 hc, hz, e24_149]
  have q : (fo (some z) = -1) = False := eq_false (nI_m1 hz2)
  simp only [q, e24_153, K0_v, K0_n, K0_x, K2_v, K2_n, K1_v, K1_n, K1_x, bI_s, bJ_s, bV_s, bS_s, l_10, l_00, bz_01, bz_0, bz_1, em_n, if_true, if_false, ite_not, ite_true, ite_false, not_true_eq_false, not_false_eq_true, or_true, true_or]
  rfl
theorem WF.adds (w : WF tg ad c σ.2.1) (hc : c 0 < 30) {n : Nat} (hn : n = σ.2.1) : WF (u2 tg n (1, c 0)) (u2 ad (1, c 0) n) (u2 c 0 (c 0 + 1)) (n + 1) := by
  subst hn
  have h35 := w.2.2.2
  have A := w.2.add (K := 1) (I := c 0) (a := σ.2.1) (n' := σ.2.1 + 1) (by decide) (by unfold LI; omega) (w.2.no (Or.inr (Nat.le_refl _))) (by omega) (by omega) (by omega)
  refine ⟨?_, A.iff fun k i => ?_⟩
  · obtain ⟨b0, b1, b2, b3, b4, b5⟩ := w.1
    refine ⟨by rw [u2_s]; omega, by rw [u2_n (by decide)]; exact b1, by rw [u2_n (by decide)]; exact b2, by rw [u2_n (by decide)]; exact b3, by rw [u2_n (by decide)]; exact b4, ?_⟩
    intro i hi
    rw [u2_n (by decide)] at hi
    rw [u2_n (by omega), u2_n (by omega), u2_n (by omega)]
    exact b5 i hi
  · unfold PA LI
    rw [u2_s, u2_n (show 1 ≠ 0 by decide), u2_n (show 2 ≠ 0 by decide), u2_n (show 3 ≠ 0 by decide), u2_n (show 4 ≠ 0 by decide), u2_n (show 100 + i / 1000 ≠ 0 by omega)]
    omega
theorem c_24 (h : WF tg ad c σ.2.1) {a b d e i j k : Int32} (h1 : V6 a b d e i j) (h2 : V7 a j k) (hc : c 0 < 30) (hz : @fi (je g (f7 a b d e i j k)) (jed g (f7 a b d e i j k)) (c 0) 0 = none) :
    mm_M 24 (ar7 a b d e i j k) (CW σ tg ad c g) = some (.inl (some (.int (nI (c 0)))), CW (mm_bmp (mm_new σ (.inl (1, [.int a, .int b, .int d, .int e, .int i, .int j, .int (if j = 2 then k else -1)])) 7) 1 (2 * c 0 + 10)) (u2 tg σ.2.1 (1, c 0)) (u2 ad (1, c 0) σ.2.1) (u2 c 0 (c 0 + 1)) (w7 g 12 (c 0) (f7 a b d e i j k))) := by
  rw [s24e h h1 h2 hc, hz, e24_149]
  have q : (fo none = -1) = True := by simp [fo]
  have hN : ¬ LI c 1 (c 0) := by unfold LI; omega
  have hcw := WP.cw (σ := mm_new σ (.inl (1, [.int a, .int b, .int d, .int e, .int i, .int j, .int (if j = 2 then k else -1)])) 7) (h.2.up (Nat.le_succ _)) (c := c) (g := g) (g' := w7 g 12 (c 0) (f7 a b d e i j k)) (K := 1) (I := c 0) (a := σ.2.1) (by decide) hN (h.2.no (Or.inr (Nat.le_refl _))) h.2.2.2 new_at
    (by
      show Sum.inl (1, hn (w7 g 12 (c 0) (f7 a b d e i j k) 12) (c 0)) = _
      unfold hn
      simp only [w7_at (show 0 < 7 by decide), w7_at (show 1 < 7 by decide), w7_at (show 2 < 7 by decide), w7_at (show 3 < 7 by decide), w7_at (show 4 < 7 by decide), w7_at (show 5 < 7 by decide), w7_at (show 6 < 7 by decide)]
      rfl)
    (by
      intro k' i' hk
      rw [CO_ad (Or.inl rfl), CO_w7 (r := 12) (fun _ => ⟨fun _ q => by unfold LI at hk; omega, fun q => absurd q (by decide), fun q => absurd q (by decide)⟩) (Or.inl rfl)])
    ⟨fun _ => Nat.le_refl _, by omega, by omega, by omega, by omega⟩ (w7_r (by decide)) (w7_r (by decide)) (w7_r (by decide))
  have hL : LV (u2 tg σ.2.1 (1, c 0)) (u2 ad (1, c 0) σ.2.1) 1 (c 0) := by
    unfold LV
    rw [u2_s, u2_s]
    exact ⟨rfl, h.2.2.2⟩
  have had : u2 ad (1, c 0) σ.2.1 (1, c 0) = σ.2.1 := u2_s _ _ _
  rw [hcw]
  simp only [q, e24_163, e24_167, cf_0, K0_v, K0_n, K0_x, K2_v, K2_n, K1_v, K1_n, K1_x, bI_s, bJ_s, bV_s, bS_s, l_10, l_00, bz_01, bz_0, bz_1, em_n, if_true, if_false, ite_not, ite_true, ite_false, not_true_eq_false, not_false_eq_true, or_true, true_or]
  have wA := WF.adds h (show c 0 < 30 by omega) rfl
  have l := ca_3 (σ := mm_new σ (.inl (1, [.int a, .int b, .int d, .int e, .int i, .int j, .int (if j = 2 then k else -1)])) 7) (tg := u2 tg σ.2.1 (1, c 0)) (ad := u2 ad (1, c 0) σ.2.1) (c := c) (g := w7 g 12 (c 0) (f7 a b d e i j k)) (fun k hk => wA.s (by rw [u2_s]; omega)) (by omega)
  rw [had] at l
  rw [l]
  simp only [e24_172, e24_177, e24_180, cf_0, cz_3, u2_s, nI_pred, K0_v, K0_n, K0_x, K2_v, K2_n, K1_v, K1_n, K1_x, bI_s, bJ_s, bV_s, bS_s, l_10, l_00, bz_01, bz_0, bz_1, em_n, if_true, if_false, ite_not, ite_true, ite_false, not_true_eq_false, not_false_eq_true, or_true, true_or]
end
