/-! LEVEL 2: the class marks -/
def gm (g : Nat → Nat → Int32) (I : Nat) (a b p q v : Int32) : Nat → Nat → Int32 := uf (uf (uf (uf (uf g 40 I a) 41 I b) 42 I p) 43 I q) 44 I v
theorem gm_r {g : Nat → Nat → Int32} {I r : Nat} {a b p q v : Int32} (h : r < 40 ∨ 44 < r) : gm g I a b p q v r = g r := by
  unfold gm
  rw [uf_n (by omega), uf_n (by omega), uf_n (by omega), uf_n (by omega), uf_n (by omega)]
theorem gm_o {g : Nat → Nat → Int32} {I r j : Nat} {a b p q v : Int32} (h : j ≠ I) : gm g I a b p q v r j = g r j := by
  have u : ∀ (f : Nat → Nat → Int32) (a : Nat) (x : Int32), uf f a I x r j = f r j := by
    intro f a x
    unfold uf
    split
    · unfold upd; rename_i e; rw [if_neg h]
    · rfl
  unfold gm
  rw [u, u, u, u, u]
theorem ufat {g : Nat → Nat → Int32} {r i : Nat} {x : Int32} : uf g r i x r i = x := by rw [uf_s]; exact if_pos rfl
theorem gm_40 {g : Nat → Nat → Int32} {I : Nat} {a b p q v : Int32} : gm g I a b p q v 40 I = a := by
  unfold gm
  rw [uf_n (by decide), uf_n (by decide), uf_n (by decide), uf_n (by decide), ufat]
theorem gm_41 {g : Nat → Nat → Int32} {I : Nat} {a b p q v : Int32} : gm g I a b p q v 41 I = b := by
  unfold gm
  rw [uf_n (by decide), uf_n (by decide), uf_n (by decide), ufat]
theorem gm_42 {g : Nat → Nat → Int32} {I : Nat} {a b p q v : Int32} : gm g I a b p q v 42 I = p := by
  unfold gm
  rw [uf_n (by decide), uf_n (by decide), ufat]
theorem gm_43 {g : Nat → Nat → Int32} {I : Nat} {a b p q v : Int32} : gm g I a b p q v 43 I = q := by
  unfold gm
  rw [uf_n (by decide), ufat]
theorem gm_44 {g : Nat → Nat → Int32} {I : Nat} {a b p q v : Int32} : gm g I a b p q v 44 I = v := ufat
section
variable {σ : mm_S} {tg : Nat → Nat × Nat} {ad : Nat × Nat → Nat} {c : Nat → Nat} {g : Nat → Nat → Int32}
theorem c_15 (w : WF tg ad c σ.2.1) (a b p q v : Int32) : mm_Mo 15 σ.2.1 [.int a, .int b, .int p, .int q, .int v] (CW (mm_new σ (.inl (3, [.int 0, .int 0, .int 0, .int 0, .int 0])) 5) tg ad c g) = some (.inl none, CW (mm_new σ (.inl (3, [.int a, .int b, .int p, .int q, .int v])) 5) tg ad c g) := by
  have hz := w.2.no (Or.inr (Nat.le_refl _))
  have hrc : mm_Mo 15 σ.2.1 [.int a, .int b, .int p, .int q, .int v] (CW (mm_new σ (.inl (3, [.int 0, .int 0, .int 0, .int 0, .int 0])) 5) tg ad c g) = mm_M 15 [.ref σ.2.1, .int a, .int b, .int p, .int q, .int v] (CW (mm_new σ (.inl (3, [.int 0, .int 0, .int 0, .int 0, .int 0])) 5) tg ad c g) := if_pos (by
    unfold mm_rc mm_ci
    rw [CW_new w.2.2.2 hz, new_at]
    rfl)
  have e := fun (fs : List Value) (k : Nat) (x : Value) (hk : k < fs.length) => (setf_un (σ := mm_new σ (.inl (3, fs)) 5) (ad := ad) (c := c) (g := g) (k := k) (v := x) w.2.2.2 hz new_at hk).trans (by rw [put_new])
  rw [hrc, M_15, e15_0, e [.int 0, .int 0, .int 0, .int 0, .int 0] 0 _ (show 0 < 5 by decide), bS_s, e15_9]
  show mm_bS (mm_setf (CW (mm_new σ (.inl (3, [.int a, .int 0, .int 0, .int 0, .int 0])) 5) tg ad c g) σ.2.1 3 1 (.int b)) _ _ _ _ = _
  rw [e [.int a, .int 0, .int 0, .int 0, .int 0] 1 _ (show 1 < 5 by decide), bS_s, e15_14]
  show mm_bS (mm_setf (CW (mm_new σ (.inl (3, [.int a, .int b, .int 0, .int 0, .int 0])) 5) tg ad c g) σ.2.1 3 2 (.int p)) _ _ _ _ = _
  rw [e [.int a, .int b, .int 0, .int 0, .int 0] 2 _ (show 2 < 5 by decide), bS_s, e15_19]
  show mm_bS (mm_setf (CW (mm_new σ (.inl (3, [.int a, .int b, .int p, .int 0, .int 0])) 5) tg ad c g) σ.2.1 3 3 (.int q)) _ _ _ _ = _
  rw [e [.int a, .int b, .int p, .int 0, .int 0] 3 _ (show 3 < 5 by decide), bS_s, e15_25]
  show mm_bS (mm_setf (CW (mm_new σ (.inl (3, [.int a, .int b, .int p, .int q, .int 0])) 5) tg ad c g) σ.2.1 3 4 (.int v)) _ _ _ _ = _
  rw [e [.int a, .int b, .int p, .int q, .int 0] 4 _ (show 4 < 5 by decide), bS_s, e15_31]
  rfl
theorem ca_9 {n : Nat} (hI : IN tg ad n) {i : Nat} (hL : ∀ m, m ≤ c (100 + i) → LV tg ad 10 (1000 * i + m)) (L9 : LV tg ad 9 i) (hi : i < 24) (b : c (100 + i) ≤ 120) : mm_lad (CW σ tg ad c g) (ad (9, i)) (ad (10, 1000 * i + c (100 + i))) = some (CW (mm_bmp σ 1 (2 * c (100 + i) + 10)) tg ad (u2 c (100 + i) (c (100 + i) + 1)) g) := by
  unfold mm_lad mm_lst
  rw [CW_tg L9 (by decide)]
  show (if (List.map _ (List.range (c (100 + i)))).length < 60000 ∧ mm_oks (CW σ tg ad c g) ((List.range (c (100 + i))).map (fun m => ad (10, 1000 * i + m)) ++ [ad (10, 1000 * i + c (100 + i))]) = true then some (mm_bmp (mm_put (CW σ tg ad c g) (ad (9, i)) (.inr (.inr (.inr ((List.range (c (100 + i))).map (fun m => ad (10, 1000 * i + m)) ++ [ad (10, 1000 * i + c (100 + i))]))))) 1 (2 * (List.map _ (List.range (c (100 + i)))).length + 10)) else none) = _
  rw [List.length_map, List.length_range, if_pos ⟨by omega, oks_map (f := fun m => ad (10, 1000 * i + m)) fun m hm => by unfold mm_ci; rw [CW_tg (hL m hm) (by decide)]; rfl⟩]
  have h := CW_put (σ := σ) (g := g) (g' := g) (c' := u2 c (100 + i) (c (100 + i) + 1)) (o := .inr (.inr (.inr ((List.range (c (100 + i))).map (fun m => ad (10, 1000 * i + m)) ++ [ad (10, 1000 * i + c (100 + i))])))) hI L9 (by decide) (by
    show Sum.inr (Sum.inr (Sum.inr (List.map _ (List.range (u2 c (100 + i) (c (100 + i) + 1) (100 + i)))))) = _
    rw [u2_s, List.range_succ, List.map_append]
    rfl) ⟨u2_n (by omega), u2_n (by omega), u2_n (by omega), u2_n (by omega), u2_n (by omega)⟩ (fun k' i' h => CO_100 (by omega) h) rfl rfl rfl
  rw [h]
  rfl
theorem WF.addm (w : WF tg ad c σ.2.1) {i : Nat} (hi : i < c 4) (hc : c (100 + i) < 120) {n : Nat} (hn : n = σ.2.1) : WF (u2 tg n (10, 1000 * i + c (100 + i))) (u2 ad (10, 1000 * i + c (100 + i)) n) (u2 c (100 + i) (c (100 + i) + 1)) (n + 1) := by
  subst hn
  have h35 := w.2.2.2
  have b4 := w.1.2.2.2.2.1
  have d1 : (1000 * i + c (100 + i)) / 1000 = i := by omega
  have d2 : (1000 * i + c (100 + i)) % 1000 = c (100 + i) := by omega
  have A := w.2.add (K := 10) (I := 1000 * i + c (100 + i)) (a := σ.2.1) (n' := σ.2.1 + 1) (by decide) (by unfold LI; rw [d1, d2]; omega) (w.2.no (Or.inr (Nat.le_refl _))) (by omega) (by omega) (by omega)
  have ul : ∀ q, q < 100 → u2 c (100 + i) (c (100 + i) + 1) q = c q := fun q h1 => u2_n (by omega)
  refine ⟨?_, A.iff fun k j => ?_⟩
  · obtain ⟨b0, b1, b2, b3, b4, b5⟩ := w.1
    refine ⟨by rw [ul 0 (by decide)]; exact b0, by rw [ul 1 (by decide)]; exact b1, by rw [ul 2 (by decide)]; exact b2, by rw [ul 3 (by decide)]; exact b3, by rw [ul 4 (by decide)]; exact b4, ?_⟩
    intro j hj
    rw [ul 4 (by decide)] at hj
    rw [u2_n (show 200 + j ≠ 100 + i by omega), u2_n (show 300 + j ≠ 100 + i by omega)]
    refine ⟨?_, (b5 j hj).2⟩
    by_cases e : j = i
    · subst e; rw [u2_s]; omega
    · rw [u2_n (by omega)]; exact (b5 j hj).1
  · unfold PA LI
    rw [ul 0 (by decide), ul 1 (by decide), ul 2 (by decide), ul 3 (by decide), ul 4 (by decide)]
    by_cases e : k = 10
    · subst e
      by_cases e2 : j / 1000 = i
      · rw [e2, u2_s]; omega
      · rw [u2_n (by omega)]
        omega
    · omega
theorem CW_mrk (w : WF tg ad c σ.2.1) {i : Nat} (hi : i < c 4) {a b p q v : Int32} : CW (mm_new σ (.inl (3, [.int a, .int b, .int p, .int q, .int v])) 5) tg ad c g = CW (mm_new σ (.inl (3, [.int a, .int b, .int p, .int q, .int v])) 5) (u2 tg σ.2.1 (10, 1000 * i + c (100 + i))) (u2 ad (10, 1000 * i + c (100 + i)) σ.2.1) c (gm g (1000 * i + c (100 + i)) a b p q v) := by
  have b5 := w.1.2.2.2.2.2
  have hN : ¬ LI c 10 (1000 * i + c (100 + i)) := by
    have := (b5 i hi).1
    unfold LI
    rw [show (1000 * i + c (100 + i)) / 1000 = i by omega, show (1000 * i + c (100 + i)) % 1000 = c (100 + i) by omega]
    omega
  refine WP.cw (w.2.up (Nat.le_succ _)) (by decide) hN (w.2.no (Or.inr (Nat.le_refl _))) w.2.2.2 new_at ?_ ?_ ⟨by omega, by omega, by omega, by omega, by omega⟩ (gm_r (by omega)) (gm_r (by omega)) (gm_r (by omega))
  · show Sum.inl (3, _) = Sum.inl (3, _)
    rw [gm_40, gm_41, gm_42, gm_43, gm_44]
  · intro k j hk
    have u : ∀ q j, q ≠ 10 → u2 ad (10, 1000 * i + c (100 + i)) σ.2.1 (q, j) = ad (q, j) := fun q j hq => u2_n (fun z => by injection z; omega)
    have r : ∀ r', r' < 40 → gm g (1000 * i + c (100 + i)) a b p q v r' = g r' := fun r' h => gm_r (Or.inl h)
    have pp : ∀ q, pr (u2 ad (10, 1000 * i + c (100 + i)) σ.2.1) q = pr ad q := fun q => by
      cases q with
      | zero => rfl
      | succ q => show Value.ref _ = Value.ref _; rw [u _ _ (by omega)]
    have h9 : k = 9 → ∀ m, m ∈ List.range (c (100 + j)) → u2 ad (10, 1000 * i + c (100 + i)) σ.2.1 (10, 1000 * j + m) = ad (10, 1000 * j + m) := fun e m hm => by
      have hm := List.mem_range.mp hm
      have hj : j < c 4 := by unfold LI at hk; omega
      have h1 := (b5 j hj).1
      have h2 := (b5 i hi).1
      refine u2_n (fun z => ?_)
      injection z with z1 z2
      by_cases e : j = i
      · subst e; omega
      · omega
    have h10 : k = 10 → j ≠ 1000 * i + c (100 + i) := fun e z => hN (by rw [← z, ← e]; exact hk)
    have hk0 : k ≠ 0 := by unfold LI at hk; omega
    match k with
    | 0 => exact absurd rfl hk0
    | 1 => unfold CO; simp only [r 12 (by decide)]
    | 2 => unfold CO; simp only [r 13 (by decide), r 14 (by decide), r 15 (by decide), r 35 (by decide), u 3 _ (by decide), u 4 _ (by decide)]
    | 3 => unfold CO; simp only [r 34 (by decide)]
    | 4 => unfold CO; simp only [r 33 (by decide)]
    | 5 => unfold CO; simp only [r 18 (by decide), r 19 (by decide), r 20 (by decide)]
    | 6 => unfold CO; simp only [r 21 (by decide), u 7 _ (by decide)]
    | 7 => unfold CO; simp only [r 22 (by decide)]
    | 8 => unfold CO; simp only [r 24 (by decide), r 25 (by decide), r 23 (by decide), pp, u 9 _ (by decide)]
    | 9 => exact congrArg (fun z => Sum.inr (Sum.inr (Sum.inr z))) (List.map_congr_left fun m hm => h9 rfl m hm)
    | 10 =>
      have := h10 rfl
      show Sum.inl (3, _) = Sum.inl (3, _)
      rw [gm_o this, gm_o this, gm_o this, gm_o this, gm_o this]
    | k + 11 => unfold LI at hk; omega
theorem c_89a {x a b p q v : Int32} (h : ¬ (0 ≤ x ∧ x < nI (c 4))) : mm_M 89 [.ref 2, .int x, .int a, .int b, .int p, .int q, .int v] (CW σ tg ad c g) = some (.inr 2, mm_bmp (CW σ tg ad c g) 1 6) := by
  simp only [M_89, e89_0, aM_96, c_96x h, K0_v, K0_n, K0_x, K2_v, K2_n, K1_v, K1_n, K1_x, bI_s, bJ_s, bV_s, bS_s, l_10, l_00, bz_01, bz_0, bz_1, em_n, if_true, if_false, ite_not, ite_true, ite_false, not_true_eq_false, not_false_eq_true, or_true, true_or]
theorem c_89b {n k : Nat} (w : WF tg ad c n) {a b p q v : Int32} (hk : k < c 4) (h : g 23 k ≠ 0) : mm_M 89 [.ref 2, .int (nI k), .int a, .int b, .int p, .int q, .int v] (CW σ tg ad c g) = some (.inr 2, mm_bmp (CW σ tg ad c g) 1 6) := by
  simp only [M_89, e89_0, aM_96, c_96y w hk h, K0_v, K0_n, K0_x, K2_v, K2_n, K1_v, K1_n, K1_x, bI_s, bJ_s, bV_s, bS_s, l_10, l_00, bz_01, bz_0, bz_1, em_n, if_true, if_false, ite_not, ite_true, ite_false, not_true_eq_false, not_false_eq_true, or_true, true_or]
theorem c_89c {n k : Nat} (w : WF tg ad c n) {a b p q v : Int32} (hk : k < c 4) (h : g 23 k = 0) (h2 : ¬ ((0 ≤ a ∧ a < 3) ∧ (0 ≤ b ∧ b < 4))) : mm_M 89 [.ref 2, .int (nI k), .int a, .int b, .int p, .int q, .int v] (CW σ tg ad c g) = some (.inr 2, mm_bmp (CW σ tg ad c g) 1 6) := by
  by_cases h3 : 0 ≤ a ∧ a < 3
  · simp only [M_89, e89_0, e89_5, e89_9, aM_96, c_96 w hk h, c_99 h3, c_100x (fun z => h2 ⟨h3, z⟩), K0_v, K0_n, K0_x, K2_v, K2_n, K1_v, K1_n, K1_x, bI_s, bJ_s, bV_s, bS_s, l_10, l_00, bz_01, bz_0, bz_1, em_n, if_true, if_false, ite_not, ite_true, ite_false, not_true_eq_false, not_false_eq_true, or_true, true_or]
  · simp only [M_89, e89_0, e89_5, e89_9, aM_96, c_96 w hk h, c_99x h3, K0_v, K0_n, K0_x, K2_v, K2_n, K1_v, K1_n, K1_x, bI_s, bJ_s, bV_s, bS_s, l_10, l_00, bz_01, bz_0, bz_1, em_n, if_true, if_false, ite_not, ite_true, ite_false, not_true_eq_false, not_false_eq_true, or_true, true_or]
def CE (p q v : Int32) : Prop := (0 ≤ p ∧ p < 200) ∧ p < q ∧ q ≤ 200 ∧ (0 ≤ v ∧ v < 10)
theorem c_89d {n k : Nat} (w : WF tg ad c n) {a b p q v : Int32} (hk : k < c 4) (h : g 23 k = 0) (h2 : (0 ≤ a ∧ a < 3) ∧ (0 ≤ b ∧ b < 4)) (h3 : ¬ CE p q v) : mm_M 89 [.ref 2, .int (nI k), .int a, .int b, .int p, .int q, .int v] (CW σ tg ad c g) = some (.inr 0, mm_bmp (CW σ tg ad c g) 1 6) := by
  by_cases h4 : 0 ≤ p ∧ p < 200
  · by_cases h5 : p < q
    · by_cases h6 : q ≤ 200
      · have h7 : ¬ (0 ≤ v ∧ v < 10) := fun z => h3 ⟨h4, h5, h6, z⟩
        simp only [M_89, e89_0, e89_5, e89_9, e89_13, e89_21, e89_24, e89_31, e89_39, e89_46, e89_49, aM_96, c_96 w hk h, c_99 h2.1, c_100 h2.2, c_101, eq_true h4, eq_false (nle_of_lt h5), eq_false (Int32.not_lt.mpr h6), eq_false h7, K0_v, K0_n, K0_x, K2_v, K2_n, K1_v, K1_n, K1_x, bI_s, bJ_s, bV_s, bS_s, l_10, l_00, bz_01, bz_0, bz_1, em_n, if_true, if_false, ite_not, ite_true, ite_false, not_true_eq_false, not_false_eq_true, or_true, true_or]
      · simp only [M_89, e89_0, e89_5, e89_9, e89_13, e89_21, e89_24, e89_31, e89_39, e89_46, e89_49, aM_96, c_96 w hk h, c_99 h2.1, c_100 h2.2, c_101, eq_true h4, eq_false (nle_of_lt h5), eq_true (Int32.not_le.mp h6), K0_v, K0_n, K0_x, K2_v, K2_n, K1_v, K1_n, K1_x, bI_s, bJ_s, bV_s, bS_s, l_10, l_00, bz_01, bz_0, bz_1, em_n, if_true, if_false, ite_not, ite_true, ite_false, not_true_eq_false, not_false_eq_true, or_true, true_or]
    · simp only [M_89, e89_0, e89_5, e89_9, e89_13, e89_21, e89_24, e89_31, e89_39, e89_46, e89_49, aM_96, c_96 w hk h, c_99 h2.1, c_100 h2.2, c_101, eq_true h4, eq_true (Int32.not_lt.mp h5), K0_v, K0_n, K0_x, K2_v, K2_n, K1_v, K1_n, K1_x, bI_s, bJ_s, bV_s, bS_s, l_10, l_00, bz_01, bz_0, bz_1, em_n, if_true, if_false, ite_not, ite_true, ite_false, not_true_eq_false, not_false_eq_true, or_true, true_or]
  · simp only [M_89, e89_0, e89_5, e89_9, e89_13, e89_21, e89_24, e89_31, e89_39, e89_46, e89_49, aM_96, c_96 w hk h, c_99 h2.1, c_100 h2.2, c_101, eq_false h4, K0_v, K0_n, K0_x, K2_v, K2_n, K1_v, K1_n, K1_x, bI_s, bJ_s, bV_s, bS_s, l_10, l_00, bz_01, bz_0, bz_1, em_n, if_true, if_false, ite_not, ite_true, ite_false, not_true_eq_false, not_false_eq_true, or_true, true_or]
theorem s_89 {n k : Nat} (w : WF tg ad c n) {a b p q v : Int32} (hk : k < c 4) (h : g 23 k = 0) (h2 : (0 ≤ a ∧ a < 3) ∧ (0 ≤ b ∧ b < 4)) (h3 : CE p q v) : mm_M 89 [.ref 2, .int (nI k), .int a, .int b, .int p, .int q, .int v] (CW σ tg ad c g) = mm_L 89 80 [.ref 2, .int (nI k), .int a, .int b, .int p, .int q, .int v, .ref (ad (8, k)), mm_un] [.int (up (ckm g k a b) (c (100 + k)) 0 0)] (CW σ tg ad c g) := by
  have b4 := w.1.2.2.2.2.1
  obtain ⟨L8, L9⟩ := w.cl hk
  obtain ⟨h4, h5, h6, h7⟩ := h3
  simp only [M_89, e89_0, e89_5, e89_9, e89_13, e89_21, e89_24, e89_31, e89_39, e89_46, e89_49, e89_60, e89_64, e89_68, e89_71, aM_96, c_96 w hk h, c_99 h2.1, c_100 h2.2, c_101, eq_true h4, eq_false (nle_of_lt h5), eq_false (Int32.not_lt.mpr h6), eq_true h7, cf_4, cg_7 hk (by omega), ck_8 L8, pM_3 L8, c_3 w hk, K0_v, K0_n, K0_x, K2_v, K2_n, K1_v, K1_n, K1_x, bI_s, bJ_s, bV_s, bS_s, l_10, l_00, bz_01, bz_0, bz_1, em_n, if_true, if_false, ite_not, ite_true, ite_false, not_true_eq_false, not_false_eq_true, or_true, true_or]
theorem c_89e {n k : Nat} (w : WF tg ad c n) {a b p q v : Int32} (hk : k < c 4) (h : g 23 k = 0) (h2 : (0 ≤ a ∧ a < 3) ∧ (0 ≤ b ∧ b < 4)) (h3 : CE p q v) (h4 : ¬ up (ckm g k a b) (c (100 + k)) 0 0 < 10) : mm_M 89 [.ref 2, .int (nI k), .int a, .int b, .int p, .int q, .int v] (CW σ tg ad c g) = some (.inr 1, mm_bmp (CW σ tg ad c g) 1 6) := by
  rw [s_89 w hk h h2 h3]
  simp only [e89_80, e89_89, eq_false h4, K0_v, K0_n, K0_x, K2_v, K2_n, K1_v, K1_n, K1_x, bI_s, bJ_s, bV_s, bS_s, l_10, l_00, bz_01, bz_0, bz_1, em_n, if_true, if_false, ite_not, ite_true, ite_false, not_true_eq_false, not_false_eq_true, or_true, true_or]
theorem c_89f {n k : Nat} (w : WF tg ad c n) {a b p q v : Int32} (hk : k < c 4) (h : g 23 k = 0) (h2 : (0 ≤ a ∧ a < 3) ∧ (0 ≤ b ∧ b < 4)) (h3 : CE p q v) (h4 : up (ckm g k a b) (c (100 + k)) 0 0 < 10) (h5 : ob (@fi (hm g k a b p q) (hmd g k a b p q) (c (100 + k)) 0) ≠ 0) : mm_M 89 [.ref 2, .int (nI k), .int a, .int b, .int p, .int q, .int v] (CW σ tg ad c g) = some (.inr 1, mm_bmp (CW σ tg ad c g) 1 6) := by
  obtain ⟨L8, L9⟩ := w.cl hk
  rw [s_89 w hk h h2 h3]
  simp only [e89_80, e89_89, e89_100, e89_111, e89_114, eq_true h4, pM_4 L8, c_4 w hk, eq_false h5, K0_v, K0_n, K0_x, K2_v, K2_n, K1_v, K1_n, K1_x, bI_s, bJ_s, bV_s, bS_s, l_10, l_00, bz_01, bz_0, bz_1, em_n, if_true, if_false, ite_not, ite_true, ite_false, not_true_eq_false, not_false_eq_true, or_true, true_or]
theorem c_89 (w : WF tg ad c σ.2.1) {k : Nat} {a b p q v : Int32} (hk : k < c 4) (h : g 23 k = 0) (h2 : (0 ≤ a ∧ a < 3) ∧ (0 ≤ b ∧ b < 4)) (h3 : CE p q v) (h4 : up (ckm g k a b) (c (100 + k)) 0 0 < 10) (h5 : ob (@fi (hm g k a b p q) (hmd g k a b p q) (c (100 + k)) 0) = 0) (hc : c (100 + k) < 120) : mm_M 89 [.ref 2, .int (nI k), .int a, .int b, .int p, .int q, .int v] (CW σ tg ad c g) = some (.inl (some (.int (up (ckm g k a b) (c (100 + k)) 0 0 + 1))), CW (mm_bmp (mm_new σ (.inl (3, [.int a, .int b, .int p, .int q, .int v])) 5) 1 (2 * c (100 + k) + 10)) (u2 tg σ.2.1 (10, 1000 * k + c (100 + k))) (u2 ad (10, 1000 * k + c (100 + k)) σ.2.1) (u2 c (100 + k) (c (100 + k) + 1)) (gm g (1000 * k + c (100 + k)) a b p q v)) := by
  obtain ⟨L8, L9⟩ := w.cl hk
  have b5 := w.1.2.2.2.2.2
  have e9 : u2 ad (10, 1000 * k + c (100 + k)) σ.2.1 (9, k) = ad (9, k) := u2_n (fun z => by injection z; omega)
  have e10 : u2 ad (10, 1000 * k + c (100 + k)) σ.2.1 (10, 1000 * k + c (100 + k)) = σ.2.1 := u2_s _ _ _
  have M := CW_mrk (σ := σ) (g := g) w hk (a := a) (b := b) (p := p) (q := q) (v := v)
  have wA := (w.2.add (K := 10) (I := 1000 * k + c (100 + k)) (a := σ.2.1) (n' := σ.2.1 + 1) (by decide) (by
    unfold LI
    rw [show (1000 * k + c (100 + k)) / 1000 = k by omega, show (1000 * k + c (100 + k)) % 1000 = c (100 + k) by omega]
    omega) (w.2.no (Or.inr (Nat.le_refl _))) w.2.2.2 (by omega) (by omega))
  have l : mm_lad (CW (mm_new σ (.inl (3, [.int a, .int b, .int p, .int q, .int v])) 5) tg ad c g) (ad (9, k)) σ.2.1 = some (CW (mm_bmp (mm_new σ (.inl (3, [.int a, .int b, .int p, .int q, .int v])) 5) 1 (2 * c (100 + k) + 10)) (u2 tg σ.2.1 (10, 1000 * k + c (100 + k))) (u2 ad (10, 1000 * k + c (100 + k)) σ.2.1) (u2 c (100 + k) (c (100 + k) + 1)) (gm g (1000 * k + c (100 + k)) a b p q v)) := by
    have L9' : LV (u2 tg σ.2.1 (10, 1000 * k + c (100 + k))) (u2 ad (10, 1000 * k + c (100 + k)) σ.2.1) 9 k := (wA.1 9 k (Or.inl (Or.inr (Or.inr (Or.inr (Or.inr (Or.inl ⟨Or.inr rfl, hk⟩))))))).1
    have LL : ∀ m, m ≤ c (100 + k) → LV (u2 tg σ.2.1 (10, 1000 * k + c (100 + k))) (u2 ad (10, 1000 * k + c (100 + k)) σ.2.1) 10 (1000 * k + m) := fun m hm => (wA.1 10 (1000 * k + m) (by
      rcases Nat.lt_or_eq_of_le hm with q | q
      · exact Or.inl (Or.inr (Or.inr (Or.inr (Or.inr (Or.inr ⟨rfl, by rw [show (1000 * k + m) / 1000 = k by omega]; exact hk, by rw [show (1000 * k + m) / 1000 = k by omega, show (1000 * k + m) % 1000 = m by omega]; exact q⟩)))))
      · exact Or.inr ⟨rfl, by rw [q]⟩)).1
    have z := ca_9 (σ := mm_new σ (.inl (3, [.int a, .int b, .int p, .int q, .int v])) 5) (c := c) (g := gm g (1000 * k + c (100 + k)) a b p q v) wA.IN LL L9' (by have := w.1.2.2.2.2.1; omega) (by omega)
    rw [e9, e10] at z
    rw [M]
    exact z
  rw [s_89 w hk h h2 h3]
  simp only [e89_80, e89_89, e89_100, e89_111, e89_114, e89_125, e89_130, e89_145, e89_148, eq_true h4, pM_4 L8, c_4 w hk, h5, cr_8_4 L8, CW_mk w.2.IN w.2.2.2, CW_n, c_15 w, l, K0_v, K0_n, K0_x, K2_v, K2_n, K1_v, K1_n, K1_x, bI_s, bJ_s, bV_s, bS_s, l_10, l_00, bz_01, bz_0, bz_1, em_n, if_true, if_false, ite_not, ite_true, ite_false, not_true_eq_false, not_false_eq_true, or_true, true_or]
end
