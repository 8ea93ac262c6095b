/-! LEVEL 2: the class's agree -/
def wf1 (r : Nat) (v : Int32) (t : Nat) (g : Nat → Nat → Int32) : Nat → Nat → Int32 := uf g r t v
def ct (g : Nat → Nat → Int32) (r : Nat) (v : Int32) (t : Nat) (n : Int32) : Int32 := if g r t = v then n + 1 else n
def cA (g : Nat → Nat → Int32) (t : Nat) (n : Int32) : Int32 := if g 36 t ≠ -1 ∧ g 36 t = g 37 t then n + 1 else n
def cB (g : Nat → Nat → Int32) (t : Nat) (n : Int32) : Int32 := if g 36 t ≠ -1 ∨ g 37 t ≠ -1 then n + 1 else n
def mp (g : Nat → Nat → Int32) (i m : Nat) : Nat := (g 42 (1000 * i + m)).toNatClampNeg
def mq (g : Nat → Nat → Int32) (i m : Nat) : Nat := (g 43 (1000 * i + m)).toNatClampNeg
def wms (i : Nat) (a b : Int32) (r m : Nat) (g : Nat → Nat → Int32) : Nat → Nat → Int32 := if g 40 (1000 * i + m) = a ∧ g 41 (1000 * i + m) = b then up (wf1 r (g 44 (1000 * i + m))) (mq g i m - mp g i m) (mp g i m) g else g
/-- the value at tick t, as marks say one after another -/
def wvs (g : Nat → Nat → Int32) (i : Nat) (a b : Int32) (t m : Nat) (x : Int32) : Int32 := if (g 40 (1000 * i + m) = a ∧ g 41 (1000 * i + m) = b) ∧ mp g i m ≤ t ∧ t < mq g i m then g 44 (1000 * i + m) else x
def wvt (g : Nat → Nat → Int32) (i M : Nat) (a b : Int32) (t : Nat) : Int32 := up (wvs g i a b t) M 0 (-1)
def cS (g : Nat → Nat → Int32) (i : Nat) (a b : Int32) (m : Nat) (n : Int32) : Int32 := if (g 40 (1000 * i + m) = a ∧ g 41 (1000 * i + m) = b) ∧ ¬ 2 * up (ct g 37 (g 44 (1000 * i + m))) (mq g i m - mp g i m) (mp g i m) 0 ≤ g 43 (1000 * i + m) - g 42 (1000 * i + m) then n + 1 else n
theorem wf1_r {r r' : Nat} {v : Int32} (h : r' ≠ r) : ∀ m k g, up (wf1 r v) m k g r' = g r' := up_r (fun k g => uf_n h)
theorem wf1_at {r : Nat} {v : Int32} {t : Nat} : ∀ m k g, up (wf1 r v) m k g r t = if k ≤ t ∧ t < k + m then v else g r t
  | 0, k, g => by rw [if_neg (by omega)]; rfl
  | m + 1, k, g => by
    show up (wf1 r v) m (k + 1) (wf1 r v k g) r t = _
    rw [wf1_at m (k + 1)]
    by_cases h : k + 1 ≤ t ∧ t < k + 1 + m
    · rw [if_pos h, if_pos (by omega)]
    · rw [if_neg h]
      show uf g r k v r t = _
      rw [uf_s]
      show (if t = k then v else g r t) = _
      by_cases e : t = k
      · rw [if_pos e, if_pos (by omega)]
      · rw [if_neg e, if_neg (by omega)]
theorem wms_r {i r r' : Nat} {a b : Int32} (h : r' ≠ r) (m : Nat) (g : Nat → Nat → Int32) : wms i a b r m g r' = g r' := by
  unfold wms
  split
  · exact wf1_r h _ _ _
  · rfl
theorem wms_at {i r : Nat} {a b : Int32} (t m : Nat) (g : Nat → Nat → Int32) (h : mp g i m ≤ mq g i m) : wms i a b r m g r t = wvs g i a b t m (g r t) := by
  unfold wms wvs
  by_cases h1 : g 40 (1000 * i + m) = a ∧ g 41 (1000 * i + m) = b
  · rw [if_pos h1, wf1_at]
    by_cases h2 : mp g i m ≤ t ∧ t < mq g i m
    · rw [if_pos (by omega), if_pos ⟨h1, h2⟩]
    · rw [if_neg (by omega), if_neg (fun z => h2 z.2)]
  · rw [if_neg h1, if_neg (fun z => h1 z.1)]
/-- what reads rows of marks alone -/
def SM (g g' : Nat → Nat → Int32) : Prop := g 40 = g' 40 ∧ g 41 = g' 41 ∧ g 42 = g' 42 ∧ g 43 = g' 43 ∧ g 44 = g' 44
theorem wvs_c {g g' : Nat → Nat → Int32} (h : SM g g') : wvs g = wvs g' := by
  obtain ⟨h0, h1, h2, h3, h4⟩ := h
  funext i a b t m x
  unfold wvs mp mq
  rw [h0, h1, h2, h3, h4]
theorem wmsu_at {g0 : Nat → Nat → Int32} {i r M : Nat} {a b : Int32} (hr : r = 36 ∨ r = 37) (t : Nat) (hm : ∀ m, m < M → mp g0 i m ≤ mq g0 i m) : ∀ m k g, k + m = M → SM g g0 → up (wms i a b r) m k g r t = up (wvs g0 i a b t) m k (g r t)
  | 0, k, g, hk, h => rfl
  | m + 1, k, g, hk, h => by
    show up (wms i a b r) m (k + 1) (wms i a b r k g) r t = up (wvs g0 i a b t) m (k + 1) (wvs g0 i a b t k (g r t))
    have e : ∀ r', r' = 40 ∨ r' = 41 ∨ r' = 42 ∨ r' = 43 ∨ r' = 44 → wms i a b r k g r' = g r' := fun r' z => wms_r (by omega) k g
    have h' : SM (wms i a b r k g) g0 := by
      obtain ⟨h0, h1, h2, h3, h4⟩ := h
      exact ⟨by rw [e _ (by omega)]; exact h0, by rw [e _ (by omega)]; exact h1, by rw [e _ (by omega)]; exact h2, by rw [e _ (by omega)]; exact h3, by rw [e _ (by omega)]; exact h4⟩
    have hmk := hm k (by omega)
    have hmk' : mp g i k ≤ mq g i k := by
      obtain ⟨h0, h1, h2, h3, h4⟩ := h
      unfold mp mq at hmk ⊢
      rw [h2, h3]
      exact hmk
    rw [wmsu_at hr t hm m (k + 1) _ (by omega) h', wms_at t k g hmk', wvs_c h]
section
variable {σ : mm_S} {tg : Nat → Nat × Nat} {ad : Nat × Nat → Nat} {c : Nat → Nat} {g : Nat → Nat → Int32} {n : Nat}
theorem cb_A {A r k : Nat} (h : AR A r) (hk : k < 200) : mm_ald (CW σ tg ad c g) A (nI k) false = some (g r k) := by
  rcases h with ⟨rfl, rfl⟩ | ⟨rfl, rfl⟩
  · exact cb_a9 hk
  · exact cb_a10 hk
theorem cn_A {A r : Nat} (h : AR A r) : mm_len (CW σ tg ad c g) A = some 200 := by
  rcases h with ⟨rfl, rfl⟩ | ⟨rfl, rfl⟩ <;> rfl
theorem CO_row {r : Nat} {k' i' : Nat} {y : Nat → Int32} (h : r = 28 ∨ r = 36 ∨ r = 37) : CO ad c (fun r' => if r' = r then y else g r') k' i' = CO ad c g k' i' := by
  have w : ∀ r', ¬ (r' = 28 ∨ r' = 36 ∨ r' = 37) → (fun r' => if r' = r then y else g r') r' = g r' := fun r' q => if_neg (by omega)
  unfold CO
  split <;> simp only [w 12 (by decide), w 13 (by decide), w 14 (by decide), w 15 (by decide), w 18 (by decide), w 19 (by decide), w 20 (by decide), w 35 (by decide), w 33 (by decide), w 34 (by decide), w 21 (by decide), w 22 (by decide), w 24 (by decide), w 25 (by decide), w 23 (by decide), w 40 (by decide), w 41 (by decide), w 42 (by decide), w 43 (by decide), w 44 (by decide)]
theorem CW_row {A r L : Nat} {y : Nat → Int32} (h : (A = 8 ∧ r = 28 ∧ L = 3) ∨ (A = 9 ∧ r = 36 ∧ L = 200) ∨ (A = 10 ∧ r = 37 ∧ L = 200)) : mm_put (CW σ tg ad c g) A (.inr (.inl (0, L, y))) = CW σ tg ad c (fun r' => if r' = r then y else g r') := by
  refine Prod.ext (funext fun a => ?_) rfl
  show (if a = A then _ else CH σ tg ad c g a) = CH σ tg ad c (fun r' => if r' = r then y else g r') a
  by_cases e : a = A
  · rw [if_pos e]
    subst e
    rcases h with ⟨rfl, rfl, rfl⟩ | ⟨rfl, rfl, rfl⟩ | ⟨rfl, rfl, rfl⟩ <;> rfl
  · rw [if_neg e]
    by_cases e2 : a < 2 ∨ 10 < a
    · show (CW σ tg ad c g).1 a = (CW σ tg ad c (fun r' => if r' = r then y else g r')).1 a
      rw [CW_hi e2, CW_hi e2, CO_row (by omega)]
    · refine CW_lo e2 (fun _ => rfl) (fun _ => rfl) (fun _ => rfl) (fun _ => rfl) (fun _ => rfl) (fun z => ?_) (fun z => ?_) (fun z => ?_) <;> exact (if_neg (by omega)).symm
theorem uf_row {r k : Nat} {x : Int32} : (fun r' => if r' = r then upd (g r) k x else g r') = uf g r k x := by
  funext r'
  unfold uf
  by_cases h : r' = r
  · subst h; rw [if_pos rfl]
  · rw [if_neg h, if_neg h]
theorem cw_A {A r k : Nat} {x : Int32} (h : AR A r) (hk : k < 200) : mm_ast (CW σ tg ad c g) A (nI k) 0 x = some (CW σ tg ad c (uf g r k x)) := by
  have key : mm_ast (CW σ tg ad c g) A (nI k) 0 x = some (mm_put (CW σ tg ad c g) A (.inr (.inl (0, 200, upd (g r) k x)))) := by
    unfold mm_ast mm_arr
    have e : (CW σ tg ad c g).1 A = some (.inr (.inl (0, 200, g r))) := by
      rcases h with ⟨rfl, rfl⟩ | ⟨rfl, rfl⟩ <;> rfl
    rw [e]
    show (if nI k < 0 ∨ 200 ≤ (nI k).toNatClampNeg then none else _) = _
    rw [nI_clamp (by omega), if_neg (fun q => q.elim (nI_pos (by omega)) (by omega))]
    rfl
  rw [key, CW_row (L := 200) (r := r) (by unfold AR at h; omega), uf_row]
theorem l_17 {A r j q : Nat} (h : AR A r) (L : LV tg ad 10 j) (hq : q ≤ 200) (v : Int32) : ∀ m k (g : Nat → Nat → Int32), k + m = q → g 43 j = nI q → g 44 j = v → mm_L 17 5 [.ref (ad (10, j)), .ref A, .int (nI k)] [] (CW σ tg ad c g) = some (.inl none, CW σ tg ad c (up (wf1 r v) m k g))
  | 0, k, g, hk, h3, h4 => by
    have z := eq_true (nI_le (a := q) (b := k) (by omega) (by omega))
    rw [e17_5]
    simp only [ci_10_3 L, h3, z, e17_10, e17_35, K0_v, K0_n, K0_x, K2_v, K2_n, K1_v, K1_n, K1_x, bI_s, bJ_s, bV_s, bS_s, l_10, l_00, bz_01, bz_0, bz_1, em_n, if_true, if_false, ite_not, ite_true, ite_false, not_true_eq_false, not_false_eq_true, or_true, true_or, up]
  | m + 1, k, g, hk, h3, h4 => by
    have z := eq_false (nI_ge (a := k) (b := q) (by omega) (by omega))
    have e : (Int32.ofNat 200) = nI 200 := rfl
    have q2 := eq_true (show 0 ≤ nI k ∧ nI k < nI 200 from ⟨nI_pos' (by omega), nI_lt (by omega) (by decide)⟩)
    have ih := l_17 h L hq v m (k + 1) (uf g r k v) (by omega) (by rw [uf_n (by unfold AR at h; omega)]; exact h3) (by rw [uf_n (by unfold AR at h; omega)]; exact h4)
    rw [e17_5]
    simp only [ci_10_3 L, h3, z, e17_0, e17_4, e17_10, e17_13, e17_16, e17_19, e17_22, e17_28, e17_29, e17_35, cn_A h, Option.map, e, c_101, q2, ci_10_4 L, h4, cw_A h (show k < 200 by omega), one_ne, nI_1, ih, K0_v, K0_n, K0_x, K2_v, K2_n, K1_v, K1_n, K1_x, bI_s, bJ_s, bV_s, bS_s, l_10, l_00, bz_01, bz_0, bz_1, em_n, if_true, if_false, ite_not, ite_true, ite_false, not_true_eq_false, not_false_eq_true, or_true, true_or]
    rfl
theorem c_17 {A r j p q : Nat} (h : AR A r) (L : LV tg ad 10 j) (hq : q ≤ 200) (hp : p ≤ q) (h2 : g 42 j = nI p) (h3 : g 43 j = nI q) : mm_M 17 [.ref (ad (10, j)), .ref A] (CW σ tg ad c g) = some (.inl none, CW σ tg ad c (up (wf1 r (g 44 j)) (q - p) p g)) := by
  rw [M_17, e17_0]
  simp only [ci_10_2 L, h2, e17_4, K0_v, K0_n, K0_x, K2_v, K2_n, K1_v, K1_n, K1_x, bI_s, bJ_s, bV_s, bS_s, l_10, l_00, bz_01, bz_0, bz_1, em_n, if_true, if_false, ite_not, ite_true, ite_false, not_true_eq_false, not_false_eq_true, or_true, true_or]
  exact l_17 h L hq _ (q - p) p g (by omega) h3 rfl
theorem l_18 {A r j q : Nat} (h : AR A r) (L : LV tg ad 10 j) (hq : q ≤ 200) (h3 : g 43 j = nI q) : ∀ m k (x : Int32), k + m = q → mm_L 18 7 [.ref (ad (10, j)), .ref A, .int x, .int (nI k)] [] (CW σ tg ad c g) = some (.inl (some (.int (up (ct g r (g 44 j)) m k x))), (CW σ tg ad c g))
  | 0, k, x, hk => by
    have z := eq_true (nI_le (a := q) (b := k) (by omega) (by omega))
    rw [e18_7]
    simp only [ci_10_3 L, h3, z, e18_12, e18_43, K0_v, K0_n, K0_x, K2_v, K2_n, K1_v, K1_n, K1_x, bI_s, bJ_s, bV_s, bS_s, l_10, l_00, bz_01, bz_0, bz_1, em_n, if_true, if_false, ite_not, ite_true, ite_false, not_true_eq_false, not_false_eq_true, or_true, true_or, up]
  | m + 1, k, x, hk => by
    have z := eq_false (nI_ge (a := k) (b := q) (by omega) (by omega))
    have e : (Int32.ofNat 200) = nI 200 := rfl
    have q2 := eq_true (show 0 ≤ nI k ∧ nI k < nI 200 from ⟨nI_pos' (by omega), nI_lt (by omega) (by decide)⟩)
    have ih := fun x => l_18 h L hq h3 m (k + 1) x (by omega)
    rw [e18_7]
    show _ = some (Sum.inl (some (Value.int (up (ct g r (g 44 j)) m (k + 1) (ct g r (g 44 j) k x)))), _)
    rw [← ih]
    unfold ct
    by_cases y : g r k = g 44 j
    · simp only [ci_10_3 L, h3, z, e18_0, e18_6, e18_12, e18_15, e18_18, e18_21, e18_24, e18_27, e18_31, e18_34, e18_37, e18_43, cn_A h, Option.map, e, c_101, q2, ci_10_4 L, cb_A h (show k < 200 by omega), eq_true y, one_ne, nI_1, K0_v, K0_n, K0_x, K2_v, K2_n, K1_v, K1_n, K1_x, bI_s, bJ_s, bV_s, bS_s, l_10, l_00, bz_01, bz_0, bz_1, em_n, if_true, if_false, ite_not, ite_true, ite_false, not_true_eq_false, not_false_eq_true, or_true, true_or]
    · simp only [ci_10_3 L, h3, z, e18_0, e18_6, e18_12, e18_15, e18_18, e18_21, e18_24, e18_27, e18_31, e18_34, e18_37, e18_43, cn_A h, Option.map, e, c_101, q2, ci_10_4 L, cb_A h (show k < 200 by omega), eq_false y, one_ne, nI_1, K0_v, K0_n, K0_x, K2_v, K2_n, K1_v, K1_n, K1_x, bI_s, bJ_s, bV_s, bS_s, l_10, l_00, bz_01, bz_0, bz_1, em_n, if_true, if_false, ite_not, ite_true, ite_false, not_true_eq_false, not_false_eq_true, or_true, true_or]
theorem c_18 {A r j p q : Nat} (h : AR A r) (L : LV tg ad 10 j) (hq : q ≤ 200) (hp : p ≤ q) (h2 : g 42 j = nI p) (h3 : g 43 j = nI q) : mm_M 18 [.ref (ad (10, j)), .ref A] (CW σ tg ad c g) = some (.inl (some (.int (up (ct g r (g 44 j)) (q - p) p 0))), (CW σ tg ad c g)) := by
  rw [M_18, e18_0]
  simp only [ci_10_2 L, h2, e18_6, K0_v, K0_n, K0_x, K2_v, K2_n, K1_v, K1_n, K1_x, bI_s, bJ_s, bV_s, bS_s, l_10, l_00, bz_01, bz_0, bz_1, em_n, if_true, if_false, ite_not, ite_true, ite_false, not_true_eq_false, not_false_eq_true, or_true, true_or]
  exact l_18 h L hq h3 (q - p) p 0 (by omega)
theorem l_5a {A r : Nat} (h : AR A r) {x : Nat} {a b : Int32} : ∀ m k (g : Nat → Nat → Int32), k + m = 200 → mm_L 5 3 [.ref x, .int a, .int b, .ref A, .int (nI k)] [] (CW σ tg ad c g) = mm_L 5 24 [.ref x, .int a, .int b, .ref A, .int 0] [] (CW σ tg ad c (up (wf1 r (-1)) m k g))
  | 0, k, g, hk => by
    have e : (Int32.ofNat 200) = nI 200 := rfl
    have z := eq_true (nI_le (a := 200) (b := k) (by omega) (by omega))
    rw [e5_3]
    simp only [cn_A h, Option.map, e, z, e5_7, e5_21, K0_v, K0_n, K0_x, K2_v, K2_n, K1_v, K1_n, K1_x, bI_s, bJ_s, bV_s, bS_s, l_10, l_00, bz_01, bz_0, bz_1, em_n, if_true, if_false, ite_not, ite_true, ite_false, not_true_eq_false, not_false_eq_true, or_true, true_or, up]
  | m + 1, k, g, hk => by
    have e : (Int32.ofNat 200) = nI 200 := rfl
    have z := eq_false (nI_ge (a := k) (b := 200) (by omega) (by omega))
    have ih := l_5a h (x := x) (a := a) (b := b) m (k + 1) (uf g r k (-1)) (by omega)
    rw [e5_3]
    simp only [cn_A h, Option.map, e, z, e5_7, e5_10, e5_15, cw_A h (show k < 200 by omega), nI_1, ih, K0_v, K0_n, K0_x, K2_v, K2_n, K1_v, K1_n, K1_x, bI_s, bJ_s, bV_s, bS_s, l_10, l_00, bz_01, bz_0, bz_1, em_n, if_true, if_false, ite_not, ite_true, ite_false, not_true_eq_false, not_false_eq_true, or_true, true_or]
    rfl
theorem mv_p {i m p : Nat} (h : g 42 (1000 * i + m) = nI p) (hp : p < 2 ^ 31) : mp g i m = p := by
  unfold mp
  rw [h, nI_clamp hp]
theorem mv_q {i m p : Nat} (h : g 43 (1000 * i + m) = nI p) (hp : p < 2 ^ 31) : mq g i m = p := by
  unfold mq
  rw [h, nI_clamp hp]
theorem l_5b (w : WF tg ad c n) {A r : Nat} (h : AR A r) {i : Nat} (hi : i < c 4) (a b : Int32) : ∀ m k (g : Nat → Nat → Int32), MV g c → k + m = c (100 + i) → mm_L 5 24 [.ref (ad (8, i)), .int a, .int b, .ref A, .int (nI k)] [] (CW σ tg ad c g) = some (.inl none, CW σ tg ad c (up (wms i a b r) m k g))
  | 0, k, g, hv, hk => by
    obtain ⟨L8, L9⟩ := w.cl hi
    have bb := (w.1.2.2.2.2.2 i hi).1
    have q := eq_true (nI_le (a := c (100 + i)) (b := k) (by omega) (by omega))
    rw [e5_24]
    simp only [cr_8_4 L8, cz_9 L9, q, e5_30, e5_33, e5_78, K0_v, K0_n, K0_x, K2_v, K2_n, K1_v, K1_n, K1_x, bI_s, bJ_s, bV_s, bS_s, l_10, l_00, bz_01, bz_0, bz_1, em_n, if_true, if_false, ite_not, ite_true, ite_false, not_true_eq_false, not_false_eq_true, or_true, true_or, up]
  | m + 1, k, g, hv, hk => by
    obtain ⟨L8, L9⟩ := w.cl hi
    have bb := (w.1.2.2.2.2.2 i hi).1
    have hk' : k < c (100 + i) := by omega
    have L10 := w.m hi hk'
    obtain ⟨p, q, h2, h3, h4, h5⟩ := hv i hi k hk'
    have z := eq_false (nI_ge (a := k) (b := c (100 + i)) hk' (by omega))
    have hv' : MV (wms i a b r k g) c := by
      have e : ∀ r', r' = 42 ∨ r' = 43 → wms i a b r k g r' = g r' := fun r' z => wms_r (by unfold AR at h; omega) k g
      intro i hi m hm
      rw [e 42 (by omega), e 43 (by omega)]
      exact hv i hi m hm
    have ih := l_5b w h hi a b m (k + 1) (wms i a b r k g) hv' (by omega)
    rw [e5_24]
    show _ = some (Sum.inl none, CW σ tg ad c (up (wms i a b r) m (k + 1) (wms i a b r k g)))
    rw [← ih]
    unfold wms
    by_cases h1 : g 40 (1000 * i + k) = a ∧ g 41 (1000 * i + k) = b
    · rw [mv_p h2 (by omega), mv_q h3 (by omega)]
      simp only [cr_8_4 L8, cz_9 L9, z, e5_30, e5_33, e5_36, e5_40, e5_45, e5_48, e5_53, e5_56, e5_60, e5_65, e5_68, e5_72, cg_9 L9 hk' (by omega), ck_10 L10, kM_16 L10, c_16 L10, eq_true h1, kM_17 L10, c_17 h L10 h5 (Nat.le_of_lt h4) h2 h3, one_ne, nI_1, K0_v, K0_n, K0_x, K2_v, K2_n, K1_v, K1_n, K1_x, bI_s, bJ_s, bV_s, bS_s, l_10, l_00, bz_01, bz_0, bz_1, em_n, if_true, if_false, ite_not, ite_true, ite_false, not_true_eq_false, not_false_eq_true, or_true, true_or]
    · simp only [cr_8_4 L8, cz_9 L9, z, e5_30, e5_33, e5_36, e5_40, e5_45, e5_48, e5_53, e5_56, e5_60, e5_65, e5_68, e5_72, cg_9 L9 hk' (by omega), ck_10 L10, kM_16 L10, c_16 L10, eq_false h1, nI_1, K0_v, K0_n, K0_x, K2_v, K2_n, K1_v, K1_n, K1_x, bI_s, bJ_s, bV_s, bS_s, l_10, l_00, bz_01, bz_0, bz_1, em_n, if_true, if_false, ite_not, ite_true, ite_false, not_true_eq_false, not_false_eq_true, or_true, true_or]
theorem c_5 (w : WF tg ad c n) {A r : Nat} (h : AR A r) {i : Nat} (hi : i < c 4) (a b : Int32) (hv : MV g c) : ∃ G, mm_M 5 [.ref (ad (8, i)), .int a, .int b, .ref A] (CW σ tg ad c g) = some (.inl none, CW σ tg ad c G) ∧ (∀ r', r' ≠ r → G r' = g r') ∧ ∀ t, t < 200 → G r t = wvt g i (c (100 + i)) a b t := by
  have hr : r = 36 ∨ r = 37 := by unfold AR at h; omega
  have la := l_5a (σ := σ) (tg := tg) (ad := ad) (c := c) h (x := ad (8, i)) (a := a) (b := b) 200 0 g (by omega)
  rw [nI_0] at la
  have e1 : ∀ r', r' ≠ r → up (wf1 r (-1)) 200 0 g r' = g r' := fun r' hr => wf1_r hr _ _ _
  have hv' : MV (up (wf1 r (-1)) 200 0 g) c := by
    intro i hi m hm
    rw [e1 42 (by omega), e1 43 (by omega)]
    exact hv i hi m hm
  have lb := l_5b (σ := σ) w h hi a b (c (100 + i)) 0 (up (wf1 r (-1)) 200 0 g) hv' (by omega)
  rw [nI_0] at lb
  refine ⟨up (wms i a b r) (c (100 + i)) 0 (up (wf1 r (-1)) 200 0 g), ?_, ?_, ?_⟩
  · rw [M_5, e5_0, la, lb]
  · intro r' hr'
    rw [up_r (fun k g => wms_r hr' k g), e1 r' hr']
  · intro t ht
    have sm : SM (up (wf1 r (-1)) 200 0 g) g := ⟨e1 40 (by omega), e1 41 (by omega), e1 42 (by omega), e1 43 (by omega), e1 44 (by omega)⟩
    have hm : ∀ m, m < c (100 + i) → mp g i m ≤ mq g i m := fun m hm => by
      obtain ⟨p, q, h2, h3, h4, h5⟩ := hv i hi m hm
      rw [mv_p h2 (by omega), mv_q h3 (by omega)]
      omega
    rw [wmsu_at hr t hm (c (100 + i)) 0 _ (by omega) sm, wf1_at, if_pos (by omega)]
    rfl
-- counts
theorem l_93 : ∀ m k (x : Int32), k + m = 200 → mm_L 93 4 [.ref 2, .int x, .int (nI k)] [] (CW σ tg ad c g) = some (.inl (some (.int (up (cA g) m k x))), (CW σ tg ad c g))
  | 0, k, x, hk => by
    have e : (Int32.ofNat 200) = nI 200 := rfl
    have z := eq_true (nI_le (a := 200) (b := k) (by omega) (by omega))
    rw [e93_4]
    simp only [cf_6, cn_a9, Option.map, e, z, e93_9, e93_10, e93_56, K0_v, K0_n, K0_x, K2_v, K2_n, K1_v, K1_n, K1_x, bI_s, bJ_s, bV_s, bS_s, l_10, l_00, bz_01, bz_0, bz_1, em_n, if_true, if_false, ite_not, ite_true, ite_false, not_true_eq_false, not_false_eq_true, or_true, true_or, up]
  | m + 1, k, x, hk => by
    have e : (Int32.ofNat 200) = nI 200 := rfl
    have z := eq_false (nI_ge (a := k) (b := 200) (by omega) (by omega))
    have hk' : k < 200 := by omega
    have ih := fun x => l_93 m (k + 1) x (by omega)
    rw [e93_4]
    show _ = some (Sum.inl (some (Value.int (up (cA g) m (k + 1) (cA g k x)))), _)
    rw [← ih]
    unfold cA
    by_cases h1 : g 36 k = -1
    · rw [if_neg (fun y => y.1 h1)]
      simp only [cf_6, cf_7, cn_a9, cn_a10, Option.map, e, z, e93_0, e93_9, e93_10, e93_13, e93_18, e93_19, e93_22, e93_26, e93_28, e93_32, e93_36, e93_38, e93_42, e93_44, e93_47, e93_50, e93_56, cb_a9 hk', cb_a10 hk', eq_true h1, nI_1, K0_v, K0_n, K0_x, K2_v, K2_n, K1_v, K1_n, K1_x, bI_s, bJ_s, bV_s, bS_s, l_10, l_00, bz_01, bz_0, bz_1, em_n, if_true, if_false, ite_not, ite_true, ite_false, not_true_eq_false, not_false_eq_true, or_true, true_or]
    · by_cases h2 : g 36 k = g 37 k
      · rw [if_pos ⟨h1, h2⟩]
        simp only [cf_6, cf_7, cn_a9, cn_a10, Option.map, e, z, e93_0, e93_9, e93_10, e93_13, e93_18, e93_19, e93_22, e93_26, e93_28, e93_32, e93_36, e93_38, e93_42, e93_44, e93_47, e93_50, e93_56, cb_a9 hk', cb_a10 hk', eq_false h1, eq_true h2, nI_1, K0_v, K0_n, K0_x, K2_v, K2_n, K1_v, K1_n, K1_x, bI_s, bJ_s, bV_s, bS_s, l_10, l_00, bz_01, bz_0, bz_1, em_n, if_true, if_false, ite_not, ite_true, ite_false, not_true_eq_false, not_false_eq_true, or_true, true_or]
      · rw [if_neg (fun y => h2 y.2)]
        simp only [cf_6, cf_7, cn_a9, cn_a10, Option.map, e, z, e93_0, e93_9, e93_10, e93_13, e93_18, e93_19, e93_22, e93_26, e93_28, e93_32, e93_36, e93_38, e93_42, e93_44, e93_47, e93_50, e93_56, cb_a9 hk', cb_a10 hk', eq_false h1, eq_false h2, nI_1, K0_v, K0_n, K0_x, K2_v, K2_n, K1_v, K1_n, K1_x, bI_s, bJ_s, bV_s, bS_s, l_10, l_00, bz_01, bz_0, bz_1, em_n, if_true, if_false, ite_not, ite_true, ite_false, not_true_eq_false, not_false_eq_true, or_true, true_or]
theorem c_93 : mm_M 93 [.ref 2] (CW σ tg ad c g) = some (.inl (some (.int (up (cA g) 200 0 0))), (CW σ tg ad c g)) := by
  have l := l_93 (g := g) (σ := σ) (tg := tg) (ad := ad) (c := c) 200 0 0 (by omega)
  rw [nI_0] at l
  rw [M_93, e93_0]
  exact l
theorem l_94 : ∀ m k (x : Int32), k + m = 200 → mm_L 94 4 [.ref 2, .int x, .int (nI k)] [] (CW σ tg ad c g) = some (.inl (some (.int (up (cB g) m k x))), (CW σ tg ad c g))
  | 0, k, x, hk => by
    have e : (Int32.ofNat 200) = nI 200 := rfl
    have z := eq_true (nI_le (a := 200) (b := k) (by omega) (by omega))
    rw [e94_4]
    simp only [cf_6, cn_a9, Option.map, e, z, e94_9, e94_10, e94_51, K0_v, K0_n, K0_x, K2_v, K2_n, K1_v, K1_n, K1_x, bI_s, bJ_s, bV_s, bS_s, l_10, l_00, bz_01, bz_0, bz_1, em_n, if_true, if_false, ite_not, ite_true, ite_false, not_true_eq_false, not_false_eq_true, or_true, true_or, up]
  | m + 1, k, x, hk => by
    have e : (Int32.ofNat 200) = nI 200 := rfl
    have z := eq_false (nI_ge (a := k) (b := 200) (by omega) (by omega))
    have hk' : k < 200 := by omega
    have ih := fun x => l_94 m (k + 1) x (by omega)
    rw [e94_4]
    show _ = some (Sum.inl (some (Value.int (up (cB g) m (k + 1) (cB g k x)))), _)
    rw [← ih]
    unfold cB
    by_cases h1 : g 36 k = -1
    · by_cases h2 : g 37 k = -1
      · rw [if_neg (fun y => y.elim (fun y => y h1) (fun y => y h2))]
        simp only [cf_6, cf_7, cn_a9, cn_a10, Option.map, e, z, e94_0, e94_9, e94_10, e94_13, e94_18, e94_19, e94_22, e94_26, e94_28, e94_32, e94_36, e94_38, e94_42, e94_45, e94_51, cb_a9 hk', cb_a10 hk', eq_true h1, eq_true h2, nI_1, K0_v, K0_n, K0_x, K2_v, K2_n, K1_v, K1_n, K1_x, bI_s, bJ_s, bV_s, bS_s, l_10, l_00, bz_01, bz_0, bz_1, em_n, if_true, if_false, ite_not, ite_true, ite_false, not_true_eq_false, not_false_eq_true, or_true, true_or]
      · rw [if_pos (Or.inr h2)]
        simp only [cf_6, cf_7, cn_a9, cn_a10, Option.map, e, z, e94_0, e94_9, e94_10, e94_13, e94_18, e94_19, e94_22, e94_26, e94_28, e94_32, e94_36, e94_38, e94_42, e94_45, e94_51, cb_a9 hk', cb_a10 hk', eq_true h1, eq_false h2, nI_1, K0_v, K0_n, K0_x, K2_v, K2_n, K1_v, K1_n, K1_x, bI_s, bJ_s, bV_s, bS_s, l_10, l_00, bz_01, bz_0, bz_1, em_n, if_true, if_false, ite_not, ite_true, ite_false, not_true_eq_false, not_false_eq_true, or_true, true_or]
    · rw [if_pos (Or.inl h1)]
      simp only [cf_6, cf_7, cn_a9, cn_a10, Option.map, e, z, e94_0, e94_9, e94_10, e94_13, e94_18, e94_19, e94_22, e94_26, e94_28, e94_32, e94_36, e94_38, e94_42, e94_45, e94_51, cb_a9 hk', cb_a10 hk', eq_false h1, nI_1, K0_v, K0_n, K0_x, K2_v, K2_n, K1_v, K1_n, K1_x, bI_s, bJ_s, bV_s, bS_s, l_10, l_00, bz_01, bz_0, bz_1, em_n, if_true, if_false, ite_not, ite_true, ite_false, not_true_eq_false, not_false_eq_true, or_true, true_or]
theorem c_94 : mm_M 94 [.ref 2] (CW σ tg ad c g) = some (.inl (some (.int (up (cB g) 200 0 0))), (CW σ tg ad c g)) := by
  have l := l_94 (g := g) (σ := σ) (tg := tg) (ad := ad) (c := c) 200 0 0 (by omega)
  rw [nI_0] at l
  rw [M_94, e94_0]
  exact l
theorem l_95 (w : WF tg ad c n) {i : Nat} (hi : i < c 4) (a b : Int32) (hv : MV g c) : ∀ m k (x : Int32) (l6 : Value), k + m = c (100 + i) → mm_L 95 6 [.ref 2, .ref (ad (8, i)), .int a, .int b, .int x, .int (nI k), l6] [] (CW σ tg ad c g) = some (.inl (some (.int (up (cS g i a b) m k x))), (CW σ tg ad c g))
  | 0, k, x, l6, h => by
    obtain ⟨L8, L9⟩ := w.cl hi
    have bb := (w.1.2.2.2.2.2 i hi).1
    have q := eq_true (nI_le (a := c (100 + i)) (b := k) (by omega) (by omega))
    rw [e95_6]
    simp only [cr_8_4 L8, cz_9 L9, q, e95_12, e95_15, e95_76, K0_v, K0_n, K0_x, K2_v, K2_n, K1_v, K1_n, K1_x, bI_s, bJ_s, bV_s, bS_s, l_10, l_00, bz_01, bz_0, bz_1, em_n, if_true, if_false, ite_not, ite_true, ite_false, not_true_eq_false, not_false_eq_true, or_true, true_or, up]
  | m + 1, k, x, l6, h => by
    obtain ⟨L8, L9⟩ := w.cl hi
    have bb := (w.1.2.2.2.2.2 i hi).1
    have hk : k < c (100 + i) := by omega
    have L10 := w.m hi hk
    obtain ⟨p, q, h2, h3, h4, h5⟩ := hv i hi k hk
    have z := eq_false (nI_ge (a := k) (b := c (100 + i)) hk (by omega))
    have ih := fun x l6 => l_95 w hi a b hv m (k + 1) x l6 (by omega)
    rw [e95_6]
    show _ = some (Sum.inl (some (Value.int (up (cS g i a b) m (k + 1) (cS g i a b k x)))), _)
    by_cases h1 : g 40 (1000 * i + k) = a ∧ g 41 (1000 * i + k) = b
    · have c18 := c_18 (σ := σ) (tg := tg) (c := c) (show AR 10 37 from Or.inr ⟨rfl, rfl⟩) L10 h5 (Nat.le_of_lt h4) h2 h3
      have e0 : cS g i a b k x = if (g 40 (1000 * i + k) = a ∧ g 41 (1000 * i + k) = b) ∧ ¬ 2 * up (ct g 37 (g 44 (1000 * i + k))) (q - p) p 0 ≤ g 43 (1000 * i + k) - g 42 (1000 * i + k) then x + 1 else x := by
        unfold cS
        rw [mv_p h2 (by omega), mv_q h3 (by omega)]
      rw [e0]
      by_cases h6 : 2 * up (ct g 37 (g 44 (1000 * i + k))) (q - p) p 0 ≤ g 43 (1000 * i + k) - g 42 (1000 * i + k)
      · rw [if_neg (fun y => y.2 h6)]
        simp only [cr_8_4 L8, cz_9 L9, z, e95_0, e95_12, e95_15, e95_18, e95_22, e95_27, e95_30, e95_39, e95_42, e95_49, e95_52, e95_58, e95_63, e95_67, e95_70, e95_76, cg_9 L9 hk (by omega), ck_10 L10, kM_16 L10, c_16 L10, eq_true h1, cf_7, kM_18 L10, c18, ci_10_3 L10, ci_10_2 L10, eq_true h6, one_ne, nI_1, ih, K0_v, K0_n, K0_x, K2_v, K2_n, K1_v, K1_n, K1_x, bI_s, bJ_s, bV_s, bS_s, l_10, l_00, bz_01, bz_0, bz_1, em_n, if_true, if_false, ite_not, ite_true, ite_false, not_true_eq_false, not_false_eq_true, or_true, true_or]
      · rw [if_pos ⟨h1, h6⟩]
        simp only [cr_8_4 L8, cz_9 L9, z, e95_0, e95_12, e95_15, e95_18, e95_22, e95_27, e95_30, e95_39, e95_42, e95_49, e95_52, e95_58, e95_63, e95_67, e95_70, e95_76, cg_9 L9 hk (by omega), ck_10 L10, kM_16 L10, c_16 L10, eq_true h1, cf_7, kM_18 L10, c18, ci_10_3 L10, ci_10_2 L10, eq_false h6, one_ne, nI_1, ih, K0_v, K0_n, K0_x, K2_v, K2_n, K1_v, K1_n, K1_x, bI_s, bJ_s, bV_s, bS_s, l_10, l_00, bz_01, bz_0, bz_1, em_n, if_true, if_false, ite_not, ite_true, ite_false, not_true_eq_false, not_false_eq_true, or_true, true_or]
    · have e0 : cS g i a b k x = x := if_neg (fun y => h1 y.1)
      rw [e0]
      simp only [cr_8_4 L8, cz_9 L9, z, e95_0, e95_12, e95_15, e95_18, e95_22, e95_27, e95_30, e95_39, e95_42, e95_49, e95_52, e95_58, e95_63, e95_67, e95_70, e95_76, cg_9 L9 hk (by omega), ck_10 L10, kM_16 L10, c_16 L10, eq_false h1, nI_1, ih, K0_v, K0_n, K0_x, K2_v, K2_n, K1_v, K1_n, K1_x, bI_s, bJ_s, bV_s, bS_s, l_10, l_00, bz_01, bz_0, bz_1, em_n, if_true, if_false, ite_not, ite_true, ite_false, not_true_eq_false, not_false_eq_true, or_true, true_or]
theorem c_95 (w : WF tg ad c n) {i : Nat} (hi : i < c 4) (a b : Int32) (hv : MV g c) : mm_M 95 [.ref 2, .ref (ad (8, i)), .int a, .int b] (CW σ tg ad c g) = some (.inl (some (.int (up (cS g i a b) (c (100 + i)) 0 0))), (CW σ tg ad c g)) := by
  have l := l_95 (σ := σ) w hi a b hv (c (100 + i)) 0 0 mm_un (by omega)
  rw [nI_0] at l
  rw [M_95, e95_0]
  exact l
-- agree
theorem c_90a {p a b o q : Int32} (h : ¬ (0 ≤ p ∧ p < nI (c 4))) : mm_M 90 [.ref 2, .int p, .int a, .int o, .int b, .int q] (CW σ tg ad c g) = some (.inr 2, mm_bmp (CW σ tg ad c g) 1 6) := by
  simp only [M_90, e90_0, aM_96, c_96x h, K0_v, K0_n, K0_x, K2_v, K2_n, K1_v, K1_n, K1_x, bI_s, bJ_s, bV_s, bS_s, l_10, l_00, bz_01, bz_0, bz_1, em_n, if_true, if_false, ite_not, ite_true, ite_false, not_true_eq_false, not_false_eq_true, or_true, true_or]
theorem c_90b (w : WF tg ad c n) {k : Nat} {a b o q : Int32} (hk : k < c 4) (h : g 23 k ≠ 0) : mm_M 90 [.ref 2, .int (nI k), .int a, .int o, .int b, .int q] (CW σ tg ad c g) = some (.inr 2, mm_bmp (CW σ tg ad c g) 1 6) := by
  simp only [M_90, e90_0, aM_96, c_96y w hk h, K0_v, K0_n, K0_x, K2_v, K2_n, K1_v, K1_n, K1_x, bI_s, bJ_s, bV_s, bS_s, l_10, l_00, bz_01, bz_0, bz_1, em_n, if_true, if_false, ite_not, ite_true, ite_false, not_true_eq_false, not_false_eq_true, or_true, true_or]
theorem c_90c (w : WF tg ad c n) {k : Nat} {a b o q : Int32} (hk : k < c 4) (h : g 23 k = 0) (h2 : ¬ ((0 ≤ a ∧ a < 3) ∧ (0 ≤ o ∧ o < 3) ∧ (0 ≤ b ∧ b < 4))) : mm_M 90 [.ref 2, .int (nI k), .int a, .int o, .int b, .int q] (CW σ tg ad c g) = some (.inr 2, mm_bmp (CW σ tg ad c g) 1 6) := by
  by_cases h3 : 0 ≤ a ∧ a < 3
  · by_cases h4 : 0 ≤ o ∧ o < 3
    · have h5 : ¬ (0 ≤ b ∧ b < 4) := fun z => h2 ⟨h3, h4, z⟩
      simp only [M_90, e90_0, e90_5, e90_9, e90_13, aM_96, c_96 w hk h, c_99 h3, c_99 h4, c_100x h5, K0_v, K0_n, K0_x, K2_v, K2_n, K1_v, K1_n, K1_x, bI_s, bJ_s, bV_s, bS_s, l_10, l_00, bz_01, bz_0, bz_1, em_n, if_true, if_false, ite_not, ite_true, ite_false, not_true_eq_false, not_false_eq_true, or_true, true_or]
    · simp only [M_90, e90_0, e90_5, e90_9, e90_13, aM_96, c_96 w hk h, c_99 h3, c_99x h4, K0_v, K0_n, K0_x, K2_v, K2_n, K1_v, K1_n, K1_x, bI_s, bJ_s, bV_s, bS_s, l_10, l_00, bz_01, bz_0, bz_1, em_n, if_true, if_false, ite_not, ite_true, ite_false, not_true_eq_false, not_false_eq_true, or_true, true_or]
  · simp only [M_90, e90_0, e90_5, e90_9, e90_13, aM_96, c_96 w hk h, c_99x h3, K0_v, K0_n, K0_x, K2_v, K2_n, K1_v, K1_n, K1_x, bI_s, bJ_s, bV_s, bS_s, l_10, l_00, bz_01, bz_0, bz_1, em_n, if_true, if_false, ite_not, ite_true, ite_false, not_true_eq_false, not_false_eq_true, or_true, true_or]
theorem c_90d (w : WF tg ad c n) {k : Nat} {a b o q : Int32} (hk : k < c 4) (h : g 23 k = 0) (h2 : (0 ≤ a ∧ a < 3) ∧ (0 ≤ o ∧ o < 3) ∧ (0 ≤ b ∧ b < 4)) (hq : ¬ (0 ≤ q ∧ q < 3)) : mm_M 90 [.ref 2, .int (nI k), .int a, .int o, .int b, .int q] (CW σ tg ad c g) = some (.inr 0, mm_bmp (CW σ tg ad c g) 1 6) := by
  simp only [M_90, e90_0, e90_5, e90_9, e90_13, e90_18, e90_24, e90_27, aM_96, c_96 w hk h, c_99 h2.1, c_99 h2.2.1, c_100 h2.2.2, c_101, eq_false hq, K0_v, K0_n, K0_x, K2_v, K2_n, K1_v, K1_n, K1_x, bI_s, bJ_s, bV_s, bS_s, l_10, l_00, bz_01, bz_0, bz_1, em_n, if_true, if_false, ite_not, ite_true, ite_false, not_true_eq_false, not_false_eq_true, or_true, true_or]
def agv (g : Nat → Nat → Int32) (i M : Nat) (a b : Int32) (q : Int32) : Int32 := if q = 0 then up (cA g) 200 0 0 else if q = 1 then up (cB g) 200 0 0 else up (cS g i a b) M 0 0
theorem c_90 (w : WF tg ad c n) {k : Nat} {a b o q : Int32} (hk : k < c 4) (h : g 23 k = 0) (h2 : (0 ≤ a ∧ a < 3) ∧ (0 ≤ o ∧ o < 3) ∧ (0 ≤ b ∧ b < 4)) (hq : 0 ≤ q ∧ q < 3) (hv : MV g c) : ∃ G, mm_M 90 [.ref 2, .int (nI k), .int a, .int o, .int b, .int q] (CW σ tg ad c g) = some (.inl (some (.int (agv G k (c (100 + k)) a b q))), CW σ tg ad c G) ∧ (∀ r, r ≠ 36 → r ≠ 37 → G r = g r) ∧ (∀ t, t < 200 → G 36 t = wvt g k (c (100 + k)) a b t) ∧ (∀ t, t < 200 → G 37 t = wvt g k (c (100 + k)) o b t) := by
  have b4 := w.1.2.2.2.2.1
  obtain ⟨L8, L9⟩ := w.cl hk
  obtain ⟨G1, x1, x2, x3⟩ := c_5 (σ := σ) w (show AR 9 36 from Or.inl ⟨rfl, rfl⟩) hk a b hv
  have hv1 : MV G1 c := by
    intro i hi m hm
    rw [x2 42 (by decide), x2 43 (by decide)]
    exact hv i hi m hm
  obtain ⟨G2, y1, y2, y3⟩ := c_5 (σ := σ) w (show AR 10 37 from Or.inr ⟨rfl, rfl⟩) hk o b hv1
  have hv2 : MV G2 c := by
    intro i hi m hm
    rw [y2 42 (by decide), y2 43 (by decide)]
    exact hv1 i hi m hm
  have sm : SM G1 g := ⟨x2 _ (by decide), x2 _ (by decide), x2 _ (by decide), x2 _ (by decide), x2 _ (by decide)⟩
  refine ⟨G2, ?_, fun r h6 h7 => by rw [y2 r h7, x2 r h6], fun t ht => by rw [y2 36 (by decide), x3 t ht], fun t ht => ?_⟩
  · unfold agv
    by_cases q0 : q = 0
    · simp only [M_90, e90_0, e90_5, e90_9, e90_13, e90_18, e90_24, e90_27, e90_37, e90_41, e90_45, e90_48, e90_59, e90_62, e90_71, e90_74, e90_104, e90_108, e90_109, e90_113, e90_114, e90_123, aM_96, c_96 w hk h, c_99 h2.1, c_99 h2.2.1, c_100 h2.2.2, c_101, eq_true hq, cf_4, cf_6, cf_7, cg_7 hk (by omega), ck_8 L8, pM_5 L8, x1, y1, eq_true q0, aM_93, c_93, K0_v, K0_n, K0_x, K2_v, K2_n, K1_v, K1_n, K1_x, bI_s, bJ_s, bV_s, bS_s, l_10, l_00, bz_01, bz_0, bz_1, em_n, if_true, if_false, ite_not, ite_true, ite_false, not_true_eq_false, not_false_eq_true, or_true, true_or]
    · by_cases q1 : q = 1
      · simp only [M_90, e90_0, e90_5, e90_9, e90_13, e90_18, e90_24, e90_27, e90_37, e90_41, e90_45, e90_48, e90_59, e90_62, e90_71, e90_74, e90_104, e90_108, e90_109, e90_113, e90_114, e90_123, aM_96, c_96 w hk h, c_99 h2.1, c_99 h2.2.1, c_100 h2.2.2, c_101, eq_true hq, cf_4, cf_6, cf_7, cg_7 hk (by omega), ck_8 L8, pM_5 L8, x1, y1, eq_false q0, eq_true q1, aM_94, c_94, K0_v, K0_n, K0_x, K2_v, K2_n, K1_v, K1_n, K1_x, bI_s, bJ_s, bV_s, bS_s, l_10, l_00, bz_01, bz_0, bz_1, em_n, if_true, if_false, ite_not, ite_true, ite_false, not_true_eq_false, not_false_eq_true, or_true, true_or]
      · simp only [M_90, e90_0, e90_5, e90_9, e90_13, e90_18, e90_24, e90_27, e90_37, e90_41, e90_45, e90_48, e90_59, e90_62, e90_71, e90_74, e90_104, e90_108, e90_109, e90_113, e90_114, e90_123, aM_96, c_96 w hk h, c_99 h2.1, c_99 h2.2.1, c_100 h2.2.2, c_101, eq_true hq, cf_4, cf_6, cf_7, cg_7 hk (by omega), ck_8 L8, pM_5 L8, x1, y1, eq_false q0, eq_false q1, aM_95, c_95 w hk a b hv2, K0_v, K0_n, K0_x, K2_v, K2_n, K1_v, K1_n, K1_x, bI_s, bJ_s, bV_s, bS_s, l_10, l_00, bz_01, bz_0, bz_1, em_n, if_true, if_false, ite_not, ite_true, ite_false, not_true_eq_false, not_false_eq_true, or_true, true_or]
  · rw [y3 t ht]
    unfold wvt
    rw [wvs_c sm]
end
