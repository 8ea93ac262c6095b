/-! LEVEL 2: rules are told -/
def gr (g : Nat → Nat → Int32) (I : Nat) (a : Int32) : Nat → Nat → Int32 := fun r j => if r = 21 ∧ j = I then a else if r = 22 ∧ 30 * I ≤ j ∧ j < 30 * I + 30 then 0 else g r j
theorem gr_r {g : Nat → Nat → Int32} {I r : Nat} {a : Int32} (h : r ≠ 21 ∧ r ≠ 22) : gr g I a r = g r := by
  funext j
  unfold gr
  rw [if_neg (by omega), if_neg (by omega)]
theorem gr_21 {g : Nat → Nat → Int32} {I : Nat} {a : Int32} : gr g I a 21 I = a := if_pos ⟨rfl, rfl⟩
theorem gr_21o {g : Nat → Nat → Int32} {I j : Nat} {a : Int32} (h : j ≠ I) : gr g I a 21 j = g 21 j := by
  unfold gr
  rw [if_neg (by omega), if_neg (by omega)]
theorem gr_22 {g : Nat → Nat → Int32} {I s : Nat} {a : Int32} (h : s < 30) : gr g I a 22 (30 * I + s) = 0 := by
  unfold gr
  rw [if_neg (by omega), if_pos ⟨rfl, by omega, by omega⟩]
theorem gr_22o {g : Nat → Nat → Int32} {I i s : Nat} {a : Int32} (h : i ≠ I) (hs : s < 30) : gr g I a 22 (30 * i + s) = g 22 (30 * i + s) := by
  unfold gr
  rw [if_neg (by omega), if_neg (by omega)]
def R2 (σ : mm_S) (fs : List Value) : mm_S := (fun b => if b = σ.2.1 then some (.inl (4, fs)) else if b = σ.2.1 + 1 then some (.inr (.inl (1, 30, fun _ => 0))) else σ.1 b, σ.2.1 + 2, σ.2.2.1 + 2, σ.2.2.2 + 32)
theorem R2_eq (σ : mm_S) (fs : List Value) : mm_new (mm_new σ (.inl (4, fs)) 2) (.inr (.inl (1, 30, fun _ => 0))) 30 = R2 σ fs := by
  refine Prod.ext (funext fun b => ?_) rfl
  show (if b = σ.2.1 + 1 then _ else if b = σ.2.1 then _ else _) = if b = σ.2.1 then _ else if b = σ.2.1 + 1 then _ else _
  by_cases e : b = σ.2.1
  · rw [if_neg (by omega), if_pos e, if_pos e]
  · rw [if_neg e, if_neg e]
theorem R2_put (σ : mm_S) (fs fs' : List Value) : mm_put (R2 σ fs) σ.2.1 (.inl (4, fs')) = R2 σ fs' := by
  refine Prod.ext (funext fun b => ?_) rfl
  show (if b = σ.2.1 then _ else if b = σ.2.1 then _ else if b = σ.2.1 + 1 then _ else _) = if b = σ.2.1 then _ else if b = σ.2.1 + 1 then _ else _
  split <;> rfl
section
variable {σ : mm_S} {tg : Nat → Nat × Nat} {ad : Nat × Nat → Nat} {c : Nat → Nat} {g : Nat → Nat → Int32}
theorem c_19 (w : WF tg ad c σ.2.1) (a : Int32) : mm_Mo 19 σ.2.1 [.int a] (CW (mm_new σ (.inl (4, [.int 0, .null])) 2) tg ad c g) = some (.inl none, CW (R2 σ [.int a, .ref (σ.2.1 + 1)]) tg ad c g) := by
  have hz := w.2.no (Or.inr (Nat.le_refl _))
  have hrc : mm_Mo 19 σ.2.1 [.int a] (CW (mm_new σ (.inl (4, [.int 0, .null])) 2) tg ad c g) = mm_M 19 [.ref σ.2.1, .int a] (CW (mm_new σ (.inl (4, [.int 0, .null])) 2) tg ad c g) := if_pos (by
    unfold mm_rc mm_ci
    rw [CW_new w.2.2.2 hz, new_at]
    rfl)
  rw [hrc]
  have e1 := setf_un (σ := mm_new σ (.inl (4, [.int 0, .null])) 2) (ad := ad) (c := c) (g := g) (k := 0) (v := .int a) w.2.2.2 hz new_at (show 0 < 2 by decide)
  rw [put_new] at e1
  have hI : IN tg ad (mm_new σ (.inl (4, [.int a, .null])) 2).2.1 := (w.2.up (Nat.le_succ _)).IN
  have h35 : 11 ≤ (mm_new σ (.inl (4, [.int a, .null])) 2).2.1 := Nat.le_succ_of_le w.2.2.2
  have e2 : mm_new (CW (mm_new σ (.inl (4, [.int a, .null])) 2) tg ad c g) (.inr (.inl (1, 30, fun _ => 0))) 30 = CW (R2 σ [.int a, .null]) tg ad c g := by
    rw [CW_mk hI h35, R2_eq]
  have e3 := setf_un (σ := R2 σ [.int a, .null]) (ad := ad) (c := c) (g := g) (k := 1) (v := .ref (σ.2.1 + 1)) w.2.2.2 hz (if_pos rfl) (show 1 < 2 by decide)
  rw [R2_put] at e3
  simp only [M_19, e19_0, e1, K0_v, K0_n, K0_x, K2_v, K2_n, K1_v, K1_n, K1_x, bI_s, bJ_s, bV_s, bS_s, l_10, l_00, bz_01, bz_0, bz_1, em_n, if_true, if_false, ite_not, ite_true, ite_false, not_true_eq_false, not_false_eq_true, or_true, true_or]
  show mm_L 19 9 _ [] (CW (mm_new σ (.inl (4, [.int a, .null])) 2) tg ad c g) = _
  rw [e19_9, e2]
  show mm_bS (mm_setf (CW (R2 σ [.int a, .null]) tg ad c g) σ.2.1 4 1 (.ref (σ.2.1 + 1))) _ _ _ _ = _
  rw [e3, bS_s, e19_17]
  rfl
theorem c_57a {a : Int32} (h : ¬ (0 ≤ a ∧ a < 5)) : mm_M 57 [.ref 2, .int a] (CW σ tg ad c g) = some (.inr 0, mm_bmp (CW σ tg ad c g) 1 6) := by
  simp only [M_57, e57_0, e57_5, e57_8, e57_19, e57_23, e57_26, e57_31, e57_42, e57_46, e57_54, e57_57, e57_62, e57_65, c_101, eq_false h, K0_v, K0_n, K0_x, K2_v, K2_n, K1_v, K1_n, K1_x, bI_s, bJ_s, bV_s, bS_s, l_10, l_00, bz_01, bz_0, bz_1, em_n, if_true, if_false, ite_not, ite_true, ite_false, not_true_eq_false, not_false_eq_true, or_true, true_or]
theorem c_57b {a : Int32} (h : 0 ≤ a ∧ a < 5) (hc : c 3 = 6) : mm_M 57 [.ref 2, .int a] (CW σ tg ad c g) = some (.inr 1, mm_bmp (CW σ tg ad c g) 1 6) := by
  have z : (nI (c 3) < 6) = False := by rw [hc]; decide
  simp only [M_57, e57_0, e57_5, e57_8, e57_19, e57_23, e57_26, e57_31, c_101, eq_true h, cf_3, cz_6, z, K0_v, K0_n, K0_x, K2_v, K2_n, K1_v, K1_n, K1_x, bI_s, bJ_s, bV_s, bS_s, l_10, l_00, bz_01, bz_0, bz_1, em_n, if_true, if_false, ite_not, ite_true, ite_false, not_true_eq_false, not_false_eq_true, or_true, true_or]
def t2 (tg : Nat → Nat × Nat) (n I : Nat) : Nat → Nat × Nat := u2 (u2 tg (n + 1) (7, I)) n (6, I)
def a2 (ad : Nat × Nat → Nat) (n I : Nat) : Nat × Nat → Nat := u2 (u2 ad (7, I) (n + 1)) (6, I) n
theorem a2_6 {n I : Nat} {ad : Nat × Nat → Nat} : a2 ad n I (6, I) = n := u2_s _ _ _
theorem a2_7 {n I : Nat} {ad : Nat × Nat → Nat} : a2 ad n I (7, I) = n + 1 := by
  unfold a2
  rw [u2_n (fun z => by injection z; omega), u2_s]
theorem a2_o {n I k i : Nat} {ad : Nat × Nat → Nat} (h : ¬ ((k = 6 ∨ k = 7) ∧ i = I)) : a2 ad n I (k, i) = ad (k, i) := by
  unfold a2
  rw [u2_n (fun z => by injection z; omega), u2_n (fun z => by injection z; omega)]
theorem WF.addr (w : WF tg ad c σ.2.1) (hc : c 3 < 6) {n : Nat} (hn : n = σ.2.1) : WF (t2 tg n (c 3)) (a2 ad n (c 3)) (u2 c 3 (c 3 + 1)) (n + 2) := by
  subst hn
  have h35 := w.2.2.2
  have z : ∀ b, σ.2.1 ≤ b → (tg b).1 = 0 := fun b hb => w.2.no (Or.inr hb)
  have A := w.2.add (K := 7) (I := c 3) (a := σ.2.1 + 1) (n' := σ.2.1 + 2) (by decide) (by unfold LI; omega) (z _ (by omega)) (by omega) (by omega) (by omega)
  have B := A.add (K := 6) (I := c 3) (a := σ.2.1) (n' := σ.2.1 + 2) (by decide) (by unfold PA LI; omega) (by rw [u2_n (by omega)]; exact z _ (by omega)) (by omega) (by omega) (by omega)
  refine ⟨?_, B.iff fun k i => ?_⟩
  · obtain ⟨b0, b1, b2, b3, b4, b5⟩ := w.1
    refine ⟨by rw [u2_n (by decide)]; exact b0, by rw [u2_n (by decide)]; exact b1, by rw [u2_n (by decide)]; exact b2, by rw [u2_s]; omega, by rw [u2_n (by decide)]; exact b4, ?_⟩
    intro i hi
    rw [u2_n (by decide)] at hi
    rw [u2_n (by omega), u2_n (by omega), u2_n (by omega)]
    exact b5 i hi
  · unfold PA LI
    rw [u2_s, u2_n (show 0 ≠ 3 by decide), u2_n (show 1 ≠ 3 by decide), u2_n (show 2 ≠ 3 by decide), u2_n (show 4 ≠ 3 by decide), u2_n (show 100 + i / 1000 ≠ 3 by omega)]
    omega
theorem CO_gr {k i I n : Nat} {a : Int32} (h : k = 6 ∨ k = 7 → i ≠ I) : CO (a2 ad n I) c (gr g I a) k i = CO ad c g k i := by
  have p : ∀ q, pr (a2 ad n I) q = pr ad q := fun q => by
    cases q with
    | zero => rfl
    | succ q => show Value.ref _ = Value.ref _; rw [a2_o (by omega)]
  have u : ∀ q j, q = 3 ∨ q = 4 ∨ q = 9 ∨ q = 10 → a2 ad n I (q, j) = ad (q, j) := fun q j hq => a2_o (by omega)
  have w : ∀ r', ¬ (r' = 21 ∨ r' = 22) → gr g I a r' = g r' := fun r' q => gr_r (by omega)
  match k with
  | 6 =>
    have hi := h (by omega)
    show Sum.inl (4, _) = Sum.inl (4, _)
    rw [gr_21o hi, a2_o (by omega)]
  | 7 =>
    have hi := h (by omega)
    show Sum.inr (Sum.inl (1, 30, _)) = Sum.inr (Sum.inl (1, 30, _))
    refine congrArg (fun z => Sum.inr (Sum.inl (1, 30, z))) (funext fun s => ?_)
    split
    · rename_i hs; exact gr_22o hi hs
    · rfl
  | 0 => unfold CO; simp only [w 40 (by decide), w 41 (by decide), w 42 (by decide), w 43 (by decide), w 44 (by decide)]
  | 1 => unfold CO; simp only [w 12 (by decide)]
  | 2 => unfold CO; simp only [w 13 (by decide), w 14 (by decide), w 15 (by decide), w 35 (by decide), u, true_or, or_true]
  | 3 => unfold CO; simp only [w 34 (by decide)]
  | 4 => unfold CO; simp only [w 33 (by decide)]
  | 5 => unfold CO; simp only [w 18 (by decide), w 19 (by decide), w 20 (by decide)]
  | 8 => unfold CO; simp only [w 24 (by decide), w 25 (by decide), w 23 (by decide), p, u, true_or, or_true]
  | 9 => unfold CO; simp only [u, or_true]
  | k + 10 => unfold CO; simp only [w 40 (by decide), w 41 (by decide), w 42 (by decide), w 43 (by decide), w 44 (by decide)]
theorem CW_2 (w : WF tg ad c σ.2.1) {a : Int32} : CW (R2 σ [.int a, .ref (σ.2.1 + 1)]) tg ad c g = CW (R2 σ [.int a, .ref (σ.2.1 + 1)]) (t2 tg σ.2.1 (c 3)) (a2 ad σ.2.1 (c 3)) c (gr g (c 3) a) := by
  have h35 := w.2.2.2
  have z : ∀ b, σ.2.1 ≤ b → (tg b).1 = 0 := fun b hb => w.2.no (Or.inr hb)
  refine Prod.ext (funext fun b' => ?_) rfl
  by_cases e2 : b' < 2 ∨ 10 < b'
  · rw [CW_hi e2, CW_hi e2]
    by_cases e0 : b' = σ.2.1
    · subst e0
      rw [if_pos (z _ (Nat.le_refl _)), show t2 tg σ.2.1 (c 3) σ.2.1 = (6, c 3) from u2_s _ _ _]
      rw [if_neg (show ¬ ((6, c 3) : Nat × Nat).1 = 0 from fun q => by cases q)]
      show (if σ.2.1 = σ.2.1 then _ else _) = some (Sum.inl (4, _))
      rw [if_pos rfl, gr_21, a2_7]
    · by_cases e1 : b' = σ.2.1 + 1
      · subst e1
        rw [if_pos (z _ (by omega)), show t2 tg σ.2.1 (c 3) (σ.2.1 + 1) = (7, c 3) by unfold t2; rw [u2_n (by omega), u2_s]]
        rw [if_neg (show ¬ ((7, c 3) : Nat × Nat).1 = 0 from fun q => by cases q)]
        show (if σ.2.1 + 1 = σ.2.1 then _ else if σ.2.1 + 1 = σ.2.1 + 1 then _ else _) = some (Sum.inr (Sum.inl (1, 30, _)))
        rw [if_neg (by omega), if_pos rfl]
        refine congrArg (fun z => some (Sum.inr (Sum.inl (1, 30, z)))) (funext fun s => ?_)
        split
        · rename_i hs; exact (gr_22 hs).symm
        · rfl
      · have et : t2 tg σ.2.1 (c 3) b' = tg b' := by unfold t2; rw [u2_n e0, u2_n e1]
        rw [et]
        by_cases e4 : (tg b').1 = 0
        · rw [if_pos e4, if_pos e4]
        · rw [if_neg e4, if_neg e4, CO_gr]
          intro hk hi
          have := (w.2.2.1 b' e4).1
          unfold LI at this
          omega
  · exact CW_lo e2 (fun _ => List.map_congr_left fun q hq => (a2_o (by omega)).symm) (fun _ => List.map_congr_left fun q hq => (a2_o (by omega)).symm) (fun _ => List.map_congr_left fun q hq => (a2_o (by omega)).symm) (fun _ => List.map_congr_left fun q hq => (a2_o (by have := List.mem_range.mp hq; omega)).symm) (fun _ => List.map_congr_left fun q hq => (a2_o (by omega)).symm) (fun _ => (gr_r (by decide)).symm) (fun _ => (gr_r (by decide)).symm) (fun _ => (gr_r (by decide)).symm)
theorem c_57 (w : WF tg ad c σ.2.1) {a : Int32} (h : 0 ≤ a ∧ a < 5) (hc : c 3 < 6) : mm_M 57 [.ref 2, .int a] (CW σ tg ad c g) = some (.inl (some (.int (nI (c 3)))), CW (mm_bmp (R2 σ [.int a, .ref (σ.2.1 + 1)]) 1 (2 * c 3 + 10)) (t2 tg σ.2.1 (c 3)) (a2 ad σ.2.1 (c 3)) (u2 c 3 (c 3 + 1)) (gr g (c 3) a)) := by
  have z : (nI (c 3) < 6) = True := eq_true (show nI (c 3) < nI 6 from nI_lt hc (by decide))
  have wA := WF.addr w hc rfl
  have l := ca_6 (σ := R2 σ [.int a, .ref (σ.2.1 + 1)]) (tg := t2 tg σ.2.1 (c 3)) (ad := a2 ad σ.2.1 (c 3)) (c := c) (g := gr g (c 3) a) (fun k hk => (wA.r (by rw [u2_s]; omega)).1) (by omega)
  rw [a2_6] at l
  simp only [M_57, e57_0, e57_5, e57_8, e57_19, e57_23, e57_26, e57_31, e57_42, e57_46, e57_54, c_101, eq_true h, cf_3, cz_6, z, CW_mk w.2.IN w.2.2.2, CW_n, c_19 w, CW_2 w, l, u2_s, K0_v, K0_n, K0_x, K2_v, K2_n, K1_v, K1_n, K1_x, bI_s, bJ_s, bV_s, bS_s, l_10, l_00, bz_01, bz_0, bz_1, em_n, if_true, if_false, ite_not, ite_true, ite_false, not_true_eq_false, not_false_eq_true, or_true, true_or]
  simp only [e57_54, e57_57, e57_62, e57_65, cf_3, cz_6, u2_s, nI_pred, K0_v, K0_n, K0_x, K2_v, K2_n, K1_v, K1_n, K1_x, bI_s, bJ_s, bV_s, bS_s, l_10, l_00, bz_01, bz_0, bz_1, em_n, if_true, if_false, ite_not, ite_true, ite_false, not_true_eq_false, not_false_eq_true, or_true, true_or]
-- exceptions
theorem rM_20 {i : Nat} (h : LV tg ad 6 i) {As : List Value} : mm_Mo 20 (ad (6, i)) As (CW σ tg ad c g) = mm_M 20 (.ref (ad (6, i)) :: As) (CW σ tg ad c g) := if_pos (by unfold mm_rc; rw [cx_6 h]; rfl)
theorem rM_21 {i : Nat} (h : LV tg ad 6 i) {As : List Value} : mm_Mo 21 (ad (6, i)) As (CW σ tg ad c g) = mm_M 21 (.ref (ad (6, i)) :: As) (CW σ tg ad c g) := if_pos (by unfold mm_rc; rw [cx_6 h]; rfl)
theorem c_20 {n : Nat} (w : WF tg ad c n) {i s : Nat} (hi : i < c 3) (hs : s < 30) : mm_M 20 [.ref (ad (6, i)), .int (nI s)] (CW σ tg ad c g) = some (.inl (some (.int (if g 22 (30 * i + s) = 0 then 0 else 1))), (CW σ tg ad c g)) := by
  obtain ⟨L6, L7⟩ := w.r hi
  have q := eq_true (show 0 ≤ nI s ∧ nI s < nI 30 from ⟨nI_pos' (by omega), nI_lt hs (by decide)⟩)
  have e30 : (Int32.ofNat 30) = nI 30 := rfl
  simp only [M_20, e20_0, e20_5, e20_6, e20_9, e20_12, e20_16, e20_18, e20_21, e20_25, e20_26, cr_6_1 L6, cn_7 L7, Option.map, e30, c_101, q, cb_7 L7 hs, K0_v, K0_n, K0_x, K2_v, K2_n, K1_v, K1_n, K1_x, bI_s, bJ_s, bV_s, bS_s, l_10, l_00, bz_01, bz_0, bz_1, em_n, if_true, if_false, ite_not, ite_true, ite_false, not_true_eq_false, not_false_eq_true, or_true, true_or]
  split <;> rfl
theorem cw_7 {n i s : Nat} {x : Int32} (w : WF tg ad c n) (hi : i < c 3) (hs : s < 30) : mm_ast (CW σ tg ad c g) (ad (7, i)) (nI s) 1 x = some (CW σ tg ad c (uf g 22 (30 * i + s) x)) := by
  obtain ⟨L6, L7⟩ := w.r hi
  unfold mm_ast mm_arr
  rw [CW_tg L7 (by decide)]
  show (if nI s < 0 ∨ 30 ≤ (nI s).toNatClampNeg then none else _) = _
  rw [nI_clamp (by omega), if_neg (fun q => q.elim (nI_pos (by omega)) (by omega))]
  show (if 1 = 1 then _ else _) = _
  rw [if_pos rfl]
  refine congrArg some (CW_put w.2.IN L7 (by decide) ?_ ⟨rfl, rfl, rfl, rfl, rfl⟩ ?_ (uf_n (by decide)) (uf_n (by decide)) (uf_n (by decide)))
  · show Sum.inr (Sum.inl (1, 30, _)) = Sum.inr (Sum.inl (1, 30, _))
    refine congrArg (fun z => Sum.inr (Sum.inl (1, 30, z))) (funext fun t => ?_)
    rw [uf_s]
    unfold upd
    by_cases e : t = s
    · subst e
      rw [if_pos hs, if_pos rfl, if_pos rfl]
    · rw [if_neg e]
      show (if t < 30 then _ else 0) = (if t < 30 then g 22 (30 * i + t) else 0)
      split
      · rw [if_neg (by omega)]
      · rfl
  · intro k' i' h
    match k' with
    | 7 =>
      have hi' : i' ≠ i := fun z => h ⟨rfl, z⟩
      show Sum.inr (Sum.inl (1, 30, _)) = Sum.inr (Sum.inl (1, 30, _))
      refine congrArg (fun z => Sum.inr (Sum.inl (1, 30, z))) (funext fun t => ?_)
      rw [uf_s]
      unfold upd
      split
      · rw [if_neg (by omega)]
      · rfl
    | 0 => unfold CO; simp only [uf, if_neg (show ¬ 40 = 22 by decide), if_neg (show ¬ 41 = 22 by decide), if_neg (show ¬ 42 = 22 by decide), if_neg (show ¬ 43 = 22 by decide), if_neg (show ¬ 44 = 22 by decide)]
    | 1 => rfl
    | 2 => rfl
    | 3 => rfl
    | 4 => rfl
    | 5 => rfl
    | 6 => rfl
    | 8 => rfl
    | 9 => rfl
    | k + 10 => rfl
theorem c_21 {n : Nat} (w : WF tg ad c n) {i s : Nat} (hi : i < c 3) (hs : s < 30) : mm_M 21 [.ref (ad (6, i)), .int (nI s)] (CW σ tg ad c g) = some (.inl (some (.int (if g 22 (30 * i + s) = 0 then 1 else 0))), CW σ tg ad c (uf g 22 (30 * i + s) (if g 22 (30 * i + s) = 0 then 1 else 0))) := by
  obtain ⟨L6, L7⟩ := w.r hi
  have q := eq_true (show 0 ≤ nI s ∧ nI s < nI 30 from ⟨nI_pos' (by omega), nI_lt hs (by decide)⟩)
  have e30 : (Int32.ofNat 30) = nI 30 := rfl
  have v : ∀ x : Int32, uf g 22 (30 * i + s) x 22 (30 * i + s) = x := fun x => by rw [uf_s]; exact if_pos rfl
  have c0 := fun x => c_20 (σ := σ) (g := uf g 22 (30 * i + s) x) w hi hs
  by_cases h : g 22 (30 * i + s) = 0
  · simp only [M_21, e21_0, e21_5, e21_6, e21_9, e21_12, e21_16, e21_21, e21_23, e21_26, e21_30, e21_31, e21_32, e21_37, cr_6_1 L6, cn_7 L7, Option.map, e30, c_101, q, cb_7 L7 hs, eq_true h, cw_7 w hi hs, rM_20 L6, c0, v, one_ne, K0_v, K0_n, K0_x, K2_v, K2_n, K1_v, K1_n, K1_x, bI_s, bJ_s, bV_s, bS_s, l_10, l_00, bz_01, bz_0, bz_1, em_n, if_true, if_false, ite_not, ite_true, ite_false, not_true_eq_false, not_false_eq_true, or_true, true_or]
  · simp only [M_21, e21_0, e21_5, e21_6, e21_9, e21_12, e21_16, e21_21, e21_23, e21_26, e21_30, e21_31, e21_32, e21_37, cr_6_1 L6, cn_7 L7, Option.map, e30, c_101, q, cb_7 L7 hs, eq_false h, cw_7 w hi hs, rM_20 L6, c0, v, K0_v, K0_n, K0_x, K2_v, K2_n, K1_v, K1_n, K1_x, bI_s, bJ_s, bV_s, bS_s, l_10, l_00, bz_01, bz_0, bz_1, em_n, if_true, if_false, ite_not, ite_true, ite_false, not_true_eq_false, not_false_eq_true, or_true, true_or]
theorem c_58x {a p : Int32} (h : ¬ (0 ≤ a ∧ a < nI (c 3))) : mm_M 58 [.ref 2, .int a, .int p] (CW σ tg ad c g) = some (.inr 2, mm_bmp (CW σ tg ad c g) 1 6) := by
  simp only [M_58, e58_0, e58_5, e58_8, e58_11, e58_14, e58_25, e58_30, e58_34, e58_38, e58_41, e58_45, cf_3, cz_6, c_101, eq_false h, K0_v, K0_n, K0_x, K2_v, K2_n, K1_v, K1_n, K1_x, bI_s, bJ_s, bV_s, bS_s, l_10, l_00, bz_01, bz_0, bz_1, em_n, if_true, if_false, ite_not, ite_true, ite_false, not_true_eq_false, not_false_eq_true, or_true, true_or]
theorem c_58y {a p : Int32} (h : 0 ≤ a ∧ a < nI (c 3)) (h2 : ¬ (0 ≤ p ∧ p < nI (c 0))) : mm_M 58 [.ref 2, .int a, .int p] (CW σ tg ad c g) = some (.inr 2, mm_bmp (CW σ tg ad c g) 1 6) := by
  simp only [M_58, e58_0, e58_5, e58_8, e58_11, e58_14, e58_25, e58_30, e58_34, e58_38, e58_41, e58_45, cf_3, cz_6, c_101, eq_true h, aM_34, c_34x h2, K0_v, K0_n, K0_x, K2_v, K2_n, K1_v, K1_n, K1_x, bI_s, bJ_s, bV_s, bS_s, l_10, l_00, bz_01, bz_0, bz_1, em_n, if_true, if_false, ite_not, ite_true, ite_false, not_true_eq_false, not_false_eq_true, or_true, true_or]
theorem c_58 {n : Nat} (w : WF tg ad c n) {i s : Nat} (hi : i < c 3) (hs : s < c 0) : mm_M 58 [.ref 2, .int (nI i), .int (nI s)] (CW σ tg ad c g) = some (.inl (some (.int (if g 22 (30 * i + s) = 0 then 1 else 0))), CW σ tg ad c (uf g 22 (30 * i + s) (if g 22 (30 * i + s) = 0 then 1 else 0))) := by
  obtain ⟨b0, b1, b2, b3, b4, b5⟩ := w.1
  obtain ⟨L6, L7⟩ := w.r hi
  have q := eq_true (show 0 ≤ nI i ∧ nI i < nI (c 3) from ⟨nI_pos' (by omega), nI_lt hi (by omega)⟩)
  by_cases h : g 22 (30 * i + s) = 0
  · simp only [M_58, e58_0, e58_5, e58_8, e58_11, e58_14, e58_25, e58_30, e58_34, e58_38, e58_41, e58_45, cf_3, cz_6, c_101, q, aM_34, c_34 (show 0 ≤ nI s ∧ nI s < nI (c 0) from ⟨nI_pos' (by omega), nI_lt hs (by omega)⟩), cg_6 hi (by omega), ck_6 L6, rM_21 L6, c_21 w hi (show s < 30 by omega), eq_true h, one_ne, K0_v, K0_n, K0_x, K2_v, K2_n, K1_v, K1_n, K1_x, bI_s, bJ_s, bV_s, bS_s, l_10, l_00, bz_01, bz_0, bz_1, em_n, if_true, if_false, ite_not, ite_true, ite_false, not_true_eq_false, not_false_eq_true, or_true, true_or]
  · simp only [M_58, e58_0, e58_5, e58_8, e58_11, e58_14, e58_25, e58_30, e58_34, e58_38, e58_41, e58_45, cf_3, cz_6, c_101, q, aM_34, c_34 (show 0 ≤ nI s ∧ nI s < nI (c 0) from ⟨nI_pos' (by omega), nI_lt hs (by omega)⟩), cg_6 hi (by omega), ck_6 L6, rM_21 L6, c_21 w hi (show s < 30 by omega), eq_false h, K0_v, K0_n, K0_x, K2_v, K2_n, K1_v, K1_n, K1_x, bI_s, bJ_s, bV_s, bS_s, l_10, l_00, bz_01, bz_0, bz_1, em_n, if_true, if_false, ite_not, ite_true, ite_false, not_true_eq_false, not_false_eq_true, or_true, true_or]
end
