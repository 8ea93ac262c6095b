/-! LEVEL 2: the class takes and makes clips -/
def C2 (σ : mm_S) (fs : List Value) : mm_S := (fun b => if b = σ.2.1 then some (.inl (0, fs)) else if b = σ.2.1 + 1 then some (.inr (.inr (.inr []))) else σ.1 b, σ.2.1 + 2, σ.2.2.1 + 2, σ.2.2.2 + 9)
theorem C2_eq (σ : mm_S) (fs : List Value) : mm_put (mm_new (mm_new σ (.inl (0, fs)) 6) (.inl (8, [.int 0, .null, .int 0])) 3) (σ.2.1 + 1) (.inr (.inr (.inr []))) = C2 σ fs := by
  refine Prod.ext (funext fun b => ?_) rfl
  show (if b = σ.2.1 + 1 then _ else if b = σ.2.1 + 1 then _ else if b = σ.2.1 then _ else _) = if b = σ.2.1 then _ else if b = σ.2.1 + 1 then _ else _
  by_cases e : b = σ.2.1
  · rw [if_neg (by omega), if_neg (by omega), if_pos e, if_pos e]
  · rw [if_neg e, if_neg e]
    by_cases e1 : b = σ.2.1 + 1
    · rw [if_pos e1, if_pos e1]
    · rw [if_neg e1, if_neg e1, if_neg e1]
theorem C2_put (σ : mm_S) (fs fs' : List Value) : mm_put (C2 σ fs) σ.2.1 (.inl (0, fs')) = C2 σ fs' := by
  refine Prod.ext (funext fun b => ?_) rfl
  show (if b = σ.2.1 then _ else if b = σ.2.1 then _ else if b = σ.2.1 + 1 then _ else _) = if b = σ.2.1 then _ else if b = σ.2.1 + 1 then _ else _
  split <;> rfl
def gc (g : Nat → Nat → Int32) (I : Nat) (a b : Int32) : Nat → Nat → Int32 := uf (uf (uf g 24 I a) 25 I b) 23 I 0
theorem gc_r {g : Nat → Nat → Int32} {I r : Nat} {a b : Int32} (h : r ≠ 23 ∧ r ≠ 24 ∧ r ≠ 25) : gc g I a b r = g r := by
  unfold gc
  rw [uf_n h.1, uf_n h.2.2, uf_n h.2.1]
theorem gc_o {g : Nat → Nat → Int32} {I r j : Nat} {a b : Int32} (h : j ≠ I) : gc g I a b r j = g r j := by
  have u : ∀ (f : Nat → Nat → Int32) (a : Nat) (x : Int32), uf f a I x r j = f r j := by
    intro f a x
    unfold uf
    split
    · unfold upd; rename_i e; rw [if_neg h]
    · rfl
  unfold gc
  rw [u, u, u]
theorem gc_23 {g : Nat → Nat → Int32} {I : Nat} {a b : Int32} : gc g I a b 23 I = 0 := by
  unfold gc
  rw [uf_s]
  exact if_pos rfl
theorem gc_24 {g : Nat → Nat → Int32} {I : Nat} {a b : Int32} : gc g I a b 24 I = a := by
  unfold gc
  rw [uf_n (by decide), uf_n (by decide), uf_s]
  exact if_pos rfl
theorem gc_25 {g : Nat → Nat → Int32} {I : Nat} {a b : Int32} : gc g I a b 25 I = b := by
  unfold gc
  rw [uf_n (by decide), uf_s]
  exact if_pos rfl
def cc (c : Nat → Nat) (I x y : Nat) : Nat → Nat := u2 (u2 (u2 c (100 + I) 0) (200 + I) x) (300 + I) y
theorem cc_lo {c : Nat → Nat} {I x y q : Nat} (h : q < 100) : cc c I x y q = c q := by
  unfold cc
  rw [u2_n (by omega), u2_n (by omega), u2_n (by omega)]
theorem cc_o {c : Nat → Nat} {I x y i : Nat} (h : i ≠ I) (hi : i < 24) (hI : I < 24) : cc c I x y (100 + i) = c (100 + i) ∧ cc c I x y (200 + i) = c (200 + i) ∧ cc c I x y (300 + i) = c (300 + i) := by
  unfold cc
  refine ⟨?_, ?_, ?_⟩ <;> rw [u2_n (by omega), u2_n (by omega), u2_n (by omega)]
theorem cc_1 {c : Nat → Nat} {I x y : Nat} (hI : I < 24) : cc c I x y (100 + I) = 0 := by
  unfold cc
  rw [u2_n (by omega), u2_n (by omega), u2_s]
theorem cc_2 {c : Nat → Nat} {I x y : Nat} (hI : I < 24) : cc c I x y (200 + I) = x := by
  unfold cc
  rw [u2_n (by omega), u2_s]
theorem cc_3 {c : Nat → Nat} {I x y : Nat} : cc c I x y (300 + I) = y := u2_s _ _ _
def tc (tg : Nat → Nat × Nat) (n I : Nat) : Nat → Nat × Nat := u2 (u2 tg (n + 1) (9, I)) n (8, I)
def ac (ad : Nat × Nat → Nat) (n I : Nat) : Nat × Nat → Nat := u2 (u2 ad (9, I) (n + 1)) (8, I) n
theorem ac_8 {n I : Nat} {ad : Nat × Nat → Nat} : ac ad n I (8, I) = n := u2_s _ _ _
theorem ac_9 {n I : Nat} {ad : Nat × Nat → Nat} : ac ad n I (9, I) = n + 1 := by
  unfold ac
  rw [u2_n (fun z => by injection z; omega), u2_s]
theorem ac_o {n I k i : Nat} {ad : Nat × Nat → Nat} (h : ¬ ((k = 8 ∨ k = 9) ∧ i = I)) : ac ad n I (k, i) = ad (k, i) := by
  unfold ac
  rw [u2_n (fun z => by injection z; omega), u2_n (fun z => by injection z; omega)]
theorem pr_ac {n I x : Nat} {ad : Nat × Nat → Nat} (h : x ≤ I) : pr (ac ad n I) x = pr ad x := by
  cases x with
  | zero => rfl
  | succ k => show Value.ref _ = Value.ref _; rw [ac_o (by omega)]
section
variable {σ : mm_S} {tg : Nat → Nat × Nat} {ad : Nat × Nat → Nat} {c : Nat → Nat} {g : Nat → Nat → Int32}
theorem c_0z (w : WF tg ad c σ.2.1) (a b : Int32) : mm_Mo 0 σ.2.1 [.int a, .int b, .null, .null] (CW (mm_new σ (.inl (0, [.int 0, .int 0, .null, .null, .null, .int 0])) 6) tg ad c g) = some (.inl none, CW (C2 σ [.int a, .int b, .null, .null, .ref (σ.2.1 + 1), .int 0]) tg ad c g) := by
  have hz := w.2.no (Or.inr (Nat.le_refl _))
  have hz1 := w.2.no (Or.inr (Nat.le_succ σ.2.1))
  have hrc : mm_Mo 0 σ.2.1 [.int a, .int b, .null, .null] (CW (mm_new σ (.inl (0, [.int 0, .int 0, .null, .null, .null, .int 0])) 6) tg ad c g) = mm_M 0 [.ref σ.2.1, .int a, .int b, .null, .null] (CW (mm_new σ (.inl (0, [.int 0, .int 0, .null, .null, .null, .int 0])) 6) tg ad c g) := if_pos (by
    unfold mm_rc mm_ci
    rw [CW_new w.2.2.2 hz, new_at]
    rfl)
  rw [hrc]
  have e0 := setf_un (σ := mm_new σ (.inl (0, [.int 0, .int 0, .null, .null, .null, .int 0])) 6) (ad := ad) (c := c) (g := g) (k := 0) (v := .int a) w.2.2.2 hz new_at (show 0 < 6 by decide)
  rw [put_new] at e0
  have e1 := setf_un (σ := mm_new σ (.inl (0, [.int a, .int 0, .null, .null, .null, .int 0])) 6) (ad := ad) (c := c) (g := g) (k := 1) (v := .int b) w.2.2.2 hz new_at (show 1 < 6 by decide)
  rw [put_new] at e1
  have e2 := setf_un (σ := mm_new σ (.inl (0, [.int a, .int b, .null, .null, .null, .int 0])) 6) (ad := ad) (c := c) (g := g) (k := 2) (v := .null) w.2.2.2 hz new_at (show 2 < 6 by decide)
  rw [put_new] at e2
  have e3 := setf_un (σ := mm_new σ (.inl (0, [.int a, .int b, .null, .null, .null, .int 0])) 6) (ad := ad) (c := c) (g := g) (k := 3) (v := .null) w.2.2.2 hz new_at (show 3 < 6 by decide)
  rw [put_new] at e3
  have hI : IN tg ad (mm_new σ (.inl (0, [.int a, .int b, .null, .null, .null, .int 0])) 6).2.1 := (w.2.up (Nat.le_succ _)).IN
  have h35 : 11 ≤ (mm_new σ (.inl (0, [.int a, .int b, .null, .null, .null, .int 0])) 6).2.1 := Nat.le_succ_of_le w.2.2.2
  have e4 : mm_lin (mm_new (CW (mm_new σ (.inl (0, [.int a, .int b, .null, .null, .null, .int 0])) 6) tg ad c g) (.inl (8, [.int 0, .null, .int 0])) 3) (σ.2.1 + 1) = some (CW (C2 σ [.int a, .int b, .null, .null, .null, .int 0]) tg ad c g) := by
    rw [CW_mk hI h35]
    unfold mm_lin mm_fr
    have eh : (CW (mm_new (mm_new σ (.inl (0, [.int a, .int b, .null, .null, .null, .int 0])) 6) (.inl (8, [.int 0, .null, .int 0])) 3) tg ad c g).1 (σ.2.1 + 1) = some (.inl (8, [.int 0, .null, .int 0])) := by
      rw [CW_new (Nat.le_succ_of_le w.2.2.2) hz1]
      exact if_pos rfl
    rw [eh, CW_pnew (Nat.le_succ_of_le w.2.2.2) hz1, C2_eq]
    rfl
  have e5 := setf_un (σ := C2 σ [.int a, .int b, .null, .null, .null, .int 0]) (ad := ad) (c := c) (g := g) (k := 4) (v := .ref (σ.2.1 + 1)) w.2.2.2 hz (if_pos rfl) (show 4 < 6 by decide)
  rw [C2_put] at e5
  rw [M_0, e0z_0, e0, bS_s, e0z_9]
  show mm_bS (mm_setf (CW (mm_new σ (.inl (0, [.int a, .int 0, .null, .null, .null, .int 0])) 6) tg ad c g) σ.2.1 0 1 (.int b)) _ _ _ _ = _
  rw [e1, bS_s, e0z_14]
  show mm_bS (mm_setf (CW (mm_new σ (.inl (0, [.int a, .int b, .null, .null, .null, .int 0])) 6) tg ad c g) σ.2.1 0 2 (.null)) _ _ _ _ = _
  rw [e2, bS_s, e0z_19]
  show mm_bS (mm_setf (CW (mm_new σ (.inl (0, [.int a, .int b, .null, .null, .null, .int 0])) 6) tg ad c g) σ.2.1 0 3 (.null)) _ _ _ _ = _
  rw [e3, bS_s, e0z_25]
  show mm_bS (mm_lin (mm_new (CW (mm_new σ (.inl (0, [.int a, .int b, .null, .null, .null, .int 0])) 6) tg ad c g) (.inl (8, [.int 0, .null, .int 0])) 3) (σ.2.1 + 1)) _ _ _ _ = _
  rw [e4, bS_s]
  show mm_L 0 33 _ [.ref (σ.2.1 + 1), .ref σ.2.1] _ = _
  rw [e0z_33]
  show mm_bS (mm_setf (CW (C2 σ [.int a, .int b, .null, .null, .null, .int 0]) tg ad c g) σ.2.1 0 4 (.ref (σ.2.1 + 1))) _ _ _ _ = _
  rw [e5, bS_s, e0z_36]
  rfl
theorem c_0 (w : WF tg ad c σ.2.1) (a b : Int32) (x y : Nat) : mm_Mo 0 σ.2.1 [.int a, .int b, .ref x, .ref y] (CW (mm_new σ (.inl (0, [.int 0, .int 0, .null, .null, .null, .int 0])) 6) tg ad c g) = some (.inl none, CW (C2 σ [.int a, .int b, .ref x, .ref y, .ref (σ.2.1 + 1), .int 0]) tg ad c g) := by
  have hz := w.2.no (Or.inr (Nat.le_refl _))
  have hz1 := w.2.no (Or.inr (Nat.le_succ σ.2.1))
  have hrc : mm_Mo 0 σ.2.1 [.int a, .int b, .ref x, .ref y] (CW (mm_new σ (.inl (0, [.int 0, .int 0, .null, .null, .null, .int 0])) 6) tg ad c g) = mm_M 0 [.ref σ.2.1, .int a, .int b, .ref x, .ref y] (CW (mm_new σ (.inl (0, [.int 0, .int 0, .null, .null, .null, .int 0])) 6) tg ad c g) := if_pos (by
    unfold mm_rc mm_ci
    rw [CW_new w.2.2.2 hz, new_at]
    rfl)
  rw [hrc]
  have e0 := setf_un (σ := mm_new σ (.inl (0, [.int 0, .int 0, .null, .null, .null, .int 0])) 6) (ad := ad) (c := c) (g := g) (k := 0) (v := .int a) w.2.2.2 hz new_at (show 0 < 6 by decide)
  rw [put_new] at e0
  have e1 := setf_un (σ := mm_new σ (.inl (0, [.int a, .int 0, .null, .null, .null, .int 0])) 6) (ad := ad) (c := c) (g := g) (k := 1) (v := .int b) w.2.2.2 hz new_at (show 1 < 6 by decide)
  rw [put_new] at e1
  have e2 := setf_un (σ := mm_new σ (.inl (0, [.int a, .int b, .null, .null, .null, .int 0])) 6) (ad := ad) (c := c) (g := g) (k := 2) (v := .ref x) w.2.2.2 hz new_at (show 2 < 6 by decide)
  rw [put_new] at e2
  have e3 := setf_un (σ := mm_new σ (.inl (0, [.int a, .int b, .ref x, .null, .null, .int 0])) 6) (ad := ad) (c := c) (g := g) (k := 3) (v := .ref y) w.2.2.2 hz new_at (show 3 < 6 by decide)
  rw [put_new] at e3
  have hI : IN tg ad (mm_new σ (.inl (0, [.int a, .int b, .ref x, .ref y, .null, .int 0])) 6).2.1 := (w.2.up (Nat.le_succ _)).IN
  have h35 : 11 ≤ (mm_new σ (.inl (0, [.int a, .int b, .ref x, .ref y, .null, .int 0])) 6).2.1 := Nat.le_succ_of_le w.2.2.2
  have e4 : mm_lin (mm_new (CW (mm_new σ (.inl (0, [.int a, .int b, .ref x, .ref y, .null, .int 0])) 6) tg ad c g) (.inl (8, [.int 0, .null, .int 0])) 3) (σ.2.1 + 1) = some (CW (C2 σ [.int a, .int b, .ref x, .ref y, .null, .int 0]) tg ad c g) := by
    rw [CW_mk hI h35]
    unfold mm_lin mm_fr
    have eh : (CW (mm_new (mm_new σ (.inl (0, [.int a, .int b, .ref x, .ref y, .null, .int 0])) 6) (.inl (8, [.int 0, .null, .int 0])) 3) tg ad c g).1 (σ.2.1 + 1) = some (.inl (8, [.int 0, .null, .int 0])) := by
      rw [CW_new (Nat.le_succ_of_le w.2.2.2) hz1]
      exact if_pos rfl
    rw [eh, CW_pnew (Nat.le_succ_of_le w.2.2.2) hz1, C2_eq]
    rfl
  have e5 := setf_un (σ := C2 σ [.int a, .int b, .ref x, .ref y, .null, .int 0]) (ad := ad) (c := c) (g := g) (k := 4) (v := .ref (σ.2.1 + 1)) w.2.2.2 hz (if_pos rfl) (show 4 < 6 by decide)
  rw [C2_put] at e5
  rw [M_0, e0_0, e0, bS_s, e0_9]
  show mm_bS (mm_setf (CW (mm_new σ (.inl (0, [.int a, .int 0, .null, .null, .null, .int 0])) 6) tg ad c g) σ.2.1 0 1 (.int b)) _ _ _ _ = _
  rw [e1, bS_s, e0_14]
  show mm_bS (mm_setf (CW (mm_new σ (.inl (0, [.int a, .int b, .null, .null, .null, .int 0])) 6) tg ad c g) σ.2.1 0 2 (.ref x)) _ _ _ _ = _
  rw [e2, bS_s, e0_19]
  show mm_bS (mm_setf (CW (mm_new σ (.inl (0, [.int a, .int b, .ref x, .null, .null, .int 0])) 6) tg ad c g) σ.2.1 0 3 (.ref y)) _ _ _ _ = _
  rw [e3, bS_s, e0_25]
  show mm_bS (mm_lin (mm_new (CW (mm_new σ (.inl (0, [.int a, .int b, .ref x, .ref y, .null, .int 0])) 6) tg ad c g) (.inl (8, [.int 0, .null, .int 0])) 3) (σ.2.1 + 1)) _ _ _ _ = _
  rw [e4, bS_s]
  show mm_L 0 33 _ [.ref (σ.2.1 + 1), .ref σ.2.1] _ = _
  rw [e0_33]
  show mm_bS (mm_setf (CW (C2 σ [.int a, .int b, .ref x, .ref y, .null, .int 0]) tg ad c g) σ.2.1 0 4 (.ref (σ.2.1 + 1))) _ _ _ _ = _
  rw [e5, bS_s, e0_36]
  rfl
theorem WF.addc (w : WF tg ad c σ.2.1) (hc : c 4 < 24) {x y : Nat} (hx : x ≤ c 4) (hy : y ≤ c 4) {n : Nat} (hn : n = σ.2.1) : WF (tc tg n (c 4)) (ac ad n (c 4)) (u2 (cc c (c 4) x y) 4 (c 4 + 1)) (n + 2) := by
  subst hn
  have h35 := w.2.2.2
  have z : ∀ b, σ.2.1 ≤ b → (tg b).1 = 0 := fun b hb => w.2.no (Or.inr hb)
  have A := w.2.add (K := 9) (I := c 4) (a := σ.2.1 + 1) (n' := σ.2.1 + 2) (by decide) (by unfold LI; omega) (z _ (by omega)) (by omega) (by omega) (by omega)
  have B := A.add (K := 8) (I := c 4) (a := σ.2.1) (n' := σ.2.1 + 2) (by decide) (by unfold PA LI; omega) (by rw [u2_n (by omega)]; exact z _ (by omega)) (by omega) (by omega) (by omega)
  have ul : ∀ q, q < 100 → q ≠ 4 → u2 (cc c (c 4) x y) 4 (c 4 + 1) q = c q := fun q h1 h2 => by rw [u2_n h2, cc_lo h1]
  have uh : ∀ q, 100 ≤ q → u2 (cc c (c 4) x y) 4 (c 4 + 1) q = cc c (c 4) x y q := fun q h1 => u2_n (by omega)
  refine ⟨?_, B.iff fun k i => ?_⟩
  · obtain ⟨b0, b1, b2, b3, b4, b5⟩ := w.1
    refine ⟨by rw [ul 0 (by decide) (by decide)]; exact b0, by rw [ul 1 (by decide) (by decide)]; exact b1, by rw [ul 2 (by decide) (by decide)]; exact b2, by rw [ul 3 (by decide) (by decide)]; exact b3, by rw [u2_s]; omega, ?_⟩
    intro i hi
    rw [u2_s] at hi
    rw [uh _ (by omega), uh _ (by omega), uh _ (by omega)]
    by_cases e : i = c 4
    · subst e
      rw [cc_1 hc, cc_2 hc, cc_3]
      omega
    · obtain ⟨q1, q2, q3⟩ := cc_o (c := c) (x := x) (y := y) e (by omega) hc
      rw [q1, q2, q3]
      exact b5 i (by omega)
  · unfold PA LI
    rw [ul 0 (by decide) (by decide), ul 1 (by decide) (by decide), ul 2 (by decide) (by decide), ul 3 (by decide) (by decide), u2_s]
    by_cases e : k = 10
    · by_cases e2 : i / 1000 = c 4
      · rw [e2, uh _ (by omega), cc_1 hc]; omega
      · by_cases e3 : i / 1000 < c 4
        · rw [uh _ (by omega), (cc_o (c := c) (x := x) (y := y) e2 (by omega) hc).1]; omega
        · omega
    · omega
theorem CO_gc {k i I n x y : Nat} {a b : Int32} (hI : I < 24) (h : k = 8 ∨ k = 9 → i < I) (h2 : k = 8 → c (200 + i) ≤ I ∧ c (300 + i) ≤ I) : CO (ac ad n I) (cc c I x y) (gc g I a b) k i = CO ad c g k i := by
  have u : ∀ q j, q = 3 ∨ q = 4 ∨ q = 7 ∨ q = 10 → ac ad n I (q, j) = ad (q, j) := fun q j hq => ac_o (by omega)
  have w : ∀ r', ¬ (r' = 23 ∨ r' = 24 ∨ r' = 25) → gc g I a b r' = g r' := fun r' q => gc_r (by omega)
  match k with
  | 8 =>
    have hi := h (by omega)
    obtain ⟨p1, p2⟩ := h2 rfl
    obtain ⟨q1, q2, q3⟩ := cc_o (c := c) (x := x) (y := y) (i := i) (I := I) (by omega) (by omega) hI
    show Sum.inl (0, _) = Sum.inl (0, _)
    rw [gc_o (by omega), gc_o (by omega), gc_o (by omega), q2, q3, pr_ac p1, pr_ac p2, ac_o (by omega)]
  | 9 =>
    have hi := h (by omega)
    obtain ⟨q1, q2, q3⟩ := cc_o (c := c) (x := x) (y := y) (i := i) (I := I) (by omega) (by omega) hI
    show Sum.inr (Sum.inr (Sum.inr _)) = Sum.inr (Sum.inr (Sum.inr _))
    rw [q1]
    refine congrArg (fun z => Sum.inr (Sum.inr (Sum.inr z))) (List.map_congr_left fun q hq => u _ _ (by omega))
  | 0 => unfold CO; simp only [w 40 (by decide), w 41 (by decide), w 42 (by decide), w 43 (by decide), w 44 (by decide)]
  | 1 => unfold CO; simp only [w 12 (by decide)]
  | 2 => unfold CO; simp only [w 13 (by decide), w 14 (by decide), w 15 (by decide), w 35 (by decide), u, true_or, or_true]
  | 3 => unfold CO; simp only [w 34 (by decide)]
  | 4 => unfold CO; simp only [w 33 (by decide)]
  | 5 => unfold CO; simp only [w 18 (by decide), w 19 (by decide), w 20 (by decide)]
  | 6 => unfold CO; simp only [w 21 (by decide), u, true_or, or_true]
  | 7 => unfold CO; simp only [w 22 (by decide)]
  | k + 10 => unfold CO; simp only [w 40 (by decide), w 41 (by decide), w 42 (by decide), w 43 (by decide), w 44 (by decide)]
theorem CW_cl (w : WF tg ad c σ.2.1) (hc : c 4 < 24) {x y : Nat} (hx : x ≤ c 4) (hy : y ≤ c 4) {a b : Int32} : CW (C2 σ [.int a, .int b, pr ad x, pr ad y, .ref (σ.2.1 + 1), .int 0]) tg ad c g = CW (C2 σ [.int a, .int b, pr ad x, pr ad y, .ref (σ.2.1 + 1), .int 0]) (tc tg σ.2.1 (c 4)) (ac ad σ.2.1 (c 4)) (cc c (c 4) x y) (gc g (c 4) a b) := by
  have h35 := w.2.2.2
  have z : ∀ b, σ.2.1 ≤ b → (tg b).1 = 0 := fun b hb => w.2.no (Or.inr hb)
  refine Prod.ext (funext fun b' => ?_) rfl
  by_cases e2 : b' < 2 ∨ 10 < b'
  · rw [CW_hi e2, CW_hi e2]
    by_cases e0 : b' = σ.2.1
    · subst e0
      rw [if_pos (z _ (Nat.le_refl _)), show tc tg σ.2.1 (c 4) σ.2.1 = (8, c 4) from u2_s _ _ _]
      rw [if_neg (show ¬ ((8, c 4) : Nat × Nat).1 = 0 from fun q => by cases q)]
      show (if σ.2.1 = σ.2.1 then _ else _) = some (Sum.inl (0, _))
      rw [if_pos rfl, gc_24, gc_25, gc_23, cc_2 hc, cc_3, pr_ac hx, pr_ac hy, ac_9]
    · by_cases e1 : b' = σ.2.1 + 1
      · subst e1
        rw [if_pos (z _ (by omega)), show tc tg σ.2.1 (c 4) (σ.2.1 + 1) = (9, c 4) by unfold tc; rw [u2_n (by omega), u2_s]]
        rw [if_neg (show ¬ ((9, c 4) : Nat × Nat).1 = 0 from fun q => by cases q)]
        show (if σ.2.1 + 1 = σ.2.1 then _ else if σ.2.1 + 1 = σ.2.1 + 1 then _ else _) = some (Sum.inr (Sum.inr (Sum.inr _)))
        rw [if_neg (by omega), if_pos rfl, cc_1 hc]
        rfl
      · have et : tc tg σ.2.1 (c 4) b' = tg b' := by unfold tc; rw [u2_n e0, u2_n e1]
        rw [et]
        by_cases e4 : (tg b').1 = 0
        · rw [if_pos e4, if_pos e4]
        · rw [if_neg e4, if_neg e4, CO_gc hc]
          · intro hk
            have := (w.2.2.1 b' e4).1
            unfold LI at this
            omega
          · intro hk
            have := (w.2.2.1 b' e4).1
            have hi : (tg b').2 < c 4 := by unfold LI at this; omega
            have := w.1.2.2.2.2.2 _ hi
            omega
  · exact CW_lo e2 (fun _ => by rw [cc_lo (by decide)]; exact List.map_congr_left fun q hq => (ac_o (by omega)).symm) (fun _ => by rw [cc_lo (by decide)]; exact List.map_congr_left fun q hq => (ac_o (by omega)).symm) (fun _ => by rw [cc_lo (by decide)]; exact List.map_congr_left fun q hq => (ac_o (by omega)).symm) (fun _ => by rw [cc_lo (by decide)]; exact List.map_congr_left fun q hq => (ac_o (by omega)).symm) (fun _ => by rw [cc_lo (by decide)]; exact List.map_congr_left fun q hq => (ac_o (by have := List.mem_range.mp hq; omega)).symm) (fun _ => (gc_r (by decide)).symm) (fun _ => (gc_r (by decide)).symm) (fun _ => (gc_r (by decide)).symm)
theorem c_91 (hL : ∀ k, k ≤ c 4 → LV tg ad 8 k) (hc : c 4 < 24) {a : Nat} (ha : ad (8, c 4) = a) : mm_M 91 [.ref 2, .ref a] (CW σ tg ad c g) = some (.inl (some (.int (nI (c 4)))), CW (mm_bmp σ 1 (2 * c 4 + 10)) tg ad (u2 c 4 (c 4 + 1)) g) := by
  subst ha
  simp only [M_91, e91_0, e91_4, cf_4, ca_7 hL (show c 4 < 60000 by omega), K0_v, K0_n, K0_x, K2_v, K2_n, K1_v, K1_n, K1_x, bI_s, bJ_s, bV_s, bS_s, l_10, l_00, bz_01, bz_0, bz_1, em_n, if_true, if_false, ite_not, ite_true, ite_false, not_true_eq_false, not_false_eq_true, or_true, true_or]
  simp only [e91_8, e91_13, e91_16, cf_4, cz_7, u2_s, nI_pred, K0_v, K0_n, K0_x, K2_v, K2_n, K1_v, K1_n, K1_x, bI_s, bJ_s, bV_s, bS_s, l_10, l_00, bz_01, bz_0, bz_1, em_n, if_true, if_false, ite_not, ite_true, ite_false, not_true_eq_false, not_false_eq_true, or_true, true_or]
theorem c_84x {p : Int32} (h : ¬ (0 ≤ p ∧ p < 6)) : mm_M 84 [.ref 2, .int p] (CW σ tg ad c g) = some (.inr 2, mm_bmp (CW σ tg ad c g) 1 6) := by
  simp only [M_84, e84_0, e84_4, e84_8, e84_11, c_97x h, K0_v, K0_n, K0_x, K2_v, K2_n, K1_v, K1_n, K1_x, bI_s, bJ_s, bV_s, bS_s, l_10, l_00, bz_01, bz_0, bz_1, em_n, if_true, if_false, ite_not, ite_true, ite_false, not_true_eq_false, not_false_eq_true, or_true, true_or]
theorem c_84y {p : Int32} (h : 0 ≤ p ∧ p < 6) (hc : c 4 = 24) : mm_M 84 [.ref 2, .int p] (CW σ tg ad c g) = some (.inr 1, mm_bmp (CW σ tg ad c g) 1 6) := by
  have z : (nI (c 4) < 24) = False := by rw [hc]; decide
  simp only [M_84, e84_0, e84_4, e84_8, e84_11, e84_16, c_97 h, cf_4, cz_7, z, K0_v, K0_n, K0_x, K2_v, K2_n, K1_v, K1_n, K1_x, bI_s, bJ_s, bV_s, bS_s, l_10, l_00, bz_01, bz_0, bz_1, em_n, if_true, if_false, ite_not, ite_true, ite_false, not_true_eq_false, not_false_eq_true, or_true, true_or]
theorem c_84 (w : WF tg ad c σ.2.1) {p : Int32} (h : 0 ≤ p ∧ p < 6) (hc : c 4 < 24) : mm_M 84 [.ref 2, .int p] (CW σ tg ad c g) = some (.inl (some (.int (nI (c 4)))), CW (mm_bmp (C2 σ [.int (1 <<< (p &&& 31)), .int (-1), .null, .null, .ref (σ.2.1 + 1), .int 0]) 1 (2 * c 4 + 10)) (tc tg σ.2.1 (c 4)) (ac ad σ.2.1 (c 4)) (u2 (cc c (c 4) 0 0) 4 (c 4 + 1)) (gc g (c 4) (1 <<< (p &&& 31)) (-1))) := by
  have z : (nI (c 4) < 24) = True := eq_true (show nI (c 4) < nI 24 from nI_lt hc (by decide))
  have u4 : cc c (c 4) 0 0 4 = c 4 := cc_lo (by decide)
  have c3 := CW_cl (σ := σ) (g := g) w hc (x := 0) (y := 0) (Nat.zero_le _) (Nat.zero_le _) (a := 1 <<< (p &&& 31)) (b := -1)
  have l := c_91 (σ := C2 σ [.int (1 <<< (p &&& 31)), .int (-1), .null, .null, .ref (σ.2.1 + 1), .int 0]) (tg := tc tg σ.2.1 (c 4)) (ad := ac ad σ.2.1 (c 4)) (c := cc c (c 4) 0 0) (g := gc g (c 4) (1 <<< (p &&& 31)) (-1)) (a := σ.2.1) (fun j hj => ((w.addc hc (x := 0) (y := 0) (Nat.zero_le _) (Nat.zero_le _) rfl).cl (by rw [u2_s]; rw [u4] at hj; omega)).1) (by rw [u4]; exact hc) (by rw [u4]; exact ac_8)
  rw [u4] at l
  simp only [pr] at c3
  simp only [M_84, e84_0, e84_4, e84_8, e84_11, e84_16, e84_27, e84_41, e84_44, c_97 h, cf_4, cz_7, z, CW_mk w.2.IN w.2.2.2, CW_n, c_0z w, c3, aM_91, l, K0_v, K0_n, K0_x, K2_v, K2_n, K1_v, K1_n, K1_x, bI_s, bJ_s, bV_s, bS_s, l_10, l_00, bz_01, bz_0, bz_1, em_n, if_true, if_false, ite_not, ite_true, ite_false, not_true_eq_false, not_false_eq_true, or_true, true_or]
-- make
theorem c_85a {p q o : Int32} (h : ¬ (0 ≤ p ∧ p < nI (c 4))) : mm_M 85 [.ref 2, .int q, .int p, .int o] (CW σ tg ad c g) = some (.inr 2, mm_bmp (CW σ tg ad c g) 1 6) := by
  simp only [M_85, e85_0, aM_96, c_96x h, K0_v, K0_n, K0_x, K2_v, K2_n, K1_v, K1_n, K1_x, bI_s, bJ_s, bV_s, bS_s, l_10, l_00, bz_01, bz_0, bz_1, em_n, if_true, if_false, ite_not, ite_true, ite_false, not_true_eq_false, not_false_eq_true, or_true, true_or]
theorem c_85b {n k : Nat} (w : WF tg ad c n) {q o : Int32} (hk : k < c 4) (h : g 23 k ≠ 0) : mm_M 85 [.ref 2, .int q, .int (nI k), .int o] (CW σ tg ad c g) = some (.inr 2, mm_bmp (CW σ tg ad c g) 1 6) := by
  simp only [M_85, e85_0, aM_96, c_96y w hk h, K0_v, K0_n, K0_x, K2_v, K2_n, K1_v, K1_n, K1_x, bI_s, bJ_s, bV_s, bS_s, l_10, l_00, bz_01, bz_0, bz_1, em_n, if_true, if_false, ite_not, ite_true, ite_false, not_true_eq_false, not_false_eq_true, or_true, true_or]
theorem c_85c {n k : Nat} (w : WF tg ad c n) {q o : Int32} (hk : k < c 4) (h : g 23 k = 0) (ho : o ≠ -1) (h2 : ¬ (0 ≤ o ∧ o < nI (c 4))) : mm_M 85 [.ref 2, .int q, .int (nI k), .int o] (CW σ tg ad c g) = some (.inr 2, mm_bmp (CW σ tg ad c g) 1 6) := by
  simp only [M_85, e85_0, e85_5, e85_10, aM_96, c_96 w hk h, eq_false ho, c_96x h2, K0_v, K0_n, K0_x, K2_v, K2_n, K1_v, K1_n, K1_x, bI_s, bJ_s, bV_s, bS_s, l_10, l_00, bz_01, bz_0, bz_1, em_n, if_true, if_false, ite_not, ite_true, ite_false, not_true_eq_false, not_false_eq_true, or_true, true_or]
theorem c_85d {n k m : Nat} (w : WF tg ad c n) {q : Int32} (hk : k < c 4) (h : g 23 k = 0) (hm : m < c 4) (h2 : g 23 m ≠ 0) : mm_M 85 [.ref 2, .int q, .int (nI k), .int (nI m)] (CW σ tg ad c g) = some (.inr 2, mm_bmp (CW σ tg ad c g) 1 6) := by
  have b4 := w.1.2.2.2.2.1
  simp only [M_85, e85_0, e85_5, e85_10, aM_96, c_96 w hk h, eq_false (nI_m1 (k := m) (by omega)), c_96y w hm h2, K0_v, K0_n, K0_x, K2_v, K2_n, K1_v, K1_n, K1_x, bI_s, bJ_s, bV_s, bS_s, l_10, l_00, bz_01, bz_0, bz_1, em_n, if_true, if_false, ite_not, ite_true, ite_false, not_true_eq_false, not_false_eq_true, or_true, true_or]
/-- the other clip: none, or one that stands -/
def OC (c : Nat → Nat) (g : Nat → Nat → Int32) (k : Nat) (o : Int32) (m : Nat) : Prop := (o = -1 ∧ m = k) ∨ (o = nI m ∧ m < c 4 ∧ g 23 m = 0)
theorem s_85 {n k m : Nat} (w : WF tg ad c n) {q o : Int32} (hk : k < c 4) (h : g 23 k = 0) (ho : OC c g k o m) : mm_M 85 [.ref 2, .int q, .int (nI k), .int o] (CW σ tg ad c g) = mm_L 85 15 [.ref 2, .int q, .int (nI k), .int o, mm_un, mm_un, mm_un] [] (CW σ tg ad c g) := by
  have b4 := w.1.2.2.2.2.1
  rcases ho with ⟨rfl, rfl⟩ | ⟨rfl, hm, h2⟩
  · simp only [M_85, e85_0, e85_5, e85_10, aM_96, c_96 w hk h, K0_v, K0_n, K0_x, K2_v, K2_n, K1_v, K1_n, K1_x, bI_s, bJ_s, bV_s, bS_s, l_10, l_00, bz_01, bz_0, bz_1, em_n, if_true, if_false, ite_not, ite_true, ite_false, not_true_eq_false, not_false_eq_true, or_true, true_or]
  · simp only [M_85, e85_0, e85_5, e85_10, aM_96, c_96 w hk h, eq_false (nI_m1 (k := m) (by omega)), c_96 w hm h2, K0_v, K0_n, K0_x, K2_v, K2_n, K1_v, K1_n, K1_x, bI_s, bJ_s, bV_s, bS_s, l_10, l_00, bz_01, bz_0, bz_1, em_n, if_true, if_false, ite_not, ite_true, ite_false, not_true_eq_false, not_false_eq_true, or_true, true_or]
theorem c_85e {n k m : Nat} (w : WF tg ad c n) {q o : Int32} (hk : k < c 4) (h : g 23 k = 0) (ho : OC c g k o m) (hq : ¬ (0 ≤ q ∧ q < 3)) : mm_M 85 [.ref 2, .int q, .int (nI k), .int o] (CW σ tg ad c g) = some (.inr 0, mm_bmp (CW σ tg ad c g) 1 6) := by
  rw [s_85 w hk h ho]
  simp only [e85_15, e85_19, c_98x hq, K0_v, K0_n, K0_x, K2_v, K2_n, K1_v, K1_n, K1_x, bI_s, bJ_s, bV_s, bS_s, l_10, l_00, bz_01, bz_0, bz_1, em_n, if_true, if_false, ite_not, ite_true, ite_false, not_true_eq_false, not_false_eq_true, or_true, true_or]
theorem c_85f {n k m : Nat} (w : WF tg ad c n) {q o : Int32} (hk : k < c 4) (h : g 23 k = 0) (ho : OC c g k o m) (hq : 0 ≤ q ∧ q < 3) (hc : c 4 = 24) : mm_M 85 [.ref 2, .int q, .int (nI k), .int o] (CW σ tg ad c g) = some (.inr 1, mm_bmp (CW σ tg ad c g) 1 6) := by
  have z : (nI (c 4) < 24) = False := by rw [hc]; decide
  rw [s_85 w hk h ho]
  simp only [e85_15, e85_19, e85_23, e85_26, e85_31, c_98 hq, cf_4, cz_7, z, K0_v, K0_n, K0_x, K2_v, K2_n, K1_v, K1_n, K1_x, bI_s, bJ_s, bV_s, bS_s, l_10, l_00, bz_01, bz_0, bz_1, em_n, if_true, if_false, ite_not, ite_true, ite_false, not_true_eq_false, not_false_eq_true, or_true, true_or]
theorem t_85 {n k m q : Nat} (w : WF tg ad c n) {o : Int32} (hk : k < c 4) (h : g 23 k = 0) (ho : OC c g k o m) (hq : q < 3) (hc : c 4 < 24) : mm_M 85 [.ref 2, .int (nI q), .int (nI k), .int o] (CW σ tg ad c g) = mm_L 85 99 [.ref 2, .int (nI q), .int (nI k), .int o, .ref (ad (8, k)), .ref (ad (8, m)), .int (g 24 k ||| g 24 m)] [.int (g 28 q), .int (g 24 k ||| g 24 m)] (CW σ tg ad c g) := by
  have b4 := w.1.2.2.2.2.1
  have z : (nI (c 4) < 24) = True := eq_true (show nI (c 4) < nI 24 from nI_lt hc (by decide))
  have h2 : 0 ≤ nI q ∧ nI q < 3 := ⟨nI_pos' (by omega), show nI q < nI 3 from nI_lt hq (by decide)⟩
  obtain ⟨L8, L9⟩ := w.cl hk
  rw [s_85 w hk h ho]
  rcases ho with ⟨rfl, rfl⟩ | ⟨rfl, hm, h3⟩
  · simp only [e85_15, e85_19, e85_23, e85_26, e85_31, e85_42, e85_46, e85_50, e85_53, e85_60, e85_65, e85_69, e85_73, e85_76, e85_83, e85_88, e85_97, c_98 h2, cf_4, cz_7, z, cg_7 hk (by omega), ck_8 L8, ci_8_0 L8, cf_5, cb_a8 hq, K0_v, K0_n, K0_x, K2_v, K2_n, K1_v, K1_n, K1_x, bI_s, bJ_s, bV_s, bS_s, l_10, l_00, bz_01, bz_0, bz_1, em_n, if_true, if_false, ite_not, ite_true, ite_false, not_true_eq_false, not_false_eq_true, or_true, true_or]
  · obtain ⟨M8, M9⟩ := w.cl hm
    simp only [e85_15, e85_19, e85_23, e85_26, e85_31, e85_42, e85_46, e85_50, e85_53, e85_60, e85_65, e85_69, e85_73, e85_76, e85_83, e85_88, e85_97, c_98 h2, cf_4, cz_7, z, cg_7 hk (by omega), ck_8 L8, ci_8_0 L8, eq_false (nI_m1 (k := m) (by omega)), cg_7 hm (by omega), ck_8 M8, ci_8_0 M8, cf_5, cb_a8 hq, K0_v, K0_n, K0_x, K2_v, K2_n, K1_v, K1_n, K1_x, bI_s, bJ_s, bV_s, bS_s, l_10, l_00, bz_01, bz_0, bz_1, em_n, if_true, if_false, ite_not, ite_true, ite_false, not_true_eq_false, not_false_eq_true, or_true, true_or]
theorem c_85g {n k m q : Nat} (w : WF tg ad c n) {o : Int32} (hk : k < c 4) (h : g 23 k = 0) (ho : OC c g k o m) (hq : q < 3) (hc : c 4 < 24) (hr : ¬ (g 24 k ||| g 24 m) &&& g 28 q = 0) : mm_M 85 [.ref 2, .int (nI q), .int (nI k), .int o] (CW σ tg ad c g) = some (.inr 1, mm_bmp (CW σ tg ad c g) 1 6) := by
  rw [t_85 w hk h ho hq hc]
  simp only [e85_99, e85_103, eq_false hr, K0_v, K0_n, K0_x, K2_v, K2_n, K1_v, K1_n, K1_x, bI_s, bJ_s, bV_s, bS_s, l_10, l_00, bz_01, bz_0, bz_1, em_n, if_true, if_false, ite_not, ite_true, ite_false, not_true_eq_false, not_false_eq_true, or_true, true_or]
theorem c_85 {k m q : Nat} (w : WF tg ad c σ.2.1) {o : Int32} (hk : k < c 4) (h : g 23 k = 0) (ho : OC c g k o m) (hq : q < 3) (hc : c 4 < 24) (hr : (g 24 k ||| g 24 m) &&& g 28 q = 0) : mm_M 85 [.ref 2, .int (nI q), .int (nI k), .int o] (CW σ tg ad c g) = some (.inl (some (.int (nI (c 4)))), CW (mm_bmp (C2 σ [.int (g 24 k ||| g 24 m), .int (nI q), .ref (ad (8, k)), .ref (ad (8, m)), .ref (σ.2.1 + 1), .int 0]) 1 (2 * c 4 + 10)) (tc tg σ.2.1 (c 4)) (ac ad σ.2.1 (c 4)) (u2 (cc c (c 4) (k + 1) (m + 1)) 4 (c 4 + 1)) (gc g (c 4) (g 24 k ||| g 24 m) (nI q))) := by
  have hm : m < c 4 := by
    rcases ho with ⟨_, rfl⟩ | ⟨_, hm, _⟩
    · exact hk
    · exact hm
  have u4 : cc c (c 4) (k + 1) (m + 1) 4 = c 4 := cc_lo (by decide)
  have c3 := CW_cl (σ := σ) (g := g) w hc (x := k + 1) (y := m + 1) (by omega) (by omega) (a := g 24 k ||| g 24 m) (b := nI q)
  have l := c_91 (σ := C2 σ [.int (g 24 k ||| g 24 m), .int (nI q), .ref (ad (8, k)), .ref (ad (8, m)), .ref (σ.2.1 + 1), .int 0]) (tg := tc tg σ.2.1 (c 4)) (ad := ac ad σ.2.1 (c 4)) (c := cc c (c 4) (k + 1) (m + 1)) (g := gc g (c 4) (g 24 k ||| g 24 m) (nI q)) (a := σ.2.1) (fun j hj => ((w.addc hc (x := k + 1) (y := m + 1) (by omega) (by omega) rfl).cl (by rw [u2_s]; rw [u4] at hj; omega)).1) (by rw [u4]; exact hc) (by rw [u4]; exact ac_8)
  rw [u4] at l
  simp only [pr] at c3
  rw [t_85 w hk h ho hq hc]
  simp only [e85_99, e85_103, e85_114, e85_129, e85_132, eq_true hr, CW_mk w.2.IN w.2.2.2, CW_n, c_0 w, c3, aM_91, l, K0_v, K0_n, K0_x, K2_v, K2_n, K1_v, K1_n, K1_x, bI_s, bJ_s, bV_s, bS_s, l_10, l_00, bz_01, bz_0, bz_1, em_n, if_true, if_false, ite_not, ite_true, ite_false, not_true_eq_false, not_false_eq_true, or_true, true_or]
end
