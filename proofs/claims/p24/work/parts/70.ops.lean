/-! THE LAW'S LOOP: what each call of the class comes to, and what stands of its rows between calls -/
theorem inN {p : Int32} {n : Nat} (hn : n < 2 ^ 31) (h : 0 ≤ p ∧ p < nI n) : ∃ k, k < n ∧ p = nI k := nI_below hn h.1 h.2
theorem fi_lt {p : Nat → Prop} (d : DecidablePred p) : ∀ m k x, @fi p d m k = some x → k ≤ x ∧ x < k + m ∧ p x
  | 0, k, x, h => by cases h
  | m + 1, k, x, h => by
    unfold fi at h
    by_cases q : p k
    · rw [if_pd q] at h
      cases h
      exact ⟨Nat.le_refl _, by omega, q⟩
    · rw [if_nd q] at h
      have := fi_lt d m (k + 1) x h
      exact ⟨by omega, by omega, this.2.2⟩
/-- a place -/
def PL (x : Int32) : Prop := ∃ p, p < 9 ∧ x = nI p
def PS (g : Nat → Nat → Int32) (r N : Nat) : Prop := ∀ k, k < N → PL (g r (7 * k + 1)) ∧ PL (g r (7 * k + 2))
/-- clips have persons -/
def PB (c : Nat → Nat) (g : Nat → Nat → Int32) : Prop := ∀ k, k < c 4 → g 24 k ≠ 0
def RI (c : Nat → Nat) (g : Nat → Nat → Int32) : Prop := VI g (c 0) (c 1) ∧ LU g (c 1) ∧ PB c g ∧ PS g 12 (c 0) ∧ PS g 34 (c 1)
/-- what a call of the class comes to -/
def CO1 (σ : mm_S) (tg : Nat → Nat × Nat) (ad : Nat × Nat → Nat) (c : Nat → Nat) (g : Nat → Nat → Int32) (y : Nat) (As : List Value) (r : Option Value ⊕ Nat) (c' : Nat → Nat) (g' : Nat → Nat → Int32) : Prop :=
  ∃ σ' tg' ad', mm_M y (.ref 2 :: As) (CW σ tg ad c g) = some (r, CW σ' tg' ad' c' g') ∧ WF tg' ad' c' σ'.2.1 ∧ SB σ σ' ∧ σ'.2.2.1 ≤ σ.2.2.1 + 8 ∧ σ'.2.2.2 ≤ σ.2.2.2 + 400
section
variable {σ : mm_S} {tg : Nat → Nat × Nat} {ad : Nat × Nat → Nat} {c c' : Nat → Nat} {g g' : Nat → Nat → Int32} {y : Nat} {As : List Value}
theorem LO_CW {n : Nat} (w : WF tg ad c n) (h : LO σ) : LO (CW σ tg ad c g) := by
  unfold LO at *
  rw [CW_mid (Or.inl (by decide)) (w.2.no (Or.inl (by decide)))]
  exact h
theorem CO_x {e : Nat} (w : WF tg ad c σ.2.1) (hC : mm_M y (.ref 2 :: As) (CW σ tg ad c g) = some (.inr e, mm_bmp (CW σ tg ad c g) 1 6)) : CO1 σ tg ad c g y As (.inr e) c g :=
  ⟨mm_bmp σ 1 6, tg, ad, by rw [hC, CW_bmp], w, fun _ _ _ => rfl, by show σ.2.2.1 + 1 ≤ _; omega, by show σ.2.2.2 + 6 ≤ _; omega⟩
theorem CO_q {v : Int32} (w : WF tg ad c σ.2.1) (hC : mm_M y (.ref 2 :: As) (CW σ tg ad c g) = some (.inl (some (.int v)), CW σ tg ad c g')) : CO1 σ tg ad c g y As (.inl (some (.int v))) c g' :=
  ⟨σ, tg, ad, hC, w, fun _ _ _ => rfl, by omega, by omega⟩
theorem RI_f (h : RI c g) (hc : c' 0 = c 0 ∧ c' 1 = c 1 ∧ c' 4 = c 4) (hg : g' 12 = g 12 ∧ g' 13 = g 13 ∧ g' 14 = g 14 ∧ g' 24 = g 24 ∧ g' 34 = g 34) : RI c' g' := by
  obtain ⟨h1, h2, h3, h4, h5⟩ := h
  obtain ⟨a0, a1, a4⟩ := hc
  obtain ⟨b2, b3, b4, b5, b6⟩ := hg
  unfold RI VI LU PB PS at *
  rw [a0, a1, a4, b2, b3, b4, b5, b6]
  exact ⟨h1, h2, h3, h4, h5⟩
theorem O_sign (w : WF tg ad c σ.2.1) (h : RI c g) {a b d e i j k : Int32} (h1 : V6 a b d e i j) (h2 : V7 a j k) :
    ∃ r c' g', CO1 σ tg ad c g 24 [.int a, .int b, .int d, .int e, .int i, .int j, .int k] r c' g' ∧ RI c' g' ∧ ((r = .inl (some (.int (nI (c 0)))) ∧ c 0 < 30 ∧ c' = u2 c 0 (c 0 + 1)) ∨ (r = .inr 1 ∧ c' = c)) := by
  have hc := w.1.1
  by_cases hc30 : c 0 = 30
  · exact ⟨_, c, g, CO_x w (c_24f h1 h2 hc30), h, Or.inr ⟨rfl, rfl⟩⟩
  have hlt : c 0 < 30 := by omega
  cases hf : @fi (je g (f7 a b d e i j k)) (jed g (f7 a b d e i j k)) (c 0) 0 with
  | some x =>
    have hx := fi_lt _ (c 0) 0 x hf
    refine ⟨_, c, g, ⟨mm_bmp (mm_new σ (.inl (1, [.int a, .int b, .int d, .int e, .int i, .int j, .int (if j = 2 then k else -1)])) 7) 1 6, tg, ad, c_24j w h1 h2 hlt hf (by omega), w.up (Nat.le_succ _), ?_, ?_, ?_⟩, h, Or.inr ⟨rfl, rfl⟩⟩
    · intro q q1 q2
      have : q ≠ σ.2.1 := by have := w.2.2.2; omega
      exact if_neg this
    · show σ.2.2.1 + 1 + 1 ≤ _; omega
    · show σ.2.2.2 + 7 + 6 ≤ _; omega
  | none =>
    refine ⟨_, u2 c 0 (c 0 + 1), w7 g 12 (c 0) (f7 a b d e i j k), ⟨_, _, _, c_24 w h1 h2 hlt hf, w.adds hlt rfl, ?_, ?_, ?_⟩, ?_, Or.inl ⟨rfl, hlt, rfl⟩⟩
    · intro q q1 q2
      have : q ≠ σ.2.1 := by have := w.2.2.2; omega
      exact if_neg this
    · show σ.2.2.1 + 1 + 1 ≤ _; omega
    · show σ.2.2.2 + 7 + (2 * c 0 + 10) ≤ _; omega
    · obtain ⟨i1, i2, i3, i4, i5⟩ := h
      have rg : ∀ r', r' ≠ 12 → w7 g 12 (c 0) (f7 a b d e i j k) r' = g r' := fun r' q => w7_r q
      have e1 : u2 c 0 (c 0 + 1) 1 = c 1 := u2_n (by decide)
      have e4 : u2 c 0 (c 0 + 1) 4 = c 4 := u2_n (by decide)
      unfold RI VI LU PB PS
      rw [u2_s, e1, e4, rg 13 (by decide), rg 14 (by decide), rg 24 (by decide), rg 34 (by decide)]
      refine ⟨fun m hm z => ?_, i2, i3, fun m hm => ?_, i5⟩
      · obtain ⟨s, s1, s2⟩ := i1 m hm z
        exact ⟨s, by omega, s2⟩
      · by_cases q : m = c 0
        · subst q
          rw [w7_at (by decide), w7_at (by decide)]
          obtain ⟨-, ⟨b1, b2⟩, ⟨d1, d2⟩, -⟩ := h1
          exact ⟨inN (n := 9) (by decide) ⟨b1, b2⟩, inN (n := 9) (by decide) ⟨d1, d2⟩⟩
        · rw [w7_o (by omega), w7_o (by omega)]
          exact i4 m (by omega)
/-- the hands that an item is told with -/
theorem told (hb : BD c) (h : RI c g) {k a b d : Int32} (hs : Hs c k a b d) (hp : Ip k a b d) : ∃ x : Nat → Int32, (x 6 = if x 5 = 2 then x 6 else -1) ∧ (k = 5 → x 1 = 4) ∧ (PL (x 1) ∧ PL (x 2)) ∧ ∀ (σ : mm_S) tg ad, WF tg ad c σ.2.1 → LO (CW σ tg ad c g) → mm_M 47 [.ref 2, .int k, .int a, .int b, .int d] (CW σ tg ad c g) = some (.inl (some (.ref σ.2.1)), mm_new (CW σ tg ad c g) (.inl (1, l7 x)) 7) := by
  obtain ⟨h0, h1, h4⟩ := hs
  have six : ∀ a b d e i j k : Int32, f7 a b d e i j k 6 = if f7 a b d e i j k 5 = 2 then f7 a b d e i j k 6 else -1 := fun a b d e i j k => by
    show (if j = 2 then k else -1) = if j = 2 then (if j = 2 then k else -1) else -1
    by_cases z : j = 2
    · rw [if_pos z, if_pos z]
    · rw [if_neg z, if_neg z]
  have plp : ∀ b : Int32, PL (pl b) := fun b => by
    unfold pl
    split
    · exact ⟨3, by decide, rfl⟩
    · split
      · exact ⟨5, by decide, rfl⟩
      · split
        · exact ⟨0, by decide, rfl⟩
        · exact ⟨2, by decide, rfl⟩
  by_cases k0 : k = 0
  · obtain ⟨a1, a2⟩ := h0 k0
    obtain ⟨s, s1, rfl⟩ := inN (by have := hb.1; omega) ⟨a1, a2⟩
    refine ⟨_, six (h7 (g 12) s 0) (h7 (g 12) s 1) (h7 (g 12) s 2) (h7 (g 12) s 3) (h7 (g 12) s 4) (h7 (g 12) s 5) (h7 (g 12) s 6), fun z => ?_, h.2.2.2.1 s s1, fun σ tg ad w hl => ?_⟩
    · rw [k0] at z; exact absurd z (by decide)
    · rw [k0]
      exact c_47S w s1
  by_cases k4 : k = 4
  · obtain ⟨⟨a1, a2⟩, hB, hD⟩ := h4 k4
    obtain ⟨s, s1, rfl⟩ := inN (by have := hb.1; omega) ⟨a1, a2⟩
    refine ⟨_, six (h7 (g 12) s 0) (pl b) (pl d) (h7 (g 12) s 3) (h7 (g 12) s 4) (h7 (g 12) s 5) (h7 (g 12) s 6), fun z => ?_, ⟨plp b, plp d⟩, fun σ tg ad w hl => ?_⟩
    · rw [k4] at z; exact absurd z (by decide)
    · rw [k4]
      exact c_47V w hl s1 hB hD
  by_cases k5 : k = 5
  · refine ⟨_, six (a - a / 8 * 8) 4 4 (a / 8) (a / 8) 0 (-1), fun _ => rfl, ⟨⟨4, by decide, rfl⟩, ⟨4, by decide, rfl⟩⟩, fun σ tg ad w hl => ?_⟩
    rw [k5]
    exact c_47L
  have k3 : k = 1 ∨ k = 2 ∨ k = 3 := by
    rcases hp with z | z | z | z | z | z
    · exact absurd z k0
    · exact Or.inr (Or.inl z)
    · exact Or.inr (Or.inr z)
    · exact Or.inl z.1
    · exact absurd z.1 k4
    · exact absurd z.1 k5
  exact ⟨_, six 1 (pl a) (pl a) 0 0 0 (-1), fun z => absurd z k5, ⟨plp a, plp a⟩, fun σ tg ad w hl => c_47P hl k3 (h1 k3)⟩
theorem O_item (w : WF tg ad c σ.2.1) (hl : LO σ) (h : RI c g) (k a b d : Int32) (hlt : c 1 < 14) :
    ∃ r c' g', CO1 σ tg ad c g 36 [.int k, .int a, .int b, .int d] r c' g' ∧ RI c' g' ∧ ((r = .inl (some (.int (nI (c 1 + 1)))) ∧ c' = u2 c 1 (c 1 + 1)) ∨ (∃ e, e < 3 ∧ r = .inr e ∧ c' = c)) := by
  have hb := w.1
  have hl' := fun g => LO_CW (g := g) w hl
  by_cases h1 : Hs c k a b d
  · by_cases h2 : Ip k a b d
    · by_cases h3 : Ls g (c 1) k a b d
      · obtain ⟨x, x6, x5, xp, x47⟩ := told hb h h1 h2
        have hI : IN tg ad (mm_new σ (.inl (2, [.int 0, .int 0, .int 0, .null, .null, .int 0, .int 0, .int 0])) 8).2.1 := (w.2.up (Nat.le_succ _)).IN
        have wN : WF tg ad c (mm_new σ (.inl (2, [.int 0, .int 0, .int 0, .null, .null, .int 0, .int 0, .int 0])) 8).2.1 := w.up (Nat.le_succ _)
        have lN : LO (mm_new σ (.inl (2, [.int 0, .int 0, .int 0, .null, .null, .int 0, .int 0, .int 0])) 8) := by
          unfold LO at *
          have : 1 ≠ σ.2.1 := by have := w.2.2.2; omega
          exact (if_neg this).trans hl
        have c36 := c_36 (σ := σ) (g := g) w (hl' g) h1 h2 hlt h3 x6 (x47 _ tg ad wN (LO_CW wN lN))
        refine ⟨_, u2 c 1 (c 1 + 1), gi g (c 1) k a b x, ⟨_, _, _, c36, w.add3 hlt rfl, ?_, ?_, ?_⟩, ?_, Or.inl ⟨rfl, rfl⟩⟩
        · intro q q1 q2
          have h35 := w.2.2.2
          show (if q = σ.2.1 then _ else if q = σ.2.1 + 1 then _ else if q = σ.2.1 + 2 then _ else _) = _
          rw [if_neg (by omega), if_neg (by omega), if_neg (by omega)]
        · show σ.2.2.1 + 3 + 1 ≤ _; omega
        · show σ.2.2.2 + 22 + (2 * c 1 + 10) ≤ _; omega
        · obtain ⟨i1, i2, i3, i4, i5⟩ := h
          have e0 : u2 c 1 (c 1 + 1) 0 = c 0 := u2_n (by decide)
          have e4 : u2 c 1 (c 1 + 1) 4 = c 4 := u2_n (by decide)
          unfold RI
          rw [u2_s, e0]
          refine ⟨fun m hm z => ?_, fun m hm z => ?_, fun m hm => ?_, fun m hm => ?_, fun m hm => ?_⟩
          · by_cases e : m = c 1
            · subst e
              rw [gi_13] at z
              rw [gi_14]
              rcases z with z | z
              · exact inN (by have := hb.1; omega) (h1.1 z)
              · exact inN (by have := hb.1; omega) (h1.2.2 z).1
            · rw [gi_o ⟨fun _ => e, fun z => by omega, fun z => by omega⟩] at z ⊢
              exact i1 m (by omega) z
          · by_cases e : m = c 1
            · subst e
              rw [gi_13] at z
              rw [gi_h (Or.inr rfl) (by decide)]
              exact x5 z
            · rw [gi_o ⟨fun _ => e, fun z => by omega, fun z => by omega⟩] at z
              rw [gi_o ⟨fun z => by omega, fun z => by omega, fun z => by omega⟩]
              exact i2 m (by omega) z
          · rw [e4] at hm
            rw [gi_r (by decide)]
            exact i3 m hm
          · rw [gi_r (by decide)]
            exact i4 m hm
          · by_cases e : m = c 1
            · subst e
              rw [gi_h (Or.inr rfl) (by decide), gi_h (Or.inr rfl) (by decide)]
              exact xp
            · rw [gi_o ⟨fun z => by omega, fun z => by omega, fun z => by omega⟩, gi_o ⟨fun z => by omega, fun z => by omega, fun z => by omega⟩]
              exact i5 m (by omega)
      · exact ⟨_, c, g, CO_x w (c_36d w (hl' g) h1 h2 hlt h3), h, Or.inr ⟨1, by decide, rfl, rfl⟩⟩
    · exact ⟨_, c, g, CO_x w (c_36b (hl' g) h1 h2), h, Or.inr ⟨0, by decide, rfl, rfl⟩⟩
  · exact ⟨_, c, g, CO_x w (c_36a (hl' g) h1), h, Or.inr ⟨2, by decide, rfl, rfl⟩⟩
theorem O_clear (w : WF tg ad c σ.2.1) (h : RI c g) : CO1 σ tg ad c g 37 [] (.inl (some (.int (nI (c 1))))) (u2 (u2 c 1 0) 2 0) g ∧ RI (u2 (u2 c 1 0) 2 0) g := by
  refine ⟨⟨_, _, _, c_37 w, w.clr, ?_, ?_, ?_⟩, ?_⟩
  · intro a a1 a2
    exact CW_mid a2 (w.2.no (Or.inl a1))
  · show σ.2.2.1 ≤ _; omega
  · show σ.2.2.2 ≤ _; omega
  · obtain ⟨i1, i2, i3, i4, i5⟩ := h
    have e0 : u2 (u2 c 1 0) 2 0 0 = c 0 := by rw [u2_n (by decide), u2_n (by decide)]
    have e1 : u2 (u2 c 1 0) 2 0 1 = 0 := by rw [u2_n (by decide), u2_s]
    have e4 : u2 (u2 c 1 0) 2 0 4 = c 4 := by rw [u2_n (by decide), u2_n (by decide)]
    unfold RI
    rw [e0, e1]
    exact ⟨fun m hm => by omega, fun m hm => by omega, fun m hm => i3 m (by rw [e4] at hm; exact hm), i4, fun m hm => by omega⟩
theorem O_face (w : WF tg ad c σ.2.1) (h : RI c g) {a : Int32} {p q : Nat} (ha : 0 ≤ a ∧ a < 4) (hp : p ≤ q) (hq : q < c 1) :
    ∃ r c' g', CO1 σ tg ad c g 38 [.int a, .int (nI p), .int (nI q)] r c' g' ∧ RI c' g' ∧ (∀ z, z ≠ 2 → c' z = c z) ∧ ((∃ v, v < 2 ^ 31 ∧ r = .inl (some (.int (nI v)))) ∨ r = .inr 1) := by
  obtain ⟨b0, b1, b2, b3, b4, b5⟩ := w.1
  have hp1 : 0 ≤ nI p ∧ nI p < nI (c 1) := ⟨nI_pos' (by omega), nI_lt (by omega) (by omega)⟩
  have hq1 : 0 ≤ nI q ∧ nI q < nI (c 1) := ⟨nI_pos' (by omega), nI_lt (by omega) (by omega)⟩
  have hpq : nI p ≤ nI q := nI_le hp (by omega)
  by_cases h8 : c 2 = 8
  · exact ⟨_, c, g, CO_x w (c_38c h8 hp1 hq1 ha hpq), h, fun _ _ => rfl, Or.inr rfl⟩
  have hlt : c 2 < 8 := by omega
  by_cases h5 : (@fi (bc g (ar a) (nI p) (nI q)) (bcd g (ar a) (nI p) (nI q)) (c 2) 0).isSome = true
  · exact ⟨_, c, g, CO_x w (c_38d w hlt hp1 hq1 ha hpq h5), h, fun _ _ => rfl, Or.inr rfl⟩
  refine ⟨_, u2 c 2 (c 2 + 1), g3 g (c 2) a (nI p) (nI q), ⟨_, _, _, c_38 w hlt hp1 hq1 ha hpq h5, w.addf hlt rfl, ?_, ?_, ?_⟩, RI_f h ⟨u2_n (by decide), u2_n (by decide), u2_n (by decide)⟩ ⟨g3_r (by decide), g3_r (by decide), g3_r (by decide), g3_r (by decide), g3_r (by decide)⟩, fun z hz => u2_n hz, Or.inl ⟨_, ?_, rfl⟩⟩
  · intro q q1 q2
    have : q ≠ σ.2.1 := by have := w.2.2.2; omega
    exact if_neg this
  · show σ.2.2.1 + 1 + 1 ≤ _; omega
  · show σ.2.2.2 + 3 + (2 * c 2 + 10) ≤ _; omega
  · omega
theorem O_rule (w : WF tg ad c σ.2.1) (h : RI c g) {a : Int32} (ha : 0 ≤ a ∧ a < 5) :
    ∃ r c' g', CO1 σ tg ad c g 57 [.int a] r c' g' ∧ RI c' g' ∧ ((r = .inl (some (.int (nI (c 3)))) ∧ c 3 < 6 ∧ c' = u2 c 3 (c 3 + 1)) ∨ (r = .inr 1 ∧ c 3 = 6 ∧ c' = c)) := by
  by_cases h3 : c 3 = 6
  · exact ⟨_, c, g, CO_x w (c_57b ha h3), h, Or.inr ⟨rfl, h3, rfl⟩⟩
  have hlt : c 3 < 6 := by have := w.1.2.2.2.1; omega
  refine ⟨_, u2 c 3 (c 3 + 1), gr g (c 3) a, ⟨_, _, _, c_57 w ha hlt, w.addr hlt rfl, ?_, ?_, ?_⟩, RI_f h ⟨u2_n (by decide), u2_n (by decide), u2_n (by decide)⟩ ⟨gr_r (by decide), gr_r (by decide), gr_r (by decide), gr_r (by decide), gr_r (by decide)⟩, Or.inl ⟨rfl, hlt, rfl⟩⟩
  · intro q q1 q2
    have e1 : q ≠ σ.2.1 := by have := w.2.2.2; omega
    have e2 : q ≠ σ.2.1 + 1 := by have := w.2.2.2; omega
    show (if q = σ.2.1 then _ else if q = σ.2.1 + 1 then _ else _) = _
    rw [if_neg e1, if_neg e2]
  · show σ.2.2.1 + 2 + 1 ≤ _; omega
  · show σ.2.2.2 + 32 + (2 * c 3 + 10) ≤ _; omega
theorem O_except (w : WF tg ad c σ.2.1) (h : RI c g) {i s : Nat} (hi : i < c 3) (hs : s < c 0) : ∃ g' v, CO1 σ tg ad c g 58 [.int (nI i), .int (nI s)] (.inl (some (.int v))) c g' ∧ RI c g' ∧ (v = 0 ∨ v = 1) :=
  ⟨_, _, CO_q w (c_58 w hi hs), RI_f h ⟨rfl, rfl, rfl⟩ ⟨uf_n (by decide), uf_n (by decide), uf_n (by decide), uf_n (by decide), uf_n (by decide)⟩, by split; exact Or.inr rfl; exact Or.inl rfl⟩
theorem SBn {fs : List Value} {x y : Nat} (h : 11 ≤ σ.2.1) : SB σ (mm_bmp (C2 σ fs) x y) := by
  intro q q1 q2
  show (if q = σ.2.1 then _ else if q = σ.2.1 + 1 then _ else _) = _
  rw [if_neg (by omega), if_neg (by omega)]
theorem RI_clip (h : RI c g) (hlt : c 4 < 24) {a b : Int32} {X Y : Nat} (ha : a ≠ 0) : RI (u2 (cc c (c 4) X Y) 4 (c 4 + 1)) (gc g (c 4) a b) := by
  obtain ⟨i1, i2, i3, i4, i5⟩ := h
  have e0 : u2 (cc c (c 4) X Y) 4 (c 4 + 1) 0 = c 0 := by rw [u2_n (by decide), cc_lo (by decide)]
  have e1 : u2 (cc c (c 4) X Y) 4 (c 4 + 1) 1 = c 1 := by rw [u2_n (by decide), cc_lo (by decide)]
  unfold RI
  rw [e0, e1]
  refine ⟨?_, ?_, fun m hm => ?_, ?_, ?_⟩
  · unfold VI at *; rw [gc_r (by decide), gc_r (by decide)]; exact i1
  · unfold LU at *; rw [gc_r (by decide), gc_r (by decide)]; exact i2
  · rw [u2_s] at hm
    by_cases e : m = c 4
    · subst e; rw [gc_24]; exact ha
    · rw [gc_o e]; exact i3 m (by omega)
  · unfold PS at *; rw [gc_r (by decide)]; exact i4
  · unfold PS at *; rw [gc_r (by decide)]; exact i5
theorem one_nz {p : Int32} (h : 0 ≤ p ∧ p < 6) : (1 : Int32) <<< (p &&& 31) ≠ 0 := by
  obtain ⟨k, hk, rfl⟩ := inN (n := 6) (by decide) h
  have : ∀ j : Fin 6, (1 : Int32) <<< (nI j.1 &&& 31) ≠ 0 := by decide
  exact this ⟨k, hk⟩
theorem or_nz {x y : Int32} (h : x ≠ 0) : x ||| y ≠ 0 := fun z => h (by
  have e := congrArg Int32.toBitVec z
  rw [Int32.toBitVec_or] at e
  apply Int32.toBitVec_inj.mp
  exact (BitVec.or_eq_zero_iff.mp e).1)
theorem O_take (w : WF tg ad c σ.2.1) (h : RI c g) {p : Int32} (hp : 0 ≤ p ∧ p < 6) :
    ∃ r c' g', CO1 σ tg ad c g 84 [.int p] r c' g' ∧ RI c' g' ∧ ((r = .inl (some (.int (nI (c 4)))) ∧ c 4 < 24 ∧ c' 4 = c 4 + 1 ∧ ∀ z, z < 4 → c' z = c z) ∨ (r = .inr 1 ∧ c 4 = 24 ∧ c' = c)) := by
  by_cases h3 : c 4 = 24
  · exact ⟨_, c, g, CO_x w (c_84y hp h3), h, Or.inr ⟨rfl, h3, rfl⟩⟩
  have hlt : c 4 < 24 := by have := w.1.2.2.2.2.1; omega
  refine ⟨_, u2 (cc c (c 4) 0 0) 4 (c 4 + 1), gc g (c 4) (1 <<< (p &&& 31)) (-1), ⟨_, _, _, c_84 w hp hlt, w.addc hlt (Nat.zero_le _) (Nat.zero_le _) rfl, SBn w.2.2.2, ?_, ?_⟩, RI_clip h hlt (one_nz hp), Or.inl ⟨rfl, hlt, u2_s _ _ _, fun z hz => by rw [u2_n (by omega), cc_lo (by omega)]⟩⟩
  · show σ.2.2.1 + 2 + 1 ≤ _; omega
  · show σ.2.2.2 + 9 + (2 * c 4 + 10) ≤ _; omega
theorem O_make (w : WF tg ad c σ.2.1) (h : RI c g) {q k : Nat} {o : Int32} (hq : q < 3) (hk : k < c 4) (ho : o = -1 ∨ ∃ m, m < c 4 ∧ o = nI m) :
    ∃ r c' g', CO1 σ tg ad c g 85 [.int (nI q), .int (nI k), .int o] r c' g' ∧ RI c' g' ∧ ((r = .inl (some (.int (nI (c 4)))) ∧ c' 4 = c 4 + 1 ∧ g' 23 (c 4) = 0 ∧ ∀ z, z < 4 → c' z = c z) ∨ (∃ e, e < 3 ∧ r = .inr e ∧ c' = c)) := by
  have hb := w.1.2.2.2.2.1
  have hq3 : 0 ≤ nI q ∧ nI q < 3 := ⟨nI_pos' (by omega), show nI q < nI 3 from nI_lt hq (by decide)⟩
  by_cases h2 : g 23 k = 0
  · have key : (∃ m, OC c g k o m) ∨ ∃ m, m < c 4 ∧ o = nI m ∧ g 23 m ≠ 0 := by
      rcases ho with e | ⟨m, m1, m2⟩
      · exact Or.inl ⟨k, Or.inl ⟨e, rfl⟩⟩
      · by_cases z : g 23 m = 0
        · exact Or.inl ⟨m, Or.inr ⟨m2, m1, z⟩⟩
        · exact Or.inr ⟨m, m1, m2, z⟩
    rcases key with ⟨m, ho⟩ | ⟨m, m1, m2, m3⟩
    · have hm : m < c 4 := by
        rcases ho with ⟨_, rfl⟩ | ⟨_, hm, _⟩
        · exact hk
        · exact hm
      by_cases h4 : c 4 = 24
      · exact ⟨_, c, g, CO_x w (c_85f w hk h2 ho hq3 h4), h, Or.inr ⟨1, by decide, rfl, rfl⟩⟩
      have hlt : c 4 < 24 := by omega
      by_cases h5 : (g 24 k ||| g 24 m) &&& g 28 q = 0
      · refine ⟨_, u2 (cc c (c 4) (k + 1) (m + 1)) 4 (c 4 + 1), gc g (c 4) (g 24 k ||| g 24 m) (nI q), ⟨_, _, _, c_85 w hk h2 ho hq hlt h5, w.addc hlt (by omega) (by omega) rfl, SBn w.2.2.2, ?_, ?_⟩, RI_clip h hlt (or_nz (h.2.2.1 k hk)), Or.inl ⟨rfl, u2_s _ _ _, gc_23, fun z hz => by rw [u2_n (by omega), cc_lo (by omega)]⟩⟩
        · show σ.2.2.1 + 2 + 1 ≤ _; omega
        · show σ.2.2.2 + 9 + (2 * c 4 + 10) ≤ _; omega
      · exact ⟨_, c, g, CO_x w (c_85g w hk h2 ho hq hlt h5), h, Or.inr ⟨1, by decide, rfl, rfl⟩⟩
    · subst m2
      exact ⟨_, c, g, CO_x w (c_85d w hk h2 m1 m3), h, Or.inr ⟨2, by decide, rfl, rfl⟩⟩
  · exact ⟨_, c, g, CO_x w (c_85b w hk h2), h, Or.inr ⟨2, by decide, rfl, rfl⟩⟩
theorem lg_all (p q : Int32) {N : Nat} : ∀ m k (x : Nat) (c : Nat → Nat) (g : Nat → Nat → Int32), RI c g → c 4 = N → k + m = N → ∃ x', x' ≤ x + m ∧ (up (lgs p q) m k (nI x, c, g)).1 = nI x' ∧ RI (up (lgs p q) m k (nI x, c, g)).2.1 (up (lgs p q) m k (nI x, c, g)).2.2 ∧ ∀ j, j < 100 → (up (lgs p q) m k (nI x, c, g)).2.1 j = c j
  | 0, k, x, c, g, h, _, _ => ⟨x, Nat.le_refl _, rfl, h, fun _ _ => rfl⟩
  | m + 1, k, x, c, g, h, hN, hk => by
    have e1 : up (lgs p q) (m + 1) k (nI x, c, g) = up (lgs p q) m (k + 1) (lgs p q k (nI x, c, g)) := rfl
    rw [e1]
    by_cases z : lgc p q c g k
    · have l : lgs p q k (nI x, c, g) = (nI (x + 1), u2 c (100 + k) 0, uf g 23 k 1) := (if_pd z).trans (by rw [show nI x + 1 = nI (x + 1) from nI_add x 1])
      rw [l]
      have h' : RI (u2 c (100 + k) 0) (uf g 23 k 1) := RI_f h ⟨u2_n (by omega), u2_n (by omega), u2_n (by omega)⟩ ⟨uf_n (by decide), uf_n (by decide), uf_n (by decide), uf_n (by decide), uf_n (by decide)⟩
      obtain ⟨x', y0, y1, y2, y3⟩ := lg_all p q m (k + 1) (x + 1) _ _ h' ((u2_n (show 4 ≠ 100 + k by omega)).trans hN) (by omega)
      exact ⟨x', by omega, y1, y2, fun j hj => (y3 j hj).trans (u2_n (by omega))⟩
    · have l : lgs p q k (nI x, c, g) = (nI x, c, g) := if_nd z
      rw [l]
      obtain ⟨x', y0, y1, y2, y3⟩ := lg_all p q m (k + 1) x c g h hN (by omega)
      exact ⟨x', by omega, y1, y2, y3⟩
theorem O_withdraw (w : WF tg ad c σ.2.1) (h : RI c g) {p : Int32} (hp : 0 ≤ p ∧ p < 6) :
    ∃ v c' g', CO1 σ tg ad c g 87 [.int p] (.inl (some (.int (nI v)))) c' g' ∧ RI c' g' ∧ v ≤ c 4 ∧ ∀ z, z < 100 → c' z = c z := by
  obtain ⟨σ', tg', e1, e2, e3, e4⟩ := c_87 (σ := σ) (g := g) w hp
  obtain ⟨v, y0, y1, y2, y3⟩ := lg_all p (-1) (c 4) 0 0 c g h rfl (by omega)
  rw [show (nI 0 : Int32) = 0 from rfl] at y1 y2 y3
  rw [y1] at e1
  refine ⟨v, _, _, ⟨σ', tg', ad, e1, ?_, e3, ?_, ?_⟩, y2, by omega, y3⟩
  · rw [e4]; exact e2
  · rw [e4]; omega
  · rw [e4]; omega
theorem O_persons (w : WF tg ad c σ.2.1) (h : RI c g) {k : Nat} (hk : k < c 4) (hg : g 23 k = 0) : ∃ v, CO1 σ tg ad c g 88 [.int (nI k)] (.inl (some (.int v))) c g ∧ v ≠ 0 := by
  refine ⟨_, CO_q w (c_88 w hk), ?_⟩
  rw [if_pos hg]
  exact h.2.2.1 k hk
end
-- signed: the ticks
theorem sgs_r {r : Nat} (hr : r ≠ 35) : ∀ m k (x : Int32 × (Nat → Nat → Int32)), (up sgs m k x).2 r = x.2 r
  | 0, k, x => rfl
  | m + 1, k, x => by
    show (up sgs m (k + 1) (sgs k x)).2 r = _
    rw [sgs_r hr m (k + 1)]
    unfold sgs
    show uf (uf (uf x.2 35 _ _) 35 _ _) 35 _ _ r = _
    rw [uf_n hr, uf_n hr, uf_n hr]
section
variable {c : Nat → Nat} {g : Nat → Nat → Int32}
theorem apc_r {N R r : Nat} (hr : r ≠ 33) : apc N R g r = g r := by
  have a : ∀ k g, rsts N k g r = g r := fun k g => up_r (s := rst N k) (fun k g => rst_r hr) _ _ _
  have b : ∀ k g, bgc k g r = g r := fun k g => bgc_r hr
  unfold apc
  rw [up_r a, up_r b]
theorem sga_r {N R r : Nat} (h3 : r ≠ 33) (h5 : r ≠ 35) : sga N R g r = g r := by
  unfold sga
  rw [sgs_r h5]
  exact apc_r h3
theorem RI_sga (h : RI c g) : RI c (sga (c 1) (c 3) g) := RI_f h ⟨rfl, rfl, rfl⟩ ⟨sga_r (by decide) (by decide), sga_r (by decide) (by decide), sga_r (by decide) (by decide), sga_r (by decide) (by decide), sga_r (by decide) (by decide)⟩
end
theorem PS_uf {g : Nat → Nat → Int32} {N i : Nat} {x : Int32} (h : PS g 33 N) (hx : PL x ∨ ∀ k, i ≠ 7 * k + 1 ∧ i ≠ 7 * k + 2) : PS (uf g 33 i x) 33 N := by
  intro k hk
  obtain ⟨h1, h2⟩ := h k hk
  have key : ∀ j, (j = 7 * k + 1 ∨ j = 7 * k + 2) → PL (g 33 j) → PL (uf g 33 i x 33 j) := fun j hj hg => by
    rw [uf_s]
    by_cases e : j = i
    · rw [show upd (g 33) i x j = x from if_pos e]
      rcases hx with hx | hx
      · exact hx
      · have := hx k
        omega
    · rw [show upd (g 33) i x j = g 33 j from if_neg e]
      exact hg
  exact ⟨key _ (Or.inl rfl) h1, key _ (Or.inr rfl) h2⟩
theorem PS_chg {g : Nat → Nat → Int32} {N k : Nat} {K : Int32} (hk : k < N) (h : PS g 33 N) : PS (chg g N K k) 33 N := by
  unfold chg
  split
  · split
    · exact PS_uf h (Or.inr fun k => by omega)
    · exact h
  · split
    · split
      · exact PS_uf h (Or.inr fun k => by omega)
      · exact h
    · split
      · split
        · exact PS_uf h (Or.inr fun k => by omega)
        · exact h
      · split
        · split
          · exact PS_uf (PS_uf h (Or.inl (h k hk).2)) (Or.inl (h k hk).1)
          · exact h
        · split
          · split
            · exact PS_uf h (Or.inl ⟨5, by decide, rfl⟩)
            · exact h
          · exact h
theorem up_in {α : Type} {s : Nat → α → α} {P : α → Prop} {N : Nat} (hs : ∀ k x, k < N → P x → P (s k x)) : ∀ m k x, k + m = N → P x → P (up s m k x)
  | 0, k, x, _, h => h
  | m + 1, k, x, e, h => up_in hs m (k + 1) (s k x) (by omega) (hs k x (by omega) h)
theorem PS_bgc {g : Nat → Nat → Int32} : ∀ m k (G : Nat → Nat → Int32), G 34 = g 34 → (∀ j, j < k → G 33 (7 * j + 1) = g 34 (7 * j + 1) ∧ G 33 (7 * j + 2) = g 34 (7 * j + 2)) → ∀ j, j < k + m → (up bgc m k G) 33 (7 * j + 1) = g 34 (7 * j + 1) ∧ (up bgc m k G) 33 (7 * j + 2) = g 34 (7 * j + 2)
  | 0, k, G, _, h, j, hj => h j (by omega)
  | m + 1, k, G, e, h, j, hj => by
    refine PS_bgc m (k + 1) (bgc k G) ((bgc_r (by decide)).trans e) (fun i hi => ?_) j (by omega)
    unfold bgc
    by_cases q : i = k
    · subst q
      rw [w7_at (by decide), w7_at (by decide)]
      unfold h7
      rw [e]
      exact ⟨rfl, rfl⟩
    · rw [w7_o (by omega), w7_o (by omega)]
      exact h i (by omega)
theorem PS_apc {g : Nat → Nat → Int32} {N R : Nat} (h : PS g 34 N) : PS (apc N R g) 33 N := by
  unfold apc
  refine up_in (P := fun G => PS G 33 N) (N := R) (fun i G hi hG => ?_) R 0 _ (by omega) ?_
  · unfold rsts
    refine up_in (P := fun G => PS G 33 N) (N := N) (fun k G hk hG => ?_) N 0 _ (by omega) hG
    unfold rst
    split
    · exact hG
    · exact PS_chg hk hG
  · intro k hk
    have e := PS_bgc (g := g) N 0 g rfl (fun j hj => absurd hj (by omega)) k (by omega)
    rw [e.1, e.2]
    exact h k hk
theorem ds_in {a b : Int32} (ha : PL a) (hb : PL b) : ∃ d, d ≤ 4 ∧ ls1 (ds a b) = nI d := by
  obtain ⟨p, hp, rfl⟩ := ha
  obtain ⟨q, hq, rfl⟩ := hb
  have : ∀ x y : Fin 9, ∃ d : Fin 5, ls1 (ds (nI x.1) (nI y.1)) = nI d.1 := by decide
  obtain ⟨d, hd⟩ := this ⟨p, hp⟩ ⟨q, hq⟩
  exact ⟨d.1, by have := d.2; omega, hd⟩
theorem ti_in {x : Nat → Int32} (h1 : PL (x 1)) (h2 : PL (x 2)) : ∃ d, 0 < d ∧ d ≤ 8 ∧ ti x = nI d := by
  unfold ti
  split
  · exact ⟨3, by decide, by decide, rfl⟩
  · obtain ⟨d, hd, e⟩ := ds_in h1 h2
    rw [e]
    exact ⟨2 + d + 2, by omega, by omega, by rw [show (2 : Int32) = nI 2 from rfl, nI_add, nI_add]⟩
theorem tp_in {x y : Nat → Int32} (h1 : PL (x 2)) (h2 : PL (y 1)) : ∃ d, d ≤ 4 ∧ tp x y = nI d := by
  unfold tp
  split
  · exact ⟨0, by decide, rfl⟩
  · exact ds_in h1 h2
/-- begins, holds, ends: the ticks -/
def TK (g : Nat → Nat → Int32) (k : Nat) : Prop := ∃ a b d : Nat, a ≤ b ∧ b < d ∧ d ≤ 1000 ∧ g 35 (3 * k) = nI a ∧ g 35 (3 * k + 1) = nI b ∧ g 35 (3 * k + 2) = nI d ∧ (0 < k → g 35 (3 * (k - 1) + 2) = nI a)
theorem sg_in {N : Nat} : ∀ m k (t : Nat) (G : Nat → Nat → Int32), k + m = N → N ≤ 14 → t ≤ 12 * k → PS G 33 N → (∀ j, j < k → TK G j) → (0 < k → G 35 (3 * (k - 1) + 2) = nI t) → ∀ j, j < N → TK (up sgs m k (nI t, G)).2 j
  | 0, k, t, G, e, _, _, _, h, _, j, hj => h j (by omega)
  | m + 1, k, t, G, e, hN, ht, hp, h, hl, j, hj => by
    have hk : k < N := by omega
    obtain ⟨d1, d1l, e1⟩ : ∃ d, d ≤ 4 ∧ tpk (G 33) k = nI d := by
      cases k with
      | zero => exact ⟨0, by decide, rfl⟩
      | succ i => exact tp_in (hp i (by omega)).2 (hp (i + 1) hk).1
    obtain ⟨d2, d2p, d2l, e2⟩ := ti_in (x := h7 (G 33) k) (hp k hk).1 (hp k hk).2
    have es : sgs k (nI t, G) = (nI (t + d1 + d2), uf (uf (uf G 35 (3 * k + 0) (nI t)) 35 (3 * k + 1) (nI (t + d1))) 35 (3 * k + 2) (nI (t + d1 + d2))) := by
      unfold sgs
      show (nI t + tpk (G 33) k + ti (h7 (G 33) k), uf (uf (uf G 35 (3 * k + 0) (nI t)) 35 (3 * k + 1) (nI t + tpk (G 33) k)) 35 (3 * k + 2) (nI t + tpk (G 33) k + ti (h7 (G 33) k))) = _
      rw [e1, e2, nI_add, nI_add]
    show TK (up sgs m (k + 1) (sgs k (nI t, G))).2 j
    rw [es]
    have at0 : uf (uf (uf G 35 (3 * k + 0) (nI t)) 35 (3 * k + 1) (nI (t + d1))) 35 (3 * k + 2) (nI (t + d1 + d2)) 35 (3 * k) = nI t := by rw [uf_o (by omega), uf_o (by omega), uf_s]; exact if_pos rfl
    have at1 : uf (uf (uf G 35 (3 * k + 0) (nI t)) 35 (3 * k + 1) (nI (t + d1))) 35 (3 * k + 2) (nI (t + d1 + d2)) 35 (3 * k + 1) = nI (t + d1) := by rw [uf_o (by omega), uf_s]; exact if_pos rfl
    have at2 : uf (uf (uf G 35 (3 * k + 0) (nI t)) 35 (3 * k + 1) (nI (t + d1))) 35 (3 * k + 2) (nI (t + d1 + d2)) 35 (3 * k + 2) = nI (t + d1 + d2) := by rw [uf_s]; exact if_pos rfl
    have ato : ∀ i, i < 3 * k → uf (uf (uf G 35 (3 * k + 0) (nI t)) 35 (3 * k + 1) (nI (t + d1))) 35 (3 * k + 2) (nI (t + d1 + d2)) 35 i = G 35 i := fun i hi => by rw [uf_o (by omega), uf_o (by omega), uf_o (by omega)]
    refine sg_in m (k + 1) (t + d1 + d2) _ (by omega) hN (by omega) ?_ (fun i hi => ?_) (fun _ => ?_) j hj
    · unfold PS at *
      rw [uf_n (by decide), uf_n (by decide), uf_n (by decide)]
      exact hp
    · by_cases q : i = k
      · subst q
        refine ⟨t, t + d1, t + d1 + d2, by omega, by omega, by omega, at0, at1, at2, fun z => ?_⟩
        rw [ato _ (by omega)]
        exact hl z
      · obtain ⟨a, b, d, y1, y2, y3, y4, y5, y6, y7⟩ := h i (by omega)
        refine ⟨a, b, d, y1, y2, y3, ?_, ?_, ?_, fun z => ?_⟩
        · rw [ato _ (by omega)]; exact y4
        · rw [ato _ (by omega)]; exact y5
        · rw [ato _ (by omega)]; exact y6
        · rw [ato _ (by omega)]; exact y7 z
    · rw [show k + 1 - 1 = k from rfl]
      exact at2
theorem TK_sga {c : Nat → Nat} {g : Nat → Nat → Int32} (hb : c 1 ≤ 14) (h : PS g 34 (c 1)) {k : Nat} (hk : k < c 1) : TK (sga (c 1) (c 3) g) k := by
  unfold sga
  exact sg_in (N := c 1) (c 1) 0 0 (apc (c 1) (c 3) g) (by omega) hb (by omega) (PS_apc h) (fun j hj => absurd hj (by omega)) (fun z => absurd z (by omega)) k hk
section
variable {σ : mm_S} {tg : Nat → Nat × Nat} {ad : Nat × Nat → Nat} {c : Nat → Nat} {g : Nat → Nat → Int32}
theorem O_signed (w : WF tg ad c σ.2.1) (h : RI c g) {k q : Nat} (hk : k < c 1) (hq : q < 9) : CO1 σ tg ad c g 68 [.int (nI k), .int (nI q)] (.inl (some (.int (sv (sga (c 1) (c 3) g) k q)))) c (sga (c 1) (c 3) g) := CO_q w (c_68 w h.1 h.2.1 hk hq)
end
