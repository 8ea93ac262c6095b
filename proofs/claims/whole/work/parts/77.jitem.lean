/-! JOINT: item -/
section
variable {c : Nat → Nat} {g f : Nat → Nat → Int32}
theorem ri_r {I r : Nat} {k a b d : Int32} (h : ¬ (r = 13 ∨ r = 14 ∨ r = 15 ∨ r = 16 ∨ r = 17)) : ri f I k a b d r = f r := by
  unfold ri
  have e : uf (uf (uf (uf f 13 I k) 14 I a) 15 I b) 16 I d r = f r := by rw [uf_n (by omega), uf_n (by omega), uf_n (by omega), uf_n (by omega)]
  split
  · rw [uf_n (by omega)]; exact e
  · split
    · rw [uf_n (by omega)]; exact e
    · exact e
theorem ri_17 {I r : Nat} {k a b d : Int32} (h : r ≠ 17) : ri f I k a b d r = uf (uf (uf (uf f 13 I k) 14 I a) 15 I b) 16 I d r := by
  unfold ri
  split
  · rw [uf_n h]
  · split
    · rw [uf_n h]
    · rfl
theorem ri_13 {I : Nat} {k a b d : Int32} : ri f I k a b d 13 I = k := by rw [ri_17 (by decide), uf_n (by decide), uf_n (by decide), uf_n (by decide), ufat]
theorem ri_14 {I : Nat} {k a b d : Int32} : ri f I k a b d 14 I = a := by rw [ri_17 (by decide), uf_n (by decide), uf_n (by decide), ufat]
theorem ri_15 {I : Nat} {k a b d : Int32} : ri f I k a b d 15 I = b := by rw [ri_17 (by decide), uf_n (by decide), ufat]
theorem ri_16 {I : Nat} {k a b d : Int32} : ri f I k a b d 16 I = d := by rw [ri_17 (by decide), ufat]
theorem ri_o {I r j : Nat} {k a b d : Int32} (h : r ≠ 17) (hj : j ≠ I) : ri f I k a b d r j = f r j := by
  rw [ri_17 h]
  have u : ∀ (f : Nat → Nat → Int32) (a : Nat) (x : Int32), uf f a I x r j = f r j := by
    intro f a x
    unfold uf
    split
    · unfold upd; rename_i e; rw [if_neg hj]
    · rfl
  rw [u, u, u, u]
theorem RLi.LU (h : RLi c g f) : LU g (c 1) := by
  intro k hk z
  obtain ⟨e1, _, _, _, e5⟩ := h.1 k hk
  rw [e1] at z
  rw [e5 1 (by decide)]
  unfold tfm
  rw [if_neg (by rw [z]; decide), if_neg (by rw [z]; decide), if_pos z]
  rfl
theorem sp_rb (h : RLA c g f) {p : Int32} (hp : 0 ≤ p ∧ p < 4) : sp f p = rb g p (c 1) := by
  obtain ⟨l, hl, rfl⟩ := nI_below (n := 4) (by decide) hp.1 hp.2
  unfold sp
  rw [nI_clamp (by omega), h.2.1.2 l hl, rb_g h _ (Nat.le_refl _)]
theorem Fb_Pb (h : RLA c g f) (r : Int32) : Fb f r ↔ Pb g (c 1) r := by
  have s := h.2.1.2
  unfold Fb Pb
  rw [s 0 (by decide), s 1 (by decide), s 2 (by decide), s 3 (by decide), ← rb_g h (nI 0) (Nat.le_refl _), ← rb_g h (nI 1) (Nat.le_refl _), ← rb_g h (nI 2) (Nat.le_refl _), ← rb_g h (nI 3) (Nat.le_refl _)]
  show ((rb g 0 (c 1) = r ∨ rb g 1 (c 1) = r) ∨ rb g 2 (c 1) = r) ∨ rb g 3 (c 1) = r ↔ rb g 0 (c 1) = r ∨ rb g 1 (c 1) = r ∨ rb g 2 (c 1) = r ∨ rb g 3 (c 1) = r
  rw [or_assoc, or_assoc]
theorem Ls_Lm (h : RLA c g f) {k a b d : Int32} (hs : Hs c k a b d) : Ls g (c 1) k a b d ↔ Lm f k a b d := by
  obtain ⟨h0, h1, h4⟩ := hs
  unfold Ls Lm
  refine and_congr (forall_congr' fun z => ?_) (and_congr (forall_congr' fun z => ?_) (forall_congr' fun z => ?_))
  · rw [sp_rb h (h1 (Or.inl z)), Fb_Pb h]
  · rw [sp_rb h (h1 (Or.inr z))]
  · obtain ⟨_, hb, hd⟩ := h4 z
    rw [sp_rb h hb, sp_rb h hd]
theorem f7_h7 {x : Nat → Int32} (hx : SV x) : ∀ j, j < 7 → f7 (x 0) (x 1) (x 2) (x 3) (x 4) (x 5) (x 6) j = x j := by
  intro j hj
  have e : j = 0 ∨ j = 1 ∨ j = 2 ∨ j = 3 ∨ j = 4 ∨ j = 5 ∨ j = 6 := by omega
  rcases e with e | e | e | e | e | e | e <;> subst e
  · rfl
  · rfl
  · rfl
  · rfl
  · rfl
  · rfl
  · show (if x 5 = 2 then x 6 else -1) = x 6
    by_cases z : x 5 = 2
    · rw [if_pos z]
    · rw [if_neg z, hx.2 z]
/-- the hands told on both sides -/
theorem told (hb : BD c) (h : RLA c g f) {k a b d : Int32} (hs : Hs c k a b d) (hp : Ip k a b d) : ∃ x : Nat → Int32, (x 6 = if x 5 = 2 then x 6 else -1) ∧ (∀ j, j < 7 → x j = tfm (ri f (c 1) k a b d) (c 1) j) ∧ ∀ (σ : mm_S) tg ad, WF tg ad c σ.2.1 → LO (CW σ tg ad c g) → mm_M 47 [.ref 2, .int k, .int a, .int b, .int d] (CW σ tg ad c g) = some (.inl (some (.ref σ.2.1)), mm_new (CW σ tg ad c g) (.inl (1, l7 x)) 7) := by
  obtain ⟨h0, h1, h4⟩ := hs
  have r12 : ri f (c 1) k a b d 12 = f 12 := ri_r (by decide)
  have tf : tfm (ri f (c 1) k a b d) (c 1) = if k = 0 then h7 (f 12) a.toNatClampNeg else if k = 4 then upd (upd (h7 (f 12) a.toNatClampNeg) 1 (pl b)) 2 (pl d) else if k = 5 then f7 (a - a / 8 * 8) 4 4 (a / 8) (a / 8) 0 (-1) else f7 1 (pl a) (pl a) 0 0 0 (-1) := by
    unfold tfm
    rw [ri_13, ri_14, ri_15, ri_16, r12]
  rw [tf]
  have six : ∀ a b d e i j k : Int32, f7 a b d e i j k 6 = if f7 a b d e i j k 5 = 2 then f7 a b d e i j k 6 else -1 := fun a b d e i j k => by
    show (if j = 2 then k else -1) = if j = 2 then (if j = 2 then k else -1) else -1
    by_cases z : j = 2
    · rw [if_pos z, if_pos z]
    · rw [if_neg z, if_neg z]
  by_cases k0 : k = 0
  · obtain ⟨a1, a2⟩ := h0 k0
    by_cases big : c 0 < 2 ^ 31
    · obtain ⟨s, s1, rfl⟩ := inN big ⟨a1, a2⟩
      refine ⟨_, six (h7 (g 12) s 0) (h7 (g 12) s 1) (h7 (g 12) s 2) (h7 (g 12) s 3) (h7 (g 12) s 4) (h7 (g 12) s 5) (h7 (g 12) s 6), fun j hj => ?_, fun σ tg ad w hl => ?_⟩
      · rw [if_pos k0, nI_clamp (by omega), h.s s1 0 (by decide), h.s s1 1 (by decide), h.s s1 2 (by decide), h.s s1 3 (by decide), h.s s1 4 (by decide), h.s s1 5 (by decide), h.s s1 6 (by decide)]
        exact f7_h7 (h.1 s s1).2 j hj
      · rw [k0]
        exact c_47S w s1
    · refine ⟨f7 0 0 0 0 0 0 0, six _ _ _ _ _ _ _, fun j hj => ?_, fun σ tg ad w hl => ?_⟩
      · exact absurd hb.1 (by omega)
      · exact absurd hb.1 (by omega)
  rw [if_neg k0]
  by_cases k4 : k = 4
  · obtain ⟨⟨a1, a2⟩, hB, hD⟩ := h4 k4
    obtain ⟨s, s1, rfl⟩ := inN (by have := hb.1; omega) ⟨a1, a2⟩
    refine ⟨_, six (h7 (g 12) s 0) (pl b) (pl d) (h7 (g 12) s 3) (h7 (g 12) s 4) (h7 (g 12) s 5) (h7 (g 12) s 6), fun j hj => ?_, fun σ tg ad w hl => ?_⟩
    · rw [if_pos k4, nI_clamp (by have := hb.1; omega), h.s s1 0 (by decide), h.s s1 3 (by decide), h.s s1 4 (by decide), h.s s1 5 (by decide), h.s s1 6 (by decide)]
      have z := f7_h7 (h.1 s s1).2 j hj
      have e : j = 0 ∨ j = 1 ∨ j = 2 ∨ j = 3 ∨ j = 4 ∨ j = 5 ∨ j = 6 := by omega
      rcases e with e | e | e | e | e | e | e <;> subst e
      · exact z
      · rfl
      · rfl
      · exact z
      · exact z
      · exact z
      · exact z
    · rw [k4]
      exact c_47V w hl s1 hB hD
  rw [if_neg k4]
  by_cases k5 : k = 5
  · refine ⟨_, six (a - a / 8 * 8) 4 4 (a / 8) (a / 8) 0 (-1), fun j hj => by rw [if_pos k5], fun σ tg ad w hl => ?_⟩
    rw [k5]
    exact c_47L
  have k3 : k = 1 ∨ k = 2 ∨ k = 3 := by
    rcases hp with z | z | z | z | z | z
    · exact absurd z k0
    · exact Or.inr (Or.inl z)
    · exact Or.inr (Or.inr z)
    · exact Or.inl z.1
    · exact absurd z.1 k4
    · exact absurd z.1 k5
  refine ⟨_, six 1 (pl a) (pl a) 0 0 0 (-1), fun j hj => by rw [if_neg k5], fun σ tg ad w hl => c_47P hl k3 (h1 k3)⟩
theorem J_item (hb : BD c) (h : RLA c g f) (k a b d : Int32) : JS cdB 36 125 [.int k, .int a, .int b, .int d] c g f := by
  have hbd := hb
  obtain ⟨b0, b1, b2, b3, b4, b5⟩ := hb
  have Hd : ∀ dd : Nat → Nat, (∀ k, k < 5 → dd k = c k) → (Hs dd k a b d ↔ Hs c k a b d) := fun dd hd => by
    unfold Hs
    rw [hd 0 (by decide)]
  by_cases h1 : Hs c k a b d
  · by_cases h2 : Ip k a b d
    · by_cases h3 : Ls g (c 1) k a b d
      · have h3' := (Ls_Lm h h1).mp h3
        by_cases h4 : c 1 = 14
        · exact JS_x (e := 1) h (fun σ tg ad w hl => c_36c hl h1 h2 h4) (fun hb => RO_5 fun τ dd hd => c_125f (by rw [hd 1 (by decide)]; exact h4) (c_124d (by rw [hd 0 (by decide)]; exact b0) ((Hd dd hd).mpr h1) h2 h3')) rfl (by decide)
        · have hlt : c 1 < 14 := by omega
          obtain ⟨x, x6, xt, x47⟩ := told hbd h h1 h2
          intro σ tg ad w hl
          have hI : IN tg ad (mm_new σ (.inl (2, [.int 0, .int 0, .int 0, .null, .null, .int 0, .int 0, .int 0])) 8).2.1 := (w.2.up (Nat.le_succ _)).IN
          have wN : WF tg ad c (mm_new σ (.inl (2, [.int 0, .int 0, .int 0, .null, .null, .int 0, .int 0, .int 0])) 8).2.1 := w.up (Nat.le_succ _)
          have lN : LO (mm_new σ (.inl (2, [.int 0, .int 0, .int 0, .null, .null, .int 0, .int 0, .int 0])) 8) := by
            unfold LO at *
            have : 1 ≠ σ.2.1 := by have := w.2.2.2; omega
            exact (if_neg this).trans hl
          have c36 := c_36 (σ := σ) (g := g) w (LO_CW w hl) h1 h2 hlt h3 x6 (x47 _ tg ad wN (LO_CW wN lN))
          have uc : ∀ q, q ≠ 1 → u2 c 1 (c 1 + 1) q = c q := fun q hq => u2_n hq
          have rg : ∀ r', ¬ (r' = 13 ∨ r' = 14 ∨ r' = 15 ∨ r' = 33 ∨ r' = 34 ∨ r' = 35) → gi g (c 1) k a b x r' = g r' := fun r' z => gi_r (by omega)
          have r : ∀ r', ¬ (r' = 13 ∨ r' = 14 ∨ r' = 15 ∨ r' = 16 ∨ r' = 17) → ri f (c 1) k a b d r' = f r' := fun r' z => ri_r z
          have hka : k = 1 ∨ k = 3 → 0 ≤ a ∧ a < 4 := fun z => h1.2.1 (z.elim Or.inl (fun y => Or.inr (Or.inr y)))
          have hh := h
          obtain ⟨hs, hi, hf, hr, hcl, hm⟩ := h
          refine ⟨.inl (some (.int (nI (c 1 + 1)))), u2 c 1 (c 1 + 1), gi g (c 1) k a b x, nI (c 1 + 1), 0, ri f (c 1) k a b d, ⟨_, _, _, c36, w.add3 hlt rfl, ?_, ?_, ?_⟩, RO_k (by decide) fun τ dd hd => ?_, ⟨RLs_f hs (uc 0 (by decide)) (rg 12 (by decide)) (r 12 (by decide)), ⟨?_, ?_⟩, RLf_f hf (uc 2 (by decide)) ⟨rg 18 (by decide), rg 19 (by decide), rg 20 (by decide)⟩ ⟨r 18 (by decide), r 19 (by decide), r 20 (by decide)⟩, RLr_f hr (uc 3 (by decide)) ⟨rg 21 (by decide), rg 22 (by decide)⟩ ⟨r 21 (by decide), r 22 (by decide)⟩, RLc_f hcl ⟨uc 4 (by decide), fun q hq => uc q (by omega)⟩ ⟨rg 23 (by decide), rg 24 (by decide), rg 25 (by decide), rg 28 (by decide)⟩ ⟨r 23 (by decide), r 24 (by decide), r 25 (by decide), r 26 (by decide), r 27 (by decide), r 28 (by decide)⟩, RLm_f hbd.m hm ⟨uc 4 (by decide), fun q hq => uc q (by omega)⟩ ⟨rg 40 (by decide), rg 41 (by decide), rg 42 (by decide), rg 43 (by decide), rg 44 (by decide)⟩ ⟨r 23 (by decide), r 29 (by decide), r 30 (by decide), r 31 (by decide), r 32 (by decide)⟩⟩, Or.inl ⟨rfl, rfl⟩⟩
          · intro q q1 q2
            have h35 := w.2.2.2
            show (if q = σ.2.1 then _ else if q = σ.2.1 + 1 then _ else if q = σ.2.1 + 2 then _ else _) = _
            rw [if_neg (by omega), if_neg (by omega), if_neg (by omega)]
          · show σ.2.2.1 + 3 + 1 ≤ _; omega
          · show σ.2.2.2 + 22 + (2 * c 1 + 10) ≤ _; omega
          · have z := c_125 (σ := τ) (c := dd) (f := f) (by rw [hd 1 (by decide)]; exact hlt) hka (c_124d (by rw [hd 0 (by decide)]; exact b0) ((Hd dd hd).mpr h1) h2 h3')
            rw [hd 1 (by decide)] at z
            exact z
          · intro m hm
            rw [u2_s] at hm
            rw [uc 0 (by decide)]
            by_cases e : m = c 1
            · subst e
              rw [gi_13, gi_14, gi_15, ri_13, ri_14, ri_15]
              refine ⟨rfl, rfl, rfl, ?_, fun j hj => ?_⟩
              · unfold IV
                rw [ri_13, ri_14, ri_15, ri_16]
                obtain ⟨s0, s1, s4⟩ := h1
                rcases h2 with z | z | z | z | z | z
                · exact Or.inl ⟨z, inN (by omega) (s0 z)⟩
                · exact Or.inr (Or.inl ⟨Or.inr (Or.inl z), s1 (Or.inr (Or.inl z)), fun y => by rw [z] at y; exact absurd y (by decide)⟩)
                · exact Or.inr (Or.inl ⟨Or.inr (Or.inr z), s1 (Or.inr (Or.inr z)), fun y => by rw [z] at y; exact absurd y (by decide)⟩)
                · exact Or.inr (Or.inl ⟨Or.inl z.1, s1 (Or.inl z.1), fun _ => z.2⟩)
                · obtain ⟨y1, y2, y3⟩ := s4 z.1
                  exact Or.inr (Or.inr (Or.inl ⟨z.1, inN (by omega) y1, y2, y3⟩))
                · exact Or.inr (Or.inr (Or.inr z))
              · rw [gi_h (Or.inr rfl) hj]
                exact xt j hj
            · obtain ⟨y1, y2, y3, y4, y5⟩ := hi.1 m (by omega)
              rw [gi_o ⟨fun _ => e, fun z => by omega, fun z => by omega⟩, gi_o ⟨fun _ => e, fun z => by omega, fun z => by omega⟩, gi_o ⟨fun _ => e, fun z => by omega, fun z => by omega⟩, ri_o (by decide) e, ri_o (by decide) e, ri_o (by decide) e]
              refine ⟨y1, y2, y3, ?_, fun j hj => ?_⟩
              · unfold IV at *
                rw [ri_o (by decide) e, ri_o (by decide) e, ri_o (by decide) e, ri_o (by decide) e]
                exact y4
              · rw [gi_o ⟨fun z => by omega, fun z => by omega, fun z => by omega⟩, y5 j hj]
                unfold tfm
                rw [ri_o (by decide) e, ri_o (by decide) e, ri_o (by decide) e, ri_o (by decide) e, r 12 (by decide)]
          · intro l hl'
            rw [u2_s]
            have e0 : rb (ri f (c 1) k a b d) (nI l) (c 1) = f 17 l := by
              rw [hi.2 l hl']
              unfold rb
              refine up_cg (n := c 1) (fun m y hm => ?_) _ _ _ (by omega)
              unfold rs
              rw [ri_o (by decide) (by omega), ri_o (by decide) (by omega), ri_o (by decide) (by omega)]
            have e1 : rb (ri f (c 1) k a b d) (nI l) (c 1 + 1) = if k = 1 ∧ a = nI l then b else if k = 3 ∧ a = nI l then -1 else f 17 l := by
              show up (rs (ri f (c 1) k a b d) (nI l)) (c 1 + 1) 0 (-1) = _
              rw [up_last, Nat.zero_add]
              show rs (ri f (c 1) k a b d) (nI l) (c 1) (rb (ri f (c 1) k a b d) (nI l) (c 1)) = _
              rw [e0]
              unfold rs
              rw [ri_13, ri_14, ri_15]
            rw [e1]
            have f17 : ri f (c 1) k a b d 17 l = if k = 1 then (if l = a.toNatClampNeg then b else f 17 l) else if k = 3 then (if l = a.toNatClampNeg then -1 else f 17 l) else f 17 l := by
              unfold ri
              split
              · rw [uf_s]
                show (if l = a.toNatClampNeg then b else _) = _
                rw [uf_n (by decide), uf_n (by decide), uf_n (by decide), uf_n (by decide)]
              · split
                · rw [uf_s]
                  show (if l = a.toNatClampNeg then -1 else _) = _
                  rw [uf_n (by decide), uf_n (by decide), uf_n (by decide), uf_n (by decide)]
                · rw [uf_n (by decide), uf_n (by decide), uf_n (by decide), uf_n (by decide)]
            rw [f17]
            have key : k = 1 ∨ k = 3 → (a = nI l ↔ l = a.toNatClampNeg) := fun z => by
              obtain ⟨a', ha', rfl⟩ := nI_below (n := 4) (by decide) (hka z).1 (hka z).2
              rw [nI_clamp (by omega), nI_eq (by omega) (by omega)]
              exact ⟨fun y => y.symm, fun y => y.symm⟩
            by_cases k1 : k = 1
            · rw [if_pos k1]
              by_cases z : l = a.toNatClampNeg
              · rw [if_pos z, if_pos ⟨k1, (key (Or.inl k1)).mpr z⟩]
              · rw [if_neg z, if_neg (fun y => z ((key (Or.inl k1)).mp y.2)), if_neg (fun y => by rw [k1] at y; exact absurd y.1 (by decide))]
            · rw [if_neg k1, if_neg (show ¬ (k = 1 ∧ a = nI l) from fun y => k1 y.1)]
              by_cases k3 : k = 3
              · rw [if_pos k3]
                by_cases z : l = a.toNatClampNeg
                · rw [if_pos z, if_pos ⟨k3, (key (Or.inr k3)).mpr z⟩]
                · rw [if_neg z, if_neg (fun y => z ((key (Or.inr k3)).mp y.2))]
              · rw [if_neg k3, if_neg (show ¬ (k = 3 ∧ a = nI l) from fun y => k3 y.1)]
      · have h3' : ¬ Lm f k a b d := fun z => h3 ((Ls_Lm h h1).mpr z)
        have hR : BD c → RO c f 125 (.ref 11 :: [.int k, .int a, .int b, .int d]) 0 c 3 f := fun hb => RO_5 fun τ dd hd => c_125x (t := 3) (Or.inr (Or.inr rfl)) (c_124c (by rw [hd 0 (by decide)]; exact b0) ((Hd dd hd).mpr h1) h2 h3')
        by_cases h4 : c 1 = 14
        · exact JS_x (e := 1) h (fun σ tg ad w hl => c_36c hl h1 h2 h4) hR rfl (by decide)
        · exact JS_x (e := 1) h (fun σ tg ad w hl => c_36d w hl h1 h2 (by omega) h3) hR rfl (by decide)
    · exact JS_x (e := 0) h (fun σ tg ad w hl => c_36b hl h1 h2) (fun hb => RO_5 fun τ dd hd => c_125x (t := 2) (Or.inr (Or.inl rfl)) (c_124b (by rw [hd 0 (by decide)]; exact b0) ((Hd dd hd).mpr h1) h2)) rfl (by decide)
  · exact JS_x (e := 2) h (fun σ tg ad w hl => c_36a hl h1) (fun hb => RO_5 fun τ dd hd => c_125x (t := 1) (Or.inl rfl) (c_124a (by rw [hd 0 (by decide)]; exact b0) (fun z => h1 ((Hd dd hd).mp z)))) rfl (by decide)
end
