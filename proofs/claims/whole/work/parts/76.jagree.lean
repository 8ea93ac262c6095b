/-! JOINT: agree -/
section
variable {c : Nat → Nat} {g f g' f' : Nat → Nat → Int32}
theorem RLA_fr (hb : BD c) (h : RLA c g f) (rg : ∀ r, r ≠ 33 → r ≠ 35 → r ≠ 36 → r ≠ 37 → g' r = g r) (r : ∀ r, r ≠ 33 → f' r = f r) : RLA c g' f' := by
  obtain ⟨hs, hi, hff, hr, hcl, hm⟩ := h
  have rg : ∀ r, ¬ (r = 33 ∨ r = 35 ∨ r = 36 ∨ r = 37) → g' r = g r := fun r z => rg r (by omega) (by omega) (by omega) (by omega)
  exact ⟨RLs_f hs rfl (rg 12 (by decide)) (r 12 (by decide)), RLi_f hi ⟨rfl, rfl⟩ ⟨rg 13 (by decide), rg 14 (by decide), rg 15 (by decide), rg 34 (by decide)⟩ ⟨r 12 (by decide), r 13 (by decide), r 14 (by decide), r 15 (by decide), r 16 (by decide), r 17 (by decide)⟩, RLf_f hff rfl ⟨rg 18 (by decide), rg 19 (by decide), rg 20 (by decide)⟩ ⟨r 18 (by decide), r 19 (by decide), r 20 (by decide)⟩, RLr_f hr rfl ⟨rg 21 (by decide), rg 22 (by decide)⟩ ⟨r 21 (by decide), r 22 (by decide)⟩, RLc_f hcl ⟨rfl, fun _ _ => rfl⟩ ⟨rg 23 (by decide), rg 24 (by decide), rg 25 (by decide), rg 28 (by decide)⟩ ⟨r 23 (by decide), r 24 (by decide), r 25 (by decide), r 26 (by decide), r 27 (by decide), r 28 (by decide)⟩, RLm_f hb.m hm ⟨rfl, fun q hq => rfl⟩ ⟨rg 40 (by decide), rg 41 (by decide), rg 42 (by decide), rg 43 (by decide), rg 44 (by decide)⟩ ⟨r 23 (by decide), r 29 (by decide), r 30 (by decide), r 31 (by decide), r 32 (by decide)⟩⟩
theorem up_cg2 {α : Type} {s s' : Nat → α → α} : ∀ m k x, (∀ t y, k ≤ t → t < k + m → s t y = s' t y) → up s m k x = up s' m k x
  | 0, k, x, _ => rfl
  | m + 1, k, x, h => by
    show up s m (k + 1) (s k x) = up s' m (k + 1) (s' k x)
    rw [h k x (Nat.le_refl _) (by omega)]
    exact up_cg2 m (k + 1) _ (fun t y a b => h t y (by omega) (by omega))
theorem add1_inj {x y : Int32} : (x + 1 = y + 1) ↔ x = y := ⟨fun h => by
  have e := congrArg (fun z => z - 1) h
  simpa using e, fun h => by rw [h]⟩
/-- a value of a tick -/
def TV (x : Int32) : Prop := x = -1 ∨ ∃ v, v < 10 ∧ x = nI v
theorem TV_0 {x : Int32} (h : TV x) : (x + 1 ≤ 0) ↔ x = -1 := by
  rcases h with e | ⟨v, hv, e⟩
  · subst e; exact ⟨fun _ => rfl, fun _ => by decide⟩
  · subst e
    rw [nI_1]
    exact ⟨fun z => absurd z (show ¬ nI (v + 1) ≤ nI 0 from nI_ge (by omega) (by omega)), fun z => absurd z (nI_m1 (by omega))⟩
theorem TV_2 {x y : Int32} (hx : TV x) (hy : TV y) : ((x + 1) + (y + 1) ≤ 0) ↔ (x = -1 ∧ y = -1) := by
  have key : ∀ m n : Nat, m < 20 → n < 20 → ((nI m + nI n ≤ 0) ↔ (m = 0 ∧ n = 0)) := fun m n hm hn => by
    rw [nI_add]
    by_cases z : m + n = 0
    · have : m = 0 ∧ n = 0 := by omega
      rw [z]
      exact ⟨fun _ => this, fun _ => by decide⟩
    · exact ⟨fun w => absurd w (show ¬ nI (m + n) ≤ nI 0 from nI_ge (by omega) (by omega)), fun w => by omega⟩
  have e : ∀ x, TV x → ∃ m, m < 20 ∧ x + 1 = nI m ∧ (x = -1 ↔ m = 0) := fun x h => by
    rcases h with e | ⟨v, hv, e⟩
    · subst e; exact ⟨0, by decide, rfl, ⟨fun _ => rfl, fun _ => rfl⟩⟩
    · subst e
      exact ⟨v + 1, by omega, nI_1 v, ⟨fun z => absurd z (nI_m1 (by omega)), fun z => by omega⟩⟩
  obtain ⟨m, m1, m2, m3⟩ := e x hx
  obtain ⟨n, n1, n2, n3⟩ := e y hy
  rw [m2, n2, key m n m1 n1, m3, n3]
theorem agv_agm {G : Nat → Nat → Int32} {k a o b : Nat} {q : Int32} (hb : BD c) (h : RLA c g f) (hk : k < c 4) (hf : f 23 k = 0) (ha : a < 3) (ho : o < 3) (hb' : b < 4) (hq : 0 ≤ q ∧ q < 3) (rG : ∀ r, r ≠ 36 → r ≠ 37 → G r = g r) (h36 : ∀ t, t < 200 → G 36 t = wvt g k (c (100 + k)) (nI a) (nI b) t) (h37 : ∀ t, t < 200 → G 37 t = wvt g k (c (100 + k)) (nI o) (nI b) t) : agv G k (c (100 + k)) (nI a) (nI b) q = agm f (12 * k + 4 * a + b) (12 * k + 4 * o + b) (nm g k a b (c (100 + k))) q := by
  obtain ⟨h1, h2⟩ := h.2.2.2.2.2.1 k hk
  obtain ⟨y1, y2, y3⟩ := h2 hf a b ha hb'
  obtain ⟨x1, x2, x3⟩ := h2 hf o b ho hb'
  have b5 := (hb.2.2.2.2.2 k hk).1
  have T1 : ∀ t, t < 200 → f 29 (200 * (12 * k + 4 * a + b) + t) = G 36 t + 1 ∧ TV (G 36 t) := fun t ht => by
    rw [h36 t ht]; exact y3 t ht
  have T2 : ∀ t, t < 200 → f 29 (200 * (12 * k + 4 * o + b) + t) = G 37 t + 1 ∧ TV (G 37 t) := fun t ht => by
    rw [h37 t ht]; exact x3 t ht
  unfold agv agm
  by_cases q0 : q = 0
  · rw [if_pos q0, if_neg (by rw [q0]; decide)]
    refine up_cg (n := 200) (fun t n ht => ?_) _ _ _ (by omega)
    unfold cA cAm
    rw [if_pos q0, (T1 t ht).1, (T2 t ht).1]
    by_cases e : G 36 t = -1
    · rw [if_neg (fun z => z.1 e), if_pos ((TV_0 (T1 t ht).2).mpr e)]
      exact (Int32.add_zero n).symm
    · rw [if_neg (show ¬ G 36 t + 1 ≤ 0 from fun z => e ((TV_0 (T1 t ht).2).mp z))]
      by_cases e2 : G 36 t = G 37 t
      · rw [if_pos ⟨e, e2⟩, if_pos (add1_inj.mpr e2)]
      · rw [if_neg (fun z => e2 z.2), if_neg (fun z => e2 (add1_inj.mp z))]
        exact (Int32.add_zero n).symm
  · by_cases q1 : q = 1
    · rw [if_neg q0, if_pos q1, if_neg (by rw [q1]; decide)]
      refine up_cg (n := 200) (fun t n ht => ?_) _ _ _ (by omega)
      unfold cB cAm
      rw [if_neg q0, (T1 t ht).1, (T2 t ht).1]
      by_cases e : G 36 t = -1 ∧ G 37 t = -1
      · rw [if_neg (fun z => z.elim (fun y => y e.1) (fun y => y e.2)), if_pos ((TV_2 (T1 t ht).2 (T2 t ht).2).mpr e)]
        exact (Int32.add_zero n).symm
      · rw [if_neg (show ¬ G 36 t + 1 + (G 37 t + 1) ≤ 0 from fun z => e ((TV_2 (T1 t ht).2 (T2 t ht).2).mp z)), if_pos]
        by_cases z : G 36 t = -1
        · exact Or.inr (fun y => e ⟨z, y⟩)
        · exact Or.inl z
    · have q2 : q = 2 := by
        obtain ⟨q', hq', rfl⟩ := nI_below (n := 3) (by decide) hq.1 hq.2
        have : q' = 0 ∨ q' = 1 ∨ q' = 2 := by omega
        rcases this with e | e | e <;> subst e
        · exact absurd rfl q0
        · exact absurd rfl q1
        · rfl
      rw [if_neg q0, if_neg q1, if_pos q2]
      have key : ∀ m j, j + m = c (100 + k) → up (cS G k (nI a) (nI b)) m j (up (cSm f (12 * k + 4 * a + b) (12 * k + 4 * o + b)) (nm g k a b j) 0 0) = up (cSm f (12 * k + 4 * a + b) (12 * k + 4 * o + b)) (nm g k a b (j + m)) 0 0 := by
        intro m
        induction m with
        | zero => intro j _; rfl
        | succ m ih =>
          intro j hj
          show up (cS G k (nI a) (nI b)) m (j + 1) (cS G k (nI a) (nI b) j (up (cSm f (12 * k + 4 * a + b) (12 * k + 4 * o + b)) (nm g k a b j) 0 0)) = _
          have step : cS G k (nI a) (nI b) j (up (cSm f (12 * k + 4 * a + b) (12 * k + 4 * o + b)) (nm g k a b j) 0 0) = up (cSm f (12 * k + 4 * a + b) (12 * k + 4 * o + b)) (nm g k a b (j + 1)) 0 0 := by
            rw [nm_s]
            have G0 := rG 40 (by decide) (by decide)
            have G1 := rG 41 (by decide) (by decide)
            have G2 := rG 42 (by decide) (by decide)
            have G3 := rG 43 (by decide) (by decide)
            have G4 := rG 44 (by decide) (by decide)
            by_cases z : g 40 (1000 * k + j) = nI a ∧ g 41 (1000 * k + j) = nI b
            · rw [if_pos z, up_last, Nat.zero_add]
              generalize up (cSm f (12 * k + 4 * a + b) (12 * k + 4 * o + b)) (nm g k a b j) 0 0 = n0
              obtain ⟨w1, w2, w3⟩ := y2 j (by omega) z.1 z.2
              obtain ⟨a', b', x, y, v, _, _, hxy, hy, hv, _, _, e2, e3, e4⟩ := h1 j (by omega)
              have p1 : mp G k j = x := by unfold mp; rw [G2, e2, nI_clamp (by omega)]
              have p2 : mq G k j = y := by unfold mq; rw [G3, e3, nI_clamp (by omega)]
              have p3 : rp0 f (12 * k + 4 * a + b) (nm g k a b j) = x := by unfold rp0; rw [w1, e2, nI_clamp (by omega)]
              have p4 : rq0 f (12 * k + 4 * a + b) (nm g k a b j) = y := by unfold rq0; rw [w2, e3, nI_clamp (by omega)]
              have same : up (ct G 37 (G 44 (1000 * k + j))) (y - x) x 0 = up (smk f (12 * k + 4 * a + b) (12 * k + 4 * o + b)) (y - x) x 0 := by
                refine up_cg2 (y - x) x 0 (fun t n t1 t2 => ?_)
                have w := w3 t (by rw [mv_p e2 (by omega)]; exact t1) (by rw [mv_q e3 (by omega)]; omega)
                have ht : t < 200 := by omega
                rw [← h36 t ht] at w
                unfold ct smk
                rw [(T1 t ht).1, (T2 t ht).1, G4, w]
                by_cases e : G 37 t = g 44 (1000 * k + j)
                · rw [if_pos e, if_pos (by rw [e])]
                · rw [if_neg e, if_neg (fun y => e (add1_inj.mp y).symm)]
                  exact (Int32.add_zero n).symm
              unfold cS cSm
              rw [G0, G1, p1, p2, p3, p4, same, G2, G3, w1, w2]
              by_cases e : 2 * up (smk f (12 * k + 4 * a + b) (12 * k + 4 * o + b)) (y - x) x 0 ≤ g 43 (1000 * k + j) - g 42 (1000 * k + j)
              · rw [if_neg (fun y => y.2 e), if_pos e]
                exact (Int32.add_zero n0).symm
              · rw [if_pos ⟨z, e⟩, if_neg e]
            · rw [if_neg z]
              unfold cS
              rw [G0, G1, if_neg (fun y => z y.1)]
          rw [step, ih (j + 1) (by omega), show j + 1 + m = j + (m + 1) by omega]
      have z := key (c (100 + k)) 0 (by omega)
      rw [Nat.zero_add] at z
      exact z
theorem J_agree (hb : BD c) (h : RLA c g f) (x a o b q : Int32) : JS cdN 90 166 [.int x, .int a, .int o, .int b, .int q] c g f := by
  have hbd := hb
  obtain ⟨b0, b1, b2, b3, b4, b5⟩ := hb
  have c3 : ∀ a : Int32, (0 ≤ a ∧ a < 3) ↔ (0 ≤ a ∧ a ≤ 2) := fun a => bet (n := 2) (by decide)
  have c4 : ∀ a : Int32, (0 ≤ a ∧ a < 4) ↔ (0 ≤ a ∧ a ≤ 3) := fun a => bet (n := 3) (by decide)
  have hx : ((0 ≤ a ∧ a < 3) ∧ (0 ≤ o ∧ o < 3) ∧ (0 ≤ b ∧ b < 4)) ↔ (((0 ≤ a ∧ a ≤ 2) ∧ (0 ≤ b ∧ b ≤ 3)) ∧ ((0 ≤ o ∧ o ≤ 2) ∧ (0 ≤ b ∧ b ≤ 3))) := by
    rw [c3 a, c3 o, c4 b]
    exact ⟨fun z => ⟨⟨z.1, z.2.2⟩, ⟨z.2.1, z.2.2⟩⟩, fun z => ⟨z.1.1, z.2.1, z.1.2⟩⟩
  by_cases h1 : 0 ≤ x ∧ x < nI (c 4)
  · obtain ⟨k, hk, rfl⟩ := inN (by omega) h1
    obtain ⟨g1, _⟩ := h.2.2.2.2.1.1 k hk
    have hmk := h.2.2.2.2.2.1 k hk
    by_cases h2 : g 23 k = 0
    · have h2' : f 23 k = 0 := g1 ▸ h2
      by_cases h3 : (0 ≤ a ∧ a < 3) ∧ (0 ≤ o ∧ o < 3) ∧ (0 ≤ b ∧ b < 4)
      · by_cases h4 : 0 ≤ q ∧ q < 3
        · obtain ⟨a', ha, rfl⟩ := nI_below (n := 3) (by decide) h3.1.1 h3.1.2
          obtain ⟨o', ho, rfl⟩ := nI_below (n := 3) (by decide) h3.2.1.1 h3.2.1.2
          obtain ⟨b', hb', rfl⟩ := nI_below (n := 4) (by decide) h3.2.2.1 h3.2.2.2
          have hv : MV g c := by
            intro i hi m hm
            obtain ⟨_, _, p, q, _, _, _, hpq, hq, _, _, _, e2, e3, _⟩ := (h.2.2.2.2.2.1 i hi).1 m hm
            exact ⟨p, q, e2, e3, hpq, hq⟩
          intro σ tg ad w hl
          obtain ⟨G, z1, z2, z3, z4⟩ := c_90 (σ := σ) w hk h2 h3 h4 hv
          have e := agv_agm hbd h hk h2' ha ho hb' h4 z2 z3 z4
          rw [e] at z1
          refine ⟨_, c, G, _, 0, f, ⟨σ, tg, ad, z1, w, SB.rfl, by omega, by omega⟩, RO_5 fun τ d hd => c_166 (by rw [hd 4 (by decide)]; exact b4) (by rw [hd 4 (by decide)]; exact hk) h2' ha ho hb' ((c3 q).mp h4) (hmk.2 h2' a' b' ha hb').1, RLA_fr hbd h (fun r _ _ h6 h7 => z2 r h6 h7) (fun _ _ => rfl), Or.inl ⟨rfl, rfl⟩⟩
        · exact JS_x (e := 0) h (fun σ tg ad w hl => c_90d w hk h2 h3 h4) (fun hb => RO_5 fun τ d hd => c_166d (by rw [hd 4 (by decide)]; exact b4) (by rw [hd 4 (by decide)]; exact hk) h2' (hx.mp h3) (fun z => h4 ((c3 q).mpr z))) rfl (by decide)
      · exact JS_x (e := 2) h (fun σ tg ad w hl => c_90c w hk h2 h3) (fun hb => RO_5 fun τ d hd => c_166c (by rw [hd 4 (by decide)]; exact b4) (by rw [hd 4 (by decide)]; exact hk) h2' (fun z => h3 (hx.mpr z))) rfl (by decide)
    · have h2' : f 23 k ≠ 0 := g1 ▸ h2
      exact JS_x (e := 2) h (fun σ tg ad w hl => c_90b w hk h2) (fun hb => RO_5 fun τ d hd => c_166b (by rw [hd 4 (by decide)]; exact b4) (by rw [hd 4 (by decide)]; exact hk) h2') rfl (by decide)
  · exact JS_x (e := 2) h (fun σ tg ad w hl => c_90a h1) (fun hb => RO_5 fun τ d hd => c_166a (by rw [hd 4 (by decide)]; exact b4) (by rw [hd 4 (by decide)]; exact h1)) rfl (by decide)
end
