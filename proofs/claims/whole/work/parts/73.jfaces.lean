/-! JOINT: clear, faces, stands for, rules -/
theorem ar_am {x : Int32} (h : 0 ≤ x ∧ x < 4) : ar x = am x := by
  obtain ⟨k, hk, rfl⟩ := nI_below (n := 4) (by decide) h.1 h.2
  have : k = 0 ∨ k = 1 ∨ k = 2 ∨ k = 3 := by omega
  rcases this with e | e | e | e <;> subst e <;> decide
section
variable {c : Nat → Nat} {g f : Nat → Nat → Int32}
theorem J_clear (hb : BD c) (h : RLA c g f) (cd : Nat → Nat) : JS cd 37 126 [] c g f := by
  have hbd := hb
  intro σ tg ad w hl
  have uc : ∀ q, q ≠ 1 → q ≠ 2 → u2 (u2 c 1 0) 2 0 q = c q := fun q h1 h2 => by rw [u2_n h2, u2_n h1]
  have r : ∀ r', r' ≠ 17 → rc f r' = f r' := fun r' q => by unfold rc; rw [uf_n q, uf_n q, uf_n q, uf_n q]
  have r17 : ∀ l, l < 4 → rc f 17 l = -1 := fun l hl => by
    have : l = 0 ∨ l = 1 ∨ l = 2 ∨ l = 3 := by omega
    rcases this with e | e | e | e <;> subst e <;> (unfold rc; simp [uf, upd])
  obtain ⟨hs, hi, hf, hr, hcl, hm⟩ := h
  refine ⟨.inl (some (.int (nI (c 1)))), u2 (u2 c 1 0) 2 0, g, nI (c 1), 0, rc f, ⟨_, _, _, c_37 w, w.clr, ?_, ?_, ?_⟩, fun τ t => ?_, ⟨RLs_f hs (uc 0 (by decide) (by decide)) rfl (r 12 (by decide)), ?_, ?_, RLr_f hr (uc 3 (by decide) (by decide)) ⟨rfl, rfl⟩ ⟨r 21 (by decide), r 22 (by decide)⟩, RLc_f hcl ⟨uc 4 (by decide) (by decide), fun q hq => uc q (by omega) (by omega)⟩ ⟨rfl, rfl, rfl, rfl⟩ ⟨r 23 (by decide), r 24 (by decide), r 25 (by decide), r 26 (by decide), r 27 (by decide), r 28 (by decide)⟩, RLm_f (fun i hi => by have := (hbd.2.2.2.2.2 i hi).1; omega) hm ⟨uc 4 (by decide) (by decide), fun q hq => uc q (by omega) (by omega)⟩ ⟨rfl, rfl, rfl, rfl, rfl⟩ ⟨r 23 (by decide), r 29 (by decide), r 30 (by decide), r 31 (by decide), r 32 (by decide)⟩⟩, Or.inl ⟨rfl, rfl⟩⟩
  · intro a a1 a2
    exact CW_mid a2 (w.2.no (Or.inl a1))
  · show σ.2.2.1 ≤ _; omega
  · show σ.2.2.2 ≤ _; omega
  · rw [c_126, u5_1, u2_u2]
    refine congrArg some (Prod.ext rfl (MW_c fun k hk => ?_))
    unfold u2
    by_cases e2 : k = 2
    · subst e2; rfl
    · by_cases e1 : k = 1
      · subst e1; rfl
      · rw [if_neg e2, if_neg e1]
        by_cases e5 : k = 5
        · rw [if_pos e5, if_pos e5]
        · rw [if_neg e5, if_neg e5, if_neg e2, if_neg e1]
  · unfold RLi
    have e1 : u2 (u2 c 1 0) 2 0 1 = 0 := by rw [u2_n (by decide), u2_s]
    rw [e1]
    exact ⟨fun k hk => absurd hk (by omega), fun l hl => by rw [r17 l hl]; rfl⟩
  · unfold RLf
    rw [u2_s]
    exact fun k hk => absurd hk (by omega)
-- faces
theorem bc_bu (h : RLA c g f) {a p q : Int32} (ha : 0 ≤ a ∧ a < 4) {k : Nat} (hk : k < c 2) : bc g (ar a) p q k ↔ bu f a p q k := by
  obtain ⟨⟨x1, x2, x3⟩, x4, _⟩ := h.2.2.1 k hk
  unfold bc bu
  rw [x1, x2, x3, ar_am ha, ar_am x4]
theorem fi_cg {p p' : Nat → Prop} (d : DecidablePred p) (d' : DecidablePred p') {n : Nat} (h : ∀ k, k < n → (p k ↔ p' k)) : ∀ m k, k + m = n → @fi p d m k = @fi p' d' m k
  | 0, k, _ => rfl
  | m + 1, k, e => by
    unfold fi
    by_cases q : p k
    · rw [if_pd q, if_pd ((h k (by omega)).mp q)]
    · rw [if_nd q, if_nd (fun z => q ((h k (by omega)).mpr z))]
      exact fi_cg d d' h m (k + 1) (by omega)
theorem J_face (hb : BD c) (h : RLA c g f) (a p q : Int32) : JS cdB 38 128 [.int a, .int p, .int q] c g f := by
  have hbd := hb
  obtain ⟨b0, b1, b2, b3, b4, b5⟩ := hb
  have hx3 : (0 ≤ a ∧ a < 4) ↔ (0 ≤ a ∧ a ≤ 3) := bet (n := 3) (by decide)
  by_cases h1 : (0 ≤ p ∧ p < nI (c 1)) ∧ (0 ≤ q ∧ q < nI (c 1))
  · by_cases h2 : (0 ≤ a ∧ a < 4) ∧ p ≤ q
    · by_cases h3 : c 2 = 8
      · exact JS_x (e := 1) h (fun σ tg ad w hl => c_38c h3 h1.1 h1.2 h2.1 h2.2) (fun hb => RO_5 fun τ d hd => c_128c (by rw [hd 2 (by decide)]; exact h3) (by rw [hd 1 (by decide)]; exact b1) (by rw [hd 1 (by decide)]; exact h1.1) (by rw [hd 1 (by decide)]; exact h1.2) (hx3.mp h2.1) h2.2) rfl (by decide)
      · have hlt : c 2 < 8 := by omega
        have efi : @fi (bc g (ar a) p q) (bcd g (ar a) p q) (c 2) 0 = @fi (bu f a p q) (bud f a p q) (c 2) 0 := fi_cg _ _ (fun k hk => bc_bu h h2.1 hk) _ _ (by omega)
        by_cases h5 : (@fi (bc g (ar a) p q) (bcd g (ar a) p q) (c 2) 0).isSome = true
        · exact JS_x (e := 1) h (fun σ tg ad w hl => c_38d w hlt h1.1 h1.2 h2.1 h2.2 h5) (fun hb => RO_5 fun τ d hd => c_128d (by rw [hd 2 (by decide)]; exact hlt) (by rw [hd 1 (by decide)]; exact b1) (by rw [hd 1 (by decide)]; exact h1.1) (by rw [hd 1 (by decide)]; exact h1.2) (hx3.mp h2.1) h2.2 (by rw [hd 2 (by decide), ← efi]; exact h5)) rfl (by decide)
        · intro σ tg ad w hl
          have r : ∀ r', r' ≠ 18 → r' ≠ 19 → r' ≠ 20 → uf (uf (uf f 18 (c 2) a) 19 (c 2) p) 20 (c 2) q r' = f r' := fun r' y1 y2 y3 => by rw [uf_n y3, uf_n y2, uf_n y1]
          have rg : ∀ r', r' ≠ 18 → r' ≠ 19 → r' ≠ 20 → g3 g (c 2) a p q r' = g r' := fun r' y1 y2 y3 => g3_r ⟨y1, y2, y3⟩
          have uc : ∀ q, q ≠ 2 → u2 c 2 (c 2 + 1) q = c q := fun q hq => u2_n hq
          have fe : uf (uf (uf f 18 (c 2) a) 19 (c 2) p) 20 (c 2) q = g3 f (c 2) a p q := rfl
          obtain ⟨hs, hi, hf, hr, hcl, hm⟩ := h
          refine ⟨.inl (some (.int (nI (c 2 + 1)))), u2 c 2 (c 2 + 1), g3 g (c 2) a p q, nI (c 2 + 1), 0, uf (uf (uf f 18 (c 2) a) 19 (c 2) p) 20 (c 2) q, ⟨_, _, _, c_38 w hlt h1.1 h1.2 h2.1 h2.2 h5, w.addf hlt rfl, ?_, ?_, ?_⟩, RO_k (by decide) fun τ d hd => ?_, ⟨RLs_f hs (uc 0 (by decide)) (rg 12 (by decide) (by decide) (by decide)) (r 12 (by decide) (by decide) (by decide)), RLi_f hi ⟨uc 0 (by decide), uc 1 (by decide)⟩ ⟨rg 13 (by decide) (by decide) (by decide), rg 14 (by decide) (by decide) (by decide), rg 15 (by decide) (by decide) (by decide), rg 34 (by decide) (by decide) (by decide)⟩ ⟨r 12 (by decide) (by decide) (by decide), r 13 (by decide) (by decide) (by decide), r 14 (by decide) (by decide) (by decide), r 15 (by decide) (by decide) (by decide), r 16 (by decide) (by decide) (by decide), r 17 (by decide) (by decide) (by decide)⟩, ?_, RLr_f hr (uc 3 (by decide)) ⟨rg 21 (by decide) (by decide) (by decide), rg 22 (by decide) (by decide) (by decide)⟩ ⟨r 21 (by decide) (by decide) (by decide), r 22 (by decide) (by decide) (by decide)⟩, RLc_f hcl ⟨uc 4 (by decide), fun q hq => uc q (by omega)⟩ ⟨rg 23 (by decide) (by decide) (by decide), rg 24 (by decide) (by decide) (by decide), rg 25 (by decide) (by decide) (by decide), rg 28 (by decide) (by decide) (by decide)⟩ ⟨r 23 (by decide) (by decide) (by decide), r 24 (by decide) (by decide) (by decide), r 25 (by decide) (by decide) (by decide), r 26 (by decide) (by decide) (by decide), r 27 (by decide) (by decide) (by decide), r 28 (by decide) (by decide) (by decide)⟩, RLm_f (fun i hi => by have := (hbd.2.2.2.2.2 i hi).1; omega) hm ⟨uc 4 (by decide), fun q hq => uc q (by omega)⟩ ⟨rg 40 (by decide) (by decide) (by decide), rg 41 (by decide) (by decide) (by decide), rg 42 (by decide) (by decide) (by decide), rg 43 (by decide) (by decide) (by decide), rg 44 (by decide) (by decide) (by decide)⟩ ⟨r 23 (by decide) (by decide) (by decide), r 29 (by decide) (by decide) (by decide), r 30 (by decide) (by decide) (by decide), r 31 (by decide) (by decide) (by decide), r 32 (by decide) (by decide) (by decide)⟩⟩, Or.inl ⟨rfl, rfl⟩⟩
          · intro q q1 q2
            have : q ≠ σ.2.1 := by have := w.2.2.2; omega
            exact if_neg this
          · show σ.2.2.1 + 1 + 1 ≤ _; omega
          · show σ.2.2.2 + 3 + (2 * c 2 + 10) ≤ _; omega
          · have z := c_128 (σ := τ) (c := d) (f := f) (a := a) (p := p) (q := q) (by rw [hd 2 (by decide)]; exact hlt) (by rw [hd 1 (by decide)]; exact b1) (by rw [hd 1 (by decide)]; exact h1.1) (by rw [hd 1 (by decide)]; exact h1.2) (hx3.mp h2.1) h2.2 (by rw [hd 2 (by decide), ← efi]; exact h5)
            rw [hd 2 (by decide)] at z
            exact z
          · rw [fe]
            intro k hk
            rw [u2_s] at hk
            have hno : @fi (bu f a p q) (bud f a p q) (c 2) 0 = none := by
              rw [← efi]
              cases e : @fi (bc g (ar a) p q) (bcd g (ar a) p q) (c 2) 0 with
              | none => rfl
              | some x => rw [e] at h5; exact absurd rfl h5
            by_cases e : k = c 2
            · subst e
              rw [g3_18, g3_19, g3_20, g3_18, g3_19, g3_20]
              refine ⟨⟨rfl, rfl, rfl⟩, h2.1, ⟨h1.1.1, h2.2⟩, fun m hm ham => ?_⟩
              rw [g3_o (by omega)] at ham
              rw [g3_o (by omega), g3_o (by omega)]
              have nb := (fi_none _ (c 2) 0).mp hno m (by omega) (by omega)
              by_cases y : f 19 m ≤ q
              · left
                exact Int32.not_le.mp fun z => nb ⟨ham, y, z⟩
              · right
                exact Int32.not_le.mp y
            · obtain ⟨x1, x2, x3, x4⟩ := hf k (by omega)
              rw [g3_o e, g3_o e, g3_o e, g3_o e, g3_o e, g3_o e]
              refine ⟨x1, x2, x3, fun m hm => ?_⟩
              rw [g3_o (by omega), g3_o (by omega), g3_o (by omega)]
              exact x4 m hm
    · exact JS_x (e := 0) h (fun σ tg ad w hl => c_38b h1.1 h1.2 h2) (fun hb => RO_5 fun τ d hd => c_128b (by rw [hd 2 (by decide)]; exact b2) (by rw [hd 1 (by decide)]; exact b1) (by rw [hd 1 (by decide)]; exact h1.1) (by rw [hd 1 (by decide)]; exact h1.2) (fun z => h2 ⟨hx3.mpr z.1, z.2⟩)) rfl (by decide)
  · exact JS_x (e := 2) h (fun σ tg ad w hl => c_38a h1) (fun hb => RO_5 fun τ d hd => c_128a (by rw [hd 2 (by decide)]; exact b2) (by rw [hd 1 (by decide)]; exact b1) (by rw [hd 1 (by decide)]; exact h1)) rfl (by decide)
-- shown
theorem ov_n {i a : Int32} : ∀ m k o, up (ov f i a) m k o = none ↔ (o = none ∧ ∀ j, k ≤ j → j < k + m → ¬ (am (f 18 j) = a ∧ f 19 j ≤ i ∧ i ≤ f 20 j))
  | 0, k, o => ⟨fun z => ⟨z, fun j a b => absurd a (by omega)⟩, fun z => z.1⟩
  | m + 1, k, o => by
    show up (ov f i a) m (k + 1) (ov f i a k o) = none ↔ _
    rw [ov_n m (k + 1)]
    unfold ov
    by_cases q : am (f 18 k) = a ∧ f 19 k ≤ i ∧ i ≤ f 20 k
    · rw [if_pos q]
      exact ⟨fun z => absurd z.1 (fun y => by cases y), fun z => absurd q (z.2 k (Nat.le_refl _) (by omega))⟩
    · rw [if_neg q]
      refine and_congr_right fun _ => ⟨fun z j a b => ?_, fun z j a b => z j (by omega) (by omega)⟩
      by_cases e : j = k
      · subst e; exact q
      · exact z j (by omega) (by omega)
theorem ov_s {i a : Int32} : ∀ m k o x, up (ov f i a) m k o = some x → o = some x ∨ (k ≤ x ∧ x < k + m ∧ am (f 18 x) = a ∧ f 19 x ≤ i ∧ i ≤ f 20 x)
  | 0, k, o, x, h => Or.inl h
  | m + 1, k, o, x, h => by
    have h' : up (ov f i a) m (k + 1) (ov f i a k o) = some x := h
    rcases ov_s m (k + 1) _ x h' with q | q
    · unfold ov at q
      by_cases y : am (f 18 k) = a ∧ f 19 k ≤ i ∧ i ≤ f 20 k
      · rw [if_pos y] at q
        cases q
        exact Or.inr ⟨Nat.le_refl _, by omega, y⟩
      · rw [if_neg y] at q
        exact Or.inl q
    · exact Or.inr ⟨by omega, by omega, q.2.2⟩
theorem fv_ov (h : RLA c g f) (i a : Int32) : @fi (fv g i a) (fvd g i a) (c 2) 0 = ovv f (c 2) i a := by
  have hf := h.2.2.1
  have ev : ∀ k, k < c 2 → (fv g i a k ↔ (am (f 18 k) = a ∧ f 19 k ≤ i ∧ i ≤ f 20 k)) := fun k hk => by
    obtain ⟨⟨x1, x2, x3⟩, x4, _⟩ := hf k hk
    unfold fv
    rw [x1, x2, x3, ar_am x4]
  unfold ovv
  cases e : @fi (fv g i a) (fvd g i a) (c 2) 0 with
  | none =>
    refine ((ov_n (c 2) 0 none).mpr ⟨rfl, fun j a b z => ?_⟩).symm
    exact (fi_none _ (c 2) 0).mp e j (by omega) b ((ev j (by omega)).mpr z)
  | some x =>
    obtain ⟨_, x2, x3⟩ := fi_lt _ (c 2) 0 x e
    have x3 := (ev x (by omega)).mp x3
    cases e2 : up (ov f i a) (c 2) 0 none with
    | none => exact absurd x3 (((ov_n (c 2) 0 none).mp e2).2 x (by omega) (by omega))
    | some y =>
      rcases ov_s (c 2) 0 none y e2 with q | ⟨_, y2, y3⟩
      · cases q
      · have key : ∀ u v, u < v → v < c 2 → (am (f 18 u) = a ∧ f 19 u ≤ i ∧ i ≤ f 20 u) → (am (f 18 v) = a ∧ f 19 v ≤ i ∧ i ≤ f 20 v) → False := fun u v huv hv hu hw => by
          rcases (hf v hv).2.2.2 u huv (hu.1.trans hw.1.symm) with z | z
          · exact Int32.lt_irrefl (Int32.lt_of_lt_of_le z (Int32.le_trans hw.2.1 hu.2.2))
          · exact Int32.lt_irrefl (Int32.lt_of_lt_of_le z (Int32.le_trans hu.2.1 hw.2.2))
        have : x = y := by
          rcases Nat.lt_trichotomy x y with q | q | q
          · exact (key x y q (by omega) x3 y3).elim
          · exact q
          · exact (key y x q (by omega) y3 x3).elim
        rw [this]
theorem ff_fg (h : RLA c g f) (i a : Int32) : ff g (@fi (fv g i a) (fvd g i a) (c 2) 0) = fg f (ovv f (c 2) i a) ∧ (ff g (@fi (fv g i a) (fvd g i a) (c 2) 0) = -1 ↔ ovv f (c 2) i a = none) := by
  have hf := h.2.2.1
  have e := fv_ov h i a
  rw [e]
  cases q : ovv f (c 2) i a with
  | none => exact ⟨rfl, ⟨fun _ => rfl, fun _ => rfl⟩⟩
  | some x =>
    have hx : x < c 2 := by
      rw [q] at e
      have := fi_lt _ (c 2) 0 x e
      omega
    obtain ⟨⟨x1, _⟩, x4, _⟩ := hf x hx
    refine ⟨x1, ⟨fun z => ?_, fun z => by cases z⟩⟩
    have z' : g 18 x = -1 := z
    rw [x1] at z'
    rw [z'] at x4
    exact absurd x4.1 (by decide)
theorem fs_sa (h : RLA c g f) (a : Int32) : ∀ K, K < c 1 → fs g (c 2) a (K + 1) = fg f (ovv f (c 2) (nI (sa f (c 2) a K)) a)
  | 0, hK => by
    obtain ⟨e1, e2⟩ := ff_fg h (nI 0) a
    show (if ff g (@fi (fv g (nI 0) a) (fvd g (nI 0) a) (c 2) 0) = -1 then (if _ then -1 else -1) else ff g (@fi (fv g (nI 0) a) (fvd g (nI 0) a) (c 2) 0)) = fg f (ovv f (c 2) (nI 0) a)
    by_cases q : ff g (@fi (fv g (nI 0) a) (fvd g (nI 0) a) (c 2) 0) = -1
    · rw [if_pos q, e2.mp q]
      split <;> rfl
    · rw [if_neg q, e1]
  | K + 1, hK => by
    obtain ⟨e1, e2⟩ := ff_fg h (nI (K + 1)) a
    have ih := fs_sa h a K (by omega)
    have k13 : (g 13 (K + 1) = 1 ∨ g 13 (K + 1) = 2 ∨ g 13 (K + 1) = 3) ↔ (1 ≤ f 13 (K + 1) ∧ f 13 (K + 1) ≤ 3) := by
      rw [(h.2.1.1 (K + 1) hK).1]
      exact (pp_iff _).symm
    show (if ff g (@fi (fv g (nI (K + 1)) a) (fvd g (nI (K + 1)) a) (c 2) 0) = -1 then (if g 13 (K + 1) = 1 ∨ g 13 (K + 1) = 2 ∨ g 13 (K + 1) = 3 then fs g (c 2) a (K + 1) else -1) else ff g (@fi (fv g (nI (K + 1)) a) (fvd g (nI (K + 1)) a) (c 2) 0)) = fg f (ovv f (c 2) (nI (if ovv f (c 2) (nI (K + 1)) a = none ∧ (1 ≤ f 13 (K + 1) ∧ f 13 (K + 1) ≤ 3) then sa f (c 2) a K else K + 1)) a)
    by_cases q : ff g (@fi (fv g (nI (K + 1)) a) (fvd g (nI (K + 1)) a) (c 2) 0) = -1
    · rw [if_pos q]
      by_cases p : 1 ≤ f 13 (K + 1) ∧ f 13 (K + 1) ≤ 3
      · rw [if_pos (k13.mpr p), if_pos ⟨e2.mp q, p⟩, ih]
      · rw [if_neg (fun z => p (k13.mp z)), if_neg (fun z => p z.2), e2.mp q]
        rfl
    · rw [if_neg q, if_neg (fun z => q (e2.mpr z.1)), e1]
theorem J_shown (hb : BD c) (h : RLA c g f) (p a : Int32) : JS cdN 39 132 [.int p, .int a] c g f := by
  have hbd := hb
  obtain ⟨b0, b1, b2, b3, b4, b5⟩ := hb
  by_cases hp : 0 ≤ p ∧ p < nI (c 1)
  · by_cases hs : 0 ≤ a ∧ a < 3
    · obtain ⟨k, hk, rfl⟩ := inN (by omega) hp
      refine JS_q h (v := fg f (ovv f (c 2) (nI (sa f (c 2) a k)) a)) (fun σ tg ad w hl _ => ?_) (fun hb => RO_5 fun τ d hd => ?_)
      · rw [c_39 w hk hs, fs_sa h a k hk]
      · rw [← hd 2 (by decide)]
        exact c_132 (by rw [hd 2 (by decide)]; exact b2) (by rw [hd 1 (by decide)]; exact b1) (by rw [hd 1 (by decide)]; exact hk) ((bet (n := 2) (by decide)).mp hs)
    · exact JS_x (e := 0) h (fun σ tg ad w hl => c_39y hp hs) (fun hb => RO_5 fun τ d hd => c_132y (by rw [hd 1 (by decide)]; exact b1) (by rw [hd 1 (by decide)]; exact hp) (fun z => hs ((bet (n := 2) (by decide)).mpr z))) rfl (by decide)
  · exact JS_x (e := 2) h (fun σ tg ad w hl => c_39x hp) (fun hb => RO_5 fun τ d hd => c_132x (by rw [hd 1 (by decide)]; exact b1) (by rw [hd 1 (by decide)]; exact hp)) rfl (by decide)
theorem rb_g (h : RLA c g f) (p : Int32) {N : Nat} (hN : N ≤ c 1) : rb g p N = rb f p N := by
  unfold rb
  refine up_cg (n := N) (fun k x hk => ?_) _ _ _ (by omega)
  obtain ⟨e1, e2, e3, _⟩ := h.2.1.1 k (by omega)
  unfold rs
  rw [e1, e2, e3]
theorem J_stands (hb : BD c) (h : RLA c g f) (p a : Int32) : JS cdI 40 133 [.int p, .int a] c g f := by
  have hbd := hb
  obtain ⟨b0, b1, b2, b3, b4, b5⟩ := hb
  by_cases hp : 0 ≤ p ∧ p < nI (c 1)
  · by_cases hs : 0 ≤ a ∧ a < 4
    · obtain ⟨k, hk, rfl⟩ := inN (by omega) hp
      refine JS_q h (v := rb f a (k + 1)) (fun σ tg ad w hl _ => ?_) (fun hb => RO_5 fun τ d hd => ?_)
      · rw [c_40 w hl hk hs, rb_g h a hk]
      · exact c_133 (by rw [hd 1 (by decide)]; exact b1) (by rw [hd 1 (by decide)]; exact hk) hs
    · exact JS_x (e := 2) h (fun σ tg ad w hl => c_40y hl hp hs) (fun hb => RO_5 fun τ d hd => c_133x (by rw [hd 1 (by decide)]; exact b1) (fun z => hs z.2)) rfl (by decide)
  · exact JS_x (e := 2) h (fun σ tg ad w hl => c_40x hp) (fun hb => RO_5 fun τ d hd => c_133x (by rw [hd 1 (by decide)]; exact b1) (by rw [hd 1 (by decide)]; exact fun z => hp z.1)) rfl (by decide)
-- rules
theorem J_rule (hb : BD c) (h : RLA c g f) (a : Int32) : JS cdA 57 134 [.int a] c g f := by
  have hbd := hb
  obtain ⟨b0, b1, b2, b3, b4, b5⟩ := hb
  have hx : (0 ≤ a ∧ a < 5) ↔ (0 ≤ a ∧ a ≤ 4) := bet (n := 4) (by decide)
  by_cases h1 : 0 ≤ a ∧ a < 5
  · by_cases h3 : c 3 = 6
    · exact JS_x (e := 1) h (fun σ tg ad w hl => c_57b h1 h3) (fun hb => RO_5 fun τ d hd => c_134b (hx.mp h1) (by rw [hd 3 (by decide)]; exact h3)) rfl (by decide)
    · have hlt : c 3 < 6 := by omega
      intro σ tg ad w hl
      have r : ∀ r', r' ≠ 21 → r' ≠ 22 → uf (uf f 21 (c 3) a) 22 (c 3) 0 r' = f r' := fun r' y1 y2 => by rw [uf_n y2, uf_n y1]
      have rg : ∀ r', r' ≠ 21 → r' ≠ 22 → gr g (c 3) a r' = g r' := fun r' y1 y2 => gr_r ⟨y1, y2⟩
      have uc : ∀ q, q ≠ 3 → u2 c 3 (c 3 + 1) q = c q := fun q hq => u2_n hq
      obtain ⟨hs, hi, hf, hr, hcl, hm⟩ := h
      refine ⟨.inl (some (.int (nI (c 3)))), u2 c 3 (c 3 + 1), gr g (c 3) a, nI (c 3), 0, uf (uf f 21 (c 3) a) 22 (c 3) 0, ⟨_, _, _, c_57 w h1 hlt, w.addr hlt rfl, ?_, ?_, ?_⟩, RO_k (by decide) fun τ d hd => ?_, ⟨RLs_f hs (uc 0 (by decide)) (rg 12 (by decide) (by decide)) (r 12 (by decide) (by decide)), RLi_f hi ⟨uc 0 (by decide), uc 1 (by decide)⟩ ⟨rg 13 (by decide) (by decide), rg 14 (by decide) (by decide), rg 15 (by decide) (by decide), rg 34 (by decide) (by decide)⟩ ⟨r 12 (by decide) (by decide), r 13 (by decide) (by decide), r 14 (by decide) (by decide), r 15 (by decide) (by decide), r 16 (by decide) (by decide), r 17 (by decide) (by decide)⟩, RLf_f hf (uc 2 (by decide)) ⟨rg 18 (by decide) (by decide), rg 19 (by decide) (by decide), rg 20 (by decide) (by decide)⟩ ⟨r 18 (by decide) (by decide), r 19 (by decide) (by decide), r 20 (by decide) (by decide)⟩, ?_, RLc_f hcl ⟨uc 4 (by decide), fun q hq => uc q (by omega)⟩ ⟨rg 23 (by decide) (by decide), rg 24 (by decide) (by decide), rg 25 (by decide) (by decide), rg 28 (by decide) (by decide)⟩ ⟨r 23 (by decide) (by decide), r 24 (by decide) (by decide), r 25 (by decide) (by decide), r 26 (by decide) (by decide), r 27 (by decide) (by decide), r 28 (by decide) (by decide)⟩, RLm_f (fun i hi => by have := (hbd.2.2.2.2.2 i hi).1; omega) hm ⟨uc 4 (by decide), fun q hq => uc q (by omega)⟩ ⟨rg 40 (by decide) (by decide), rg 41 (by decide) (by decide), rg 42 (by decide) (by decide), rg 43 (by decide) (by decide), rg 44 (by decide) (by decide)⟩ ⟨r 23 (by decide) (by decide), r 29 (by decide) (by decide), r 30 (by decide) (by decide), r 31 (by decide) (by decide), r 32 (by decide) (by decide)⟩⟩, Or.inl ⟨rfl, rfl⟩⟩
      · intro q q1 q2
        have e1 : q ≠ σ.2.1 := by have := w.2.2.2; omega
        have e2 : q ≠ σ.2.1 + 1 := by have := w.2.2.2; omega
        show (if q = σ.2.1 then _ else if q = σ.2.1 + 1 then _ else _) = _
        rw [if_neg e1, if_neg e2]
      · show σ.2.2.1 + 2 + 1 ≤ _; omega
      · show σ.2.2.2 + 32 + (2 * c 3 + 10) ≤ _; omega
      · have z := c_134 (σ := τ) (c := d) (f := f) (hx.mp h1) (by rw [hd 3 (by decide)]; exact hlt)
        rw [hd 3 (by decide)] at z
        exact z
      · intro i hi
        rw [u2_s] at hi
        by_cases e : i = c 3
        · subst e
          refine ⟨?_, fun s hs => ?_⟩
          · rw [gr_21, uf_n (by decide), uf_s]
            exact (if_pos rfl).symm
          · rw [gr_22 hs, uf_s, show upd (uf f 21 (c 3) a 22) (c 3) 0 (c 3) = 0 from if_pos rfl, bit_1 _ (by omega), bt_z]
            exact ⟨fun z => absurd rfl z, fun z => by cases z⟩
        · obtain ⟨x1, x2⟩ := hr i (by omega)
          refine ⟨?_, fun s hs => ?_⟩
          · rw [gr_21o e, uf_n (by decide), uf_s]
            exact x1.trans (if_neg e).symm
          · rw [gr_22o e hs, uf_s, show upd (uf f 21 (c 3) a 22) (c 3) 0 i = f 22 i from (if_neg e).trans (by rw [uf_n (by decide)])]
            exact x2 s hs
  · exact JS_x (e := 0) h (fun σ tg ad w hl => c_57a h1) (fun hb => RO_5 fun τ d hd => c_134a (fun z => h1 (hx.mpr z))) rfl (by decide)
theorem J_except (hb : BD c) (h : RLA c g f) (a p : Int32) : JS cdI 58 135 [.int a, .int p] c g f := by
  have hbd := hb
  obtain ⟨b0, b1, b2, b3, b4, b5⟩ := hb
  by_cases h1 : 0 ≤ a ∧ a < nI (c 3)
  · by_cases h2 : 0 ≤ p ∧ p < nI (c 0)
    · obtain ⟨i, hi, rfl⟩ := inN (by omega) h1
      obtain ⟨s, hs, rfl⟩ := inN (by omega) h2
      obtain ⟨hss, hii, hf, hr, hcl, hm⟩ := h
      have x2 := (hr i hi).2
      have key : ∀ k, k < 30 → (bt (f 22 i ^^^ (1 <<< (nI s &&& 31))) k = true ↔ if k = s then g 22 (30 * i + k) = 0 else g 22 (30 * i + k) ≠ 0) := fun k hk => by
        have y := x2 k hk
        rw [bit_1 _ (by omega)] at y
        rw [bt_xor, bt_one (by omega) (by omega)]
        by_cases e : k = s
        · subst e
          rw [if_pos rfl]
          by_cases q : g 22 (30 * i + k) = 0
          · have : bt (f 22 i) k = false := by
              cases e : bt (f 22 i) k with
              | false => rfl
              | true => exact absurd q (y.mpr e)
            simp [this, q]
          · simp [y.mp q, q]
        · rw [if_neg e, y]
          simp [show ¬ s = k from fun z => e z.symm]
      have ev : (if ((f 22 i ^^^ (1 <<< (nI s &&& 31))) >>> (nI s &&& 31)) &&& 1 = 1 then (1 : Int32) else 0) = if g 22 (30 * i + s) = 0 then 1 else 0 := by
        have k1 := key s (by omega)
        rw [if_pos rfl] at k1
        by_cases q : g 22 (30 * i + s) = 0
        · rw [if_pos q, if_pos ((bit_1 _ (by omega)).mpr (k1.mpr q))]
        · rw [if_neg q, if_neg (fun z => q (k1.mp ((bit_1 _ (by omega)).mp z)))]
      have r : ∀ r', r' ≠ 22 → uf f 22 i (f 22 i ^^^ (1 <<< (nI s &&& 31))) r' = f r' := fun r' y => uf_n y
      have rg : ∀ (x : Int32) r', r' ≠ 22 → uf g 22 (30 * i + s) x r' = g r' := fun x r' y => uf_n y
      refine JS_q (v := if g 22 (30 * i + s) = 0 then 1 else 0) (g' := uf g 22 (30 * i + s) (if g 22 (30 * i + s) = 0 then 1 else 0)) (f' := uf f 22 i (f 22 i ^^^ (1 <<< (nI s &&& 31)))) ?_ (fun σ tg ad w hl _ => c_58 w hi hs) (fun hb => RO_5 fun τ d hd => ?_)
      · refine ⟨RLs_f hss rfl (rg _ 12 (by decide)) (r 12 (by decide)), RLi_f hii ⟨rfl, rfl⟩ ⟨rg _ 13 (by decide), rg _ 14 (by decide), rg _ 15 (by decide), rg _ 34 (by decide)⟩ ⟨r 12 (by decide), r 13 (by decide), r 14 (by decide), r 15 (by decide), r 16 (by decide), r 17 (by decide)⟩, RLf_f hf rfl ⟨rg _ 18 (by decide), rg _ 19 (by decide), rg _ 20 (by decide)⟩ ⟨r 18 (by decide), r 19 (by decide), r 20 (by decide)⟩, ?_, RLc_f hcl ⟨rfl, fun q hq => rfl⟩ ⟨rg _ 23 (by decide), rg _ 24 (by decide), rg _ 25 (by decide), rg _ 28 (by decide)⟩ ⟨r 23 (by decide), r 24 (by decide), r 25 (by decide), r 26 (by decide), r 27 (by decide), r 28 (by decide)⟩, RLm_f (fun i hi => by have := (hbd.2.2.2.2.2 i hi).1; omega) hm ⟨rfl, fun q hq => rfl⟩ ⟨rg _ 40 (by decide), rg _ 41 (by decide), rg _ 42 (by decide), rg _ 43 (by decide), rg _ 44 (by decide)⟩ ⟨r 23 (by decide), r 29 (by decide), r 30 (by decide), r 31 (by decide), r 32 (by decide)⟩⟩
        intro m hm
        obtain ⟨z1, z2⟩ := hr m hm
        refine ⟨by rw [rg _ 21 (by decide), r 21 (by decide)]; exact z1, fun k hk => ?_⟩
        rw [uf_s, uf_s]
        by_cases e : m = i
        · subst e
          rw [show upd (f 22) m (f 22 m ^^^ (1 <<< (nI s &&& 31))) m = f 22 m ^^^ (1 <<< (nI s &&& 31)) from if_pos rfl, bit_1 _ (by omega), key k hk]
          by_cases e2 : k = s
          · subst e2
            rw [if_pos rfl, show upd (g 22) (30 * m + k) (if g 22 (30 * m + k) = 0 then 1 else 0) (30 * m + k) = if g 22 (30 * m + k) = 0 then 1 else 0 from if_pos rfl]
            by_cases q : g 22 (30 * m + k) = 0
            · rw [if_pos q]; exact ⟨fun _ => q, fun _ => by decide⟩
            · rw [if_neg q]; exact ⟨fun z => absurd rfl z, fun z => absurd z q⟩
          · rw [if_neg e2, show upd (g 22) (30 * m + s) (if g 22 (30 * m + s) = 0 then 1 else 0) (30 * m + k) = g 22 (30 * m + k) from if_neg (by omega)]
        · rw [show upd (f 22) i (f 22 i ^^^ (1 <<< (nI s &&& 31))) m = f 22 m from if_neg e, show upd (g 22) (30 * i + s) (if g 22 (30 * i + s) = 0 then 1 else 0) (30 * m + k) = g 22 (30 * m + k) from if_neg (by omega)]
          exact z2 k hk
      · rw [← ev]
        exact c_135 (by rw [hd 0 (by decide)]; exact b0) (by rw [hd 3 (by decide)]; exact b3) (by rw [hd 3 (by decide)]; exact hi) (by rw [hd 0 (by decide)]; exact hs)
    · exact JS_x (e := 2) h (fun σ tg ad w hl => c_58y h1 h2) (fun hb => RO_5 fun τ d hd => c_135x (by rw [hd 0 (by decide)]; exact b0) (by rw [hd 3 (by decide)]; exact b3) (by rw [hd 0 (by decide)]; exact fun z => h2 z.2)) rfl (by decide)
  · exact JS_x (e := 2) h (fun σ tg ad w hl => c_58x h1) (fun hb => RO_5 fun τ d hd => c_135x (by rw [hd 0 (by decide)]; exact b0) (by rw [hd 3 (by decide)]; exact b3) (by rw [hd 3 (by decide)]; exact fun z => h1 z.1)) rfl (by decide)
end
