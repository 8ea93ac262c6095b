/-! JOINT: clips -/
section
variable {c : Nat → Nat} {g f : Nat → Nat → Int32}
theorem BD.m (hb : BD c) : ∀ i, i < c 4 → c (100 + i) ≤ 1000 := fun i hi => by have := (hb.2.2.2.2.2 i hi).1; omega
theorem bt_or64 {x y : Nat} (hx : x < 64) (hy : y < 64) : ∃ z, z < 64 ∧ nI x ||| nI y = nI z := nI_of_bits fun k h6 h32 => by rw [bt_or, bt_nI hx h6, bt_nI hy h6]; rfl
theorem one64 {p : Nat} (hp : p < 6) : ∃ z, z < 64 ∧ (1 : Int32) <<< (nI p &&& 31) = nI z := nI_of_bits fun k h6 h32 => by rw [bt_one (by omega) h32]; exact decide_eq_false (by omega)
theorem or_self' (x : Int32) : x ||| x = x := bt_ext fun k _ => by rw [bt_or]; cases bt x k <;> rfl
theorem or_zero' (x : Int32) : x ||| 0 = x := bt_ext fun k _ => by rw [bt_or, bt_z]; cases bt x k <;> rfl
/-- a new clip on both sides -/
theorem RLA_new (hb : BD c) (h : RLA c g f) (hlt : c 4 < 24) {a b x y : Int32} {X Y : Nat} (ha : ∃ z, z < 64 ∧ a = nI z) (hp : PQ X Y x y) (hX : X ≤ c 4) (hY : Y ≤ c 4) : RLA (u2 (cc c (c 4) X Y) 4 (c 4 + 1)) (gc g (c 4) a b) (rgc f (c 4) a b x y) := by
  obtain ⟨hs, hi, hf, hr, hcl, hm⟩ := h
  have r : ∀ r', ¬ (r' = 23 ∨ r' = 24 ∨ r' = 25 ∨ r' = 26 ∨ r' = 27) → rgc f (c 4) a b x y r' = f r' := fun r' q => by unfold rgc; rw [uf_n (by omega), uf_n (by omega), uf_n (by omega), uf_n (by omega), uf_n (by omega)]
  have rg : ∀ r', ¬ (r' = 23 ∨ r' = 24 ∨ r' = 25) → gc g (c 4) a b r' = g r' := fun r' q => gc_r (by omega)
  have uc : ∀ q, q < 100 → q ≠ 4 → u2 (cc c (c 4) X Y) 4 (c 4 + 1) q = c q := fun q h1 h2 => by rw [u2_n h2, cc_lo h1]
  have uh : ∀ q, 100 ≤ q → u2 (cc c (c 4) X Y) 4 (c 4 + 1) q = cc c (c 4) X Y q := fun q h1 => u2_n (by omega)
  have ro : ∀ r' k, k ≠ c 4 → rgc f (c 4) a b x y r' k = f r' k := fun r' k hk => by
    have u : ∀ (F : Nat → Nat → Int32) (a : Nat) (x : Int32), uf F a (c 4) x r' k = F r' k := by
      intro F a x
      unfold uf
      split
      · unfold upd; rw [if_neg hk]
      · rfl
    unfold rgc
    rw [u, u, u, u, u]
  have f23 : rgc f (c 4) a b x y 23 (c 4) = 0 := ufat
  have f24 : rgc f (c 4) a b x y 24 (c 4) = a := by unfold rgc; rw [uf_n (by decide), uf_n (by decide), uf_n (by decide), uf_n (by decide), ufat]
  have f25 : rgc f (c 4) a b x y 25 (c 4) = b := by unfold rgc; rw [uf_n (by decide), uf_n (by decide), uf_n (by decide), ufat]
  have f26 : rgc f (c 4) a b x y 26 (c 4) = x := by unfold rgc; rw [uf_n (by decide), uf_n (by decide), ufat]
  have f27 : rgc f (c 4) a b x y 27 (c 4) = y := by unfold rgc; rw [uf_n (by decide), ufat]
  refine ⟨RLs_f hs (uc 0 (by decide) (by decide)) (rg 12 (by decide)) (r 12 (by decide)), RLi_f hi ⟨uc 0 (by decide) (by decide), uc 1 (by decide) (by decide)⟩ ⟨rg 13 (by decide), rg 14 (by decide), rg 15 (by decide), rg 34 (by decide)⟩ ⟨r 12 (by decide), r 13 (by decide), r 14 (by decide), r 15 (by decide), r 16 (by decide), r 17 (by decide)⟩, RLf_f hf (uc 2 (by decide) (by decide)) ⟨rg 18 (by decide), rg 19 (by decide), rg 20 (by decide)⟩ ⟨r 18 (by decide), r 19 (by decide), r 20 (by decide)⟩, RLr_f hr (uc 3 (by decide) (by decide)) ⟨rg 21 (by decide), rg 22 (by decide)⟩ ⟨r 21 (by decide), r 22 (by decide)⟩, ⟨?_, ?_⟩, ?_, ?_⟩
  · intro k hk
    rw [u2_s] at hk
    rw [uh _ (by omega), uh _ (by omega)]
    by_cases e : k = c 4
    · subst e
      rw [gc_23, gc_24, gc_25, f23, f24, f25, f26, f27, cc_2 hlt, cc_3]
      exact ⟨rfl, rfl, rfl, ha, hp, hX, hY⟩
    · obtain ⟨q1, q2, q3⟩ := cc_o (c := c) (x := X) (y := Y) e (by omega) hlt
      rw [q2, q3, gc_o e, gc_o e, gc_o e, ro _ _ e, ro _ _ e, ro _ _ e, ro _ _ e, ro _ _ e]
      exact hcl.1 k (by omega)
  · rw [rg 28 (by decide), r 28 (by decide)]
    exact hcl.2
  · intro i hi
    rw [u2_s] at hi
    rw [uh _ (by omega)]
    by_cases e : i = c 4
    · subst e
      rw [cc_1 hlt]
      refine ⟨fun m hm => absurd hm (by omega), fun _ A B hA hB => ?_⟩
      obtain ⟨z1, z2⟩ := hm.2 (c 4) (Nat.le_refl _) hlt A B hA hB
      refine ⟨⟨Nat.zero_le _, ?_, fun m hm => absurd hm (by show ¬ m < 0; omega)⟩, fun m hm => absurd hm (by omega), fun t ht => ?_⟩
      · rw [r 30 (by decide)]
        exact z1
      · rw [r 29 (by decide), z2 t ht]
        exact ⟨show (0 : Int32) = -1 + 1 by decide, Or.inl rfl⟩
    · obtain ⟨q1, q2, q3⟩ := cc_o (c := c) (x := X) (y := Y) e (by omega) hlt
      rw [q1]
      exact RM1_p (hb.m i (by omega)) (fun m hm => ⟨by rw [rg 40 (by decide)], by rw [rg 41 (by decide)], by rw [rg 42 (by decide)], by rw [rg 43 (by decide)], by rw [rg 44 (by decide)]⟩) (ro _ _ e) (fun A B hA hB => ⟨by rw [r 30 (by decide)], fun m hm => ⟨by rw [r 31 (by decide)], by rw [r 32 (by decide)]⟩, fun t ht => by rw [r 29 (by decide)]⟩) (hm.1 i (by omega))
  · intro i h1 h2
    rw [u2_s] at h1
    rw [r 30 (by decide), r 29 (by decide)]
    exact hm.2 i (by omega) h2
theorem SBn {σ : mm_S} {fs : List Value} {x y : Nat} (h : 35 ≤ σ.2.1) : SB σ (mm_bmp (C2 σ fs) x y) := by
  intro q q1 q2
  show (if q = σ.2.1 then _ else if q = σ.2.1 + 1 then _ else _) = _
  rw [if_neg (by omega), if_neg (by omega)]
theorem J_take (hb : BD c) (h : RLA c g f) (p : Int32) : JS cdT 84 157 [.int p] c g f := by
  have hbd := hb
  obtain ⟨b0, b1, b2, b3, b4, b5⟩ := hb
  have hx : (0 ≤ p ∧ p < 6) ↔ (0 ≤ p ∧ p ≤ 5) := bet (n := 5) (by decide)
  by_cases h1 : 0 ≤ p ∧ p < 6
  · by_cases h3 : c 4 = 24
    · exact JS_x (e := 1) h (fun σ tg ad w hl => c_84y h1 h3) (fun hb => RO_5 fun τ d hd => c_157y (hx.mp h1) (by rw [hd 4 (by decide)]; exact h3)) rfl (by decide)
    · have hlt : c 4 < 24 := by omega
      intro σ tg ad w hl
      have ha : ∃ z, z < 64 ∧ (1 : Int32) <<< (p &&& 31) = nI z := by
        obtain ⟨k, hk, rfl⟩ := nI_below (n := 6) (by decide) h1.1 h1.2
        exact one64 hk
      refine ⟨.inl (some (.int (nI (c 4)))), u2 (cc c (c 4) 0 0) 4 (c 4 + 1), gc g (c 4) (1 <<< (p &&& 31)) (-1), nI (c 4), 0, rgc f (c 4) (1 <<< (p &&& 31)) (-1) (-1) (-1), ⟨_, _, _, c_84 w h1 hlt, w.addc hlt (Nat.zero_le _) (Nat.zero_le _) rfl, SBn w.2.2.2, ?_, ?_⟩, RO_c (RO_k (j := 4) (n := c 4 + 1) (by decide) fun τ d hd => ?_) (fun k hk => ?_), RLA_new hbd h hlt ha (Or.inl ⟨rfl, rfl, rfl, rfl⟩) (Nat.zero_le _) (Nat.zero_le _), Or.inl ⟨rfl, rfl⟩⟩
      · show σ.2.2.1 + 2 + 1 ≤ _; omega
      · show σ.2.2.2 + 9 + (2 * c 4 + 10) ≤ _; omega
      · have z := c_157 (σ := τ) (c := d) (f := f) (hx.mp h1) (by rw [hd 4 (by decide)]; exact hlt)
        rw [hd 4 (by decide)] at z
        exact z
      · unfold u2
        split
        · rfl
        · exact cc_lo (by omega)
  · exact JS_x (e := 2) h (fun σ tg ad w hl => c_84x h1) (fun hb => RO_5 fun τ d hd => c_157x (fun z => h1 (hx.mpr z))) rfl (by decide)
-- make
theorem alw_i {q P : Int32} : ∀ m k (x : Int32), x = 0 ∨ x = 1 → (up (alw f q P) m k x ≠ 0 ↔ (x ≠ 0 ∧ ∀ j, k ≤ j → j < k + m → ((P >>> (nI j &&& 31)) &&& 1 = 0 ∨ (f 28 j >>> (q &&& 31)) &&& 1 = 1)))
  | 0, k, x, _ => ⟨fun z => ⟨z, fun j a b => absurd a (by omega)⟩, fun z => z.1⟩
  | m + 1, k, x, hx => by
    show up (alw f q P) m (k + 1) (alw f q P k x) ≠ 0 ↔ _
    have e : alw f q P k x = 0 ∨ alw f q P k x = 1 := by
      unfold alw bz
      rcases hx with e | e <;> subst e <;> split <;> decide
    rw [alw_i m (k + 1) _ e]
    have e2 : alw f q P k x ≠ 0 ↔ (x ≠ 0 ∧ ((P >>> (nI k &&& 31)) &&& 1 = 0 ∨ (f 28 k >>> (q &&& 31)) &&& 1 = 1)) := by
      unfold alw bz
      by_cases z : (P >>> (nI k &&& 31)) &&& 1 = 0 ∨ (f 28 k >>> (q &&& 31)) &&& 1 = 1
      · rw [if_pos z]
        rcases hx with e | e <;> subst e
        · exact ⟨fun y => absurd (by decide) y, fun y => absurd rfl y.1⟩
        · exact ⟨fun _ => ⟨by decide, z⟩, fun _ => by decide⟩
      · rw [if_neg z]
        rcases hx with e | e <;> subst e
        · exact ⟨fun y => absurd (by decide) y, fun y => absurd rfl y.1⟩
        · exact ⟨fun y => absurd (by decide) y, fun y => absurd y.2 z⟩
    rw [e2]
    constructor
    · rintro ⟨⟨y1, y2⟩, y3⟩
      refine ⟨y1, fun j a b => ?_⟩
      by_cases e : j = k
      · subst e; exact y2
      · exact y3 j (by omega) (by omega)
    · rintro ⟨y1, y3⟩
      exact ⟨⟨y1, y3 k (Nat.le_refl _) (by omega)⟩, fun j a b => y3 j (by omega) (by omega)⟩
theorem and_0 {x : Nat} {R : Int32} (hx : x < 64) : (nI x &&& R = 0) ↔ ∀ j, j < 6 → (bt (nI x) j = false ∨ bt R j = false) := by
  constructor
  · intro e j hj
    have : bt (nI x &&& R) j = false := by rw [e, bt_z]
    rw [bt_and] at this
    cases h1 : bt (nI x) j
    · exact Or.inl rfl
    · rw [h1] at this; exact Or.inr this
  · intro h
    apply bt_ext
    intro k hk
    rw [bt_and, bt_z]
    by_cases h6 : k < 6
    · rcases h k h6 with e | e <;> rw [e]
      · rfl
      · cases bt (nI x) k <;> rfl
    · rw [bt_nI hx (by omega)]; rfl
theorem J_make (hb : BD c) (h : RLA c g f) (q p o : Int32) : JS cdB 85 158 [.int q, .int p, .int o] c g f := by
  have hbd := hb
  obtain ⟨b0, b1, b2, b3, b4, b5⟩ := hb
  have hcl := h.2.2.2.2.1
  have hx : (0 ≤ q ∧ q < 3) ↔ (0 ≤ q ∧ q ≤ 2) := bet (n := 2) (by decide)
  by_cases h1 : 0 ≤ p ∧ p < nI (c 4)
  · obtain ⟨k, hk, rfl⟩ := inN (by omega) h1
    obtain ⟨g1, g2, g3, ⟨X, hX, gX⟩, g5, g6, g7⟩ := hcl.1 k hk
    by_cases h2 : g 23 k = 0
    · have h2' : f 23 k = 0 := g1 ▸ h2
      -- the other clip
      by_cases ho : ∃ m, OC c g k o m
      · obtain ⟨m, ho⟩ := ho
        have hm : m < c 4 := by
          rcases ho with ⟨_, rfl⟩ | ⟨_, hm, _⟩
          · exact hk
          · exact hm
        obtain ⟨m1, m2, m3, ⟨Y, hY, mY⟩, m5, m6, m7⟩ := hcl.1 m hm
        have ho' : OC c f k o m := by
          rcases ho with y | ⟨y1, y2, y3⟩
          · exact Or.inl y
          · exact Or.inr ⟨y1, y2, m1 ▸ y3⟩
        by_cases h3 : 0 ≤ q ∧ q < 3
        · by_cases h4 : c 4 = 24
          · exact JS_x (e := 1) h (fun σ tg ad w hl => c_85f w hk h2 ho h3 h4) (fun hb => RO_5 fun τ d hd => c_158f (by rw [hd 4 (by decide)]; exact hk) h2' (by unfold OC; rw [hd 4 (by decide)]; exact ho') (hx.mp h3) (by rw [hd 4 (by decide)]; exact h4)) rfl (by decide)
          · have hlt : c 4 < 24 := by omega
            obtain ⟨q', hq', rfl⟩ := nI_below (n := 3) (by decide) h3.1 h3.2
            have ep : rpe f k o m = g 24 k ||| g 24 m := by
              unfold rpe
              rw [g2, m2]
              rcases ho with ⟨y1, y2⟩ | ⟨y1, y2, y3⟩
              · subst y2
                rw [if_pos y1, or_self', or_zero']
              · rw [if_neg (by rw [y1]; exact nI_m1 (by omega))]
            obtain ⟨Z, hZ, eZ⟩ := bt_or64 hX hY
            have eP : g 24 k ||| g 24 m = nI Z := by rw [g2, m2, gX, mY, eZ]
            obtain ⟨_, rel⟩ := hcl.2 q' hq'
            have key : (g 24 k ||| g 24 m) &&& g 28 q' = 0 ↔ up (alw f (nI q') (rpe f k o m)) 6 0 1 ≠ 0 := by
              rw [alw_i 6 0 1 (Or.inr rfl), ep, eP, and_0 hZ]
              have one : (1 : Int32) ≠ 0 := by decide
              constructor
              · intro y
                refine ⟨one, fun j _ hj => ?_⟩
                rcases y j (by omega) with y | y
                · exact Or.inl ((bit_0 _ (by omega)).mpr y)
                · right
                  have z := rel j (by omega)
                  rw [bit_1 _ (by omega), bit_0 _ (by omega)] at z
                  rw [bit_1 _ (by omega)]
                  cases e : bt (f 28 j) q'
                  · rw [z.mpr e] at y; cases y
                  · rfl
              · rintro ⟨_, y⟩ j hj
                rcases y j (by omega) (by omega) with y | y
                · exact Or.inl ((bit_0 _ (by omega)).mp y)
                · right
                  have z := rel j (by omega)
                  rw [bit_1 _ (by omega), bit_0 _ (by omega)] at z
                  rw [bit_1 _ (by omega)] at y
                  cases e : bt (g 28 q') j
                  · rfl
                  · rw [z.mp e] at y; cases y
            by_cases h5 : (g 24 k ||| g 24 m) &&& g 28 q' = 0
            · intro σ tg ad w hl
              have hp : PQ (k + 1) (m + 1) (nI k) o := by
                refine Or.inr ⟨k, m, rfl, rfl, rfl, ?_⟩
                rcases ho with ⟨y1, y2⟩ | ⟨y1, y2, y3⟩
                · exact Or.inr ⟨y1, y2⟩
                · exact Or.inl y1
              refine ⟨.inl (some (.int (nI (c 4)))), u2 (cc c (c 4) (k + 1) (m + 1)) 4 (c 4 + 1), gc g (c 4) (g 24 k ||| g 24 m) (nI q'), nI (c 4), 0, rgc f (c 4) (g 24 k ||| g 24 m) (nI q') (nI k) o, ⟨_, _, _, c_85 w hk h2 ho hq' hlt h5, w.addc hlt (by omega) (by omega) rfl, SBn w.2.2.2, ?_, ?_⟩, RO_c (RO_k (j := 4) (n := c 4 + 1) (by decide) fun τ d hd => ?_) (fun k hk => ?_), RLA_new hbd h hlt ⟨Z, hZ, eP⟩ hp (by omega) (by omega), Or.inl ⟨rfl, rfl⟩⟩
              · show σ.2.2.1 + 2 + 1 ≤ _; omega
              · show σ.2.2.2 + 9 + (2 * c 4 + 10) ≤ _; omega
              · have z := c_158 (σ := τ) (c := d) (f := f) (by rw [hd 4 (by decide)]; exact hk) h2' (by unfold OC; rw [hd 4 (by decide)]; exact ho') (hx.mp h3) (by rw [hd 4 (by decide)]; exact hlt) (key.mp h5)
                rw [hd 4 (by decide), ep] at z
                exact z
              · unfold u2
                split
                · rfl
                · exact cc_lo (by omega)
            · exact JS_x (e := 1) h (fun σ tg ad w hl => c_85g w hk h2 ho hq' hlt h5) (fun hb => RO_5 fun τ d hd => c_158g (by rw [hd 4 (by decide)]; exact hk) h2' (by unfold OC; rw [hd 4 (by decide)]; exact ho') (hx.mp h3) (by rw [hd 4 (by decide)]; exact hlt) (Classical.byContradiction fun y => h5 (key.mpr y))) rfl (by decide)
        · exact JS_x (e := 0) h (fun σ tg ad w hl => c_85e w hk h2 ho h3) (fun hb => RO_5 fun τ d hd => c_158e (by rw [hd 4 (by decide)]; exact b4) (by rw [hd 4 (by decide)]; exact hk) h2' (by unfold OC; rw [hd 4 (by decide)]; exact ho') (fun z => h3 (hx.mpr z))) rfl (by decide)
      · have ho1 : o ≠ -1 := fun z => ho ⟨k, Or.inl ⟨z, rfl⟩⟩
        by_cases h3 : 0 ≤ o ∧ o < nI (c 4)
        · obtain ⟨m, hm, rfl⟩ := inN (by omega) h3
          have hg : g 23 m ≠ 0 := fun z => ho ⟨m, Or.inr ⟨rfl, hm, z⟩⟩
          have hg' : f 23 m ≠ 0 := (hcl.1 m hm).1 ▸ hg
          exact JS_x (e := 2) h (fun σ tg ad w hl => c_85d w hk h2 hm hg) (fun hb => RO_5 fun τ d hd => c_158d (by rw [hd 4 (by decide)]; exact b4) (by rw [hd 4 (by decide)]; exact hk) h2' (by rw [hd 4 (by decide)]; exact hm) hg') rfl (by decide)
        · exact JS_x (e := 2) h (fun σ tg ad w hl => c_85c w hk h2 ho1 h3) (fun hb => RO_5 fun τ d hd => c_158c (by rw [hd 4 (by decide)]; exact b4) (by rw [hd 4 (by decide)]; exact hk) h2' ho1 (by rw [hd 4 (by decide)]; exact h3)) rfl (by decide)
    · have h2' : f 23 k ≠ 0 := g1 ▸ h2
      exact JS_x (e := 2) h (fun σ tg ad w hl => c_85b w hk h2) (fun hb => RO_5 fun τ d hd => c_158b (by rw [hd 4 (by decide)]; exact b4) (by rw [hd 4 (by decide)]; exact hk) h2') rfl (by decide)
  · exact JS_x (e := 2) h (fun σ tg ad w hl => c_85a h1) (fun hb => RO_5 fun τ d hd => c_158a (by rw [hd 4 (by decide)]; exact b4) (by rw [hd 4 (by decide)]; exact h1)) rfl (by decide)
-- letting go
theorem lgc_rgo (hb : BD c) (h : RLA c g f) {k : Nat} (hk : k < c 4) (p q : Int32) : lgc p q c g k ↔ rgo p q f k := by
  obtain ⟨g1, g2, g3, _, g5, g6, g7⟩ := h.2.2.2.2.1.1 k hk
  have ga : ∀ j, j < c 4 → g 23 j = f 23 j := fun j hj => (h.2.2.2.2.1.1 j hj).1
  unfold lgc rgo
  rw [g1, g2, g3]
  refine and_congr_right fun _ => or_congr_right ?_
  rcases g5 with ⟨e1, e2, e3, e4⟩ | ⟨i, j, e1, e2, e3, e4⟩
  · rw [e1, e2, e3, e4]
    have : pgv f (-1) = 0 := if_pos rfl
    rw [this]
    exact Iff.rfl
  · rw [e1] at g6
    rw [e2] at g7
    have b4 := hb.2.2.2.2.1
    have pi : ∀ j, j < 24 → pgv f (nI j) = f 23 j := fun j hj => by
      unfold pgv
      rw [if_neg (nI_m1 (by omega)), nI_clamp (by omega)]
    have gi : gv g (i + 1) = f 23 i := ga i (by omega)
    have gj : gv g (j + 1) = f 23 j := ga j (by omega)
    rw [e1, e2, e3, gi, gj, pi i (by omega)]
    rcases e4 with e4 | ⟨e4, e5⟩
    · rw [e4, pi j (by omega)]
    · subst e5
      rw [e4, show pgv f (-1) = 0 from if_pos rfl]
      exact ⟨fun z => z.elim Or.inl Or.inl, fun z => z.elim Or.inl (fun y => absurd rfl y)⟩
theorem lg_step (hb : BD c) (h : RLA c g f) {k : Nat} (hk : k < c 4) : RLA (u2 c (100 + k) 0) (uf g 23 k 1) (uf f 23 k 1) := by
  obtain ⟨hs, hi, hf, hr, hcl, hm⟩ := h
  have b4 := hb.2.2.2.2.1
  have r : ∀ (f : Nat → Nat → Int32) r', ¬ (r' = 23) → uf f 23 k 1 r' = f r' := fun f r' q => uf_n q
  have uc : ∀ q, q < 100 → u2 c (100 + k) 0 q = c q := fun q h1 => u2_n (by omega)
  refine ⟨RLs_f hs (uc 0 (by decide)) (r g 12 (by decide)) (r f 12 (by decide)), RLi_f hi ⟨uc 0 (by decide), uc 1 (by decide)⟩ ⟨r g 13 (by decide), r g 14 (by decide), r g 15 (by decide), r g 34 (by decide)⟩ ⟨r f 12 (by decide), r f 13 (by decide), r f 14 (by decide), r f 15 (by decide), r f 16 (by decide), r f 17 (by decide)⟩, RLf_f hf (uc 2 (by decide)) ⟨r g 18 (by decide), r g 19 (by decide), r g 20 (by decide)⟩ ⟨r f 18 (by decide), r f 19 (by decide), r f 20 (by decide)⟩, RLr_f hr (uc 3 (by decide)) ⟨r g 21 (by decide), r g 22 (by decide)⟩ ⟨r f 21 (by decide), r f 22 (by decide)⟩, ⟨?_, ?_⟩, ?_, ?_⟩
  · intro j hj
    rw [uc 4 (by decide)] at hj
    rw [u2_n (show 200 + j ≠ 100 + k by omega), u2_n (show 300 + j ≠ 100 + k by omega), r g 24 (by decide), r g 25 (by decide), r f 24 (by decide), r f 25 (by decide), r f 26 (by decide), r f 27 (by decide)]
    obtain ⟨g1, gr⟩ := hcl.1 j hj
    refine ⟨?_, gr⟩
    rw [uf_s, uf_s]
    unfold upd
    split
    · rfl
    · exact g1
  · rw [r g 28 (by decide), r f 28 (by decide)]
    exact hcl.2
  · intro i hi
    rw [uc 4 (by decide)] at hi
    by_cases e : i = k
    · subst e
      rw [u2_s]
      refine ⟨fun m hm => absurd hm (by omega), fun z => ?_⟩
      rw [ufat] at z
      exact absurd z (by decide)
    · rw [u2_n (by omega)]
      refine RM1_p (hb.m i hi) (fun m hm => ⟨by rw [r g 40 (by decide)], by rw [r g 41 (by decide)], by rw [r g 42 (by decide)], by rw [r g 43 (by decide)], by rw [r g 44 (by decide)]⟩) ?_ (fun A B hA hB => ⟨by rw [r f 30 (by decide)], fun m hm => ⟨by rw [r f 31 (by decide)], by rw [r f 32 (by decide)]⟩, fun t ht => by rw [r f 29 (by decide)]⟩) (hm.1 i hi)
      rw [uf_s]
      exact if_neg e
  · rw [uc 4 (by decide), r f 30 (by decide), r f 29 (by decide)]
    exact hm.2
theorem BD.gon (hb : BD c) {k : Nat} (hk : k < c 4) : BD (u2 c (100 + k) 0) := by
  obtain ⟨b0, b1, b2, b3, b4, b5⟩ := hb
  have uc : ∀ q, q < 100 → u2 c (100 + k) 0 q = c q := fun q h1 => u2_n (by omega)
  refine ⟨by rw [uc 0 (by decide)]; exact b0, by rw [uc 1 (by decide)]; exact b1, by rw [uc 2 (by decide)]; exact b2, by rw [uc 3 (by decide)]; exact b3, by rw [uc 4 (by decide)]; exact b4, ?_⟩
  intro i hi
  rw [uc 4 (by decide)] at hi
  rw [u2_n (show 200 + i ≠ 100 + k by omega), u2_n (show 300 + i ≠ 100 + k by omega)]
  refine ⟨?_, (b5 i hi).2⟩
  unfold u2
  split
  · omega
  · exact (b5 i hi).1
end
theorem lg_all (p q : Int32) {N : Nat} : ∀ m k (x : Int32) (c : Nat → Nat) (g f : Nat → Nat → Int32), BD c → RLA c g f → c 4 = N → k + m = N → (up (lgs p q) m k (x, c, g)).1 = (up (rgs p q) m k (x, f)).1 ∧ RLA (up (lgs p q) m k (x, c, g)).2.1 (up (lgs p q) m k (x, c, g)).2.2 (up (rgs p q) m k (x, f)).2 ∧ ∀ j, j < 100 → (up (lgs p q) m k (x, c, g)).2.1 j = c j
  | 0, k, x, c, g, f, hb, h, _, _ => ⟨rfl, h, fun _ _ => rfl⟩
  | m + 1, k, x, c, g, f, hb, h, hN, hk => by
    have hk' : k < c 4 := by omega
    have e1 : up (lgs p q) (m + 1) k (x, c, g) = up (lgs p q) m (k + 1) (lgs p q k (x, c, g)) := rfl
    have e2 : up (rgs p q) (m + 1) k (x, f) = up (rgs p q) m (k + 1) (rgs p q k (x, f)) := rfl
    rw [e1, e2]
    have ei := lgc_rgo hb h hk' p q
    by_cases z : lgc p q c g k
    · have l : lgs p q k (x, c, g) = (x + 1, u2 c (100 + k) 0, uf g 23 k 1) := if_pd z
      have r : rgs p q k (x, f) = (x + 1, uf f 23 k 1) := if_pd (ei.mp z)
      rw [l, r]
      obtain ⟨y1, y2, y3⟩ := lg_all p q m (k + 1) (x + 1) _ _ _ (hb.gon hk') (lg_step hb h hk') ((u2_n (show 4 ≠ 100 + k by omega)).trans hN) (by omega)
      exact ⟨y1, y2, fun j hj => (y3 j hj).trans (u2_n (by omega))⟩
    · have l : lgs p q k (x, c, g) = (x, c, g) := if_nd z
      have r : rgs p q k (x, f) = (x, f) := if_nd (fun y => z (ei.mpr y))
      rw [l, r]
      exact lg_all p q m (k + 1) x c g f hb h hN (by omega)
section
variable {c : Nat → Nat} {g f : Nat → Nat → Int32}
theorem RLA.pv (h : RLA c g f) : PV f (c 4) := by
  intro k hk
  obtain ⟨_, _, _, _, g5, g6, g7⟩ := h.2.2.2.2.1.1 k hk
  rcases g5 with ⟨e1, e2, e3, e4⟩ | ⟨i, j, e1, e2, e3, e4⟩
  · exact ⟨Or.inl e3, Or.inl e4⟩
  · refine ⟨Or.inr ⟨i, by omega, e3⟩, ?_⟩
    rcases e4 with e4 | ⟨e4, _⟩
    · exact Or.inr ⟨j, by omega, e4⟩
    · exact Or.inl e4
theorem J_withdraw (hb : BD c) (h : RLA c g f) (p : Int32) : JS cdI 87 161 [.int p] c g f := by
  have hx : (0 ≤ p ∧ p < 6) ↔ (0 ≤ p ∧ p ≤ 5) := bet (n := 5) (by decide)
  have b4 := hb.2.2.2.2.1
  by_cases h1 : 0 ≤ p ∧ p < 6
  · obtain ⟨y1, y2, y3⟩ := lg_all p (-1) (c 4) 0 0 c g f hb h rfl (by omega)
    intro σ tg ad w hl
    obtain ⟨σ', tg', z1, z2, z3, z4⟩ := c_87 (σ := σ) (g := g) w h1
    rw [y1] at z1
    refine ⟨_, _, _, (up (rgs p (-1)) (c 4) 0 (0, f)).1, 0, _, ⟨σ', tg', ad, z1, by rw [z4]; exact z2, z3, by rw [z4]; omega, by rw [z4]; omega⟩, RO_c (c1 := c) (RO_5 fun τ d hd => ?_) (fun k hk => y3 k (by omega)), y2, Or.inl ⟨rfl, rfl⟩⟩
    have z := c_161 (σ := τ) (c := d) (f := f) (by rw [hd 4 (by decide)]; exact b4) (by rw [hd 4 (by decide)]; exact h.pv) (hx.mp h1)
    rw [hd 4 (by decide)] at z
    exact z
  · exact JS_x (e := 2) h (fun σ tg ad w hl => c_87x h1) (fun hb => RO_5 fun τ d hd => c_161x (fun z => h1 (hx.mpr z))) rfl (by decide)
theorem J_persons (hb : BD c) (h : RLA c g f) (p : Int32) : JS cdI 88 162 [.int p] c g f := by
  have b4 := hb.2.2.2.2.1
  by_cases h1 : 0 ≤ p ∧ p < nI (c 4)
  · obtain ⟨k, hk, rfl⟩ := inN (by omega) h1
    obtain ⟨g1, g2, _⟩ := h.2.2.2.2.1.1 k hk
    refine JS_q h (v := if f 23 k = 0 then f 24 k else 0) (fun σ tg ad w hl _ => ?_) (fun hb => RO_5 fun τ d hd => c_162 (by rw [hd 4 (by decide)]; exact b4) (by rw [hd 4 (by decide)]; exact hk))
    rw [c_88 w hk, g1, g2]
  · exact JS_x (e := 2) h (fun σ tg ad w hl => c_88x h1) (fun hb => RO_5 fun τ d hd => c_162x (by rw [hd 4 (by decide)]; exact b4) (by rw [hd 4 (by decide)]; exact h1)) rfl (by decide)
-- allow
theorem RLA_al (hb : BD c) (h : RLA c g f) {p q : Nat} (hp : p < 6) (hq : q < 3) {R S : Int32} (hR : ∀ k, k < 32 → bt R k = if k = p then !(bt S q) else bt (g 28 q) k) (hS : ∀ k, k < 32 → k ≠ q → bt S k = bt (f 28 p) k) : RLA c (uf g 28 q R) (uf f 28 p S) := by
  obtain ⟨hs, hi, hf, hr, hcl, hm⟩ := h
  have r : ∀ (f : Nat → Nat → Int32) (k : Nat) (x : Int32) r', ¬ (r' = 28) → uf f 28 k x r' = f r' := fun f k x r' q => uf_n q
  refine ⟨RLs_f hs rfl (r g q R 12 (by decide)) (r f p S 12 (by decide)), RLi_f hi ⟨rfl, rfl⟩ ⟨r g q R 13 (by decide), r g q R 14 (by decide), r g q R 15 (by decide), r g q R 34 (by decide)⟩ ⟨r f p S 12 (by decide), r f p S 13 (by decide), r f p S 14 (by decide), r f p S 15 (by decide), r f p S 16 (by decide), r f p S 17 (by decide)⟩, RLf_f hf rfl ⟨r g q R 18 (by decide), r g q R 19 (by decide), r g q R 20 (by decide)⟩ ⟨r f p S 18 (by decide), r f p S 19 (by decide), r f p S 20 (by decide)⟩, RLr_f hr rfl ⟨r g q R 21 (by decide), r g q R 22 (by decide)⟩ ⟨r f p S 21 (by decide), r f p S 22 (by decide)⟩, ⟨?_, ?_⟩, RLm_f hb.m hm ⟨rfl, fun q hq => rfl⟩ ⟨r g q R 40 (by decide), r g q R 41 (by decide), r g q R 42 (by decide), r g q R 43 (by decide), r g q R 44 (by decide)⟩ ⟨r f p S 23 (by decide), r f p S 29 (by decide), r f p S 30 (by decide), r f p S 31 (by decide), r f p S 32 (by decide)⟩⟩
  · rw [r g q R 23 (by decide), r g q R 24 (by decide), r g q R 25 (by decide), r f p S 23 (by decide), r f p S 24 (by decide), r f p S 25 (by decide), r f p S 26 (by decide), r f p S 27 (by decide)]
    exact hcl.1
  · intro q' hq'
    obtain ⟨⟨x, x1, x2⟩, y⟩ := hcl.2 q' hq'
    rw [uf_s, uf_s]
    by_cases e : q' = q
    · subst e
      rw [show upd (g 28) q' R q' = R from if_pos rfl]
      refine ⟨nI_of_bits fun k h6 h32 => ?_, fun p' hp' => ?_⟩
      · rw [hR k h32, if_neg (by omega), x2]
        exact bt_nI x1 h6
      · rw [bit_1 _ (by omega), bit_0 _ (by omega), hR p' (by omega)]
        by_cases e2 : p' = p
        · subst e2
          rw [if_pos rfl, show upd (f 28) p' S p' = S from if_pos rfl]
          cases bt S q' <;> decide
        · rw [if_neg e2, show upd (f 28) p S p' = f 28 p' from if_neg e2]
          have := y p' hp'
          rw [bit_1 _ (by omega), bit_0 _ (by omega)] at this
          exact this
    · rw [show upd (g 28) q R q' = g 28 q' from if_neg e]
      refine ⟨⟨x, x1, x2⟩, fun p' hp' => ?_⟩
      have := y p' hp'
      by_cases e2 : p' = p
      · subst e2
        rw [show upd (f 28) p' S p' = S from if_pos rfl]
        rw [bit_1 _ (by omega), bit_0 _ (by omega)] at this ⊢
        rw [hS q' (by omega) e]
        exact this
      · rw [show upd (f 28) p S p' = f 28 p' from if_neg e2]
        exact this
theorem J_allow (hb : BD c) (h : RLA c g f) (p q b : Int32) (hbb : b = 0 ∨ b = 1) : JS cdN 86 160 [.int p, .int q, .int b] c g f := by
  have hx : (0 ≤ p ∧ p < 6) ↔ (0 ≤ p ∧ p ≤ 5) := bet (n := 5) (by decide)
  have hy : (0 ≤ q ∧ q < 3) ↔ (0 ≤ q ∧ q ≤ 2) := bet (n := 2) (by decide)
  have b4 := hb.2.2.2.2.1
  by_cases h1 : 0 ≤ p ∧ p < 6
  · by_cases h2 : 0 ≤ q ∧ q < 3
    · obtain ⟨p', hp', rfl⟩ := nI_below (n := 6) (by decide) h1.1 h1.2
      obtain ⟨q', hq', rfl⟩ := nI_below (n := 3) (by decide) h2.1 h2.2
      have hrel := (h.2.2.2.2.1.2 q' hq').2 p' hp'
      rcases hbb with e | e
      · subst e
        have hR := RLA_al hb h hp' hq' (R := g 28 q' ||| (1 <<< (nI p' &&& 31))) (S := f 28 p' &&& ((1 <<< (nI q' &&& 31)) ^^^ (-1))) (fun k hk => by
          rw [bt_or, bt_one (by omega) hk, bt_and, bt_xor, bt_one (by omega) (by omega), bt_m1 (by omega)]
          by_cases e : k = p'
          · subst e
            rw [if_pos rfl]
            cases bt (g 28 q') k <;> cases bt (f 28 k) q' <;> simp
          · rw [if_neg e]
            simp [show ¬ p' = k from fun z => e z.symm]) (fun k hk hne => by
          rw [bt_and, bt_xor, bt_one (by omega) hk, bt_m1 hk]
          simp [show ¬ q' = k from fun z => hne z.symm])
        obtain ⟨y1, y2, y3⟩ := lg_all (nI p') (nI q') (c 4) 0 0 c _ _ hb hR rfl (by omega)
        intro σ tg ad w hl
        obtain ⟨σ', tg', z1, z2, z3, z4⟩ := c_86 (σ := σ) (g := g) w h1 hq'
        rw [y1] at z1
        refine ⟨_, _, _, _, 0, _, ⟨σ', tg', ad, z1, by rw [z4]; exact z2, z3, by rw [z4]; omega, by rw [z4]; omega⟩, RO_c (c1 := c) (RO_5 fun τ d hd => ?_) (fun k hk => y3 k (by omega)), y2, Or.inl ⟨rfl, rfl⟩⟩
        have z := c_160 (σ := τ) (c := d) (f := f) (by rw [hd 4 (by decide)]; exact b4) (by rw [hd 4 (by decide)]; exact h.pv) hp' (hy.mp h2)
        rw [hd 4 (by decide)] at z
        exact z
      · subst e
        have hR := RLA_al hb h hp' hq' (R := g 28 q' &&& ((1 <<< (nI p' &&& 31)) ^^^ (-1))) (S := f 28 p' ||| (1 <<< (nI q' &&& 31))) (fun k hk => by
          rw [bt_and, bt_xor, bt_one (by omega) hk, bt_m1 hk, bt_or, bt_one (by omega) (by omega)]
          by_cases e : k = p'
          · subst e
            rw [if_pos rfl]
            cases bt (g 28 q') k <;> cases bt (f 28 k) q' <;> simp
          · rw [if_neg e]
            simp [show ¬ p' = k from fun z => e z.symm]) (fun k hk hne => by
          rw [bt_or, bt_one (by omega) hk]
          simp [show ¬ q' = k from fun z => hne z.symm])
        exact JS_q hR (v := 0) (fun σ tg ad w hl _ => c_86t h1 hq' (by decide)) (fun hb => RO_5 fun τ d hd => c_160t hp' (hy.mp h2) (by decide))
    · exact JS_x (e := 0) h (fun σ tg ad w hl => c_86y h1 h2) (fun hb => RO_5 fun τ d hd => c_160y (hx.mp h1) (fun z => h2 (hy.mpr z))) rfl (by decide)
  · exact JS_x (e := 2) h (fun σ tg ad w hl => c_86x h1) (fun hb => RO_5 fun τ d hd => c_160x (fun z => h1 (hx.mpr z))) rfl (by decide)
end
