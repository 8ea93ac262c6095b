/-! JOINT: the class and the reference, step by step -/
theorem MW_c {τ : mm_S} {d d' : Nat → Nat} {f : Nat → Nat → Int32} (h : ∀ k, k < 6 → d k = d' k) : MW τ (vN d) f = MW τ (vN d') f := by
  have e : mo_obj (vN d) = mo_obj (vN d') := by
    unfold mo_obj vN
    rw [h 0 (by decide), h 1 (by decide), h 2 (by decide), h 3 (by decide), h 4 (by decide), h 5 (by decide)]
  unfold MW
  rw [e]
/-- what the class's call comes to -/
def CO1 (σ : mm_S) (tg : Nat → Nat × Nat) (ad : Nat × Nat → Nat) (c : Nat → Nat) (g : Nat → Nat → Int32) (y : Nat) (As : List Value) (r : Option Value ⊕ Nat) (c' : Nat → Nat) (g' : Nat → Nat → Int32) : Prop :=
  ∃ σ' tg' ad', mm_M y As (CW σ tg ad c g) = some (r, CW σ' tg' ad' c' g') ∧ WF tg' ad' c' σ'.2.1 ∧ SB σ σ' ∧ σ'.2.2.1 ≤ σ.2.2.1 + 8 ∧ σ'.2.2.2 ≤ σ.2.2.2 + 400
/-- what the reference's call comes to -/
def RO (c : Nat → Nat) (f : Nat → Nat → Int32) (z : Nat) (As : List Value) (v : Int32) (c' : Nat → Nat) (t' : Nat) (f' : Nat → Nat → Int32) : Prop :=
  ∀ τ t, mm_M z As (MW τ (vN (u2 c 5 t)) f) = some (.inl (some (.int v)), MW τ (vN (u2 c' 5 t')) f')
section
variable {c : Nat → Nat} {g f : Nat → Nat → Int32} {z : Nat} {As : List Value} {v : Int32} {t' : Nat} {f' : Nat → Nat → Int32}
theorem RO_5 (h : ∀ τ d, (∀ k, k < 5 → d k = c k) → mm_M z As (MW τ (vN d) f) = some (.inl (some (.int v)), MW τ (vN (u2 d 5 t')) f')) : RO c f z As v c t' f' := by
  intro τ t
  rw [h τ (u2 c 5 t) (fun k hk => u2_n (by omega)), u2_u2]
theorem RO_k {j : Nat} {n : Nat} (hj : j < 5) (h : ∀ τ d, (∀ k, k < 5 → d k = c k) → mm_M z As (MW τ (vN d) f) = some (.inl (some (.int v)), MW τ (vN (u2 (u2 d 5 t') j n)) f')) : RO c f z As v (u2 c j n) t' f' := by
  intro τ t
  rw [h τ (u2 c 5 t) (fun k hk => u2_n (by omega))]
  refine congrArg some (Prod.ext rfl (MW_c fun k hk => ?_))
  rw [u2_u2]
  unfold u2
  by_cases e1 : k = j
  · rw [if_pos e1, if_neg (by omega), if_pos e1]
  · rw [if_neg e1]
    by_cases e5 : k = 5
    · rw [if_pos e5, if_pos e5]
    · rw [if_neg e5, if_neg e5, if_neg e1]
theorem RO_c {c1 : Nat → Nat} (h : RO c f z As v c1 t' f') {c2 : Nat → Nat} (e : ∀ k, k < 5 → c2 k = c1 k) : RO c f z As v c2 t' f' := by
  intro τ t
  rw [h τ t]
  refine congrArg some (Prod.ext rfl (MW_c fun k hk => ?_))
  unfold u2
  by_cases e5 : k = 5
  · rw [if_pos e5, if_pos e5]
  · rw [if_neg e5, if_neg e5, e k (by omega)]
end
-- the relation
def SV (x : Nat → Int32) : Prop := V6 (x 0) (x 1) (x 2) (x 3) (x 4) (x 5) ∧ (x 5 ≠ 2 → x 6 = -1)
def IV (S : Nat) (f : Nat → Nat → Int32) (k : Nat) : Prop := (f 13 k = 0 ∧ ∃ s, s < S ∧ f 14 k = nI s) ∨ ((f 13 k = 1 ∨ f 13 k = 2 ∨ f 13 k = 3) ∧ (0 ≤ f 14 k ∧ f 14 k < 4) ∧ (f 13 k = 1 → 0 ≤ f 15 k ∧ f 15 k < 10)) ∨ (f 13 k = 4 ∧ (∃ s, s < S ∧ f 14 k = nI s) ∧ (0 ≤ f 15 k ∧ f 15 k < 4) ∧ (0 ≤ f 16 k ∧ f 16 k < 4)) ∨ (f 13 k = 5 ∧ 0 ≤ f 14 k ∧ f 14 k < 26)
def RLs (c : Nat → Nat) (g f : Nat → Nat → Int32) : Prop := ∀ k, k < c 0 → (∀ j, j < 7 → g 12 (7 * k + j) = f 12 (7 * k + j)) ∧ SV (h7 (f 12) k)
def RLi (c : Nat → Nat) (g f : Nat → Nat → Int32) : Prop := (∀ k, k < c 1 → g 13 k = f 13 k ∧ g 14 k = f 14 k ∧ g 15 k = f 15 k ∧ IV (c 0) f k ∧ ∀ j, j < 7 → g 34 (7 * k + j) = tfm f k j) ∧ ∀ l, l < 4 → f 17 l = rb f (nI l) (c 1)
def RLf (c : Nat → Nat) (g f : Nat → Nat → Int32) : Prop := ∀ k, k < c 2 → (g 18 k = f 18 k ∧ g 19 k = f 19 k ∧ g 20 k = f 20 k) ∧ (0 ≤ f 18 k ∧ f 18 k < 4) ∧ (0 ≤ f 19 k ∧ f 19 k ≤ f 20 k) ∧ ∀ m, m < k → am (f 18 m) = am (f 18 k) → f 20 m < f 19 k ∨ f 20 k < f 19 m
def RLr (c : Nat → Nat) (g f : Nat → Nat → Int32) : Prop := ∀ i, i < c 3 → g 21 i = f 21 i ∧ ∀ s, s < 30 → (g 22 (30 * i + s) ≠ 0 ↔ (f 22 i >>> (nI s &&& 31)) &&& 1 = 1)
/-- the parents -/
def PQ (x y : Nat) (a b : Int32) : Prop := (x = 0 ∧ y = 0 ∧ a = -1 ∧ b = -1) ∨ (∃ i j, x = i + 1 ∧ y = j + 1 ∧ a = nI i ∧ (b = nI j ∨ (b = -1 ∧ j = i)))
def RLc (c : Nat → Nat) (g f : Nat → Nat → Int32) : Prop := (∀ k, k < c 4 → g 23 k = f 23 k ∧ g 24 k = f 24 k ∧ g 25 k = f 25 k ∧ (∃ x, x < 64 ∧ f 24 k = nI x) ∧ PQ (c (200 + k)) (c (300 + k)) (f 26 k) (f 27 k) ∧ c (200 + k) ≤ k ∧ c (300 + k) ≤ k) ∧ ∀ q, q < 3 → (∃ x, x < 64 ∧ g 28 q = nI x) ∧ ∀ p, p < 6 → ((g 28 q >>> (nI p &&& 31)) &&& 1 = 1 ↔ (f 28 p >>> (nI q &&& 31)) &&& 1 = 0)
/-- so many marks of the coder and the tier ahead of m -/
def nm (g : Nat → Nat → Int32) (i : Nat) (a b : Nat) : Nat → Nat
  | 0 => 0
  | m + 1 => if g 40 (1000 * i + m) = nI a ∧ g 41 (1000 * i + m) = nI b then nm g i a b m + 1 else nm g i a b m
def RM1 (M : Nat) (g f : Nat → Nat → Int32) (i : Nat) : Prop :=
  (∀ m, m < M → ∃ a b p q v, a < 3 ∧ b < 4 ∧ p < q ∧ q ≤ 200 ∧ v < 10 ∧ g 40 (1000 * i + m) = nI a ∧ g 41 (1000 * i + m) = nI b ∧ g 42 (1000 * i + m) = nI p ∧ g 43 (1000 * i + m) = nI q ∧ g 44 (1000 * i + m) = nI v) ∧
  (f 23 i = 0 → ∀ a b, a < 3 → b < 4 → MF f (12 * i + 4 * a + b) (nm g i a b M) ∧
    (∀ m, m < M → g 40 (1000 * i + m) = nI a → g 41 (1000 * i + m) = nI b → f 31 (10 * (12 * i + 4 * a + b) + nm g i a b m) = g 42 (1000 * i + m) ∧ f 32 (10 * (12 * i + 4 * a + b) + nm g i a b m) = g 43 (1000 * i + m) ∧ ∀ t, mp g i m ≤ t → t < mq g i m → wvt g i M (nI a) (nI b) t = g 44 (1000 * i + m)) ∧
    ∀ t, t < 200 → f 29 (200 * (12 * i + 4 * a + b) + t) = wvt g i M (nI a) (nI b) t + 1 ∧ (wvt g i M (nI a) (nI b) t = -1 ∨ ∃ v, v < 10 ∧ wvt g i M (nI a) (nI b) t = nI v))
def RLm (c : Nat → Nat) (g f : Nat → Nat → Int32) : Prop := (∀ i, i < c 4 → RM1 (c (100 + i)) g f i) ∧ ∀ i, c 4 ≤ i → i < 24 → ∀ a b, a < 3 → b < 4 → f 30 (12 * i + 4 * a + b) = 0 ∧ ∀ t, t < 200 → f 29 (200 * (12 * i + 4 * a + b) + t) = 0
def RLA (c : Nat → Nat) (g f : Nat → Nat → Int32) : Prop := RLs c g f ∧ RLi c g f ∧ RLf c g f ∧ RLr c g f ∧ RLc c g f ∧ RLm c g f
/-- the answers agree -/
def OK (cd : Nat → Nat) (r : Option Value ⊕ Nat) (v : Int32) (t : Nat) : Prop := (r = .inl (some (.int v)) ∧ t = 0) ∨ ∃ e, r = .inr e ∧ t = cd e ∧ t ≠ 0 ∧ t < 4
def JS (cd : Nat → Nat) (y z : Nat) (As : List Value) (c : Nat → Nat) (g f : Nat → Nat → Int32) : Prop :=
  ∀ σ tg ad, WF tg ad c σ.2.1 → LO σ → ∃ r c' g' v t' f', CO1 σ tg ad c g y (.ref 2 :: As) r c' g' ∧ RO c f z (.ref 11 :: As) v c' t' f' ∧ RLA c' g' f' ∧ OK cd r v t'
section
variable {c c' : Nat → Nat} {g f g' f' : Nat → Nat → Int32} {y z : Nat} {As : List Value} {cd : Nat → Nat}
theorem LO_CW {σ : mm_S} {tg : Nat → Nat × Nat} {ad : Nat × Nat → Nat} {n : Nat} (w : WF tg ad c n) (h : LO σ) : LO (CW σ tg ad c g) := by
  unfold LO at *
  rw [CW_mid (Or.inl (by decide)) (w.2.no (Or.inl (by decide)))]
  exact h
theorem WF.bd {tg : Nat → Nat × Nat} {ad : Nat × Nat → Nat} {n : Nat} (w : WF tg ad c n) : BD c := w.1
/-- the class throws and nothing else changes -/
theorem JS_x {e t : Nat} (hr : RLA c g f) (hC : ∀ σ tg ad, WF tg ad c σ.2.1 → LO (CW σ tg ad c g) → mm_M y (.ref 2 :: As) (CW σ tg ad c g) = some (.inr e, mm_bmp (CW σ tg ad c g) 1 6)) (hR : BD c → RO c f z (.ref 11 :: As) 0 c t f) (ht : t = cd e) (h0 : t ≠ 0 ∧ t < 4) : JS cd y z As c g f := by
  intro σ tg ad w hl
  refine ⟨.inr e, c, g, 0, t, f, ⟨mm_bmp σ 1 6, tg, ad, ?_, w, fun a _ _ => rfl, ?_, ?_⟩, hR w.1, hr, Or.inr ⟨e, rfl, ht, h0.1, h0.2⟩⟩
  · rw [hC σ tg ad w (LO_CW w hl), CW_bmp]
  · show σ.2.2.1 + 1 ≤ _; omega
  · show σ.2.2.2 + 6 ≤ _; omega
/-- the class answers, and its rows alone change -/
theorem JS_q {v : Int32} (hr : RLA c g' f') (hC : ∀ σ tg ad, WF tg ad c σ.2.1 → LO (CW σ tg ad c g) → (∀ G, LO (CW σ tg ad c G)) → mm_M y (.ref 2 :: As) (CW σ tg ad c g) = some (.inl (some (.int v)), CW σ tg ad c g')) (hR : BD c → RO c f z (.ref 11 :: As) v c 0 f') : JS cd y z As c g f := by
  intro σ tg ad w hl
  refine ⟨.inl (some (.int v)), c, g', v, 0, f', ⟨σ, tg, ad, hC σ tg ad w (LO_CW w hl) (fun G => LO_CW w hl), w, fun a _ _ => rfl, ?_, ?_⟩, hR w.1, hr, Or.inl ⟨rfl, rfl⟩⟩
  · omega
  · omega
-- frames
theorem RLs_f (h : RLs c g f) (hc : c' 0 = c 0) (hg : g' 12 = g 12) (hf : f' 12 = f 12) : RLs c' g' f' := by
  unfold RLs at *
  rw [hc, hg, hf]
  exact h
theorem tfm_c (h : f' 12 = f 12 ∧ f' 13 = f 13 ∧ f' 14 = f 14 ∧ f' 15 = f 15 ∧ f' 16 = f 16) (k : Nat) : tfm f' k = tfm f k := by
  unfold tfm
  rw [h.1, h.2.1, h.2.2.1, h.2.2.2.1, h.2.2.2.2]
theorem rb_c (h : f' 13 = f 13 ∧ f' 14 = f 14 ∧ f' 15 = f 15) (p : Int32) (N : Nat) : rb f' p N = rb f p N := by
  have e : rs f' p = rs f p := by
    funext k x
    unfold rs
    rw [h.1, h.2.1, h.2.2]
  unfold rb
  rw [e]
theorem RLi_f (h : RLi c g f) (hc : c' 0 = c 0 ∧ c' 1 = c 1) (hg : g' 13 = g 13 ∧ g' 14 = g 14 ∧ g' 15 = g 15 ∧ g' 34 = g 34) (hf : f' 12 = f 12 ∧ f' 13 = f 13 ∧ f' 14 = f 14 ∧ f' 15 = f 15 ∧ f' 16 = f 16 ∧ f' 17 = f 17) : RLi c' g' f' := by
  obtain ⟨f2, f3, f4, f5, f6, f7⟩ := hf
  unfold RLi at *
  rw [hc.1, hc.2, hg.1, hg.2.1, hg.2.2.1, hg.2.2.2, f7]
  refine ⟨fun k hk => ?_, fun l hl => ?_⟩
  · rw [tfm_c ⟨f2, f3, f4, f5, f6⟩]
    unfold IV
    rw [f3, f4, f5, f6]
    exact h.1 k hk
  · rw [rb_c ⟨f3, f4, f5⟩]
    exact h.2 l hl
theorem RLf_f (h : RLf c g f) (hc : c' 2 = c 2) (hg : g' 18 = g 18 ∧ g' 19 = g 19 ∧ g' 20 = g 20) (hf : f' 18 = f 18 ∧ f' 19 = f 19 ∧ f' 20 = f 20) : RLf c' g' f' := by
  unfold RLf at *
  rw [hc, hg.1, hg.2.1, hg.2.2, hf.1, hf.2.1, hf.2.2]
  exact h
theorem RLr_f (h : RLr c g f) (hc : c' 3 = c 3) (hg : g' 21 = g 21 ∧ g' 22 = g 22) (hf : f' 21 = f 21 ∧ f' 22 = f 22) : RLr c' g' f' := by
  unfold RLr at *
  rw [hc, hg.1, hg.2, hf.1, hf.2]
  exact h
theorem RLc_f (h : RLc c g f) (hc : c' 4 = c 4 ∧ ∀ q, 100 ≤ q → c' q = c q) (hg : g' 23 = g 23 ∧ g' 24 = g 24 ∧ g' 25 = g 25 ∧ g' 28 = g 28) (hf : f' 23 = f 23 ∧ f' 24 = f 24 ∧ f' 25 = f 25 ∧ f' 26 = f 26 ∧ f' 27 = f 27 ∧ f' 28 = f 28) : RLc c' g' f' := by
  obtain ⟨f3, f4, f5, f6, f7, f8⟩ := hf
  unfold RLc at *
  rw [hc.1, hg.1, hg.2.1, hg.2.2.1, hg.2.2.2, f3, f4, f5, f6, f7, f8]
  refine ⟨fun k hk => ?_, h.2⟩
  rw [hc.2 _ (by omega), hc.2 _ (by omega)]
  exact h.1 k hk
theorem nm_p {i a b M : Nat} (h : ∀ m, m < M → g' 40 (1000 * i + m) = g 40 (1000 * i + m) ∧ g' 41 (1000 * i + m) = g 41 (1000 * i + m)) : ∀ m, m ≤ M → nm g' i a b m = nm g i a b m
  | 0, _ => rfl
  | m + 1, hm => by
    unfold nm
    rw [nm_p h m (by omega), (h m (by omega)).1, (h m (by omega)).2]
theorem nm_le {i a b : Nat} : ∀ k m, nm g i a b m ≤ nm g i a b (m + k)
  | 0, m => Nat.le_refl _
  | k + 1, m => by
    refine Nat.le_trans (nm_le k m) ?_
    show _ ≤ (if g 40 (1000 * i + (m + k)) = nI a ∧ g 41 (1000 * i + (m + k)) = nI b then nm g i a b (m + k) + 1 else nm g i a b (m + k))
    split
    · exact Nat.le_succ _
    · exact Nat.le_refl _
theorem nm_lt {i a b m M : Nat} (hm : m < M) (h1 : g 40 (1000 * i + m) = nI a) (h2 : g 41 (1000 * i + m) = nI b) : nm g i a b m < nm g i a b M := by
  have e : nm g i a b (m + 1) = nm g i a b m + 1 := by
    show (if _ then _ else _) = _
    rw [if_pos ⟨h1, h2⟩]
  have := nm_le (g := g) (i := i) (a := a) (b := b) (M - (m + 1)) (m + 1)
  rw [show m + 1 + (M - (m + 1)) = M by omega, e] at this
  omega
theorem up_cg {α : Type} {s s' : Nat → α → α} {n : Nat} (h : ∀ k x, k < n → s k x = s' k x) : ∀ m k x, k + m = n → up s m k x = up s' m k x
  | 0, k, x, _ => rfl
  | m + 1, k, x, e => by
    show up s m (k + 1) (s k x) = up s' m (k + 1) (s' k x)
    rw [h k x (by omega)]
    exact up_cg h m (k + 1) _ (by omega)
theorem RM1_p {M i : Nat} (hb : M ≤ 1000) (hg : ∀ m, m < M → g' 40 (1000 * i + m) = g 40 (1000 * i + m) ∧ g' 41 (1000 * i + m) = g 41 (1000 * i + m) ∧ g' 42 (1000 * i + m) = g 42 (1000 * i + m) ∧ g' 43 (1000 * i + m) = g 43 (1000 * i + m) ∧ g' 44 (1000 * i + m) = g 44 (1000 * i + m))
    (hf : f' 23 i = f 23 i) (he : ∀ a b, a < 3 → b < 4 → f' 30 (12 * i + 4 * a + b) = f 30 (12 * i + 4 * a + b) ∧ (∀ m, m < 10 → f' 31 (10 * (12 * i + 4 * a + b) + m) = f 31 (10 * (12 * i + 4 * a + b) + m) ∧ f' 32 (10 * (12 * i + 4 * a + b) + m) = f 32 (10 * (12 * i + 4 * a + b) + m)) ∧ ∀ t, t < 200 → f' 29 (200 * (12 * i + 4 * a + b) + t) = f 29 (200 * (12 * i + 4 * a + b) + t)) (h : RM1 M g f i) : RM1 M g' f' i := by
  obtain ⟨h1, h2⟩ := h
  have enm : ∀ a b m, m ≤ M → nm g' i a b m = nm g i a b m := fun a b => nm_p fun m hm => ⟨(hg m hm).1, (hg m hm).2.1⟩
  have ewv : ∀ a b t, wvt g' i M a b t = wvt g i M a b t := fun a b t => by
    unfold wvt
    refine up_cg (n := M) (fun m x hm => ?_) _ _ _ (by omega)
    obtain ⟨y0, y1, y2, y3, y4⟩ := hg m hm
    unfold wvs mp mq
    rw [y0, y1, y2, y3, y4]
  refine ⟨fun m hm => ?_, fun z a b ha hb' => ?_⟩
  · obtain ⟨y0, y1, y2, y3, y4⟩ := hg m hm
    rw [y0, y1, y2, y3, y4]
    exact h1 m hm
  · rw [hf] at z
    obtain ⟨q1, q2, q3⟩ := h2 z a b ha hb'
    obtain ⟨e0, e1, e9⟩ := he a b ha hb'
    rw [enm a b M (Nat.le_refl _)]
    refine ⟨⟨q1.1, by rw [e0]; exact q1.2.1, fun m hm => ?_⟩, fun m hm => ?_, fun t ht => ?_⟩
    · have := q1.1
      rw [(e1 m (by omega)).1, (e1 m (by omega)).2]
      exact q1.2.2 m hm
    · obtain ⟨y0, y1, y2, y3, y4⟩ := hg m hm
      rw [y0, y1, y2, y3, y4]
      intro z1 z2
      have l := nm_lt hm z1 z2
      have := q1.1
      rw [enm a b m (by omega), (e1 (nm g i a b m) (by omega)).1, (e1 (nm g i a b m) (by omega)).2]
      obtain ⟨x1, x2, x3⟩ := q2 m hm z1 z2
      refine ⟨x1, x2, fun t t1 t2 => ?_⟩
      rw [ewv]
      unfold mp at t1
      unfold mq at t2
      rw [y2] at t1
      rw [y3] at t2
      exact x3 t t1 t2
    · rw [ewv, e9 t ht]
      exact q3 t ht
theorem RLm_f (hb : ∀ i, i < c 4 → c (100 + i) ≤ 1000) (h : RLm c g f) (hc : c' 4 = c 4 ∧ ∀ q, 100 ≤ q → c' q = c q) (hg : SM g' g) (hf : f' 23 = f 23 ∧ f' 29 = f 29 ∧ f' 30 = f 30 ∧ f' 31 = f 31 ∧ f' 32 = f 32) : RLm c' g' f' := by
  obtain ⟨f3, f9, f0, f1, f2⟩ := hf
  obtain ⟨g0, g1, g2, g3, g4⟩ := hg
  refine ⟨fun i hi => ?_, ?_⟩
  · rw [hc.1] at hi
    rw [hc.2 (100 + i) (by omega)]
    refine RM1_p (hb i hi) (fun m hm => ⟨by rw [g0], by rw [g1], by rw [g2], by rw [g3], by rw [g4]⟩) (by rw [f3]) (fun a b ha hb => ⟨by rw [f0], fun m hm => ⟨by rw [f1], by rw [f2]⟩, fun t ht => by rw [f9]⟩) (h.1 i hi)
  · rw [hc.1, f0, f9]
    exact h.2
theorem RLi.vi (h : RLi c g f) : VI g (c 0) (c 1) := by
  intro k hk z
  obtain ⟨e1, e2, _, e4, _⟩ := h.1 k hk
  rw [e1] at z
  rw [e2]
  rcases e4 with ⟨_, s⟩ | ⟨q, _⟩ | ⟨_, s, _⟩ | ⟨q, _⟩
  · exact s
  · rcases z with z | z <;> rw [z] at q <;> exact absurd q (by decide)
  · exact s
  · rcases z with z | z <;> rw [z] at q <;> exact absurd q (by decide)
theorem RLi.vm (h : RLi c g f) (hb : BD c) : VI f 30 (c 1) := by
  intro k hk z
  obtain ⟨e1, e2, _, e4, _⟩ := h.1 k hk
  have hb := hb.1
  have : ∃ s, s < c 0 ∧ f 14 k = nI s := by
    rcases e4 with ⟨_, s⟩ | ⟨q, _⟩ | ⟨_, s, _⟩ | ⟨q, _⟩
    · exact s
    · rcases z with z | z <;> rw [z] at q <;> exact absurd q (by decide)
    · exact s
    · rcases z with z | z <;> rw [z] at q <;> exact absurd q (by decide)
  obtain ⟨s, h1, h2⟩ := this
  exact ⟨s, by omega, h2⟩
theorem RLi.rt (h : RLi c g f) : RT g f (c 1) := fun k hk j hj => (h.1 k hk).2.2.2.2 j hj
theorem RLA.rx (h : RLA c g f) (hb : BD c) : RX g f (c 1) (c 3) := by
  obtain ⟨_, hi, _, hr, _⟩ := h
  refine ⟨fun i h => (hr i h).1, fun i h k hk z => ?_⟩
  obtain ⟨e1, e2, _⟩ := hi.1 k hk
  obtain ⟨s, s1, s2⟩ := hi.vm hb k hk z
  rw [s2, nI_clamp (by omega)]
  exact (hr i h).2 s s1
end
theorem ltle {a : Int32} {n : Nat} (hn : n + 1 < 2 ^ 31) : a < nI (n + 1) ↔ a ≤ nI n := by
  have e : nI (n + 1) - 1 = nI n := pm_s n
  constructor
  · intro h
    have h1 := Int32.lt_iff_toInt_lt.mp h
    rw [nI_toInt hn] at h1
    refine Int32.le_iff_toInt_le.mpr ?_
    rw [nI_toInt (by omega)]
    omega
  · intro h
    have h1 := Int32.le_iff_toInt_le.mp h
    rw [nI_toInt (by omega)] at h1
    refine Int32.lt_iff_toInt_lt.mpr ?_
    rw [nI_toInt hn]
    omega
