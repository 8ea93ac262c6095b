/-! JOINT: signs -/
def cdA (e : Nat) : Nat := if e = 0 then 1 else if e = 1 then 2 else 0
def cdL (e : Nat) : Nat := if e = 0 then 1 else 0
def cdB (e : Nat) : Nat := if e = 2 then 1 else if e = 0 then 2 else if e = 1 then 3 else 0
def cdN (e : Nat) : Nat := if e = 2 then 1 else if e = 0 then 2 else 0
def cdI (e : Nat) : Nat := if e = 2 then 1 else 0
def cdT (e : Nat) : Nat := if e = 2 then 1 else if e = 1 then 2 else 0
theorem bet {a : Int32} {n : Nat} (hn : n + 1 < 2 ^ 31) : (0 ≤ a ∧ a < nI (n + 1)) ↔ (0 ≤ a ∧ a ≤ nI n) := and_congr_right fun _ => ltle hn
theorem wr_c {x y : Nat → Int32} (h : ∀ j, j < 7 → x j = y j) (s : Int32) : wr s x = wr s y := by
  unfold wr
  rw [h 0 (by decide), h 1 (by decide), h 2 (by decide), h 3 (by decide), h 4 (by decide), h 5 (by decide)]
theorem cu_c {x y x' y' : Nat → Int32} (h : ∀ j, j < 7 → x j = y j) (h' : ∀ j, j < 7 → x' j = y' j) : cu x x' = cu y y' := by
  unfold cu
  rw [h 0 (by decide), h 1 (by decide), h 2 (by decide), h 3 (by decide), h 4 (by decide), h 5 (by decide), h' 0 (by decide), h' 1 (by decide), h' 2 (by decide), h' 3 (by decide), h' 4 (by decide), h' 5 (by decide)]
theorem cu_0 (x y : Nat → Int32) : cu x y = 0 ↔ (x 0 = y 0 ∧ x 1 = y 1 ∧ x 2 = y 2 ∧ x 3 = y 3 ∧ x 4 = y 4 ∧ x 5 = y 5) := by
  unfold cu
  by_cases h0 : x 0 = y 0 <;> by_cases h1 : x 1 = y 1 <;> by_cases h2 : x 2 = y 2 <;> by_cases h3 : x 3 = y 3 <;> by_cases h4 : x 4 = y 4 <;> by_cases h5 : x 5 = y 5 <;> simp only [h0, h1, h2, h3, h4, h5, if_true, if_false, and_self, and_true, and_false, false_and, true_and] <;> decide
section
variable {c : Nat → Nat} {g f : Nat → Nat → Int32}
theorem inN {p : Int32} {n : Nat} (hn : n < 2 ^ 31) (h : 0 ≤ p ∧ p < nI n) : ∃ k, k < n ∧ p = nI k := nI_below hn h.1 h.2
theorem RLA.s (h : RLA c g f) {k : Nat} (hk : k < c 0) : ∀ j, j < 7 → h7 (g 12) k j = h7 (f 12) k j := fun j hj => (h.1 k hk).1 j hj
theorem J_written (hb : BD c) (h : RLA c g f) (p s : Int32) : JS cdN 26 121 [.int p, .int s] c g f := by
  have hbd := hb
  have hc := hb.1
  by_cases hp : 0 ≤ p ∧ p < nI (c 0)
  · by_cases hs : 0 ≤ s ∧ s < 3
    · obtain ⟨k, hk, rfl⟩ := inN (by omega) hp
      have e := wr_c (h.s hk) s
      refine JS_q h (v := wr s (h7 (f 12) k)) (fun σ tg ad w hl _ => ?_) (fun hb => RO_5 fun τ d hd => ?_)
      · rw [c_26 w.os hk hs, e]
      · exact c_121 (by rw [hd 0 (by decide)]; exact hc) (by rw [hd 0 (by decide)]; exact hk) ((bet (n := 2) (by decide)).mp hs)
    · exact JS_x (e := 0) h (fun σ tg ad w hl => c_26y hp hs) (fun hb => RO_5 fun τ d hd => c_121y (by rw [hd 0 (by decide)]; exact hc) (by rw [hd 0 (by decide)]; exact hp) (fun z => hs ((bet (n := 2) (by decide)).mpr z))) rfl (by decide)
  · exact JS_x (e := 2) h (fun σ tg ad w hl => c_26x hp) (fun hb => RO_5 fun τ d hd => c_121x (by rw [hd 0 (by decide)]; exact hc) (by rw [hd 0 (by decide)]; exact hp)) rfl (by decide)
theorem lq_c (h : RLA c g f) (s o : Int32) : up (lq g (c 0) s o) (c 0) 0 0 = up (lq f (c 0) s o) (c 0) 0 0 := by
  refine up_cg (n := c 0) (fun i x hi => ?_) _ _ _ (by omega)
  unfold lq
  refine up_cg (n := c 0) (fun k x hk => ?_) _ _ _ (by omega)
  unfold lp
  rw [wr_c (h.s hi) s, wr_c (h.s hk) s, wr_c (h.s hi) o, wr_c (h.s hk) o]
theorem J_loses (hb : BD c) (h : RLA c g f) (s o : Int32) : JS cdL 27 122 [.int s, .int o] c g f := by
  have hbd := hb
  have hc := hb.1
  have b3 := fun a : Int32 => bet (a := a) (n := 2) (by decide)
  by_cases hs : 0 ≤ s ∧ s < 3
  · by_cases ho : 0 ≤ o ∧ o < 3
    · refine JS_q h (v := up (lq f (c 0) s o) (c 0) 0 0) (fun σ tg ad w hl _ => ?_) (fun hb => RO_5 fun τ d hd => ?_)
      · rw [c_27 w.os hs ho, lq_c h]
      · rw [← hd 0 (by decide)]
        exact c_122 (by rw [hd 0 (by decide)]; exact hc) ((b3 s).mp hs) ((b3 o).mp ho)
    · exact JS_x (e := 0) h (fun σ tg ad w hl => c_27y hs ho) (fun hb => RO_5 fun τ d hd => c_122x (by rw [hd 0 (by decide)]; exact hc) (fun z => ho ((b3 o).mpr z.2))) rfl (by decide)
  · exact JS_x (e := 0) h (fun σ tg ad w hl => c_27x hs) (fun hb => RO_5 fun τ d hd => c_122x (by rw [hd 0 (by decide)]; exact hc) (fun z => hs ((b3 s).mpr z.1))) rfl (by decide)
-- nearest
theorem nb_mb (hc : c 0 ≤ 30) (h : RLA c g f) {P : Nat} (hP : P < c 0) : ∀ m k (o : Option Nat), k + m = c 0 → (∀ x ∈ o, x < c 0) → up (nb g P) m k (fo o, fw f P o) = (fo (up (mb f P) m k o), fw f P (up (mb f P) m k o))
  | 0, k, o, _, _ => rfl
  | m + 1, k, o, e, ho => by
    have hk : k < c 0 := by omega
    have key : nb g P k (fo o, fw f P o) = (fo (mb f P k o), fw f P (mb f P k o)) := by
      unfold nb mb
      by_cases eP : k = P
      · rw [if_pos eP, if_pos eP]
      · rw [if_neg eP, if_neg eP, cu_c (h.s hP) (h.s hk)]
        cases o with
        | none =>
          show (if fo none = -1 ∨ _ then _ else _) = _
          rw [if_pos (Or.inl (show fo none = -1 from rfl))]; rfl
        | some x =>
          have hx := ho x rfl
          have e1 : ¬ fo (some x) = -1 := nI_m1 (by omega)
          show (if fo (some x) = -1 ∨ cu (h7 (f 12) P) (h7 (f 12) k) < cu (h7 (f 12) P) (h7 (f 12) x) then _ else _) = _
          by_cases q : cu (h7 (f 12) P) (h7 (f 12) k) < cu (h7 (f 12) P) (h7 (f 12) x)
          · rw [if_pos (Or.inr q)]
            show _ = (fo (if _ then some k else some x), fw f P (if _ then some k else some x))
            rw [if_pos q]; rfl
          · rw [if_neg (fun z => z.elim e1 q)]
            show _ = (fo (if _ then some k else some x), fw f P (if _ then some k else some x))
            rw [if_neg q]
    have ho' : ∀ x ∈ mb f P k o, x < c 0 := by
      intro x hx
      unfold mb at hx
      split at hx
      · exact ho x hx
      · split at hx
        · cases hx; exact hk
        · split at hx
          · cases hx; exact hk
          · exact ho x hx
    show up (nb g P) m (k + 1) (nb g P k (fo o, fw f P o)) = _
    rw [key]
    exact nb_mb hc h hP m (k + 1) _ (by omega) ho'
theorem J_nearest (hb : BD c) (h : RLA c g f) (p q : Int32) : JS cdN 25 118 [.int p, .int q] c g f := by
  have hbd := hb
  have hc := hb.1
  by_cases hp : 0 ≤ p ∧ p < nI (c 0)
  · by_cases hs : 0 ≤ q ∧ q < 2
    · obtain ⟨k, hk, rfl⟩ := inN (by omega) hp
      have e := nb_mb hc h hk (c 0) 0 none (by omega) (fun x z => by cases z)
      have e0 : ((fo none, fw f k none) : Int32 × Int32) = (-1, -1) := rfl
      rw [e0] at e
      refine JS_q h (v := if q = 0 then fo (up (mb f k) (c 0) 0 none) else fw f k (up (mb f k) (c 0) 0 none)) (fun σ tg ad w hl _ => ?_) (fun hb => RO_5 fun τ d hd => ?_)
      · rw [c_25 w.os hk hs, e]
      · rw [← hd 0 (by decide)]
        exact c_118 (by rw [hd 0 (by decide)]; exact hc) (by rw [hd 0 (by decide)]; exact hk) ((bet (n := 1) (by decide)).mp hs)
    · exact JS_x (e := 0) h (fun σ tg ad w hl => c_25y hp hs) (fun hb => RO_5 fun τ d hd => c_118y (by rw [hd 0 (by decide)]; exact hc) (by rw [hd 0 (by decide)]; exact hp) (fun z => hs ((bet (n := 1) (by decide)).mpr z))) rfl (by decide)
  · exact JS_x (e := 2) h (fun σ tg ad w hl => c_25x hp) (fun hb => RO_5 fun τ d hd => c_118x (by rw [hd 0 (by decide)]; exact hc) (by rw [hd 0 (by decide)]; exact hp)) rfl (by decide)
-- sign
theorem V6_U6 {a b d e i j : Int32} : V6 a b d e i j ↔ U6 a b d e i j := by
  unfold V6 U6
  have b2 := fun a : Int32 => bet (a := a) (n := 2) (by decide)
  have b3 := fun a : Int32 => bet (a := a) (n := 3) (by decide)
  have b7 := fun a : Int32 => bet (a := a) (n := 7) (by decide)
  have b8 := fun a : Int32 => bet (a := a) (n := 8) (by decide)
  exact and_congr (b7 a) (and_congr (b8 b) (and_congr (b8 d) (and_congr (b3 e) (and_congr (b3 i) (b2 j)))))
theorem V7_U7 {a j k : Int32} : V7 a j k ↔ U7 a j k := by
  unfold V7 U7
  have b3 := fun a : Int32 => bet (a := a) (n := 3) (by decide)
  exact ⟨fun h e => (h e).elim Or.inr (fun y => Or.inl ((b3 k).mp y)), fun h e => (h e).elim (fun y => Or.inr ((b3 k).mpr y)) Or.inl⟩
theorem tj_2i {f : Nat → Nat → Int32} {N : Nat} : ∀ m K, (up (tj f N) m K 0 = 2 ↔ ∃ k, K ≤ k ∧ k < K + m ∧ jr (h7 (f 12) k) (h7 (f 12) N))
  | 0, K => ⟨fun z => absurd (show (0 : Nat) = 2 from z) (by decide), fun ⟨k, a, b, _⟩ => absurd a (by omega)⟩
  | m + 1, K => by
    show up (tj f N) m (K + 1) (tj f N K 0) = 2 ↔ _
    by_cases q : jr (h7 (f 12) K) (h7 (f 12) N)
    · have : tj f N K 0 = 2 := if_pos q
      rw [this, tj_2]
      exact ⟨fun _ => ⟨K, Nat.le_refl _, by omega, q⟩, fun _ => rfl⟩
    · have : tj f N K 0 = 0 := if_neg q
      rw [this, tj_2i m (K + 1)]
      refine ⟨fun ⟨k, a, b, r⟩ => ⟨k, by omega, by omega, r⟩, fun ⟨k, a, b, r⟩ => ⟨k, ?_, by omega, r⟩⟩
      by_cases e : k = K
      · subst e; exact absurd r q
      · omega
theorem fi_none {p : Nat → Prop} (d : DecidablePred p) : ∀ m k, (@fi p d m k = none ↔ ∀ j, k ≤ j → j < k + m → ¬ p j)
  | 0, k => ⟨fun _ j a b => by omega, fun _ => rfl⟩
  | m + 1, k => by
    unfold fi
    by_cases q : p k
    · rw [if_pd q]
      exact ⟨fun z => absurd z (fun y => by cases y), fun z => absurd q (z k (Nat.le_refl _) (by omega))⟩
    · rw [if_nd q, fi_none d m (k + 1)]
      refine ⟨fun z j a b => ?_, fun z j a b => z j (by omega) (by omega)⟩
      by_cases e : j = k
      · subst e; exact q
      · exact z j (by omega) (by omega)
theorem fi_lt {p : Nat → Prop} (d : DecidablePred p) : ∀ m k x, @fi p d m k = some x → k ≤ x ∧ x < k + m ∧ p x
  | 0, k, x, h => by cases h
  | m + 1, k, x, h => by
    unfold fi at h
    by_cases q : p k
    · rw [if_pd q] at h
      cases h
      exact ⟨Nat.le_refl _, by omega, q⟩
    · rw [if_nd q] at h
      have := fi_lt d m (k + 1) x h
      exact ⟨by omega, by omega, this.2.2⟩
theorem je_jr {x y x' : Nat → Int32} (h : ∀ j, j < 7 → x j = x' j) (hx : SV x') (hy : y 5 ≠ 2 → y 6 = -1) : (cu x y = 0 ∧ x 6 = y 6) ↔ jr x' y := by
  rw [cu_0, h 0 (by decide), h 1 (by decide), h 2 (by decide), h 3 (by decide), h 4 (by decide), h 5 (by decide), h 6 (by decide)]
  unfold jr
  constructor
  · rintro ⟨⟨h0, h1, h2, h3, h4, h5⟩, h6⟩
    exact ⟨⟨⟨⟨⟨⟨Or.inr h6, h0⟩, h1⟩, h2⟩, h3⟩, h4⟩, h5⟩
  · rintro ⟨⟨⟨⟨⟨⟨h6, h0⟩, h1⟩, h2⟩, h3⟩, h4⟩, h5⟩
    refine ⟨⟨h0, h1, h2, h3, h4, h5⟩, ?_⟩
    rcases h6 with h6 | h6
    · rw [hx.2 h6, hy (by rw [← h5]; exact h6)]
    · exact h6
theorem nI_clle (s : Nat) : (nI s).toNatClampNeg ≤ s := by
  unfold nI
  show (Int32.ofNat s).toInt.toNat ≤ s
  rw [Int32.toInt_ofNat']
  have h2 : (s : Int).bmod (2 ^ 32) ≤ s := by
    rw [Int.bmod_def]
    split <;> omega
  exact Int.toNat_le.mpr h2
theorem SV_c {x y : Nat → Int32} (h : ∀ j, j < 7 → x j = y j) (hy : SV y) : SV x := by
  unfold SV at *
  rw [h 0 (by decide), h 1 (by decide), h 2 (by decide), h 3 (by decide), h 4 (by decide), h 5 (by decide), h 6 (by decide)]
  exact hy
theorem tfm_w7 {S I k : Nat} {x : Nat → Int32} (h : IV S f k) (hI : S ≤ I) : ∀ j, j < 7 → tfm (w7 f 12 I x) k j = tfm f k j := by
  have r : ∀ r', r' ≠ 12 → w7 f 12 I x r' = f r' := fun r' q => w7_r q
  have e : ∀ s, s < S → ∀ j, j < 7 → h7 (w7 f 12 I x 12) s j = h7 (f 12) s j := fun s q j hj => w7_o (by omega)
  have hs : f 13 k = 0 ∨ f 13 k = 4 → ∃ s, s < S ∧ f 14 k = nI s := by
    intro z
    rcases h with ⟨_, s⟩ | ⟨q, _⟩ | ⟨_, s, _⟩ | ⟨q, _⟩
    · exact s
    · rcases z with z | z <;> rw [z] at q <;> exact absurd q (by decide)
    · exact s
    · rcases z with z | z <;> rw [z] at q <;> exact absurd q (by decide)
  intro j hj
  unfold tfm
  rw [r 13 (by decide), r 14 (by decide), r 15 (by decide), r 16 (by decide)]
  by_cases k0 : f 13 k = 0
  · obtain ⟨s, s1, s2⟩ := hs (Or.inl k0)
    rw [if_pos k0, if_pos k0, s2]
    by_cases q : (nI s).toNatClampNeg < S
    · exact e _ q j hj
    · exfalso
      have : (nI s).toNatClampNeg ≤ s := nI_clle s
      omega
  · rw [if_neg k0, if_neg k0]
    by_cases k4 : f 13 k = 4
    · obtain ⟨s, s1, s2⟩ := hs (Or.inr k4)
      rw [if_pos k4, if_pos k4, s2]
      by_cases q : (nI s).toNatClampNeg < S
      · have := e _ q j hj
        unfold upd
        by_cases j2 : j = 2
        · rw [if_pos j2, if_pos j2]
        · rw [if_neg j2, if_neg j2]
          by_cases j1 : j = 1
          · rw [if_pos j1, if_pos j1]
          · rw [if_neg j1, if_neg j1]
            exact this
      · exfalso
        have : (nI s).toNatClampNeg ≤ s := nI_clle s
        omega
    · rw [if_neg k4, if_neg k4]
theorem J_sign (hb : BD c) (h : RLA c g f) (a b d e i j k : Int32) : JS cdA 24 116 [.int a, .int b, .int d, .int e, .int i, .int j, .int k] c g f := by
  have hbd := hb
  have hc := hb.1
  by_cases h1 : V6 a b d e i j
  · by_cases h2 : V7 a j k
    · by_cases hc30 : c 0 = 30
      · exact JS_x (e := 1) h (fun σ tg ad w hl => c_24f h1 h2 hc30) (fun hb => RO_5 fun τ d hd => c_116f (V6_U6.mp h1) (V7_U7.mp h2) (by rw [hd 0 (by decide)]; exact hc30)) rfl (by decide)
      · have hlt : c 0 < 30 := by omega
        have hy : (f7 a b d e i j k) 5 ≠ 2 → (f7 a b d e i j k) 6 = -1 := fun z => if_neg z
        have hx7 : ∀ q, q < 7 → h7 (w7 f 12 (c 0) (f7 a b d e i j k) 12) (c 0) q = f7 a b d e i j k q := fun q hq => w7_at hq
        have hjr : ∀ m, m < c 0 → (je g (f7 a b d e i j k) m ↔ jr (h7 (w7 f 12 (c 0) (f7 a b d e i j k) 12) m) (h7 (w7 f 12 (c 0) (f7 a b d e i j k) 12) (c 0))) := fun m hm => by
          have e1 := je_jr (h.s hm) (h.1 m hm).2 hy
          unfold je
          rw [e1]
          unfold jr
          rw [hx7 0 (by decide), hx7 1 (by decide), hx7 2 (by decide), hx7 3 (by decide), hx7 4 (by decide), hx7 5 (by decide), hx7 6 (by decide)]
          have o : ∀ q, q < 7 → h7 (w7 f 12 (c 0) (f7 a b d e i j k) 12) m q = h7 (f 12) m q := fun q hq => w7_o (by omega)
          rw [o 0 (by decide), o 1 (by decide), o 2 (by decide), o 3 (by decide), o 4 (by decide), o 5 (by decide), o 6 (by decide)]
        have hi' : ∀ c' : Nat → Nat, c 0 ≤ c' 0 → c' 1 = c 1 → ∀ g', g' 13 = g 13 ∧ g' 14 = g 14 ∧ g' 15 = g 15 ∧ g' 34 = g 34 → RLi c' g' (w7 f 12 (c 0) (f7 a b d e i j k)) := by
          intro c' q0 q1 g' qg
          have hi := h.2.1
          have r : ∀ r', r' ≠ 12 → w7 f 12 (c 0) (f7 a b d e i j k) r' = f r' := fun r' q => w7_r q
          unfold RLi
          rw [q1, qg.1, qg.2.1, qg.2.2.1, qg.2.2.2, r 13 (by decide), r 14 (by decide), r 15 (by decide), r 17 (by decide)]
          refine ⟨fun m hm => ?_, fun l hl => ?_⟩
          · obtain ⟨x1, x2, x3, x4, x5⟩ := hi.1 m hm
            refine ⟨x1, x2, x3, ?_, fun q hq => ?_⟩
            · unfold IV
              rw [r 13 (by decide), r 14 (by decide), r 15 (by decide), r 16 (by decide)]
              rcases x4 with ⟨y, s, y1, y2⟩ | y | ⟨y, ⟨s, y1, y2⟩, y3⟩ | y
              · exact Or.inl ⟨y, s, by omega, y2⟩
              · exact Or.inr (Or.inl y)
              · exact Or.inr (Or.inr (Or.inl ⟨y, ⟨s, by omega, y2⟩, y3⟩))
              · exact Or.inr (Or.inr (Or.inr y))
            · rw [x5 q hq, tfm_w7 x4 (Nat.le_refl _) q hq]
          · rw [rb_c ⟨r 13 (by decide), r 14 (by decide), r 15 (by decide)⟩]
            exact hi.2 l hl
        by_cases hz : ∃ m, m < c 0 ∧ je g (f7 a b d e i j k) m
        · obtain ⟨m, m1, m2⟩ := hz
          have t2 : up (tj (w7 f 12 (c 0) (f7 a b d e i j k)) (c 0)) (c 0) 0 0 = 2 := tj_2i (c 0) 0 |>.mpr ⟨m, by omega, by omega, (hjr m m1).mp m2⟩
          intro σ tg ad w hl
          have hf : ∃ x, @fi (je g (f7 a b d e i j k)) (jed g (f7 a b d e i j k)) (c 0) 0 = some x ∧ x < 2 ^ 31 := by
            cases e : @fi (je g (f7 a b d e i j k)) (jed g (f7 a b d e i j k)) (c 0) 0 with
            | none => exact absurd m2 ((fi_none _ (c 0) 0).mp e m (by omega) (by omega))
            | some x =>
              have := fi_lt _ (c 0) 0 x e
              exact ⟨x, rfl, by omega⟩
          obtain ⟨x, hx, hx2⟩ := hf
          have r : ∀ r', r' ≠ 12 → w7 f 12 (c 0) (f7 a b d e i j k) r' = f r' := fun r' q => w7_r q
          refine ⟨.inr 1, c, g, 0, 2, w7 f 12 (c 0) (f7 a b d e i j k), ⟨mm_bmp (mm_new σ (.inl (1, [.int a, .int b, .int d, .int e, .int i, .int j, .int (if j = 2 then k else -1)])) 7) 1 6, tg, ad, c_24j w h1 h2 hlt hx hx2, w.up (Nat.le_succ _), ?_, ?_, ?_⟩, RO_5 fun τ d hd => ?_, ?_, Or.inr ⟨1, rfl, rfl, by decide⟩⟩
          · intro q q1 q2
            have : q ≠ σ.2.1 := by have := w.2.2.2; omega
            exact if_neg this
          · show σ.2.2.1 + 1 + 1 ≤ _; omega
          · show σ.2.2.2 + 7 + 6 ≤ _; omega
          · have z := c_116j (σ := τ) (c := d) (f := f) (V6_U6.mp h1) (V7_U7.mp h2) (by rw [hd 0 (by decide)]; exact hlt) (by rw [hd 0 (by decide)]; exact t2)
            rw [hd 0 (by decide)] at z
            exact z
          · obtain ⟨hs, hi, hf, hr, hcl, hm⟩ := h
            refine ⟨fun m hm => ?_, hi' c (Nat.le_refl _) rfl g ⟨rfl, rfl, rfl, rfl⟩, RLf_f hf rfl ⟨rfl, rfl, rfl⟩ ⟨r 18 (by decide), r 19 (by decide), r 20 (by decide)⟩, RLr_f hr rfl ⟨rfl, rfl⟩ ⟨r 21 (by decide), r 22 (by decide)⟩, RLc_f hcl ⟨rfl, fun _ _ => rfl⟩ ⟨rfl, rfl, rfl, rfl⟩ ⟨r 23 (by decide), r 24 (by decide), r 25 (by decide), r 26 (by decide), r 27 (by decide), r 28 (by decide)⟩, RLm_f (fun i hi => by have := (hbd.2.2.2.2.2 i hi).1; omega) hm ⟨rfl, fun _ _ => rfl⟩ ⟨rfl, rfl, rfl, rfl, rfl⟩ ⟨r 23 (by decide), r 29 (by decide), r 30 (by decide), r 31 (by decide), r 32 (by decide)⟩⟩
            obtain ⟨x1, x2⟩ := hs m hm
            exact ⟨fun q hq => by rw [w7_o (by omega)]; exact x1 q hq, SV_c (fun q hq => w7_o (by omega)) x2⟩
        · have t0 : up (tj (w7 f 12 (c 0) (f7 a b d e i j k)) (c 0)) (c 0) 0 0 = 0 := by
            rcases tj_02 (f := w7 f 12 (c 0) (f7 a b d e i j k)) (N := c 0) (c 0) 0 with q | q
            · exact q
            · obtain ⟨m, m0, m1, m2⟩ := (tj_2i (c 0) 0).mp q
              exact absurd ⟨m, by omega, (hjr m (by omega)).mpr m2⟩ hz
          have hf : @fi (je g (f7 a b d e i j k)) (jed g (f7 a b d e i j k)) (c 0) 0 = none := (fi_none _ (c 0) 0).mpr fun m m0 m1 m2 => hz ⟨m, by omega, m2⟩
          intro σ tg ad w hl
          have r : ∀ r', r' ≠ 12 → w7 f 12 (c 0) (f7 a b d e i j k) r' = f r' := fun r' q => w7_r q
          have rg : ∀ r', r' ≠ 12 → w7 g 12 (c 0) (f7 a b d e i j k) r' = g r' := fun r' q => w7_r q
          have uc : ∀ q, q ≠ 0 → u2 c 0 (c 0 + 1) q = c q := fun q hq => u2_n hq
          refine ⟨.inl (some (.int (nI (c 0)))), u2 c 0 (c 0 + 1), w7 g 12 (c 0) (f7 a b d e i j k), nI (c 0), 0, w7 f 12 (c 0) (f7 a b d e i j k), ⟨_, _, _, c_24 w h1 h2 hlt hf, w.adds hlt rfl, ?_, ?_, ?_⟩, RO_k (by decide) fun τ d hd => ?_, ?_, Or.inl ⟨rfl, rfl⟩⟩
          · intro q q1 q2
            have : q ≠ σ.2.1 := by have := w.2.2.2; omega
            exact if_neg this
          · show σ.2.2.1 + 1 + 1 ≤ _; omega
          · show σ.2.2.2 + 7 + (2 * c 0 + 10) ≤ _; omega
          · have z := c_116 (σ := τ) (c := d) (f := f) (V6_U6.mp h1) (V7_U7.mp h2) (by rw [hd 0 (by decide)]; exact hlt) (by rw [hd 0 (by decide)]; exact t0)
            rw [hd 0 (by decide)] at z
            exact z
          · obtain ⟨hs, hi, hf, hr, hcl, hm⟩ := h
            refine ⟨fun m hm => ?_, hi' _ (by rw [u2_s]; omega) (uc 1 (by decide)) _ ⟨rg 13 (by decide), rg 14 (by decide), rg 15 (by decide), rg 34 (by decide)⟩, RLf_f hf (uc 2 (by decide)) ⟨rg 18 (by decide), rg 19 (by decide), rg 20 (by decide)⟩ ⟨r 18 (by decide), r 19 (by decide), r 20 (by decide)⟩, RLr_f hr (uc 3 (by decide)) ⟨rg 21 (by decide), rg 22 (by decide)⟩ ⟨r 21 (by decide), r 22 (by decide)⟩, RLc_f hcl ⟨uc 4 (by decide), fun q hq => uc q (by omega)⟩ ⟨rg 23 (by decide), rg 24 (by decide), rg 25 (by decide), rg 28 (by decide)⟩ ⟨r 23 (by decide), r 24 (by decide), r 25 (by decide), r 26 (by decide), r 27 (by decide), r 28 (by decide)⟩, RLm_f (fun i hi => by have := (hbd.2.2.2.2.2 i hi).1; omega) hm ⟨uc 4 (by decide), fun q hq => uc q (by omega)⟩ ⟨rg 40 (by decide), rg 41 (by decide), rg 42 (by decide), rg 43 (by decide), rg 44 (by decide)⟩ ⟨r 23 (by decide), r 29 (by decide), r 30 (by decide), r 31 (by decide), r 32 (by decide)⟩⟩
            rw [u2_s] at hm
            by_cases e : m = c 0
            · subst e
              refine ⟨fun q hq => by rw [w7_at hq, w7_at hq], SV_c (fun q hq => w7_at hq) ⟨h1, hy⟩⟩
            · obtain ⟨x1, x2⟩ := hs m (by omega)
              exact ⟨fun q hq => by rw [w7_o (by omega), w7_o (by omega)]; exact x1 q hq, SV_c (fun q hq => w7_o (by omega)) x2⟩
    · exact JS_x (e := 0) h (fun σ tg ad w hl => c_24x (fun z => h2 z.2)) (fun hb => RO_5 fun τ d hd => c_116x (fun z => h2 (V7_U7.mpr z.2))) rfl (by decide)
  · exact JS_x (e := 0) h (fun σ tg ad w hl => c_24x (fun z => h1 z.1)) (fun hb => RO_5 fun τ d hd => c_116x (fun z => h1 (V6_U6.mpr z.1))) rfl (by decide)
end
