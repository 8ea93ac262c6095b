/-! JOINT: readBack -/
noncomputable def cn (P : Nat → Prop) (d : DecidablePred P) : Nat → Nat
  | 0 => 0
  | k + 1 => @ite _ (P k) (d k) (cn P d k + 1) (cn P d k)
theorem cn_le {P : Nat → Prop} (d : DecidablePred P) : ∀ k, cn P d k ≤ k
  | 0 => Nat.le_refl _
  | k + 1 => by
    have := cn_le d k
    unfold cn
    split <;> omega
theorem fi_last {P : Nat → Prop} (d : DecidablePred P) : ∀ m k, @fi P d (m + 1) k = match @fi P d m k with
    | some x => some x
    | none => @ite _ (P (k + m)) (d (k + m)) (some (k + m)) none
  | 0, k => by
    unfold fi
    by_cases z : P k
    · rw [if_pd z]; exact (if_pd z).symm
    · rw [if_nd z]; exact (if_nd z).symm
  | m + 1, k => by
    have e : @fi P d (m + 1 + 1) k = @ite _ (P k) (d k) (some k) (@fi P d (m + 1) (k + 1)) := rfl
    have e2 : @fi P d (m + 1) k = @ite _ (P k) (d k) (some k) (@fi P d m (k + 1)) := rfl
    rw [e, e2]
    by_cases z : P k
    · rw [if_pd z, if_pd z]
    · rw [if_nd z, if_nd z, fi_last d m (k + 1), show k + 1 + m = k + (m + 1) by omega]
theorem cn_0 {P : Nat → Prop} (d : DecidablePred P) : ∀ k, cn P d k = 0 ↔ @fi P d k 0 = none
  | 0 => ⟨fun _ => rfl, fun _ => rfl⟩
  | k + 1 => by
    have ih := cn_0 d k
    rw [fi_last d k 0, Nat.zero_add]
    unfold cn
    by_cases z : P k
    · rw [if_pd z, if_pd z]
      refine ⟨fun y => absurd y (by omega), fun y => ?_⟩
      cases e : @fi P d k 0 with
      | none => rw [e] at y; exact absurd y (fun w => by cases w)
      | some x => rw [e] at y; exact absurd y (fun w => by cases w)
    · rw [if_nd z, if_nd z, ih]
      cases e : @fi P d k 0 with
      | none => exact ⟨fun _ => rfl, fun _ => rfl⟩
      | some x => exact ⟨fun w => absurd w (fun w => by cases w), fun w => absurd w (fun w => by cases w)⟩
theorem rdl_at {f : Nat → Nat → Int32} {x : Nat → Int32} : ∀ k (y : Int32 × Int32), rdl f x k y = ((match @fi (fun s => jmp f s x) (jmd f x) k 0 with
    | some j => nI j
    | none => y.1), y.2 + nI (cn (fun s => jmp f s x) (jmd f x) k))
  | 0, y => by
    show y = (y.1, y.2 + nI 0)
    rw [nI_0, Int32.add_zero]
  | k + 1, y => by
    have e : rdl f x (k + 1) y = rdl f x k (@ite _ (jmp f k x) (jmd f x k) (nI k, y.2 + 1) y) := rfl
    rw [e, rdl_at k, fi_last, Nat.zero_add]
    have ec : cn (fun s => jmp f s x) (jmd f x) (k + 1) = @ite _ (jmp f k x) (jmd f x k) (cn (fun s => jmp f s x) (jmd f x) k + 1) (cn (fun s => jmp f s x) (jmd f x) k) := rfl
    rw [ec]
    by_cases z : jmp f k x
    · rw [if_pd z, if_pd z, if_pd z]
      have e2 : y.2 + 1 + nI (cn (fun s => jmp f s x) (jmd f x) k) = y.2 + nI (cn (fun s => jmp f s x) (jmd f x) k + 1) := by
        rw [← nI_1, Int32.add_assoc, Int32.add_comm 1]
      cases q : @fi (fun s => jmp f s x) (jmd f x) k 0 with
      | none => exact Prod.ext rfl e2
      | some j => exact Prod.ext rfl e2
    · rw [if_nd z, if_nd z, if_nd z]
      cases q : @fi (fun s => jmp f s x) (jmd f x) k 0 with
      | none => rfl
      | some j => rfl
theorem jn_cn {g : Nat → Nat → Int32} {x : Nat → Int32} {P : Nat → Prop} (d : DecidablePred P) {N : Nat} (h : ∀ k, k < N → (je g x k ↔ P k)) : ∀ m k, k + m = N → ∀ n : Int32, up (jn g x) m k n + nI (cn P d k) = n + nI (cn P d N)
  | 0, k, e, n => by
    have : k = N := by omega
    subst this
    rfl
  | m + 1, k, e, n => by
    show up (jn g x) m (k + 1) (jn g x k n) + _ = _
    have ih := jn_cn d h m (k + 1) (by omega) (jn g x k n)
    have ec : cn P d (k + 1) = @ite _ (P k) (d k) (cn P d k + 1) (cn P d k) := rfl
    by_cases z : P k
    · have ej : jn g x k n = n + 1 := by
        have := (h k (by omega)).mpr z
        unfold je at this
        unfold jn
        exact if_pos this
      rw [ec, if_pd z, ej, ← nI_1] at ih
      rw [ej]
      have a1 : up (jn g x) m (k + 1) (n + 1) + nI (cn P d k) + 1 = n + nI (cn P d N) + 1 := by
        rw [Int32.add_assoc, ih, Int32.add_assoc, Int32.add_assoc, Int32.add_comm 1]
      exact add1_inj.mp a1
    · have ej : jn g x k n = n := by
        have : ¬ je g x k := fun y => z ((h k (by omega)).mp y)
        unfold je at this
        unfold jn
        exact if_neg this
      rw [ec, if_nd z, ej] at ih
      rw [ej]
      exact ih
theorem ram_s {n j : Nat} (hn : n < 31) (hn0 : 0 < n) (hj : j < 30) : ram (10000 * nI n + nI j + 1) 0 = 0 ∧ ram (10000 * nI n + nI j + 1) 1 = nI j ∧ ram (10000 * nI n + nI j + 1) 2 = nI n := by
  have d : ∀ (n : Fin 31) (j : Fin 30), 0 < n.1 → (¬ 10000 * nI n.1 + nI j.1 + 1 = -1) ∧ ((10000 * nI n.1 + nI j.1 + 1) - (10000 * nI n.1 + nI j.1 + 1) / 10000 * 10000) / 100 = 0 ∧ ((10000 * nI n.1 + nI j.1 + 1) - (10000 * nI n.1 + nI j.1 + 1) / 100 * 100) - 1 = nI j.1 ∧ (10000 * nI n.1 + nI j.1 + 1) / 10000 = nI n.1 := by decide +kernel
  obtain ⟨d0, d1, d2, d3⟩ := d ⟨n, hn⟩ ⟨j, hj⟩ hn0
  unfold ram
  rw [if_neg d0, if_neg d0, if_neg d0, if_pos rfl, if_neg (by decide), if_pos rfl, if_neg (by decide), if_neg (by decide)]
  exact ⟨d1, d2, d3⟩
theorem ram_p {k : Nat} (hk : k < 4) : ram (200 + nI k + 1) 0 = 2 ∧ ram (200 + nI k + 1) 1 = nI k ∧ ram (200 + nI k + 1) 2 = 0 := by
  unfold ram
  have : k = 0 ∨ k = 1 ∨ k = 2 ∨ k = 3 := by omega
  rcases this with e | e | e | e <;> subst e <;> decide
theorem ram_l {L : Nat} (hL : L < 26) {u v : Int32} (e : 8 * u + v = nI L) : ram (500 + 8 * u + v + 1) 0 = 5 ∧ ram (500 + 8 * u + v + 1) 1 = nI L ∧ ram (500 + 8 * u + v + 1) 2 = 0 := by
  rw [Int32.add_assoc 500, e]
  have d : ∀ L : Fin 26, (¬ 500 + nI L.1 + 1 = -1) ∧ ((500 + nI L.1 + 1) - (500 + nI L.1 + 1) / 10000 * 10000) / 100 = 5 ∧ ((500 + nI L.1 + 1) - (500 + nI L.1 + 1) / 100 * 100) - 1 = nI L.1 ∧ (500 + nI L.1 + 1) / 10000 = 0 := by decide +kernel
  obtain ⟨d0, d1, d2, d3⟩ := d ⟨L, hL⟩
  unfold ram
  rw [if_neg d0, if_neg d0, if_neg d0, if_pos rfl, if_neg (by decide), if_pos rfl, if_neg (by decide), if_neg (by decide)]
  exact ⟨d1, d2, d3⟩
section
variable {c : Nat → Nat} {g f : Nat → Nat → Int32}
theorem je_jmp {x x' : Nat → Int32} {k : Nat} (h : ∀ j, j < 7 → x j = x' j) (hs : ∀ j, j < 7 → h7 (g 12) k j = h7 (f 12) k j) (hk : SV (h7 (f 12) k)) (hx : SV x') : je g x k ↔ jmp f k x' := by
  have e := je_jr hs hk (y := x) (by rw [h 5 (by decide), h 6 (by decide)]; exact hx.2)
  unfold je
  rw [e]
  unfold jr jmp
  rw [h 0 (by decide), h 1 (by decide), h 2 (by decide), h 3 (by decide), h 4 (by decide), h 5 (by decide), h 6 (by decide)]
  show _ ↔ (((((h7 (f 12) k 0 = x' 0 ∧ h7 (f 12) k 1 = x' 1) ∧ h7 (f 12) k 2 = x' 2) ∧ h7 (f 12) k 3 = x' 3) ∧ h7 (f 12) k 4 = x' 4) ∧ h7 (f 12) k 5 = x' 5) ∧ (x' 5 ≠ 2 ∨ h7 (f 12) k 6 = x' 6)
  constructor
  · rintro ⟨⟨⟨⟨⟨⟨h6, h0⟩, h1⟩, h2⟩, h3⟩, h4⟩, h5⟩
    exact ⟨⟨⟨⟨⟨⟨h0, h1⟩, h2⟩, h3⟩, h4⟩, h5⟩, by rw [← h5]; exact h6⟩
  · rintro ⟨⟨⟨⟨⟨⟨h0, h1⟩, h2⟩, h3⟩, h4⟩, h5⟩, h6⟩
    exact ⟨⟨⟨⟨⟨⟨by rw [h5]; exact h6, h0⟩, h1⟩, h2⟩, h3⟩, h4⟩, h5⟩
/-- the answers of both -/
theorem ra_ram {G F : Nat → Nat → Int32} {S k : Nat} {q : Int32} (hS : S ≤ 30) (hs : ∀ s, s < S → (∀ j, j < 7 → h7 (G 12) s j = h7 (F 12) s j) ∧ SV (h7 (F 12) s)) (hx : SV (h7 (F 33) k)) (h33 : ∀ j, j < 7 → h7 (G 33) k j = h7 (F 33) k j) (h13 : G 13 k = F 13 k) (hq : 0 ≤ q ∧ q < 3) : ra G S k q = ram (rdm F S (h7 (F 33) k) (F 13 k)) q := by
  have q3 : q = 0 ∨ q = 1 ∨ q = 2 := by
    obtain ⟨q', hq', rfl⟩ := nI_below (n := 3) (by decide) hq.1 hq.2
    have : q' = 0 ∨ q' = 1 ∨ q' = 2 := by omega
    rcases this with e | e | e <;> subst e
    · exact Or.inl rfl
    · exact Or.inr (Or.inl rfl)
    · exact Or.inr (Or.inr rfl)
  have hje : ∀ s, s < S → (je G (h7 (G 33) k) s ↔ jmp F s (h7 (F 33) k)) := fun s h => je_jmp h33 (hs s h).1 (hs s h).2 hx
  have efi : @fi (je G (h7 (G 33) k)) (jed G (h7 (G 33) k)) S 0 = @fi (fun s => jmp F s (h7 (F 33) k)) (jmd F (h7 (F 33) k)) S 0 := fi_cg _ _ hje S 0 (by omega)
  have ejn : up (jn G (h7 (G 33) k)) S 0 0 = nI (cn (fun s => jmp F s (h7 (F 33) k)) (jmd F (h7 (F 33) k)) S) := by
    have z := jn_cn (jmd F (h7 (F 33) k)) hje S 0 (by omega) 0
    have c0 : cn (fun s => jmp F s (h7 (F 33) k)) (jmd F (h7 (F 33) k)) 0 = 0 := rfl
    rw [c0, nI_0, Int32.add_zero, Int32.zero_add] at z
    exact z
  have er := rdl_at (f := F) (x := h7 (F 33) k) S (-1, 0)
  have cle := cn_le (jmd F (h7 (F 33) k)) S
  have c0 := cn_0 (jmd F (h7 (F 33) k)) S
  have x0 := h33 0 (by decide)
  have x1 := h33 1 (by decide)
  have x2 := h33 2 (by decide)
  have x3 := h33 3 (by decide)
  have x4 := h33 4 (by decide)
  have erf : rf G S (h7 (G 33) k) = fo (@fi (fun s => jmp F s (h7 (F 33) k)) (jmd F (h7 (F 33) k)) S 0) := by
    unfold rf; rw [efi]
  have erp : rp (h7 (G 33) k) = rp (h7 (F 33) k) := by unfold rp; rw [x0, x1, x2, x3, x4]
  have erl : rl (h7 (G 33) k) = rl (h7 (F 33) k) := by unfold rl; rw [x0, x1, x2, x3, x4]
  have hSV := hx
  -- the point
  have pcase : ∀ j, j < 4 → rht (h7 (F 33) k) (F 13 k) j → ra G S k q = ram (200 + nI j + 1) q := fun j hj hh => by
    obtain ⟨⟨st, k0, k4⟩, e1, e0, e3⟩ := hh
    have erj : rp (h7 (F 33) k) = nI j := by
      unfold rp
      rw [if_pos ⟨st, e3, e0⟩, e1]
      have : j = 0 ∨ j = 1 ∨ j = 2 ∨ j = 3 := by omega
      rcases this with e | e | e | e <;> subst e <;> decide
    have ek : rk G S k = 2 := by
      unfold rk
      rw [h13, erp, erj]
      exact if_pos ⟨fun z => z.elim k0 k4, nI_m1 (by omega)⟩
    obtain ⟨r0, r1, r2⟩ := ram_p hj
    unfold ra
    rw [ek]
    rcases q3 with e | e | e <;> subst e
    · rw [if_pos rfl, r0]
    · rw [if_neg (by decide), if_pos rfl, r1]
      unfold rn
      rw [if_neg (by decide), if_pos rfl, erp, erj]
    · rw [if_neg (by decide), if_neg (by decide), if_neg (by decide), r2]
  unfold rdm
  by_cases p0 : rht (h7 (F 33) k) (F 13 k) 0
  · rw [if_pd p0]; exact pcase 0 (by decide) p0
  rw [if_nd p0]
  by_cases p1 : rht (h7 (F 33) k) (F 13 k) 1
  · rw [if_pd p1]; exact pcase 1 (by decide) p1
  rw [if_nd p1]
  by_cases p2 : rht (h7 (F 33) k) (F 13 k) 2
  · rw [if_pd p2]; exact pcase 2 (by decide) p2
  rw [if_nd p2]
  by_cases p3 : rht (h7 (F 33) k) (F 13 k) 3
  · rw [if_pd p3]; exact pcase 3 (by decide) p3
  rw [if_nd p3]
  have np : ¬ (¬ (F 13 k = 0 ∨ F 13 k = 4) ∧ rp (h7 (F 33) k) ≠ -1) := by
    rintro ⟨nk, hp⟩
    unfold rp at hp
    by_cases z : (h7 (F 33) k 1 = h7 (F 33) k 2 ∧ h7 (F 33) k 3 = h7 (F 33) k 4) ∧ h7 (F 33) k 3 = 0 ∧ h7 (F 33) k 0 = 1
    · rw [if_pos z] at hp
      have st : stl (h7 (F 33) k) (F 13 k) := ⟨z.1, fun y => nk (Or.inl y), fun y => nk (Or.inr y)⟩
      unfold la at hp
      by_cases a3 : h7 (F 33) k 1 = 3
      · exact p0 ⟨st, a3, z.2.2, z.2.1⟩
      · rw [if_neg a3] at hp
        by_cases a5 : h7 (F 33) k 1 = 5
        · exact p1 ⟨st, a5, z.2.2, z.2.1⟩
        · rw [if_neg a5] at hp
          by_cases a0 : h7 (F 33) k 1 = 0
          · exact p2 ⟨st, a0, z.2.2, z.2.1⟩
          · rw [if_neg a0] at hp
            by_cases a2 : h7 (F 33) k 1 = 2
            · exact p3 ⟨st, a2, z.2.2, z.2.1⟩
            · rw [if_neg a2] at hp
              exact hp rfl
    · rw [if_neg z] at hp
      exact hp rfl
  -- the letter
  obtain ⟨u, hu, eu⟩ := nI_below (n := 4) (by decide) hx.1.2.2.2.1.1 hx.1.2.2.2.1.2
  obtain ⟨v, hv, ev⟩ := nI_below (n := 8) (by decide) hx.1.1.1 hx.1.1.2
  have eL : 8 * h7 (F 33) k 3 + h7 (F 33) k 0 = nI (8 * u + v) := by
    rw [eu, ev, show (8 : Int32) * nI u = nI (8 * u) from nI_mul 8 u, nI_add]
  by_cases pl' : rlt (h7 (F 33) k) (F 13 k)
  · rw [if_pd pl']
    obtain ⟨⟨st, k0, k4⟩, e1, e2⟩ := pl'
    have hL : 8 * u + v < 26 := by
      rw [eL] at e2
      exact (nI_ltI (b := 26) (by omega) (by decide)).mp e2
    have erj : rl (h7 (F 33) k) = nI (8 * u + v) := by
      unfold rl
      rw [if_pos ⟨st, e1, by rw [eL]; exact nI_pos' (by omega), e2⟩, eL]
    have ek : rk G S k = 5 := by
      unfold rk
      rw [h13, erp, erl, if_neg np, erj]
      exact if_pos ⟨fun z => z.elim k0 k4, nI_m1 (by omega)⟩
    obtain ⟨r0, r1, r2⟩ := ram_l hL eL
    unfold ra
    rw [ek]
    rcases q3 with e | e | e <;> subst e
    · rw [if_pos rfl, r0]
    · rw [if_neg (by decide), if_pos rfl, r1]
      unfold rn
      rw [if_neg (by decide), if_neg (by decide), if_pos rfl, erl, erj]
    · rw [if_neg (by decide), if_neg (by decide), if_neg (by decide), r2]
  rw [if_nd pl']
  have nl : ¬ (¬ (F 13 k = 0 ∨ F 13 k = 4) ∧ rl (h7 (F 33) k) ≠ -1) := by
    rintro ⟨nk, hp⟩
    unfold rl at hp
    by_cases z : (h7 (F 33) k 1 = h7 (F 33) k 2 ∧ h7 (F 33) k 3 = h7 (F 33) k 4) ∧ h7 (F 33) k 1 = 4 ∧ 0 ≤ 8 * h7 (F 33) k 3 + h7 (F 33) k 0 ∧ 8 * h7 (F 33) k 3 + h7 (F 33) k 0 < 26
    · exact pl' ⟨⟨z.1, fun y => nk (Or.inl y), fun y => nk (Or.inr y)⟩, z.2.1, z.2.2.2⟩
    · rw [if_neg z] at hp
      exact hp rfl
  have ek : rk G S k = if fo (@fi (fun s => jmp F s (h7 (F 33) k)) (jmd F (h7 (F 33) k)) S 0) = -1 then -1 else 0 := by
    unfold rk
    rw [h13, erp, erl, if_neg np, if_neg nl, erf]
  unfold rdt ra
  rw [er, ek, ejn]
  show _ = ram (if (0 : Int32) + nI (cn (fun s => jmp F s (h7 (F 33) k)) (jmd F (h7 (F 33) k)) S) = 0 then -1 else 10000 * (0 + nI (cn (fun s => jmp F s (h7 (F 33) k)) (jmd F (h7 (F 33) k)) S)) + _ + 1) q
  rw [Int32.zero_add]
  cases ef : @fi (fun s => jmp F s (h7 (F 33) k)) (jmd F (h7 (F 33) k)) S 0 with
  | none =>
    have z := c0.mpr ef
    rw [z, if_pos (show fo none = -1 from rfl), if_pos (show nI 0 = 0 from rfl)]
    unfold ram rn
    rcases q3 with e | e | e <;> subst e <;> rfl
  | some j =>
    have hj := (fi_lt _ S 0 j ef).2.1
    have z : 0 < cn (fun s => jmp F s (h7 (F 33) k)) (jmd F (h7 (F 33) k)) S := by
      rcases Nat.eq_zero_or_pos (cn (fun s => jmp F s (h7 (F 33) k)) (jmd F (h7 (F 33) k)) S) with w | w
      · have := c0.mp w
        rw [ef] at this
        cases this
      · exact w
    have ne : ¬ fo (some j) = -1 := nI_m1 (k := j) (by omega)
    obtain ⟨r0, r1, r2⟩ := ram_s (n := cn (fun s => jmp F s (h7 (F 33) k)) (jmd F (h7 (F 33) k)) S) (j := j) (by omega) z (by omega)
    rw [if_neg ne, if_neg (nI_ne0 z (by omega))]
    show _ = ram (10000 * nI _ + nI j + 1) q
    rcases q3 with e | e | e <;> subst e
    · rw [if_pos rfl, r0]
    · rw [if_neg (by decide), if_pos rfl, r1]
      unfold rn
      rw [if_pos rfl, erf, ef]
      rfl
    · rw [if_neg (by decide), if_neg (by decide), if_pos rfl, r2]
theorem J_readBack (hb : BD c) (h : RLA c g f) (p q : Int32) : JS cdN 70 153 [.int p, .int q] c g f := by
  have hbd := hb
  obtain ⟨b0, b1, b2, b3, b4, b5⟩ := hb
  have hx : (0 ≤ q ∧ q < 3) ↔ (0 ≤ q ∧ q ≤ 2) := bet (n := 2) (by decide)
  by_cases h1 : 0 ≤ p ∧ p < nI (c 1)
  · by_cases h2 : 0 ≤ q ∧ q < 3
    · obtain ⟨k, hk, rfl⟩ := inN (by omega) h1
      have hv := h.2.1.vi
      have hu := h.2.1.LU
      have rh := h.rh hbd
      have e := ra_ram (G := apc (c 1) (c 3) g) (F := apm (c 1) (c 3) f) (S := c 0) (k := k) (q := q) b0 (fun s hs => by
        rw [apc_r (by decide), apm_r (by decide)]
        exact ⟨h.s hs, (h.1 s hs).2⟩) (apm_HV hbd h k hk) (fun j hj => rh.2 _ (by omega)) (rh.1 k hk).1 h2
      refine JS_q (g' := apc (c 1) (c 3) g) (f' := apm (c 1) (c 3) f) (RLA_fr hbd h (fun r h3 _ _ _ => apc_r h3) (fun r hr => apm_r hr)) (v := ram (rdm (apm (c 1) (c 3) f) (c 0) (h7 (apm (c 1) (c 3) f 33) k) (apm (c 1) (c 3) f 13 k)) q) (fun σ tg ad w hl hl2 => ?_) (fun hb => RO_5 fun τ d hd => ?_)
      · rw [c_70 w hl2 hv hu hk h2, e]
      · have z := c_153 (σ := τ) (c := d) (f := f) (k := k) (q := q) (by rw [hd 0 (by decide)]; exact b0) (by rw [hd 1 (by decide)]; exact b1) (by rw [hd 3 (by decide)]; exact b3) (by rw [hd 1 (by decide)]; exact h.2.1.vm hbd) (by rw [hd 1 (by decide)]; exact hk) (hx.mp h2)
        rw [hd 0 (by decide), hd 1 (by decide), hd 3 (by decide)] at z
        exact z
    · exact JS_x (e := 0) h (fun σ tg ad w hl => c_70y h1 h2) (fun hb => RO_5 fun τ d hd => c_153y (by rw [hd 1 (by decide)]; exact b1) (by rw [hd 1 (by decide)]; exact h1) (fun z => h2 (hx.mpr z))) rfl (by decide)
  · exact JS_x (e := 2) h (fun σ tg ad w hl => c_70x h1) (fun hb => RO_5 fun τ d hd => c_153x (by rw [hd 1 (by decide)]; exact b1) (by rw [hd 1 (by decide)]; exact h1)) rfl (by decide)
end
