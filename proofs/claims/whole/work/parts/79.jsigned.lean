/-! JOINT: signed and at -/
theorem sgs_r {r : Nat} (hr : r ≠ 35) : ∀ m k (x : Int32 × (Nat → Nat → Int32)), (up sgs m k x).2 r = x.2 r
  | 0, k, x => rfl
  | m + 1, k, x => by
    show (up sgs m (k + 1) (sgs k x)).2 r = _
    rw [sgs_r hr m (k + 1)]
    unfold sgs
    show uf (uf (uf x.2 35 _ _) 35 _ _) 35 _ _ r = _
    rw [uf_n hr, uf_n hr, uf_n hr]
section
variable {c : Nat → Nat} {g f : Nat → Nat → Int32}
theorem sga_r {N R r : Nat} (h3 : r ≠ 33) (h5 : r ≠ 35) : sga N R g r = g r := by
  unfold sga
  rw [sgs_r h5]
  exact apc_r h3
theorem RLA.rh (hb : BD c) (h : RLA c g f) : RH (apc (c 1) (c 3) g) (apm (c 1) (c 3) f) (c 1) := ap_RH (fun k hk => ⟨(h.2.1.1 k hk).1, (h.2.1.1 k hk).2.1⟩) h.2.1.rt (h.rx hb)
theorem RLA.after (hb : BD c) (h : RLA c g f) : RLA c (sga (c 1) (c 3) g) (apm (c 1) (c 3) f) := RLA_fr hb h (fun r h3 h5 _ _ => sga_r h3 h5) (fun r hr => apm_r hr)
theorem sga_33 (hb : BD c) (h : RLA c g f) {j : Nat} (hj : j < 7 * c 1) : sga (c 1) (c 3) g 33 j = apm (c 1) (c 3) f 33 j := by
  unfold sga
  rw [sgs_r (by decide)]
  exact (h.rh hb).2 j hj
theorem sga_35 (hb : BD c) (h : RLA c g f) {k : Nat} (hk : k < c 1) : sga (c 1) (c 3) g 35 (3 * k + 0) = bgn (apm (c 1) (c 3) f 33) k ∧ sga (c 1) (c 3) g 35 (3 * k + 1) = bgn (apm (c 1) (c 3) f 33) k + tmq (apm (c 1) (c 3) f 33) k ∧ sga (c 1) (c 3) g 35 (3 * k + 2) = bgn (apm (c 1) (c 3) f 33) (k + 1) :=
  (sg_at (r := apm (c 1) (c 3) f 33) (N := c 1) (c 1) 0 0 (apc (c 1) (c 3) g) (by omega) rfl (fun j hj => (h.rh hb).2 j hj) k).1 (by omega) hk
theorem J_signed (hb : BD c) (h : RLA c g f) (p q : Int32) : JS cdN 68 148 [.int p, .int q] c g f := by
  have hbd := hb
  obtain ⟨b0, b1, b2, b3, b4, b5⟩ := hb
  have hx : (0 ≤ q ∧ q < 9) ↔ (0 ≤ q ∧ q ≤ 8) := bet (n := 8) (by decide)
  by_cases h1 : 0 ≤ p ∧ p < nI (c 1)
  · by_cases h2 : 0 ≤ q ∧ q < 9
    · obtain ⟨k, hk, rfl⟩ := inN (by omega) h1
      obtain ⟨q', hq, rfl⟩ := nI_below (n := 9) (by decide) h2.1 h2.2
      have hv := h.2.1.vi
      have hu := h.2.1.LU
      have e : sv (sga (c 1) (c 3) g) k q' = svm (apm (c 1) (c 3) f) k q' := by
        obtain ⟨t0, t1, t2⟩ := sga_35 hbd h hk
        unfold sv svm
        by_cases q6 : q' < 6
        · rw [if_pos q6, if_pos q6]
          exact sga_33 hbd h (by omega)
        · rw [if_neg q6, if_neg q6]
          have : q' = 6 ∨ q' = 7 ∨ q' = 8 := by omega
          rcases this with z | z | z <;> subst z
          · exact t0
          · exact t1
          · exact t2.trans (Int32.add_assoc ..).symm
      refine JS_q (h.after hbd) (v := svm (apm (c 1) (c 3) f) k q') (fun σ tg ad w hl _ => ?_) (fun hb => RO_5 fun τ d hd => ?_)
      · rw [c_68 w hv hu hk hq, e]
      · rw [← hd 1 (by decide), ← hd 3 (by decide)]
        exact c_148 (by rw [hd 1 (by decide)]; exact b1) (by rw [hd 3 (by decide)]; exact b3) (by rw [hd 1 (by decide)]; exact h.2.1.vm hbd) (by rw [hd 1 (by decide)]; exact hk) hq
    · exact JS_x (e := 0) h (fun σ tg ad w hl => c_68y h1 h2) (fun hb => RO_5 fun τ d hd => c_148y (by rw [hd 1 (by decide)]; exact b1) (by rw [hd 1 (by decide)]; exact h1) (fun z => h2 (hx.mpr z))) rfl (by decide)
  · exact JS_x (e := 2) h (fun σ tg ad w hl => c_68x h1) (fun hb => RO_5 fun τ d hd => c_148x (by rw [hd 1 (by decide)]; exact b1) (by rw [hd 1 (by decide)]; exact h1)) rfl (by decide)
-- at
/-- bgn and steps as natural numbers -/
theorem nat_ticks {F : Nat → Nat → Int32} {N : Nat} (h : HV F N) (hN : N ≤ 14) : ∃ B s : Nat → Nat, (∀ k, k ≤ N → bgn (F 33) k = nI (B k) ∧ B k ≤ 12 * k) ∧ (∀ k, k < N → B (k + 1) = B k + s k ∧ tmq (F 33) k + tmk (h7 (F 33) k) = nI (s k) ∧ s k ≤ 12) := by
  refine ⟨fun k => (bgn (F 33) k).toNatClampNeg, fun k => (tmq (F 33) k + tmk (h7 (F 33) k)).toNatClampNeg, fun k hk => ?_, fun k hk => ?_⟩
  · obtain ⟨n, h1, h2⟩ := bgn_n h k hk
    show bgn (F 33) k = nI (bgn (F 33) k).toNatClampNeg ∧ (bgn (F 33) k).toNatClampNeg ≤ 12 * k
    rw [h2, nI_clamp (by omega)]
    exact ⟨rfl, h1⟩
  · obtain ⟨n, h1, h2⟩ := bgn_n h k (by omega)
    obtain ⟨a, a1, a2⟩ := tmq_n h hk
    obtain ⟨b, b1, b2⟩ := tmk_n (h k hk)
    show (bgn (F 33) k + (tmq (F 33) k + tmk (h7 (F 33) k))).toNatClampNeg = (bgn (F 33) k).toNatClampNeg + (tmq (F 33) k + tmk (h7 (F 33) k)).toNatClampNeg ∧ tmq (F 33) k + tmk (h7 (F 33) k) = nI (tmq (F 33) k + tmk (h7 (F 33) k)).toNatClampNeg ∧ (tmq (F 33) k + tmk (h7 (F 33) k)).toNatClampNeg ≤ 12
    rw [h2, a2, b2, nI_add, nI_add, nI_clamp (by omega), nI_clamp (by omega), nI_clamp (by omega)]
    exact ⟨rfl, rfl, by omega⟩
theorem wk_fi {r : Nat → Int32} {B s : Nat → Nat} {N T : Nat} {P : Nat → Prop} (d : DecidablePred P) (hT : T < 2 ^ 31) (hB : ∀ k, k < N → B (k + 1) = B k + s k ∧ tmq r k + tmk (h7 r k) = nI (s k) ∧ s k ≤ 12) (hP : ∀ k, k < N → (P k ↔ T < B (k + 1))) : ∀ m k, k + m = N → B k ≤ T → (∀ K, @fi P d m k = some K → wk r m k (nI (T - B k)) = (K, nI (T - B K)) ∧ K < N ∧ B K ≤ T ∧ T < B (K + 1)) ∧ (@fi P d m k = none → (wk r m k (nI (T - B k))).1 = N)
  | 0, k, e, hk => ⟨fun K z => absurd z (fun y => by cases y), fun _ => (by show k = N; omega)⟩
  | m + 1, k, e, hk => by
    obtain ⟨h1, h2, h3⟩ := hB k (by omega)
    have hp := hP k (by omega)
    unfold fi wk
    rw [h2]
    have e1 : (nI (T - B k) < nI (s k)) ↔ T < B (k + 1) := by
      rw [nI_ltI (by omega) (by omega), h1]
      omega
    by_cases z : T < B (k + 1)
    · rw [if_pd (hp.mpr z), if_pos (e1.mpr z)]
      exact ⟨fun K q => (by cases q; exact ⟨rfl, by omega, hk, z⟩), fun q => absurd q (fun y => by cases y)⟩
    · rw [if_nd (fun y => z (hp.mp y)), if_neg (fun y => z (e1.mp y)), nI_sub (by omega), show T - B k - s k = T - B (k + 1) by omega]
      exact wk_fi d hT hB hP m (k + 1) (by omega) (by omega)
theorem cw_alg {a b : Int32} {n : Nat} (ha : 0 ≤ a ∧ a < 9) (hb : 0 ≤ b ∧ b < 9) (hn : n < 9) : cw a b (nI n) = alg a b n := by
  obtain ⟨x, hx, rfl⟩ := nI_below (n := 9) (by decide) ha.1 ha.2
  obtain ⟨y, hy, rfl⟩ := nI_below (n := 9) (by decide) hb.1 hb.2
  have d : ∀ x y n : Fin 9, cw (nI x.1) (nI y.1) (nI n.1) = alg (nI x.1) (nI y.1) n.1 := by decide +kernel
  exact d ⟨x, hx⟩ ⟨y, hy⟩ ⟨n, hn⟩
theorem aq_nI {n : Nat} (h : n < 2 ^ 31) : aq (nI n) = n := nI_clamp h
theorem av_avm (hb : BD c) (h : RLA c g f) {T K q : Nat} (hq : q < 8) (hK : K < c 1) {B s : Nat → Nat} (hT : T < 2 ^ 31) (hB1 : ∀ k, k ≤ c 1 → bgn (apm (c 1) (c 3) f 33) k = nI (B k) ∧ B k ≤ 12 * k) (hB : ∀ k, k < c 1 → B (k + 1) = B k + s k ∧ tmq (apm (c 1) (c 3) f 33) k + tmk (h7 (apm (c 1) (c 3) f 33) k) = nI (s k) ∧ s k ≤ 12) (h1 : B K ≤ T) (h2 : T < B (K + 1)) : av (sga (c 1) (c 3) g) (c 2) (nI T) K q = avm (apm (c 1) (c 3) f) (c 2) K (nI (T - B K)) q := by
  have hA := h.after hb
  have hH := apm_HV hb h
  have e33 : ∀ j, j < 7 * c 1 → sga (c 1) (c 3) g 33 j = apm (c 1) (c 3) f 33 j := fun j hj => sga_33 hb h hj
  obtain ⟨t0, t1, t2⟩ := sga_35 hb h hK
  have hN := hb.2.1
  generalize sga (c 1) (c 3) g = G at *
  generalize apm (c 1) (c 3) f = F at *
  obtain ⟨bK, bK2⟩ := hB1 K (by omega)
  obtain ⟨s1, s2, s3⟩ := hB K hK
  obtain ⟨a, a1, a2⟩ := tmq_n hH hK
  obtain ⟨b, b1, b2⟩ := tmk_n (hH K hK)
  have es : s K = a + b := by
    rw [a2, b2, nI_add] at s2
    exact ((nI_eq (by omega) (by omega)).mp s2).symm
  rw [bK] at t0
  rw [bK, a2, nI_add] at t1
  have pass : (nI T < G 35 (3 * K + 1)) ↔ nI (T - B K) < tmq (F 33) K := by
    rw [t1, a2, nI_ltI hT (by omega), nI_ltI (by omega) (by omega)]
    omega
  have x0 := e33 (7 * K + 0) (by omega)
  have x1 := e33 (7 * K + 1) (by omega)
  have x2 := e33 (7 * K + 2) (by omega)
  have x3 := e33 (7 * K + 3) (by omega)
  have x4 := e33 (7 * K + 4) (by omega)
  have x5 := e33 (7 * K + 5) (by omega)
  obtain ⟨⟨v0, v1, v2, v3, v4, v5⟩, v6⟩ := hH K hK
  -- the steps held
  have on : ¬ (nI T < G 35 (3 * K + 1)) → ∃ n, n < 9 ∧ sd G K (nI T) = nI n ∧ (omk F K (nI (T - B K)) = nI n ∨ ((h7 (F 33) K 1 = h7 (F 33) K 2 ∧ h7 (F 33) K 3 = h7 (F 33) K 4) ∧ omk F K (nI (T - B K)) = 0)) := by
    intro np
    have hu : B K + a ≤ T := by
      rw [t1, nI_ltI hT (by omega)] at np
      omega
    have e1 : nI T - G 35 (3 * K + 1) = nI (T - (B K + a)) := by rw [t1, nI_sub hu]
    have e2 : nI (T - B K) - tmq (F 33) K = nI (T - (B K + a)) := by rw [a2, nI_sub (by omega), show T - B K - a = T - (B K + a) by omega]
    have hsm : T - (B K + a) < 9 := by omega
    have d : ∀ u : Fin 9, (if 0 < (nI u.1 - 2) + 1 then (nI u.1 - 2) + 1 else 0) = nI (u.1 - 1) ∧ (if ¬ 2 ≤ nI u.1 then (0 : Int32) else nI u.1 - 1) = nI (u.1 - 1) := by decide
    obtain ⟨d1, d2⟩ := d ⟨T - (B K + a), hsm⟩
    refine ⟨T - (B K + a) - 1, by omega, ?_, ?_⟩
    · unfold sd
      rw [e1]
      exact d1
    · unfold omk
      rw [e2]
      by_cases mv : h7 (F 33) K 1 = h7 (F 33) K 2 ∧ h7 (F 33) K 3 = h7 (F 33) K 4
      · exact Or.inr ⟨mv, if_pos (Or.inl mv)⟩
      · left
        by_cases w : ¬ 2 ≤ nI (T - (B K + a))
        · rw [if_pos (Or.inr w)]
          rw [if_pos w] at d2
          exact d2
        · rw [if_neg (fun z => z.elim mv w)]
          rw [if_neg w] at d2
          exact d2
  have eq : q = 0 ∨ q = 1 ∨ q = 2 ∨ q = 3 ∨ q = 7 ∨ (4 ≤ q ∧ q ≤ 6) := by omega
  unfold avm
  rcases eq with e | e | e | e | e | e
  · subst e
    exact x0
  · subst e
    rw [if_neg (by decide), if_neg (by decide), if_neg (by decide), if_neg (by decide), av_1]
    by_cases np : nI T < G 35 (3 * K + 1)
    · have nq := pass.mp np
      rw [if_pos np, if_pos nq, if_neg (show ¬ 1 = 2 by decide)]
      have hK0 : 0 < K := by
        cases K with
        | zero =>
          exfalso
          have : tmq (F 33) 0 = nI 0 := rfl
          rw [this, nI_ltI (by omega) (by omega)] at nq
          omega
        | succ j => omega
      rw [if_pos hK0, t0, nI_sub h1, nI_1, e33 (7 * (K - 1) + 2) (by omega), x1, aq_nI (by omega)]
      have w := (hH (K - 1) (by omega)).1.2.2.1
      refine cw_alg w v1 ?_
      rw [a2, nI_ltI (by omega) (by omega)] at nq
      omega
    · rw [if_neg np, if_neg (fun z => np (pass.mpr z)), if_pos rfl]
      obtain ⟨n, n1, n2, n3⟩ := on np
      rw [n2, x1, x2]
      rcases n3 with n3 | ⟨mv, n3⟩
      · rw [n3, aq_nI (by omega)]
        exact cw_alg v1 v2 n1
      · rw [n3, show aq 0 = 0 from rfl]
        have y : F 33 (7 * K + 1) = F 33 (7 * K + 2) := mv.1
        have z := cw_alg v1 v1 n1
        have z0 : alg (h7 (F 33) K 1) (h7 (F 33) K 1) n = alg (h7 (F 33) K 1) (h7 (F 33) K 1) 0 := by
          obtain ⟨x, hx, ex⟩ := nI_below (n := 9) (by decide) v1.1 v1.2
          have d : ∀ x n : Fin 9, alg (nI x.1) (nI x.1) n.1 = alg (nI x.1) (nI x.1) 0 := by decide +kernel
          rw [ex]
          exact d ⟨x, hx⟩ ⟨n, n1⟩
        rw [← y]
        exact z.trans z0
  · subst e
    rw [if_neg (by decide), if_neg (by decide), if_neg (by decide), if_neg (by decide), av_2]
    by_cases np : nI T < G 35 (3 * K + 1)
    · rw [if_pos np, if_pos (pass.mp np), if_pos rfl]
      exact x3
    · rw [if_neg np, if_neg (fun z => np (pass.mpr z)), if_neg (show ¬ 2 = 1 by decide)]
      obtain ⟨n, n1, n2, n3⟩ := on np
      rw [n2, x3, x4]
      rcases n3 with n3 | ⟨mv, n3⟩
      · rw [n3]
        by_cases z : n = 0
        · subst z
          rw [if_pos (by decide), if_pos (show nI 0 = 0 from rfl)]
        · rw [if_neg (show ¬ nI n ≤ 0 from show ¬ nI n ≤ nI 0 from nI_ge (by omega) (by omega)), if_neg (nI_ne0 (by omega) (by omega))]
      · rw [n3, if_pos rfl]
        have y : F 33 (7 * K + 3) = F 33 (7 * K + 4) := mv.2
        rw [← y]
        split <;> rfl
  · subst e
    rw [if_neg (by decide), if_neg (by decide), if_neg (by decide), if_pos rfl, av_3]
    by_cases np : nI T < G 35 (3 * K + 1)
    · rw [if_pos np, if_pos (pass.mp np)]
    · rw [if_neg np, if_neg (fun z => np (pass.mpr z))]
      exact x5
  · subst e
    rw [if_pos rfl]
    rfl
  · rw [if_neg (by omega), if_neg (by omega), if_pos (by omega)]
    unfold av
    rw [if_neg (by omega), if_neg (by omega), if_neg (by omega), if_neg (by omega), if_neg (by omega)]
    exact fs_sa hA _ K hK
theorem J_at (hb : BD c) (h : RLA c g f) (p q : Int32) : JS cdN 69 150 [.int p, .int q] c g f := by
  have hbd := hb
  obtain ⟨b0, b1, b2, b3, b4, b5⟩ := hb
  have hx : (0 ≤ q ∧ q < 8) ↔ (0 ≤ q ∧ q ≤ 7) := bet (n := 7) (by decide)
  by_cases h1 : 0 ≤ p
  · by_cases h2 : 0 ≤ q ∧ q < 8
    · obtain ⟨T, hT, rfl⟩ := nI_of (x := p) (by rw [i32_nlt]; exact h1)
      obtain ⟨q', hq, rfl⟩ := nI_below (n := 8) (by decide) h2.1 h2.2
      have hv := h.2.1.vi
      have hu := h.2.1.LU
      obtain ⟨B, s, hB1, hB⟩ := nat_ticks (apm_HV hbd h) b1
      have hB0 : B 0 = 0 := by have := (hB1 0 (by omega)).2; omega
      have hP : ∀ k, k < c 1 → (nI T < sga (c 1) (c 3) g 35 (3 * k + 2) ↔ T < B (k + 1)) := fun k hk => by
        obtain ⟨z1, z2⟩ := hB1 (k + 1) (by omega)
        rw [(sga_35 hbd h hk).2.2, z1, nI_ltI hT (by omega)]
      have key := wk_fi (P := fun k => nI T < sga (c 1) (c 3) g 35 (3 * k + 2)) inferInstance hT hB hP (c 1) 0 (by omega) (by omega)
      rw [hB0, Nat.sub_zero] at key
      have hvm := h.2.1.vm hbd
      cases e : fi (fun k => nI T < sga (c 1) (c 3) g 35 (3 * k + 2)) (c 1) 0 with
      | none =>
        have w := key.2 e
        refine JS_q (h.after hbd) (v := -1) (fun σ tg ad w hl _ => c_69n w hv hu h1 h2 e) (fun hb => RO_5 fun τ d hd => ?_)
        rw [← hd 1 (by decide), ← hd 3 (by decide)] at w ⊢
        exact c_150n (by rw [hd 1 (by decide)]; exact b1) (by rw [hd 3 (by decide)]; exact b3) (by rw [hd 1 (by decide)]; exact hvm) h1 (hx.mp h2) w
      | some K =>
        obtain ⟨w1, w2, w3, w4⟩ := key.1 K e
        have ea := av_avm hbd h hq w2 hT hB1 hB w3 w4
        refine JS_q (h.after hbd) (v := avm (apm (c 1) (c 3) f) (c 2) K (nI (T - B K)) q') (fun σ tg ad w hl _ => ?_) (fun hb => RO_5 fun τ d hd => ?_)
        · rw [c_69 w hv hu h1 hq e w2, ea]
        · have z := c_150 (σ := τ) (c := d) (f := f) (by rw [hd 1 (by decide)]; exact b1) (by rw [hd 2 (by decide)]; exact b2) (by rw [hd 3 (by decide)]; exact b3) (by rw [hd 1 (by decide)]; exact hvm) h1 hq (by rw [hd 1 (by decide), hd 3 (by decide), w1]; exact w2)
          rw [hd 1 (by decide), hd 2 (by decide), hd 3 (by decide), w1] at z
          exact z
    · exact JS_x (e := 0) h (fun σ tg ad w hl => c_69y h1 h2) (fun hb => RO_5 fun τ d hd => c_150y h1 (fun z => h2 (hx.mpr z))) rfl (by decide)
  · exact JS_x (e := 2) h (fun σ tg ad w hl => c_69x h1) (fun hb => RO_5 fun τ d hd => c_150x h1) rfl (by decide)
end
