/-! JOINT: marks -/
section
variable {c : Nat → Nat} {g f : Nat → Nat → Int32}
theorem ckm_nm {i a b : Nat} : ∀ m k, up (ckm g i (nI a) (nI b)) m k (nI (nm g i a b k)) = nI (nm g i a b (k + m))
  | 0, k => rfl
  | m + 1, k => by
    show up (ckm g i (nI a) (nI b)) m (k + 1) (ckm g i (nI a) (nI b) k (nI (nm g i a b k))) = _
    have e : ckm g i (nI a) (nI b) k (nI (nm g i a b k)) = nI (nm g i a b (k + 1)) := by
      show (if _ then _ else _) = nI (if _ then _ else _)
      by_cases h : g 40 (1000 * i + k) = nI a ∧ g 41 (1000 * i + k) = nI b
      · rw [if_pos h, if_pos h, nI_1]
      · rw [if_neg h, if_neg h]
    rw [e, ckm_nm m (k + 1), show k + 1 + m = k + (m + 1) by omega]
/-- all twelve together -/
def nms (g : Nat → Nat → Int32) (i m : Nat) : Nat := nm g i 0 0 m + nm g i 0 1 m + nm g i 0 2 m + nm g i 0 3 m + nm g i 1 0 m + nm g i 1 1 m + nm g i 1 2 m + nm g i 1 3 m + nm g i 2 0 m + nm g i 2 1 m + nm g i 2 2 m + nm g i 2 3 m
theorem nm_s {i a b m : Nat} : nm g i a b (m + 1) = if g 40 (1000 * i + m) = nI a ∧ g 41 (1000 * i + m) = nI b then nm g i a b m + 1 else nm g i a b m := rfl
theorem nms_all {i M : Nat} (h : ∀ m, m < M → ∃ a b, a < 3 ∧ b < 4 ∧ g 40 (1000 * i + m) = nI a ∧ g 41 (1000 * i + m) = nI b) : ∀ m, m ≤ M → nms g i m = m
  | 0, _ => rfl
  | m + 1, hm => by
    have ih := nms_all h m (by omega)
    obtain ⟨a, b, ha, hb, ea, eb⟩ := h m (by omega)
    have d : ∀ x y : Nat, x < 4 → y < 4 → ((nI x = nI y) = (x = y)) := fun x y hx hy => propext (nI_eq (by omega) (by omega))
    unfold nms at ih ⊢
    simp only [nm_s, ea, eb]
    simp only [d a 0 (by omega) (by decide), d a 1 (by omega) (by decide), d a 2 (by omega) (by decide), d b 0 hb (by decide), d b 1 hb (by decide), d b 2 hb (by decide), d b 3 hb (by decide)]
    have ea : a = 0 ∨ a = 1 ∨ a = 2 := by omega
    have eb : b = 0 ∨ b = 1 ∨ b = 2 ∨ b = 3 := by omega
    rcases ea with e | e | e <;> subst e <;> rcases eb with e | e | e | e <;> subst e <;> simp <;> omega
theorem wvs_i {i a b t : Nat} {M : Nat} : ∀ m k (x : Int32), up (wvs g i (nI a) (nI b) t) m k x = x ∨ ∃ j, k ≤ j ∧ j < k + m ∧ (g 40 (1000 * i + j) = nI a ∧ g 41 (1000 * i + j) = nI b) ∧ (mp g i j ≤ t ∧ t < mq g i j) ∧ up (wvs g i (nI a) (nI b) t) m k x = g 44 (1000 * i + j)
  | 0, k, x => Or.inl rfl
  | m + 1, k, x => by
    have e : up (wvs g i (nI a) (nI b) t) (m + 1) k x = up (wvs g i (nI a) (nI b) t) m (k + 1) (wvs g i (nI a) (nI b) t k x) := rfl
    rw [e]
    rcases wvs_i (M := M) m (k + 1) (wvs g i (nI a) (nI b) t k x) with q | ⟨j, j1, j2, j3, j4, j5⟩
    · rw [q]
      unfold wvs
      by_cases z : (g 40 (1000 * i + k) = nI a ∧ g 41 (1000 * i + k) = nI b) ∧ mp g i k ≤ t ∧ t < mq g i k
      · rw [if_pos z]
        exact Or.inr ⟨k, Nat.le_refl _, by omega, z.1, z.2, rfl⟩
      · rw [if_neg z]
        exact Or.inl rfl
    · exact Or.inr ⟨j, by omega, by omega, j3, j4, j5⟩
theorem up_last {α : Type} {s : Nat → α → α} : ∀ m k x, up s (m + 1) k x = s (k + m) (up s m k x)
  | 0, k, x => rfl
  | m + 1, k, x => by
    show up s (m + 1) (k + 1) (s k x) = s (k + (m + 1)) (up s m (k + 1) (s k x))
    rw [up_last m (k + 1), show k + 1 + m = k + (m + 1) by omega]
theorem wvt_s {i a b t M : Nat} : wvt g i (M + 1) (nI a) (nI b) t = if (g 40 (1000 * i + M) = nI a ∧ g 41 (1000 * i + M) = nI b) ∧ mp g i M ≤ t ∧ t < mq g i M then g 44 (1000 * i + M) else wvt g i M (nI a) (nI b) t := by
  unfold wvt
  rw [up_last, show 0 + M = M by omega]
  rfl
theorem tks_i {e : Nat} : ∀ m k, up (tks f e) m k 0 = 3 ↔ ∃ t, k ≤ t ∧ t < k + m ∧ ¬ f 29 (200 * e + t) ≤ 0
  | 0, k => ⟨fun z => absurd (show (0 : Nat) = 3 from z) (by decide), fun ⟨t, a, b, _⟩ => absurd a (by omega)⟩
  | m + 1, k => by
    show up (tks f e) m (k + 1) (tks f e k 0) = 3 ↔ _
    by_cases q : f 29 (200 * e + k) ≤ 0
    · have : tks f e k 0 = 0 := if_pos q
      rw [this, tks_i m (k + 1)]
      refine ⟨fun ⟨t, a, b, r⟩ => ⟨t, by omega, by omega, r⟩, fun ⟨t, a, b, r⟩ => ⟨t, ?_, by omega, r⟩⟩
      by_cases e : t = k
      · subst e; exact absurd q r
      · omega
    · have : tks f e k 0 = 3 := if_neg q
      rw [this, tks_3]
      exact ⟨fun _ => ⟨k, Nat.le_refl _, by omega, q⟩, fun _ => rfl⟩
theorem CE_RE {p q v : Int32} : CE p q v ↔ RE p q v := by
  have b199 : (0 ≤ p ∧ p < 200) ↔ (0 ≤ p ∧ p ≤ 199) := bet (n := 199) (by decide)
  have b9 : (0 ≤ v ∧ v < 10) ↔ (0 ≤ v ∧ v ≤ 9) := bet (n := 9) (by decide)
  unfold CE RE
  rw [b199, b9]
  constructor
  · rintro ⟨h1, h2, h3, h4⟩
    refine ⟨h1, ⟨?_, h3⟩, h2, h4⟩
    obtain ⟨q', hq', rfl⟩ := nI_upto (n := 200) (by decide) (Int32.le_trans h1.1 (Int32.le_of_lt h2)) h3
    obtain ⟨p', hp', rfl⟩ := nI_upto (n := 199) (by decide) h1.1 h1.2
    have := (nI_ltI (by omega) (by omega)).mp h2
    exact show nI 1 ≤ nI q' from nI_le (by omega) (by omega)
  · rintro ⟨h1, h2, h3, h4⟩
    exact ⟨h1, h3, h2.2, h4⟩
theorem twr_at {e t : Nat} {v : Int32} : ∀ m k (f : Nat → Nat → Int32), k + m ≤ 200 → t < 200 → up (twr e v) m k f 29 (200 * e + t) = if k ≤ t ∧ t < k + m then v + 1 else f 29 (200 * e + t)
  | 0, k, f, _, _ => by rw [if_neg (by omega)]; rfl
  | m + 1, k, f, hk, ht => by
    show up (twr e v) m (k + 1) (twr e v k f) 29 (200 * e + t) = _
    rw [twr_at m (k + 1) _ (by omega) ht]
    by_cases h : k + 1 ≤ t ∧ t < k + 1 + m
    · rw [if_pos h, if_pos (by omega)]
    · rw [if_neg h]
      show uf f 29 (200 * e + k) (v + 1) 29 (200 * e + t) = _
      rw [uf_s]
      show (if 200 * e + t = 200 * e + k then v + 1 else f 29 (200 * e + t)) = _
      by_cases z : t = k
      · rw [if_pos (by omega), if_pos (by omega)]
      · rw [if_neg (by omega), if_neg (by omega)]
theorem twr_o {e j : Nat} {v : Int32} : ∀ m k (f : Nat → Nat → Int32), (j < 200 * e + k ∨ 200 * e + k + m ≤ j) → up (twr e v) m k f 29 j = f 29 j
  | 0, k, f, _ => rfl
  | m + 1, k, f, hk => by
    show up (twr e v) m (k + 1) (twr e v k f) 29 j = _
    rw [twr_o m (k + 1) _ (by omega)]
    show uf f 29 (200 * e + k) (v + 1) 29 j = _
    rw [uf_s]
    exact if_neg (by omega)
theorem hm_iff {i a b p q m x y : Nat} (h2 : g 42 (1000 * i + m) = nI x) (h3 : g 43 (1000 * i + m) = nI y) (hx : x < 2 ^ 31) (hy : y < 2 ^ 31) (hp : p < 2 ^ 31) (hq : q < 2 ^ 31) : hm g i (nI a) (nI b) (nI p) (nI q) m ↔ (g 40 (1000 * i + m) = nI a ∧ g 41 (1000 * i + m) = nI b) ∧ x < q ∧ p < y := by
  unfold hm
  rw [h2, h3, nI_ltI hx hq, nI_ltI hp hy]
/-- the ticks are free as both see it -/
theorem free_iff {i a b p q M : Nat} (h : RM1 M g f i) (hf : f 23 i = 0) (ha : a < 3) (hb : b < 4) (hq : q ≤ 200) (hpq : p < q) : (∃ t, p ≤ t ∧ t < q ∧ ¬ f 29 (200 * (12 * i + 4 * a + b) + t) ≤ 0) ↔ ∃ m, m < M ∧ hm g i (nI a) (nI b) (nI p) (nI q) m := by
  obtain ⟨h1, h2⟩ := h
  obtain ⟨y1, y2, y3⟩ := h2 hf a b ha hb
  constructor
  · rintro ⟨t, t1, t2, t3⟩
    obtain ⟨z1, z2⟩ := y3 t (by omega)
    rw [z1] at t3
    rcases wvs_i (g := g) (i := i) (a := a) (b := b) (t := t) (M := M) M 0 (-1) with e | ⟨j, j1, j2, j3, j4, j5⟩
    · exfalso
      apply t3
      show up (wvs g i (nI a) (nI b) t) M 0 (-1) + 1 ≤ 0
      rw [e]; decide
    · obtain ⟨a', b', x, y, v, _, _, _, hy, _, _, _, e2, e3, _⟩ := h1 j (by omega)
      rw [mv_p e2 (by omega), mv_q e3 (by omega)] at j4
      exact ⟨j, by omega, (hm_iff e2 e3 (by omega) (by omega) (by omega) (by omega)).mpr ⟨j3, by omega, by omega⟩⟩
  · rintro ⟨m, m1, m2⟩
    obtain ⟨a', b', x, y, v, _, _, hxy, hy, hv, _, _, e2, e3, e4⟩ := h1 m m1
    obtain ⟨m3, m4, m5⟩ := (hm_iff e2 e3 (by omega) (by omega) (by omega) (by omega)).mp m2
    have w := (y2 m m1 m3.1 m3.2).2.2
    rw [mv_p e2 (by omega), mv_q e3 (by omega)] at w
    refine ⟨if p ≤ x then x else p, by split <;> omega, by split <;> omega, ?_⟩
    have ht : (if p ≤ x then x else p) < 200 := by split <;> omega
    rw [(y3 _ ht).1, w _ (by split <;> omega) (by split <;> omega), e4, nI_1]
    exact show ¬ nI (v + 1) ≤ nI 0 from nI_ge (by omega) (by omega)
theorem ob_hm {i a b p q M : Nat} : ob (@fi (hm g i (nI a) (nI b) (nI p) (nI q)) (hmd g i (nI a) (nI b) (nI p) (nI q)) M 0) = 0 ↔ ¬ ∃ m, m < M ∧ hm g i (nI a) (nI b) (nI p) (nI q) m := by
  cases e : @fi (hm g i (nI a) (nI b) (nI p) (nI q)) (hmd g i (nI a) (nI b) (nI p) (nI q)) M 0 with
  | none => exact ⟨fun _ ⟨m, m1, m2⟩ => (fi_none _ M 0).mp e m (by omega) (by omega) m2, fun _ => rfl⟩
  | some x =>
    obtain ⟨_, x2, x3⟩ := fi_lt _ M 0 x e
    exact ⟨fun z => absurd z (show ¬ (1 : Int32) = 0 by decide), fun z => absurd ⟨x, by omega, x3⟩ z⟩
/-- the new mark on both sides -/
theorem RM1_new {i a b p q v M : Nat} (hb1 : M ≤ 120) (h : RM1 M g f i) (hf : f 23 i = 0) (ha : a < 3) (hb : b < 4) (hq : q ≤ 200) (hpq : p < q) (hv : v < 10) (hn : nm g i a b M < 10) (hno : ¬ ∃ m, m < M ∧ hm g i (nI a) (nI b) (nI p) (nI q) m) : RM1 (M + 1) (gm g (1000 * i + M) (nI a) (nI b) (nI p) (nI q) (nI v)) (rmf f (12 * i + 4 * a + b) (nm g i a b M) p q (nI v)) i := by
  obtain ⟨h1, h2⟩ := h
  have go : ∀ r m, m < M → gm g (1000 * i + M) (nI a) (nI b) (nI p) (nI q) (nI v) r (1000 * i + m) = g r (1000 * i + m) := fun r m hm => gm_o (by omega)
  have enm : ∀ A B m, m ≤ M → nm (gm g (1000 * i + M) (nI a) (nI b) (nI p) (nI q) (nI v)) i A B m = nm g i A B m := fun A B => nm_p fun m hm => ⟨go 40 m hm, go 41 m hm⟩
  have ewv : ∀ A B t, wvt (gm g (1000 * i + M) (nI a) (nI b) (nI p) (nI q) (nI v)) i M A B t = wvt g i M A B t := fun A B t => by
    unfold wvt
    refine up_cg (n := M) (fun m x hm => ?_) _ _ _ (by omega)
    unfold wvs mp mq
    rw [go 40 m hm, go 41 m hm, go 42 m hm, go 43 m hm, go 44 m hm]
  have d4 : ∀ x y : Nat, x < 4 → y < 4 → (nI x = nI y ↔ x = y) := fun x y hx hy => nI_eq (by omega) (by omega)
  have emp : mp (gm g (1000 * i + M) (nI a) (nI b) (nI p) (nI q) (nI v)) i M = p := mv_p gm_42 (by omega)
  have emq : mq (gm g (1000 * i + M) (nI a) (nI b) (nI p) (nI q) (nI v)) i M = q := mv_q gm_43 (by omega)
  have ews : ∀ A B t, A < 3 → B < 4 → wvt (gm g (1000 * i + M) (nI a) (nI b) (nI p) (nI q) (nI v)) i (M + 1) (nI A) (nI B) t = if (a = A ∧ b = B) ∧ p ≤ t ∧ t < q then nI v else wvt g i M (nI A) (nI B) t := fun A B t hA hB => by
    rw [wvt_s, ewv, gm_40, gm_41, gm_44, emp, emq]
    simp only [d4 a A (by omega) (by omega), d4 b B hb hB]
  have enms : ∀ A B, A < 3 → B < 4 → nm (gm g (1000 * i + M) (nI a) (nI b) (nI p) (nI q) (nI v)) i A B (M + 1) = if a = A ∧ b = B then nm g i A B M + 1 else nm g i A B M := fun A B hA hB => by
    rw [nm_s, enm A B M (Nat.le_refl _), gm_40, gm_41]
    simp only [d4 a A (by omega) (by omega), d4 b B hb hB]
  have r23 : rmf f (12 * i + 4 * a + b) (nm g i a b M) p q (nI v) 23 = f 23 := by
    unfold rmf
    rw [uf_n (by decide), uf_n (by decide), uf_n (by decide), twr_r (by decide)]
  have r30 : ∀ e, rmf f (12 * i + 4 * a + b) (nm g i a b M) p q (nI v) 30 e = if e = 12 * i + 4 * a + b then nI (nm g i a b M + 1) else f 30 e := fun e => by
    unfold rmf
    rw [uf_s]
    show (if e = _ then _ else _) = _
    by_cases z : e = 12 * i + 4 * a + b
    · rw [if_pos z, if_pos z]
    · rw [if_neg z, if_neg z, uf_n (by decide), uf_n (by decide), twr_r (by decide)]
  have r31 : ∀ j, rmf f (12 * i + 4 * a + b) (nm g i a b M) p q (nI v) 31 j = if j = 10 * (12 * i + 4 * a + b) + nm g i a b M then nI p else f 31 j := fun j => by
    unfold rmf
    rw [uf_n (by decide), uf_n (by decide), uf_s]
    show (if j = _ then _ else _) = _
    rw [twr_r (by decide)]
  have r32 : ∀ j, rmf f (12 * i + 4 * a + b) (nm g i a b M) p q (nI v) 32 j = if j = 10 * (12 * i + 4 * a + b) + nm g i a b M then nI q else f 32 j := fun j => by
    unfold rmf
    rw [uf_n (by decide), uf_s]
    show (if j = _ then _ else _) = _
    rw [uf_n (by decide), twr_r (by decide)]
  have r29 : ∀ j, rmf f (12 * i + 4 * a + b) (nm g i a b M) p q (nI v) 29 j = up (twr (12 * i + 4 * a + b) (nI v)) (q - p) p f 29 j := fun j => by
    unfold rmf
    rw [uf_n (by decide), uf_n (by decide), uf_n (by decide)]
  have r29e : ∀ t, t < 200 → rmf f (12 * i + 4 * a + b) (nm g i a b M) p q (nI v) 29 (200 * (12 * i + 4 * a + b) + t) = if p ≤ t ∧ t < q then nI v + 1 else f 29 (200 * (12 * i + 4 * a + b) + t) := fun t ht => by
    rw [r29, twr_at (q - p) p f (by omega) ht, show p + (q - p) = q by omega]
  have r29o : ∀ A B t, ¬ (a = A ∧ b = B) → A < 3 → B < 4 → t < 200 → rmf f (12 * i + 4 * a + b) (nm g i a b M) p q (nI v) 29 (200 * (12 * i + 4 * A + B) + t) = f 29 (200 * (12 * i + 4 * A + B) + t) := fun A B t hne hA hB ht => by
    rw [r29, twr_o]
    omega
  refine ⟨fun m hm => ?_, fun _ A B hA hB => ?_⟩
  · by_cases e : m = M
    · subst e
      exact ⟨a, b, p, q, v, ha, hb, hpq, hq, hv, gm_40, gm_41, gm_42, gm_43, gm_44⟩
    · rw [go 40 m (by omega), go 41 m (by omega), go 42 m (by omega), go 43 m (by omega), go 44 m (by omega)]
      exact h1 m (by omega)
  · obtain ⟨y1, y2, y3⟩ := h2 hf A B hA hB
    rw [enms A B hA hB]
    have y10 := y1.1
    by_cases eAB : a = A ∧ b = B
    · obtain ⟨e1, e2⟩ := eAB
      subst e1 e2
      rw [if_pos ⟨rfl, rfl⟩]
      refine ⟨⟨by omega, by rw [r30, if_pos rfl], fun m hm => ?_⟩, fun m hm => ?_, fun t ht => ?_⟩
      · rw [r31, r32]
        by_cases e : m = nm g i a b M
        · rw [if_pos (by omega), if_pos (by omega)]
          exact ⟨p, q, rfl, rfl, hpq, hq⟩
        · rw [if_neg (by omega), if_neg (by omega)]
          exact y1.2.2 m (by omega)
      · by_cases e : m = M
        · subst e
          rw [enm a b m (Nat.le_refl _), gm_42, gm_43, gm_44, emp, emq, r31, r32, if_pos rfl, if_pos rfl]
          refine fun _ _ => ⟨rfl, rfl, fun t t1 t2 => ?_⟩
          rw [ews a b t ha hb, if_pos ⟨⟨rfl, rfl⟩, t1, t2⟩]
        · rw [enm a b m (by omega), go 40 m (by omega), go 41 m (by omega), go 42 m (by omega), go 43 m (by omega), go 44 m (by omega)]
          intro z1 z2
          have l := nm_lt (show m < M by omega) z1 z2
          obtain ⟨x1, x2, x3⟩ := y2 m (by omega) z1 z2
          rw [r31, r32, if_neg (by omega), if_neg (by omega)]
          refine ⟨x1, x2, fun t t1 t2 => ?_⟩
          unfold mp at t1
          unfold mq at t2
          rw [go 42 m (by omega)] at t1
          rw [go 43 m (by omega)] at t2
          obtain ⟨a', b', x, y, v', _, _, _, hy, _, _, _, e2, e3, _⟩ := h1 m (by omega)
          have hmm : ¬ (x < q ∧ p < y) := fun w => hno ⟨m, by omega, (hm_iff e2 e3 (by omega) (by omega) (by omega) (by omega)).mpr ⟨⟨z1, z2⟩, w⟩⟩
          have t1' := t1
          have t2' := t2
          rw [e2, nI_clamp (by omega)] at t1
          rw [e3, nI_clamp (by omega)] at t2
          rw [ews a b t ha hb, if_neg (fun w => hmm ⟨by omega, by omega⟩)]
          exact x3 t t1' t2'
      · rw [ews a b t ha hb, r29e t ht]
        obtain ⟨w1, w2⟩ := y3 t ht
        by_cases e : p ≤ t ∧ t < q
        · rw [if_pos e, if_pos ⟨⟨rfl, rfl⟩, e⟩]
          exact ⟨rfl, Or.inr ⟨v, hv, rfl⟩⟩
        · rw [if_neg e, if_neg (fun z => e z.2)]
          exact ⟨w1, w2⟩
    · rw [if_neg eAB]
      refine ⟨⟨y10, by rw [r30, if_neg (by omega)]; exact y1.2.1, fun m hm => ?_⟩, fun m hm => ?_, fun t ht => ?_⟩
      · rw [r31, r32, if_neg (by omega), if_neg (by omega)]
        exact y1.2.2 m hm
      · by_cases e : m = M
        · subst e
          rw [gm_40, gm_41]
          intro z1 z2
          exact absurd ⟨(d4 a A (by omega) (by omega)).mp z1, (d4 b B hb hB).mp z2⟩ eAB
        · rw [enm A B m (by omega), go 40 m (by omega), go 41 m (by omega), go 42 m (by omega), go 43 m (by omega), go 44 m (by omega)]
          intro z1 z2
          have l := nm_lt (show m < M by omega) z1 z2
          obtain ⟨x1, x2, x3⟩ := y2 m (by omega) z1 z2
          rw [r31, r32, if_neg (by omega), if_neg (by omega)]
          refine ⟨x1, x2, fun t t1 t2 => ?_⟩
          unfold mp at t1
          unfold mq at t2
          rw [go 42 m (by omega)] at t1
          rw [go 43 m (by omega)] at t2
          rw [ews A B t hA hB, if_neg (fun w => eAB w.1)]
          exact x3 t t1 t2
      · rw [ews A B t hA hB, if_neg (fun w => eAB w.1), r29o A B t eAB hA hB ht]
        exact y3 t ht
theorem RLA_mark (hb : BD c) (h : RLA c g f) {k a b p q v : Nat} (hk : k < c 4) (hf : f 23 k = 0) (ha : a < 3) (hb' : b < 4) (hq : q ≤ 200) (hpq : p < q) (hv : v < 10) (hn : nm g k a b (c (100 + k)) < 10) (hno : ¬ ∃ m, m < c (100 + k) ∧ hm g k (nI a) (nI b) (nI p) (nI q) m) : RLA (u2 c (100 + k) (c (100 + k) + 1)) (gm g (1000 * k + c (100 + k)) (nI a) (nI b) (nI p) (nI q) (nI v)) (rmf f (12 * k + 4 * a + b) (nm g k a b (c (100 + k))) p q (nI v)) := by
  obtain ⟨hs, hi, hff, hr, hcl, hm⟩ := h
  obtain ⟨b0, b1, b2, b3, b4, b5⟩ := hb
  have rg : ∀ r', r' < 40 → gm g (1000 * k + c (100 + k)) (nI a) (nI b) (nI p) (nI q) (nI v) r' = g r' := fun r' h => gm_r (Or.inl h)
  have r : ∀ r', ¬ (r' = 29 ∨ r' = 30 ∨ r' = 31 ∨ r' = 32) → rmf f (12 * k + 4 * a + b) (nm g k a b (c (100 + k))) p q (nI v) r' = f r' := fun r' z => by
    unfold rmf
    rw [uf_n (by omega), uf_n (by omega), uf_n (by omega), twr_r (by omega)]
  have uc : ∀ q, q < 100 → u2 c (100 + k) (c (100 + k) + 1) q = c q := fun q h1 => u2_n (by omega)
  have e12 : 12 * k + 4 * a + b < 12 * k + 12 := by omega
  refine ⟨RLs_f hs (uc 0 (by decide)) (rg 12 (by decide)) (r 12 (by decide)), RLi_f hi ⟨uc 0 (by decide), uc 1 (by decide)⟩ ⟨rg 13 (by decide), rg 14 (by decide), rg 15 (by decide), rg 34 (by decide)⟩ ⟨r 12 (by decide), r 13 (by decide), r 14 (by decide), r 15 (by decide), r 16 (by decide), r 17 (by decide)⟩, RLf_f hff (uc 2 (by decide)) ⟨rg 18 (by decide), rg 19 (by decide), rg 20 (by decide)⟩ ⟨r 18 (by decide), r 19 (by decide), r 20 (by decide)⟩, RLr_f hr (uc 3 (by decide)) ⟨rg 21 (by decide), rg 22 (by decide)⟩ ⟨r 21 (by decide), r 22 (by decide)⟩, ⟨?_, ?_⟩, ?_, ?_⟩
  · intro j hj
    rw [uc 4 (by decide)] at hj
    rw [u2_n (show 200 + j ≠ 100 + k by omega), u2_n (show 300 + j ≠ 100 + k by omega), rg 23 (by decide), rg 24 (by decide), rg 25 (by decide), r 23 (by decide), r 24 (by decide), r 25 (by decide), r 26 (by decide), r 27 (by decide)]
    exact hcl.1 j hj
  · rw [rg 28 (by decide), r 28 (by decide)]
    exact hcl.2
  · intro i hi
    rw [uc 4 (by decide)] at hi
    by_cases e : i = k
    · subst e
      rw [u2_s]
      exact RM1_new (b5 i hi).1 (hm.1 i hi) hf ha hb' hq hpq hv hn hno
    · have bi := (b5 i hi).1
      have bk := (b5 k hk).1
      rw [u2_n (by omega)]
      refine RM1_p (by omega) (fun m hm => ⟨gm_o (by omega), gm_o (by omega), gm_o (by omega), gm_o (by omega), gm_o (by omega)⟩) (by rw [r 23 (by decide)]) (fun A B hA hB => ⟨?_, fun m hm => ⟨?_, ?_⟩, fun t ht => ?_⟩) (hm.1 i hi)
      · unfold rmf
        rw [uf_s]
        refine (if_neg (by omega)).trans ?_
        rw [uf_n (by decide), uf_n (by decide), twr_r (by decide)]
      · unfold rmf
        rw [uf_n (by decide), uf_n (by decide), uf_s]
        refine (if_neg (by omega)).trans ?_
        rw [twr_r (by decide)]
      · unfold rmf
        rw [uf_n (by decide), uf_s]
        refine (if_neg (by omega)).trans ?_
        rw [uf_n (by decide), twr_r (by decide)]
      · unfold rmf
        rw [uf_n (by decide), uf_n (by decide), uf_n (by decide), twr_o]
        omega
  · intro i h1 h2 A B hA hB
    rw [uc 4 (by decide)] at h1
    obtain ⟨z1, z2⟩ := hm.2 i h1 h2 A B hA hB
    refine ⟨?_, fun t ht => ?_⟩
    · unfold rmf
      rw [uf_s]
      refine (if_neg (by omega)).trans ?_
      rw [uf_n (by decide), uf_n (by decide), twr_r (by decide)]
      exact z1
    · unfold rmf
      rw [uf_n (by decide), uf_n (by decide), uf_n (by decide), twr_o (q - p) p f (by omega)]
      exact z2 t ht
theorem J_mark (hb : BD c) (h : RLA c g f) (x a b p q v : Int32) : JS cdB 89 165 [.int x, .int a, .int b, .int p, .int q, .int v] c g f := by
  have hbd := hb
  obtain ⟨b0, b1, b2, b3, b4, b5⟩ := hb
  have hx : ((0 ≤ a ∧ a < 3) ∧ (0 ≤ b ∧ b < 4)) ↔ ((0 ≤ a ∧ a ≤ 2) ∧ (0 ≤ b ∧ b ≤ 3)) := and_congr (bet (n := 2) (by decide)) (bet (n := 3) (by decide))
  by_cases h1 : 0 ≤ x ∧ x < nI (c 4)
  · obtain ⟨k, hk, rfl⟩ := inN (by omega) h1
    obtain ⟨g1, _⟩ := h.2.2.2.2.1.1 k hk
    have hmk := h.2.2.2.2.2.1 k hk
    by_cases h2 : g 23 k = 0
    · have h2' : f 23 k = 0 := g1 ▸ h2
      by_cases h3 : (0 ≤ a ∧ a < 3) ∧ (0 ≤ b ∧ b < 4)
      · by_cases h4 : CE p q v
        · have h4' := CE_RE.mp h4
          obtain ⟨a', ha, rfl⟩ := nI_below (n := 3) (by decide) h3.1.1 h3.1.2
          obtain ⟨b', hb', rfl⟩ := nI_below (n := 4) (by decide) h3.2.1 h3.2.2
          obtain ⟨⟨p0, p1⟩, pq, q2, ⟨v0, v1⟩⟩ := h4
          obtain ⟨p', hp, rfl⟩ := nI_below (n := 200) (by decide) p0 p1
          obtain ⟨q', hq, rfl⟩ := nI_upto (n := 200) (by decide) (Int32.le_trans p0 (Int32.le_of_lt pq)) q2
          obtain ⟨v', hv, rfl⟩ := nI_below (n := 10) (by decide) v0 v1
          have hpq : p' < q' := (nI_ltI (by omega) (by omega)).mp pq
          have hCE : CE (nI p') (nI q') (nI v') := ⟨⟨p0, p1⟩, pq, q2, ⟨v0, v1⟩⟩
          obtain ⟨y1, y2, y3⟩ := hmk.2 h2' a' b' ha hb'
          have cnt : up (ckm g k (nI a') (nI b')) (c (100 + k)) 0 0 = nI (nm g k a' b' (c (100 + k))) := by
            have z := ckm_nm (g := g) (i := k) (a := a') (b := b') (c (100 + k)) 0
            rw [show nm g k a' b' 0 = 0 from rfl, nI_0, Nat.zero_add] at z
            exact z
          have h10 : nI (nm g k a' b' (c (100 + k))) < 10 ↔ nm g k a' b' (c (100 + k)) < 10 := nI_ltI (b := 10) (by have := y1.1; omega) (by decide)
          have hfree := free_iff hmk h2' ha hb' hq hpq
          have hv9 : 0 ≤ nI v' ∧ nI v' ≤ 9 := (bet (n := 9) (by decide)).mp ⟨v0, v1⟩
          have dM : ∀ d : Nat → Nat, (∀ k, k < 5 → d k = c k) → d 4 ≤ 24 ∧ k < d 4 := fun d hd => by rw [hd 4 (by decide)]; omega
          by_cases h5 : nm g k a' b' (c (100 + k)) < 10
          · by_cases h6 : ∃ m, m < c (100 + k) ∧ hm g k (nI a') (nI b') (nI p') (nI q') m
            · have ht : thr f (12 * k + 4 * a' + b') (nm g k a' b' (c (100 + k))) p' q' = 3 := by
                unfold thr
                rw [if_neg (by omega)]
                refine (tks_i (q' - p') p').mpr ?_
                obtain ⟨t, t1, t2, t3⟩ := hfree.mpr h6
                exact ⟨t, t1, by omega, t3⟩
              exact JS_x (e := 1) h (fun σ tg ad w hl => c_89f w hk h2 h3 hCE (by rw [cnt]; exact h10.mpr h5) (fun z => ob_hm.mp z h6)) (fun hb => RO_5 fun τ d hd => c_165e (dM d hd).1 (dM d hd).2 h2' ha hb' hpq hq hv9 y1 ht) rfl (by decide)
            · have ht : thr f (12 * k + 4 * a' + b') (nm g k a' b' (c (100 + k))) p' q' = 0 := by
                unfold thr
                rw [if_neg (by omega)]
                rcases tks_03 f (12 * k + 4 * a' + b') (q' - p') p' with z | z
                · exact z
                · obtain ⟨t, t1, t2, t3⟩ := (tks_i (q' - p') p').mp z
                  exact absurd (hfree.mp ⟨t, t1, by omega, t3⟩) h6
              have h120 : c (100 + k) < 120 := by
                have z := nms_all (g := g) (i := k) (M := c (100 + k)) (fun m hm' => by
                  obtain ⟨a1, b1, _, _, _, x1, x2, _, _, _, x3, x4, _⟩ := hmk.1 m hm'
                  exact ⟨a1, b1, x1, x2, x3, x4⟩) (c (100 + k)) (Nat.le_refl _)
                have le : ∀ A B, A < 3 → B < 4 → nm g k A B (c (100 + k)) ≤ 10 := fun A B hA hB => (hmk.2 h2' A B hA hB).1.1
                have l00 := le 0 0 (by decide) (by decide)
                have l01 := le 0 1 (by decide) (by decide)
                have l02 := le 0 2 (by decide) (by decide)
                have l03 := le 0 3 (by decide) (by decide)
                have l10 := le 1 0 (by decide) (by decide)
                have l11 := le 1 1 (by decide) (by decide)
                have l12 := le 1 2 (by decide) (by decide)
                have l13 := le 1 3 (by decide) (by decide)
                have l20 := le 2 0 (by decide) (by decide)
                have l21 := le 2 1 (by decide) (by decide)
                have l22 := le 2 2 (by decide) (by decide)
                have l23 := le 2 3 (by decide) (by decide)
                unfold nms at z
                have ea : a' = 0 ∨ a' = 1 ∨ a' = 2 := by omega
                have eb : b' = 0 ∨ b' = 1 ∨ b' = 2 ∨ b' = 3 := by omega
                rcases ea with e | e | e <;> subst e <;> rcases eb with e | e | e | e <;> subst e <;> omega
              intro σ tg ad w hl
              refine ⟨.inl (some (.int (nI (nm g k a' b' (c (100 + k)) + 1)))), u2 c (100 + k) (c (100 + k) + 1), gm g (1000 * k + c (100 + k)) (nI a') (nI b') (nI p') (nI q') (nI v'), nI (nm g k a' b' (c (100 + k)) + 1), 0, rmf f (12 * k + 4 * a' + b') (nm g k a' b' (c (100 + k))) p' q' (nI v'), ⟨_, _, _, (c_89 w hk h2 h3 hCE (by rw [cnt]; exact h10.mpr h5) (ob_hm.mpr h6) h120).trans (by rw [cnt, nI_1]), w.addm hk h120 rfl, ?_, ?_, ?_⟩, RO_c (RO_5 fun τ d hd => c_165 (dM d hd).1 (dM d hd).2 h2' ha hb' hpq hq hv9 y1 h5 ht) (fun j hj => u2_n (by omega)), RLA_mark hbd h hk h2' ha hb' hq hpq hv h5 h6, Or.inl ⟨rfl, rfl⟩⟩
              · intro z z1 z2
                have : z ≠ σ.2.1 := by have := w.2.2.2; omega
                exact if_neg this
              · show σ.2.2.1 + 1 + 1 ≤ _; omega
              · show σ.2.2.2 + 5 + (2 * c (100 + k) + 10) ≤ _; omega
          · have ht : thr f (12 * k + 4 * a' + b') (nm g k a' b' (c (100 + k))) p' q' = 3 := by
              unfold thr
              rw [if_pos (by have := y1.1; omega)]
              exact tks_3 f _ _ _
            exact JS_x (e := 1) h (fun σ tg ad w hl => c_89e w hk h2 h3 hCE (by rw [cnt]; exact fun z => h5 (h10.mp z))) (fun hb => RO_5 fun τ d hd => c_165e (dM d hd).1 (dM d hd).2 h2' ha hb' hpq hq hv9 y1 ht) rfl (by decide)
        · exact JS_x (e := 0) h (fun σ tg ad w hl => c_89d w hk h2 h3 h4) (fun hb => RO_5 fun τ d hd => c_165d (by rw [hd 4 (by decide)]; exact b4) (by rw [hd 4 (by decide)]; exact hk) h2' (hx.mp h3) (fun z => h4 (CE_RE.mpr z))) rfl (by decide)
      · exact JS_x (e := 2) h (fun σ tg ad w hl => c_89c w hk h2 h3) (fun hb => RO_5 fun τ d hd => c_165c (by rw [hd 4 (by decide)]; exact b4) (by rw [hd 4 (by decide)]; exact hk) h2' (fun z => h3 (hx.mpr z))) rfl (by decide)
    · have h2' : f 23 k ≠ 0 := g1 ▸ h2
      exact JS_x (e := 2) h (fun σ tg ad w hl => c_89b w hk h2) (fun hb => RO_5 fun τ d hd => c_165b (by rw [hd 4 (by decide)]; exact b4) (by rw [hd 4 (by decide)]; exact hk) h2') rfl (by decide)
  · exact JS_x (e := 2) h (fun σ tg ad w hl => c_89a h1) (fun hb => RO_5 fun τ d hd => c_165a (by rw [hd 4 (by decide)]; exact b4) (by rw [hd 4 (by decide)]; exact h1)) rfl (by decide)
end
