/-! JOINT: the hands are in their ranges; ticks -/
def HV (f : Nat → Nat → Int32) (N : Nat) : Prop := ∀ k, k < N → SV (h7 (f 33) k)
theorem SV_mk {x : Nat → Int32} (h : V6 (x 0) (x 1) (x 2) (x 3) (x 4) (x 5)) (h6 : x 5 ≠ 2 → x 6 = -1) : SV x := ⟨h, h6⟩
theorem h7_uf {f : Nat → Nat → Int32} {k i j q : Nat} {x : Int32} (hj : j < 7) (hq : q < 7) : h7 (uf f 33 (7 * i + q) x 33) k j = if k = i ∧ j = q then x else h7 (f 33) k j := by
  show uf f 33 (7 * i + q) x 33 (7 * k + j) = _
  rw [uf_s]
  show (if 7 * k + j = 7 * i + q then x else f 33 (7 * k + j)) = _
  by_cases z : k = i ∧ j = q
  · rw [if_pos z, if_pos (by omega)]
  · rw [if_neg z, if_neg (by omega)]
    rfl
/-- one field is put in its range -/
theorem HV_uf {f : Nat → Nat → Int32} {N i q : Nat} {x : Int32} (h : HV f N) (hi : i < N) (hq : q < 6) (hx : ∀ y : Nat → Int32, SV y → SV (fun j => if j = q then x else y j)) : HV (uf f 33 (7 * i + q) x) N := by
  intro k hk
  have s := h k hk
  by_cases e : k = i
  · subst e
    refine SV_c (y := fun j => if j = q then x else h7 (f 33) k j) (fun j hj => ?_) (hx _ s)
    rw [h7_uf hj (by omega)]
    by_cases z : j = q
    · rw [if_pos ⟨rfl, z⟩]; exact (if_pos z).symm
    · rw [if_neg (fun y => z y.2)]; exact (if_neg z).symm
  · refine SV_c (fun j hj => ?_) s
    rw [h7_uf hj (by omega), if_neg (fun y => e y.1)]
theorem chg_HV {f : Nat → Nat → Int32} {N k : Nat} {K : Int32} (hk : k < N) (h : HV f N) : HV (chg f N K k) N := by
  unfold chg
  split
  · split
    · rename_i z
      intro m hm
      have s := h m hm
      by_cases e : m = k
      · subst e
        have e5 : h7 (f 33) m 5 = 1 := z.1
        have e6 : h7 (f 33) m 6 = -1 := s.2 (by rw [e5]; decide)
        obtain ⟨⟨s0, s1, s2, s3, s4, s5⟩, _⟩ := s
        have o : ∀ j, j < 7 → j ≠ 5 → h7 (uf f 33 (7 * m + 5) 0 33) m j = h7 (f 33) m j := fun j hj hne => by rw [h7_uf hj (by decide), if_neg (fun y => hne y.2)]
        have o5 : h7 (uf f 33 (7 * m + 5) 0 33) m 5 = 0 := by rw [h7_uf (by decide) (by decide), if_pos ⟨rfl, rfl⟩]
        refine SV_mk ?_ (fun _ => ?_)
        · rw [o 0 (by decide) (by decide), o 1 (by decide) (by decide), o 2 (by decide) (by decide), o 3 (by decide) (by decide), o 4 (by decide) (by decide), o5]
          exact ⟨s0, s1, s2, s3, s4, by decide⟩
        · rw [o 6 (by decide) (by decide)]; exact e6
      · refine SV_c (fun j hj => ?_) s
        rw [h7_uf hj (by decide), if_neg (fun y => e y.1)]
    · exact h
  · split
    · split
      · rename_i z
        have hm : (if k + 1 < N then k + 1 else k - 1) < N := by split <;> omega
        have s0 := (h _ hm).1.1
        exact HV_uf h hk (by decide) (fun y hy => ⟨⟨s0, hy.1.2⟩, hy.2⟩)
      · exact h
    · split
      · split
        · rename_i z
          have s4 := (h (k - 1) (by omega)).1.2.2.2.2.1
          exact HV_uf h hk (by decide) (fun y hy => ⟨⟨hy.1.1, hy.1.2.1, hy.1.2.2.1, s4, hy.1.2.2.2.2⟩, hy.2⟩)
        · exact h
      · split
        · split
          · rename_i z
            have s := (h k hk).1
            refine HV_uf (HV_uf h hk (by decide) (fun y hy => ⟨⟨hy.1.1, s.2.2.1, hy.1.2.2⟩, hy.2⟩)) hk (by decide) (fun y hy => ⟨⟨hy.1.1, hy.1.2.1, s.2.1, hy.1.2.2.2⟩, hy.2⟩)
          · exact h
        · split
          · split
            · exact HV_uf h hk (by decide) (fun y hy => ⟨⟨hy.1.1, hy.1.2.1, show (0 : Int32) ≤ 5 ∧ (5 : Int32) < 9 by decide, hy.1.2.2.2⟩, hy.2⟩)
            · exact h
          · exact h
theorem rsm_HV {f : Nat → Nat → Int32} {N i k : Nat} (hk : k < N) (h : HV f N) : HV (rsm N i k f) N := by
  unfold rsm
  split
  · exact h
  · exact chg_HV hk h
theorem rsms_HV {N i : Nat} : ∀ m k (f : Nat → Nat → Int32), k + m = N → HV f N → HV (up (rsm N i) m k f) N
  | 0, _, _, _, h => h
  | m + 1, k, f, e, h => rsms_HV m (k + 1) _ (by omega) (rsm_HV (by omega) h)
theorem rsmss_HV {N : Nat} : ∀ m i (f : Nat → Nat → Int32), HV f N → HV (up (rsms N) m i f) N
  | 0, _, _, h => h
  | m + 1, i, f, h => rsmss_HV m (i + 1) _ (rsms_HV N 0 f (by omega) h)
theorem pl_V {a : Int32} (h : 0 ≤ a ∧ a < 4) : 0 ≤ pl a ∧ pl a < 9 := by
  obtain ⟨k, hk, rfl⟩ := nI_below (n := 4) (by decide) h.1 h.2
  have : k = 0 ∨ k = 1 ∨ k = 2 ∨ k = 3 := by omega
  rcases this with e | e | e | e <;> subst e <;> decide
section
variable {c : Nat → Nat} {g f : Nat → Nat → Int32}
theorem tfm_SV (hb : BD c) (h : RLA c g f) {k : Nat} (hk : k < c 1) : SV (tfm f k) := by
  obtain ⟨_, _, _, iv, _⟩ := h.2.1.1 k hk
  have hb := hb.1
  unfold tfm
  rcases iv with ⟨e, s, s1, s2⟩ | ⟨e, a1, _⟩ | ⟨e, ⟨s, s1, s2⟩, b1, d1⟩ | ⟨e, a1, a2⟩
  · rw [if_pos e, s2, nI_clamp (by omega)]
    exact (h.1 s s1).2
  · have n0 : ¬ f 13 k = 0 := fun z => by rw [z] at e; exact absurd e (by decide)
    have n4 : ¬ f 13 k = 4 := fun z => by rw [z] at e; exact absurd e (by decide)
    have n5 : ¬ f 13 k = 5 := fun z => by rw [z] at e; exact absurd e (by decide)
    rw [if_neg n0, if_neg n4, if_neg n5]
    have p := pl_V a1
    exact ⟨⟨show (0 : Int32) ≤ 1 ∧ (1 : Int32) < 8 by decide, p, p, show (0 : Int32) ≤ 0 ∧ (0 : Int32) < 4 by decide, show (0 : Int32) ≤ 0 ∧ (0 : Int32) < 4 by decide, show (0 : Int32) ≤ 0 ∧ (0 : Int32) < 3 by decide⟩, fun _ => rfl⟩
  · rw [if_neg (by rw [e]; decide), if_pos e, s2, nI_clamp (by omega)]
    obtain ⟨⟨x0, x1, x2, x3, x4, x5⟩, x6⟩ := (h.1 s s1).2
    exact ⟨⟨x0, pl_V b1, pl_V d1, x3, x4, x5⟩, x6⟩
  · rw [if_neg (by rw [e]; decide), if_neg (by rw [e]; decide), if_pos e]
    obtain ⟨a, ha, ea⟩ := nI_below (n := 26) (by decide) a1 a2
    rw [ea]
    have d : ∀ a : Fin 26, ((0 : Int32) ≤ nI a.1 - nI a.1 / 8 * 8 ∧ nI a.1 - nI a.1 / 8 * 8 < 8) ∧ (0 ≤ nI a.1 / 8 ∧ nI a.1 / 8 < 4) := by decide
    obtain ⟨d1, d2⟩ := d ⟨a, ha⟩
    exact ⟨⟨d1, show (0 : Int32) ≤ 4 ∧ (4 : Int32) < 9 by decide, show (0 : Int32) ≤ 4 ∧ (4 : Int32) < 9 by decide, d2, d2, show (0 : Int32) ≤ 0 ∧ (0 : Int32) < 3 by decide⟩, fun _ => rfl⟩
theorem bgm_HV (hb : BD c) (h : RLA c g f) : ∀ m k (F : Nat → Nat → Int32), k + m = c 1 → (∀ j, j < c 1 → tfm F j = tfm f j) → (∀ j, j < k → SV (h7 (F 33) j)) → HV (up bgm m k F) (c 1)
  | 0, k, F, e, _, hs => fun j hj => hs j (by omega)
  | m + 1, k, F, e, ht, hs => by
    refine bgm_HV hb h m (k + 1) (bgm k F) (by omega) (fun j hj => ?_) (fun j hj => ?_)
    · rw [tfm_33 (fun r hr => bgm_r hr)]
      exact ht j hj
    · unfold bgm
      by_cases z : j = k
      · subst z
        refine SV_c (fun q hq => w7_at hq) ?_
        rw [ht j (by omega)]
        exact tfm_SV hb h (by omega)
      · exact SV_c (fun q hq => w7_o (by omega)) (hs j (by omega))
theorem apm_HV (hb : BD c) (h : RLA c g f) : HV (apm (c 1) (c 3) f) (c 1) := by
  unfold apm
  exact rsmss_HV _ _ _ (bgm_HV hb h (c 1) 0 f (by omega) (fun _ _ => rfl) (fun j hj => absurd hj (by omega)))
end
-- ticks
theorem ds_n {a b : Int32} (ha : 0 ≤ a ∧ a < 9) (hb : 0 ≤ b ∧ b < 9) : ∃ n, n ≤ 4 ∧ ds a b = nI n := by
  obtain ⟨x, hx, rfl⟩ := nI_below (n := 9) (by decide) ha.1 ha.2
  obtain ⟨y, hy, rfl⟩ := nI_below (n := 9) (by decide) hb.1 hb.2
  have d : ∀ x y : Fin 9, ∃ n : Fin 5, ds (nI x.1) (nI y.1) = nI n.1 := by decide +kernel
  obtain ⟨n, hn⟩ := d ⟨x, hx⟩ ⟨y, hy⟩
  exact ⟨n.1, by omega, hn⟩
theorem ls1_le1 (a : Int32) : ls1 a = le1 a := by
  unfold ls1 le1
  by_cases h : a < 1
  · rw [if_pos h, if_neg (fun z => Int32.lt_irrefl (Int32.lt_trans z h))]
  · rw [if_neg h]
    by_cases h1 : 1 < a
    · rw [if_pos h1]
    · rw [if_neg h1]
      exact Int32.le_antisymm (Int32.not_lt.mp h) (Int32.not_lt.mp h1)
theorem le1_n {n : Nat} (h : n ≤ 4) : ∃ m, m ≤ 4 ∧ le1 (nI n) = nI m := by
  have d : ∀ n : Fin 5, ∃ m : Fin 5, le1 (nI n.1) = nI m.1 := by decide
  obtain ⟨m, hm⟩ := d ⟨n, by omega⟩
  exact ⟨m.1, by omega, hm⟩
theorem tmk_n {x : Nat → Int32} (h : SV x) : ∃ n, n ≤ 8 ∧ tmk x = nI n := by
  unfold tmk
  split
  · exact ⟨3, by decide, rfl⟩
  · obtain ⟨n, h1, h2⟩ := ds_n h.1.2.1 h.1.2.2.1
    obtain ⟨m, h3, h4⟩ := le1_n h1
    rw [h2, h4]
    exact ⟨4 + m, by omega, nI_add 4 m⟩
theorem tmp_n {x y : Nat → Int32} (h : SV x) (hy : SV y) : ∃ n, n ≤ 4 ∧ tmp x y = nI n := by
  unfold tmp
  split
  · exact ⟨0, by decide, rfl⟩
  · obtain ⟨n, h1, h2⟩ := ds_n h.1.2.2.1 hy.1.2.1
    rw [h2]
    exact le1_n h1
theorem tp_tmp (x y : Nat → Int32) : tp x y = tmp x y := by
  unfold tp tmp
  rw [ls1_le1]
theorem ti_tmk (x : Nat → Int32) : ti x = tmk x := by
  unfold ti tmk
  rw [ls1_le1]
  split
  · rfl
  · rw [Int32.add_comm 2, Int32.add_assoc, Int32.add_comm]
    rfl
theorem tmq_n {f : Nat → Nat → Int32} {N k : Nat} (h : HV f N) (hk : k < N) : ∃ n, n ≤ 4 ∧ tmq (f 33) k = nI n := by
  cases k with
  | zero => exact ⟨0, by decide, rfl⟩
  | succ j => exact tmp_n (h j (by omega)) (h (j + 1) hk)
theorem bgn_n {f : Nat → Nat → Int32} {N : Nat} (h : HV f N) : ∀ k, k ≤ N → ∃ n, n ≤ 12 * k ∧ bgn (f 33) k = nI n
  | 0, _ => ⟨0, by decide, rfl⟩
  | k + 1, hk => by
    obtain ⟨n, h1, h2⟩ := bgn_n h k (by omega)
    obtain ⟨a, a1, a2⟩ := tmq_n h (show k < N by omega)
    obtain ⟨b, b1, b2⟩ := tmk_n (h k (by omega))
    refine ⟨n + (a + b), by omega, ?_⟩
    show bgn (f 33) k + (tmq (f 33) k + tmk (h7 (f 33) k)) = _
    rw [h2, a2, b2, nI_add, nI_add]
theorem tmp_c {x y x' y' : Nat → Int32} (h : ∀ j, j < 7 → x j = x' j) (h' : ∀ j, j < 7 → y j = y' j) : tmp x y = tmp x' y' := by
  unfold tmp
  rw [h 0 (by decide), h 2 (by decide), h 4 (by decide), h' 0 (by decide), h' 1 (by decide), h' 3 (by decide)]
theorem tmk_c {x x' : Nat → Int32} (h : ∀ j, j < 7 → x j = x' j) : tmk x = tmk x' := by
  unfold tmk
  rw [h 1 (by decide), h 2 (by decide), h 3 (by decide), h 4 (by decide)]
/-- the class's ticks are the reference's -/
theorem sg_at {r : Nat → Int32} {N : Nat} : ∀ m k (t : Int32) (g : Nat → Nat → Int32), k + m = N → t = bgn r k → (∀ j, j < 7 * N → g 33 j = r j) → ∀ j, (k ≤ j → j < N → (up sgs m k (t, g)).2 35 (3 * j + 0) = bgn r j ∧ (up sgs m k (t, g)).2 35 (3 * j + 1) = bgn r j + tmq r j ∧ (up sgs m k (t, g)).2 35 (3 * j + 2) = bgn r (j + 1)) ∧ (j < k → ∀ i, i < 3 → (up sgs m k (t, g)).2 35 (3 * j + i) = g 35 (3 * j + i))
  | 0, k, t, g, e, ht, hr, j => ⟨fun a b => absurd a (by omega), fun _ _ _ => rfl⟩
  | m + 1, k, t, g, e, ht, hr, j => by
    have hq : tpk (g 33) k = tmq r k := by
      cases k with
      | zero => rfl
      | succ i =>
        show tp _ _ = tmp _ _
        rw [tp_tmp]
        exact tmp_c (fun q hq => hr _ (by omega)) (fun q hq => hr _ (by omega))
    have hk : ti (h7 (g 33) k) = tmk (h7 r k) := by
      rw [ti_tmk]
      exact tmk_c (fun q hq => hr _ (by omega))
    have es : sgs k (t, g) = (bgn r (k + 1), uf (uf (uf g 35 (3 * k + 0) (bgn r k)) 35 (3 * k + 1) (bgn r k + tmq r k)) 35 (3 * k + 2) (bgn r (k + 1))) := by
      unfold sgs
      show (t + tpk (g 33) k + ti (h7 (g 33) k), uf (uf (uf g 35 (3 * k + 0) t) 35 (3 * k + 1) (t + tpk (g 33) k)) 35 (3 * k + 2) (t + tpk (g 33) k + ti (h7 (g 33) k))) = _
      rw [hq, hk, ht, Int32.add_assoc]
      rfl
    have ih := sg_at (r := r) (N := N) m (k + 1) (bgn r (k + 1)) (uf (uf (uf g 35 (3 * k + 0) (bgn r k)) 35 (3 * k + 1) (bgn r k + tmq r k)) 35 (3 * k + 2) (bgn r (k + 1))) (by omega) rfl (by rw [u35, u35, u35]; exact hr) j
    show (k ≤ j → j < N → (up sgs m (k + 1) (sgs k (t, g))).2 35 (3 * j + 0) = bgn r j ∧ (up sgs m (k + 1) (sgs k (t, g))).2 35 (3 * j + 1) = bgn r j + tmq r j ∧ (up sgs m (k + 1) (sgs k (t, g))).2 35 (3 * j + 2) = bgn r (j + 1)) ∧ (j < k → ∀ i, i < 3 → (up sgs m (k + 1) (sgs k (t, g))).2 35 (3 * j + i) = g 35 (3 * j + i))
    rw [es]
    refine ⟨fun a b => ?_, fun a i hi => ?_⟩
    · by_cases z : j = k
      · subst z
        have w := ih.2 (by omega)
        rw [w 0 (by decide), w 1 (by decide), w 2 (by decide)]
        refine ⟨?_, ?_, ufat⟩
        · rw [uf_s, uf_s, uf_s]
          simp [upd]
        · rw [uf_s, uf_s]
          simp [upd]
      · exact ih.1 (by omega) b
    · rw [ih.2 (by omega) i hi, uf_s, uf_s, uf_s]
      show (if 3 * j + i = 3 * k + 2 then _ else if 3 * j + i = 3 * k + 1 then _ else if 3 * j + i = 3 * k + 0 then _ else g 35 (3 * j + i)) = _
      rw [if_neg (by omega), if_neg (by omega), if_neg (by omega)]
