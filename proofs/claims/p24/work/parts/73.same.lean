/-! THE LAW'S LOOP: ticks are what they are, however often they are worked out -/
def RH (g f : Nat → Nat → Int32) (N : Nat) : Prop := (∀ k, k < N → g 13 k = f 13 k ∧ g 14 k = f 14 k) ∧ (∀ j, j < 7 * N → g 33 j = f 33 j)
theorem chg_RH {g f : Nat → Nat → Int32} {N k : Nat} {K : Int32} (hk : k < N) (h : RH g f N) : RH (chg g N K k) (chg f N K k) N := by
  obtain ⟨h1, h2⟩ := h
  refine ⟨fun j hj => by rw [chg_r (by decide), chg_r (by decide), chg_r (by decide), chg_r (by decide)]; exact h1 j hj, ?_⟩
  have a : ∀ j i x y, j < 7 * N → x = y → uf g 33 i x 33 j = uf f 33 i y 33 j := by
    intro j i x y hj e
    subst e
    rw [uf_s, uf_s]
    unfold upd
    split
    · rfl
    · exact h2 j hj
  have a2 : ∀ j i i' x y x' y', j < 7 * N → x = y → x' = y' → uf (uf g 33 i x) 33 i' x' 33 j = uf (uf f 33 i y) 33 i' y' 33 j := by
    intro j i i' x y x' y' hj e e'
    subst e e'
    rw [uf_s (uf g 33 i x) 33 i' x', uf_s (uf f 33 i x) 33 i' x']
    unfold upd
    split
    · rfl
    · exact a j i x x hj rfl
  have r : ∀ i q, i < N → q < 7 → g 33 (7 * i + q) = f 33 (7 * i + q) := fun i q hi hq => h2 _ (by omega)
  have k1 := h1 k hk
  intro j hj
  unfold chg
  split
  · have e : (g 33 (7 * k + 5) = 1 ∧ (k = 0 ∨ g 33 (7 * (k - 1) + 5) = 0) ∧ (N ≤ k + 1 ∨ g 33 (7 * (k + 1) + 5) = 0)) ↔ (f 33 (7 * k + 5) = 1 ∧ (k = 0 ∨ f 33 (7 * (k - 1) + 5) = 0) ∧ (N ≤ k + 1 ∨ f 33 (7 * (k + 1) + 5) = 0)) := by
      rw [r k 5 hk (by omega), r (k - 1) 5 (by omega) (by omega)]
      by_cases z : N ≤ k + 1
      · simp only [z, true_or]
      · rw [r (k + 1) 5 (by omega) (by omega)]
    by_cases z : (f 33 (7 * k + 5) = 1 ∧ (k = 0 ∨ f 33 (7 * (k - 1) + 5) = 0) ∧ (N ≤ k + 1 ∨ f 33 (7 * (k + 1) + 5) = 0))
    · rw [if_pos z, if_pos (e.mpr z)]; exact a _ _ _ _ hj rfl
    · rw [if_neg z, if_neg (fun y => z (e.mp y))]; exact h2 j hj
  · split
    · rw [k1.1]
      split
      · refine a _ _ _ _ hj ?_
        split
        · exact r _ 0 (by omega) (by omega)
        · exact r _ 0 (by omega) (by omega)
      · exact h2 j hj
    · split
      · rw [r k 3 hk (by omega), r (k - 1) 4 (by omega) (by omega)]
        split
        · exact a _ _ _ _ hj rfl
        · exact h2 j hj
      · split
        · rw [k1.1, r k 1 hk (by omega), r k 2 hk (by omega), r (k - 1) 2 (by omega) (by omega)]
          split
          · exact a2 _ _ _ _ _ _ _ hj rfl rfl
          · exact h2 j hj
        · split
          · rw [k1.1, k1.2, (h1 (k - 1) (by omega)).1, (h1 (k - 1) (by omega)).2]
            split
            · exact a _ _ _ _ hj rfl
            · exact h2 j hj
          · exact h2 j hj

def SE (g f : Nat → Nat → Int32) : Prop := ∀ r, r ≠ 33 → r ≠ 35 → g r = f r
section
variable {g f : Nat → Nat → Int32} {N R : Nat}
theorem SE_s {s s' : Nat → (Nat → Nat → Int32) → (Nat → Nat → Int32)} (hs : ∀ k g r, r ≠ 33 → s k g r = g r) (hs' : ∀ k g r, r ≠ 33 → s' k g r = g r) (h : SE g f) (k : Nat) : SE (s k g) (s' k f) := fun r h3 h5 => by rw [hs k g r h3, hs' k f r h3]; exact h r h3 h5
theorem rst_EH {i k : Nat} (hk : k < N) (hs : SE g f) (h : RH g f N) : RH (rst N i k g) (rst N i k f) N := by
  unfold rst
  rw [hs 13 (by decide) (by decide), hs 14 (by decide) (by decide), hs 22 (by decide) (by decide), hs 21 (by decide) (by decide)]
  by_cases z : (f 13 k = 0 ∨ f 13 k = 4) ∧ f 22 (30 * i + (f 14 k).toNatClampNeg) ≠ 0
  · rw [if_pos z, if_pos z]; exact h
  · rw [if_neg z, if_neg z]; exact chg_RH hk h
theorem rsts_EH {i : Nat} : ∀ m k (g f : Nat → Nat → Int32), k + m = N → SE g f → RH g f N → RH (up (rst N i) m k g) (up (rst N i) m k f) N
  | 0, _, _, _, _, _, h => h
  | m + 1, k, g, f, e, hs, h => rsts_EH m (k + 1) _ _ (by omega) (SE_s (fun k g r hr => rst_r hr) (fun k g r hr => rst_r hr) hs k) (rst_EH (by omega) hs h)
theorem rsts_r {i r : Nat} {g : Nat → Nat → Int32} (hr : r ≠ 33) : rsts N i g r = g r := up_r (s := rst N i) (fun k g => rst_r hr) _ _ _
theorem rstss_EH : ∀ m i (g f : Nat → Nat → Int32), i + m = R → SE g f → RH g f N → RH (up (rsts N) m i g) (up (rsts N) m i f) N
  | 0, _, _, _, _, _, h => h
  | m + 1, i, g, f, e, hs, h => rstss_EH m (i + 1) _ _ (by omega) (SE_s (s := rsts N) (s' := rsts N) (fun k g r hr => rsts_r hr) (fun k g r hr => rsts_r hr) hs i) (rsts_EH N 0 g f (by omega) hs h)
theorem bg_EH : ∀ m k (g f : Nat → Nat → Int32), k + m = N → SE g f → (∀ j, j < 7 * k → g 33 j = f 33 j) → RH (up bgc m k g) (up bgc m k f) N ∧ SE (up bgc m k g) (up bgc m k f)
  | 0, k, g, f, e, h, hd => ⟨⟨fun j _ => ⟨congrFun (h 13 (by decide) (by decide)) j, congrFun (h 14 (by decide) (by decide)) j⟩, fun j hj => hd j (by omega)⟩, h⟩
  | m + 1, k, g, f, e, h, hd => by
    refine bg_EH m (k + 1) (bgc k g) (bgc k f) (by omega) (SE_s (fun k g r hr => bgc_r hr) (fun k g r hr => bgc_r hr) h k) ?_
    intro j hj
    unfold bgc
    by_cases z : 7 * k ≤ j ∧ j < 7 * k + 7
    · rw [w7_in z, w7_in z, h 34 (by decide) (by decide)]
    · rw [w7_o (by omega), w7_o (by omega)]
      exact hd j (by omega)
theorem ap_EH (h : SE g f) : RH (apc N R g) (apc N R f) N := by
  obtain ⟨h1, h2⟩ := bg_EH (N := N) N 0 g f (by omega) h (fun j hj => absurd hj (by omega))
  exact rstss_EH (R := R) R 0 _ _ (by omega) h2 h1
end
theorem sg_EH {N : Nat} : ∀ m k (t : Int32) (G F : Nat → Nat → Int32), k + m = N → (∀ j, j < 7 * N → G 33 j = F 33 j) → (∀ j, j < 3 * k → G 35 j = F 35 j) → ∀ j, j < 3 * N → (up sgs m k (t, G)).2 35 j = (up sgs m k (t, F)).2 35 j
  | 0, k, t, G, F, e, _, h, j, hj => h j (by omega)
  | m + 1, k, t, G, F, e, h3, h, j, hj => by
    have e1 : tpk (G 33) k = tpk (F 33) k := by
      cases k with
      | zero => rfl
      | succ i =>
        show tp (h7 (G 33) i) (h7 (G 33) (i + 1)) = tp (h7 (F 33) i) (h7 (F 33) (i + 1))
        unfold tp h7
        rw [h3 (7 * i + 0) (by omega), h3 (7 * i + 2) (by omega), h3 (7 * i + 4) (by omega), h3 (7 * (i + 1) + 0) (by omega), h3 (7 * (i + 1) + 1) (by omega), h3 (7 * (i + 1) + 3) (by omega)]
    have e2 : ti (h7 (G 33) k) = ti (h7 (F 33) k) := by
      unfold ti h7
      rw [h3 (7 * k + 1) (by omega), h3 (7 * k + 2) (by omega), h3 (7 * k + 3) (by omega), h3 (7 * k + 4) (by omega)]
    show (up sgs m (k + 1) (sgs k (t, G))).2 35 j = (up sgs m (k + 1) (sgs k (t, F))).2 35 j
    unfold sgs
    dsimp only
    rw [e1, e2]
    refine sg_EH m (k + 1) _ _ _ (by omega) (fun i hi => ?_) (fun i hi => ?_) j hj
    · rw [uf_n (by decide), uf_n (by decide), uf_n (by decide), uf_n (by decide), uf_n (by decide), uf_n (by decide)]
      exact h3 i hi
    · rw [uf_s, uf_s, uf_s, uf_s, uf_s, uf_s]
      unfold upd
      by_cases q2 : i = 3 * k + 2
      · rw [if_pos q2, if_pos q2]
      · rw [if_neg q2, if_neg q2]
        by_cases q1 : i = 3 * k + 1
        · rw [if_pos q1, if_pos q1]
        · rw [if_neg q1, if_neg q1]
          by_cases q0 : i = 3 * k + 0
          · rw [if_pos q0, if_pos q0]
          · rw [if_neg q0, if_neg q0]
            exact h i (by omega)
theorem SE_sga {g : Nat → Nat → Int32} {N R : Nat} : SE (sga N R g) g := fun r h3 h5 => sga_r h3 h5
theorem sga_EH {g f : Nat → Nat → Int32} {N R : Nat} (h : SE g f) {j : Nat} (hj : j < 3 * N) : sga N R g 35 j = sga N R f 35 j := by
  unfold sga
  exact sg_EH (N := N) N 0 0 _ _ (by omega) (ap_EH h).2 (fun j hj => absurd hj (by omega)) j hj
theorem sv_EH {g f : Nat → Nat → Int32} {N R k q : Nat} (h : SE g f) (hk : k < N) (hq : 6 ≤ q ∧ q < 9) : sv (sga N R g) k q = sv (sga N R f) k q := by
  unfold sv
  rw [if_neg (by omega), if_neg (by omega)]
  exact sga_EH h (by omega)
