/-! LEVEL 2: the reference's rules go, all of them -/
noncomputable def bgm (k : Nat) (f : Nat → Nat → Int32) : Nat → Nat → Int32 := w7 f 33 k (tfm f k)
noncomputable def rsm (N i k : Nat) (f : Nat → Nat → Int32) : Nat → Nat → Int32 := if (f 13 k = 0 ∨ f 13 k = 4) ∧ (f 22 i >>> (f 14 k &&& 31)) &&& 1 = 1 then f else chg f N (f 21 i) k
noncomputable def rsms (N i : Nat) (f : Nat → Nat → Int32) : Nat → Nat → Int32 := up (rsm N i) N 0 f
noncomputable def apm (N R : Nat) (f : Nat → Nat → Int32) : Nat → Nat → Int32 := up (rsms N) R 0 (up bgm N 0 f)
theorem bgm_r {f : Nat → Nat → Int32} {k r : Nat} (h : r ≠ 33) : bgm k f r = f r := w7_r h
theorem rsm_r {f : Nat → Nat → Int32} {N i k r : Nat} (h : r ≠ 33) : rsm N i k f r = f r := by
  unfold rsm
  split
  · rfl
  · exact chg_r h
section
variable {σ : mm_S} {c : Nat → Nat} {f : Nat → Nat → Int32}
theorem l_142a (hc : c 1 ≤ 14) : ∀ m k (f : Nat → Nat → Int32) (l2 : Value), k + m = c 1 → VI f 30 (c 1) → mm_L 142 2 [.ref 11, .int (nI k), l2] [] (MW σ (vN c) f) = mm_L 142 23 [.ref 11, .int 0, l2] [] (MW σ (vN c) (up bgm m k f))
  | 0, k, f, l2, h, hv => by
    have q := eq_true (nI_le (a := c 1) (b := k) (by omega) (by omega))
    rw [e142_2]
    simp only [mg_2, vN_, q, e142_7, e142_21, K0_v, K0_n, K0_x, K2_v, K2_n, K1_v, K1_n, K1_x, bI_s, bJ_s, bV_s, bS_s, l_10, l_00, bz_01, bz_0, bz_1, em_n, if_true, if_false, ite_not, ite_true, ite_false, not_true_eq_false, not_false_eq_true, or_true, true_or, up]
  | m + 1, k, f, l2, h, hv => by
    have hk : k < c 1 := by omega
    have q := eq_false (nI_ge (a := k) (b := c 1) hk (by omega))
    rw [e142_2]
    simp only [mg_2, vN_, q, e142_7, e142_10, e142_15, Mo_138, c_138 (show k < 14 by omega) (hv k hk), nI_1, K0_v, K0_n, K0_x, K2_v, K2_n, K1_v, K1_n, K1_x, bI_s, bJ_s, bV_s, bS_s, l_10, l_00, bz_01, bz_0, bz_1, em_n, if_true, if_false, ite_not, ite_true, ite_false, not_true_eq_false, not_false_eq_true, or_true, true_or]
    exact l_142a hc m (k + 1) (bgm k f) l2 (by omega) (by
      unfold VI
      rw [bgm_r (by decide), bgm_r (by decide)]
      exact hv)
theorem l_142c (hc : c 1 ≤ 14) {i : Nat} (hi : i < 6) : ∀ m k (f : Nat → Nat → Int32), k + m = c 1 → mm_L 142 33 [.ref 11, .int (nI i), .int (nI k)] [] (MW σ (vN c) f) = mm_L 142 23 [.ref 11, .int (nI (i + 1)), .int (nI (c 1))] [] (MW σ (vN c) (up (rsm (c 1) i) m k f))
  | 0, k, f, h => by
    have e : k = c 1 := by omega
    subst e
    have q := eq_true (nI_le (a := c 1) (b := c 1) (by omega) (by omega))
    rw [e142_33]
    simp only [mg_2, vN_, q, e142_38, e142_67, nI_1, K0_v, K0_n, K0_x, K2_v, K2_n, K1_v, K1_n, K1_x, bI_s, bJ_s, bV_s, bS_s, l_10, l_00, bz_01, bz_0, bz_1, em_n, if_true, if_false, ite_not, ite_true, ite_false, not_true_eq_false, not_false_eq_true, or_true, true_or, up]
  | m + 1, k, f, h => by
    have hk : k < c 1 := by omega
    have q := eq_false (nI_ge (a := k) (b := c 1) hk (by omega))
    rw [e142_33]
    show _ = mm_L 142 23 _ [] (MW σ (vN c) (up (rsm (c 1) i) m (k + 1) (rsm (c 1) i k f)))
    rw [← l_142c hc hi m (k + 1) (rsm (c 1) i k f) (by omega)]
    unfold rsm
    by_cases hx : (f 13 k = 0 ∨ f 13 k = 4) ∧ (f 22 i >>> (f 14 k &&& 31)) &&& 1 = 1
    · rw [if_pos hx]
      simp only [mg_2, vN_, q, e142_38, e142_41, e142_47, e142_61, Mo_139, c_139 hi (show k < 14 by omega), eq_true hx, nI_1, K0_v, K0_n, K0_x, K2_v, K2_n, K1_v, K1_n, K1_x, bI_s, bJ_s, bV_s, bS_s, l_10, l_00, bz_01, bz_0, bz_1, em_n, if_true, if_false, ite_not, ite_true, ite_false, not_true_eq_false, not_false_eq_true, or_true, true_or]
    · rw [if_neg hx]
      simp only [mg_2, vN_, q, e142_38, e142_41, e142_47, e142_50, e142_55, e142_57, e142_61, Mo_139, c_139 hi (show k < 14 by omega), eq_false hx, mg_13, ma_21 hi, Mo_141, c_141 hc hk, nI_1, K0_v, K0_n, K0_x, K2_v, K2_n, K1_v, K1_n, K1_x, bI_s, bJ_s, bV_s, bS_s, l_10, l_00, bz_01, bz_0, bz_1, em_n, if_true, if_false, ite_not, ite_true, ite_false, not_true_eq_false, not_false_eq_true, or_true, true_or]
theorem l_142b (hc : c 1 ≤ 14) (hc3 : c 3 ≤ 6) : ∀ m i (f : Nat → Nat → Int32) (l2 : Value), i + m = c 3 → mm_L 142 23 [.ref 11, .int (nI i), l2] [] (MW σ (vN c) f) = some (.inl none, MW σ (vN c) (up (rsms (c 1)) m i f))
  | 0, i, f, l2, h => by
    have q := eq_true (nI_le (a := c 3) (b := i) (by omega) (by omega))
    rw [e142_23]
    simp only [mg_12, vN_, q, e142_28, e142_73, K0_v, K0_n, K0_x, K2_v, K2_n, K1_v, K1_n, K1_x, bI_s, bJ_s, bV_s, bS_s, l_10, l_00, bz_01, bz_0, bz_1, em_n, if_true, if_false, ite_not, ite_true, ite_false, not_true_eq_false, not_false_eq_true, or_true, true_or, up]
  | m + 1, i, f, l2, h => by
    have hi : i < c 3 := by omega
    have q := eq_false (nI_ge (a := i) (b := c 3) hi (by omega))
    rw [e142_23]
    simp only [mg_12, vN_, q, e142_28, e142_31, K0_v, K0_n, K0_x, K2_v, K2_n, K1_v, K1_n, K1_x, bI_s, bJ_s, bV_s, bS_s, l_10, l_00, bz_01, bz_0, bz_1, em_n, if_true, if_false, ite_not, ite_true, ite_false, not_true_eq_false, not_false_eq_true, or_true, true_or]
    have l := l_142c (σ := σ) hc (show i < 6 by omega) (c 1) 0 f (by omega)
    rw [nI_0] at l
    rw [l]
    exact l_142b hc hc3 m (i + 1) _ _ (by omega)
theorem c_142 (hc : c 1 ≤ 14) (hc3 : c 3 ≤ 6) (hv : VI f 30 (c 1)) : mm_M 142 [.ref 11] (MW σ (vN c) f) = some (.inl none, MW σ (vN c) (apm (c 1) (c 3) f)) := by
  have a := l_142a (σ := σ) hc (c 1) 0 f mm_un (by omega) hv
  rw [nI_0] at a
  rw [M_142, e142_0, a]
  have b := l_142b (σ := σ) hc hc3 (c 3) 0 (up bgm (c 1) 0 f) mm_un (by omega)
  rw [nI_0] at b
  exact b
end
/-! the two agree -/
/-- the rows that both look at are alike for N items and R rules -/
def RH (g f : Nat → Nat → Int32) (N : Nat) : Prop := (∀ k, k < N → g 13 k = f 13 k ∧ g 14 k = f 14 k) ∧ (∀ j, j < 7 * N → g 33 j = f 33 j)
theorem chg_RH {g f : Nat → Nat → Int32} {N k : Nat} {K : Int32} (hk : k < N) (h : RH g f N) : RH (chg g N K k) (chg f N K k) N := by
  obtain ⟨h1, h2⟩ := h
  refine ⟨fun j hj => by rw [chg_r (by decide), chg_r (by decide), chg_r (by decide), chg_r (by decide)]; exact h1 j hj, ?_⟩
  have a : ∀ j i x y, j < 7 * N → x = y → uf g 33 i x 33 j = uf f 33 i y 33 j := by
    intro j i x y hj e
    subst e
    rw [uf_s, uf_s]
    unfold upd
    split
    · rfl
    · exact h2 j hj
  have a2 : ∀ j i i' x y x' y', j < 7 * N → x = y → x' = y' → uf (uf g 33 i x) 33 i' x' 33 j = uf (uf f 33 i y) 33 i' y' 33 j := by
    intro j i i' x y x' y' hj e e'
    subst e e'
    rw [uf_s (uf g 33 i x) 33 i' x', uf_s (uf f 33 i x) 33 i' x']
    unfold upd
    split
    · rfl
    · exact a j i x x hj rfl
  have r : ∀ i q, i < N → q < 7 → g 33 (7 * i + q) = f 33 (7 * i + q) := fun i q hi hq => h2 _ (by omega)
  have k1 := h1 k hk
  intro j hj
  unfold chg
  split
  · have e : (g 33 (7 * k + 5) = 1 ∧ (k = 0 ∨ g 33 (7 * (k - 1) + 5) = 0) ∧ (N ≤ k + 1 ∨ g 33 (7 * (k + 1) + 5) = 0)) ↔ (f 33 (7 * k + 5) = 1 ∧ (k = 0 ∨ f 33 (7 * (k - 1) + 5) = 0) ∧ (N ≤ k + 1 ∨ f 33 (7 * (k + 1) + 5) = 0)) := by
      rw [r k 5 hk (by omega), r (k - 1) 5 (by omega) (by omega)]
      by_cases z : N ≤ k + 1
      · simp only [z, true_or]
      · rw [r (k + 1) 5 (by omega) (by omega)]
    by_cases z : (f 33 (7 * k + 5) = 1 ∧ (k = 0 ∨ f 33 (7 * (k - 1) + 5) = 0) ∧ (N ≤ k + 1 ∨ f 33 (7 * (k + 1) + 5) = 0))
    · rw [if_pos z, if_pos (e.mpr z)]; exact a _ _ _ _ hj rfl
    · rw [if_neg z, if_neg (fun y => z (e.mp y))]; exact h2 j hj
  · split
    · rw [k1.1]
      split
      · refine a _ _ _ _ hj ?_
        split
        · exact r _ 0 (by omega) (by omega)
        · exact r _ 0 (by omega) (by omega)
      · exact h2 j hj
    · split
      · rw [r k 3 hk (by omega), r (k - 1) 4 (by omega) (by omega)]
        split
        · exact a _ _ _ _ hj rfl
        · exact h2 j hj
      · split
        · rw [k1.1, r k 1 hk (by omega), r k 2 hk (by omega), r (k - 1) 2 (by omega) (by omega)]
          split
          · exact a2 _ _ _ _ _ _ _ hj rfl rfl
          · exact h2 j hj
        · split
          · rw [k1.1, k1.2, (h1 (k - 1) (by omega)).1, (h1 (k - 1) (by omega)).2]
            split
            · exact a _ _ _ _ hj rfl
            · exact h2 j hj
          · exact h2 j hj
