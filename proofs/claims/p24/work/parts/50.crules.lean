/-! LEVEL 2: the class's rules go, all of them -/
def bgc (k : Nat) (g : Nat → Nat → Int32) : Nat → Nat → Int32 := w7 g 33 k (h7 (g 34) k)
noncomputable def rst (N i k : Nat) (g : Nat → Nat → Int32) : Nat → Nat → Int32 := if (g 13 k = 0 ∨ g 13 k = 4) ∧ g 22 (30 * i + (g 14 k).toNatClampNeg) ≠ 0 then g else chg g N (g 21 i) k
noncomputable def rsts (N i : Nat) (g : Nat → Nat → Int32) : Nat → Nat → Int32 := up (rst N i) N 0 g
noncomputable def apc (N R : Nat) (g : Nat → Nat → Int32) : Nat → Nat → Int32 := up (rsts N) R 0 (up bgc N 0 g)
/-- signs of items stand -/
def VI (g : Nat → Nat → Int32) (S N : Nat) : Prop := ∀ k, k < N → g 13 k = 0 ∨ g 13 k = 4 → ∃ s, s < S ∧ g 14 k = nI s
/-- letters begin at their place -/
def LT (g : Nat → Nat → Int32) (N : Nat) : Prop := ∀ k, k < N → g 13 k = 5 → g 33 (7 * k + 1) = 4
def LU (g : Nat → Nat → Int32) (N : Nat) : Prop := ∀ k, k < N → g 13 k = 5 → g 34 (7 * k + 1) = 4
theorem chg_r {g : Nat → Nat → Int32} {N k r : Nat} {K : Int32} (h : r ≠ 33) : chg g N K k r = g r := by
  unfold chg
  repeat' split
  all_goals first | rfl | (rw [uf_n h, uf_n h]) | (rw [uf_n h])
theorem rst_r {g : Nat → Nat → Int32} {N i k r : Nat} (h : r ≠ 33) : rst N i k g r = g r := by
  unfold rst
  split
  · rfl
  · exact chg_r h
theorem bgc_r {g : Nat → Nat → Int32} {k r : Nat} (h : r ≠ 33) : bgc k g r = g r := w7_r h
theorem up_r {s : Nat → (Nat → Nat → Int32) → (Nat → Nat → Int32)} {r : Nat} (h : ∀ k g, s k g r = g r) : ∀ m k g, up s m k g r = g r
  | 0, _, _ => rfl
  | m + 1, k, g => by
    show up s m (k + 1) (s k g) r = g r
    rw [up_r h m (k + 1) (s k g), h]
theorem uf_o {f : Nat → Nat → Int32} {r i j : Nat} {x : Int32} (h : j ≠ i) : uf f r i x r j = f r j := by
  rw [uf_s]
  exact if_neg h
theorem chg_LT {g : Nat → Nat → Int32} {N k : Nat} {K : Int32} (h : LT g N) : LT (chg g N K k) N := by
  intro j hj h5
  rw [chg_r (by decide)] at h5
  have h0 := h j hj h5
  unfold chg
  split
  · split
    · rw [uf_o (by omega)]; exact h0
    · exact h0
  · split
    · split
      · rw [uf_o (by omega)]; exact h0
      · exact h0
    · split
      · split
        · rw [uf_o (by omega)]; exact h0
        · exact h0
      · split
        · split
          · rename_i q
            have hjk : j ≠ k := fun z => by rw [z, q.2.1] at h5; exact absurd h5 (by decide)
            rw [uf_o (by omega), uf_o (by omega)]; exact h0
          · exact h0
        · split
          · split
            · rw [uf_o (by omega)]; exact h0
            · exact h0
          · exact h0
theorem rst_LT {g : Nat → Nat → Int32} {N i k : Nat} (h : LT g N) : LT (rst N i k g) N := by
  unfold rst
  split
  · exact h
  · exact chg_LT h
theorem rst_VI {g : Nat → Nat → Int32} {S N i k : Nat} (h : VI g S N) : VI (rst N i k g) S N := by
  unfold VI
  rw [rst_r (by decide), rst_r (by decide)]
  exact h
theorem up_P {s : Nat → (Nat → Nat → Int32) → (Nat → Nat → Int32)} {P : (Nat → Nat → Int32) → Prop} (h : ∀ k g, P g → P (s k g)) : ∀ m k g, P g → P (up s m k g)
  | 0, _, _, q => q
  | m + 1, k, g, q => up_P h m (k + 1) (s k g) (h k g q)
section
variable {σ : mm_S} {tg : Nat → Nat × Nat} {ad : Nat × Nat → Nat} {c : Nat → Nat} {g : Nat → Nat → Int32} {n : Nat}
theorem u34 (g : Nat → Nat → Int32) (i : Nat) (x : Int32) : uf g 33 i x 34 = g 34 := uf_n (by decide)
theorem c_7 (w : WF tg ad c n) {k : Nat} (hk : k < c 1) : mm_M 7 [.ref (ad (4, k)), .ref (ad (3, k))] (CW σ tg ad c g) = some (.inl none, CW σ tg ad c (bgc k g)) := by
  obtain ⟨L2, L3, L4⟩ := w.i hk
  have W := fun (g : Nat → Nat → Int32) (j : Nat) (hj : j < 7) (x : Int32) => cw_4 (σ := σ) (g := g) (x := x) w hk hj
  simp only [M_7, e7_0, e7_5, e7_8, e7_13, e7_16, e7_21, e7_24, e7_29, e7_32, e7_37, e7_40, e7_45, e7_48, e7_53, e7_56, hg_0 (Hd_3 L3), hg_1 (Hd_3 L3), hg_2 (Hd_3 L3), hg_3 (Hd_3 L3), hg_4 (Hd_3 L3), hg_5 (Hd_3 L3), hg_6 (Hd_3 L3), W _ 0 (by decide), W _ 1 (by decide), W _ 2 (by decide), W _ 3 (by decide), W _ 4 (by decide), W _ 5 (by decide), W _ 6 (by decide), u34, K0_v, K0_n, K0_x, K2_v, K2_n, K1_v, K1_n, K1_x, bI_s, bJ_s, bV_s, bS_s, l_10, l_00, bz_01, bz_0, bz_1, em_n, if_true, if_false, ite_not, ite_true, ite_false, not_true_eq_false, not_false_eq_true, or_true, true_or]
  rw [uf_w7]
  rfl
theorem l_59a (w : WF tg ad c n) : ∀ m k (g : Nat → Nat → Int32) (l2 : Value), k + m = c 1 → mm_L 59 2 [.ref 2, .int (nI k), l2] [] (CW σ tg ad c g) = mm_L 59 44 [.ref 2, .int 0, if m = 0 then l2 else .ref (ad (2, c 1 - 1))] [] (CW σ tg ad c (up bgc m k g))
  | 0, k, g, l2, h => by
    have hc := w.1.2.1
    have q := eq_true (nI_le (a := c 1) (b := k) (by omega) (by omega))
    rw [e59_2]
    simp only [cf_1, cz_4, q, e59_7, e59_10, e59_42, K0_v, K0_n, K0_x, K2_v, K2_n, K1_v, K1_n, K1_x, bI_s, bJ_s, bV_s, bS_s, l_10, l_00, bz_01, bz_0, bz_1, em_n, if_true, if_false, ite_not, ite_true, ite_false, not_true_eq_false, not_false_eq_true, or_true, true_or, up]
  | m + 1, k, g, l2, h => by
    have hc := w.1.2.1
    have hk : k < c 1 := by omega
    obtain ⟨L2, L3, L4⟩ := w.i hk
    have q := eq_false (nI_ge (a := k) (b := c 1) hk (by omega))
    have hM : mm_Mo 7 (ad (4, k)) [.ref (ad (3, k))] (CW σ tg ad c g) = mm_M 7 [.ref (ad (4, k)), .ref (ad (3, k))] (CW σ tg ad c g) := hM_7 (Hd_4 L4)
    rw [e59_2]
    simp only [cf_1, cz_4, q, e59_7, e59_10, e59_13, e59_17, e59_21, e59_24, e59_29, e59_33, e59_36, cg_4 hk (by omega), ck_2 L2, cr_2_4 L2, cr_2_3 L2, hM, c_7 w hk, nI_1, K0_v, K0_n, K0_x, K2_v, K2_n, K1_v, K1_n, K1_x, bI_s, bJ_s, bV_s, bS_s, l_10, l_00, bz_01, bz_0, bz_1, em_n, if_true, if_false, ite_not, ite_true, ite_false, not_true_eq_false, not_false_eq_true, or_true, true_or]
    rw [l_59a w m (k + 1) _ _ (by omega)]
    rw [if_neg (Nat.succ_ne_zero m)]
    by_cases e : m = 0
    · rw [if_pos e, show c 1 - 1 = k by omega]
      rfl
    · rw [if_neg e]
      rfl
theorem l_60 (w : WF tg ad c n) {i : Nat} (hi : i < c 3) : ∀ m k (g : Nat → Nat → Int32) (l3 : Value), k + m = c 1 → VI g (c 0) (c 1) → LT g (c 1) → mm_L 60 2 [.ref 2, .ref (ad (6, i)), .int (nI k), l3] [] (CW σ tg ad c g) = some (.inl none, CW σ tg ad c (up (rst (c 1) i) m k g))
  | 0, k, g, l3, h, _, _ => by
    have hc := w.1.2.1
    have q := eq_true (nI_le (a := c 1) (b := k) (by omega) (by omega))
    rw [e60_2]
    simp only [cf_1, cz_4, q, e60_7, e60_10, e60_135, K0_v, K0_n, K0_x, K2_v, K2_n, K1_v, K1_n, K1_x, bI_s, bJ_s, bV_s, bS_s, l_10, l_00, bz_01, bz_0, bz_1, em_n, if_true, if_false, ite_not, ite_true, ite_false, not_true_eq_false, not_false_eq_true, or_true, true_or, up]
  | m + 1, k, g, l3, h, hv, hl => by
    have hc := w.1.2.1
    have hc0 := w.1.1
    have hk : k < c 1 := by omega
    obtain ⟨L2, L3, L4⟩ := w.i hk
    obtain ⟨L6, L7⟩ := w.r hi
    have q := eq_false (nI_ge (a := k) (b := c 1) hk (by omega))
    have ih : ∀ g', VI g' (c 0) (c 1) → LT g' (c 1) → mm_L 60 2 [.ref 2, .ref (ad (6, i)), .int (nI (k + 1)), .ref (ad (2, k))] [] (CW σ tg ad c g') = some (.inl none, CW σ tg ad c (up (rst (c 1) i) m (k + 1) g')) := fun g' a b => l_60 w hi m (k + 1) g' _ (by omega) a b
    show _ = some (Sum.inl none, CW σ tg ad c (up (rst (c 1) i) m (k + 1) (rst (c 1) i k g)))
    rw [← ih _ (rst_VI hv) (rst_LT hl), e60_2]
    have tail : mm_L 60 46 [.ref 2, .ref (ad (6, i)), .int (nI k), .ref (ad (2, k))] [] (CW σ tg ad c g) = mm_L 60 2 [.ref 2, .ref (ad (6, i)), .int (nI (k + 1)), .ref (ad (2, k))] [] (CW σ tg ad c (chg g (c 1) (g 21 i) k)) := by
      by_cases k0 : g 21 i = 0
      · simp only [e60_46, e60_50, e60_84, e60_90, e60_93, e60_99, e60_102, e60_108, e60_111, e60_117, e60_120, e60_126, e60_129, ci_6_0 L6, k0, aM_61, c_61 w hk, nI_1, K0_v, K0_n, K0_x, K2_v, K2_n, K1_v, K1_n, K1_x, bI_s, bJ_s, bV_s, bS_s, l_10, l_00, bz_01, bz_0, bz_1, em_n, if_true, if_false, ite_not, ite_true, ite_false, not_true_eq_false, not_false_eq_true, or_true, true_or]
      · by_cases k1 : g 21 i = 1
        · simp only [e60_46, e60_50, e60_84, e60_90, e60_93, e60_99, e60_102, e60_108, e60_111, e60_117, e60_120, e60_126, e60_129, ci_6_0 L6, k1, one_ne, aM_63, c_63 w hk, nI_1, K0_v, K0_n, K0_x, K2_v, K2_n, K1_v, K1_n, K1_x, bI_s, bJ_s, bV_s, bS_s, l_10, l_00, bz_01, bz_0, bz_1, em_n, if_true, if_false, ite_not, ite_true, ite_false, not_true_eq_false, not_false_eq_true, or_true, true_or]
        · by_cases k2 : g 21 i = 2
          · simp only [e60_46, e60_50, e60_84, e60_90, e60_93, e60_99, e60_102, e60_108, e60_111, e60_117, e60_120, e60_126, e60_129, ci_6_0 L6, k2, d20, d21, aM_64, c_64 w hk, nI_1, K0_v, K0_n, K0_x, K2_v, K2_n, K1_v, K1_n, K1_x, bI_s, bJ_s, bV_s, bS_s, l_10, l_00, bz_01, bz_0, bz_1, em_n, if_true, if_false, ite_not, ite_true, ite_false, not_true_eq_false, not_false_eq_true, or_true, true_or]
          · by_cases k3 : g 21 i = 3
            · simp only [e60_46, e60_50, e60_84, e60_90, e60_93, e60_99, e60_102, e60_108, e60_111, e60_117, e60_120, e60_126, e60_129, ci_6_0 L6, k3, d30, d31, d32, aM_65, c_65 w hk, nI_1, K0_v, K0_n, K0_x, K2_v, K2_n, K1_v, K1_n, K1_x, bI_s, bJ_s, bV_s, bS_s, l_10, l_00, bz_01, bz_0, bz_1, em_n, if_true, if_false, ite_not, ite_true, ite_false, not_true_eq_false, not_false_eq_true, or_true, true_or]
            · by_cases k4 : g 21 i = 4
              · simp only [e60_46, e60_50, e60_84, e60_90, e60_93, e60_99, e60_102, e60_108, e60_111, e60_117, e60_120, e60_126, e60_129, ci_6_0 L6, k4, d40, d41, d42, d43, aM_66, c_66 w hk (hl k hk), nI_1, K0_v, K0_n, K0_x, K2_v, K2_n, K1_v, K1_n, K1_x, bI_s, bJ_s, bV_s, bS_s, l_10, l_00, bz_01, bz_0, bz_1, em_n, if_true, if_false, ite_not, ite_true, ite_false, not_true_eq_false, not_false_eq_true, or_true, true_or]
              · have e : chg g (c 1) (g 21 i) k = g := by
                  unfold chg
                  rw [if_neg k0, if_neg k1, if_neg k2, if_neg k3, if_neg k4]
                rw [e]
                simp only [e60_46, e60_50, e60_84, e60_90, e60_93, e60_99, e60_102, e60_108, e60_111, e60_117, e60_120, e60_126, e60_129, ci_6_0 L6, eq_false k0, eq_false k1, eq_false k2, eq_false k3, eq_false k4, nI_1, K0_v, K0_n, K0_x, K2_v, K2_n, K1_v, K1_n, K1_x, bI_s, bJ_s, bV_s, bS_s, l_10, l_00, bz_01, bz_0, bz_1, em_n, if_true, if_false, ite_not, ite_true, ite_false, not_true_eq_false, not_false_eq_true, or_true, true_or]
    by_cases hs : g 13 k = 0 ∨ g 13 k = 4
    · obtain ⟨s, hs1, hs2⟩ := hv k hk hs
      have cl : (g 14 k).toNatClampNeg = s := by rw [hs2]; exact nI_clamp (by omega)
      by_cases hx : g 22 (30 * i + s) = 0
      · have e : rst (c 1) i k g = chg g (c 1) (g 21 i) k := by
          unfold rst
          rw [if_neg]
          rw [cl]
          exact fun z => z.2 hx
        rw [e, ← tail]
        simp only [cf_1, cz_4, q, e60_7, e60_10, e60_13, e60_17, e60_21, e60_24, e60_29, e60_32, e60_37, e60_40, cg_4 hk (by omega), ck_2 L2, iM_14 L2, c_14 L2, eq_true hs, ci_2_1 L2, hs2, rM_20 L6, c_20 w hi (show s < 30 by omega), eq_true hx, K0_v, K0_n, K0_x, K2_v, K2_n, K1_v, K1_n, K1_x, bI_s, bJ_s, bV_s, bS_s, l_10, l_00, bz_01, bz_0, bz_1, em_n, if_true, if_false, ite_not, ite_true, ite_false, not_true_eq_false, not_false_eq_true, or_true, true_or]
      · have e : rst (c 1) i k g = g := by
          unfold rst
          rw [if_pos]
          rw [cl]
          exact ⟨hs, hx⟩
        rw [e]
        simp only [cf_1, cz_4, q, e60_7, e60_10, e60_13, e60_17, e60_21, e60_24, e60_29, e60_32, e60_37, e60_40, e60_43, e60_129, cg_4 hk (by omega), ck_2 L2, iM_14 L2, c_14 L2, eq_true hs, ci_2_1 L2, hs2, rM_20 L6, c_20 w hi (show s < 30 by omega), eq_false hx, one_ne, nI_1, K0_v, K0_n, K0_x, K2_v, K2_n, K1_v, K1_n, K1_x, bI_s, bJ_s, bV_s, bS_s, l_10, l_00, bz_01, bz_0, bz_1, em_n, if_true, if_false, ite_not, ite_true, ite_false, not_true_eq_false, not_false_eq_true, or_true, true_or]
    · have e : rst (c 1) i k g = chg g (c 1) (g 21 i) k := by
        unfold rst
        rw [if_neg (fun z => hs z.1)]
      rw [e, ← tail]
      simp only [cf_1, cz_4, q, e60_7, e60_10, e60_13, e60_17, e60_21, e60_24, e60_29, e60_32, e60_37, e60_40, cg_4 hk (by omega), ck_2 L2, iM_14 L2, c_14 L2, eq_false hs, K0_v, K0_n, K0_x, K2_v, K2_n, K1_v, K1_n, K1_x, bI_s, bJ_s, bV_s, bS_s, l_10, l_00, bz_01, bz_0, bz_1, em_n, if_true, if_false, ite_not, ite_true, ite_false, not_true_eq_false, not_false_eq_true, or_true, true_or]
theorem c_60 (w : WF tg ad c n) {i : Nat} (hi : i < c 3) (hv : VI g (c 0) (c 1)) (hl : LT g (c 1)) : mm_M 60 [.ref 2, .ref (ad (6, i))] (CW σ tg ad c g) = some (.inl none, CW σ tg ad c (rsts (c 1) i g)) := by
  have l := l_60 (σ := σ) w hi (c 1) 0 g mm_un (by omega) hv hl
  rw [nI_0] at l
  rw [M_60, e60_0]
  exact l
theorem l_59b (w : WF tg ad c n) : ∀ m i (g : Nat → Nat → Int32) (l2 : Value), i + m = c 3 → VI g (c 0) (c 1) → LT g (c 1) → mm_L 59 44 [.ref 2, .int (nI i), l2] [] (CW σ tg ad c g) = some (.inl none, CW σ tg ad c (up (rsts (c 1)) m i g))
  | 0, i, g, l2, h, _, _ => by
    have hc := w.1.2.2.2.1
    have q := eq_true (nI_le (a := c 3) (b := i) (by omega) (by omega))
    rw [e59_44]
    simp only [cf_3, cz_6, q, e59_49, e59_52, e59_76, K0_v, K0_n, K0_x, K2_v, K2_n, K1_v, K1_n, K1_x, bI_s, bJ_s, bV_s, bS_s, l_10, l_00, bz_01, bz_0, bz_1, em_n, if_true, if_false, ite_not, ite_true, ite_false, not_true_eq_false, not_false_eq_true, or_true, true_or, up]
  | m + 1, i, g, l2, h, hv, hl => by
    have hc := w.1.2.2.2.1
    have hi : i < c 3 := by omega
    obtain ⟨L6, L7⟩ := w.r hi
    have q := eq_false (nI_ge (a := i) (b := c 3) hi (by omega))
    rw [e59_44]
    simp only [cf_3, cz_6, q, e59_49, e59_52, e59_55, e59_60, e59_64, e59_67, e59_70, cg_6 hi (by omega), ck_6 L6, aM_60, c_60 w hi hv hl, nI_1, K0_v, K0_n, K0_x, K2_v, K2_n, K1_v, K1_n, K1_x, bI_s, bJ_s, bV_s, bS_s, l_10, l_00, bz_01, bz_0, bz_1, em_n, if_true, if_false, ite_not, ite_true, ite_false, not_true_eq_false, not_false_eq_true, or_true, true_or]
    exact l_59b w m (i + 1) _ _ (by omega) (up_P (P := fun g => VI g (c 0) (c 1)) (fun k g h => rst_VI h) _ _ _ hv) (up_P (P := fun g => LT g (c 1)) (fun k g h => rst_LT h) _ _ _ hl)
theorem bgs_LT {N : Nat} : ∀ m k (g : Nat → Nat → Int32), k + m = N → LU g N → (∀ j, j < k → g 13 j = 5 → g 33 (7 * j + 1) = 4) → LT (up bgc m k g) N
  | 0, k, g, h, hu, hd => fun j hj => hd j (by omega)
  | m + 1, k, g, h, hu, hd => by
    refine bgs_LT m (k + 1) (bgc k g) (by omega) ?_ ?_
    · intro j hj h5
      rw [bgc_r (by decide)] at h5 ⊢
      exact hu j hj h5
    · intro j hj h5
      rw [bgc_r (by decide)] at h5
      unfold bgc
      by_cases e : j = k
      · subst e
        rw [w7_at (by decide)]
        exact hu j (by omega) h5
      · rw [w7_o (by omega)]
        exact hd j (by omega) h5
theorem c_59 (w : WF tg ad c n) (hv : VI g (c 0) (c 1)) (hu : LU g (c 1)) : mm_M 59 [.ref 2] (CW σ tg ad c g) = some (.inl none, CW σ tg ad c (apc (c 1) (c 3) g)) := by
  have a := l_59a (σ := σ) w (c 1) 0 g mm_un (by omega)
  rw [nI_0] at a
  rw [M_59, e59_0, a]
  have b := l_59b (σ := σ) w (c 3) 0 (up bgc (c 1) 0 g) (if c 1 = 0 then mm_un else .ref (ad (2, c 1 - 1))) (by omega) (by
    unfold VI
    rw [up_r (fun k g => bgc_r (by decide)), up_r (fun k g => bgc_r (by decide))]
    exact hv) (bgs_LT (c 1) 0 g (by omega) hu (fun j hj => absurd hj (by omega)))
  rw [nI_0] at b
  exact b
end
