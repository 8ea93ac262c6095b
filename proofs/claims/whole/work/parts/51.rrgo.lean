/-! LEVEL 2: the reference's rules go -/
theorem u33_12 (g : Nat → Nat → Int32) (i : Nat) (x : Int32) : uf g 33 i x 12 = g 12 := uf_n (by decide)
theorem u33_13 (g : Nat → Nat → Int32) (i : Nat) (x : Int32) : uf g 33 i x 13 = g 13 := uf_n (by decide)
theorem u33_14 (g : Nat → Nat → Int32) (i : Nat) (x : Int32) : uf g 33 i x 14 = g 14 := uf_n (by decide)
theorem u33_15 (g : Nat → Nat → Int32) (i : Nat) (x : Int32) : uf g 33 i x 15 = g 15 := uf_n (by decide)
theorem u33_16 (g : Nat → Nat → Int32) (i : Nat) (x : Int32) : uf g 33 i x 16 = g 16 := uf_n (by decide)
theorem u33_21 (g : Nat → Nat → Int32) (i : Nat) (x : Int32) : uf g 33 i x 21 = g 21 := uf_n (by decide)
theorem u33_22 (g : Nat → Nat → Int32) (i : Nat) (x : Int32) : uf g 33 i x 22 = g 22 := uf_n (by decide)
theorem w7_uf {f : Nat → Nat → Int32} {r i j : Nat} {x : Nat → Int32} {y : Int32} (hj : j < 7) : uf (w7 f r i x) r (7 * i + j) y = w7 f r i (upd x j y) := by
  funext r' k
  by_cases e : r' = r
  · subst e
    rw [uf_s]
    by_cases h : 7 * i ≤ k ∧ k < 7 * i + 7
    · rw [w7_in h]
      unfold upd
      by_cases e2 : k = 7 * i + j
      · rw [if_pos e2, if_pos (by omega)]
      · rw [if_neg e2, if_neg (by omega), w7_in h]
    · rw [w7_o (by omega)]
      unfold upd
      rw [if_neg (by omega), w7_o (by omega)]
  · rw [uf_n e, w7_r e, w7_r e]
theorem w7_congr {f : Nat → Nat → Int32} {r i : Nat} {x y : Nat → Int32} (h : ∀ j, j < 7 → x j = y j) : w7 f r i x = w7 f r i y := by
  funext r' k
  unfold w7
  split
  · rename_i q; exact h _ (by omega)
  · rfl
/-- what an item is told, as the reference works it out -/
noncomputable def tfm (f : Nat → Nat → Int32) (k : Nat) : Nat → Int32 :=
  if f 13 k = 0 then h7 (f 12) (f 14 k).toNatClampNeg
  else if f 13 k = 4 then upd (upd (h7 (f 12) (f 14 k).toNatClampNeg) 1 (pl (f 15 k))) 2 (pl (f 16 k))
  else if f 13 k = 5 then f7 (f 14 k - f 14 k / 8 * 8) 4 4 (f 14 k / 8) (f 14 k / 8) 0 (-1)
  else f7 1 (pl (f 14 k)) (pl (f 14 k)) 0 0 0 (-1)
section
variable {σ : mm_S} {c : Nat → Nat} {f : Nat → Nat → Int32}
theorem l_138s {k s j : Nat} (hk : k < 14) (hs : s < 30) (he : f 14 k = nI s) (hj : j < 7) {l2 : Int32} : mm_L 138 25 [.ref 11, .int (nI k), .int l2, .int 1, .int (nI j)] [] (MW σ (vN c) f) = mm_L 138 25 [.ref 11, .int (nI k), .int l2, .int 1, .int (nI (j + 1))] [] (MW σ (vN c) (uf f 33 (7 * k + j) (f 12 (7 * s + j)))) := by
  have q : (7 ≤ nI j) = False := eq_false (show ¬ nI 7 ≤ nI j from nI_ge hj (by decide))
  rw [e138_25]
  simp only [e138_32, e138_40, e138_44, e138_50, e138_52, e138_57, e138_60, e138_67, e138_71, e138_72, e138_75, q, one_ne, mg_1, mg_4, ma_14 hk, he, n7, nI_add, nI_1, ma_12 (show 7 * s + j < 210 by omega), Mo_137, c_137 hk hj, K0_v, K0_n, K0_x, K2_v, K2_n, K1_v, K1_n, K1_x, bI_s, bJ_s, bV_s, bS_s, l_10, l_00, bz_01, bz_0, bz_1, em_n, if_true, if_false, ite_not, ite_true, ite_false, not_true_eq_false, not_false_eq_true, or_true, true_or]
theorem l_138n {k j : Nat} (hk : k < 14) (hj : j < 7) {l2 : Int32} : mm_L 138 25 [.ref 11, .int (nI k), .int l2, .int 0, .int (nI j)] [] (MW σ (vN c) f) = mm_L 138 25 [.ref 11, .int (nI k), .int l2, .int 0, .int (nI (j + 1))] [] (MW σ (vN c) (uf f 33 (7 * k + j) (if j = 6 then -1 else 0))) := by
  have q : (7 ≤ nI j) = False := eq_false (show ¬ nI 7 ≤ nI j from nI_ge hj (by decide))
  rw [e138_25]
  by_cases e : j = 6
  · have z : (nI j = 6) = True := by rw [e]; decide
    rw [if_pos e]
    simp only [e138_32, e138_40, e138_44, e138_50, e138_52, e138_57, e138_60, e138_67, e138_71, e138_72, e138_75, q, z, Mo_137, c_137 hk hj, nI_1, K0_v, K0_n, K0_x, K2_v, K2_n, K1_v, K1_n, K1_x, bI_s, bJ_s, bV_s, bS_s, l_10, l_00, bz_01, bz_0, bz_1, em_n, if_true, if_false, ite_not, ite_true, ite_false, not_true_eq_false, not_false_eq_true, or_true, true_or]
  · have z : (nI j = 6) = False := eq_false (fun z => e ((nI_eq (a := j) (b := 6) (by omega) (by decide)).mp z))
    rw [if_neg e]
    simp only [e138_32, e138_40, e138_44, e138_50, e138_52, e138_57, e138_60, e138_67, e138_71, e138_72, e138_75, q, z, Mo_137, c_137 hk hj, nI_1, K0_v, K0_n, K0_x, K2_v, K2_n, K1_v, K1_n, K1_x, bI_s, bJ_s, bV_s, bS_s, l_10, l_00, bz_01, bz_0, bz_1, em_n, if_true, if_false, ite_not, ite_true, ite_false, not_true_eq_false, not_false_eq_true, or_true, true_or]
theorem s138s {k s : Nat} (hk : k < 14) (hs : s < 30) (he : f 14 k = nI s) {l2 : Int32} : mm_L 138 25 [.ref 11, .int (nI k), .int l2, .int 1, .int 0] [] (MW σ (vN c) f) = mm_L 138 81 [.ref 11, .int (nI k), .int l2, .int 1, .int (nI 7)] [] (MW σ (vN c) (w7 f 33 k (h7 (f 12) s))) := by
  have q : (7 ≤ nI 7) = True := by decide
  have a := l_138s (σ := σ) (c := c) hk hs he (show 0 < 7 by decide) (l2 := l2)
  rw [nI_0] at a
  rw [a, l_138s hk hs (by rw [u33_14]; exact he) (by decide), l_138s hk hs (by rw [u33_14, u33_14]; exact he) (by decide), l_138s hk hs (by rw [u33_14, u33_14, u33_14]; exact he) (by decide), l_138s hk hs (by rw [u33_14, u33_14, u33_14, u33_14]; exact he) (by decide), l_138s hk hs (by rw [u33_14, u33_14, u33_14, u33_14, u33_14]; exact he) (by decide), l_138s hk hs (by rw [u33_14, u33_14, u33_14, u33_14, u33_14, u33_14]; exact he) (by decide), e138_25]
  simp only [q, u33_12, K0_v, K0_n, K0_x, K2_v, K2_n, K1_v, K1_n, K1_x, bI_s, bJ_s, bV_s, bS_s, l_10, l_00, bz_01, bz_0, bz_1, em_n, if_true, if_false, ite_not, ite_true, ite_false, not_true_eq_false, not_false_eq_true, or_true, true_or]
  rw [← uf_w7]
  rfl
theorem s138n {k : Nat} (hk : k < 14) {l2 : Int32} : mm_L 138 25 [.ref 11, .int (nI k), .int l2, .int 0, .int 0] [] (MW σ (vN c) f) = mm_L 138 81 [.ref 11, .int (nI k), .int l2, .int 0, .int (nI 7)] [] (MW σ (vN c) (w7 f 33 k (fun j => if j = 6 then -1 else 0))) := by
  have q : (7 ≤ nI 7) = True := by decide
  have a := l_138n (σ := σ) (c := c) (f := f) hk (show 0 < 7 by decide) (l2 := l2)
  rw [nI_0] at a
  rw [a, l_138n hk (by decide), l_138n hk (by decide), l_138n hk (by decide), l_138n hk (by decide), l_138n hk (by decide), l_138n hk (by decide), e138_25]
  simp only [q, K0_v, K0_n, K0_x, K2_v, K2_n, K1_v, K1_n, K1_x, bI_s, bJ_s, bV_s, bS_s, l_10, l_00, bz_01, bz_0, bz_1, em_n, if_true, if_false, ite_not, ite_true, ite_false, not_true_eq_false, not_false_eq_true, or_true, true_or]
  rw [← uf_w7]
  rfl
theorem w33_r {f : Nat → Nat → Int32} {k r : Nat} {x : Nat → Int32} (h : r ≠ 33) : w7 f 33 k x r = f r := w7_r h
theorem c_138 {k : Nat} (hk : k < 14) (hs : f 13 k = 0 ∨ f 13 k = 4 → ∃ s, s < 30 ∧ f 14 k = nI s) : mm_M 138 [.ref 11, .int (nI k)] (MW σ (vN c) f) = some (.inl none, MW σ (vN c) (w7 f 33 k (tfm f k))) := by
  have G := fun (f : Nat → Nat → Int32) (j : Nat) (hj : j < 7) (x : Int32) => c_137 (σ := σ) (c := c) (f := f) (x := x) hk hj
  have G0 : ∀ (f : Nat → Nat → Int32) (x : Int32), mm_M 137 [.ref 11, .int (nI k), .int 0, .int x] (MW σ (vN c) f) = some (.inl none, MW σ (vN c) (uf f 33 (7 * k + 0) x)) := fun f x => G f 0 (by decide) x
  have G1 : ∀ (f : Nat → Nat → Int32) (x : Int32), mm_M 137 [.ref 11, .int (nI k), .int 1, .int x] (MW σ (vN c) f) = some (.inl none, MW σ (vN c) (uf f 33 (7 * k + 1) x)) := fun f x => G f 1 (by decide) x
  have G2 : ∀ (f : Nat → Nat → Int32) (x : Int32), mm_M 137 [.ref 11, .int (nI k), .int 2, .int x] (MW σ (vN c) f) = some (.inl none, MW σ (vN c) (uf f 33 (7 * k + 2) x)) := fun f x => G f 2 (by decide) x
  have G3 : ∀ (f : Nat → Nat → Int32) (x : Int32), mm_M 137 [.ref 11, .int (nI k), .int 3, .int x] (MW σ (vN c) f) = some (.inl none, MW σ (vN c) (uf f 33 (7 * k + 3) x)) := fun f x => G f 3 (by decide) x
  have G4 : ∀ (f : Nat → Nat → Int32) (x : Int32), mm_M 137 [.ref 11, .int (nI k), .int 4, .int x] (MW σ (vN c) f) = some (.inl none, MW σ (vN c) (uf f 33 (7 * k + 4) x)) := fun f x => G f 4 (by decide) x
  have W := fun (x : Nat → Int32) (j : Nat) (hj : j < 7) (y : Int32) => w7_uf (f := f) (r := 33) (i := k) (x := x) (y := y) hj
  have r12 := fun x => w33_r (f := f) (k := k) (x := x) (show 14 ≠ 33 by decide)
  have r15 := fun x => w33_r (f := f) (k := k) (x := x) (show 15 ≠ 33 by decide)
  have r16 := fun x => w33_r (f := f) (k := k) (x := x) (show 16 ≠ 33 by decide)
  have r14 := fun x => w33_r (f := f) (k := k) (x := x) (show 14 ≠ 33 by decide)
  by_cases k0 : f 13 k = 0
  · obtain ⟨s, hs1, hs2⟩ := hs (Or.inl k0)
    have cl : (f 14 k).toNatClampNeg = s := by rw [hs2]; exact nI_clamp (by omega)
    simp only [M_138, e138_0, e138_4, e138_6, e138_11, e138_16, e138_20, e138_21, mg_3, ma_13 hk, k0, s138s hk hs1 hs2, K0_v, K0_n, K0_x, K2_v, K2_n, K1_v, K1_n, K1_x, bI_s, bJ_s, bV_s, bS_s, l_10, l_00, bz_01, bz_0, bz_1, em_n, if_true, if_false, ite_not, ite_true, ite_false, not_true_eq_false, not_false_eq_true, or_true, true_or]
    simp only [e138_81, e138_86, e138_93, e138_95, e138_98, e138_101, e138_108, e138_110, e138_113, e138_116, e138_119, e138_124, e138_131, e138_133, e138_139, e138_146, e138_153, e138_160, e138_162, e138_168, e138_175, e138_177, e138_183, e138_186, e138_190, e138_197, e138_204, e138_206, e138_209, e138_212, e138_219, e138_221, e138_224, e138_227, d01, d02, d03, d04, d05, d10, d12, d13, d14, d15, d20, d21, d23, d24, d25, d30, d31, d32, d34, d35, d40, d41, d42, d43, d45, d50, d51, d52, d53, d54, K0_v, K0_n, K0_x, K2_v, K2_n, K1_v, K1_n, K1_x, bI_s, bJ_s, bV_s, bS_s, l_10, l_00, bz_01, bz_0, bz_1, em_n, if_true, if_false, ite_not, ite_true, ite_false, not_true_eq_false, not_false_eq_true, or_true, true_or]
    unfold tfm
    rw [if_pos k0, cl]
  · by_cases k4 : f 13 k = 4
    · obtain ⟨s, hs1, hs2⟩ := hs (Or.inr k4)
      have cl : (f 14 k).toNatClampNeg = s := by rw [hs2]; exact nI_clamp (by omega)
      simp only [M_138, e138_0, e138_4, e138_6, e138_11, e138_16, e138_20, e138_21, mg_3, ma_13 hk, k4, d40, s138s hk hs1 hs2, K0_v, K0_n, K0_x, K2_v, K2_n, K1_v, K1_n, K1_x, bI_s, bJ_s, bV_s, bS_s, l_10, l_00, bz_01, bz_0, bz_1, em_n, if_true, if_false, ite_not, ite_true, ite_false, not_true_eq_false, not_false_eq_true, or_true, true_or]
      simp only [e138_81, e138_86, e138_93, e138_95, e138_98, e138_101, e138_108, e138_110, e138_113, e138_116, e138_227, mg_5, mg_6, ma_15 hk, ma_16 hk, c_111, Mo_137, G1, G2, r15, r16, u33_16, W _ 1 (by decide), W _ 2 (by decide), K0_v, K0_n, K0_x, K2_v, K2_n, K1_v, K1_n, K1_x, bI_s, bJ_s, bV_s, bS_s, l_10, l_00, bz_01, bz_0, bz_1, em_n, if_true, if_false, ite_not, ite_true, ite_false, not_true_eq_false, not_false_eq_true, or_true, true_or]
      unfold tfm
      rw [if_neg k0, if_pos k4, cl]
    · have nz : (0 : Int32) = 0 := rfl
      by_cases k5 : f 13 k = 5
      · simp only [M_138, e138_0, e138_4, e138_6, e138_11, e138_16, e138_20, e138_21, mg_3, ma_13 hk, k5, d50, d54, s138n hk, K0_v, K0_n, K0_x, K2_v, K2_n, K1_v, K1_n, K1_x, bI_s, bJ_s, bV_s, bS_s, l_10, l_00, bz_01, bz_0, bz_1, em_n, if_true, if_false, ite_not, ite_true, ite_false, not_true_eq_false, not_false_eq_true, or_true, true_or]
        simp only [e138_81, e138_86, e138_93, e138_95, e138_98, e138_101, e138_108, e138_110, e138_113, e138_116, e138_119, e138_124, e138_131, e138_133, e138_139, e138_146, e138_153, e138_160, e138_162, e138_168, e138_175, e138_177, e138_183, e138_186, e138_190, e138_197, e138_204, e138_206, e138_209, e138_212, e138_219, e138_221, e138_224, e138_227, d54, mg_4, ma_14 hk, Mo_137, G0, G1, G2, G3, G4, r14, u33_14, W _ 0 (by decide), W _ 1 (by decide), W _ 2 (by decide), W _ 3 (by decide), W _ 4 (by decide), K0_v, K0_n, K0_x, K2_v, K2_n, K1_v, K1_n, K1_x, bI_s, bJ_s, bV_s, bS_s, l_10, l_00, bz_01, bz_0, bz_1, em_n, if_true, if_false, ite_not, ite_true, ite_false, not_true_eq_false, not_false_eq_true, or_true, true_or]
        unfold tfm
        rw [if_neg k0, if_neg k4, if_pos k5]
        refine congrArg (fun z => some (Sum.inl none, MW σ (vN c) z)) (w7_congr fun j hj => ?_)
        have e : j = 0 ∨ j = 1 ∨ j = 2 ∨ j = 3 ∨ j = 4 ∨ j = 5 ∨ j = 6 := by omega
        rcases e with e | e | e | e | e | e | e <;> subst e <;> rfl
      · simp only [M_138, e138_0, e138_4, e138_6, e138_11, e138_16, e138_20, e138_21, mg_3, ma_13 hk, eq_false k0, eq_false k4, s138n hk, K0_v, K0_n, K0_x, K2_v, K2_n, K1_v, K1_n, K1_x, bI_s, bJ_s, bV_s, bS_s, l_10, l_00, bz_01, bz_0, bz_1, em_n, if_true, if_false, ite_not, ite_true, ite_false, not_true_eq_false, not_false_eq_true, or_true, true_or]
        simp only [e138_81, e138_86, e138_93, e138_95, e138_98, e138_101, e138_108, e138_110, e138_113, e138_116, e138_119, e138_124, e138_131, e138_133, e138_139, e138_146, e138_153, e138_160, e138_162, e138_168, e138_175, e138_177, e138_183, e138_186, e138_190, e138_197, e138_204, e138_206, e138_209, e138_212, e138_219, e138_221, e138_224, e138_227, eq_false k0, eq_false k4, eq_false k5, mg_4, ma_14 hk, c_111, Mo_137, G0, G1, G2, r14, u33_14, W _ 0 (by decide), W _ 1 (by decide), W _ 2 (by decide), K0_v, K0_n, K0_x, K2_v, K2_n, K1_v, K1_n, K1_x, bI_s, bJ_s, bV_s, bS_s, l_10, l_00, bz_01, bz_0, bz_1, em_n, if_true, if_false, ite_not, ite_true, ite_false, not_true_eq_false, not_false_eq_true, or_true, true_or]
        unfold tfm
        rw [if_neg k0, if_neg k4, if_neg k5]
        refine congrArg (fun z => some (Sum.inl none, MW σ (vN c) z)) (w7_congr fun j hj => ?_)
        have e : j = 0 ∨ j = 1 ∨ j = 2 ∨ j = 3 ∨ j = 4 ∨ j = 5 ∨ j = 6 := by omega
        rcases e with e | e | e | e | e | e | e <;> subst e <;> rfl
end
