/-! LEVEL 2: the class's item, whole -/
section
variable {σ : mm_S} {tg : Nat → Nat × Nat} {ad : Nat × Nat → Nat} {c : Nat → Nat} {g : Nat → Nat → Int32}
def t3 (tg : Nat → Nat × Nat) (n I : Nat) : Nat → Nat × Nat := u2 (u2 (u2 tg (n + 1) (3, I)) (n + 2) (4, I)) n (2, I)
def a3 (ad : Nat × Nat → Nat) (n I : Nat) : Nat × Nat → Nat := u2 (u2 (u2 ad (3, I) (n + 1)) (4, I) (n + 2)) (2, I) n
theorem a3_2 {n I : Nat} : a3 ad n I (2, I) = n := u2_s _ _ _
theorem a3_4 {n I : Nat} : a3 ad n I (4, I) = n + 2 := by
  unfold a3
  rw [u2_n (fun z => by injection z; omega), u2_s]
theorem a3_3 {n I : Nat} : a3 ad n I (3, I) = n + 1 := by
  unfold a3
  rw [u2_n (fun z => by injection z; omega), u2_n (fun z => by injection z; omega), u2_s]
theorem a3_o {n I k i : Nat} (h : ¬ ((k = 2 ∨ k = 3 ∨ k = 4) ∧ i = I)) : a3 ad n I (k, i) = ad (k, i) := by
  unfold a3
  rw [u2_n (fun z => by injection z; omega), u2_n (fun z => by injection z; omega), u2_n (fun z => by injection z; omega)]
theorem WF.add3 (w : WF tg ad c σ.2.1) (hc : c 1 < 14) {n : Nat} (hn : n = σ.2.1) : WF (t3 tg n (c 1)) (a3 ad n (c 1)) (u2 c 1 (c 1 + 1)) (n + 3) := by
  subst hn
  have h35 := w.2.2.2
  have z : ∀ b, σ.2.1 ≤ b → (tg b).1 = 0 := fun b hb => w.2.no (Or.inr hb)
  have A := w.2.add (K := 3) (I := c 1) (a := σ.2.1 + 1) (n' := σ.2.1 + 3) (by decide) (by unfold LI; omega) (z _ (by omega)) (by omega) (by omega) (by omega)
  have B := A.add (K := 4) (I := c 1) (a := σ.2.1 + 2) (n' := σ.2.1 + 3) (by decide) (by unfold PA LI; omega) (by rw [u2_n (by omega)]; exact z _ (by omega)) (by omega) (by omega) (by omega)
  have D := B.add (K := 2) (I := c 1) (a := σ.2.1) (n' := σ.2.1 + 3) (by decide) (by unfold PA LI; omega) (by rw [u2_n (by omega), u2_n (by omega)]; exact z _ (by omega)) (by omega) (by omega) (by omega)
  refine ⟨?_, D.iff fun k i => ?_⟩
  · obtain ⟨b0, b1, b2, b3, b4, b5⟩ := w.1
    refine ⟨by rw [u2_n (by decide)]; exact b0, by rw [u2_s]; omega, by rw [u2_n (by decide)]; exact b2, by rw [u2_n (by decide)]; exact b3, by rw [u2_n (by decide)]; exact b4, ?_⟩
    intro i hi
    rw [u2_n (by decide)] at hi
    rw [u2_n (by omega), u2_n (by omega), u2_n (by omega)]
    exact b5 i hi
  · unfold PA LI
    rw [u2_s, u2_n (show 0 ≠ 1 by decide), u2_n (show 2 ≠ 1 by decide), u2_n (show 3 ≠ 1 by decide), u2_n (show 4 ≠ 1 by decide), u2_n (show 100 + i / 1000 ≠ 1 by omega)]
    omega
theorem CO_gi {k i I : Nat} {K a b : Int32} {x : Nat → Int32} (h : k = 2 ∨ k = 3 ∨ k = 4 → i ≠ I) (n : Nat) : CO (a3 ad n I) c (gi g I K a b x) k i = CO ad c g k i := by
  have p : ∀ q, pr (a3 ad n I) q = pr ad q := fun q => by
    cases q with
    | zero => rfl
    | succ q => show Value.ref _ = Value.ref _; rw [a3_o (by omega)]
  have u : ∀ q j, q = 7 ∨ q = 9 ∨ q = 10 → a3 ad n I (q, j) = ad (q, j) := fun q j hq => a3_o (by omega)
  have w : ∀ r', ¬ (r' = 13 ∨ r' = 14 ∨ r' = 15 ∨ r' = 33 ∨ r' = 34 ∨ r' = 35) → gi g I K a b x r' = g r' := fun r' q => gi_r (by omega)
  have hh : ∀ r', (r' = 33 ∨ r' = 34) → i ≠ I → hn (gi g I K a b x r') i = hn (g r') i := by
    intro r' hr hi
    unfold hn
    rw [gi_o (by omega), gi_o (by omega), gi_o (by omega), gi_o (by omega), gi_o (by omega), gi_o (by omega), gi_o (by omega)]
  have two : i ≠ I → CO (a3 ad n I) c (gi g I K a b x) 2 i = CO ad c g 2 i := by
    intro hi
    show Sum.inl (2, _) = Sum.inl (2, _)
    rw [gi_o (by omega), gi_o (by omega), gi_o (by omega), gi_o (by omega), gi_o (by omega), gi_o (by omega), a3_o (by omega), a3_o (by omega)]
  match k with
  | 0 => unfold CO; simp only [w 40 (by decide), w 41 (by decide), w 42 (by decide), w 43 (by decide), w 44 (by decide)]
  | 1 => unfold CO; simp only [w 12 (by decide)]
  | 2 => exact two (h (by omega))
  | 3 => show Sum.inl (1, _) = Sum.inl (1, _); rw [hh 34 (by omega) (h (by omega))]
  | 4 => show Sum.inl (1, _) = Sum.inl (1, _); rw [hh 33 (by omega) (h (by omega))]
  | 5 => unfold CO; simp only [w 18 (by decide), w 19 (by decide), w 20 (by decide)]
  | 6 => unfold CO; simp only [w 21 (by decide), u, true_or]
  | 7 => unfold CO; simp only [w 22 (by decide)]
  | 8 => unfold CO; simp only [w 24 (by decide), w 25 (by decide), w 23 (by decide), p, u, true_or, or_true]
  | 9 => unfold CO; simp only [u, or_true]
  | k + 10 => unfold CO; simp only [w 40 (by decide), w 41 (by decide), w 42 (by decide), w 43 (by decide), w 44 (by decide)]
theorem CW_3 (w : WF tg ad c σ.2.1) {k a b : Int32} {x : Nat → Int32} : CW (I3 σ [.int k, .int a, .int b, .ref (σ.2.1 + 1), .ref (σ.2.1 + 2), .int 0, .int 0, .int 0] x (l7 x)) tg ad c g = CW (I3 σ [.int k, .int a, .int b, .ref (σ.2.1 + 1), .ref (σ.2.1 + 2), .int 0, .int 0, .int 0] x (l7 x)) (t3 tg σ.2.1 (c 1)) (a3 ad σ.2.1 (c 1)) c (gi g (c 1) k a b x) := by
  have h35 := w.2.2.2
  have z : ∀ b, σ.2.1 ≤ b → (tg b).1 = 0 := fun b hb => w.2.no (Or.inr hb)
  refine Prod.ext (funext fun b' => ?_) rfl
  have hnx : ∀ r, r = 33 ∨ r = 34 → hn (gi g (c 1) k a b x r) (c 1) = l7 x := by
    intro r hr
    unfold hn l7
    rw [gi_h hr (by decide), gi_h hr (by decide), gi_h hr (by decide), gi_h hr (by decide), gi_h hr (by decide), gi_h hr (by decide), gi_h hr (by decide)]
  by_cases e2 : b' < 2 ∨ 10 < b'
  · rw [CW_hi e2, CW_hi e2]
    by_cases e0 : b' = σ.2.1
    · subst e0
      rw [if_pos (z _ (Nat.le_refl _)), show t3 tg σ.2.1 (c 1) σ.2.1 = (2, c 1) from u2_s _ _ _]
      rw [if_neg (show ¬ ((2, c 1) : Nat × Nat).1 = 0 from fun q => by cases q)]
      show (if σ.2.1 = σ.2.1 then _ else _) = some (Sum.inl (2, _))
      rw [if_pos rfl, gi_13, gi_14, gi_15, a3_3, a3_4, gi_35 (by decide), gi_35 (by decide), gi_35 (by decide)]
    · by_cases e1 : b' = σ.2.1 + 1
      · subst e1
        rw [if_pos (z _ (by omega)), show t3 tg σ.2.1 (c 1) (σ.2.1 + 1) = (3, c 1) by unfold t3; rw [u2_n (by omega), u2_n (by omega), u2_s]]
        rw [if_neg (show ¬ ((3, c 1) : Nat × Nat).1 = 0 from fun q => by cases q)]
        show (if σ.2.1 + 1 = σ.2.1 then _ else if σ.2.1 + 1 = σ.2.1 + 1 then _ else _) = some (Sum.inl (1, hn _ _))
        rw [if_neg (by omega), if_pos rfl, hnx 34 (by omega)]
      · by_cases e3 : b' = σ.2.1 + 2
        · subst e3
          rw [if_pos (z _ (by omega)), show t3 tg σ.2.1 (c 1) (σ.2.1 + 2) = (4, c 1) by unfold t3; rw [u2_n (by omega), u2_s]]
          rw [if_neg (show ¬ ((4, c 1) : Nat × Nat).1 = 0 from fun q => by cases q)]
          show (if σ.2.1 + 2 = σ.2.1 then _ else if σ.2.1 + 2 = σ.2.1 + 1 then _ else if σ.2.1 + 2 = σ.2.1 + 2 then _ else _) = some (Sum.inl (1, hn _ _))
          rw [if_neg (by omega), if_neg (by omega), if_pos rfl, hnx 33 (by omega)]
        · have et : t3 tg σ.2.1 (c 1) b' = tg b' := by unfold t3; rw [u2_n e0, u2_n e3, u2_n e1]
          rw [et]
          by_cases e4 : (tg b').1 = 0
          · rw [if_pos e4, if_pos e4]
          · rw [if_neg e4, if_neg e4, CO_gi]
            intro hk hi
            have := (w.2.2.1 b' e4).1
            unfold LI at this
            omega
  · exact CW_lo e2 (fun _ => List.map_congr_left fun q hq => (a3_o (by omega)).symm) (fun _ => List.map_congr_left fun q hq => (a3_o (by have := List.mem_range.mp hq; omega)).symm) (fun _ => List.map_congr_left fun q hq => (a3_o (by omega)).symm) (fun _ => List.map_congr_left fun q hq => (a3_o (by omega)).symm) (fun _ => List.map_congr_left fun q hq => (a3_o (by omega)).symm) (fun _ => (gi_r (by decide)).symm) (fun _ => (gi_r (by decide)).symm) (fun _ => (gi_r (by decide)).symm)
theorem c_36a (hl : LO (CW σ tg ad c g)) {k a b d : Int32} (h : ¬ Hs c k a b d) : mm_M 36 [.ref 2, .int k, .int a, .int b, .int d] (CW σ tg ad c g) = some (.inr 2, mm_bmp (CW σ tg ad c g) 1 6) := by
  simp only [M_36, e36_0, e36_9, e36_12, e36_22, e36_30, e36_33, e36_43, e36_47, e36_50, e36_55, e36_65, e36_74, e36_77, e36_87, e36_91, e36_107, e36_110, e36_113, e36_118, e36_121, aM_41, c_41f hl h, K0_v, K0_n, K0_x, K2_v, K2_n, K1_v, K1_n, K1_x, bI_s, bJ_s, bV_s, bS_s, l_10, l_00, bz_01, bz_0, bz_1, em_n, if_true, if_false, ite_not, ite_true, ite_false, not_true_eq_false, not_false_eq_true, or_true, true_or]
theorem c_36b (hl : LO (CW σ tg ad c g)) {k a b d : Int32} (h : Hs c k a b d) (h2 : ¬ Ip k a b d) : mm_M 36 [.ref 2, .int k, .int a, .int b, .int d] (CW σ tg ad c g) = some (.inr 0, mm_bmp (CW σ tg ad c g) 1 6) := by
  simp only [M_36, e36_0, e36_9, e36_12, e36_22, e36_30, e36_33, aM_41, c_41t hl h, c_42, one_ne, K0_v, K0_n, K0_x, K2_v, K2_n, K1_v, K1_n, K1_x, bI_s, bJ_s, bV_s, bS_s, l_10, l_00, bz_01, bz_0, bz_1, em_n, if_true, if_false, ite_not, ite_true, ite_false, not_true_eq_false, not_false_eq_true, or_true, true_or]
  exact if_neg h2
theorem s36 (hl : LO (CW σ tg ad c g)) {k a b d : Int32} (h : Hs c k a b d) (h2 : Ip k a b d) : mm_M 36 [.ref 2, .int k, .int a, .int b, .int d] (CW σ tg ad c g) = mm_L 36 43 [.ref 2, .int k, .int a, .int b, .int d] [] (CW σ tg ad c g) := by
  simp only [M_36, e36_0, e36_9, e36_12, e36_22, e36_30, e36_33, aM_41, c_41t hl h, c_42, one_ne, K0_v, K0_n, K0_x, K2_v, K2_n, K1_v, K1_n, K1_x, bI_s, bJ_s, bV_s, bS_s, l_10, l_00, bz_01, bz_0, bz_1, em_n, if_true, if_false, ite_not, ite_true, ite_false, not_true_eq_false, not_false_eq_true, or_true, true_or]
  exact if_pos h2
theorem c_36c (hl : LO (CW σ tg ad c g)) {k a b d : Int32} (h : Hs c k a b d) (h2 : Ip k a b d) (hc : c 1 = 14) : mm_M 36 [.ref 2, .int k, .int a, .int b, .int d] (CW σ tg ad c g) = some (.inr 1, mm_bmp (CW σ tg ad c g) 1 6) := by
  have q : (nI (c 1) < 14) = False := by rw [hc]; decide
  rw [s36 hl h h2]
  simp only [e36_43, e36_47, e36_50, e36_55, cf_1, cz_4, q, K0_v, K0_n, K0_x, K2_v, K2_n, K1_v, K1_n, K1_x, bI_s, bJ_s, bV_s, bS_s, l_10, l_00, bz_01, bz_0, bz_1, em_n, if_true, if_false, ite_not, ite_true, ite_false, not_true_eq_false, not_false_eq_true, or_true, true_or]
theorem c_36d {n : Nat} (w : WF tg ad c n) (hl : LO (CW σ tg ad c g)) {k a b d : Int32} (h : Hs c k a b d) (h2 : Ip k a b d) (hc : c 1 < 14) (h3 : ¬ Ls g (c 1) k a b d) : mm_M 36 [.ref 2, .int k, .int a, .int b, .int d] (CW σ tg ad c g) = some (.inr 1, mm_bmp (CW σ tg ad c g) 1 6) := by
  have q : (nI (c 1) < 14) = True := eq_true (show nI (c 1) < nI 14 from nI_lt hc (by decide))
  rw [s36 hl h h2]
  simp only [e36_43, e36_47, e36_50, e36_55, e36_65, e36_74, e36_77, cf_1, cz_4, q, aM_43, c_43f w hl h3, K0_v, K0_n, K0_x, K2_v, K2_n, K1_v, K1_n, K1_x, bI_s, bJ_s, bV_s, bS_s, l_10, l_00, bz_01, bz_0, bz_1, em_n, if_true, if_false, ite_not, ite_true, ite_false, not_true_eq_false, not_false_eq_true, or_true, true_or]
theorem c_36 (w : WF tg ad c σ.2.1) (hl : LO (CW σ tg ad c g)) {k a b d : Int32} (h : Hs c k a b d) (h2 : Ip k a b d) (hc : c 1 < 14) (h3 : Ls g (c 1) k a b d) {x : Nat → Int32} (hx : x 6 = if x 5 = 2 then x 6 else -1)
    (hT : mm_M 47 [.ref 2, .int k, .int a, .int b, .int d] (CW (mm_new σ (.inl (2, [.int 0, .int 0, .int 0, .null, .null, .int 0, .int 0, .int 0])) 8) tg ad c g) = some (.inl (some (.ref (σ.2.1 + 1))), mm_new (CW (mm_new σ (.inl (2, [.int 0, .int 0, .int 0, .null, .null, .int 0, .int 0, .int 0])) 8) tg ad c g) (.inl (1, l7 x)) 7)) :
    mm_M 36 [.ref 2, .int k, .int a, .int b, .int d] (CW σ tg ad c g) = some (.inl (some (.int (nI (c 1 + 1)))), CW (mm_bmp (I3 σ [.int k, .int a, .int b, .ref (σ.2.1 + 1), .ref (σ.2.1 + 2), .int 0, .int 0, .int 0] x (l7 x)) 1 (2 * c 1 + 10)) (t3 tg σ.2.1 (c 1)) (a3 ad σ.2.1 (c 1)) (u2 c 1 (c 1 + 1)) (gi g (c 1) k a b x)) := by
  have q : (nI (c 1) < 14) = True := eq_true (show nI (c 1) < nI 14 from nI_lt hc (by decide))
  rw [s36 hl h h2]
  have hI : IN tg ad (mm_new σ (.inl (2, [.int 0, .int 0, .int 0, .null, .null, .int 0, .int 0, .int 0])) 8).2.1 := (w.2.up (Nat.le_succ _)).IN
  have h35 : 11 ≤ (mm_new σ (.inl (2, [.int 0, .int 0, .int 0, .null, .null, .int 0, .int 0, .int 0])) 8).2.1 := Nat.le_succ_of_le w.2.2.2
  rw [CW_mk hI h35, I2_eq] at hT
  simp only [e36_43, e36_47, e36_50, e36_55, e36_65, e36_74, e36_77, e36_87, e36_91, e36_107, cf_1, cz_4, q, aM_43, c_43t w hl h3, one_ne, CW_mk w.2.IN w.2.2.2, CW_n, aM_47, hT, c_12 w k a b x hx, CW_3 w, K0_v, K0_n, K0_x, K2_v, K2_n, K1_v, K1_n, K1_x, bI_s, bJ_s, bV_s, bS_s, l_10, l_00, bz_01, bz_0, bz_1, em_n, if_true, if_false, ite_not, ite_true, ite_false, not_true_eq_false, not_false_eq_true, or_true, true_or]
  have wA := WF.add3 w hc rfl
  have l := ca_4 (σ := I3 σ [.int k, .int a, .int b, .ref (σ.2.1 + 1), .ref (σ.2.1 + 2), .int 0, .int 0, .int 0] x (l7 x)) (tg := t3 tg σ.2.1 (c 1)) (ad := a3 ad σ.2.1 (c 1)) (c := c) (g := gi g (c 1) k a b x) (fun k hk => (wA.i (by rw [u2_s]; omega)).1) (by omega)
  rw [a3_2] at l
  simp only [e36_110, e36_113, e36_118, e36_121, l, cf_1, cz_4, u2_s, K0_v, K0_n, K0_x, K2_v, K2_n, K1_v, K1_n, K1_x, bI_s, bJ_s, bV_s, bS_s, l_10, l_00, bz_01, bz_0, bz_1, em_n, if_true, if_false, ite_not, ite_true, ite_false, not_true_eq_false, not_false_eq_true, or_true, true_or]
end
