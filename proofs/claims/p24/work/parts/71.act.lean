/-! THE LAW: act, sign, mark, agree answer what the class does, or the number of what it throws -/
def cdE (e : Nat) : Int32 := if e = 2 then -71 else if e = 0 then -72 else -73
theorem nd_0_1 : (((0 : Int32) = 1) = False) := by decide
theorem nd_0_2 : (((0 : Int32) = 2) = False) := by decide
theorem nd_0_3 : (((0 : Int32) = 3) = False) := by decide
theorem nd_0_4 : (((0 : Int32) = 4) = False) := by decide
theorem nd_0_5 : (((0 : Int32) = 5) = False) := by decide
theorem nd_0_6 : (((0 : Int32) = 6) = False) := by decide
theorem nd_0_7 : (((0 : Int32) = 7) = False) := by decide
theorem nd_0_8 : (((0 : Int32) = 8) = False) := by decide
theorem nd_0_9 : (((0 : Int32) = 9) = False) := by decide
theorem nd_0_10 : (((0 : Int32) = 10) = False) := by decide
theorem nd_0_11 : (((0 : Int32) = 11) = False) := by decide
theorem nd_0_12 : (((0 : Int32) = 12) = False) := by decide
theorem nd_0_13 : (((0 : Int32) = 13) = False) := by decide
theorem nd_0_14 : (((0 : Int32) = 14) = False) := by decide
theorem nd_0_15 : (((0 : Int32) = 15) = False) := by decide
theorem nd_1_0 : (((1 : Int32) = 0) = False) := by decide
theorem nd_1_2 : (((1 : Int32) = 2) = False) := by decide
theorem nd_1_3 : (((1 : Int32) = 3) = False) := by decide
theorem nd_1_4 : (((1 : Int32) = 4) = False) := by decide
theorem nd_1_5 : (((1 : Int32) = 5) = False) := by decide
theorem nd_1_6 : (((1 : Int32) = 6) = False) := by decide
theorem nd_1_7 : (((1 : Int32) = 7) = False) := by decide
theorem nd_1_8 : (((1 : Int32) = 8) = False) := by decide
theorem nd_1_9 : (((1 : Int32) = 9) = False) := by decide
theorem nd_1_10 : (((1 : Int32) = 10) = False) := by decide
theorem nd_1_11 : (((1 : Int32) = 11) = False) := by decide
theorem nd_1_12 : (((1 : Int32) = 12) = False) := by decide
theorem nd_1_13 : (((1 : Int32) = 13) = False) := by decide
theorem nd_1_14 : (((1 : Int32) = 14) = False) := by decide
theorem nd_1_15 : (((1 : Int32) = 15) = False) := by decide
theorem nd_2_0 : (((2 : Int32) = 0) = False) := by decide
theorem nd_2_1 : (((2 : Int32) = 1) = False) := by decide
theorem nd_2_3 : (((2 : Int32) = 3) = False) := by decide
theorem nd_2_4 : (((2 : Int32) = 4) = False) := by decide
theorem nd_2_5 : (((2 : Int32) = 5) = False) := by decide
theorem nd_2_6 : (((2 : Int32) = 6) = False) := by decide
theorem nd_2_7 : (((2 : Int32) = 7) = False) := by decide
theorem nd_2_8 : (((2 : Int32) = 8) = False) := by decide
theorem nd_2_9 : (((2 : Int32) = 9) = False) := by decide
theorem nd_2_10 : (((2 : Int32) = 10) = False) := by decide
theorem nd_2_11 : (((2 : Int32) = 11) = False) := by decide
theorem nd_2_12 : (((2 : Int32) = 12) = False) := by decide
theorem nd_2_13 : (((2 : Int32) = 13) = False) := by decide
theorem nd_2_14 : (((2 : Int32) = 14) = False) := by decide
theorem nd_2_15 : (((2 : Int32) = 15) = False) := by decide
theorem nd_3_0 : (((3 : Int32) = 0) = False) := by decide
theorem nd_3_1 : (((3 : Int32) = 1) = False) := by decide
theorem nd_3_2 : (((3 : Int32) = 2) = False) := by decide
theorem nd_3_4 : (((3 : Int32) = 4) = False) := by decide
theorem nd_3_5 : (((3 : Int32) = 5) = False) := by decide
theorem nd_3_6 : (((3 : Int32) = 6) = False) := by decide
theorem nd_3_7 : (((3 : Int32) = 7) = False) := by decide
theorem nd_3_8 : (((3 : Int32) = 8) = False) := by decide
theorem nd_3_9 : (((3 : Int32) = 9) = False) := by decide
theorem nd_3_10 : (((3 : Int32) = 10) = False) := by decide
theorem nd_3_11 : (((3 : Int32) = 11) = False) := by decide
theorem nd_3_12 : (((3 : Int32) = 12) = False) := by decide
theorem nd_3_13 : (((3 : Int32) = 13) = False) := by decide
theorem nd_3_14 : (((3 : Int32) = 14) = False) := by decide
theorem nd_3_15 : (((3 : Int32) = 15) = False) := by decide
theorem nd_4_0 : (((4 : Int32) = 0) = False) := by decide
theorem nd_4_1 : (((4 : Int32) = 1) = False) := by decide
theorem nd_4_2 : (((4 : Int32) = 2) = False) := by decide
theorem nd_4_3 : (((4 : Int32) = 3) = False) := by decide
theorem nd_4_5 : (((4 : Int32) = 5) = False) := by decide
theorem nd_4_6 : (((4 : Int32) = 6) = False) := by decide
theorem nd_4_7 : (((4 : Int32) = 7) = False) := by decide
theorem nd_4_8 : (((4 : Int32) = 8) = False) := by decide
theorem nd_4_9 : (((4 : Int32) = 9) = False) := by decide
theorem nd_4_10 : (((4 : Int32) = 10) = False) := by decide
theorem nd_4_11 : (((4 : Int32) = 11) = False) := by decide
theorem nd_4_12 : (((4 : Int32) = 12) = False) := by decide
theorem nd_4_13 : (((4 : Int32) = 13) = False) := by decide
theorem nd_4_14 : (((4 : Int32) = 14) = False) := by decide
theorem nd_4_15 : (((4 : Int32) = 15) = False) := by decide
theorem nd_5_0 : (((5 : Int32) = 0) = False) := by decide
theorem nd_5_1 : (((5 : Int32) = 1) = False) := by decide
theorem nd_5_2 : (((5 : Int32) = 2) = False) := by decide
theorem nd_5_3 : (((5 : Int32) = 3) = False) := by decide
theorem nd_5_4 : (((5 : Int32) = 4) = False) := by decide
theorem nd_5_6 : (((5 : Int32) = 6) = False) := by decide
theorem nd_5_7 : (((5 : Int32) = 7) = False) := by decide
theorem nd_5_8 : (((5 : Int32) = 8) = False) := by decide
theorem nd_5_9 : (((5 : Int32) = 9) = False) := by decide
theorem nd_5_10 : (((5 : Int32) = 10) = False) := by decide
theorem nd_5_11 : (((5 : Int32) = 11) = False) := by decide
theorem nd_5_12 : (((5 : Int32) = 12) = False) := by decide
theorem nd_5_13 : (((5 : Int32) = 13) = False) := by decide
theorem nd_5_14 : (((5 : Int32) = 14) = False) := by decide
theorem nd_5_15 : (((5 : Int32) = 15) = False) := by decide
theorem nd_6_0 : (((6 : Int32) = 0) = False) := by decide
theorem nd_6_1 : (((6 : Int32) = 1) = False) := by decide
theorem nd_6_2 : (((6 : Int32) = 2) = False) := by decide
theorem nd_6_3 : (((6 : Int32) = 3) = False) := by decide
theorem nd_6_4 : (((6 : Int32) = 4) = False) := by decide
theorem nd_6_5 : (((6 : Int32) = 5) = False) := by decide
theorem nd_6_7 : (((6 : Int32) = 7) = False) := by decide
theorem nd_6_8 : (((6 : Int32) = 8) = False) := by decide
theorem nd_6_9 : (((6 : Int32) = 9) = False) := by decide
theorem nd_6_10 : (((6 : Int32) = 10) = False) := by decide
theorem nd_6_11 : (((6 : Int32) = 11) = False) := by decide
theorem nd_6_12 : (((6 : Int32) = 12) = False) := by decide
theorem nd_6_13 : (((6 : Int32) = 13) = False) := by decide
theorem nd_6_14 : (((6 : Int32) = 14) = False) := by decide
theorem nd_6_15 : (((6 : Int32) = 15) = False) := by decide
theorem nd_7_0 : (((7 : Int32) = 0) = False) := by decide
theorem nd_7_1 : (((7 : Int32) = 1) = False) := by decide
theorem nd_7_2 : (((7 : Int32) = 2) = False) := by decide
theorem nd_7_3 : (((7 : Int32) = 3) = False) := by decide
theorem nd_7_4 : (((7 : Int32) = 4) = False) := by decide
theorem nd_7_5 : (((7 : Int32) = 5) = False) := by decide
theorem nd_7_6 : (((7 : Int32) = 6) = False) := by decide
theorem nd_7_8 : (((7 : Int32) = 8) = False) := by decide
theorem nd_7_9 : (((7 : Int32) = 9) = False) := by decide
theorem nd_7_10 : (((7 : Int32) = 10) = False) := by decide
theorem nd_7_11 : (((7 : Int32) = 11) = False) := by decide
theorem nd_7_12 : (((7 : Int32) = 12) = False) := by decide
theorem nd_7_13 : (((7 : Int32) = 13) = False) := by decide
theorem nd_7_14 : (((7 : Int32) = 14) = False) := by decide
theorem nd_7_15 : (((7 : Int32) = 15) = False) := by decide
theorem nd_8_0 : (((8 : Int32) = 0) = False) := by decide
theorem nd_8_1 : (((8 : Int32) = 1) = False) := by decide
theorem nd_8_2 : (((8 : Int32) = 2) = False) := by decide
theorem nd_8_3 : (((8 : Int32) = 3) = False) := by decide
theorem nd_8_4 : (((8 : Int32) = 4) = False) := by decide
theorem nd_8_5 : (((8 : Int32) = 5) = False) := by decide
theorem nd_8_6 : (((8 : Int32) = 6) = False) := by decide
theorem nd_8_7 : (((8 : Int32) = 7) = False) := by decide
theorem nd_8_9 : (((8 : Int32) = 9) = False) := by decide
theorem nd_8_10 : (((8 : Int32) = 10) = False) := by decide
theorem nd_8_11 : (((8 : Int32) = 11) = False) := by decide
theorem nd_8_12 : (((8 : Int32) = 12) = False) := by decide
theorem nd_8_13 : (((8 : Int32) = 13) = False) := by decide
theorem nd_8_14 : (((8 : Int32) = 14) = False) := by decide
theorem nd_8_15 : (((8 : Int32) = 15) = False) := by decide
theorem nd_9_0 : (((9 : Int32) = 0) = False) := by decide
theorem nd_9_1 : (((9 : Int32) = 1) = False) := by decide
theorem nd_9_2 : (((9 : Int32) = 2) = False) := by decide
theorem nd_9_3 : (((9 : Int32) = 3) = False) := by decide
theorem nd_9_4 : (((9 : Int32) = 4) = False) := by decide
theorem nd_9_5 : (((9 : Int32) = 5) = False) := by decide
theorem nd_9_6 : (((9 : Int32) = 6) = False) := by decide
theorem nd_9_7 : (((9 : Int32) = 7) = False) := by decide
theorem nd_9_8 : (((9 : Int32) = 8) = False) := by decide
theorem nd_9_10 : (((9 : Int32) = 10) = False) := by decide
theorem nd_9_11 : (((9 : Int32) = 11) = False) := by decide
theorem nd_9_12 : (((9 : Int32) = 12) = False) := by decide
theorem nd_9_13 : (((9 : Int32) = 13) = False) := by decide
theorem nd_9_14 : (((9 : Int32) = 14) = False) := by decide
theorem nd_9_15 : (((9 : Int32) = 15) = False) := by decide
theorem nd_10_0 : (((10 : Int32) = 0) = False) := by decide
theorem nd_10_1 : (((10 : Int32) = 1) = False) := by decide
theorem nd_10_2 : (((10 : Int32) = 2) = False) := by decide
theorem nd_10_3 : (((10 : Int32) = 3) = False) := by decide
theorem nd_10_4 : (((10 : Int32) = 4) = False) := by decide
theorem nd_10_5 : (((10 : Int32) = 5) = False) := by decide
theorem nd_10_6 : (((10 : Int32) = 6) = False) := by decide
theorem nd_10_7 : (((10 : Int32) = 7) = False) := by decide
theorem nd_10_8 : (((10 : Int32) = 8) = False) := by decide
theorem nd_10_9 : (((10 : Int32) = 9) = False) := by decide
theorem nd_10_11 : (((10 : Int32) = 11) = False) := by decide
theorem nd_10_12 : (((10 : Int32) = 12) = False) := by decide
theorem nd_10_13 : (((10 : Int32) = 13) = False) := by decide
theorem nd_10_14 : (((10 : Int32) = 14) = False) := by decide
theorem nd_10_15 : (((10 : Int32) = 15) = False) := by decide
theorem nd_11_0 : (((11 : Int32) = 0) = False) := by decide
theorem nd_11_1 : (((11 : Int32) = 1) = False) := by decide
theorem nd_11_2 : (((11 : Int32) = 2) = False) := by decide
theorem nd_11_3 : (((11 : Int32) = 3) = False) := by decide
theorem nd_11_4 : (((11 : Int32) = 4) = False) := by decide
theorem nd_11_5 : (((11 : Int32) = 5) = False) := by decide
theorem nd_11_6 : (((11 : Int32) = 6) = False) := by decide
theorem nd_11_7 : (((11 : Int32) = 7) = False) := by decide
theorem nd_11_8 : (((11 : Int32) = 8) = False) := by decide
theorem nd_11_9 : (((11 : Int32) = 9) = False) := by decide
theorem nd_11_10 : (((11 : Int32) = 10) = False) := by decide
theorem nd_11_12 : (((11 : Int32) = 12) = False) := by decide
theorem nd_11_13 : (((11 : Int32) = 13) = False) := by decide
theorem nd_11_14 : (((11 : Int32) = 14) = False) := by decide
theorem nd_11_15 : (((11 : Int32) = 15) = False) := by decide
theorem nd_12_0 : (((12 : Int32) = 0) = False) := by decide
theorem nd_12_1 : (((12 : Int32) = 1) = False) := by decide
theorem nd_12_2 : (((12 : Int32) = 2) = False) := by decide
theorem nd_12_3 : (((12 : Int32) = 3) = False) := by decide
theorem nd_12_4 : (((12 : Int32) = 4) = False) := by decide
theorem nd_12_5 : (((12 : Int32) = 5) = False) := by decide
theorem nd_12_6 : (((12 : Int32) = 6) = False) := by decide
theorem nd_12_7 : (((12 : Int32) = 7) = False) := by decide
theorem nd_12_8 : (((12 : Int32) = 8) = False) := by decide
theorem nd_12_9 : (((12 : Int32) = 9) = False) := by decide
theorem nd_12_10 : (((12 : Int32) = 10) = False) := by decide
theorem nd_12_11 : (((12 : Int32) = 11) = False) := by decide
theorem nd_12_13 : (((12 : Int32) = 13) = False) := by decide
theorem nd_12_14 : (((12 : Int32) = 14) = False) := by decide
theorem nd_12_15 : (((12 : Int32) = 15) = False) := by decide
theorem nd_13_0 : (((13 : Int32) = 0) = False) := by decide
theorem nd_13_1 : (((13 : Int32) = 1) = False) := by decide
theorem nd_13_2 : (((13 : Int32) = 2) = False) := by decide
theorem nd_13_3 : (((13 : Int32) = 3) = False) := by decide
theorem nd_13_4 : (((13 : Int32) = 4) = False) := by decide
theorem nd_13_5 : (((13 : Int32) = 5) = False) := by decide
theorem nd_13_6 : (((13 : Int32) = 6) = False) := by decide
theorem nd_13_7 : (((13 : Int32) = 7) = False) := by decide
theorem nd_13_8 : (((13 : Int32) = 8) = False) := by decide
theorem nd_13_9 : (((13 : Int32) = 9) = False) := by decide
theorem nd_13_10 : (((13 : Int32) = 10) = False) := by decide
theorem nd_13_11 : (((13 : Int32) = 11) = False) := by decide
theorem nd_13_12 : (((13 : Int32) = 12) = False) := by decide
theorem nd_13_14 : (((13 : Int32) = 14) = False) := by decide
theorem nd_13_15 : (((13 : Int32) = 15) = False) := by decide
theorem nd_14_0 : (((14 : Int32) = 0) = False) := by decide
theorem nd_14_1 : (((14 : Int32) = 1) = False) := by decide
theorem nd_14_2 : (((14 : Int32) = 2) = False) := by decide
theorem nd_14_3 : (((14 : Int32) = 3) = False) := by decide
theorem nd_14_4 : (((14 : Int32) = 4) = False) := by decide
theorem nd_14_5 : (((14 : Int32) = 5) = False) := by decide
theorem nd_14_6 : (((14 : Int32) = 6) = False) := by decide
theorem nd_14_7 : (((14 : Int32) = 7) = False) := by decide
theorem nd_14_8 : (((14 : Int32) = 8) = False) := by decide
theorem nd_14_9 : (((14 : Int32) = 9) = False) := by decide
theorem nd_14_10 : (((14 : Int32) = 10) = False) := by decide
theorem nd_14_11 : (((14 : Int32) = 11) = False) := by decide
theorem nd_14_12 : (((14 : Int32) = 12) = False) := by decide
theorem nd_14_13 : (((14 : Int32) = 13) = False) := by decide
theorem nd_14_15 : (((14 : Int32) = 15) = False) := by decide
theorem nd_15_0 : (((15 : Int32) = 0) = False) := by decide
theorem nd_15_1 : (((15 : Int32) = 1) = False) := by decide
theorem nd_15_2 : (((15 : Int32) = 2) = False) := by decide
theorem nd_15_3 : (((15 : Int32) = 3) = False) := by decide
theorem nd_15_4 : (((15 : Int32) = 4) = False) := by decide
theorem nd_15_5 : (((15 : Int32) = 5) = False) := by decide
theorem nd_15_6 : (((15 : Int32) = 6) = False) := by decide
theorem nd_15_7 : (((15 : Int32) = 7) = False) := by decide
theorem nd_15_8 : (((15 : Int32) = 8) = False) := by decide
theorem nd_15_9 : (((15 : Int32) = 9) = False) := by decide
theorem nd_15_10 : (((15 : Int32) = 10) = False) := by decide
theorem nd_15_11 : (((15 : Int32) = 11) = False) := by decide
theorem nd_15_12 : (((15 : Int32) = 12) = False) := by decide
theorem nd_15_13 : (((15 : Int32) = 13) = False) := by decide
theorem nd_15_14 : (((15 : Int32) = 14) = False) := by decide
theorem nd_16_0 : (((16 : Int32) = 0) = False) := by decide
theorem nd_16_1 : (((16 : Int32) = 1) = False) := by decide
theorem nd_16_2 : (((16 : Int32) = 2) = False) := by decide
theorem nd_16_3 : (((16 : Int32) = 3) = False) := by decide
theorem nd_16_4 : (((16 : Int32) = 4) = False) := by decide
theorem nd_16_5 : (((16 : Int32) = 5) = False) := by decide
theorem nd_16_6 : (((16 : Int32) = 6) = False) := by decide
theorem nd_16_7 : (((16 : Int32) = 7) = False) := by decide
theorem nd_16_8 : (((16 : Int32) = 8) = False) := by decide
theorem nd_16_9 : (((16 : Int32) = 9) = False) := by decide
theorem nd_16_10 : (((16 : Int32) = 10) = False) := by decide
theorem nd_16_11 : (((16 : Int32) = 11) = False) := by decide
theorem nd_16_12 : (((16 : Int32) = 12) = False) := by decide
theorem nd_16_13 : (((16 : Int32) = 13) = False) := by decide
theorem nd_16_14 : (((16 : Int32) = 14) = False) := by decide
theorem nd_16_15 : (((16 : Int32) = 15) = False) := by decide
theorem nd_0_0 : (((0 : Int32) = 0) = True) := by decide
theorem nd_1_1 : (((1 : Int32) = 1) = True) := by decide
theorem nd_2_2 : (((2 : Int32) = 2) = True) := by decide
theorem nd_3_3 : (((3 : Int32) = 3) = True) := by decide
theorem nd_4_4 : (((4 : Int32) = 4) = True) := by decide
theorem nd_5_5 : (((5 : Int32) = 5) = True) := by decide
theorem nd_6_6 : (((6 : Int32) = 6) = True) := by decide
theorem nd_7_7 : (((7 : Int32) = 7) = True) := by decide
theorem nd_8_8 : (((8 : Int32) = 8) = True) := by decide
theorem nd_9_9 : (((9 : Int32) = 9) = True) := by decide
theorem nd_10_10 : (((10 : Int32) = 10) = True) := by decide
theorem nd_11_11 : (((11 : Int32) = 11) = True) := by decide
theorem nd_12_12 : (((12 : Int32) = 12) = True) := by decide
theorem nd_13_13 : (((13 : Int32) = 13) = True) := by decide
theorem nd_14_14 : (((14 : Int32) = 14) = True) := by decide
theorem nd_15_15 : (((15 : Int32) = 15) = True) := by decide
theorem nd_16_16 : (((16 : Int32) = 16) = True) := by decide
section
variable {σ τ : mm_S} {tg : Nat → Nat × Nat} {ad : Nat × Nat → Nat} {c : Nat → Nat} {g : Nat → Nat → Int32} {r : Option Value ⊕ Nat}
theorem A_0 {p q s t : Int32} (hC : mm_M 25 (.ref 2 :: [.int p, .int q]) (CW σ tg ad c g) = some (r, τ)) : (∀ v, r = .inl (some (.int v)) → mm_M 106 [.ref 2, .int 0, .int p, .int q, .int s, .int t] (CW σ tg ad c g) = some (.inl (some (.int v)), τ)) ∧ ∀ e, e < 3 → r = .inr e → mm_M 106 [.ref 2, .int 0, .int p, .int q, .int s, .int t] (CW σ tg ad c g) = some (.inl (some (.int (cdE e))), τ) := by
  refine ⟨fun v hv => ?_, fun e he hr => ?_⟩
  · subst hv
    simp only [M_106, e106_0, e106_4, nd_0_0, if_true, if_false, aM_25, hC, K1_v, e106_10, e106_262]
  · subst hr
    simp only [M_106, e106_0, e106_4, nd_0_0, if_true, if_false, aM_25, hC, K1_x]
    have q : e = 0 ∨ e = 1 ∨ e = 2 := by omega
    rcases q with q0 | q1 | q2
    · subst q0
      exact Eq.trans (cat_y (y := 106) (pc := 7) (E := 0) (h := 268) (n := 6) (p := 270) (by decide +kernel) (by unfold mm_hs; rw [mb_106, dL_act_268]; rfl) (Nat.le_of_ble_eq_true rfl)) (e106_270 ..)
    · subst q1
      exact Eq.trans (cat_y (y := 106) (pc := 7) (E := 1) (h := 273) (n := 6) (p := 275) (by decide +kernel) (by unfold mm_hs; rw [mb_106, dL_act_273]; rfl) (Nat.le_of_ble_eq_true rfl)) (e106_275 ..)
    · subst q2
      exact Eq.trans (cat_y (y := 106) (pc := 7) (E := 2) (h := 263) (n := 6) (p := 265) (by decide +kernel) (by unfold mm_hs; rw [mb_106, dL_act_263]; rfl) (Nat.le_of_ble_eq_true rfl)) (e106_265 ..)

theorem A_1 {p q s t : Int32} (hC : mm_M 26 (.ref 2 :: [.int p, .int q]) (CW σ tg ad c g) = some (r, τ)) : (∀ v, r = .inl (some (.int v)) → mm_M 106 [.ref 2, .int 1, .int p, .int q, .int s, .int t] (CW σ tg ad c g) = some (.inl (some (.int v)), τ)) ∧ ∀ e, e < 3 → r = .inr e → mm_M 106 [.ref 2, .int 1, .int p, .int q, .int s, .int t] (CW σ tg ad c g) = some (.inl (some (.int (cdE e))), τ) := by
  refine ⟨fun v hv => ?_, fun e he hr => ?_⟩
  · subst hv
    simp only [M_106, e106_0, e106_13, e106_18, nd_1_0, nd_1_1, if_true, if_false, aM_26, hC, K1_v, e106_24, e106_262]
  · subst hr
    simp only [M_106, e106_0, e106_13, e106_18, nd_1_0, nd_1_1, if_true, if_false, aM_26, hC, K1_x]
    have q : e = 0 ∨ e = 1 ∨ e = 2 := by omega
    rcases q with q0 | q1 | q2
    · subst q0
      exact Eq.trans (cat_y (y := 106) (pc := 21) (E := 0) (h := 268) (n := 6) (p := 270) (by decide +kernel) (by unfold mm_hs; rw [mb_106, dL_act_268]; rfl) (Nat.le_of_ble_eq_true rfl)) (e106_270 ..)
    · subst q1
      exact Eq.trans (cat_y (y := 106) (pc := 21) (E := 1) (h := 273) (n := 6) (p := 275) (by decide +kernel) (by unfold mm_hs; rw [mb_106, dL_act_273]; rfl) (Nat.le_of_ble_eq_true rfl)) (e106_275 ..)
    · subst q2
      exact Eq.trans (cat_y (y := 106) (pc := 21) (E := 2) (h := 263) (n := 6) (p := 265) (by decide +kernel) (by unfold mm_hs; rw [mb_106, dL_act_263]; rfl) (Nat.le_of_ble_eq_true rfl)) (e106_265 ..)

theorem A_2 {p q s t : Int32} (hC : mm_M 27 (.ref 2 :: [.int p, .int q]) (CW σ tg ad c g) = some (r, τ)) : (∀ v, r = .inl (some (.int v)) → mm_M 106 [.ref 2, .int 2, .int p, .int q, .int s, .int t] (CW σ tg ad c g) = some (.inl (some (.int v)), τ)) ∧ ∀ e, e < 3 → r = .inr e → mm_M 106 [.ref 2, .int 2, .int p, .int q, .int s, .int t] (CW σ tg ad c g) = some (.inl (some (.int (cdE e))), τ) := by
  refine ⟨fun v hv => ?_, fun e he hr => ?_⟩
  · subst hv
    simp only [M_106, e106_0, e106_13, e106_27, e106_32, nd_2_0, nd_2_1, nd_2_2, if_true, if_false, aM_27, hC, K1_v, e106_38, e106_262]
  · subst hr
    simp only [M_106, e106_0, e106_13, e106_27, e106_32, nd_2_0, nd_2_1, nd_2_2, if_true, if_false, aM_27, hC, K1_x]
    have q : e = 0 ∨ e = 1 ∨ e = 2 := by omega
    rcases q with q0 | q1 | q2
    · subst q0
      exact Eq.trans (cat_y (y := 106) (pc := 35) (E := 0) (h := 268) (n := 6) (p := 270) (by decide +kernel) (by unfold mm_hs; rw [mb_106, dL_act_268]; rfl) (Nat.le_of_ble_eq_true rfl)) (e106_270 ..)
    · subst q1
      exact Eq.trans (cat_y (y := 106) (pc := 35) (E := 1) (h := 273) (n := 6) (p := 275) (by decide +kernel) (by unfold mm_hs; rw [mb_106, dL_act_273]; rfl) (Nat.le_of_ble_eq_true rfl)) (e106_275 ..)
    · subst q2
      exact Eq.trans (cat_y (y := 106) (pc := 35) (E := 2) (h := 263) (n := 6) (p := 265) (by decide +kernel) (by unfold mm_hs; rw [mb_106, dL_act_263]; rfl) (Nat.le_of_ble_eq_true rfl)) (e106_265 ..)

theorem A_3 {p q s t : Int32} (hC : mm_M 36 (.ref 2 :: [.int p, .int q, .int s, .int t]) (CW σ tg ad c g) = some (r, τ)) : (∀ v, r = .inl (some (.int v)) → mm_M 106 [.ref 2, .int 3, .int p, .int q, .int s, .int t] (CW σ tg ad c g) = some (.inl (some (.int v)), τ)) ∧ ∀ e, e < 3 → r = .inr e → mm_M 106 [.ref 2, .int 3, .int p, .int q, .int s, .int t] (CW σ tg ad c g) = some (.inl (some (.int (cdE e))), τ) := by
  refine ⟨fun v hv => ?_, fun e he hr => ?_⟩
  · subst hv
    simp only [M_106, e106_0, e106_13, e106_27, e106_41, e106_46, nd_3_0, nd_3_1, nd_3_2, nd_3_3, if_true, if_false, aM_36, hC, K1_v, e106_56, e106_262]
  · subst hr
    simp only [M_106, e106_0, e106_13, e106_27, e106_41, e106_46, nd_3_0, nd_3_1, nd_3_2, nd_3_3, if_true, if_false, aM_36, hC, K1_x]
    have q : e = 0 ∨ e = 1 ∨ e = 2 := by omega
    rcases q with q0 | q1 | q2
    · subst q0
      exact Eq.trans (cat_y (y := 106) (pc := 53) (E := 0) (h := 268) (n := 6) (p := 270) (by decide +kernel) (by unfold mm_hs; rw [mb_106, dL_act_268]; rfl) (Nat.le_of_ble_eq_true rfl)) (e106_270 ..)
    · subst q1
      exact Eq.trans (cat_y (y := 106) (pc := 53) (E := 1) (h := 273) (n := 6) (p := 275) (by decide +kernel) (by unfold mm_hs; rw [mb_106, dL_act_273]; rfl) (Nat.le_of_ble_eq_true rfl)) (e106_275 ..)
    · subst q2
      exact Eq.trans (cat_y (y := 106) (pc := 53) (E := 2) (h := 263) (n := 6) (p := 265) (by decide +kernel) (by unfold mm_hs; rw [mb_106, dL_act_263]; rfl) (Nat.le_of_ble_eq_true rfl)) (e106_265 ..)

theorem A_4 {p q s t : Int32} (hC : mm_M 38 (.ref 2 :: [.int p, .int q, .int s]) (CW σ tg ad c g) = some (r, τ)) : (∀ v, r = .inl (some (.int v)) → mm_M 106 [.ref 2, .int 4, .int p, .int q, .int s, .int t] (CW σ tg ad c g) = some (.inl (some (.int v)), τ)) ∧ ∀ e, e < 3 → r = .inr e → mm_M 106 [.ref 2, .int 4, .int p, .int q, .int s, .int t] (CW σ tg ad c g) = some (.inl (some (.int (cdE e))), τ) := by
  refine ⟨fun v hv => ?_, fun e he hr => ?_⟩
  · subst hv
    simp only [M_106, e106_0, e106_13, e106_27, e106_41, e106_59, e106_64, nd_4_0, nd_4_1, nd_4_2, nd_4_3, nd_4_4, if_true, if_false, aM_38, hC, K1_v, e106_72, e106_262]
  · subst hr
    simp only [M_106, e106_0, e106_13, e106_27, e106_41, e106_59, e106_64, nd_4_0, nd_4_1, nd_4_2, nd_4_3, nd_4_4, if_true, if_false, aM_38, hC, K1_x]
    have q : e = 0 ∨ e = 1 ∨ e = 2 := by omega
    rcases q with q0 | q1 | q2
    · subst q0
      exact Eq.trans (cat_y (y := 106) (pc := 69) (E := 0) (h := 268) (n := 6) (p := 270) (by decide +kernel) (by unfold mm_hs; rw [mb_106, dL_act_268]; rfl) (Nat.le_of_ble_eq_true rfl)) (e106_270 ..)
    · subst q1
      exact Eq.trans (cat_y (y := 106) (pc := 69) (E := 1) (h := 273) (n := 6) (p := 275) (by decide +kernel) (by unfold mm_hs; rw [mb_106, dL_act_273]; rfl) (Nat.le_of_ble_eq_true rfl)) (e106_275 ..)
    · subst q2
      exact Eq.trans (cat_y (y := 106) (pc := 69) (E := 2) (h := 263) (n := 6) (p := 265) (by decide +kernel) (by unfold mm_hs; rw [mb_106, dL_act_263]; rfl) (Nat.le_of_ble_eq_true rfl)) (e106_265 ..)

theorem A_5 {p q s t : Int32} (hC : mm_M 39 (.ref 2 :: [.int p, .int q]) (CW σ tg ad c g) = some (r, τ)) : (∀ v, r = .inl (some (.int v)) → mm_M 106 [.ref 2, .int 5, .int p, .int q, .int s, .int t] (CW σ tg ad c g) = some (.inl (some (.int v)), τ)) ∧ ∀ e, e < 3 → r = .inr e → mm_M 106 [.ref 2, .int 5, .int p, .int q, .int s, .int t] (CW σ tg ad c g) = some (.inl (some (.int (cdE e))), τ) := by
  refine ⟨fun v hv => ?_, fun e he hr => ?_⟩
  · subst hv
    simp only [M_106, e106_0, e106_13, e106_27, e106_41, e106_59, e106_75, e106_80, nd_5_0, nd_5_1, nd_5_2, nd_5_3, nd_5_4, nd_5_5, if_true, if_false, aM_39, hC, K1_v, e106_86, e106_262]
  · subst hr
    simp only [M_106, e106_0, e106_13, e106_27, e106_41, e106_59, e106_75, e106_80, nd_5_0, nd_5_1, nd_5_2, nd_5_3, nd_5_4, nd_5_5, if_true, if_false, aM_39, hC, K1_x]
    have q : e = 0 ∨ e = 1 ∨ e = 2 := by omega
    rcases q with q0 | q1 | q2
    · subst q0
      exact Eq.trans (cat_y (y := 106) (pc := 83) (E := 0) (h := 268) (n := 6) (p := 270) (by decide +kernel) (by unfold mm_hs; rw [mb_106, dL_act_268]; rfl) (Nat.le_of_ble_eq_true rfl)) (e106_270 ..)
    · subst q1
      exact Eq.trans (cat_y (y := 106) (pc := 83) (E := 1) (h := 273) (n := 6) (p := 275) (by decide +kernel) (by unfold mm_hs; rw [mb_106, dL_act_273]; rfl) (Nat.le_of_ble_eq_true rfl)) (e106_275 ..)
    · subst q2
      exact Eq.trans (cat_y (y := 106) (pc := 83) (E := 2) (h := 263) (n := 6) (p := 265) (by decide +kernel) (by unfold mm_hs; rw [mb_106, dL_act_263]; rfl) (Nat.le_of_ble_eq_true rfl)) (e106_265 ..)

theorem A_6 {p q s t : Int32} (hC : mm_M 40 (.ref 2 :: [.int p, .int q]) (CW σ tg ad c g) = some (r, τ)) : (∀ v, r = .inl (some (.int v)) → mm_M 106 [.ref 2, .int 6, .int p, .int q, .int s, .int t] (CW σ tg ad c g) = some (.inl (some (.int v)), τ)) ∧ ∀ e, e < 3 → r = .inr e → mm_M 106 [.ref 2, .int 6, .int p, .int q, .int s, .int t] (CW σ tg ad c g) = some (.inl (some (.int (cdE e))), τ) := by
  refine ⟨fun v hv => ?_, fun e he hr => ?_⟩
  · subst hv
    simp only [M_106, e106_0, e106_13, e106_27, e106_41, e106_59, e106_75, e106_89, e106_95, nd_6_0, nd_6_1, nd_6_2, nd_6_3, nd_6_4, nd_6_5, nd_6_6, if_true, if_false, aM_40, hC, K1_v, e106_101, e106_262]
  · subst hr
    simp only [M_106, e106_0, e106_13, e106_27, e106_41, e106_59, e106_75, e106_89, e106_95, nd_6_0, nd_6_1, nd_6_2, nd_6_3, nd_6_4, nd_6_5, nd_6_6, if_true, if_false, aM_40, hC, K1_x]
    have q : e = 0 ∨ e = 1 ∨ e = 2 := by omega
    rcases q with q0 | q1 | q2
    · subst q0
      exact Eq.trans (cat_y (y := 106) (pc := 98) (E := 0) (h := 268) (n := 6) (p := 270) (by decide +kernel) (by unfold mm_hs; rw [mb_106, dL_act_268]; rfl) (Nat.le_of_ble_eq_true rfl)) (e106_270 ..)
    · subst q1
      exact Eq.trans (cat_y (y := 106) (pc := 98) (E := 1) (h := 273) (n := 6) (p := 275) (by decide +kernel) (by unfold mm_hs; rw [mb_106, dL_act_273]; rfl) (Nat.le_of_ble_eq_true rfl)) (e106_275 ..)
    · subst q2
      exact Eq.trans (cat_y (y := 106) (pc := 98) (E := 2) (h := 263) (n := 6) (p := 265) (by decide +kernel) (by unfold mm_hs; rw [mb_106, dL_act_263]; rfl) (Nat.le_of_ble_eq_true rfl)) (e106_265 ..)

theorem A_7 {p q s t : Int32} (hC : mm_M 57 (.ref 2 :: [.int p]) (CW σ tg ad c g) = some (r, τ)) : (∀ v, r = .inl (some (.int v)) → mm_M 106 [.ref 2, .int 7, .int p, .int q, .int s, .int t] (CW σ tg ad c g) = some (.inl (some (.int v)), τ)) ∧ ∀ e, e < 3 → r = .inr e → mm_M 106 [.ref 2, .int 7, .int p, .int q, .int s, .int t] (CW σ tg ad c g) = some (.inl (some (.int (cdE e))), τ) := by
  refine ⟨fun v hv => ?_, fun e he hr => ?_⟩
  · subst hv
    simp only [M_106, e106_0, e106_13, e106_27, e106_41, e106_59, e106_75, e106_89, e106_104, e106_110, nd_7_0, nd_7_1, nd_7_2, nd_7_3, nd_7_4, nd_7_5, nd_7_6, nd_7_7, if_true, if_false, aM_57, hC, K1_v, e106_115, e106_262]
  · subst hr
    simp only [M_106, e106_0, e106_13, e106_27, e106_41, e106_59, e106_75, e106_89, e106_104, e106_110, nd_7_0, nd_7_1, nd_7_2, nd_7_3, nd_7_4, nd_7_5, nd_7_6, nd_7_7, if_true, if_false, aM_57, hC, K1_x]
    have q : e = 0 ∨ e = 1 ∨ e = 2 := by omega
    rcases q with q0 | q1 | q2
    · subst q0
      exact Eq.trans (cat_y (y := 106) (pc := 112) (E := 0) (h := 268) (n := 6) (p := 270) (by decide +kernel) (by unfold mm_hs; rw [mb_106, dL_act_268]; rfl) (Nat.le_of_ble_eq_true rfl)) (e106_270 ..)
    · subst q1
      exact Eq.trans (cat_y (y := 106) (pc := 112) (E := 1) (h := 273) (n := 6) (p := 275) (by decide +kernel) (by unfold mm_hs; rw [mb_106, dL_act_273]; rfl) (Nat.le_of_ble_eq_true rfl)) (e106_275 ..)
    · subst q2
      exact Eq.trans (cat_y (y := 106) (pc := 112) (E := 2) (h := 263) (n := 6) (p := 265) (by decide +kernel) (by unfold mm_hs; rw [mb_106, dL_act_263]; rfl) (Nat.le_of_ble_eq_true rfl)) (e106_265 ..)

theorem A_8 {p q s t : Int32} (hC : mm_M 58 (.ref 2 :: [.int p, .int q]) (CW σ tg ad c g) = some (r, τ)) : (∀ v, r = .inl (some (.int v)) → mm_M 106 [.ref 2, .int 8, .int p, .int q, .int s, .int t] (CW σ tg ad c g) = some (.inl (some (.int (if v = 0 then 0 else 1))), τ)) ∧ ∀ e, e < 3 → r = .inr e → mm_M 106 [.ref 2, .int 8, .int p, .int q, .int s, .int t] (CW σ tg ad c g) = some (.inl (some (.int (cdE e))), τ) := by
  refine ⟨fun v hv => ?_, fun e he hr => ?_⟩
  · subst hv
    simp only [M_106, e106_0, e106_13, e106_27, e106_41, e106_59, e106_75, e106_89, e106_104, e106_118, e106_124, nd_8_0, nd_8_1, nd_8_2, nd_8_3, nd_8_4, nd_8_5, nd_8_6, nd_8_7, nd_8_8, if_true, if_false, aM_58, hC, K1_v, e106_130, e106_133, e106_137, e106_262]
    split <;> rfl
  · subst hr
    simp only [M_106, e106_0, e106_13, e106_27, e106_41, e106_59, e106_75, e106_89, e106_104, e106_118, e106_124, nd_8_0, nd_8_1, nd_8_2, nd_8_3, nd_8_4, nd_8_5, nd_8_6, nd_8_7, nd_8_8, if_true, if_false, aM_58, hC, K1_x]
    have q : e = 0 ∨ e = 1 ∨ e = 2 := by omega
    rcases q with q0 | q1 | q2
    · subst q0
      exact Eq.trans (cat_y (y := 106) (pc := 127) (E := 0) (h := 268) (n := 6) (p := 270) (by decide +kernel) (by unfold mm_hs; rw [mb_106, dL_act_268]; rfl) (Nat.le_of_ble_eq_true rfl)) (e106_270 ..)
    · subst q1
      exact Eq.trans (cat_y (y := 106) (pc := 127) (E := 1) (h := 273) (n := 6) (p := 275) (by decide +kernel) (by unfold mm_hs; rw [mb_106, dL_act_273]; rfl) (Nat.le_of_ble_eq_true rfl)) (e106_275 ..)
    · subst q2
      exact Eq.trans (cat_y (y := 106) (pc := 127) (E := 2) (h := 263) (n := 6) (p := 265) (by decide +kernel) (by unfold mm_hs; rw [mb_106, dL_act_263]; rfl) (Nat.le_of_ble_eq_true rfl)) (e106_265 ..)

theorem A_9 {p q s t : Int32} (hC : mm_M 68 (.ref 2 :: [.int p, .int q]) (CW σ tg ad c g) = some (r, τ)) : (∀ v, r = .inl (some (.int v)) → mm_M 106 [.ref 2, .int 9, .int p, .int q, .int s, .int t] (CW σ tg ad c g) = some (.inl (some (.int v)), τ)) ∧ ∀ e, e < 3 → r = .inr e → mm_M 106 [.ref 2, .int 9, .int p, .int q, .int s, .int t] (CW σ tg ad c g) = some (.inl (some (.int (cdE e))), τ) := by
  refine ⟨fun v hv => ?_, fun e he hr => ?_⟩
  · subst hv
    simp only [M_106, e106_0, e106_13, e106_27, e106_41, e106_59, e106_75, e106_89, e106_104, e106_118, e106_141, e106_147, nd_9_0, nd_9_1, nd_9_2, nd_9_3, nd_9_4, nd_9_5, nd_9_6, nd_9_7, nd_9_8, nd_9_9, if_true, if_false, aM_68, hC, K1_v, e106_153, e106_262]
  · subst hr
    simp only [M_106, e106_0, e106_13, e106_27, e106_41, e106_59, e106_75, e106_89, e106_104, e106_118, e106_141, e106_147, nd_9_0, nd_9_1, nd_9_2, nd_9_3, nd_9_4, nd_9_5, nd_9_6, nd_9_7, nd_9_8, nd_9_9, if_true, if_false, aM_68, hC, K1_x]
    have q : e = 0 ∨ e = 1 ∨ e = 2 := by omega
    rcases q with q0 | q1 | q2
    · subst q0
      exact Eq.trans (cat_y (y := 106) (pc := 150) (E := 0) (h := 268) (n := 6) (p := 270) (by decide +kernel) (by unfold mm_hs; rw [mb_106, dL_act_268]; rfl) (Nat.le_of_ble_eq_true rfl)) (e106_270 ..)
    · subst q1
      exact Eq.trans (cat_y (y := 106) (pc := 150) (E := 1) (h := 273) (n := 6) (p := 275) (by decide +kernel) (by unfold mm_hs; rw [mb_106, dL_act_273]; rfl) (Nat.le_of_ble_eq_true rfl)) (e106_275 ..)
    · subst q2
      exact Eq.trans (cat_y (y := 106) (pc := 150) (E := 2) (h := 263) (n := 6) (p := 265) (by decide +kernel) (by unfold mm_hs; rw [mb_106, dL_act_263]; rfl) (Nat.le_of_ble_eq_true rfl)) (e106_265 ..)

theorem A_10 {p q s t : Int32} (hC : mm_M 69 (.ref 2 :: [.int p, .int q]) (CW σ tg ad c g) = some (r, τ)) : (∀ v, r = .inl (some (.int v)) → mm_M 106 [.ref 2, .int 10, .int p, .int q, .int s, .int t] (CW σ tg ad c g) = some (.inl (some (.int v)), τ)) ∧ ∀ e, e < 3 → r = .inr e → mm_M 106 [.ref 2, .int 10, .int p, .int q, .int s, .int t] (CW σ tg ad c g) = some (.inl (some (.int (cdE e))), τ) := by
  refine ⟨fun v hv => ?_, fun e he hr => ?_⟩
  · subst hv
    simp only [M_106, e106_0, e106_13, e106_27, e106_41, e106_59, e106_75, e106_89, e106_104, e106_118, e106_141, e106_156, e106_162, nd_10_0, nd_10_1, nd_10_2, nd_10_3, nd_10_4, nd_10_5, nd_10_6, nd_10_7, nd_10_8, nd_10_9, nd_10_10, if_true, if_false, aM_69, hC, K1_v, e106_168, e106_262]
  · subst hr
    simp only [M_106, e106_0, e106_13, e106_27, e106_41, e106_59, e106_75, e106_89, e106_104, e106_118, e106_141, e106_156, e106_162, nd_10_0, nd_10_1, nd_10_2, nd_10_3, nd_10_4, nd_10_5, nd_10_6, nd_10_7, nd_10_8, nd_10_9, nd_10_10, if_true, if_false, aM_69, hC, K1_x]
    have q : e = 0 ∨ e = 1 ∨ e = 2 := by omega
    rcases q with q0 | q1 | q2
    · subst q0
      exact Eq.trans (cat_y (y := 106) (pc := 165) (E := 0) (h := 268) (n := 6) (p := 270) (by decide +kernel) (by unfold mm_hs; rw [mb_106, dL_act_268]; rfl) (Nat.le_of_ble_eq_true rfl)) (e106_270 ..)
    · subst q1
      exact Eq.trans (cat_y (y := 106) (pc := 165) (E := 1) (h := 273) (n := 6) (p := 275) (by decide +kernel) (by unfold mm_hs; rw [mb_106, dL_act_273]; rfl) (Nat.le_of_ble_eq_true rfl)) (e106_275 ..)
    · subst q2
      exact Eq.trans (cat_y (y := 106) (pc := 165) (E := 2) (h := 263) (n := 6) (p := 265) (by decide +kernel) (by unfold mm_hs; rw [mb_106, dL_act_263]; rfl) (Nat.le_of_ble_eq_true rfl)) (e106_265 ..)

theorem A_11 {p q s t : Int32} (hC : mm_M 70 (.ref 2 :: [.int p, .int q]) (CW σ tg ad c g) = some (r, τ)) : (∀ v, r = .inl (some (.int v)) → mm_M 106 [.ref 2, .int 11, .int p, .int q, .int s, .int t] (CW σ tg ad c g) = some (.inl (some (.int v)), τ)) ∧ ∀ e, e < 3 → r = .inr e → mm_M 106 [.ref 2, .int 11, .int p, .int q, .int s, .int t] (CW σ tg ad c g) = some (.inl (some (.int (cdE e))), τ) := by
  refine ⟨fun v hv => ?_, fun e he hr => ?_⟩
  · subst hv
    simp only [M_106, e106_0, e106_13, e106_27, e106_41, e106_59, e106_75, e106_89, e106_104, e106_118, e106_141, e106_156, e106_171, e106_177, nd_11_0, nd_11_1, nd_11_2, nd_11_3, nd_11_4, nd_11_5, nd_11_6, nd_11_7, nd_11_8, nd_11_9, nd_11_10, nd_11_11, if_true, if_false, aM_70, hC, K1_v, e106_183, e106_262]
  · subst hr
    simp only [M_106, e106_0, e106_13, e106_27, e106_41, e106_59, e106_75, e106_89, e106_104, e106_118, e106_141, e106_156, e106_171, e106_177, nd_11_0, nd_11_1, nd_11_2, nd_11_3, nd_11_4, nd_11_5, nd_11_6, nd_11_7, nd_11_8, nd_11_9, nd_11_10, nd_11_11, if_true, if_false, aM_70, hC, K1_x]
    have q : e = 0 ∨ e = 1 ∨ e = 2 := by omega
    rcases q with q0 | q1 | q2
    · subst q0
      exact Eq.trans (cat_y (y := 106) (pc := 180) (E := 0) (h := 268) (n := 6) (p := 270) (by decide +kernel) (by unfold mm_hs; rw [mb_106, dL_act_268]; rfl) (Nat.le_of_ble_eq_true rfl)) (e106_270 ..)
    · subst q1
      exact Eq.trans (cat_y (y := 106) (pc := 180) (E := 1) (h := 273) (n := 6) (p := 275) (by decide +kernel) (by unfold mm_hs; rw [mb_106, dL_act_273]; rfl) (Nat.le_of_ble_eq_true rfl)) (e106_275 ..)
    · subst q2
      exact Eq.trans (cat_y (y := 106) (pc := 180) (E := 2) (h := 263) (n := 6) (p := 265) (by decide +kernel) (by unfold mm_hs; rw [mb_106, dL_act_263]; rfl) (Nat.le_of_ble_eq_true rfl)) (e106_265 ..)

theorem A_12 {p q s t : Int32} (hC : mm_M 84 (.ref 2 :: [.int p]) (CW σ tg ad c g) = some (r, τ)) : (∀ v, r = .inl (some (.int v)) → mm_M 106 [.ref 2, .int 12, .int p, .int q, .int s, .int t] (CW σ tg ad c g) = some (.inl (some (.int v)), τ)) ∧ ∀ e, e < 3 → r = .inr e → mm_M 106 [.ref 2, .int 12, .int p, .int q, .int s, .int t] (CW σ tg ad c g) = some (.inl (some (.int (cdE e))), τ) := by
  refine ⟨fun v hv => ?_, fun e he hr => ?_⟩
  · subst hv
    simp only [M_106, e106_0, e106_13, e106_27, e106_41, e106_59, e106_75, e106_89, e106_104, e106_118, e106_141, e106_156, e106_171, e106_186, e106_192, nd_12_0, nd_12_1, nd_12_2, nd_12_3, nd_12_4, nd_12_5, nd_12_6, nd_12_7, nd_12_8, nd_12_9, nd_12_10, nd_12_11, nd_12_12, if_true, if_false, aM_84, hC, K1_v, e106_197, e106_262]
  · subst hr
    simp only [M_106, e106_0, e106_13, e106_27, e106_41, e106_59, e106_75, e106_89, e106_104, e106_118, e106_141, e106_156, e106_171, e106_186, e106_192, nd_12_0, nd_12_1, nd_12_2, nd_12_3, nd_12_4, nd_12_5, nd_12_6, nd_12_7, nd_12_8, nd_12_9, nd_12_10, nd_12_11, nd_12_12, if_true, if_false, aM_84, hC, K1_x]
    have q : e = 0 ∨ e = 1 ∨ e = 2 := by omega
    rcases q with q0 | q1 | q2
    · subst q0
      exact Eq.trans (cat_y (y := 106) (pc := 194) (E := 0) (h := 268) (n := 6) (p := 270) (by decide +kernel) (by unfold mm_hs; rw [mb_106, dL_act_268]; rfl) (Nat.le_of_ble_eq_true rfl)) (e106_270 ..)
    · subst q1
      exact Eq.trans (cat_y (y := 106) (pc := 194) (E := 1) (h := 273) (n := 6) (p := 275) (by decide +kernel) (by unfold mm_hs; rw [mb_106, dL_act_273]; rfl) (Nat.le_of_ble_eq_true rfl)) (e106_275 ..)
    · subst q2
      exact Eq.trans (cat_y (y := 106) (pc := 194) (E := 2) (h := 263) (n := 6) (p := 265) (by decide +kernel) (by unfold mm_hs; rw [mb_106, dL_act_263]; rfl) (Nat.le_of_ble_eq_true rfl)) (e106_265 ..)

theorem A_13 {p q s t : Int32} (hC : mm_M 85 (.ref 2 :: [.int p, .int q, .int s]) (CW σ tg ad c g) = some (r, τ)) : (∀ v, r = .inl (some (.int v)) → mm_M 106 [.ref 2, .int 13, .int p, .int q, .int s, .int t] (CW σ tg ad c g) = some (.inl (some (.int v)), τ)) ∧ ∀ e, e < 3 → r = .inr e → mm_M 106 [.ref 2, .int 13, .int p, .int q, .int s, .int t] (CW σ tg ad c g) = some (.inl (some (.int (cdE e))), τ) := by
  refine ⟨fun v hv => ?_, fun e he hr => ?_⟩
  · subst hv
    simp only [M_106, e106_0, e106_13, e106_27, e106_41, e106_59, e106_75, e106_89, e106_104, e106_118, e106_141, e106_156, e106_171, e106_186, e106_200, e106_206, nd_13_0, nd_13_1, nd_13_2, nd_13_3, nd_13_4, nd_13_5, nd_13_6, nd_13_7, nd_13_8, nd_13_9, nd_13_10, nd_13_11, nd_13_12, nd_13_13, if_true, if_false, aM_85, hC, K1_v, e106_214, e106_262]
  · subst hr
    simp only [M_106, e106_0, e106_13, e106_27, e106_41, e106_59, e106_75, e106_89, e106_104, e106_118, e106_141, e106_156, e106_171, e106_186, e106_200, e106_206, nd_13_0, nd_13_1, nd_13_2, nd_13_3, nd_13_4, nd_13_5, nd_13_6, nd_13_7, nd_13_8, nd_13_9, nd_13_10, nd_13_11, nd_13_12, nd_13_13, if_true, if_false, aM_85, hC, K1_x]
    have q : e = 0 ∨ e = 1 ∨ e = 2 := by omega
    rcases q with q0 | q1 | q2
    · subst q0
      exact Eq.trans (cat_y (y := 106) (pc := 211) (E := 0) (h := 268) (n := 6) (p := 270) (by decide +kernel) (by unfold mm_hs; rw [mb_106, dL_act_268]; rfl) (Nat.le_of_ble_eq_true rfl)) (e106_270 ..)
    · subst q1
      exact Eq.trans (cat_y (y := 106) (pc := 211) (E := 1) (h := 273) (n := 6) (p := 275) (by decide +kernel) (by unfold mm_hs; rw [mb_106, dL_act_273]; rfl) (Nat.le_of_ble_eq_true rfl)) (e106_275 ..)
    · subst q2
      exact Eq.trans (cat_y (y := 106) (pc := 211) (E := 2) (h := 263) (n := 6) (p := 265) (by decide +kernel) (by unfold mm_hs; rw [mb_106, dL_act_263]; rfl) (Nat.le_of_ble_eq_true rfl)) (e106_265 ..)

theorem A_14 {p q s t : Int32} (hs : (s = 1) = False) (hC : mm_M 86 (.ref 2 :: [.int p, .int q, .int 0]) (CW σ tg ad c g) = some (r, τ)) : (∀ v, r = .inl (some (.int v)) → mm_M 106 [.ref 2, .int 14, .int p, .int q, .int s, .int t] (CW σ tg ad c g) = some (.inl (some (.int v)), τ)) ∧ ∀ e, e < 3 → r = .inr e → mm_M 106 [.ref 2, .int 14, .int p, .int q, .int s, .int t] (CW σ tg ad c g) = some (.inl (some (.int (cdE e))), τ) := by
  refine ⟨fun v hv => ?_, fun e he hr => ?_⟩
  · subst hv
    simp only [M_106, e106_0, e106_13, e106_27, e106_41, e106_59, e106_75, e106_89, e106_104, e106_118, e106_141, e106_156, e106_171, e106_186, e106_200, e106_217, e106_223, e106_232, e106_236, e106_237, nd_14_0, nd_14_1, nd_14_2, nd_14_3, nd_14_4, nd_14_5, nd_14_6, nd_14_7, nd_14_8, nd_14_9, nd_14_10, nd_14_11, nd_14_12, nd_14_13, nd_14_14, hs, if_true, if_false, aM_86, hC, K1_v, e106_240, e106_262]
  · subst hr
    simp only [M_106, e106_0, e106_13, e106_27, e106_41, e106_59, e106_75, e106_89, e106_104, e106_118, e106_141, e106_156, e106_171, e106_186, e106_200, e106_217, e106_223, e106_232, e106_236, e106_237, nd_14_0, nd_14_1, nd_14_2, nd_14_3, nd_14_4, nd_14_5, nd_14_6, nd_14_7, nd_14_8, nd_14_9, nd_14_10, nd_14_11, nd_14_12, nd_14_13, nd_14_14, hs, if_true, if_false, aM_86, hC, K1_x]
    have q : e = 0 ∨ e = 1 ∨ e = 2 := by omega
    rcases q with q0 | q1 | q2
    · subst q0
      exact Eq.trans (cat_y (y := 106) (pc := 237) (E := 0) (h := 268) (n := 6) (p := 270) (by decide +kernel) (by unfold mm_hs; rw [mb_106, dL_act_268]; rfl) (Nat.le_of_ble_eq_true rfl)) (e106_270 ..)
    · subst q1
      exact Eq.trans (cat_y (y := 106) (pc := 237) (E := 1) (h := 273) (n := 6) (p := 275) (by decide +kernel) (by unfold mm_hs; rw [mb_106, dL_act_273]; rfl) (Nat.le_of_ble_eq_true rfl)) (e106_275 ..)
    · subst q2
      exact Eq.trans (cat_y (y := 106) (pc := 237) (E := 2) (h := 263) (n := 6) (p := 265) (by decide +kernel) (by unfold mm_hs; rw [mb_106, dL_act_263]; rfl) (Nat.le_of_ble_eq_true rfl)) (e106_265 ..)

theorem A_15 {p q s t : Int32} (hC : mm_M 87 (.ref 2 :: [.int p]) (CW σ tg ad c g) = some (r, τ)) : (∀ v, r = .inl (some (.int v)) → mm_M 106 [.ref 2, .int 15, .int p, .int q, .int s, .int t] (CW σ tg ad c g) = some (.inl (some (.int v)), τ)) ∧ ∀ e, e < 3 → r = .inr e → mm_M 106 [.ref 2, .int 15, .int p, .int q, .int s, .int t] (CW σ tg ad c g) = some (.inl (some (.int (cdE e))), τ) := by
  refine ⟨fun v hv => ?_, fun e he hr => ?_⟩
  · subst hv
    simp only [M_106, e106_0, e106_13, e106_27, e106_41, e106_59, e106_75, e106_89, e106_104, e106_118, e106_141, e106_156, e106_171, e106_186, e106_200, e106_217, e106_243, e106_249, nd_15_0, nd_15_1, nd_15_2, nd_15_3, nd_15_4, nd_15_5, nd_15_6, nd_15_7, nd_15_8, nd_15_9, nd_15_10, nd_15_11, nd_15_12, nd_15_13, nd_15_14, nd_15_15, if_true, if_false, aM_87, hC, K1_v, e106_254, e106_262]
  · subst hr
    simp only [M_106, e106_0, e106_13, e106_27, e106_41, e106_59, e106_75, e106_89, e106_104, e106_118, e106_141, e106_156, e106_171, e106_186, e106_200, e106_217, e106_243, e106_249, nd_15_0, nd_15_1, nd_15_2, nd_15_3, nd_15_4, nd_15_5, nd_15_6, nd_15_7, nd_15_8, nd_15_9, nd_15_10, nd_15_11, nd_15_12, nd_15_13, nd_15_14, nd_15_15, if_true, if_false, aM_87, hC, K1_x]
    have q : e = 0 ∨ e = 1 ∨ e = 2 := by omega
    rcases q with q0 | q1 | q2
    · subst q0
      exact Eq.trans (cat_y (y := 106) (pc := 251) (E := 0) (h := 268) (n := 6) (p := 270) (by decide +kernel) (by unfold mm_hs; rw [mb_106, dL_act_268]; rfl) (Nat.le_of_ble_eq_true rfl)) (e106_270 ..)
    · subst q1
      exact Eq.trans (cat_y (y := 106) (pc := 251) (E := 1) (h := 273) (n := 6) (p := 275) (by decide +kernel) (by unfold mm_hs; rw [mb_106, dL_act_273]; rfl) (Nat.le_of_ble_eq_true rfl)) (e106_275 ..)
    · subst q2
      exact Eq.trans (cat_y (y := 106) (pc := 251) (E := 2) (h := 263) (n := 6) (p := 265) (by decide +kernel) (by unfold mm_hs; rw [mb_106, dL_act_263]; rfl) (Nat.le_of_ble_eq_true rfl)) (e106_265 ..)

theorem A_16 {p q s t : Int32} (hC : mm_M 88 (.ref 2 :: [.int p]) (CW σ tg ad c g) = some (r, τ)) : (∀ v, r = .inl (some (.int v)) → mm_M 106 [.ref 2, .int 16, .int p, .int q, .int s, .int t] (CW σ tg ad c g) = some (.inl (some (.int v)), τ)) ∧ ∀ e, e < 3 → r = .inr e → mm_M 106 [.ref 2, .int 16, .int p, .int q, .int s, .int t] (CW σ tg ad c g) = some (.inl (some (.int (cdE e))), τ) := by
  refine ⟨fun v hv => ?_, fun e he hr => ?_⟩
  · subst hv
    simp only [M_106, e106_0, e106_13, e106_27, e106_41, e106_59, e106_75, e106_89, e106_104, e106_118, e106_141, e106_156, e106_171, e106_186, e106_200, e106_217, e106_243, e106_257, nd_16_0, nd_16_1, nd_16_2, nd_16_3, nd_16_4, nd_16_5, nd_16_6, nd_16_7, nd_16_8, nd_16_9, nd_16_10, nd_16_11, nd_16_12, nd_16_13, nd_16_14, nd_16_15, if_true, if_false, aM_88, hC, K1_v, e106_262]
  · subst hr
    simp only [M_106, e106_0, e106_13, e106_27, e106_41, e106_59, e106_75, e106_89, e106_104, e106_118, e106_141, e106_156, e106_171, e106_186, e106_200, e106_217, e106_243, e106_257, nd_16_0, nd_16_1, nd_16_2, nd_16_3, nd_16_4, nd_16_5, nd_16_6, nd_16_7, nd_16_8, nd_16_9, nd_16_10, nd_16_11, nd_16_12, nd_16_13, nd_16_14, nd_16_15, if_true, if_false, aM_88, hC, K1_x]
    have q : e = 0 ∨ e = 1 ∨ e = 2 := by omega
    rcases q with q0 | q1 | q2
    · subst q0
      exact Eq.trans (cat_y (y := 106) (pc := 259) (E := 0) (h := 268) (n := 6) (p := 270) (by decide +kernel) (by unfold mm_hs; rw [mb_106, dL_act_268]; rfl) (Nat.le_of_ble_eq_true rfl)) (e106_270 ..)
    · subst q1
      exact Eq.trans (cat_y (y := 106) (pc := 259) (E := 1) (h := 273) (n := 6) (p := 275) (by decide +kernel) (by unfold mm_hs; rw [mb_106, dL_act_273]; rfl) (Nat.le_of_ble_eq_true rfl)) (e106_275 ..)
    · subst q2
      exact Eq.trans (cat_y (y := 106) (pc := 259) (E := 2) (h := 263) (n := 6) (p := 265) (by decide +kernel) (by unfold mm_hs; rw [mb_106, dL_act_263]; rfl) (Nat.le_of_ble_eq_true rfl)) (e106_265 ..)

theorem A_107 {p q s t u x z : Int32} (hC : mm_M 24 (.ref 2 :: [.int p, .int q, .int s, .int t, .int u, .int x, .int z]) (CW σ tg ad c g) = some (r, τ)) : (∀ v, r = .inl (some (.int v)) → mm_M 107 [.ref 2, .int p, .int q, .int s, .int t, .int u, .int x, .int z] (CW σ tg ad c g) = some (.inl (some (.int v)), τ)) ∧ ∀ e, e < 3 → e ≠ 2 → r = .inr e → mm_M 107 [.ref 2, .int p, .int q, .int s, .int t, .int u, .int x, .int z] (CW σ tg ad c g) = some (.inl (some (.int (cdE e))), τ) := by
  refine ⟨fun v hv => ?_, fun e he hne hr => ?_⟩
  · subst hv
    simp only [M_107, e107_0, aM_24, hC, K1_v, e107_15]
  · subst hr
    simp only [M_107, e107_0, aM_24, hC, K1_x]
    have q : e = 0 ∨ e = 1 := by omega
    rcases q with q0 | q1
    · subst q0
      exact Eq.trans (cat_y (y := 107) (pc := 12) (E := 0) (h := 16) (n := 8) (p := 18) (by decide +kernel) (by unfold mm_hs; rw [mb_107, dL_sign_16]; rfl) (Nat.le_of_ble_eq_true rfl)) (e107_18 ..)
    · subst q1
      exact Eq.trans (cat_y (y := 107) (pc := 12) (E := 1) (h := 21) (n := 8) (p := 23) (by decide +kernel) (by unfold mm_hs; rw [mb_107, dL_sign_21]; rfl) (Nat.le_of_ble_eq_true rfl)) (e107_23 ..)

theorem A_108 {p q s t u x : Int32} (hC : mm_M 89 (.ref 2 :: [.int p, .int q, .int s, .int t, .int u, .int x]) (CW σ tg ad c g) = some (r, τ)) : (∀ v, r = .inl (some (.int v)) → mm_M 108 [.ref 2, .int p, .int q, .int s, .int t, .int u, .int x] (CW σ tg ad c g) = some (.inl (some (.int v)), τ)) ∧ ∀ e, e < 3 → True → r = .inr e → mm_M 108 [.ref 2, .int p, .int q, .int s, .int t, .int u, .int x] (CW σ tg ad c g) = some (.inl (some (.int (cdE e))), τ) := by
  refine ⟨fun v hv => ?_, fun e he hne hr => ?_⟩
  · subst hv
    simp only [M_108, e108_0, aM_89, hC, K1_v, e108_13]
  · subst hr
    simp only [M_108, e108_0, aM_89, hC, K1_x]
    have q : e = 0 ∨ e = 1 ∨ e = 2 := by omega
    rcases q with q0 | q1 | q2
    · subst q0
      exact Eq.trans (cat_y (y := 108) (pc := 10) (E := 0) (h := 19) (n := 7) (p := 21) (by decide +kernel) (by unfold mm_hs; rw [mb_108, dL_mark_19]; rfl) (Nat.le_of_ble_eq_true rfl)) (e108_21 ..)
    · subst q1
      exact Eq.trans (cat_y (y := 108) (pc := 10) (E := 1) (h := 24) (n := 7) (p := 26) (by decide +kernel) (by unfold mm_hs; rw [mb_108, dL_mark_24]; rfl) (Nat.le_of_ble_eq_true rfl)) (e108_26 ..)
    · subst q2
      exact Eq.trans (cat_y (y := 108) (pc := 10) (E := 2) (h := 14) (n := 7) (p := 16) (by decide +kernel) (by unfold mm_hs; rw [mb_108, dL_mark_14]; rfl) (Nat.le_of_ble_eq_true rfl)) (e108_16 ..)

theorem A_109 {p q s t u : Int32} (hC : mm_M 90 (.ref 2 :: [.int p, .int q, .int s, .int t, .int u]) (CW σ tg ad c g) = some (r, τ)) : (∀ v, r = .inl (some (.int v)) → mm_M 109 [.ref 2, .int p, .int q, .int s, .int t, .int u] (CW σ tg ad c g) = some (.inl (some (.int v)), τ)) ∧ ∀ e, e < 3 → e ≠ 1 → r = .inr e → mm_M 109 [.ref 2, .int p, .int q, .int s, .int t, .int u] (CW σ tg ad c g) = some (.inl (some (.int (cdE e))), τ) := by
  refine ⟨fun v hv => ?_, fun e he hne hr => ?_⟩
  · subst hv
    simp only [M_109, e109_0, aM_90, hC, K1_v, e109_11]
  · subst hr
    simp only [M_109, e109_0, aM_90, hC, K1_x]
    have q : e = 0 ∨ e = 2 := by omega
    rcases q with q0 | q2
    · subst q0
      exact Eq.trans (cat_y (y := 109) (pc := 8) (E := 0) (h := 17) (n := 6) (p := 19) (by decide +kernel) (by unfold mm_hs; rw [mb_109, dL_agree_17]; rfl) (Nat.le_of_ble_eq_true rfl)) (e109_19 ..)
    · subst q2
      exact Eq.trans (cat_y (y := 109) (pc := 8) (E := 2) (h := 12) (n := 6) (p := 14) (by decide +kernel) (by unfold mm_hs; rw [mb_109, dL_agree_12]; rfl) (Nat.le_of_ble_eq_true rfl)) (e109_14 ..)

end
