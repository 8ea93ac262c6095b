/-! LEVEL 2: the class signs all items -/
section
variable {σ : mm_S} {tg : Nat → Nat × Nat} {ad : Nat × Nat → Nat} {c : Nat → Nat} {g : Nat → Nat → Int32} {n : Nat}
theorem CO_uf35 {i j k' i' : Nat} {x : Int32} (hj : j < 3) (h : ¬ (k' = 2 ∧ i' = i)) : CO ad c (uf g 35 (3 * i + j) x) k' i' = CO ad c g k' i' := by
  match k' with
  | 2 =>
    have hi : i' ≠ i := fun z => h ⟨rfl, z⟩
    show Sum.inl (2, _) = Sum.inl (2, _)
    rw [uf_o (by omega), uf_o (by omega), uf_o (by omega), uf_n (show 13 ≠ 35 by decide), uf_n (show 14 ≠ 35 by decide), uf_n (show 15 ≠ 35 by decide)]
  | 0 => rfl
  | 1 => rfl
  | 3 => rfl
  | 4 => rfl
  | 5 => rfl
  | 6 => rfl
  | 7 => rfl
  | 8 => rfl
  | 9 => rfl
  | k + 10 => rfl
theorem cw_2 (w : WF tg ad c n) {i j : Nat} {x : Int32} (hi : i < c 1) (hj : j < 3) : mm_setf (CW σ tg ad c g) (ad (2, i)) 2 (5 + j) (.int x) = some (CW σ tg ad c (uf g 35 (3 * i + j) x)) := by
  obtain ⟨L2, L3, L4⟩ := w.i hi
  unfold mm_setf
  rw [CW_tg L2 (by decide)]
  show (if 2 = 2 ∧ 5 + j < 8 then some (mm_put (CW σ tg ad c g) (ad (2, i)) (Sum.inl (2, List.set _ (5 + j) (.int x)))) else none) = _
  rw [if_pos ⟨rfl, by omega⟩]
  refine congrArg some (CW_put w.2.IN L2 (by decide) ?_ ⟨rfl, rfl, rfl, rfl, rfl⟩ (fun k' i' h => CO_uf35 hj h) (uf_n (by decide)) (uf_n (by decide)) (uf_n (by decide)))
  show Sum.inl (2, _) = Sum.inl (2, _)
  rw [uf_n (show 13 ≠ 35 by decide), uf_n (show 14 ≠ 35 by decide), uf_n (show 15 ≠ 35 by decide), uf_s]
  have e : j = 0 ∨ j = 1 ∨ j = 2 := by omega
  rcases e with e | e | e <;> subst e <;> simp [upd]
theorem cw_25 (w : WF tg ad c n) {i : Nat} {x : Int32} (hi : i < c 1) : mm_setf (CW σ tg ad c g) (ad (2, i)) 2 5 (.int x) = some (CW σ tg ad c (uf g 35 (3 * i + 0) x)) := cw_2 (j := 0) w hi (by decide)
theorem cw_26 (w : WF tg ad c n) {i : Nat} {x : Int32} (hi : i < c 1) : mm_setf (CW σ tg ad c g) (ad (2, i)) 2 6 (.int x) = some (CW σ tg ad c (uf g 35 (3 * i + 1) x)) := cw_2 (j := 1) w hi (by decide)
theorem cw_27 (w : WF tg ad c n) {i : Nat} {x : Int32} (hi : i < c 1) : mm_setf (CW σ tg ad c g) (ad (2, i)) 2 7 (.int x) = some (CW σ tg ad c (uf g 35 (3 * i + 2) x)) := cw_2 (j := 2) w hi (by decide)
/-- passing ticks ahead of item k -/
def tpk (r : Nat → Int32) : Nat → Int32
  | 0 => 0
  | k + 1 => tp (h7 r k) (h7 r (k + 1))
def sgs (k : Nat) (x : Int32 × (Nat → Nat → Int32)) : Int32 × (Nat → Nat → Int32) :=
  (x.1 + tpk (x.2 33) k + ti (h7 (x.2 33) k), uf (uf (uf x.2 35 (3 * k + 0) x.1) 35 (3 * k + 1) (x.1 + tpk (x.2 33) k)) 35 (3 * k + 2) (x.1 + tpk (x.2 33) k + ti (h7 (x.2 33) k)))
theorem u35 (g : Nat → Nat → Int32) (i : Nat) (x : Int32) : uf g 35 i x 33 = g 33 := uf_n (by decide)
theorem l_71 (w : WF tg ad c n) : ∀ m k (t : Int32) (g : Nat → Nat → Int32) (l3 : Value), k + m = c 1 → mm_L 71 8 [.ref 2, .int t, .int (nI k), l3] [] (CW σ tg ad c g) = some (.inl none, CW σ tg ad c (up sgs m k (t, g)).2)
  | 0, k, t, g, l3, h => by
    have hc := w.1.2.1
    have q := eq_true (nI_le (a := c 1) (b := k) (by omega) (by omega))
    rw [e71_8]
    simp only [cf_1, cz_4, q, e71_13, e71_16, e71_96, K0_v, K0_n, K0_x, K2_v, K2_n, K1_v, K1_n, K1_x, bI_s, bJ_s, bV_s, bS_s, l_10, l_00, bz_01, bz_0, bz_1, em_n, if_true, if_false, ite_not, ite_true, ite_false, not_true_eq_false, not_false_eq_true, or_true, true_or, up]
  | m + 1, k, t, g, l3, h => by
    have hc := w.1.2.1
    have hk : k < c 1 := by omega
    obtain ⟨L2, L3, L4⟩ := w.i hk
    have q := eq_false (nI_ge (a := k) (b := c 1) hk (by omega))
    have ih := fun t' g' l => l_71 w m (k + 1) t' g' l (by omega)
    have c67 := fun g => c_67 (σ := σ) (g := g) w (Nat.le_of_lt hk)
    rw [e71_8]
    cases k with
    | zero =>
      have c67' := fun g => (c67 g).trans (by rw [if_neg (by omega)])
      have z : t + tpk (g 33) 0 = t := Int32.add_zero t
      simp only [cf_1, cz_4, q, e71_13, e71_16, e71_19, e71_23, e71_27, e71_30, e71_36, e71_41, e71_44, e71_49, e71_55, e71_58, e71_61, e71_65, e71_68, e71_70, e71_75, e71_80, e71_83, e71_90, cg_4 hk (by omega), ck_2 L2, cw_25 w hk, cw_26 w hk, cw_27 w hk, aM_67, c67', cr_2_4 L2, c_73 (Hd_4 L4), u35, ih, nI_1, K0_v, K0_n, K0_x, K2_v, K2_n, K1_v, K1_n, K1_x, bI_s, bJ_s, bV_s, bS_s, l_10, l_00, bz_01, bz_0, bz_1, em_n, if_true, if_false, ite_not, ite_true, ite_false, not_true_eq_false, not_false_eq_true, or_true, true_or]
      show _ = some (Sum.inl none, CW σ tg ad c (up sgs m 1 (sgs 0 (t, g))).2)
      unfold sgs
      simp only [z]
    | succ j =>
      have c67' := fun g => (c67 g).trans (by rw [if_pos (by omega)])
      have hj : j < c 1 := by omega
      obtain ⟨M2, M3, M4⟩ := w.i hj
      have e : nI (j + 1) - 1 = nI j := pm_s j
      simp only [cf_1, cz_4, q, e71_13, e71_16, e71_19, e71_23, e71_27, e71_30, e71_36, e71_41, e71_44, e71_49, e71_55, e71_58, e71_61, e71_65, e71_68, e71_70, e71_75, e71_80, e71_83, e71_90, cg_4 hk (by omega), cg_4 hj (by omega), ck_2 L2, ck_2 M2, cw_25 w hk, cw_26 w hk, cw_27 w hk, aM_67, c67', one_ne, e, cr_2_4 L2, cr_2_4 M2, c_72 (Hd_4 M4) (Hd_4 L4), c_73 (Hd_4 L4), u35, ih, nI_1, K0_v, K0_n, K0_x, K2_v, K2_n, K1_v, K1_n, K1_x, bI_s, bJ_s, bV_s, bS_s, l_10, l_00, bz_01, bz_0, bz_1, em_n, if_true, if_false, ite_not, ite_true, ite_false, not_true_eq_false, not_false_eq_true, or_true, true_or]
      rfl
end
