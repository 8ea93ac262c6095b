/-! JOINT: the steps of the law -/
theorem SB_MW' {σ σ' : mm_S} {v : Nat → Int32} {f : Nat → Nat → Int32} (h : ∀ a, 11 ≤ a → a ≤ 33 → σ'.1 a = (MW σ v f).1 a) : σ' = MW σ' v f := by
  refine Prod.ext (funext fun a => ?_) rfl
  by_cases e : a = 11
  · subst e
    rw [h 11 (by decide) (by decide)]
    rfl
  · by_cases e2 : 12 ≤ a ∧ a ≤ 33
    · rw [h a (by omega) (by omega), MW_at e2, MW_at e2]
    · rw [MW_out (by omega)]
/-- the world of both -/
def JW (σ : mm_S) (tg : Nat → Nat × Nat) (ad : Nat × Nat → Nat) (c : Nat → Nat) (g : Nat → Nat → Int32) (d : Nat → Nat) (t : Nat) (f : Nat → Nat → Int32) : mm_S := MW (CW σ tg ad c g) (vN (u2 d 5 t)) f
/-- what holds between calls -/
def JI (σ : mm_S) (tg : Nat → Nat × Nat) (ad : Nat × Nat → Nat) (c : Nat → Nat) (g f : Nat → Nat → Int32) (L : Nat) (s : Nat → Int32) (K1 K2 : Nat) : Prop :=
  WF tg ad c σ.2.1 ∧ RLA c g f ∧ LO σ ∧ (∃ o, OUT σ o) ∧ σ.1 0 = some (.inr (.inl (2, L, s))) ∧ σ.2.2.1 ≤ K1 ∧ σ.2.2.2 ≤ K2
section
variable {σ : mm_S} {tg : Nat → Nat × Nat} {ad : Nat × Nat → Nat} {c d : Nat → Nat} {g f : Nat → Nat → Int32} {L K1 K2 t n : Nat} {s : Nat → Int32}
theorem JW_out (w : WF tg ad c n) {a : Nat} (h : a < 2 ∨ a = 34) : (JW σ tg ad c g d t f).1 a = σ.1 a := by
  unfold JW
  rw [MW_out (by omega), CW_mid (by omega) (w.2.no (Or.inl (by omega)))]
theorem JW_get (w : WF tg ad c n) (h : σ.1 0 = some (.inr (.inl (2, L, s)))) (hL : L ≤ 4096) {j : Nat} (hj : j < L) : mm_ald (JW σ tg ad c g d t f) 0 (nI j) false = some (s j) := by
  unfold mm_ald mm_arr
  rw [JW_out w (Or.inl (by decide)), h]
  show (if nI j < 0 ∨ L ≤ (nI j).toNatClampNeg then none else _) = _
  rw [nI_clamp (by omega), if_neg (fun q => q.elim (nI_pos (by omega)) (by omega))]
  rfl
theorem JW_len (w : WF tg ad c n) (h : σ.1 0 = some (.inr (.inl (2, L, s)))) : mm_len (JW σ tg ad c g d t f) 0 = some L := by
  unfold mm_len
  rw [JW_out w (Or.inl (by decide)), h]
theorem JW_lar (w : WF tg ad c n) {o : Nat → Int64} (h : OUT σ o) : mm_lar_i (JW σ tg ad c g d t f) 34 0 = some (o 0) := by
  unfold mm_lar_i mm_lar
  rw [JW_out w (Or.inr rfl), h]
  rfl
theorem lg_self (x : Int64) : lg_cmp x x = 0 := by
  unfold lg_cmp
  simp
theorem step {cd : Nat → Nat} {y z wy : Nat} {As wA : List Value} {ov : Int32 → Int64} (hI : JI σ tg ad c g f L s K1 K2) (hJ : JS cd y z As c g f)
    (hW : ∀ (σ0 σ' : mm_S) tg' ad' c' g' r o n, mm_M y (.ref 2 :: As) (CW σ0 tg ad c g) = some (r, CW σ' tg' ad' c' g') → OUT σ' o → WF tg' ad' c' n → (∀ v, r = .inl (some (.int v)) → mm_M wy wA (CW σ0 tg ad c g) = some (.inl (some (.int 0)), CW (mm_put σ' 34 (.inr (.inr (.inl (1, vp_updL o 0 (ov v)))))) tg' ad' c' g')) ∧ ∀ e, r = .inr e → cd e ≠ 0 → mm_M wy wA (CW σ0 tg ad c g) = some (.inl (some (.int (nI (cd e)))), CW σ' tg' ad' c' g')) :
    ∃ σ' tg' ad' c' g' f' t' v o, mm_M wy wA (JW σ tg ad c g c t f) = some (.inl (some (.int (nI t'))), JW σ' tg' ad' c' g' c t f) ∧ mm_M z (.ref 11 :: As) (JW σ' tg' ad' c' g' c t f) = some (.inl (some (.int v)), JW σ' tg' ad' c' g' c' t' f') ∧ OUT σ' o ∧ (t' = 0 → o 0 = ov v) ∧ t' < 4 ∧ JI σ' tg' ad' c' g' f' L s (K1 + 8) (K2 + 400) := by
  obtain ⟨w, hr, hl, ⟨o, ho⟩, h0, k1, k2⟩ := hI
  have hsw : JW σ tg ad c g c t f = CW (MW σ (vN (u2 c 5 t)) f) tg ad c g := swap w
  have hl' : LO (MW σ (vN (u2 c 5 t)) f) := by
    unfold LO at *
    rw [MW_out (by decide)]
    exact hl
  obtain ⟨r, c', g', v, t', f', ⟨σ1, tg', ad', e1, wf, sb, b1, b2⟩, ro, hr', hok⟩ := hJ (MW σ (vN (u2 c 5 t)) f) tg ad w hl'
  have ho1 : OUT σ1 o := by
    unfold OUT at *
    rw [sb 34 (by decide) (by decide), MW_out (by decide)]
    exact ho
  have hl1 : LO σ1 := by
    unfold LO at *
    rw [sb 1 (by decide) (by decide)]
    exact hl'
  have h01 : σ1.1 0 = some (.inr (.inl (2, L, s))) := by
    rw [sb 0 (by decide) (by decide), MW_out (by decide)]
    exact h0
  obtain ⟨wv, we⟩ := hW _ σ1 tg' ad' c' g' r o _ e1 ho1 wf
  rcases hok with ⟨hv, ht⟩ | ⟨e, he, ht, ht0, ht4⟩
  · have e2 := wv v hv
    have es : mm_put σ1 34 (.inr (.inr (.inl (1, vp_updL o 0 (ov v))))) = MW (mm_put σ1 34 (.inr (.inr (.inl (1, vp_updL o 0 (ov v)))))) (vN (u2 c 5 t)) f := SB_MW' (σ := σ) fun a a1 a2 => (if_neg (show a ≠ 34 by omega)).trans (sb a (by omega) (by omega))
    have wf2 : WF tg' ad' c' (mm_put σ1 34 (.inr (.inr (.inl (1, vp_updL o 0 (ov v)))))).2.1 := wf
    have hO : OUT (mm_put σ1 34 (.inr (.inr (.inl (1, vp_updL o 0 (ov v)))))) (vp_updL o 0 (ov v)) := rfl
    refine ⟨mm_put σ1 34 (.inr (.inr (.inl (1, vp_updL o 0 (ov v))))), tg', ad', c', g', f', t', v, vp_updL o 0 (ov v), ?_, ro _ t, hO, fun _ => if_pos rfl, by omega, wf, hr', ?_, ⟨_, hO⟩, ?_, ?_, ?_⟩
    · rw [hsw, e2, ht, es, ← swap wf2, ← es]
      rfl
    · unfold LO at *
      exact hl1
    · exact h01
    · exact Nat.le_trans b1 (Nat.add_le_add_right k1 8)
    · exact Nat.le_trans b2 (Nat.add_le_add_right k2 400)
  · have e2 := we e he (ht ▸ ht0)
    have es : σ1 = MW σ1 (vN (u2 c 5 t)) f := SB_MW sb
    refine ⟨σ1, tg', ad', c', g', f', t', v, o, ?_, ro _ t, ho1, fun z => absurd z ht0, ht4, wf, hr', hl1, ⟨o, ho1⟩, h01, Nat.le_trans b1 (Nat.add_le_add_right k1 8), Nat.le_trans b2 (Nat.add_le_add_right k2 400)⟩
    rw [hsw, e2, ← ht]
    have e3 : CW σ1 tg' ad' c' g' = JW σ1 tg' ad' c' g' c t f := by
      unfold JW
      rw [swap wf, ← es]
    rw [e3]
theorem JW_107 : mm_Mo 107 11 [] (JW σ tg ad c g d t f) = some (.inl (some (.int (nI t))), JW σ tg ad c g d t f) := by
  unfold JW
  rw [Mo_107, c_107, u5_5]
theorem JM_116 {As : List Value} : mm_Mo 116 11 As (JW σ tg ad c g d t f) = mm_M 116 (.ref 11 :: As) (JW σ tg ad c g d t f) := Mo_116
theorem JM_118 {As : List Value} : mm_Mo 118 11 As (JW σ tg ad c g d t f) = mm_M 118 (.ref 11 :: As) (JW σ tg ad c g d t f) := Mo_118
theorem JM_121 {As : List Value} : mm_Mo 121 11 As (JW σ tg ad c g d t f) = mm_M 121 (.ref 11 :: As) (JW σ tg ad c g d t f) := Mo_121
theorem JM_122 {As : List Value} : mm_Mo 122 11 As (JW σ tg ad c g d t f) = mm_M 122 (.ref 11 :: As) (JW σ tg ad c g d t f) := Mo_122
theorem JM_125 {As : List Value} : mm_Mo 125 11 As (JW σ tg ad c g d t f) = mm_M 125 (.ref 11 :: As) (JW σ tg ad c g d t f) := Mo_125
theorem JM_128 {As : List Value} : mm_Mo 128 11 As (JW σ tg ad c g d t f) = mm_M 128 (.ref 11 :: As) (JW σ tg ad c g d t f) := Mo_128
theorem JM_132 {As : List Value} : mm_Mo 132 11 As (JW σ tg ad c g d t f) = mm_M 132 (.ref 11 :: As) (JW σ tg ad c g d t f) := Mo_132
theorem JM_133 {As : List Value} : mm_Mo 133 11 As (JW σ tg ad c g d t f) = mm_M 133 (.ref 11 :: As) (JW σ tg ad c g d t f) := Mo_133
theorem JM_134 {As : List Value} : mm_Mo 134 11 As (JW σ tg ad c g d t f) = mm_M 134 (.ref 11 :: As) (JW σ tg ad c g d t f) := Mo_134
theorem JM_135 {As : List Value} : mm_Mo 135 11 As (JW σ tg ad c g d t f) = mm_M 135 (.ref 11 :: As) (JW σ tg ad c g d t f) := Mo_135
theorem JM_148 {As : List Value} : mm_Mo 148 11 As (JW σ tg ad c g d t f) = mm_M 148 (.ref 11 :: As) (JW σ tg ad c g d t f) := Mo_148
theorem JM_150 {As : List Value} : mm_Mo 150 11 As (JW σ tg ad c g d t f) = mm_M 150 (.ref 11 :: As) (JW σ tg ad c g d t f) := Mo_150
theorem JM_153 {As : List Value} : mm_Mo 153 11 As (JW σ tg ad c g d t f) = mm_M 153 (.ref 11 :: As) (JW σ tg ad c g d t f) := Mo_153
theorem JM_157 {As : List Value} : mm_Mo 157 11 As (JW σ tg ad c g d t f) = mm_M 157 (.ref 11 :: As) (JW σ tg ad c g d t f) := Mo_157
theorem JM_158 {As : List Value} : mm_Mo 158 11 As (JW σ tg ad c g d t f) = mm_M 158 (.ref 11 :: As) (JW σ tg ad c g d t f) := Mo_158
theorem JM_160 {As : List Value} : mm_Mo 160 11 As (JW σ tg ad c g d t f) = mm_M 160 (.ref 11 :: As) (JW σ tg ad c g d t f) := Mo_160
theorem JM_161 {As : List Value} : mm_Mo 161 11 As (JW σ tg ad c g d t f) = mm_M 161 (.ref 11 :: As) (JW σ tg ad c g d t f) := Mo_161
theorem JM_162 {As : List Value} : mm_Mo 162 11 As (JW σ tg ad c g d t f) = mm_M 162 (.ref 11 :: As) (JW σ tg ad c g d t f) := Mo_162
theorem JM_165 {As : List Value} : mm_Mo 165 11 As (JW σ tg ad c g d t f) = mm_M 165 (.ref 11 :: As) (JW σ tg ad c g d t f) := Mo_165
theorem JM_166 {As : List Value} : mm_Mo 166 11 As (JW σ tg ad c g d t f) = mm_M 166 (.ref 11 :: As) (JW σ tg ad c g d t f) := Mo_166
theorem np_1 (i : Nat) : nI i + 1 = nI (i + 1) := nI_add i 1
theorem np_2 (i : Nat) : nI i + 2 = nI (i + 2) := nI_add i 2
theorem np_3 (i : Nat) : nI i + 3 = nI (i + 3) := nI_add i 3
theorem np_4 (i : Nat) : nI i + 4 = nI (i + 4) := nI_add i 4
theorem np_5 (i : Nat) : nI i + 5 = nI (i + 5) := nI_add i 5
theorem np_6 (i : Nat) : nI i + 6 = nI (i + 6) := nI_add i 6
theorem np_7 (i : Nat) : nI i + 7 = nI (i + 7) := nI_add i 7
theorem np_8 (i : Nat) : nI i + 8 = nI (i + 8) := nI_add i 8
/-- what a case of the law does -/
def BO (L : Nat) (s : Nat → Int32) (pc i : Nat) : Prop := ∀ (σ : mm_S) tg ad c g f t K1 K2 (l5 l6 : Value), JI σ tg ad c g f L s K1 K2 → ∃ σ' tg' ad' c' g' f' t' l5' l6', mm_L 187 pc [.ref 0, .ref 2, .ref 11, .ref 34, .int (nI i), l5, l6] [] (JW σ tg ad c g c t f) = mm_L 187 1698 [.ref 0, .ref 2, .ref 11, .ref 34, .int (nI i), l5', l6'] [] (JW σ' tg' ad' c' g' c' t' f') ∧ JI σ' tg' ad' c' g' f' L s (K1 + 8) (K2 + 400)
theorem b_0 {i : Nat} (hL : L ≤ 4096) (hi : i + 8 ≤ L) : BO L s 140 i := by
  intro σ tg ad c g f t K1 K2 l5 l6 hI
  obtain ⟨σ', tg', ad', c', g', f', t', v, o, e1, e2, ho, hv, ht, hI'⟩ := step (t := t) (wy := 167) (ov := Int32.toInt64) hI (J_sign hI.1.1 hI.2.1 (s (i + 1)) (s (i + 2)) (s (i + 3)) (s (i + 4)) (s (i + 5)) (s (i + 6)) (s (i + 7))) (fun σ0 σ' tg' ad' c' g' r o n a1 a2 a3 => w_167 a1 a2 a3)
  have A1 := JW_get (σ := σ) (g := g) (d := c) (t := t) (f := f) hI.1 hI.2.2.2.2.1 hL (show i + 1 < L by omega)
  have B1 := JW_get (σ := σ') (g := g') (d := c) (t := t) (f := f) hI'.1 hI'.2.2.2.2.1 hL (show i + 1 < L by omega)
  have A2 := JW_get (σ := σ) (g := g) (d := c) (t := t) (f := f) hI.1 hI.2.2.2.2.1 hL (show i + 2 < L by omega)
  have B2 := JW_get (σ := σ') (g := g') (d := c) (t := t) (f := f) hI'.1 hI'.2.2.2.2.1 hL (show i + 2 < L by omega)
  have A3 := JW_get (σ := σ) (g := g) (d := c) (t := t) (f := f) hI.1 hI.2.2.2.2.1 hL (show i + 3 < L by omega)
  have B3 := JW_get (σ := σ') (g := g') (d := c) (t := t) (f := f) hI'.1 hI'.2.2.2.2.1 hL (show i + 3 < L by omega)
  have A4 := JW_get (σ := σ) (g := g) (d := c) (t := t) (f := f) hI.1 hI.2.2.2.2.1 hL (show i + 4 < L by omega)
  have B4 := JW_get (σ := σ') (g := g') (d := c) (t := t) (f := f) hI'.1 hI'.2.2.2.2.1 hL (show i + 4 < L by omega)
  have A5 := JW_get (σ := σ) (g := g) (d := c) (t := t) (f := f) hI.1 hI.2.2.2.2.1 hL (show i + 5 < L by omega)
  have B5 := JW_get (σ := σ') (g := g') (d := c) (t := t) (f := f) hI'.1 hI'.2.2.2.2.1 hL (show i + 5 < L by omega)
  have A6 := JW_get (σ := σ) (g := g) (d := c) (t := t) (f := f) hI.1 hI.2.2.2.2.1 hL (show i + 6 < L by omega)
  have B6 := JW_get (σ := σ') (g := g') (d := c) (t := t) (f := f) hI'.1 hI'.2.2.2.2.1 hL (show i + 6 < L by omega)
  have A7 := JW_get (σ := σ) (g := g) (d := c) (t := t) (f := f) hI.1 hI.2.2.2.2.1 hL (show i + 7 < L by omega)
  have B7 := JW_get (σ := σ') (g := g') (d := c) (t := t) (f := f) hI'.1 hI'.2.2.2.2.1 hL (show i + 7 < L by omega)
  have la := JW_lar (σ := σ') (g := g') (d := c') (t := t') (f := f') hI'.1 ho
  refine ⟨σ', tg', ad', c', g', f', t', .int (nI t'), .int v, ?_, hI'⟩
  by_cases h0 : t' = 0
  · have hv := hv h0
    subst h0
    simp only [e187_140, e187_147, e187_153, e187_159, e187_165, e187_171, e187_178, e187_185, e187_189, e187_198, e187_204, e187_210, e187_216, e187_222, e187_229, e187_236, e187_239, e187_245, e187_250, e187_252, e187_257, e187_260, e187_267, e187_269, A1, A2, A3, A4, A5, A6, A7, B1, B2, B3, B4, B5, B6, B7, np_1, np_2, np_3, np_4, np_5, np_6, np_7, e1, e2, JM_116, JW_107, la, hv, lg_self, show (nI 0 = 0) = True from eq_true rfl, K0_v, K0_n, K0_x, K2_v, K2_n, K1_v, K1_n, K1_x, bI_s, bJ_s, bV_s, bS_s, l_10, l_00, bz_01, bz_0, bz_1, em_n, if_true, if_false, ite_not, ite_true, ite_false, not_true_eq_false, not_false_eq_true, or_true, true_or]
  · have hz : (nI t' = 0) = False := eq_false (nI_ne0 (by omega) (by omega))
    simp only [e187_140, e187_147, e187_153, e187_159, e187_165, e187_171, e187_178, e187_185, e187_189, e187_198, e187_204, e187_210, e187_216, e187_222, e187_229, e187_236, e187_239, e187_245, e187_250, e187_252, e187_257, e187_260, e187_267, e187_269, A1, A2, A3, A4, A5, A6, A7, B1, B2, B3, B4, B5, B6, B7, np_1, np_2, np_3, np_4, np_5, np_6, np_7, e1, e2, JM_116, JW_107, hz, K0_v, K0_n, K0_x, K2_v, K2_n, K1_v, K1_n, K1_x, bI_s, bJ_s, bV_s, bS_s, l_10, l_00, bz_01, bz_0, bz_1, em_n, if_true, if_false, ite_not, ite_true, ite_false, not_true_eq_false, not_false_eq_true, or_true, true_or]
theorem b_1 {i : Nat} (hL : L ≤ 4096) (hi : i + 8 ≤ L) : BO L s 272 i := by
  intro σ tg ad c g f t K1 K2 l5 l6 hI
  obtain ⟨σ', tg', ad', c', g', f', t', v, o, e1, e2, ho, hv, ht, hI'⟩ := step (t := t) (wy := 168) (ov := Int32.toInt64) hI (J_nearest hI.1.1 hI.2.1 (s (i + 1)) (s (i + 2))) (fun σ0 σ' tg' ad' c' g' r o n a1 a2 a3 => w_168 a1 a2 a3)
  have A1 := JW_get (σ := σ) (g := g) (d := c) (t := t) (f := f) hI.1 hI.2.2.2.2.1 hL (show i + 1 < L by omega)
  have B1 := JW_get (σ := σ') (g := g') (d := c) (t := t) (f := f) hI'.1 hI'.2.2.2.2.1 hL (show i + 1 < L by omega)
  have A2 := JW_get (σ := σ) (g := g) (d := c) (t := t) (f := f) hI.1 hI.2.2.2.2.1 hL (show i + 2 < L by omega)
  have B2 := JW_get (σ := σ') (g := g') (d := c) (t := t) (f := f) hI'.1 hI'.2.2.2.2.1 hL (show i + 2 < L by omega)
  have la := JW_lar (σ := σ') (g := g') (d := c') (t := t') (f := f') hI'.1 ho
  refine ⟨σ', tg', ad', c', g', f', t', .int (nI t'), .int v, ?_, hI'⟩
  by_cases h0 : t' = 0
  · have hv := hv h0
    subst h0
    simp only [e187_272, e187_279, e187_285, e187_289, e187_298, e187_304, e187_307, e187_313, e187_318, e187_320, e187_325, e187_328, e187_335, e187_337, A1, A2, B1, B2, np_1, np_2, e1, e2, JM_118, JW_107, la, hv, lg_self, show (nI 0 = 0) = True from eq_true rfl, K0_v, K0_n, K0_x, K2_v, K2_n, K1_v, K1_n, K1_x, bI_s, bJ_s, bV_s, bS_s, l_10, l_00, bz_01, bz_0, bz_1, em_n, if_true, if_false, ite_not, ite_true, ite_false, not_true_eq_false, not_false_eq_true, or_true, true_or]
  · have hz : (nI t' = 0) = False := eq_false (nI_ne0 (by omega) (by omega))
    simp only [e187_272, e187_279, e187_285, e187_289, e187_298, e187_304, e187_307, e187_313, e187_318, e187_320, e187_325, e187_328, e187_335, e187_337, A1, A2, B1, B2, np_1, np_2, e1, e2, JM_118, JW_107, hz, K0_v, K0_n, K0_x, K2_v, K2_n, K1_v, K1_n, K1_x, bI_s, bJ_s, bV_s, bS_s, l_10, l_00, bz_01, bz_0, bz_1, em_n, if_true, if_false, ite_not, ite_true, ite_false, not_true_eq_false, not_false_eq_true, or_true, true_or]
theorem b_2 {i : Nat} (hL : L ≤ 4096) (hi : i + 8 ≤ L) : BO L s 340 i := by
  intro σ tg ad c g f t K1 K2 l5 l6 hI
  obtain ⟨σ', tg', ad', c', g', f', t', v, o, e1, e2, ho, hv, ht, hI'⟩ := step (t := t) (wy := 169) (ov := Int32.toInt64) hI (J_written hI.1.1 hI.2.1 (s (i + 1)) (s (i + 2))) (fun σ0 σ' tg' ad' c' g' r o n a1 a2 a3 => w_169 a1 a2 a3)
  have A1 := JW_get (σ := σ) (g := g) (d := c) (t := t) (f := f) hI.1 hI.2.2.2.2.1 hL (show i + 1 < L by omega)
  have B1 := JW_get (σ := σ') (g := g') (d := c) (t := t) (f := f) hI'.1 hI'.2.2.2.2.1 hL (show i + 1 < L by omega)
  have A2 := JW_get (σ := σ) (g := g) (d := c) (t := t) (f := f) hI.1 hI.2.2.2.2.1 hL (show i + 2 < L by omega)
  have B2 := JW_get (σ := σ') (g := g') (d := c) (t := t) (f := f) hI'.1 hI'.2.2.2.2.1 hL (show i + 2 < L by omega)
  have la := JW_lar (σ := σ') (g := g') (d := c') (t := t') (f := f') hI'.1 ho
  refine ⟨σ', tg', ad', c', g', f', t', .int (nI t'), .int v, ?_, hI'⟩
  by_cases h0 : t' = 0
  · have hv := hv h0
    subst h0
    simp only [e187_340, e187_347, e187_353, e187_357, e187_366, e187_372, e187_375, e187_381, e187_386, e187_388, e187_393, e187_396, e187_403, e187_405, A1, A2, B1, B2, np_1, np_2, e1, e2, JM_121, JW_107, la, hv, lg_self, show (nI 0 = 0) = True from eq_true rfl, K0_v, K0_n, K0_x, K2_v, K2_n, K1_v, K1_n, K1_x, bI_s, bJ_s, bV_s, bS_s, l_10, l_00, bz_01, bz_0, bz_1, em_n, if_true, if_false, ite_not, ite_true, ite_false, not_true_eq_false, not_false_eq_true, or_true, true_or]
  · have hz : (nI t' = 0) = False := eq_false (nI_ne0 (by omega) (by omega))
    simp only [e187_340, e187_347, e187_353, e187_357, e187_366, e187_372, e187_375, e187_381, e187_386, e187_388, e187_393, e187_396, e187_403, e187_405, A1, A2, B1, B2, np_1, np_2, e1, e2, JM_121, JW_107, hz, K0_v, K0_n, K0_x, K2_v, K2_n, K1_v, K1_n, K1_x, bI_s, bJ_s, bV_s, bS_s, l_10, l_00, bz_01, bz_0, bz_1, em_n, if_true, if_false, ite_not, ite_true, ite_false, not_true_eq_false, not_false_eq_true, or_true, true_or]
theorem b_3 {i : Nat} (hL : L ≤ 4096) (hi : i + 8 ≤ L) : BO L s 408 i := by
  intro σ tg ad c g f t K1 K2 l5 l6 hI
  obtain ⟨σ', tg', ad', c', g', f', t', v, o, e1, e2, ho, hv, ht, hI'⟩ := step (t := t) (wy := 170) (ov := Int32.toInt64) hI (J_loses hI.1.1 hI.2.1 (s (i + 1)) (s (i + 2))) (fun σ0 σ' tg' ad' c' g' r o n a1 a2 a3 => w_170 a1 a2 a3)
  have A1 := JW_get (σ := σ) (g := g) (d := c) (t := t) (f := f) hI.1 hI.2.2.2.2.1 hL (show i + 1 < L by omega)
  have B1 := JW_get (σ := σ') (g := g') (d := c) (t := t) (f := f) hI'.1 hI'.2.2.2.2.1 hL (show i + 1 < L by omega)
  have A2 := JW_get (σ := σ) (g := g) (d := c) (t := t) (f := f) hI.1 hI.2.2.2.2.1 hL (show i + 2 < L by omega)
  have B2 := JW_get (σ := σ') (g := g') (d := c) (t := t) (f := f) hI'.1 hI'.2.2.2.2.1 hL (show i + 2 < L by omega)
  have la := JW_lar (σ := σ') (g := g') (d := c') (t := t') (f := f') hI'.1 ho
  refine ⟨σ', tg', ad', c', g', f', t', .int (nI t'), .int v, ?_, hI'⟩
  by_cases h0 : t' = 0
  · have hv := hv h0
    subst h0
    simp only [e187_408, e187_415, e187_421, e187_425, e187_434, e187_440, e187_443, e187_449, e187_454, e187_456, e187_461, e187_464, e187_471, e187_473, A1, A2, B1, B2, np_1, np_2, e1, e2, JM_122, JW_107, la, hv, lg_self, show (nI 0 = 0) = True from eq_true rfl, K0_v, K0_n, K0_x, K2_v, K2_n, K1_v, K1_n, K1_x, bI_s, bJ_s, bV_s, bS_s, l_10, l_00, bz_01, bz_0, bz_1, em_n, if_true, if_false, ite_not, ite_true, ite_false, not_true_eq_false, not_false_eq_true, or_true, true_or]
  · have hz : (nI t' = 0) = False := eq_false (nI_ne0 (by omega) (by omega))
    simp only [e187_408, e187_415, e187_421, e187_425, e187_434, e187_440, e187_443, e187_449, e187_454, e187_456, e187_461, e187_464, e187_471, e187_473, A1, A2, B1, B2, np_1, np_2, e1, e2, JM_122, JW_107, hz, K0_v, K0_n, K0_x, K2_v, K2_n, K1_v, K1_n, K1_x, bI_s, bJ_s, bV_s, bS_s, l_10, l_00, bz_01, bz_0, bz_1, em_n, if_true, if_false, ite_not, ite_true, ite_false, not_true_eq_false, not_false_eq_true, or_true, true_or]
theorem b_4 {i : Nat} (hL : L ≤ 4096) (hi : i + 8 ≤ L) : BO L s 476 i := by
  intro σ tg ad c g f t K1 K2 l5 l6 hI
  obtain ⟨σ', tg', ad', c', g', f', t', v, o, e1, e2, ho, hv, ht, hI'⟩ := step (t := t) (wy := 171) (ov := Int32.toInt64) hI (J_item hI.1.1 hI.2.1 (s (i + 1)) (s (i + 2)) (s (i + 3)) (s (i + 4))) (fun σ0 σ' tg' ad' c' g' r o n a1 a2 a3 => w_171 a1 a2 a3)
  have A1 := JW_get (σ := σ) (g := g) (d := c) (t := t) (f := f) hI.1 hI.2.2.2.2.1 hL (show i + 1 < L by omega)
  have B1 := JW_get (σ := σ') (g := g') (d := c) (t := t) (f := f) hI'.1 hI'.2.2.2.2.1 hL (show i + 1 < L by omega)
  have A2 := JW_get (σ := σ) (g := g) (d := c) (t := t) (f := f) hI.1 hI.2.2.2.2.1 hL (show i + 2 < L by omega)
  have B2 := JW_get (σ := σ') (g := g') (d := c) (t := t) (f := f) hI'.1 hI'.2.2.2.2.1 hL (show i + 2 < L by omega)
  have A3 := JW_get (σ := σ) (g := g) (d := c) (t := t) (f := f) hI.1 hI.2.2.2.2.1 hL (show i + 3 < L by omega)
  have B3 := JW_get (σ := σ') (g := g') (d := c) (t := t) (f := f) hI'.1 hI'.2.2.2.2.1 hL (show i + 3 < L by omega)
  have A4 := JW_get (σ := σ) (g := g) (d := c) (t := t) (f := f) hI.1 hI.2.2.2.2.1 hL (show i + 4 < L by omega)
  have B4 := JW_get (σ := σ') (g := g') (d := c) (t := t) (f := f) hI'.1 hI'.2.2.2.2.1 hL (show i + 4 < L by omega)
  have la := JW_lar (σ := σ') (g := g') (d := c') (t := t') (f := f') hI'.1 ho
  refine ⟨σ', tg', ad', c', g', f', t', .int (nI t'), .int v, ?_, hI'⟩
  by_cases h0 : t' = 0
  · have hv := hv h0
    subst h0
    simp only [e187_476, e187_483, e187_489, e187_495, e187_501, e187_505, e187_514, e187_520, e187_526, e187_532, e187_535, e187_541, e187_546, e187_548, e187_553, e187_556, e187_563, e187_565, A1, A2, A3, A4, B1, B2, B3, B4, np_1, np_2, np_3, np_4, e1, e2, JM_125, JW_107, la, hv, lg_self, show (nI 0 = 0) = True from eq_true rfl, K0_v, K0_n, K0_x, K2_v, K2_n, K1_v, K1_n, K1_x, bI_s, bJ_s, bV_s, bS_s, l_10, l_00, bz_01, bz_0, bz_1, em_n, if_true, if_false, ite_not, ite_true, ite_false, not_true_eq_false, not_false_eq_true, or_true, true_or]
  · have hz : (nI t' = 0) = False := eq_false (nI_ne0 (by omega) (by omega))
    simp only [e187_476, e187_483, e187_489, e187_495, e187_501, e187_505, e187_514, e187_520, e187_526, e187_532, e187_535, e187_541, e187_546, e187_548, e187_553, e187_556, e187_563, e187_565, A1, A2, A3, A4, B1, B2, B3, B4, np_1, np_2, np_3, np_4, e1, e2, JM_125, JW_107, hz, K0_v, K0_n, K0_x, K2_v, K2_n, K1_v, K1_n, K1_x, bI_s, bJ_s, bV_s, bS_s, l_10, l_00, bz_01, bz_0, bz_1, em_n, if_true, if_false, ite_not, ite_true, ite_false, not_true_eq_false, not_false_eq_true, or_true, true_or]
theorem b_6 {i : Nat} (hL : L ≤ 4096) (hi : i + 8 ≤ L) : BO L s 581 i := by
  intro σ tg ad c g f t K1 K2 l5 l6 hI
  obtain ⟨σ', tg', ad', c', g', f', t', v, o, e1, e2, ho, hv, ht, hI'⟩ := step (t := t) (wy := 172) (ov := Int32.toInt64) hI (J_face hI.1.1 hI.2.1 (s (i + 1)) (s (i + 2)) (s (i + 3))) (fun σ0 σ' tg' ad' c' g' r o n a1 a2 a3 => w_172 a1 a2 a3)
  have A1 := JW_get (σ := σ) (g := g) (d := c) (t := t) (f := f) hI.1 hI.2.2.2.2.1 hL (show i + 1 < L by omega)
  have B1 := JW_get (σ := σ') (g := g') (d := c) (t := t) (f := f) hI'.1 hI'.2.2.2.2.1 hL (show i + 1 < L by omega)
  have A2 := JW_get (σ := σ) (g := g) (d := c) (t := t) (f := f) hI.1 hI.2.2.2.2.1 hL (show i + 2 < L by omega)
  have B2 := JW_get (σ := σ') (g := g') (d := c) (t := t) (f := f) hI'.1 hI'.2.2.2.2.1 hL (show i + 2 < L by omega)
  have A3 := JW_get (σ := σ) (g := g) (d := c) (t := t) (f := f) hI.1 hI.2.2.2.2.1 hL (show i + 3 < L by omega)
  have B3 := JW_get (σ := σ') (g := g') (d := c) (t := t) (f := f) hI'.1 hI'.2.2.2.2.1 hL (show i + 3 < L by omega)
  have la := JW_lar (σ := σ') (g := g') (d := c') (t := t') (f := f') hI'.1 ho
  refine ⟨σ', tg', ad', c', g', f', t', .int (nI t'), .int v, ?_, hI'⟩
  by_cases h0 : t' = 0
  · have hv := hv h0
    subst h0
    simp only [e187_581, e187_588, e187_594, e187_600, e187_604, e187_613, e187_619, e187_625, e187_628, e187_634, e187_639, e187_641, e187_646, e187_649, e187_656, e187_658, A1, A2, A3, B1, B2, B3, np_1, np_2, np_3, e1, e2, JM_128, JW_107, la, hv, lg_self, show (nI 0 = 0) = True from eq_true rfl, K0_v, K0_n, K0_x, K2_v, K2_n, K1_v, K1_n, K1_x, bI_s, bJ_s, bV_s, bS_s, l_10, l_00, bz_01, bz_0, bz_1, em_n, if_true, if_false, ite_not, ite_true, ite_false, not_true_eq_false, not_false_eq_true, or_true, true_or]
  · have hz : (nI t' = 0) = False := eq_false (nI_ne0 (by omega) (by omega))
    simp only [e187_581, e187_588, e187_594, e187_600, e187_604, e187_613, e187_619, e187_625, e187_628, e187_634, e187_639, e187_641, e187_646, e187_649, e187_656, e187_658, A1, A2, A3, B1, B2, B3, np_1, np_2, np_3, e1, e2, JM_128, JW_107, hz, K0_v, K0_n, K0_x, K2_v, K2_n, K1_v, K1_n, K1_x, bI_s, bJ_s, bV_s, bS_s, l_10, l_00, bz_01, bz_0, bz_1, em_n, if_true, if_false, ite_not, ite_true, ite_false, not_true_eq_false, not_false_eq_true, or_true, true_or]
theorem b_7 {i : Nat} (hL : L ≤ 4096) (hi : i + 8 ≤ L) : BO L s 661 i := by
  intro σ tg ad c g f t K1 K2 l5 l6 hI
  obtain ⟨σ', tg', ad', c', g', f', t', v, o, e1, e2, ho, hv, ht, hI'⟩ := step (t := t) (wy := 173) (ov := Int32.toInt64) hI (J_shown hI.1.1 hI.2.1 (s (i + 1)) (s (i + 2))) (fun σ0 σ' tg' ad' c' g' r o n a1 a2 a3 => w_173 a1 a2 a3)
  have A1 := JW_get (σ := σ) (g := g) (d := c) (t := t) (f := f) hI.1 hI.2.2.2.2.1 hL (show i + 1 < L by omega)
  have B1 := JW_get (σ := σ') (g := g') (d := c) (t := t) (f := f) hI'.1 hI'.2.2.2.2.1 hL (show i + 1 < L by omega)
  have A2 := JW_get (σ := σ) (g := g) (d := c) (t := t) (f := f) hI.1 hI.2.2.2.2.1 hL (show i + 2 < L by omega)
  have B2 := JW_get (σ := σ') (g := g') (d := c) (t := t) (f := f) hI'.1 hI'.2.2.2.2.1 hL (show i + 2 < L by omega)
  have la := JW_lar (σ := σ') (g := g') (d := c') (t := t') (f := f') hI'.1 ho
  refine ⟨σ', tg', ad', c', g', f', t', .int (nI t'), .int v, ?_, hI'⟩
  by_cases h0 : t' = 0
  · have hv := hv h0
    subst h0
    simp only [e187_661, e187_668, e187_674, e187_678, e187_687, e187_693, e187_696, e187_702, e187_707, e187_709, e187_714, e187_717, e187_724, e187_726, A1, A2, B1, B2, np_1, np_2, e1, e2, JM_132, JW_107, la, hv, lg_self, show (nI 0 = 0) = True from eq_true rfl, K0_v, K0_n, K0_x, K2_v, K2_n, K1_v, K1_n, K1_x, bI_s, bJ_s, bV_s, bS_s, l_10, l_00, bz_01, bz_0, bz_1, em_n, if_true, if_false, ite_not, ite_true, ite_false, not_true_eq_false, not_false_eq_true, or_true, true_or]
  · have hz : (nI t' = 0) = False := eq_false (nI_ne0 (by omega) (by omega))
    simp only [e187_661, e187_668, e187_674, e187_678, e187_687, e187_693, e187_696, e187_702, e187_707, e187_709, e187_714, e187_717, e187_724, e187_726, A1, A2, B1, B2, np_1, np_2, e1, e2, JM_132, JW_107, hz, K0_v, K0_n, K0_x, K2_v, K2_n, K1_v, K1_n, K1_x, bI_s, bJ_s, bV_s, bS_s, l_10, l_00, bz_01, bz_0, bz_1, em_n, if_true, if_false, ite_not, ite_true, ite_false, not_true_eq_false, not_false_eq_true, or_true, true_or]
theorem b_8 {i : Nat} (hL : L ≤ 4096) (hi : i + 8 ≤ L) : BO L s 729 i := by
  intro σ tg ad c g f t K1 K2 l5 l6 hI
  obtain ⟨σ', tg', ad', c', g', f', t', v, o, e1, e2, ho, hv, ht, hI'⟩ := step (t := t) (wy := 174) (ov := Int32.toInt64) hI (J_stands hI.1.1 hI.2.1 (s (i + 1)) (s (i + 2))) (fun σ0 σ' tg' ad' c' g' r o n a1 a2 a3 => w_174 a1 a2 a3)
  have A1 := JW_get (σ := σ) (g := g) (d := c) (t := t) (f := f) hI.1 hI.2.2.2.2.1 hL (show i + 1 < L by omega)
  have B1 := JW_get (σ := σ') (g := g') (d := c) (t := t) (f := f) hI'.1 hI'.2.2.2.2.1 hL (show i + 1 < L by omega)
  have A2 := JW_get (σ := σ) (g := g) (d := c) (t := t) (f := f) hI.1 hI.2.2.2.2.1 hL (show i + 2 < L by omega)
  have B2 := JW_get (σ := σ') (g := g') (d := c) (t := t) (f := f) hI'.1 hI'.2.2.2.2.1 hL (show i + 2 < L by omega)
  have la := JW_lar (σ := σ') (g := g') (d := c') (t := t') (f := f') hI'.1 ho
  refine ⟨σ', tg', ad', c', g', f', t', .int (nI t'), .int v, ?_, hI'⟩
  by_cases h0 : t' = 0
  · have hv := hv h0
    subst h0
    simp only [e187_729, e187_736, e187_742, e187_746, e187_755, e187_761, e187_764, e187_770, e187_775, e187_777, e187_782, e187_785, e187_792, e187_794, A1, A2, B1, B2, np_1, np_2, e1, e2, JM_133, JW_107, la, hv, lg_self, show (nI 0 = 0) = True from eq_true rfl, K0_v, K0_n, K0_x, K2_v, K2_n, K1_v, K1_n, K1_x, bI_s, bJ_s, bV_s, bS_s, l_10, l_00, bz_01, bz_0, bz_1, em_n, if_true, if_false, ite_not, ite_true, ite_false, not_true_eq_false, not_false_eq_true, or_true, true_or]
  · have hz : (nI t' = 0) = False := eq_false (nI_ne0 (by omega) (by omega))
    simp only [e187_729, e187_736, e187_742, e187_746, e187_755, e187_761, e187_764, e187_770, e187_775, e187_777, e187_782, e187_785, e187_792, e187_794, A1, A2, B1, B2, np_1, np_2, e1, e2, JM_133, JW_107, hz, K0_v, K0_n, K0_x, K2_v, K2_n, K1_v, K1_n, K1_x, bI_s, bJ_s, bV_s, bS_s, l_10, l_00, bz_01, bz_0, bz_1, em_n, if_true, if_false, ite_not, ite_true, ite_false, not_true_eq_false, not_false_eq_true, or_true, true_or]
theorem b_9 {i : Nat} (hL : L ≤ 4096) (hi : i + 8 ≤ L) : BO L s 797 i := by
  intro σ tg ad c g f t K1 K2 l5 l6 hI
  obtain ⟨σ', tg', ad', c', g', f', t', v, o, e1, e2, ho, hv, ht, hI'⟩ := step (t := t) (wy := 175) (ov := Int32.toInt64) hI (J_rule hI.1.1 hI.2.1 (s (i + 1))) (fun σ0 σ' tg' ad' c' g' r o n a1 a2 a3 => w_175 a1 a2 a3)
  have A1 := JW_get (σ := σ) (g := g) (d := c) (t := t) (f := f) hI.1 hI.2.2.2.2.1 hL (show i + 1 < L by omega)
  have B1 := JW_get (σ := σ') (g := g') (d := c) (t := t) (f := f) hI'.1 hI'.2.2.2.2.1 hL (show i + 1 < L by omega)
  have la := JW_lar (σ := σ') (g := g') (d := c') (t := t') (f := f') hI'.1 ho
  refine ⟨σ', tg', ad', c', g', f', t', .int (nI t'), .int v, ?_, hI'⟩
  by_cases h0 : t' = 0
  · have hv := hv h0
    subst h0
    simp only [e187_797, e187_804, e187_808, e187_817, e187_820, e187_826, e187_831, e187_833, e187_838, e187_841, e187_848, e187_850, A1, B1, np_1, e1, e2, JM_134, JW_107, la, hv, lg_self, show (nI 0 = 0) = True from eq_true rfl, K0_v, K0_n, K0_x, K2_v, K2_n, K1_v, K1_n, K1_x, bI_s, bJ_s, bV_s, bS_s, l_10, l_00, bz_01, bz_0, bz_1, em_n, if_true, if_false, ite_not, ite_true, ite_false, not_true_eq_false, not_false_eq_true, or_true, true_or]
  · have hz : (nI t' = 0) = False := eq_false (nI_ne0 (by omega) (by omega))
    simp only [e187_797, e187_804, e187_808, e187_817, e187_820, e187_826, e187_831, e187_833, e187_838, e187_841, e187_848, e187_850, A1, B1, np_1, e1, e2, JM_134, JW_107, hz, K0_v, K0_n, K0_x, K2_v, K2_n, K1_v, K1_n, K1_x, bI_s, bJ_s, bV_s, bS_s, l_10, l_00, bz_01, bz_0, bz_1, em_n, if_true, if_false, ite_not, ite_true, ite_false, not_true_eq_false, not_false_eq_true, or_true, true_or]
theorem b_10 {i : Nat} (hL : L ≤ 4096) (hi : i + 8 ≤ L) : BO L s 853 i := by
  intro σ tg ad c g f t K1 K2 l5 l6 hI
  obtain ⟨σ', tg', ad', c', g', f', t', v, o, e1, e2, ho, hv, ht, hI'⟩ := step (t := t) (wy := 176) (ov := (fun v => if v = 0 then 0 else 1)) hI (J_except hI.1.1 hI.2.1 (s (i + 1)) (s (i + 2))) (fun σ0 σ' tg' ad' c' g' r o n a1 a2 a3 => w_176 a1 a2 a3)
  have A1 := JW_get (σ := σ) (g := g) (d := c) (t := t) (f := f) hI.1 hI.2.2.2.2.1 hL (show i + 1 < L by omega)
  have B1 := JW_get (σ := σ') (g := g') (d := c) (t := t) (f := f) hI'.1 hI'.2.2.2.2.1 hL (show i + 1 < L by omega)
  have A2 := JW_get (σ := σ) (g := g) (d := c) (t := t) (f := f) hI.1 hI.2.2.2.2.1 hL (show i + 2 < L by omega)
  have B2 := JW_get (σ := σ') (g := g') (d := c) (t := t) (f := f) hI'.1 hI'.2.2.2.2.1 hL (show i + 2 < L by omega)
  have la := JW_lar (σ := σ') (g := g') (d := c') (t := t') (f := f') hI'.1 ho
  refine ⟨σ', tg', ad', c', g', f', t', .int (nI t'), .int v, ?_, hI'⟩
  by_cases h0 : t' = 0
  · have hv2 := hv h0
    subst h0
    by_cases vz : v = 0
    · have hv : o 0 = _ := hv2.trans (if_pos vz)
      simp only [e187_853, e187_860, e187_866, e187_870, e187_879, e187_885, e187_888, e187_894, e187_899, e187_901, e187_906, e187_909, e187_914, e187_918, e187_919, e187_923, e187_925, A1, A2, B1, B2, np_1, np_2, e1, e2, JM_135, JW_107, la, hv, lg_self, show (nI 0 = 0) = True from eq_true rfl, eq_true vz, K0_v, K0_n, K0_x, K2_v, K2_n, K1_v, K1_n, K1_x, bI_s, bJ_s, bV_s, bS_s, l_10, l_00, bz_01, bz_0, bz_1, em_n, if_true, if_false, ite_not, ite_true, ite_false, not_true_eq_false, not_false_eq_true, or_true, true_or]
    · have hv : o 0 = _ := hv2.trans (if_neg vz)
      simp only [e187_853, e187_860, e187_866, e187_870, e187_879, e187_885, e187_888, e187_894, e187_899, e187_901, e187_906, e187_909, e187_914, e187_918, e187_919, e187_923, e187_925, A1, A2, B1, B2, np_1, np_2, e1, e2, JM_135, JW_107, la, hv, lg_self, show (nI 0 = 0) = True from eq_true rfl, eq_false vz, K0_v, K0_n, K0_x, K2_v, K2_n, K1_v, K1_n, K1_x, bI_s, bJ_s, bV_s, bS_s, l_10, l_00, bz_01, bz_0, bz_1, em_n, if_true, if_false, ite_not, ite_true, ite_false, not_true_eq_false, not_false_eq_true, or_true, true_or]
  · have hz : (nI t' = 0) = False := eq_false (nI_ne0 (by omega) (by omega))
    simp only [e187_853, e187_860, e187_866, e187_870, e187_879, e187_885, e187_888, e187_894, e187_899, e187_901, e187_906, e187_909, e187_914, e187_918, e187_919, e187_923, e187_925, A1, A2, B1, B2, np_1, np_2, e1, e2, JM_135, JW_107, hz, K0_v, K0_n, K0_x, K2_v, K2_n, K1_v, K1_n, K1_x, bI_s, bJ_s, bV_s, bS_s, l_10, l_00, bz_01, bz_0, bz_1, em_n, if_true, if_false, ite_not, ite_true, ite_false, not_true_eq_false, not_false_eq_true, or_true, true_or]
theorem b_11 {i : Nat} (hL : L ≤ 4096) (hi : i + 8 ≤ L) : BO L s 928 i := by
  intro σ tg ad c g f t K1 K2 l5 l6 hI
  obtain ⟨σ', tg', ad', c', g', f', t', v, o, e1, e2, ho, hv, ht, hI'⟩ := step (t := t) (wy := 177) (ov := Int32.toInt64) hI (J_signed hI.1.1 hI.2.1 (s (i + 1)) (s (i + 2))) (fun σ0 σ' tg' ad' c' g' r o n a1 a2 a3 => w_177 a1 a2 a3)
  have A1 := JW_get (σ := σ) (g := g) (d := c) (t := t) (f := f) hI.1 hI.2.2.2.2.1 hL (show i + 1 < L by omega)
  have B1 := JW_get (σ := σ') (g := g') (d := c) (t := t) (f := f) hI'.1 hI'.2.2.2.2.1 hL (show i + 1 < L by omega)
  have A2 := JW_get (σ := σ) (g := g) (d := c) (t := t) (f := f) hI.1 hI.2.2.2.2.1 hL (show i + 2 < L by omega)
  have B2 := JW_get (σ := σ') (g := g') (d := c) (t := t) (f := f) hI'.1 hI'.2.2.2.2.1 hL (show i + 2 < L by omega)
  have la := JW_lar (σ := σ') (g := g') (d := c') (t := t') (f := f') hI'.1 ho
  refine ⟨σ', tg', ad', c', g', f', t', .int (nI t'), .int v, ?_, hI'⟩
  by_cases h0 : t' = 0
  · have hv := hv h0
    subst h0
    simp only [e187_928, e187_935, e187_941, e187_945, e187_954, e187_960, e187_963, e187_969, e187_974, e187_976, e187_981, e187_984, e187_991, e187_993, A1, A2, B1, B2, np_1, np_2, e1, e2, JM_148, JW_107, la, hv, lg_self, show (nI 0 = 0) = True from eq_true rfl, K0_v, K0_n, K0_x, K2_v, K2_n, K1_v, K1_n, K1_x, bI_s, bJ_s, bV_s, bS_s, l_10, l_00, bz_01, bz_0, bz_1, em_n, if_true, if_false, ite_not, ite_true, ite_false, not_true_eq_false, not_false_eq_true, or_true, true_or]
  · have hz : (nI t' = 0) = False := eq_false (nI_ne0 (by omega) (by omega))
    simp only [e187_928, e187_935, e187_941, e187_945, e187_954, e187_960, e187_963, e187_969, e187_974, e187_976, e187_981, e187_984, e187_991, e187_993, A1, A2, B1, B2, np_1, np_2, e1, e2, JM_148, JW_107, hz, K0_v, K0_n, K0_x, K2_v, K2_n, K1_v, K1_n, K1_x, bI_s, bJ_s, bV_s, bS_s, l_10, l_00, bz_01, bz_0, bz_1, em_n, if_true, if_false, ite_not, ite_true, ite_false, not_true_eq_false, not_false_eq_true, or_true, true_or]
theorem b_12 {i : Nat} (hL : L ≤ 4096) (hi : i + 8 ≤ L) : BO L s 996 i := by
  intro σ tg ad c g f t K1 K2 l5 l6 hI
  obtain ⟨σ', tg', ad', c', g', f', t', v, o, e1, e2, ho, hv, ht, hI'⟩ := step (t := t) (wy := 178) (ov := Int32.toInt64) hI (J_at hI.1.1 hI.2.1 (s (i + 1)) (s (i + 2))) (fun σ0 σ' tg' ad' c' g' r o n a1 a2 a3 => w_178 a1 a2 a3)
  have A1 := JW_get (σ := σ) (g := g) (d := c) (t := t) (f := f) hI.1 hI.2.2.2.2.1 hL (show i + 1 < L by omega)
  have B1 := JW_get (σ := σ') (g := g') (d := c) (t := t) (f := f) hI'.1 hI'.2.2.2.2.1 hL (show i + 1 < L by omega)
  have A2 := JW_get (σ := σ) (g := g) (d := c) (t := t) (f := f) hI.1 hI.2.2.2.2.1 hL (show i + 2 < L by omega)
  have B2 := JW_get (σ := σ') (g := g') (d := c) (t := t) (f := f) hI'.1 hI'.2.2.2.2.1 hL (show i + 2 < L by omega)
  have la := JW_lar (σ := σ') (g := g') (d := c') (t := t') (f := f') hI'.1 ho
  refine ⟨σ', tg', ad', c', g', f', t', .int (nI t'), .int v, ?_, hI'⟩
  by_cases h0 : t' = 0
  · have hv := hv h0
    subst h0
    simp only [e187_996, e187_1003, e187_1009, e187_1013, e187_1022, e187_1028, e187_1031, e187_1037, e187_1042, e187_1044, e187_1049, e187_1052, e187_1059, e187_1061, A1, A2, B1, B2, np_1, np_2, e1, e2, JM_150, JW_107, la, hv, lg_self, show (nI 0 = 0) = True from eq_true rfl, K0_v, K0_n, K0_x, K2_v, K2_n, K1_v, K1_n, K1_x, bI_s, bJ_s, bV_s, bS_s, l_10, l_00, bz_01, bz_0, bz_1, em_n, if_true, if_false, ite_not, ite_true, ite_false, not_true_eq_false, not_false_eq_true, or_true, true_or]
  · have hz : (nI t' = 0) = False := eq_false (nI_ne0 (by omega) (by omega))
    simp only [e187_996, e187_1003, e187_1009, e187_1013, e187_1022, e187_1028, e187_1031, e187_1037, e187_1042, e187_1044, e187_1049, e187_1052, e187_1059, e187_1061, A1, A2, B1, B2, np_1, np_2, e1, e2, JM_150, JW_107, hz, K0_v, K0_n, K0_x, K2_v, K2_n, K1_v, K1_n, K1_x, bI_s, bJ_s, bV_s, bS_s, l_10, l_00, bz_01, bz_0, bz_1, em_n, if_true, if_false, ite_not, ite_true, ite_false, not_true_eq_false, not_false_eq_true, or_true, true_or]
theorem b_13 {i : Nat} (hL : L ≤ 4096) (hi : i + 8 ≤ L) : BO L s 1064 i := by
  intro σ tg ad c g f t K1 K2 l5 l6 hI
  obtain ⟨σ', tg', ad', c', g', f', t', v, o, e1, e2, ho, hv, ht, hI'⟩ := step (t := t) (wy := 179) (ov := Int32.toInt64) hI (J_readBack hI.1.1 hI.2.1 (s (i + 1)) (s (i + 2))) (fun σ0 σ' tg' ad' c' g' r o n a1 a2 a3 => w_179 a1 a2 a3)
  have A1 := JW_get (σ := σ) (g := g) (d := c) (t := t) (f := f) hI.1 hI.2.2.2.2.1 hL (show i + 1 < L by omega)
  have B1 := JW_get (σ := σ') (g := g') (d := c) (t := t) (f := f) hI'.1 hI'.2.2.2.2.1 hL (show i + 1 < L by omega)
  have A2 := JW_get (σ := σ) (g := g) (d := c) (t := t) (f := f) hI.1 hI.2.2.2.2.1 hL (show i + 2 < L by omega)
  have B2 := JW_get (σ := σ') (g := g') (d := c) (t := t) (f := f) hI'.1 hI'.2.2.2.2.1 hL (show i + 2 < L by omega)
  have la := JW_lar (σ := σ') (g := g') (d := c') (t := t') (f := f') hI'.1 ho
  refine ⟨σ', tg', ad', c', g', f', t', .int (nI t'), .int v, ?_, hI'⟩
  by_cases h0 : t' = 0
  · have hv := hv h0
    subst h0
    simp only [e187_1064, e187_1071, e187_1077, e187_1081, e187_1090, e187_1096, e187_1099, e187_1105, e187_1110, e187_1112, e187_1117, e187_1120, e187_1127, e187_1129, A1, A2, B1, B2, np_1, np_2, e1, e2, JM_153, JW_107, la, hv, lg_self, show (nI 0 = 0) = True from eq_true rfl, K0_v, K0_n, K0_x, K2_v, K2_n, K1_v, K1_n, K1_x, bI_s, bJ_s, bV_s, bS_s, l_10, l_00, bz_01, bz_0, bz_1, em_n, if_true, if_false, ite_not, ite_true, ite_false, not_true_eq_false, not_false_eq_true, or_true, true_or]
  · have hz : (nI t' = 0) = False := eq_false (nI_ne0 (by omega) (by omega))
    simp only [e187_1064, e187_1071, e187_1077, e187_1081, e187_1090, e187_1096, e187_1099, e187_1105, e187_1110, e187_1112, e187_1117, e187_1120, e187_1127, e187_1129, A1, A2, B1, B2, np_1, np_2, e1, e2, JM_153, JW_107, hz, K0_v, K0_n, K0_x, K2_v, K2_n, K1_v, K1_n, K1_x, bI_s, bJ_s, bV_s, bS_s, l_10, l_00, bz_01, bz_0, bz_1, em_n, if_true, if_false, ite_not, ite_true, ite_false, not_true_eq_false, not_false_eq_true, or_true, true_or]
theorem b_14 {i : Nat} (hL : L ≤ 4096) (hi : i + 8 ≤ L) : BO L s 1132 i := by
  intro σ tg ad c g f t K1 K2 l5 l6 hI
  obtain ⟨σ', tg', ad', c', g', f', t', v, o, e1, e2, ho, hv, ht, hI'⟩ := step (t := t) (wy := 180) (ov := Int32.toInt64) hI (J_take hI.1.1 hI.2.1 (s (i + 1))) (fun σ0 σ' tg' ad' c' g' r o n a1 a2 a3 => w_180 a1 a2 a3)
  have A1 := JW_get (σ := σ) (g := g) (d := c) (t := t) (f := f) hI.1 hI.2.2.2.2.1 hL (show i + 1 < L by omega)
  have B1 := JW_get (σ := σ') (g := g') (d := c) (t := t) (f := f) hI'.1 hI'.2.2.2.2.1 hL (show i + 1 < L by omega)
  have la := JW_lar (σ := σ') (g := g') (d := c') (t := t') (f := f') hI'.1 ho
  refine ⟨σ', tg', ad', c', g', f', t', .int (nI t'), .int v, ?_, hI'⟩
  by_cases h0 : t' = 0
  · have hv := hv h0
    subst h0
    simp only [e187_1132, e187_1139, e187_1143, e187_1152, e187_1155, e187_1161, e187_1166, e187_1168, e187_1173, e187_1176, e187_1183, e187_1185, A1, B1, np_1, e1, e2, JM_157, JW_107, la, hv, lg_self, show (nI 0 = 0) = True from eq_true rfl, K0_v, K0_n, K0_x, K2_v, K2_n, K1_v, K1_n, K1_x, bI_s, bJ_s, bV_s, bS_s, l_10, l_00, bz_01, bz_0, bz_1, em_n, if_true, if_false, ite_not, ite_true, ite_false, not_true_eq_false, not_false_eq_true, or_true, true_or]
  · have hz : (nI t' = 0) = False := eq_false (nI_ne0 (by omega) (by omega))
    simp only [e187_1132, e187_1139, e187_1143, e187_1152, e187_1155, e187_1161, e187_1166, e187_1168, e187_1173, e187_1176, e187_1183, e187_1185, A1, B1, np_1, e1, e2, JM_157, JW_107, hz, K0_v, K0_n, K0_x, K2_v, K2_n, K1_v, K1_n, K1_x, bI_s, bJ_s, bV_s, bS_s, l_10, l_00, bz_01, bz_0, bz_1, em_n, if_true, if_false, ite_not, ite_true, ite_false, not_true_eq_false, not_false_eq_true, or_true, true_or]
theorem b_15 {i : Nat} (hL : L ≤ 4096) (hi : i + 8 ≤ L) : BO L s 1188 i := by
  intro σ tg ad c g f t K1 K2 l5 l6 hI
  obtain ⟨σ', tg', ad', c', g', f', t', v, o, e1, e2, ho, hv, ht, hI'⟩ := step (t := t) (wy := 181) (ov := Int32.toInt64) hI (J_make hI.1.1 hI.2.1 (s (i + 1)) (s (i + 2)) (s (i + 3))) (fun σ0 σ' tg' ad' c' g' r o n a1 a2 a3 => w_181 a1 a2 a3)
  have A1 := JW_get (σ := σ) (g := g) (d := c) (t := t) (f := f) hI.1 hI.2.2.2.2.1 hL (show i + 1 < L by omega)
  have B1 := JW_get (σ := σ') (g := g') (d := c) (t := t) (f := f) hI'.1 hI'.2.2.2.2.1 hL (show i + 1 < L by omega)
  have A2 := JW_get (σ := σ) (g := g) (d := c) (t := t) (f := f) hI.1 hI.2.2.2.2.1 hL (show i + 2 < L by omega)
  have B2 := JW_get (σ := σ') (g := g') (d := c) (t := t) (f := f) hI'.1 hI'.2.2.2.2.1 hL (show i + 2 < L by omega)
  have A3 := JW_get (σ := σ) (g := g) (d := c) (t := t) (f := f) hI.1 hI.2.2.2.2.1 hL (show i + 3 < L by omega)
  have B3 := JW_get (σ := σ') (g := g') (d := c) (t := t) (f := f) hI'.1 hI'.2.2.2.2.1 hL (show i + 3 < L by omega)
  have la := JW_lar (σ := σ') (g := g') (d := c') (t := t') (f := f') hI'.1 ho
  refine ⟨σ', tg', ad', c', g', f', t', .int (nI t'), .int v, ?_, hI'⟩
  by_cases h0 : t' = 0
  · have hv := hv h0
    subst h0
    simp only [e187_1188, e187_1195, e187_1201, e187_1207, e187_1211, e187_1220, e187_1226, e187_1232, e187_1235, e187_1241, e187_1246, e187_1248, e187_1253, e187_1256, e187_1263, e187_1265, A1, A2, A3, B1, B2, B3, np_1, np_2, np_3, e1, e2, JM_158, JW_107, la, hv, lg_self, show (nI 0 = 0) = True from eq_true rfl, K0_v, K0_n, K0_x, K2_v, K2_n, K1_v, K1_n, K1_x, bI_s, bJ_s, bV_s, bS_s, l_10, l_00, bz_01, bz_0, bz_1, em_n, if_true, if_false, ite_not, ite_true, ite_false, not_true_eq_false, not_false_eq_true, or_true, true_or]
  · have hz : (nI t' = 0) = False := eq_false (nI_ne0 (by omega) (by omega))
    simp only [e187_1188, e187_1195, e187_1201, e187_1207, e187_1211, e187_1220, e187_1226, e187_1232, e187_1235, e187_1241, e187_1246, e187_1248, e187_1253, e187_1256, e187_1263, e187_1265, A1, A2, A3, B1, B2, B3, np_1, np_2, np_3, e1, e2, JM_158, JW_107, hz, K0_v, K0_n, K0_x, K2_v, K2_n, K1_v, K1_n, K1_x, bI_s, bJ_s, bV_s, bS_s, l_10, l_00, bz_01, bz_0, bz_1, em_n, if_true, if_false, ite_not, ite_true, ite_false, not_true_eq_false, not_false_eq_true, or_true, true_or]
theorem b_16 {i : Nat} (hL : L ≤ 4096) (hi : i + 8 ≤ L) : BO L s 1268 i := by
  intro σ tg ad c g f t K1 K2 l5 l6 hI
  have hbb : (if s (i + 3) = 0 then (0 : Int32) else 1) = 0 ∨ (if s (i + 3) = 0 then (0 : Int32) else 1) = 1 := by split <;> simp
  obtain ⟨σ', tg', ad', c', g', f', t', v, o, e1, e2, ho, hv, ht, hI'⟩ := step (t := t) (wy := 182) (ov := Int32.toInt64) hI (J_allow hI.1.1 hI.2.1 (s (i + 1)) (s (i + 2)) (if s (i + 3) = 0 then 0 else 1) hbb) (fun σ0 σ' tg' ad' c' g' r o n a1 a2 a3 => w_182 a1 a2 a3)
  have A1 := JW_get (σ := σ) (g := g) (d := c) (t := t) (f := f) hI.1 hI.2.2.2.2.1 hL (show i + 1 < L by omega)
  have B1 := JW_get (σ := σ') (g := g') (d := c) (t := t) (f := f) hI'.1 hI'.2.2.2.2.1 hL (show i + 1 < L by omega)
  have A2 := JW_get (σ := σ) (g := g) (d := c) (t := t) (f := f) hI.1 hI.2.2.2.2.1 hL (show i + 2 < L by omega)
  have B2 := JW_get (σ := σ') (g := g') (d := c) (t := t) (f := f) hI'.1 hI'.2.2.2.2.1 hL (show i + 2 < L by omega)
  have A3 := JW_get (σ := σ) (g := g) (d := c) (t := t) (f := f) hI.1 hI.2.2.2.2.1 hL (show i + 3 < L by omega)
  have B3 := JW_get (σ := σ') (g := g') (d := c) (t := t) (f := f) hI'.1 hI'.2.2.2.2.1 hL (show i + 3 < L by omega)
  have la := JW_lar (σ := σ') (g := g') (d := c') (t := t') (f := f') hI'.1 ho
  refine ⟨σ', tg', ad', c', g', f', t', .int (nI t'), .int v, ?_, hI'⟩
  by_cases hs : s (i + 3) = 0
  · rw [if_pos hs] at e1 e2
    by_cases h0 : t' = 0
    · have hv := hv h0
      subst h0
      simp only [e187_1268, e187_1275, e187_1281, e187_1287, e187_1290, e187_1294, e187_1295, e187_1299, e187_1308, e187_1314, e187_1320, e187_1323, e187_1327, e187_1328, e187_1331, e187_1337, e187_1342, e187_1344, e187_1349, e187_1352, e187_1359, e187_1361, A1, A2, A3, B1, B2, B3, np_1, np_2, np_3, e1, e2, JM_160, JW_107, la, hv, lg_self, show (nI 0 = 0) = True from eq_true rfl, K0_v, K0_n, K0_x, K2_v, K2_n, K1_v, K1_n, K1_x, bI_s, bJ_s, bV_s, bS_s, l_10, l_00, bz_01, bz_0, bz_1, em_n, if_true, if_false, ite_not, ite_true, ite_false, not_true_eq_false, not_false_eq_true, or_true, true_or, eq_true hs]
    · have hz : (nI t' = 0) = False := eq_false (nI_ne0 (by omega) (by omega))
      simp only [e187_1268, e187_1275, e187_1281, e187_1287, e187_1290, e187_1294, e187_1295, e187_1299, e187_1308, e187_1314, e187_1320, e187_1323, e187_1327, e187_1328, e187_1331, e187_1337, e187_1342, e187_1344, e187_1349, e187_1352, e187_1359, e187_1361, A1, A2, A3, B1, B2, B3, np_1, np_2, np_3, e1, e2, JM_160, JW_107, hz, K0_v, K0_n, K0_x, K2_v, K2_n, K1_v, K1_n, K1_x, bI_s, bJ_s, bV_s, bS_s, l_10, l_00, bz_01, bz_0, bz_1, em_n, if_true, if_false, ite_not, ite_true, ite_false, not_true_eq_false, not_false_eq_true, or_true, true_or, eq_true hs]
  · rw [if_neg hs] at e1 e2
    by_cases h0 : t' = 0
    · have hv := hv h0
      subst h0
      simp only [e187_1268, e187_1275, e187_1281, e187_1287, e187_1290, e187_1294, e187_1295, e187_1299, e187_1308, e187_1314, e187_1320, e187_1323, e187_1327, e187_1328, e187_1331, e187_1337, e187_1342, e187_1344, e187_1349, e187_1352, e187_1359, e187_1361, A1, A2, A3, B1, B2, B3, np_1, np_2, np_3, e1, e2, JM_160, JW_107, la, hv, lg_self, show (nI 0 = 0) = True from eq_true rfl, K0_v, K0_n, K0_x, K2_v, K2_n, K1_v, K1_n, K1_x, bI_s, bJ_s, bV_s, bS_s, l_10, l_00, bz_01, bz_0, bz_1, em_n, if_true, if_false, ite_not, ite_true, ite_false, not_true_eq_false, not_false_eq_true, or_true, true_or, eq_false hs]
    · have hz : (nI t' = 0) = False := eq_false (nI_ne0 (by omega) (by omega))
      simp only [e187_1268, e187_1275, e187_1281, e187_1287, e187_1290, e187_1294, e187_1295, e187_1299, e187_1308, e187_1314, e187_1320, e187_1323, e187_1327, e187_1328, e187_1331, e187_1337, e187_1342, e187_1344, e187_1349, e187_1352, e187_1359, e187_1361, A1, A2, A3, B1, B2, B3, np_1, np_2, np_3, e1, e2, JM_160, JW_107, hz, K0_v, K0_n, K0_x, K2_v, K2_n, K1_v, K1_n, K1_x, bI_s, bJ_s, bV_s, bS_s, l_10, l_00, bz_01, bz_0, bz_1, em_n, if_true, if_false, ite_not, ite_true, ite_false, not_true_eq_false, not_false_eq_true, or_true, true_or, eq_false hs]
theorem b_17 {i : Nat} (hL : L ≤ 4096) (hi : i + 8 ≤ L) : BO L s 1364 i := by
  intro σ tg ad c g f t K1 K2 l5 l6 hI
  obtain ⟨σ', tg', ad', c', g', f', t', v, o, e1, e2, ho, hv, ht, hI'⟩ := step (t := t) (wy := 183) (ov := Int32.toInt64) hI (J_withdraw hI.1.1 hI.2.1 (s (i + 1))) (fun σ0 σ' tg' ad' c' g' r o n a1 a2 a3 => w_183 a1 a2 a3)
  have A1 := JW_get (σ := σ) (g := g) (d := c) (t := t) (f := f) hI.1 hI.2.2.2.2.1 hL (show i + 1 < L by omega)
  have B1 := JW_get (σ := σ') (g := g') (d := c) (t := t) (f := f) hI'.1 hI'.2.2.2.2.1 hL (show i + 1 < L by omega)
  have la := JW_lar (σ := σ') (g := g') (d := c') (t := t') (f := f') hI'.1 ho
  refine ⟨σ', tg', ad', c', g', f', t', .int (nI t'), .int v, ?_, hI'⟩
  by_cases h0 : t' = 0
  · have hv := hv h0
    subst h0
    simp only [e187_1364, e187_1371, e187_1375, e187_1384, e187_1387, e187_1393, e187_1398, e187_1400, e187_1405, e187_1408, e187_1415, e187_1417, A1, B1, np_1, e1, e2, JM_161, JW_107, la, hv, lg_self, show (nI 0 = 0) = True from eq_true rfl, K0_v, K0_n, K0_x, K2_v, K2_n, K1_v, K1_n, K1_x, bI_s, bJ_s, bV_s, bS_s, l_10, l_00, bz_01, bz_0, bz_1, em_n, if_true, if_false, ite_not, ite_true, ite_false, not_true_eq_false, not_false_eq_true, or_true, true_or]
  · have hz : (nI t' = 0) = False := eq_false (nI_ne0 (by omega) (by omega))
    simp only [e187_1364, e187_1371, e187_1375, e187_1384, e187_1387, e187_1393, e187_1398, e187_1400, e187_1405, e187_1408, e187_1415, e187_1417, A1, B1, np_1, e1, e2, JM_161, JW_107, hz, K0_v, K0_n, K0_x, K2_v, K2_n, K1_v, K1_n, K1_x, bI_s, bJ_s, bV_s, bS_s, l_10, l_00, bz_01, bz_0, bz_1, em_n, if_true, if_false, ite_not, ite_true, ite_false, not_true_eq_false, not_false_eq_true, or_true, true_or]
theorem b_18 {i : Nat} (hL : L ≤ 4096) (hi : i + 8 ≤ L) : BO L s 1420 i := by
  intro σ tg ad c g f t K1 K2 l5 l6 hI
  obtain ⟨σ', tg', ad', c', g', f', t', v, o, e1, e2, ho, hv, ht, hI'⟩ := step (t := t) (wy := 184) (ov := Int32.toInt64) hI (J_persons hI.1.1 hI.2.1 (s (i + 1))) (fun σ0 σ' tg' ad' c' g' r o n a1 a2 a3 => w_184 a1 a2 a3)
  have A1 := JW_get (σ := σ) (g := g) (d := c) (t := t) (f := f) hI.1 hI.2.2.2.2.1 hL (show i + 1 < L by omega)
  have B1 := JW_get (σ := σ') (g := g') (d := c) (t := t) (f := f) hI'.1 hI'.2.2.2.2.1 hL (show i + 1 < L by omega)
  have la := JW_lar (σ := σ') (g := g') (d := c') (t := t') (f := f') hI'.1 ho
  refine ⟨σ', tg', ad', c', g', f', t', .int (nI t'), .int v, ?_, hI'⟩
  by_cases h0 : t' = 0
  · have hv := hv h0
    subst h0
    simp only [e187_1420, e187_1427, e187_1431, e187_1440, e187_1443, e187_1449, e187_1454, e187_1456, e187_1461, e187_1464, e187_1471, e187_1473, A1, B1, np_1, e1, e2, JM_162, JW_107, la, hv, lg_self, show (nI 0 = 0) = True from eq_true rfl, K0_v, K0_n, K0_x, K2_v, K2_n, K1_v, K1_n, K1_x, bI_s, bJ_s, bV_s, bS_s, l_10, l_00, bz_01, bz_0, bz_1, em_n, if_true, if_false, ite_not, ite_true, ite_false, not_true_eq_false, not_false_eq_true, or_true, true_or]
  · have hz : (nI t' = 0) = False := eq_false (nI_ne0 (by omega) (by omega))
    simp only [e187_1420, e187_1427, e187_1431, e187_1440, e187_1443, e187_1449, e187_1454, e187_1456, e187_1461, e187_1464, e187_1471, e187_1473, A1, B1, np_1, e1, e2, JM_162, JW_107, hz, K0_v, K0_n, K0_x, K2_v, K2_n, K1_v, K1_n, K1_x, bI_s, bJ_s, bV_s, bS_s, l_10, l_00, bz_01, bz_0, bz_1, em_n, if_true, if_false, ite_not, ite_true, ite_false, not_true_eq_false, not_false_eq_true, or_true, true_or]
theorem b_19 {i : Nat} (hL : L ≤ 4096) (hi : i + 8 ≤ L) : BO L s 1476 i := by
  intro σ tg ad c g f t K1 K2 l5 l6 hI
  obtain ⟨σ', tg', ad', c', g', f', t', v, o, e1, e2, ho, hv, ht, hI'⟩ := step (t := t) (wy := 185) (ov := Int32.toInt64) hI (J_mark hI.1.1 hI.2.1 (s (i + 1)) (s (i + 2)) (s (i + 3)) (s (i + 4)) (s (i + 5)) (s (i + 6))) (fun σ0 σ' tg' ad' c' g' r o n a1 a2 a3 => w_185 a1 a2 a3)
  have A1 := JW_get (σ := σ) (g := g) (d := c) (t := t) (f := f) hI.1 hI.2.2.2.2.1 hL (show i + 1 < L by omega)
  have B1 := JW_get (σ := σ') (g := g') (d := c) (t := t) (f := f) hI'.1 hI'.2.2.2.2.1 hL (show i + 1 < L by omega)
  have A2 := JW_get (σ := σ) (g := g) (d := c) (t := t) (f := f) hI.1 hI.2.2.2.2.1 hL (show i + 2 < L by omega)
  have B2 := JW_get (σ := σ') (g := g') (d := c) (t := t) (f := f) hI'.1 hI'.2.2.2.2.1 hL (show i + 2 < L by omega)
  have A3 := JW_get (σ := σ) (g := g) (d := c) (t := t) (f := f) hI.1 hI.2.2.2.2.1 hL (show i + 3 < L by omega)
  have B3 := JW_get (σ := σ') (g := g') (d := c) (t := t) (f := f) hI'.1 hI'.2.2.2.2.1 hL (show i + 3 < L by omega)
  have A4 := JW_get (σ := σ) (g := g) (d := c) (t := t) (f := f) hI.1 hI.2.2.2.2.1 hL (show i + 4 < L by omega)
  have B4 := JW_get (σ := σ') (g := g') (d := c) (t := t) (f := f) hI'.1 hI'.2.2.2.2.1 hL (show i + 4 < L by omega)
  have A5 := JW_get (σ := σ) (g := g) (d := c) (t := t) (f := f) hI.1 hI.2.2.2.2.1 hL (show i + 5 < L by omega)
  have B5 := JW_get (σ := σ') (g := g') (d := c) (t := t) (f := f) hI'.1 hI'.2.2.2.2.1 hL (show i + 5 < L by omega)
  have A6 := JW_get (σ := σ) (g := g) (d := c) (t := t) (f := f) hI.1 hI.2.2.2.2.1 hL (show i + 6 < L by omega)
  have B6 := JW_get (σ := σ') (g := g') (d := c) (t := t) (f := f) hI'.1 hI'.2.2.2.2.1 hL (show i + 6 < L by omega)
  have la := JW_lar (σ := σ') (g := g') (d := c') (t := t') (f := f') hI'.1 ho
  refine ⟨σ', tg', ad', c', g', f', t', .int (nI t'), .int v, ?_, hI'⟩
  by_cases h0 : t' = 0
  · have hv := hv h0
    subst h0
    simp only [e187_1476, e187_1483, e187_1489, e187_1495, e187_1501, e187_1507, e187_1514, e187_1518, e187_1527, e187_1533, e187_1539, e187_1545, e187_1551, e187_1558, e187_1561, e187_1567, e187_1572, e187_1574, e187_1579, e187_1582, e187_1589, e187_1591, A1, A2, A3, A4, A5, A6, B1, B2, B3, B4, B5, B6, np_1, np_2, np_3, np_4, np_5, np_6, e1, e2, JM_165, JW_107, la, hv, lg_self, show (nI 0 = 0) = True from eq_true rfl, K0_v, K0_n, K0_x, K2_v, K2_n, K1_v, K1_n, K1_x, bI_s, bJ_s, bV_s, bS_s, l_10, l_00, bz_01, bz_0, bz_1, em_n, if_true, if_false, ite_not, ite_true, ite_false, not_true_eq_false, not_false_eq_true, or_true, true_or]
  · have hz : (nI t' = 0) = False := eq_false (nI_ne0 (by omega) (by omega))
    simp only [e187_1476, e187_1483, e187_1489, e187_1495, e187_1501, e187_1507, e187_1514, e187_1518, e187_1527, e187_1533, e187_1539, e187_1545, e187_1551, e187_1558, e187_1561, e187_1567, e187_1572, e187_1574, e187_1579, e187_1582, e187_1589, e187_1591, A1, A2, A3, A4, A5, A6, B1, B2, B3, B4, B5, B6, np_1, np_2, np_3, np_4, np_5, np_6, e1, e2, JM_165, JW_107, hz, K0_v, K0_n, K0_x, K2_v, K2_n, K1_v, K1_n, K1_x, bI_s, bJ_s, bV_s, bS_s, l_10, l_00, bz_01, bz_0, bz_1, em_n, if_true, if_false, ite_not, ite_true, ite_false, not_true_eq_false, not_false_eq_true, or_true, true_or]
theorem b_20 {i : Nat} (hL : L ≤ 4096) (hi : i + 8 ≤ L) : BO L s 1594 i := by
  intro σ tg ad c g f t K1 K2 l5 l6 hI
  obtain ⟨σ', tg', ad', c', g', f', t', v, o, e1, e2, ho, hv, ht, hI'⟩ := step (t := t) (wy := 186) (ov := Int32.toInt64) hI (J_agree hI.1.1 hI.2.1 (s (i + 1)) (s (i + 2)) (s (i + 3)) (s (i + 4)) (s (i + 5))) (fun σ0 σ' tg' ad' c' g' r o n a1 a2 a3 => w_186 a1 a2 a3)
  have A1 := JW_get (σ := σ) (g := g) (d := c) (t := t) (f := f) hI.1 hI.2.2.2.2.1 hL (show i + 1 < L by omega)
  have B1 := JW_get (σ := σ') (g := g') (d := c) (t := t) (f := f) hI'.1 hI'.2.2.2.2.1 hL (show i + 1 < L by omega)
  have A2 := JW_get (σ := σ) (g := g) (d := c) (t := t) (f := f) hI.1 hI.2.2.2.2.1 hL (show i + 2 < L by omega)
  have B2 := JW_get (σ := σ') (g := g') (d := c) (t := t) (f := f) hI'.1 hI'.2.2.2.2.1 hL (show i + 2 < L by omega)
  have A3 := JW_get (σ := σ) (g := g) (d := c) (t := t) (f := f) hI.1 hI.2.2.2.2.1 hL (show i + 3 < L by omega)
  have B3 := JW_get (σ := σ') (g := g') (d := c) (t := t) (f := f) hI'.1 hI'.2.2.2.2.1 hL (show i + 3 < L by omega)
  have A4 := JW_get (σ := σ) (g := g) (d := c) (t := t) (f := f) hI.1 hI.2.2.2.2.1 hL (show i + 4 < L by omega)
  have B4 := JW_get (σ := σ') (g := g') (d := c) (t := t) (f := f) hI'.1 hI'.2.2.2.2.1 hL (show i + 4 < L by omega)
  have A5 := JW_get (σ := σ) (g := g) (d := c) (t := t) (f := f) hI.1 hI.2.2.2.2.1 hL (show i + 5 < L by omega)
  have B5 := JW_get (σ := σ') (g := g') (d := c) (t := t) (f := f) hI'.1 hI'.2.2.2.2.1 hL (show i + 5 < L by omega)
  have la := JW_lar (σ := σ') (g := g') (d := c') (t := t') (f := f') hI'.1 ho
  refine ⟨σ', tg', ad', c', g', f', t', .int (nI t'), .int v, ?_, hI'⟩
  by_cases h0 : t' = 0
  · have hv := hv h0
    subst h0
    simp only [e187_1594, e187_1601, e187_1607, e187_1613, e187_1619, e187_1625, e187_1629, e187_1638, e187_1644, e187_1650, e187_1656, e187_1662, e187_1665, e187_1671, e187_1676, e187_1678, e187_1683, e187_1686, e187_1693, e187_1695, A1, A2, A3, A4, A5, B1, B2, B3, B4, B5, np_1, np_2, np_3, np_4, np_5, e1, e2, JM_166, JW_107, la, hv, lg_self, show (nI 0 = 0) = True from eq_true rfl, K0_v, K0_n, K0_x, K2_v, K2_n, K1_v, K1_n, K1_x, bI_s, bJ_s, bV_s, bS_s, l_10, l_00, bz_01, bz_0, bz_1, em_n, if_true, if_false, ite_not, ite_true, ite_false, not_true_eq_false, not_false_eq_true, or_true, true_or]
  · have hz : (nI t' = 0) = False := eq_false (nI_ne0 (by omega) (by omega))
    simp only [e187_1594, e187_1601, e187_1607, e187_1613, e187_1619, e187_1625, e187_1629, e187_1638, e187_1644, e187_1650, e187_1656, e187_1662, e187_1665, e187_1671, e187_1676, e187_1678, e187_1683, e187_1686, e187_1693, e187_1695, A1, A2, A3, A4, A5, B1, B2, B3, B4, B5, np_1, np_2, np_3, np_4, np_5, e1, e2, JM_166, JW_107, hz, K0_v, K0_n, K0_x, K2_v, K2_n, K1_v, K1_n, K1_x, bI_s, bJ_s, bV_s, bS_s, l_10, l_00, bz_01, bz_0, bz_1, em_n, if_true, if_false, ite_not, ite_true, ite_false, not_true_eq_false, not_false_eq_true, or_true, true_or]
theorem b_5 {i : Nat} (hL : L ≤ 4096) (hi : i + 8 ≤ L) : BO L s 568 i := by
  intro σ tg ad c g f t K1 K2 l5 l6 hI
  obtain ⟨w, hr, hl, ⟨o, ho⟩, h0, k1, k2⟩ := hI
  have hsw : JW σ tg ad c g c t f = CW (MW σ (vN (u2 c 5 t)) f) tg ad c g := swap w
  have hl' : LO (MW σ (vN (u2 c 5 t)) f) := by
    unfold LO at *
    rw [MW_out (by decide)]
    exact hl
  obtain ⟨r, c', g', v, t', f', ⟨σ1, tg', ad', e1, wf, sb, b1, b2⟩, ro, hr', hok⟩ := J_clear w.1 hr (fun _ => 0) (MW σ (vN (u2 c 5 t)) f) tg ad w hl'
  have es : σ1 = MW σ1 (vN (u2 c 5 t)) f := SB_MW sb
  have e3 : CW σ1 tg' ad' c' g' = JW σ1 tg' ad' c' g' c t f := by
    unfold JW
    rw [swap wf, ← es]
  rcases hok with ⟨hv, ht⟩ | ⟨e, he, ht, ht0, ht4⟩
  · subst hv
    have hm : mm_Mo 37 2 [] (JW σ tg ad c g c t f) = some (.inl (some (.int v)), JW σ1 tg' ad' c' g' c t f) := by
      rw [hsw, aM_37, e1, e3]
    have r2 := ro (CW σ1 tg' ad' c' g') t
    have hm2 : mm_Mo 126 11 [] (JW σ1 tg' ad' c' g' c t f) = some (.inl (some (.int v)), JW σ1 tg' ad' c' g' c' t' f') := r2
    refine ⟨σ1, tg', ad', c', g', f', t', l5, l6, ?_, wf, hr', ?_, ⟨o, ?_⟩, ?_, Nat.le_trans b1 (Nat.add_le_add_right k1 8), Nat.le_trans b2 (Nat.add_le_add_right k2 400)⟩
    · simp only [e187_568, e187_572, e187_576, e187_579, hm, hm2, K0_v, K0_n, K0_x, K2_v, K2_n, K1_v, K1_n, K1_x, bI_s, bJ_s, bV_s, bS_s, l_10, l_00, bz_01, bz_0, bz_1, em_n, if_true, if_false, ite_not, ite_true, ite_false, not_true_eq_false, not_false_eq_true, or_true, true_or]
    · unfold LO at *
      rw [sb 1 (by decide) (by decide)]
      exact hl'
    · unfold OUT at *
      rw [sb 34 (by decide) (by decide), MW_out (by decide)]
      exact ho
    · rw [sb 0 (by decide) (by decide), MW_out (by decide)]
      exact h0
  · exact absurd ht ht0
end
