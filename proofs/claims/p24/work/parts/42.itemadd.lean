/-! LEVEL 2: the class's item is added -/
/-- an item, the hands told and the hands left have been made -/
def I2 (σ : mm_S) (fs : List Value) (x : Nat → Int32) : mm_S := (fun b => if b = σ.2.1 then some (.inl (2, fs)) else if b = σ.2.1 + 1 then some (.inl (1, l7 x)) else σ.1 b, σ.2.1 + 2, σ.2.2.1 + 2, σ.2.2.2 + 15)
def I3 (σ : mm_S) (fs : List Value) (x : Nat → Int32) (fy : List Value) : mm_S := (fun b => if b = σ.2.1 then some (.inl (2, fs)) else if b = σ.2.1 + 1 then some (.inl (1, l7 x)) else if b = σ.2.1 + 2 then some (.inl (1, fy)) else σ.1 b, σ.2.1 + 3, σ.2.2.1 + 3, σ.2.2.2 + 22)
theorem I2_eq (σ : mm_S) (fs : List Value) (x : Nat → Int32) : mm_new (mm_new σ (.inl (2, fs)) 8) (.inl (1, l7 x)) 7 = I2 σ fs x := by
  refine Prod.ext (funext fun b => ?_) rfl
  show (if b = σ.2.1 + 1 then _ else if b = σ.2.1 then _ else _) = if b = σ.2.1 then _ else if b = σ.2.1 + 1 then _ else _
  by_cases e : b = σ.2.1
  · rw [if_neg (by omega), if_pos e, if_pos e]
  · rw [if_neg e, if_neg e]
theorem I3_eq (σ : mm_S) (fs : List Value) (x : Nat → Int32) (fy : List Value) : mm_new (I2 σ fs x) (.inl (1, fy)) 7 = I3 σ fs x fy := by
  refine Prod.ext (funext fun b => ?_) rfl
  show (if b = σ.2.1 + 2 then _ else if b = σ.2.1 then _ else if b = σ.2.1 + 1 then _ else _) = if b = σ.2.1 then _ else if b = σ.2.1 + 1 then _ else if b = σ.2.1 + 2 then _ else _
  by_cases e : b = σ.2.1 + 2
  · rw [if_pos e, if_neg (by omega), if_neg (by omega), if_pos e]
  · rw [if_neg e, if_neg e]
theorem I2_put (σ : mm_S) (fs fs' : List Value) (x : Nat → Int32) : mm_put (I2 σ fs x) σ.2.1 (.inl (2, fs')) = I2 σ fs' x := by
  refine Prod.ext (funext fun b => ?_) rfl
  show (if b = σ.2.1 then _ else if b = σ.2.1 then _ else if b = σ.2.1 + 1 then _ else _) = if b = σ.2.1 then _ else if b = σ.2.1 + 1 then _ else _
  split <;> rfl
theorem I3_put (σ : mm_S) (fs fs' : List Value) (x : Nat → Int32) (fy : List Value) : mm_put (I3 σ fs x fy) σ.2.1 (.inl (2, fs')) = I3 σ fs' x fy := by
  refine Prod.ext (funext fun b => ?_) rfl
  show (if b = σ.2.1 then _ else if b = σ.2.1 then _ else if b = σ.2.1 + 1 then _ else if b = σ.2.1 + 2 then _ else _) = if b = σ.2.1 then _ else if b = σ.2.1 + 1 then _ else if b = σ.2.1 + 2 then _ else _
  split <;> rfl
theorem I2_n {σ : mm_S} {fs : List Value} {x : Nat → Int32} : (I2 σ fs x).2.1 = σ.2.1 + 2 := rfl
def gi (g : Nat → Nat → Int32) (I : Nat) (k a b : Int32) (x : Nat → Int32) : Nat → Nat → Int32 := fun r j =>
  if r = 13 ∧ j = I then k else if r = 14 ∧ j = I then a else if r = 15 ∧ j = I then b else if (r = 33 ∨ r = 34) ∧ 7 * I ≤ j ∧ j < 7 * I + 7 then x (j - 7 * I) else if r = 35 ∧ 3 * I ≤ j ∧ j < 3 * I + 3 then 0 else g r j
theorem gi_r {g : Nat → Nat → Int32} {I r : Nat} {k a b : Int32} {x : Nat → Int32} (h : r ≠ 13 ∧ r ≠ 14 ∧ r ≠ 15 ∧ r ≠ 33 ∧ r ≠ 34 ∧ r ≠ 35) : gi g I k a b x r = g r := by
  funext j
  unfold gi
  rw [if_neg (by omega), if_neg (by omega), if_neg (by omega), if_neg (by omega), if_neg (by omega)]
theorem gi_o {g : Nat → Nat → Int32} {I r j : Nat} {k a b : Int32} {x : Nat → Int32} (h : (r = 13 ∨ r = 14 ∨ r = 15 → j ≠ I) ∧ (r = 33 ∨ r = 34 → j < 7 * I ∨ 7 * I + 7 ≤ j) ∧ (r = 35 → j < 3 * I ∨ 3 * I + 3 ≤ j)) : gi g I k a b x r j = g r j := by
  unfold gi
  rw [if_neg (by omega), if_neg (by omega), if_neg (by omega), if_neg (by omega), if_neg (by omega)]
theorem gi_13 {g : Nat → Nat → Int32} {I : Nat} {k a b : Int32} {x : Nat → Int32} : gi g I k a b x 13 I = k := if_pos ⟨rfl, rfl⟩
theorem gi_14 {g : Nat → Nat → Int32} {I : Nat} {k a b : Int32} {x : Nat → Int32} : gi g I k a b x 14 I = a := by
  unfold gi
  rw [if_neg (by omega), if_pos ⟨rfl, rfl⟩]
theorem gi_15 {g : Nat → Nat → Int32} {I : Nat} {k a b : Int32} {x : Nat → Int32} : gi g I k a b x 15 I = b := by
  unfold gi
  rw [if_neg (by omega), if_neg (by omega), if_pos ⟨rfl, rfl⟩]
theorem gi_h {g : Nat → Nat → Int32} {I r j : Nat} {k a b : Int32} {x : Nat → Int32} (hr : r = 33 ∨ r = 34) (hj : j < 7) : gi g I k a b x r (7 * I + j) = x j := by
  unfold gi
  rw [if_neg (by omega), if_neg (by omega), if_neg (by omega), if_pos ⟨hr, by omega, by omega⟩]
  congr 1
  omega
theorem gi_35 {g : Nat → Nat → Int32} {I j : Nat} {k a b : Int32} {x : Nat → Int32} (hj : j < 3) : gi g I k a b x 35 (3 * I + j) = 0 := by
  unfold gi
  rw [if_neg (by omega), if_neg (by omega), if_neg (by omega), if_neg (by omega), if_pos ⟨rfl, by omega, by omega⟩]
section
variable {σ : mm_S} {tg : Nat → Nat × Nat} {ad : Nat × Nat → Nat} {c : Nat → Nat} {g : Nat → Nat → Int32}
theorem setf_un {a ci k : Nat} {fs : List Value} {v : Value} (h35 : 11 ≤ a) (ht : (tg a).1 = 0) (ho : σ.1 a = some (.inl (ci, fs))) (hk : k < fs.length) : mm_setf (CW σ tg ad c g) a ci k v = some (CW (mm_put σ a (.inl (ci, fs.set k v))) tg ad c g) := by
  unfold mm_setf
  rw [CW_new h35 ht, ho]
  show (if ci = ci ∧ k < fs.length then _ else _) = _
  rw [if_pos ⟨rfl, hk⟩, CW_pnew h35 ht]
theorem I2_set (w : WF tg ad c σ.2.1) {k : Nat} {fs : List Value} {v : Value} {x : Nat → Int32} (hk : k < fs.length) : mm_setf (CW (I2 σ fs x) tg ad c g) σ.2.1 2 k v = some (CW (I2 σ (fs.set k v) x) tg ad c g) := by
  rw [setf_un w.2.2.2 (w.2.no (Or.inr (Nat.le_refl _))) (show (I2 σ fs x).1 σ.2.1 = _ from if_pos rfl) hk, I2_put]
theorem I3_set (w : WF tg ad c σ.2.1) {k : Nat} {fs fy : List Value} {v : Value} {x : Nat → Int32} (hk : k < fs.length) : mm_setf (CW (I3 σ fs x fy) tg ad c g) σ.2.1 2 k v = some (CW (I3 σ (fs.set k v) x fy) tg ad c g) := by
  rw [setf_un w.2.2.2 (w.2.no (Or.inr (Nat.le_refl _))) (show (I3 σ fs x fy).1 σ.2.1 = _ from if_pos rfl) hk, I3_put]
theorem Hd_I2 (w : WF tg ad c σ.2.1) {fs : List Value} {x : Nat → Int32} : Hd (CW (I2 σ fs x) tg ad c g) (σ.2.1 + 1) x := by
  have h := w.2.2.2
  unfold Hd
  rw [CW_new (by omega) (w.2.no (Or.inr (by omega)))]
  show (if σ.2.1 + 1 = σ.2.1 then _ else if σ.2.1 + 1 = σ.2.1 + 1 then _ else _) = _
  rw [if_neg (by omega), if_pos rfl]
  rfl
theorem Hd_I3 (w : WF tg ad c σ.2.1) {fs fy : List Value} {x : Nat → Int32} : Hd (CW (I3 σ fs x fy) tg ad c g) (σ.2.1 + 1) x := by
  have h := w.2.2.2
  unfold Hd
  rw [CW_new (by omega) (w.2.no (Or.inr (by omega)))]
  show (if σ.2.1 + 1 = σ.2.1 then _ else if σ.2.1 + 1 = σ.2.1 + 1 then _ else _) = _
  rw [if_neg (by omega), if_pos rfl]
  rfl
theorem CW_mkn {τ : mm_S} {o : mm_O} {w n : Nat} (hI : IN tg ad n) (hn : n ≤ τ.2.1) (h35 : 11 ≤ τ.2.1) : mm_new (CW τ tg ad c g) o w = CW (mm_new τ o w) tg ad c g := CW_mk (fun a q => ⟨(hI a q).1, (hI a q).2.1, by have := (hI a q).2.2; omega⟩) h35
theorem c_12 (w : WF tg ad c σ.2.1) (k a b : Int32) (x : Nat → Int32) (hx : x 6 = if x 5 = 2 then x 6 else -1) : mm_Mo 12 σ.2.1 [.int k, .int a, .int b, .ref (σ.2.1 + 1)] (CW (I2 σ [.int 0, .int 0, .int 0, .null, .null, .int 0, .int 0, .int 0] x) tg ad c g) = some (.inl none, CW (I3 σ [.int k, .int a, .int b, .ref (σ.2.1 + 1), .ref (σ.2.1 + 2), .int 0, .int 0, .int 0] x (l7 x)) tg ad c g) := by
  have hrc : mm_Mo 12 σ.2.1 [.int k, .int a, .int b, .ref (σ.2.1 + 1)] (CW (I2 σ [.int 0, .int 0, .int 0, .null, .null, .int 0, .int 0, .int 0] x) tg ad c g) = mm_M 12 [.ref σ.2.1, .int k, .int a, .int b, .ref (σ.2.1 + 1)] (CW (I2 σ [.int 0, .int 0, .int 0, .null, .null, .int 0, .int 0, .int 0] x) tg ad c g) := if_pos (by
    unfold mm_rc mm_ci
    rw [CW_new w.2.2.2 (w.2.no (Or.inr (Nat.le_refl _))), show (I2 σ [.int 0, .int 0, .int 0, .null, .null, .int 0, .int 0, .int 0] x).1 σ.2.1 = _ from if_pos rfl]
    rfl)
  rw [hrc]
  have hI : ∀ fs, IN tg ad (I2 σ fs x).2.1 := fun fs a q => ⟨(w.2.IN a q).1, (w.2.IN a q).2.1, by have := (w.2.IN a q).2.2; show a < σ.2.1 + 2; omega⟩
  have h35 : ∀ fs, 11 ≤ (I2 σ fs x).2.1 := fun fs => by have := w.2.2.2; show 11 ≤ σ.2.1 + 2; omega
  have c6 : ∀ fs, mm_Mo 6 (σ.2.1 + 2) [.int (x 0), .int (x 1), .int (x 2), .int (x 3), .int (x 4), .int (x 5), .int (x 6)] (CW (I3 σ fs x [.int 0, .int 0, .int 0, .int 0, .int 0, .int 0, .int 0]) tg ad c g) = some (.inl none, CW (I3 σ fs x (l7 x)) tg ad c g) := by
    intro fs
    have q := c_6W (σ := I2 σ fs x) (tg := tg) (ad := ad) (c := c) (g := g) (hI fs) (h35 fs) (w := 7) (x 0) (x 1) (x 2) (x 3) (x 4) (x 5) (x 6)
    rw [I3_eq, I3_eq, I2_n] at q
    rw [q]
    have : l7 (f7 (x 0) (x 1) (x 2) (x 3) (x 4) (x 5) (x 6)) = l7 x := by
      show [Value.int (x 0), .int (x 1), .int (x 2), .int (x 3), .int (x 4), .int (x 5), .int (if x 5 = 2 then x 6 else -1)] = _
      rw [← hx]
      rfl
    rw [this]
  have mk : ∀ fs, mm_new (CW (I2 σ fs x) tg ad c g) (.inl (1, [.int 0, .int 0, .int 0, .int 0, .int 0, .int 0, .int 0])) 7 = CW (I3 σ fs x [.int 0, .int 0, .int 0, .int 0, .int 0, .int 0, .int 0]) tg ad c g := fun fs => by rw [CW_mk (hI fs) (h35 fs), I3_eq]
  simp only [M_12, e12_0, e12_9, e12_14, e12_19, e12_25, e12_35, e12_40, e12_45, e12_50, e12_55, e12_60, e12_65, e12_68, e12_71, I2_set w, I3_set w, List.length_cons, List.length_nil, List.set_cons_zero, List.set_cons_succ, Nat.reduceAdd, Nat.reduceLT, mk, CW_n, I2_n, hg_0 (Hd_I3 w), hg_1 (Hd_I3 w), hg_2 (Hd_I3 w), hg_3 (Hd_I3 w), hg_4 (Hd_I3 w), hg_5 (Hd_I3 w), hg_6 (Hd_I3 w), c6, K0_v, K0_n, K0_x, K2_v, K2_n, K1_v, K1_n, K1_x, bI_s, bJ_s, bV_s, bS_s, l_10, l_00, bz_01, bz_0, bz_1, em_n, if_true, if_false, ite_not, ite_true, ite_false, not_true_eq_false, not_false_eq_true, or_true, true_or]
end
