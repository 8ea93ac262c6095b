/-! LEVEL 2: which tags stand -/
def LI (c : Nat → Nat) (k i : Nat) : Prop := (k = 1 ∧ i < c 0) ∨ ((k = 2 ∨ k = 3 ∨ k = 4) ∧ i < c 1) ∨ (k = 5 ∧ i < c 2) ∨ ((k = 6 ∨ k = 7) ∧ i < c 3) ∨ ((k = 8 ∨ k = 9) ∧ i < c 4) ∨ (k = 10 ∧ i / 1000 < c 4 ∧ i % 1000 < c (100 + i / 1000))
def BD (c : Nat → Nat) : Prop := c 0 ≤ 30 ∧ c 1 ≤ 14 ∧ c 2 ≤ 8 ∧ c 3 ≤ 6 ∧ c 4 ≤ 24 ∧ ∀ i, i < c 4 → c (100 + i) ≤ 120 ∧ c (200 + i) ≤ i ∧ c (300 + i) ≤ i
def WP (P : Nat → Nat → Prop) (tg : Nat → Nat × Nat) (ad : Nat × Nat → Nat) (n : Nat) : Prop := (∀ k i, P k i → LV tg ad k i ∧ k ≠ 0) ∧ (∀ a, (tg a).1 ≠ 0 → P (tg a).1 (tg a).2 ∧ ad (tg a) = a ∧ 11 ≤ a ∧ a < n) ∧ 11 ≤ n
def WF (tg : Nat → Nat × Nat) (ad : Nat × Nat → Nat) (c : Nat → Nat) (n : Nat) : Prop := BD c ∧ WP (LI c) tg ad n
section
variable {P Q : Nat → Nat → Prop} {σ : mm_S} {tg : Nat → Nat × Nat} {ad : Nat × Nat → Nat} {c : Nat → Nat} {g : Nat → Nat → Int32} {n : Nat}
theorem WP.IN (h : WP P tg ad n) : IN tg ad n := fun a q => (h.2.1 a q).2
theorem WP.no (h : WP P tg ad n) {a : Nat} (ha : a < 11 ∨ n ≤ a) : (tg a).1 = 0 := by
  by_cases e : (tg a).1 = 0
  · exact e
  · have := (h.2.1 a e).2
    omega
theorem WP.up (h : WP P tg ad n) {n' : Nat} (hn : n ≤ n') : WP P tg ad n' := ⟨h.1, fun a q => ⟨(h.2.1 a q).1, (h.2.1 a q).2.1, (h.2.1 a q).2.2.1, by have := (h.2.1 a q).2.2.2; omega⟩, by have := h.2.2; omega⟩
theorem WP.iff (h : WP P tg ad n) (hq : ∀ k i, P k i ↔ Q k i) : WP Q tg ad n := ⟨fun k i q => h.1 k i ((hq k i).mpr q), fun a q => ⟨(hq _ _).mp (h.2.1 a q).1, (h.2.1 a q).2⟩, h.2.2⟩
/-- one more tag -/
def PA (P : Nat → Nat → Prop) (K I : Nat) (k i : Nat) : Prop := P k i ∨ (k = K ∧ i = I)
theorem WP.add (h : WP P tg ad n) {K I a n' : Nat} (hK : K ≠ 0) (hN : ¬ P K I) (ht : (tg a).1 = 0) (h35 : 11 ≤ a) (hn : n ≤ n') (ha : a < n') : WP (PA P K I) (u2 tg a (K, I)) (u2 ad (K, I) a) n' := by
  have h0 := h.2.2
  refine ⟨?_, ?_, by omega⟩
  · rintro k i (q | ⟨rfl, rfl⟩)
    · have e : (k, i) ≠ (K, I) := by rintro ⟨⟩; exact hN q
      obtain ⟨⟨l1, l2⟩, l3⟩ := h.1 k i q
      have hne : ad (k, i) ≠ a := fun z => by rw [z] at l1; rw [l1] at ht; exact l3 ht
      unfold LV
      rw [u2_n e, u2_n hne]
      exact ⟨⟨l1, l2⟩, l3⟩
    · unfold LV
      rw [u2_s, u2_s]
      exact ⟨⟨rfl, by omega⟩, hK⟩
  · intro b hb
    by_cases e : b = a
    · subst e
      rw [u2_s]
      exact ⟨Or.inr ⟨rfl, rfl⟩, u2_s _ _ _, by omega, by omega⟩
    · rw [u2_n e] at hb ⊢
      obtain ⟨l1, l2, l3, l4⟩ := h.2.1 b hb
      refine ⟨Or.inl l1, ?_, l3, by omega⟩
      rw [u2_n]
      · exact l2
      · intro z
        rw [z] at l1
        exact hN l1
theorem WP.cw (h : WP P tg ad σ.2.1) {g' : Nat → Nat → Int32} {K I a : Nat} {o : mm_O} (hK : K ≠ 0) (hN : ¬ P K I) (ht : (tg a).1 = 0) (h35 : 11 ≤ a) (ho : σ.1 a = some o) (hc : CO (u2 ad (K, I) a) c g' K I = o)
    (hs : ∀ k i, P k i → CO (u2 ad (K, I) a) c g' k i = CO ad c g k i)
    (hl : (K = 1 → c 0 ≤ I) ∧ (K = 2 → c 1 ≤ I) ∧ (K = 5 → c 2 ≤ I) ∧ (K = 6 → c 3 ≤ I) ∧ (K = 8 → c 4 ≤ I)) (h8 : g' 28 = g 28) (h9 : g' 36 = g 36) (h10 : g' 37 = g 37) :
    CW σ tg ad c g = CW σ (u2 tg a (K, I)) (u2 ad (K, I) a) c g' := CW_tag hK h35 ht ho hc (fun b _ hb => hs _ _ (h.2.1 b hb).1) hl h8 h9 h10
theorem WF.up (h : WF tg ad c n) {n' : Nat} (hn : n ≤ n') : WF tg ad c n' := ⟨h.1, h.2.up hn⟩
theorem WF.lv (h : WF tg ad c n) {k i : Nat} (q : LI c k i) : LV tg ad k i := (h.2.1 k i q).1
theorem WF.s (h : WF tg ad c n) {i : Nat} (q : i < c 0) : LV tg ad 1 i := h.lv (Or.inl ⟨rfl, q⟩)
theorem WF.i (h : WF tg ad c n) {i : Nat} (q : i < c 1) : LV tg ad 2 i ∧ LV tg ad 3 i ∧ LV tg ad 4 i := ⟨h.lv (Or.inr (Or.inl ⟨Or.inl rfl, q⟩)), h.lv (Or.inr (Or.inl ⟨Or.inr (Or.inl rfl), q⟩)), h.lv (Or.inr (Or.inl ⟨Or.inr (Or.inr rfl), q⟩))⟩
theorem WF.f (h : WF tg ad c n) {i : Nat} (q : i < c 2) : LV tg ad 5 i := h.lv (Or.inr (Or.inr (Or.inl ⟨rfl, q⟩)))
theorem WF.r (h : WF tg ad c n) {i : Nat} (q : i < c 3) : LV tg ad 6 i ∧ LV tg ad 7 i := ⟨h.lv (Or.inr (Or.inr (Or.inr (Or.inl ⟨Or.inl rfl, q⟩)))), h.lv (Or.inr (Or.inr (Or.inr (Or.inl ⟨Or.inr rfl, q⟩))))⟩
theorem WF.cl (h : WF tg ad c n) {i : Nat} (q : i < c 4) : LV tg ad 8 i ∧ LV tg ad 9 i := ⟨h.lv (Or.inr (Or.inr (Or.inr (Or.inr (Or.inl ⟨Or.inl rfl, q⟩))))), h.lv (Or.inr (Or.inr (Or.inr (Or.inr (Or.inl ⟨Or.inr rfl, q⟩)))))⟩
theorem WF.m (h : WF tg ad c n) {i m : Nat} (q : i < c 4) (q2 : m < c (100 + i)) : LV tg ad 10 (1000 * i + m) := by
  have b := h.1.2.2.2.2.2 i q
  refine h.lv (Or.inr (Or.inr (Or.inr (Or.inr (Or.inr ⟨rfl, ?_, ?_⟩)))))
  · rw [show (1000 * i + m) / 1000 = i by omega]; exact q
  · rw [show (1000 * i + m) / 1000 = i by omega, show (1000 * i + m) % 1000 = m by omega]; exact q2
-- rows of seven
def w7 (f : Nat → Nat → Int32) (r i : Nat) (x : Nat → Int32) : Nat → Nat → Int32 := fun r' k => if r' = r ∧ 7 * i ≤ k ∧ k < 7 * i + 7 then x (k - 7 * i) else f r' k
theorem w7_at {f : Nat → Nat → Int32} {r i j : Nat} {x : Nat → Int32} (h : j < 7) : w7 f r i x r (7 * i + j) = x j := by
  unfold w7
  rw [if_pos ⟨rfl, by omega, by omega⟩]
  congr 1
  omega
theorem w7_r {f : Nat → Nat → Int32} {r r' i : Nat} {x : Nat → Int32} (h : r' ≠ r) : w7 f r i x r' = f r' := by
  funext k
  unfold w7
  rw [if_neg (fun q => h q.1)]
theorem w7_o {f : Nat → Nat → Int32} {r i k : Nat} {x : Nat → Int32} (h : k < 7 * i ∨ 7 * i + 7 ≤ k) : w7 f r i x r k = f r k := by
  unfold w7
  rw [if_neg (fun q => by omega)]
theorem w7_in {f : Nat → Nat → Int32} {r i k : Nat} {x : Nat → Int32} (h : 7 * i ≤ k ∧ k < 7 * i + 7) : w7 f r i x r k = x (k - 7 * i) := if_pos ⟨rfl, h⟩
theorem uf_w7 (f : Nat → Nat → Int32) (r i : Nat) (x : Nat → Int32) : uf (uf (uf (uf (uf (uf (uf f r (7 * i + 0) (x 0)) r (7 * i + 1) (x 1)) r (7 * i + 2) (x 2)) r (7 * i + 3) (x 3)) r (7 * i + 4) (x 4)) r (7 * i + 5) (x 5)) r (7 * i + 6) (x 6) = w7 f r i x := by
  funext r' k
  by_cases e : r' = r
  · subst e
    simp only [uf, upd, if_true]
    by_cases h : 7 * i ≤ k ∧ k < 7 * i + 7
    · rw [w7_in h]
      have : k = 7 * i + 0 ∨ k = 7 * i + 1 ∨ k = 7 * i + 2 ∨ k = 7 * i + 3 ∨ k = 7 * i + 4 ∨ k = 7 * i + 5 ∨ k = 7 * i + 6 := by omega
      rcases this with e | e | e | e | e | e | e <;> subst e <;> simp
    · rw [w7_o (by omega)]
      rw [if_neg (by omega), if_neg (by omega), if_neg (by omega), if_neg (by omega), if_neg (by omega), if_neg (by omega), if_neg (by omega)]
  · rw [w7_r e]
    simp only [uf, if_neg e]
-- made hands
theorem put_new {τ : mm_S} {o o' : mm_O} {w : Nat} : mm_put (mm_new τ o w) τ.2.1 o' = mm_new τ o' w := by
  refine Prod.ext (funext fun k => ?_) rfl
  show (if k = τ.2.1 then some o' else if k = τ.2.1 then some o else τ.1 k) = if k = τ.2.1 then some o' else τ.1 k
  split <;> rfl
theorem new_at {τ : mm_S} {o : mm_O} {w : Nat} : (mm_new τ o w).1 τ.2.1 = some o := if_pos rfl
theorem setf_new {τ : mm_S} {ci k w : Nat} {fs : List Value} {v : Value} (h : k < fs.length) : mm_setf (mm_new τ (.inl (ci, fs)) w) τ.2.1 ci k v = some (mm_new τ (.inl (ci, fs.set k v)) w) := by
  unfold mm_setf
  rw [new_at]
  show (if ci = ci ∧ k < fs.length then _ else _) = _
  rw [if_pos ⟨rfl, h⟩, put_new]
theorem rc_new {τ : mm_S} {ci w z : Nat} {fs : List Value} {As : List Value} (h : mm_own z = ci) : mm_Mo z τ.2.1 As (mm_new τ (.inl (ci, fs)) w) = mm_M z (.ref τ.2.1 :: As) (mm_new τ (.inl (ci, fs)) w) := if_pos (by
  unfold mm_rc mm_ci
  rw [new_at]
  show (ci == mm_own z) = true
  rw [h]; exact beq_self_eq_true ci)
end
