/-! LEVEL 2: the class as a world of tags: kinds 1 sign, 2 item, 3 told, 4 left, 5 span, 6 rule, 7 exceptions, 8 clip, 9 marks, 10 mark; counts c, rows g -/
def u2 {α β : Type} [DecidableEq α] (f : α → β) (a : α) (b : β) : α → β := fun x => if x = a then b else f x
theorem u2_s {α β : Type} [DecidableEq α] (f : α → β) (a : α) (b : β) : u2 f a b a = b := if_pos rfl
theorem u2_n {α β : Type} [DecidableEq α] {f : α → β} {a x : α} {b : β} (h : x ≠ a) : u2 f a b x = f x := if_neg h
def hn (r : Nat → Int32) (i : Nat) : List Value := [.int (r (7 * i + 0)), .int (r (7 * i + 1)), .int (r (7 * i + 2)), .int (r (7 * i + 3)), .int (r (7 * i + 4)), .int (r (7 * i + 5)), .int (r (7 * i + 6))]
def pr (ad : Nat × Nat → Nat) : Nat → Value
  | 0 => .null
  | k + 1 => .ref (ad (8, k))
def CO (ad : Nat × Nat → Nat) (c : Nat → Nat) (g : Nat → Nat → Int32) (k i : Nat) : mm_O := match k with
  | 1 => .inl (1, hn (g 12) i)
  | 2 => .inl (2, [.int (g 13 i), .int (g 14 i), .int (g 15 i), .ref (ad (3, i)), .ref (ad (4, i)), .int (g 35 (3 * i + 0)), .int (g 35 (3 * i + 1)), .int (g 35 (3 * i + 2))])
  | 3 => .inl (1, hn (g 34) i)
  | 4 => .inl (1, hn (g 33) i)
  | 5 => .inl (5, [.int (g 18 i), .int (g 19 i), .int (g 20 i)])
  | 6 => .inl (4, [.int (g 21 i), .ref (ad (7, i))])
  | 7 => .inr (.inl (1, 30, fun s => if s < 30 then g 22 (30 * i + s) else 0))
  | 8 => .inl (0, [.int (g 24 i), .int (g 25 i), pr ad (c (200 + i)), pr ad (c (300 + i)), .ref (ad (9, i)), .int (g 23 i)])
  | 9 => .inr (.inr (.inr ((List.range (c (100 + i))).map fun m => ad (10, 1000 * i + m))))
  | _ => .inl (3, [.int (g 40 i), .int (g 41 i), .int (g 42 i), .int (g 43 i), .int (g 44 i)])
def CH (σ : mm_S) (tg : Nat → Nat × Nat) (ad : Nat × Nat → Nat) (c : Nat → Nat) (g : Nat → Nat → Int32) (a : Nat) : Option mm_O :=
  if a = 2 then some (.inl (6, [.ref 3, .ref 4, .ref 5, .ref 6, .ref 7, .ref 8, .ref 9, .ref 10]))
  else if a = 3 then some (.inr (.inr (.inr ((List.range (c 0)).map fun k => ad (1, k)))))
  else if a = 4 then some (.inr (.inr (.inr ((List.range (c 1)).map fun k => ad (2, k)))))
  else if a = 5 then some (.inr (.inr (.inr ((List.range (c 2)).map fun k => ad (5, k)))))
  else if a = 6 then some (.inr (.inr (.inr ((List.range (c 3)).map fun k => ad (6, k)))))
  else if a = 7 then some (.inr (.inr (.inr ((List.range (c 4)).map fun k => ad (8, k)))))
  else if a = 8 then some (.inr (.inl (0, 3, g 28)))
  else if a = 9 then some (.inr (.inl (0, 200, g 36)))
  else if a = 10 then some (.inr (.inl (0, 200, g 37)))
  else if (tg a).1 = 0 then σ.1 a else some (CO ad c g (tg a).1 (tg a).2)
def CW (σ : mm_S) (tg : Nat → Nat × Nat) (ad : Nat × Nat → Nat) (c : Nat → Nat) (g : Nat → Nat → Int32) : mm_S := (CH σ tg ad c g, σ.2)
/-- tag (k, i) stands -/
def LV (tg : Nat → Nat × Nat) (ad : Nat × Nat → Nat) (k i : Nat) : Prop := tg (ad (k, i)) = (k, i) ∧ 11 ≤ ad (k, i)
/-- tags stand for one address each -/
def IN (tg : Nat → Nat × Nat) (ad : Nat × Nat → Nat) (n : Nat) : Prop := ∀ a, (tg a).1 ≠ 0 → ad (tg a) = a ∧ 11 ≤ a ∧ a < n
section
variable {σ : mm_S} {tg : Nat → Nat × Nat} {ad : Nat × Nat → Nat} {c : Nat → Nat} {g : Nat → Nat → Int32} {n : Nat}
theorem CW_ge {a : Nat} (h : 11 ≤ a) : (CW σ tg ad c g).1 a = if (tg a).1 = 0 then σ.1 a else some (CO ad c g (tg a).1 (tg a).2) := by
  show CH σ tg ad c g a = _
  unfold CH
  rw [if_neg (by omega), if_neg (by omega), if_neg (by omega), if_neg (by omega), if_neg (by omega), if_neg (by omega), if_neg (by omega), if_neg (by omega), if_neg (by omega)]
theorem CW_tg {k i : Nat} (h : LV tg ad k i) (hk : k ≠ 0) : (CW σ tg ad c g).1 (ad (k, i)) = some (CO ad c g k i) := by
  rw [CW_ge h.2, h.1, if_neg hk]
theorem CW_new {a : Nat} (h : 11 ≤ a) (h2 : (tg a).1 = 0) : (CW σ tg ad c g).1 a = σ.1 a := by
  rw [CW_ge h, if_pos h2]
theorem CW_mid {a : Nat} (h : a < 2 ∨ 10 < a) (h2 : (tg a).1 = 0) : (CW σ tg ad c g).1 a = σ.1 a := by
  show CH σ tg ad c g a = _
  unfold CH
  rw [if_neg (by omega), if_neg (by omega), if_neg (by omega), if_neg (by omega), if_neg (by omega), if_neg (by omega), if_neg (by omega), if_neg (by omega), if_neg (by omega), if_pos h2]
theorem CW_hi {a : Nat} (h : a < 2 ∨ 10 < a) : (CW σ tg ad c g).1 a = if (tg a).1 = 0 then σ.1 a else some (CO ad c g (tg a).1 (tg a).2) := by
  show CH σ tg ad c g a = _
  unfold CH
  rw [if_neg (by omega), if_neg (by omega), if_neg (by omega), if_neg (by omega), if_neg (by omega), if_neg (by omega), if_neg (by omega), if_neg (by omega), if_neg (by omega)]
theorem CO_cnt {j x k i : Nat} (hj : j < 5) : CO ad (u2 c j x) g k i = CO ad c g k i := by
  unfold CO
  split <;> first | rfl | (simp only [u2]; rw [if_neg (by omega), if_neg (by omega)]) | (simp only [u2]; rw [if_neg (by omega)])
theorem CW_lo {σ' : mm_S} {tg' : Nat → Nat × Nat} {ad' : Nat × Nat → Nat} {c' : Nat → Nat} {g' : Nat → Nat → Int32} {a : Nat} (h : ¬ (a < 2 ∨ 10 < a))
    (h3 : a = 3 → (List.range (c 0)).map (fun k => ad (1, k)) = (List.range (c' 0)).map (fun k => ad' (1, k))) (h4 : a = 4 → (List.range (c 1)).map (fun k => ad (2, k)) = (List.range (c' 1)).map (fun k => ad' (2, k)))
    (h5 : a = 5 → (List.range (c 2)).map (fun k => ad (5, k)) = (List.range (c' 2)).map (fun k => ad' (5, k))) (h6 : a = 6 → (List.range (c 3)).map (fun k => ad (6, k)) = (List.range (c' 3)).map (fun k => ad' (6, k)))
    (h7 : a = 7 → (List.range (c 4)).map (fun k => ad (8, k)) = (List.range (c' 4)).map (fun k => ad' (8, k))) (h8 : a = 8 → g 28 = g' 28) (h9 : a = 9 → g 36 = g' 36) (h10 : a = 10 → g 37 = g' 37) :
    (CW σ tg ad c g).1 a = (CW σ' tg' ad' c' g').1 a := by
  show CH σ tg ad c g a = CH σ' tg' ad' c' g' a
  have : a = 2 ∨ a = 3 ∨ a = 4 ∨ a = 5 ∨ a = 6 ∨ a = 7 ∨ a = 8 ∨ a = 9 ∨ a = 10 := by omega
  rcases this with e | e | e | e | e | e | e | e | e <;> subst e
  · rfl
  · show some _ = some _; rw [h3 rfl]
  · show some _ = some _; rw [h4 rfl]
  · show some _ = some _; rw [h5 rfl]
  · show some _ = some _; rw [h6 rfl]
  · show some _ = some _; rw [h7 rfl]
  · show some _ = some _; rw [h8 rfl]
  · show some _ = some _; rw [h9 rfl]
  · show some _ = some _; rw [h10 rfl]
/-- an object of a tag is put anew: the rows show it -/
theorem CW_put {c' : Nat → Nat} {g' : Nat → Nat → Int32} {k i : Nat} {o : mm_O} (hI : IN tg ad n) (h : LV tg ad k i) (hk : k ≠ 0) (ho : CO ad c' g' k i = o) (hc : c' 0 = c 0 ∧ c' 1 = c 1 ∧ c' 2 = c 2 ∧ c' 3 = c 3 ∧ c' 4 = c 4)
    (hs : ∀ k' i', ¬ (k' = k ∧ i' = i) → CO ad c' g' k' i' = CO ad c g k' i') (h8 : g' 28 = g 28) (h9 : g' 36 = g 36) (h10 : g' 37 = g 37) : mm_put (CW σ tg ad c g) (ad (k, i)) o = CW σ tg ad c' g' := by
  refine Prod.ext (funext fun a => ?_) rfl
  show (if a = ad (k, i) then some o else (CW σ tg ad c g).1 a) = _
  by_cases e : a = ad (k, i)
  · subst e
    rw [if_pos rfl, CW_tg h hk, ho]
  · rw [if_neg e]
    by_cases e2 : a < 2 ∨ 10 < a
    · by_cases e3 : (tg a).1 = 0
      · rw [CW_mid e2 e3, CW_mid e2 e3]
      · obtain ⟨i1, i2, i3⟩ := hI a e3
        rw [CW_ge i2, CW_ge i2, if_neg e3, if_neg e3, hs]
        rintro ⟨q1, q2⟩
        apply e
        rw [← i1, ← q1, ← q2]
    · exact CW_lo e2 (fun _ => by rw [hc.1]) (fun _ => by rw [hc.2.1]) (fun _ => by rw [hc.2.2.1]) (fun _ => by rw [hc.2.2.2.1]) (fun _ => by rw [hc.2.2.2.2]) (fun _ => h8.symm) (fun _ => h9.symm) (fun _ => h10.symm)
theorem CW_n : (CW σ tg ad c g).2 = σ.2 := rfl
theorem CW_bmp {x y : Nat} : mm_bmp (CW σ tg ad c g) x y = CW (mm_bmp σ x y) tg ad c g := rfl
theorem CW_mk {o : mm_O} {w : Nat} (hI : IN tg ad σ.2.1) (h35 : 11 ≤ σ.2.1) : mm_new (CW σ tg ad c g) o w = CW (mm_new σ o w) tg ad c g := by
  refine Prod.ext (funext fun a => ?_) rfl
  show (if a = σ.2.1 then some o else (CW σ tg ad c g).1 a) = _
  have ht : (tg σ.2.1).1 = 0 := by
    by_cases e : (tg σ.2.1).1 = 0
    · exact e
    · exact absurd (hI _ e).2.2 (by omega)
  by_cases e : a = σ.2.1
  · subst e
    rw [if_pos rfl, CW_new h35 ht]
    exact (if_pos rfl).symm
  · rw [if_neg e]
    by_cases e2 : a < 2 ∨ 10 < a
    · by_cases e3 : (tg a).1 = 0
      · rw [CW_mid e2 e3, CW_mid e2 e3]
        exact (if_neg e).symm
      · obtain ⟨i1, i2, i3⟩ := hI a e3
        rw [CW_ge i2, CW_ge i2, if_neg e3, if_neg e3]
    · exact CW_lo e2 (fun _ => rfl) (fun _ => rfl) (fun _ => rfl) (fun _ => rfl) (fun _ => rfl) (fun _ => rfl) (fun _ => rfl) (fun _ => rfl)
theorem CW_pnew {o : mm_O} {a : Nat} (h35 : 11 ≤ a) (ht : (tg a).1 = 0) : mm_put (CW σ tg ad c g) a o = CW (mm_put σ a o) tg ad c g := by
  refine Prod.ext (funext fun b => ?_) rfl
  show (if b = a then some o else (CW σ tg ad c g).1 b) = _
  by_cases e : b = a
  · subst e
    rw [if_pos rfl, CW_new h35 ht]
    exact (if_pos rfl).symm
  · rw [if_neg e]
    by_cases e2 : b < 2 ∨ 10 < b
    · by_cases e3 : (tg b).1 = 0
      · rw [CW_mid e2 e3, CW_mid e2 e3]
        exact (if_neg e).symm
      · have i2 : 11 ≤ b ∨ b < 11 := by omega
        show CH σ tg ad c g b = CH _ tg ad c g b
        unfold CH
        rw [if_neg (by omega), if_neg (by omega), if_neg (by omega), if_neg (by omega), if_neg (by omega), if_neg (by omega), if_neg (by omega), if_neg (by omega), if_neg (by omega), if_neg e3, if_neg (by omega), if_neg (by omega), if_neg (by omega), if_neg (by omega), if_neg (by omega), if_neg (by omega), if_neg (by omega), if_neg (by omega), if_neg (by omega), if_neg e3]
    · exact CW_lo e2 (fun _ => rfl) (fun _ => rfl) (fun _ => rfl) (fun _ => rfl) (fun _ => rfl) (fun _ => rfl) (fun _ => rfl) (fun _ => rfl)
/-- a made object takes a tag -/
theorem CW_tag {g' : Nat → Nat → Int32} {k i a : Nat} {o : mm_O} (hk : k ≠ 0) (h35 : 11 ≤ a) (ht : (tg a).1 = 0) (ho : σ.1 a = some o) (hc : CO (u2 ad (k, i) a) c g' k i = o)
    (hs : ∀ b, b ≠ a → (tg b).1 ≠ 0 → CO (u2 ad (k, i) a) c g' (tg b).1 (tg b).2 = CO ad c g (tg b).1 (tg b).2)
    (hl : (k = 1 → c 0 ≤ i) ∧ (k = 2 → c 1 ≤ i) ∧ (k = 5 → c 2 ≤ i) ∧ (k = 6 → c 3 ≤ i) ∧ (k = 8 → c 4 ≤ i)) (h8 : g' 28 = g 28) (h9 : g' 36 = g 36) (h10 : g' 37 = g 37) :
    CW σ tg ad c g = CW σ (u2 tg a (k, i)) (u2 ad (k, i) a) c g' := by
  refine Prod.ext (funext fun b => ?_) rfl
  have hm : ∀ {K N : Nat}, (k = K → N ≤ i) → (List.range N).map (fun k => ad (K, k)) = (List.range N).map (fun j => u2 ad (k, i) a (K, j)) := fun {K N} h => List.map_congr_left fun x hx => by
    rw [u2_n]
    rintro q
    injection q with q1 q2
    have := h q1.symm
    have := List.mem_range.mp hx
    omega
  by_cases e2 : b < 2 ∨ 10 < b
  · by_cases e : b = a
    · subst e
      rw [CW_mid e2 ht, ho, CW_ge h35, u2_s, if_neg hk, hc]
    · by_cases e3 : (tg b).1 = 0
      · rw [CW_mid e2 e3, CW_mid e2 (by rw [u2_n e]; exact e3)]
      · show CH σ tg ad c g b = CH σ _ _ c g' b
        unfold CH
        rw [if_neg (by omega), if_neg (by omega), if_neg (by omega), if_neg (by omega), if_neg (by omega), if_neg (by omega), if_neg (by omega), if_neg (by omega), if_neg (by omega), if_neg e3, if_neg (by omega), if_neg (by omega), if_neg (by omega), if_neg (by omega), if_neg (by omega), if_neg (by omega), if_neg (by omega), if_neg (by omega), if_neg (by omega), u2_n e, if_neg e3, hs b e e3]
  · exact CW_lo e2 (fun _ => hm hl.1) (fun _ => hm hl.2.1) (fun _ => hm hl.2.2.1) (fun _ => hm hl.2.2.2.1) (fun _ => hm hl.2.2.2.2) (fun _ => h8.symm) (fun _ => h9.symm) (fun _ => h10.symm)
theorem cf_0 : mm_getr (CW σ tg ad c g) 2 6 0 = some (.ref 3) := rfl
theorem cf_1 : mm_getr (CW σ tg ad c g) 2 6 1 = some (.ref 4) := rfl
theorem cf_2 : mm_getr (CW σ tg ad c g) 2 6 2 = some (.ref 5) := rfl
theorem cf_3 : mm_getr (CW σ tg ad c g) 2 6 3 = some (.ref 6) := rfl
theorem cf_4 : mm_getr (CW σ tg ad c g) 2 6 4 = some (.ref 7) := rfl
theorem cf_5 : mm_getr (CW σ tg ad c g) 2 6 5 = some (.ref 8) := rfl
theorem cf_6 : mm_getr (CW σ tg ad c g) 2 6 6 = some (.ref 9) := rfl
theorem cf_7 : mm_getr (CW σ tg ad c g) 2 6 7 = some (.ref 10) := rfl
theorem cl_3 : mm_lst (CW σ tg ad c g) 3 = some ((List.range (c 0)).map fun k => ad (1, k)) := rfl
theorem cz_3 : mm_lsz (CW σ tg ad c g) 3 = some (nI (c 0)) := by
  unfold mm_lsz
  rw [cl_3]
  simp [nI]
theorem cg_3 {k : Nat} (h : k < c 0) (hb : c 0 ≤ 60000) : mm_lgt (CW σ tg ad c g) 3 (nI k) = some (.ref (ad (1, k))) := by
  unfold mm_lgt
  rw [cl_3]
  show (if nI k < 0 ∨ _ then none else _) = _
  rw [nI_clamp (by omega), if_neg (by rw [List.length_map, List.length_range]; exact fun q => q.elim (nI_pos (by omega)) (by omega))]
  simp [h]
theorem cl_4 : mm_lst (CW σ tg ad c g) 4 = some ((List.range (c 1)).map fun k => ad (2, k)) := rfl
theorem cz_4 : mm_lsz (CW σ tg ad c g) 4 = some (nI (c 1)) := by
  unfold mm_lsz
  rw [cl_4]
  simp [nI]
theorem cg_4 {k : Nat} (h : k < c 1) (hb : c 1 ≤ 60000) : mm_lgt (CW σ tg ad c g) 4 (nI k) = some (.ref (ad (2, k))) := by
  unfold mm_lgt
  rw [cl_4]
  show (if nI k < 0 ∨ _ then none else _) = _
  rw [nI_clamp (by omega), if_neg (by rw [List.length_map, List.length_range]; exact fun q => q.elim (nI_pos (by omega)) (by omega))]
  simp [h]
theorem cl_5 : mm_lst (CW σ tg ad c g) 5 = some ((List.range (c 2)).map fun k => ad (5, k)) := rfl
theorem cz_5 : mm_lsz (CW σ tg ad c g) 5 = some (nI (c 2)) := by
  unfold mm_lsz
  rw [cl_5]
  simp [nI]
theorem cg_5 {k : Nat} (h : k < c 2) (hb : c 2 ≤ 60000) : mm_lgt (CW σ tg ad c g) 5 (nI k) = some (.ref (ad (5, k))) := by
  unfold mm_lgt
  rw [cl_5]
  show (if nI k < 0 ∨ _ then none else _) = _
  rw [nI_clamp (by omega), if_neg (by rw [List.length_map, List.length_range]; exact fun q => q.elim (nI_pos (by omega)) (by omega))]
  simp [h]
theorem cl_6 : mm_lst (CW σ tg ad c g) 6 = some ((List.range (c 3)).map fun k => ad (6, k)) := rfl
theorem cz_6 : mm_lsz (CW σ tg ad c g) 6 = some (nI (c 3)) := by
  unfold mm_lsz
  rw [cl_6]
  simp [nI]
theorem cg_6 {k : Nat} (h : k < c 3) (hb : c 3 ≤ 60000) : mm_lgt (CW σ tg ad c g) 6 (nI k) = some (.ref (ad (6, k))) := by
  unfold mm_lgt
  rw [cl_6]
  show (if nI k < 0 ∨ _ then none else _) = _
  rw [nI_clamp (by omega), if_neg (by rw [List.length_map, List.length_range]; exact fun q => q.elim (nI_pos (by omega)) (by omega))]
  simp [h]
theorem cl_7 : mm_lst (CW σ tg ad c g) 7 = some ((List.range (c 4)).map fun k => ad (8, k)) := rfl
theorem cz_7 : mm_lsz (CW σ tg ad c g) 7 = some (nI (c 4)) := by
  unfold mm_lsz
  rw [cl_7]
  simp [nI]
theorem cg_7 {k : Nat} (h : k < c 4) (hb : c 4 ≤ 60000) : mm_lgt (CW σ tg ad c g) 7 (nI k) = some (.ref (ad (8, k))) := by
  unfold mm_lgt
  rw [cl_7]
  show (if nI k < 0 ∨ _ then none else _) = _
  rw [nI_clamp (by omega), if_neg (by rw [List.length_map, List.length_range]; exact fun q => q.elim (nI_pos (by omega)) (by omega))]
  simp [h]
theorem oks_map {f : Nat → Nat} {n : Nat} (h : ∀ k, k ≤ n → (mm_ci σ (f k)).isSome = true) : mm_oks σ ((List.range n).map f ++ [f n]) = true := by
  unfold mm_oks
  rw [List.all_eq_true]
  intro x hx
  rcases List.mem_append.mp hx with hx | hx
  · obtain ⟨k, hk, rfl⟩ := List.mem_map.mp hx
    exact h k (Nat.le_of_lt (List.mem_range.mp hk))
  · rw [List.mem_singleton.mp hx]
    exact h n (Nat.le_refl _)
theorem ca_3 (hL : ∀ k, k ≤ c 0 → LV tg ad 1 k) (hc : c 0 < 60000) : mm_lad (CW σ tg ad c g) 3 (ad (1, c 0)) = some (CW (mm_bmp σ 1 (2 * c 0 + 10)) tg ad (u2 c 0 (c 0 + 1)) g) := by
  unfold mm_lad
  rw [cl_3]
  show (if _ < 60000 ∧ _ then _ else _) = _
  rw [List.length_map, List.length_range, if_pos ⟨by omega, oks_map (f := fun k => ad (1, k)) fun k hk => by unfold mm_ci; rw [CW_tg (hL k hk) (by decide)]; rfl⟩]
  refine congrArg some (Prod.ext (funext fun a => ?_) rfl)
  show (if a = 3 then some (Sum.inr (Sum.inr (Sum.inr (List.map (fun k => ad (1, k)) (List.range (c 0)) ++ [ad (1, c 0)])))) else (CW σ tg ad c g).1 a) = _
  by_cases e : a = 3
  · subst e
    rw [if_pos rfl]
    show _ = some (Sum.inr (Sum.inr (Sum.inr ((List.range (u2 c 0 (c 0 + 1) 0)).map fun k => ad (1, k)))))
    rw [u2_s, List.range_succ, List.map_append]
    rfl
  · rw [if_neg e]
    by_cases e2 : a < 2 ∨ 10 < a
    · rw [CW_hi e2, CW_hi e2, CO_cnt (by decide)]
      rfl
    · exact CW_lo e2 (fun z => absurd z e) (fun _ => by rw [u2_n (by decide)]) (fun _ => by rw [u2_n (by decide)]) (fun _ => by rw [u2_n (by decide)]) (fun _ => by rw [u2_n (by decide)]) (fun _ => rfl) (fun _ => rfl) (fun _ => rfl)
theorem ca_4 (hL : ∀ k, k ≤ c 1 → LV tg ad 2 k) (hc : c 1 < 60000) : mm_lad (CW σ tg ad c g) 4 (ad (2, c 1)) = some (CW (mm_bmp σ 1 (2 * c 1 + 10)) tg ad (u2 c 1 (c 1 + 1)) g) := by
  unfold mm_lad
  rw [cl_4]
  show (if _ < 60000 ∧ _ then _ else _) = _
  rw [List.length_map, List.length_range, if_pos ⟨by omega, oks_map (f := fun k => ad (2, k)) fun k hk => by unfold mm_ci; rw [CW_tg (hL k hk) (by decide)]; rfl⟩]
  refine congrArg some (Prod.ext (funext fun a => ?_) rfl)
  show (if a = 4 then some (Sum.inr (Sum.inr (Sum.inr (List.map (fun k => ad (2, k)) (List.range (c 1)) ++ [ad (2, c 1)])))) else (CW σ tg ad c g).1 a) = _
  by_cases e : a = 4
  · subst e
    rw [if_pos rfl]
    show _ = some (Sum.inr (Sum.inr (Sum.inr ((List.range (u2 c 1 (c 1 + 1) 1)).map fun k => ad (2, k)))))
    rw [u2_s, List.range_succ, List.map_append]
    rfl
  · rw [if_neg e]
    by_cases e2 : a < 2 ∨ 10 < a
    · rw [CW_hi e2, CW_hi e2, CO_cnt (by decide)]
      rfl
    · exact CW_lo e2 (fun _ => by rw [u2_n (by decide)]) (fun z => absurd z e) (fun _ => by rw [u2_n (by decide)]) (fun _ => by rw [u2_n (by decide)]) (fun _ => by rw [u2_n (by decide)]) (fun _ => rfl) (fun _ => rfl) (fun _ => rfl)
theorem ca_5 (hL : ∀ k, k ≤ c 2 → LV tg ad 5 k) (hc : c 2 < 60000) : mm_lad (CW σ tg ad c g) 5 (ad (5, c 2)) = some (CW (mm_bmp σ 1 (2 * c 2 + 10)) tg ad (u2 c 2 (c 2 + 1)) g) := by
  unfold mm_lad
  rw [cl_5]
  show (if _ < 60000 ∧ _ then _ else _) = _
  rw [List.length_map, List.length_range, if_pos ⟨by omega, oks_map (f := fun k => ad (5, k)) fun k hk => by unfold mm_ci; rw [CW_tg (hL k hk) (by decide)]; rfl⟩]
  refine congrArg some (Prod.ext (funext fun a => ?_) rfl)
  show (if a = 5 then some (Sum.inr (Sum.inr (Sum.inr (List.map (fun k => ad (5, k)) (List.range (c 2)) ++ [ad (5, c 2)])))) else (CW σ tg ad c g).1 a) = _
  by_cases e : a = 5
  · subst e
    rw [if_pos rfl]
    show _ = some (Sum.inr (Sum.inr (Sum.inr ((List.range (u2 c 2 (c 2 + 1) 2)).map fun k => ad (5, k)))))
    rw [u2_s, List.range_succ, List.map_append]
    rfl
  · rw [if_neg e]
    by_cases e2 : a < 2 ∨ 10 < a
    · rw [CW_hi e2, CW_hi e2, CO_cnt (by decide)]
      rfl
    · exact CW_lo e2 (fun _ => by rw [u2_n (by decide)]) (fun _ => by rw [u2_n (by decide)]) (fun z => absurd z e) (fun _ => by rw [u2_n (by decide)]) (fun _ => by rw [u2_n (by decide)]) (fun _ => rfl) (fun _ => rfl) (fun _ => rfl)
theorem ca_6 (hL : ∀ k, k ≤ c 3 → LV tg ad 6 k) (hc : c 3 < 60000) : mm_lad (CW σ tg ad c g) 6 (ad (6, c 3)) = some (CW (mm_bmp σ 1 (2 * c 3 + 10)) tg ad (u2 c 3 (c 3 + 1)) g) := by
  unfold mm_lad
  rw [cl_6]
  show (if _ < 60000 ∧ _ then _ else _) = _
  rw [List.length_map, List.length_range, if_pos ⟨by omega, oks_map (f := fun k => ad (6, k)) fun k hk => by unfold mm_ci; rw [CW_tg (hL k hk) (by decide)]; rfl⟩]
  refine congrArg some (Prod.ext (funext fun a => ?_) rfl)
  show (if a = 6 then some (Sum.inr (Sum.inr (Sum.inr (List.map (fun k => ad (6, k)) (List.range (c 3)) ++ [ad (6, c 3)])))) else (CW σ tg ad c g).1 a) = _
  by_cases e : a = 6
  · subst e
    rw [if_pos rfl]
    show _ = some (Sum.inr (Sum.inr (Sum.inr ((List.range (u2 c 3 (c 3 + 1) 3)).map fun k => ad (6, k)))))
    rw [u2_s, List.range_succ, List.map_append]
    rfl
  · rw [if_neg e]
    by_cases e2 : a < 2 ∨ 10 < a
    · rw [CW_hi e2, CW_hi e2, CO_cnt (by decide)]
      rfl
    · exact CW_lo e2 (fun _ => by rw [u2_n (by decide)]) (fun _ => by rw [u2_n (by decide)]) (fun _ => by rw [u2_n (by decide)]) (fun z => absurd z e) (fun _ => by rw [u2_n (by decide)]) (fun _ => rfl) (fun _ => rfl) (fun _ => rfl)
theorem ca_7 (hL : ∀ k, k ≤ c 4 → LV tg ad 8 k) (hc : c 4 < 60000) : mm_lad (CW σ tg ad c g) 7 (ad (8, c 4)) = some (CW (mm_bmp σ 1 (2 * c 4 + 10)) tg ad (u2 c 4 (c 4 + 1)) g) := by
  unfold mm_lad
  rw [cl_7]
  show (if _ < 60000 ∧ _ then _ else _) = _
  rw [List.length_map, List.length_range, if_pos ⟨by omega, oks_map (f := fun k => ad (8, k)) fun k hk => by unfold mm_ci; rw [CW_tg (hL k hk) (by decide)]; rfl⟩]
  refine congrArg some (Prod.ext (funext fun a => ?_) rfl)
  show (if a = 7 then some (Sum.inr (Sum.inr (Sum.inr (List.map (fun k => ad (8, k)) (List.range (c 4)) ++ [ad (8, c 4)])))) else (CW σ tg ad c g).1 a) = _
  by_cases e : a = 7
  · subst e
    rw [if_pos rfl]
    show _ = some (Sum.inr (Sum.inr (Sum.inr ((List.range (u2 c 4 (c 4 + 1) 4)).map fun k => ad (8, k)))))
    rw [u2_s, List.range_succ, List.map_append]
    rfl
  · rw [if_neg e]
    by_cases e2 : a < 2 ∨ 10 < a
    · rw [CW_hi e2, CW_hi e2, CO_cnt (by decide)]
      rfl
    · exact CW_lo e2 (fun _ => by rw [u2_n (by decide)]) (fun _ => by rw [u2_n (by decide)]) (fun _ => by rw [u2_n (by decide)]) (fun _ => by rw [u2_n (by decide)]) (fun z => absurd z e) (fun _ => rfl) (fun _ => rfl) (fun _ => rfl)
theorem cz_9 {i : Nat} (h : LV tg ad 9 i) : mm_lsz (CW σ tg ad c g) (ad (9, i)) = some (nI (c (100 + i))) := by
  unfold mm_lsz mm_lst
  rw [CW_tg h (by decide)]
  simp [CO, nI]
theorem cg_9 {i k : Nat} (h : LV tg ad 9 i) (hk : k < c (100 + i)) (hb : c (100 + i) ≤ 60000) : mm_lgt (CW σ tg ad c g) (ad (9, i)) (nI k) = some (.ref (ad (10, 1000 * i + k))) := by
  unfold mm_lgt mm_lst
  rw [CW_tg h (by decide)]
  show (if nI k < 0 ∨ _ then none else _) = _
  rw [nI_clamp (by omega), if_neg (by rw [List.length_map, List.length_range]; exact fun q => q.elim (nI_pos (by omega)) (by omega))]
  simp [hk]
theorem ci_1_0 {i : Nat} (h : LV tg ad 1 i) : mm_geti (CW σ tg ad c g) (ad (1, i)) 1 0 = some (g 12 (7 * i + 0)) := by
  unfold mm_geti mm_fld
  rw [CW_tg h (by decide)]
  rfl
theorem ci_1_1 {i : Nat} (h : LV tg ad 1 i) : mm_geti (CW σ tg ad c g) (ad (1, i)) 1 1 = some (g 12 (7 * i + 1)) := by
  unfold mm_geti mm_fld
  rw [CW_tg h (by decide)]
  rfl
theorem ci_1_2 {i : Nat} (h : LV tg ad 1 i) : mm_geti (CW σ tg ad c g) (ad (1, i)) 1 2 = some (g 12 (7 * i + 2)) := by
  unfold mm_geti mm_fld
  rw [CW_tg h (by decide)]
  rfl
theorem ci_1_3 {i : Nat} (h : LV tg ad 1 i) : mm_geti (CW σ tg ad c g) (ad (1, i)) 1 3 = some (g 12 (7 * i + 3)) := by
  unfold mm_geti mm_fld
  rw [CW_tg h (by decide)]
  rfl
theorem ci_1_4 {i : Nat} (h : LV tg ad 1 i) : mm_geti (CW σ tg ad c g) (ad (1, i)) 1 4 = some (g 12 (7 * i + 4)) := by
  unfold mm_geti mm_fld
  rw [CW_tg h (by decide)]
  rfl
theorem ci_1_5 {i : Nat} (h : LV tg ad 1 i) : mm_geti (CW σ tg ad c g) (ad (1, i)) 1 5 = some (g 12 (7 * i + 5)) := by
  unfold mm_geti mm_fld
  rw [CW_tg h (by decide)]
  rfl
theorem ci_1_6 {i : Nat} (h : LV tg ad 1 i) : mm_geti (CW σ tg ad c g) (ad (1, i)) 1 6 = some (g 12 (7 * i + 6)) := by
  unfold mm_geti mm_fld
  rw [CW_tg h (by decide)]
  rfl
theorem ci_3_0 {i : Nat} (h : LV tg ad 3 i) : mm_geti (CW σ tg ad c g) (ad (3, i)) 1 0 = some (g 34 (7 * i + 0)) := by
  unfold mm_geti mm_fld
  rw [CW_tg h (by decide)]
  rfl
theorem ci_3_1 {i : Nat} (h : LV tg ad 3 i) : mm_geti (CW σ tg ad c g) (ad (3, i)) 1 1 = some (g 34 (7 * i + 1)) := by
  unfold mm_geti mm_fld
  rw [CW_tg h (by decide)]
  rfl
theorem ci_3_2 {i : Nat} (h : LV tg ad 3 i) : mm_geti (CW σ tg ad c g) (ad (3, i)) 1 2 = some (g 34 (7 * i + 2)) := by
  unfold mm_geti mm_fld
  rw [CW_tg h (by decide)]
  rfl
theorem ci_3_3 {i : Nat} (h : LV tg ad 3 i) : mm_geti (CW σ tg ad c g) (ad (3, i)) 1 3 = some (g 34 (7 * i + 3)) := by
  unfold mm_geti mm_fld
  rw [CW_tg h (by decide)]
  rfl
theorem ci_3_4 {i : Nat} (h : LV tg ad 3 i) : mm_geti (CW σ tg ad c g) (ad (3, i)) 1 4 = some (g 34 (7 * i + 4)) := by
  unfold mm_geti mm_fld
  rw [CW_tg h (by decide)]
  rfl
theorem ci_3_5 {i : Nat} (h : LV tg ad 3 i) : mm_geti (CW σ tg ad c g) (ad (3, i)) 1 5 = some (g 34 (7 * i + 5)) := by
  unfold mm_geti mm_fld
  rw [CW_tg h (by decide)]
  rfl
theorem ci_3_6 {i : Nat} (h : LV tg ad 3 i) : mm_geti (CW σ tg ad c g) (ad (3, i)) 1 6 = some (g 34 (7 * i + 6)) := by
  unfold mm_geti mm_fld
  rw [CW_tg h (by decide)]
  rfl
theorem ci_4_0 {i : Nat} (h : LV tg ad 4 i) : mm_geti (CW σ tg ad c g) (ad (4, i)) 1 0 = some (g 33 (7 * i + 0)) := by
  unfold mm_geti mm_fld
  rw [CW_tg h (by decide)]
  rfl
theorem ci_4_1 {i : Nat} (h : LV tg ad 4 i) : mm_geti (CW σ tg ad c g) (ad (4, i)) 1 1 = some (g 33 (7 * i + 1)) := by
  unfold mm_geti mm_fld
  rw [CW_tg h (by decide)]
  rfl
theorem ci_4_2 {i : Nat} (h : LV tg ad 4 i) : mm_geti (CW σ tg ad c g) (ad (4, i)) 1 2 = some (g 33 (7 * i + 2)) := by
  unfold mm_geti mm_fld
  rw [CW_tg h (by decide)]
  rfl
theorem ci_4_3 {i : Nat} (h : LV tg ad 4 i) : mm_geti (CW σ tg ad c g) (ad (4, i)) 1 3 = some (g 33 (7 * i + 3)) := by
  unfold mm_geti mm_fld
  rw [CW_tg h (by decide)]
  rfl
theorem ci_4_4 {i : Nat} (h : LV tg ad 4 i) : mm_geti (CW σ tg ad c g) (ad (4, i)) 1 4 = some (g 33 (7 * i + 4)) := by
  unfold mm_geti mm_fld
  rw [CW_tg h (by decide)]
  rfl
theorem ci_4_5 {i : Nat} (h : LV tg ad 4 i) : mm_geti (CW σ tg ad c g) (ad (4, i)) 1 5 = some (g 33 (7 * i + 5)) := by
  unfold mm_geti mm_fld
  rw [CW_tg h (by decide)]
  rfl
theorem ci_4_6 {i : Nat} (h : LV tg ad 4 i) : mm_geti (CW σ tg ad c g) (ad (4, i)) 1 6 = some (g 33 (7 * i + 6)) := by
  unfold mm_geti mm_fld
  rw [CW_tg h (by decide)]
  rfl
theorem ci_2_0 {i : Nat} (h : LV tg ad 2 i) : mm_geti (CW σ tg ad c g) (ad (2, i)) 2 0 = some (g 13 i) := by
  unfold mm_geti mm_fld
  rw [CW_tg h (by decide)]
  rfl
theorem ci_2_1 {i : Nat} (h : LV tg ad 2 i) : mm_geti (CW σ tg ad c g) (ad (2, i)) 2 1 = some (g 14 i) := by
  unfold mm_geti mm_fld
  rw [CW_tg h (by decide)]
  rfl
theorem ci_2_2 {i : Nat} (h : LV tg ad 2 i) : mm_geti (CW σ tg ad c g) (ad (2, i)) 2 2 = some (g 15 i) := by
  unfold mm_geti mm_fld
  rw [CW_tg h (by decide)]
  rfl
theorem ci_2_5 {i : Nat} (h : LV tg ad 2 i) : mm_geti (CW σ tg ad c g) (ad (2, i)) 2 5 = some (g 35 (3 * i + 0)) := by
  unfold mm_geti mm_fld
  rw [CW_tg h (by decide)]
  rfl
theorem ci_2_6 {i : Nat} (h : LV tg ad 2 i) : mm_geti (CW σ tg ad c g) (ad (2, i)) 2 6 = some (g 35 (3 * i + 1)) := by
  unfold mm_geti mm_fld
  rw [CW_tg h (by decide)]
  rfl
theorem ci_2_7 {i : Nat} (h : LV tg ad 2 i) : mm_geti (CW σ tg ad c g) (ad (2, i)) 2 7 = some (g 35 (3 * i + 2)) := by
  unfold mm_geti mm_fld
  rw [CW_tg h (by decide)]
  rfl
theorem ci_5_0 {i : Nat} (h : LV tg ad 5 i) : mm_geti (CW σ tg ad c g) (ad (5, i)) 5 0 = some (g 18 i) := by
  unfold mm_geti mm_fld
  rw [CW_tg h (by decide)]
  rfl
theorem ci_5_1 {i : Nat} (h : LV tg ad 5 i) : mm_geti (CW σ tg ad c g) (ad (5, i)) 5 1 = some (g 19 i) := by
  unfold mm_geti mm_fld
  rw [CW_tg h (by decide)]
  rfl
theorem ci_5_2 {i : Nat} (h : LV tg ad 5 i) : mm_geti (CW σ tg ad c g) (ad (5, i)) 5 2 = some (g 20 i) := by
  unfold mm_geti mm_fld
  rw [CW_tg h (by decide)]
  rfl
theorem ci_6_0 {i : Nat} (h : LV tg ad 6 i) : mm_geti (CW σ tg ad c g) (ad (6, i)) 4 0 = some (g 21 i) := by
  unfold mm_geti mm_fld
  rw [CW_tg h (by decide)]
  rfl
theorem ci_8_0 {i : Nat} (h : LV tg ad 8 i) : mm_geti (CW σ tg ad c g) (ad (8, i)) 0 0 = some (g 24 i) := by
  unfold mm_geti mm_fld
  rw [CW_tg h (by decide)]
  rfl
theorem ci_8_1 {i : Nat} (h : LV tg ad 8 i) : mm_geti (CW σ tg ad c g) (ad (8, i)) 0 1 = some (g 25 i) := by
  unfold mm_geti mm_fld
  rw [CW_tg h (by decide)]
  rfl
theorem ci_8_5 {i : Nat} (h : LV tg ad 8 i) : mm_geti (CW σ tg ad c g) (ad (8, i)) 0 5 = some (g 23 i) := by
  unfold mm_geti mm_fld
  rw [CW_tg h (by decide)]
  rfl
theorem ci_10_0 {i : Nat} (h : LV tg ad 10 i) : mm_geti (CW σ tg ad c g) (ad (10, i)) 3 0 = some (g 40 i) := by
  unfold mm_geti mm_fld
  rw [CW_tg h (by decide)]
  rfl
theorem ci_10_1 {i : Nat} (h : LV tg ad 10 i) : mm_geti (CW σ tg ad c g) (ad (10, i)) 3 1 = some (g 41 i) := by
  unfold mm_geti mm_fld
  rw [CW_tg h (by decide)]
  rfl
theorem ci_10_2 {i : Nat} (h : LV tg ad 10 i) : mm_geti (CW σ tg ad c g) (ad (10, i)) 3 2 = some (g 42 i) := by
  unfold mm_geti mm_fld
  rw [CW_tg h (by decide)]
  rfl
theorem ci_10_3 {i : Nat} (h : LV tg ad 10 i) : mm_geti (CW σ tg ad c g) (ad (10, i)) 3 3 = some (g 43 i) := by
  unfold mm_geti mm_fld
  rw [CW_tg h (by decide)]
  rfl
theorem ci_10_4 {i : Nat} (h : LV tg ad 10 i) : mm_geti (CW σ tg ad c g) (ad (10, i)) 3 4 = some (g 44 i) := by
  unfold mm_geti mm_fld
  rw [CW_tg h (by decide)]
  rfl
theorem cr_2_3 {i : Nat} (h : LV tg ad 2 i) : mm_getr (CW σ tg ad c g) (ad (2, i)) 2 3 = some (.ref (ad (3, i))) := by
  unfold mm_getr mm_fld
  rw [CW_tg h (by decide)]
  rfl
theorem cr_2_4 {i : Nat} (h : LV tg ad 2 i) : mm_getr (CW σ tg ad c g) (ad (2, i)) 2 4 = some (.ref (ad (4, i))) := by
  unfold mm_getr mm_fld
  rw [CW_tg h (by decide)]
  rfl
theorem cr_6_1 {i : Nat} (h : LV tg ad 6 i) : mm_getr (CW σ tg ad c g) (ad (6, i)) 4 1 = some (.ref (ad (7, i))) := by
  unfold mm_getr mm_fld
  rw [CW_tg h (by decide)]
  rfl
theorem cr_8_4 {i : Nat} (h : LV tg ad 8 i) : mm_getr (CW σ tg ad c g) (ad (8, i)) 0 4 = some (.ref (ad (9, i))) := by
  unfold mm_getr mm_fld
  rw [CW_tg h (by decide)]
  rfl
theorem cr_8_2 {i : Nat} (h : LV tg ad 8 i) : mm_getr (CW σ tg ad c g) (ad (8, i)) 0 2 = some (pr ad (c (200 + i))) := by
  unfold mm_getr mm_fld
  rw [CW_tg h (by decide)]
  simp only [CO]
  rcases c (200 + i) with _ | q <;> rfl
theorem cr_8_3 {i : Nat} (h : LV tg ad 8 i) : mm_getr (CW σ tg ad c g) (ad (8, i)) 0 3 = some (pr ad (c (300 + i))) := by
  unfold mm_getr mm_fld
  rw [CW_tg h (by decide)]
  simp only [CO]
  rcases c (300 + i) with _ | q <;> rfl
theorem cb_7 {i k : Nat} (h : LV tg ad 7 i) (hk : k < 30) : mm_ald (CW σ tg ad c g) (ad (7, i)) (nI k) true = some (g 22 (30 * i + k)) := by
  unfold mm_ald mm_arr
  rw [CW_tg h (by decide)]
  show (if nI k < 0 ∨ 30 ≤ (nI k).toNatClampNeg then none else _) = _
  rw [nI_clamp (by omega), if_neg (fun q => q.elim (nI_pos (by omega)) (by omega))]
  show (if (1 == 1) = true then some (if k < 30 then _ else _) else none) = _
  rw [if_pos (by decide), if_pos hk]
theorem cn_7 {i : Nat} (h : LV tg ad 7 i) : mm_len (CW σ tg ad c g) (ad (7, i)) = some 30 := by
  unfold mm_len
  rw [CW_tg h (by decide)]
  rfl
theorem ck_1 {i : Nat} (h : LV tg ad 1 i) : mm_chk (CW σ tg ad c g) (ad (1, i)) 1 = some (.ref (ad (1, i))) := by
  unfold mm_chk mm_ci
  rw [CW_tg h (by decide)]
  rfl
theorem cx_1 {i : Nat} (h : LV tg ad 1 i) : mm_ci (CW σ tg ad c g) (ad (1, i)) = some 1 := by
  unfold mm_ci
  rw [CW_tg h (by decide)]
  rfl
theorem ck_2 {i : Nat} (h : LV tg ad 2 i) : mm_chk (CW σ tg ad c g) (ad (2, i)) 2 = some (.ref (ad (2, i))) := by
  unfold mm_chk mm_ci
  rw [CW_tg h (by decide)]
  rfl
theorem cx_2 {i : Nat} (h : LV tg ad 2 i) : mm_ci (CW σ tg ad c g) (ad (2, i)) = some 2 := by
  unfold mm_ci
  rw [CW_tg h (by decide)]
  rfl
theorem ck_3 {i : Nat} (h : LV tg ad 3 i) : mm_chk (CW σ tg ad c g) (ad (3, i)) 1 = some (.ref (ad (3, i))) := by
  unfold mm_chk mm_ci
  rw [CW_tg h (by decide)]
  rfl
theorem cx_3 {i : Nat} (h : LV tg ad 3 i) : mm_ci (CW σ tg ad c g) (ad (3, i)) = some 1 := by
  unfold mm_ci
  rw [CW_tg h (by decide)]
  rfl
theorem ck_4 {i : Nat} (h : LV tg ad 4 i) : mm_chk (CW σ tg ad c g) (ad (4, i)) 1 = some (.ref (ad (4, i))) := by
  unfold mm_chk mm_ci
  rw [CW_tg h (by decide)]
  rfl
theorem cx_4 {i : Nat} (h : LV tg ad 4 i) : mm_ci (CW σ tg ad c g) (ad (4, i)) = some 1 := by
  unfold mm_ci
  rw [CW_tg h (by decide)]
  rfl
theorem ck_5 {i : Nat} (h : LV tg ad 5 i) : mm_chk (CW σ tg ad c g) (ad (5, i)) 5 = some (.ref (ad (5, i))) := by
  unfold mm_chk mm_ci
  rw [CW_tg h (by decide)]
  rfl
theorem cx_5 {i : Nat} (h : LV tg ad 5 i) : mm_ci (CW σ tg ad c g) (ad (5, i)) = some 5 := by
  unfold mm_ci
  rw [CW_tg h (by decide)]
  rfl
theorem ck_6 {i : Nat} (h : LV tg ad 6 i) : mm_chk (CW σ tg ad c g) (ad (6, i)) 4 = some (.ref (ad (6, i))) := by
  unfold mm_chk mm_ci
  rw [CW_tg h (by decide)]
  rfl
theorem cx_6 {i : Nat} (h : LV tg ad 6 i) : mm_ci (CW σ tg ad c g) (ad (6, i)) = some 4 := by
  unfold mm_ci
  rw [CW_tg h (by decide)]
  rfl
theorem ck_8 {i : Nat} (h : LV tg ad 8 i) : mm_chk (CW σ tg ad c g) (ad (8, i)) 0 = some (.ref (ad (8, i))) := by
  unfold mm_chk mm_ci
  rw [CW_tg h (by decide)]
  rfl
theorem cx_8 {i : Nat} (h : LV tg ad 8 i) : mm_ci (CW σ tg ad c g) (ad (8, i)) = some 0 := by
  unfold mm_ci
  rw [CW_tg h (by decide)]
  rfl
theorem ck_10 {i : Nat} (h : LV tg ad 10 i) : mm_chk (CW σ tg ad c g) (ad (10, i)) 3 = some (.ref (ad (10, i))) := by
  unfold mm_chk mm_ci
  rw [CW_tg h (by decide)]
  rfl
theorem cx_10 {i : Nat} (h : LV tg ad 10 i) : mm_ci (CW σ tg ad c g) (ad (10, i)) = some 3 := by
  unfold mm_ci
  rw [CW_tg h (by decide)]
  rfl
theorem cx_a : mm_ci (CW σ tg ad c g) 2 = some 6 := rfl
theorem cb_a8 {k : Nat} (hk : k < 3) : mm_ald (CW σ tg ad c g) 8 (nI k) false = some (g 28 k) := by
  unfold mm_ald mm_arr
  show (if nI k < 0 ∨ 3 ≤ (nI k).toNatClampNeg then none else _) = _
  rw [nI_clamp (by omega), if_neg (fun q => q.elim (nI_pos (by omega)) (by omega))]
  rfl
theorem cn_a8 : mm_len (CW σ tg ad c g) 8 = some 3 := rfl
theorem cb_a9 {k : Nat} (hk : k < 200) : mm_ald (CW σ tg ad c g) 9 (nI k) false = some (g 36 k) := by
  unfold mm_ald mm_arr
  show (if nI k < 0 ∨ 200 ≤ (nI k).toNatClampNeg then none else _) = _
  rw [nI_clamp (by omega), if_neg (fun q => q.elim (nI_pos (by omega)) (by omega))]
  rfl
theorem cn_a9 : mm_len (CW σ tg ad c g) 9 = some 200 := rfl
theorem cb_a10 {k : Nat} (hk : k < 200) : mm_ald (CW σ tg ad c g) 10 (nI k) false = some (g 37 k) := by
  unfold mm_ald mm_arr
  show (if nI k < 0 ∨ 200 ≤ (nI k).toNatClampNeg then none else _) = _
  rw [nI_clamp (by omega), if_neg (fun q => q.elim (nI_pos (by omega)) (by omega))]
  rfl
theorem cn_a10 : mm_len (CW σ tg ad c g) 10 = some 200 := rfl
theorem aM_24 {As : List Value} : mm_Mo 24 2 As (CW σ tg ad c g) = mm_M 24 (.ref 2 :: As) (CW σ tg ad c g) := if_pos rfl
theorem aM_25 {As : List Value} : mm_Mo 25 2 As (CW σ tg ad c g) = mm_M 25 (.ref 2 :: As) (CW σ tg ad c g) := if_pos rfl
theorem aM_26 {As : List Value} : mm_Mo 26 2 As (CW σ tg ad c g) = mm_M 26 (.ref 2 :: As) (CW σ tg ad c g) := if_pos rfl
theorem aM_27 {As : List Value} : mm_Mo 27 2 As (CW σ tg ad c g) = mm_M 27 (.ref 2 :: As) (CW σ tg ad c g) := if_pos rfl
theorem aM_28 {As : List Value} : mm_Mo 28 2 As (CW σ tg ad c g) = mm_M 28 (.ref 2 :: As) (CW σ tg ad c g) := if_pos rfl
theorem aM_31 {As : List Value} : mm_Mo 31 2 As (CW σ tg ad c g) = mm_M 31 (.ref 2 :: As) (CW σ tg ad c g) := if_pos rfl
theorem aM_32 {As : List Value} : mm_Mo 32 2 As (CW σ tg ad c g) = mm_M 32 (.ref 2 :: As) (CW σ tg ad c g) := if_pos rfl
theorem aM_33 {As : List Value} : mm_Mo 33 2 As (CW σ tg ad c g) = mm_M 33 (.ref 2 :: As) (CW σ tg ad c g) := if_pos rfl
theorem aM_34 {As : List Value} : mm_Mo 34 2 As (CW σ tg ad c g) = mm_M 34 (.ref 2 :: As) (CW σ tg ad c g) := if_pos rfl
theorem aM_36 {As : List Value} : mm_Mo 36 2 As (CW σ tg ad c g) = mm_M 36 (.ref 2 :: As) (CW σ tg ad c g) := if_pos rfl
theorem aM_37 {As : List Value} : mm_Mo 37 2 As (CW σ tg ad c g) = mm_M 37 (.ref 2 :: As) (CW σ tg ad c g) := if_pos rfl
theorem aM_38 {As : List Value} : mm_Mo 38 2 As (CW σ tg ad c g) = mm_M 38 (.ref 2 :: As) (CW σ tg ad c g) := if_pos rfl
theorem aM_39 {As : List Value} : mm_Mo 39 2 As (CW σ tg ad c g) = mm_M 39 (.ref 2 :: As) (CW σ tg ad c g) := if_pos rfl
theorem aM_40 {As : List Value} : mm_Mo 40 2 As (CW σ tg ad c g) = mm_M 40 (.ref 2 :: As) (CW σ tg ad c g) := if_pos rfl
theorem aM_41 {As : List Value} : mm_Mo 41 2 As (CW σ tg ad c g) = mm_M 41 (.ref 2 :: As) (CW σ tg ad c g) := if_pos rfl
theorem aM_43 {As : List Value} : mm_Mo 43 2 As (CW σ tg ad c g) = mm_M 43 (.ref 2 :: As) (CW σ tg ad c g) := if_pos rfl
theorem aM_44 {As : List Value} : mm_Mo 44 2 As (CW σ tg ad c g) = mm_M 44 (.ref 2 :: As) (CW σ tg ad c g) := if_pos rfl
theorem aM_45 {As : List Value} : mm_Mo 45 2 As (CW σ tg ad c g) = mm_M 45 (.ref 2 :: As) (CW σ tg ad c g) := if_pos rfl
theorem aM_46 {As : List Value} : mm_Mo 46 2 As (CW σ tg ad c g) = mm_M 46 (.ref 2 :: As) (CW σ tg ad c g) := if_pos rfl
theorem aM_47 {As : List Value} : mm_Mo 47 2 As (CW σ tg ad c g) = mm_M 47 (.ref 2 :: As) (CW σ tg ad c g) := if_pos rfl
theorem aM_49 {As : List Value} : mm_Mo 49 2 As (CW σ tg ad c g) = mm_M 49 (.ref 2 :: As) (CW σ tg ad c g) := if_pos rfl
theorem aM_50 {As : List Value} : mm_Mo 50 2 As (CW σ tg ad c g) = mm_M 50 (.ref 2 :: As) (CW σ tg ad c g) := if_pos rfl
theorem aM_51 {As : List Value} : mm_Mo 51 2 As (CW σ tg ad c g) = mm_M 51 (.ref 2 :: As) (CW σ tg ad c g) := if_pos rfl
theorem aM_53 {As : List Value} : mm_Mo 53 2 As (CW σ tg ad c g) = mm_M 53 (.ref 2 :: As) (CW σ tg ad c g) := if_pos rfl
theorem aM_57 {As : List Value} : mm_Mo 57 2 As (CW σ tg ad c g) = mm_M 57 (.ref 2 :: As) (CW σ tg ad c g) := if_pos rfl
theorem aM_58 {As : List Value} : mm_Mo 58 2 As (CW σ tg ad c g) = mm_M 58 (.ref 2 :: As) (CW σ tg ad c g) := if_pos rfl
theorem aM_59 {As : List Value} : mm_Mo 59 2 As (CW σ tg ad c g) = mm_M 59 (.ref 2 :: As) (CW σ tg ad c g) := if_pos rfl
theorem aM_60 {As : List Value} : mm_Mo 60 2 As (CW σ tg ad c g) = mm_M 60 (.ref 2 :: As) (CW σ tg ad c g) := if_pos rfl
theorem aM_61 {As : List Value} : mm_Mo 61 2 As (CW σ tg ad c g) = mm_M 61 (.ref 2 :: As) (CW σ tg ad c g) := if_pos rfl
theorem aM_62 {As : List Value} : mm_Mo 62 2 As (CW σ tg ad c g) = mm_M 62 (.ref 2 :: As) (CW σ tg ad c g) := if_pos rfl
theorem aM_63 {As : List Value} : mm_Mo 63 2 As (CW σ tg ad c g) = mm_M 63 (.ref 2 :: As) (CW σ tg ad c g) := if_pos rfl
theorem aM_64 {As : List Value} : mm_Mo 64 2 As (CW σ tg ad c g) = mm_M 64 (.ref 2 :: As) (CW σ tg ad c g) := if_pos rfl
theorem aM_65 {As : List Value} : mm_Mo 65 2 As (CW σ tg ad c g) = mm_M 65 (.ref 2 :: As) (CW σ tg ad c g) := if_pos rfl
theorem aM_66 {As : List Value} : mm_Mo 66 2 As (CW σ tg ad c g) = mm_M 66 (.ref 2 :: As) (CW σ tg ad c g) := if_pos rfl
theorem aM_67 {As : List Value} : mm_Mo 67 2 As (CW σ tg ad c g) = mm_M 67 (.ref 2 :: As) (CW σ tg ad c g) := if_pos rfl
theorem aM_68 {As : List Value} : mm_Mo 68 2 As (CW σ tg ad c g) = mm_M 68 (.ref 2 :: As) (CW σ tg ad c g) := if_pos rfl
theorem aM_69 {As : List Value} : mm_Mo 69 2 As (CW σ tg ad c g) = mm_M 69 (.ref 2 :: As) (CW σ tg ad c g) := if_pos rfl
theorem aM_70 {As : List Value} : mm_Mo 70 2 As (CW σ tg ad c g) = mm_M 70 (.ref 2 :: As) (CW σ tg ad c g) := if_pos rfl
theorem aM_71 {As : List Value} : mm_Mo 71 2 As (CW σ tg ad c g) = mm_M 71 (.ref 2 :: As) (CW σ tg ad c g) := if_pos rfl
theorem aM_74 {As : List Value} : mm_Mo 74 2 As (CW σ tg ad c g) = mm_M 74 (.ref 2 :: As) (CW σ tg ad c g) := if_pos rfl
theorem aM_75 {As : List Value} : mm_Mo 75 2 As (CW σ tg ad c g) = mm_M 75 (.ref 2 :: As) (CW σ tg ad c g) := if_pos rfl
theorem aM_80 {As : List Value} : mm_Mo 80 2 As (CW σ tg ad c g) = mm_M 80 (.ref 2 :: As) (CW σ tg ad c g) := if_pos rfl
theorem aM_81 {As : List Value} : mm_Mo 81 2 As (CW σ tg ad c g) = mm_M 81 (.ref 2 :: As) (CW σ tg ad c g) := if_pos rfl
theorem aM_84 {As : List Value} : mm_Mo 84 2 As (CW σ tg ad c g) = mm_M 84 (.ref 2 :: As) (CW σ tg ad c g) := if_pos rfl
theorem aM_85 {As : List Value} : mm_Mo 85 2 As (CW σ tg ad c g) = mm_M 85 (.ref 2 :: As) (CW σ tg ad c g) := if_pos rfl
theorem aM_86 {As : List Value} : mm_Mo 86 2 As (CW σ tg ad c g) = mm_M 86 (.ref 2 :: As) (CW σ tg ad c g) := if_pos rfl
theorem aM_87 {As : List Value} : mm_Mo 87 2 As (CW σ tg ad c g) = mm_M 87 (.ref 2 :: As) (CW σ tg ad c g) := if_pos rfl
theorem aM_88 {As : List Value} : mm_Mo 88 2 As (CW σ tg ad c g) = mm_M 88 (.ref 2 :: As) (CW σ tg ad c g) := if_pos rfl
theorem aM_89 {As : List Value} : mm_Mo 89 2 As (CW σ tg ad c g) = mm_M 89 (.ref 2 :: As) (CW σ tg ad c g) := if_pos rfl
theorem aM_90 {As : List Value} : mm_Mo 90 2 As (CW σ tg ad c g) = mm_M 90 (.ref 2 :: As) (CW σ tg ad c g) := if_pos rfl
theorem aM_91 {As : List Value} : mm_Mo 91 2 As (CW σ tg ad c g) = mm_M 91 (.ref 2 :: As) (CW σ tg ad c g) := if_pos rfl
theorem aM_92 {As : List Value} : mm_Mo 92 2 As (CW σ tg ad c g) = mm_M 92 (.ref 2 :: As) (CW σ tg ad c g) := if_pos rfl
theorem aM_93 {As : List Value} : mm_Mo 93 2 As (CW σ tg ad c g) = mm_M 93 (.ref 2 :: As) (CW σ tg ad c g) := if_pos rfl
theorem aM_94 {As : List Value} : mm_Mo 94 2 As (CW σ tg ad c g) = mm_M 94 (.ref 2 :: As) (CW σ tg ad c g) := if_pos rfl
theorem aM_95 {As : List Value} : mm_Mo 95 2 As (CW σ tg ad c g) = mm_M 95 (.ref 2 :: As) (CW σ tg ad c g) := if_pos rfl
theorem aM_96 {As : List Value} : mm_Mo 96 2 As (CW σ tg ad c g) = mm_M 96 (.ref 2 :: As) (CW σ tg ad c g) := if_pos rfl
end
