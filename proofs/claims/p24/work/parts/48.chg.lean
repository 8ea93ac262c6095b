/-! LEVEL 2: the pure steps of rules -/
def pp (x : Int32) : Prop := 1 ≤ x ∧ x ≤ 3
theorem pp_iff (x : Int32) : (1 ≤ x ∧ x ≤ 3) ↔ (x = 1 ∨ x = 2 ∨ x = 3) := by
  constructor
  · rintro ⟨h1, h2⟩
    obtain ⟨k, hk, rfl⟩ := nI_upto (n := 3) (by decide) (Int32.le_trans (by decide) h1) h2
    have : k = 0 ∨ k = 1 ∨ k = 2 ∨ k = 3 := by omega
    rcases this with e | e | e | e <;> subst e
    · exact absurd h1 (by decide)
    · exact Or.inl rfl
    · exact Or.inr (Or.inl rfl)
    · exact Or.inr (Or.inr rfl)
  · rintro (e | e | e) <;> subst e <;> decide
noncomputable def chg (f : Nat → Nat → Int32) (N : Nat) (K : Int32) (k : Nat) : Nat → Nat → Int32 :=
  if K = 0 then (if f 33 (7 * k + 5) = 1 ∧ (k = 0 ∨ f 33 (7 * (k - 1) + 5) = 0) ∧ (N ≤ k + 1 ∨ f 33 (7 * (k + 1) + 5) = 0) then uf f 33 (7 * k + 5) 0 else f)
  else if K = 1 then (if (1 ≤ f 13 k ∧ f 13 k ≤ 3) ∧ 1 < N then uf f 33 (7 * k + 0) (f 33 (7 * (if k + 1 < N then k + 1 else k - 1) + 0)) else f)
  else if K = 2 then (if 0 < k ∧ ab (f 33 (7 * (k - 1) + 4) - f 33 (7 * k + 3)) = 2 then uf f 33 (7 * k + 3) (f 33 (7 * (k - 1) + 4)) else f)
  else if K = 3 then (if 0 < k ∧ f 13 k = 0 ∧ f 33 (7 * k + 1) ≠ f 33 (7 * k + 2) ∧ ds (f 33 (7 * (k - 1) + 2)) (f 33 (7 * k + 2)) < ds (f 33 (7 * (k - 1) + 2)) (f 33 (7 * k + 1)) then uf (uf f 33 (7 * k + 1) (f 33 (7 * k + 2))) 33 (7 * k + 2) (f 33 (7 * k + 1)) else f)
  else if K = 4 then (if 0 < k ∧ f 13 k = 5 ∧ f 13 (k - 1) = 5 ∧ f 14 k = f 14 (k - 1) then uf f 33 (7 * k + 2) 5 else f)
  else f
