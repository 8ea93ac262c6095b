/-! JOINT: both are made; the law's value -/
def z0 (a : Nat) : mm_O := if a ≤ 7 then .inr (.inr (.inr [])) else if a = 8 then .inr (.inl (0, 3, fun _ => 0)) else .inr (.inl (0, 200, fun _ => 0))
def Zc (h : Nat → Option mm_O) (fs : List Value) (n x y : Nat) : mm_S := (fun a => if a = 2 then some (.inl (6, fs)) else if 3 ≤ a ∧ a < n then some (z0 a) else h a, n, x, y)
section
variable {h : Nat → Option mm_O} {fs : List Value} {n x y : Nat}
theorem Z_set {k : Nat} {v : Value} (hk : k < fs.length) : mm_setf (Zc h fs n x y) 2 6 k v = some (Zc h (fs.set k v) n x y) := by
  unfold mm_setf
  have e : (Zc h fs n x y).1 2 = some (.inl (6, fs)) := rfl
  rw [e]
  show (if 6 = 6 ∧ k < fs.length then some (mm_put _ _ _) else none) = _
  rw [if_pos ⟨rfl, hk⟩]
  refine congrArg some (Prod.ext (funext fun a => ?_) rfl)
  show (if a = 2 then _ else if a = 2 then _ else _) = if a = 2 then _ else _
  split <;> rfl
theorem Z_lin (h3 : 3 ≤ n) (h7 : n ≤ 7) : mm_lin (mm_new (Zc h fs n x y) (.inl (8, [.int 0, .null, .int 0])) 3) n = some (Zc h fs (n + 1) (x + 1) (y + 3)) := by
  unfold mm_lin mm_fr
  have e : (mm_new (Zc h fs n x y) (.inl (8, [.int 0, .null, .int 0])) 3).1 n = some (.inl (8, [.int 0, .null, .int 0])) := if_pos rfl
  rw [e]
  show some (mm_put _ _ _) = _
  refine congrArg some (Prod.ext (funext fun a => ?_) rfl)
  show (if a = n then _ else if a = n then _ else if a = 2 then _ else if 3 ≤ a ∧ a < n then _ else _) = if a = 2 then _ else if 3 ≤ a ∧ a < n + 1 then _ else _
  by_cases e : a = n
  · subst e
    rw [if_pos rfl, if_neg (by omega), if_pos (by omega)]
    unfold z0
    rw [if_pos h7]
  · rw [if_neg e, if_neg e]
    by_cases e2 : a = 2
    · rw [if_pos e2, if_pos e2]
    · rw [if_neg e2, if_neg e2]
      by_cases e3 : 3 ≤ a ∧ a < n
      · rw [if_pos e3, if_pos (by omega)]
      · rw [if_neg e3, if_neg (by omega)]
theorem Z_new {o : mm_O} {w : Nat} (h3 : 3 ≤ n) (ho : z0 n = o) : mm_new (Zc h fs n x y) o w = Zc h fs (n + 1) (x + 1) (y + w) := by
  refine Prod.ext (funext fun a => ?_) rfl
  show (if a = n then _ else if a = 2 then _ else if 3 ≤ a ∧ a < n then _ else _) = if a = 2 then _ else if 3 ≤ a ∧ a < n + 1 then _ else _
  by_cases e : a = n
  · subst e
    rw [if_pos rfl, if_neg (by omega), if_pos (by omega), ho]
  · rw [if_neg e]
    by_cases e2 : a = 2
    · rw [if_pos e2, if_pos e2]
    · rw [if_neg e2, if_neg e2]
      by_cases e3 : 3 ≤ a ∧ a < n
      · rw [if_pos e3, if_pos (by omega)]
      · rw [if_neg e3, if_neg (by omega)]
theorem c_23 : mm_M 23 [.ref 2] (Zc h [.null, .null, .null, .null, .null, .null, .null, .null] 3 x y) = some (.inl none, Zc h [.ref 3, .ref 4, .ref 5, .ref 6, .ref 7, .ref 8, .ref 9, .ref 10] 11 (x + 8) (y + 418)) := by
  rw [M_23, e23_0]
  show mm_bS (mm_lin (mm_new (Zc h [.null, .null, .null, .null, .null, .null, .null, .null] 3 (x + 0) (y + 0)) (.inl (8, [.int 0, .null, .int 0])) 3) 3) _ _ _ _ = _
  rw [Z_lin (by decide) (by decide), bS_s]
  show mm_L 23 12 _ [.ref 3, .ref 2] (Zc h [.null, .null, .null, .null, .null, .null, .null, .null] 4 (x + 1) (y + 3)) = _
  rw [e23_12, Z_set (show 0 < 8 by decide), bS_s]
  show mm_L 23 15 _ [] (Zc h [.ref 3, .null, .null, .null, .null, .null, .null, .null] 4 (x + 1) (y + 3)) = _
  rw [e23_15]
  show mm_bS (mm_lin (mm_new (Zc h [.ref 3, .null, .null, .null, .null, .null, .null, .null] 4 (x + 1) (y + 3)) (.inl (8, [.int 0, .null, .int 0])) 3) 4) _ _ _ _ = _
  rw [Z_lin (by decide) (by decide), bS_s]
  show mm_L 23 23 _ [.ref 4, .ref 2] (Zc h [.ref 3, .null, .null, .null, .null, .null, .null, .null] 5 (x + 2) (y + 6)) = _
  rw [e23_23, Z_set (show 1 < 8 by decide), bS_s]
  show mm_L 23 26 _ [] (Zc h [.ref 3, .ref 4, .null, .null, .null, .null, .null, .null] 5 (x + 2) (y + 6)) = _
  rw [e23_26]
  show mm_bS (mm_lin (mm_new (Zc h [.ref 3, .ref 4, .null, .null, .null, .null, .null, .null] 5 (x + 2) (y + 6)) (.inl (8, [.int 0, .null, .int 0])) 3) 5) _ _ _ _ = _
  rw [Z_lin (by decide) (by decide), bS_s]
  show mm_L 23 34 _ [.ref 5, .ref 2] (Zc h [.ref 3, .ref 4, .null, .null, .null, .null, .null, .null] 6 (x + 3) (y + 9)) = _
  rw [e23_34, Z_set (show 2 < 8 by decide), bS_s]
  show mm_L 23 37 _ [] (Zc h [.ref 3, .ref 4, .ref 5, .null, .null, .null, .null, .null] 6 (x + 3) (y + 9)) = _
  rw [e23_37]
  show mm_bS (mm_lin (mm_new (Zc h [.ref 3, .ref 4, .ref 5, .null, .null, .null, .null, .null] 6 (x + 3) (y + 9)) (.inl (8, [.int 0, .null, .int 0])) 3) 6) _ _ _ _ = _
  rw [Z_lin (by decide) (by decide), bS_s]
  show mm_L 23 45 _ [.ref 6, .ref 2] (Zc h [.ref 3, .ref 4, .ref 5, .null, .null, .null, .null, .null] 7 (x + 4) (y + 12)) = _
  rw [e23_45, Z_set (show 3 < 8 by decide), bS_s]
  show mm_L 23 48 _ [] (Zc h [.ref 3, .ref 4, .ref 5, .ref 6, .null, .null, .null, .null] 7 (x + 4) (y + 12)) = _
  rw [e23_48]
  show mm_bS (mm_lin (mm_new (Zc h [.ref 3, .ref 4, .ref 5, .ref 6, .null, .null, .null, .null] 7 (x + 4) (y + 12)) (.inl (8, [.int 0, .null, .int 0])) 3) 7) _ _ _ _ = _
  rw [Z_lin (by decide) (by decide), bS_s]
  show mm_L 23 56 _ [.ref 7, .ref 2] (Zc h [.ref 3, .ref 4, .ref 5, .ref 6, .null, .null, .null, .null] 8 (x + 5) (y + 15)) = _
  rw [e23_56, Z_set (show 4 < 8 by decide), bS_s]
  show mm_L 23 59 _ [] (Zc h [.ref 3, .ref 4, .ref 5, .ref 6, .ref 7, .null, .null, .null] 8 (x + 5) (y + 15)) = _
  rw [e23_59]
  show mm_bS (mm_setf (mm_new (Zc h [.ref 3, .ref 4, .ref 5, .ref 6, .ref 7, .null, .null, .null] 8 (x + 5) (y + 15)) (.inr (.inl (0, 3, fun _ => 0))) 3) 2 6 5 (.ref 8)) _ _ _ _ = _
  rw [Z_new (by decide) (show z0 8 = .inr (.inl (0, 3, fun _ => 0)) from rfl), Z_set (show 5 < 8 by decide), bS_s]
  show mm_L 23 66 _ [] (Zc h [.ref 3, .ref 4, .ref 5, .ref 6, .ref 7, .ref 8, .null, .null] 9 (x + 6) (y + 18)) = _
  rw [e23_66]
  show mm_bS (mm_setf (mm_new (Zc h [.ref 3, .ref 4, .ref 5, .ref 6, .ref 7, .ref 8, .null, .null] 9 (x + 6) (y + 18)) (.inr (.inl (0, 200, fun _ => 0))) 200) 2 6 6 (.ref 9)) _ _ _ _ = _
  rw [Z_new (by decide) (show z0 9 = .inr (.inl (0, 200, fun _ => 0)) from rfl), Z_set (show 6 < 8 by decide), bS_s]
  show mm_L 23 75 _ [] (Zc h [.ref 3, .ref 4, .ref 5, .ref 6, .ref 7, .ref 8, .ref 9, .null] 10 (x + 7) (y + 218)) = _
  rw [e23_75]
  show mm_bS (mm_setf (mm_new (Zc h [.ref 3, .ref 4, .ref 5, .ref 6, .ref 7, .ref 8, .ref 9, .null] 10 (x + 7) (y + 218)) (.inr (.inl (0, 200, fun _ => 0))) 200) 2 6 7 (.ref 10)) _ _ _ _ = _
  rw [Z_new (by decide) (show z0 10 = .inr (.inl (0, 200, fun _ => 0)) from rfl), Z_set (show 7 < 8 by decide), bS_s]
  show mm_L 23 84 _ [] (Zc h [.ref 3, .ref 4, .ref 5, .ref 6, .ref 7, .ref 8, .ref 9, .ref 10] 11 (x + 8) (y + 418)) = _
  rw [e23_84]
end
def c0 : Nat → Nat := fun _ => 0
def g0 : Nat → Nat → Int32 := fun _ _ => 0
def t0 : Nat → Nat × Nat := fun _ => (0, 0)
def a0 : Nat × Nat → Nat := fun _ => 0
theorem WF0 {n : Nat} (h : 11 ≤ n) : WF t0 a0 c0 n := by
  refine ⟨⟨Nat.zero_le _, Nat.zero_le _, Nat.zero_le _, Nat.zero_le _, Nat.zero_le _, fun i hi => absurd hi (Nat.not_lt_zero _)⟩, fun k i h => ?_, fun a h => absurd rfl h, h⟩
  unfold LI c0 at h
  omega
theorem RI0 : RI c0 g0 := ⟨fun k hk => absurd hk (Nat.not_lt_zero _), fun k hk => absurd hk (Nat.not_lt_zero _), fun k hk => absurd hk (Nat.not_lt_zero _), fun k hk => absurd hk (Nat.not_lt_zero _), fun k hk => absurd hk (Nat.not_lt_zero _)⟩
/-- the law's value behind says -/
theorem law_val {σ : mm_S} {L : Nat} {s : Nat → Int32} (hL : L ≤ 260) (hn : σ.2.1 = 2) (h0 : σ.1 0 = some (.inr (.inl (2, L, s)))) (h1 : LO σ) : ∃ τ : mm_S, mm_L 115 3 [.ref 0, mm_un, mm_un, mm_un, mm_un, mm_un, mm_un, mm_un, mm_un, mm_un, mm_un] [.int 1] σ = some (.inl (some (.int 1)), τ) ∧ τ.2.2.1 ≤ σ.2.2.1 + 40000 ∧ τ.2.2.2 ≤ σ.2.2.2 + 300000 := by
  obtain ⟨h, n, x, y⟩ := σ
  have hn : n = 2 := hn
  subst hn
  have e1 : mm_new (h, 2, x, y) (.inl (6, [.null, .null, .null, .null, .null, .null, .null, .null])) 8 = Zc h [.null, .null, .null, .null, .null, .null, .null, .null] 3 (x + 1) (y + 8) := by
    refine Prod.ext (funext fun a => ?_) rfl
    show (if a = 2 then _ else _) = if a = 2 then _ else if 3 ≤ a ∧ a < 3 then _ else _
    by_cases e : a = 2
    · rw [if_pos e, if_pos e]
    · rw [if_neg e, if_neg e, if_neg (by omega)]
  have hr : ∀ (fs : List Value) n x y, mm_Mo 23 2 [] (Zc h fs n x y) = mm_M 23 [.ref 2] (Zc h fs n x y) := fun fs n x y => if_pos rfl
  rw [e115_3, if_neg (by decide), e115_8]
  show ∃ τ, mm_K2 (mm_Mo 23 2 [] (mm_new (h, 2, x, y) _ 8)) 115 15 _ [.ref 2] = _ ∧ _
  rw [e1, hr, c_23, K2_n, e115_15]
  let σ1 : mm_S := (h, 11, x + 1 + 8, y + 8 + 418)
  have e2 : Zc h [.ref 3, .ref 4, .ref 5, .ref 6, .ref 7, .ref 8, .ref 9, .ref 10] 11 (x + 1 + 8) (y + 8 + 418) = CW σ1 t0 a0 c0 g0 := by
    refine Prod.ext (funext fun a => ?_) rfl
    show (if a = 2 then _ else if 3 ≤ a ∧ a < 11 then some (z0 a) else h a) = CH σ1 t0 a0 c0 g0 a
    by_cases z : 2 ≤ a ∧ a ≤ 10
    · have : a = 2 ∨ a = 3 ∨ a = 4 ∨ a = 5 ∨ a = 6 ∨ a = 7 ∨ a = 8 ∨ a = 9 ∨ a = 10 := by omega
      rcases this with e | e | e | e | e | e | e | e | e <;> subst e <;> rfl
    · rw [if_neg (by omega), if_neg (by omega)]
      have : CH σ1 t0 a0 c0 g0 a = (CW σ1 t0 a0 c0 g0).1 a := rfl
      rw [this, CW_mid (by omega) rfl]
  rw [e2]
  have hJ : LJ L s σ1 t0 a0 c0 g0 := ⟨WF0 (show 11 ≤ 11 by decide), h1, h0, RI0, show 0 < 14 by decide⟩
  obtain ⟨τ, l1, l2, l3⟩ := law_all hL 70 0 σ1 t0 a0 c0 g0 mm_un mm_un mm_un mm_un (by omega) hJ
  refine ⟨τ, l1, ?_, ?_⟩
  · have : τ.2.2.1 ≤ x + 1 + 8 + 500 * 70 := l2
    show τ.2.2.1 ≤ x + 40000
    omega
  · have : τ.2.2.2 ≤ y + 8 + 418 + 4000 * 70 := l3
    show τ.2.2.2 ≤ y + 300000
    omega
