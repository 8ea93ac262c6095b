/-! JOINT: both are made; the law's value -/
def z0 (a : Nat) : mm_O := if a ≤ 7 then .inr (.inr (.inr [])) else if a = 8 then .inr (.inl (0, 3, fun _ => 0)) else .inr (.inl (0, 200, fun _ => 0))
def Zc (h : Nat → Option mm_O) (fs : List Value) (n x y : Nat) : mm_S := (fun a => if a = 2 then some (.inl (6, fs)) else if 3 ≤ a ∧ a < n then some (z0 a) else h a, n, x, y)
section
variable {h : Nat → Option mm_O} {fs : List Value} {n x y : Nat}
theorem Z_set {k : Nat} {v : Value} (hk : k < fs.length) : mm_setf (Zc h fs n x y) 2 6 k v = some (Zc h (fs.set k v) n x y) := by
  unfold mm_setf
  have e : (Zc h fs n x y).1 2 = some (.inl (6, fs)) := rfl
  rw [e]
  show (if 6 = 6 ∧ k < fs.length then some (mm_put _ _ _) else none) = _
  rw [if_pos ⟨rfl, hk⟩]
  refine congrArg some (Prod.ext (funext fun a => ?_) rfl)
  show (if a = 2 then _ else if a = 2 then _ else _) = if a = 2 then _ else _
  split <;> rfl
theorem Z_lin (h3 : 3 ≤ n) (h7 : n ≤ 7) : mm_lin (mm_new (Zc h fs n x y) (.inl (8, [.int 0, .null, .int 0])) 3) n = some (Zc h fs (n + 1) (x + 1) (y + 3)) := by
  unfold mm_lin mm_fr
  have e : (mm_new (Zc h fs n x y) (.inl (8, [.int 0, .null, .int 0])) 3).1 n = some (.inl (8, [.int 0, .null, .int 0])) := if_pos rfl
  rw [e]
  show some (mm_put _ _ _) = _
  refine congrArg some (Prod.ext (funext fun a => ?_) rfl)
  show (if a = n then _ else if a = n then _ else if a = 2 then _ else if 3 ≤ a ∧ a < n then _ else _) = if a = 2 then _ else if 3 ≤ a ∧ a < n + 1 then _ else _
  by_cases e : a = n
  · subst e
    rw [if_pos rfl, if_neg (by omega), if_pos (by omega)]
    unfold z0
    rw [if_pos h7]
  · rw [if_neg e, if_neg e]
    by_cases e2 : a = 2
    · rw [if_pos e2, if_pos e2]
    · rw [if_neg e2, if_neg e2]
      by_cases e3 : 3 ≤ a ∧ a < n
      · rw [if_pos e3, if_pos (by omega)]
      · rw [if_neg e3, if_neg (by omega)]
theorem Z_new {o : mm_O} {w : Nat} (h3 : 3 ≤ n) (ho : z0 n = o) : mm_new (Zc h fs n x y) o w = Zc h fs (n + 1) (x + 1) (y + w) := by
  refine Prod.ext (funext fun a => ?_) rfl
  show (if a = n then _ else if a = 2 then _ else if 3 ≤ a ∧ a < n then _ else _) = if a = 2 then _ else if 3 ≤ a ∧ a < n + 1 then _ else _
  by_cases e : a = n
  · subst e
    rw [if_pos rfl, if_neg (by omega), if_pos (by omega), ho]
  · rw [if_neg e]
    by_cases e2 : a = 2
    · rw [if_pos e2, if_pos e2]
    · rw [if_neg e2, if_neg e2]
      by_cases e3 : 3 ≤ a ∧ a < n
      · rw [if_pos e3, if_pos (by omega)]
      · rw [if_neg e3, if_neg (by omega)]
theorem c_23 : mm_M 23 [.ref 2] (Zc h [.null, .null, .null, .null, .null, .null, .null, .null] 3 x y) = some (.inl none, Zc h [.ref 3, .ref 4, .ref 5, .ref 6, .ref 7, .ref 8, .ref 9, .ref 10] 11 (x + 8) (y + 418)) := by
  rw [M_23, e23_0]
  show mm_bS (mm_lin (mm_new (Zc h [.null, .null, .null, .null, .null, .null, .null, .null] 3 (x + 0) (y + 0)) (.inl (8, [.int 0, .null, .int 0])) 3) 3) _ _ _ _ = _
  rw [Z_lin (by decide) (by decide), bS_s]
  show mm_L 23 12 _ [.ref 3, .ref 2] (Zc h [.null, .null, .null, .null, .null, .null, .null, .null] 4 (x + 1) (y + 3)) = _
  rw [e23_12, Z_set (show 0 < 8 by decide), bS_s]
  show mm_L 23 15 _ [] (Zc h [.ref 3, .null, .null, .null, .null, .null, .null, .null] 4 (x + 1) (y + 3)) = _
  rw [e23_15]
  show mm_bS (mm_lin (mm_new (Zc h [.ref 3, .null, .null, .null, .null, .null, .null, .null] 4 (x + 1) (y + 3)) (.inl (8, [.int 0, .null, .int 0])) 3) 4) _ _ _ _ = _
  rw [Z_lin (by decide) (by decide), bS_s]
  show mm_L 23 23 _ [.ref 4, .ref 2] (Zc h [.ref 3, .null, .null, .null, .null, .null, .null, .null] 5 (x + 2) (y + 6)) = _
  rw [e23_23, Z_set (show 1 < 8 by decide), bS_s]
  show mm_L 23 26 _ [] (Zc h [.ref 3, .ref 4, .null, .null, .null, .null, .null, .null] 5 (x + 2) (y + 6)) = _
  rw [e23_26]
  show mm_bS (mm_lin (mm_new (Zc h [.ref 3, .ref 4, .null, .null, .null, .null, .null, .null] 5 (x + 2) (y + 6)) (.inl (8, [.int 0, .null, .int 0])) 3) 5) _ _ _ _ = _
  rw [Z_lin (by decide) (by decide), bS_s]
  show mm_L 23 34 _ [.ref 5, .ref 2] (Zc h [.ref 3, .ref 4, .null, .null, .null, .null, .null, .null] 6 (x + 3) (y + 9)) = _
  rw [e23_34, Z_set (show 2 < 8 by decide), bS_s]
  show mm_L 23 37 _ [] (Zc h [.ref 3, .ref 4, .ref 5, .null, .null, .null, .null, .null] 6 (x + 3) (y + 9)) = _
  rw [e23_37]
  show mm_bS (mm_lin (mm_new (Zc h [.ref 3, .ref 4, .ref 5, .null, .null, .null, .null, .null] 6 (x + 3) (y + 9)) (.inl (8, [.int 0, .null, .int 0])) 3) 6) _ _ _ _ = _
  rw [Z_lin (by decide) (by decide), bS_s]
  show mm_L 23 45 _ [.ref 6, .ref 2] (Zc h [.ref 3, .ref 4, .ref 5, .null, .null, .null, .null, .null] 7 (x + 4) (y + 12)) = _
  rw [e23_45, Z_set (show 3 < 8 by decide), bS_s]
  show mm_L 23 48 _ [] (Zc h [.ref 3, .ref 4, .ref 5, .ref 6, .null, .null, .null, .null] 7 (x + 4) (y + 12)) = _
  rw [e23_48]
  show mm_bS (mm_lin (mm_new (Zc h [.ref 3, .ref 4, .ref 5, .ref 6, .null, .null, .null, .null] 7 (x + 4) (y + 12)) (.inl (8, [.int 0, .null, .int 0])) 3) 7) _ _ _ _ = _
  rw [Z_lin (by decide) (by decide), bS_s]
  show mm_L 23 56 _ [.ref 7, .ref 2] (Zc h [.ref 3, .ref 4, .ref 5, .ref 6, .null, .null, .null, .null] 8 (x + 5) (y + 15)) = _
  rw [e23_56, Z_set (show 4 < 8 by decide), bS_s]
  show mm_L 23 59 _ [] (Zc h [.ref 3, .ref 4, .ref 5, .ref 6, .ref 7, .null, .null, .null] 8 (x + 5) (y + 15)) = _
  rw [e23_59]
  show mm_bS (mm_setf (mm_new (Zc h [.ref 3, .ref 4, .ref 5, .ref 6, .ref 7, .null, .null, .null] 8 (x + 5) (y + 15)) (.inr (.inl (0, 3, fun _ => 0))) 3) 2 6 5 (.ref 8)) _ _ _ _ = _
  rw [Z_new (by decide) (show z0 8 = .inr (.inl (0, 3, fun _ => 0)) from rfl), Z_set (show 5 < 8 by decide), bS_s]
  show mm_L 23 66 _ [] (Zc h [.ref 3, .ref 4, .ref 5, .ref 6, .ref 7, .ref 8, .null, .null] 9 (x + 6) (y + 18)) = _
  rw [e23_66]
  show mm_bS (mm_setf (mm_new (Zc h [.ref 3, .ref 4, .ref 5, .ref 6, .ref 7, .ref 8, .null, .null] 9 (x + 6) (y + 18)) (.inr (.inl (0, 200, fun _ => 0))) 200) 2 6 6 (.ref 9)) _ _ _ _ = _
  rw [Z_new (by decide) (show z0 9 = .inr (.inl (0, 200, fun _ => 0)) from rfl), Z_set (show 6 < 8 by decide), bS_s]
  show mm_L 23 75 _ [] (Zc h [.ref 3, .ref 4, .ref 5, .ref 6, .ref 7, .ref 8, .ref 9, .null] 10 (x + 7) (y + 218)) = _
  rw [e23_75]
  show mm_bS (mm_setf (mm_new (Zc h [.ref 3, .ref 4, .ref 5, .ref 6, .ref 7, .ref 8, .ref 9, .null] 10 (x + 7) (y + 218)) (.inr (.inl (0, 200, fun _ => 0))) 200) 2 6 7 (.ref 10)) _ _ _ _ = _
  rw [Z_new (by decide) (show z0 10 = .inr (.inl (0, 200, fun _ => 0)) from rfl), Z_set (show 7 < 8 by decide), bS_s]
  show mm_L 23 84 _ [] (Zc h [.ref 3, .ref 4, .ref 5, .ref 6, .ref 7, .ref 8, .ref 9, .ref 10] 11 (x + 8) (y + 418)) = _
  rw [e23_84]
def y0 (a : Nat) : mm_O := .inr (.inl (if a = 23 then 1 else 0, mo_len a, fun _ => 0))
def Yc (h : Nat → Option mm_O) (fs : List Value) (n x y : Nat) : mm_S := (fun a => if a = 11 then some (.inl (7, fs)) else if 12 ≤ a ∧ a < n then some (y0 a) else h a, n, x, y)
theorem Y_st {k b l : Nat} (h3 : 12 ≤ n) (ho : y0 n = .inr (.inl (b, l, fun _ => 0))) (hk : k < fs.length) : mm_setf (mm_new (Yc h fs n x y) (.inr (.inl (b, l, fun _ => 0))) l) 11 7 k (.ref n) = some (Yc h (fs.set k (.ref n)) (n + 1) (x + 1) (y + l)) := by
  unfold mm_setf
  have e : (mm_new (Yc h fs n x y) (.inr (.inl (b, l, fun _ => 0))) l).1 11 = some (.inl (7, fs)) := by
    show (if 11 = n then _ else _) = _
    rw [if_neg (by omega)]
    rfl
  rw [e]
  show (if 7 = 7 ∧ k < fs.length then some (mm_put _ _ _) else none) = _
  rw [if_pos ⟨rfl, hk⟩]
  refine congrArg some (Prod.ext (funext fun a => ?_) rfl)
  show (if a = 11 then _ else if a = n then _ else if a = 11 then _ else if 12 ≤ a ∧ a < n then _ else _) = if a = 11 then _ else if 12 ≤ a ∧ a < n + 1 then _ else _
  by_cases e1 : a = 11
  · rw [if_pos e1, if_pos e1]
  · simp only [if_neg e1]
    by_cases e : a = n
    · subst e
      rw [if_pos rfl, if_pos (by omega), ho]
    · rw [if_neg e]
      by_cases e3 : 12 ≤ a ∧ a < n
      · rw [if_pos e3, if_pos (by omega)]
      · rw [if_neg e3, if_neg (by omega)]
theorem s_106 : mm_M 106 [.ref 11] (Yc h [.int 0, .null, .int 0, .null, .null, .null, .null, .null, .int 0, .null, .null, .null, .int 0, .null, .null, .int 0, .null, .null, .null, .null, .null, .null, .null, .null, .null, .null, .null, .int 0] 12 x y) = mm_L 106 185 [.ref 11, .int 0] [] (MW (h, 34, x + 1 + 1 + 1 + 1 + 1 + 1 + 1 + 1 + 1 + 1 + 1 + 1 + 1 + 1 + 1 + 1 + 1 + 1 + 1 + 1 + 1 + 1, y + 210 + 14 + 14 + 14 + 14 + 4 + 8 + 8 + 8 + 6 + 6 + 24 + 24 + 24 + 24 + 24 + 6 + 57600 + 288 + 2880 + 2880 + 98) (vN (fun _ => 0)) (fun _ _ => 0)) := by
  rw [M_106, e106_0]
  show mm_bS (mm_setf (mm_new (Yc h [.int 0, .null, .int 0, .null, .null, .null, .null, .null, .int 0, .null, .null, .null, .int 0, .null, .null, .int 0, .null, .null, .null, .null, .null, .null, .null, .null, .null, .null, .null, .int 0] 12 (x) (y)) (.inr (.inl (0, 210, fun _ => 0))) 210) 11 7 1 (.ref 12)) _ _ _ _ = _
  rw [Y_st (by decide) (show y0 12 = .inr (.inl (0, 210, fun _ => 0)) from rfl) (show 1 < 28 by decide), bS_s]
  show mm_L 106 13 _ [] (Yc h [.int 0, .ref 12, .int 0, .null, .null, .null, .null, .null, .int 0, .null, .null, .null, .int 0, .null, .null, .int 0, .null, .null, .null, .null, .null, .null, .null, .null, .null, .null, .null, .int 0] 13 (x + 1) (y + 210)) = _
  rw [e106_13]
  show mm_bS (mm_setf (mm_new (Yc h [.int 0, .ref 12, .int 0, .null, .null, .null, .null, .null, .int 0, .null, .null, .null, .int 0, .null, .null, .int 0, .null, .null, .null, .null, .null, .null, .null, .null, .null, .null, .null, .int 0] 13 (x + 1) (y + 210)) (.inr (.inl (0, 14, fun _ => 0))) 14) 11 7 3 (.ref 13)) _ _ _ _ = _
  rw [Y_st (by decide) (show y0 13 = .inr (.inl (0, 14, fun _ => 0)) from rfl) (show 3 < 28 by decide), bS_s]
  show mm_L 106 21 _ [] (Yc h [.int 0, .ref 12, .int 0, .ref 13, .null, .null, .null, .null, .int 0, .null, .null, .null, .int 0, .null, .null, .int 0, .null, .null, .null, .null, .null, .null, .null, .null, .null, .null, .null, .int 0] 14 (x + 1 + 1) (y + 210 + 14)) = _
  rw [e106_21]
  show mm_bS (mm_setf (mm_new (Yc h [.int 0, .ref 12, .int 0, .ref 13, .null, .null, .null, .null, .int 0, .null, .null, .null, .int 0, .null, .null, .int 0, .null, .null, .null, .null, .null, .null, .null, .null, .null, .null, .null, .int 0] 14 (x + 1 + 1) (y + 210 + 14)) (.inr (.inl (0, 14, fun _ => 0))) 14) 11 7 4 (.ref 14)) _ _ _ _ = _
  rw [Y_st (by decide) (show y0 14 = .inr (.inl (0, 14, fun _ => 0)) from rfl) (show 4 < 28 by decide), bS_s]
  show mm_L 106 29 _ [] (Yc h [.int 0, .ref 12, .int 0, .ref 13, .ref 14, .null, .null, .null, .int 0, .null, .null, .null, .int 0, .null, .null, .int 0, .null, .null, .null, .null, .null, .null, .null, .null, .null, .null, .null, .int 0] 15 (x + 1 + 1 + 1) (y + 210 + 14 + 14)) = _
  rw [e106_29]
  show mm_bS (mm_setf (mm_new (Yc h [.int 0, .ref 12, .int 0, .ref 13, .ref 14, .null, .null, .null, .int 0, .null, .null, .null, .int 0, .null, .null, .int 0, .null, .null, .null, .null, .null, .null, .null, .null, .null, .null, .null, .int 0] 15 (x + 1 + 1 + 1) (y + 210 + 14 + 14)) (.inr (.inl (0, 14, fun _ => 0))) 14) 11 7 5 (.ref 15)) _ _ _ _ = _
  rw [Y_st (by decide) (show y0 15 = .inr (.inl (0, 14, fun _ => 0)) from rfl) (show 5 < 28 by decide), bS_s]
  show mm_L 106 37 _ [] (Yc h [.int 0, .ref 12, .int 0, .ref 13, .ref 14, .ref 15, .null, .null, .int 0, .null, .null, .null, .int 0, .null, .null, .int 0, .null, .null, .null, .null, .null, .null, .null, .null, .null, .null, .null, .int 0] 16 (x + 1 + 1 + 1 + 1) (y + 210 + 14 + 14 + 14)) = _
  rw [e106_37]
  show mm_bS (mm_setf (mm_new (Yc h [.int 0, .ref 12, .int 0, .ref 13, .ref 14, .ref 15, .null, .null, .int 0, .null, .null, .null, .int 0, .null, .null, .int 0, .null, .null, .null, .null, .null, .null, .null, .null, .null, .null, .null, .int 0] 16 (x + 1 + 1 + 1 + 1) (y + 210 + 14 + 14 + 14)) (.inr (.inl (0, 14, fun _ => 0))) 14) 11 7 6 (.ref 16)) _ _ _ _ = _
  rw [Y_st (by decide) (show y0 16 = .inr (.inl (0, 14, fun _ => 0)) from rfl) (show 6 < 28 by decide), bS_s]
  show mm_L 106 45 _ [] (Yc h [.int 0, .ref 12, .int 0, .ref 13, .ref 14, .ref 15, .ref 16, .null, .int 0, .null, .null, .null, .int 0, .null, .null, .int 0, .null, .null, .null, .null, .null, .null, .null, .null, .null, .null, .null, .int 0] 17 (x + 1 + 1 + 1 + 1 + 1) (y + 210 + 14 + 14 + 14 + 14)) = _
  rw [e106_45]
  show mm_bS (mm_setf (mm_new (Yc h [.int 0, .ref 12, .int 0, .ref 13, .ref 14, .ref 15, .ref 16, .null, .int 0, .null, .null, .null, .int 0, .null, .null, .int 0, .null, .null, .null, .null, .null, .null, .null, .null, .null, .null, .null, .int 0] 17 (x + 1 + 1 + 1 + 1 + 1) (y + 210 + 14 + 14 + 14 + 14)) (.inr (.inl (0, 4, fun _ => 0))) 4) 11 7 7 (.ref 17)) _ _ _ _ = _
  rw [Y_st (by decide) (show y0 17 = .inr (.inl (0, 4, fun _ => 0)) from rfl) (show 7 < 28 by decide), bS_s]
  show mm_L 106 52 _ [] (Yc h [.int 0, .ref 12, .int 0, .ref 13, .ref 14, .ref 15, .ref 16, .ref 17, .int 0, .null, .null, .null, .int 0, .null, .null, .int 0, .null, .null, .null, .null, .null, .null, .null, .null, .null, .null, .null, .int 0] 18 (x + 1 + 1 + 1 + 1 + 1 + 1) (y + 210 + 14 + 14 + 14 + 14 + 4)) = _
  rw [e106_52]
  show mm_bS (mm_setf (mm_new (Yc h [.int 0, .ref 12, .int 0, .ref 13, .ref 14, .ref 15, .ref 16, .ref 17, .int 0, .null, .null, .null, .int 0, .null, .null, .int 0, .null, .null, .null, .null, .null, .null, .null, .null, .null, .null, .null, .int 0] 18 (x + 1 + 1 + 1 + 1 + 1 + 1) (y + 210 + 14 + 14 + 14 + 14 + 4)) (.inr (.inl (0, 8, fun _ => 0))) 8) 11 7 9 (.ref 18)) _ _ _ _ = _
  rw [Y_st (by decide) (show y0 18 = .inr (.inl (0, 8, fun _ => 0)) from rfl) (show 9 < 28 by decide), bS_s]
  show mm_L 106 60 _ [] (Yc h [.int 0, .ref 12, .int 0, .ref 13, .ref 14, .ref 15, .ref 16, .ref 17, .int 0, .ref 18, .null, .null, .int 0, .null, .null, .int 0, .null, .null, .null, .null, .null, .null, .null, .null, .null, .null, .null, .int 0] 19 (x + 1 + 1 + 1 + 1 + 1 + 1 + 1) (y + 210 + 14 + 14 + 14 + 14 + 4 + 8)) = _
  rw [e106_60]
  show mm_bS (mm_setf (mm_new (Yc h [.int 0, .ref 12, .int 0, .ref 13, .ref 14, .ref 15, .ref 16, .ref 17, .int 0, .ref 18, .null, .null, .int 0, .null, .null, .int 0, .null, .null, .null, .null, .null, .null, .null, .null, .null, .null, .null, .int 0] 19 (x + 1 + 1 + 1 + 1 + 1 + 1 + 1) (y + 210 + 14 + 14 + 14 + 14 + 4 + 8)) (.inr (.inl (0, 8, fun _ => 0))) 8) 11 7 10 (.ref 19)) _ _ _ _ = _
  rw [Y_st (by decide) (show y0 19 = .inr (.inl (0, 8, fun _ => 0)) from rfl) (show 10 < 28 by decide), bS_s]
  show mm_L 106 68 _ [] (Yc h [.int 0, .ref 12, .int 0, .ref 13, .ref 14, .ref 15, .ref 16, .ref 17, .int 0, .ref 18, .ref 19, .null, .int 0, .null, .null, .int 0, .null, .null, .null, .null, .null, .null, .null, .null, .null, .null, .null, .int 0] 20 (x + 1 + 1 + 1 + 1 + 1 + 1 + 1 + 1) (y + 210 + 14 + 14 + 14 + 14 + 4 + 8 + 8)) = _
  rw [e106_68]
  show mm_bS (mm_setf (mm_new (Yc h [.int 0, .ref 12, .int 0, .ref 13, .ref 14, .ref 15, .ref 16, .ref 17, .int 0, .ref 18, .ref 19, .null, .int 0, .null, .null, .int 0, .null, .null, .null, .null, .null, .null, .null, .null, .null, .null, .null, .int 0] 20 (x + 1 + 1 + 1 + 1 + 1 + 1 + 1 + 1) (y + 210 + 14 + 14 + 14 + 14 + 4 + 8 + 8)) (.inr (.inl (0, 8, fun _ => 0))) 8) 11 7 11 (.ref 20)) _ _ _ _ = _
  rw [Y_st (by decide) (show y0 20 = .inr (.inl (0, 8, fun _ => 0)) from rfl) (show 11 < 28 by decide), bS_s]
  show mm_L 106 76 _ [] (Yc h [.int 0, .ref 12, .int 0, .ref 13, .ref 14, .ref 15, .ref 16, .ref 17, .int 0, .ref 18, .ref 19, .ref 20, .int 0, .null, .null, .int 0, .null, .null, .null, .null, .null, .null, .null, .null, .null, .null, .null, .int 0] 21 (x + 1 + 1 + 1 + 1 + 1 + 1 + 1 + 1 + 1) (y + 210 + 14 + 14 + 14 + 14 + 4 + 8 + 8 + 8)) = _
  rw [e106_76]
  show mm_bS (mm_setf (mm_new (Yc h [.int 0, .ref 12, .int 0, .ref 13, .ref 14, .ref 15, .ref 16, .ref 17, .int 0, .ref 18, .ref 19, .ref 20, .int 0, .null, .null, .int 0, .null, .null, .null, .null, .null, .null, .null, .null, .null, .null, .null, .int 0] 21 (x + 1 + 1 + 1 + 1 + 1 + 1 + 1 + 1 + 1) (y + 210 + 14 + 14 + 14 + 14 + 4 + 8 + 8 + 8)) (.inr (.inl (0, 6, fun _ => 0))) 6) 11 7 13 (.ref 21)) _ _ _ _ = _
  rw [Y_st (by decide) (show y0 21 = .inr (.inl (0, 6, fun _ => 0)) from rfl) (show 13 < 28 by decide), bS_s]
  show mm_L 106 84 _ [] (Yc h [.int 0, .ref 12, .int 0, .ref 13, .ref 14, .ref 15, .ref 16, .ref 17, .int 0, .ref 18, .ref 19, .ref 20, .int 0, .ref 21, .null, .int 0, .null, .null, .null, .null, .null, .null, .null, .null, .null, .null, .null, .int 0] 22 (x + 1 + 1 + 1 + 1 + 1 + 1 + 1 + 1 + 1 + 1) (y + 210 + 14 + 14 + 14 + 14 + 4 + 8 + 8 + 8 + 6)) = _
  rw [e106_84]
  show mm_bS (mm_setf (mm_new (Yc h [.int 0, .ref 12, .int 0, .ref 13, .ref 14, .ref 15, .ref 16, .ref 17, .int 0, .ref 18, .ref 19, .ref 20, .int 0, .ref 21, .null, .int 0, .null, .null, .null, .null, .null, .null, .null, .null, .null, .null, .null, .int 0] 22 (x + 1 + 1 + 1 + 1 + 1 + 1 + 1 + 1 + 1 + 1) (y + 210 + 14 + 14 + 14 + 14 + 4 + 8 + 8 + 8 + 6)) (.inr (.inl (0, 6, fun _ => 0))) 6) 11 7 14 (.ref 22)) _ _ _ _ = _
  rw [Y_st (by decide) (show y0 22 = .inr (.inl (0, 6, fun _ => 0)) from rfl) (show 14 < 28 by decide), bS_s]
  show mm_L 106 92 _ [] (Yc h [.int 0, .ref 12, .int 0, .ref 13, .ref 14, .ref 15, .ref 16, .ref 17, .int 0, .ref 18, .ref 19, .ref 20, .int 0, .ref 21, .ref 22, .int 0, .null, .null, .null, .null, .null, .null, .null, .null, .null, .null, .null, .int 0] 23 (x + 1 + 1 + 1 + 1 + 1 + 1 + 1 + 1 + 1 + 1 + 1) (y + 210 + 14 + 14 + 14 + 14 + 4 + 8 + 8 + 8 + 6 + 6)) = _
  rw [e106_92]
  show mm_bS (mm_setf (mm_new (Yc h [.int 0, .ref 12, .int 0, .ref 13, .ref 14, .ref 15, .ref 16, .ref 17, .int 0, .ref 18, .ref 19, .ref 20, .int 0, .ref 21, .ref 22, .int 0, .null, .null, .null, .null, .null, .null, .null, .null, .null, .null, .null, .int 0] 23 (x + 1 + 1 + 1 + 1 + 1 + 1 + 1 + 1 + 1 + 1 + 1) (y + 210 + 14 + 14 + 14 + 14 + 4 + 8 + 8 + 8 + 6 + 6)) (.inr (.inl (1, 24, fun _ => 0))) 24) 11 7 16 (.ref 23)) _ _ _ _ = _
  rw [Y_st (by decide) (show y0 23 = .inr (.inl (1, 24, fun _ => 0)) from rfl) (show 16 < 28 by decide), bS_s]
  show mm_L 106 100 _ [] (Yc h [.int 0, .ref 12, .int 0, .ref 13, .ref 14, .ref 15, .ref 16, .ref 17, .int 0, .ref 18, .ref 19, .ref 20, .int 0, .ref 21, .ref 22, .int 0, .ref 23, .null, .null, .null, .null, .null, .null, .null, .null, .null, .null, .int 0] 24 (x + 1 + 1 + 1 + 1 + 1 + 1 + 1 + 1 + 1 + 1 + 1 + 1) (y + 210 + 14 + 14 + 14 + 14 + 4 + 8 + 8 + 8 + 6 + 6 + 24)) = _
  rw [e106_100]
  show mm_bS (mm_setf (mm_new (Yc h [.int 0, .ref 12, .int 0, .ref 13, .ref 14, .ref 15, .ref 16, .ref 17, .int 0, .ref 18, .ref 19, .ref 20, .int 0, .ref 21, .ref 22, .int 0, .ref 23, .null, .null, .null, .null, .null, .null, .null, .null, .null, .null, .int 0] 24 (x + 1 + 1 + 1 + 1 + 1 + 1 + 1 + 1 + 1 + 1 + 1 + 1) (y + 210 + 14 + 14 + 14 + 14 + 4 + 8 + 8 + 8 + 6 + 6 + 24)) (.inr (.inl (0, 24, fun _ => 0))) 24) 11 7 17 (.ref 24)) _ _ _ _ = _
  rw [Y_st (by decide) (show y0 24 = .inr (.inl (0, 24, fun _ => 0)) from rfl) (show 17 < 28 by decide), bS_s]
  show mm_L 106 108 _ [] (Yc h [.int 0, .ref 12, .int 0, .ref 13, .ref 14, .ref 15, .ref 16, .ref 17, .int 0, .ref 18, .ref 19, .ref 20, .int 0, .ref 21, .ref 22, .int 0, .ref 23, .ref 24, .null, .null, .null, .null, .null, .null, .null, .null, .null, .int 0] 25 (x + 1 + 1 + 1 + 1 + 1 + 1 + 1 + 1 + 1 + 1 + 1 + 1 + 1) (y + 210 + 14 + 14 + 14 + 14 + 4 + 8 + 8 + 8 + 6 + 6 + 24 + 24)) = _
  rw [e106_108]
  show mm_bS (mm_setf (mm_new (Yc h [.int 0, .ref 12, .int 0, .ref 13, .ref 14, .ref 15, .ref 16, .ref 17, .int 0, .ref 18, .ref 19, .ref 20, .int 0, .ref 21, .ref 22, .int 0, .ref 23, .ref 24, .null, .null, .null, .null, .null, .null, .null, .null, .null, .int 0] 25 (x + 1 + 1 + 1 + 1 + 1 + 1 + 1 + 1 + 1 + 1 + 1 + 1 + 1) (y + 210 + 14 + 14 + 14 + 14 + 4 + 8 + 8 + 8 + 6 + 6 + 24 + 24)) (.inr (.inl (0, 24, fun _ => 0))) 24) 11 7 18 (.ref 25)) _ _ _ _ = _
  rw [Y_st (by decide) (show y0 25 = .inr (.inl (0, 24, fun _ => 0)) from rfl) (show 18 < 28 by decide), bS_s]
  show mm_L 106 116 _ [] (Yc h [.int 0, .ref 12, .int 0, .ref 13, .ref 14, .ref 15, .ref 16, .ref 17, .int 0, .ref 18, .ref 19, .ref 20, .int 0, .ref 21, .ref 22, .int 0, .ref 23, .ref 24, .ref 25, .null, .null, .null, .null, .null, .null, .null, .null, .int 0] 26 (x + 1 + 1 + 1 + 1 + 1 + 1 + 1 + 1 + 1 + 1 + 1 + 1 + 1 + 1) (y + 210 + 14 + 14 + 14 + 14 + 4 + 8 + 8 + 8 + 6 + 6 + 24 + 24 + 24)) = _
  rw [e106_116]
  show mm_bS (mm_setf (mm_new (Yc h [.int 0, .ref 12, .int 0, .ref 13, .ref 14, .ref 15, .ref 16, .ref 17, .int 0, .ref 18, .ref 19, .ref 20, .int 0, .ref 21, .ref 22, .int 0, .ref 23, .ref 24, .ref 25, .null, .null, .null, .null, .null, .null, .null, .null, .int 0] 26 (x + 1 + 1 + 1 + 1 + 1 + 1 + 1 + 1 + 1 + 1 + 1 + 1 + 1 + 1) (y + 210 + 14 + 14 + 14 + 14 + 4 + 8 + 8 + 8 + 6 + 6 + 24 + 24 + 24)) (.inr (.inl (0, 24, fun _ => 0))) 24) 11 7 19 (.ref 26)) _ _ _ _ = _
  rw [Y_st (by decide) (show y0 26 = .inr (.inl (0, 24, fun _ => 0)) from rfl) (show 19 < 28 by decide), bS_s]
  show mm_L 106 124 _ [] (Yc h [.int 0, .ref 12, .int 0, .ref 13, .ref 14, .ref 15, .ref 16, .ref 17, .int 0, .ref 18, .ref 19, .ref 20, .int 0, .ref 21, .ref 22, .int 0, .ref 23, .ref 24, .ref 25, .ref 26, .null, .null, .null, .null, .null, .null, .null, .int 0] 27 (x + 1 + 1 + 1 + 1 + 1 + 1 + 1 + 1 + 1 + 1 + 1 + 1 + 1 + 1 + 1) (y + 210 + 14 + 14 + 14 + 14 + 4 + 8 + 8 + 8 + 6 + 6 + 24 + 24 + 24 + 24)) = _
  rw [e106_124]
  show mm_bS (mm_setf (mm_new (Yc h [.int 0, .ref 12, .int 0, .ref 13, .ref 14, .ref 15, .ref 16, .ref 17, .int 0, .ref 18, .ref 19, .ref 20, .int 0, .ref 21, .ref 22, .int 0, .ref 23, .ref 24, .ref 25, .ref 26, .null, .null, .null, .null, .null, .null, .null, .int 0] 27 (x + 1 + 1 + 1 + 1 + 1 + 1 + 1 + 1 + 1 + 1 + 1 + 1 + 1 + 1 + 1) (y + 210 + 14 + 14 + 14 + 14 + 4 + 8 + 8 + 8 + 6 + 6 + 24 + 24 + 24 + 24)) (.inr (.inl (0, 24, fun _ => 0))) 24) 11 7 20 (.ref 27)) _ _ _ _ = _
  rw [Y_st (by decide) (show y0 27 = .inr (.inl (0, 24, fun _ => 0)) from rfl) (show 20 < 28 by decide), bS_s]
  show mm_L 106 132 _ [] (Yc h [.int 0, .ref 12, .int 0, .ref 13, .ref 14, .ref 15, .ref 16, .ref 17, .int 0, .ref 18, .ref 19, .ref 20, .int 0, .ref 21, .ref 22, .int 0, .ref 23, .ref 24, .ref 25, .ref 26, .ref 27, .null, .null, .null, .null, .null, .null, .int 0] 28 (x + 1 + 1 + 1 + 1 + 1 + 1 + 1 + 1 + 1 + 1 + 1 + 1 + 1 + 1 + 1 + 1) (y + 210 + 14 + 14 + 14 + 14 + 4 + 8 + 8 + 8 + 6 + 6 + 24 + 24 + 24 + 24 + 24)) = _
  rw [e106_132]
  show mm_bS (mm_setf (mm_new (Yc h [.int 0, .ref 12, .int 0, .ref 13, .ref 14, .ref 15, .ref 16, .ref 17, .int 0, .ref 18, .ref 19, .ref 20, .int 0, .ref 21, .ref 22, .int 0, .ref 23, .ref 24, .ref 25, .ref 26, .ref 27, .null, .null, .null, .null, .null, .null, .int 0] 28 (x + 1 + 1 + 1 + 1 + 1 + 1 + 1 + 1 + 1 + 1 + 1 + 1 + 1 + 1 + 1 + 1) (y + 210 + 14 + 14 + 14 + 14 + 4 + 8 + 8 + 8 + 6 + 6 + 24 + 24 + 24 + 24 + 24)) (.inr (.inl (0, 6, fun _ => 0))) 6) 11 7 21 (.ref 28)) _ _ _ _ = _
  rw [Y_st (by decide) (show y0 28 = .inr (.inl (0, 6, fun _ => 0)) from rfl) (show 21 < 28 by decide), bS_s]
  show mm_L 106 140 _ [] (Yc h [.int 0, .ref 12, .int 0, .ref 13, .ref 14, .ref 15, .ref 16, .ref 17, .int 0, .ref 18, .ref 19, .ref 20, .int 0, .ref 21, .ref 22, .int 0, .ref 23, .ref 24, .ref 25, .ref 26, .ref 27, .ref 28, .null, .null, .null, .null, .null, .int 0] 29 (x + 1 + 1 + 1 + 1 + 1 + 1 + 1 + 1 + 1 + 1 + 1 + 1 + 1 + 1 + 1 + 1 + 1) (y + 210 + 14 + 14 + 14 + 14 + 4 + 8 + 8 + 8 + 6 + 6 + 24 + 24 + 24 + 24 + 24 + 6)) = _
  rw [e106_140]
  show mm_bS (mm_setf (mm_new (Yc h [.int 0, .ref 12, .int 0, .ref 13, .ref 14, .ref 15, .ref 16, .ref 17, .int 0, .ref 18, .ref 19, .ref 20, .int 0, .ref 21, .ref 22, .int 0, .ref 23, .ref 24, .ref 25, .ref 26, .ref 27, .ref 28, .null, .null, .null, .null, .null, .int 0] 29 (x + 1 + 1 + 1 + 1 + 1 + 1 + 1 + 1 + 1 + 1 + 1 + 1 + 1 + 1 + 1 + 1 + 1) (y + 210 + 14 + 14 + 14 + 14 + 4 + 8 + 8 + 8 + 6 + 6 + 24 + 24 + 24 + 24 + 24 + 6)) (.inr (.inl (0, 57600, fun _ => 0))) 57600) 11 7 22 (.ref 29)) _ _ _ _ = _
  rw [Y_st (by decide) (show y0 29 = .inr (.inl (0, 57600, fun _ => 0)) from rfl) (show 22 < 28 by decide), bS_s]
  show mm_L 106 148 _ [] (Yc h [.int 0, .ref 12, .int 0, .ref 13, .ref 14, .ref 15, .ref 16, .ref 17, .int 0, .ref 18, .ref 19, .ref 20, .int 0, .ref 21, .ref 22, .int 0, .ref 23, .ref 24, .ref 25, .ref 26, .ref 27, .ref 28, .ref 29, .null, .null, .null, .null, .int 0] 30 (x + 1 + 1 + 1 + 1 + 1 + 1 + 1 + 1 + 1 + 1 + 1 + 1 + 1 + 1 + 1 + 1 + 1 + 1) (y + 210 + 14 + 14 + 14 + 14 + 4 + 8 + 8 + 8 + 6 + 6 + 24 + 24 + 24 + 24 + 24 + 6 + 57600)) = _
  rw [e106_148]
  show mm_bS (mm_setf (mm_new (Yc h [.int 0, .ref 12, .int 0, .ref 13, .ref 14, .ref 15, .ref 16, .ref 17, .int 0, .ref 18, .ref 19, .ref 20, .int 0, .ref 21, .ref 22, .int 0, .ref 23, .ref 24, .ref 25, .ref 26, .ref 27, .ref 28, .ref 29, .null, .null, .null, .null, .int 0] 30 (x + 1 + 1 + 1 + 1 + 1 + 1 + 1 + 1 + 1 + 1 + 1 + 1 + 1 + 1 + 1 + 1 + 1 + 1) (y + 210 + 14 + 14 + 14 + 14 + 4 + 8 + 8 + 8 + 6 + 6 + 24 + 24 + 24 + 24 + 24 + 6 + 57600)) (.inr (.inl (0, 288, fun _ => 0))) 288) 11 7 23 (.ref 30)) _ _ _ _ = _
  rw [Y_st (by decide) (show y0 30 = .inr (.inl (0, 288, fun _ => 0)) from rfl) (show 23 < 28 by decide), bS_s]
  show mm_L 106 157 _ [] (Yc h [.int 0, .ref 12, .int 0, .ref 13, .ref 14, .ref 15, .ref 16, .ref 17, .int 0, .ref 18, .ref 19, .ref 20, .int 0, .ref 21, .ref 22, .int 0, .ref 23, .ref 24, .ref 25, .ref 26, .ref 27, .ref 28, .ref 29, .ref 30, .null, .null, .null, .int 0] 31 (x + 1 + 1 + 1 + 1 + 1 + 1 + 1 + 1 + 1 + 1 + 1 + 1 + 1 + 1 + 1 + 1 + 1 + 1 + 1) (y + 210 + 14 + 14 + 14 + 14 + 4 + 8 + 8 + 8 + 6 + 6 + 24 + 24 + 24 + 24 + 24 + 6 + 57600 + 288)) = _
  rw [e106_157]
  show mm_bS (mm_setf (mm_new (Yc h [.int 0, .ref 12, .int 0, .ref 13, .ref 14, .ref 15, .ref 16, .ref 17, .int 0, .ref 18, .ref 19, .ref 20, .int 0, .ref 21, .ref 22, .int 0, .ref 23, .ref 24, .ref 25, .ref 26, .ref 27, .ref 28, .ref 29, .ref 30, .null, .null, .null, .int 0] 31 (x + 1 + 1 + 1 + 1 + 1 + 1 + 1 + 1 + 1 + 1 + 1 + 1 + 1 + 1 + 1 + 1 + 1 + 1 + 1) (y + 210 + 14 + 14 + 14 + 14 + 4 + 8 + 8 + 8 + 6 + 6 + 24 + 24 + 24 + 24 + 24 + 6 + 57600 + 288)) (.inr (.inl (0, 2880, fun _ => 0))) 2880) 11 7 24 (.ref 31)) _ _ _ _ = _
  rw [Y_st (by decide) (show y0 31 = .inr (.inl (0, 2880, fun _ => 0)) from rfl) (show 24 < 28 by decide), bS_s]
  show mm_L 106 166 _ [] (Yc h [.int 0, .ref 12, .int 0, .ref 13, .ref 14, .ref 15, .ref 16, .ref 17, .int 0, .ref 18, .ref 19, .ref 20, .int 0, .ref 21, .ref 22, .int 0, .ref 23, .ref 24, .ref 25, .ref 26, .ref 27, .ref 28, .ref 29, .ref 30, .ref 31, .null, .null, .int 0] 32 (x + 1 + 1 + 1 + 1 + 1 + 1 + 1 + 1 + 1 + 1 + 1 + 1 + 1 + 1 + 1 + 1 + 1 + 1 + 1 + 1) (y + 210 + 14 + 14 + 14 + 14 + 4 + 8 + 8 + 8 + 6 + 6 + 24 + 24 + 24 + 24 + 24 + 6 + 57600 + 288 + 2880)) = _
  rw [e106_166]
  show mm_bS (mm_setf (mm_new (Yc h [.int 0, .ref 12, .int 0, .ref 13, .ref 14, .ref 15, .ref 16, .ref 17, .int 0, .ref 18, .ref 19, .ref 20, .int 0, .ref 21, .ref 22, .int 0, .ref 23, .ref 24, .ref 25, .ref 26, .ref 27, .ref 28, .ref 29, .ref 30, .ref 31, .null, .null, .int 0] 32 (x + 1 + 1 + 1 + 1 + 1 + 1 + 1 + 1 + 1 + 1 + 1 + 1 + 1 + 1 + 1 + 1 + 1 + 1 + 1 + 1) (y + 210 + 14 + 14 + 14 + 14 + 4 + 8 + 8 + 8 + 6 + 6 + 24 + 24 + 24 + 24 + 24 + 6 + 57600 + 288 + 2880)) (.inr (.inl (0, 2880, fun _ => 0))) 2880) 11 7 25 (.ref 32)) _ _ _ _ = _
  rw [Y_st (by decide) (show y0 32 = .inr (.inl (0, 2880, fun _ => 0)) from rfl) (show 25 < 28 by decide), bS_s]
  show mm_L 106 175 _ [] (Yc h [.int 0, .ref 12, .int 0, .ref 13, .ref 14, .ref 15, .ref 16, .ref 17, .int 0, .ref 18, .ref 19, .ref 20, .int 0, .ref 21, .ref 22, .int 0, .ref 23, .ref 24, .ref 25, .ref 26, .ref 27, .ref 28, .ref 29, .ref 30, .ref 31, .ref 32, .null, .int 0] 33 (x + 1 + 1 + 1 + 1 + 1 + 1 + 1 + 1 + 1 + 1 + 1 + 1 + 1 + 1 + 1 + 1 + 1 + 1 + 1 + 1 + 1) (y + 210 + 14 + 14 + 14 + 14 + 4 + 8 + 8 + 8 + 6 + 6 + 24 + 24 + 24 + 24 + 24 + 6 + 57600 + 288 + 2880 + 2880)) = _
  rw [e106_175]
  show mm_bS (mm_setf (mm_new (Yc h [.int 0, .ref 12, .int 0, .ref 13, .ref 14, .ref 15, .ref 16, .ref 17, .int 0, .ref 18, .ref 19, .ref 20, .int 0, .ref 21, .ref 22, .int 0, .ref 23, .ref 24, .ref 25, .ref 26, .ref 27, .ref 28, .ref 29, .ref 30, .ref 31, .ref 32, .null, .int 0] 33 (x + 1 + 1 + 1 + 1 + 1 + 1 + 1 + 1 + 1 + 1 + 1 + 1 + 1 + 1 + 1 + 1 + 1 + 1 + 1 + 1 + 1) (y + 210 + 14 + 14 + 14 + 14 + 4 + 8 + 8 + 8 + 6 + 6 + 24 + 24 + 24 + 24 + 24 + 6 + 57600 + 288 + 2880 + 2880)) (.inr (.inl (0, 98, fun _ => 0))) 98) 11 7 26 (.ref 33)) _ _ _ _ = _
  rw [Y_st (by decide) (show y0 33 = .inr (.inl (0, 98, fun _ => 0)) from rfl) (show 26 < 28 by decide), bS_s]
  show mm_L 106 183 _ [] (Yc h [.int 0, .ref 12, .int 0, .ref 13, .ref 14, .ref 15, .ref 16, .ref 17, .int 0, .ref 18, .ref 19, .ref 20, .int 0, .ref 21, .ref 22, .int 0, .ref 23, .ref 24, .ref 25, .ref 26, .ref 27, .ref 28, .ref 29, .ref 30, .ref 31, .ref 32, .ref 33, .int 0] 34 (x + 1 + 1 + 1 + 1 + 1 + 1 + 1 + 1 + 1 + 1 + 1 + 1 + 1 + 1 + 1 + 1 + 1 + 1 + 1 + 1 + 1 + 1) (y + 210 + 14 + 14 + 14 + 14 + 4 + 8 + 8 + 8 + 6 + 6 + 24 + 24 + 24 + 24 + 24 + 6 + 57600 + 288 + 2880 + 2880 + 98)) = _
  rw [e106_183]
  refine congrArg (mm_L 106 185 [.ref 11, .int 0] []) (Prod.ext (funext fun a => ?_) rfl)
  show (if a = 11 then _ else if 12 ≤ a ∧ a < 33 + 1 then _ else _) = if a = 11 then _ else if 12 ≤ a ∧ a ≤ 33 then _ else _
  by_cases e1 : a = 11
  · rw [if_pos e1, if_pos e1]
    rfl
  · rw [if_neg e1, if_neg e1]
    by_cases e3 : 12 ≤ a ∧ a ≤ 33
    · rw [if_pos e3, if_pos (by omega)]
      rfl
    · rw [if_neg e3, if_neg (by omega)]
end
section
variable {σ : mm_S} {c : Nat → Nat} {f : Nat → Nat → Int32}
theorem l_106a {j : Nat} (hj : j < 4) : mm_L 106 185 [.ref 11, .int (nI j)] [] (MW σ (vN c) f) = mm_L 106 185 [.ref 11, .int (nI (j + 1))] [] (MW σ (vN c) (uf f 17 j (-1))) := by
  have q : (4 ≤ nI j) = False := eq_false (show ¬ nI 4 ≤ nI j from nI_ge hj (by decide))
  rw [e106_185]
  simp only [e106_190, e106_194, e106_197, q, mg_7, mt_17 hj, nI_1, K0_v, K0_n, K0_x, K2_v, K2_n, K1_v, K1_n, K1_x, bI_s, bJ_s, bV_s, bS_s, l_10, l_00, bz_01, bz_0, bz_1, em_n, if_true, if_false, ite_not, ite_true, ite_false, not_true_eq_false, not_false_eq_true, or_true, true_or]
theorem l_106b {j : Nat} (hj : j < 6) : mm_L 106 205 [.ref 11, .int (nI j)] [] (MW σ (vN c) f) = mm_L 106 205 [.ref 11, .int (nI (j + 1))] [] (MW σ (vN c) (uf f 28 j 7)) := by
  have q : (6 ≤ nI j) = False := eq_false (show ¬ nI 6 ≤ nI j from nI_ge hj (by decide))
  rw [e106_205]
  simp only [e106_211, e106_215, e106_219, q, mg_21, mt_28 hj, nI_1, K0_v, K0_n, K0_x, K2_v, K2_n, K1_v, K1_n, K1_x, bI_s, bJ_s, bV_s, bS_s, l_10, l_00, bz_01, bz_0, bz_1, em_n, if_true, if_false, ite_not, ite_true, ite_false, not_true_eq_false, not_false_eq_true, or_true, true_or]
def f0 : Nat → Nat → Int32 := uf (uf (uf (uf (uf (uf (uf (uf (uf (uf (fun _ _ => 0) 17 0 (-1)) 17 1 (-1)) 17 2 (-1)) 17 3 (-1)) 28 0 7) 28 1 7) 28 2 7) 28 3 7) 28 4 7) 28 5 7
theorem t_106 : mm_L 106 185 [.ref 11, .int 0] [] (MW σ (vN (fun _ => 0)) (fun _ _ => 0)) = some (.inl none, MW σ (vN (fun _ => 0)) f0) := by
  show mm_L 106 185 [.ref 11, .int (nI 0)] [] _ = _
  rw [l_106a (by decide), l_106a (by decide), l_106a (by decide), l_106a (by decide), e106_185, if_pos (by decide), e106_203]
  show mm_L 106 205 [.ref 11, .int (nI 0)] [] _ = _
  rw [l_106b (by decide), l_106b (by decide), l_106b (by decide), l_106b (by decide), l_106b (by decide), l_106b (by decide), e106_205, if_pos (by decide), e106_225]
  rfl
end
theorem f0_17 {l : Nat} (h : l < 4) : f0 17 l = -1 := by
  have : l = 0 ∨ l = 1 ∨ l = 2 ∨ l = 3 := by omega
  rcases this with e | e | e | e <;> subst e <;> rfl
theorem f0_28 {l : Nat} (h : l < 6) : f0 28 l = 7 := by
  have : l = 0 ∨ l = 1 ∨ l = 2 ∨ l = 3 ∨ l = 4 ∨ l = 5 := by omega
  rcases this with e | e | e | e | e | e <;> subst e <;> rfl
theorem f0_r {r : Nat} (h1 : r ≠ 17) (h2 : r ≠ 28) : f0 r = fun _ => 0 := by
  unfold f0
  rw [uf_n h2, uf_n h2, uf_n h2, uf_n h2, uf_n h2, uf_n h2, uf_n h1, uf_n h1, uf_n h1, uf_n h1]
def c0 : Nat → Nat := fun _ => 0
def g0 : Nat → Nat → Int32 := fun _ _ => 0
def t0 : Nat → Nat × Nat := fun _ => (0, 0)
def a0 : Nat × Nat → Nat := fun _ => 0
theorem WF0 {n : Nat} (h : 35 ≤ n) : WF t0 a0 c0 n := by
  refine ⟨⟨Nat.zero_le _, Nat.zero_le _, Nat.zero_le _, Nat.zero_le _, Nat.zero_le _, fun i hi => absurd hi (Nat.not_lt_zero _)⟩, fun k i h => ?_, fun a h => absurd rfl h, h⟩
  unfold LI c0 at h
  omega
theorem RLA0 : RLA c0 g0 f0 := by
  refine ⟨fun k hk => absurd hk (Nat.not_lt_zero _), ⟨fun k hk => absurd hk (Nat.not_lt_zero _), fun l hl => ?_⟩, fun k hk => absurd hk (Nat.not_lt_zero _), fun k hk => absurd hk (Nat.not_lt_zero _), ⟨fun k hk => absurd hk (Nat.not_lt_zero _), fun q hq => ⟨⟨0, by decide, rfl⟩, fun p hp => ?_⟩⟩, fun i hi => absurd hi (Nat.not_lt_zero _), fun i h1 h2 a b ha hb => ?_⟩
  · rw [f0_17 hl]; rfl
  · rw [f0_28 hp]
    show ((0 : Int32) >>> (nI p &&& 31)) &&& 1 = 1 ↔ ((7 : Int32) >>> (nI q &&& 31)) &&& 1 = 0
    have d : ∀ (p : Fin 6) (q : Fin 3), (((0 : Int32) >>> (nI p.1 &&& 31)) &&& 1 = 1 ↔ ((7 : Int32) >>> (nI q.1 &&& 31)) &&& 1 = 0) := by decide
    exact d ⟨p, hp⟩ ⟨q, hq⟩
  · rw [f0_r (show 30 ≠ 17 by decide) (by decide), f0_r (show 29 ≠ 17 by decide) (by decide)]
    exact ⟨rfl, fun _ _ => rfl⟩
/-- the law's value -/
theorem law_val {σ : mm_S} {L : Nat} {s : Nat → Int32} (hL : L ≤ 4096) (hn : σ.2.1 = 2) (h0 : σ.1 0 = some (.inr (.inl (2, L, s)))) (h1 : LO σ) : ∃ τ : mm_S, mm_L 187 0 [.ref 0, mm_un, mm_un, mm_un, mm_un, mm_un, mm_un] [] σ = some (.inl (some (.int 1)), τ) ∧ τ.2.2.1 ≤ σ.2.2.1 + 6000 ∧ τ.2.2.2 ≤ σ.2.2.2 + 400000 := by
  obtain ⟨h, n, x, y⟩ := σ
  have hn : n = 2 := hn
  subst hn
  have e1 : mm_new (h, 2, x, y) (.inl (6, [.null, .null, .null, .null, .null, .null, .null, .null])) 8 = Zc h [.null, .null, .null, .null, .null, .null, .null, .null] 3 (x + 1) (y + 8) := by
    refine Prod.ext (funext fun a => ?_) rfl
    show (if a = 2 then _ else _) = if a = 2 then _ else if 3 ≤ a ∧ a < 3 then _ else _
    by_cases e : a = 2
    · rw [if_pos e, if_pos e]
    · rw [if_neg e, if_neg e, if_neg (by omega)]
  have hr : ∀ (fs : List Value) n x y, mm_Mo 23 2 [] (Zc h fs n x y) = mm_M 23 [.ref 2] (Zc h fs n x y) := fun fs n x y => if_pos rfl
  rw [e187_0]
  show ∃ τ, mm_K2 (mm_Mo 23 2 [] (mm_new (h, 2, x, y) _ 8)) 187 7 _ [.ref 2] = _ ∧ _
  rw [e1, hr, c_23, K2_n, e187_7]
  -- the class's world
  let σ1 : mm_S := (h, 11, x + 1 + 8, y + 8 + 418)
  have e2 : Zc h [.ref 3, .ref 4, .ref 5, .ref 6, .ref 7, .ref 8, .ref 9, .ref 10] 11 (x + 1 + 8) (y + 8 + 418) = CW σ1 t0 a0 c0 g0 := by
    refine Prod.ext (funext fun a => ?_) rfl
    show (if a = 2 then _ else if 3 ≤ a ∧ a < 11 then some (z0 a) else h a) = CH σ1 t0 a0 c0 g0 a
    by_cases z : 2 ≤ a ∧ a ≤ 10
    · have : a = 2 ∨ a = 3 ∨ a = 4 ∨ a = 5 ∨ a = 6 ∨ a = 7 ∨ a = 8 ∨ a = 9 ∨ a = 10 := by omega
      rcases this with e | e | e | e | e | e | e | e | e <;> subst e <;> rfl
    · rw [if_neg (by omega), if_neg (by omega)]
      have : CH σ1 t0 a0 c0 g0 a = (CW σ1 t0 a0 c0 g0).1 a := rfl
      rw [this, CW_mid (by omega) rfl]
  rw [e2]
  have e3 : mm_new (CW σ1 t0 a0 c0 g0) (.inl (7, [.int 0, .null, .int 0, .null, .null, .null, .null, .null, .int 0, .null, .null, .null, .int 0, .null, .null, .int 0, .null, .null, .null, .null, .null, .null, .null, .null, .null, .null, .null, .int 0])) 28 = Yc (CW σ1 t0 a0 c0 g0).1 [.int 0, .null, .int 0, .null, .null, .null, .null, .null, .int 0, .null, .null, .null, .int 0, .null, .null, .int 0, .null, .null, .null, .null, .null, .null, .null, .null, .null, .null, .null, .int 0] 12 (x + 1 + 8 + 1) (y + 8 + 418 + 28) := by
    refine Prod.ext (funext fun a => ?_) rfl
    show (if a = 11 then _ else _) = if a = 11 then _ else if 12 ≤ a ∧ a < 12 then _ else _
    by_cases e : a = 11
    · rw [if_pos e, if_pos e]
    · rw [if_neg e, if_neg e, if_neg (by omega)]
  have hr2 : ∀ (h : Nat → Option mm_O) (fs : List Value) n x y, mm_Mo 106 11 [] (Yc h fs n x y) = mm_M 106 [.ref 11] (Yc h fs n x y) := fun h fs n x y => if_pos rfl
  show ∃ τ, mm_K2 (mm_Mo 106 11 [] (mm_new (CW σ1 t0 a0 c0 g0) _ 28)) 187 15 _ [.ref 11] = _ ∧ _
  rw [e3, hr2, s_106]
  rw [t_106, K2_n, e187_15]
  -- the world of both, with out
  let σ2 : mm_S := (fun a => if a = 34 then some (.inr (.inr (.inl (1, fun _ => 0)))) else h a, 35, x + 1 + 8 + 1 + 1 + 1 + 1 + 1 + 1 + 1 + 1 + 1 + 1 + 1 + 1 + 1 + 1 + 1 + 1 + 1 + 1 + 1 + 1 + 1 + 1 + 1 + 1, y + 8 + 418 + 28 + 210 + 14 + 14 + 14 + 14 + 4 + 8 + 8 + 8 + 6 + 6 + 24 + 24 + 24 + 24 + 24 + 6 + 57600 + 288 + 2880 + 2880 + 98 + 1)
  have e4 : mm_new (MW ((CW σ1 t0 a0 c0 g0).1, 34, x + 1 + 8 + 1 + 1 + 1 + 1 + 1 + 1 + 1 + 1 + 1 + 1 + 1 + 1 + 1 + 1 + 1 + 1 + 1 + 1 + 1 + 1 + 1 + 1 + 1, y + 8 + 418 + 28 + 210 + 14 + 14 + 14 + 14 + 4 + 8 + 8 + 8 + 6 + 6 + 24 + 24 + 24 + 24 + 24 + 6 + 57600 + 288 + 2880 + 2880 + 98) (vN (fun _ => 0)) f0) (.inr (.inr (.inl (1, fun _ => 0)))) 1 = JW σ2 t0 a0 c0 g0 c0 0 f0 := by
    unfold JW
    have ec : u2 c0 5 0 = (fun _ => 0) := by
      funext k
      unfold u2 c0
      split <;> rfl
    rw [ec]
    refine Prod.ext (funext fun a => ?_) rfl
    show (if a = 34 then _ else (MW ((CW σ1 t0 a0 c0 g0).1, 34, x + 1 + 8 + 1 + 1 + 1 + 1 + 1 + 1 + 1 + 1 + 1 + 1 + 1 + 1 + 1 + 1 + 1 + 1 + 1 + 1 + 1 + 1 + 1 + 1 + 1, y + 8 + 418 + 28 + 210 + 14 + 14 + 14 + 14 + 4 + 8 + 8 + 8 + 6 + 6 + 24 + 24 + 24 + 24 + 24 + 6 + 57600 + 288 + 2880 + 2880 + 98) (vN (fun _ => 0)) f0).1 a) = _
    by_cases z : 11 ≤ a ∧ a ≤ 33
    · rw [if_neg (by omega)]
      by_cases e11 : a = 11
      · subst e11; rfl
      · rw [MW_at (by omega), MW_at (by omega)]
    · rw [MW_out (by omega), MW_out (by omega)]
      show (if a = 34 then _ else (CW σ1 t0 a0 c0 g0).1 a) = _
      by_cases e2 : a < 2 ∨ 10 < a
      · rw [CW_mid e2 rfl, CW_mid e2 rfl]
      · rw [if_neg (by omega)]
        exact CW_lo e2 (fun _ => rfl) (fun _ => rfl) (fun _ => rfl) (fun _ => rfl) (fun _ => rfl) (fun _ => rfl) (fun _ => rfl) (fun _ => rfl)
  show ∃ τ, mm_L 187 23 [.ref 0, .ref 2, .ref 11, .ref 34, .int 0, mm_un, mm_un] [] (mm_new (MW ((CW σ1 t0 a0 c0 g0).1, 34, x + 1 + 8 + 1 + 1 + 1 + 1 + 1 + 1 + 1 + 1 + 1 + 1 + 1 + 1 + 1 + 1 + 1 + 1 + 1 + 1 + 1 + 1 + 1 + 1 + 1, y + 8 + 418 + 28 + 210 + 14 + 14 + 14 + 14 + 4 + 8 + 8 + 8 + 6 + 6 + 24 + 24 + 24 + 24 + 24 + 6 + 57600 + 288 + 2880 + 2880 + 98) (vN (fun _ => 0)) f0) (.inr (.inr (.inl (1, fun _ => 0)))) 1) = _ ∧ _
  rw [e4]
  have hI : JI σ2 t0 a0 c0 g0 f0 L s (x + 33) (y + 64633) := by
    refine ⟨WF0 (show 35 ≤ 35 by decide), RLA0, ?_, ⟨fun _ => 0, rfl⟩, ?_, Nat.le_of_eq ?_, Nat.le_of_eq ?_⟩
    · exact h1
    · exact h0
    · show x + 1 + 8 + 1 + 1 + 1 + 1 + 1 + 1 + 1 + 1 + 1 + 1 + 1 + 1 + 1 + 1 + 1 + 1 + 1 + 1 + 1 + 1 + 1 + 1 + 1 + 1 = x + 33; omega
    · show y + 8 + 418 + 28 + 210 + 14 + 14 + 14 + 14 + 4 + 8 + 8 + 8 + 6 + 6 + 24 + 24 + 24 + 24 + 24 + 6 + 57600 + 288 + 2880 + 2880 + 98 + 1 = y + 64633; omega
  have l := law_loop hL 512 0 σ2 t0 a0 c0 g0 f0 0 (x + 33) (y + 64633) mm_un mm_un (by omega) (by omega) (by omega) hI
  rw [nI_0] at l
  obtain ⟨τ, l1, l2, l3⟩ := l
  exact ⟨τ, l1, by show τ.2.2.1 ≤ x + 6000; omega, by show τ.2.2.2 ≤ y + 400000; omega⟩
