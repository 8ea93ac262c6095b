/-! says, by its fast copy: it comes to its end with true, from a heap that holds the script and LOCUS_PLACES alone -/
noncomputable def fL : Tq Nat 8 := tqs 8 (tqs 8 (tqs 8 (tqz 0 8) 0 3) 1 5) 3 2
noncomputable def fT0 : fS := (tqs 9 (tqz none 9) 1 (some (.inr (.inl (2, 4, fL)))), 2, 0, 0)
noncomputable def flo (T : fS) : Bool := match fob T 1 with
  | some (.inr (.inl (kd, n, t))) => Nat.beq kd 2 && (Nat.beq n 4 && (Nat.beq (tqg 8 t 0) 3 && (Nat.beq (tqg 8 t 1) 5 && (Nat.beq (tqg 8 t 2) 0 && Nat.beq (tqg 8 t 3) 2))))
  | _ => false
noncomputable def fck (o : Option fR) : Bool := match o with
  | some (.inl (some (.inl n)), T) => Nat.beq n 1 && (Nat.ble T.2.2.1 1500 && (Nat.ble T.2.2.2 12000 && (Nat.ble 2 T.2.1 && flo T)))
  | _ => false
theorem fck_in {o : Option fR} (h : fck o = true) : ∃ T : fS, o = some (.inl (some (.inl 1)), T) ∧ T.2.2.1 ≤ 1500 ∧ T.2.2.2 ≤ 12000 ∧ 2 ≤ T.2.1 ∧ flo T = true := by
  match o, h with
  | some (.inl (some (.inl n)), T), h =>
    replace h : (Nat.beq n 1 && (Nat.ble T.2.2.1 1500 && (Nat.ble T.2.2.2 12000 && (Nat.ble 2 T.2.1 && flo T)))) = true := h
    rw [Bool.and_eq_true, Bool.and_eq_true, Bool.and_eq_true, Bool.and_eq_true] at h
    obtain ⟨h1, h2, h3, h4, h5⟩ := h
    have e := Nat.eq_of_beq_eq_true h1
    subst e
    exact ⟨T, rfl, Nat.le_of_ble_eq_true h2, Nat.le_of_ble_eq_true h3, Nat.le_of_ble_eq_true h4, h5⟩
  | some (.inl (some (.inr v)), T), h => cases (show false = true from h)
  | some (.inl none, T), h => cases (show false = true from h)
  | some (.inr E, T), h => cases (show false = true from h)
  | none, h => cases (show false = true from h)
set_option maxRecDepth 1000000 in
theorem says_fast : fck (F111_0 fT0) = true := by decide +kernel
theorem flo_in {z : Option mm_O} {T : fS} (h : flo T = true) : ∃ f, (toS z T).1 1 = some (.inr (.inl (2, 4, f))) ∧ ∀ j, j < 4 → f j = lo j := by
  unfold flo at h
  cases e : fob T 1 with
  | none => rw [e] at h; cases h
  | some o =>
    rw [e] at h
    match o, h, e with
    | .inr (.inl (kd, n, t)), h, e =>
      replace h : (Nat.beq kd 2 && (Nat.beq n 4 && (Nat.beq (tqg 8 t 0) 3 && (Nat.beq (tqg 8 t 1) 5 && (Nat.beq (tqg 8 t 2) 0 && Nat.beq (tqg 8 t 3) 2))))) = true := h
      rw [Bool.and_eq_true, Bool.and_eq_true, Bool.and_eq_true, Bool.and_eq_true, Bool.and_eq_true] at h
      obtain ⟨h1, h2, h3, h4, h5, h6⟩ := h
      have e1 := Nat.eq_of_beq_eq_true h1
      have e2 := Nat.eq_of_beq_eq_true h2
      subst e1 e2
      refine ⟨toA t, fob_ok e, fun j hj => ?_⟩
      have key : ∀ i x, i < 4 → Nat.beq (tqg 8 t i) x = true → toA t i = nI x := fun i x hi hx => by
        unfold toA
        rw [if_pos (by omega), Nat.eq_of_beq_eq_true hx]
      have : j = 0 ∨ j = 1 ∨ j = 2 ∨ j = 3 := by omega
      rcases this with q | q | q | q <;> subst q
      · exact key 0 3 (by decide) h3
      · exact key 1 5 (by decide) h4
      · exact key 2 0 (by decide) h5
      · exact key 3 2 (by decide) h6
    | .inl _, h, _ => cases (show false = true from h)
    | .inr (.inr _), h, _ => cases (show false = true from h)
theorem says_val (z : Option mm_O) : ∃ σ1 : mm_S, mm_M 111 [] (toS z fT0) = some (.inl (some (.int 1)), σ1) ∧ 2 ≤ σ1.2.1 ∧ σ1.2.2.1 ≤ 1500 ∧ σ1.2.2.2 ≤ 12000 ∧ σ1.1 0 = z ∧ ∃ f, σ1.1 1 = some (.inr (.inl (2, 4, f))) ∧ ∀ j, j < 4 → f j = lo j := by
  obtain ⟨T, h1, h2, h3, h4, h5⟩ := fck_in says_fast
  have e := GM111 (z := z) h1
  rw [tR_i] at e
  exact ⟨toS z T, e, h4, h2, h3, rfl, flo_in h5⟩
theorem T0_at (z : Option mm_O) (k : Nat) : (toS z fT0).1 k = if k = 0 then z else if k = 1 then some (.inr (.inl (2, 4, toA fL))) else none := by
  show (if k = 0 then z else if k < 512 then (tqg 9 (tqs 9 (tqz none 9) 1 (some (.inr (.inl (2, 4, fL))))) k).map toO else none) = _
  by_cases e0 : k = 0
  · rw [if_pos e0, if_pos e0]
  · rw [if_neg e0, if_neg e0]
    by_cases e1 : k < 512
    · rw [if_pos e1, tq_gs 9 _ _ _ _ (by decide) e1]
      by_cases e2 : k = 1
      · rw [if_pos e2, if_pos e2]; rfl
      · rw [if_neg e2, if_neg e2, tq_gz]; rfl
    · rw [if_neg e1, if_neg (by omega)]
theorem fL_lo : ∀ j, j < 4 → toA fL j = lo j := by
  intro j hj
  have : j = 0 ∨ j = 1 ∨ j = 2 ∨ j = 3 := by omega
  have k : ∀ i, i < 256 → toA fL i = nI (tqg 8 fL i) := fun i hi => if_pos hi
  rcases this with q | q | q | q <;> subst q
  · rw [k 0 (by decide)]; rfl
  · rw [k 1 (by decide)]; rfl
  · rw [k 2 (by decide)]; rfl
  · rw [k 3 (by decide)]; rfl
