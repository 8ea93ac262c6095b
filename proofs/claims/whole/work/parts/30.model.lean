/-! LEVEL 2: the reference as pure functions of its scalars v and rows f -/
def mo_obj (v : Nat → Int32) : mm_O := .inl (7, [.int (v 0), .ref 12, .int (v 1), .ref 13, .ref 14, .ref 15, .ref 16, .ref 17, .int (v 2), .ref 18, .ref 19, .ref 20, .int (v 3), .ref 21, .ref 22, .int (v 4), .ref 23, .ref 24, .ref 25, .ref 26, .ref 27, .ref 28, .ref 29, .ref 30, .ref 31, .ref 32, .ref 33, .int (v 5)])
def mo_len (k : Nat) : Nat := match k with
  | 12 => 210
  | 13 => 14
  | 14 => 14
  | 15 => 14
  | 16 => 14
  | 17 => 4
  | 18 => 8
  | 19 => 8
  | 20 => 8
  | 21 => 6
  | 22 => 6
  | 23 => 24
  | 24 => 24
  | 25 => 24
  | 26 => 24
  | 27 => 24
  | 28 => 6
  | 29 => 57600
  | 30 => 288
  | 31 => 2880
  | 32 => 2880
  | _ => 98
def MW (σ : mm_S) (v : Nat → Int32) (f : Nat → Nat → Int32) : mm_S := (fun k => if k = 11 then some (mo_obj v) else if 12 ≤ k ∧ k ≤ 33 then some (.inr (.inl (if k = 23 then 1 else 0, mo_len k, f k))) else σ.1 k, σ.2)
def uf (f : Nat → Nat → Int32) (a i : Nat) (x : Int32) : Nat → Nat → Int32 := fun b => if b = a then upd (f b) i x else f b
theorem uf_s (f : Nat → Nat → Int32) (a i : Nat) (x : Int32) : uf f a i x a = upd (f a) i x := if_pos rfl
theorem uf_n {f : Nat → Nat → Int32} {a i b : Nat} {x : Int32} (h : b ≠ a) : uf f a i x b = f b := if_neg h
theorem MW_11 (σ : mm_S) (v : Nat → Int32) (f : Nat → Nat → Int32) : (MW σ v f).1 11 = some (mo_obj v) := rfl
theorem MW_at {σ : mm_S} {v : Nat → Int32} {f : Nat → Nat → Int32} {k : Nat} (h : 12 ≤ k ∧ k ≤ 33) : (MW σ v f).1 k = some (.inr (.inl (if k = 23 then 1 else 0, mo_len k, f k))) := by
  show (if k = 11 then _ else if 12 ≤ k ∧ k ≤ 33 then _ else _) = _
  rw [if_neg (by omega), if_pos h]
theorem MW_out {σ : mm_S} {v : Nat → Int32} {f : Nat → Nat → Int32} {k : Nat} (h : k < 11 ∨ 33 < k) : (MW σ v f).1 k = σ.1 k := by
  show (if k = 11 then _ else if 12 ≤ k ∧ k ≤ 33 then _ else _) = _
  rw [if_neg (by omega), if_neg (by omega)]
theorem MW_n (σ : mm_S) (v : Nat → Int32) (f : Nat → Nat → Int32) : (MW σ v f).2 = σ.2 := rfl
theorem MW_putv {σ : mm_S} {v v' : Nat → Int32} {f : Nat → Nat → Int32} {o : mm_O} (h : o = mo_obj v') : mm_put (MW σ v f) 11 o = MW σ v' f := by
  subst h
  refine Prod.ext (funext fun k => ?_) rfl
  show (if k = 11 then _ else (MW σ v f).1 k) = (MW σ v' f).1 k
  by_cases e : k = 11
  · subst e; rfl
  · rw [if_neg e]
    show (if k = 11 then _ else _) = (if k = 11 then _ else _)
    rw [if_neg e, if_neg e]
theorem MW_putf {σ : mm_S} {v : Nat → Int32} {f : Nat → Nat → Int32} {a i : Nat} {x : Int32} (h : 12 ≤ a ∧ a ≤ 33) : mm_put (MW σ v f) a (.inr (.inl (if a = 23 then 1 else 0, mo_len a, upd (f a) i x))) = MW σ v (uf f a i x) := by
  refine Prod.ext (funext fun k => ?_) rfl
  show (if k = a then _ else (MW σ v f).1 k) = (MW σ v (uf f a i x)).1 k
  by_cases e : k = a
  · subst e
    rw [if_pos rfl, MW_at h, uf_s]
  · rw [if_neg e]
    show (if k = 11 then _ else if 12 ≤ k ∧ k ≤ 33 then _ else _) = (if k = 11 then _ else if 12 ≤ k ∧ k ≤ 33 then _ else _)
    rw [uf_n e]
theorem MW_get {σ : mm_S} {v : Nat → Int32} {f : Nat → Nat → Int32} {a k : Nat} (h : 12 ≤ a ∧ a ≤ 33) (h2 : a ≠ 23) (hk : k < mo_len a) (hl : mo_len a ≤ 57600) : mm_ald (MW σ v f) a (nI k) false = some (f a k) := by
  unfold mm_ald mm_arr
  rw [MW_at h, if_neg h2]
  show (if nI k < 0 ∨ mo_len a ≤ (nI k).toNatClampNeg then none else _) = _
  rw [nI_clamp (by omega), if_neg (fun q => q.elim (nI_pos (by omega)) (by omega))]
  rfl
theorem MW_set {σ : mm_S} {v : Nat → Int32} {f : Nat → Nat → Int32} {a k : Nat} {x : Int32} (h : 12 ≤ a ∧ a ≤ 33) (h2 : a ≠ 23) (hk : k < mo_len a) (hl : mo_len a ≤ 57600) : mm_ast (MW σ v f) a (nI k) 0 x = some (MW σ v (uf f a k x)) := by
  unfold mm_ast mm_arr
  rw [MW_at h, if_neg h2]
  show (if nI k < 0 ∨ mo_len a ≤ (nI k).toNatClampNeg then none else if 0 = 0 then some (mm_put _ _ _) else none) = _
  rw [nI_clamp (by omega), if_neg (fun q => q.elim (nI_pos (by omega)) (by omega)), if_pos rfl]
  have := MW_putf (σ := σ) (v := v) (f := f) (i := k) (x := x) h
  rw [if_neg h2] at this
  rw [this]
theorem MW_getz {σ : mm_S} {v : Nat → Int32} {f : Nat → Nat → Int32} {k : Nat} (hk : k < 24) : mm_ald (MW σ v f) 23 (nI k) true = some (f 23 k) := by
  unfold mm_ald mm_arr
  rw [MW_at (by omega)]
  show (if nI k < 0 ∨ 24 ≤ (nI k).toNatClampNeg then none else _) = _
  rw [nI_clamp (by omega), if_neg (fun q => q.elim (nI_pos (by omega)) (by omega))]
  rfl
theorem MW_setz {σ : mm_S} {v : Nat → Int32} {f : Nat → Nat → Int32} {k : Nat} {x : Int32} (hk : k < 24) : mm_ast (MW σ v f) 23 (nI k) 1 x = some (MW σ v (uf f 23 k x)) := by
  unfold mm_ast mm_arr
  rw [MW_at (by omega)]
  show (if nI k < 0 ∨ 24 ≤ (nI k).toNatClampNeg then none else if 1 = 1 then some (mm_put _ _ _) else none) = _
  rw [nI_clamp (by omega), if_neg (fun q => q.elim (nI_pos (by omega)) (by omega)), if_pos rfl]
  exact congrArg some (MW_putf (σ := σ) (v := v) (f := f) (a := 23) (i := k) (x := x) (by omega))
theorem MW_len {σ : mm_S} {v : Nat → Int32} {f : Nat → Nat → Int32} {a : Nat} (h : 12 ≤ a ∧ a ≤ 33) : mm_len (MW σ v f) a = some (mo_len a) := by
  unfold mm_len
  rw [MW_at h]
theorem mg_0 {σ : mm_S} {v : Nat → Int32} {f : Nat → Nat → Int32} : mm_geti (MW σ v f) 11 7 0 = some (v 0) := rfl
theorem ms_0 {σ : mm_S} {v : Nat → Int32} {f : Nat → Nat → Int32} {x : Int32} : mm_setf (MW σ v f) 11 7 0 (.int x) = some (MW σ (upd v 0 x) f) := by
  show some (mm_put _ _ _) = _
  exact congrArg some (MW_putv rfl)
theorem mg_2 {σ : mm_S} {v : Nat → Int32} {f : Nat → Nat → Int32} : mm_geti (MW σ v f) 11 7 2 = some (v 1) := rfl
theorem ms_2 {σ : mm_S} {v : Nat → Int32} {f : Nat → Nat → Int32} {x : Int32} : mm_setf (MW σ v f) 11 7 2 (.int x) = some (MW σ (upd v 1 x) f) := by
  show some (mm_put _ _ _) = _
  exact congrArg some (MW_putv rfl)
theorem mg_8 {σ : mm_S} {v : Nat → Int32} {f : Nat → Nat → Int32} : mm_geti (MW σ v f) 11 7 8 = some (v 2) := rfl
theorem ms_8 {σ : mm_S} {v : Nat → Int32} {f : Nat → Nat → Int32} {x : Int32} : mm_setf (MW σ v f) 11 7 8 (.int x) = some (MW σ (upd v 2 x) f) := by
  show some (mm_put _ _ _) = _
  exact congrArg some (MW_putv rfl)
theorem mg_12 {σ : mm_S} {v : Nat → Int32} {f : Nat → Nat → Int32} : mm_geti (MW σ v f) 11 7 12 = some (v 3) := rfl
theorem ms_12 {σ : mm_S} {v : Nat → Int32} {f : Nat → Nat → Int32} {x : Int32} : mm_setf (MW σ v f) 11 7 12 (.int x) = some (MW σ (upd v 3 x) f) := by
  show some (mm_put _ _ _) = _
  exact congrArg some (MW_putv rfl)
theorem mg_15 {σ : mm_S} {v : Nat → Int32} {f : Nat → Nat → Int32} : mm_geti (MW σ v f) 11 7 15 = some (v 4) := rfl
theorem ms_15 {σ : mm_S} {v : Nat → Int32} {f : Nat → Nat → Int32} {x : Int32} : mm_setf (MW σ v f) 11 7 15 (.int x) = some (MW σ (upd v 4 x) f) := by
  show some (mm_put _ _ _) = _
  exact congrArg some (MW_putv rfl)
theorem mg_27 {σ : mm_S} {v : Nat → Int32} {f : Nat → Nat → Int32} : mm_geti (MW σ v f) 11 7 27 = some (v 5) := rfl
theorem ms_27 {σ : mm_S} {v : Nat → Int32} {f : Nat → Nat → Int32} {x : Int32} : mm_setf (MW σ v f) 11 7 27 (.int x) = some (MW σ (upd v 5 x) f) := by
  show some (mm_put _ _ _) = _
  exact congrArg some (MW_putv rfl)
theorem mg_1 {σ : mm_S} {v : Nat → Int32} {f : Nat → Nat → Int32} : mm_getr (MW σ v f) 11 7 1 = some (.ref 12) := rfl
theorem ma_12 {σ : mm_S} {v : Nat → Int32} {f : Nat → Nat → Int32} {k : Nat} (h : k < 210) : mm_ald (MW σ v f) 12 (nI k) false = some (f 12 k) := MW_get (by omega) (by omega) h (by decide)
theorem mt_12 {σ : mm_S} {v : Nat → Int32} {f : Nat → Nat → Int32} {k : Nat} {x : Int32} (h : k < 210) : mm_ast (MW σ v f) 12 (nI k) 0 x = some (MW σ v (uf f 12 k x)) := MW_set (by omega) (by omega) h (by decide)
theorem mg_3 {σ : mm_S} {v : Nat → Int32} {f : Nat → Nat → Int32} : mm_getr (MW σ v f) 11 7 3 = some (.ref 13) := rfl
theorem ma_13 {σ : mm_S} {v : Nat → Int32} {f : Nat → Nat → Int32} {k : Nat} (h : k < 14) : mm_ald (MW σ v f) 13 (nI k) false = some (f 13 k) := MW_get (by omega) (by omega) h (by decide)
theorem mt_13 {σ : mm_S} {v : Nat → Int32} {f : Nat → Nat → Int32} {k : Nat} {x : Int32} (h : k < 14) : mm_ast (MW σ v f) 13 (nI k) 0 x = some (MW σ v (uf f 13 k x)) := MW_set (by omega) (by omega) h (by decide)
theorem mg_4 {σ : mm_S} {v : Nat → Int32} {f : Nat → Nat → Int32} : mm_getr (MW σ v f) 11 7 4 = some (.ref 14) := rfl
theorem ma_14 {σ : mm_S} {v : Nat → Int32} {f : Nat → Nat → Int32} {k : Nat} (h : k < 14) : mm_ald (MW σ v f) 14 (nI k) false = some (f 14 k) := MW_get (by omega) (by omega) h (by decide)
theorem mt_14 {σ : mm_S} {v : Nat → Int32} {f : Nat → Nat → Int32} {k : Nat} {x : Int32} (h : k < 14) : mm_ast (MW σ v f) 14 (nI k) 0 x = some (MW σ v (uf f 14 k x)) := MW_set (by omega) (by omega) h (by decide)
theorem mg_5 {σ : mm_S} {v : Nat → Int32} {f : Nat → Nat → Int32} : mm_getr (MW σ v f) 11 7 5 = some (.ref 15) := rfl
theorem ma_15 {σ : mm_S} {v : Nat → Int32} {f : Nat → Nat → Int32} {k : Nat} (h : k < 14) : mm_ald (MW σ v f) 15 (nI k) false = some (f 15 k) := MW_get (by omega) (by omega) h (by decide)
theorem mt_15 {σ : mm_S} {v : Nat → Int32} {f : Nat → Nat → Int32} {k : Nat} {x : Int32} (h : k < 14) : mm_ast (MW σ v f) 15 (nI k) 0 x = some (MW σ v (uf f 15 k x)) := MW_set (by omega) (by omega) h (by decide)
theorem mg_6 {σ : mm_S} {v : Nat → Int32} {f : Nat → Nat → Int32} : mm_getr (MW σ v f) 11 7 6 = some (.ref 16) := rfl
theorem ma_16 {σ : mm_S} {v : Nat → Int32} {f : Nat → Nat → Int32} {k : Nat} (h : k < 14) : mm_ald (MW σ v f) 16 (nI k) false = some (f 16 k) := MW_get (by omega) (by omega) h (by decide)
theorem mt_16 {σ : mm_S} {v : Nat → Int32} {f : Nat → Nat → Int32} {k : Nat} {x : Int32} (h : k < 14) : mm_ast (MW σ v f) 16 (nI k) 0 x = some (MW σ v (uf f 16 k x)) := MW_set (by omega) (by omega) h (by decide)
theorem mg_7 {σ : mm_S} {v : Nat → Int32} {f : Nat → Nat → Int32} : mm_getr (MW σ v f) 11 7 7 = some (.ref 17) := rfl
theorem ma_17 {σ : mm_S} {v : Nat → Int32} {f : Nat → Nat → Int32} {k : Nat} (h : k < 4) : mm_ald (MW σ v f) 17 (nI k) false = some (f 17 k) := MW_get (by omega) (by omega) h (by decide)
theorem mt_17 {σ : mm_S} {v : Nat → Int32} {f : Nat → Nat → Int32} {k : Nat} {x : Int32} (h : k < 4) : mm_ast (MW σ v f) 17 (nI k) 0 x = some (MW σ v (uf f 17 k x)) := MW_set (by omega) (by omega) h (by decide)
theorem mg_9 {σ : mm_S} {v : Nat → Int32} {f : Nat → Nat → Int32} : mm_getr (MW σ v f) 11 7 9 = some (.ref 18) := rfl
theorem ma_18 {σ : mm_S} {v : Nat → Int32} {f : Nat → Nat → Int32} {k : Nat} (h : k < 8) : mm_ald (MW σ v f) 18 (nI k) false = some (f 18 k) := MW_get (by omega) (by omega) h (by decide)
theorem mt_18 {σ : mm_S} {v : Nat → Int32} {f : Nat → Nat → Int32} {k : Nat} {x : Int32} (h : k < 8) : mm_ast (MW σ v f) 18 (nI k) 0 x = some (MW σ v (uf f 18 k x)) := MW_set (by omega) (by omega) h (by decide)
theorem mg_10 {σ : mm_S} {v : Nat → Int32} {f : Nat → Nat → Int32} : mm_getr (MW σ v f) 11 7 10 = some (.ref 19) := rfl
theorem ma_19 {σ : mm_S} {v : Nat → Int32} {f : Nat → Nat → Int32} {k : Nat} (h : k < 8) : mm_ald (MW σ v f) 19 (nI k) false = some (f 19 k) := MW_get (by omega) (by omega) h (by decide)
theorem mt_19 {σ : mm_S} {v : Nat → Int32} {f : Nat → Nat → Int32} {k : Nat} {x : Int32} (h : k < 8) : mm_ast (MW σ v f) 19 (nI k) 0 x = some (MW σ v (uf f 19 k x)) := MW_set (by omega) (by omega) h (by decide)
theorem mg_11 {σ : mm_S} {v : Nat → Int32} {f : Nat → Nat → Int32} : mm_getr (MW σ v f) 11 7 11 = some (.ref 20) := rfl
theorem ma_20 {σ : mm_S} {v : Nat → Int32} {f : Nat → Nat → Int32} {k : Nat} (h : k < 8) : mm_ald (MW σ v f) 20 (nI k) false = some (f 20 k) := MW_get (by omega) (by omega) h (by decide)
theorem mt_20 {σ : mm_S} {v : Nat → Int32} {f : Nat → Nat → Int32} {k : Nat} {x : Int32} (h : k < 8) : mm_ast (MW σ v f) 20 (nI k) 0 x = some (MW σ v (uf f 20 k x)) := MW_set (by omega) (by omega) h (by decide)
theorem mg_13 {σ : mm_S} {v : Nat → Int32} {f : Nat → Nat → Int32} : mm_getr (MW σ v f) 11 7 13 = some (.ref 21) := rfl
theorem ma_21 {σ : mm_S} {v : Nat → Int32} {f : Nat → Nat → Int32} {k : Nat} (h : k < 6) : mm_ald (MW σ v f) 21 (nI k) false = some (f 21 k) := MW_get (by omega) (by omega) h (by decide)
theorem mt_21 {σ : mm_S} {v : Nat → Int32} {f : Nat → Nat → Int32} {k : Nat} {x : Int32} (h : k < 6) : mm_ast (MW σ v f) 21 (nI k) 0 x = some (MW σ v (uf f 21 k x)) := MW_set (by omega) (by omega) h (by decide)
theorem mg_14 {σ : mm_S} {v : Nat → Int32} {f : Nat → Nat → Int32} : mm_getr (MW σ v f) 11 7 14 = some (.ref 22) := rfl
theorem ma_22 {σ : mm_S} {v : Nat → Int32} {f : Nat → Nat → Int32} {k : Nat} (h : k < 6) : mm_ald (MW σ v f) 22 (nI k) false = some (f 22 k) := MW_get (by omega) (by omega) h (by decide)
theorem mt_22 {σ : mm_S} {v : Nat → Int32} {f : Nat → Nat → Int32} {k : Nat} {x : Int32} (h : k < 6) : mm_ast (MW σ v f) 22 (nI k) 0 x = some (MW σ v (uf f 22 k x)) := MW_set (by omega) (by omega) h (by decide)
theorem mg_16 {σ : mm_S} {v : Nat → Int32} {f : Nat → Nat → Int32} : mm_getr (MW σ v f) 11 7 16 = some (.ref 23) := rfl
theorem mg_17 {σ : mm_S} {v : Nat → Int32} {f : Nat → Nat → Int32} : mm_getr (MW σ v f) 11 7 17 = some (.ref 24) := rfl
theorem ma_24 {σ : mm_S} {v : Nat → Int32} {f : Nat → Nat → Int32} {k : Nat} (h : k < 24) : mm_ald (MW σ v f) 24 (nI k) false = some (f 24 k) := MW_get (by omega) (by omega) h (by decide)
theorem mt_24 {σ : mm_S} {v : Nat → Int32} {f : Nat → Nat → Int32} {k : Nat} {x : Int32} (h : k < 24) : mm_ast (MW σ v f) 24 (nI k) 0 x = some (MW σ v (uf f 24 k x)) := MW_set (by omega) (by omega) h (by decide)
theorem mg_18 {σ : mm_S} {v : Nat → Int32} {f : Nat → Nat → Int32} : mm_getr (MW σ v f) 11 7 18 = some (.ref 25) := rfl
theorem ma_25 {σ : mm_S} {v : Nat → Int32} {f : Nat → Nat → Int32} {k : Nat} (h : k < 24) : mm_ald (MW σ v f) 25 (nI k) false = some (f 25 k) := MW_get (by omega) (by omega) h (by decide)
theorem mt_25 {σ : mm_S} {v : Nat → Int32} {f : Nat → Nat → Int32} {k : Nat} {x : Int32} (h : k < 24) : mm_ast (MW σ v f) 25 (nI k) 0 x = some (MW σ v (uf f 25 k x)) := MW_set (by omega) (by omega) h (by decide)
theorem mg_19 {σ : mm_S} {v : Nat → Int32} {f : Nat → Nat → Int32} : mm_getr (MW σ v f) 11 7 19 = some (.ref 26) := rfl
theorem ma_26 {σ : mm_S} {v : Nat → Int32} {f : Nat → Nat → Int32} {k : Nat} (h : k < 24) : mm_ald (MW σ v f) 26 (nI k) false = some (f 26 k) := MW_get (by omega) (by omega) h (by decide)
theorem mt_26 {σ : mm_S} {v : Nat → Int32} {f : Nat → Nat → Int32} {k : Nat} {x : Int32} (h : k < 24) : mm_ast (MW σ v f) 26 (nI k) 0 x = some (MW σ v (uf f 26 k x)) := MW_set (by omega) (by omega) h (by decide)
theorem mg_20 {σ : mm_S} {v : Nat → Int32} {f : Nat → Nat → Int32} : mm_getr (MW σ v f) 11 7 20 = some (.ref 27) := rfl
theorem ma_27 {σ : mm_S} {v : Nat → Int32} {f : Nat → Nat → Int32} {k : Nat} (h : k < 24) : mm_ald (MW σ v f) 27 (nI k) false = some (f 27 k) := MW_get (by omega) (by omega) h (by decide)
theorem mt_27 {σ : mm_S} {v : Nat → Int32} {f : Nat → Nat → Int32} {k : Nat} {x : Int32} (h : k < 24) : mm_ast (MW σ v f) 27 (nI k) 0 x = some (MW σ v (uf f 27 k x)) := MW_set (by omega) (by omega) h (by decide)
theorem mg_21 {σ : mm_S} {v : Nat → Int32} {f : Nat → Nat → Int32} : mm_getr (MW σ v f) 11 7 21 = some (.ref 28) := rfl
theorem ma_28 {σ : mm_S} {v : Nat → Int32} {f : Nat → Nat → Int32} {k : Nat} (h : k < 6) : mm_ald (MW σ v f) 28 (nI k) false = some (f 28 k) := MW_get (by omega) (by omega) h (by decide)
theorem mt_28 {σ : mm_S} {v : Nat → Int32} {f : Nat → Nat → Int32} {k : Nat} {x : Int32} (h : k < 6) : mm_ast (MW σ v f) 28 (nI k) 0 x = some (MW σ v (uf f 28 k x)) := MW_set (by omega) (by omega) h (by decide)
theorem mg_22 {σ : mm_S} {v : Nat → Int32} {f : Nat → Nat → Int32} : mm_getr (MW σ v f) 11 7 22 = some (.ref 29) := rfl
theorem ma_29 {σ : mm_S} {v : Nat → Int32} {f : Nat → Nat → Int32} {k : Nat} (h : k < 57600) : mm_ald (MW σ v f) 29 (nI k) false = some (f 29 k) := MW_get (by omega) (by omega) h (by decide)
theorem mt_29 {σ : mm_S} {v : Nat → Int32} {f : Nat → Nat → Int32} {k : Nat} {x : Int32} (h : k < 57600) : mm_ast (MW σ v f) 29 (nI k) 0 x = some (MW σ v (uf f 29 k x)) := MW_set (by omega) (by omega) h (by decide)
theorem mg_23 {σ : mm_S} {v : Nat → Int32} {f : Nat → Nat → Int32} : mm_getr (MW σ v f) 11 7 23 = some (.ref 30) := rfl
theorem ma_30 {σ : mm_S} {v : Nat → Int32} {f : Nat → Nat → Int32} {k : Nat} (h : k < 288) : mm_ald (MW σ v f) 30 (nI k) false = some (f 30 k) := MW_get (by omega) (by omega) h (by decide)
theorem mt_30 {σ : mm_S} {v : Nat → Int32} {f : Nat → Nat → Int32} {k : Nat} {x : Int32} (h : k < 288) : mm_ast (MW σ v f) 30 (nI k) 0 x = some (MW σ v (uf f 30 k x)) := MW_set (by omega) (by omega) h (by decide)
theorem mg_24 {σ : mm_S} {v : Nat → Int32} {f : Nat → Nat → Int32} : mm_getr (MW σ v f) 11 7 24 = some (.ref 31) := rfl
theorem ma_31 {σ : mm_S} {v : Nat → Int32} {f : Nat → Nat → Int32} {k : Nat} (h : k < 2880) : mm_ald (MW σ v f) 31 (nI k) false = some (f 31 k) := MW_get (by omega) (by omega) h (by decide)
theorem mt_31 {σ : mm_S} {v : Nat → Int32} {f : Nat → Nat → Int32} {k : Nat} {x : Int32} (h : k < 2880) : mm_ast (MW σ v f) 31 (nI k) 0 x = some (MW σ v (uf f 31 k x)) := MW_set (by omega) (by omega) h (by decide)
theorem mg_25 {σ : mm_S} {v : Nat → Int32} {f : Nat → Nat → Int32} : mm_getr (MW σ v f) 11 7 25 = some (.ref 32) := rfl
theorem ma_32 {σ : mm_S} {v : Nat → Int32} {f : Nat → Nat → Int32} {k : Nat} (h : k < 2880) : mm_ald (MW σ v f) 32 (nI k) false = some (f 32 k) := MW_get (by omega) (by omega) h (by decide)
theorem mt_32 {σ : mm_S} {v : Nat → Int32} {f : Nat → Nat → Int32} {k : Nat} {x : Int32} (h : k < 2880) : mm_ast (MW σ v f) 32 (nI k) 0 x = some (MW σ v (uf f 32 k x)) := MW_set (by omega) (by omega) h (by decide)
theorem mg_26 {σ : mm_S} {v : Nat → Int32} {f : Nat → Nat → Int32} : mm_getr (MW σ v f) 11 7 26 = some (.ref 33) := rfl
theorem ma_33 {σ : mm_S} {v : Nat → Int32} {f : Nat → Nat → Int32} {k : Nat} (h : k < 98) : mm_ald (MW σ v f) 33 (nI k) false = some (f 33 k) := MW_get (by omega) (by omega) h (by decide)
theorem mt_33 {σ : mm_S} {v : Nat → Int32} {f : Nat → Nat → Int32} {k : Nat} {x : Int32} (h : k < 98) : mm_ast (MW σ v f) 33 (nI k) 0 x = some (MW σ v (uf f 33 k x)) := MW_set (by omega) (by omega) h (by decide)
theorem MW_ci {σ : mm_S} {v : Nat → Int32} {f : Nat → Nat → Int32} : mm_ci (MW σ v f) 11 = some 7 := rfl
theorem Mo_106 {σ : mm_S} {v : Nat → Int32} {f : Nat → Nat → Int32} {As : List Value} : mm_Mo 106 11 As (MW σ v f) = mm_M 106 (.ref 11 :: As) (MW σ v f) := if_pos rfl
theorem Mo_107 {σ : mm_S} {v : Nat → Int32} {f : Nat → Nat → Int32} {As : List Value} : mm_Mo 107 11 As (MW σ v f) = mm_M 107 (.ref 11 :: As) (MW σ v f) := if_pos rfl
theorem Mo_112 {σ : mm_S} {v : Nat → Int32} {f : Nat → Nat → Int32} {As : List Value} : mm_Mo 112 11 As (MW σ v f) = mm_M 112 (.ref 11 :: As) (MW σ v f) := if_pos rfl
theorem Mo_113 {σ : mm_S} {v : Nat → Int32} {f : Nat → Nat → Int32} {As : List Value} : mm_Mo 113 11 As (MW σ v f) = mm_M 113 (.ref 11 :: As) (MW σ v f) := if_pos rfl
theorem Mo_115 {σ : mm_S} {v : Nat → Int32} {f : Nat → Nat → Int32} {As : List Value} : mm_Mo 115 11 As (MW σ v f) = mm_M 115 (.ref 11 :: As) (MW σ v f) := if_pos rfl
theorem Mo_116 {σ : mm_S} {v : Nat → Int32} {f : Nat → Nat → Int32} {As : List Value} : mm_Mo 116 11 As (MW σ v f) = mm_M 116 (.ref 11 :: As) (MW σ v f) := if_pos rfl
theorem Mo_117 {σ : mm_S} {v : Nat → Int32} {f : Nat → Nat → Int32} {As : List Value} : mm_Mo 117 11 As (MW σ v f) = mm_M 117 (.ref 11 :: As) (MW σ v f) := if_pos rfl
theorem Mo_118 {σ : mm_S} {v : Nat → Int32} {f : Nat → Nat → Int32} {As : List Value} : mm_Mo 118 11 As (MW σ v f) = mm_M 118 (.ref 11 :: As) (MW σ v f) := if_pos rfl
theorem Mo_120 {σ : mm_S} {v : Nat → Int32} {f : Nat → Nat → Int32} {As : List Value} : mm_Mo 120 11 As (MW σ v f) = mm_M 120 (.ref 11 :: As) (MW σ v f) := if_pos rfl
theorem Mo_121 {σ : mm_S} {v : Nat → Int32} {f : Nat → Nat → Int32} {As : List Value} : mm_Mo 121 11 As (MW σ v f) = mm_M 121 (.ref 11 :: As) (MW σ v f) := if_pos rfl
theorem Mo_122 {σ : mm_S} {v : Nat → Int32} {f : Nat → Nat → Int32} {As : List Value} : mm_Mo 122 11 As (MW σ v f) = mm_M 122 (.ref 11 :: As) (MW σ v f) := if_pos rfl
theorem Mo_123 {σ : mm_S} {v : Nat → Int32} {f : Nat → Nat → Int32} {As : List Value} : mm_Mo 123 11 As (MW σ v f) = mm_M 123 (.ref 11 :: As) (MW σ v f) := if_pos rfl
theorem Mo_124 {σ : mm_S} {v : Nat → Int32} {f : Nat → Nat → Int32} {As : List Value} : mm_Mo 124 11 As (MW σ v f) = mm_M 124 (.ref 11 :: As) (MW σ v f) := if_pos rfl
theorem Mo_125 {σ : mm_S} {v : Nat → Int32} {f : Nat → Nat → Int32} {As : List Value} : mm_Mo 125 11 As (MW σ v f) = mm_M 125 (.ref 11 :: As) (MW σ v f) := if_pos rfl
theorem Mo_126 {σ : mm_S} {v : Nat → Int32} {f : Nat → Nat → Int32} {As : List Value} : mm_Mo 126 11 As (MW σ v f) = mm_M 126 (.ref 11 :: As) (MW σ v f) := if_pos rfl
theorem Mo_128 {σ : mm_S} {v : Nat → Int32} {f : Nat → Nat → Int32} {As : List Value} : mm_Mo 128 11 As (MW σ v f) = mm_M 128 (.ref 11 :: As) (MW σ v f) := if_pos rfl
theorem Mo_129 {σ : mm_S} {v : Nat → Int32} {f : Nat → Nat → Int32} {As : List Value} : mm_Mo 129 11 As (MW σ v f) = mm_M 129 (.ref 11 :: As) (MW σ v f) := if_pos rfl
theorem Mo_130 {σ : mm_S} {v : Nat → Int32} {f : Nat → Nat → Int32} {As : List Value} : mm_Mo 130 11 As (MW σ v f) = mm_M 130 (.ref 11 :: As) (MW σ v f) := if_pos rfl
theorem Mo_131 {σ : mm_S} {v : Nat → Int32} {f : Nat → Nat → Int32} {As : List Value} : mm_Mo 131 11 As (MW σ v f) = mm_M 131 (.ref 11 :: As) (MW σ v f) := if_pos rfl
theorem Mo_132 {σ : mm_S} {v : Nat → Int32} {f : Nat → Nat → Int32} {As : List Value} : mm_Mo 132 11 As (MW σ v f) = mm_M 132 (.ref 11 :: As) (MW σ v f) := if_pos rfl
theorem Mo_133 {σ : mm_S} {v : Nat → Int32} {f : Nat → Nat → Int32} {As : List Value} : mm_Mo 133 11 As (MW σ v f) = mm_M 133 (.ref 11 :: As) (MW σ v f) := if_pos rfl
theorem Mo_134 {σ : mm_S} {v : Nat → Int32} {f : Nat → Nat → Int32} {As : List Value} : mm_Mo 134 11 As (MW σ v f) = mm_M 134 (.ref 11 :: As) (MW σ v f) := if_pos rfl
theorem Mo_135 {σ : mm_S} {v : Nat → Int32} {f : Nat → Nat → Int32} {As : List Value} : mm_Mo 135 11 As (MW σ v f) = mm_M 135 (.ref 11 :: As) (MW σ v f) := if_pos rfl
theorem Mo_136 {σ : mm_S} {v : Nat → Int32} {f : Nat → Nat → Int32} {As : List Value} : mm_Mo 136 11 As (MW σ v f) = mm_M 136 (.ref 11 :: As) (MW σ v f) := if_pos rfl
theorem Mo_137 {σ : mm_S} {v : Nat → Int32} {f : Nat → Nat → Int32} {As : List Value} : mm_Mo 137 11 As (MW σ v f) = mm_M 137 (.ref 11 :: As) (MW σ v f) := if_pos rfl
theorem Mo_138 {σ : mm_S} {v : Nat → Int32} {f : Nat → Nat → Int32} {As : List Value} : mm_Mo 138 11 As (MW σ v f) = mm_M 138 (.ref 11 :: As) (MW σ v f) := if_pos rfl
theorem Mo_139 {σ : mm_S} {v : Nat → Int32} {f : Nat → Nat → Int32} {As : List Value} : mm_Mo 139 11 As (MW σ v f) = mm_M 139 (.ref 11 :: As) (MW σ v f) := if_pos rfl
theorem Mo_140 {σ : mm_S} {v : Nat → Int32} {f : Nat → Nat → Int32} {As : List Value} : mm_Mo 140 11 As (MW σ v f) = mm_M 140 (.ref 11 :: As) (MW σ v f) := if_pos rfl
theorem Mo_141 {σ : mm_S} {v : Nat → Int32} {f : Nat → Nat → Int32} {As : List Value} : mm_Mo 141 11 As (MW σ v f) = mm_M 141 (.ref 11 :: As) (MW σ v f) := if_pos rfl
theorem Mo_142 {σ : mm_S} {v : Nat → Int32} {f : Nat → Nat → Int32} {As : List Value} : mm_Mo 142 11 As (MW σ v f) = mm_M 142 (.ref 11 :: As) (MW σ v f) := if_pos rfl
theorem Mo_143 {σ : mm_S} {v : Nat → Int32} {f : Nat → Nat → Int32} {As : List Value} : mm_Mo 143 11 As (MW σ v f) = mm_M 143 (.ref 11 :: As) (MW σ v f) := if_pos rfl
theorem Mo_145 {σ : mm_S} {v : Nat → Int32} {f : Nat → Nat → Int32} {As : List Value} : mm_Mo 145 11 As (MW σ v f) = mm_M 145 (.ref 11 :: As) (MW σ v f) := if_pos rfl
theorem Mo_146 {σ : mm_S} {v : Nat → Int32} {f : Nat → Nat → Int32} {As : List Value} : mm_Mo 146 11 As (MW σ v f) = mm_M 146 (.ref 11 :: As) (MW σ v f) := if_pos rfl
theorem Mo_147 {σ : mm_S} {v : Nat → Int32} {f : Nat → Nat → Int32} {As : List Value} : mm_Mo 147 11 As (MW σ v f) = mm_M 147 (.ref 11 :: As) (MW σ v f) := if_pos rfl
theorem Mo_148 {σ : mm_S} {v : Nat → Int32} {f : Nat → Nat → Int32} {As : List Value} : mm_Mo 148 11 As (MW σ v f) = mm_M 148 (.ref 11 :: As) (MW σ v f) := if_pos rfl
theorem Mo_150 {σ : mm_S} {v : Nat → Int32} {f : Nat → Nat → Int32} {As : List Value} : mm_Mo 150 11 As (MW σ v f) = mm_M 150 (.ref 11 :: As) (MW σ v f) := if_pos rfl
theorem Mo_151 {σ : mm_S} {v : Nat → Int32} {f : Nat → Nat → Int32} {As : List Value} : mm_Mo 151 11 As (MW σ v f) = mm_M 151 (.ref 11 :: As) (MW σ v f) := if_pos rfl
theorem Mo_152 {σ : mm_S} {v : Nat → Int32} {f : Nat → Nat → Int32} {As : List Value} : mm_Mo 152 11 As (MW σ v f) = mm_M 152 (.ref 11 :: As) (MW σ v f) := if_pos rfl
theorem Mo_153 {σ : mm_S} {v : Nat → Int32} {f : Nat → Nat → Int32} {As : List Value} : mm_Mo 153 11 As (MW σ v f) = mm_M 153 (.ref 11 :: As) (MW σ v f) := if_pos rfl
theorem Mo_154 {σ : mm_S} {v : Nat → Int32} {f : Nat → Nat → Int32} {As : List Value} : mm_Mo 154 11 As (MW σ v f) = mm_M 154 (.ref 11 :: As) (MW σ v f) := if_pos rfl
theorem Mo_155 {σ : mm_S} {v : Nat → Int32} {f : Nat → Nat → Int32} {As : List Value} : mm_Mo 155 11 As (MW σ v f) = mm_M 155 (.ref 11 :: As) (MW σ v f) := if_pos rfl
theorem Mo_156 {σ : mm_S} {v : Nat → Int32} {f : Nat → Nat → Int32} {As : List Value} : mm_Mo 156 11 As (MW σ v f) = mm_M 156 (.ref 11 :: As) (MW σ v f) := if_pos rfl
theorem Mo_157 {σ : mm_S} {v : Nat → Int32} {f : Nat → Nat → Int32} {As : List Value} : mm_Mo 157 11 As (MW σ v f) = mm_M 157 (.ref 11 :: As) (MW σ v f) := if_pos rfl
theorem Mo_158 {σ : mm_S} {v : Nat → Int32} {f : Nat → Nat → Int32} {As : List Value} : mm_Mo 158 11 As (MW σ v f) = mm_M 158 (.ref 11 :: As) (MW σ v f) := if_pos rfl
theorem Mo_159 {σ : mm_S} {v : Nat → Int32} {f : Nat → Nat → Int32} {As : List Value} : mm_Mo 159 11 As (MW σ v f) = mm_M 159 (.ref 11 :: As) (MW σ v f) := if_pos rfl
theorem Mo_160 {σ : mm_S} {v : Nat → Int32} {f : Nat → Nat → Int32} {As : List Value} : mm_Mo 160 11 As (MW σ v f) = mm_M 160 (.ref 11 :: As) (MW σ v f) := if_pos rfl
theorem Mo_161 {σ : mm_S} {v : Nat → Int32} {f : Nat → Nat → Int32} {As : List Value} : mm_Mo 161 11 As (MW σ v f) = mm_M 161 (.ref 11 :: As) (MW σ v f) := if_pos rfl
theorem Mo_162 {σ : mm_S} {v : Nat → Int32} {f : Nat → Nat → Int32} {As : List Value} : mm_Mo 162 11 As (MW σ v f) = mm_M 162 (.ref 11 :: As) (MW σ v f) := if_pos rfl
theorem Mo_165 {σ : mm_S} {v : Nat → Int32} {f : Nat → Nat → Int32} {As : List Value} : mm_Mo 165 11 As (MW σ v f) = mm_M 165 (.ref 11 :: As) (MW σ v f) := if_pos rfl
theorem Mo_166 {σ : mm_S} {v : Nat → Int32} {f : Nat → Nat → Int32} {As : List Value} : mm_Mo 166 11 As (MW σ v f) = mm_M 166 (.ref 11 :: As) (MW σ v f) := if_pos rfl
theorem M_0 (a0 a1 a2 a3 a4 : Value) (σ : mm_S) : mm_M 0 [a0, a1, a2, a3, a4] σ = mm_L 0 0 [a0, a1, a2, a3, a4] [] σ := rfl
theorem M_1 (a0 a1 : Value) (σ : mm_S) : mm_M 1 [a0, a1] σ = mm_L 1 0 [a0, a1] [] σ := rfl
theorem M_2 (a0 : Value) (σ : mm_S) : mm_M 2 [a0] σ = mm_L 2 0 [a0] [] σ := rfl
theorem M_3 (a0 a1 a2 : Value) (σ : mm_S) : mm_M 3 [a0, a1, a2] σ = mm_L 3 0 [a0, a1, a2, mm_un, mm_un] [] σ := rfl
theorem M_4 (a0 a1 a2 a3 a4 : Value) (σ : mm_S) : mm_M 4 [a0, a1, a2, a3, a4] σ = mm_L 4 0 [a0, a1, a2, a3, a4, mm_un, mm_un] [] σ := rfl
theorem M_5 (a0 a1 a2 a3 : Value) (σ : mm_S) : mm_M 5 [a0, a1, a2, a3] σ = mm_L 5 0 [a0, a1, a2, a3, mm_un] [] σ := rfl
theorem M_6 (a0 a1 a2 a3 a4 a5 a6 a7 : Value) (σ : mm_S) : mm_M 6 [a0, a1, a2, a3, a4, a5, a6, a7] σ = mm_L 6 0 [a0, a1, a2, a3, a4, a5, a6, a7] [] σ := rfl
theorem M_7 (a0 a1 : Value) (σ : mm_S) : mm_M 7 [a0, a1] σ = mm_L 7 0 [a0, a1] [] σ := rfl
theorem M_8 (a0 a1 : Value) (σ : mm_S) : mm_M 8 [a0, a1] σ = mm_L 8 0 [a0, a1, mm_un] [] σ := rfl
theorem M_9 (a0 a1 : Value) (σ : mm_S) : mm_M 9 [a0, a1] σ = mm_L 9 0 [a0, a1] [] σ := rfl
theorem M_10 (a0 : Value) (σ : mm_S) : mm_M 10 [a0] σ = mm_L 10 0 [a0] [] σ := rfl
theorem M_11 (a0 : Value) (σ : mm_S) : mm_M 11 [a0] σ = mm_L 11 0 [a0] [] σ := rfl
theorem M_12 (a0 a1 a2 a3 a4 : Value) (σ : mm_S) : mm_M 12 [a0, a1, a2, a3, a4] σ = mm_L 12 0 [a0, a1, a2, a3, a4] [] σ := rfl
theorem M_13 (a0 : Value) (σ : mm_S) : mm_M 13 [a0] σ = mm_L 13 0 [a0] [] σ := rfl
theorem M_14 (a0 : Value) (σ : mm_S) : mm_M 14 [a0] σ = mm_L 14 0 [a0] [] σ := rfl
theorem M_15 (a0 a1 a2 a3 a4 a5 : Value) (σ : mm_S) : mm_M 15 [a0, a1, a2, a3, a4, a5] σ = mm_L 15 0 [a0, a1, a2, a3, a4, a5] [] σ := rfl
theorem M_16 (a0 a1 a2 : Value) (σ : mm_S) : mm_M 16 [a0, a1, a2] σ = mm_L 16 0 [a0, a1, a2] [] σ := rfl
theorem M_17 (a0 a1 : Value) (σ : mm_S) : mm_M 17 [a0, a1] σ = mm_L 17 0 [a0, a1, mm_un] [] σ := rfl
theorem M_18 (a0 a1 : Value) (σ : mm_S) : mm_M 18 [a0, a1] σ = mm_L 18 0 [a0, a1, mm_un, mm_un] [] σ := rfl
theorem M_19 (a0 a1 : Value) (σ : mm_S) : mm_M 19 [a0, a1] σ = mm_L 19 0 [a0, a1] [] σ := rfl
theorem M_20 (a0 a1 : Value) (σ : mm_S) : mm_M 20 [a0, a1] σ = mm_L 20 0 [a0, a1] [] σ := rfl
theorem M_21 (a0 a1 : Value) (σ : mm_S) : mm_M 21 [a0, a1] σ = mm_L 21 0 [a0, a1] [] σ := rfl
theorem M_22 (a0 a1 a2 a3 : Value) (σ : mm_S) : mm_M 22 [a0, a1, a2, a3] σ = mm_L 22 0 [a0, a1, a2, a3] [] σ := rfl
theorem M_23 (a0 : Value) (σ : mm_S) : mm_M 23 [a0] σ = mm_L 23 0 [a0] [] σ := rfl
theorem M_24 (a0 a1 a2 a3 a4 a5 a6 a7 : Value) (σ : mm_S) : mm_M 24 [a0, a1, a2, a3, a4, a5, a6, a7] σ = mm_L 24 0 [a0, a1, a2, a3, a4, a5, a6, a7, mm_un, mm_un] [] σ := rfl
theorem M_25 (a0 a1 a2 : Value) (σ : mm_S) : mm_M 25 [a0, a1, a2] σ = mm_L 25 0 [a0, a1, a2, mm_un, mm_un, mm_un, mm_un, mm_un] [] σ := rfl
theorem M_26 (a0 a1 a2 : Value) (σ : mm_S) : mm_M 26 [a0, a1, a2] σ = mm_L 26 0 [a0, a1, a2] [] σ := rfl
theorem M_27 (a0 a1 a2 : Value) (σ : mm_S) : mm_M 27 [a0, a1, a2] σ = mm_L 27 0 [a0, a1, a2, mm_un, mm_un, mm_un] [] σ := rfl
theorem M_28 (a0 a1 a2 a3 : Value) (σ : mm_S) : mm_M 28 [a0, a1, a2, a3] σ = mm_L 28 0 [a0, a1, a2, a3] [] σ := rfl
theorem M_29 (a0 a1 : Value) (σ : mm_S) : mm_M 29 [a0, a1] σ = mm_L 29 0 [a0, a1, mm_un, mm_un, mm_un] [] σ := rfl
theorem M_30 (a0 a1 : Value) (σ : mm_S) : mm_M 30 [a0, a1] σ = mm_L 30 0 [a0, a1] [] σ := rfl
theorem M_31 (a0 a1 : Value) (σ : mm_S) : mm_M 31 [a0, a1] σ = mm_L 31 0 [a0, a1, mm_un] [] σ := rfl
theorem M_32 (a0 a1 : Value) (σ : mm_S) : mm_M 32 [a0, a1] σ = mm_L 32 0 [a0, a1, mm_un, mm_un] [] σ := rfl
theorem M_33 (a0 a1 : Value) (σ : mm_S) : mm_M 33 [a0, a1] σ = mm_L 33 0 [a0, a1] [] σ := rfl
theorem M_34 (a0 a1 : Value) (σ : mm_S) : mm_M 34 [a0, a1] σ = mm_L 34 0 [a0, a1] [] σ := rfl
theorem M_35 (a0 : Value) (σ : mm_S) : mm_M 35 [a0] σ = mm_L 35 0 [a0] [] σ := rfl
theorem M_36 (a0 a1 a2 a3 a4 : Value) (σ : mm_S) : mm_M 36 [a0, a1, a2, a3, a4] σ = mm_L 36 0 [a0, a1, a2, a3, a4] [] σ := rfl
theorem M_37 (a0 : Value) (σ : mm_S) : mm_M 37 [a0] σ = mm_L 37 0 [a0, mm_un] [] σ := rfl
theorem M_38 (a0 a1 a2 a3 : Value) (σ : mm_S) : mm_M 38 [a0, a1, a2, a3] σ = mm_L 38 0 [a0, a1, a2, a3] [] σ := rfl
theorem M_39 (a0 a1 a2 : Value) (σ : mm_S) : mm_M 39 [a0, a1, a2] σ = mm_L 39 0 [a0, a1, a2] [] σ := rfl
theorem M_40 (a0 a1 a2 : Value) (σ : mm_S) : mm_M 40 [a0, a1, a2] σ = mm_L 40 0 [a0, a1, a2] [] σ := rfl
theorem M_41 (a0 a1 a2 a3 a4 : Value) (σ : mm_S) : mm_M 41 [a0, a1, a2, a3, a4] σ = mm_L 41 0 [a0, a1, a2, a3, a4] [] σ := rfl
theorem M_42 (a0 a1 a2 a3 : Value) (σ : mm_S) : mm_M 42 [a0, a1, a2, a3] σ = mm_L 42 0 [a0, a1, a2, a3] [] σ := rfl
theorem M_43 (a0 a1 a2 a3 a4 : Value) (σ : mm_S) : mm_M 43 [a0, a1, a2, a3, a4] σ = mm_L 43 0 [a0, a1, a2, a3, a4] [] σ := rfl
theorem M_44 (a0 a1 : Value) (σ : mm_S) : mm_M 44 [a0, a1] σ = mm_L 44 0 [a0, a1, mm_un] [] σ := rfl
theorem M_45 (a0 a1 : Value) (σ : mm_S) : mm_M 45 [a0, a1] σ = mm_L 45 0 [a0, a1] [] σ := rfl
theorem M_46 (a0 a1 a2 : Value) (σ : mm_S) : mm_M 46 [a0, a1, a2] σ = mm_L 46 0 [a0, a1, a2, mm_un, mm_un, mm_un] [] σ := rfl
theorem M_47 (a0 a1 a2 a3 a4 : Value) (σ : mm_S) : mm_M 47 [a0, a1, a2, a3, a4] σ = mm_L 47 0 [a0, a1, a2, a3, a4, mm_un, mm_un, mm_un] [] σ := rfl
theorem M_48 (a0 a1 a2 : Value) (σ : mm_S) : mm_M 48 [a0, a1, a2] σ = mm_L 48 0 [a0, a1, a2] [] σ := rfl
theorem M_49 (a0 a1 a2 a3 : Value) (σ : mm_S) : mm_M 49 [a0, a1, a2, a3] σ = mm_L 49 0 [a0, a1, a2, a3, mm_un, mm_un] [] σ := rfl
theorem M_50 (a0 a1 a2 : Value) (σ : mm_S) : mm_M 50 [a0, a1, a2] σ = mm_L 50 0 [a0, a1, a2, mm_un, mm_un] [] σ := rfl
theorem M_51 (a0 a1 a2 : Value) (σ : mm_S) : mm_M 51 [a0, a1, a2] σ = mm_L 51 0 [a0, a1, a2, mm_un, mm_un] [] σ := rfl
theorem M_52 (a0 : Value) (σ : mm_S) : mm_M 52 [a0] σ = mm_L 52 0 [a0] [] σ := rfl
theorem M_53 (a0 a1 : Value) (σ : mm_S) : mm_M 53 [a0, a1] σ = mm_L 53 0 [a0, a1] [] σ := rfl
theorem M_54 (a0 : Value) (σ : mm_S) : mm_M 54 [a0] σ = mm_L 54 0 [a0] [] σ := rfl
theorem M_55 (a0 : Value) (σ : mm_S) : mm_M 55 [a0] σ = mm_L 55 0 [a0] [] σ := rfl
theorem M_56 (a0 : Value) (σ : mm_S) : mm_M 56 [a0] σ = mm_L 56 0 [a0, mm_un] [] σ := rfl
theorem M_57 (a0 a1 : Value) (σ : mm_S) : mm_M 57 [a0, a1] σ = mm_L 57 0 [a0, a1] [] σ := rfl
theorem M_58 (a0 a1 a2 : Value) (σ : mm_S) : mm_M 58 [a0, a1, a2] σ = mm_L 58 0 [a0, a1, a2] [] σ := rfl
theorem M_59 (a0 : Value) (σ : mm_S) : mm_M 59 [a0] σ = mm_L 59 0 [a0, mm_un, mm_un] [] σ := rfl
theorem M_60 (a0 a1 : Value) (σ : mm_S) : mm_M 60 [a0, a1] σ = mm_L 60 0 [a0, a1, mm_un, mm_un] [] σ := rfl
theorem M_61 (a0 a1 a2 : Value) (σ : mm_S) : mm_M 61 [a0, a1, a2] σ = mm_L 61 0 [a0, a1, a2] [] σ := rfl
theorem M_62 (a0 a1 : Value) (σ : mm_S) : mm_M 62 [a0, a1] σ = mm_L 62 0 [a0, a1] [] σ := rfl
theorem M_63 (a0 a1 a2 : Value) (σ : mm_S) : mm_M 63 [a0, a1, a2] σ = mm_L 63 0 [a0, a1, a2, mm_un, mm_un] [] σ := rfl
theorem M_64 (a0 a1 a2 : Value) (σ : mm_S) : mm_M 64 [a0, a1, a2] σ = mm_L 64 0 [a0, a1, a2, mm_un] [] σ := rfl
theorem M_65 (a0 a1 a2 : Value) (σ : mm_S) : mm_M 65 [a0, a1, a2] σ = mm_L 65 0 [a0, a1, a2, mm_un, mm_un, mm_un] [] σ := rfl
theorem M_66 (a0 a1 a2 : Value) (σ : mm_S) : mm_M 66 [a0, a1, a2] σ = mm_L 66 0 [a0, a1, a2, mm_un] [] σ := rfl
theorem M_67 (a0 a1 : Value) (σ : mm_S) : mm_M 67 [a0, a1] σ = mm_L 67 0 [a0, a1] [] σ := rfl
theorem M_68 (a0 a1 a2 : Value) (σ : mm_S) : mm_M 68 [a0, a1, a2] σ = mm_L 68 0 [a0, a1, a2, mm_un] [] σ := rfl
theorem M_69 (a0 a1 a2 : Value) (σ : mm_S) : mm_M 69 [a0, a1, a2] σ = mm_L 69 0 [a0, a1, a2, mm_un, mm_un, mm_un] [] σ := rfl
theorem M_70 (a0 a1 a2 : Value) (σ : mm_S) : mm_M 70 [a0, a1, a2] σ = mm_L 70 0 [a0, a1, a2, mm_un, mm_un] [] σ := rfl
theorem M_71 (a0 : Value) (σ : mm_S) : mm_M 71 [a0] σ = mm_L 71 0 [a0, mm_un, mm_un, mm_un] [] σ := rfl
theorem M_72 (a0 a1 : Value) (σ : mm_S) : mm_M 72 [a0, a1] σ = mm_L 72 0 [a0, a1] [] σ := rfl
theorem M_73 (a0 : Value) (σ : mm_S) : mm_M 73 [a0] σ = mm_L 73 0 [a0] [] σ := rfl
theorem M_74 (a0 a1 : Value) (σ : mm_S) : mm_M 74 [a0, a1] σ = mm_L 74 0 [a0, a1, mm_un] [] σ := rfl
theorem M_75 (a0 a1 a2 : Value) (σ : mm_S) : mm_M 75 [a0, a1, a2] σ = mm_L 75 0 [a0, a1, a2, mm_un, mm_un] [] σ := rfl
theorem M_76 (a0 a1 : Value) (σ : mm_S) : mm_M 76 [a0, a1] σ = mm_L 76 0 [a0, a1] [] σ := rfl
theorem M_77 (a0 a1 : Value) (σ : mm_S) : mm_M 77 [a0, a1] σ = mm_L 77 0 [a0, a1] [] σ := rfl
theorem M_78 (a0 a1 : Value) (σ : mm_S) : mm_M 78 [a0, a1] σ = mm_L 78 0 [a0, a1] [] σ := rfl
theorem M_79 (a0 a1 a2 : Value) (σ : mm_S) : mm_M 79 [a0, a1, a2] σ = mm_L 79 0 [a0, a1, a2, mm_un, mm_un, mm_un, mm_un] [] σ := rfl
theorem M_80 (a0 a1 : Value) (σ : mm_S) : mm_M 80 [a0, a1] σ = mm_L 80 0 [a0, a1] [] σ := rfl
theorem M_81 (a0 a1 a2 : Value) (σ : mm_S) : mm_M 81 [a0, a1, a2] σ = mm_L 81 0 [a0, a1, a2] [] σ := rfl
theorem M_82 (a0 : Value) (σ : mm_S) : mm_M 82 [a0] σ = mm_L 82 0 [a0, mm_un] [] σ := rfl
theorem M_83 (a0 : Value) (σ : mm_S) : mm_M 83 [a0] σ = mm_L 83 0 [a0, mm_un] [] σ := rfl
theorem M_84 (a0 a1 : Value) (σ : mm_S) : mm_M 84 [a0, a1] σ = mm_L 84 0 [a0, a1] [] σ := rfl
theorem M_85 (a0 a1 a2 a3 : Value) (σ : mm_S) : mm_M 85 [a0, a1, a2, a3] σ = mm_L 85 0 [a0, a1, a2, a3, mm_un, mm_un, mm_un] [] σ := rfl
theorem M_86 (a0 a1 a2 a3 : Value) (σ : mm_S) : mm_M 86 [a0, a1, a2, a3] σ = mm_L 86 0 [a0, a1, a2, a3] [] σ := rfl
theorem M_87 (a0 a1 : Value) (σ : mm_S) : mm_M 87 [a0, a1] σ = mm_L 87 0 [a0, a1] [] σ := rfl
theorem M_88 (a0 a1 : Value) (σ : mm_S) : mm_M 88 [a0, a1] σ = mm_L 88 0 [a0, a1, mm_un] [] σ := rfl
theorem M_89 (a0 a1 a2 a3 a4 a5 a6 : Value) (σ : mm_S) : mm_M 89 [a0, a1, a2, a3, a4, a5, a6] σ = mm_L 89 0 [a0, a1, a2, a3, a4, a5, a6, mm_un, mm_un] [] σ := rfl
theorem M_90 (a0 a1 a2 a3 a4 a5 : Value) (σ : mm_S) : mm_M 90 [a0, a1, a2, a3, a4, a5] σ = mm_L 90 0 [a0, a1, a2, a3, a4, a5, mm_un] [] σ := rfl
theorem M_91 (a0 a1 : Value) (σ : mm_S) : mm_M 91 [a0, a1] σ = mm_L 91 0 [a0, a1] [] σ := rfl
theorem M_92 (a0 a1 a2 : Value) (σ : mm_S) : mm_M 92 [a0, a1, a2] σ = mm_L 92 0 [a0, a1, a2, mm_un, mm_un, mm_un, mm_un] [] σ := rfl
theorem M_93 (a0 : Value) (σ : mm_S) : mm_M 93 [a0] σ = mm_L 93 0 [a0, mm_un, mm_un] [] σ := rfl
theorem M_94 (a0 : Value) (σ : mm_S) : mm_M 94 [a0] σ = mm_L 94 0 [a0, mm_un, mm_un] [] σ := rfl
theorem M_95 (a0 a1 a2 a3 : Value) (σ : mm_S) : mm_M 95 [a0, a1, a2, a3] σ = mm_L 95 0 [a0, a1, a2, a3, mm_un, mm_un, mm_un] [] σ := rfl
theorem M_96 (a0 a1 : Value) (σ : mm_S) : mm_M 96 [a0, a1] σ = mm_L 96 0 [a0, a1] [] σ := rfl
theorem M_97 (a0 : Value) (σ : mm_S) : mm_M 97 [a0] σ = mm_L 97 0 [a0] [] σ := rfl
theorem M_98 (a0 : Value) (σ : mm_S) : mm_M 98 [a0] σ = mm_L 98 0 [a0] [] σ := rfl
theorem M_99 (a0 : Value) (σ : mm_S) : mm_M 99 [a0] σ = mm_L 99 0 [a0] [] σ := rfl
theorem M_100 (a0 : Value) (σ : mm_S) : mm_M 100 [a0] σ = mm_L 100 0 [a0] [] σ := rfl
theorem M_101 (a0 a1 : Value) (σ : mm_S) : mm_M 101 [a0, a1] σ = mm_L 101 0 [a0, a1] [] σ := rfl
theorem M_102 (a0 : Value) (σ : mm_S) : mm_M 102 [a0] σ = mm_L 102 0 [a0] [] σ := rfl
theorem M_103 (a0 : Value) (σ : mm_S) : mm_M 103 [a0] σ = mm_L 103 0 [a0] [] σ := rfl
theorem M_104 (a0 a1 : Value) (σ : mm_S) : mm_M 104 [a0, a1] σ = mm_L 104 0 [a0, a1] [] σ := rfl
theorem M_105 (a0 a1 : Value) (σ : mm_S) : mm_M 105 [a0, a1] σ = mm_L 105 0 [a0, a1] [] σ := rfl
theorem M_106 (a0 : Value) (σ : mm_S) : mm_M 106 [a0] σ = mm_L 106 0 [a0, mm_un] [] σ := rfl
theorem M_107 (a0 : Value) (σ : mm_S) : mm_M 107 [a0] σ = mm_L 107 0 [a0] [] σ := rfl
theorem M_108 (a0 a1 a2 : Value) (σ : mm_S) : mm_M 108 [a0, a1, a2] σ = mm_L 108 0 [a0, a1, a2] [] σ := rfl
theorem M_109 (a0 : Value) (σ : mm_S) : mm_M 109 [a0] σ = mm_L 109 0 [a0] [] σ := rfl
theorem M_110 (a0 a1 : Value) (σ : mm_S) : mm_M 110 [a0, a1] σ = mm_L 110 0 [a0, a1] [] σ := rfl
theorem M_111 (a0 : Value) (σ : mm_S) : mm_M 111 [a0] σ = mm_L 111 0 [a0] [] σ := rfl
theorem M_112 (a0 a1 : Value) (σ : mm_S) : mm_M 112 [a0, a1] σ = mm_L 112 0 [a0, a1] [] σ := rfl
theorem M_113 (a0 a1 : Value) (σ : mm_S) : mm_M 113 [a0, a1] σ = mm_L 113 0 [a0, a1] [] σ := rfl
theorem M_114 (a0 : Value) (σ : mm_S) : mm_M 114 [a0] σ = mm_L 114 0 [a0] [] σ := rfl
theorem M_115 (a0 a1 a2 : Value) (σ : mm_S) : mm_M 115 [a0, a1, a2] σ = mm_L 115 0 [a0, a1, a2, mm_un, mm_un] [] σ := rfl
theorem M_116 (a0 a1 a2 a3 a4 a5 a6 a7 : Value) (σ : mm_S) : mm_M 116 [a0, a1, a2, a3, a4, a5, a6, a7] σ = mm_L 116 0 [a0, a1, a2, a3, a4, a5, a6, a7, mm_un, mm_un, mm_un] [] σ := rfl
theorem M_117 (a0 a1 a2 : Value) (σ : mm_S) : mm_M 117 [a0, a1, a2] σ = mm_L 117 0 [a0, a1, a2, mm_un, mm_un] [] σ := rfl
theorem M_118 (a0 a1 a2 : Value) (σ : mm_S) : mm_M 118 [a0, a1, a2] σ = mm_L 118 0 [a0, a1, a2, mm_un, mm_un] [] σ := rfl
theorem M_119 (a0 a1 : Value) (σ : mm_S) : mm_M 119 [a0, a1] σ = mm_L 119 0 [a0, a1] [] σ := rfl
theorem M_120 (a0 a1 a2 : Value) (σ : mm_S) : mm_M 120 [a0, a1, a2] σ = mm_L 120 0 [a0, a1, a2, mm_un, mm_un, mm_un] [] σ := rfl
theorem M_121 (a0 a1 a2 : Value) (σ : mm_S) : mm_M 121 [a0, a1, a2] σ = mm_L 121 0 [a0, a1, a2] [] σ := rfl
theorem M_122 (a0 a1 a2 : Value) (σ : mm_S) : mm_M 122 [a0, a1, a2] σ = mm_L 122 0 [a0, a1, a2, mm_un, mm_un, mm_un] [] σ := rfl
theorem M_123 (a0 a1 : Value) (σ : mm_S) : mm_M 123 [a0, a1] σ = mm_L 123 0 [a0, a1, mm_un, mm_un] [] σ := rfl
theorem M_124 (a0 a1 a2 a3 a4 : Value) (σ : mm_S) : mm_M 124 [a0, a1, a2, a3, a4] σ = mm_L 124 0 [a0, a1, a2, a3, a4, mm_un] [] σ := rfl
theorem M_125 (a0 a1 a2 a3 a4 : Value) (σ : mm_S) : mm_M 125 [a0, a1, a2, a3, a4] σ = mm_L 125 0 [a0, a1, a2, a3, a4] [] σ := rfl
theorem M_126 (a0 : Value) (σ : mm_S) : mm_M 126 [a0] σ = mm_L 126 0 [a0, mm_un, mm_un] [] σ := rfl
theorem M_127 (a0 : Value) (σ : mm_S) : mm_M 127 [a0] σ = mm_L 127 0 [a0] [] σ := rfl
theorem M_128 (a0 a1 a2 a3 : Value) (σ : mm_S) : mm_M 128 [a0, a1, a2, a3] σ = mm_L 128 0 [a0, a1, a2, a3, mm_un] [] σ := rfl
theorem M_129 (a0 a1 a2 : Value) (σ : mm_S) : mm_M 129 [a0, a1, a2] σ = mm_L 129 0 [a0, a1, a2, mm_un, mm_un] [] σ := rfl
theorem M_130 (a0 a1 : Value) (σ : mm_S) : mm_M 130 [a0, a1] σ = mm_L 130 0 [a0, a1] [] σ := rfl
theorem M_131 (a0 a1 a2 : Value) (σ : mm_S) : mm_M 131 [a0, a1, a2] σ = mm_L 131 0 [a0, a1, a2, mm_un, mm_un] [] σ := rfl
theorem M_132 (a0 a1 a2 : Value) (σ : mm_S) : mm_M 132 [a0, a1, a2] σ = mm_L 132 0 [a0, a1, a2] [] σ := rfl
theorem M_133 (a0 a1 a2 : Value) (σ : mm_S) : mm_M 133 [a0, a1, a2] σ = mm_L 133 0 [a0, a1, a2, mm_un, mm_un, mm_un] [] σ := rfl
theorem M_134 (a0 a1 : Value) (σ : mm_S) : mm_M 134 [a0, a1] σ = mm_L 134 0 [a0, a1] [] σ := rfl
theorem M_135 (a0 a1 a2 : Value) (σ : mm_S) : mm_M 135 [a0, a1, a2] σ = mm_L 135 0 [a0, a1, a2] [] σ := rfl
theorem M_136 (a0 a1 a2 : Value) (σ : mm_S) : mm_M 136 [a0, a1, a2] σ = mm_L 136 0 [a0, a1, a2] [] σ := rfl
theorem M_137 (a0 a1 a2 a3 : Value) (σ : mm_S) : mm_M 137 [a0, a1, a2, a3] σ = mm_L 137 0 [a0, a1, a2, a3] [] σ := rfl
theorem M_138 (a0 a1 : Value) (σ : mm_S) : mm_M 138 [a0, a1] σ = mm_L 138 0 [a0, a1, mm_un, mm_un, mm_un] [] σ := rfl
theorem M_139 (a0 a1 a2 : Value) (σ : mm_S) : mm_M 139 [a0, a1, a2] σ = mm_L 139 0 [a0, a1, a2, mm_un] [] σ := rfl
theorem M_140 (a0 a1 : Value) (σ : mm_S) : mm_M 140 [a0, a1] σ = mm_L 140 0 [a0, a1] [] σ := rfl
theorem M_141 (a0 a1 a2 : Value) (σ : mm_S) : mm_M 141 [a0, a1, a2] σ = mm_L 141 0 [a0, a1, a2, mm_un, mm_un, mm_un] [] σ := rfl
theorem M_142 (a0 : Value) (σ : mm_S) : mm_M 142 [a0] σ = mm_L 142 0 [a0, mm_un, mm_un] [] σ := rfl
theorem M_143 (a0 a1 : Value) (σ : mm_S) : mm_M 143 [a0, a1] σ = mm_L 143 0 [a0, a1] [] σ := rfl
theorem M_144 (a0 : Value) (σ : mm_S) : mm_M 144 [a0] σ = mm_L 144 0 [a0] [] σ := rfl
theorem M_145 (a0 a1 : Value) (σ : mm_S) : mm_M 145 [a0, a1] σ = mm_L 145 0 [a0, a1] [] σ := rfl
theorem M_146 (a0 a1 : Value) (σ : mm_S) : mm_M 146 [a0, a1] σ = mm_L 146 0 [a0, a1, mm_un] [] σ := rfl
theorem M_147 (a0 a1 : Value) (σ : mm_S) : mm_M 147 [a0, a1] σ = mm_L 147 0 [a0, a1, mm_un, mm_un] [] σ := rfl
theorem M_148 (a0 a1 a2 : Value) (σ : mm_S) : mm_M 148 [a0, a1, a2] σ = mm_L 148 0 [a0, a1, a2, mm_un] [] σ := rfl
theorem M_149 (a0 a1 a2 : Value) (σ : mm_S) : mm_M 149 [a0, a1, a2] σ = mm_L 149 0 [a0, a1, a2, mm_un, mm_un, mm_un] [] σ := rfl
theorem M_150 (a0 a1 a2 : Value) (σ : mm_S) : mm_M 150 [a0, a1, a2] σ = mm_L 150 0 [a0, a1, a2, mm_un, mm_un, mm_un, mm_un, mm_un] [] σ := rfl
theorem M_151 (a0 a1 a2 : Value) (σ : mm_S) : mm_M 151 [a0, a1, a2] σ = mm_L 151 0 [a0, a1, a2, mm_un, mm_un] [] σ := rfl
theorem M_152 (a0 a1 : Value) (σ : mm_S) : mm_M 152 [a0, a1] σ = mm_L 152 0 [a0, a1, mm_un, mm_un, mm_un, mm_un, mm_un, mm_un, mm_un] [] σ := rfl
theorem M_153 (a0 a1 a2 : Value) (σ : mm_S) : mm_M 153 [a0, a1, a2] σ = mm_L 153 0 [a0, a1, a2, mm_un] [] σ := rfl
theorem M_154 (a0 a1 : Value) (σ : mm_S) : mm_M 154 [a0, a1] σ = mm_L 154 0 [a0, a1] [] σ := rfl
theorem M_155 (a0 a1 : Value) (σ : mm_S) : mm_M 155 [a0, a1] σ = mm_L 155 0 [a0, a1] [] σ := rfl
theorem M_156 (a0 a1 a2 a3 a4 : Value) (σ : mm_S) : mm_M 156 [a0, a1, a2, a3, a4] σ = mm_L 156 0 [a0, a1, a2, a3, a4] [] σ := rfl
theorem M_157 (a0 a1 : Value) (σ : mm_S) : mm_M 157 [a0, a1] σ = mm_L 157 0 [a0, a1] [] σ := rfl
theorem M_158 (a0 a1 a2 a3 : Value) (σ : mm_S) : mm_M 158 [a0, a1, a2, a3] σ = mm_L 158 0 [a0, a1, a2, a3, mm_un, mm_un, mm_un] [] σ := rfl
theorem M_159 (a0 a1 a2 : Value) (σ : mm_S) : mm_M 159 [a0, a1, a2] σ = mm_L 159 0 [a0, a1, a2, mm_un, mm_un, mm_un, mm_un] [] σ := rfl
theorem M_160 (a0 a1 a2 a3 : Value) (σ : mm_S) : mm_M 160 [a0, a1, a2, a3] σ = mm_L 160 0 [a0, a1, a2, a3] [] σ := rfl
theorem M_161 (a0 a1 : Value) (σ : mm_S) : mm_M 161 [a0, a1] σ = mm_L 161 0 [a0, a1] [] σ := rfl
theorem M_162 (a0 a1 : Value) (σ : mm_S) : mm_M 162 [a0, a1] σ = mm_L 162 0 [a0, a1] [] σ := rfl
theorem M_163 (a0 a1 : Value) (σ : mm_S) : mm_M 163 [a0, a1] σ = mm_L 163 0 [a0, a1] [] σ := rfl
theorem M_164 (a0 a1 a2 : Value) (σ : mm_S) : mm_M 164 [a0, a1, a2] σ = mm_L 164 0 [a0, a1, a2] [] σ := rfl
theorem M_165 (a0 a1 a2 a3 a4 a5 a6 : Value) (σ : mm_S) : mm_M 165 [a0, a1, a2, a3, a4, a5, a6] σ = mm_L 165 0 [a0, a1, a2, a3, a4, a5, a6, mm_un, mm_un, mm_un] [] σ := rfl
theorem M_166 (a0 a1 a2 a3 a4 a5 : Value) (σ : mm_S) : mm_M 166 [a0, a1, a2, a3, a4, a5] σ = mm_L 166 0 [a0, a1, a2, a3, a4, a5, mm_un, mm_un, mm_un, mm_un, mm_un, mm_un, mm_un, mm_un] [] σ := rfl
theorem M_167 (a0 a1 a2 a3 a4 a5 a6 a7 a8 : Value) (σ : mm_S) : mm_M 167 [a0, a1, a2, a3, a4, a5, a6, a7, a8] σ = mm_L 167 0 [a0, a1, a2, a3, a4, a5, a6, a7, a8, mm_un] [] σ := rfl
theorem M_168 (a0 a1 a2 a3 : Value) (σ : mm_S) : mm_M 168 [a0, a1, a2, a3] σ = mm_L 168 0 [a0, a1, a2, a3, mm_un] [] σ := rfl
theorem M_169 (a0 a1 a2 a3 : Value) (σ : mm_S) : mm_M 169 [a0, a1, a2, a3] σ = mm_L 169 0 [a0, a1, a2, a3, mm_un] [] σ := rfl
theorem M_170 (a0 a1 a2 a3 : Value) (σ : mm_S) : mm_M 170 [a0, a1, a2, a3] σ = mm_L 170 0 [a0, a1, a2, a3, mm_un] [] σ := rfl
theorem M_171 (a0 a1 a2 a3 a4 a5 : Value) (σ : mm_S) : mm_M 171 [a0, a1, a2, a3, a4, a5] σ = mm_L 171 0 [a0, a1, a2, a3, a4, a5, mm_un] [] σ := rfl
theorem M_172 (a0 a1 a2 a3 a4 : Value) (σ : mm_S) : mm_M 172 [a0, a1, a2, a3, a4] σ = mm_L 172 0 [a0, a1, a2, a3, a4, mm_un] [] σ := rfl
theorem M_173 (a0 a1 a2 a3 : Value) (σ : mm_S) : mm_M 173 [a0, a1, a2, a3] σ = mm_L 173 0 [a0, a1, a2, a3, mm_un] [] σ := rfl
theorem M_174 (a0 a1 a2 a3 : Value) (σ : mm_S) : mm_M 174 [a0, a1, a2, a3] σ = mm_L 174 0 [a0, a1, a2, a3, mm_un] [] σ := rfl
theorem M_175 (a0 a1 a2 : Value) (σ : mm_S) : mm_M 175 [a0, a1, a2] σ = mm_L 175 0 [a0, a1, a2, mm_un] [] σ := rfl
theorem M_176 (a0 a1 a2 a3 : Value) (σ : mm_S) : mm_M 176 [a0, a1, a2, a3] σ = mm_L 176 0 [a0, a1, a2, a3, mm_un] [] σ := rfl
theorem M_177 (a0 a1 a2 a3 : Value) (σ : mm_S) : mm_M 177 [a0, a1, a2, a3] σ = mm_L 177 0 [a0, a1, a2, a3, mm_un] [] σ := rfl
theorem M_178 (a0 a1 a2 a3 : Value) (σ : mm_S) : mm_M 178 [a0, a1, a2, a3] σ = mm_L 178 0 [a0, a1, a2, a3, mm_un] [] σ := rfl
theorem M_179 (a0 a1 a2 a3 : Value) (σ : mm_S) : mm_M 179 [a0, a1, a2, a3] σ = mm_L 179 0 [a0, a1, a2, a3, mm_un] [] σ := rfl
theorem M_180 (a0 a1 a2 : Value) (σ : mm_S) : mm_M 180 [a0, a1, a2] σ = mm_L 180 0 [a0, a1, a2, mm_un] [] σ := rfl
theorem M_181 (a0 a1 a2 a3 a4 : Value) (σ : mm_S) : mm_M 181 [a0, a1, a2, a3, a4] σ = mm_L 181 0 [a0, a1, a2, a3, a4, mm_un] [] σ := rfl
theorem M_182 (a0 a1 a2 a3 a4 : Value) (σ : mm_S) : mm_M 182 [a0, a1, a2, a3, a4] σ = mm_L 182 0 [a0, a1, a2, a3, a4, mm_un] [] σ := rfl
theorem M_183 (a0 a1 a2 : Value) (σ : mm_S) : mm_M 183 [a0, a1, a2] σ = mm_L 183 0 [a0, a1, a2, mm_un] [] σ := rfl
theorem M_184 (a0 a1 a2 : Value) (σ : mm_S) : mm_M 184 [a0, a1, a2] σ = mm_L 184 0 [a0, a1, a2, mm_un] [] σ := rfl
theorem M_185 (a0 a1 a2 a3 a4 a5 a6 a7 : Value) (σ : mm_S) : mm_M 185 [a0, a1, a2, a3, a4, a5, a6, a7] σ = mm_L 185 0 [a0, a1, a2, a3, a4, a5, a6, a7, mm_un] [] σ := rfl
theorem M_186 (a0 a1 a2 a3 a4 a5 a6 : Value) (σ : mm_S) : mm_M 186 [a0, a1, a2, a3, a4, a5, a6] σ = mm_L 186 0 [a0, a1, a2, a3, a4, a5, a6, mm_un] [] σ := rfl
section
variable {v : Value} {σ : mm_S} {y pc p0 E : Nat} {ls st : List Value} {x : Int32} {j : Int64}
theorem K0_v : mm_K0 (some (.inl (some v), σ)) y pc ls st = mm_L y pc ls (v :: st) σ := rfl
theorem K0_n : mm_K0 (some (.inl none, σ)) y pc ls st = mm_L y pc ls st σ := rfl
theorem K0_x : mm_K0 (some (.inr E, σ)) y pc ls st = some (.inr E, σ) := rfl
theorem K2_v : mm_K2 (some (.inl (some v), σ)) y pc ls st = mm_L y pc ls (v :: st) σ := rfl
theorem K2_n : mm_K2 (some (.inl none, σ)) y pc ls st = mm_L y pc ls st σ := rfl
theorem K1_v : mm_K1 (some (.inl (some v), σ)) y p0 pc ls st = mm_L y pc ls (v :: st) σ := rfl
theorem K1_n : mm_K1 (some (.inl none, σ)) y p0 pc ls st = mm_L y pc ls st σ := rfl
theorem K1_x : mm_K1 (some (.inr E, σ)) y p0 pc ls st = mm_cat mm_L y p0 ls E σ := rfl
theorem bI_s : mm_bI (some x) y pc ls st σ = mm_L y pc ls (.int x :: st) σ := rfl
theorem bJ_s : mm_bJ (some j) y pc ls st σ = mm_L y pc ls (.long j :: st) σ := rfl
theorem bV_s : mm_bV (some v) y pc ls st σ = mm_L y pc ls (v :: st) σ := rfl
theorem bS_s : mm_bS (some σ) y pc ls st = mm_L y pc ls st σ := rfl
end
