/-! A FAST COPY of the mini machine's state: a heap of 512 places, ints as natural numbers; what is read and written there is what the mini machine reads and writes. -/
noncomputable def fif {α : Type} (b : Bool) (x y : α) : α := Bool.rec (motive := fun _ => α) y x b
def Tq (α : Type) (n : Nat) : Type := Nat.rec (motive := fun _ => Type) α (fun _ t => t × t) n
noncomputable def tqg {α : Type} (n : Nat) : Tq α n → Nat → α := Nat.rec (motive := fun n => Tq α n → Nat → α) (fun t _ => t) (fun n ih t k => fif (Nat.ble (2 ^ n) k) (ih t.2 (k - 2 ^ n)) (ih t.1 k)) n
noncomputable def tqs {α : Type} (n : Nat) : Tq α n → Nat → α → Tq α n := Nat.rec (motive := fun n => Tq α n → Nat → α → Tq α n) (fun _ _ x => x) (fun n ih t k x => fif (Nat.ble (2 ^ n) k) (t.1, ih t.2 (k - 2 ^ n) x) (ih t.1 k x, t.2)) n
noncomputable def tqz {α : Type} (x : α) (n : Nat) : Tq α n := Nat.rec (motive := fun n => Tq α n) x (fun _ t => (t, t)) n
theorem fif_t {α : Type} (x y : α) : fif true x y = x := rfl
theorem fif_f {α : Type} (x y : α) : fif false x y = y := rfl
def tqn {α : Type} {n : Nat} (a b : Tq α n) : Tq α (n + 1) := (a, b)
def tql {α : Type} {n : Nat} (t : Tq α (n + 1)) : Tq α n := t.1
def tqr {α : Type} {n : Nat} (t : Tq α (n + 1)) : Tq α n := t.2
theorem tql_n {α : Type} {n : Nat} (a b : Tq α n) : tql (tqn a b) = a := rfl
theorem tqr_n {α : Type} {n : Nat} (a b : Tq α n) : tqr (tqn a b) = b := rfl
theorem tqg_s {α : Type} (n : Nat) (t : Tq α (n + 1)) (k : Nat) : tqg (n + 1) t k = if 2 ^ n ≤ k then tqg n (tqr t) (k - 2 ^ n) else tqg n (tql t) k := by
  have e : tqg (n + 1) t k = fif (Nat.ble (2 ^ n) k) (tqg n (tqr t) (k - 2 ^ n)) (tqg n (tql t) k) := rfl
  rw [e]
  by_cases h : 2 ^ n ≤ k
  · rw [if_pos h, Nat.ble_eq_true_of_le h, fif_t]
  · rw [if_neg h, Bool.eq_false_iff.mpr (fun q => h (Nat.le_of_ble_eq_true q)), fif_f]
theorem tqs_s {α : Type} (n : Nat) (t : Tq α (n + 1)) (k : Nat) (x : α) : tqs (n + 1) t k x = if 2 ^ n ≤ k then tqn (tql t) (tqs n (tqr t) (k - 2 ^ n) x) else tqn (tqs n (tql t) k x) (tqr t) := by
  have e : tqs (n + 1) t k x = fif (Nat.ble (2 ^ n) k) (tqn (tql t) (tqs n (tqr t) (k - 2 ^ n) x)) (tqn (tqs n (tql t) k x) (tqr t)) := rfl
  rw [e]
  by_cases h : 2 ^ n ≤ k
  · rw [if_pos h, Nat.ble_eq_true_of_le h, fif_t]
  · rw [if_neg h, Bool.eq_false_iff.mpr (fun q => h (Nat.le_of_ble_eq_true q)), fif_f]
theorem tq_gs {α : Type} : ∀ (n : Nat) (t : Tq α n) (k j : Nat) (x : α), k < 2 ^ n → j < 2 ^ n → tqg n (tqs n t k x) j = if j = k then x else tqg n t j
  | 0, t, k, j, x, hk, hj => by
    have : j = k := by omega
    rw [if_pos this]
    rfl
  | n + 1, t, k, j, x, hk, hj => by
    have e : 2 ^ (n + 1) = 2 ^ n + 2 ^ n := by rw [Nat.pow_succ]; omega
    rw [tqs_s, tqg_s, tqg_s]
    by_cases h1 : 2 ^ n ≤ k
    · rw [if_pos h1, tql_n, tqr_n]
      by_cases h2 : 2 ^ n ≤ j
      · rw [if_pos h2, if_pos h2, tq_gs n _ _ _ _ (by omega) (by omega)]
        by_cases h3 : j = k
        · rw [if_pos h3, if_pos (by omega)]
        · rw [if_neg h3, if_neg (by omega)]
      · rw [if_neg h2, if_neg h2, if_neg (by omega)]
    · rw [if_neg h1, tql_n, tqr_n]
      by_cases h2 : 2 ^ n ≤ j
      · rw [if_pos h2, if_pos h2, if_neg (by omega)]
      · rw [if_neg h2, if_neg h2]
        exact tq_gs n _ _ _ _ (by omega) (by omega)
theorem tq_gz {α : Type} (x : α) : ∀ (n k : Nat), tqg n (tqz x n) k = x
  | 0, k => rfl
  | n + 1, k => by
    rw [tqg_s, show tql (tqz x (n + 1)) = tqz x n from rfl, show tqr (tqz x (n + 1)) = tqz x n from rfl, tq_gz x n, tq_gz x n]
    exact ite_self x
-- values, objects, the state
abbrev fvl : Type := Nat ⊕ Option Nat
abbrev fO : Type := (Nat × List fvl) ⊕ ((Nat × Nat × Tq Nat 8) ⊕ List Nat)
abbrev fS : Type := Tq (Option fO) 9 × Nat × Nat × Nat
abbrev fR : Type := (Option fvl ⊕ Nat) × fS
def toV (v : fvl) : Value := match v with
  | .inl n => .int (nI n)
  | .inr (some a) => .ref a
  | .inr none => .null
noncomputable def toA (t : Tq Nat 8) : Nat → Int32 := fun i => if i < 256 then nI (tqg 8 t i) else 0
noncomputable def toO (o : fO) : mm_O := match o with
  | .inl (c, fs) => .inl (c, fs.map toV)
  | .inr (.inl (kd, n, t)) => .inr (.inl (kd, n, toA t))
  | .inr (.inr l) => .inr (.inr (.inr l))
noncomputable def toS (z : Option mm_O) (T : fS) : mm_S := (fun a => if a = 0 then z else if a < 512 then (tqg 9 T.1 a).map toO else none, T.2)
noncomputable def tR (z : Option mm_O) (r : fR) : mm_R := (match r.1 with
  | .inl v => .inl (v.map toV)
  | .inr E => .inr E, toS z r.2)
noncomputable def fob (T : fS) (a : Nat) : Option fO := fif (Nat.beq a 0) none (fif (Nat.ble 512 a) none (tqg 9 T.1 a))
noncomputable def fput (T : fS) (a : Nat) (o : fO) : fS := (tqs 9 T.1 a (some o), T.2)
section
variable {z : Option mm_O} {T T' : fS} {a : Nat}
theorem fif_some {α : Type} {b : Bool} {y : Option α} {x : α} (h : fif b none y = some x) : b = false ∧ y = some x := by
  cases b
  · exact ⟨rfl, h⟩
  · cases h
theorem fif_true {α : Type} {b : Bool} {y : Option α} {x : α} (h : fif b y none = some x) : b = true ∧ y = some x := by
  cases b
  · cases h
  · exact ⟨rfl, h⟩
theorem beq_f {a b : Nat} (h : Nat.beq a b = false) : a ≠ b := fun e => by rw [e, Nat.beq_refl] at h; cases h
theorem ble_f {a b : Nat} (h : Nat.ble a b = false) : b < a := Nat.lt_of_not_le fun e => by rw [Nat.ble_eq_true_of_le e] at h; cases h
theorem fob_in {o : fO} (h : fob T a = some o) : a ≠ 0 ∧ a < 512 ∧ tqg 9 T.1 a = some o := by
  obtain ⟨h1, h⟩ := fif_some h
  obtain ⟨h2, h⟩ := fif_some h
  exact ⟨beq_f h1, ble_f h2, h⟩
theorem fob_ok {o : fO} (h : fob T a = some o) : (toS z T).1 a = some (toO o) := by
  obtain ⟨h1, h2, h3⟩ := fob_in h
  show (if a = 0 then z else if a < 512 then (tqg 9 T.1 a).map toO else none) = _
  rw [if_neg h1, if_pos h2, h3]
  rfl
theorem fput_ok {o : fO} (h0 : a ≠ 0) (h : a < 512) : mm_put (toS z T) a (toO o) = toS z (fput T a o) := by
  refine Prod.ext (funext fun b => ?_) rfl
  show (if b = a then some (toO o) else if b = 0 then z else if b < 512 then (tqg 9 T.1 b).map toO else none) = if b = 0 then z else if b < 512 then (tqg 9 (tqs 9 T.1 a (some o)) b).map toO else none
  by_cases e0 : b = 0
  · rw [if_neg (by omega), if_pos e0, if_pos e0]
  · rw [if_neg e0, if_neg e0]
    by_cases e1 : b < 512
    · rw [if_pos e1, if_pos e1, tq_gs 9 _ _ _ _ h e1]
      by_cases e2 : b = a
      · rw [if_pos e2, if_pos e2]; rfl
      · rw [if_neg e2, if_neg e2]
    · rw [if_neg (by omega), if_neg e1, if_neg e1]
end
-- what is made
noncomputable def fnw (T : fS) (o : fO) (n : Nat) : fS := (tqs 9 T.1 T.2.1 (some o), T.2.1 + 1, T.2.2.1 + 1, T.2.2.2 + n)
noncomputable def fbm (T : fS) (c n : Nat) : fS := (T.1, T.2.1, T.2.2.1 + c, T.2.2.2 + n)
noncomputable def fgd (T : fS) (x : Option fR) : Option fR := fif (Nat.ble 512 T.2.1) none (fif (Nat.beq T.2.1 0) none x)
section
variable {z : Option mm_O} {T T' : fS} {a : Nat} {r : fR}
theorem fgd_in {x : Option fR} (h : fgd T x = some r) : (T.2.1 ≠ 0 ∧ T.2.1 < 512) ∧ x = some r := by
  obtain ⟨h1, h⟩ := fif_some h
  obtain ⟨h2, h⟩ := fif_some h
  exact ⟨⟨beq_f h2, ble_f h1⟩, h⟩
theorem fnw_ok {o : fO} {n : Nat} (h : T.2.1 ≠ 0 ∧ T.2.1 < 512) : mm_new (toS z T) (toO o) n = toS z (fnw T o n) := by
  have e := fput_ok (z := z) (T := T) (o := o) h.1 h.2
  refine Prod.ext ?_ rfl
  exact (congrArg Prod.fst e : (mm_put (toS z T) T.2.1 (toO o)).1 = (toS z (fput T T.2.1 o)).1)
theorem fbm_ok {c n : Nat} : mm_bmp (toS z T) c n = toS z (fbm T c n) := rfl
end
theorem toA_0 : toA (tqz 0 8) = fun _ => 0 := by
  funext i
  unfold toA
  rw [tq_gz]
  exact ite_self _
-- what is read and written
noncomputable def ffs (T : fS) (a ci : Nat) : Option (List fvl) := match fob T a with
  | some (.inl (c, fs)) => fif (Nat.beq c ci) (some fs) none
  | _ => none
noncomputable def fgi (T : fS) (a ci k : Nat) : Option Nat := match ffs T a ci with
  | some fs => (match fs[k]? with
    | some (.inl n) => some n
    | _ => none)
  | _ => none
noncomputable def fgr (T : fS) (a ci k : Nat) : Option (Option Nat) := match ffs T a ci with
  | some fs => (match fs[k]? with
    | some (.inr n) => some n
    | _ => none)
  | _ => none
noncomputable def fsf (T : fS) (a ci k : Nat) (v : fvl) : Option fS := match ffs T a ci with
  | some fs => fif (Nat.ble (k + 1) fs.length) (some (fput T a (.inl (ci, fs.set k v)))) none
  | _ => none
noncomputable def far (T : fS) (a : Nat) : Option (Nat × Nat × Tq Nat 8) := match fob T a with
  | some (.inr (.inl x)) => some x
  | _ => none
noncomputable def fli (T : fS) (a : Nat) : Option (List Nat) := match fob T a with
  | some (.inr (.inr x)) => some x
  | _ => none
noncomputable def fln (T : fS) (a : Nat) : Option Nat := match far T a with
  | some x => some x.2.1
  | _ => none
noncomputable def fix (i n : Nat) : Option Nat := fif (Nat.ble 256 (i % 4294967296)) none (fif (Nat.ble n (i % 4294967296)) none (some (i % 4294967296)))
noncomputable def fal (T : fS) (a i : Nat) (b : Bool) : Option Nat := match far T a with
  | some (kd, n, t) => (match fix i n with
    | some j => fif (Bool.rec (motive := fun _ => Bool) (Bool.not b) b (Nat.beq kd 1)) (some (tqg 8 t j)) none
    | _ => none)
  | _ => none
noncomputable def fas (T : fS) (a i kd x : Nat) : Option fS := match far T a with
  | some (kd', n, t) => (match fix i n with
    | some j => fif (Nat.beq kd' kd) (some (fput T a (.inr (.inl (kd, n, tqs 8 t j x))))) none
    | _ => none)
  | _ => none
noncomputable def flz (T : fS) (a : Nat) : Option Nat := match fli T a with
  | some l => some l.length
  | _ => none
noncomputable def flg (T : fS) (a i : Nat) : Option Nat := match fli T a with
  | some l => (match fix i l.length with
    | some j => l[j]?
    | _ => none)
  | _ => none
noncomputable def fci (T : fS) (a : Nat) : Option Nat := match fob T a with
  | some (.inl (c, _)) => some c
  | _ => none
noncomputable def foks (T : fS) (l : List Nat) : Bool := List.rec (motive := fun _ => Bool) true (fun a _ ih => Option.rec (motive := fun _ => Bool) false (fun _ => ih) (fci T a)) l
noncomputable def fla (T : fS) (a v : Nat) : Option fS := match fli T a with
  | some l => fif (Nat.ble 60000 l.length) none (fif (foks T (l ++ [v])) (some (fbm (fput T a (.inr (.inr (l ++ [v])))) 1 (2 * l.length + 10))) none)
  | _ => none
noncomputable def fcl (T : fS) (a : Nat) : Option fS := match fli T a with
  | some _ => some (fput T a (.inr (.inr [])))
  | _ => none
noncomputable def fin0 (T : fS) (a : Nat) : Option fS := match fob T a with
  | some (.inl (8, [.inl 0, .inr none, .inl 0])) => some (fput T a (.inr (.inr [])))
  | _ => none
section
variable {z : Option mm_O} {T T' : fS} {a ci k n i x : Nat}
theorem ffs_in {fs : List fvl} (h : ffs T a ci = some fs) : fob T a = some (.inl (ci, fs)) := by
  unfold ffs at h
  split at h
  · rename_i c fs' e
    obtain ⟨h1, h2⟩ := fif_true h
    rw [e, Nat.eq_of_beq_eq_true h1, Option.some.inj h2]
  · cases h
theorem fgi_ok (h : fgi T a ci k = some n) : mm_geti (toS z T) a ci k = some (nI n) := by
  unfold fgi at h
  split at h
  · rename_i fs e
    split at h
    · rename_i m e2
      cases h
      unfold mm_geti mm_fld
      rw [fob_ok (ffs_in e)]
      show (match (if ci = ci then (fs.map toV)[k]? else none) with
        | some (.int x) => some x
        | _ => none) = _
      rw [if_pos rfl, List.getElem?_map, e2]
      rfl
    · cases h
  · cases h
def toF (v : Option Nat) : Value := match v with
  | some a => .ref a
  | none => .null
theorem fgr_ok {v : Option Nat} (h : fgr T a ci k = some v) : mm_getr (toS z T) a ci k = some (toF v) := by
  unfold fgr at h
  split at h
  · rename_i fs e
    split at h
    · rename_i m e2
      cases h
      unfold mm_getr mm_fld
      rw [fob_ok (ffs_in e)]
      show (match (if ci = ci then (fs.map toV)[k]? else none) with
        | some (Value.ref x) => some (Value.ref x)
        | some Value.null => some Value.null
        | _ => none) = _
      rw [if_pos rfl, List.getElem?_map, e2]
      cases v <;> rfl
    · cases h
  · cases h
theorem fsf_ok {v : fvl} (h : fsf T a ci k v = some T') : mm_setf (toS z T) a ci k (toV v) = some (toS z T') := by
  unfold fsf at h
  split at h
  · rename_i fs e
    obtain ⟨h1, h2⟩ := fif_true h
    cases h2
    have hk : k < fs.length := Nat.le_of_ble_eq_true h1
    obtain ⟨i1, i2, -⟩ := fob_in (ffs_in e)
    unfold mm_setf
    rw [fob_ok (ffs_in e)]
    show (if ci = ci ∧ k < (fs.map toV).length then some (mm_put (toS z T) a (.inl (ci, (fs.map toV).set k (toV v)))) else none) = _
    rw [if_pos ⟨rfl, by rw [List.length_map]; exact hk⟩, ← List.map_set]
    exact congrArg some (fput_ok (o := .inl (ci, fs.set k v)) i1 i2)
  · cases h
theorem far_in {w : Nat × Nat × Tq Nat 8} (h : far T a = some w) : fob T a = some (.inr (.inl w)) := by
  unfold far at h
  split at h
  · rename_i e
    rw [e, Option.some.inj h]
  · cases h
theorem fli_in {w : List Nat} (h : fli T a = some w) : fob T a = some (.inr (.inr w)) := by
  unfold fli at h
  split at h
  · rename_i e
    rw [e, Option.some.inj h]
  · cases h
theorem far_ok {kd : Nat} {t : Tq Nat 8} (h : far T a = some (kd, n, t)) : mm_arr (toS z T) a = some (kd, n, toA t) := by
  unfold mm_arr
  rw [fob_ok (far_in h)]
  rfl
theorem fln_ok (h : fln T a = some n) : (mm_len (toS z T) a).map Int32.ofNat = some (nI n) := by
  unfold fln at h
  split at h
  · rename_i w e
    cases h
    unfold mm_len
    rw [fob_ok (far_in e)]
    rfl
  · cases h
theorem nI_mod (n : Nat) : nI (n % 4294967296) = nI n := by
  unfold nI
  apply Int32.toBitVec_inj.mp
  apply BitVec.eq_of_toNat_eq
  show (n % 4294967296) % 2 ^ 32 = n % 2 ^ 32
  omega
theorem fix_in {j : Nat} (h : fix i n = some j) : nI i = nI j ∧ j < 256 ∧ j < n := by
  obtain ⟨h1, h⟩ := fif_some h
  obtain ⟨h2, h⟩ := fif_some h
  cases h
  exact ⟨(nI_mod i).symm, ble_f h1, ble_f h2⟩
theorem fix_ok {j : Nat} (h : j < 256) (hn : j < n) : ¬ (nI j < 0 ∨ n ≤ (nI j).toNatClampNeg) := by
  have h0 := nI_in (c := j) (N := 256) h (by decide)
  intro q
  rcases q with q | q
  · exact h0 (Or.inl q)
  · rw [nI_clamp (by omega)] at q
    omega
theorem fal_ok {b : Bool} (h : fal T a i b = some x) : mm_ald (toS z T) a (nI i) b = some (nI x) := by
  unfold fal at h
  split at h
  · rename_i kd n t e
    split at h
    · rename_i j e2
      obtain ⟨h1, h2⟩ := fif_true h
      cases h2
      obtain ⟨q1, q2, q3⟩ := fix_in e2
      unfold mm_ald
      rw [far_ok e, q1]
      show (if (nI j < 0 ∨ n ≤ (nI j).toNatClampNeg) then none else if (kd == 1) = b then some (toA t (nI j).toNatClampNeg) else none) = _
      rw [if_neg (fix_ok q2 q3), nI_clamp (by omega), if_pos]
      · unfold toA
        rw [if_pos q2]
      · have hk : (kd == 1) = Nat.beq kd 1 := by
          cases hb : Nat.beq kd 1
          · exact beq_false_of_ne (beq_f hb)
          · exact beq_iff_eq.mpr (Nat.eq_of_beq_eq_true hb)
        rw [hk]
        cases hb : Nat.beq kd 1 <;> rw [hb] at h1 <;> cases b <;> first | rfl | cases h1
    · cases h
  · cases h
theorem fas_ok {kd : Nat} (h : fas T a i kd x = some T') : mm_ast (toS z T) a (nI i) kd (nI x) = some (toS z T') := by
  unfold fas at h
  split at h
  · rename_i kd' n t e
    split at h
    · rename_i j e2
      obtain ⟨h1, h2⟩ := fif_true h
      cases h2
      cases Nat.eq_of_beq_eq_true h1
      obtain ⟨q1, q2, q3⟩ := fix_in e2
      obtain ⟨i1, i2, -⟩ := fob_in (far_in e)
      unfold mm_ast
      rw [far_ok e, q1]
      show (if (nI j < 0 ∨ n ≤ (nI j).toNatClampNeg) then none else if kd = kd then some (mm_put (toS z T) a (.inr (.inl (kd, n, upd (toA t) (nI j).toNatClampNeg (nI x))))) else none) = _
      rw [if_neg (fix_ok q2 q3), if_pos rfl, nI_clamp (by omega)]
      have he : upd (toA t) j (nI x) = toA (tqs 8 t j x) := by
        funext b
        unfold upd toA
        by_cases e1 : b < 256
        · rw [if_pos e1, if_pos e1, tq_gs 8 _ _ _ _ q2 e1]
          by_cases e3 : b = j
          · rw [if_pos e3, if_pos e3]
          · rw [if_neg e3, if_neg e3]
        · rw [if_neg e1, if_neg e1, if_neg (by omega)]
      rw [he]
      exact congrArg some (fput_ok (o := .inr (.inl (kd, n, tqs 8 t j x))) i1 i2)
    · cases h
  · cases h
theorem fli_ok {l : List Nat} (h : fli T a = some l) : mm_lst (toS z T) a = some l := by
  unfold mm_lst
  rw [fob_ok (fli_in h)]
  rfl
theorem flz_ok (h : flz T a = some n) : mm_lsz (toS z T) a = some (nI n) := by
  unfold flz at h
  split at h
  · rename_i l e
    cases h
    unfold mm_lsz
    rw [fli_ok e]
    rfl
  · cases h
theorem flg_ok (h : flg T a i = some n) : mm_lgt (toS z T) a (nI i) = some (.ref n) := by
  unfold flg at h
  split at h
  · rename_i l e
    split at h
    · rename_i j e2
      obtain ⟨q1, q2, q3⟩ := fix_in e2
      unfold mm_lgt
      rw [fli_ok e, q1]
      show (if nI j < 0 ∨ l.length ≤ (nI j).toNatClampNeg then none else (l[(nI j).toNatClampNeg]?).map Value.ref) = _
      rw [if_neg (fix_ok q2 q3), nI_clamp (by omega), h]
      rfl
    · cases h
  · cases h
theorem fci_ok {c : Nat} (h : fci T a = some c) : mm_ci (toS z T) a = some c := by
  unfold fci at h
  split at h
  · rename_i c' fs e
    cases h
    unfold mm_ci
    rw [fob_ok e]
    rfl
  · cases h
theorem foks_ok {l : List Nat} (h : foks T l = true) : mm_oks (toS z T) l = true := by
  unfold mm_oks
  induction l with
  | nil => rfl
  | cons b l ih =>
    replace h : Option.rec (motive := fun _ => Bool) false (fun _ => foks T l) (fci T b) = true := h
    rw [List.all_cons, Bool.and_eq_true]
    cases e : fci T b with
    | none => rw [e] at h; cases h
    | some c =>
      rw [e] at h
      exact ⟨by rw [fci_ok e]; rfl, ih h⟩
theorem fla_ok {v : Nat} (h : fla T a v = some T') : mm_lad (toS z T) a v = some (toS z T') := by
  unfold fla at h
  split at h
  · rename_i l e
    obtain ⟨h1, h2⟩ := fif_some h
    obtain ⟨h3, h4⟩ := fif_true h2
    cases h4
    obtain ⟨i1, i2, -⟩ := fob_in (fli_in e)
    unfold mm_lad
    rw [fli_ok e]
    show (if l.length < 60000 ∧ mm_oks (toS z T) (l ++ [v]) = true then some (mm_bmp (mm_put (toS z T) a (.inr (.inr (.inr (l ++ [v]))))) 1 (2 * l.length + 10)) else none) = _
    rw [if_pos ⟨ble_f h1, foks_ok h3⟩]
    exact congrArg some (congrArg (fun s => mm_bmp s 1 (2 * l.length + 10)) (fput_ok (o := .inr (.inr (l ++ [v]))) i1 i2))
  · cases h
theorem fcl_ok (h : fcl T a = some T') : mm_lcl (toS z T) a = some (toS z T') := by
  unfold fcl at h
  split at h
  · rename_i l e
    cases h
    obtain ⟨i1, i2, -⟩ := fob_in (fli_in e)
    unfold mm_lcl
    rw [fli_ok e]
    exact congrArg some (fput_ok (o := .inr (.inr [])) i1 i2)
  · cases h
theorem fin0_ok (h : fin0 T a = some T') : mm_lin (toS z T) a = some (toS z T') := by
  unfold fin0 at h
  split at h
  · rename_i e
    cases h
    obtain ⟨i1, i2, -⟩ := fob_in e
    unfold mm_lin
    rw [if_pos]
    · exact congrArg some (fput_ok (o := .inr (.inr [])) i1 i2)
    · unfold mm_fr
      rw [fob_ok e]
      rfl
  · cases h
end
-- ints as natural numbers
noncomputable def iA (a b : Nat) : Nat := (a + b) % 4294967296
noncomputable def iS (a b : Nat) : Nat := (a + (4294967296 - b % 4294967296)) % 4294967296
noncomputable def iM (a b : Nat) : Nat := (a * b) % 4294967296
noncomputable def iF2 (f : Int32 → Int32 → Int32) (a b : Nat) : Nat := (f (nI a) (nI b)).toBitVec.toNat
noncomputable def ilt (a b : Nat) : Bool := Nat.ble ((a + 2147483648) % 4294967296 + 1) ((b + 2147483648) % 4294967296)
noncomputable def ile (a b : Nat) : Bool := Nat.ble ((a + 2147483648) % 4294967296) ((b + 2147483648) % 4294967296)
noncomputable def ieq (a b : Nat) : Bool := Nat.beq (a % 4294967296) (b % 4294967296)
section
variable {x y : Int32} {a b : Nat}
theorem nI_bv (n : Nat) : (nI n).toBitVec = BitVec.ofNat 32 n := rfl
theorem iA_ok (h1 : x = nI a) (h2 : y = nI b) : x + y = nI (iA a b) := by
  rw [h1, h2, nI_add, ← nI_mod (a + b)]; rfl
theorem iM_ok (h1 : x = nI a) (h2 : y = nI b) : x * y = nI (iM a b) := by
  have e : nI a * nI b = nI (a * b) := (Int32.ofNat_mul a b).symm
  rw [h1, h2, e, ← nI_mod (a * b)]; rfl
theorem iS_ok (h1 : x = nI a) (h2 : y = nI b) : x - y = nI (iS a b) := by
  rw [h1, h2]
  apply Int32.toBitVec_inj.mp
  apply BitVec.eq_of_toNat_eq
  show (BitVec.ofNat 32 a - BitVec.ofNat 32 b).toNat = (BitVec.ofNat 32 (iS a b)).toNat
  rw [BitVec.toNat_sub, BitVec.toNat_ofNat, BitVec.toNat_ofNat, BitVec.toNat_ofNat]
  unfold iS
  omega
theorem iF2_ok {f : Int32 → Int32 → Int32} (h1 : x = nI a) (h2 : y = nI b) : f x y = nI (iF2 f a b) := by
  rw [h1, h2]
  unfold iF2
  apply Int32.toBitVec_inj.mp
  apply BitVec.eq_of_toNat_eq
  show _ = (BitVec.ofNat 32 _).toNat
  rw [BitVec.toNat_ofNat]
  exact (Nat.mod_eq_of_lt (BitVec.isLt _)).symm
theorem iN_ok (h1 : x = nI a) : -x = nI (iS 0 a) := by
  have := iS_ok (x := 0) (a := 0) rfl h1
  rw [← this]
  exact (Int32.zero_sub x).symm
theorem nI_toI (n : Nat) : (nI n).toInt = ((n + 2147483648) % 4294967296 : Nat) - (2147483648 : Int) := by
  show (BitVec.ofNat 32 n).toInt = _
  rw [BitVec.toInt_eq_toNat_cond, BitVec.toNat_ofNat]
  split <;> omega
theorem ilt_iff : ilt a b = true ↔ nI a < nI b := by
  rw [Int32.lt_iff_toInt_lt, nI_toI, nI_toI]
  unfold ilt
  rw [Nat.ble_eq]
  omega
theorem ile_iff : ile a b = true ↔ nI a ≤ nI b := by
  rw [Int32.le_iff_toInt_le, nI_toI, nI_toI]
  unfold ile
  rw [Nat.ble_eq]
  omega
theorem ieq_iff : ieq a b = true ↔ nI a = nI b := by
  unfold ieq
  rw [Nat.beq_eq]
  constructor
  · intro h
    rw [← nI_mod a, ← nI_mod b, h]
  · intro h
    have := congrArg Int32.toInt h
    rw [nI_toI, nI_toI] at this
    omega
-- branches
variable {z : Option mm_O} {T T' : fS} {r : fR} {A B : Option mm_R} {A' B' : Option fR}
theorem fb_if {c : Prop} [Decidable c] {b : Bool} (hb : b = true ↔ c) (h : fif b A' B' = some r) (h1 : A' = some r → A = some (tR z r)) (h2 : B' = some r → B = some (tR z r)) : (if c then A else B) = some (tR z r) := by
  cases hq : b
  · rw [hq] at h
    rw [if_neg (fun q => by rw [hb.mpr q] at hq; cases hq)]
    exact h2 h
  · rw [hq] at h
    rw [if_pos (hb.mp hq)]
    exact h1 h
theorem fb_pos {c : Prop} [Decidable c] (hc : c) (h : A = some (tR z r)) : (if c then A else B) = some (tR z r) := by rw [if_pos hc]; exact h
theorem cj_lt (h1 : x = nI a) (h2 : y = nI b) : ilt a b = true ↔ x < y := by rw [h1, h2]; exact ilt_iff
theorem cj_le (h1 : x = nI a) (h2 : y = nI b) : ile a b = true ↔ x ≤ y := by rw [h1, h2]; exact ile_iff
theorem cj_eq (h1 : x = nI a) (h2 : y = nI b) : ieq a b = true ↔ x = y := by rw [h1, h2]; exact ieq_iff
theorem cj_01 (h1 : x = nI a) : (Bool.rec (motive := fun _ => Bool) (ieq a 1) true (ieq a 0)) = true ↔ (x = 0 ∨ x = 1) := by
  have e0 := cj_eq h1 (show (0 : Int32) = nI 0 from rfl)
  have e1 := cj_eq h1 (show (1 : Int32) = nI 1 from rfl)
  cases h0 : ieq a 0
  · rw [h0] at e0
    show ieq a 1 = true ↔ _
    rw [e1]
    exact ⟨Or.inr, fun q => q.elim (fun q => absurd (e0.mpr q) (by decide)) id⟩
  · exact ⟨fun _ => Or.inl (e0.mp h0), fun _ => rfl⟩
/-- abs, max, min -/
noncomputable def iab (a : Nat) : Nat := fif (ile 0 a) a (iS 0 a)
noncomputable def imx (a b : Nat) : Nat := fif (ilt a b) b a
noncomputable def imn (a b : Nat) : Nat := fif (ilt b a) b a
theorem iab_ok (h : x = nI a) : (if 0 ≤ x then x else 0 - x) = nI (iab a) := by
  have e := cj_le (show (0 : Int32) = nI 0 from rfl) h
  unfold iab
  cases hq : ile 0 a
  · rw [if_neg (fun q => by rw [e.mpr q] at hq; cases hq)]
    exact iS_ok rfl h
  · rw [if_pos (e.mp hq)]
    exact h
theorem imx_ok (h1 : x = nI a) (h2 : y = nI b) : (if x < y then y else x) = nI (imx a b) := by
  have e := cj_lt h1 h2
  unfold imx
  cases hq : ilt a b
  · rw [if_neg (fun q => by rw [e.mpr q] at hq; cases hq)]
    exact h1
  · rw [if_pos (e.mp hq)]
    exact h2
theorem imn_ok (h1 : x = nI a) (h2 : y = nI b) : (if y < x then y else x) = nI (imn a b) := by
  have e := cj_lt h2 h1
  unfold imn
  cases hq : ilt b a
  · rw [if_neg (fun q => by rw [e.mpr q] at hq; cases hq)]
    exact h1
  · rw [if_pos (e.mp hq)]
    exact h2
-- returns
theorem fr_i (hx : x = nI a) (h : some ((.inl (some (.inl a)), T) : fR) = some r) : some ((.inl (some (.int x)), toS z T) : mm_R) = some (tR z r) := by
  cases h; rw [hx]; rfl
theorem fr_r {a : Nat} (h : some ((.inl (some (.inr (some a))), T) : fR) = some r) : some ((.inl (some (.ref a)), toS z T) : mm_R) = some (tR z r) := by
  cases h; rfl
theorem fr_v (h : some ((.inl none, T) : fR) = some r) : some ((.inl none, toS z T) : mm_R) = some (tR z r) := by
  cases h; rfl
theorem fr_x {E : Nat} (h : some ((.inr E, fbm T 1 6) : fR) = some r) : some ((.inr E, mm_bmp (toS z T) 1 6) : mm_R) = some (tR z r) := by
  cases h; rfl
theorem fr_n (h : (none : Option fR) = some r) : A = some (tR z r) := by cases h
-- what stops, and goes on
noncomputable def fbn (R : Option Nat) (k : Nat → Option fR) : Option fR := Option.rec (motive := fun _ => Option fR) none k R
noncomputable def fbv (R : Option (Option Nat)) (k : Nat → Option fR) (kn : Option fR) : Option fR := Option.rec (motive := fun _ => Option fR) none (fun v => Option.rec (motive := fun _ => Option fR) kn k v) R
noncomputable def fbs (R : Option fS) (k : fS → Option fR) : Option fR := Option.rec (motive := fun _ => Option fR) none k R
noncomputable def fch (T : fS) (a c : Nat) : Bool := Option.rec (motive := fun _ => Bool) false (fun c' => Nat.beq c' c) (fci T a)
variable {Y pc pc0 : Nat} {ls st : List Value} {σ : mm_S}
theorem fb_n {R : Option Int32} {R' : Option Nat} {k : Nat → Option fR} (hR : ∀ n, R' = some n → R = some (nI n)) (h : fbn R' k = some r) (hk : ∀ n, k n = some r → mm_L Y pc ls (.int (nI n) :: st) σ = some (tR z r)) : mm_bI R Y pc ls st σ = some (tR z r) := by
  cases e : R' with
  | none => rw [e] at h; cases h
  | some n => rw [e] at h; rw [hR n e]; exact hk n h
theorem fb_v {R : Option Value} {R' : Option (Option Nat)} {k : Nat → Option fR} {kn : Option fR} (hR : ∀ v, R' = some v → R = some (toF v)) (h : fbv R' k kn = some r) (hk : ∀ a, k a = some r → mm_L Y pc ls (.ref a :: st) σ = some (tR z r)) (hn : kn = some r → mm_L Y pc ls (.null :: st) σ = some (tR z r)) : mm_bV R Y pc ls st σ = some (tR z r) := by
  cases e : R' with
  | none => rw [e] at h; cases h
  | some v =>
    rw [e] at h; rw [hR v e]
    cases v with
    | none => exact hn h
    | some a => exact hk a h
theorem fb_g {R : Option Value} {R' : Option Nat} {k : Nat → Option fR} (hR : ∀ n, R' = some n → R = some (.ref n)) (h : fbn R' k = some r) (hk : ∀ n, k n = some r → mm_L Y pc ls (.ref n :: st) σ = some (tR z r)) : mm_bV R Y pc ls st σ = some (tR z r) := by
  cases e : R' with
  | none => rw [e] at h; cases h
  | some n => rw [e] at h; rw [hR n e]; exact hk n h
theorem fb_s {R : Option mm_S} {R' : Option fS} {k : fS → Option fR} (hR : ∀ T', R' = some T' → R = some (toS z T')) (h : fbs R' k = some r) (hk : ∀ T', k T' = some r → mm_L Y pc ls st (toS z T') = some (tR z r)) : mm_bS R Y pc ls st = some (tR z r) := by
  cases e : R' with
  | none => rw [e] at h; cases h
  | some n => rw [e] at h; rw [hR n e]; exact hk n h
theorem fb_c {a c : Nat} (h : fif (fch T a c) A' none = some r) (hk : A' = some r → mm_L Y pc ls (.ref a :: st) (toS z T) = some (tR z r)) : mm_bV (mm_chk (toS z T) a c) Y pc ls st (toS z T) = some (tR z r) := by
  obtain ⟨h1, h2⟩ := fif_true h
  unfold fch at h1
  cases e : fci T a with
  | none => rw [e] at h1; cases h1
  | some c' =>
    rw [e] at h1
    have hc : c' = c := Nat.eq_of_beq_eq_true h1
    subst hc
    have : mm_chk (toS z T) a c' = some (.ref a) := by
      unfold mm_chk
      rw [fci_ok e]
      exact if_pos rfl
    rw [this]
    exact hk h2
/-- a write that asks for 0 or 1 -/
theorem fs_01 {R : Option mm_S} {R' : Option fS} (hx : x = nI a) (hR : R' = some T' → R = some (toS z T')) (h : fif (Bool.rec (motive := fun _ => Bool) (ieq a 1) true (ieq a 0)) R' none = some T') : (if x = 0 ∨ x = 1 then R else none) = some (toS z T') := by
  obtain ⟨h1, h2⟩ := fif_true h
  rw [if_pos ((cj_01 hx).mp h1)]
  exact hR h2
-- calls
noncomputable def fKi (x : Bool) (q : Option fR) (k : Nat → fS → Option fR) : Option fR := match q with
  | some (.inl (some (.inl n)), T) => k n T
  | some (.inr E, T) => fif x (some (.inr E, T)) none
  | _ => none
noncomputable def fKr (x : Bool) (q : Option fR) (k : Nat → fS → Option fR) : Option fR := match q with
  | some (.inl (some (.inr (some a))), T) => k a T
  | some (.inr E, T) => fif x (some (.inr E, T)) none
  | _ => none
noncomputable def fKv (x : Bool) (q : Option fR) (k : fS → Option fR) : Option fR := match q with
  | some (.inl none, T) => k T
  | some (.inr E, T) => fif x (some (.inr E, T)) none
  | _ => none
noncomputable def fKh (q : Option fR) (k : Nat → fS → Option fR) (kx : Nat → fS → Option fR) : Option fR := match q with
  | some (.inl (some (.inl n)), T) => k n T
  | some (.inr E, T) => kx E T
  | _ => none
theorem tR_i {n : Nat} : tR z (.inl (some (.inl n)), T) = (.inl (some (.int (nI n))), toS z T) := rfl
theorem tR_r {n : Nat} : tR z (.inl (some (.inr (some n))), T) = (.inl (some (.ref n)), toS z T) := rfl
theorem tR_v : tR z (.inl none, T) = (.inl none, toS z T) := rfl
theorem tR_x {E : Nat} : tR z (.inr E, T) = (.inr E, toS z T) := rfl
theorem fK0v {v : Value} : mm_K0 (some (.inl (some v), σ)) Y pc ls st = mm_L Y pc ls (v :: st) σ := rfl
theorem fK0n : mm_K0 (some (.inl none, σ)) Y pc ls st = mm_L Y pc ls st σ := rfl
theorem fK0x {E : Nat} : mm_K0 (some (.inr E, σ)) Y pc ls st = some (.inr E, σ) := rfl
theorem fK2v {v : Value} : mm_K2 (some (.inl (some v), σ)) Y pc ls st = mm_L Y pc ls (v :: st) σ := rfl
theorem fK2n : mm_K2 (some (.inl none, σ)) Y pc ls st = mm_L Y pc ls st σ := rfl
theorem fK1v {v : Value} : mm_K1 (some (.inl (some v), σ)) Y pc0 pc ls st = mm_L Y pc ls (v :: st) σ := rfl
theorem fK1x {E : Nat} : mm_K1 (some (.inr E, σ)) Y pc0 pc ls st = mm_cat mm_L Y pc0 ls E σ := rfl
theorem fb_K0i {C : Option mm_R} {C' : Option fR} {k : Nat → fS → Option fR} (hc : ∀ q, C' = some q → C = some (tR z q)) (h : fKi true C' k = some r) (hk : ∀ n T, k n T = some r → mm_L Y pc ls (.int (nI n) :: st) (toS z T) = some (tR z r)) : mm_K0 C Y pc ls st = some (tR z r) := by
  match C', hc, h with
  | some (.inl (some (.inl n)), T), hc, h => rw [hc _ rfl, tR_i, fK0v]; exact hk _ _ h
  | some (.inr E, T), hc, h =>
    rw [hc _ rfl, tR_x, fK0x]
    have h' : some ((.inr E, T) : fR) = some r := h
    rw [← Option.some.inj h', tR_x]
  | some (.inl (some (.inr v)), T), hc, h => cases (show (none : Option fR) = some r from h)
  | some (.inl none, T), hc, h => cases (show (none : Option fR) = some r from h)
  | none, hc, h => cases (show (none : Option fR) = some r from h)
theorem fb_K2i {C : Option mm_R} {C' : Option fR} {k : Nat → fS → Option fR} (hc : ∀ q, C' = some q → C = some (tR z q)) (h : fKi false C' k = some r) (hk : ∀ n T, k n T = some r → mm_L Y pc ls (.int (nI n) :: st) (toS z T) = some (tR z r)) : mm_K2 C Y pc ls st = some (tR z r) := by
  match C', hc, h with
  | some (.inl (some (.inl n)), T), hc, h => rw [hc _ rfl, tR_i, fK2v]; exact hk _ _ h
  | some (.inr E, T), hc, h => cases (show (none : Option fR) = some r from h)
  | some (.inl (some (.inr v)), T), hc, h => cases (show (none : Option fR) = some r from h)
  | some (.inl none, T), hc, h => cases (show (none : Option fR) = some r from h)
  | none, hc, h => cases (show (none : Option fR) = some r from h)
theorem fb_K0r {C : Option mm_R} {C' : Option fR} {k : Nat → fS → Option fR} (hc : ∀ q, C' = some q → C = some (tR z q)) (h : fKr true C' k = some r) (hk : ∀ n T, k n T = some r → mm_L Y pc ls (.ref n :: st) (toS z T) = some (tR z r)) : mm_K0 C Y pc ls st = some (tR z r) := by
  match C', hc, h with
  | some (.inl (some (.inr (some n))), T), hc, h => rw [hc _ rfl, tR_r, fK0v]; exact hk _ _ h
  | some (.inr E, T), hc, h =>
    rw [hc _ rfl, tR_x, fK0x]
    have h' : some ((.inr E, T) : fR) = some r := h
    rw [← Option.some.inj h', tR_x]
  | some (.inl (some (.inl v)), T), hc, h => cases (show (none : Option fR) = some r from h)
  | some (.inl (some (.inr none)), T), hc, h => cases (show (none : Option fR) = some r from h)
  | some (.inl none, T), hc, h => cases (show (none : Option fR) = some r from h)
  | none, hc, h => cases (show (none : Option fR) = some r from h)
theorem fb_K2r {C : Option mm_R} {C' : Option fR} {k : Nat → fS → Option fR} (hc : ∀ q, C' = some q → C = some (tR z q)) (h : fKr false C' k = some r) (hk : ∀ n T, k n T = some r → mm_L Y pc ls (.ref n :: st) (toS z T) = some (tR z r)) : mm_K2 C Y pc ls st = some (tR z r) := by
  match C', hc, h with
  | some (.inl (some (.inr (some n))), T), hc, h => rw [hc _ rfl, tR_r, fK2v]; exact hk _ _ h
  | some (.inr E, T), hc, h => cases (show (none : Option fR) = some r from h)
  | some (.inl (some (.inl v)), T), hc, h => cases (show (none : Option fR) = some r from h)
  | some (.inl (some (.inr none)), T), hc, h => cases (show (none : Option fR) = some r from h)
  | some (.inl none, T), hc, h => cases (show (none : Option fR) = some r from h)
  | none, hc, h => cases (show (none : Option fR) = some r from h)
theorem fb_K0v {C : Option mm_R} {C' : Option fR} {k : fS → Option fR} (hc : ∀ q, C' = some q → C = some (tR z q)) (h : fKv true C' k = some r) (hk : ∀ T, k T = some r → mm_L Y pc ls st (toS z T) = some (tR z r)) : mm_K0 C Y pc ls st = some (tR z r) := by
  match C', hc, h with
  | some (.inl none, T), hc, h => rw [hc _ rfl, tR_v, fK0n]; exact hk _ h
  | some (.inr E, T), hc, h =>
    rw [hc _ rfl, tR_x, fK0x]
    have h' : some ((.inr E, T) : fR) = some r := h
    rw [← Option.some.inj h', tR_x]
  | some (.inl (some v), T), hc, h => cases (show (none : Option fR) = some r from h)
  | none, hc, h => cases (show (none : Option fR) = some r from h)
theorem fb_K2v {C : Option mm_R} {C' : Option fR} {k : fS → Option fR} (hc : ∀ q, C' = some q → C = some (tR z q)) (h : fKv false C' k = some r) (hk : ∀ T, k T = some r → mm_L Y pc ls st (toS z T) = some (tR z r)) : mm_K2 C Y pc ls st = some (tR z r) := by
  match C', hc, h with
  | some (.inl none, T), hc, h => rw [hc _ rfl, tR_v, fK2n]; exact hk _ h
  | some (.inr E, T), hc, h => cases (show (none : Option fR) = some r from h)
  | some (.inl (some v), T), hc, h => cases (show (none : Option fR) = some r from h)
  | none, hc, h => cases (show (none : Option fR) = some r from h)
theorem fb_K1 {C : Option mm_R} {C' : Option fR} {k kx : Nat → fS → Option fR} (hc : ∀ q, C' = some q → C = some (tR z q)) (h : fKh C' k kx = some r) (hk : ∀ n T, k n T = some r → mm_L Y pc ls (.int (nI n) :: st) (toS z T) = some (tR z r)) (hx : ∀ E T, kx E T = some r → mm_cat mm_L Y pc0 ls E (toS z T) = some (tR z r)) : mm_K1 C Y pc0 pc ls st = some (tR z r) := by
  match C', hc, h with
  | some (.inl (some (.inl n)), T), hc, h => rw [hc _ rfl, tR_i, fK1v]; exact hk _ _ h
  | some (.inr E, T), hc, h => rw [hc _ rfl, tR_x, fK1x]; exact hx _ _ h
  | some (.inl (some (.inr v)), T), hc, h => cases (show (none : Option fR) = some r from h)
  | some (.inl none, T), hc, h => cases (show (none : Option fR) = some r from h)
  | none, hc, h => cases (show (none : Option fR) = some r from h)
theorem fb_e {E e : Nat} (h : fif (Nat.beq E e) A' B' = some r) (h1 : E = e → A' = some r → A = some (tR z r)) (h2 : B' = some r → A = some (tR z r)) : A = some (tR z r) := by
  cases hq : Nat.beq E e
  · rw [hq] at h; exact h2 h
  · rw [hq] at h; exact h1 (Nat.eq_of_beq_eq_true hq) h
theorem fb_mo {y a c : Nat} {As : List Value} {C' : Option fR} (hy : mm_own y = c) (h : fif (fch T a c) C' none = some r) (hc : C' = some r → mm_M y (.ref a :: As) (toS z T) = some (tR z r)) : mm_Mo y a As (toS z T) = some (tR z r) := by
  obtain ⟨h1, h2⟩ := fif_true h
  unfold fch at h1
  cases e : fci T a with
  | none => rw [e] at h1; cases h1
  | some c' =>
    rw [e] at h1
    have hcc : c' = c := Nat.eq_of_beq_eq_true h1
    subst hcc
    unfold mm_Mo
    rw [if_pos]
    · exact hc h2
    · unfold mm_rc
      rw [fci_ok e, hy]
      exact beq_self_eq_true c'
end
theorem ow_0 : mm_own 0 = 0 := by decide +kernel
theorem ow_1 : mm_own 1 = 0 := by decide +kernel
theorem ow_2 : mm_own 2 = 0 := by decide +kernel
theorem ow_3 : mm_own 3 = 0 := by decide +kernel
theorem ow_4 : mm_own 4 = 0 := by decide +kernel
theorem ow_5 : mm_own 5 = 0 := by decide +kernel
theorem ow_6 : mm_own 6 = 1 := by decide +kernel
theorem ow_7 : mm_own 7 = 1 := by decide +kernel
theorem ow_8 : mm_own 8 = 1 := by decide +kernel
theorem ow_9 : mm_own 9 = 1 := by decide +kernel
theorem ow_10 : mm_own 10 = 1 := by decide +kernel
theorem ow_11 : mm_own 11 = 1 := by decide +kernel
theorem ow_12 : mm_own 12 = 2 := by decide +kernel
theorem ow_13 : mm_own 13 = 2 := by decide +kernel
theorem ow_14 : mm_own 14 = 2 := by decide +kernel
theorem ow_15 : mm_own 15 = 3 := by decide +kernel
theorem ow_16 : mm_own 16 = 3 := by decide +kernel
theorem ow_17 : mm_own 17 = 3 := by decide +kernel
theorem ow_18 : mm_own 18 = 3 := by decide +kernel
theorem ow_19 : mm_own 19 = 4 := by decide +kernel
theorem ow_20 : mm_own 20 = 4 := by decide +kernel
theorem ow_21 : mm_own 21 = 4 := by decide +kernel
theorem ow_22 : mm_own 22 = 5 := by decide +kernel
theorem ow_23 : mm_own 23 = 6 := by decide +kernel
theorem ow_24 : mm_own 24 = 6 := by decide +kernel
theorem ow_25 : mm_own 25 = 6 := by decide +kernel
theorem ow_26 : mm_own 26 = 6 := by decide +kernel
theorem ow_27 : mm_own 27 = 6 := by decide +kernel
theorem ow_28 : mm_own 28 = 6 := by decide +kernel
theorem ow_31 : mm_own 31 = 6 := by decide +kernel
theorem ow_32 : mm_own 32 = 6 := by decide +kernel
theorem ow_33 : mm_own 33 = 6 := by decide +kernel
theorem ow_34 : mm_own 34 = 6 := by decide +kernel
theorem ow_36 : mm_own 36 = 6 := by decide +kernel
theorem ow_37 : mm_own 37 = 6 := by decide +kernel
theorem ow_38 : mm_own 38 = 6 := by decide +kernel
theorem ow_39 : mm_own 39 = 6 := by decide +kernel
theorem ow_40 : mm_own 40 = 6 := by decide +kernel
theorem ow_41 : mm_own 41 = 6 := by decide +kernel
theorem ow_43 : mm_own 43 = 6 := by decide +kernel
theorem ow_44 : mm_own 44 = 6 := by decide +kernel
theorem ow_45 : mm_own 45 = 6 := by decide +kernel
theorem ow_46 : mm_own 46 = 6 := by decide +kernel
theorem ow_47 : mm_own 47 = 6 := by decide +kernel
theorem ow_49 : mm_own 49 = 6 := by decide +kernel
theorem ow_50 : mm_own 50 = 6 := by decide +kernel
theorem ow_51 : mm_own 51 = 6 := by decide +kernel
theorem ow_53 : mm_own 53 = 6 := by decide +kernel
theorem ow_57 : mm_own 57 = 6 := by decide +kernel
theorem ow_58 : mm_own 58 = 6 := by decide +kernel
theorem ow_59 : mm_own 59 = 6 := by decide +kernel
theorem ow_60 : mm_own 60 = 6 := by decide +kernel
theorem ow_61 : mm_own 61 = 6 := by decide +kernel
theorem ow_62 : mm_own 62 = 6 := by decide +kernel
theorem ow_63 : mm_own 63 = 6 := by decide +kernel
theorem ow_64 : mm_own 64 = 6 := by decide +kernel
theorem ow_65 : mm_own 65 = 6 := by decide +kernel
theorem ow_66 : mm_own 66 = 6 := by decide +kernel
theorem ow_67 : mm_own 67 = 6 := by decide +kernel
theorem ow_68 : mm_own 68 = 6 := by decide +kernel
theorem ow_69 : mm_own 69 = 6 := by decide +kernel
theorem ow_70 : mm_own 70 = 6 := by decide +kernel
theorem ow_71 : mm_own 71 = 6 := by decide +kernel
theorem ow_74 : mm_own 74 = 6 := by decide +kernel
theorem ow_75 : mm_own 75 = 6 := by decide +kernel
theorem ow_80 : mm_own 80 = 6 := by decide +kernel
theorem ow_81 : mm_own 81 = 6 := by decide +kernel
theorem ow_84 : mm_own 84 = 6 := by decide +kernel
theorem ow_85 : mm_own 85 = 6 := by decide +kernel
theorem ow_86 : mm_own 86 = 6 := by decide +kernel
theorem ow_87 : mm_own 87 = 6 := by decide +kernel
theorem ow_88 : mm_own 88 = 6 := by decide +kernel
theorem ow_89 : mm_own 89 = 6 := by decide +kernel
theorem ow_90 : mm_own 90 = 6 := by decide +kernel
theorem ow_91 : mm_own 91 = 6 := by decide +kernel
theorem ow_92 : mm_own 92 = 6 := by decide +kernel
theorem ow_93 : mm_own 93 = 6 := by decide +kernel
theorem ow_94 : mm_own 94 = 6 := by decide +kernel
theorem ow_95 : mm_own 95 = 6 := by decide +kernel
theorem ow_96 : mm_own 96 = 6 := by decide +kernel
