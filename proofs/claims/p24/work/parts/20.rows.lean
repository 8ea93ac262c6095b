/-! EQUATIONS of the limit, an instruction at a time (first order: what stops is a name with its rest) -/
noncomputable def mm_M (z : Nat) (As : List Value) (σ : mm_S) : Option mm_R := mm_L z 0 (mm_ent z As) [] σ
noncomputable def mm_bI (o : Option Int32) (y pc : Nat) (ls st : List Value) (σ : mm_S) : Option mm_R := match o with
  | some x => mm_L y pc ls (.int x :: st) σ
  | none => none
noncomputable def mm_bJ (o : Option Int64) (y pc : Nat) (ls st : List Value) (σ : mm_S) : Option mm_R := match o with
  | some x => mm_L y pc ls (.long x :: st) σ
  | none => none
noncomputable def mm_bV (o : Option Value) (y pc : Nat) (ls st : List Value) (σ : mm_S) : Option mm_R := match o with
  | some x => mm_L y pc ls (x :: st) σ
  | none => none
noncomputable def mm_bS (o : Option mm_S) (y pc : Nat) (ls st : List Value) : Option mm_R := match o with
  | some σ => mm_L y pc ls st σ
  | none => none
/-- behind a call in a method without handlers -/
noncomputable def mm_K0 (r : Option mm_R) (y pc : Nat) (ls st : List Value) : Option mm_R := match r with
  | some (.inl v, σ) => mm_L y pc ls (v.toList ++ st) σ
  | some (.inr E, σ) => some (.inr E, σ)
  | none => none
/-- behind a call that throws nothing -/
noncomputable def mm_K2 (r : Option mm_R) (y pc : Nat) (ls st : List Value) : Option mm_R := match r with
  | some (.inl v, σ) => mm_L y pc ls (v.toList ++ st) σ
  | _ => none
/-- behind a call in a method with handlers -/
noncomputable def mm_K1 (r : Option mm_R) (y pc0 pc : Nat) (ls st : List Value) : Option mm_R := match r with
  | some (.inl v, σ) => mm_L y pc ls (v.toList ++ st) σ
  | some (.inr E, σ) => mm_cat mm_L y pc0 ls E σ
  | none => none
def mm_lar_i (σ : mm_S) (a : Nat) (i : Int32) : Option Int64 := (mm_lar σ a).bind fun x => if i < 0 ∨ x.1 ≤ i.toNatClampNeg then none else some (x.2 i.toNatClampNeg)
def mm_lst_i (σ : mm_S) (a : Nat) (i : Int32) (v : Int64) : Option mm_S := (mm_lar σ a).bind fun x => if i < 0 ∨ x.1 ≤ i.toNatClampNeg then none else some (mm_put σ a (.inr (.inr (.inl (x.1, vp_updL x.2 i.toNatClampNeg v)))))
def mm_lsz (σ : mm_S) (a : Nat) : Option Int32 := (mm_lst σ a).map fun l => Int32.ofNat l.length
def mm_lgt (σ : mm_S) (a : Nat) (i : Int32) : Option Value := (mm_lst σ a).bind fun l => if i < 0 ∨ l.length ≤ i.toNatClampNeg then none else (l[i.toNatClampNeg]?).map .ref
def mm_lad (σ : mm_S) (a v : Nat) : Option mm_S := (mm_lst σ a).bind fun l => if l.length < 60000 ∧ mm_oks σ (l ++ [v]) = true then some (mm_bmp (mm_put σ a (.inr (.inr (.inr (l ++ [v]))))) 1 (2 * l.length + 10)) else none
def mm_lcl (σ : mm_S) (a : Nat) : Option mm_S := (mm_lst σ a).map fun _ => mm_put σ a (.inr (.inr (.inr [])))
def mm_lin (σ : mm_S) (a : Nat) : Option mm_S := if mm_fr σ a = true then some (mm_put σ a (.inr (.inr (.inr [])))) else none
section
variable {y pc pc' : Nat} {cc : ByteArray} {ls ls' st rest : List Value} {σ : mm_S}
theorem mm_Lq (hb : mm_by y = cc) {i : ClassFile.Instr} {len : Nat} (hd : decode cc pc = .ok (i, len)) : mm_L y pc ls st σ = mm_step mm_L y pc ls st σ i len := mm_L_eq (by rw [hb]; exact hd)
theorem L_iconst {n : Int} {v : Int32} (hb : mm_by y = cc) (hd : decode cc pc = .ok (.iconst n, 1)) (hp : pc + 1 = pc') (hv : Int32.ofInt n = v) : mm_L y pc ls st σ = mm_L y pc' ls (.int v :: st) σ := by subst hp hv; rw [mm_Lq hb hd]; rfl
theorem L_bipush {n : Int} {v : Int32} (hb : mm_by y = cc) (hd : decode cc pc = .ok (.bipush n, 2)) (hp : pc + 2 = pc') (hv : (Int8.ofInt n).toInt32 = v) : mm_L y pc ls st σ = mm_L y pc' ls (.int v :: st) σ := by subst hp hv; rw [mm_Lq hb hd]; rfl
theorem L_sipush {n : Int} {v : Int32} (hb : mm_by y = cc) (hd : decode cc pc = .ok (.sipush n, 3)) (hp : pc + 3 = pc') (hv : (Int16.ofInt n).toInt32 = v) : mm_L y pc ls st σ = mm_L y pc' ls (.int v :: st) σ := by subst hp hv; rw [mm_Lq hb hd]; rfl
theorem L_lconst {n : Fin 2} {v : Int64} (hb : mm_by y = cc) (hd : decode cc pc = .ok (.lconst n, 1)) (hp : pc + 1 = pc') (hv : Int64.ofNat n.val = v) : mm_L y pc ls st σ = mm_L y pc' ls (.long v :: st) σ := by subst hp hv; rw [mm_Lq hb hd]; rfl
theorem L_null (hb : mm_by y = cc) (hd : decode cc pc = .ok (.aconst_null, 1)) (hp : pc + 1 = pc') : mm_L y pc ls st σ = mm_L y pc' ls (.null :: st) σ := by subst hp; rw [mm_Lq hb hd]; rfl
theorem L_ldc {n v : Nat} {w : Int32} (hb : mm_by y = cc) (hd : decode cc pc = .ok (.ldc n, 2)) (hp : pc + 2 = pc') (hu : mm_lu mm_kt y n = some v) (hw : Int32.ofNat v = w) : mm_L y pc ls st σ = mm_L y pc' ls (.int w :: st) σ := by
  subst hp hw; rw [mm_Lq hb hd]; simp only [mm_step, hu, if_true, Option.bind_some]
theorem L_iload_n {n : Fin 4} {x : Int32} (hb : mm_by y = cc) (hd : decode cc pc = .ok (.iload_n n, 1)) (hp : pc + 1 = pc') (hl : ls[n.val]? = some (.int x)) : mm_L y pc ls st σ = mm_L y pc' ls (.int x :: st) σ := by
  subst hp; rw [mm_Lq hb hd]; simp only [mm_step, mm_lod, mm_lvi, hl, if_true, Option.bind_some]
theorem L_iload {n : Nat} {x : Int32} (hb : mm_by y = cc) (hd : decode cc pc = .ok (.iload n, 2)) (hp : pc + 2 = pc') (hl : ls[n]? = some (.int x)) : mm_L y pc ls st σ = mm_L y pc' ls (.int x :: st) σ := by
  subst hp; rw [mm_Lq hb hd]; simp only [mm_step, mm_lod, mm_lvi, hl, if_true, Option.bind_some]
theorem L_aload_n {n : Fin 4} {x : Nat} (hb : mm_by y = cc) (hd : decode cc pc = .ok (.aload_n n, 1)) (hp : pc + 1 = pc') (hl : ls[n.val]? = some (.ref x)) : mm_L y pc ls st σ = mm_L y pc' ls (.ref x :: st) σ := by
  subst hp; rw [mm_Lq hb hd]; simp [mm_step, mm_lod, mm_lvr, hl]
theorem L_aload {n : Nat} {x : Nat} (hb : mm_by y = cc) (hd : decode cc pc = .ok (.aload n, 2)) (hp : pc + 2 = pc') (hl : ls[n]? = some (.ref x)) : mm_L y pc ls st σ = mm_L y pc' ls (.ref x :: st) σ := by
  subst hp; rw [mm_Lq hb hd]; simp [mm_step, mm_lod, mm_lvr, hl]
theorem L_aload_nN {n : Fin 4} (hb : mm_by y = cc) (hd : decode cc pc = .ok (.aload_n n, 1)) (hp : pc + 1 = pc') (hl : ls[n.val]? = some .null) : mm_L y pc ls st σ = mm_L y pc' ls (.null :: st) σ := by
  subst hp; rw [mm_Lq hb hd]; simp [mm_step, mm_lod, mm_lvr, hl]
theorem L_aloadN {n : Nat} (hb : mm_by y = cc) (hd : decode cc pc = .ok (.aload n, 2)) (hp : pc + 2 = pc') (hl : ls[n]? = some .null) : mm_L y pc ls st σ = mm_L y pc' ls (.null :: st) σ := by
  subst hp; rw [mm_Lq hb hd]; simp [mm_step, mm_lod, mm_lvr, hl]
theorem L_istore_n {n : Fin 4} {a : Int32} (hb : mm_by y = cc) (hd : decode cc pc = .ok (.istore_n n, 1)) (hp : pc + 1 = pc') (hl : n.val < ls.length) (he : ls.set n.val (.int a) = ls') : mm_L y pc ls (.int a :: st) σ = mm_L y pc' ls' st σ := by
  subst hp he; rw [mm_Lq hb hd]; simp only [mm_step, mm_sto, mm_p1, hl, if_true]
theorem L_istore {n : Nat} {a : Int32} (hb : mm_by y = cc) (hd : decode cc pc = .ok (.istore n, 2)) (hp : pc + 2 = pc') (hl : n < ls.length) (he : ls.set n (.int a) = ls') : mm_L y pc ls (.int a :: st) σ = mm_L y pc' ls' st σ := by
  subst hp he; rw [mm_Lq hb hd]; simp only [mm_step, mm_sto, mm_p1, hl, if_true]
theorem L_astore_n {n : Fin 4} {a : Nat} (hb : mm_by y = cc) (hd : decode cc pc = .ok (.astore_n n, 1)) (hp : pc + 1 = pc') (hl : n.val < ls.length) (he : ls.set n.val (.ref a) = ls') : mm_L y pc ls (.ref a :: st) σ = mm_L y pc' ls' st σ := by
  subst hp he; rw [mm_Lq hb hd]; simp only [mm_step, mm_sto, mm_pr, hl, if_true]
theorem L_astore {n : Nat} {a : Nat} (hb : mm_by y = cc) (hd : decode cc pc = .ok (.astore n, 2)) (hp : pc + 2 = pc') (hl : n < ls.length) (he : ls.set n (.ref a) = ls') : mm_L y pc ls (.ref a :: st) σ = mm_L y pc' ls' st σ := by
  subst hp he; rw [mm_Lq hb hd]; simp only [mm_step, mm_sto, mm_pr, hl, if_true]
theorem L_iinc {n : Nat} {d : Int} {x : Int32} (hb : mm_by y = cc) (hd : decode cc pc = .ok (.iinc n d, 3)) (hp : pc + 3 = pc') (hl : ls[n]? = some (.int x)) (he : ls.set n (.int (x + Int32.ofInt d)) = ls') : mm_L y pc ls st σ = mm_L y pc' ls' st σ := by
  subst hp he; rw [mm_Lq hb hd]; simp only [mm_step, mm_lvi, hl, if_true, Option.bind_some]
theorem L_dup {v : Value} (hb : mm_by y = cc) (hd : decode cc pc = .ok (.dup, 1)) (hp : pc + 1 = pc') (hv : mm_ok1 v = true) : mm_L y pc ls (v :: st) σ = mm_L y pc' ls (v :: v :: st) σ := by subst hp; rw [mm_Lq hb hd]; simp only [mm_step, mm_s1, hv, if_true]
theorem L_pop {v : Value} (hb : mm_by y = cc) (hd : decode cc pc = .ok (.pop, 1)) (hp : pc + 1 = pc') (hv : mm_ok1 v = true) : mm_L y pc ls (v :: st) σ = mm_L y pc' ls st σ := by subst hp; rw [mm_Lq hb hd]; simp only [mm_step, mm_s1, hv, if_true]
theorem L_dup_x1 {v w : Value} (hb : mm_by y = cc) (hd : decode cc pc = .ok (.dup_x1, 1)) (hp : pc + 1 = pc') (hv : mm_ok1 v = true) (hw : mm_ok1 w = true) : mm_L y pc ls (v :: w :: st) σ = mm_L y pc' ls (v :: w :: v :: st) σ := by subst hp; rw [mm_Lq hb hd]; simp [mm_step, mm_s2, hv, hw]
theorem L_dup2 {v w : Value} (hb : mm_by y = cc) (hd : decode cc pc = .ok (.dup2, 1)) (hp : pc + 1 = pc') (hv : mm_ok1 v = true) (hw : mm_ok1 w = true) : mm_L y pc ls (v :: w :: st) σ = mm_L y pc' ls (v :: w :: v :: w :: st) σ := by subst hp; rw [mm_Lq hb hd]; simp [mm_step, mm_s2, hv, hw]
theorem L_iadd {a b : Int32} (hb : mm_by y = cc) (hd : decode cc pc = .ok (.iadd, 1)) (hp : pc + 1 = pc') : mm_L y pc ls (.int b :: .int a :: st) σ = mm_L y pc' ls (.int (a + b) :: st) σ := by subst hp; rw [mm_Lq hb hd]; rfl
theorem L_isub {a b : Int32} (hb : mm_by y = cc) (hd : decode cc pc = .ok (.isub, 1)) (hp : pc + 1 = pc') : mm_L y pc ls (.int b :: .int a :: st) σ = mm_L y pc' ls (.int (a - b) :: st) σ := by subst hp; rw [mm_Lq hb hd]; rfl
theorem L_imul {a b : Int32} (hb : mm_by y = cc) (hd : decode cc pc = .ok (.imul, 1)) (hp : pc + 1 = pc') : mm_L y pc ls (.int b :: .int a :: st) σ = mm_L y pc' ls (.int (a * b) :: st) σ := by subst hp; rw [mm_Lq hb hd]; rfl
theorem L_iand {a b : Int32} (hb : mm_by y = cc) (hd : decode cc pc = .ok (.iand, 1)) (hp : pc + 1 = pc') : mm_L y pc ls (.int b :: .int a :: st) σ = mm_L y pc' ls (.int (a &&& b) :: st) σ := by subst hp; rw [mm_Lq hb hd]; rfl
theorem L_ior {a b : Int32} (hb : mm_by y = cc) (hd : decode cc pc = .ok (.ior, 1)) (hp : pc + 1 = pc') : mm_L y pc ls (.int b :: .int a :: st) σ = mm_L y pc' ls (.int (a ||| b) :: st) σ := by subst hp; rw [mm_Lq hb hd]; rfl
theorem L_ixor {a b : Int32} (hb : mm_by y = cc) (hd : decode cc pc = .ok (.ixor, 1)) (hp : pc + 1 = pc') : mm_L y pc ls (.int b :: .int a :: st) σ = mm_L y pc' ls (.int (a ^^^ b) :: st) σ := by subst hp; rw [mm_Lq hb hd]; rfl
theorem L_ishl {a b : Int32} (hb : mm_by y = cc) (hd : decode cc pc = .ok (.ishl, 1)) (hp : pc + 1 = pc') : mm_L y pc ls (.int b :: .int a :: st) σ = mm_L y pc' ls (.int (a <<< (b &&& 31)) :: st) σ := by subst hp; rw [mm_Lq hb hd]; rfl
theorem L_ishr {a b : Int32} (hb : mm_by y = cc) (hd : decode cc pc = .ok (.ishr, 1)) (hp : pc + 1 = pc') : mm_L y pc ls (.int b :: .int a :: st) σ = mm_L y pc' ls (.int (a >>> (b &&& 31)) :: st) σ := by subst hp; rw [mm_Lq hb hd]; rfl
theorem L_iushr {a b : Int32} (hb : mm_by y = cc) (hd : decode cc pc = .ok (.iushr, 1)) (hp : pc + 1 = pc') : mm_L y pc ls (.int b :: .int a :: st) σ = mm_L y pc' ls (.int (mm_ush a b) :: st) σ := by subst hp; rw [mm_Lq hb hd]; rfl
theorem L_idiv {a b : Int32} (hb : mm_by y = cc) (hd : decode cc pc = .ok (.idiv, 1)) (hp : pc + 1 = pc') (hne : ¬ b = 0) : mm_L y pc ls (.int b :: .int a :: st) σ = mm_L y pc' ls (.int (a / b) :: st) σ := by subst hp; rw [mm_Lq hb hd]; simp only [mm_step, mm_p2, if_true, if_neg hne]
theorem L_irem {a b : Int32} (hb : mm_by y = cc) (hd : decode cc pc = .ok (.irem, 1)) (hp : pc + 1 = pc') (hne : ¬ b = 0) : mm_L y pc ls (.int b :: .int a :: st) σ = mm_L y pc' ls (.int (a - a / b * b) :: st) σ := by subst hp; rw [mm_Lq hb hd]; simp only [mm_step, mm_p2, if_true, if_neg hne]
theorem L_iremv {a b : Int32} (hb : mm_by y = cc) (hd : decode cc pc = .ok (.irem, 1)) (hp : pc + 1 = pc') : mm_L y pc ls (.int b :: .int a :: st) σ = if b = 0 then none else mm_L y pc' ls (.int (a - a / b * b) :: st) σ := by subst hp; rw [mm_Lq hb hd]; rfl
theorem L_ineg {a : Int32} (hb : mm_by y = cc) (hd : decode cc pc = .ok (.ineg, 1)) (hp : pc + 1 = pc') : mm_L y pc ls (.int a :: st) σ = mm_L y pc' ls (.int (-a) :: st) σ := by subst hp; rw [mm_Lq hb hd]; rfl
theorem L_i2l {a : Int32} (hb : mm_by y = cc) (hd : decode cc pc = .ok (.i2l, 1)) (hp : pc + 1 = pc') : mm_L y pc ls (.int a :: st) σ = mm_L y pc' ls (.long a.toInt64 :: st) σ := by subst hp; rw [mm_Lq hb hd]; rfl
theorem L_lcmp {a b : Int64} (hb : mm_by y = cc) (hd : decode cc pc = .ok (.lcmp, 1)) (hp : pc + 1 = pc') : mm_L y pc ls (.long b :: .long a :: st) σ = mm_L y pc' ls (.int (lg_cmp a b) :: st) σ := by subst hp; rw [mm_Lq hb hd]; rfl
theorem mm_tgq {off : Int} {t : Nat} {k : Nat → Option mm_R} (h : (pc : Int) + off = (t : Int)) : mm_tg pc off k = k t := by
  unfold mm_tg
  rw [if_pos (by omega), show ((pc : Int) + off).toNat = t by omega]
theorem L_goto {off : Int} (hb : mm_by y = cc) (hd : decode cc pc = .ok (.goto off, 3)) (ht : (pc : Int) + off = (pc' : Int)) : mm_L y pc ls st σ = mm_L y pc' ls st σ := by rw [mm_Lq hb hd]; simp only [mm_step, if_true, mm_tgq ht]
theorem L_if {c : ClassFile.Cond} {off : Int} {a : Int32} {t : Nat} (hb : mm_by y = cc) (hd : decode cc pc = .ok (.ifCond c off, 3)) (hp : pc + 3 = pc') (ht : (pc : Int) + off = (t : Int)) : mm_L y pc ls (.int a :: st) σ = mm_if c a 0 (mm_L y t ls st σ) (mm_L y pc' ls st σ) := by subst hp; rw [mm_Lq hb hd]; simp only [mm_step, mm_p1, if_true, mm_tgq ht]
theorem L_icmp {c : ClassFile.Cond} {off : Int} {a b : Int32} {t : Nat} (hb : mm_by y = cc) (hd : decode cc pc = .ok (.if_icmp c off, 3)) (hp : pc + 3 = pc') (ht : (pc : Int) + off = (t : Int)) : mm_L y pc ls (.int b :: .int a :: st) σ = mm_if c a b (mm_L y t ls st σ) (mm_L y pc' ls st σ) := by subst hp; rw [mm_Lq hb hd]; simp only [mm_step, mm_p2, if_true, mm_tgq ht]
theorem L_ifnull {off : Int} {a : Nat} (hb : mm_by y = cc) (hd : decode cc pc = .ok (.ifnull off, 3)) (hp : pc + 3 = pc') : mm_L y pc ls (.ref a :: st) σ = mm_L y pc' ls st σ := by subst hp; rw [mm_Lq hb hd]; rfl
theorem L_ifnullN {off : Int} (hb : mm_by y = cc) (hd : decode cc pc = .ok (.ifnull off, 3)) (ht : (pc : Int) + off = (pc' : Int)) : mm_L y pc ls (.null :: st) σ = mm_L y pc' ls st σ := by rw [mm_Lq hb hd]; simp only [mm_step, mm_nl, if_true, mm_tgq ht]
theorem L_alen {a : Nat} (hb : mm_by y = cc) (hd : decode cc pc = .ok (.arraylength, 1)) (hp : pc + 1 = pc') : mm_L y pc ls (.ref a :: st) σ = mm_bI ((mm_len σ a).map Int32.ofNat) y pc' ls st σ := by
  subst hp; rw [mm_Lq hb hd]; simp only [mm_step, mm_pr, if_true]; cases mm_len σ a <;> rfl
theorem L_iald {a : Nat} {i : Int32} (hb : mm_by y = cc) (hd : decode cc pc = .ok (.iaload, 1)) (hp : pc + 1 = pc') : mm_L y pc ls (.int i :: .ref a :: st) σ = mm_bI (mm_ald σ a i false) y pc' ls st σ := by
  subst hp; rw [mm_Lq hb hd]; simp only [mm_step, mm_pi, if_true]; cases mm_ald σ a i false <;> rfl
theorem L_bald {a : Nat} {i : Int32} (hb : mm_by y = cc) (hd : decode cc pc = .ok (.baload, 1)) (hp : pc + 1 = pc') : mm_L y pc ls (.int i :: .ref a :: st) σ = mm_bI (mm_ald σ a i true) y pc' ls st σ := by
  subst hp; rw [mm_Lq hb hd]; simp only [mm_step, mm_pi, if_true]; cases mm_ald σ a i true <;> rfl
theorem L_iast {a : Nat} {i x : Int32} (hb : mm_by y = cc) (hd : decode cc pc = .ok (.iastore, 1)) (hp : pc + 1 = pc') : mm_L y pc ls (.int x :: .int i :: .ref a :: st) σ = mm_bS (mm_ast σ a i 0 x) y pc' ls st := by
  subst hp; rw [mm_Lq hb hd]; simp only [mm_step, mm_pii, if_true]; cases mm_ast σ a i 0 x <;> rfl
theorem L_bast {a : Nat} {i x : Int32} (hb : mm_by y = cc) (hd : decode cc pc = .ok (.bastore, 1)) (hp : pc + 1 = pc') : mm_L y pc ls (.int x :: .int i :: .ref a :: st) σ = mm_bS (if x = 0 ∨ x = 1 then mm_ast σ a i 1 x else none) y pc' ls st := by
  subst hp; rw [mm_Lq hb hd]; simp only [mm_step, mm_pii, if_true]
  by_cases h : x = 0 ∨ x = 1
  · simp only [if_pos h]; cases mm_ast σ a i 1 x <;> rfl
  · simp only [if_neg h]; rfl
theorem L_lald {a : Nat} {i : Int32} (hb : mm_by y = cc) (hd : decode cc pc = .ok (.laload, 1)) (hp : pc + 1 = pc') : mm_L y pc ls (.int i :: .ref a :: st) σ = mm_bJ (mm_lar_i σ a i) y pc' ls st σ := by
  subst hp; rw [mm_Lq hb hd]; simp only [mm_step, mm_pi, if_true, mm_lar_i]; cases h : mm_lar σ a with
  | none => rfl
  | some x =>
    simp only [Option.bind_some]
    by_cases h : i < 0 ∨ x.1 ≤ i.toNatClampNeg
    · simp only [if_pos h]; rfl
    · simp only [if_neg h]; rfl
theorem L_last {a : Nat} {i : Int32} {x : Int64} (hb : mm_by y = cc) (hd : decode cc pc = .ok (.lastore, 1)) (hp : pc + 1 = pc') : mm_L y pc ls (.long x :: .int i :: .ref a :: st) σ = mm_bS (mm_lst_i σ a i x) y pc' ls st := by
  subst hp; rw [mm_Lq hb hd]; simp only [mm_step, mm_pil, if_true, mm_lst_i]; cases h : mm_lar σ a with
  | none => rfl
  | some x =>
    simp only [Option.bind_some]
    by_cases h : i < 0 ∨ x.1 ≤ i.toNatClampNeg
    · simp only [if_pos h]; rfl
    · simp only [if_neg h]; rfl
theorem L_geti {a n d ci k : Nat} (hb : mm_by y = cc) (hd : decode cc pc = .ok (.getfield n, 3)) (hp : pc + 3 = pc') (hu : mm_lu mm_fdt y n = some d) (h1 : d / 1000 = ci ∧ d / 10 % 100 = k ∧ ¬ d % 10 = 1) : mm_L y pc ls (.ref a :: st) σ = mm_bI (mm_geti σ a ci k) y pc' ls st σ := by
  obtain ⟨rfl, rfl, h1⟩ := h1
  subst hp; rw [mm_Lq hb hd]; simp only [mm_step, hu, Option.bind_some, mm_pr, if_true, if_neg h1]; cases mm_geti σ a (d / 1000) (d / 10 % 100) <;> rfl
theorem L_getr {a n d ci k : Nat} (hb : mm_by y = cc) (hd : decode cc pc = .ok (.getfield n, 3)) (hp : pc + 3 = pc') (hu : mm_lu mm_fdt y n = some d) (h1 : d / 1000 = ci ∧ d / 10 % 100 = k ∧ d % 10 = 1) : mm_L y pc ls (.ref a :: st) σ = mm_bV (mm_getr σ a ci k) y pc' ls st σ := by
  obtain ⟨rfl, rfl, h1⟩ := h1
  subst hp; rw [mm_Lq hb hd]; simp only [mm_step, hu, Option.bind_some, mm_pr, if_true, if_pos h1]; cases mm_getr σ a (d / 1000) (d / 10 % 100) <;> rfl
theorem L_put {a n d ci k : Nat} {v : Value} (hb : mm_by y = cc) (hd : decode cc pc = .ok (.putfield n, 3)) (hp : pc + 3 = pc') (hu : mm_lu mm_fdt y n = some d) (h1 : d / 1000 = ci ∧ d / 10 % 100 = k) (hv : mm_pf y d v = true) : mm_L y pc ls (v :: .ref a :: st) σ = mm_bS (mm_setf σ a ci k v) y pc' ls st := by
  obtain ⟨rfl, rfl⟩ := h1
  subst hp; rw [mm_Lq hb hd]; simp only [mm_step, hu, Option.bind_some, mm_pv, if_true, hv]; cases mm_setf σ a (d / 1000) (d / 10 % 100) v <;> rfl
theorem L_putz {a n d ci k : Nat} {x : Int32} (hb : mm_by y = cc) (hd : decode cc pc = .ok (.putfield n, 3)) (hp : pc + 3 = pc') (hu : mm_lu mm_fdt y n = some d) (h1 : d / 1000 = ci ∧ d / 10 % 100 = k) (h0 : mm_pf y d (.int 0) = true ∧ mm_pf y d (.int 1) = true ∧ d % 10 = 2) : mm_L y pc ls (.int x :: .ref a :: st) σ = mm_bS (if x = 0 ∨ x = 1 then mm_setf σ a ci k (.int x) else none) y pc' ls st := by
  obtain ⟨rfl, rfl⟩ := h1
  subst hp; rw [mm_Lq hb hd]; simp only [mm_step, hu, Option.bind_some, mm_pv, if_true]
  by_cases h : x = 0 ∨ x = 1
  · rw [if_pos h]
    have hv : mm_pf y d (.int x) = true := by rcases h with rfl | rfl; exact h0.1; exact h0.2.1
    simp only [hv, if_true]; cases mm_setf σ a (d / 1000) (d / 10 % 100) (.int x) <;> rfl
  · rw [if_neg h]
    have hv : mm_pf y d (.int x) = false := by
      unfold mm_pf
      rw [h0.2.2]
      simp only [not_or] at h
      simp [h.1, h.2]
    simp only [hv]; rfl
theorem L_gets (hb : mm_by y = cc) (hd : decode cc pc = .ok (.getstatic 216, 3)) (hp : pc + 3 = pc') (ho : mm_own y = 6) : mm_L y pc ls st σ = mm_L y pc' ls (.ref 1 :: st) σ := by subst hp; rw [mm_Lq hb hd]; simp [mm_step, ho]
theorem L_new {n c : Nat} {fs : List Value} {w : Nat} (hb : mm_by y = cc) (hd : decode cc pc = .ok (.new n, 3)) (hp : pc + 3 = pc') (hu : mm_lu mm_nwt y n = some c) (hc : c < 100) (hf : mm_dfl[c]? = some fs) (hw : fs.length = w) : mm_L y pc ls st σ = mm_L y pc' ls (.ref σ.2.1 :: st) (mm_new σ (.inl (c, fs)) w) := by
  subst hp hw; rw [mm_Lq hb hd]; simp only [mm_step, hu, Option.bind_some, if_true, if_pos hc, hf]
theorem L_thr {n E : Nat} (hb : mm_by y = cc) (hd : decode cc pc = .ok (.new n, 3)) (hu : mm_lu mm_nwt y n = some (100 + E)) (hs : mm_cats st ≤ 8) (hk : 7 ≤ mm_rk y ∧ mm_lh mm_hr y = [] ∧ mm_own y = 6) (ht : mm_thr y pc E = true) : mm_L y pc ls st σ = some (.inr E, mm_bmp σ 1 6) := by
  rw [mm_Lq hb hd]; simp only [mm_step, hu, Option.bind_some, if_true, if_neg (show ¬ 100 + E < 100 by omega)]
  rw [show 100 + E - 100 = E by omega, if_pos ⟨hs, hk.1, hk.2.1, hk.2.2, ht⟩]
theorem L_newi {n : Int32} {N : Nat} (hb : mm_by y = cc) (hd : decode cc pc = .ok (.newarray .int, 2)) (hp : pc + 2 = pc') (hn : ¬ (n < 0 ∨ 100000 < n.toNatClampNeg)) (hN : n.toNatClampNeg = N) : mm_L y pc ls (.int n :: st) σ = mm_L y pc' ls (.ref σ.2.1 :: st) (mm_new σ (.inr (.inl (0, N, fun _ => 0))) N) := by
  subst hp hN; rw [mm_Lq hb hd]; simp only [mm_step, mm_p1, if_true, if_neg hn]
theorem L_newb {n : Int32} {N : Nat} (hb : mm_by y = cc) (hd : decode cc pc = .ok (.newarray .boolean, 2)) (hp : pc + 2 = pc') (hn : ¬ (n < 0 ∨ 100000 < n.toNatClampNeg)) (hN : n.toNatClampNeg = N) : mm_L y pc ls (.int n :: st) σ = mm_L y pc' ls (.ref σ.2.1 :: st) (mm_new σ (.inr (.inl (1, N, fun _ => 0))) N) := by
  subst hp hN; rw [mm_Lq hb hd]; simp only [mm_step, mm_p1, if_true, if_neg hn]
def mm_chk (σ : mm_S) (a c : Nat) : Option Value := (mm_ci σ a).bind fun ci => if ci = c then some (.ref a) else none
theorem L_cast {n c a : Nat} (hb : mm_by y = cc) (hd : decode cc pc = .ok (.checkcast n, 3)) (hp : pc + 3 = pc') (hu : mm_lu mm_cct y n = some c) : mm_L y pc ls (.ref a :: st) σ = mm_bV (mm_chk σ a c) y pc' ls st σ := by
  subst hp; rw [mm_Lq hb hd]; simp only [mm_step, hu, Option.bind_some, mm_pr, if_true, mm_chk]
  cases mm_ci σ a with
  | none => rfl
  | some ci =>
    simp only [Option.bind_some]
    by_cases h : ci = c
    · simp only [if_pos h]; rfl
    · simp only [if_neg h]; rfl
theorem L_iret {x : Int32} (hb : mm_by y = cc) (hd : decode cc pc = .ok (.ireturn, 1)) (hr : mm_rt y = some .int) : mm_L y pc ls [.int x] σ = some (.inl (some (.int x)), σ) := by rw [mm_Lq hb hd]; simp [mm_step, mm_rtn, hr]
theorem L_zret {x : Int32} (hb : mm_by y = cc) (hd : decode cc pc = .ok (.ireturn, 1)) (hr : mm_rt y = some .boolean) : mm_L y pc ls [.int x] σ = if x = 0 ∨ x = 1 then some (.inl (some (.int x)), σ) else none := by rw [mm_Lq hb hd]; simp [mm_step, mm_rtn, hr]
theorem L_aret {x : Nat} {C : String} (hb : mm_by y = cc) (hd : decode cc pc = .ok (.areturn, 1)) (hr : mm_rt y = some (.object C)) : mm_L y pc ls [.ref x] σ = some (.inl (some (.ref x)), σ) := by rw [mm_Lq hb hd]; simp [mm_step, mm_rtn, hr]
theorem L_vret (hb : mm_by y = cc) (hd : decode cc pc = .ok (.return_, 1)) (hr : mm_rt y = none) : mm_L y pc ls [] σ = some (.inl none, σ) := by rw [mm_Lq hb hd]; simp [mm_step, hr]
-- calls
theorem L_call {z : Nat} {As : List Value} (hc : mm_rk z < mm_rk y ∧ z < 115 ∧ mm_mx z ≤ 19) (h1 : mm_cats rest ≤ 8) (h2 : As.length ≤ mm_mx z) (h3 : As.all mm_ok1 = true) : mm_call mm_L y pc ls z As rest σ = mm_ret (mm_M z As σ) (fun v σ => mm_L y (pc + 3) ls (v.toList ++ rest) σ) (fun E σ => if mm_kd z = 2 ∨ z = 101 then none else mm_cat mm_L y pc ls E σ) := by
  unfold mm_call
  rw [if_pos ⟨h1, hc.1, hc.2.1, hc.2.2, h2, h3⟩]
  rfl
theorem L_cat0 {E : Nat} (h : mm_lh mm_hhs y = [] ∧ mm_lh mm_hr y = []) : mm_cat mm_L y pc ls E σ = some (.inr E, σ) := by
  unfold mm_cat
  rw [h.1, h.2]
  rfl
theorem L_k0 {z : Nat} {r : Option mm_R} (h : ¬ (mm_kd z = 2 ∨ z = 101)) (hh : mm_lh mm_hhs y = [] ∧ mm_lh mm_hr y = []) (hp : pc + 3 = pc') : mm_ret r (fun v σ => mm_L y (pc + 3) ls (v.toList ++ rest) σ) (fun E σ => if mm_kd z = 2 ∨ z = 101 then none else mm_cat mm_L y pc ls E σ) = mm_K0 r y pc' ls rest := by
  subst hp
  match r with
  | some (.inl v, σ) => rfl
  | some (.inr E, σ) => show (if _ then _ else _) = _; rw [if_neg h, L_cat0 hh]; rfl
  | none => rfl
theorem L_k1 {z : Nat} {r : Option mm_R} (h : ¬ (mm_kd z = 2 ∨ z = 101)) (hp : pc + 3 = pc') : mm_ret r (fun v σ => mm_L y (pc + 3) ls (v.toList ++ rest) σ) (fun E σ => if mm_kd z = 2 ∨ z = 101 then none else mm_cat mm_L y pc ls E σ) = mm_K1 r y pc pc' ls rest := by
  subst hp
  match r with
  | some (.inl v, σ) => rfl
  | some (.inr E, σ) => show (if _ then _ else _) = _; rw [if_neg h]; rfl
  | none => rfl
theorem L_k2 {z : Nat} {r : Option mm_R} (h : mm_kd z = 2 ∨ z = 101) (hp : pc + 3 = pc') : mm_ret r (fun v σ => mm_L y (pc + 3) ls (v.toList ++ rest) σ) (fun E σ => if mm_kd z = 2 ∨ z = 101 then none else mm_cat mm_L y pc ls E σ) = mm_K2 r y pc' ls rest := by
  subst hp
  match r with
  | some (.inl v, σ) => rfl
  | some (.inr E, σ) => show (if _ then _ else _) = _; rw [if_pos h]; rfl
  | none => rfl
theorem L_stat {i z n : Nat} {As : List Value} (hb : mm_by y = cc) (hd : decode cc pc = .ok (.invokestatic i, 3)) (hk : mm_lu mm_ivt y i = some z ∧ mm_kd z = 0 ∧ mm_np z = n ∧ mm_rk z < mm_rk y ∧ z < 115 ∧ mm_mx z ≤ 19 ∧ n ≤ mm_mx z) (hl : n ≤ st.length) (hA : (st.take n).reverse = As) (hr : st.drop n = rest) (h1 : mm_cats rest ≤ 8) (h3 : As.all mm_ok1 = true) :
    mm_L y pc ls st σ = mm_ret (mm_M z As σ) (fun v σ => mm_L y (pc + 3) ls (v.toList ++ rest) σ) (fun E σ => if mm_kd z = 2 ∨ z = 101 then none else mm_cat mm_L y pc ls E σ) := by
  obtain ⟨hu, k1, rfl, k3, k4, k5, k6⟩ := hk
  subst hA hr
  rw [mm_Lq hb hd]
  simp only [mm_step, mm_ivk, hu, if_true, if_pos (show z < 1000 by omega), mm_inv, if_pos (show mm_kd z = 0 ∧ mm_np z ≤ st.length from ⟨k1, hl⟩)]
  exact L_call ⟨k3, k4, k5⟩ h1 (by rw [List.length_reverse, List.length_take]; omega) h3
/-- the class of an object that a method is called on -/
def mm_rc (σ : mm_S) (a z : Nat) : Bool := match mm_ci σ a with
  | some c => c == mm_own z
  | none => false
noncomputable def mm_Mo (z a : Nat) (As : List Value) (σ : mm_S) : Option mm_R := if mm_rc σ a z = true then mm_M z (.ref a :: As) σ else none
theorem L_obj {i z n kd a : Nat} {ins : ClassFile.Instr} {As : List Value} (hb : mm_by y = cc) (hd : decode cc pc = .ok (ins, 3)) (hi : (kd = 1 ∧ ins = .invokevirtual i) ∨ (kd = 2 ∧ ins = .invokespecial i)) (hk : mm_lu mm_ivt y i = some z ∧ mm_kd z = kd ∧ mm_np z = n ∧ mm_rk z < mm_rk y ∧ z < 115 ∧ mm_mx z ≤ 19 ∧ n + 1 ≤ mm_mx z) (hl : n ≤ st.length) (hA : (st.take n).reverse = As) (hr : st.drop n = .ref a :: rest) (h1 : mm_cats rest ≤ 8) (h3 : As.all mm_ok1 = true) :
    mm_L y pc ls st σ = mm_ret (mm_Mo z a As σ) (fun v σ => mm_L y (pc + 3) ls (v.toList ++ rest) σ) (fun E σ => if mm_kd z = 2 ∨ z = 101 then none else mm_cat mm_L y pc ls E σ) := by
  obtain ⟨hu, k1, rfl, k3, k4, k5, k6⟩ := hk
  subst hA
  have hgo : mm_inv mm_L y pc ls st σ z kd = mm_ret (mm_Mo z a (st.take (mm_np z)).reverse σ) (fun v σ => mm_L y (pc + 3) ls (v.toList ++ rest) σ) (fun E σ => if mm_kd z = 2 ∨ z = 101 then none else mm_cat mm_L y pc ls E σ) := by
    unfold mm_inv
    rw [if_pos ⟨k1, hl⟩, if_neg (by rcases hi with ⟨q, -⟩ | ⟨q, -⟩ <;> omega), hr]
    unfold mm_Mo mm_rc mm_pr
    dsimp only
    cases hc : mm_ci σ a with
    | none => rfl
    | some c =>
      simp only [Option.bind_some]
      by_cases h : c = mm_own z
      · rw [if_pos h, L_call (As := .ref a :: (st.take (mm_np z)).reverse) ⟨k3, k4, k5⟩ h1 (by rw [List.length_cons, List.length_reverse, List.length_take]; omega) (by simp only [List.all_cons, h3]; rfl)]
        simp [h]
      · rw [if_neg h]
        simp [h]
        rfl
  rw [mm_Lq hb hd]
  rcases hi with ⟨rfl, rfl⟩ | ⟨rfl, rfl⟩
  · simp only [mm_step, mm_ivk, hu, if_true, if_pos (show z < 1000 by omega)]
    exact hgo
  · simp only [mm_step, mm_ivk, hu, if_true, if_pos (show z < 1000 by omega)]
    exact hgo
-- primitives
theorem L_size {i a : Nat} (hb : mm_by y = cc) (hd : decode cc pc = .ok (.invokevirtual i, 3)) (hp : pc + 3 = pc') (hu : mm_lu mm_ivt y i = some 1000) (hk : 1 ≤ mm_rk y) (hc : mm_cats st ≤ 8) : mm_L y pc ls (.ref a :: st) σ = mm_bI (mm_lsz σ a) y pc' ls st σ := by
  subst hp; rw [mm_Lq hb hd]; simp only [mm_step, mm_ivk, hu, if_true, mm_prim, mm_pr, hk, hc, mm_lsz]; cases mm_lst σ a <;> rfl
theorem L_get {i a : Nat} {j : Int32} (hb : mm_by y = cc) (hd : decode cc pc = .ok (.invokevirtual i, 3)) (hp : pc + 3 = pc') (hu : mm_lu mm_ivt y i = some 1001) (hk : 4 ≤ mm_rk y) (hc : mm_cats st ≤ 8) : mm_L y pc ls (.int j :: .ref a :: st) σ = mm_bV (mm_lgt σ a j) y pc' ls st σ := by
  subst hp; rw [mm_Lq hb hd]; simp only [mm_step, mm_ivk, hu, if_true, mm_prim, mm_pi, hk, hc, mm_lgt]; cases mm_lst σ a with
  | none => rfl
  | some l =>
    show (if j < 0 ∨ l.length ≤ j.toNatClampNeg then none else _) = mm_bV (if j < 0 ∨ l.length ≤ j.toNatClampNeg then none else _) _ _ _ _ _
    by_cases h : j < 0 ∨ l.length ≤ j.toNatClampNeg
    · rw [if_pos h, if_pos h]; rfl
    · rw [if_neg h, if_neg h]; cases l[j.toNatClampNeg]? <;> rfl
theorem L_add {i a v : Nat} (hb : mm_by y = cc) (hd : decode cc pc = .ok (.invokevirtual i, 3)) (hp : pc + 3 = pc') (hu : mm_lu mm_ivt y i = some 1002) (hk : 9 ≤ mm_rk y) (hc : mm_cats st ≤ 8) : mm_L y pc ls (.ref v :: .ref a :: st) σ = mm_bS (mm_lad σ a v) y pc' ls (.int 1 :: st) := by
  subst hp; rw [mm_Lq hb hd]; simp only [mm_step, mm_ivk, hu, if_true, mm_prim, mm_rr, hk, hc, mm_lad]; cases mm_lst σ a with
  | none => rfl
  | some l =>
    show (if (True ∧ l.length < 60000) ∧ mm_oks σ (l ++ [v]) = true then _ else none) = mm_bS (if l.length < 60000 ∧ mm_oks σ (l ++ [v]) = true then _ else none) _ _ _ _
    by_cases h : l.length < 60000 ∧ mm_oks σ (l ++ [v]) = true
    · rw [if_pos ⟨⟨trivial, h.1⟩, h.2⟩, if_pos h]; rfl
    · rw [if_neg (fun q => h ⟨q.1.2, q.2⟩), if_neg h]; rfl
theorem L_clear {i a : Nat} (hb : mm_by y = cc) (hd : decode cc pc = .ok (.invokevirtual i, 3)) (hp : pc + 3 = pc') (hu : mm_lu mm_ivt y i = some 1003) (hk : 1 ≤ mm_rk y) (hc : mm_cats st ≤ 8) : mm_L y pc ls (.ref a :: st) σ = mm_bS (mm_lcl σ a) y pc' ls st := by
  subst hp; rw [mm_Lq hb hd]; simp only [mm_step, mm_ivk, hu, if_true, mm_prim, mm_pr, hk, hc, mm_lcl]; cases mm_lst σ a <;> rfl
theorem L_linit {i a : Nat} (hb : mm_by y = cc) (hd : decode cc pc = .ok (.invokespecial i, 3)) (hp : pc + 3 = pc') (hu : mm_lu mm_ivt y i = some 1004) (hk : 5 ≤ mm_rk y) (hc : mm_cats st ≤ 8) : mm_L y pc ls (.ref a :: st) σ = mm_bS (mm_lin σ a) y pc' ls st := by
  subst hp; rw [mm_Lq hb hd]; simp only [mm_step, mm_ivk, hu, if_true, mm_prim, mm_pr, hk, mm_lin]
  show (if mm_fr σ a = true ∧ _ then _ else none) = mm_bS (if mm_fr σ a = true then _ else none) _ _ _ _
  by_cases h : mm_fr σ a = true
  · rw [if_pos ⟨h, hc⟩, if_pos h]; rfl
  · rw [if_neg (fun q => h q.1), if_neg h]; rfl
theorem L_oinit {i a : Nat} (hb : mm_by y = cc) (hd : decode cc pc = .ok (.invokespecial i, 3)) (hp : pc + 3 = pc') (hu : mm_lu mm_ivt y i = some 1005) (hk : 1 ≤ mm_rk y) (hc : mm_cats st ≤ 8) : mm_L y pc ls (.ref a :: st) σ = mm_L y pc' ls st σ := by
  subst hp; rw [mm_Lq hb hd]; simp only [mm_step, mm_ivk, hu, if_true, mm_prim, mm_pr, hk, hc]; rfl
theorem L_abs {i : Nat} {x : Int32} (hb : mm_by y = cc) (hd : decode cc pc = .ok (.invokestatic i, 3)) (hp : pc + 3 = pc') (hu : mm_lu mm_ivt y i = some 1006) (hk : 2 ≤ mm_rk y) (hc : mm_cats st ≤ 8) : mm_L y pc ls (.int x :: st) σ = mm_L y pc' ls (.int (if 0 ≤ x then x else 0 - x) :: st) σ := by
  subst hp; rw [mm_Lq hb hd]; simp only [mm_step, mm_ivk, hu, if_true, mm_prim, mm_p1, hk, hc]; rfl
theorem L_max {i : Nat} {x z : Int32} (hb : mm_by y = cc) (hd : decode cc pc = .ok (.invokestatic i, 3)) (hp : pc + 3 = pc') (hu : mm_lu mm_ivt y i = some 1007) (hk : 2 ≤ mm_rk y) (hc : mm_cats st ≤ 8) : mm_L y pc ls (.int z :: .int x :: st) σ = mm_L y pc' ls (.int (if x < z then z else x) :: st) σ := by
  subst hp; rw [mm_Lq hb hd]; simp only [mm_step, mm_ivk, hu, if_true, mm_prim, mm_p2, hk, hc]; rfl
theorem L_min {i : Nat} {x z : Int32} (hb : mm_by y = cc) (hd : decode cc pc = .ok (.invokestatic i, 3)) (hp : pc + 3 = pc') (hu : mm_lu mm_ivt y i = some 1008) (hk : 2 ≤ mm_rk y) (hc : mm_cats st ≤ 8) : mm_L y pc ls (.int z :: .int x :: st) σ = mm_L y pc' ls (.int (if z < x then z else x) :: st) σ := by
  subst hp; rw [mm_Lq hb hd]; simp only [mm_step, mm_ivk, hu, if_true, mm_prim, mm_p2, hk, hc]; rfl
end
