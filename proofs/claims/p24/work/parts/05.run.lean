/-! THE MINI MACHINE: the class's, the reference's and the law's bytecode over an abstract heap. Lists, Math and throw-sites are primitives. -/
abbrev mm_O : Type := (Nat × List Value) ⊕ ((Nat × Nat × (Nat → Int32)) ⊕ ((Nat × (Nat → Int64)) ⊕ List Nat))
/-- heap, next address, cells made, slots made -/
abbrev mm_S : Type := (Nat → Option mm_O) × Nat × Nat × Nat
abbrev mm_R : Type := (Option Value ⊕ Nat) × mm_S
abbrev mm_C : Type := Nat → Nat → List Value → List Value → mm_S → Option mm_R
def mm_un : Value := .retAddr 0
/-- the handler that takes exception E at pc -/
def mm_hd : List (Nat × Nat × Nat × Nat) → Nat → Nat → Option Nat
  | [], _, _ => none
  | (a, b, h, x) :: r, pc, E => if a ≤ pc ∧ pc < b ∧ x = E then some h else mm_hd r pc E
def mm_put (σ : mm_S) (k : Nat) (o : mm_O) : mm_S := (fun j => if j = k then some o else σ.1 j, σ.2)
def mm_new (σ : mm_S) (o : mm_O) (n : Nat) : mm_S := (fun j => if j = σ.2.1 then some o else σ.1 j, σ.2.1 + 1, σ.2.2.1 + 1, σ.2.2.2 + n)
def mm_bmp (σ : mm_S) (c n : Nat) : mm_S := (σ.1, σ.2.1, σ.2.2.1 + c, σ.2.2.2 + n)
def mm_ush (a b : Int32) : Int32 := (a.toUInt32 >>> (b.toUInt32 &&& Int32.toUInt32 31)).toInt32
-- what lies on the stack
def mm_p1 (st : List Value) (k : Int32 → List Value → Option mm_R) : Option mm_R := match st with
  | .int a :: r => k a r
  | _ => none
def mm_p2 (st : List Value) (k : Int32 → Int32 → List Value → Option mm_R) : Option mm_R := match st with
  | .int b :: .int a :: r => k a b r
  | _ => none
def mm_l2 (st : List Value) (k : Int64 → Int64 → List Value → Option mm_R) : Option mm_R := match st with
  | .long b :: .long a :: r => k a b r
  | _ => none
def mm_pr (st : List Value) (k : Nat → List Value → Option mm_R) : Option mm_R := match st with
  | .ref a :: r => k a r
  | _ => none
def mm_pi (st : List Value) (k : Nat → Int32 → List Value → Option mm_R) : Option mm_R := match st with
  | .int i :: .ref a :: r => k a i r
  | _ => none
def mm_pii (st : List Value) (k : Nat → Int32 → Int32 → List Value → Option mm_R) : Option mm_R := match st with
  | .int x :: .int i :: .ref a :: r => k a i x r
  | _ => none
def mm_pil (st : List Value) (k : Nat → Int32 → Int64 → List Value → Option mm_R) : Option mm_R := match st with
  | .long x :: .int i :: .ref a :: r => k a i x r
  | _ => none
def mm_pv (st : List Value) (k : Value → Nat → List Value → Option mm_R) : Option mm_R := match st with
  | v :: .ref a :: r => k v a r
  | _ => none
def mm_rr (st : List Value) (k : Nat → Nat → List Value → Option mm_R) : Option mm_R := match st with
  | .ref v :: .ref a :: r => k v a r
  | _ => none
def mm_nl (st : List Value) (kn kr : List Value → Option mm_R) : Option mm_R := match st with
  | .null :: r => kn r
  | .ref _ :: r => kr r
  | _ => none
/-- a value of one word that may be moved about -/
def mm_ok1 (v : Value) : Bool := match v with
  | .int _ => true
  | .ref _ => true
  | .null => true
  | _ => false
def mm_s1 (st : List Value) (k : Value → List Value → Option mm_R) : Option mm_R := match st with
  | v :: r => if mm_ok1 v = true then k v r else none
  | _ => none
def mm_s2 (st : List Value) (k : Value → Value → List Value → Option mm_R) : Option mm_R := match st with
  | v :: w :: r => if mm_ok1 v = true ∧ mm_ok1 w = true then k v w r else none
  | _ => none
def mm_lvi (ls : List Value) (n : Nat) : Option Int32 := match ls[n]? with
  | some (.int x) => some x
  | _ => none
def mm_lvr (ls : List Value) (n : Nat) : Option Value := match ls[n]? with
  | some (.ref x) => some (.ref x)
  | some .null => some .null
  | _ => none
def mm_isr (v : Value) : Bool := match v with
  | .ref _ => true
  | .null => true
  | _ => false
def mm_tg (pc : Nat) (off : Int) (k : Nat → Option mm_R) : Option mm_R := if 0 ≤ (pc : Int) + off then k ((pc : Int) + off).toNat else none
def mm_if (c : ClassFile.Cond) (a b : Int32) (t f : Option mm_R) : Option mm_R := match c with
  | .eq => if a = b then t else f
  | .ne => if a = b then f else t
  | .lt => if a < b then t else f
  | .ge => if b ≤ a then t else f
  | .gt => if b < a then t else f
  | .le => if a ≤ b then t else f
-- the heap
def mm_fld (σ : mm_S) (a ci k : Nat) : Option Value := match σ.1 a with
  | some (.inl (c, fs)) => if c = ci then fs[k]? else none
  | _ => none
def mm_geti (σ : mm_S) (a ci k : Nat) : Option Int32 := match mm_fld σ a ci k with
  | some (.int x) => some x
  | _ => none
def mm_getr (σ : mm_S) (a ci k : Nat) : Option Value := match mm_fld σ a ci k with
  | some (.ref x) => some (.ref x)
  | some .null => some .null
  | _ => none
def mm_setf (σ : mm_S) (a ci k : Nat) (v : Value) : Option mm_S := match σ.1 a with
  | some (.inl (c, fs)) => if c = ci ∧ k < fs.length then some (mm_put σ a (.inl (c, fs.set k v))) else none
  | _ => none
/-- kinds: 0 int, 1 boolean, 2 int, read alone -/
def mm_arr (σ : mm_S) (a : Nat) : Option (Nat × Nat × (Nat → Int32)) := match σ.1 a with
  | some (.inr (.inl x)) => some x
  | _ => none
def mm_lar (σ : mm_S) (a : Nat) : Option (Nat × (Nat → Int64)) := match σ.1 a with
  | some (.inr (.inr (.inl x))) => some x
  | _ => none
def mm_lst (σ : mm_S) (a : Nat) : Option (List Nat) := match σ.1 a with
  | some (.inr (.inr (.inr x))) => some x
  | _ => none
def mm_len (σ : mm_S) (a : Nat) : Option Nat := match σ.1 a with
  | some (.inr (.inl x)) => some x.2.1
  | some (.inr (.inr (.inl x))) => some x.1
  | _ => none
def mm_ald (σ : mm_S) (a : Nat) (i : Int32) (b : Bool) : Option Int32 := (mm_arr σ a).bind fun x =>
  if (i < 0 ∨ x.2.1 ≤ i.toNatClampNeg) then none else if (x.1 == 1) = b then some (x.2.2 i.toNatClampNeg) else none
def mm_ast (σ : mm_S) (a : Nat) (i : Int32) (kd : Nat) (v : Int32) : Option mm_S := (mm_arr σ a).bind fun x =>
  if (i < 0 ∨ x.2.1 ≤ i.toNatClampNeg) then none else if x.1 = kd then some (mm_put σ a (.inr (.inl (x.1, x.2.1, upd x.2.2 i.toNatClampNeg v)))) else none
def mm_ci (σ : mm_S) (a : Nat) : Option Nat := match σ.1 a with
  | some (.inl (c, _)) => some c
  | _ => none
def mm_fr (σ : mm_S) (a : Nat) : Bool := match σ.1 a with
  | some (.inl (c, [.int x, .null, .int z])) => c == 8 && x == 0 && z == 0
  | _ => false
/-- objects all -/
def mm_oks (σ : mm_S) (l : List Nat) : Bool := l.all fun a => (mm_ci σ a).isSome
-- calls
def mm_ret (r : Option mm_R) (k : Option Value → mm_S → Option mm_R) (x : Nat → mm_S → Option mm_R) : Option mm_R := match r with
  | some (.inl v, σ) => k v σ
  | some (.inr E, σ) => x E σ
  | none => none
/-- the handler's first row stores the exception: its slot is not looked at again -/
def mm_hs (y h : Nat) : Option (Nat × Nat) := match decode (mm_by y) h with
  | .ok (.astore n, 2) => some (n, h + 2)
  | .ok (.astore_n n, 1) => some (n.val, h + 1)
  | _ => none
def mm_cat (rec : mm_C) (y pc : Nat) (ls : List Value) (E : Nat) (σ : mm_S) : Option mm_R := match mm_hd (mm_lh mm_hhs y) pc E with
  | none => if mm_lh mm_hr y = [] then some (.inr E, σ) else none
  | some h => (mm_hs y h).bind fun q => if q.1 < ls.length then rec y q.2 (ls.set q.1 mm_un) [] σ else none
def mm_cats (st : List Value) : Nat := (st.map fun v => v.category).sum
def mm_ent (z : Nat) (As : List Value) : List Value := As ++ List.replicate (mm_mx z - As.length) mm_un
def mm_call (rec : mm_C) (y pc : Nat) (ls : List Value) (z : Nat) (As rest : List Value) (σ : mm_S) : Option mm_R :=
  if mm_cats rest ≤ 8 ∧ mm_rk z < mm_rk y ∧ z < 115 ∧ mm_mx z ≤ 19 ∧ As.length ≤ mm_mx z ∧ As.all mm_ok1 = true then
    mm_ret (rec z 0 (mm_ent z As) [] σ) (fun v σ => rec y (pc + 3) ls (v.toList ++ rest) σ) (fun E σ => if mm_kd z = 2 ∨ z = 101 then none else mm_cat rec y pc ls E σ)
  else none
def mm_prim (rec : mm_C) (y pc : Nat) (ls st : List Value) (σ : mm_S) (q : Nat) : Option mm_R := match q with
  | 0 => if 1 ≤ mm_rk y then mm_pr st fun a r => (mm_lst σ a).bind fun l => if mm_cats r ≤ 8 then rec y (pc + 3) ls (.int (Int32.ofNat l.length) :: r) σ else none else none
  | 1 => if 4 ≤ mm_rk y then mm_pi st fun a i r => (mm_lst σ a).bind fun l => if mm_cats r ≤ 8 then (if i < 0 ∨ l.length ≤ i.toNatClampNeg then none else
      (l[i.toNatClampNeg]?).bind fun v => rec y (pc + 3) ls (.ref v :: r) σ) else none else none
  | 2 => if 9 ≤ mm_rk y then mm_rr st fun v a r => (mm_lst σ a).bind fun l => if (mm_cats r ≤ 8 ∧ l.length < 60000) ∧ mm_oks σ (l ++ [v]) = true then
        rec y (pc + 3) ls (.int 1 :: r) (mm_bmp (mm_put σ a (.inr (.inr (.inr (l ++ [v]))))) 1 (2 * l.length + 10)) else none else none
  | 3 => if 1 ≤ mm_rk y then mm_pr st fun a r => (mm_lst σ a).bind fun l => if mm_cats r ≤ 8 then rec y (pc + 3) ls r (mm_put σ a (.inr (.inr (.inr [])))) else none else none
  | 4 => if 5 ≤ mm_rk y then mm_pr st fun a r => if mm_fr σ a = true ∧ mm_cats r ≤ 8 then rec y (pc + 3) ls r (mm_put σ a (.inr (.inr (.inr [])))) else none else none
  | 5 => if 1 ≤ mm_rk y then mm_pr st fun a r => if mm_cats r ≤ 8 then rec y (pc + 3) ls r σ else none else none
  | 6 => if 2 ≤ mm_rk y then mm_p1 st fun x r => if mm_cats r ≤ 8 then rec y (pc + 3) ls (.int (if 0 ≤ x then x else 0 - x) :: r) σ else none else none
  | 7 => if 2 ≤ mm_rk y then mm_p2 st fun x z r => if mm_cats r ≤ 8 then rec y (pc + 3) ls (.int (if x < z then z else x) :: r) σ else none else none
  | 8 => if 2 ≤ mm_rk y then mm_p2 st fun x z r => if mm_cats r ≤ 8 then rec y (pc + 3) ls (.int (if z < x then z else x) :: r) σ else none else none
  | _ => none
/-- the arguments on the stack, the last on top; an instance's receiver beneath them, of the class of the method -/
def mm_inv (rec : mm_C) (y pc : Nat) (ls st : List Value) (σ : mm_S) (z kd : Nat) : Option mm_R :=
  if mm_kd z = kd ∧ mm_np z ≤ st.length then (
    if kd = 0 then mm_call rec y pc ls z (st.take (mm_np z)).reverse (st.drop (mm_np z)) σ
    else mm_pr (st.drop (mm_np z)) fun a r => (mm_ci σ a).bind fun c => if c = mm_own z then mm_call rec y pc ls z (.ref a :: (st.take (mm_np z)).reverse) r σ else none) else none
def mm_ivk (rec : mm_C) (y pc : Nat) (ls st : List Value) (σ : mm_S) (i kd : Nat) (lo hi : Nat) : Option mm_R := match mm_lu mm_ivt y i with
  | none => none
  | some z => if z < 1000 then mm_inv rec y pc ls st σ z kd else if lo ≤ z ∧ z ≤ hi then mm_prim rec y pc ls st σ (z - 1000) else none
def mm_sto (rec : mm_C) (y pc : Nat) (ls : List Value) (n : Nat) (v : Value) (r : List Value) (σ : mm_S) : Option mm_R := if n < ls.length then rec y pc (ls.set n v) r σ else none
def mm_lod (rec : mm_C) (y pc : Nat) (ls : List Value) (n : Nat) (st : List Value) (σ : mm_S) (i : Bool) : Option mm_R :=
  if i = true then (mm_lvi ls n).bind fun x => rec y pc ls (.int x :: st) σ else (mm_lvr ls n).bind fun v => rec y pc ls (v :: st) σ
def mm_pf (y d : Nat) (v : Value) : Bool := (match d % 10, v with
  | 0, .int _ => true
  | 1, .ref _ => true
  | 1, .null => true
  | 2, .int x => x == 0 || x == 1
  | _, _ => false) && (!(mm_fin.contains (d / 1000 * 100 + d / 10 % 100)) || (mm_kd y == 2 && mm_own y == d / 1000))
def mm_rtn (y : Nat) (v : Value) : Bool := match mm_rt y, v with
  | some .int, .int _ => true
  | some .boolean, .int x => x == 0 || x == 1
  | some (.object _), .ref _ => true
  | _, _ => false
/-- new X; dup; ldc text; invokespecial X.<init>; athrow -/
def mm_thr (y pc E : Nat) : Bool := match decode (mm_by y) (pc + 3), decode (mm_by y) (pc + 4) with
  | .ok (.dup, 1), .ok (.ldc i, 2) => decide (decode (mm_by y) (pc + 6) = .ok (.invokespecial (mm_xic E), 3)) && decide (decode (mm_by y) (pc + 9) = .ok (.athrow, 1)) && mm_str.any (fun q => q.1 == i)
  | .ok (.dup, 1), .ok (.ldc_w i, 3) => decide (decode (mm_by y) (pc + 7) = .ok (.invokespecial (mm_xic E), 3)) && decide (decode (mm_by y) (pc + 10) = .ok (.athrow, 1)) && mm_str.any (fun q => q.1 == i)
  | _, _ => false
def mm_step (rec : mm_C) (y pc : Nat) (ls st : List Value) (σ : mm_S) (i : ClassFile.Instr) (len : Nat) : Option mm_R := match i with
  | .iconst n => if len = 1 then rec y (pc + 1) ls (.int (Int32.ofInt n) :: st) σ else none
  | .bipush n => if len = 2 then rec y (pc + 2) ls (.int (Int8.ofInt n).toInt32 :: st) σ else none
  | .sipush n => if len = 3 then rec y (pc + 3) ls (.int (Int16.ofInt n).toInt32 :: st) σ else none
  | .lconst n => if len = 1 then rec y (pc + 1) ls (.long (Int64.ofNat n.val) :: st) σ else none
  | .aconst_null => if len = 1 then rec y (pc + 1) ls (.null :: st) σ else none
  | .ldc k => if len = 2 then (mm_lu mm_kt y k).bind fun v => rec y (pc + 2) ls (.int (Int32.ofNat v) :: st) σ else none
  | .iload_n n => if len = 1 then mm_lod rec y (pc + 1) ls n.val st σ true else none
  | .iload n => if len = 2 then mm_lod rec y (pc + 2) ls n st σ true else none
  | .aload_n n => if len = 1 then mm_lod rec y (pc + 1) ls n.val st σ false else none
  | .aload n => if len = 2 then mm_lod rec y (pc + 2) ls n st σ false else none
  | .istore_n n => if len = 1 then mm_p1 st fun a r => mm_sto rec y (pc + 1) ls n.val (.int a) r σ else none
  | .istore n => if len = 2 then mm_p1 st fun a r => mm_sto rec y (pc + 2) ls n (.int a) r σ else none
  | .astore_n n => if len = 1 then mm_pr st fun a r => mm_sto rec y (pc + 1) ls n.val (.ref a) r σ else none
  | .astore n => if len = 2 then mm_pr st fun a r => mm_sto rec y (pc + 2) ls n (.ref a) r σ else none
  | .iinc n d => if len = 3 then (mm_lvi ls n).bind fun x => rec y (pc + 3) (ls.set n (.int (x + Int32.ofInt d))) st σ else none
  | .dup => if len = 1 then mm_s1 st fun v r => rec y (pc + 1) ls (v :: v :: r) σ else none
  | .dup_x1 => if len = 1 then mm_s2 st fun v w r => rec y (pc + 1) ls (v :: w :: v :: r) σ else none
  | .dup2 => if len = 1 then mm_s2 st fun v w r => rec y (pc + 1) ls (v :: w :: v :: w :: r) σ else none
  | .pop => if len = 1 then mm_s1 st fun v r => rec y (pc + 1) ls r σ else none
  | .iadd => if len = 1 then mm_p2 st fun a b r => rec y (pc + 1) ls (.int (a + b) :: r) σ else none
  | .isub => if len = 1 then mm_p2 st fun a b r => rec y (pc + 1) ls (.int (a - b) :: r) σ else none
  | .imul => if len = 1 then mm_p2 st fun a b r => rec y (pc + 1) ls (.int (a * b) :: r) σ else none
  | .idiv => if len = 1 then mm_p2 st fun a b r => if b = 0 then none else rec y (pc + 1) ls (.int (a / b) :: r) σ else none
  | .irem => if len = 1 then mm_p2 st fun a b r => if b = 0 then none else rec y (pc + 1) ls (.int (a - a / b * b) :: r) σ else none
  | .ineg => if len = 1 then mm_p1 st fun a r => rec y (pc + 1) ls (.int (-a) :: r) σ else none
  | .iand => if len = 1 then mm_p2 st fun a b r => rec y (pc + 1) ls (.int (a &&& b) :: r) σ else none
  | .ior => if len = 1 then mm_p2 st fun a b r => rec y (pc + 1) ls (.int (a ||| b) :: r) σ else none
  | .ixor => if len = 1 then mm_p2 st fun a b r => rec y (pc + 1) ls (.int (a ^^^ b) :: r) σ else none
  | .ishl => if len = 1 then mm_p2 st fun a b r => rec y (pc + 1) ls (.int (a <<< (b &&& 31)) :: r) σ else none
  | .ishr => if len = 1 then mm_p2 st fun a b r => rec y (pc + 1) ls (.int (a >>> (b &&& 31)) :: r) σ else none
  | .iushr => if len = 1 then mm_p2 st fun a b r => rec y (pc + 1) ls (.int (mm_ush a b) :: r) σ else none
  | .i2l => if len = 1 then mm_p1 st fun a r => rec y (pc + 1) ls (.long a.toInt64 :: r) σ else none
  | .lcmp => if len = 1 then mm_l2 st fun a b r => rec y (pc + 1) ls (.int (lg_cmp a b) :: r) σ else none
  | .goto off => if len = 3 then mm_tg pc off fun t => rec y t ls st σ else none
  | .ifCond c off => if len = 3 then mm_p1 st fun a r => mm_tg pc off fun t => mm_if c a 0 (rec y t ls r σ) (rec y (pc + 3) ls r σ) else none
  | .if_icmp c off => if len = 3 then mm_p2 st fun a b r => mm_tg pc off fun t => mm_if c a b (rec y t ls r σ) (rec y (pc + 3) ls r σ) else none
  | .ifnull off => if len = 3 then mm_nl st (fun r => mm_tg pc off fun t => rec y t ls r σ) (fun r => rec y (pc + 3) ls r σ) else none
  | .tableswitch d lo hi offs => mm_p1 st fun a r => if a.toInt < lo ∨ hi < a.toInt then mm_tg pc d fun t => rec y t ls r σ else
      (offs[(a.toInt - lo).toNat]?).bind fun off => mm_tg pc off fun t => rec y t ls r σ
  | .lookupswitch d ps => mm_p1 st fun a r => if (ps.toList.zip (ps.toList.drop 1)).all (fun (x, next) => x.1 < next.1) = true then
      mm_tg pc (Op.lookupswitch.offset ps.toList d a.toInt) fun t => rec y t ls r σ else none
  | .arraylength => if len = 1 then mm_pr st fun a r => (mm_len σ a).bind fun n => rec y (pc + 1) ls (.int (Int32.ofNat n) :: r) σ else none
  | .iaload => if len = 1 then mm_pi st fun a j r => (mm_ald σ a j false).bind fun x => rec y (pc + 1) ls (.int x :: r) σ else none
  | .baload => if len = 1 then mm_pi st fun a j r => (mm_ald σ a j true).bind fun x => rec y (pc + 1) ls (.int x :: r) σ else none
  | .iastore => if len = 1 then mm_pii st fun a j x r => (mm_ast σ a j 0 x).bind fun σ => rec y (pc + 1) ls r σ else none
  | .bastore => if len = 1 then mm_pii st fun a j x r => if x = 0 ∨ x = 1 then (mm_ast σ a j 1 x).bind fun σ => rec y (pc + 1) ls r σ else none else none
  | .laload => if len = 1 then mm_pi st fun a j r => (mm_lar σ a).bind fun x => if j < 0 ∨ x.1 ≤ j.toNatClampNeg then none else rec y (pc + 1) ls (.long (x.2 j.toNatClampNeg) :: r) σ else none
  | .lastore => if len = 1 then mm_pil st fun a j v r => (mm_lar σ a).bind fun x => if j < 0 ∨ x.1 ≤ j.toNatClampNeg then none else
      rec y (pc + 1) ls r (mm_put σ a (.inr (.inr (.inl (x.1, vp_updL x.2 j.toNatClampNeg v))))) else none
  | .getfield k => if len = 3 then (mm_lu mm_fdt y k).bind fun d => mm_pr st fun a r =>
      if d % 10 = 1 then (mm_getr σ a (d / 1000) (d / 10 % 100)).bind fun v => rec y (pc + 3) ls (v :: r) σ
      else (mm_geti σ a (d / 1000) (d / 10 % 100)).bind fun x => rec y (pc + 3) ls (.int x :: r) σ else none
  | .putfield k => if len = 3 then (mm_lu mm_fdt y k).bind fun d => mm_pv st fun v a r =>
      if mm_pf y d v = true then (mm_setf σ a (d / 1000) (d / 10 % 100) v).bind fun σ => rec y (pc + 3) ls r σ else none else none
  | .getstatic k => if len = 3 ∧ mm_own y = 6 ∧ k = 216 then rec y (pc + 3) ls (.ref 1 :: st) σ else none
  | .new k => if len = 3 then (mm_lu mm_nwt y k).bind fun c =>
      if c < 100 then (mm_dfl[c]?).bind fun fs => rec y (pc + 3) ls (.ref σ.2.1 :: st) (mm_new σ (.inl (c, fs)) fs.length)
      else if mm_cats st ≤ 8 ∧ 7 ≤ mm_rk y ∧ mm_lh mm_hr y = [] ∧ mm_own y = 6 ∧ mm_thr y pc (c - 100) = true then some (.inr (c - 100), mm_bmp σ 1 6) else none else none
  | .newarray t => if len = 2 then mm_p1 st fun n r => if n < 0 ∨ 100000 < n.toNatClampNeg then none else (match t with
    | .int => rec y (pc + 2) ls (.ref σ.2.1 :: r) (mm_new σ (.inr (.inl (0, n.toNatClampNeg, fun _ => 0))) n.toNatClampNeg)
    | .boolean => rec y (pc + 2) ls (.ref σ.2.1 :: r) (mm_new σ (.inr (.inl (1, n.toNatClampNeg, fun _ => 0))) n.toNatClampNeg)
    | _ => none) else none
  | .checkcast k => if len = 3 then (mm_lu mm_cct y k).bind fun c => mm_pr st fun a r => (mm_ci σ a).bind fun ci => if ci = c then rec y (pc + 3) ls (.ref a :: r) σ else none else none
  | .invokestatic k => if len = 3 then mm_ivk rec y pc ls st σ k 0 1006 1008 else none
  | .invokevirtual k => if len = 3 then mm_ivk rec y pc ls st σ k 1 1000 1003 else none
  | .invokespecial k => if len = 3 then mm_ivk rec y pc ls st σ k 2 1004 1005 else none
  | .ireturn => if len = 1 then (match st with
    | [.int x] => if mm_rtn y (.int x) = true then some (.inl (some (.int x)), σ) else none
    | _ => none) else none
  | .areturn => if len = 1 then (match st with
    | [.ref x] => if mm_rtn y (.ref x) = true then some (.inl (some (.ref x)), σ) else none
    | _ => none) else none
  | .return_ => if len = 1 ∧ st = [] ∧ mm_rt y = none then some (.inl none, σ) else none
  | _ => none
def mm_run : Nat → mm_C
  | 0 => fun _ _ _ _ _ => none
  | n + 1 => fun y pc ls st σ => match decode (mm_by y) pc with
    | .ok (i, len) => mm_step (mm_run n) y pc ls st σ i len
    | _ => none
