def mm_lk : List (Nat × Nat) → Nat → Option Nat
  | [], _ => none
  | (a, b) :: r, k => if a = k then some b else mm_lk r k
def mm_lh : List (Nat × List (Nat × Nat × Nat × Nat)) → Nat → List (Nat × Nat × Nat × Nat)
  | [], _ => []
  | (a, b) :: r, k => if a = k then b else mm_lh r k
def mm_own (y : Nat) : Nat := (mm_in y).1
def mm_mx (y : Nat) : Nat := (mm_in y).2.1
def mm_np (y : Nat) : Nat := (mm_in y).2.2.1
def mm_kd (y : Nat) : Nat := (mm_in y).2.2.2.1
def mm_rk (y : Nat) : Nat := (mm_in y).2.2.2.2
def mm_key (y i : Nat) : Nat := mm_own y * 1000 + i
def mm_lu (t : List (Nat × Nat)) (y i : Nat) : Option Nat := if i < 1000 then mm_lk t (mm_key y i) else none

def mm_xic (E : Nat) : Nat := match E with
  | 0 => 46
  | 1 => 62
  | _ => 144
def mm_str : List (Nat × String) := tables_1.filterMap fun w => match w with
  | .stringRef own k tx => if own = RX6 then some (k, tx) else none
  | _ => none

def mm_good : List Cond := lw_tbl.filter goodWord
def mm_chain : List String := ["java/lang/RuntimeException", "java/lang/Exception"]
def mm_xn (E : Nat) : String := match E with
  | 0 => "java/lang/IllegalArgumentException"
  | 1 => "java/lang/IllegalStateException"
  | _ => "java/lang/IndexOutOfBoundsException"
def mm_cn (c : Nat) : String := match c with
  | 0 => RX0
  | 1 => RX1
  | 2 => RX2
  | 3 => RX3
  | 4 => RX4
  | 5 => RX5
  | 6 => RX6
  | 7 => RX5
  | 8 => RJx4a65c
  | _ => RL
def mm_nst : List Cond := tables_1.filter fun w => match w with
  | .fieldLinkNest .. => true
  | .methodLinkNest .. => true
  | _ => false
