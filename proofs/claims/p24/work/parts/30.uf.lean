/-! LEVEL 2: a row is written -/
def uf (f : Nat → Nat → Int32) (a i : Nat) (x : Int32) : Nat → Nat → Int32 := fun b => if b = a then upd (f b) i x else f b
theorem uf_s (f : Nat → Nat → Int32) (a i : Nat) (x : Int32) : uf f a i x a = upd (f a) i x := if_pos rfl
theorem uf_n {f : Nat → Nat → Int32} {a i b : Nat} {x : Int32} (h : b ≠ a) : uf f a i x b = f b := if_neg h
theorem if_pd {α : Type} {p : Prop} {d : Decidable p} {a b : α} (h : p) : @ite α p d a b = a := if_pos h
theorem if_nd {α : Type} {p : Prop} {d : Decidable p} {a b : α} (h : ¬ p) : @ite α p d a b = b := if_neg h
