/-! LEVEL 2: numbers -/
def bz (p : Prop) [Decidable p] : Int32 := if p then 1 else 0
theorem bz_0 (p : Prop) [Decidable p] : (bz p = 0) = ¬ p := by unfold bz; by_cases h : p <;> simp [h]
theorem bz_1 (p : Prop) [Decidable p] : (bz p = 1) = p := by unfold bz; by_cases h : p <;> simp [h]
theorem bz_01 (p : Prop) [Decidable p] : (bz p = 0 ∨ bz p = 1) = True := by unfold bz; by_cases h : p <;> simp [h]
theorem bz_t {p : Prop} [Decidable p] (h : p) : bz p = 1 := if_pos h
theorem bz_f {p : Prop} [Decidable p] (h : ¬ p) : bz p = 0 := if_neg h
theorem bz_c {p q : Prop} [Decidable p] [Decidable q] (h : p ↔ q) : bz p = bz q := by unfold bz; by_cases hp : p <;> simp [hp, h.mp, ← h]
theorem lt_of_nle {a b : Int32} (h : ¬ a ≤ b) : b < a := Int32.not_le.mp h
theorem nle_of_lt {a b : Int32} (h : a < b) : ¬ b ≤ a := fun q => Int32.lt_irrefl (Int32.lt_of_lt_of_le h q)
theorem i32_nlt {a b : Int32} : (¬ a < b) = (b ≤ a) := propext Int32.not_lt
theorem i32_nle {a b : Int32} : (¬ a ≤ b) = (b < a) := propext Int32.not_le
/-- what is within 0..n-1 is a natural number -/
theorem nI_below {x : Int32} {n : Nat} (hn : n < 2 ^ 31) (h0 : 0 ≤ x) (h1 : x < nI n) : ∃ k : Nat, k < n ∧ x = nI k := by
  obtain ⟨j, h2, h3⟩ := nI_of (x := x) (by rw [i32_nlt]; exact h0)
  subst h3
  exact ⟨j, (nI_ltI h2 hn).mp h1, rfl⟩
theorem nI_upto {x : Int32} {n : Nat} (hn : n < 2 ^ 31) (h0 : 0 ≤ x) (h1 : x ≤ nI n) : ∃ k : Nat, k ≤ n ∧ x = nI k := by
  obtain ⟨j, h2, h3⟩ := nI_of (x := x) (by rw [i32_nlt]; exact h0)
  subst h3
  exact ⟨j, (nI_leI h2 hn).mp h1, rfl⟩
theorem nI_mul (a b : Nat) : nI a * nI b = nI (a * b) := (Int32.ofNat_mul a b).symm
theorem nI_sub {a b : Nat} (h : b ≤ a) : nI a - nI b = nI (a - b) := by
  have e : nI a = nI (a - b) + nI b := by rw [nI_add]; congr 1; omega
  rw [e, Int32.add_sub_cancel]
theorem nI_lit0 : (0 : Int32) = nI 0 := rfl
theorem nI_lit (n : Nat) : (OfNat.ofNat n : Int32) = nI n := rfl
theorem nI_m1 {k : Nat} (h : k < 2 ^ 31) : ¬ nI k = -1 := fun e => by
  have := congrArg Int32.toInt e
  rw [nI_toInt h] at this
  have h2 : (-1 : Int32).toInt = -1 := by decide
  rw [h2] at this
  omega
/-- a loop upward: m steps from k on -/
def up {α : Type} (s : Nat → α → α) : Nat → Nat → α → α
  | 0, _, a => a
  | m + 1, k, a => up s m (k + 1) (s k a)
/-- the first number from k on, within m -/
def fi (p : Nat → Prop) [DecidablePred p] : Nat → Nat → Option Nat
  | 0, _ => none
  | m + 1, k => if p k then some k else fi p m (k + 1)
