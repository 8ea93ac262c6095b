/-! JOINT: bits -/
theorem nI_31 {s : Nat} (hs : s < 32) : nI s &&& 31 = nI s := by
  have h : ∀ k : Fin 32, nI k.1 &&& 31 = nI k.1 := by decide
  exact h ⟨s, hs⟩
def bt (x : Int32) (s : Nat) : Bool := x.toBitVec.getLsbD s
theorem nI_smod {s : Nat} (hs : s < 32) : ((nI s).toBitVec.smod 32).toNat = s := by
  have h : ∀ k : Fin 32, ((nI k.1).toBitVec.smod 32).toNat = k.1 := by decide
  exact h ⟨s, hs⟩
theorem sh_0 (x : Int32) {s : Nat} (hs : s < 32) : bt (x >>> (nI s &&& 31)) 0 = bt x s := by
  unfold bt
  rw [nI_31 hs, Int32.toBitVec_shiftRight]
  show (x.toBitVec.sshiftRight ((nI s).toBitVec.smod 32).toNat).getLsbD 0 = _
  rw [nI_smod hs, BitVec.getLsbD_sshiftRight]
  simp [hs]
theorem and_1 (y : Int32) : (y &&& 1 = 1) ↔ bt y 0 = true := by
  unfold bt
  rw [← Int32.toBitVec_inj, Int32.toBitVec_and]
  show y.toBitVec &&& 1#32 = 1#32 ↔ _
  rw [BitVec.and_one_eq_setWidth_ofBool_getLsbD]
  cases y.toBitVec.getLsbD 0 <;> decide
theorem and_10 (y : Int32) : (y &&& 1 = 0) ↔ bt y 0 = false := by
  unfold bt
  rw [← Int32.toBitVec_inj, Int32.toBitVec_and]
  show y.toBitVec &&& 1#32 = 0#32 ↔ _
  rw [BitVec.and_one_eq_setWidth_ofBool_getLsbD]
  cases y.toBitVec.getLsbD 0 <;> decide
theorem bit_1 (x : Int32) {s : Nat} (hs : s < 32) : ((x >>> (nI s &&& 31)) &&& 1 = 1) ↔ bt x s = true := by
  rw [and_1, sh_0 x hs]
theorem bit_0 (x : Int32) {s : Nat} (hs : s < 32) : ((x >>> (nI s &&& 31)) &&& 1 = 0) ↔ bt x s = false := by
  rw [and_10, sh_0 x hs]
theorem bt_one {s k : Nat} (hs : s < 32) (hk : k < 32) : bt (1 <<< (nI s &&& 31)) k = decide (s = k) := by
  have h : ∀ a b : Fin 32, bt (1 <<< (nI a.1 &&& 31)) b.1 = decide (a.1 = b.1) := by
    unfold bt
    decide
  exact h ⟨s, hs⟩ ⟨k, hk⟩
theorem bt_xor (x y : Int32) (k : Nat) : bt (x ^^^ y) k = (bt x k ^^ bt y k) := by
  unfold bt
  rw [Int32.toBitVec_xor, BitVec.getLsbD_xor]
theorem bt_and (x y : Int32) (k : Nat) : bt (x &&& y) k = (bt x k && bt y k) := by
  unfold bt
  rw [Int32.toBitVec_and, BitVec.getLsbD_and]
theorem bt_or (x y : Int32) (k : Nat) : bt (x ||| y) k = (bt x k || bt y k) := by
  unfold bt
  rw [Int32.toBitVec_or, BitVec.getLsbD_or]
theorem bt_m1 {k : Nat} (hk : k < 32) : bt (-1) k = true := by
  have h : ∀ a : Fin 32, bt (-1) a.1 = true := by
    unfold bt
    decide
  exact h ⟨k, hk⟩
theorem bt_ext {x y : Int32} (h : ∀ k, k < 32 → bt x k = bt y k) : x = y := by
  apply Int32.toBitVec_inj.mp
  apply BitVec.eq_of_getLsbD_eq
  intro i hi
  exact h i hi
theorem bt_z {k : Nat} : bt 0 k = false := by
  unfold bt
  show (0#32).getLsbD k = false
  exact BitVec.getLsbD_zero
theorem bt_nI {x k : Nat} (hx : x < 64) (hk : 6 ≤ k) : bt (nI x) k = false := by
  unfold bt
  show (BitVec.ofNat 32 x).getLsbD k = false
  rw [BitVec.getLsbD_ofNat]
  have : x.testBit k = false := Nat.testBit_lt_two_pow (Nat.lt_of_lt_of_le hx (show 2 ^ 6 ≤ 2 ^ k from Nat.pow_le_pow_right (by decide) hk))
  rw [this]
  simp
/-- within six bits -/
theorem nI_of_bits {x : Int32} (h : ∀ k, 6 ≤ k → k < 32 → bt x k = false) : ∃ n, n < 64 ∧ x = nI n := by
  refine ⟨(x.toBitVec.setWidth 6).toNat, (x.toBitVec.setWidth 6).isLt, ?_⟩
  apply bt_ext
  intro k hk
  unfold bt
  show _ = (BitVec.ofNat 32 (x.toBitVec.setWidth 6).toNat).getLsbD k
  rw [BitVec.getLsbD_ofNat]
  show _ = (decide (k < 32) && (x.toBitVec.setWidth 6).getLsbD k)
  rw [BitVec.getLsbD_setWidth]
  by_cases h6 : k < 6
  · simp [hk, h6]
  · have := h k (by omega) hk
    unfold bt at this
    rw [this]
    simp
