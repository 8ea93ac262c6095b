/-! THE LAW'S LOOP: one turn after the other -/
theorem qd1 {Y : Nat} (h : Y < 2 ^ 31) : nI Y / 1 = nI (Y / 1) := pk_div h (by decide) (by decide)
theorem qr1 {Y : Nat} (h : Y < 2 ^ 31) : nI Y - nI (Y / 1) * 1 = nI (Y % 1) := by
  have q := pk_rem (d := 1) h (by decide) (by decide)
  rw [pk_div h (by decide) (by decide)] at q
  exact q
theorem qd2 {Y : Nat} (h : Y < 2 ^ 31) : nI Y / 2 = nI (Y / 2) := pk_div h (by decide) (by decide)
theorem qr2 {Y : Nat} (h : Y < 2 ^ 31) : nI Y - nI (Y / 2) * 2 = nI (Y % 2) := by
  have q := pk_rem (d := 2) h (by decide) (by decide)
  rw [pk_div h (by decide) (by decide)] at q
  exact q
theorem qd3 {Y : Nat} (h : Y < 2 ^ 31) : nI Y / 3 = nI (Y / 3) := pk_div h (by decide) (by decide)
theorem qr3 {Y : Nat} (h : Y < 2 ^ 31) : nI Y - nI (Y / 3) * 3 = nI (Y % 3) := by
  have q := pk_rem (d := 3) h (by decide) (by decide)
  rw [pk_div h (by decide) (by decide)] at q
  exact q
theorem qd4 {Y : Nat} (h : Y < 2 ^ 31) : nI Y / 4 = nI (Y / 4) := pk_div h (by decide) (by decide)
theorem qr4 {Y : Nat} (h : Y < 2 ^ 31) : nI Y - nI (Y / 4) * 4 = nI (Y % 4) := by
  have q := pk_rem (d := 4) h (by decide) (by decide)
  rw [pk_div h (by decide) (by decide)] at q
  exact q
theorem qd5 {Y : Nat} (h : Y < 2 ^ 31) : nI Y / 5 = nI (Y / 5) := pk_div h (by decide) (by decide)
theorem qr5 {Y : Nat} (h : Y < 2 ^ 31) : nI Y - nI (Y / 5) * 5 = nI (Y % 5) := by
  have q := pk_rem (d := 5) h (by decide) (by decide)
  rw [pk_div h (by decide) (by decide)] at q
  exact q
theorem qd6 {Y : Nat} (h : Y < 2 ^ 31) : nI Y / 6 = nI (Y / 6) := pk_div h (by decide) (by decide)
theorem qr6 {Y : Nat} (h : Y < 2 ^ 31) : nI Y - nI (Y / 6) * 6 = nI (Y % 6) := by
  have q := pk_rem (d := 6) h (by decide) (by decide)
  rw [pk_div h (by decide) (by decide)] at q
  exact q
theorem qd7 {Y : Nat} (h : Y < 2 ^ 31) : nI Y / 7 = nI (Y / 7) := pk_div h (by decide) (by decide)
theorem qr7 {Y : Nat} (h : Y < 2 ^ 31) : nI Y - nI (Y / 7) * 7 = nI (Y % 7) := by
  have q := pk_rem (d := 7) h (by decide) (by decide)
  rw [pk_div h (by decide) (by decide)] at q
  exact q
theorem qd8 {Y : Nat} (h : Y < 2 ^ 31) : nI Y / 8 = nI (Y / 8) := pk_div h (by decide) (by decide)
theorem qr8 {Y : Nat} (h : Y < 2 ^ 31) : nI Y - nI (Y / 8) * 8 = nI (Y % 8) := by
  have q := pk_rem (d := 8) h (by decide) (by decide)
  rw [pk_div h (by decide) (by decide)] at q
  exact q
theorem qd9 {Y : Nat} (h : Y < 2 ^ 31) : nI Y / 9 = nI (Y / 9) := pk_div h (by decide) (by decide)
theorem qr9 {Y : Nat} (h : Y < 2 ^ 31) : nI Y - nI (Y / 9) * 9 = nI (Y % 9) := by
  have q := pk_rem (d := 9) h (by decide) (by decide)
  rw [pk_div h (by decide) (by decide)] at q
  exact q
theorem qd12 {Y : Nat} (h : Y < 2 ^ 31) : nI Y / 12 = nI (Y / 12) := pk_div h (by decide) (by decide)
theorem qr12 {Y : Nat} (h : Y < 2 ^ 31) : nI Y - nI (Y / 12) * 12 = nI (Y % 12) := by
  have q := pk_rem (d := 12) h (by decide) (by decide)
  rw [pk_div h (by decide) (by decide)] at q
  exact q
theorem qd14 {Y : Nat} (h : Y < 2 ^ 31) : nI Y / 14 = nI (Y / 14) := pk_div h (by decide) (by decide)
theorem qr14 {Y : Nat} (h : Y < 2 ^ 31) : nI Y - nI (Y / 14) * 14 = nI (Y % 14) := by
  have q := pk_rem (d := 14) h (by decide) (by decide)
  rw [pk_div h (by decide) (by decide)] at q
  exact q
theorem qd48 {Y : Nat} (h : Y < 2 ^ 31) : nI Y / 48 = nI (Y / 48) := pk_div h (by decide) (by decide)
theorem qr48 {Y : Nat} (h : Y < 2 ^ 31) : nI Y - nI (Y / 48) * 48 = nI (Y % 48) := by
  have q := pk_rem (d := 48) h (by decide) (by decide)
  rw [pk_div h (by decide) (by decide)] at q
  exact q
theorem qd72 {Y : Nat} (h : Y < 2 ^ 31) : nI Y / 72 = nI (Y / 72) := pk_div h (by decide) (by decide)
theorem qr72 {Y : Nat} (h : Y < 2 ^ 31) : nI Y - nI (Y / 72) * 72 = nI (Y % 72) := by
  have q := pk_rem (d := 72) h (by decide) (by decide)
  rw [pk_div h (by decide) (by decide)] at q
  exact q
theorem nT_lt {a b : Nat} (h : a < b) (hb : b < 2 ^ 31) : (nI a < nI b) = True := eq_true (nI_lt h hb)
theorem nF_lt {a b : Nat} (h : b ≤ a) (ha : a < 2 ^ 31) : (nI a < nI b) = False := eq_false fun z => by
  have := (nI_ltI ha (by omega)).mp z
  omega
theorem nT_le {a b : Nat} (h : a ≤ b) (hb : b < 2 ^ 31) : (nI a ≤ nI b) = True := eq_true (nI_le h hb)
theorem nF_le {a b : Nat} (h : b < a) (ha : a < 2 ^ 31) : (nI a ≤ nI b) = False := eq_false fun z => by
  have := (nI_leI ha (by omega)).mp z
  omega
theorem nF_eq {a b : Nat} (h : a ≠ b) (ha : a < 2 ^ 31) (hb : b < 2 ^ 31) : (nI a = nI b) = False := eq_false fun z => h ((nI_eq ha hb).mp z)
theorem nT_eq {a b : Nat} (h : a = b) : (nI a = nI b) = True := eq_true (by rw [h])
theorem nIb {x m : Nat} (h : x < m) (hm : m < 2 ^ 31) : 0 ≤ nI x ∧ nI x < nI m := ⟨nI_pos' (by omega), nI_lt h hm⟩
theorem cdE_1 : cdE 1 = -73 := rfl
theorem cdE_neg (e : Nat) : cdE e < 0 := by
  unfold cdE
  split
  · decide
  · split <;> decide
theorem cdE_T (e : Nat) : (cdE e < 0) = True := eq_true (cdE_neg e)
theorem cdE_F (e : Nat) : (0 ≤ cdE e) = False := eq_false fun z => Int32.lt_irrefl (Int32.lt_of_lt_of_le (cdE_neg e) z)
theorem cdE_ne {e a : Nat} (ha : a < 2 ^ 31) : (cdE e = nI a) = False := eq_false fun z => by
  have h := cdE_neg e
  rw [z] at h
  exact Int32.lt_irrefl (Int32.lt_of_lt_of_le h (nI_pos' ha))
theorem n73 {a : Nat} (ha : a < 2 ^ 31) : ((-73 : Int32) = nI a) = False := eq_false fun z => by
  have h : (-73 : Int32) < 0 := by decide
  rw [z] at h
  exact Int32.lt_irrefl (Int32.lt_of_lt_of_le h (nI_pos' ha))
theorem pz (a : Nat) : nI a + 0 = nI a := nI_add a 0
theorem po (a : Nat) : nI a + 1 = nI (a + 1) := nI_add a 1
def LJ (L : Nat) (s : Nat → Int32) (σ : mm_S) (tg : Nat → Nat × Nat) (ad : Nat × Nat → Nat) (c : Nat → Nat) (g : Nat → Nat → Int32) : Prop :=
  WF tg ad c σ.2.1 ∧ LO σ ∧ σ.1 0 = some (.inr (.inl (2, L, s))) ∧ RI c g ∧ c 1 < 14
def BR (L : Nat) (s : Nat → Int32) (σ0 : mm_S) (k X : Nat) (x : Option mm_R) : Prop := ∃ (σ : mm_S) (tg : Nat → Nat × Nat) (ad : Nat × Nat → Nat) (c : Nat → Nat) (g : Nat → Nat → Int32) (u : Value),
  x = mm_L 115 572 [.ref 0, .ref 2, .int (nI (c 0)), .int (nI (c 1)), .int (nI (c 3)), .int (nI (c 4)), .int (nI k), .int (nI X), .int (nI (X % 9)), .int (nI (X / 9)), u] [] (CW σ tg ad c g) ∧ LJ L s σ tg ad c g ∧ σ.2.2.1 ≤ σ0.2.2.1 + 24 ∧ σ.2.2.2 ≤ σ0.2.2.2 + 1200
section
variable {L : Nat} {s : Nat → Int32} {σ σ' : mm_S} {tg tg' : Nat → Nat × Nat} {ad ad' : Nat × Nat → Nat} {c c' : Nat → Nat} {g g' : Nat → Nat → Int32} {k X : Nat}
theorem LJ.n (h : LJ L s σ tg ad c g) (w' : WF tg' ad' c' σ'.2.1) (sb : SB σ σ') (ri : RI c' g') (h14 : c' 1 < 14) : LJ L s σ' tg' ad' c' g' :=
  ⟨w', (sb 1 (by decide) (Or.inl (by decide))).trans h.2.1, (sb 0 (by decide) (Or.inl (by decide))).trans h.2.2.1, ri, h14⟩
theorem law_x (h : LJ L s σ tg ad c g) (hL : L ≤ 260) (hk : k < 70) (u7 u8 u9 u10 : Value) : ∃ X, X < 2 ^ 24 ∧ mm_L 115 36 [.ref 0, .ref 2, .int (nI (c 0)), .int (nI (c 1)), .int (nI (c 3)), .int (nI (c 4)), .int (nI k), u7, u8, u9, u10] [] (CW σ tg ad c g) = mm_L 115 59 [.ref 0, .ref 2, .int (nI (c 0)), .int (nI (c 1)), .int (nI (c 3)), .int (nI (c 4)), .int (nI k), u7, u8, u9, u10] [.int (nI X)] (CW σ tg ad c g) := by
  have e0 : (CW σ tg ad c g).1 0 = some (.inr (.inl (2, L, s))) := (CW_mid (Or.inl (by decide)) (h.1.2.no (Or.inl (by decide)))).trans h.2.2.1
  have el : mm_len (CW σ tg ad c g) 0 = some L := by unfold mm_len; rw [e0]
  by_cases hz : L = 0
  · refine ⟨91 * k, by omega, ?_⟩
    have f : (Int32.ofNat L = 0) = True := by rw [hz]; exact eq_true rfl
    have f2 : (91 : Int32) * nI k = nI (91 * k) := nI_mul 91 k
    simp only [e115_36, el, Option.map_some, K0_v, K0_n, K2_v, K2_n, bI_s, if_true, if_false, e115_38, f, e115_41, f2]
  · have hm : k % L < L := Nat.mod_lt _ (by omega)
    have f : (Int32.ofNat L = 0) = False := nF_eq (a := L) (b := 0) hz (by omega) (by decide)
    have f2 : nI k - nI k / Int32.ofNat L * Int32.ofNat L = nI (k % L) := pk_rem (d := L) (by omega) (by omega) (by omega)
    have f3 : mm_ald (CW σ tg ad c g) 0 (nI (k % L)) false = some (s (k % L)) := by
      unfold mm_ald mm_arr
      rw [e0]
      show (if nI (k % L) < 0 ∨ L ≤ (nI (k % L)).toNatClampNeg then none else if (2 == 1) = false then some (s (nI (k % L)).toNatClampNeg) else none) = _
      rw [nI_clamp (by omega), if_neg (fun q => q.elim (nI_pos (by omega)) (by omega))]
      exact if_pos (by decide)
    have hn : (s (k % L)).toBitVec.toNat < 2 ^ 32 := BitVec.isLt _
    have f4 : nI (s (k % L)).toBitVec.toNat = s (k % L) := by
      apply Int32.toBitVec_inj.mp
      apply BitVec.eq_of_toNat_eq
      show (BitVec.ofNat 32 _).toNat = _
      rw [BitVec.toNat_ofNat]
      exact Nat.mod_eq_of_lt hn
    have f5 : mm_ush (s (k % L)) 8 = nI ((s (k % L)).toBitVec.toNat / 2 ^ 8) := by
      have q := pk_ushrN hn 8 8 (by decide)
      rw [f4] at q
      exact q
    refine ⟨(s (k % L)).toBitVec.toNat / 2 ^ 8, by omega, ?_⟩
    simp only [e115_36, el, Option.map_some, K0_v, K0_n, K2_v, K2_n, bI_s, if_true, if_false, e115_38, f, e115_49, e115_54, f2, e115_55, f3, e115_56, f5]
theorem law_59 (hX : X < 2 ^ 24) (τ : mm_S) (u7 u8 u9 u : Value) : mm_L 115 59 [.ref 0, .ref 2, .int (nI (c 0)), .int (nI (c 1)), .int (nI (c 3)), .int (nI (c 4)), .int (nI k), u7, u8, u9, u] [.int (nI X)] τ = if 2 ≤ X % 9 then mm_L 115 162 [.ref 0, .ref 2, .int (nI (c 0)), .int (nI (c 1)), .int (nI (c 3)), .int (nI (c 4)), .int (nI k), .int (nI X), .int (nI (X % 9)), .int (nI (X / 9)), u] [] τ else mm_L 115 81 [.ref 0, .ref 2, .int (nI (c 0)), .int (nI (c 1)), .int (nI (c 3)), .int (nI (c 4)), .int (nI k), .int (nI X), .int (nI (X % 9)), .int (nI (X / 9)), u] [] τ := by
  simp only [e115_59, qd9 (show X < 2 ^ 31 by omega), qr9 (show X < 2 ^ 31 by omega)]
  by_cases q : 2 ≤ X % 9
  · rw [if_pos q]
    exact if_pos (show nI 2 ≤ nI (X % 9) from nI_le q (by omega))
  · rw [if_neg q]
    exact if_neg (fun z => q ((nI_leI (a := 2) (b := X % 9) (by decide) (by omega)).mp z))
theorem B_sign (h : LJ L s σ tg ad c g) (hX : X < 2 ^ 24) (u : Value) : BR L s σ k X (mm_L 115 81 [.ref 0, .ref 2, .int (nI (c 0)), .int (nI (c 1)), .int (nI (c 3)), .int (nI (c 4)), .int (nI k), .int (nI X), .int (nI (X % 9)), .int (nI (X / 9)), u] [] (CW σ tg ad c g)) := by
  have hh := h
  have hb := h.1.1
  unfold BD at hb
  obtain ⟨w, hl, h0, ri, h14⟩ := h
  have v6 : V6 (nI (X / 9 % 8)) (nI (X / 9 / 8 % 9)) (nI (X / 9 / 72 % 9)) (nI (X / 9 / 3 % 4)) (nI (X / 9 / 5 % 4)) (nI (X / 9 / 7 % 3)) := ⟨nIb (m := 8) (by omega) (by decide), nIb (m := 9) (by omega) (by decide), nIb (m := 9) (by omega) (by decide), nIb (m := 4) (by omega) (by decide), nIb (m := 4) (by omega) (by decide), nIb (m := 3) (by omega) (by decide)⟩
  have v7 : V7 (nI (X / 9 % 8)) (nI (X / 9 / 7 % 3)) (nI (X / 9 % 4)) := fun _ => Or.inr (nIb (m := 4) (by omega) (by decide))
  obtain ⟨r, c', g', ⟨σ', tg', ad', hC, w', sb, m1, m2⟩, ri', hr⟩ := O_sign w ri v6 v7
  have hA := A_107 hC
  rcases hr with ⟨rfl, h30, rfl⟩ | ⟨rfl, rfl⟩
  · have hA := hA.1 _ rfl
    have e1 : u2 c 0 (c 0 + 1) 1 = c 1 := u2_n (by decide)
    have e3 : u2 c 0 (c 0 + 1) 3 = c 3 := u2_n (by decide)
    have e4 : u2 c 0 (c 0 + 1) 4 = c 4 := u2_n (by decide)
    have f : (0 ≤ nI (c 0)) = True := nT_le (a := 0) (b := c 0) (by omega) (by omega)
    refine ⟨σ', tg', ad', _, g', .int (nI (c 0)), ?_, hh.n w' sb ri' (by rw [e1]; exact h14), by omega, by omega⟩
    rw [u2_s, e1, e3, e4]
    simp only [e115_81, qd8 (show X / 9 < 2 ^ 31 by omega), qr8 (show X / 9 < 2 ^ 31 by omega), qd9 (show X / 9 / 8 < 2 ^ 31 by omega), qr9 (show X / 9 / 8 < 2 ^ 31 by omega), qd72 (show X / 9 < 2 ^ 31 by omega), qd9 (show X / 9 / 72 < 2 ^ 31 by omega), qr9 (show X / 9 / 72 < 2 ^ 31 by omega), qd3 (show X / 9 < 2 ^ 31 by omega), qd4 (show X / 9 / 3 < 2 ^ 31 by omega), qr4 (show X / 9 / 3 < 2 ^ 31 by omega), qd5 (show X / 9 < 2 ^ 31 by omega), qd4 (show X / 9 / 5 < 2 ^ 31 by omega), qr4 (show X / 9 / 5 < 2 ^ 31 by omega), qd7 (show X / 9 < 2 ^ 31 by omega), qd3 (show X / 9 / 7 < 2 ^ 31 by omega), qr3 (show X / 9 / 7 < 2 ^ 31 by omega), qd4 (show X / 9 < 2 ^ 31 by omega), qr4 (show X / 9 < 2 ^ 31 by omega), hA, e115_129, e115_146, f, e115_156, e115_157, po, K0_v, K0_n, K2_v, K2_n, bI_s, if_true, if_false]
  · have hA := hA.2 1 (by decide) (by decide) rfl
    have f : ((-73 : Int32) = nI (c' 0)) = False := n73 (by omega)
    have f2 : (0 ≤ (-73 : Int32)) = False := by decide
    refine ⟨σ', tg', ad', _, g', .int (-73), ?_, hh.n w' sb ri' h14, by omega, by omega⟩
    simp only [e115_81, qd8 (show X / 9 < 2 ^ 31 by omega), qr8 (show X / 9 < 2 ^ 31 by omega), qd9 (show X / 9 / 8 < 2 ^ 31 by omega), qr9 (show X / 9 / 8 < 2 ^ 31 by omega), qd72 (show X / 9 < 2 ^ 31 by omega), qd9 (show X / 9 / 72 < 2 ^ 31 by omega), qr9 (show X / 9 / 72 < 2 ^ 31 by omega), qd3 (show X / 9 < 2 ^ 31 by omega), qd4 (show X / 9 / 3 < 2 ^ 31 by omega), qr4 (show X / 9 / 3 < 2 ^ 31 by omega), qd5 (show X / 9 < 2 ^ 31 by omega), qd4 (show X / 9 / 5 < 2 ^ 31 by omega), qr4 (show X / 9 / 5 < 2 ^ 31 by omega), qd7 (show X / 9 < 2 ^ 31 by omega), qd3 (show X / 9 / 7 < 2 ^ 31 by omega), qr3 (show X / 9 / 7 < 2 ^ 31 by omega), qd4 (show X / 9 < 2 ^ 31 by omega), qr4 (show X / 9 < 2 ^ 31 by omega), hA, cdE_1, e115_129, f, e115_137, e115_146, f2, e115_152, e115_157, pz, K0_v, K0_n, K2_v, K2_n, bI_s, if_true, if_false]
theorem law_item (hc : c 0 ≤ 30) (hX : X < 2 ^ 24) (u : Value) : ∃ D, 0 < D ∧ ∀ τ, mm_L 115 169 [.ref 0, .ref 2, .int (nI (c 0)), .int (nI (c 1)), .int (nI (c 3)), .int (nI (c 4)), .int (nI k), .int (nI X), .int (nI (X % 9)), .int (nI (X / 9)), u] [] τ = mm_L 115 212 [.ref 0, .ref 2, .int (nI (c 0)), .int (nI (c 1)), .int (nI (c 3)), .int (nI (c 4)), .int (nI k), .int (nI X), .int (nI (X % 9)), .int (nI (X / 9)), u] [.int (nI (X / 9 / 6 % D)), .int (nI (X / 9 % 6)), .int 3, .ref 2] τ := by
  have z0 : (nI (X / 9 % 6) = 0) = (X / 9 % 6 = 0) := propext (nI_eq (a := X / 9 % 6) (b := 0) (by omega) (by decide))
  have z4 : (nI (X / 9 % 6) = 4) = (X / 9 % 6 = 4) := propext (nI_eq (a := X / 9 % 6) (b := 4) (by omega) (by decide))
  have t1 := qd1 (Y := X / 9 / 6) (by omega)
  have r1 := qr1 (Y := X / 9 / 6) (by omega)
  have t4 := qd4 (Y := X / 9 / 6) (by omega)
  have r4 := qr4 (Y := X / 9 / 6) (by omega)
  by_cases q : X / 9 % 6 = 0 ∨ X / 9 % 6 = 4
  · by_cases q0 : c 0 = 0
    · refine ⟨1, by decide, fun τ => ?_⟩
      have f : (nI (c 0) ≤ 0) = True := by rw [q0]; decide
      rcases q with q | q
      · simp only [e115_169, qd6 (show X / 9 < 2 ^ 31 by omega), qr6 (show X / 9 < 2 ^ 31 by omega), z0, eq_true q, e115_198, f, e115_206, e115_211, nd_1_0, t1, r1, K0_v, K0_n, K2_v, K2_n, bI_s, if_true, if_false]
      · have q' : (X / 9 % 6 = 0) = False := eq_false (by omega)
        simp only [e115_169, qd6 (show X / 9 < 2 ^ 31 by omega), qr6 (show X / 9 < 2 ^ 31 by omega), z0, q', e115_189, z4, eq_true q, e115_198, f, e115_206, e115_211, nd_1_0, t1, r1, K0_v, K0_n, K2_v, K2_n, bI_s, if_true, if_false]
    · refine ⟨c 0, by omega, fun τ => ?_⟩
      have f : (nI (c 0) ≤ 0) = False := nF_le (a := c 0) (b := 0) (by omega) (by omega)
      have f2 : (nI (c 0) = 0) = False := nF_eq (a := c 0) (b := 0) q0 (by omega) (by decide)
      have f3 : nI (X / 9 / 6) - nI (X / 9 / 6) / nI (c 0) * nI (c 0) = nI (X / 9 / 6 % c 0) := pk_rem (by omega) (by omega) (by omega)
      rcases q with q | q
      · simp only [e115_169, qd6 (show X / 9 < 2 ^ 31 by omega), qr6 (show X / 9 < 2 ^ 31 by omega), z0, eq_true q, e115_198, f, e115_202, e115_211, f2, f3, K0_v, K0_n, K2_v, K2_n, bI_s, if_true, if_false]
      · have q' : (X / 9 % 6 = 0) = False := eq_false (by omega)
        simp only [e115_169, qd6 (show X / 9 < 2 ^ 31 by omega), qr6 (show X / 9 < 2 ^ 31 by omega), z0, q', e115_189, z4, eq_true q, e115_198, f, e115_202, e115_211, f2, f3, K0_v, K0_n, K2_v, K2_n, bI_s, if_true, if_false]
  · refine ⟨4, by decide, fun τ => ?_⟩
    have q0 : (X / 9 % 6 = 0) = False := eq_false (fun z => q (Or.inl z))
    have q4 : (X / 9 % 6 = 4) = False := eq_false (fun z => q (Or.inr z))
    simp only [e115_169, qd6 (show X / 9 < 2 ^ 31 by omega), qr6 (show X / 9 < 2 ^ 31 by omega), z0, q0, e115_189, z4, q4, e115_210, e115_211, nd_4_0, t4, r4, K0_v, K0_n, K2_v, K2_n, bI_s, if_true, if_false]
theorem B_item (h : LJ L s σ tg ad c g) (hX : X < 2 ^ 24) (h6 : X % 9 < 6) (u : Value) : BR L s σ k X (mm_L 115 162 [.ref 0, .ref 2, .int (nI (c 0)), .int (nI (c 1)), .int (nI (c 3)), .int (nI (c 4)), .int (nI k), .int (nI X), .int (nI (X % 9)), .int (nI (X / 9)), u] [] (CW σ tg ad c g)) := by
  have hh := h
  have hb := h.1.1
  unfold BD at hb
  obtain ⟨w, hl, h0, ri, h14⟩ := h
  obtain ⟨D, hD, hkey⟩ := law_item (c := c) (k := k) (X := X) (by omega) hX u
  have f6 : (6 ≤ nI (X % 9)) = False := nF_le (a := 6) (b := X % 9) h6 (by decide)
  obtain ⟨r, c', g', ⟨σ', tg', ad', hC, w', sb, m1, m2⟩, ri', hr⟩ := O_item w hl ri (nI (X / 9 % 6)) (nI (X / 9 / 6 % D)) (nI (X / 9 / 12 % 4)) (nI (X / 9 / 48 % 4)) h14
  have hA := A_3 hC
  rcases hr with ⟨rfl, rfl⟩ | ⟨e, he, rfl, rfl⟩
  · have hA := hA.1 _ rfl
    have e0 : u2 c 1 (c 1 + 1) 0 = c 0 := u2_n (by decide)
    have e3 : u2 c 1 (c 1 + 1) 3 = c 3 := u2_n (by decide)
    have e4 : u2 c 1 (c 1 + 1) 4 = c 4 := u2_n (by decide)
    have f1 : (nI (c 1 + 1) < 0) = False := nF_lt (a := c 1 + 1) (b := 0) (by omega) (by omega)
    have f2 : (0 ≤ nI (c 1 + 1)) = True := nT_le (a := 0) (b := c 1 + 1) (by omega) (by omega)
    have d14 := qd14 (Y := c 1 + 1) (by omega)
    have r14 := qr14 (Y := c 1 + 1) (by omega)
    by_cases h13 : c 1 + 1 = 14
    · obtain ⟨⟨σ2, tg2, ad2, hC2, w2, sb2, m3, m4⟩, ri2⟩ := O_clear w' ri'
      rw [u2_s] at hC2
      have f3 : (nI (c 1 + 1) = 14) = True := nT_eq (b := 14) h13
      have x0 : u2 (u2 (u2 c 1 (c 1 + 1)) 1 0) 2 0 0 = c 0 := by rw [u2_n (by decide), u2_n (by decide), u2_n (by decide)]
      have x1 : u2 (u2 (u2 c 1 (c 1 + 1)) 1 0) 2 0 1 = 0 := by rw [u2_n (by decide), u2_s]
      have x3 : u2 (u2 (u2 c 1 (c 1 + 1)) 1 0) 2 0 3 = c 3 := by rw [u2_n (by decide), u2_n (by decide), u2_n (by decide)]
      have x4 : u2 (u2 (u2 c 1 (c 1 + 1)) 1 0) 2 0 4 = c 4 := by rw [u2_n (by decide), u2_n (by decide), u2_n (by decide)]
      have f4 : (c 1 + 1) % 14 = 0 := by omega
      refine ⟨σ2, tg2, ad2, _, g', .int (nI (c 1 + 1)), ?_, hh.n w2 (sb.trans sb2) ri2 (by rw [x1]; decide), by omega, by omega⟩
      rw [x0, x1, x3, x4]
      simp only [e115_162, f6, hkey, e115_212, qd12 (show X / 9 < 2 ^ 31 by omega), qd4 (show X / 9 / 12 < 2 ^ 31 by omega), qr4 (show X / 9 / 12 < 2 ^ 31 by omega), qd48 (show X / 9 < 2 ^ 31 by omega), qd4 (show X / 9 / 48 < 2 ^ 31 by omega), qr4 (show X / 9 / 48 < 2 ^ 31 by omega), hA, e115_229, f1, e115_236, po, e115_246, f2, e115_256, e115_257, f3, e115_265, aM_37, hC2, e115_269, e115_276, d14, r14, f4, K0_v, K0_n, K2_v, K2_n, bI_s, if_true, if_false]
    · have f3 : (nI (c 1 + 1) = 14) = False := nF_eq (b := 14) h13 (by omega) (by decide)
      have f4 : (c 1 + 1) % 14 = c 1 + 1 := by omega
      refine ⟨σ', tg', ad', _, g', .int (nI (c 1 + 1)), ?_, hh.n w' sb ri' (by rw [u2_s]; omega), by omega, by omega⟩
      rw [u2_s, e0, e3, e4]
      simp only [e115_162, f6, hkey, e115_212, qd12 (show X / 9 < 2 ^ 31 by omega), qd4 (show X / 9 / 12 < 2 ^ 31 by omega), qr4 (show X / 9 / 12 < 2 ^ 31 by omega), qd48 (show X / 9 < 2 ^ 31 by omega), qd4 (show X / 9 / 48 < 2 ^ 31 by omega), qr4 (show X / 9 / 48 < 2 ^ 31 by omega), hA, e115_229, f1, e115_236, po, e115_246, f2, e115_256, e115_257, f3, e115_276, d14, r14, f4, K0_v, K0_n, K2_v, K2_n, bI_s, if_true, if_false]
  · have hA := hA.2 e he rfl
    have f3 : (nI (c' 1) = 14) = False := nF_eq (b := 14) (by omega) (by omega) (by decide)
    have f4 : c' 1 % 14 = c' 1 := by omega
    have d14 := qd14 (Y := c' 1) (by omega)
    have r14 := qr14 (Y := c' 1) (by omega)
    refine ⟨σ', tg', ad', _, g', .int (cdE e), ?_, hh.n w' sb ri' h14, by omega, by omega⟩
    simp only [e115_162, f6, hkey, e115_212, qd12 (show X / 9 < 2 ^ 31 by omega), qd4 (show X / 9 / 12 < 2 ^ 31 by omega), qr4 (show X / 9 / 12 < 2 ^ 31 by omega), qd48 (show X / 9 < 2 ^ 31 by omega), qd4 (show X / 9 / 48 < 2 ^ 31 by omega), qr4 (show X / 9 / 48 < 2 ^ 31 by omega), hA, e115_229, cdE_T, cdE_F, e115_246, e115_252, pz, e115_257, f3, e115_276, d14, r14, f4, K0_v, K0_n, K2_v, K2_n, bI_s, if_true, if_false]
theorem law_r1 (h : LJ L s σ tg ad c g) (hX : X < 2 ^ 24) (u : Value) : ∃ (σ' : mm_S) (tg' : Nat → Nat × Nat) (ad' : Nat × Nat → Nat) (c' : Nat → Nat) (g' : Nat → Nat → Int32) (u' : Int32), mm_L 115 291 [.ref 0, .ref 2, .int (nI (c 0)), .int (nI (c 1)), .int (nI (c 3)), .int (nI (c 4)), .int (nI k), .int (nI X), .int (nI (X % 9)), .int (nI (X / 9)), u] [] (CW σ tg ad c g) = (if nI (c' 0) ≤ 0 then mm_L 115 368 [.ref 0, .ref 2, .int (nI (c' 0)), .int (nI (c' 1)), .int (nI (c' 3)), .int (nI (c' 4)), .int (nI k), .int (nI X), .int (nI (X % 9)), .int (nI (X / 9)), .int u'] [] (CW σ' tg' ad' c' g') else mm_L 115 348 [.ref 0, .ref 2, .int (nI (c' 0)), .int (nI (c' 1)), .int (nI (c' 3)), .int (nI (c' 4)), .int (nI k), .int (nI X), .int (nI (X % 9)), .int (nI (X / 9)), .int u'] [] (CW σ' tg' ad' c' g')) ∧ LJ L s σ' tg' ad' c' g' ∧ 0 < c' 3 ∧ σ'.2.2.1 ≤ σ.2.2.1 + 8 ∧ σ'.2.2.2 ≤ σ.2.2.2 + 400 := by
  have hh := h
  have hb := h.1.1
  unfold BD at hb
  obtain ⟨w, hl, h0, ri, h14⟩ := h
  obtain ⟨r, c', g', ⟨σ', tg', ad', hC, w', sb, m1, m2⟩, ri', hr⟩ := O_rule w ri (a := nI (X / 9 % 5)) (nIb (m := 5) (by omega) (by decide))
  have hA := A_7 (q := 0) (s := 0) (t := 0) hC
  rcases hr with ⟨rfl, h6, rfl⟩ | ⟨rfl, h6, rfl⟩
  · have hA := hA.1 _ rfl
    have e0 : u2 c 3 (c 3 + 1) 0 = c 0 := u2_n (by decide)
    have e1 : u2 c 3 (c 3 + 1) 1 = c 1 := u2_n (by decide)
    have e4 : u2 c 3 (c 3 + 1) 4 = c 4 := u2_n (by decide)
    have f : (6 ≤ nI (c 3)) = False := nF_le (a := 6) (b := c 3) h6 (by decide)
    refine ⟨σ', tg', ad', _, g', nI (c 3), ?_, hh.n w' sb ri' (by rw [e1]; exact h14), by rw [u2_s]; omega, by omega, by omega⟩
    rw [u2_s, e0, e1, e4]
    simp only [e115_291, qd5 (show X / 9 < 2 ^ 31 by omega), qr5 (show X / 9 < 2 ^ 31 by omega), hA, e115_304, f, e115_315, e115_322, e115_327, e115_336, e115_341, po, K0_v, K0_n, K2_v, K2_n, bI_s, if_true, if_false]
  · have hA := hA.2 1 (by decide) rfl
    have f : (6 ≤ nI (c' 3)) = True := nT_le (a := 6) (b := c' 3) (by omega) (by omega)
    refine ⟨σ', tg', ad', _, g', -73, ?_, hh.n w' sb ri' h14, by omega, by omega, by omega⟩
    simp only [e115_291, qd5 (show X / 9 < 2 ^ 31 by omega), qr5 (show X / 9 < 2 ^ 31 by omega), hA, cdE_1, e115_304, f, e115_320, e115_322, e115_327, e115_340, e115_341, pz, K0_v, K0_n, K2_v, K2_n, bI_s, if_true, if_false]
theorem law_r2 (h : LJ L s σ tg ad c g) (hX : X < 2 ^ 24) (hr : 0 < c 3) (hs : 0 < c 0) (u : Int32) : ∃ (σ' : mm_S) (tg' : Nat → Nat × Nat) (ad' : Nat × Nat → Nat) (g' : Nat → Nat → Int32), mm_L 115 348 [.ref 0, .ref 2, .int (nI (c 0)), .int (nI (c 1)), .int (nI (c 3)), .int (nI (c 4)), .int (nI k), .int (nI X), .int (nI (X % 9)), .int (nI (X / 9)), .int u] [] (CW σ tg ad c g) = mm_L 115 368 [.ref 0, .ref 2, .int (nI (c 0)), .int (nI (c 1)), .int (nI (c 3)), .int (nI (c 4)), .int (nI k), .int (nI X), .int (nI (X % 9)), .int (nI (X / 9)), .int u] [] (CW σ' tg' ad' c g') ∧ LJ L s σ' tg' ad' c g' ∧ σ'.2.2.1 ≤ σ.2.2.1 + 8 ∧ σ'.2.2.2 ≤ σ.2.2.2 + 400 := by
  have hh := h
  have hb := h.1.1
  unfold BD at hb
  obtain ⟨w, hl, h0, ri, h14⟩ := h
  obtain ⟨g', v, ⟨σ', tg', ad', hC, w', sb, m1, m2⟩, ri', hv⟩ := O_except w ri (i := X / 9 % c 3) (s := X / 9 % c 0) (Nat.mod_lt _ hr) (Nat.mod_lt _ hs)
  have hA := (A_8 (s := 0) (t := 0) hC).1 _ rfl
  have f1 : (nI (c 3) = 0) = False := nF_eq (a := c 3) (b := 0) (by omega) (by omega) (by decide)
  have f2 : (nI (c 0) = 0) = False := nF_eq (a := c 0) (b := 0) (by omega) (by omega) (by decide)
  have f3 : nI (X / 9) - nI (X / 9) / nI (c 3) * nI (c 3) = nI (X / 9 % c 3) := pk_rem (by omega) (by omega) (by omega)
  have f4 : nI (X / 9) - nI (X / 9) / nI (c 0) * nI (c 0) = nI (X / 9 % c 0) := pk_rem (by omega) (by omega) (by omega)
  have f5 : ((if v = 0 then (0 : Int32) else 1) < 0) = False := by rcases hv with e | e <;> subst e <;> decide
  refine ⟨σ', tg', ad', g', ?_, hh.n w' sb ri' h14, by omega, by omega⟩
  simp only [e115_348, f1, f3, e115_356, f2, f4, e115_360, hA, e115_365, f5, K0_v, K0_n, K2_v, K2_n, bI_s, if_true, if_false]
theorem law_r3 (h : LJ L s σ tg ad c g) (hX : X < 2 ^ 24) (u : Int32) : ∃ (σ' : mm_S) (tg' : Nat → Nat × Nat) (ad' : Nat × Nat → Nat) (c' : Nat → Nat) (g' : Nat → Nat → Int32), mm_L 115 368 [.ref 0, .ref 2, .int (nI (c 0)), .int (nI (c 1)), .int (nI (c 3)), .int (nI (c 4)), .int (nI k), .int (nI X), .int (nI (X % 9)), .int (nI (X / 9)), .int u] [] (CW σ tg ad c g) = mm_L 115 572 [.ref 0, .ref 2, .int (nI (c' 0)), .int (nI (c' 1)), .int (nI (c' 3)), .int (nI (c' 4)), .int (nI k), .int (nI X), .int (nI (X % 9)), .int (nI (X / 9)), .int u] [] (CW σ' tg' ad' c' g') ∧ LJ L s σ' tg' ad' c' g' ∧ σ'.2.2.1 ≤ σ.2.2.1 + 8 ∧ σ'.2.2.2 ≤ σ.2.2.2 + 400 := by
  have hh := h
  have hb := h.1.1
  unfold BD at hb
  obtain ⟨w, hl, h0, ri, h14⟩ := h
  by_cases h1 : c 1 = 0
  · have f : (nI (c 1) ≤ 0) = True := by rw [h1]; decide
    refine ⟨σ, tg, ad, c, g, ?_, hh, by omega, by omega⟩
    simp only [e115_368, f, e115_398, K0_v, K0_n, K2_v, K2_n, bI_s, if_true, if_false]
  · have hm : X / 9 / 4 % c 1 < c 1 := Nat.mod_lt _ (by omega)
    obtain ⟨r, c', g', ⟨σ', tg', ad', hC, w', sb, m1, m2⟩, ri', hcc, hr⟩ := O_face w ri (a := nI (X / 9 % 4)) (p := X / 9 / 4 % c 1) (q := c 1 - 1) (nIb (m := 4) (by omega) (by decide)) (by omega) (by omega)
    have f1 : (nI (c 1) ≤ 0) = False := nF_le (a := c 1) (b := 0) (by omega) (by omega)
    have f2 : (nI (c 1) = 0) = False := nF_eq (a := c 1) (b := 0) h1 (by omega) (by decide)
    have f3 : nI (X / 9 / 4) - nI (X / 9 / 4) / nI (c 1) * nI (c 1) = nI (X / 9 / 4 % c 1) := pk_rem (by omega) (by omega) (by omega)
    have f4 : nI (c 1) - 1 = nI (c 1 - 1) := nI_sub (a := c 1) (b := 1) (by omega)
    have x0 := hcc 0 (by decide)
    have x1 := hcc 1 (by decide)
    have x3 := hcc 3 (by decide)
    have x4 := hcc 4 (by decide)
    have hA := A_4 (t := 0) hC
    refine ⟨σ', tg', ad', c', g', ?_, hh.n w' sb ri' (by rw [x1]; exact h14), by omega, by omega⟩
    rw [x0, x1, x3, x4]
    rcases hr with ⟨v, hv, rfl⟩ | rfl
    · have hA := hA.1 _ rfl
      have f5 : (nI v = -71) = False := eq_false fun z => by
        have y : 0 ≤ nI v := nI_pos' hv
        rw [z] at y
        exact absurd y (by decide)
      simp only [e115_368, f1, e115_372, f2, qd4 (show X / 9 < 2 ^ 31 by omega), qr4 (show X / 9 < 2 ^ 31 by omega), f3, e115_384, f4, hA, e115_391, f5, e115_398, K0_v, K0_n, K2_v, K2_n, bI_s, if_true, if_false]
    · have hA := hA.2 1 (by decide) rfl
      have f5 : ((-73 : Int32) = -71) = False := by decide
      simp only [e115_368, f1, e115_372, f2, qd4 (show X / 9 < 2 ^ 31 by omega), qr4 (show X / 9 < 2 ^ 31 by omega), f3, e115_384, f4, hA, cdE_1, e115_391, f5, e115_398, K0_v, K0_n, K2_v, K2_n, bI_s, if_true, if_false]
theorem B_rule (h : LJ L s σ tg ad c g) (hX : X < 2 ^ 24) (h6 : X % 9 = 6) (u : Value) : BR L s σ k X (mm_L 115 162 [.ref 0, .ref 2, .int (nI (c 0)), .int (nI (c 1)), .int (nI (c 3)), .int (nI (c 4)), .int (nI k), .int (nI X), .int (nI (X % 9)), .int (nI (X / 9)), u] [] (CW σ tg ad c g)) := by
  have f1 : (6 ≤ nI (X % 9)) = True := by rw [h6]; decide
  have f2 : (nI (X % 9) = 6) = True := by rw [h6]; decide
  have e : mm_L 115 162 [.ref 0, .ref 2, .int (nI (c 0)), .int (nI (c 1)), .int (nI (c 3)), .int (nI (c 4)), .int (nI k), .int (nI X), .int (nI (X % 9)), .int (nI (X / 9)), u] [] (CW σ tg ad c g) = mm_L 115 291 [.ref 0, .ref 2, .int (nI (c 0)), .int (nI (c 1)), .int (nI (c 3)), .int (nI (c 4)), .int (nI k), .int (nI X), .int (nI (X % 9)), .int (nI (X / 9)), u] [] (CW σ tg ad c g) := by simp only [e115_162, f1, e115_284, f2, K0_v, K0_n, K2_v, K2_n, bI_s, if_true, if_false]
  rw [e]
  obtain ⟨σ1, tg1, ad1, c1, g1, u1, q1, h1, hr, m1, m2⟩ := law_r1 (k := k) h hX u
  rw [q1]
  have hb := h1.1.1
  unfold BD at hb
  by_cases z : c1 0 = 0
  · rw [if_pos (by rw [z]; decide)]
    obtain ⟨σ3, tg3, ad3, c3, g3, q3, h3, m5, m6⟩ := law_r3 (k := k) h1 hX u1
    exact ⟨σ3, tg3, ad3, c3, g3, .int u1, q3, h3, by omega, by omega⟩
  · rw [if_neg (fun y => by have := (nI_leI (a := c1 0) (b := 0) (by omega) (by decide)).mp y; omega)]
    obtain ⟨σ2, tg2, ad2, g2, q2, h2, m3, m4⟩ := law_r2 (k := k) h1 hX hr (by omega) u1
    obtain ⟨σ3, tg3, ad3, c3, g3, q3, h3, m5, m6⟩ := law_r3 (k := k) h2 hX u1
    exact ⟨σ3, tg3, ad3, c3, g3, .int u1, q2.trans q3, h3, by omega, by omega⟩
theorem B_take (h : LJ L s σ tg ad c g) (hX : X < 2 ^ 24) (h7 : X % 9 = 7) (u : Value) : BR L s σ k X (mm_L 115 162 [.ref 0, .ref 2, .int (nI (c 0)), .int (nI (c 1)), .int (nI (c 3)), .int (nI (c 4)), .int (nI k), .int (nI X), .int (nI (X % 9)), .int (nI (X / 9)), u] [] (CW σ tg ad c g)) := by
  have hh := h
  have hb := h.1.1
  unfold BD at hb
  obtain ⟨w, hl, h0, ri, h14⟩ := h
  have f1 : (6 ≤ nI (X % 9)) = True := by rw [h7]; decide
  have f2 : (nI (X % 9) = 6) = False := by rw [h7]; decide
  have f3 : (nI (X % 9) = 7) = True := by rw [h7]; decide
  obtain ⟨r, c', g', ⟨σ', tg', ad', hC, w', sb, m1, m2⟩, ri', hr⟩ := O_take w ri (p := nI (X / 9 % 6)) (nIb (m := 6) (by omega) (by decide))
  have hA := A_12 (q := 0) (s := 0) (t := 0) hC
  rcases hr with ⟨rfl, h24, x4, hcc⟩ | ⟨rfl, h24, rfl⟩
  · have hA := hA.1 _ rfl
    have f : (24 ≤ nI (c 4)) = False := nF_le (a := 24) (b := c 4) h24 (by decide)
    have x0 := hcc 0 (by decide)
    have x1 := hcc 1 (by decide)
    have x3 := hcc 3 (by decide)
    refine ⟨σ', tg', ad', c', g', .int (nI (c 4)), ?_, hh.n w' sb ri' (by rw [x1]; exact h14), by omega, by omega⟩
    rw [x0, x1, x3, x4]
    simp only [e115_162, f1, e115_284, f2, e115_401, f3, e115_408, qd6 (show X / 9 < 2 ^ 31 by omega), qr6 (show X / 9 < 2 ^ 31 by omega), hA, e115_422, f, e115_433, e115_440, e115_445, e115_454, e115_459, po, K0_v, K0_n, K2_v, K2_n, bI_s, if_true, if_false]
  · have hA := hA.2 1 (by decide) rfl
    have f : (24 ≤ nI (c' 4)) = True := nT_le (a := 24) (b := c' 4) (by omega) (by omega)
    refine ⟨σ', tg', ad', _, g', .int (-73), ?_, hh.n w' sb ri' h14, by omega, by omega⟩
    simp only [e115_162, f1, e115_284, f2, e115_401, f3, e115_408, qd6 (show X / 9 < 2 ^ 31 by omega), qr6 (show X / 9 < 2 ^ 31 by omega), hA, cdE_1, e115_422, f, e115_438, e115_440, e115_445, e115_458, e115_459, pz, K0_v, K0_n, K2_v, K2_n, bI_s, if_true, if_false]
theorem law_m2 (h : LJ L s σ tg ad c g) (hX : X < 2 ^ 24) (u : Int32) {d : Int32} {n : Nat} (hd : nI n + d = nI (c 4)) : ∃ (σ' : mm_S) (tg' : Nat → Nat × Nat) (ad' : Nat × Nat → Nat) (c' : Nat → Nat) (g' : Nat → Nat → Int32), mm_L 115 544 [.ref 0, .ref 2, .int (nI (c 0)), .int (nI (c 1)), .int (nI (c 3)), .int (nI n), .int (nI k), .int (nI X), .int (nI (X % 9)), .int (nI (X / 9)), .int u] [.int d, .int (nI n)] (CW σ tg ad c g) = mm_L 115 572 [.ref 0, .ref 2, .int (nI (c' 0)), .int (nI (c' 1)), .int (nI (c' 3)), .int (nI (c' 4)), .int (nI k), .int (nI X), .int (nI (X % 9)), .int (nI (X / 9)), .int u] [] (CW σ' tg' ad' c' g') ∧ LJ L s σ' tg' ad' c' g' ∧ σ'.2.2.1 ≤ σ.2.2.1 + 8 ∧ σ'.2.2.2 ≤ σ.2.2.2 + 400 := by
  have hh := h
  have hb := h.1.1
  unfold BD at hb
  obtain ⟨w, hl, h0, ri, h14⟩ := h
  by_cases q : X / 9 % 5 = 0
  · have f : (nI (X / 9 % 5) = 0) = True := by rw [q]; decide
    obtain ⟨v, c', g', ⟨σ', tg', ad', hC, w', sb, m1, m2⟩, ri', hv, hcc⟩ := O_withdraw w ri (p := nI (X / 9 / 5 % 6)) (nIb (m := 6) (by omega) (by decide))
    have x0 := hcc 0 (by decide)
    have x1 := hcc 1 (by decide)
    have x3 := hcc 3 (by decide)
    have x4 := hcc 4 (by decide)
    have f2 : (nI v ≤ nI (c 4)) = True := nT_le hv (by omega)
    refine ⟨σ', tg', ad', c', g', ?_, hh.n w' sb ri' (by rw [x1]; exact h14), by omega, by omega⟩
    rw [x0, x1, x3, x4]
    simp only [e115_544, qd5 (show X / 9 < 2 ^ 31 by omega), qr5 (show X / 9 < 2 ^ 31 by omega), f, hd, e115_554, qd6 (show X / 9 / 5 < 2 ^ 31 by omega), qr6 (show X / 9 / 5 < 2 ^ 31 by omega), aM_87, hC, e115_565, f2, K0_v, K0_n, K2_v, K2_n, bI_s, if_true, if_false]
  · have f : (nI (X / 9 % 5) = 0) = False := nF_eq (a := X / 9 % 5) (b := 0) q (by omega) (by decide)
    refine ⟨σ, tg, ad, c, g, ?_, hh, by omega, by omega⟩
    simp only [e115_544, qd5 (show X / 9 < 2 ^ 31 by omega), qr5 (show X / 9 < 2 ^ 31 by omega), f, hd, K0_v, K0_n, K2_v, K2_n, bI_s, if_true, if_false]
theorem law_m1 (h : LJ L s σ tg ad c g) (hX : X < 2 ^ 24) (hc : 0 < c 4) (u : Value) : ∃ o : Int32, (o = -1 ∨ ∃ m, m < c 4 ∧ o = nI m) ∧ ∀ τ, mm_L 115 470 [.ref 0, .ref 2, .int (nI (c 0)), .int (nI (c 1)), .int (nI (c 3)), .int (nI (c 4)), .int (nI k), .int (nI X), .int (nI (X % 9)), .int (nI (X / 9)), u] [] τ = mm_L 115 503 [.ref 0, .ref 2, .int (nI (c 0)), .int (nI (c 1)), .int (nI (c 3)), .int (nI (c 4)), .int (nI k), .int (nI X), .int (nI (X % 9)), .int (nI (X / 9)), u] [.int o, .int (nI (X / 9 % c 4)), .int (nI (X / 9 % 3)), .int 13, .ref 2] τ := by
  have hb := h.1.1
  unfold BD at hb
  have f1 : (nI (c 4) = 0) = False := nF_eq (a := c 4) (b := 0) (by omega) (by omega) (by decide)
  have f2 : nI (X / 9) - nI (X / 9) / nI (c 4) * nI (c 4) = nI (X / 9 % c 4) := pk_rem (by omega) (by omega) (by omega)
  have f3 : nI (X / 9 / 6) - nI (X / 9 / 6) / nI (c 4) * nI (c 4) = nI (X / 9 / 6 % c 4) := pk_rem (by omega) (by omega) (by omega)
  by_cases q : X / 9 / 3 % 2 = 0
  · have f : (nI (X / 9 / 3 % 2) = 0) = True := by rw [q]; decide
    refine ⟨-1, Or.inl rfl, fun τ => ?_⟩
    simp only [e115_470, f1, f2, qd3 (show X / 9 < 2 ^ 31 by omega), qr3 (show X / 9 < 2 ^ 31 by omega), e115_482, qd2 (show X / 9 / 3 < 2 ^ 31 by omega), qr2 (show X / 9 / 3 < 2 ^ 31 by omega), f, e115_491, K0_v, K0_n, K2_v, K2_n, bI_s, if_true, if_false]
  · have f : (nI (X / 9 / 3 % 2) = 0) = False := nF_eq (a := X / 9 / 3 % 2) (b := 0) q (by omega) (by decide)
    refine ⟨nI (X / 9 / 6 % c 4), Or.inr ⟨_, Nat.mod_lt _ hc, rfl⟩, fun τ => ?_⟩
    simp only [e115_470, f1, f2, qd3 (show X / 9 < 2 ^ 31 by omega), qr3 (show X / 9 < 2 ^ 31 by omega), e115_482, qd2 (show X / 9 / 3 < 2 ^ 31 by omega), qr2 (show X / 9 / 3 < 2 ^ 31 by omega), f, e115_495, qd6 (show X / 9 < 2 ^ 31 by omega), f3, K0_v, K0_n, K2_v, K2_n, bI_s, if_true, if_false]
theorem B_make (h : LJ L s σ tg ad c g) (hX : X < 2 ^ 24) (h8 : X % 9 = 8) (u : Value) : BR L s σ k X (mm_L 115 162 [.ref 0, .ref 2, .int (nI (c 0)), .int (nI (c 1)), .int (nI (c 3)), .int (nI (c 4)), .int (nI k), .int (nI X), .int (nI (X % 9)), .int (nI (X / 9)), u] [] (CW σ tg ad c g)) := by
  have hh := h
  have hb := h.1.1
  unfold BD at hb
  have f1 : (6 ≤ nI (X % 9)) = True := by rw [h8]; decide
  have f2 : (nI (X % 9) = 6) = False := by rw [h8]; decide
  have f3 : (nI (X % 9) = 7) = False := by rw [h8]; decide
  have e9 : mm_L 115 162 [.ref 0, .ref 2, .int (nI (c 0)), .int (nI (c 1)), .int (nI (c 3)), .int (nI (c 4)), .int (nI k), .int (nI X), .int (nI (X % 9)), .int (nI (X / 9)), u] [] (CW σ tg ad c g) = mm_L 115 465 [.ref 0, .ref 2, .int (nI (c 0)), .int (nI (c 1)), .int (nI (c 3)), .int (nI (c 4)), .int (nI k), .int (nI X), .int (nI (X % 9)), .int (nI (X / 9)), u] [] (CW σ tg ad c g) := by simp only [e115_162, f1, e115_284, f2, e115_401, f3, K0_v, K0_n, K2_v, K2_n, bI_s, if_true, if_false]
  rw [e9]
  by_cases z : c 4 = 0
  · have f : (nI (c 4) ≤ 0) = True := by rw [z]; decide
    refine ⟨σ, tg, ad, c, g, u, ?_, hh, by omega, by omega⟩
    simp only [e115_465, f, K0_v, K0_n, K2_v, K2_n, bI_s, if_true, if_false]
  have f4 : (nI (c 4) ≤ 0) = False := nF_le (a := c 4) (b := 0) (by omega) (by omega)
  obtain ⟨oo, ho, hkey⟩ := law_m1 (k := k) h hX (by omega) u
  obtain ⟨w, hl, h0, ri, h14⟩ := h
  obtain ⟨r, c', g', ⟨σ', tg', ad', hC, w', sb, m1, m2⟩, ri', hr⟩ := O_make w ri (q := X / 9 % 3) (k := X / 9 % c 4) (o := oo) (by omega) (Nat.mod_lt _ (by omega)) ho
  have hA := A_13 (t := 0) hC
  rcases hr with ⟨rfl, x4, hg, hcc⟩ | ⟨e, he, rfl, rfl⟩
  · have hA := hA.1 _ rfl
    have x0 := hcc 0 (by decide)
    have x1 := hcc 1 (by decide)
    have x3 := hcc 3 (by decide)
    obtain ⟨v, ⟨σ2, tg2, ad2, hC2, w2, sb2, m3, m4⟩, hv⟩ := O_persons w' ri' (k := c 4) (by omega) hg
    have hJ : LJ L s σ2 tg2 ad2 c' g' := hh.n w2 (sb.trans sb2) ri' (by rw [x1]; exact h14)
    have g1 : (nI (c 4) < 0) = False := nF_lt (a := c 4) (b := 0) (by omega) (by omega)
    have g2 : (0 ≤ nI (c 4)) = True := nT_le (a := 0) (b := c 4) (by omega) (by omega)
    have g3 : (v = 0) = False := eq_false hv
    obtain ⟨σ3, tg3, ad3, c3, g4, q3, h3, m5, m6⟩ := law_m2 (k := k) (n := c 4) (d := 1) hJ hX (nI (c 4)) (by rw [x4]; exact po _)
    rw [x0, x1, x3] at q3
    refine ⟨σ3, tg3, ad3, c3, g4, .int (nI (c 4)), ?_, h3, by omega, by omega⟩
    rw [← q3]
    simp only [e115_465, f4, hkey, e115_503, hA, e115_507, g1, e115_514, e115_521, aM_88, hC2, e115_527, g3, e115_532, g2, e115_543, K0_v, K0_n, K2_v, K2_n, bI_s, if_true, if_false]
  · have hA := hA.2 e he rfl
    have hJ : LJ L s σ' tg' ad' c' g' := hh.n w' sb ri' h14
    obtain ⟨σ3, tg3, ad3, c3, g4, q3, h3, m5, m6⟩ := law_m2 (k := k) (n := c' 4) (d := 0) hJ hX (cdE e) (pz _)
    refine ⟨σ3, tg3, ad3, c3, g4, .int (cdE e), ?_, h3, by omega, by omega⟩
    rw [← q3]
    simp only [e115_465, f4, hkey, e115_503, hA, e115_507, cdE_T, cdE_F, e115_532, e115_539, K0_v, K0_n, K2_v, K2_n, bI_s, if_true, if_false]
theorem law_b (h : LJ L s σ tg ad c g) (hX : X < 2 ^ 24) (u7 u8 u9 u : Value) : BR L s σ k X (mm_L 115 59 [.ref 0, .ref 2, .int (nI (c 0)), .int (nI (c 1)), .int (nI (c 3)), .int (nI (c 4)), .int (nI k), u7, u8, u9, u] [.int (nI X)] (CW σ tg ad c g)) := by
  rw [law_59 hX]
  by_cases q : 2 ≤ X % 9
  · rw [if_pos q]
    have : X % 9 < 6 ∨ X % 9 = 6 ∨ X % 9 = 7 ∨ X % 9 = 8 := by omega
    rcases this with z | z | z | z
    · exact B_item h hX z u
    · exact B_rule h hX z u
    · exact B_take h hX z u
    · exact B_make h hX z u
  · rw [if_neg q]
    exact B_sign h hX u
-- the items' ticks
theorem law_t1 (h : LJ L s σ tg ad c g) {m : Nat} (hm : m < c 1) : ∃ (σ' : mm_S) (tg' : Nat → Nat × Nat) (ad' : Nat × Nat → Nat) (g' : Nat → Nat → Int32), mm_L 115 575 [.ref 0, .ref 2, .int (nI (c 0)), .int (nI (c 1)), .int (nI (c 3)), .int (nI (c 4)), .int (nI k), .int (nI X), .int (nI (X % 9)), .int (nI (X / 9)), .int (nI m)] [] (CW σ tg ad c g) = mm_L 115 575 [.ref 0, .ref 2, .int (nI (c 0)), .int (nI (c 1)), .int (nI (c 3)), .int (nI (c 4)), .int (nI k), .int (nI X), .int (nI (X % 9)), .int (nI (X / 9)), .int (nI (m + 1))] [] (CW σ' tg' ad' c g') ∧ LJ L s σ' tg' ad' c g' ∧ σ'.2.2 = σ.2.2 := by
  have hb := h.1.1
  unfold BD at hb
  obtain ⟨w, hl, h0, ri, h14⟩ := h
  have T := TK_sga (c := c) (g := g) (by omega) ri.2.2.2.2 hm
  obtain ⟨a, b, d, t1, t2, t3, t4, t5, t6, t7⟩ := T
  have s1 := RI_sga ri
  have s2 := RI_sga s1
  have s3 := RI_sga s2
  have s4 := RI_sga s3
  have s5 := RI_sga s4
  have s6 := RI_sga s5
  have n1 : SE (sga (c 1) (c 3) g) g := SE_sga
  have tr : ∀ {a b d : Nat → Nat → Int32}, SE a b → SE b d → SE a d := fun x y r h3 h5 => (x r h3 h5).trans (y r h3 h5)
  have n2 : SE (sga (c 1) (c 3) (sga (c 1) (c 3) g)) g := tr SE_sga n1
  have n3 : SE (sga (c 1) (c 3) (sga (c 1) (c 3) (sga (c 1) (c 3) g))) g := tr SE_sga n2
  have n4 : SE (sga (c 1) (c 3) (sga (c 1) (c 3) (sga (c 1) (c 3) (sga (c 1) (c 3) g)))) g := tr SE_sga n3
  have n5 : SE (sga (c 1) (c 3) (sga (c 1) (c 3) (sga (c 1) (c 3) (sga (c 1) (c 3) (sga (c 1) (c 3) g))))) g := tr SE_sga n4
  have v6 : sv (sga (c 1) (c 3) g) m 6 = nI a := t4
  have v7 : sv (sga (c 1) (c 3) g) m 7 = nI b := t5
  have v8 : sv (sga (c 1) (c 3) g) m 8 = nI d := t6
  have c1 := c_68 (σ := σ) w ri.1 ri.2.1 hm (show 8 < 9 by decide)
  have c2 := c_68 (σ := σ) w s1.1 s1.2.1 hm (show 7 < 9 by decide)
  have c3 := c_68 (σ := σ) w s2.1 s2.2.1 hm (show 7 < 9 by decide)
  have c4 := c_68 (σ := σ) w s3.1 s3.2.1 hm (show 6 < 9 by decide)
  have c5 := c_68 (σ := σ) w s4.1 s4.2.1 hm (show 6 < 9 by decide)
  rw [v8] at c1
  rw [sv_EH n1 hm (by decide), v7] at c2
  rw [sv_EH n2 hm (by decide), v7] at c3
  rw [sv_EH n3 hm (by decide), v6] at c4
  rw [sv_EH n4 hm (by decide), v6] at c5
  have f0 : (nI (c 1) ≤ nI m) = False := nF_le hm (by omega)
  have f1 : (nI d ≤ nI b) = False := nF_le t2 (by omega)
  have f2 : (nI b < nI a) = False := nF_lt t1 (by omega)
  have q8 : (8 : Int32) = nI 8 := rfl
  have q7 : (7 : Int32) = nI 7 := rfl
  have q6 : (6 : Int32) = nI 6 := rfl
  rw [← q8] at c1
  rw [← q7] at c2 c3
  rw [← q6] at c4 c5
  cases m with
  | zero =>
    have f3 : (nI 0 ≤ 0) = True := by decide
    refine ⟨σ, tg, ad, _, ?_, ⟨w, hl, h0, s4, h14⟩, rfl⟩
    rw [e115_575]
    simp only [f0, e115_581, aM_68, c1, e115_589, c2, e115_597, f1, e115_600, c3, e115_608, c4, e115_616, f2, e115_619, f3, e115_647, po, K0_v, K0_n, K2_v, K2_n, bI_s, if_true, if_false]
  | succ i =>
    have hi : i < c 1 := by omega
    have c6 := c_68 (σ := σ) w s5.1 s5.2.1 hi (show 8 < 9 by decide)
    have v9 : sv (sga (c 1) (c 3) g) i 8 = nI a := t7 (by omega)
    rw [sv_EH n5 hi (by decide), v9, ← q8] at c6
    have f3 : (nI (i + 1) ≤ 0) = False := nF_le (a := i + 1) (b := 0) (by omega) (by omega)
    have f4 : nI (i + 1) - 1 = nI i := nI_sub (a := i + 1) (b := 1) (by omega)
    refine ⟨σ, tg, ad, _, ?_, ⟨w, hl, h0, s6, h14⟩, rfl⟩
    rw [e115_575]
    simp only [f0, e115_581, aM_68, c1, e115_589, c2, e115_597, f1, e115_600, c3, e115_608, c4, e115_616, f2, e115_619, f3, e115_624, c5, e115_632, f4, c6, e115_642, e115_647, po, K0_v, K0_n, K2_v, K2_n, bI_s, if_true, if_false]
theorem law_t : ∀ (j m : Nat) (σ : mm_S) (tg : Nat → Nat × Nat) (ad : Nat × Nat → Nat) (g : Nat → Nat → Int32), m + j = c 1 → LJ L s σ tg ad c g → ∃ (σ' : mm_S) (tg' : Nat → Nat × Nat) (ad' : Nat × Nat → Nat) (g' : Nat → Nat → Int32) (u : Int32), mm_L 115 575 [.ref 0, .ref 2, .int (nI (c 0)), .int (nI (c 1)), .int (nI (c 3)), .int (nI (c 4)), .int (nI k), .int (nI X), .int (nI (X % 9)), .int (nI (X / 9)), .int (nI m)] [] (CW σ tg ad c g) = mm_L 115 653 [.ref 0, .ref 2, .int (nI (c 0)), .int (nI (c 1)), .int (nI (c 3)), .int (nI (c 4)), .int (nI k), .int (nI X), .int (nI (X % 9)), .int (nI (X / 9)), .int u] [] (CW σ' tg' ad' c g') ∧ LJ L s σ' tg' ad' c g' ∧ σ'.2.2 = σ.2.2
  | 0, m, σ, tg, ad, g, e, h => by
    have hb := h.1.1
    unfold BD at hb
    have f : (nI (c 1) ≤ nI m) = True := nT_le (by omega) (by omega)
    refine ⟨σ, tg, ad, g, nI m, ?_, h, rfl⟩
    rw [e115_575]
    simp only [f, K0_v, K0_n, K2_v, K2_n, bI_s, if_true, if_false]
  | j + 1, m, σ, tg, ad, g, e, h => by
    obtain ⟨σ1, tg1, ad1, g1, q1, h1, m1⟩ := law_t1 (k := k) (X := X) h (show m < c 1 by omega)
    obtain ⟨σ2, tg2, ad2, g2, u, q2, h2, m2⟩ := law_t j (m + 1) σ1 tg1 ad1 g1 (by omega) h1
    exact ⟨σ2, tg2, ad2, g2, u, q1.trans q2, h2, m2.trans m1⟩
-- refuses at every fourteenth turn
theorem law_r (h : LJ L s σ tg ad c g) (hk : k < 70) (u : Int32) : ∃ n, n ≤ 400 ∧ mm_L 115 653 [.ref 0, .ref 2, .int (nI (c 0)), .int (nI (c 1)), .int (nI (c 3)), .int (nI (c 4)), .int (nI k), .int (nI X), .int (nI (X % 9)), .int (nI (X / 9)), .int u] [] (CW σ tg ad c g) = mm_L 115 29 [.ref 0, .ref 2, .int (nI (c 0)), .int (nI (c 1)), .int (nI (c 3)), .int (nI (c 4)), .int (nI (k + 1)), .int (nI X), .int (nI (X % 9)), .int (nI (X / 9)), .int u] [] (CW (bm n σ) tg ad c g) := by
  have d := qd14 (Y := k) (by omega)
  have r := qr14 (Y := k) (by omega)
  by_cases q : k % 14 = 0
  · have f : (nI (k % 14) = 0) = True := by rw [q]; decide
    obtain ⟨n, hn, e⟩ := c_110 (g := g) h.1 h.2.1
    refine ⟨n, hn, ?_⟩
    simp only [e115_653, d, r, f, e115_661, e, e115_671, nd_1_0, e115_676, po, K0_v, K0_n, K2_v, K2_n, bI_s, if_true, if_false]
  · have f : (nI (k % 14) = 0) = False := nF_eq (a := k % 14) (b := 0) q (by omega) (by decide)
    refine ⟨0, by decide, ?_⟩
    rw [show bm 0 σ = σ from rfl]
    simp only [e115_653, d, r, f, e115_676, po, K0_v, K0_n, K2_v, K2_n, bI_s, if_true, if_false]
theorem law_it (h : LJ L s σ tg ad c g) (hL : L ≤ 260) (hk : k < 70) (u7 u8 u9 u10 : Value) : ∃ (σ' : mm_S) (tg' : Nat → Nat × Nat) (ad' : Nat × Nat → Nat) (c' : Nat → Nat) (g' : Nat → Nat → Int32) (a b y u : Value), mm_L 115 29 [.ref 0, .ref 2, .int (nI (c 0)), .int (nI (c 1)), .int (nI (c 3)), .int (nI (c 4)), .int (nI k), u7, u8, u9, u10] [] (CW σ tg ad c g) = mm_L 115 29 [.ref 0, .ref 2, .int (nI (c' 0)), .int (nI (c' 1)), .int (nI (c' 3)), .int (nI (c' 4)), .int (nI (k + 1)), a, b, y, u] [] (CW σ' tg' ad' c' g') ∧ LJ L s σ' tg' ad' c' g' ∧ σ'.2.2.1 ≤ σ.2.2.1 + 500 ∧ σ'.2.2.2 ≤ σ.2.2.2 + 4000 := by
  obtain ⟨X, hX, q1⟩ := law_x h hL hk u7 u8 u9 u10
  obtain ⟨σ1, tg1, ad1, c1, g1, u1, q2, h1, m1, m2⟩ := law_b (k := k) h hX u7 u8 u9 u10
  obtain ⟨σ2, tg2, ad2, g2, u2, q3, h2, m3⟩ := law_t (k := k) (X := X) (c1 1) 0 σ1 tg1 ad1 g1 (by omega) h1
  obtain ⟨n, hn, q4⟩ := law_r (X := X) h2 hk u2
  have f : (70 ≤ nI k) = False := nF_le (a := 70) (b := k) hk (by decide)
  refine ⟨bm n σ2, tg2, ad2, c1, g2, .int (nI X), .int (nI (X % 9)), .int (nI (X / 9)), .int u2, ?_, ⟨h2.1, h2.2.1, h2.2.2.1, h2.2.2.2.1, h2.2.2.2.2⟩, ?_, ?_⟩
  · rw [e115_29]
    simp only [f, if_false]
    refine q1.trans (q2.trans ?_)
    rw [e115_572]
    exact q3.trans q4
  · show σ2.2.2.1 + n ≤ _
    rw [m3]; omega
  · show σ2.2.2.2 + 6 * n ≤ _
    rw [m3]; omega
theorem law_all (hL : L ≤ 260) : ∀ (j k : Nat) (σ : mm_S) (tg : Nat → Nat × Nat) (ad : Nat × Nat → Nat) (c : Nat → Nat) (g : Nat → Nat → Int32) (u7 u8 u9 u10 : Value), k + j = 70 → LJ L s σ tg ad c g → ∃ τ : mm_S, mm_L 115 29 [.ref 0, .ref 2, .int (nI (c 0)), .int (nI (c 1)), .int (nI (c 3)), .int (nI (c 4)), .int (nI k), u7, u8, u9, u10] [] (CW σ tg ad c g) = some (.inl (some (.int 1)), τ) ∧ τ.2.2.1 ≤ σ.2.2.1 + 500 * j ∧ τ.2.2.2 ≤ σ.2.2.2 + 4000 * j
  | 0, k, σ, tg, ad, c, g, u7, u8, u9, u10, e, h => by
    have hk : k = 70 := by omega
    subst hk
    refine ⟨CW σ tg ad c g, ?_, Nat.le_refl _, Nat.le_refl _⟩
    have f : (70 ≤ nI 70) = True := by decide
    rw [e115_29]
    simp only [f, if_true]
    rw [e115_682, if_pos (by decide)]
  | j + 1, k, σ, tg, ad, c, g, u7, u8, u9, u10, e, h => by
    obtain ⟨σ1, tg1, ad1, c1, g1, a, b, y, u, q1, h1, m1, m2⟩ := law_it (k := k) h hL (by omega) u7 u8 u9 u10
    obtain ⟨τ, q2, m3, m4⟩ := law_all hL j (k + 1) σ1 tg1 ad1 c1 g1 a b y u (by omega) h1
    exact ⟨τ, q1.trans q2, by omega, by omega⟩
end
