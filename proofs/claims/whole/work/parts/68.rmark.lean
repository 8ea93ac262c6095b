/-! LEVEL 2: the reference's mark and agree -/
def RE (p q v : Int32) : Prop := (0 ≤ p ∧ p ≤ 199) ∧ (1 ≤ q ∧ q ≤ 200) ∧ p < q ∧ (0 ≤ v ∧ v ≤ 9)
noncomputable def red (p q v : Int32) : Decidable (RE p q v) := by unfold RE; infer_instance
def tks (f : Nat → Nat → Int32) (e k x : Nat) : Nat := if f 29 (200 * e + k) ≤ 0 then x else 3
def twr (e : Nat) (v : Int32) (k : Nat) (f : Nat → Nat → Int32) : Nat → Nat → Int32 := uf f 29 (200 * e + k) (v + 1)
def cAm (f : Nat → Nat → Int32) (e d : Nat) (q : Int32) (t : Nat) (n : Int32) : Int32 := n + if q = 0 then (if f 29 (200 * e + t) ≤ 0 then 0 else if f 29 (200 * e + t) = f 29 (200 * d + t) then 1 else 0) else (if f 29 (200 * e + t) + f 29 (200 * d + t) ≤ 0 then 0 else 1)
def smk (f : Nat → Nat → Int32) (e d t : Nat) (n : Int32) : Int32 := n + if f 29 (200 * e + t) = f 29 (200 * d + t) then 1 else 0
def rp0 (f : Nat → Nat → Int32) (e m : Nat) : Nat := (f 31 (10 * e + m)).toNatClampNeg
def rq0 (f : Nat → Nat → Int32) (e m : Nat) : Nat := (f 32 (10 * e + m)).toNatClampNeg
def cSm (f : Nat → Nat → Int32) (e d m : Nat) (n : Int32) : Int32 := n + if 2 * up (smk f e d) (rq0 f e m - rp0 f e m) (rp0 f e m) 0 ≤ f 32 (10 * e + m) - f 31 (10 * e + m) then 0 else 1
/-- the reference's marks are in order -/
def MF (f : Nat → Nat → Int32) (e M : Nat) : Prop := M ≤ 10 ∧ f 30 e = nI M ∧ ∀ m, m < M → ∃ p q, f 31 (10 * e + m) = nI p ∧ f 32 (10 * e + m) = nI q ∧ p < q ∧ q ≤ 200
section
variable {σ : mm_S} {c : Nat → Nat} {f : Nat → Nat → Int32}
theorem n12' (k a b : Nat) : (12 : Int32) * nI k + 4 * nI a + nI b = nI (12 * k + 4 * a + b) := by
  rw [n12, n4, nI_add, nI_add]
theorem s_165 {x a b p q v : Int32} : mm_M 165 [.ref 11, .int x, .int a, .int b, .int p, .int q, .int v] (MW σ (vN c) f) = mm_L 165 47 [.ref 11, .int x, .int a, .int b, .int p, .int q, .int v, mm_un, mm_un, mm_un] [.int (@bz _ (red p q v))] (MW σ (vN c) f) := by
  by_cases h1 : 0 ≤ p ∧ p ≤ 199
  · by_cases h2 : 1 ≤ q ∧ q ≤ 200
    · by_cases h3 : p < q
      · by_cases h4 : 0 ≤ v ∧ v ≤ 9
        · have e : @bz _ (red p q v) = 1 := if_pd ⟨h1, h2, h3, h4⟩
          rw [e]
          simp only [M_165, e165_0, e165_9, e165_12, e165_21, e165_24, e165_31, e165_39, e165_42, e165_46, c_108, eq_true h1, eq_true h2, eq_false (nle_of_lt h3), eq_true h4, one_ne, K0_v, K0_n, K0_x, K2_v, K2_n, K1_v, K1_n, K1_x, bI_s, bJ_s, bV_s, bS_s, l_10, l_00, bz_01, bz_0, bz_1, em_n, if_true, if_false, ite_not, ite_true, ite_false, not_true_eq_false, not_false_eq_true, or_true, true_or]
        · have e : @bz _ (red p q v) = 0 := if_nd (fun z : RE p q v => h4 z.2.2.2)
          rw [e]
          simp only [M_165, e165_0, e165_9, e165_12, e165_21, e165_24, e165_31, e165_39, e165_42, e165_46, c_108, eq_true h1, eq_true h2, eq_false (nle_of_lt h3), eq_false h4, one_ne, K0_v, K0_n, K0_x, K2_v, K2_n, K1_v, K1_n, K1_x, bI_s, bJ_s, bV_s, bS_s, l_10, l_00, bz_01, bz_0, bz_1, em_n, if_true, if_false, ite_not, ite_true, ite_false, not_true_eq_false, not_false_eq_true, or_true, true_or]
      · have e : @bz _ (red p q v) = 0 := if_nd (fun z : RE p q v => h3 z.2.2.1)
        rw [e]
        simp only [M_165, e165_0, e165_9, e165_12, e165_21, e165_24, e165_31, e165_39, e165_42, e165_46, c_108, eq_true h1, eq_true h2, eq_true (Int32.not_lt.mp h3), one_ne, K0_v, K0_n, K0_x, K2_v, K2_n, K1_v, K1_n, K1_x, bI_s, bJ_s, bV_s, bS_s, l_10, l_00, bz_01, bz_0, bz_1, em_n, if_true, if_false, ite_not, ite_true, ite_false, not_true_eq_false, not_false_eq_true, or_true, true_or]
    · have e : @bz _ (red p q v) = 0 := if_nd (fun z : RE p q v => h2 z.2.1)
      rw [e]
      simp only [M_165, e165_0, e165_9, e165_12, e165_21, e165_24, e165_31, e165_39, e165_42, e165_46, c_108, eq_true h1, eq_false h2, one_ne, K0_v, K0_n, K0_x, K2_v, K2_n, K1_v, K1_n, K1_x, bI_s, bJ_s, bV_s, bS_s, l_10, l_00, bz_01, bz_0, bz_1, em_n, if_true, if_false, ite_not, ite_true, ite_false, not_true_eq_false, not_false_eq_true, or_true, true_or]
  · have e : @bz _ (red p q v) = 0 := if_nd (fun z : RE p q v => h1 z.1)
    rw [e]
    simp only [M_165, e165_0, e165_9, e165_12, e165_21, e165_24, e165_31, e165_39, e165_42, e165_46, c_108, eq_false h1, one_ne, K0_v, K0_n, K0_x, K2_v, K2_n, K1_v, K1_n, K1_x, bI_s, bJ_s, bV_s, bS_s, l_10, l_00, bz_01, bz_0, bz_1, em_n, if_true, if_false, ite_not, ite_true, ite_false, not_true_eq_false, not_false_eq_true, or_true, true_or]
theorem c_165a (hc : c 4 ≤ 24) {x a b p q v : Int32} (h : ¬ (0 ≤ x ∧ x < nI (c 4))) : mm_M 165 [.ref 11, .int x, .int a, .int b, .int p, .int q, .int v] (MW σ (vN c) f) = some (.inl (some (.int 0)), MW σ (vN (u2 c 5 1)) f) := by
  rw [s_165]
  simp only [e165_47, e165_55, e165_58, e165_63, e165_66, e165_70, e165_75, e165_79, e165_80, e165_83, e165_87, e165_90, Mo_154, c_154x hc h, ms_27, mg_27, vs_0, vs_1, vs_2, vs_3, vs_n, vN_, u5_0, u5_1, u5_2, u5_3, u5_4, u5_5, t_0, t_1, t_2, t_3, te_0, te_1, te_2, te_3, K0_v, K0_n, K0_x, K2_v, K2_n, K1_v, K1_n, K1_x, bI_s, bJ_s, bV_s, bS_s, l_10, l_00, bz_01, bz_0, bz_1, em_n, if_true, if_false, ite_not, ite_true, ite_false, not_true_eq_false, not_false_eq_true, or_true, true_or]
theorem c_165b (hc : c 4 ≤ 24) {k : Nat} {a b p q v : Int32} (hk : k < c 4) (h : f 23 k ≠ 0) : mm_M 165 [.ref 11, .int (nI k), .int a, .int b, .int p, .int q, .int v] (MW σ (vN c) f) = some (.inl (some (.int 0)), MW σ (vN (u2 c 5 1)) f) := by
  rw [s_165]
  simp only [e165_47, e165_55, e165_58, e165_63, e165_66, e165_70, e165_75, e165_79, e165_80, e165_83, e165_87, e165_90, Mo_154, c_154 hc hk, eq_false h, ms_27, mg_27, vs_0, vs_1, vs_2, vs_3, vs_n, vN_, u5_0, u5_1, u5_2, u5_3, u5_4, u5_5, t_0, t_1, t_2, t_3, te_0, te_1, te_2, te_3, K0_v, K0_n, K0_x, K2_v, K2_n, K1_v, K1_n, K1_x, bI_s, bJ_s, bV_s, bS_s, l_10, l_00, bz_01, bz_0, bz_1, em_n, if_true, if_false, ite_not, ite_true, ite_false, not_true_eq_false, not_false_eq_true, or_true, true_or]
theorem c_165c (hc : c 4 ≤ 24) {k : Nat} {a b p q v : Int32} (hk : k < c 4) (h : f 23 k = 0) (h2 : ¬ ((0 ≤ a ∧ a ≤ 2) ∧ (0 ≤ b ∧ b ≤ 3))) : mm_M 165 [.ref 11, .int (nI k), .int a, .int b, .int p, .int q, .int v] (MW σ (vN c) f) = some (.inl (some (.int 0)), MW σ (vN (u2 c 5 1)) f) := by
  rw [s_165]
  simp only [e165_47, e165_55, e165_58, e165_63, e165_66, e165_70, e165_75, e165_79, e165_80, e165_83, e165_87, e165_90, Mo_154, c_154 hc hk, eq_true h, c_163, eq_false h2, ms_27, mg_27, vs_0, vs_1, vs_2, vs_3, vs_n, vN_, u5_0, u5_1, u5_2, u5_3, u5_4, u5_5, t_0, t_1, t_2, t_3, te_0, te_1, te_2, te_3, K0_v, K0_n, K0_x, K2_v, K2_n, K1_v, K1_n, K1_x, bI_s, bJ_s, bV_s, bS_s, l_10, l_00, bz_01, bz_0, bz_1, em_n, if_true, if_false, ite_not, ite_true, ite_false, not_true_eq_false, not_false_eq_true, or_true, true_or]
theorem c_165d (hc : c 4 ≤ 24) {k : Nat} {a b p q v : Int32} (hk : k < c 4) (h : f 23 k = 0) (h2 : (0 ≤ a ∧ a ≤ 2) ∧ (0 ≤ b ∧ b ≤ 3)) (h3 : ¬ RE p q v) : mm_M 165 [.ref 11, .int (nI k), .int a, .int b, .int p, .int q, .int v] (MW σ (vN c) f) = some (.inl (some (.int 0)), MW σ (vN (u2 c 5 2)) f) := by
  have e : @bz _ (red p q v) = 0 := if_nd h3
  rw [s_165, e]
  simp only [e165_47, e165_55, e165_58, e165_63, e165_66, e165_70, e165_75, e165_79, e165_80, e165_83, e165_87, e165_90, Mo_154, c_154 hc hk, eq_true h, c_163, eq_true h2, ms_27, mg_27, vs_0, vs_1, vs_2, vs_3, vs_n, vN_, u5_0, u5_1, u5_2, u5_3, u5_4, u5_5, t_0, t_1, t_2, t_3, te_0, te_1, te_2, te_3, K0_v, K0_n, K0_x, K2_v, K2_n, K1_v, K1_n, K1_x, bI_s, bJ_s, bV_s, bS_s, l_10, l_00, bz_01, bz_0, bz_1, em_n, if_true, if_false, ite_not, ite_true, ite_false, not_true_eq_false, not_false_eq_true, or_true, true_or]
theorem l_165a {e q : Nat} (he : e < 288) (hq : q ≤ 200) {x a b p v l7 : Int32} : ∀ m k y, k + m = q → mm_L 165 125 [.ref 11, .int x, .int a, .int b, .int p, .int (nI q), .int v, .int l7, .int (nI e), .int (nI k)] [] (MW σ (vN (u2 c 5 y)) f) = mm_L 165 167 [.ref 11, .int x, .int a, .int b, .int p, .int (nI q), .int v, .int l7, .int (nI e), .int (nI q)] [] (MW σ (vN (u2 c 5 (up (tks f e) m k y))) f)
  | 0, k, y, h => by
    have e : k = q := by omega
    subst e
    have z := eq_true (nI_le (a := k) (b := k) (by omega) (by omega))
    rw [e165_125]
    simp only [z, K0_v, K0_n, K0_x, K2_v, K2_n, K1_v, K1_n, K1_x, bI_s, bJ_s, bV_s, bS_s, l_10, l_00, bz_01, bz_0, bz_1, em_n, if_true, if_false, ite_not, ite_true, ite_false, not_true_eq_false, not_false_eq_true, or_true, true_or, up]
  | m + 1, k, y, h => by
    have z := eq_false (nI_ge (a := k) (b := q) (by omega) (by omega))
    have ih := fun y => l_165a he hq (x := x) (a := a) (b := b) (p := p) (v := v) (l7 := l7) m (k + 1) y (by omega)
    have vy : ∀ y : Nat, nI (u2 c 5 y 5) = nI y := fun y => by rw [u5_5]
    have v3 : ∀ y : Nat, upd (vN (u2 c 5 y)) 5 3 = vN (u2 c 5 3) := fun y => by rw [vs_3, u2_u2]
    have vv : ∀ y : Nat, upd (vN (u2 c 5 y)) 5 (nI y) = vN (u2 c 5 y) := fun y => by rw [vs_n, u2_u2]
    rw [e165_125]
    show _ = mm_L 165 167 _ [] (MW σ (vN (u2 c 5 (up (tks f e) m (k + 1) (tks f e k y)))) f)
    rw [← ih]
    unfold tks
    by_cases h1 : f 29 (200 * e + k) ≤ 0
    · simp only [z, e165_132, e165_137, e165_147, e165_150, e165_154, e165_158, e165_161, mg_22, n200, nI_add, ma_29 (show 200 * e + k < 57600 by omega), eq_true h1, mg_27, vN_, vy, ms_27, vv, nI_1, K0_v, K0_n, K0_x, K2_v, K2_n, K1_v, K1_n, K1_x, bI_s, bJ_s, bV_s, bS_s, l_10, l_00, bz_01, bz_0, bz_1, em_n, if_true, if_false, ite_not, ite_true, ite_false, not_true_eq_false, not_false_eq_true, or_true, true_or]
    · simp only [z, e165_132, e165_137, e165_147, e165_150, e165_154, e165_158, e165_161, mg_22, n200, nI_add, ma_29 (show 200 * e + k < 57600 by omega), eq_false h1, ms_27, v3, nI_1, K0_v, K0_n, K0_x, K2_v, K2_n, K1_v, K1_n, K1_x, bI_s, bJ_s, bV_s, bS_s, l_10, l_00, bz_01, bz_0, bz_1, em_n, if_true, if_false, ite_not, ite_true, ite_false, not_true_eq_false, not_false_eq_true, or_true, true_or]
theorem l_165b {e q : Nat} (he : e < 288) (hq : q ≤ 200) {x a b p v l7 : Int32} : ∀ m k (f : Nat → Nat → Int32), k + m = q → mm_L 165 180 [.ref 11, .int x, .int a, .int b, .int p, .int (nI q), .int v, .int l7, .int (nI e), .int (nI k)] [] (MW σ (vN c) f) = mm_L 165 211 [.ref 11, .int x, .int a, .int b, .int p, .int (nI q), .int v, .int l7, .int (nI e), .int (nI q)] [] (MW σ (vN c) (up (twr e v) m k f))
  | 0, k, f, h => by
    have e : k = q := by omega
    subst e
    have z := eq_true (nI_le (a := k) (b := k) (by omega) (by omega))
    rw [e165_180]
    simp only [z, K0_v, K0_n, K0_x, K2_v, K2_n, K1_v, K1_n, K1_x, bI_s, bJ_s, bV_s, bS_s, l_10, l_00, bz_01, bz_0, bz_1, em_n, if_true, if_false, ite_not, ite_true, ite_false, not_true_eq_false, not_false_eq_true, or_true, true_or, up]
  | m + 1, k, f, h => by
    have z := eq_false (nI_ge (a := k) (b := q) (by omega) (by omega))
    have ih := l_165b he hq (x := x) (a := a) (b := b) (p := p) (v := v) (l7 := l7) m (k + 1) (twr e v k f) (by omega)
    rw [e165_180]
    show _ = mm_L 165 211 _ [] (MW σ (vN c) (up (twr e v) m (k + 1) (twr e v k f)))
    rw [← ih]
    unfold twr
    simp only [z, e165_187, e165_191, e165_205, mg_22, n200, nI_add, mt_29 (show 200 * e + k < 57600 by omega), nI_1, K0_v, K0_n, K0_x, K2_v, K2_n, K1_v, K1_n, K1_x, bI_s, bJ_s, bV_s, bS_s, l_10, l_00, bz_01, bz_0, bz_1, em_n, if_true, if_false, ite_not, ite_true, ite_false, not_true_eq_false, not_false_eq_true, or_true, true_or]
theorem tks_3 (f : Nat → Nat → Int32) (e : Nat) : ∀ m k, up (tks f e) m k 3 = 3
  | 0, k => rfl
  | m + 1, k => by
    show up (tks f e) m (k + 1) (tks f e k 3) = 3
    have : tks f e k 3 = 3 := by unfold tks; split <;> rfl
    rw [this]
    exact tks_3 f e m (k + 1)
theorem tks_03 (f : Nat → Nat → Int32) (e : Nat) : ∀ m k, up (tks f e) m k 0 = 0 ∨ up (tks f e) m k 0 = 3
  | 0, k => Or.inl rfl
  | m + 1, k => by
    show up (tks f e) m (k + 1) (tks f e k 0) = 0 ∨ up (tks f e) m (k + 1) (tks f e k 0) = 3
    have : tks f e k 0 = 0 ∨ tks f e k 0 = 3 := by
      unfold tks
      split
      · exact Or.inl rfl
      · exact Or.inr rfl
    rcases this with q | q <;> rw [q]
    · exact tks_03 f e m (k + 1)
    · exact Or.inr (tks_3 f e m (k + 1))
def thr (f : Nat → Nat → Int32) (e M p q : Nat) : Nat := up (tks f e) (q - p) p (if M = 10 then 3 else 0)
theorem t_165 (hc : c 4 ≤ 24) {k a b p q M : Nat} {v : Int32} (hk : k < c 4) (h : f 23 k = 0) (ha : a < 3) (hb : b < 4) (hp : p < q) (hq : q ≤ 200) (hv : 0 ≤ v ∧ v ≤ 9) (hM : MF f (12 * k + 4 * a + b) M) : mm_M 165 [.ref 11, .int (nI k), .int (nI a), .int (nI b), .int (nI p), .int (nI q), .int v] (MW σ (vN c) f) = mm_L 165 167 [.ref 11, .int (nI k), .int (nI a), .int (nI b), .int (nI p), .int (nI q), .int v, .int 1, .int (nI (12 * k + 4 * a + b)), .int (nI q)] [] (MW σ (vN (u2 c 5 (thr f (12 * k + 4 * a + b) M p q))) f) := by
  have he : 12 * k + 4 * a + b < 288 := by omega
  have h2 : (0 ≤ nI a ∧ nI a ≤ 2) ∧ (0 ≤ nI b ∧ nI b ≤ 3) := ⟨⟨nI_pos' (by omega), show nI a ≤ nI 2 from nI_le (by omega) (by decide)⟩, ⟨nI_pos' (by omega), show nI b ≤ nI 3 from nI_le (by omega) (by decide)⟩⟩
  have h3 : RE (nI p) (nI q) v := ⟨⟨nI_pos' (by omega), show nI p ≤ nI 199 from nI_le (by omega) (by decide)⟩, ⟨show nI 1 ≤ nI q from nI_le (by omega) (by omega), show nI q ≤ nI 200 from nI_le (by omega) (by decide)⟩, nI_lt hp (by omega), hv⟩
  have e1 : @bz _ (red (nI p) (nI q) v) = 1 := if_pd h3
  have l := fun y => l_165a (σ := σ) (c := c) (f := f) he hq (x := nI k) (a := nI a) (b := nI b) (p := nI p) (v := v) (l7 := 1) (q - p) p y (by omega)
  rw [s_165, e1]
  unfold thr
  rw [← l]
  generalize hE : 12 * k + 4 * a + b = E at *
  by_cases hM1 : M = 10
  · rw [if_pos hM1]
    have z : (f 30 E = 10) = True := eq_true (by rw [hM.2.1, hM1]; rfl)
    simp only [e165_47, e165_55, e165_58, e165_63, e165_66, e165_70, e165_75, e165_79, e165_80, e165_83, e165_87, e165_90, e165_92, e165_98, e165_105, e165_108, e165_113, e165_117, e165_118, e165_121, Mo_154, c_154 hc hk, eq_true h, c_163, eq_true h2, one_ne, ms_27, mg_27, c_164, n12', hE, mg_23, ma_30 he, z, u2_u2, vs_0, vs_1, vs_2, vs_3, vs_n, vN_, u5_0, u5_1, u5_2, u5_3, u5_4, u5_5, t_0, t_1, t_2, t_3, te_0, te_1, te_2, te_3, K0_v, K0_n, K0_x, K2_v, K2_n, K1_v, K1_n, K1_x, bI_s, bJ_s, bV_s, bS_s, l_10, l_00, bz_01, bz_0, bz_1, em_n, if_true, if_false, ite_not, ite_true, ite_false, not_true_eq_false, not_false_eq_true, or_true, true_or]
  · rw [if_neg hM1]
    have z : (f 30 E = 10) = False := eq_false (by
      rw [hM.2.1]
      have := hM.1
      exact fun w => hM1 ((nI_eq (a := M) (b := 10) (by omega) (by decide)).mp w))
    simp only [e165_47, e165_55, e165_58, e165_63, e165_66, e165_70, e165_75, e165_79, e165_80, e165_83, e165_87, e165_90, e165_92, e165_98, e165_105, e165_108, e165_113, e165_117, e165_118, e165_121, Mo_154, c_154 hc hk, eq_true h, c_163, eq_true h2, one_ne, ms_27, mg_27, c_164, n12', hE, mg_23, ma_30 he, z, u2_u2, vs_0, vs_1, vs_2, vs_3, vs_n, vN_, u5_0, u5_1, u5_2, u5_3, u5_4, u5_5, t_0, t_1, t_2, t_3, te_0, te_1, te_2, te_3, K0_v, K0_n, K0_x, K2_v, K2_n, K1_v, K1_n, K1_x, bI_s, bJ_s, bV_s, bS_s, l_10, l_00, bz_01, bz_0, bz_1, em_n, if_true, if_false, ite_not, ite_true, ite_false, not_true_eq_false, not_false_eq_true, or_true, true_or]
theorem c_165e (hc : c 4 ≤ 24) {k a b p q M : Nat} {v : Int32} (hk : k < c 4) (h : f 23 k = 0) (ha : a < 3) (hb : b < 4) (hp : p < q) (hq : q ≤ 200) (hv : 0 ≤ v ∧ v ≤ 9) (hM : MF f (12 * k + 4 * a + b) M) (ht : thr f (12 * k + 4 * a + b) M p q = 3) : mm_M 165 [.ref 11, .int (nI k), .int (nI a), .int (nI b), .int (nI p), .int (nI q), .int v] (MW σ (vN c) f) = some (.inl (some (.int 0)), MW σ (vN (u2 c 5 3)) f) := by
  rw [t_165 hc hk h ha hb hp hq hv hM, ht]
  simp only [e165_167, e165_171, e165_174, mg_27, vs_0, vs_1, vs_2, vs_3, vs_n, vN_, u5_0, u5_1, u5_2, u5_3, u5_4, u5_5, t_0, t_1, t_2, t_3, te_0, te_1, te_2, te_3, K0_v, K0_n, K0_x, K2_v, K2_n, K1_v, K1_n, K1_x, bI_s, bJ_s, bV_s, bS_s, l_10, l_00, bz_01, bz_0, bz_1, em_n, if_true, if_false, ite_not, ite_true, ite_false, not_true_eq_false, not_false_eq_true, or_true, true_or]
def rmf (f : Nat → Nat → Int32) (e M p q : Nat) (v : Int32) : Nat → Nat → Int32 := uf (uf (uf (up (twr e v) (q - p) p f) 31 (10 * e + M) (nI p)) 32 (10 * e + M) (nI q)) 30 e (nI (M + 1))
theorem twr_r {e r : Nat} {v : Int32} (h : r ≠ 29) : ∀ m k (f : Nat → Nat → Int32), up (twr e v) m k f r = f r := up_r (fun k g => uf_n h)
theorem c_165 (hc : c 4 ≤ 24) {k a b p q M : Nat} {v : Int32} (hk : k < c 4) (h : f 23 k = 0) (ha : a < 3) (hb : b < 4) (hp : p < q) (hq : q ≤ 200) (hv : 0 ≤ v ∧ v ≤ 9) (hM : MF f (12 * k + 4 * a + b) M) (hM1 : M < 10) (ht : thr f (12 * k + 4 * a + b) M p q = 0) : mm_M 165 [.ref 11, .int (nI k), .int (nI a), .int (nI b), .int (nI p), .int (nI q), .int v] (MW σ (vN c) f) = some (.inl (some (.int (nI (M + 1)))), MW σ (vN (u2 c 5 0)) (rmf f (12 * k + 4 * a + b) M p q v)) := by
  have he : 12 * k + 4 * a + b < 288 := by omega
  have l := l_165b (σ := σ) (c := u2 c 5 0) he hq (x := nI k) (a := nI a) (b := nI b) (p := nI p) (v := v) (l7 := 1) (q - p) p f (by omega)
  rw [t_165 hc hk h ha hb hp hq hv hM, ht]
  unfold rmf
  generalize hE : 12 * k + 4 * a + b = E at *
  have f30 : up (twr E v) (q - p) p f 30 E = nI M := by rw [twr_r (by decide)]; exact hM.2.1
  have f31 : ∀ y z, uf (uf (up (twr E v) (q - p) p f) 31 y (nI p)) 32 z (nI q) 30 E = nI M := fun y z => by rw [uf_n (by decide), uf_n (by decide)]; exact f30
  have f32 : ∀ y, uf (up (twr E v) (q - p) p f) 31 y (nI p) 30 E = nI M := fun y => by rw [uf_n (by decide)]; exact f30
  have f33 : ∀ (F : Nat → Nat → Int32) (x : Int32), uf F 30 E x 30 E = x := fun F x => by rw [uf_s]; exact if_pos rfl
  simp only [e165_167, e165_171, e165_174, e165_176, l, mg_27, vs_0, vs_1, vs_2, vs_3, vs_n, vN_, u5_0, u5_1, u5_2, u5_3, u5_4, u5_5, t_0, t_1, t_2, t_3, te_0, te_1, te_2, te_3, K0_v, K0_n, K0_x, K2_v, K2_n, K1_v, K1_n, K1_x, bI_s, bJ_s, bV_s, bS_s, l_10, l_00, bz_01, bz_0, bz_1, em_n, if_true, if_false, ite_not, ite_true, ite_false, not_true_eq_false, not_false_eq_true, or_true, true_or]
  simp only [e165_211, e165_215, e165_224, e165_227, e165_231, e165_235, e165_244, e165_247, e165_251, e165_255, e165_259, e165_262, e165_266, e165_269, mg_24, mg_23, mg_25, ma_30 he, f30, f31, f32, f33, n10, nI_add, mt_31 (show 10 * E + M < 2880 by omega), mt_32 (show 10 * E + M < 2880 by omega), nI_1, mt_30 he, K0_v, K0_n, K0_x, K2_v, K2_n, K1_v, K1_n, K1_x, bI_s, bJ_s, bV_s, bS_s, l_10, l_00, bz_01, bz_0, bz_1, em_n, if_true, if_false, ite_not, ite_true, ite_false, not_true_eq_false, not_false_eq_true, or_true, true_or]
-- agree
theorem c_166a (hc : c 4 ≤ 24) {x a b o q : Int32} (h : ¬ (0 ≤ x ∧ x < nI (c 4))) : mm_M 166 [.ref 11, .int x, .int a, .int o, .int b, .int q] (MW σ (vN c) f) = some (.inl (some (.int 0)), MW σ (vN (u2 c 5 1)) f) := by
  simp only [M_166, e166_0, e166_6, e166_9, e166_15, e166_18, e166_24, e166_27, e166_31, e166_38, e166_41, e166_45, e166_46, e166_49, e166_53, e166_56, Mo_154, c_154x hc h, ms_27, mg_27, vs_0, vs_1, vs_2, vs_3, vs_n, vN_, u5_0, u5_1, u5_2, u5_3, u5_4, u5_5, t_0, t_1, t_2, t_3, te_0, te_1, te_2, te_3, K0_v, K0_n, K0_x, K2_v, K2_n, K1_v, K1_n, K1_x, bI_s, bJ_s, bV_s, bS_s, l_10, l_00, bz_01, bz_0, bz_1, em_n, if_true, if_false, ite_not, ite_true, ite_false, not_true_eq_false, not_false_eq_true, or_true, true_or]
theorem c_166b (hc : c 4 ≤ 24) {k : Nat} {a b o q : Int32} (hk : k < c 4) (h : f 23 k ≠ 0) : mm_M 166 [.ref 11, .int (nI k), .int a, .int o, .int b, .int q] (MW σ (vN c) f) = some (.inl (some (.int 0)), MW σ (vN (u2 c 5 1)) f) := by
  simp only [M_166, e166_0, e166_6, e166_9, e166_15, e166_18, e166_24, e166_27, e166_31, e166_38, e166_41, e166_45, e166_46, e166_49, e166_53, e166_56, Mo_154, c_154 hc hk, eq_false h, ms_27, mg_27, vs_0, vs_1, vs_2, vs_3, vs_n, vN_, u5_0, u5_1, u5_2, u5_3, u5_4, u5_5, t_0, t_1, t_2, t_3, te_0, te_1, te_2, te_3, K0_v, K0_n, K0_x, K2_v, K2_n, K1_v, K1_n, K1_x, bI_s, bJ_s, bV_s, bS_s, l_10, l_00, bz_01, bz_0, bz_1, em_n, if_true, if_false, ite_not, ite_true, ite_false, not_true_eq_false, not_false_eq_true, or_true, true_or]
theorem c_166c (hc : c 4 ≤ 24) {k : Nat} {a b o q : Int32} (hk : k < c 4) (h : f 23 k = 0) (h2 : ¬ (((0 ≤ a ∧ a ≤ 2) ∧ (0 ≤ b ∧ b ≤ 3)) ∧ ((0 ≤ o ∧ o ≤ 2) ∧ (0 ≤ b ∧ b ≤ 3)))) : mm_M 166 [.ref 11, .int (nI k), .int a, .int o, .int b, .int q] (MW σ (vN c) f) = some (.inl (some (.int 0)), MW σ (vN (u2 c 5 1)) f) := by
  by_cases h3 : (0 ≤ a ∧ a ≤ 2) ∧ (0 ≤ b ∧ b ≤ 3)
  · simp only [M_166, e166_0, e166_6, e166_9, e166_15, e166_18, e166_24, e166_27, e166_31, e166_38, e166_41, e166_45, e166_46, e166_49, e166_53, e166_56, Mo_154, c_154 hc hk, eq_true h, c_163, eq_true h3, eq_false (fun z => h2 ⟨h3, z⟩), one_ne, ms_27, mg_27, vs_0, vs_1, vs_2, vs_3, vs_n, vN_, u5_0, u5_1, u5_2, u5_3, u5_4, u5_5, t_0, t_1, t_2, t_3, te_0, te_1, te_2, te_3, K0_v, K0_n, K0_x, K2_v, K2_n, K1_v, K1_n, K1_x, bI_s, bJ_s, bV_s, bS_s, l_10, l_00, bz_01, bz_0, bz_1, em_n, if_true, if_false, ite_not, ite_true, ite_false, not_true_eq_false, not_false_eq_true, or_true, true_or]
  · simp only [M_166, e166_0, e166_6, e166_9, e166_15, e166_18, e166_24, e166_27, e166_31, e166_38, e166_41, e166_45, e166_46, e166_49, e166_53, e166_56, Mo_154, c_154 hc hk, eq_true h, c_163, eq_false h3, one_ne, ms_27, mg_27, vs_0, vs_1, vs_2, vs_3, vs_n, vN_, u5_0, u5_1, u5_2, u5_3, u5_4, u5_5, t_0, t_1, t_2, t_3, te_0, te_1, te_2, te_3, K0_v, K0_n, K0_x, K2_v, K2_n, K1_v, K1_n, K1_x, bI_s, bJ_s, bV_s, bS_s, l_10, l_00, bz_01, bz_0, bz_1, em_n, if_true, if_false, ite_not, ite_true, ite_false, not_true_eq_false, not_false_eq_true, or_true, true_or]
theorem c_166d (hc : c 4 ≤ 24) {k : Nat} {a b o q : Int32} (hk : k < c 4) (h : f 23 k = 0) (h2 : ((0 ≤ a ∧ a ≤ 2) ∧ (0 ≤ b ∧ b ≤ 3)) ∧ ((0 ≤ o ∧ o ≤ 2) ∧ (0 ≤ b ∧ b ≤ 3))) (hq : ¬ (0 ≤ q ∧ q ≤ 2)) : mm_M 166 [.ref 11, .int (nI k), .int a, .int o, .int b, .int q] (MW σ (vN c) f) = some (.inl (some (.int 0)), MW σ (vN (u2 c 5 2)) f) := by
  simp only [M_166, e166_0, e166_6, e166_9, e166_15, e166_18, e166_24, e166_27, e166_31, e166_38, e166_41, e166_45, e166_46, e166_49, e166_53, e166_56, Mo_154, c_154 hc hk, eq_true h, c_163, eq_true h2.1, eq_true h2.2, c_108, eq_false hq, one_ne, ms_27, mg_27, vs_0, vs_1, vs_2, vs_3, vs_n, vN_, u5_0, u5_1, u5_2, u5_3, u5_4, u5_5, t_0, t_1, t_2, t_3, te_0, te_1, te_2, te_3, K0_v, K0_n, K0_x, K2_v, K2_n, K1_v, K1_n, K1_x, bI_s, bJ_s, bV_s, bS_s, l_10, l_00, bz_01, bz_0, bz_1, em_n, if_true, if_false, ite_not, ite_true, ite_false, not_true_eq_false, not_false_eq_true, or_true, true_or]
theorem l_166a {e d : Nat} (he : e < 288) (hd : d < 288) {x a o b q : Int32} (hq : ¬ 2 ≤ q) : ∀ m k (n : Int32) (l10 l11 l12 l13 : Value), k + m = 200 → ∃ l10' l11', mm_L 166 82 [.ref 11, .int x, .int a, .int o, .int b, .int q, .int (nI e), .int (nI d), .int n, .int (nI k), l10, l11, l12, l13] [] (MW σ (vN c) f) = mm_L 166 177 [.ref 11, .int x, .int a, .int o, .int b, .int q, .int (nI e), .int (nI d), .int (up (cAm f e d q) m k n), .int (nI 200), l10', l11', l12, l13] [] (MW σ (vN c) f)
  | 0, k, n, l10, l11, l12, l13, h => by
    have e : k = 200 := by omega
    subst e
    refine ⟨l10, l11, ?_⟩
    rw [e166_82, if_pos (by decide)]
    rfl
  | m + 1, k, n, l10, l11, l12, l13, h => by
    have z := eq_false (show ¬ (200 : Int32) ≤ nI k from show ¬ nI 200 ≤ nI k from nI_ge (by omega) (by decide))
    obtain ⟨l10', l11', ih⟩ := l_166a he hd (x := x) (a := a) (o := o) (b := b) hq m (k + 1) (cAm f e d q k n) (.int (f 29 (200 * e + k))) (.int (f 29 (200 * d + k))) l12 l13 (by omega)
    refine ⟨l10', l11', ?_⟩
    rw [e166_82]
    show _ = mm_L 166 177 [.ref 11, .int x, .int a, .int o, .int b, .int q, .int (nI e), .int (nI d), .int (up (cAm f e d q) m (k + 1) (cAm f e d q k n)), .int (nI 200), l10', l11', l12, l13] [] (MW σ (vN c) f)
    rw [← ih]
    unfold cAm
    by_cases q0 : q = 0
    · by_cases h1 : f 29 (200 * e + k) ≤ 0
      · simp only [z, e166_90, e166_96, e166_100, e166_110, e166_116, e166_126, e166_135, e166_140, e166_147, e166_151, e166_155, e166_163, e166_167, e166_168, eq_false hq, mg_22, n200, nI_add, ma_29 (show 200 * e + k < 57600 by omega), ma_29 (show 200 * d + k < 57600 by omega), eq_true q0, eq_true h1, nI_1, K0_v, K0_n, K0_x, K2_v, K2_n, K1_v, K1_n, K1_x, bI_s, bJ_s, bV_s, bS_s, l_10, l_00, bz_01, bz_0, bz_1, em_n, if_true, if_false, ite_not, ite_true, ite_false, not_true_eq_false, not_false_eq_true, or_true, true_or]
      · by_cases h2 : f 29 (200 * e + k) = f 29 (200 * d + k)
        · simp only [z, e166_90, e166_96, e166_100, e166_110, e166_116, e166_126, e166_135, e166_140, e166_147, e166_151, e166_155, e166_163, e166_167, e166_168, eq_false hq, mg_22, n200, nI_add, ma_29 (show 200 * e + k < 57600 by omega), ma_29 (show 200 * d + k < 57600 by omega), eq_true q0, eq_false h1, eq_true h2, nI_1, K0_v, K0_n, K0_x, K2_v, K2_n, K1_v, K1_n, K1_x, bI_s, bJ_s, bV_s, bS_s, l_10, l_00, bz_01, bz_0, bz_1, em_n, if_true, if_false, ite_not, ite_true, ite_false, not_true_eq_false, not_false_eq_true, or_true, true_or]
        · simp only [z, e166_90, e166_96, e166_100, e166_110, e166_116, e166_126, e166_135, e166_140, e166_147, e166_151, e166_155, e166_163, e166_167, e166_168, eq_false hq, mg_22, n200, nI_add, ma_29 (show 200 * e + k < 57600 by omega), ma_29 (show 200 * d + k < 57600 by omega), eq_true q0, eq_false h1, eq_false h2, nI_1, K0_v, K0_n, K0_x, K2_v, K2_n, K1_v, K1_n, K1_x, bI_s, bJ_s, bV_s, bS_s, l_10, l_00, bz_01, bz_0, bz_1, em_n, if_true, if_false, ite_not, ite_true, ite_false, not_true_eq_false, not_false_eq_true, or_true, true_or]
    · by_cases h1 : f 29 (200 * e + k) + f 29 (200 * d + k) ≤ 0
      · simp only [z, e166_90, e166_96, e166_100, e166_110, e166_116, e166_126, e166_135, e166_140, e166_147, e166_151, e166_155, e166_163, e166_167, e166_168, eq_false hq, mg_22, n200, nI_add, ma_29 (show 200 * e + k < 57600 by omega), ma_29 (show 200 * d + k < 57600 by omega), eq_false q0, eq_true h1, nI_1, K0_v, K0_n, K0_x, K2_v, K2_n, K1_v, K1_n, K1_x, bI_s, bJ_s, bV_s, bS_s, l_10, l_00, bz_01, bz_0, bz_1, em_n, if_true, if_false, ite_not, ite_true, ite_false, not_true_eq_false, not_false_eq_true, or_true, true_or]
      · simp only [z, e166_90, e166_96, e166_100, e166_110, e166_116, e166_126, e166_135, e166_140, e166_147, e166_151, e166_155, e166_163, e166_167, e166_168, eq_false hq, mg_22, n200, nI_add, ma_29 (show 200 * e + k < 57600 by omega), ma_29 (show 200 * d + k < 57600 by omega), eq_false q0, eq_false h1, nI_1, K0_v, K0_n, K0_x, K2_v, K2_n, K1_v, K1_n, K1_x, bI_s, bJ_s, bV_s, bS_s, l_10, l_00, bz_01, bz_0, bz_1, em_n, if_true, if_false, ite_not, ite_true, ite_false, not_true_eq_false, not_false_eq_true, or_true, true_or]
theorem l_166c {e d q0 : Nat} (he : e < 288) (hd : d < 288) (hq : q0 ≤ 200) {x a o b q n l9 l10 : Int32} : ∀ m k (y : Int32), k + m = q0 → mm_L 166 235 [.ref 11, .int x, .int a, .int o, .int b, .int q, .int (nI e), .int (nI d), .int n, .int l9, .int l10, .int (nI q0), .int y, .int (nI k)] [] (MW σ (vN c) f) = mm_L 166 289 [.ref 11, .int x, .int a, .int o, .int b, .int q, .int (nI e), .int (nI d), .int n, .int l9, .int l10, .int (nI q0), .int (up (smk f e d) m k y), .int (nI q0)] [] (MW σ (vN c) f)
  | 0, k, y, h => by
    have e : k = q0 := by omega
    subst e
    have z := eq_true (nI_le (a := k) (b := k) (by omega) (by omega))
    rw [e166_235]
    simp only [z, K0_v, K0_n, K0_x, K2_v, K2_n, K1_v, K1_n, K1_x, bI_s, bJ_s, bV_s, bS_s, l_10, l_00, bz_01, bz_0, bz_1, em_n, if_true, if_false, ite_not, ite_true, ite_false, not_true_eq_false, not_false_eq_true, or_true, true_or, up]
  | m + 1, k, y, h => by
    have z := eq_false (nI_ge (a := k) (b := q0) (by omega) (by omega))
    have ih := fun y => l_166c he hd hq (x := x) (a := a) (o := o) (b := b) (q := q) (n := n) (l9 := l9) (l10 := l10) m (k + 1) y (by omega)
    rw [e166_235]
    show _ = mm_L 166 289 [.ref 11, .int x, .int a, .int o, .int b, .int q, .int (nI e), .int (nI d), .int n, .int l9, .int l10, .int (nI q0), .int (up (smk f e d) m (k + 1) (smk f e d k y)), .int (nI q0)] [] (MW σ (vN c) f)
    rw [← ih]
    unfold smk
    by_cases h1 : f 29 (200 * e + k) = f 29 (200 * d + k)
    · simp only [z, e166_242, e166_248, e166_258, e166_262, e166_272, e166_275, e166_279, e166_280, mg_22, n200, nI_add, ma_29 (show 200 * e + k < 57600 by omega), ma_29 (show 200 * d + k < 57600 by omega), eq_true h1, nI_1, K0_v, K0_n, K0_x, K2_v, K2_n, K1_v, K1_n, K1_x, bI_s, bJ_s, bV_s, bS_s, l_10, l_00, bz_01, bz_0, bz_1, em_n, if_true, if_false, ite_not, ite_true, ite_false, not_true_eq_false, not_false_eq_true, or_true, true_or]
    · simp only [z, e166_242, e166_248, e166_258, e166_262, e166_272, e166_275, e166_279, e166_280, mg_22, n200, nI_add, ma_29 (show 200 * e + k < 57600 by omega), ma_29 (show 200 * d + k < 57600 by omega), eq_false h1, nI_1, K0_v, K0_n, K0_x, K2_v, K2_n, K1_v, K1_n, K1_x, bI_s, bJ_s, bV_s, bS_s, l_10, l_00, bz_01, bz_0, bz_1, em_n, if_true, if_false, ite_not, ite_true, ite_false, not_true_eq_false, not_false_eq_true, or_true, true_or]
theorem l_166b {e d M : Nat} (he : e < 288) (hd : d < 288) (hM : MF f e M) {x a o b q : Int32} (hq : q = 2) : ∀ m k (n : Int32) (l10 l11 l12 l13 : Value), k + m = M → mm_L 166 180 [.ref 11, .int x, .int a, .int o, .int b, .int q, .int (nI e), .int (nI d), .int n, .int (nI k), l10, l11, l12, l13] [] (MW σ (vN c) f) = some (.inl (some (.int (up (cSm f e d) m k n))), (MW σ (vN c) f))
  | 0, k, n, l10, l11, l12, l13, h => by
    have hM10 := hM.1
    have z := eq_true (nI_le (a := M) (b := k) (by omega) (by omega))
    rw [e166_180]
    simp only [mg_23, ma_30 he, hM.2.1, z, e166_186, e166_189, e166_317, K0_v, K0_n, K0_x, K2_v, K2_n, K1_v, K1_n, K1_x, bI_s, bJ_s, bV_s, bS_s, l_10, l_00, bz_01, bz_0, bz_1, em_n, if_true, if_false, ite_not, ite_true, ite_false, not_true_eq_false, not_false_eq_true, or_true, true_or, up]
  | m + 1, k, n, l10, l11, l12, l13, h => by
    have hM10 := hM.1
    have z := eq_false (nI_ge (a := k) (b := M) (by omega) (by omega))
    obtain ⟨p0, q0, h1, h2, h3, h4⟩ := hM.2.2 k (by omega)
    have ih := fun n l10 l11 l12 l13 => l_166b he hd hM (x := x) (a := a) (o := o) (b := b) hq m (k + 1) n l10 l11 l12 l13 (by omega)
    have lc := l_166c (σ := σ) (c := c) (f := f) he hd h4 (x := x) (a := a) (o := o) (b := b) (q := q) (n := n) (l9 := nI k) (l10 := nI p0) (q0 - p0) p0 0 (by omega)
    have e0 : cSm f e d k n = n + if 2 * up (smk f e d) (q0 - p0) p0 0 ≤ nI q0 - nI p0 then 0 else 1 := by
      unfold cSm rp0 rq0
      rw [h1, h2, nI_clamp (by omega), nI_clamp (by omega)]
    rw [e166_180]
    show _ = some (Sum.inl (some (Value.int (up (cSm f e d) m (k + 1) (cSm f e d k n)))), (MW σ (vN c) f))
    rw [e0]
    by_cases h5 : 2 * up (smk f e d) (q0 - p0) p0 0 ≤ nI q0 - nI p0
    · simp only [mg_23, ma_30 he, hM.2.1, z, e166_186, e166_189, e166_192, e166_198, e166_202, e166_211, e166_217, e166_226, eq_true hq, mg_24, mg_25, n10, nI_add, ma_31 (show 10 * e + k < 2880 by omega), ma_32 (show 10 * e + k < 2880 by omega), h1, h2, lc, K0_v, K0_n, K0_x, K2_v, K2_n, K1_v, K1_n, K1_x, bI_s, bJ_s, bV_s, bS_s, l_10, l_00, bz_01, bz_0, bz_1, em_n, if_true, if_false, ite_not, ite_true, ite_false, not_true_eq_false, not_false_eq_true, or_true, true_or]
      simp only [e166_289, e166_303, e166_307, e166_308, eq_true h5, nI_1, ih, K0_v, K0_n, K0_x, K2_v, K2_n, K1_v, K1_n, K1_x, bI_s, bJ_s, bV_s, bS_s, l_10, l_00, bz_01, bz_0, bz_1, em_n, if_true, if_false, ite_not, ite_true, ite_false, not_true_eq_false, not_false_eq_true, or_true, true_or]
    · simp only [mg_23, ma_30 he, hM.2.1, z, e166_186, e166_189, e166_192, e166_198, e166_202, e166_211, e166_217, e166_226, eq_true hq, mg_24, mg_25, n10, nI_add, ma_31 (show 10 * e + k < 2880 by omega), ma_32 (show 10 * e + k < 2880 by omega), h1, h2, lc, K0_v, K0_n, K0_x, K2_v, K2_n, K1_v, K1_n, K1_x, bI_s, bJ_s, bV_s, bS_s, l_10, l_00, bz_01, bz_0, bz_1, em_n, if_true, if_false, ite_not, ite_true, ite_false, not_true_eq_false, not_false_eq_true, or_true, true_or]
      simp only [e166_289, e166_303, e166_307, e166_308, eq_false h5, nI_1, ih, K0_v, K0_n, K0_x, K2_v, K2_n, K1_v, K1_n, K1_x, bI_s, bJ_s, bV_s, bS_s, l_10, l_00, bz_01, bz_0, bz_1, em_n, if_true, if_false, ite_not, ite_true, ite_false, not_true_eq_false, not_false_eq_true, or_true, true_or]
def agm (f : Nat → Nat → Int32) (e d M : Nat) (q : Int32) : Int32 := if q = 2 then up (cSm f e d) M 0 0 else up (cAm f e d q) 200 0 0
theorem c_166 (hc : c 4 ≤ 24) {k a o b M : Nat} {q : Int32} (hk : k < c 4) (h : f 23 k = 0) (ha : a < 3) (ho : o < 3) (hb : b < 4) (hq : 0 ≤ q ∧ q ≤ 2) (hM : MF f (12 * k + 4 * a + b) M) : mm_M 166 [.ref 11, .int (nI k), .int (nI a), .int (nI o), .int (nI b), .int q] (MW σ (vN c) f) = some (.inl (some (.int (agm f (12 * k + 4 * a + b) (12 * k + 4 * o + b) M q))), MW σ (vN (u2 c 5 0)) f) := by
  have he : 12 * k + 4 * a + b < 288 := by omega
  have hd : 12 * k + 4 * o + b < 288 := by omega
  have h2 : (0 ≤ nI a ∧ nI a ≤ 2) ∧ (0 ≤ nI b ∧ nI b ≤ 3) := ⟨⟨nI_pos' (by omega), show nI a ≤ nI 2 from nI_le (by omega) (by decide)⟩, ⟨nI_pos' (by omega), show nI b ≤ nI 3 from nI_le (by omega) (by decide)⟩⟩
  have h3 : (0 ≤ nI o ∧ nI o ≤ 2) ∧ (0 ≤ nI b ∧ nI b ≤ 3) := ⟨⟨nI_pos' (by omega), show nI o ≤ nI 2 from nI_le (by omega) (by decide)⟩, ⟨nI_pos' (by omega), show nI b ≤ nI 3 from nI_le (by omega) (by decide)⟩⟩
  have key : mm_M 166 [.ref 11, .int (nI k), .int (nI a), .int (nI o), .int (nI b), .int q] (MW σ (vN c) f) = mm_L 166 82 [.ref 11, .int (nI k), .int (nI a), .int (nI o), .int (nI b), .int q, .int (nI (12 * k + 4 * a + b)), .int (nI (12 * k + 4 * o + b)), .int 0, .int 0, mm_un, mm_un, mm_un, mm_un] [] (MW σ (vN (u2 c 5 0)) f) := by
    simp only [M_166, e166_0, e166_6, e166_9, e166_15, e166_18, e166_24, e166_27, e166_31, e166_38, e166_41, e166_45, e166_46, e166_49, e166_53, e166_56, e166_58, e166_65, e166_74, Mo_154, c_154 hc hk, eq_true h, c_163, eq_true h2, eq_true h3, c_108, eq_true hq, one_ne, ms_27, mg_27, c_164, n12', vs_0, vs_1, vs_2, vs_3, vs_n, vN_, u5_0, u5_1, u5_2, u5_3, u5_4, u5_5, t_0, t_1, t_2, t_3, te_0, te_1, te_2, te_3, K0_v, K0_n, K0_x, K2_v, K2_n, K1_v, K1_n, K1_x, bI_s, bJ_s, bV_s, bS_s, l_10, l_00, bz_01, bz_0, bz_1, em_n, if_true, if_false, ite_not, ite_true, ite_false, not_true_eq_false, not_false_eq_true, or_true, true_or]
  rw [key]
  generalize 12 * k + 4 * a + b = e at *
  generalize 12 * k + 4 * o + b = d at *
  unfold agm
  by_cases q2 : q = 2
  · have lb := l_166b (σ := σ) (c := u2 c 5 0) (f := f) he hd hM (x := nI k) (a := nI a) (o := nI o) (b := nI b) q2 M 0 0 mm_un mm_un mm_un mm_un (by omega)
    rw [nI_0] at lb
    rw [if_pos q2, e166_82, if_neg (by decide), e166_90, if_pos (by rw [q2]; decide), e166_177, lb]
  · have hq2 : ¬ 2 ≤ q := fun z => q2 (Int32.le_antisymm hq.2 z)
    obtain ⟨l10', l11', la⟩ := l_166a (σ := σ) (c := u2 c 5 0) (f := f) he hd (x := nI k) (a := nI a) (o := nI o) (b := nI b) hq2 200 0 0 mm_un mm_un mm_un mm_un (by omega)
    rw [nI_0] at la
    rw [if_neg q2, la, e166_177, e166_180]
    have hM10 := hM.1
    by_cases z : nI M ≤ 0
    · simp only [mg_23, ma_30 he, hM.2.1, eq_true z, e166_186, e166_189, e166_192, e166_317, K0_v, K0_n, K0_x, K2_v, K2_n, K1_v, K1_n, K1_x, bI_s, bJ_s, bV_s, bS_s, l_10, l_00, bz_01, bz_0, bz_1, em_n, if_true, if_false, ite_not, ite_true, ite_false, not_true_eq_false, not_false_eq_true, or_true, true_or]
    · simp only [mg_23, ma_30 he, hM.2.1, eq_false z, eq_false q2, e166_186, e166_189, e166_192, e166_317, K0_v, K0_n, K0_x, K2_v, K2_n, K1_v, K1_n, K1_x, bI_s, bJ_s, bV_s, bS_s, l_10, l_00, bz_01, bz_0, bz_1, em_n, if_true, if_false, ite_not, ite_true, ite_false, not_true_eq_false, not_false_eq_true, or_true, true_or]
end
