/-! LEVEL 2: rules leave the same hands on both sides -/
def RX (g f : Nat → Nat → Int32) (N R : Nat) : Prop := (∀ i, i < R → g 21 i = f 21 i) ∧ (∀ i, i < R → ∀ k, k < N → f 13 k = 0 ∨ f 13 k = 4 → (g 22 (30 * i + (f 14 k).toNatClampNeg) ≠ 0 ↔ (f 22 i >>> (f 14 k &&& 31)) &&& 1 = 1))
theorem rst_RH {g f : Nat → Nat → Int32} {N R i k : Nat} (hi : i < R) (hk : k < N) (h : RH g f N) (hx : RX g f N R) : RH (rst N i k g) (rsm N i k f) N := by
  obtain ⟨h1, h2⟩ := h.1 k hk
  have e : ((g 13 k = 0 ∨ g 13 k = 4) ∧ g 22 (30 * i + (g 14 k).toNatClampNeg) ≠ 0) ↔ ((f 13 k = 0 ∨ f 13 k = 4) ∧ (f 22 i >>> (f 14 k &&& 31)) &&& 1 = 1) := by
    rw [h1, h2]
    exact and_congr_right fun z => hx.2 i hi k hk z
  unfold rst rsm
  by_cases z : (f 13 k = 0 ∨ f 13 k = 4) ∧ (f 22 i >>> (f 14 k &&& 31)) &&& 1 = 1
  · rw [if_pos z, if_pos (e.mpr z)]; exact h
  · rw [if_neg z, if_neg (fun y => z (e.mp y)), hx.1 i hi]; exact chg_RH hk h
theorem RX_33 {g f g' f' : Nat → Nat → Int32} {N R : Nat} (hg : ∀ r, r ≠ 33 → g' r = g r) (hf : ∀ r, r ≠ 33 → f' r = f r) (h : RX g f N R) : RX g' f' N R := by
  unfold RX
  rw [hg 21 (by decide), hg 22 (by decide), hf 21 (by decide), hf 22 (by decide), hf 13 (by decide), hf 14 (by decide)]
  exact h
theorem rsts_RH {N R i : Nat} (hi : i < R) : ∀ m k (g f : Nat → Nat → Int32), k + m = N → RH g f N → RX g f N R → RH (up (rst N i) m k g) (up (rsm N i) m k f) N
  | 0, _, _, _, _, h, _ => h
  | m + 1, k, g, f, e, h, hx => rsts_RH hi m (k + 1) _ _ (by omega) (rst_RH hi (by omega) h hx) (RX_33 (fun r hr => rst_r hr) (fun r hr => rsm_r hr) hx)
theorem rstss_RH {N R : Nat} : ∀ m i (g f : Nat → Nat → Int32), i + m = R → RH g f N → RX g f N R → RH (up (rsts N) m i g) (up (rsms N) m i f) N
  | 0, _, _, _, _, h, _ => h
  | m + 1, i, g, f, e, h, hx => rstss_RH m (i + 1) _ _ (by omega) (rsts_RH (show i < R by omega) N 0 g f (by omega) h hx) (RX_33 (fun r hr => up_r (fun k g => rst_r hr) _ _ _) (fun r hr => up_r (fun k g => rsm_r hr) _ _ _) hx)
/-- the hands told are those that the reference works out -/
def RT (g f : Nat → Nat → Int32) (N : Nat) : Prop := ∀ k, k < N → ∀ j, j < 7 → g 34 (7 * k + j) = tfm f k j
theorem tfm_33 {f f' : Nat → Nat → Int32} (hf : ∀ r, r ≠ 33 → f' r = f r) (k : Nat) : tfm f' k = tfm f k := by
  unfold tfm
  rw [hf 12 (by decide), hf 13 (by decide), hf 14 (by decide), hf 15 (by decide), hf 16 (by decide)]
theorem bg_RH {N : Nat} : ∀ m k (g f : Nat → Nat → Int32), k + m = N → (∀ k, k < N → g 13 k = f 13 k ∧ g 14 k = f 14 k) → RT g f N → (∀ j, j < 7 * k → g 33 j = f 33 j) → RH (up bgc m k g) (up bgm m k f) N
  | 0, k, g, f, e, h, _, hd => ⟨h, fun j hj => hd j (by omega)⟩
  | m + 1, k, g, f, e, h, ht, hd => by
    refine bg_RH m (k + 1) (bgc k g) (bgm k f) (by omega) ?_ ?_ ?_
    · rw [bgc_r (by decide), bgc_r (by decide), bgm_r (by decide), bgm_r (by decide)]
      exact h
    · intro j hj q hq
      rw [bgc_r (by decide), tfm_33 (fun r hr => bgm_r hr)]
      exact ht j hj q hq
    · intro j hj
      unfold bgc bgm
      by_cases z : 7 * k ≤ j ∧ j < 7 * k + 7
      · rw [w7_in z, w7_in z]
        exact ht k (by omega) _ (by omega)
      · rw [w7_o (by omega), w7_o (by omega)]
        exact hd j (by omega)
theorem ap_RH {g f : Nat → Nat → Int32} {N R : Nat} (h : ∀ k, k < N → g 13 k = f 13 k ∧ g 14 k = f 14 k) (ht : RT g f N) (hx : RX g f N R) : RH (apc N R g) (apm N R f) N :=
  rstss_RH R 0 _ _ (by omega) (bg_RH N 0 g f (by omega) h ht (fun j hj => absurd hj (by omega))) (RX_33 (fun r hr => up_r (fun k g => bgc_r hr) _ _ _) (fun r hr => up_r (fun k g => bgm_r hr) _ _ _) hx)
theorem apc_r {g : Nat → Nat → Int32} {N R r : Nat} (hr : r ≠ 33) : apc N R g r = g r := by
  have a : ∀ k g, rsts N k g r = g r := fun k g => up_r (s := rst N k) (fun k g => rst_r hr) _ _ _
  have b : ∀ k g, bgc k g r = g r := fun k g => bgc_r hr
  unfold apc
  rw [up_r a, up_r b]
theorem apm_r {f : Nat → Nat → Int32} {N R r : Nat} (hr : r ≠ 33) : apm N R f r = f r := by
  have a : ∀ k g, rsms N k g r = g r := fun k g => up_r (s := rsm N k) (fun k g => rsm_r hr) _ _ _
  have b : ∀ k g, bgm k g r = g r := fun k g => bgm_r hr
  unfold apm
  rw [up_r a, up_r b]
