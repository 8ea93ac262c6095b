/-! JOINT: the world of both, the law's wrappers -/
theorem swap {σ : mm_S} {tg : Nat → Nat × Nat} {ad : Nat × Nat → Nat} {c : Nat → Nat} {g f : Nat → Nat → Int32} {v : Nat → Int32} {n : Nat} (w : WF tg ad c n) : MW (CW σ tg ad c g) v f = CW (MW σ v f) tg ad c g := by
  refine Prod.ext (funext fun a => ?_) rfl
  by_cases h : 11 ≤ a ∧ a ≤ 33
  · have e : (CW (MW σ v f) tg ad c g).1 a = (MW σ v f).1 a := CW_mid (Or.inr (by omega)) (w.2.no (Or.inl (by omega)))
    rw [e]
    by_cases e11 : a = 11
    · subst e11; rfl
    · rw [MW_at (by omega), MW_at (by omega)]
  · rw [MW_out (by omega)]
    by_cases h2 : a < 2 ∨ 10 < a
    · rw [CW_hi h2, CW_hi h2, MW_out (by omega)]
    · exact CW_lo h2 (fun _ => rfl) (fun _ => rfl) (fun _ => rfl) (fun _ => rfl) (fun _ => rfl) (fun _ => rfl) (fun _ => rfl) (fun _ => rfl)
theorem SB_MW {σ σ' : mm_S} {v : Nat → Int32} {f : Nat → Nat → Int32} (h : SB (MW σ v f) σ') : σ' = MW σ' v f := by
  refine Prod.ext (funext fun a => ?_) rfl
  by_cases e : a = 11
  · subst e
    rw [h 11 (by decide) (by decide)]
    rfl
  · by_cases e2 : 12 ≤ a ∧ a ≤ 33
    · rw [h a (by omega) (by omega), MW_at e2, MW_at e2]
    · rw [MW_out (by omega)]
def OUT (σ : mm_S) (o : Nat → Int64) : Prop := σ.1 34 = some (.inr (.inr (.inl (1, o))))
section
variable {σ σ' : mm_S} {tg tg' : Nat → Nat × Nat} {ad ad' : Nat × Nat → Nat} {c c' : Nat → Nat} {g g' : Nat → Nat → Int32} {r : Option Value ⊕ Nat} {o : Nat → Int64} {n : Nat}
theorem CW_p34 {x : mm_O} (w : WF tg ad c n) : mm_put (CW σ tg ad c g) 34 x = CW (mm_put σ 34 x) tg ad c g := by
  refine Prod.ext (funext fun b => ?_) rfl
  show (if b = 34 then some x else (CW σ tg ad c g).1 b) = _
  by_cases e : b = 34
  · subst e
    rw [if_pos rfl, CW_mid (Or.inr (by decide)) (w.2.no (Or.inl (by decide)))]
    rfl
  · rw [if_neg e]
    by_cases e2 : b < 2 ∨ 10 < b
    · rw [CW_hi e2, CW_hi e2]
      have : (mm_put σ 34 x).1 b = σ.1 b := if_neg e
      rw [this]
    · exact CW_lo e2 (fun _ => rfl) (fun _ => rfl) (fun _ => rfl) (fun _ => rfl) (fun _ => rfl) (fun _ => rfl) (fun _ => rfl) (fun _ => rfl)
theorem lst34 (w : WF tg ad c n) (h : OUT σ o) (v : Int64) : mm_lst_i (CW σ tg ad c g) 34 0 v = some (CW (mm_put σ 34 (.inr (.inr (.inl (1, vp_updL o 0 v))))) tg ad c g) := by
  unfold mm_lst_i mm_lar
  rw [CW_mid (Or.inr (by decide)) (w.2.no (Or.inl (by decide))), h]
  show some (mm_put (CW σ tg ad c g) 34 _) = _
  rw [CW_p34 w]
  rfl
theorem cat_y {y pc h n p E : Nat} {ls : List Value} {τ : mm_S} (h1 : mm_hd (mm_lh mm_hhs y) pc E = some h) (h2 : mm_hs y h = some (n, p)) (h3 : n < ls.length) : mm_cat mm_L y pc ls E τ = mm_L y p (ls.set n mm_un) [] τ := by
  unfold mm_cat
  rw [h1]
  show (mm_hs y h).bind _ = _
  rw [h2]
  exact if_pos h3
theorem w_167 {p0 p1 p2 p3 p4 p5 p6 : Int32} (hC : mm_M 24 [.ref 2, .int p0, .int p1, .int p2, .int p3, .int p4, .int p5, .int p6] (CW σ tg ad c g) = some (r, CW σ' tg' ad' c' g')) (ho : OUT σ' o) (w' : WF tg' ad' c' n) : (∀ v, r = .inl (some (.int v)) → mm_M 167 [.ref 2, .int p0, .int p1, .int p2, .int p3, .int p4, .int p5, .int p6, .ref 34] (CW σ tg ad c g) = some (.inl (some (.int 0)), CW (mm_put σ' 34 (.inr (.inr (.inl (1, vp_updL o 0 v.toInt64))))) tg' ad' c' g')) ∧ ∀ e, r = .inr e → cdA e ≠ 0 → mm_M 167 [.ref 2, .int p0, .int p1, .int p2, .int p3, .int p4, .int p5, .int p6, .ref 34] (CW σ tg ad c g) = some (.inl (some (.int (nI (cdA e)))), CW σ' tg' ad' c' g') := by
  refine ⟨fun v hv => ?_, fun e he hne => ?_⟩
  · subst hv
    simp only [M_167, e167_0, e167_18, e167_20, e167_25, e167_29, e167_31, aM_24, hC, K1_v, lst34 w' ho, bS_s]
  · subst he
    rw [M_167, e167_0, aM_24, hC, K1_x]
    unfold cdA at hne ⊢
    by_cases z0 : e = 0
    · subst z0
      refine Eq.trans (cat_y (y := 167) (pc := 15) (E := 0) (h := 23) (n := 9) (p := 25) (by decide) (by unfold mm_hs; rw [mb_167, dL_sign_23]; rfl) ?_) (e167_25 2 p0 p1 p2 p3 p4 p5 p6 34 mm_un _)
      exact show 9 < 10 by decide
    by_cases z1 : e = 1
    · subst z1
      refine Eq.trans (cat_y (y := 167) (pc := 15) (E := 1) (h := 27) (n := 9) (p := 29) (by decide) (by unfold mm_hs; rw [mb_167, dL_sign_27]; rfl) ?_) (e167_29 2 p0 p1 p2 p3 p4 p5 p6 34 mm_un _)
      exact show 9 < 10 by decide
    exfalso
    apply hne
    rw [if_neg z0]
    rw [if_neg z1]
theorem w_168 {p0 p1 : Int32} (hC : mm_M 25 [.ref 2, .int p0, .int p1] (CW σ tg ad c g) = some (r, CW σ' tg' ad' c' g')) (ho : OUT σ' o) (w' : WF tg' ad' c' n) : (∀ v, r = .inl (some (.int v)) → mm_M 168 [.ref 2, .int p0, .int p1, .ref 34] (CW σ tg ad c g) = some (.inl (some (.int 0)), CW (mm_put σ' 34 (.inr (.inr (.inl (1, vp_updL o 0 v.toInt64))))) tg' ad' c' g')) ∧ ∀ e, r = .inr e → cdN e ≠ 0 → mm_M 168 [.ref 2, .int p0, .int p1, .ref 34] (CW σ tg ad c g) = some (.inl (some (.int (nI (cdN e)))), CW σ' tg' ad' c' g') := by
  refine ⟨fun v hv => ?_, fun e he hne => ?_⟩
  · subst hv
    simp only [M_168, e168_0, e168_8, e168_10, e168_15, e168_19, e168_21, aM_25, hC, K1_v, lst34 w' ho, bS_s]
  · subst he
    rw [M_168, e168_0, aM_25, hC, K1_x]
    unfold cdN at hne ⊢
    by_cases z0 : e = 2
    · subst z0
      refine Eq.trans (cat_y (y := 168) (pc := 5) (E := 2) (h := 13) (n := 4) (p := 15) (by decide) (by unfold mm_hs; rw [mb_168, dL_nearest_13]; rfl) ?_) (e168_15 2 p0 p1 34 mm_un _)
      exact show 4 < 5 by decide
    by_cases z1 : e = 0
    · subst z1
      refine Eq.trans (cat_y (y := 168) (pc := 5) (E := 0) (h := 17) (n := 4) (p := 19) (by decide) (by unfold mm_hs; rw [mb_168, dL_nearest_17]; rfl) ?_) (e168_19 2 p0 p1 34 mm_un _)
      exact show 4 < 5 by decide
    exfalso
    apply hne
    rw [if_neg z0]
    rw [if_neg z1]
theorem w_169 {p0 p1 : Int32} (hC : mm_M 26 [.ref 2, .int p0, .int p1] (CW σ tg ad c g) = some (r, CW σ' tg' ad' c' g')) (ho : OUT σ' o) (w' : WF tg' ad' c' n) : (∀ v, r = .inl (some (.int v)) → mm_M 169 [.ref 2, .int p0, .int p1, .ref 34] (CW σ tg ad c g) = some (.inl (some (.int 0)), CW (mm_put σ' 34 (.inr (.inr (.inl (1, vp_updL o 0 v.toInt64))))) tg' ad' c' g')) ∧ ∀ e, r = .inr e → cdN e ≠ 0 → mm_M 169 [.ref 2, .int p0, .int p1, .ref 34] (CW σ tg ad c g) = some (.inl (some (.int (nI (cdN e)))), CW σ' tg' ad' c' g') := by
  refine ⟨fun v hv => ?_, fun e he hne => ?_⟩
  · subst hv
    simp only [M_169, e169_0, e169_8, e169_10, e169_15, e169_19, e169_21, aM_26, hC, K1_v, lst34 w' ho, bS_s]
  · subst he
    rw [M_169, e169_0, aM_26, hC, K1_x]
    unfold cdN at hne ⊢
    by_cases z0 : e = 2
    · subst z0
      refine Eq.trans (cat_y (y := 169) (pc := 5) (E := 2) (h := 13) (n := 4) (p := 15) (by decide) (by unfold mm_hs; rw [mb_169, dL_written_13]; rfl) ?_) (e169_15 2 p0 p1 34 mm_un _)
      exact show 4 < 5 by decide
    by_cases z1 : e = 0
    · subst z1
      refine Eq.trans (cat_y (y := 169) (pc := 5) (E := 0) (h := 17) (n := 4) (p := 19) (by decide) (by unfold mm_hs; rw [mb_169, dL_written_17]; rfl) ?_) (e169_19 2 p0 p1 34 mm_un _)
      exact show 4 < 5 by decide
    exfalso
    apply hne
    rw [if_neg z0]
    rw [if_neg z1]
theorem w_170 {p0 p1 : Int32} (hC : mm_M 27 [.ref 2, .int p0, .int p1] (CW σ tg ad c g) = some (r, CW σ' tg' ad' c' g')) (ho : OUT σ' o) (w' : WF tg' ad' c' n) : (∀ v, r = .inl (some (.int v)) → mm_M 170 [.ref 2, .int p0, .int p1, .ref 34] (CW σ tg ad c g) = some (.inl (some (.int 0)), CW (mm_put σ' 34 (.inr (.inr (.inl (1, vp_updL o 0 v.toInt64))))) tg' ad' c' g')) ∧ ∀ e, r = .inr e → cdL e ≠ 0 → mm_M 170 [.ref 2, .int p0, .int p1, .ref 34] (CW σ tg ad c g) = some (.inl (some (.int (nI (cdL e)))), CW σ' tg' ad' c' g') := by
  refine ⟨fun v hv => ?_, fun e he hne => ?_⟩
  · subst hv
    simp only [M_170, e170_0, e170_8, e170_10, e170_15, e170_17, aM_27, hC, K1_v, lst34 w' ho, bS_s]
  · subst he
    rw [M_170, e170_0, aM_27, hC, K1_x]
    unfold cdL at hne ⊢
    by_cases z0 : e = 0
    · subst z0
      refine Eq.trans (cat_y (y := 170) (pc := 5) (E := 0) (h := 13) (n := 4) (p := 15) (by decide) (by unfold mm_hs; rw [mb_170, dL_loses_13]; rfl) ?_) (e170_15 2 p0 p1 34 mm_un _)
      exact show 4 < 5 by decide
    exfalso
    apply hne
    rw [if_neg z0]
theorem w_171 {p0 p1 p2 p3 : Int32} (hC : mm_M 36 [.ref 2, .int p0, .int p1, .int p2, .int p3] (CW σ tg ad c g) = some (r, CW σ' tg' ad' c' g')) (ho : OUT σ' o) (w' : WF tg' ad' c' n) : (∀ v, r = .inl (some (.int v)) → mm_M 171 [.ref 2, .int p0, .int p1, .int p2, .int p3, .ref 34] (CW σ tg ad c g) = some (.inl (some (.int 0)), CW (mm_put σ' 34 (.inr (.inr (.inl (1, vp_updL o 0 v.toInt64))))) tg' ad' c' g')) ∧ ∀ e, r = .inr e → cdB e ≠ 0 → mm_M 171 [.ref 2, .int p0, .int p1, .int p2, .int p3, .ref 34] (CW σ tg ad c g) = some (.inl (some (.int (nI (cdB e)))), CW σ' tg' ad' c' g') := by
  refine ⟨fun v hv => ?_, fun e he hne => ?_⟩
  · subst hv
    simp only [M_171, e171_0, e171_12, e171_14, e171_19, e171_23, e171_27, e171_29, aM_36, hC, K1_v, lst34 w' ho, bS_s]
  · subst he
    rw [M_171, e171_0, aM_36, hC, K1_x]
    unfold cdB at hne ⊢
    by_cases z0 : e = 2
    · subst z0
      refine Eq.trans (cat_y (y := 171) (pc := 9) (E := 2) (h := 17) (n := 6) (p := 19) (by decide) (by unfold mm_hs; rw [mb_171, dL_item_17]; rfl) ?_) (e171_19 2 p0 p1 p2 p3 34 mm_un _)
      exact show 6 < 7 by decide
    by_cases z1 : e = 0
    · subst z1
      refine Eq.trans (cat_y (y := 171) (pc := 9) (E := 0) (h := 21) (n := 6) (p := 23) (by decide) (by unfold mm_hs; rw [mb_171, dL_item_21]; rfl) ?_) (e171_23 2 p0 p1 p2 p3 34 mm_un _)
      exact show 6 < 7 by decide
    by_cases z2 : e = 1
    · subst z2
      refine Eq.trans (cat_y (y := 171) (pc := 9) (E := 1) (h := 25) (n := 6) (p := 27) (by decide) (by unfold mm_hs; rw [mb_171, dL_item_25]; rfl) ?_) (e171_27 2 p0 p1 p2 p3 34 mm_un _)
      exact show 6 < 7 by decide
    exfalso
    apply hne
    rw [if_neg z0]
    rw [if_neg z1]
    rw [if_neg z2]
theorem w_172 {p0 p1 p2 : Int32} (hC : mm_M 38 [.ref 2, .int p0, .int p1, .int p2] (CW σ tg ad c g) = some (r, CW σ' tg' ad' c' g')) (ho : OUT σ' o) (w' : WF tg' ad' c' n) : (∀ v, r = .inl (some (.int v)) → mm_M 172 [.ref 2, .int p0, .int p1, .int p2, .ref 34] (CW σ tg ad c g) = some (.inl (some (.int 0)), CW (mm_put σ' 34 (.inr (.inr (.inl (1, vp_updL o 0 v.toInt64))))) tg' ad' c' g')) ∧ ∀ e, r = .inr e → cdB e ≠ 0 → mm_M 172 [.ref 2, .int p0, .int p1, .int p2, .ref 34] (CW σ tg ad c g) = some (.inl (some (.int (nI (cdB e)))), CW σ' tg' ad' c' g') := by
  refine ⟨fun v hv => ?_, fun e he hne => ?_⟩
  · subst hv
    simp only [M_172, e172_0, e172_10, e172_12, e172_17, e172_21, e172_25, e172_27, aM_38, hC, K1_v, lst34 w' ho, bS_s]
  · subst he
    rw [M_172, e172_0, aM_38, hC, K1_x]
    unfold cdB at hne ⊢
    by_cases z0 : e = 2
    · subst z0
      refine Eq.trans (cat_y (y := 172) (pc := 7) (E := 2) (h := 15) (n := 5) (p := 17) (by decide) (by unfold mm_hs; rw [mb_172, dL_face_15]; rfl) ?_) (e172_17 2 p0 p1 p2 34 mm_un _)
      exact show 5 < 6 by decide
    by_cases z1 : e = 0
    · subst z1
      refine Eq.trans (cat_y (y := 172) (pc := 7) (E := 0) (h := 19) (n := 5) (p := 21) (by decide) (by unfold mm_hs; rw [mb_172, dL_face_19]; rfl) ?_) (e172_21 2 p0 p1 p2 34 mm_un _)
      exact show 5 < 6 by decide
    by_cases z2 : e = 1
    · subst z2
      refine Eq.trans (cat_y (y := 172) (pc := 7) (E := 1) (h := 23) (n := 5) (p := 25) (by decide) (by unfold mm_hs; rw [mb_172, dL_face_23]; rfl) ?_) (e172_25 2 p0 p1 p2 34 mm_un _)
      exact show 5 < 6 by decide
    exfalso
    apply hne
    rw [if_neg z0]
    rw [if_neg z1]
    rw [if_neg z2]
theorem w_173 {p0 p1 : Int32} (hC : mm_M 39 [.ref 2, .int p0, .int p1] (CW σ tg ad c g) = some (r, CW σ' tg' ad' c' g')) (ho : OUT σ' o) (w' : WF tg' ad' c' n) : (∀ v, r = .inl (some (.int v)) → mm_M 173 [.ref 2, .int p0, .int p1, .ref 34] (CW σ tg ad c g) = some (.inl (some (.int 0)), CW (mm_put σ' 34 (.inr (.inr (.inl (1, vp_updL o 0 v.toInt64))))) tg' ad' c' g')) ∧ ∀ e, r = .inr e → cdN e ≠ 0 → mm_M 173 [.ref 2, .int p0, .int p1, .ref 34] (CW σ tg ad c g) = some (.inl (some (.int (nI (cdN e)))), CW σ' tg' ad' c' g') := by
  refine ⟨fun v hv => ?_, fun e he hne => ?_⟩
  · subst hv
    simp only [M_173, e173_0, e173_8, e173_10, e173_15, e173_19, e173_21, aM_39, hC, K1_v, lst34 w' ho, bS_s]
  · subst he
    rw [M_173, e173_0, aM_39, hC, K1_x]
    unfold cdN at hne ⊢
    by_cases z0 : e = 2
    · subst z0
      refine Eq.trans (cat_y (y := 173) (pc := 5) (E := 2) (h := 13) (n := 4) (p := 15) (by decide) (by unfold mm_hs; rw [mb_173, dL_shown_13]; rfl) ?_) (e173_15 2 p0 p1 34 mm_un _)
      exact show 4 < 5 by decide
    by_cases z1 : e = 0
    · subst z1
      refine Eq.trans (cat_y (y := 173) (pc := 5) (E := 0) (h := 17) (n := 4) (p := 19) (by decide) (by unfold mm_hs; rw [mb_173, dL_shown_17]; rfl) ?_) (e173_19 2 p0 p1 34 mm_un _)
      exact show 4 < 5 by decide
    exfalso
    apply hne
    rw [if_neg z0]
    rw [if_neg z1]
theorem w_174 {p0 p1 : Int32} (hC : mm_M 40 [.ref 2, .int p0, .int p1] (CW σ tg ad c g) = some (r, CW σ' tg' ad' c' g')) (ho : OUT σ' o) (w' : WF tg' ad' c' n) : (∀ v, r = .inl (some (.int v)) → mm_M 174 [.ref 2, .int p0, .int p1, .ref 34] (CW σ tg ad c g) = some (.inl (some (.int 0)), CW (mm_put σ' 34 (.inr (.inr (.inl (1, vp_updL o 0 v.toInt64))))) tg' ad' c' g')) ∧ ∀ e, r = .inr e → cdI e ≠ 0 → mm_M 174 [.ref 2, .int p0, .int p1, .ref 34] (CW σ tg ad c g) = some (.inl (some (.int (nI (cdI e)))), CW σ' tg' ad' c' g') := by
  refine ⟨fun v hv => ?_, fun e he hne => ?_⟩
  · subst hv
    simp only [M_174, e174_0, e174_8, e174_10, e174_15, e174_17, aM_40, hC, K1_v, lst34 w' ho, bS_s]
  · subst he
    rw [M_174, e174_0, aM_40, hC, K1_x]
    unfold cdI at hne ⊢
    by_cases z0 : e = 2
    · subst z0
      refine Eq.trans (cat_y (y := 174) (pc := 5) (E := 2) (h := 13) (n := 4) (p := 15) (by decide) (by unfold mm_hs; rw [mb_174, dL_standsFor_13]; rfl) ?_) (e174_15 2 p0 p1 34 mm_un _)
      exact show 4 < 5 by decide
    exfalso
    apply hne
    rw [if_neg z0]
theorem w_175 {p0 : Int32} (hC : mm_M 57 [.ref 2, .int p0] (CW σ tg ad c g) = some (r, CW σ' tg' ad' c' g')) (ho : OUT σ' o) (w' : WF tg' ad' c' n) : (∀ v, r = .inl (some (.int v)) → mm_M 175 [.ref 2, .int p0, .ref 34] (CW σ tg ad c g) = some (.inl (some (.int 0)), CW (mm_put σ' 34 (.inr (.inr (.inl (1, vp_updL o 0 v.toInt64))))) tg' ad' c' g')) ∧ ∀ e, r = .inr e → cdA e ≠ 0 → mm_M 175 [.ref 2, .int p0, .ref 34] (CW σ tg ad c g) = some (.inl (some (.int (nI (cdA e)))), CW σ' tg' ad' c' g') := by
  refine ⟨fun v hv => ?_, fun e he hne => ?_⟩
  · subst hv
    simp only [M_175, e175_0, e175_7, e175_9, e175_13, e175_16, e175_18, aM_57, hC, K1_v, lst34 w' ho, bS_s]
  · subst he
    rw [M_175, e175_0, aM_57, hC, K1_x]
    unfold cdA at hne ⊢
    by_cases z0 : e = 0
    · subst z0
      refine Eq.trans (cat_y (y := 175) (pc := 4) (E := 0) (h := 12) (n := 3) (p := 13) (by decide) (by unfold mm_hs; rw [mb_175, dL_rule_12]; rfl) ?_) (e175_13 2 p0 34 mm_un _)
      exact show 3 < 4 by decide
    by_cases z1 : e = 1
    · subst z1
      refine Eq.trans (cat_y (y := 175) (pc := 4) (E := 1) (h := 15) (n := 3) (p := 16) (by decide) (by unfold mm_hs; rw [mb_175, dL_rule_15]; rfl) ?_) (e175_16 2 p0 34 mm_un _)
      exact show 3 < 4 by decide
    exfalso
    apply hne
    rw [if_neg z0]
    rw [if_neg z1]
theorem w_176 {p0 p1 : Int32} (hC : mm_M 58 [.ref 2, .int p0, .int p1] (CW σ tg ad c g) = some (r, CW σ' tg' ad' c' g')) (ho : OUT σ' o) (w' : WF tg' ad' c' n) : (∀ v, r = .inl (some (.int v)) → mm_M 176 [.ref 2, .int p0, .int p1, .ref 34] (CW σ tg ad c g) = some (.inl (some (.int 0)), CW (mm_put σ' 34 (.inr (.inr (.inl (1, vp_updL o 0 (if v = 0 then 0 else 1)))))) tg' ad' c' g')) ∧ ∀ e, r = .inr e → cdI e ≠ 0 → mm_M 176 [.ref 2, .int p0, .int p1, .ref 34] (CW σ tg ad c g) = some (.inl (some (.int (nI (cdI e)))), CW σ' tg' ad' c' g') := by
  refine ⟨fun v hv => ?_, fun e he hne => ?_⟩
  · subst hv
    by_cases z : v = 0
    · rw [if_pos z]
      simp only [M_176, e176_0, e176_8, e176_11, e176_15, e176_16, e176_17, e176_22, e176_24, aM_58, hC, K1_v, eq_true z, lst34 w' ho, bS_s, if_true, if_false]
    · rw [if_neg z]
      simp only [M_176, e176_0, e176_8, e176_11, e176_15, e176_16, e176_17, e176_22, e176_24, aM_58, hC, K1_v, eq_false z, lst34 w' ho, bS_s, if_true, if_false]
  · subst he
    rw [M_176, e176_0, aM_58, hC, K1_x]
    unfold cdI at hne ⊢
    by_cases z0 : e = 2
    · subst z0
      refine Eq.trans (cat_y (y := 176) (pc := 5) (E := 2) (h := 20) (n := 4) (p := 22) (by decide) (by unfold mm_hs; rw [mb_176, dL_except_20]; rfl) ?_) (e176_22 2 p0 p1 34 mm_un _)
      exact show 4 < 5 by decide
    exfalso
    apply hne
    rw [if_neg z0]
theorem w_177 {p0 p1 : Int32} (hC : mm_M 68 [.ref 2, .int p0, .int p1] (CW σ tg ad c g) = some (r, CW σ' tg' ad' c' g')) (ho : OUT σ' o) (w' : WF tg' ad' c' n) : (∀ v, r = .inl (some (.int v)) → mm_M 177 [.ref 2, .int p0, .int p1, .ref 34] (CW σ tg ad c g) = some (.inl (some (.int 0)), CW (mm_put σ' 34 (.inr (.inr (.inl (1, vp_updL o 0 v.toInt64))))) tg' ad' c' g')) ∧ ∀ e, r = .inr e → cdN e ≠ 0 → mm_M 177 [.ref 2, .int p0, .int p1, .ref 34] (CW σ tg ad c g) = some (.inl (some (.int (nI (cdN e)))), CW σ' tg' ad' c' g') := by
  refine ⟨fun v hv => ?_, fun e he hne => ?_⟩
  · subst hv
    simp only [M_177, e177_0, e177_8, e177_10, e177_15, e177_19, e177_21, aM_68, hC, K1_v, lst34 w' ho, bS_s]
  · subst he
    rw [M_177, e177_0, aM_68, hC, K1_x]
    unfold cdN at hne ⊢
    by_cases z0 : e = 2
    · subst z0
      refine Eq.trans (cat_y (y := 177) (pc := 5) (E := 2) (h := 13) (n := 4) (p := 15) (by decide) (by unfold mm_hs; rw [mb_177, dL_signed_13]; rfl) ?_) (e177_15 2 p0 p1 34 mm_un _)
      exact show 4 < 5 by decide
    by_cases z1 : e = 0
    · subst z1
      refine Eq.trans (cat_y (y := 177) (pc := 5) (E := 0) (h := 17) (n := 4) (p := 19) (by decide) (by unfold mm_hs; rw [mb_177, dL_signed_17]; rfl) ?_) (e177_19 2 p0 p1 34 mm_un _)
      exact show 4 < 5 by decide
    exfalso
    apply hne
    rw [if_neg z0]
    rw [if_neg z1]
theorem w_178 {p0 p1 : Int32} (hC : mm_M 69 [.ref 2, .int p0, .int p1] (CW σ tg ad c g) = some (r, CW σ' tg' ad' c' g')) (ho : OUT σ' o) (w' : WF tg' ad' c' n) : (∀ v, r = .inl (some (.int v)) → mm_M 178 [.ref 2, .int p0, .int p1, .ref 34] (CW σ tg ad c g) = some (.inl (some (.int 0)), CW (mm_put σ' 34 (.inr (.inr (.inl (1, vp_updL o 0 v.toInt64))))) tg' ad' c' g')) ∧ ∀ e, r = .inr e → cdN e ≠ 0 → mm_M 178 [.ref 2, .int p0, .int p1, .ref 34] (CW σ tg ad c g) = some (.inl (some (.int (nI (cdN e)))), CW σ' tg' ad' c' g') := by
  refine ⟨fun v hv => ?_, fun e he hne => ?_⟩
  · subst hv
    simp only [M_178, e178_0, e178_8, e178_10, e178_15, e178_19, e178_21, aM_69, hC, K1_v, lst34 w' ho, bS_s]
  · subst he
    rw [M_178, e178_0, aM_69, hC, K1_x]
    unfold cdN at hne ⊢
    by_cases z0 : e = 2
    · subst z0
      refine Eq.trans (cat_y (y := 178) (pc := 5) (E := 2) (h := 13) (n := 4) (p := 15) (by decide) (by unfold mm_hs; rw [mb_178, dL_at_13]; rfl) ?_) (e178_15 2 p0 p1 34 mm_un _)
      exact show 4 < 5 by decide
    by_cases z1 : e = 0
    · subst z1
      refine Eq.trans (cat_y (y := 178) (pc := 5) (E := 0) (h := 17) (n := 4) (p := 19) (by decide) (by unfold mm_hs; rw [mb_178, dL_at_17]; rfl) ?_) (e178_19 2 p0 p1 34 mm_un _)
      exact show 4 < 5 by decide
    exfalso
    apply hne
    rw [if_neg z0]
    rw [if_neg z1]
theorem w_179 {p0 p1 : Int32} (hC : mm_M 70 [.ref 2, .int p0, .int p1] (CW σ tg ad c g) = some (r, CW σ' tg' ad' c' g')) (ho : OUT σ' o) (w' : WF tg' ad' c' n) : (∀ v, r = .inl (some (.int v)) → mm_M 179 [.ref 2, .int p0, .int p1, .ref 34] (CW σ tg ad c g) = some (.inl (some (.int 0)), CW (mm_put σ' 34 (.inr (.inr (.inl (1, vp_updL o 0 v.toInt64))))) tg' ad' c' g')) ∧ ∀ e, r = .inr e → cdN e ≠ 0 → mm_M 179 [.ref 2, .int p0, .int p1, .ref 34] (CW σ tg ad c g) = some (.inl (some (.int (nI (cdN e)))), CW σ' tg' ad' c' g') := by
  refine ⟨fun v hv => ?_, fun e he hne => ?_⟩
  · subst hv
    simp only [M_179, e179_0, e179_8, e179_10, e179_15, e179_19, e179_21, aM_70, hC, K1_v, lst34 w' ho, bS_s]
  · subst he
    rw [M_179, e179_0, aM_70, hC, K1_x]
    unfold cdN at hne ⊢
    by_cases z0 : e = 2
    · subst z0
      refine Eq.trans (cat_y (y := 179) (pc := 5) (E := 2) (h := 13) (n := 4) (p := 15) (by decide) (by unfold mm_hs; rw [mb_179, dL_readBack_13]; rfl) ?_) (e179_15 2 p0 p1 34 mm_un _)
      exact show 4 < 5 by decide
    by_cases z1 : e = 0
    · subst z1
      refine Eq.trans (cat_y (y := 179) (pc := 5) (E := 0) (h := 17) (n := 4) (p := 19) (by decide) (by unfold mm_hs; rw [mb_179, dL_readBack_17]; rfl) ?_) (e179_19 2 p0 p1 34 mm_un _)
      exact show 4 < 5 by decide
    exfalso
    apply hne
    rw [if_neg z0]
    rw [if_neg z1]
theorem w_180 {p0 : Int32} (hC : mm_M 84 [.ref 2, .int p0] (CW σ tg ad c g) = some (r, CW σ' tg' ad' c' g')) (ho : OUT σ' o) (w' : WF tg' ad' c' n) : (∀ v, r = .inl (some (.int v)) → mm_M 180 [.ref 2, .int p0, .ref 34] (CW σ tg ad c g) = some (.inl (some (.int 0)), CW (mm_put σ' 34 (.inr (.inr (.inl (1, vp_updL o 0 v.toInt64))))) tg' ad' c' g')) ∧ ∀ e, r = .inr e → cdT e ≠ 0 → mm_M 180 [.ref 2, .int p0, .ref 34] (CW σ tg ad c g) = some (.inl (some (.int (nI (cdT e)))), CW σ' tg' ad' c' g') := by
  refine ⟨fun v hv => ?_, fun e he hne => ?_⟩
  · subst hv
    simp only [M_180, e180_0, e180_7, e180_9, e180_13, e180_16, e180_18, aM_84, hC, K1_v, lst34 w' ho, bS_s]
  · subst he
    rw [M_180, e180_0, aM_84, hC, K1_x]
    unfold cdT at hne ⊢
    by_cases z0 : e = 2
    · subst z0
      refine Eq.trans (cat_y (y := 180) (pc := 4) (E := 2) (h := 12) (n := 3) (p := 13) (by decide) (by unfold mm_hs; rw [mb_180, dL_take_12]; rfl) ?_) (e180_13 2 p0 34 mm_un _)
      exact show 3 < 4 by decide
    by_cases z1 : e = 1
    · subst z1
      refine Eq.trans (cat_y (y := 180) (pc := 4) (E := 1) (h := 15) (n := 3) (p := 16) (by decide) (by unfold mm_hs; rw [mb_180, dL_take_15]; rfl) ?_) (e180_16 2 p0 34 mm_un _)
      exact show 3 < 4 by decide
    exfalso
    apply hne
    rw [if_neg z0]
    rw [if_neg z1]
theorem w_181 {p0 p1 p2 : Int32} (hC : mm_M 85 [.ref 2, .int p0, .int p1, .int p2] (CW σ tg ad c g) = some (r, CW σ' tg' ad' c' g')) (ho : OUT σ' o) (w' : WF tg' ad' c' n) : (∀ v, r = .inl (some (.int v)) → mm_M 181 [.ref 2, .int p0, .int p1, .int p2, .ref 34] (CW σ tg ad c g) = some (.inl (some (.int 0)), CW (mm_put σ' 34 (.inr (.inr (.inl (1, vp_updL o 0 v.toInt64))))) tg' ad' c' g')) ∧ ∀ e, r = .inr e → cdB e ≠ 0 → mm_M 181 [.ref 2, .int p0, .int p1, .int p2, .ref 34] (CW σ tg ad c g) = some (.inl (some (.int (nI (cdB e)))), CW σ' tg' ad' c' g') := by
  refine ⟨fun v hv => ?_, fun e he hne => ?_⟩
  · subst hv
    simp only [M_181, e181_0, e181_10, e181_12, e181_17, e181_21, e181_25, e181_27, aM_85, hC, K1_v, lst34 w' ho, bS_s]
  · subst he
    rw [M_181, e181_0, aM_85, hC, K1_x]
    unfold cdB at hne ⊢
    by_cases z0 : e = 2
    · subst z0
      refine Eq.trans (cat_y (y := 181) (pc := 7) (E := 2) (h := 15) (n := 5) (p := 17) (by decide) (by unfold mm_hs; rw [mb_181, dL_make_15]; rfl) ?_) (e181_17 2 p0 p1 p2 34 mm_un _)
      exact show 5 < 6 by decide
    by_cases z1 : e = 0
    · subst z1
      refine Eq.trans (cat_y (y := 181) (pc := 7) (E := 0) (h := 19) (n := 5) (p := 21) (by decide) (by unfold mm_hs; rw [mb_181, dL_make_19]; rfl) ?_) (e181_21 2 p0 p1 p2 34 mm_un _)
      exact show 5 < 6 by decide
    by_cases z2 : e = 1
    · subst z2
      refine Eq.trans (cat_y (y := 181) (pc := 7) (E := 1) (h := 23) (n := 5) (p := 25) (by decide) (by unfold mm_hs; rw [mb_181, dL_make_23]; rfl) ?_) (e181_25 2 p0 p1 p2 34 mm_un _)
      exact show 5 < 6 by decide
    exfalso
    apply hne
    rw [if_neg z0]
    rw [if_neg z1]
    rw [if_neg z2]
theorem w_182 {p0 p1 p2 : Int32} (hC : mm_M 86 [.ref 2, .int p0, .int p1, .int p2] (CW σ tg ad c g) = some (r, CW σ' tg' ad' c' g')) (ho : OUT σ' o) (w' : WF tg' ad' c' n) : (∀ v, r = .inl (some (.int v)) → mm_M 182 [.ref 2, .int p0, .int p1, .int p2, .ref 34] (CW σ tg ad c g) = some (.inl (some (.int 0)), CW (mm_put σ' 34 (.inr (.inr (.inl (1, vp_updL o 0 v.toInt64))))) tg' ad' c' g')) ∧ ∀ e, r = .inr e → cdN e ≠ 0 → mm_M 182 [.ref 2, .int p0, .int p1, .int p2, .ref 34] (CW σ tg ad c g) = some (.inl (some (.int (nI (cdN e)))), CW σ' tg' ad' c' g') := by
  refine ⟨fun v hv => ?_, fun e he hne => ?_⟩
  · subst hv
    simp only [M_182, e182_0, e182_10, e182_12, e182_17, e182_21, e182_23, aM_86, hC, K1_v, lst34 w' ho, bS_s]
  · subst he
    rw [M_182, e182_0, aM_86, hC, K1_x]
    unfold cdN at hne ⊢
    by_cases z0 : e = 2
    · subst z0
      refine Eq.trans (cat_y (y := 182) (pc := 7) (E := 2) (h := 15) (n := 5) (p := 17) (by decide) (by unfold mm_hs; rw [mb_182, dL_allow_15]; rfl) ?_) (e182_17 2 p0 p1 p2 34 mm_un _)
      exact show 5 < 6 by decide
    by_cases z1 : e = 0
    · subst z1
      refine Eq.trans (cat_y (y := 182) (pc := 7) (E := 0) (h := 19) (n := 5) (p := 21) (by decide) (by unfold mm_hs; rw [mb_182, dL_allow_19]; rfl) ?_) (e182_21 2 p0 p1 p2 34 mm_un _)
      exact show 5 < 6 by decide
    exfalso
    apply hne
    rw [if_neg z0]
    rw [if_neg z1]
theorem w_183 {p0 : Int32} (hC : mm_M 87 [.ref 2, .int p0] (CW σ tg ad c g) = some (r, CW σ' tg' ad' c' g')) (ho : OUT σ' o) (w' : WF tg' ad' c' n) : (∀ v, r = .inl (some (.int v)) → mm_M 183 [.ref 2, .int p0, .ref 34] (CW σ tg ad c g) = some (.inl (some (.int 0)), CW (mm_put σ' 34 (.inr (.inr (.inl (1, vp_updL o 0 v.toInt64))))) tg' ad' c' g')) ∧ ∀ e, r = .inr e → cdI e ≠ 0 → mm_M 183 [.ref 2, .int p0, .ref 34] (CW σ tg ad c g) = some (.inl (some (.int (nI (cdI e)))), CW σ' tg' ad' c' g') := by
  refine ⟨fun v hv => ?_, fun e he hne => ?_⟩
  · subst hv
    simp only [M_183, e183_0, e183_7, e183_9, e183_13, e183_15, aM_87, hC, K1_v, lst34 w' ho, bS_s]
  · subst he
    rw [M_183, e183_0, aM_87, hC, K1_x]
    unfold cdI at hne ⊢
    by_cases z0 : e = 2
    · subst z0
      refine Eq.trans (cat_y (y := 183) (pc := 4) (E := 2) (h := 12) (n := 3) (p := 13) (by decide) (by unfold mm_hs; rw [mb_183, dL_withdraw_12]; rfl) ?_) (e183_13 2 p0 34 mm_un _)
      exact show 3 < 4 by decide
    exfalso
    apply hne
    rw [if_neg z0]
theorem w_184 {p0 : Int32} (hC : mm_M 88 [.ref 2, .int p0] (CW σ tg ad c g) = some (r, CW σ' tg' ad' c' g')) (ho : OUT σ' o) (w' : WF tg' ad' c' n) : (∀ v, r = .inl (some (.int v)) → mm_M 184 [.ref 2, .int p0, .ref 34] (CW σ tg ad c g) = some (.inl (some (.int 0)), CW (mm_put σ' 34 (.inr (.inr (.inl (1, vp_updL o 0 v.toInt64))))) tg' ad' c' g')) ∧ ∀ e, r = .inr e → cdI e ≠ 0 → mm_M 184 [.ref 2, .int p0, .ref 34] (CW σ tg ad c g) = some (.inl (some (.int (nI (cdI e)))), CW σ' tg' ad' c' g') := by
  refine ⟨fun v hv => ?_, fun e he hne => ?_⟩
  · subst hv
    simp only [M_184, e184_0, e184_7, e184_9, e184_13, e184_15, aM_88, hC, K1_v, lst34 w' ho, bS_s]
  · subst he
    rw [M_184, e184_0, aM_88, hC, K1_x]
    unfold cdI at hne ⊢
    by_cases z0 : e = 2
    · subst z0
      refine Eq.trans (cat_y (y := 184) (pc := 4) (E := 2) (h := 12) (n := 3) (p := 13) (by decide) (by unfold mm_hs; rw [mb_184, dL_persons_12]; rfl) ?_) (e184_13 2 p0 34 mm_un _)
      exact show 3 < 4 by decide
    exfalso
    apply hne
    rw [if_neg z0]
theorem w_185 {p0 p1 p2 p3 p4 p5 : Int32} (hC : mm_M 89 [.ref 2, .int p0, .int p1, .int p2, .int p3, .int p4, .int p5] (CW σ tg ad c g) = some (r, CW σ' tg' ad' c' g')) (ho : OUT σ' o) (w' : WF tg' ad' c' n) : (∀ v, r = .inl (some (.int v)) → mm_M 185 [.ref 2, .int p0, .int p1, .int p2, .int p3, .int p4, .int p5, .ref 34] (CW σ tg ad c g) = some (.inl (some (.int 0)), CW (mm_put σ' 34 (.inr (.inr (.inl (1, vp_updL o 0 v.toInt64))))) tg' ad' c' g')) ∧ ∀ e, r = .inr e → cdB e ≠ 0 → mm_M 185 [.ref 2, .int p0, .int p1, .int p2, .int p3, .int p4, .int p5, .ref 34] (CW σ tg ad c g) = some (.inl (some (.int (nI (cdB e)))), CW σ' tg' ad' c' g') := by
  refine ⟨fun v hv => ?_, fun e he hne => ?_⟩
  · subst hv
    simp only [M_185, e185_0, e185_16, e185_18, e185_23, e185_27, e185_31, e185_33, aM_89, hC, K1_v, lst34 w' ho, bS_s]
  · subst he
    rw [M_185, e185_0, aM_89, hC, K1_x]
    unfold cdB at hne ⊢
    by_cases z0 : e = 2
    · subst z0
      refine Eq.trans (cat_y (y := 185) (pc := 13) (E := 2) (h := 21) (n := 8) (p := 23) (by decide) (by unfold mm_hs; rw [mb_185, dL_mark_21]; rfl) ?_) (e185_23 2 p0 p1 p2 p3 p4 p5 34 mm_un _)
      exact show 8 < 9 by decide
    by_cases z1 : e = 0
    · subst z1
      refine Eq.trans (cat_y (y := 185) (pc := 13) (E := 0) (h := 25) (n := 8) (p := 27) (by decide) (by unfold mm_hs; rw [mb_185, dL_mark_25]; rfl) ?_) (e185_27 2 p0 p1 p2 p3 p4 p5 34 mm_un _)
      exact show 8 < 9 by decide
    by_cases z2 : e = 1
    · subst z2
      refine Eq.trans (cat_y (y := 185) (pc := 13) (E := 1) (h := 29) (n := 8) (p := 31) (by decide) (by unfold mm_hs; rw [mb_185, dL_mark_29]; rfl) ?_) (e185_31 2 p0 p1 p2 p3 p4 p5 34 mm_un _)
      exact show 8 < 9 by decide
    exfalso
    apply hne
    rw [if_neg z0]
    rw [if_neg z1]
    rw [if_neg z2]
theorem w_186 {p0 p1 p2 p3 p4 : Int32} (hC : mm_M 90 [.ref 2, .int p0, .int p1, .int p2, .int p3, .int p4] (CW σ tg ad c g) = some (r, CW σ' tg' ad' c' g')) (ho : OUT σ' o) (w' : WF tg' ad' c' n) : (∀ v, r = .inl (some (.int v)) → mm_M 186 [.ref 2, .int p0, .int p1, .int p2, .int p3, .int p4, .ref 34] (CW σ tg ad c g) = some (.inl (some (.int 0)), CW (mm_put σ' 34 (.inr (.inr (.inl (1, vp_updL o 0 v.toInt64))))) tg' ad' c' g')) ∧ ∀ e, r = .inr e → cdN e ≠ 0 → mm_M 186 [.ref 2, .int p0, .int p1, .int p2, .int p3, .int p4, .ref 34] (CW σ tg ad c g) = some (.inl (some (.int (nI (cdN e)))), CW σ' tg' ad' c' g') := by
  refine ⟨fun v hv => ?_, fun e he hne => ?_⟩
  · subst hv
    simp only [M_186, e186_0, e186_14, e186_16, e186_21, e186_25, e186_27, aM_90, hC, K1_v, lst34 w' ho, bS_s]
  · subst he
    rw [M_186, e186_0, aM_90, hC, K1_x]
    unfold cdN at hne ⊢
    by_cases z0 : e = 2
    · subst z0
      refine Eq.trans (cat_y (y := 186) (pc := 11) (E := 2) (h := 19) (n := 7) (p := 21) (by decide) (by unfold mm_hs; rw [mb_186, dL_agree_19]; rfl) ?_) (e186_21 2 p0 p1 p2 p3 p4 34 mm_un _)
      exact show 7 < 8 by decide
    by_cases z1 : e = 0
    · subst z1
      refine Eq.trans (cat_y (y := 186) (pc := 11) (E := 0) (h := 23) (n := 7) (p := 25) (by decide) (by unfold mm_hs; rw [mb_186, dL_agree_23]; rfl) ?_) (e186_25 2 p0 p1 p2 p3 p4 34 mm_un _)
      exact show 7 < 8 by decide
    exfalso
    apply hne
    rw [if_neg z0]
    rw [if_neg z1]
end
