/-! THE SIMULATION: handlers, and the three calls -/
def mm_hok (own : Nat) : List (Nat × Nat × Nat × Nat) → List (Nat × Nat × Nat × Nat) → Bool
  | [], [] => true
  | (a, b, h, x) :: r, (a', b', h', c) :: r' => decide (a = a') && decide (b = b') && decide (h = h') && decide (x < 3) && decide (c ≠ 0) && decide (Cond.classLink (mm_cn own) c (mm_xn x) ∈ mm_good) && mm_hok own r r'
  | _, _ => false
set_option maxRecDepth 1000000 in
theorem mm_hh_ok : (List.range 116).all (fun y => mm_hok (mm_own y) (mm_lh mm_hhs y) (mm_lh mm_hr y)) = true := by decide +kernel
theorem mm_hsplit {own pc E h : Nat} : ∀ {hs hr : List (Nat × Nat × Nat × Nat)}, mm_hok own hs hr = true → mm_hd hs pc E = some h → ∃ pre x suf, tableOf hr = pre ++ x :: suf ∧ x.handlerPc = h ∧ covers x pc = true ∧ x.catchType ≠ 0 ∧ E < 3 ∧ Cond.classLink (mm_cn own) x.catchType (mm_xn E) ∈ mm_good ∧
    ∀ z ∈ pre, covers z pc = false ∨ (z.catchType ≠ 0 ∧ ∃ E', E' < 3 ∧ E ≠ E' ∧ Cond.classLink (mm_cn own) z.catchType (mm_xn E') ∈ mm_good)
  | [], [], _, h => by cases h
  | [], _ :: _, h, _ => by cases h
  | _ :: _, [], h, _ => by cases h
  | (a, b, hh, x) :: r, (a', b', h', c) :: r', ho, hq => by
    unfold mm_hok at ho
    simp only [Bool.and_eq_true, decide_eq_true_eq] at ho
    obtain ⟨⟨⟨⟨⟨⟨e1, e2⟩, e3⟩, hx⟩, hc⟩, hl⟩, ho⟩ := ho
    unfold mm_hd at hq
    by_cases q : a ≤ pc ∧ pc < b ∧ x = E
    · rw [if_pos q] at hq
      obtain ⟨q1, q2, q3⟩ := q
      rw [q3] at hx hl
      exact ⟨[], ⟨a', b', h', c⟩, tableOf r', rfl, by rw [← e3]; exact Option.some.inj hq, by simp [covers, ← e1, ← e2, q1, q2], hc, hx, hl, fun z hz => by cases hz⟩
    · rw [if_neg q] at hq
      obtain ⟨pre, x', suf, e, h1, h2, h3, h4, h5, h6⟩ := mm_hsplit ho hq
      refine ⟨⟨a', b', h', c⟩ :: pre, x', suf, by rw [show tableOf ((a', b', h', c) :: r') = ⟨a', b', h', c⟩ :: tableOf r' from rfl, e]; rfl, h1, h2, h3, h4, h5, fun z hz => ?_⟩
      rcases List.mem_cons.mp hz with hz | hz
      · subst hz
        by_cases q1 : a ≤ pc
        · by_cases q2 : pc < b
          · exact Or.inr ⟨hc, x, hx, fun e => q ⟨q1, q2, e.symm⟩, hl⟩
          · left
            simp [covers, ← e1, ← e2, q2]
        · left
          simp [covers, ← e1, ← e2, q1]
      · exact h6 z hz
section
variable {X : mm_X} {rec : mm_C} {y pc : Nat} {ls st : List Value} {σ σ' : mm_S} {o : Option Value ⊕ Nat} {len : Nat}
theorem mm_oth_cast : ∀ E, E < 3 → Cond.castable (mm_xn E) (mm_xn E) ∈ mm_oth := by
  intro E hE
  refine List.mem_append_right _ (List.mem_append_right _ (List.mem_append_right _ (List.mem_append_right _ ?_)))
  match E, hE with
  | 0, _ => simp
  | 1, _ => simp
  | 2, _ => simp
  | n + 3, h => exact absurd h (by omega)
/-- an exception that comes out of a call: taken by a handler, or let through -/
theorem mm_caught (hs : mm_Sim X rec) {E : Nat} {σ1 : mm_S} (h : mm_cat rec y pc ls E σ1 = some (o, σ')) {n : Nat} {ι : Nat → Nat} (hn : n ≤ σ1.2.1) : (σ1.2.1 ≤ σ'.2.1 ∧ σ1.2.2.1 ≤ σ'.2.2.1 ∧ σ1.2.2.2 ≤ σ'.2.2.2) ∧
    ∀ {K : mm_K} {H1 : Heap} {locs1 : List Loc} {cells slots mc ms : Nat} {mls : Array Slot} {rest : List Value} (ι1 η1 : Nat → Nat) (ce : Cell) (q9 : Addr), mm_Fx K y → mm_G X (mm_Ks K) → mm_H X σ1 ι1 η1 (mm_Ks K) H1 → (∀ i, i < n → ι1 i = ι i) → mm_LR ι1 σ1.2.1 ls (mm_mx y) mls → (∀ z ∈ locs1, mm_A X z.base) → H1[q9]? = some ce → ce.vm = .none → (mm_Ks K).vm.findClass (mm_xn E) = some ce.cls →
      (cells + σ'.2.2.1 ≤ mc + σ1.2.2.1 ∧ slots + σ'.2.2.2 ≤ ms + σ1.2.2.2) → (mc ≤ (mm_KR K).cells ∧ ms ≤ (mm_KR K).slots) →
      vx_W K.1 K.2.1 K.2.2.1 (mm_KR K) (mm_Ks K) (mm_Km K) (mm_Ka K) (mm_Kb K) K.2.2.2.2.2.2.2.2.1 K.2.2.2.2.2.2.2.2.2 H1 locs1 cells slots (mm_Q X K o σ' ι n mc ms) (F0 (mm_Km K) pc mls rest) q9 := by
  unfold mm_cat at h
  cases hq : mm_hd (mm_lh mm_hhs y) pc E with
  | none =>
    rw [hq] at h
    replace h := mm_its h
    obtain ⟨hnil, h⟩ := h
    cases h
    refine ⟨⟨Nat.le_refl _, Nat.le_refl _, Nat.le_refl _⟩, fun ι1 η1 ce q9 hF hG hH hι hL hlo hce hcv hcl hc hR => ?_⟩
    refine vx_out (E := mm_xn E) (fun x hx => ?_) hF.2.2.2.2.2.2.1 hce hcv hcl (fun t ht hA => ⟨E, ι1, η1, rfl, rfl, hι, ?_⟩) hlo (by omega) (by omega)
    · rw [hF.2.2.2.2.2.1, hnil] at hx; cases hx
    · rw [ht]; exact hH.moved hA ht
  | some hp =>
    rw [hq] at h
    replace h := mm_bds h
    obtain ⟨q, hq2, h⟩ := h
    replace h := mm_its h
    obtain ⟨hlt, h⟩ := h
    obtain ⟨hm, hW⟩ := hs _ _ _ _ _ _ _ h
    refine ⟨hm, fun {K H1 locs1 cells slots mc ms mls rest} ι1 η1 ce q9 hF hG hH hι hL hlo hce hcv hcl hc hR => ?_⟩
    have hy := List.all_eq_true.mp mm_hh_ok y (List.mem_range.mpr hF.2.2.2.2.2.2.2.2.2.2.2.1)
    obtain ⟨pre, x, suf, e, h1, h2, h3, h4, h5, h6⟩ := mm_hsplit hy hq
    refine vx_catch (E := mm_xn E) hF.2.2.2.1 pre x suf (by rw [hF.2.2.2.2.2.1]; exact e) (fun z hz => ?_) h2 h3 (hF.2.2.2.2.1 _ h5) (va_Nw.use rfl (hG.2.2.2.2.1 _ (mm_oth_cast E h4))) hce hcv hcl ?_
    · rcases h6 z hz with h6 | ⟨h6, E', h7, h8, h9⟩
      · exact Or.inl h6
      · exact Or.inr ⟨h6, _, hF.2.2.2.2.1 _ h9, hG.2.2.2.2.2.2.2.2.2.1 E E' h4 h7 h8⟩
    rw [h1]
    have hlt' : q.1 < mm_mx y := by rw [← hL.2.1]; exact hlt
    have hgo : ∀ mls', mm_LR ι1 σ1.2.1 (ls.set q.1 mm_un) (mm_mx y) mls' → mm_W K H1 locs1 cells slots (mm_Q X K o σ' ι n mc ms) (F0 (mm_Km K) q.2 mls' []) := fun mls' hL' => by
      have k := hW K H1 locs1 cells slots mc ms mls' ι1 η1 hF hG hH hL' (fun v hv => by cases hv) hlo hc hR
      intro T hT XX
      obtain ⟨t2, a1, oc, b1, b2, b3⟩ := k T hT XX
      refine ⟨t2, a1, oc, b1, b2, ?_⟩
      rcases b3 with ⟨⟨w, ι2, η2, c1, c2, c3, c4, c5⟩, b4⟩ | ⟨q, b4, E, ce, L1, ⟨ee, ι2, η2, c1, c2, c3, c4⟩, b5⟩
      · exact Or.inl ⟨⟨w, ι2, η2, c1, c2, fun i hi => (c3 i (by omega)).trans (hι i hi), c4, c5⟩, b4⟩
      · exact Or.inr ⟨q, b4, E, ce, L1, ⟨ee, ι2, η2, c1, c2, fun i hi => (c3 i (by omega)).trans (hι i hi), c4⟩, b5⟩
    unfold mm_hs at hq2
    split at hq2
    · rename_i nn hd
      cases hq2
      exact lv_astore hF.1 hF.2.1 hd hL.has hlt' rfl (fun ls' h' => hgo ls' (hL.set hlt' h' (fun q => by cases q)))
    · rename_i nn hd
      cases hq2
      exact lv_astore_n hF.1 hF.2.1 hd rfl hL.has hlt' rfl (fun ls' h' => hgo ls' (hL.set hlt' h' (fun q => by cases q)))
    · cases hq2
theorem mm_rets {r : Option mm_R} {k : Option Value → mm_S → Option mm_R} {x : Nat → mm_S → Option mm_R} {q : mm_R} (h : mm_ret r k x = some q) : ∃ o1 σ1, r = some (o1, σ1) ∧ (∀ v, o1 = .inl v → k v σ1 = some q) ∧ (∀ E, o1 = .inr E → x E σ1 = some q) := by
  match r, h with
  | some (.inl v, σ), h => exact ⟨_, _, rfl, fun w e => (by cases e; exact h), fun w e => (by cases e)⟩
  | some (.inr v, σ), h => exact ⟨_, _, rfl, fun w e => (by cases e), fun w e => (by cases e; exact h)⟩
/-- a call, its run given -/
theorem mm_s_call (hs : mm_Sim X rec) {z : Nat} {As rest : List Value} (h : mm_call rec y pc ls z As rest σ = some (o, σ')) (hst : mm_ST σ.2.1 st → mm_ST σ.2.1 As ∧ mm_ST σ.2.1 rest)
    (hrun : ∀ (o1 : Option Value ⊕ Nat) (σ1 : mm_S), rec z 0 (mm_ent z As) [] σ = some (o1, σ1) → (mm_kd z = 2 ∨ z = 101 → ∃ v, o1 = .inl v) → mm_cats rest ≤ 8 → mm_rk z < mm_rk y → z < 115 → mm_mx z ≤ 19 → As.length ≤ mm_mx z → As.all mm_ok1 = true → σ.2.2.1 ≤ σ1.2.2.1 → σ.2.2.2 ≤ σ1.2.2.2 →
      ∀ (K : mm_K) (H : Heap) (locs : List Loc) (cells slots : Nat) (mls : Array Slot) (ι η : Nat → Nat), mm_Fx K y → mm_G X (mm_Ks K) → mm_H X σ ι η (mm_Ks K) H → mm_LR ι σ.2.1 ls (mm_mx y) mls → mm_ST σ.2.1 As → (cells + (σ1.2.2.1 - σ.2.2.1) ≤ (mm_KR K).cells ∧ slots + (σ1.2.2.2 - σ.2.2.2) ≤ (mm_KR K).slots) →
      vx_Run K.1 K.2.1 K.2.2.1 (mm_KR K) (mm_Ks K) (mm_Km K) (mm_Ka K) (mm_Kb K) K.2.2.2.2.2.2.2.2.1 K.2.2.2.2.2.2.2.2.2 H locs cells slots (σ1.2.2.1 - σ.2.2.1) (σ1.2.2.2 - σ.2.2.2) (F0 (mm_Km K) pc mls (st.map (mm_v ι))) (rest.map (mm_v ι)) (mm_Qc X o1 σ1 ι σ.2.1 (As.map (mm_v ι)).toArray) (mm_Xc X o1 σ1 ι σ.2.1) (mm_A X)) : mm_Sm X y pc ls st σ o σ' := by
  unfold mm_call at h
  replace h := mm_its h
  obtain ⟨hcond, h⟩ := h
  obtain ⟨c1, c2, c3, c4, c5, c6⟩ := hcond
  replace h := mm_rets h
  obtain ⟨o1, σ1, h1, hk, hx⟩ := h
  have hm1 := (hs _ _ _ _ _ _ _ h1).1
  have hq : mm_kd z = 2 ∨ z = 101 → ∃ v, o1 = .inl v := fun q => by
    cases o1 with
    | inl v => exact ⟨v, rfl⟩
    | inr E =>
      have := hx E rfl
      rw [if_pos q] at this
      cases this
  have hm2 : σ1.2.1 ≤ σ'.2.1 ∧ σ1.2.2.1 ≤ σ'.2.2.1 ∧ σ1.2.2.2 ≤ σ'.2.2.2 := by
    cases o1 with
    | inl v => exact (hs _ _ _ _ _ _ _ (hk v rfl)).1
    | inr E => exact (mm_caught (ι := fun i => i) hs (mm_itn (hx E rfl)).2 (Nat.le_refl _)).1
  refine ⟨⟨by omega, by omega, by omega⟩, fun K H locs cells slots mc ms mls ι η hF hG hH hL hST hlo hc hR => ?_⟩
  obtain ⟨s1, s2⟩ := hst hST
  refine mm_behind (σ1 := σ1) (o1 := o1) hF hG hL s2 hlo hc hR ⟨rfl, rfl⟩ hm1 (hrun o1 σ1 h1 hq c1 c2 c3 c4 c5 c6 hm1.2.1 hm1.2.2 K H locs cells slots mls ι η hF hG hH hL s1 ⟨by omega, by omega⟩) (fun v e => hs _ _ _ _ _ _ _ (hk v e)) (fun E e H1 locs1 ι1 η1 ce q9 hH1 hι hlo1 hce hcv hcl => ?_) hH.2.2.2.2.2.2.2.2.2 hH.2.2.2.2.2.2.2.2.1
  exact (mm_caught (ι := ι) hs (mm_itn (hx E e)).2 hm1.1).2 ι1 η1 ce q9 hF hG hH1 hι (hL.ext hι hm1.1) hlo1 hce hcv hcl ⟨by omega, by omega⟩ hR
theorem mm_sum {rest : List Value} (h : mm_cats rest ≤ 8) (ι : Nat → Nat) : ((rest.map (mm_v ι)).map fun v => v.category).sum ≤ 8 := by
  rw [List.map_map]
  have : ((fun v : Value => v.category) ∘ mm_v ι) = fun v => v.category := funext fun v => mm_vcat ι v
  rw [this]
  exact h
theorem mm_ran {p : Program} {l : Launch} {e : Env} {R : Room} {s : State} {m : MethodId} {args : Array Value} {below : List Frame} {meth : Method} {c : Code} {H : Heap} {locs : List Loc} {cells slots mc ms : Nat} {g : JFrame} {rest : List Value} {Qa : State → Outcome → State → Prop} {XC : String → State → State → Prop} {free : Addr → Prop}
    (h : va_Run p l e R s m args below meth c H locs cells slots mc ms g rest Qa free) : vx_Run p l e R s m args below meth c H locs cells slots mc ms g rest Qa XC free := fun T hT X => Or.inl (h T hT X)
theorem mm_ivs {i z : Nat} (h : mm_lu mm_ivt y i = some z) (hz : z < 1000) : (Cond.methodLink (mm_cn (mm_own y)) i (mm_nm z) ∈ mm_good) ∨ (Cond.methodLinkNest (mm_cn (mm_own y)) i (mm_nm z) RX6 ∈ mm_nst ∧ z = 101) := by
  obtain ⟨hi, hk⟩ := mm_lu_of h _ mm_ivt_ok
  unfold mm_iok at hk
  simp only [mm_k1 hi, mm_k2 hi, Bool.and_eq_true, Bool.or_eq_true, decide_eq_true_eq] at hk
  rcases hk.2 with hk | hk
  · left
    split at hk
    · have := mm_ck_in hk List.mem_cons_self
      unfold mm_iw at this
      rw [if_pos hz] at this
      simpa only [mm_k1 hi, mm_k2 hi] using this
    · cases hk
  · exact Or.inr hk
theorem mm_mw_in {z : Nat} (hz : z < 115) : Cond.initialized (mm_nm z).cls ∈ mm_good ∧ mm_cw z ∈ mm_good := by
  obtain ⟨t1, t2, t3, t4, t5, t6, t7⟩ := mm_mok_at hz
  exact ⟨t5 _ List.mem_cons_self, t5 _ (List.mem_cons_of_mem _ List.mem_cons_self)⟩
theorem mm_s_static {i : Nat} (hs : mm_Sim X rec) (hd : decode (mm_by y) pc = .ok (.invokestatic i, 3)) {z : Nat} (hu : mm_lu mm_ivt y i = some z) (hz : z < 1000) (h : mm_inv rec y pc ls st σ z 0 = some (o, σ')) : mm_Sm X y pc ls st σ o σ' := by
  unfold mm_inv at h
  replace h := mm_its h
  obtain ⟨hkd, h⟩ := h
  obtain ⟨hkd, hnp⟩ := hkd
  rw [if_pos rfl] at h
  refine mm_s_call hs h (fun q => ⟨fun v hv => q v (List.mem_of_mem_take (List.mem_reverse.mp hv)), fun v hv => q v (List.mem_of_mem_drop hv)⟩) (fun o1 σ1 h1 hq c1 c2 c3 c4 c5 c6 m1 m2 K H locs cells slots mls ι η hF hG hH hL s1 hR => ?_)
  obtain ⟨t1, t2, t3, t4, t5, t6, t7⟩ := mm_mok_at c3
  have hst0 : st.map (mm_v ι) = ((st.take (mm_np z)).reverse.map (mm_v ι)).reverse ++ (st.drop (mm_np z)).map (mm_v ι) := by
    rw [← List.map_reverse, List.reverse_reverse, ← List.map_append, List.take_append_drop]
  have hlen : ((st.take (mm_np z)).reverse.map (mm_v ι)).length = mm_np z := by
    rw [List.length_map, List.length_reverse, List.length_take]; omega
  have hfix : CallFix K.1 (mm_Km K) K.2.2.2.2.2.2.2.2.2 (mm_by y) (mm_mx y) (mm_Ks K) (mm_Ka K) mm_good (mm_cn (mm_own y)) := ⟨hF.1, hF.2.1, hF.2.2.1, hF.2.2.2.1, hF.2.2.2.2.1⟩
  have hpre : PreS (mm_Ks K) H (mm_Pc X (st.take (mm_np z)).reverse σ ι η) ((st.take (mm_np z)).reverse.map (mm_v ι)) := ⟨mm_Pc_blind, fun U hU hW => ⟨rfl, hG.warm hW, by rw [hU]; exact hH.moved hW.alike hU⟩⟩
  have hroom : (mm_room z (σ1.2.2.1 - σ.2.2.1) (σ1.2.2.2 - σ.2.2.2)).frames + 1 ≤ (mm_KR K).frames ∧ 8 + (mm_mx z + 11) + (mm_room z (σ1.2.2.1 - σ.2.2.1) (σ1.2.2.2 - σ.2.2.2)).locals ≤ (mm_KR K).locals := by
    have a1 := hF.2.2.2.2.2.2.2.2.2.1
    have a2 := hF.2.2.2.2.2.2.2.2.2.2.1
    unfold mm_room
    dsimp only
    constructor <;> omega
  have hstat : Cond.static (mm_nm z) ∈ mm_good := t5 _ (by unfold mm_mw; rw [hkd]; simp)
  have hW9 : 2 * (F0 (mm_Km K) pc mls (st.map (mm_v ι))).monitorRoom + (((st.drop (mm_np z)).map (mm_v ι)).map fun v => v.category).sum ≤ 8 := by
    have := mm_sum c1 ι
    show 2 * 0 + _ ≤ 8
    omega
  have hlo : mls.size = mm_mx y := hL.1
  rcases mm_ivs hu hz with hlk | ⟨hlk, hz2⟩
  · by_cases hnh : mm_lh mm_hr z = []
    · have hcw : Cond.code (mm_nm z) (mm_by z) (mm_mx z) (mm_rt z) ∈ mm_good := by have := (mm_mw_in c3).2; unfold mm_cw at this; rwa [if_pos hnh] at this
      have hM := mm_con (l := K.2.1) hs hF.2.2.2.2.2.2.2.2.2.2.2.2 c3 hnh h1 c6 c5 s1 ι η
      exact vx_runS hfix hM ⟨callB_of (mm_np z) hF.2.2.2.2.1 (mm_good_good _ hcw) rfl rfl rfl (hF.2.2.2.2.1 _ (mm_mw_in c3).1) (hF.2.2.2.2.1 _ hlk) ⟨t3.1, t3.2, t4⟩ hroom, hF.2.2.2.2.1 _ hstat⟩ hpre rfl hlen hlo hst0 hW9 hd hR
    · have hcw : Cond.codeWith (mm_nm z) (mm_by z) (mm_mx z) (mm_rt z) (mm_lh mm_hr z) ∈ mm_good := by have := (mm_mw_in c3).2; unfold mm_cw at this; rwa [if_neg hnh] at this
      have hM := mm_conH (l := K.2.1) hs hF.2.2.2.2.2.2.2.2.2.2.2.2 c3 h1 c6 c5 s1 ι η
      have hGI : GoodIn mm_good (va_wsS (mm_cn (mm_own y)) i (mm_nm z) (Cond.codeWith (mm_nm z) (mm_by z) (mm_mx z) (mm_rt z) (mm_lh mm_hr z) :: mm_good)) := fun w hw => by
        rcases List.mem_append.mp hw with hw | hw
        · have : w ∈ mm_good := by
            simp only [List.mem_cons, List.not_mem_nil, or_false] at hw
            rcases hw with rfl | rfl | rfl
            · exact hlk
            · exact hstat
            · exact (mm_mw_in c3).1
          exact ⟨this, good_of_word (mm_good_in this).2⟩
        · exact mm_good_good _ hcw w hw
      exact vx_runSX hfix hM (vx_cwSW (mm_np z) hF.2.2.2.2.1 hGI rfl rfl rfl ⟨t3.1, t3.2, t4⟩ hroom) hpre rfl hlen hlo hst0 hW9 hd hR
  · have hnh : mm_lh mm_hr z = [] := by rw [hz2]; exact mm_nb.2
    have hcw : Cond.code (mm_nm z) (mm_by z) (mm_mx z) (mm_rt z) ∈ mm_good := by have := (mm_mw_in c3).2; unfold mm_cw at this; rwa [if_pos hnh] at this
    obtain ⟨v, rfl⟩ := hq (Or.inr hz2)
    have hM := mm_quiet (mm_con (l := K.2.1) hs hF.2.2.2.2.2.2.2.2.2.2.2.2 c3 hnh h1 c6 c5 s1 ι η)
    exact mm_ran (va_runSN hfix hM ⟨va_cnB (mm_np z) hF.2.2.2.2.1 (mm_good_good _ hcw) rfl rfl rfl (hG.2.2.2.2.1 _ (List.mem_append_left _ hlk)) (hF.2.2.2.2.1 _ (mm_mw_in c3).1) ⟨t3.1, t3.2, t4⟩ hroom, hF.2.2.2.2.1 _ hstat, trivial⟩ hpre rfl hlen hlo hst0 hW9 hd hR)
end

