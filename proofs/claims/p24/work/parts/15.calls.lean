/-! THE SIMULATION: calls -/
section
variable {X : mm_X} {rec : mm_C} {y pc : Nat} {ls st : List Value} {σ σ' : mm_S} {o : Option Value ⊕ Nat} {len : Nat}
theorem mm_args_at (vs : List Value) (h : ∀ v ∈ vs, v.category = 1) : ∀ (k i : Nat) (v : Value), vs[i]? = some v → (k + i, v) ∈ lv_args k vs := by
  induction vs with
  | nil => intro k i v hv; simp at hv
  | cons w r ih =>
    intro k i v hv
    have hw : ¬ w.category = 2 := by rw [h w List.mem_cons_self]; decide
    cases i with
    | zero => cases hv; exact List.mem_cons_self
    | succ i =>
      unfold lv_args
      rw [if_neg hw]
      have := ih (fun v hv => h v (List.mem_cons_of_mem _ hv)) (k + 1) i v (by simpa using hv)
      rw [show k + (i + 1) = k + 1 + i by omega]
      exact List.mem_cons_of_mem _ this
theorem mm_sl_len (vs : List Value) (h : ∀ v ∈ vs, v.category = 1) : (lg_sl vs).length = vs.length := by
  induction vs with
  | nil => rfl
  | cons w r ih =>
    have hw : ¬ w.category = 2 := by rw [h w List.mem_cons_self]; decide
    have := ih (fun v hv => h v (List.mem_cons_of_mem _ hv))
    simp only [lg_sl, List.flatMap_cons, if_neg hw] at this ⊢
    simp only [List.length_append, List.length_cons, List.length_nil, this]
    omega
theorem mm_entry {ι : Nat → Nat} {n z : Nat} {As : List Value} {mls : Array Slot} (hok : As.all mm_ok1 = true) (hlen : As.length ≤ mm_mx z) (hvv : mm_ST n As) (h : lv_has mls (mm_mx z) (lv_args 0 (As.map (mm_v ι)))) : mm_LR ι n (mm_ent z As) (mm_mx z) mls := by
  refine ⟨h.1, by unfold mm_ent; rw [List.length_append, List.length_replicate]; omega, h.2.1, fun i v hv hv1 => ?_⟩
  unfold mm_ent at hv
  rw [List.getElem?_append] at hv
  split at hv
  · have hm : (As.map (mm_v ι))[i]? = some (mm_v ι v) := by rw [List.getElem?_map, hv]; rfl
    have := mm_args_at (As.map (mm_v ι)) (fun w hw => by
      obtain ⟨u, hu, rfl⟩ := List.mem_map.mp hw
      exact mm_cat1 ι (List.all_eq_true.mp hok u hu)) 0 i _ hm
    rw [Nat.zero_add] at this
    exact ⟨h.2.2 _ this, hvv v (List.mem_of_getElem? hv)⟩
  · have := List.mem_of_getElem? hv
    rw [(List.mem_replicate.mp this).2] at hv1
    cases hv1
def mm_Pc (X : mm_X) (As : List Value) (σ : mm_S) (ι η : Nat → Nat) : Array Value → State → Prop := fun v U => v = (As.map (mm_v ι)).toArray ∧ mm_G X U ∧ mm_H X σ ι η U U.heap
def mm_room (z mc ms : Nat) : Room := { frames := mm_rk z, cells := mc, slots := ms, locals := 38 * mm_rk z }
theorem mm_mok_at {z : Nat} (h : z < 115) : (mm_nm z).cls = mm_cn (mm_own z) ∧ plainName (mm_nm z).cls = true ∧ ((mm_nm z).cls ≠ "java/lang/invoke/MethodHandle" ∧ (mm_nm z).cls ≠ "java/lang/invoke/VarHandle") ∧ (parseMethodDescriptor (mm_nm z).desc).map (fun d => d.parameters.length) = some (mm_np z) ∧
    (∀ w ∈ mm_mw z, w ∈ mm_good) ∧ (mm_lh mm_hr z = [] ∨ mm_kd z = 0) ∧ (mm_kd z < 2 ∨ (mm_kd z = 2 ∧ mm_rt z = none ∧ (mm_nm z).name = "<init>")) := by
  have h1 := mm_m_ok h
  unfold mm_mok at h1
  simp only [Bool.and_eq_true, Bool.or_eq_true, decide_eq_true_eq] at h1
  obtain ⟨⟨⟨⟨⟨⟨h1, h2⟩, h3⟩, h4⟩, h5⟩, h6⟩, h7⟩ := h1
  exact ⟨h1, h2, h3, h4, fun w hw => mm_ck_in h5 hw, h6, by rcases h7 with h7 | ⟨⟨h7, h8⟩, h9⟩ <;> simp_all⟩
/-- what a method's body gives at its own frame -/
theorem mm_body (hs : mm_Sim X rec) {l : Launch} (hfl : l.stackTraces = false) {z : Nat} (hz : z < 115) {As : List Value} (h : rec z 0 (mm_ent z As) [] σ = some (o, σ')) (hok : As.all mm_ok1 = true) (hlen : As.length ≤ mm_mx z) (hvv : mm_ST σ.2.1 As) (ι η : Nat → Nat)
    {ws : List Cond} {p : Program} {e : Env} {s : State} {m : MethodId} {args : Array Value} {below : List Frame} {meth : Method} {c : Code} {s₁ : State} (hws : ∀ w ∈ mm_good, w ∈ ws)
    (B : BodyLoose p l (mm_nm z) (headSpec ws (mm_room z (σ'.2.2.1 - σ.2.2.1) (σ'.2.2.2 - σ.2.2.2))) (mm_by z) (mm_mx z) (mm_rt z) e s m args below meth c s₁) (hml : c.maxLocals = mm_mx z) (htab : c.exceptionTable.toList = tableOf (mm_lh mm_hr z)) (hPc : mm_Pc X As σ ι η args s) :
    W p l e (headSpec ws (mm_room z (σ'.2.2.1 - σ.2.2.1) (σ'.2.2.2 - σ.2.2.2))).room s m args below meth c s.heap [] 0 0 (vx_MQ below (mm_Qc X o σ' ι σ.2.1) (mm_Xc X o σ' ι σ.2.1) args s (σ'.2.2.1 - σ.2.2.1) (σ'.2.2.2 - σ.2.2.2) (mm_A X)) (entryFrame m args (mm_mx z)) := by
  obtain ⟨rfl, hG, hH⟩ := hPc
  obtain ⟨t1, t2, t3, t4, t5, t6, t7⟩ := mm_mok_at hz
  have hc1 : ∀ w ∈ As.map (mm_v ι), w.category = 1 := fun w hw => by
    obtain ⟨u, hu, rfl⟩ := List.mem_map.mp hw
    exact mm_cat1 ι (List.all_eq_true.mp hok u hu)
  have hl := lv_entry (As.map (mm_v ι)) (n := mm_mx z) (by rw [mm_sl_len _ hc1, List.length_map]; exact hlen)
  rw [lg_entry_eq]
  generalize (lg_sl (As.map (mm_v ι)) ++ List.replicate (mm_mx z - (lg_sl (As.map (mm_v ι))).length) Slot.unset).toArray = mls at hl ⊢
  obtain ⟨⟨m1, m2, m3⟩, hW⟩ := hs z 0 _ _ _ _ _ h
  have hts := atoms_spec (ws := ws) B.pre
  exact hW (p, l, e, (headSpec ws (mm_room z (σ'.2.2.1 - σ.2.2.1) (σ'.2.2.2 - σ.2.2.2))).room, s, m, (As.map (mm_v ι)).toArray, below, meth, c) s.heap [] 0 0 _ _ mls ι η
    ⟨B.exec, B.bytes, hml, by rw [← t1]; exact findClass_of_methodNamed B.named, fun w hw => hts w (hws w hw), htab, B.notSynchronized, B.returns, (name_of_methodNamed B.named B.method).1, Nat.le_refl _, Nat.le_refl _, by omega, hfl⟩
    hG hH (mm_entry hok hlen hvv hl) (fun v hv => by cases hv) (fun z hz => by cases hz) (by constructor <;> omega) ⟨Nat.le_refl _, Nat.le_refl _⟩
/-- the contract of a method without handlers -/
theorem mm_con (hs : mm_Sim X rec) {l : Launch} (hfl : l.stackTraces = false) {z : Nat} (hz : z < 115) (hnh : mm_lh mm_hr z = []) {As : List Value} (h : rec z 0 (mm_ent z As) [] σ = some (o, σ')) (hok : As.all mm_ok1 = true) (hlen : As.length ≤ mm_mx z) (hvv : mm_ST σ.2.1 As) (ι η : Nat → Nat) :
    vx_Met l (mm_nm z) (Cond.code (mm_nm z) (mm_by z) (mm_mx z) (mm_rt z) :: mm_good) (mm_room z (σ'.2.2.1 - σ.2.2.1) (σ'.2.2.2 - σ.2.2.2)) (mm_Pc X As σ ι η) (mm_Qc X o σ' ι σ.2.1) (mm_Xc X o σ' ι σ.2.1) (σ'.2.2.1 - σ.2.2.1) (σ'.2.2.2 - σ.2.2.2) (mm_A X) := by
  obtain ⟨t1, t2, t3, t4, t5, t6, t7⟩ := mm_mok_at hz
  refine vx_ofW t2 rfl fun p e s m args below meth c s₁ B hml htab hPc => ?_
  have ht : c.exceptionTable.toList = tableOf (mm_lh mm_hr z) := by
    rw [hnh]
    exact List.eq_nil_iff_forall_not_mem.mpr fun x hx => htab x hx
  exact mm_body hs hfl hz h hok hlen hvv ι η (fun w hw => List.mem_cons_of_mem _ hw) B hml ht hPc
/-- and of one that has some -/
theorem mm_conH (hs : mm_Sim X rec) {l : Launch} (hfl : l.stackTraces = false) {z : Nat} (hz : z < 115) {As : List Value} (h : rec z 0 (mm_ent z As) [] σ = some (o, σ')) (hok : As.all mm_ok1 = true) (hlen : As.length ≤ mm_mx z) (hvv : mm_ST σ.2.1 As) (ι η : Nat → Nat) :
    vx_Met l (mm_nm z) (Cond.codeWith (mm_nm z) (mm_by z) (mm_mx z) (mm_rt z) (mm_lh mm_hr z) :: mm_good) (mm_room z (σ'.2.2.1 - σ.2.2.1) (σ'.2.2.2 - σ.2.2.2)) (mm_Pc X As σ ι η) (mm_Qc X o σ' ι σ.2.1) (mm_Xc X o σ' ι σ.2.1) (σ'.2.2.1 - σ.2.2.1) (σ'.2.2.2 - σ.2.2.2) (mm_A X) := by
  obtain ⟨t1, t2, t3, t4, t5, t6, t7⟩ := mm_mok_at hz
  refine vx_ofWH t2 rfl fun p e s m args below meth c s₁ B hml hPc => ?_
  have ht : c.exceptionTable.toList = tableOf (mm_lh mm_hr z) := vx_table (x := mm_nm z) B (atoms_spec (ws := Cond.codeWith (mm_nm z) (mm_by z) (mm_mx z) (mm_rt z) (mm_lh mm_hr z) :: mm_good) B.pre _ List.mem_cons_self)
  exact mm_body hs hfl hz h hok hlen hvv ι η (fun w hw => List.mem_cons_of_mem _ hw) B hml ht hPc
/-- one that throws nothing -/
theorem mm_quiet {l : Launch} {q : MethodName} {ws : List Cond} {rm : Room} {Pc : Array Value → State → Prop} {Qc : Array Value → State → Outcome → State → Prop} {v : Option Value} {ι : Nat → Nat} {n mc ms : Nat} {free : Addr → Prop} (h : vx_Met l q ws rm Pc Qc (mm_Xc X (.inl v) σ' ι n) mc ms free) : Met l q ws rm Pc Qc mc ms free := by
  intro p e ha hc hk s m args below hf happ hp ht
  obtain ⟨o2, s2, h1, h2, h3, h4⟩ := h p e ha hc hk s m args below hf happ hp ht
  refine ⟨o2, s2, h1, h2, h3, ?_⟩
  rcases h4 with h4 | ⟨q, -, E, ce, L, ⟨ee, -, -, hx, -⟩, -⟩
  · exact h4
  · cases hx
theorem mm_Pc_blind {As : List Value} {ι η : Nat → Nat} : FrameBlind (mm_Pc X As σ ι η) := fun a U g mk h => by
  obtain ⟨h1, h2, h3⟩ := h
  have hW : U.WarmedH (U.calling g mk a).vm := State.WarmedH.refl U
  exact ⟨h1, h2.warm (U := U.calling g mk a) hW, h3.moved (Vm.Alike.refl U.vm) rfl⟩
theorem mm_H.re {ι η : Nat → Nat} {u U : State} {H : Heap} (hA : u.vm.Alike U.vm) (hU : U.heap.size ≤ H.size ∧ X.2.2.2.size ≤ U.heap.size ∧ ∀ q, q < X.2.2.2.size → U.heap[q]? = X.2.2.2[q]?) (h : mm_H X σ ι η u H) : mm_H X σ ι η U H :=
  ⟨h.1, h.2.1, h.2.2.1, h.2.2.2.1, h.2.2.2.2.1, fun k o hk => ⟨(h.2.2.2.2.2.1 k o hk).1, (h.2.2.2.2.2.1 k o hk).2.1, (h.2.2.2.2.2.1 k o hk).2.2.1, (h.2.2.2.2.2.1 k o hk).2.2.2.moved hA⟩, h.2.2.2.2.2.2.1, hU⟩
/-- behind a call -/
theorem mm_behind {K : mm_K} {H : Heap} {locs : List Loc} {cells slots mc ms mcc msc : Nat} {mls : Array Slot} {ι : Nat → Nat} {rest : List Value} {st0 : List Value} {o1 : Option Value ⊕ Nat} {σ1 : mm_S} {a : Array Value}
    (hF : mm_Fx K y) (hG : mm_G X (mm_Ks K)) (hL : mm_LR ι σ.2.1 ls (mm_mx y) mls) (hrs : mm_ST σ.2.1 rest) (hlo : ∀ z ∈ locs, mm_A X z.base) (hcells : cells + σ'.2.2.1 ≤ mc + σ.2.2.1 ∧ slots + σ'.2.2.2 ≤ ms + σ.2.2.2) (hR : mc ≤ (mm_KR K).cells ∧ ms ≤ (mm_KR K).slots) (hmc : mcc = σ1.2.2.1 - σ.2.2.1 ∧ msc = σ1.2.2.2 - σ.2.2.2) (hm1 : σ.2.1 ≤ σ1.2.1 ∧ σ.2.2.1 ≤ σ1.2.2.1 ∧ σ.2.2.2 ≤ σ1.2.2.2)
    (hr : vx_Run K.1 K.2.1 K.2.2.1 (mm_KR K) (mm_Ks K) (mm_Km K) (mm_Ka K) (mm_Kb K) K.2.2.2.2.2.2.2.2.1 K.2.2.2.2.2.2.2.2.2 H locs cells slots mcc msc (F0 (mm_Km K) pc mls st0) (rest.map (mm_v ι)) (mm_Qc X o1 σ1 ι σ.2.1 a) (mm_Xc X o1 σ1 ι σ.2.1) (mm_A X))
    (hk : ∀ v, o1 = .inl v → mm_Sm X y (pc + 3) ls (v.toList ++ rest) σ1 o σ') (hx : ∀ E, o1 = .inr E → ∀ (H1 : Heap) (locs1 : List Loc) (ι1 η1 : Nat → Nat) (ce : Cell) (q9 : Addr), mm_H X σ1 ι1 η1 (mm_Ks K) H1 → (∀ i, i < σ.2.1 → ι1 i = ι i) → (∀ z ∈ locs1, mm_A X z.base) → H1[q9]? = some ce → ce.vm = .none → (mm_Ks K).vm.findClass (mm_xn E) = some ce.cls →
      vx_W K.1 K.2.1 K.2.2.1 (mm_KR K) (mm_Ks K) (mm_Km K) (mm_Ka K) (mm_Kb K) K.2.2.2.2.2.2.2.2.1 K.2.2.2.2.2.2.2.2.2 H1 locs1 (cells + mcc) (slots + msc) (mm_Q X K o σ' ι σ.2.1 mc ms) (F0 (mm_Km K) pc mls (rest.map (mm_v ι))) q9) (hbase : ∀ q, q < X.2.2.2.size → (mm_Ks K).heap[q]? = X.2.2.2[q]?) (hbz : X.2.2.2.size ≤ (mm_Ks K).heap.size) :
    mm_W K H locs cells slots (mm_Q X K o σ' ι σ.2.1 mc ms) (F0 (mm_Km K) pc mls st0) := by
  obtain ⟨rfl, rfl⟩ := hmc
  intro T hT XX
  rcases hr T hT XX with ⟨v, s0, t, T', L, h0, X', hL', e1, e2, ⟨v', ι', η', q1, q2, q3, q4, q5⟩, st⟩ | ⟨q, s0, t, T', L, E, ce, h0, X', hL', e1, e2, ⟨ee, ι', η', q1, q2, q3, q4⟩, hce, hcv, hcl, st⟩
  · have hv : v = v'.map (mm_v ι') := Outcome.returned.inj q2
    have hAl : t.vm.Alike (mm_Ks K).vm := by
      have := X'.warmed.alike
      rw [e2] at this
      exact Vm.Alike.symm this
    have hHt : mm_H X σ1 ι' η' (mm_Ks K) t.heap := q4.re hAl ⟨by rw [← e1]; exact (vx_frame X'.same).1, hbz, hbase⟩
    have hsm := (hk v' q1).2 K t.heap (locs ++ L) (cells + (σ1.2.2.1 - σ.2.2.1)) (slots + (σ1.2.2.2 - σ.2.2.2)) mc ms mls ι' η' hF hG hHt (hL.ext q3 hm1.1) (fun w hw => by
      rcases List.mem_append.mp hw with hw | hw
      · exact q5 w (by cases v' with | none => cases hw | some u => simp at hw; rw [hw])
      · exact (hrs w hw).mono hm1.1) (fun z hz => (List.mem_append.mp hz).elim (hlo z) (hL' z)) (by omega) hR
    obtain ⟨t2, a1, oc, b1, b2, b3⟩ := hsm T' e1 X'
    have hfr : F0 (mm_Km K) (pc + 3) mls ((v'.toList ++ rest).map (mm_v ι')) = { F0 (mm_Km K) pc mls st0 with pc := pc + 3, stack := v.toList ++ rest.map (mm_v ι) } := by
      rw [List.map_append, mm_st_ext q3 hrs, hv]
      cases v' <;> rfl
    rw [hfr] at a1
    refine ⟨t2, st t2 a1, oc, b1, b2, ?_⟩
    rcases b3 with ⟨⟨w, ι1, η1, c1, c2, c3, c4, c5⟩, b4⟩ | ⟨q, b4, E, ce, L1, ⟨ee, ι1, η1, c1, c2, c3, c4⟩, b5⟩
    · exact Or.inl ⟨⟨w, ι1, η1, c1, c2, fun i hi => (c3 i (by omega)).trans (q3 i hi), c4, c5⟩, b4⟩
    · exact Or.inr ⟨q, b4, E, ce, L1, ⟨ee, ι1, η1, c1, c2, fun i hi => (c3 i (by omega)).trans (q3 i hi), c4⟩, b5⟩
  · have hAl : t.vm.Alike (mm_Ks K).vm := by
      have := X'.warmed.alike
      rw [e2] at this
      exact Vm.Alike.symm this
    have hHt : mm_H X σ1 ι' η' (mm_Ks K) t.heap := q4.re hAl ⟨by rw [← e1]; exact (vx_frame X'.same).1, hbz, hbase⟩
    obtain ⟨t2, a1, a2⟩ := hx ee q1 t.heap (locs ++ L) ι' η' ce q hHt q3 (fun z hz => (List.mem_append.mp hz).elim (hlo z) (hL' z)) hce hcv (by rw [← q2]; exact hcl) T' e1 X'
    exact ⟨t2, st.trans a1, a2⟩
end

