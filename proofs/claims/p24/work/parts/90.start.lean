/-! THE START: what the mini machine is told of the tables and of the heap, out of what the Statement gives; then the law's walk -/
theorem st_inst : (List.range 9).all (fun c => match mm_cls[c]? with | some (C, _, N) => decide (Cond.instantiable C N ∈ lw_tbl) | none => false) = true := by decide +kernel
theorem st_oth : mm_oth.all (fun w => decide (w ∈ lw_tbl)) = true := by decide +kernel
theorem st_cast : (List.range 9).all (fun c => decide (Cond.castable (mm_cn c) "java/lang/Object" ∈ lw_tbl)) = true := by decide +kernel
theorem st_str {q : Nat × String} (hq : q ∈ mm_str) : Cond.stringRef RX6 q.1 q.2 ∈ lw_tbl := by
  obtain ⟨w, hw, hm⟩ := List.mem_filterMap.mp hq
  split at hm
  · split at hm
    · rename_i own k tx e
      cases hm
      subst e
      exact List.mem_append_right _ hw
    · cases hm
  · cases hm
theorem st_arr {s : State} {A : Array Value} {ty : FieldType} (h : (Cond.arrayClass ty).before A s = true) : ∃ cA, ArrOfT s cA ty ∧ s.vm.findClass ("[" ++ ty.toString) = some cA := by
  obtain ⟨c, k, comp, h1, h2, h3⟩ := Cond.arrayClass_spec h
  exact ⟨c, fun N z => ⟨fun k h => (by cases h), k, h2, comp, h3⟩, h1⟩
theorem st_len {A : Array Value} {s : State} {t : Term} {n : Nat} {i : Int32} (h : (Cond.eq (.length t) (.int i)).before A s = true) (hi : i = nI n) (hn : n < 2 ^ 31) : ∃ a cell, t.eval A s none [] s = some (.ref a) ∧ s.arrayAt? a = some cell ∧ cell.slots.size = n := by
  obtain ⟨y, h1, h2⟩ := Cond.eq_one h
  obtain ⟨a, cell, h3, h4, h5⟩ := Term.length_spec h1
  have h6 : y = .int i := (Option.some.inj h2).symm
  rw [h6] at h5
  injection h5 with h5
  refine ⟨a, cell, h3, h4, ?_⟩
  by_cases hs : cell.slots.size < 2147483648
  · exact (nI_eq hs hn).mp (h5.symm.trans hi)
  · simp [Term.eval, h3, h4, hs] at h1
theorem st_elem {A : Array Value} {s : State} {t : Term} {i v : Int32} {a : Nat} {cell : Cell} (h : (Cond.eq (.elem t (.int i)) (.int v)).before A s = true) (ht : t.eval A s none [] s = some (.ref a)) (hc : s.arrayAt? a = some cell) : cell.slots[i.toNatClampNeg]? = some (.int v) := by
  obtain ⟨y, h1, h2⟩ := Cond.eq_one h
  obtain ⟨a', j, cell', h3, h4, h5, -, h6⟩ := Term.elem_spec h1
  cases ht.symm.trans h3
  cases hc.symm.trans h5
  have h7 : y = .int v := (Option.some.inj h2).symm
  have h8 : j = i := by injection (Option.some.inj h4).symm
  rw [h7, h8] at h6
  exact h6
/-- the words of what the Statement gives -/
theorem st_g {A : Array Value} {s : State} {w : Cond} (hg : (Jvm.Cond.and given_1 narrow_1).before A s = true) (h : w ∈ flatC (Jvm.Cond.and given_1 narrow_1)) : w.before A s = true := flat_of_before _ hg w h
theorem st_nc : ∀ e e', e < 3 → e' < 3 → e ≠ e' → (Cond.not (.castable (mm_xn e) (mm_xn e'))) ∈ flatC (Jvm.Cond.and given_1 narrow_1) := by
  intro e e' h1 h2 h3
  have hk : (List.range 3).all (fun e => (List.range 3).all fun e' => e == e' || decide ((Cond.not (.castable (mm_xn e) (mm_xn e'))) ∈ flatC (Jvm.Cond.and given_1 narrow_1))) = true := by decide +kernel
  have := List.all_eq_true.mp (List.all_eq_true.mp hk e (List.mem_range.mpr h1)) e' (List.mem_range.mpr h2)
  simp only [Bool.or_eq_true, beq_iff_eq, decide_eq_true_eq] at this
  exact this.elim (fun q => absurd q h3) id
/-- the tables and the statics, as the mini machine takes them; LOCUS_PLACES' array -/
theorem st_X {A : Array Value} {s : State} (hts : ∀ w ∈ lw_tbl, w.before A s = true) (hg : (Jvm.Cond.and given_1 narrow_1).before A s = true) :
    ∃ X : mm_X, X.2.2.2 = s.heap ∧ mm_G X s ∧ ∃ cell : Cell, s.heap[X.2.2.1.2]? = some cell ∧ s.isArrayOf cell .int ∧ cell.vm ≠ .unknown ∧ cell.slots.size = 4 ∧ ∀ j, j < 4 → cell.slots[j]? = some (.int (lo j)) := by
  have hgood : ∀ w ∈ mm_good, w.before A s = true := fun w hw => hts w (mm_good_in hw).1
  have hcls : ∀ c : Nat, ∃ (cC : ClassId) (iS : Nat → Nat), ∀ q, mm_cls[c]? = some q → u_Kn s q.1 q.2.1 q.2.2 cC iS := fun c => by
    cases hc : mm_cls[c]? with
    | none => exact ⟨0, fun _ => 0, fun q hq => (by cases hq)⟩
    | some r =>
      obtain ⟨C, T, N⟩ := r
      obtain ⟨hin, -, -, h9⟩ := mm_cls_at hc
      have hi := List.all_eq_true.mp st_inst c (List.mem_range.mpr h9)
      rw [hc] at hi
      obtain ⟨cC, iS, h⟩ := u_known hgood hin (hts _ (of_decide_eq_true hi))
      exact ⟨cC, iS, fun q hq => by cases hq; exact h⟩
  obtain ⟨cI, i1, i2⟩ := st_arr (hgood _ mm_arr_ok.1)
  obtain ⟨cB, b1, b2⟩ := st_arr (hgood _ mm_arr_ok.2.1)
  have hover : (Cond.arrayOver (.object "java/lang/Object")).before A s = true := hts _ (List.mem_of_getElem? (i := 584) (by decide +kernel))
  obtain ⟨comp, cO, kO, o1, -, o2, o3, o4⟩ := Cond.arrayOver_spec hover
  -- the empty array
  obtain ⟨eD, dc, d1, d2, d3⟩ := st_len (n := 0) (st_g hg (by decide +kernel) : (Cond.eq (.length (.static "java/util/ArrayList" "DEFAULTCAPACITY_EMPTY_ELEMENTDATA" "[Ljava/lang/Object;")) (.int 0)).before A s = true) (by decide) (by decide)
  obtain ⟨d4, -, -, -⟩ := State.arrayAt?_spec d2
  have d5 := (Cond.arrayOf_spec (st_g hg (by decide +kernel) : (Cond.arrayOf (.static "java/util/ArrayList" "DEFAULTCAPACITY_EMPTY_ELEMENTDATA" "[Ljava/lang/Object;") (.object "java/lang/Object")).before A s = true) d1 d4).1
  -- the places
  obtain ⟨lc, pc, p1, p2, p3⟩ := st_len (n := 4) (st_g hg (by decide +kernel) : (Cond.eq (.length (.static "HandArchive" "LOCUS_PLACES" "[I")) (.int 4)).before A s = true) (by decide) (by decide)
  obtain ⟨p4, p5, -, -⟩ := State.arrayAt?_spec p2
  have p6 := (Cond.arrayOf_spec (st_g hg (by decide +kernel) : (Cond.arrayOf (.static "HandArchive" "LOCUS_PLACES" "[I") .int).before A s = true) p1 p4).1
  have e0 := st_elem (st_g hg (by decide +kernel) : (Cond.eq (.elem (.static "HandArchive" "LOCUS_PLACES" "[I") (.int 0)) (.int 3)).before A s = true) p1 p2
  have e1 := st_elem (st_g hg (by decide +kernel) : (Cond.eq (.elem (.static "HandArchive" "LOCUS_PLACES" "[I") (.int 1)) (.int 5)).before A s = true) p1 p2
  have e2 := st_elem (st_g hg (by decide +kernel) : (Cond.eq (.elem (.static "HandArchive" "LOCUS_PLACES" "[I") (.int 2)) (.int 0)).before A s = true) p1 p2
  have e3 := st_elem (st_g hg (by decide +kernel) : (Cond.eq (.elem (.static "HandArchive" "LOCUS_PLACES" "[I") (.int 3)) (.int 2)).before A s = true) p1 p2
  obtain ⟨mi, hmi⟩ := va_Mi.of (st_g hg (by decide +kernel) : (Cond.isRef (.mirror "[Ljava/lang/Object;")).before A s = true)
  have hA : ∀ a : Nat, a < s.heap.size → ¬ s.heap.size ≤ a := fun a h => by omega
  refine ⟨((fun c => (hcls c).choose, fun c => (hcls c).choose_spec.choose), (cI, cB, 0, cO), (eD, lc), s.heap), rfl, ⟨fun c q hq => (hcls c).choose_spec.choose_spec q hq, ⟨i1, i2⟩, ⟨b1, b2⟩, ⟨trivial, trivial⟩, fun w hw => va_Nw.of (mm_oth_wit hw) (hts w (of_decide_eq_true (List.all_eq_true.mp st_oth w hw))), fun q hq => ?_,
    vx_Zqof (hts _ (List.mem_of_getElem? (i := 172) (by decide +kernel))) (hts _ (by decide +kernel)) (st_g hg (by decide +kernel)) hA, vx_Zqof (hts _ (List.mem_of_getElem? (i := 174) (by decide +kernel))) (hts _ (by decide +kernel)) (st_g hg (by decide +kernel)) hA,
    va_Zref (hts _ (List.mem_of_getElem? (i := 411) (by decide +kernel))) (hts _ (by decide +kernel)) p1 hA, fun e e' h1 h2 h3 => va_Nc.of (flat_of_before _ hg _ (st_nc e e' h1 h2 h3)),
    va_Zref (hts _ (List.mem_of_getElem? (i := 83) (by decide +kernel))) (hts _ (by decide +kernel)) d1 hA, ⟨fun N z => ⟨fun k h => (by cases h), kO, o2, comp, o3⟩, kO, comp, o2, o3, o1, o4⟩, ⟨dc, d4, d5, d3⟩, va_AO.of hover, ⟨mi, hmi⟩, va_Dc.of (hts _ (List.mem_of_getElem? (i := 935) (by decide +kernel))), fun c hc => va_Nw.of rfl (hts _ (of_decide_eq_true (List.all_eq_true.mp st_cast c (List.mem_range.mpr hc))))⟩, pc, p4, p6, p5, p3, fun j hj => ?_⟩
  · have hs := hts _ (st_str hq)
    obtain ⟨-, -, kC, hkC, -⟩ := (hcls 6).choose_spec.choose_spec _ (show mm_cls[6]? = some _ from rfl)
    have hf := ((hcls 6).choose_spec.choose_spec _ (show mm_cls[6]? = some _ from rfl)).2.1
    obtain ⟨-, -, -, a, -, -, -, -, -, h6⟩ := Cond.stringRef_spec hf hs
    exact ⟨a, vk_R.of hs h6⟩
  · rcases j with _ | _ | _ | _ | j
    · exact e0
    · exact e1
    · exact e2
    · exact e3
    · omega
/-! THE LAW'S FIRST CALL: what says has made is forgotten behind it -/
def st_h (L : Nat) (xs : Nat → Int32) : Nat → Option mm_O := fun k => if k = 0 then some (.inr (.inl (2, L, xs))) else if k = 1 then some (.inr (.inl (2, 4, lo))) else none
theorem mm_H.fg {X : mm_X} {σ : mm_S} {ι η : Nat → Nat} {U : State} {H : Heap} {L x y : Nat} {xs f : Nat → Int32} (h : mm_H X σ ι η U H) (h0 : σ.1 0 = some (.inr (.inl (2, L, xs)))) (h1 : σ.1 1 = some (.inr (.inl (2, 4, f)))) (hf : ∀ j, j < 4 → f j = lo j) : mm_H X (st_h L xs, 2, x, y) ι η U H := by
  obtain ⟨a1, a2, a3, a4, ⟨a5, a5'⟩, a6, a7, a8⟩ := h
  refine ⟨a1, fun i j hi hj h2 _ => ?_, fun i hi => a3 i ?_, fun i h2 hi => ?_, ⟨Nat.le_refl _, a5'⟩, fun k o hk => ?_, fun k l hk => ?_, a8⟩
  · have : j < 2 := hj
    omega
  · have : i < 2 := hi
    omega
  · have : i < 2 := hi
    omega
  · dsimp only at hk
    unfold st_h at hk
    split at hk
    · rename_i e
      cases hk
      subst e
      exact ⟨by show 0 < 2; decide, trivial, (fun q => by cases q), (a6 0 _ h0).2.2.2⟩
    · split at hk
      · rename_i e
        cases hk
        subst e
        obtain ⟨cell, g1, g2, g3, g4, g5⟩ := (a6 1 _ h1).2.2.2
        exact ⟨by show 1 < 2; decide, trivial, (fun q => by cases q), cell, g1, g2, g3, g4, fun j hj => by rw [← hf j hj]; exact g5 j hj⟩
      · cases hk
  · dsimp only at hk
    unfold st_h at hk
    split at hk
    · cases hk
    · split at hk <;> cases hk
/-- the runs, but that of says, which forgets -/
noncomputable def st_rec (n1 n2 L : Nat) (xs : Nat → Int32) (σ0 : mm_S) : mm_C := fun y pc ls st σ =>
  if y = 111 then @ite _ (pc = 0 ∧ ls = mm_ent 111 [] ∧ st = [] ∧ σ = σ0) (Classical.propDecidable _) (some (.inl (some (.int 1)), (st_h L xs, 2, 1500, 12000))) none else mm_run n2 y pc ls st σ
theorem st_sim {X : mm_X} {n1 n2 L : Nat} {xs f : Nat → Int32} {σ0 σ1 : mm_S} (hs : ∀ n, mm_Sim X (mm_run n)) (hn : mm_run n1 111 0 (mm_ent 111 []) [] σ0 = some (.inl (some (.int 1)), σ1)) (h2 : σ0.2 = (2, 0, 0)) (c1 : σ1.2.2.1 ≤ 1500) (c2 : σ1.2.2.2 ≤ 12000)
    (h0 : σ1.1 0 = some (.inr (.inl (2, L, xs)))) (h1 : σ1.1 1 = some (.inr (.inl (2, 4, f)))) (hf : ∀ j, j < 4 → f j = lo j) : mm_Sim X (st_rec n1 n2 L xs σ0) := by
  intro y pc ls st σ o σ' h
  unfold st_rec at h
  by_cases e : y = 111
  · rw [if_pos e] at h
    by_cases q : pc = 0 ∧ ls = mm_ent 111 [] ∧ st = [] ∧ σ = σ0
    · rw [if_pd q] at h
      cases h
      obtain ⟨rfl, rfl, rfl, rfl⟩ := q
      subst e
      obtain ⟨s1, s2⟩ := hs n1 _ _ _ _ _ _ _ hn
      refine ⟨by rw [h2]; exact ⟨Nat.le_refl _, Nat.zero_le _, Nat.zero_le _⟩, fun K H locs cells slots mc ms mls ι η hF hG hH hL hST hlo hc hR => ?_⟩
      rw [h2] at hc
      have hc' : cells + 1500 ≤ mc + 0 ∧ slots + 12000 ≤ ms + 0 := hc
      have k := s2 K H locs cells slots mc ms mls ι η hF hG hH hL hST hlo (by rw [h2]; show cells + σ1.2.2.1 ≤ mc + 0 ∧ slots + σ1.2.2.2 ≤ ms + 0; omega) hR
      intro T hT XX
      obtain ⟨t, a1, oc, b1, b2, b3⟩ := k T hT XX
      refine ⟨t, a1, oc, b1, b2, ?_⟩
      rcases b3 with ⟨⟨v, ι1, η1, d1, d2, d3, d4, d5⟩, b4⟩ | ⟨q, b4, E, ce, L2, ⟨ee, ι1, η1, d1, d2, d3, d4⟩, b5⟩
      · refine Or.inl ⟨⟨v, ι1, η1, d1, d2, d3, d4.fg h0 h1 hf, fun w hw => ?_⟩, b4⟩
        cases d1
        cases hw
        trivial
      · cases d1
    · rw [if_nd q] at h
      cases h
  · rw [if_neg e] at h
    exact hs n2 _ _ _ _ _ _ _ h
-- the law's own walk, and the claim out of it
/-! THE CLAIM OUT OF ONE WALK OF THE LAW'S BODY. Your part is whole_start (and what it stands on); all else here is the same for every law, but numbers. -/
def R_law : String := "HandArchiveLaw"
def lw_P (b : Addr) (xs : List Int32) (args : Array Value) (s : State) : Prop := args = #[.ref b] ∧ s.IntsAt b xs ∧ xs.length ≤ 260 ∧ (Jvm.Cond.and given_1 narrow_1).before args s = true
def lw_Q (_ : Array Value) (s : State) (o : Outcome) (t : State) : Prop := o = .returned (some (.int 1)) ∧ Framed s o t [] 663209 7112202
def lw_Z (below : List Frame) (a : Array Value) (s : State) : State → Prop := fun t => ∃ o, t.status = .running ∧ Ended t below o ∧ lw_Q a s o t
/-- the law's own end, with 1 on the stack, nothing written that was there before, its room as the claim has it -/
theorem lw_ret {p : Program} {l : Launch} {e : Env} {s : State} {m : MethodId} {below : List Frame} {meth : Method} {c : Code} {b : Nat} (hx : p.tables.exec = Jvm.exec) (hb : c.code = code) (hr : meth.sig.returnType = ret) (hlocks : meth.locks = false) {pc : Nat} {H : Heap} {ls : Array Slot} (hdg : decode code pc = .ok (.ireturn, 1)) : W p l e room_1 s m #[Value.ref b] below meth c H [] 663209 7112202 (lw_Z below #[Value.ref b] s) (F0 m pc ls [.int 1]) := by
  intro T hT X
  obtain ⟨fs, hret, hrun, hended, hW, hframe⟩ := X.leave (v := some (.int 1)) (hlocks := hlocks) (fun h => by rw [hr] at h; cases h)
  have hmeth' : T.vm.method? m = some meth := X.method'
  refine ⟨T.setFrames fs, ?_, .returned (some (.int 1)), hrun, hended, rfl, ⟨_, rfl⟩, hW, hframe⟩
  jvm_step X.here [X.here.top, hx, hb, hdg, hmeth', hr, ret, narrow_b1]
  (try refine ⟨rfl, ?_⟩); (try refine ⟨rfl, ?_⟩)
  first | (intro acts; rw [hret _ acts rfl rfl rfl]) | rw [hret _ _ rfl rfl rfl]
  exact Steps.refl _
/-- what holds at the law's entry: the machine, the code, the tables' words (any of lw_tbl by 'hts w (by decide +kernel)'), the script of L ints xs at the cell b, what the Statement gives of the start (any of its parts by flat_of_before) -/
def lw_At (p : Program) (s : State) (m : MethodId) (meth : Method) (c : Code) (b L : Nat) (xs : Nat → Int32) : Prop :=
  p.tables.exec = Jvm.exec ∧ c.code = code ∧ meth.sig.returnType = ret ∧ c.maxLocals = 11 ∧ s.vm.findClass R_law = some m.cls ∧ (∀ w ∈ lw_tbl, w.before #[Value.ref b] s = true) ∧ va_X b L xs s s.heap ∧ b < s.heap.size ∧ meth.locks = false ∧ (Jvm.Cond.and given_1 narrow_1).before #[Value.ref b] s = true ∧ c.exceptionTable.toList = [] ∧ meth.name = x.name
-- ===== YOUR PART BEGINS =====
/-- YOUR PART: from the entry, for every script of at most 260 ints, the law comes to its end with true ('hflags': the launch's flags, for a law that throws: no stack traces) -/
theorem whole_start {p : Program} {e : Env} {s : State} {m : MethodId} {below : List Frame} {meth : Method} {c : Code} (l : Launch) (hflags : l.flags = flags0) {b L : Nat} {xs : Nat → Int32} (hL : L ≤ 260) (C0 : lw_At p s m meth c b L xs) : W p l e room_1 s m #[Value.ref b] below meth c s.heap [] 0 0 (lw_Z below #[Value.ref b] s) (entryFrame m ([Value.ref b] : List Value).toArray 11) := by
  obtain ⟨c1, c2, c3, c4, c5, c6, c7, c8, c9, c10, c11, c12⟩ := C0
  obtain ⟨X, hX, hG, cell, g1, g2, g3, g4, g5⟩ := st_X c6 c10
  obtain ⟨σ1, s1, s2, s3, s4, s5, f, s6, s7⟩ := says_val (some (.inr (.inl (2, L, xs))))
  obtain ⟨n1, hn1⟩ := mm_L_to (show mm_L 111 0 (mm_ent 111 []) [] (toS (some (.inr (.inl (2, L, xs)))) fT0) = _ from s1)
  obtain ⟨τ, hval, t1, t2⟩ := law_val (σ := (st_h L xs, 2, 1500, 12000)) hL rfl rfl rfl
  obtain ⟨n, hn⟩ := mm_L_to hval
  have hsim : mm_Sim X (st_rec n1 n L xs (toS (some (.inr (.inl (2, L, xs)))) fT0)) := st_sim (fun n => mm_sim (X := X) (fun l _ => ls_all l) n) hn1 rfl s3 s4 s5 s6 s7
  have hinv : mm_inv (st_rec n1 n L xs (toS (some (.inr (.inl (2, L, xs)))) fT0)) 115 0 [.ref 0, mm_un, mm_un, mm_un, mm_un, mm_un, mm_un, mm_un, mm_un, mm_un, mm_un] [] (toS (some (.inr (.inl (2, L, xs)))) fT0) 111 0 = some (.inl (some (.int 1)), τ) := by
    have e1 : st_rec n1 n L xs (toS (some (.inr (.inl (2, L, xs)))) fT0) 111 0 (mm_ent 111 []) [] (toS (some (.inr (.inl (2, L, xs)))) fT0) = some (.inl (some (.int 1)), (st_h L xs, 2, 1500, 12000)) := by
      unfold st_rec
      rw [if_pos rfl]
      exact if_pd ⟨rfl, rfl, rfl, rfl⟩
    have e2 : ∀ ls st σ, st_rec n1 n L xs (toS (some (.inr (.inl (2, L, xs)))) fT0) 115 3 ls st σ = mm_run n 115 3 ls st σ := fun ls st σ => if_neg (by decide)
    unfold mm_inv
    rw [if_pos (show mm_kd 111 = 0 ∧ mm_np 111 ≤ ([] : List Value).length from ⟨by decide +kernel, by decide +kernel⟩), if_pos rfl]
    unfold mm_call
    rw [if_pos (by decide +kernel)]
    show mm_ret (st_rec n1 n L xs _ 111 0 (mm_ent 111 ((List.take (mm_np 111) ([] : List Value)).reverse)) [] _) _ _ = _
    rw [show (List.take (mm_np 111) ([] : List Value)).reverse = [] from rfl, e1]
    show st_rec n1 n L xs _ 115 3 _ ((some (Value.int 1)).toList ++ List.drop (mm_np 111) ([] : List Value)) _ = _
    rw [e2]
    exact hn
  have hlc : X.2.2.1.2 < s.heap.size := (Array.getElem?_eq_some_iff.mp g1).1
  have hH : mm_H X (toS (some (.inr (.inl (2, L, xs)))) fT0) (fun i => if i = 0 then b else X.2.2.1.2) (fun _ => 0) s s.heap := by
    refine ⟨by rw [hX]; exact ⟨Nat.le_refl _, fun _ _ => rfl⟩, fun i j _ hj h2 _ => ?_, fun i hi => ?_, fun i h2 hi => ?_, ⟨Nat.le_refl _, rfl⟩, fun k o hk => ?_, fun k l hk => ?_, by rw [hX]; exact ⟨Nat.le_refl _, Nat.le_refl _, fun _ _ => rfl⟩⟩
    · have : j < 2 := hj
      omega
    · dsimp only
      split
      · exact c8
      · exact hlc
    · have : i < 2 := hi
      omega
    · rw [T0_at] at hk
      split at hk
      · rename_i e
        cases hk
        subst e
        exact ⟨by show 0 < 2; decide, trivial, (fun q => by cases q), c7⟩
      · split at hk
        · rename_i e
          cases hk
          subst e
          exact ⟨by show 1 < 2; decide, trivial, (fun q => by cases q), cell, g1, g2, g3, g4, fun j hj => by rw [fL_lo j hj]; exact g5 j hj⟩
        · cases hk
    · rw [T0_at] at hk
      split at hk
      · cases hk
      · split at hk <;> cases hk
  have hst : l.stackTraces = false := by
    unfold Launch.stackTraces
    rw [hflags]
    decide
  have hl := lv_entry [Value.ref b] (n := 11) (Nat.le_of_ble_eq_true rfl)
  rw [lg_entry_eq]
  generalize (lg_sl [Value.ref b] ++ List.replicate (11 - (lg_sl [Value.ref b]).length) Slot.unset).toArray = mls at hl ⊢
  have hsm := mm_s_static (i := 119) hsim (show decode (mm_by 115) 0 = .ok (.invokestatic 119, 3) by rw [mb_115]; exact dL_law_0) uc_115_119.1 (by decide) hinv
  have hw := hsm.2 (p, l, e, room_1, s, m, #[Value.ref b], below, meth, c) s.heap [] 0 0 663209 7112202 mls (fun i => if i = 0 then b else X.2.2.1.2) (fun _ => 0)
    ⟨c1, c2, c4, c5, fun w hw => c6 w (mm_good_in hw).1, c11, c9, c3, c12, by show mm_rk 115 ≤ 15; decide +kernel, by show 38 * mm_rk 115 ≤ 614; decide +kernel, by decide, hst⟩
    hG hH (mm_entry (z := 115) (As := [.ref 0]) (by decide) (by decide +kernel) (fun v hv => by rw [List.mem_singleton.mp hv]; show 0 < 2; decide) hl) (fun v hv => by cases hv) (fun z hz => by cases hz)
    ⟨by show 0 + τ.2.2.1 ≤ 663209 + 0; have : τ.2.2.1 ≤ 1500 + 40000 := t1; omega, by show 0 + τ.2.2.2 ≤ 7112202 + 0; have : τ.2.2.2 ≤ 12000 + 300000 := t2; omega⟩ ⟨Nat.le_refl _, Nat.le_refl _⟩
  intro T hT XX
  obtain ⟨t, a1, oc, b1, b2, b3⟩ := hw T hT XX
  refine ⟨t, a1, oc, b1, b2, ?_⟩
  rcases b3 with ⟨⟨v, ι', η', h1, h2, -⟩, L2, h5, h6⟩ | ⟨q, -, E, ce, L2, ⟨ee, -, -, hx, -⟩, -⟩
  · cases h1
    refine ⟨h2, h5.1, h5.2.1, h5.2.2.weaken (fun y hy hlt => ?_) (Nat.le_refl _) (Nat.le_refl _)⟩
    have := h6 y hy
    unfold mm_A at this
    rw [hX] at this
    exact absurd hlt (Nat.not_lt.mpr this)
  · cases hx
-- ===== YOUR PART ENDS =====
set_option maxHeartbeats 4000000 in
theorem lw_walk (l : Launch) (hflags : l.flags = flags0) (b : Addr) (xs : List Int32) : MetFree l x (headSpec (Jvm.Cond.code x code maxLocals ret :: tables_1) room_1) (lw_P b xs) (fun _ _ _ _ _ => True) lw_Q := by
  refine MetFree.of_bodyS (code := code) (maxLocals := maxLocals) (ret := ret) (by decide) ?_ ?_
  · intro args s m h hn
    obtain ⟨meth, c, h1, h2, h3, h4, h5, h6, -, -⟩ := Cond.code_spec hn (atoms_spec (ws := Jvm.Cond.code x code maxLocals ret :: tables_1) h _ List.mem_cons_self)
    exact ⟨meth, c, h1, h2, h3, h4, h5, h6⟩
  · intro p e s m args below meth c s₁ B hml0 hP _
    obtain ⟨rfl, hx, hbd, hgv⟩ := hP
    obtain ⟨scr, harrAt, hlist, hof, hsmall⟩ := hx
    obtain ⟨hcb, hkn, -, -⟩ := State.arrayAt?_spec harrAt
    have hown : s.vm.findClass R_law = some m.cls := findClass_of_methodNamed B.named
    have hts0 : ∀ c ∈ (Jvm.Cond.code x code maxLocals ret :: tables_1), c.before #[Value.ref b] s = true := atoms_spec (ws := Jvm.Cond.code x code maxLocals ret :: tables_1) B.pre
    have hts : ∀ w ∈ lw_tbl, w.before #[Value.ref b] s = true := k2_hts_sels lw_privs (fun w hw => hts0 w (List.mem_cons_of_mem _ hw)) lw_privs_ok
    have hml : c.maxLocals = 11 := B.maxLocals_eq (hts0 _ List.mem_cons_self)
    have X₀ : Stand p l e room_1 s m #[Value.ref b] below meth c s₁ [] 0 0 := Stand.of_body B
    have htab : c.exceptionTable.toList = [] := by
      obtain ⟨meth9, c9, h1, h2, -, -, -, -, h7, -⟩ := Cond.code_spec B.named (hts0 _ List.mem_cons_self)
      cases Option.some.inj (h1.symm.trans B.method)
      cases Option.some.inj (h2.symm.trans X₀.code)
      rw [Array.isEmpty_iff.mp h7]
    have hh0 : s₁.heap = s.heap := by rw [B.state]; rfl
    have hsz : scr.slots.size = xs.length := by rw [← Array.length_toList, hlist, List.length_map]
    have hval : ∀ j : Nat, j < xs.length → scr.slots[j]? = some (.int (xs.getD j 0)) := fun j hj => by
      rw [← Array.getElem?_toList, hlist]
      simp [hj]
    have hbl : b < s.heap.size := (Array.getElem?_eq_some_iff.mp hcb).1
    have hX : va_X b xs.length (fun j => xs.getD j 0) s s.heap := ⟨scr, hcb, hof, hkn, hsz, hval⟩
    have K : W p l e room_1 s m #[Value.ref b] below meth c s₁.heap [] 0 0 (lw_Z below #[Value.ref b] s) (entryFrame m ([Value.ref b] : List Value).toArray 11) := by
      rw [hh0]
      exact whole_start l hflags hbd ⟨B.exec, B.bytes, B.returns, hml, hown, hts, hX, hbl, B.notSynchronized, hgv, htab, (name_of_methodNamed B.named B.method).1⟩
    obtain ⟨t, a1, o, b1, b2, b3⟩ := K s₁ rfl X₀
    exact ⟨t, o, a1, b1, b2, b3⟩
theorem lw_pre_spec {args : Array Value} {s : State} (h : (Jvm.Cond.and given_1 narrow_1).before args s = true) (hr : rest_1_c.before args s = true) : ∃ (b : Addr) (xs : List Int32), lw_P b xs args s := by
  have hs := flat_of_before _ h
  have hq := flat_of_before _ hr
  have hc : (Cond.count 1).before args s = true := hs _ (by decide +kernel)
  have harr : (Cond.arrayOf (.arg 0) .int).before args s = true := hs _ (by decide +kernel)
  have hle : (Cond.le (.length (.arg 0)) (.int 260)).before args s = true := hs _ (by decide +kernel)
  have hlen : (Cond.isInt (.length (.arg 0))).before args s = true := hq _ (by decide +kernel)
  have hall : (Cond.all (.arg 0) (.isInt (.elem (.arg 0) (.index 0)))).before args s = true := hq _ (by decide +kernel)
  obtain ⟨b, xs, hb, hx⟩ := State.ints_of_pre rfl harr hlen hall
  have hsm : xs.length < 2 ^ 31 := hx.choose_spec.2.2.2
  have hev : (Term.length (.arg 0)).eval args s none [] s = some (.int xs.length.toInt32) := hx.length_eval hb
  have hv := Cond.le_ints hev (show (Term.int 260).eval args s none [] s = some (.int 260) from rfl)
  have hd : xs.length.toInt32 ≤ 260 := by
    simpa [Cond.before, Cond.holds, hv] using hle
  have hN : xs.length ≤ 260 := (Int32.ofNat_le_ofNat hsm (by decide)).mp (show Int32.ofNat xs.length ≤ Int32.ofNat 260 from hd)
  exact ⟨b, xs, Cond.one_arg hc (show args[0]? = some (.ref b) from hb), hx, hN, h⟩
theorem lw_comes (l : Launch) (hflags : l.flags = flags0) : Comes l x (Jvm.Cond.code x code maxLocals ret :: tables_1) room_1 (fun tb e args s => Calls_1 tb e args s ∧ rest_1 tb e args s ∧ Pre_1 tb e args s)
    (fun _ _ args s o t => lw_Q args s o t) := by
  intro p e ha hc hk s m args below hf hfit hheap happ hpre
  obtain ⟨b, xs, hP⟩ := lw_pre_spec hpre.2.2 hpre.2.1
  obtain ⟨k, o, h1, h2, h3, hQ⟩ := lw_walk l hflags b xs p e ha hc hk s m args below hf ((Spec.applies_iff_loose hf).mp happ).1 hP trivial
  exact ⟨k, o, h1, h2, h3, hQ⟩
theorem lw_frame {s t : State} {o : Outcome} {args : Array Value} (h : Framed s o t [] 663209 7112202) :
    Framed s o t (fieldLocs frame_1_writes args s ++ arrayLocs frame_1_arrays args s ++ staticLocs frame_1_statics s) 663209 7112202 := h
theorem lw_limb (L : Cond) (hL : ∀ (args : Array Value) (s t : State), L.after args s (.returned (some (.int 1))) t = true) :
    ArmFor flags0 classFile x code maxLocals ret World_1 tables_1 room_1 Calls_1 rest_1 Pre_1
      (fun tb e a s o t => postC L tb e a s o t ∧ Framed s o t (fieldLocs frame_1_writes a s ++ arrayLocs frame_1_arrays a s ++ staticLocs frame_1_statics s) 663209 7112202) := by
  intro l hflags _ _ p e ha hc hk s m args below hf hfit hheap happ hpre
  obtain ⟨k, o, h1, h2, h3, rfl, hF⟩ := lw_comes l hflags p e ha hc hk s m args below hf hfit hheap happ hpre
  exact ⟨k, _, h1, h2, h3, hL args s _, lw_frame hF⟩
theorem i_vc : Claimed_1_1 ∧ Claimed_1_2 := ⟨lw_limb limb_1_1 (fun args s t => by simp [limb_1_1, Cond.after, Cond.holds, Cond.value]), lw_limb limb_1_2 (fun args s t => Cond.after_iff.mpr (by
  first | (rw [show limb_1_2 = Cond.eq .result (.int 1) from rfl, Cond.eq_ints (x := 1) (y := 1) rfl rfl]; simp; done) | (simp [limb_1_2, Cond.value, Term.eval]; done)))⟩
