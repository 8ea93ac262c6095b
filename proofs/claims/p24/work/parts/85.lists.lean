/-! WHAT IS OWED OF ArrayList: its methods' contracts; first the frame of such a contract, and the methods that read -/
theorem ls_in {w : Cond} (i : Nat) (h : (lw_tbl[i]? = some w) ∧ goodWord w = true) : w ∈ mm_good := List.mem_filter.mpr ⟨List.mem_of_getElem? h.1, h.2⟩
abbrev ls_O : String := "java/lang/Object"
/-- before: the arguments, the tables, the heap at the law's start, elements that may lie in an array of objects, a picture of the heap -/
def ls_P (X : mm_X) (As : List Value) (LP : Nat → Prop) (Φ : Heap → Prop) : Array Value → State → Prop := fun v U => v = As.toArray ∧ mm_G X U ∧ (∀ q, q < X.2.2.2.size → U.heap[q]? = X.2.2.2[q]?) ∧ (∀ y, LP y → va_Any ls_O U U.heap y) ∧ Φ U.heap
/-- behind: what is returned, and how the heaps lie to each other -/
def ls_Q (R : Option Value → Heap → Heap → Prop) : Array Value → State → Outcome → State → Prop := fun _ st oc t => st.vm.Alike t.vm ∧ ∃ v, oc = .returned v ∧ R v st.heap t.heap
theorem ls_any {U V : State} {H : Heap} {y : Nat} (hA : U.vm.Alike V.vm) (h : va_Any ls_O U H y) : va_Any ls_O V H y := by
  obtain ⟨cell, h1, h2, ⟨k, h3⟩, h4⟩ := h
  obtain ⟨k', hk', -⟩ := hA.2.2 _ _ h3
  exact ⟨cell, h1, h2, ⟨k', hk'⟩, fun comp hc => by rw [hA.assignable]; exact h4 comp (by rw [← hA.findClass]; exact hc)⟩
theorem ls_P.blind {X : mm_X} {As : List Value} {LP : Nat → Prop} {Φ : Heap → Prop} : FrameBlind (ls_P X As LP Φ) := fun a U g mk h => by
  obtain ⟨h1, h2, h3, h4, h5⟩ := h
  exact ⟨h1, h2.warm (U := U.calling g mk a) (State.WarmedH.refl U), h3, fun y hy => ls_any (Vm.Alike.refl U.vm) (h4 y hy), h5⟩
/-- a contract out of a walk -/
theorem ls_met {X : mm_X} {l : Launch} {y : MethodName} {cc : ByteArray} {maxL : Nat} {ret : Option FieldType} {As : List Value} {LP : Nat → Prop} {Φ : Heap → Prop} {Qc : Array Value → State → Outcome → State → Prop} {rm : Room} {mc ms : Nat} {free : Addr → Prop}
    (hy : plainName y.cls = true) (hl : (lg_sl As).length ≤ maxL)
    (body : ∀ (p : Program) (e : Env) (s : State) (m : MethodId) (below : List Frame) (meth : Method) (c : Code) (mls : Array Slot), CallFix p m c cc maxL s As.toArray mm_good y.cls → meth.sig.returnType = ret ∧ meth.locks = false ∧ meth.name = y.name → mm_G X s → (∀ q, q < X.2.2.2.size → s.heap[q]? = X.2.2.2[q]?) → (∀ z, LP z → va_Any ls_O s s.heap z) → Φ s.heap → lv_has mls maxL (lv_args 0 As) →
      W p l e rm s m As.toArray below meth c s.heap [] 0 0 (MQ below Qc As.toArray s mc ms free) (F0 m 0 mls [])) : Met l y (Cond.code y cc maxL ret :: mm_good) rm (ls_P X As LP Φ) Qc mc ms free := by
  refine Met.ofW (cc := cc) (maxL := maxL) (ret := ret) hy rfl ?_
  intro p e s m args below meth c s₁ B hml hP
  obtain ⟨rfl, h2, h3, h4, h5⟩ := hP
  have hts := atoms_spec (ws := Cond.code y cc maxL ret :: mm_good) B.pre
  rw [lg_entry_eq]
  exact body p e s m below meth c _ ⟨B.exec, B.bytes, hml, findClass_of_methodNamed B.named, fun w hw => hts w (List.mem_cons_of_mem _ hw)⟩ ⟨B.returns, B.notSynchronized, (name_of_methodNamed B.named B.method).1⟩ h2 h3 h4 h5 (lv_entry As hl)
/-- behind a call -/
theorem ls_call {p : Program} {l : Launch} {e : Env} {R : Room} {s : State} {m : MethodId} {args : Array Value} {below : List Frame} {meth : Method} {c : Code} {H : Heap} {locs : List Loc} {cells slots mc ms : Nat} {Q : State → Prop} {pc : Nat} {mls : Array Slot} {st rest : List Value} {Rl : Option Value → Heap → Heap → Prop} {a : Array Value} {free : Addr → Prop}
    (hr : va_Run p l e R s m args below meth c H locs cells slots mc ms (F0 m pc mls st) rest (ls_Q Rl a) free)
    (kk : ∀ (v : Option Value) (H' : Heap) (L : List Loc), (∀ q ∈ L, free q.base) → Rl v H H' → W p l e R s m args below meth c H' (locs ++ L) (cells + mc) (slots + ms) Q (F0 m (pc + 3) mls (v.toList ++ rest))) : W p l e R s m args below meth c H locs cells slots Q (F0 m pc mls st) := by
  intro T hT XX
  obtain ⟨v, s0, t, T', L, h0, X', hL, e1, e2, ⟨-, v', q2, q3⟩, st⟩ := hr T hT XX
  cases Outcome.returned.inj q2
  rw [h0] at q3
  obtain ⟨t2, a1, b1⟩ := kk v t.heap L hL q3 T' e1 X'
  exact ⟨t2, st t2 a1, b1⟩
theorem ls_callB {y : MethodName} {cc : ByteArray} {maxL : Nat} {ret : Option FieldType} {index : Nat} {own : String} {R rm : Room} {s : State} {args : Array Value} {mc ms : Nat} (n : Nat) (hts : ∀ w ∈ mm_good, w.before args s = true) (hrc : rm.cells = mc ∧ rm.slots = ms) (hc : Cond.code y cc maxL ret ∈ mm_good) (hl : Cond.methodLink own index y ∈ mm_good) (hi : Cond.initialized y.cls ∈ mm_good)
    (hd : y.cls ≠ "java/lang/invoke/MethodHandle" ∧ y.cls ≠ "java/lang/invoke/VarHandle" ∧ (parseMethodDescriptor y.desc).map (fun d => d.parameters.length) = some n) (hR : rm.frames + 1 ≤ R.frames ∧ 8 + (maxL + 11) + rm.locals ≤ R.locals) : CallB R s args own index y cc maxL ret (Cond.code y cc maxL ret :: mm_good) rm mc ms n :=
  callB_of n hts (mm_good_good _ hc) rfl hrc.1 hrc.2 (hts _ hi) (hts _ hl) hd hR
theorem ls_K {X : mm_X} {s : State} (h : mm_G X s) : va_K X.1 mm_cls [(X.2.1.2.2.2, .object ls_O)] s := ⟨h.1, fun k q hk => by
  match k, hk with
  | 0, hk => cases hk; exact h.2.2.2.2.2.2.2.2.2.2.2.1⟩
-- words
theorem lk_size : Cond.fieldLink RJx4a65c 48 "java/util/ArrayList" "size" "I" ∈ mm_good := ls_in 85 (by decide +kernel)
theorem lk_elem : Cond.fieldLink RJx4a65c 9 "java/util/ArrayList" "elementData" "[Ljava/lang/Object;" ∈ mm_good := ls_in 84 (by decide +kernel)
theorem lk_mod : Cond.fieldLink RJx4a65c 63 "java/util/ArrayList" "modCount" "I" ∈ mm_good := ls_in 87 (by decide +kernel)
theorem lk_same : Cond.sameField "java/util/ArrayList" "java/util/AbstractList" "modCount" "I" ∈ mm_good := ls_in 88 (by decide +kernel)
theorem lk_iJ4 : Cond.initialized RJx4a65c ∈ mm_good := ls_in 43 (by decide +kernel)
theorem ls_u8 : ∀ w ∈ u_ws RJx4a65c TJx4a65c 3, w ∈ mm_good := (mm_cls_at (ci := 8) rfl).1
section
variable {p : Program} {l : Launch} {e : Env} {R : Room} {s : State} {m : MethodId} {args : Array Value} {below : List Frame} {meth : Method} {c : Code} {H : Heap} {locs : List Loc} {cells slots : Nat} {Q : State → Prop}
variable {cc : ByteArray} {maxL pc : Nat} {ls : Array Slot} {rest : List Value} {X : mm_X} {A : Nat → Prop} {a : Nat} {ws : va_W} {H0 : Heap}
theorem ls_gsize (C : CallFix p m c cc maxL s args mm_good RJx4a65c) (hG : mm_G X s) (hP : va_P X.1 mm_cls ws H) (q0 : Nat) {v0 v1 v2 : Value} (he : ws[q0]? = some (a, .inr (8, [v0, v1, v2]))) (hd : decode cc pc = .ok (.getfield 48, 3)) (kk : W p l e R s m args below meth c H locs cells slots Q (F0 m (pc + 3) ls (v2 :: rest))) : W p l e R s m args below meth c H locs cells slots Q (F0 m pc ls (.ref a :: rest)) :=
  va_get (D := X.1) (ci := 8) (C := RJx4a65c) (T := TJx4a65c) (N := 3) C.1 C.2.1 C.2.2.2.2 ls_u8 C.2.2.2.1 (ls_K hG) hP q0 he rfl 2 (by decide) (C.2.2.2.2 _ lk_size) (fun _ q => q) rfl hd kk
theorem ls_gelem (C : CallFix p m c cc maxL s args mm_good RJx4a65c) (hG : mm_G X s) (hP : va_P X.1 mm_cls ws H) (q0 : Nat) {v0 v1 v2 : Value} (he : ws[q0]? = some (a, .inr (8, [v0, v1, v2]))) (hd : decode cc pc = .ok (.getfield 9, 3)) (kk : W p l e R s m args below meth c H locs cells slots Q (F0 m (pc + 3) ls (v1 :: rest))) : W p l e R s m args below meth c H locs cells slots Q (F0 m pc ls (.ref a :: rest)) :=
  va_get (D := X.1) (ci := 8) (C := RJx4a65c) (T := TJx4a65c) (N := 3) C.1 C.2.1 C.2.2.2.2 ls_u8 C.2.2.2.1 (ls_K hG) hP q0 he rfl 1 (by decide) (C.2.2.2.2 _ lk_elem) (fun _ q => q) rfl hd kk
theorem ls_gmod (C : CallFix p m c cc maxL s args mm_good RJx4a65c) (hG : mm_G X s) (hP : va_P X.1 mm_cls ws H) (q0 : Nat) {v0 v1 v2 : Value} (he : ws[q0]? = some (a, .inr (8, [v0, v1, v2]))) (hd : decode cc pc = .ok (.getfield 63, 3)) (kk : W p l e R s m args below meth c H locs cells slots Q (F0 m (pc + 3) ls (v0 :: rest))) : W p l e R s m args below meth c H locs cells slots Q (F0 m pc ls (.ref a :: rest)) :=
  va_get (D := X.1) (ci := 8) (C := RJx4a65c) (T := TJx4a65c) (N := 3) C.1 C.2.1 C.2.2.2.2 ls_u8 C.2.2.2.1 (ls_K hG) hP q0 he rfl 0 (by decide) (C.2.2.2.2 _ lk_mod) (fun x q => u_same (C.2.2.2.2 _ lk_same) x q) rfl hd kk
theorem ls_psize (C : CallFix p m c cc maxL s args mm_good RJx4a65c) (hG : mm_G X s) (hP : va_P X.1 mm_cls ws H) (hD : va_D A ws) (hS : va_S A H0 H locs) (q0 : Nat) {v0 v1 v2 : Value} {v : Int32} (he : ws[q0]? = some (a, .inr (8, [v0, v1, v2]))) (hd : decode cc pc = .ok (.putfield 48, 3)) (kk : ∀ (H1 : Heap) (locs1 : List Loc), va_P X.1 mm_cls (ws.set q0 (a, .inr (8, [v0, v1, .int v]))) H1 → va_D A (ws.set q0 (a, .inr (8, [v0, v1, .int v]))) → va_S A H0 H1 locs1 → W p l e R s m args below meth c H1 locs1 cells slots Q (F0 m (pc + 3) ls rest)) : W p l e R s m args below meth c H locs cells slots Q (F0 m pc ls (.int v :: .ref a :: rest)) :=
  va_put (D := X.1) (ci := 8) (C := RJx4a65c) (T := TJx4a65c) (N := 3) C.1 C.2.1 C.2.2.2.2 ls_u8 tyJx4a65c tyJx4a65c_ok nmJx4a65c C.2.2.2.1 (ls_K hG) hP hD hS q0 he rfl 2 (by decide) (C.2.2.2.2 _ lk_size) (fun _ q => q) rfl (ty := .int) (tyJx4a65c_ok 2 (by decide)) rfl rfl (by show 2 < 3; decide) hd kk
theorem ls_pmod (C : CallFix p m c cc maxL s args mm_good RJx4a65c) (hG : mm_G X s) (hP : va_P X.1 mm_cls ws H) (hD : va_D A ws) (hS : va_S A H0 H locs) (q0 : Nat) {v0 v1 v2 : Value} {v : Int32} (he : ws[q0]? = some (a, .inr (8, [v0, v1, v2]))) (hd : decode cc pc = .ok (.putfield 63, 3)) (kk : ∀ (H1 : Heap) (locs1 : List Loc), va_P X.1 mm_cls (ws.set q0 (a, .inr (8, [.int v, v1, v2]))) H1 → va_D A (ws.set q0 (a, .inr (8, [.int v, v1, v2]))) → va_S A H0 H1 locs1 → W p l e R s m args below meth c H1 locs1 cells slots Q (F0 m (pc + 3) ls rest)) : W p l e R s m args below meth c H locs cells slots Q (F0 m pc ls (.int v :: .ref a :: rest)) :=
  va_put (D := X.1) (ci := 8) (C := RJx4a65c) (T := TJx4a65c) (N := 3) C.1 C.2.1 C.2.2.2.2 ls_u8 tyJx4a65c tyJx4a65c_ok nmJx4a65c C.2.2.2.1 (ls_K hG) hP hD hS q0 he rfl 0 (by decide) (C.2.2.2.2 _ lk_mod) (fun x q => u_same (C.2.2.2.2 _ lk_same) x q) rfl (ty := .int) (tyJx4a65c_ok 0 (by decide)) rfl rfl (by show 0 < 3; decide) hd kk
theorem ls_pelem (C : CallFix p m c cc maxL s args mm_good RJx4a65c) (hG : mm_G X s) (hP : va_P X.1 mm_cls ws H) (hD : va_D A ws) (hS : va_S A H0 H locs) (q0 : Nat) {v0 v1 v2 : Value} {v : Nat} (he : ws[q0]? = some (a, .inr (8, [v0, v1, v2]))) (hd : decode cc pc = .ok (.putfield 9, 3)) (kk : ∀ (H1 : Heap) (locs1 : List Loc), va_P X.1 mm_cls (ws.set q0 (a, .inr (8, [v0, .ref v, v2]))) H1 → va_D A (ws.set q0 (a, .inr (8, [v0, .ref v, v2]))) → va_S A H0 H1 locs1 → W p l e R s m args below meth c H1 locs1 cells slots Q (F0 m (pc + 3) ls rest)) : W p l e R s m args below meth c H locs cells slots Q (F0 m pc ls (.ref v :: .ref a :: rest)) :=
  va_put (D := X.1) (ci := 8) (C := RJx4a65c) (T := TJx4a65c) (N := 3) C.1 C.2.1 C.2.2.2.2 ls_u8 tyJx4a65c tyJx4a65c_ok nmJx4a65c C.2.2.2.1 (ls_K hG) hP hD hS q0 he rfl 1 (by decide) (C.2.2.2.2 _ lk_elem) (fun _ q => q) rfl (ty := .array (.object "java/lang/Object")) (tyJx4a65c_ok 1 (by decide)) rfl rfl (by show 1 < 3; decide) hd kk
end
section
variable {p : Program} {l : Launch} {e : Env} {R : Room} {s : State} {m : MethodId} {args : Array Value} {below : List Frame} {meth : Method} {c : Code} {H : Heap} {locs : List Loc} {cells slots : Nat} {Q : State → Prop}
variable {cc : ByteArray} {maxL pc : Nat} {ls : Array Slot} {rest st : List Value} {X : mm_X} {own : String} {y : MethodName} {bytes : ByteArray} {mL idx mc ms : Nat} {ret : Option FieldType} {rm : Room} {As : List Value} {LP : Nat → Prop} {Φ : Heap → Prop} {Rl : Option Value → Heap → Heap → Prop} {free : Addr → Prop}
/-- a static method is called -/
theorem ls_S (C : CallFix p m c cc maxL s args mm_good own) (hM : Met l y (Cond.code y bytes mL ret :: mm_good) rm (ls_P X As LP Φ) (ls_Q Rl) mc ms free) (k : Cond.methodLink own idx y ∈ mm_good ∧ Cond.static y ∈ mm_good ∧ Cond.initialized y.cls ∈ mm_good ∧ Cond.code y bytes mL ret ∈ mm_good)
    (hd : y.cls ≠ "java/lang/invoke/MethodHandle" ∧ y.cls ≠ "java/lang/invoke/VarHandle" ∧ (parseMethodDescriptor y.desc).map (fun d => d.parameters.length) = some As.length) (hrm : rm.cells = mc ∧ rm.slots = ms) (hR : rm.frames + 1 ≤ R.frames ∧ 8 + (mL + 11) + rm.locals ≤ R.locals)
    (hG : mm_G X s) (hb : ∀ q, q < X.2.2.2.size → H[q]? = X.2.2.2[q]?) (hA : ∀ z, LP z → va_Any ls_O s H z) (hP : Φ H) (hls : ls.size = maxL) (hst : st = As.reverse ++ rest) (hW : (rest.map fun v => v.category).sum ≤ 8) (hdg : decode cc pc = .ok (.invokestatic idx, 3)) (hf : cells + mc ≤ R.cells ∧ slots + ms ≤ R.slots)
    (kk : ∀ (v : Option Value) (H' : Heap) (L : List Loc), (∀ q ∈ L, free q.base) → Rl v H H' → W p l e R s m args below meth c H' (locs ++ L) (cells + mc) (slots + ms) Q (F0 m (pc + 3) ls (v.toList ++ rest))) : W p l e R s m args below meth c H locs cells slots Q (F0 m pc ls st) :=
  ls_call (va_runS C hM ⟨ls_callB As.length C.2.2.2.2 hrm k.2.2.2 k.1 k.2.2.1 hd hR, C.2.2.2.2 _ k.2.1⟩ ⟨ls_P.blind, fun U hU hW => ⟨rfl, hG.warm hW, by rw [hU]; exact hb, fun y hy => by rw [hU]; exact ls_any hW.alike (hA y hy), by rw [hU]; exact hP⟩⟩ rfl rfl hls hst (by show 2 * 0 + _ ≤ 8; omega) hdg hf) kk
/-- an instance's method is called on a list -/
theorem ls_V (C : CallFix p m c cc maxL s args mm_good own) {a : Nat} (hM : Met l y (Cond.code y bytes mL ret :: mm_good) rm (ls_P X (.ref a :: As) LP Φ) (ls_Q Rl) mc ms free) (k : Cond.methodLink own idx y ∈ mm_good ∧ Cond.instanceMethod y ∈ mm_good ∧ Cond.selects RJx4a65c y y ∈ mm_good ∧ Cond.code y bytes mL ret ∈ mm_good) (hy : y.cls = RJx4a65c)
    (hd : y.cls ≠ "java/lang/invoke/MethodHandle" ∧ y.cls ≠ "java/lang/invoke/VarHandle" ∧ (parseMethodDescriptor y.desc).map (fun d => d.parameters.length) = some As.length) (hrm : rm.cells = mc ∧ rm.slots = ms) (hR : rm.frames + 1 ≤ R.frames ∧ 8 + (mL + 11) + rm.locals ≤ R.locals)
    (hG : mm_G X s) (hb : ∀ q, q < X.2.2.2.size → H[q]? = X.2.2.2[q]?) (hA : ∀ z, LP z → va_Any ls_O s H z) {ws : va_W} (hws : va_P X.1 mm_cls ws H) {q0 : Nat} {fs : List Value} (h0 : ws[q0]? = some (a, .inr (8, fs))) (hP : Φ H) (hls : ls.size = maxL) (hst : st = As.reverse ++ .ref a :: rest) (hW : (rest.map fun v => v.category).sum ≤ 8) (hdg : decode cc pc = .ok (.invokevirtual idx, 3)) (hf : cells + mc ≤ R.cells ∧ slots + ms ≤ R.slots)
    (kk : ∀ (v : Option Value) (H' : Heap) (L : List Loc), (∀ q ∈ L, free q.base) → Rl v H H' → W p l e R s m args below meth c H' (locs ++ L) (cells + mc) (slots + ms) Q (F0 m (pc + 3) ls (v.toList ++ rest))) : W p l e R s m args below meth c H locs cells slots Q (F0 m pc ls st) := by
  obtain ⟨r, hr, cell, q1, q2, q3, q4⟩ := hws q0 _ h0
  cases hr
  exact ls_call (va_runV (C := RJx4a65c) C hM ⟨ls_callB As.length C.2.2.2.2 hrm k.2.2.2 k.1 (by rw [hy]; exact lk_iJ4) hd hR, C.2.2.2.2 _ k.2.1, C.2.2.2.2 _ k.2.2.1⟩ ⟨ls_P.blind, ⟨cell, q1, by rw [q3]; rfl, by rw [q2]; exact (hG.1 8 _ rfl).2.1⟩, fun U hU hW => ⟨rfl, hG.warm hW, by rw [hU]; exact hb, fun y hy => by rw [hU]; exact ls_any hW.alike (hA y hy), by rw [hU]; exact hP⟩⟩ rfl rfl hls hst (by show 2 * 0 + _ ≤ 8; omega) hdg hf) kk
end
/-- size() -/
theorem ls_size {X : mm_X} {l : Launch} {LP : Nat → Prop} {a : Nat} {v0 v1 : Value} {n : Int32} {free : Addr → Prop} : Met l yJx4a65c_size_8abf5 (Cond.code yJx4a65c_size_8abf5 cJx4a65c_size_8abf5 1 (some .int) :: mm_good) { frames := 0, cells := 0, slots := 0, locals := 0 } (ls_P X [.ref a] LP (va_P X.1 mm_cls [(a, .inr (8, [v0, v1, .int n]))])) (ls_Q fun v H H' => v = some (.int n) ∧ H' = H) 0 0 free := by
  refine ls_met (by decide +kernel) (Nat.le_of_ble_eq_true rfl) fun p e s m below meth c ls C hm hG hb hA hP hl => ?_
  refine lv_aload_n C.1 C.2.1 dJx4a65c_size_8abf5_0 rfl (lv_at hl 0 rfl) ?_
  refine ls_gsize C hG hP 0 rfl dJx4a65c_size_8abf5_1 ?_
  exact W.zret C.1 C.2.1 hm.1 rfl (fun t ht hW => ⟨hW.alike, _, rfl, rfl, ht⟩) (fun q hq => by cases hq) dJx4a65c_size_8abf5_4 hm.2.1
theorem lk_cI : Cond.methodLink RJ15 105 yJ3_checkIndex_8e157 ∈ mm_good ∧ Cond.static yJ3_checkIndex_8e157 ∈ mm_good ∧ Cond.initialized RJ3 ∈ mm_good ∧ Cond.code yJ3_checkIndex_8e157 cJ3_checkIndex_8e157 3 (some .int) ∈ mm_good := ⟨ls_in 244 (by decide +kernel), ls_in 245 (by decide +kernel), ls_in 51 (by decide +kernel), ls_in 246 (by decide +kernel)⟩
theorem lk_cO : Cond.methodLink RJx4a65c 118 yJ15_checkIndex_7cf53 ∈ mm_good ∧ Cond.static yJ15_checkIndex_7cf53 ∈ mm_good ∧ Cond.initialized RJ15 ∈ mm_good ∧ Cond.code yJ15_checkIndex_7cf53 cJ15_checkIndex_7cf53 2 (some .int) ∈ mm_good := ⟨ls_in 241 (by decide +kernel), ls_in 242 (by decide +kernel), ls_in 50 (by decide +kernel), ls_in 243 (by decide +kernel)⟩
theorem lk_eD : Cond.methodLink RJx4a65c 123 yJx4a65c_elementData_915e3 ∈ mm_good ∧ Cond.instanceMethod yJx4a65c_elementData_915e3 ∈ mm_good ∧ Cond.selects RJx4a65c yJx4a65c_elementData_915e3 yJx4a65c_elementData_915e3 ∈ mm_good ∧ Cond.code yJx4a65c_elementData_915e3 cJx4a65c_elementData_915e3 2 (some (.object "java/lang/Object")) ∈ mm_good := ⟨ls_in 247 (by decide +kernel), ls_in 248 (by decide +kernel), ls_in 249 (by decide +kernel), ls_in 250 (by decide +kernel)⟩
/-- an index that is within -/
def ls_ix (i n : Int32) : Prop := ¬ i < 0 ∧ i < n
theorem ls_check3 {X : mm_X} {l : Launch} {LP : Nat → Prop} {Φ : Heap → Prop} {i n : Int32} {free : Addr → Prop} (hi : ls_ix i n) : Met l yJ3_checkIndex_8e157 (Cond.code yJ3_checkIndex_8e157 cJ3_checkIndex_8e157 3 (some .int) :: mm_good) { frames := 0, cells := 0, slots := 0, locals := 0 } (ls_P X [.int i, .int n, .null] LP Φ) (ls_Q fun v H H' => v = some (.int i) ∧ H' = H) 0 0 free := by
  refine ls_met (by decide +kernel) (Nat.le_of_ble_eq_true rfl) fun p e s m below meth c ls C hm hG hb hA hP hl => ?_
  refine lv_iload_n C.1 C.2.1 dJ3_checkIndex_8e157_0 rfl (lv_at hl 0 rfl) ?_
  refine lv_if_lt C.1 C.2.1 dJ3_checkIndex_8e157_1 (tgt := 9) rfl (fun q => absurd q hi.1) fun _ => ?_
  refine lv_iload_n C.1 C.2.1 dJ3_checkIndex_8e157_4 rfl (lv_at hl 0 rfl) ?_
  refine lv_iload_n C.1 C.2.1 dJ3_checkIndex_8e157_5 rfl (lv_at hl 1 rfl) ?_
  refine lv_icmp_lt C.1 C.2.1 dJ3_checkIndex_8e157_6 (tgt := 16) rfl (fun _ => ?_) fun q => absurd hi.2 q
  refine lv_iload_n C.1 C.2.1 dJ3_checkIndex_8e157_16 rfl (lv_at hl 0 rfl) ?_
  exact W.zret C.1 C.2.1 hm.1 rfl (fun t ht hW => ⟨hW.alike, _, rfl, rfl, ht⟩) (fun q hq => by cases hq) dJ3_checkIndex_8e157_17 hm.2.1
theorem ls_checkO {X : mm_X} {l : Launch} {LP : Nat → Prop} {Φ : Heap → Prop} {i n : Int32} {free : Addr → Prop} (hi : ls_ix i n) : Met l yJ15_checkIndex_7cf53 (Cond.code yJ15_checkIndex_7cf53 cJ15_checkIndex_7cf53 2 (some .int) :: mm_good) { frames := 1, cells := 0, slots := 0, locals := 30 } (ls_P X [.int i, .int n] LP Φ) (ls_Q fun v H H' => v = some (.int i) ∧ H' = H) 0 0 free := by
  refine ls_met (by decide +kernel) (Nat.le_of_ble_eq_true rfl) fun p e s m below meth c ls C hm hG hb hA hP hl => ?_
  refine lv_iload_n C.1 C.2.1 dJ15_checkIndex_7cf53_0 rfl (lv_at hl 0 rfl) ?_
  refine lv_iload_n C.1 C.2.1 dJ15_checkIndex_7cf53_1 rfl (lv_at hl 1 rfl) ?_
  refine lv_null C.1 C.2.1 dJ15_checkIndex_7cf53_2 ?_
  refine ls_S C (ls_check3 (free := free) hi) lk_cI ⟨by decide +kernel, by decide +kernel, by rw [show List.length _ = 3 from rfl]; decide +kernel⟩ ⟨rfl, rfl⟩ (by decide) hG hb hA hP hl.1 (rest := []) rfl (Nat.zero_le _) dJ15_checkIndex_7cf53_3 ⟨Nat.le_refl _, Nat.le_refl _⟩ fun v H' L hL hv => ?_
  obtain ⟨rfl, rfl⟩ := hv
  exact W.zret C.1 C.2.1 hm.1 rfl (fun t ht hW => ⟨hW.alike, _, rfl, rfl, ht⟩) (fun q hq => hL q (by simpa using hq)) dJ15_checkIndex_7cf53_6 hm.2.1
/-- elementData(i) -/
theorem ls_elemAt {X : mm_X} {l : Launch} {LP : Nat → Prop} {a e0 cap y : Nat} {v0 v2 : Value} {g : Nat → Option Nat} {i : Int32} {free : Addr → Prop} (hi : vp_in i cap) (hy : g i.toNatClampNeg = some y) : Met l yJx4a65c_elementData_915e3 (Cond.code yJx4a65c_elementData_915e3 cJx4a65c_elementData_915e3 2 (some (.object "java/lang/Object")) :: mm_good) { frames := 0, cells := 0, slots := 0, locals := 0 } (ls_P X [.ref a, .int i] LP (va_P X.1 mm_cls [(a, .inr (8, [v0, .ref e0, v2])), (e0, .inl (X.2.1.2.2.2, cap, .inr (.inr (.inr (.inr g)))))])) (ls_Q fun v H H' => v = some (.ref y) ∧ H' = H) 0 0 free := by
  refine ls_met (by decide +kernel) (Nat.le_of_ble_eq_true rfl) fun p e s m below meth c ls C hm hG hb hA hP hl => ?_
  refine lv_aload_n C.1 C.2.1 dJx4a65c_elementData_915e3_0 rfl (lv_at hl 0 rfl) ?_
  refine ls_gelem C hG hP 0 rfl dJx4a65c_elementData_915e3_1 ?_
  refine lv_iload_n C.1 C.2.1 dJx4a65c_elementData_915e3_4 rfl (lv_at hl 1 rfl) ?_
  refine va_aldq C.1 C.2.1 (ls_K hG) hP 1 0 rfl rfl hi dJx4a65c_elementData_915e3_5 ?_
  rw [hy]
  exact W.aret C.1 C.2.1 hm.1 (Or.inl ⟨_, rfl⟩) (Or.inr ⟨_, rfl⟩) (fun t ht hW => ⟨hW.alike, _, rfl, rfl, ht⟩) (fun q hq => by cases hq) dJx4a65c_elementData_915e3_6 hm.2.1
/-- get(i) -/
theorem ls_get {X : mm_X} {l : Launch} {LP : Nat → Prop} {a e0 cap y : Nat} {v0 : Value} {n : Int32} {g : Nat → Option Nat} {i : Int32} {free : Addr → Prop} (hx : ls_ix i n) (hi : vp_in i cap) (hy : g i.toNatClampNeg = some y) : Met l yJx4a65c_get_915e3 (Cond.code yJx4a65c_get_915e3 cJx4a65c_get_915e3 2 (some (.object "java/lang/Object")) :: mm_good) { frames := 3, cells := 0, slots := 0, locals := 90 } (ls_P X [.ref a, .int i] LP (va_P X.1 mm_cls [(a, .inr (8, [v0, .ref e0, .int n])), (e0, .inl (X.2.1.2.2.2, cap, .inr (.inr (.inr (.inr g)))))])) (ls_Q fun v H H' => v = some (.ref y) ∧ H' = H) 0 0 free := by
  refine ls_met (by decide +kernel) (Nat.le_of_ble_eq_true rfl) fun p e s m below meth c ls C hm hG hb hA hP hl => ?_
  refine lv_iload_n C.1 C.2.1 dJx4a65c_get_915e3_0 rfl (lv_at hl 1 rfl) ?_
  refine lv_aload_n C.1 C.2.1 dJx4a65c_get_915e3_1 rfl (lv_at hl 0 rfl) ?_
  refine ls_gsize C hG hP 0 rfl dJx4a65c_get_915e3_2 ?_
  refine ls_S C (ls_checkO (free := free) hx) lk_cO ⟨by decide +kernel, by decide +kernel, by rw [show List.length _ = 2 from rfl]; decide +kernel⟩ ⟨rfl, rfl⟩ (by decide) hG hb hA hP hl.1 (rest := []) rfl (Nat.zero_le _) dJx4a65c_get_915e3_5 ⟨Nat.le_refl _, Nat.le_refl _⟩ fun v H' L hL hv => ?_
  obtain ⟨rfl, rfl⟩ := hv
  refine lv_pop C.1 C.2.1 dJx4a65c_get_915e3_8 rfl ?_
  refine lv_aload_n C.1 C.2.1 dJx4a65c_get_915e3_9 rfl (lv_at hl 0 rfl) ?_
  refine lv_iload_n C.1 C.2.1 dJx4a65c_get_915e3_10 rfl (lv_at hl 1 rfl) ?_
  refine ls_V C (As := [.int i]) (ls_elemAt (free := free) hi hy) lk_eD rfl ⟨by decide +kernel, by decide +kernel, by rw [show List.length _ = 1 from rfl]; decide +kernel⟩ ⟨rfl, rfl⟩ (by decide) hG hb hA hP (q0 := 0) rfl hP hl.1 (rest := []) rfl (Nat.zero_le _) dJx4a65c_get_915e3_11 ⟨Nat.le_refl _, Nat.le_refl _⟩ fun v H' L2 hL2 hv => ?_
  obtain ⟨rfl, rfl⟩ := hv
  exact W.aret C.1 C.2.1 hm.1 (Or.inl ⟨_, rfl⟩) (Or.inr ⟨_, rfl⟩) (fun t ht hW => ⟨hW.alike, _, rfl, rfl, ht⟩) (fun q hq => by
    rcases List.mem_append.mp hq with hq | hq
    · exact hL q (by simpa using hq)
    · exact hL2 q hq) dJx4a65c_get_915e3_14 hm.2.1
theorem lk_max : Cond.methodLink RJ8 194 Lib.Math.max.name ∈ mm_good ∧ Cond.constant RJ8 200 2147483639 ∈ mm_good := ⟨ls_in 557 (by decide +kernel), ls_in 558 (by decide +kernel)⟩
theorem lk_nL : Cond.methodLink RJx4a65c 73 yJ8_newLength_cabcc ∈ mm_good ∧ Cond.static yJ8_newLength_cabcc ∈ mm_good ∧ Cond.initialized RJ8 ∈ mm_good ∧ Cond.code yJ8_newLength_cabcc cJ8_newLength_cabcc 4 (some .int) ∈ mm_good := ⟨ls_in 554 (by decide +kernel), ls_in 555 (by decide +kernel), ls_in 52 (by decide +kernel), ls_in 556 (by decide +kernel)⟩
/-- how long the next array is -/
theorem ls_newLen {X : mm_X} {l : Launch} {LP : Nat → Prop} {Φ : Heap → Prop} {o i g n : Int32} {free : Addr → Prop} (hn : o + (if i < g then g else i) = n) (h1 : ¬ n ≤ 0) (h2 : ¬ 2147483639 < n) : Met l yJ8_newLength_cabcc (Cond.code yJ8_newLength_cabcc cJ8_newLength_cabcc 4 (some .int) :: mm_good) { frames := 1, cells := 0, slots := 0, locals := 20 } (ls_P X [.int o, .int i, .int g] LP Φ) (ls_Q fun v H H' => v = some (.int n) ∧ H' = H) 0 0 free := by
  refine ls_met (by decide +kernel) (Nat.le_of_ble_eq_true rfl) fun p e s m below meth c ls C hm hG hb hA hP hl => ?_
  refine lv_iload_n C.1 C.2.1 dJ8_newLength_cabcc_0 rfl (lv_at hl 0 rfl) ?_
  refine lv_iload_n C.1 C.2.1 dJ8_newLength_cabcc_1 rfl (lv_at hl 1 rfl) ?_
  refine lv_iload_n C.1 C.2.1 dJ8_newLength_cabcc_2 rfl (lv_at hl 2 rfl) ?_
  refine va_mmax C.1 C.2.1 (by rw [C.2.2.1, hl.1]) C.2.2.2.1 (C.2.2.2.2 _ lk_max.1) (C.2.2.2.2 _ (mm_pws_in (by simp [mm_pws]))) (C.2.2.2.2 _ (mm_pws_in (by simp [mm_pws]))) (C.2.2.2.2 _ (mm_pws_in (by simp [mm_pws]))) (Nat.le_refl _) (Nat.le_of_ble_eq_true rfl) (Nat.zero_le _) (Nat.zero_le _) dJ8_newLength_cabcc_3 ?_
  refine lv_iadd C.1 C.2.1 dJ8_newLength_cabcc_6 ?_
  rw [hn]
  refine lv_istore_n C.1 C.2.1 dJ8_newLength_cabcc_7 rfl hl (by decide) rfl fun ls1 hl1 => ?_
  refine lv_iconst C.1 C.2.1 dJ8_newLength_cabcc_8 (v := 0) rfl ?_
  refine lv_iload_n C.1 C.2.1 dJ8_newLength_cabcc_9 rfl (lv_at hl1 0 rfl) ?_
  refine lv_icmp_ge C.1 C.2.1 dJ8_newLength_cabcc_10 (tgt := 21) rfl (fun q => absurd q h1) fun _ => ?_
  refine lv_iload_n C.1 C.2.1 dJ8_newLength_cabcc_13 rfl (lv_at hl1 0 rfl) ?_
  refine lv_ldc C.1 C.2.1 C.2.2.2.1 (C.2.2.2.2 _ lk_max.2) dJ8_newLength_cabcc_14 ?_
  refine lv_icmp_gt C.1 C.2.1 dJ8_newLength_cabcc_16 (tgt := 21) rfl (fun q => absurd q h2) fun _ => ?_
  refine lv_iload_n C.1 C.2.1 dJ8_newLength_cabcc_19 rfl (lv_at hl1 0 rfl) ?_
  exact W.zret C.1 C.2.1 hm.1 rfl (fun t ht hW => ⟨hW.alike, _, rfl, rfl, ht⟩) (fun q hq => by cases hq) dJ8_newLength_cabcc_20 hm.2.1
theorem ls_metK {X : mm_X} {l : Launch} {y : MethodName} {cc : ByteArray} {maxL : Nat} {ret : Option FieldType} {As : List Value} {LP : Nat → Prop} {Φ : Heap → Prop} {K : State → Prop} {Qc : Array Value → State → Outcome → State → Prop} {rm : Room} {mc ms : Nat} {free : Addr → Prop}
    (hy : plainName y.cls = true) (hl : (lg_sl As).length ≤ maxL)
    (body : ∀ (p : Program) (e : Env) (s : State) (m : MethodId) (below : List Frame) (meth : Method) (c : Code) (mls : Array Slot), K s → CallFix p m c cc maxL s As.toArray mm_good y.cls → meth.sig.returnType = ret ∧ meth.locks = false ∧ meth.name = y.name → mm_G X s → (∀ q, q < X.2.2.2.size → s.heap[q]? = X.2.2.2[q]?) → (∀ z, LP z → va_Any ls_O s s.heap z) → Φ s.heap → lv_has mls maxL (lv_args 0 As) →
      W p l e rm s m As.toArray below meth c s.heap [] 0 0 (MQ below Qc As.toArray s mc ms free) (F0 m 0 mls [])) : Met l y (Cond.code y cc maxL ret :: mm_good) rm (fun v U => ls_P X As LP Φ v U ∧ K U) Qc mc ms free := by
  refine Met.ofW (cc := cc) (maxL := maxL) (ret := ret) hy rfl ?_
  intro p e s m args below meth c s₁ B hml hP
  obtain ⟨⟨rfl, h2, h3, h4, h5⟩, hK⟩ := hP
  have hts := atoms_spec (ws := Cond.code y cc maxL ret :: mm_good) B.pre
  rw [lg_entry_eq]
  exact body p e s m below meth c _ hK ⟨B.exec, B.bytes, hml, findClass_of_methodNamed B.named, fun w hw => hts w (List.mem_cons_of_mem _ hw)⟩ ⟨B.returns, B.notSynchronized, (name_of_methodNamed B.named B.method).1⟩ h2 h3 h4 h5 (lv_entry As hl)
theorem ls_anyS {A : Nat → Prop} {s : State} {H0 H1 : Heap} {locs : List Loc} {y : Nat} (hS : va_S A H0 H1 locs) (hA : ¬ A y) (h : va_Any ls_O s H0 y) : va_Any ls_O s H1 y := by
  obtain ⟨cell, h1, h2⟩ := h
  exact ⟨cell, by rw [hS.2.1 y (Array.getElem?_eq_some_iff.mp h1).1 hA]; exact h1, h2⟩
theorem ls_D1 {A : Nat → Prop} {a : Nat} {x : va_E} (h : A a) : va_D A [(a, x)] := by
  constructor
  · intro i j p q hi hj _
    rcases i with _ | i
    · rcases j with _ | j
      · rfl
      · cases hj
    · cases hi
  · intro k q hk
    rcases k with _ | k
    · cases hk; exact h
    · cases hk
theorem ls_D2 {A : Nat → Prop} {a b : Nat} {x y : va_E} (h : A a) (h2 : A b) (hn : a ≠ b) : va_D A [(a, x), (b, y)] := by
  constructor
  · intro i j p q hi hj e
    rcases i with _ | _ | i
    · rcases j with _ | _ | j
      · rfl
      · cases hi; cases hj; exact absurd e hn
      · cases hj
    · rcases j with _ | _ | j
      · cases hi; cases hj; exact absurd e.symm hn
      · rfl
      · cases hj
    · cases hi
  · intro k q hk
    rcases k with _ | _ | k
    · cases hk; exact h
    · cases hk; exact h2
    · cases hk
/-- a made array's class is the known one -/
theorem ls_cA {X : mm_X} {s : State} (hG : mm_G X s) {cl : List vw_C} {D : va_G} {tys : List (ClassId × FieldType)} {cA : ClassId} (hK : va_K D cl (tys ++ [(cA, .object ls_O)]) s) : cA = X.2.1.2.2.2 := by
  have h1 := (hK.2 tys.length (cA, .object ls_O) (by simp)).2
  have h2 := hG.2.2.2.2.2.2.2.2.2.2.2.1.2
  exact Option.some.inj ((va_nmO h1 rfl).symm.trans (va_nmO h2 rfl))
abbrev ls_a (X : mm_X) (cap : Nat) (g : Nat → Option Nat) : va_E := .inl (X.2.1.2.2.2, cap, .inr (.inr (.inr (.inr g))))
abbrev ls_l (mc : Int32) (e : Nat) (n : Int32) : va_E := .inr (8, [.int mc, .ref e, .int n])
def ls_Rc (X : mm_X) (e0 cap : Nat) (g : Nat → Option Nat) (N' n0 : Nat) : Option Value → Heap → Heap → Prop := fun v H H' => ∃ q, v = some (.ref q) ∧ n0 ≤ q ∧ va_P X.1 mm_cls [(e0, ls_a X cap g), (q, ls_a X N' (va_cpy g (fun _ => none) 0 0 cap))] H' ∧ H.size ≤ H'.size ∧ ∀ x, x < n0 → x ≠ e0 → H'[x]? = H[x]?
theorem lk_c3 : Cond.classLink RJ7 110 "[Ljava/lang/Object;" ∈ mm_good ∧ Cond.classLink RJ7 2 "java/lang/Object" ∈ mm_good ∧ Cond.methodLink RJ7 304 Lib.Math.min.name ∈ mm_good ∧ Cond.methodLink RJ7 150 arraycopyName ∈ mm_good ∧ Cond.static arraycopyName ∈ mm_good ∧ Cond.native arraycopyName ∈ mm_good ∧ Cond.initialized "java/lang/System" ∈ mm_good :=
  ⟨ls_in 583 (by decide +kernel), ls_in 585 (by decide +kernel), ls_in 586 (by decide +kernel), ls_in 589 (by decide +kernel), ls_in 590 (by decide +kernel), ls_in 591 (by decide +kernel), ls_in 55 (by decide +kernel)⟩
theorem ls_copy3 {X : mm_X} {l : Launch} {LP : Nat → Prop} {n0 e0 cap mi N' : Nat} {g : Nat → Option Nat} (hN : N' ≤ 200000) (hcap : cap ≤ N') (hLP : ∀ i, i < cap → ∀ y, g i = some y → LP y) (hne : ∀ y, LP y → y ≠ e0 ∧ y < n0) :
    Met l yJ7_copyOf_6403c (Cond.code yJ7_copyOf_6403c cJ7_copyOf_6403c 4 (some (.array (.object "java/lang/Object"))) :: mm_good) { frames := 1, cells := 1, slots := N', locals := 40 } (fun v U => ls_P X [.ref e0, .int (nI N'), .ref mi] LP (fun H => va_P X.1 mm_cls [(e0, ls_a X cap g)] H ∧ n0 ≤ H.size) v U ∧ va_Mi "[Ljava/lang/Object;" mi U) (ls_Q (ls_Rc X e0 cap g N' n0)) 1 N' (fun q => q = e0 ∨ n0 ≤ q) := by
  refine ls_metK (by decide +kernel) (Nat.le_of_ble_eq_true rfl) fun p e s m below meth c ls hM C hm hG hb hA hP hl => ?_
  obtain ⟨hP, hn0⟩ := hP
  have hD : va_D (fun q => q = e0 ∨ n0 ≤ q) [(e0, ls_a X cap g)] := ls_D1 (Or.inl rfl)
  refine lv_aload_n C.1 C.2.1 dJ7_copyOf_6403c_0 rfl (lv_at hl 2 rfl) ?_
  refine va_ldcM C.1 C.2.1 C.2.2.2.1 (C.2.2.2.2 _ lk_c3.1) hM dJ7_copyOf_6403c_1 ?_
  refine lv_acmp_ne C.1 C.2.1 (rx := some mi) (ry := some mi) dJ7_copyOf_6403c_3 (tgt := 13) rfl (fun q => absurd rfl q) fun _ => ?_
  refine lv_iload_n C.1 C.2.1 dJ7_copyOf_6403c_6 rfl (lv_at hl 1 rfl) ?_
  refine va_newq C.1 C.2.1 C.2.2.2.1 (C.2.2.2.2 _ lk_c3.2.1) hG.2.2.2.2.2.2.2.2.2.2.2.2.2.1 (ls_K hG) hP hD (va_S.rf (H0 := s.heap)) (fun q hq => Or.inr (by omega)) (N' := N') (nI_pos (by omega)) (nI_clamp (by omega)) (by omega) (Nat.le_refl _) (by show 0 + N' ≤ N'; omega) dJ7_copyOf_6403c_7 fun q cA H1 hK1 hP1 hD1 hS1 => ?_
  obtain rfl := ls_cA hG hK1
  refine lv_goto C.1 C.2.1 dJ7_copyOf_6403c_10 (tgt := 24) rfl ?_
  refine lv_astore_n C.1 C.2.1 dJ7_copyOf_6403c_24 rfl hl (by decide) rfl fun ls1 hl1 => ?_
  refine lv_aload_n C.1 C.2.1 dJ7_copyOf_6403c_25 rfl (lv_at hl1 1 rfl) ?_
  refine lv_iconst C.1 C.2.1 dJ7_copyOf_6403c_26 (v := 0) rfl ?_
  refine lv_aload_n C.1 C.2.1 dJ7_copyOf_6403c_27 rfl (lv_at hl1 0 rfl) ?_
  refine lv_iconst C.1 C.2.1 dJ7_copyOf_6403c_28 (v := 0) rfl ?_
  refine lv_aload_n C.1 C.2.1 dJ7_copyOf_6403c_29 rfl (lv_at hl1 1 rfl) ?_
  refine W.alen (n := nI cap) C.1 C.2.1 (hP1 0 _ rfl) ((ls_K hG).2 0 _ rfl |>.1 cap (fun j => va_rf (g j))) (by show Nat.toInt32 (arrV _ _ _).slots.size = _; rw [arrV_size]; rfl) rfl rfl dJ7_copyOf_6403c_30 ?_
  refine lv_iload_n C.1 C.2.1 dJ7_copyOf_6403c_31 rfl (lv_at hl1 2 rfl) ?_
  refine va_mmin C.1 C.2.1 (by rw [C.2.2.1, hl1.1]) C.2.2.2.1 (C.2.2.2.2 _ lk_c3.2.2.1) (C.2.2.2.2 _ (mm_pws_in (by simp [mm_pws]))) (C.2.2.2.2 _ (mm_pws_in (by simp [mm_pws]))) (C.2.2.2.2 _ (mm_pws_in (by simp [mm_pws]))) (Nat.le_refl _) (Nat.le_of_ble_eq_true rfl) (Nat.le_refl _) (by show 0 + N' ≤ N'; omega) dJ7_copyOf_6403c_32 ?_
  rw [if_neg (nI_nlt (by omega) (by omega))]
  have hc0 : (nI cap).toNatClampNeg = cap := nI_clamp (by omega)
  have hz0 : (0 : Int32).toNatClampNeg = 0 := by decide
  refine va_copyM C.1 C.2.1 (by rw [C.2.2.1, hl1.1]) C.2.2.2.1 (C.2.2.2.2 _ lk_c3.2.2.2.1) (C.2.2.2.2 _ lk_c3.2.2.2.2.2.1) (C.2.2.2.2 _ lk_c3.2.2.2.2.1) (C.2.2.2.2 _ lk_c3.2.2.2.2.2.2) (ls_K hG) hP1 hD1 hS1 0 1 0 0 rfl rfl rfl rfl (by decide) (by decide) (nI_pos (by omega)) (by rw [hc0, hz0]; omega) (by rw [hc0, hz0]; omega) (fun i hi y hy => by
    rw [hz0, Nat.zero_add] at hy
    rw [hc0] at hi
    have hy1 := hLP i hi y hy
    have hy2 := hne y hy1
    exact ls_anyS hS1 (fun z => z.elim hy2.1 (by omega)) (hA y hy1)) (Nat.le_refl _) (by show 0 + (nativeFrameWords "java/lang/System" "arraycopy" 5 + 11) ≤ 40; decide +kernel) dJ7_copyOf_6403c_35 fun H2 locs2 hP2 hD2 hS2 => ?_
  rw [hc0, hz0] at hP2 hD2
  refine lv_aload_n C.1 C.2.1 dJ7_copyOf_6403c_38 rfl (lv_at hl1 0 rfl) ?_
  refine W.widen (k := 1) (n := N') (Nat.le_of_ble_eq_true rfl) (by show 0 + N' ≤ N'; omega) (W.aret C.1 C.2.1 hm.1 (Or.inr ⟨_, rfl⟩) (Or.inr ⟨_, rfl⟩) (fun t ht hW => ⟨hW.alike, _, rfl, q, rfl, ?_, ?_, ?_, fun x hx hxe => ?_⟩) (fun q hq => hS2.2.2 q hq) dJ7_copyOf_6403c_39 hm.2.1)
  · rcases hD1.2 1 _ rfl with h | h
    · have := hD1.1 0 1 _ _ rfl rfl h.symm
      omega
    · exact h
  · rw [ht]; exact hP2
  · rw [ht]; exact hS2.1
  · rw [ht]; exact hS2.2.1 x (by omega) (fun z => z.elim hxe (by omega))
theorem lk_c2 : Cond.methodLink RJ7 86 ⟨"java/lang/Object", "getClass", "()Ljava/lang/Class;"⟩ ∈ mm_good ∧ Cond.instanceMethod ⟨"java/lang/Object", "getClass", "()Ljava/lang/Class;"⟩ ∈ mm_good ∧ Cond.selects "[Ljava/lang/Object;" ⟨"java/lang/Object", "getClass", "()Ljava/lang/Class;"⟩ ⟨"java/lang/Object", "getClass", "()Ljava/lang/Class;"⟩ ∈ mm_good ∧ Cond.native ⟨"java/lang/Object", "getClass", "()Ljava/lang/Class;"⟩ ∈ mm_good :=
  ⟨ls_in 565 (by decide +kernel), ls_in 566 (by decide +kernel), ls_in 934 (by decide +kernel), ls_in 579 (by decide +kernel)⟩
theorem lk_k3 : Cond.methodLink RJ7 300 yJ7_copyOf_6403c ∈ mm_good ∧ Cond.static yJ7_copyOf_6403c ∈ mm_good ∧ Cond.initialized RJ7 ∈ mm_good ∧ Cond.code yJ7_copyOf_6403c cJ7_copyOf_6403c 4 (some (.array (.object "java/lang/Object"))) ∈ mm_good := ⟨ls_in 580 (by decide +kernel), ls_in 581 (by decide +kernel), ls_in 54 (by decide +kernel), ls_in 582 (by decide +kernel)⟩
theorem lk_k2 : Cond.methodLink RJx4a65c 66 yJ7_copyOf_1904c ∈ mm_good ∧ Cond.static yJ7_copyOf_1904c ∈ mm_good ∧ Cond.initialized RJ7 ∈ mm_good ∧ Cond.code yJ7_copyOf_1904c cJ7_copyOf_1904c 2 (some (.array (.object "java/lang/Object"))) ∈ mm_good := ⟨ls_in 562 (by decide +kernel), ls_in 563 (by decide +kernel), ls_in 54 (by decide +kernel), ls_in 564 (by decide +kernel)⟩
theorem ls_copy2 {X : mm_X} {l : Launch} {LP : Nat → Prop} {n0 e0 cap N' : Nat} {g : Nat → Option Nat} (hN : N' ≤ 200000) (hcap : cap ≤ N') (hLP : ∀ i, i < cap → ∀ y, g i = some y → LP y) (hne : ∀ y, LP y → y ≠ e0 ∧ y < n0) :
    Met l yJ7_copyOf_1904c (Cond.code yJ7_copyOf_1904c cJ7_copyOf_1904c 2 (some (.array (.object "java/lang/Object"))) :: mm_good) { frames := 2, cells := 1, slots := N', locals := 70 } (ls_P X [.ref e0, .int (nI N')] LP (fun H => va_P X.1 mm_cls [(e0, ls_a X cap g)] H ∧ n0 ≤ H.size)) (ls_Q (ls_Rc X e0 cap g N' n0)) 1 N' (fun q => q = e0 ∨ n0 ≤ q) := by
  refine ls_met (by decide +kernel) (Nat.le_of_ble_eq_true rfl) fun p e s m below meth c ls C hm hG hb hA hP hl => ?_
  obtain ⟨mi, hM⟩ := hG.2.2.2.2.2.2.2.2.2.2.2.2.2.2.1
  refine lv_aload_n C.1 C.2.1 dJ7_copyOf_1904c_0 rfl (lv_at hl 0 rfl) ?_
  refine lv_iload_n C.1 C.2.1 dJ7_copyOf_1904c_1 rfl (lv_at hl 1 rfl) ?_
  refine lv_aload_n C.1 C.2.1 dJ7_copyOf_1904c_2 rfl (lv_at hl 0 rfl) ?_
  refine va_getC (C := "[Ljava/lang/Object;") C.1 C.2.1 (by rw [C.2.2.1, hl.1]) C.2.2.2.1 (C.2.2.2.2 _ lk_c2.1) (va_Dc.use hG.2.2.2.2.2.2.2.2.2.2.2.2.2.2.2.1) (C.2.2.2.2 _ lk_c2.2.2.1) (C.2.2.2.2 _ lk_c2.2.1) (C.2.2.2.2 _ lk_c2.2.2.2) hM ⟨_, hP.1 0 _ rfl, rfl, va_nmO hG.2.2.2.2.2.2.2.2.2.2.2.1.2 rfl⟩ (Nat.le_of_ble_eq_true rfl) (Nat.le_of_ble_eq_true rfl) dJ7_copyOf_1904c_3 ?_
  refine ls_call (va_runS (rest := []) C (ls_copy3 (X := X) (mi := mi) hN hcap hLP hne) ⟨ls_callB 3 C.2.2.2.2 ⟨rfl, rfl⟩ lk_k3.2.2.2 lk_k3.1 lk_k3.2.2.1 (by decide +kernel) (by constructor <;> exact Nat.le_of_ble_eq_true rfl), C.2.2.2.2 _ lk_k3.2.1⟩ ⟨fun a U g mk h => ⟨ls_P.blind a U g mk h.1, h.2⟩, fun U hU hW => ⟨⟨rfl, hG.warm hW, by rw [hU]; exact hb, fun y hy => by rw [hU]; exact ls_any hW.alike (hA y hy), by rw [hU]; exact hP⟩, hM.moved hW.alike⟩⟩ rfl rfl hl.1 rfl (Nat.le_of_ble_eq_true rfl) dJ7_copyOf_1904c_6 ⟨Nat.le_refl _, by show 0 + N' ≤ N'; omega⟩) fun v H' L hL hv => ?_
  obtain ⟨q, rfl, hv⟩ := hv
  refine W.widen (k := 1) (n := N') (Nat.le_of_ble_eq_true rfl) (by show 0 + N' ≤ N'; omega) (W.aret C.1 C.2.1 hm.1 (Or.inr ⟨_, rfl⟩) (Or.inr ⟨_, rfl⟩) (fun t ht hW => ⟨hW.alike, _, rfl, q, rfl, by rw [ht]; exact hv⟩) (fun q hq => hL q (by simpa using hq)) dJ7_copyOf_1904c_9 hm.2.1)
theorem ls_Sl {A : Nat → Prop} {H0 H : Heap} {locs L : List Loc} (h : va_S A H0 H locs) (hL : ∀ q ∈ L, A q.base) : va_S A H0 H (locs ++ L) := ⟨h.1, h.2.1, fun q hq => (List.mem_append.mp hq).elim (h.2.2 q) (hL q)⟩
/-- behind grow -/
def ls_Rg (X : mm_X) (a e0 : Nat) (mc n : Int32) (N' : Nat) (g' : Nat → Option Nat) (n0 : Nat) : Option Value → Heap → Heap → Prop := fun v H H' => ∃ q, v = some (.ref q) ∧ n0 ≤ q ∧ va_P X.1 mm_cls [(a, ls_l mc q n), (q, ls_a X N' g')] H' ∧ H.size ≤ H'.size ∧ ∀ x, x < n0 → x ≠ a → x ≠ e0 → H'[x]? = H[x]?
abbrev ls_cp (g : Nat → Option Nat) (cap : Nat) : Nat → Option Nat := va_cpy g (fun _ => none) 0 0 cap
theorem ls_grow2 {X : mm_X} {l : Launch} {LP : Nat → Prop} {n0 a e0 cap : Nat} {mc n : Int32} {g : Nat → Option Nat} (h10 : 10 ≤ cap) (hcap : cap ≤ 60000) (hLP : ∀ i, i < cap → ∀ y, g i = some y → LP y) (hne : ∀ y, LP y → y ≠ e0 ∧ y < n0) (hae : a ≠ e0) (ha : a < n0) (hbase : X.2.2.2.size ≤ a ∧ X.2.2.2.size ≤ e0 ∧ X.2.2.2.size ≤ n0) :
    Met l yJx4a65c_grow_92f84 (Cond.code yJx4a65c_grow_92f84 cJx4a65c_grow_92f84 4 (some (.array (.object "java/lang/Object"))) :: mm_good) { frames := 3, cells := 1, slots := cap + cap / 2, locals := 100 } (ls_P X [.ref a, .int (nI (cap + 1))] LP (fun H => va_P X.1 mm_cls [(a, ls_l mc e0 n), (e0, ls_a X cap g)] H ∧ n0 ≤ H.size)) (ls_Q (ls_Rg X a e0 mc n (cap + cap / 2) (ls_cp g cap) n0)) 1 (cap + cap / 2) (fun q => q = a ∨ q = e0 ∨ n0 ≤ q) := by
  refine ls_met (by decide +kernel) (Nat.le_of_ble_eq_true rfl) fun p e s m below meth c ls C hm hG hb hA hP hl => ?_
  obtain ⟨hP, hn0⟩ := hP
  have hD : va_D (fun q => q = a ∨ q = e0 ∨ n0 ≤ q) [(a, ls_l mc e0 n), (e0, ls_a X cap g)] := ls_D2 (Or.inl rfl) (Or.inr (Or.inl rfl)) hae
  refine lv_aload_n C.1 C.2.1 dJx4a65c_grow_92f84_0 rfl (lv_at hl 0 rfl) ?_
  refine ls_gelem C hG hP 0 rfl dJx4a65c_grow_92f84_1 ?_
  refine W.alen (n := nI cap) C.1 C.2.1 (hP 1 _ rfl) ((ls_K hG).2 0 _ rfl |>.1 cap (fun j => va_rf (g j))) (by show Nat.toInt32 (arrV _ _ _).slots.size = _; rw [arrV_size]; rfl) rfl rfl dJx4a65c_grow_92f84_4 ?_
  refine lv_istore_n C.1 C.2.1 dJx4a65c_grow_92f84_5 rfl hl (by decide) rfl fun ls1 hl1 => ?_
  refine lv_iload_n C.1 C.2.1 dJx4a65c_grow_92f84_6 rfl (lv_at hl1 0 rfl) ?_
  refine lv_if_gt C.1 C.2.1 dJx4a65c_grow_92f84_7 (tgt := 20) rfl (fun _ => ?_) fun q => absurd (show nI 0 < nI cap from nI_lt (by omega) (by omega)) q
  refine lv_iload_n C.1 C.2.1 dJx4a65c_grow_92f84_20 rfl (lv_at hl1 0 rfl) ?_
  refine lv_iload_n C.1 C.2.1 dJx4a65c_grow_92f84_21 rfl (lv_at hl1 2 rfl) ?_
  refine lv_iload_n C.1 C.2.1 dJx4a65c_grow_92f84_22 rfl (lv_at hl1 0 rfl) ?_
  refine lv_isub C.1 C.2.1 dJx4a65c_grow_92f84_23 ?_
  refine lv_iload_n C.1 C.2.1 dJx4a65c_grow_92f84_24 rfl (lv_at hl1 0 rfl) ?_
  refine lv_iconst C.1 C.2.1 dJx4a65c_grow_92f84_25 (v := 1) rfl ?_
  refine lv_ishr C.1 C.2.1 dJx4a65c_grow_92f84_26 ?_
  have es : nI cap >>> ((1 : Int32) &&& 31) = nI (cap / 2) := by
    have k := pk_shrN (n := cap) (by omega) ((1 : Int32) &&& 31) 1 (by decide)
    rw [Nat.pow_one] at k
    exact k
  have ed : nI (cap + 1) - nI cap = nI 1 := by
    have k := pk_sub (a := cap + 1) (b := cap) (by omega)
    rw [Nat.add_sub_cancel_left] at k
    exact k
  rw [es, ed]
  have eN : nI cap + (if nI 1 < nI (cap / 2) then nI (cap / 2) else nI 1) = nI (cap + cap / 2) := by
    rw [if_pos (nI_lt (by omega) (by omega))]
    exact nI_add _ _
  refine ls_S C (ls_newLen (free := fun q => q = a ∨ q = e0 ∨ n0 ≤ q) (LP := LP) (Φ := fun _ => True) eN (nI_nle (by omega) (by omega)) (show ¬ nI 2147483639 < _ from nI_nlt (by omega) (by decide))) lk_nL ⟨by decide +kernel, by decide +kernel, by rw [show List.length _ = 3 from rfl]; decide +kernel⟩ ⟨rfl, rfl⟩ (by constructor <;> exact Nat.le_of_ble_eq_true rfl) hG hb hA trivial hl1.1 (rest := []) rfl (Nat.zero_le _) dJx4a65c_grow_92f84_27 ⟨Nat.zero_le _, Nat.zero_le _⟩ fun v H' L hL hv => ?_
  obtain ⟨rfl, rfl⟩ := hv
  refine lv_istore_n C.1 C.2.1 dJx4a65c_grow_92f84_30 rfl hl1 (by decide) rfl fun ls2 hl2 => ?_
  refine lv_aload_n C.1 C.2.1 dJx4a65c_grow_92f84_31 rfl (lv_at hl2 2 rfl) ?_
  refine lv_aload_n C.1 C.2.1 dJx4a65c_grow_92f84_32 rfl (lv_at hl2 2 rfl) ?_
  refine ls_gelem C hG hP 0 rfl dJx4a65c_grow_92f84_33 ?_
  refine lv_iload_n C.1 C.2.1 dJx4a65c_grow_92f84_36 rfl (lv_at hl2 0 rfl) ?_
  refine ls_S C (ls_copy2 (n0 := n0) (cap := cap) (N' := cap + cap / 2) (by omega) (by omega) hLP hne) lk_k2 ⟨by decide +kernel, by decide +kernel, by rw [show List.length _ = 2 from rfl]; decide +kernel⟩ ⟨rfl, rfl⟩ (by constructor <;> exact Nat.le_of_ble_eq_true rfl) hG hb hA ⟨hP.sub [1] rfl, hn0⟩ hl2.1 (rest := [.ref a]) rfl (Nat.le_of_ble_eq_true rfl) dJx4a65c_grow_92f84_37 ⟨Nat.le_refl _, by show 0 + 0 + (cap + cap / 2) ≤ cap + cap / 2; omega⟩ fun v H1 L1 hL1 hv => ?_
  obtain ⟨q, rfl, hq, hP1, hz1, hf1⟩ := hv
  have hPa : va_P X.1 mm_cls [(a, ls_l mc e0 n), (q, ls_a X (cap + cap / 2) (ls_cp g cap))] H1 := by
    intro k x hk
    rcases k with _ | _ | k
    · cases hk
      exact va_at.kept (hP 0 _ rfl) (hf1 a ha hae)
    · cases hk
      exact hP1 1 _ rfl
    · cases hk
  have hS1 : va_S (fun q => q = a ∨ q = e0 ∨ n0 ≤ q) s.heap H1 (([] ++ L) ++ L1) := by
    refine ⟨?_, fun x hx hxA => ?_, fun x hx => ?_⟩
    · exact hz1
    · exact hf1 x (Nat.lt_of_not_le fun z => hxA (Or.inr (Or.inr z))) (fun z => hxA (Or.inr (Or.inl z)))
    · rcases List.mem_append.mp hx with hx | hx
      · exact hL x (by simpa using hx)
      · exact Or.inr (hL1 x hx)
  refine lv_dup_x1 C.1 C.2.1 dJx4a65c_grow_92f84_40 rfl rfl ?_
  refine ls_pelem C hG hPa (ls_D2 (Or.inl rfl) (Or.inr (Or.inr hq)) (by omega)) hS1 0 rfl dJx4a65c_grow_92f84_41 fun H2 locs2 hP2 hD2 hS2 => ?_
  refine W.widen (k := 1) (n := cap + cap / 2) (Nat.le_of_ble_eq_true rfl) (by show 0 + 0 + (cap + cap / 2) ≤ cap + cap / 2; omega) (W.aret C.1 C.2.1 hm.1 (Or.inr ⟨_, rfl⟩) (Or.inr ⟨_, rfl⟩) (fun t ht hW => ⟨hW.alike, _, rfl, q, rfl, hq, by rw [ht]; exact hP2, by rw [ht]; exact hS2.1, fun x hx hxa hxe => by rw [ht]; exact hS2.2.1 x (by omega) (fun z => z.elim hxa fun z => z.elim hxe (by omega))⟩) (fun q hq => hS2.2.2 q hq) dJx4a65c_grow_92f84_44 hm.2.1)
theorem lk_def : Cond.fieldLink RJx4a65c 39 "java/util/ArrayList" "DEFAULTCAPACITY_EMPTY_ELEMENTDATA" "[Ljava/lang/Object;" ∈ mm_good ∧ Cond.methodLink RJx4a65c 79 Lib.Math.max.name ∈ mm_good ∧ Cond.classLink RJx4a65c 7 "java/lang/Object" ∈ mm_good := ⟨ls_in 82 (by decide +kernel), ls_in 592 (by decide +kernel), ls_in 593 (by decide +kernel)⟩
theorem ls_Z {X : mm_X} {s : State} {A : Nat → Prop} (hG : mm_G X s) (hb : ∀ q, q < X.2.2.2.size → s.heap[q]? = X.2.2.2[q]?) (hA : ∀ q, A q → X.2.2.2.size ≤ q) : va_Z RJx4a65c "DEFAULTCAPACITY_EMPTY_ELEMENTDATA" "[Ljava/lang/Object;" (.ref X.2.2.1.1) A s s.heap := by
  obtain ⟨cf, kf, fi, f, b, cell, h1, h2, h3, h4, h5, h6, h7, h8⟩ := hG.2.2.2.2.2.2.2.2.2.2.1
  exact ⟨cf, kf, fi, f, b, cell, h1, h2, h3, h4, by rw [hb b (Array.getElem?_eq_some_iff.mp h5).1]; exact h5, h6, h7, fun z => h8 (hA b z)⟩
/-- the first array -/
theorem ls_grow1 {X : mm_X} {l : Launch} {LP : Nat → Prop} {n0 a : Nat} {mc n : Int32} (ha : a < n0) (hbase : X.2.2.2.size ≤ a ∧ X.2.2.2.size ≤ n0) :
    Met l yJx4a65c_grow_92f84 (Cond.code yJx4a65c_grow_92f84 cJx4a65c_grow_92f84 4 (some (.array (.object "java/lang/Object"))) :: mm_good) { frames := 3, cells := 1, slots := 10, locals := 100 } (ls_P X [.ref a, .int 1] LP (fun H => va_P X.1 mm_cls [(a, ls_l mc X.2.2.1.1 n)] H ∧ n0 ≤ H.size)) (ls_Q (ls_Rg X a a mc n 10 (fun _ => none) n0)) 1 10 (fun q => q = a ∨ q = a ∨ n0 ≤ q) := by
  refine ls_met (by decide +kernel) (Nat.le_of_ble_eq_true rfl) fun p e s m below meth c ls C hm hG hb hA hP hl => ?_
  obtain ⟨hP, hn0⟩ := hP
  have hD : va_D (fun q => q = a ∨ q = a ∨ n0 ≤ q) [(a, ls_l mc X.2.2.1.1 n)] := ls_D1 (Or.inl rfl)
  obtain ⟨cell, he, hia, hz0⟩ := hG.2.2.2.2.2.2.2.2.2.2.2.2.1
  have hcell : s.heap[X.2.2.1.1]? = some cell := by rw [hb _ (Array.getElem?_eq_some_iff.mp he).1]; exact he
  refine lv_aload_n C.1 C.2.1 dJx4a65c_grow_92f84_0 rfl (lv_at hl 0 rfl) ?_
  refine ls_gelem C hG hP 0 rfl dJx4a65c_grow_92f84_1 ?_
  refine W.alen (n := 0) C.1 C.2.1 hcell hia (by rw [hz0]; rfl) rfl rfl dJx4a65c_grow_92f84_4 ?_
  refine lv_istore_n C.1 C.2.1 dJx4a65c_grow_92f84_5 rfl hl (by decide) rfl fun ls1 hl1 => ?_
  refine lv_iload_n C.1 C.2.1 dJx4a65c_grow_92f84_6 rfl (lv_at hl1 0 rfl) ?_
  refine lv_if_gt C.1 C.2.1 dJx4a65c_grow_92f84_7 (tgt := 20) rfl (fun q => absurd q (by decide)) fun _ => ?_
  refine lv_aload_n C.1 C.2.1 dJx4a65c_grow_92f84_10 rfl (lv_at hl1 1 rfl) ?_
  refine ls_gelem C hG hP 0 rfl dJx4a65c_grow_92f84_11 ?_
  refine va_gets C.1 C.2.1 (ls_Z (A := fun q => q = a ∨ q = a ∨ n0 ≤ q) hG hb (fun q z => by omega)) va_S.rf C.2.2.2.1 (C.2.2.2.2 _ lk_def.1) (fun _ q => q) dJx4a65c_grow_92f84_14 ?_
  refine lv_acmp_eq C.1 C.2.1 (rx := some X.2.2.1.1) (ry := some X.2.2.1.1) dJx4a65c_grow_92f84_17 (tgt := 45) rfl (fun _ => ?_) fun q => absurd rfl q
  refine lv_aload_n C.1 C.2.1 dJx4a65c_grow_92f84_45 rfl (lv_at hl1 1 rfl) ?_
  refine lv_bipush C.1 C.2.1 dJx4a65c_grow_92f84_46 (v := 10) rfl ?_
  refine lv_iload_n C.1 C.2.1 dJx4a65c_grow_92f84_48 rfl (lv_at hl1 2 rfl) ?_
  refine va_mmax C.1 C.2.1 (by rw [C.2.2.1, hl1.1]) C.2.2.2.1 (C.2.2.2.2 _ lk_def.2.1) (C.2.2.2.2 _ (mm_pws_in (by simp [mm_pws]))) (C.2.2.2.2 _ (mm_pws_in (by simp [mm_pws]))) (C.2.2.2.2 _ (mm_pws_in (by simp [mm_pws]))) (Nat.le_of_ble_eq_true rfl) (Nat.le_of_ble_eq_true rfl) (Nat.zero_le _) (Nat.zero_le _) dJx4a65c_grow_92f84_49 ?_
  rw [if_neg (by decide)]
  refine va_newq C.1 C.2.1 C.2.2.2.1 (C.2.2.2.2 _ lk_def.2.2) hG.2.2.2.2.2.2.2.2.2.2.2.2.2.1 (ls_K hG) hP hD (va_S.rf (H0 := s.heap)) (fun q hq => Or.inr (Or.inr (by omega))) (N' := 10) (by decide) (by decide) (by omega) (Nat.le_of_ble_eq_true rfl) (Nat.le_of_ble_eq_true rfl) dJx4a65c_grow_92f84_52 fun q cA H1 hK1 hP1 hD1 hS1 => ?_
  obtain rfl := ls_cA hG hK1
  have hq : n0 ≤ q := by
    rcases hD1.2 1 _ rfl with h | h | h
    · have := hD1.1 0 1 _ _ rfl rfl h.symm
      omega
    · have := hD1.1 0 1 _ _ rfl rfl h.symm
      omega
    · exact h
  refine lv_dup_x1 C.1 C.2.1 dJx4a65c_grow_92f84_55 rfl rfl ?_
  refine ls_pelem C hG hP1 hD1 hS1 0 rfl dJx4a65c_grow_92f84_56 fun H2 locs2 hP2 hD2 hS2 => ?_
  refine W.widen (k := 1) (n := 10) (Nat.le_of_ble_eq_true rfl) (Nat.le_of_ble_eq_true rfl) (W.aret C.1 C.2.1 hm.1 (Or.inr ⟨_, rfl⟩) (Or.inr ⟨_, rfl⟩) (fun t ht hW => ⟨hW.alike, _, rfl, q, rfl, hq, by rw [ht]; exact hP2, by rw [ht]; exact hS2.1, fun x hx hxa hxe => by rw [ht]; exact hS2.2.1 x (by omega) (fun z => by omega)⟩) (fun q hq => hS2.2.2 q hq) dJx4a65c_grow_92f84_59 hm.2.1)
theorem lk_g2 : Cond.methodLink RJx4a65c 69 yJx4a65c_grow_92f84 ∈ mm_good ∧ Cond.instanceMethod yJx4a65c_grow_92f84 ∈ mm_good ∧ Cond.selects RJx4a65c yJx4a65c_grow_92f84 yJx4a65c_grow_92f84 ∈ mm_good ∧ Cond.code yJx4a65c_grow_92f84 cJx4a65c_grow_92f84 4 (some (.array (.object "java/lang/Object"))) ∈ mm_good := ⟨ls_in 550 (by decide +kernel), ls_in 552 (by decide +kernel), ls_in 24 (by decide +kernel), ls_in 553 (by decide +kernel)⟩
theorem ls_grow0 {X : mm_X} {l : Launch} {LP : Nat → Prop} {a e0 N' : Nat} {mc n n1 : Int32} {Φ : Heap → Prop} {Rl : Option Value → Heap → Heap → Prop} {free : Addr → Prop} (h1 : n + 1 = n1) (hΦ : ∀ H, Φ H → va_P X.1 mm_cls [(a, ls_l mc e0 n)] H) (hR : ∀ v H H', Rl v H H' → ∃ q, v = some (.ref q))
    (hM : Met l yJx4a65c_grow_92f84 (Cond.code yJx4a65c_grow_92f84 cJx4a65c_grow_92f84 4 (some (.array (.object "java/lang/Object"))) :: mm_good) { frames := 3, cells := 1, slots := N', locals := 100 } (ls_P X [.ref a, .int n1] LP Φ) (ls_Q Rl) 1 N' free) :
    Met l yJx4a65c_grow_d5877 (Cond.code yJx4a65c_grow_d5877 cJx4a65c_grow_d5877 1 (some (.array (.object "java/lang/Object"))) :: mm_good) { frames := 4, cells := 1, slots := N', locals := 130 } (ls_P X [.ref a] LP Φ) (ls_Q Rl) 1 N' free := by
  subst h1
  refine ls_met (by decide +kernel) (Nat.le_of_ble_eq_true rfl) fun p e s m below meth c ls C hm hG hb hA hP hl => ?_
  refine lv_aload_n C.1 C.2.1 dJx4a65c_grow_d5877_0 rfl (lv_at hl 0 rfl) ?_
  refine lv_aload_n C.1 C.2.1 dJx4a65c_grow_d5877_1 rfl (lv_at hl 0 rfl) ?_
  refine ls_gsize C hG (hΦ _ hP) 0 rfl dJx4a65c_grow_d5877_2 ?_
  refine lv_iconst C.1 C.2.1 dJx4a65c_grow_d5877_5 (v := 1) rfl ?_
  refine lv_iadd C.1 C.2.1 dJx4a65c_grow_d5877_6 ?_
  refine ls_V C (As := [.int (n + 1)]) hM lk_g2 rfl ⟨by decide +kernel, by decide +kernel, by rw [show List.length _ = 1 from rfl]; decide +kernel⟩ ⟨rfl, rfl⟩ (by constructor <;> exact Nat.le_of_ble_eq_true rfl) hG hb hA (hΦ _ hP) (q0 := 0) rfl hP hl.1 (rest := []) rfl (Nat.zero_le _) dJx4a65c_grow_d5877_7 ⟨Nat.le_refl _, by show 0 + N' ≤ N'; omega⟩ fun v H' L hL hv => ?_
  obtain ⟨q, rfl⟩ := hR _ _ _ hv
  exact W.widen (k := 1) (n := N') (Nat.le_of_ble_eq_true rfl) (by show 0 + N' ≤ N'; omega) (W.aret C.1 C.2.1 hm.1 (Or.inr ⟨_, rfl⟩) (Or.inr ⟨_, rfl⟩) (fun t ht hW => ⟨hW.alike, _, rfl, by rw [ht]; exact hv⟩) (fun q hq => hL q (by simpa using hq)) dJx4a65c_grow_d5877_10 hm.2.1)
/-- the element is laid down -/
def ls_Rh (X : mm_X) (a e1 : Nat) (mc : Int32) (n N' : Nat) (g' : Nat → Option Nat) (n0 : Nat) (Dq : Nat → Prop) : Option Value → Heap → Heap → Prop := fun r H H' => r = none ∧ ∃ q, Dq q ∧ va_P X.1 mm_cls [(a, ls_l mc q (nI (n + 1))), (q, ls_a X N' g')] H' ∧ H.size ≤ H'.size ∧ ∀ x, x < n0 → x ≠ a → x ≠ e1 → H'[x]? = H[x]?
theorem ls_tail {X : mm_X} {p : Program} {l : Launch} {e : Env} {R : Room} {s : State} {m : MethodId} {args : Array Value} {below : List Frame} {meth : Method} {c : Code} {H : Heap} {locs : List Loc} {cells slots mc' ms' : Nat} {ls : Array Slot} {A : Nat → Prop} {free : Addr → Prop} {a q v n n0 N' e1 : Nat} {mc : Int32} {g' : Nat → Option Nat} {Dq : Nat → Prop}
    (C : CallFix p m c cJx4a65c_add_72be8 4 s args mm_good RJx4a65c) (hm : meth.sig.returnType = none ∧ meth.locks = false ∧ meth.name = yJx4a65c_add_72be8.name) (hG : mm_G X s) (l0 : ls[0]? = some (.val (.ref a))) (l1 : ls[1]? = some (.val (.ref v))) (l2 : ls[2]? = some (.val (.ref q))) (l3 : ls[3]? = some (.val (.int (nI n))))
    (hP : va_P X.1 mm_cls [(a, ls_l mc q (nI n)), (q, ls_a X N' g')] H) (hD : va_D A [(a, ls_l mc q (nI n)), (q, ls_a X N' g')]) (hS : va_S A s.heap H locs) (hv : va_Any ls_O s H v) (hn : n < N') (hN : N' ≤ 200000) (hq : Dq q) (hf : ∀ x, A x → free x) (hA : ∀ x, x < n0 → x ≠ a → x ≠ e1 → ¬ A x) (h0 : n0 ≤ s.heap.size) (hc : cells ≤ mc' ∧ slots ≤ ms') :
    W p l e R s m args below meth c H locs cells slots (MQ below (ls_Q (ls_Rh X a e1 mc n N' (va_up g' n (some v)) n0 Dq)) args s mc' ms' free) (F0 m 11 ls []) := by
  refine lv_aload_n C.1 C.2.1 dJx4a65c_add_72be8_11 rfl l2 ?_
  refine lv_iload_n C.1 C.2.1 dJx4a65c_add_72be8_12 rfl l3 ?_
  refine lv_aload_n C.1 C.2.1 dJx4a65c_add_72be8_13 rfl l1 ?_
  refine va_astqM C.1 C.2.1 (ls_K hG) hP hD hS 1 0 rfl rfl hv (vp_in_nI hn (by omega)) dJx4a65c_add_72be8_14 fun H1 locs1 hP1 hD1 hS1 => ?_
  rw [nI_clamp (by omega)] at hP1 hD1
  refine lv_aload_n C.1 C.2.1 dJx4a65c_add_72be8_15 rfl l0 ?_
  refine lv_iload_n C.1 C.2.1 dJx4a65c_add_72be8_16 rfl l3 ?_
  refine lv_iconst C.1 C.2.1 dJx4a65c_add_72be8_17 (v := 1) rfl ?_
  refine lv_iadd C.1 C.2.1 dJx4a65c_add_72be8_18 ?_
  rw [nI_1]
  refine ls_psize C hG hP1 hD1 hS1 0 rfl dJx4a65c_add_72be8_19 fun H2 locs2 hP2 hD2 hS2 => ?_
  exact W.widen (k := mc') (n := ms') hc.1 hc.2 (W.vret C.1 C.2.1 hm.1 (fun t ht hW => ⟨hW.alike, _, rfl, rfl, q, hq, by rw [ht]; exact hP2, by rw [ht]; exact hS2.1, fun x hx h1 h2 => by rw [ht]; exact hS2.2.1 x (by omega) (hA x hx h1 h2)⟩) (fun z hz => hf _ (hS2.2.2 z hz)) dJx4a65c_add_72be8_22 hm.2.1)
theorem lk_g0 : Cond.methodLink RJx4a65c 129 yJx4a65c_grow_d5877 ∈ mm_good ∧ Cond.instanceMethod yJx4a65c_grow_d5877 ∈ mm_good ∧ Cond.selects RJx4a65c yJx4a65c_grow_d5877 yJx4a65c_grow_d5877 ∈ mm_good ∧ Cond.code yJx4a65c_grow_d5877 cJx4a65c_grow_d5877 1 (some (.array (.object "java/lang/Object"))) ∈ mm_good := ⟨ls_in 546 (by decide +kernel), ls_in 548 (by decide +kernel), ls_in 23 (by decide +kernel), ls_in 549 (by decide +kernel)⟩
theorem lk_h : Cond.methodLink RJx4a65c 131 yJx4a65c_add_72be8 ∈ mm_good ∧ Cond.instanceMethod yJx4a65c_add_72be8 ∈ mm_good ∧ Cond.selects RJx4a65c yJx4a65c_add_72be8 yJx4a65c_add_72be8 ∈ mm_good ∧ Cond.code yJx4a65c_add_72be8 cJx4a65c_add_72be8 4 none ∈ mm_good := ⟨ls_in 542 (by decide +kernel), ls_in 544 (by decide +kernel), ls_in 22 (by decide +kernel), ls_in 545 (by decide +kernel)⟩
/-- the array is full -/
theorem ls_help1 {X : mm_X} {l : Launch} {LP : Nat → Prop} {n0 a e0 e1 v n N' : Nat} {mc : Int32} {g' : Nat → Option Nat} {Φ : Heap → Prop} (hn : n < N') (hN : N' ≤ 200000) (hv : LP v) (hv2 : v ≠ a ∧ v ≠ e1 ∧ v < n0) (ha : a < n0) (hΦ : ∀ H, Φ H → va_P X.1 mm_cls [(a, ls_l mc e0 (nI n))] H ∧ n0 ≤ H.size)
    (hc : ∀ s : State, mm_G X s → Φ s.heap → (∀ q, q < X.2.2.2.size → s.heap[q]? = X.2.2.2[q]?) → ∃ cell : Cell, s.heap[e0]? = some cell ∧ s.isArrayOf cell (.object ls_O) ∧ cell.slots.size = n)
    (hM : Met l yJx4a65c_grow_d5877 (Cond.code yJx4a65c_grow_d5877 cJx4a65c_grow_d5877 1 (some (.array (.object "java/lang/Object"))) :: mm_good) { frames := 4, cells := 1, slots := N', locals := 130 } (ls_P X [.ref a] LP Φ) (ls_Q (ls_Rg X a e1 mc (nI n) N' g' n0)) 1 N' (fun q => q = a ∨ q = e1 ∨ n0 ≤ q)) :
    Met l yJx4a65c_add_72be8 (Cond.code yJx4a65c_add_72be8 cJx4a65c_add_72be8 4 none :: mm_good) { frames := 5, cells := 1, slots := N', locals := 160 } (ls_P X [.ref a, .ref v, .ref e0, .int (nI n)] LP Φ) (ls_Q (ls_Rh X a e1 mc n N' (va_up g' n (some v)) n0 (fun q => n0 ≤ q))) 1 N' (fun q => q = a ∨ q = e1 ∨ n0 ≤ q) := by
  refine ls_met (by decide +kernel) (Nat.le_of_ble_eq_true rfl) fun p e s m below meth c ls C hm hG hb hA hP hl => ?_
  obtain ⟨cell0, hf, hf2, hf3⟩ := hc s hG hP hb
  refine lv_iload_n C.1 C.2.1 dJx4a65c_add_72be8_0 rfl (lv_at hl 3 rfl) ?_
  refine lv_aload_n C.1 C.2.1 dJx4a65c_add_72be8_1 rfl (lv_at hl 2 rfl) ?_
  refine W.alen (n := nI n) C.1 C.2.1 hf hf2 (by rw [hf3]; rfl) rfl rfl dJx4a65c_add_72be8_2 ?_
  refine lv_icmp_ne C.1 C.2.1 dJx4a65c_add_72be8_3 (tgt := 11) rfl (fun q => absurd rfl q) fun _ => ?_
  refine lv_aload_n C.1 C.2.1 dJx4a65c_add_72be8_6 rfl (lv_at hl 0 rfl) ?_
  refine ls_V C (As := []) hM lk_g0 rfl ⟨by decide +kernel, by decide +kernel, by rw [show List.length _ = 0 from rfl]; decide +kernel⟩ ⟨rfl, rfl⟩ (by constructor <;> exact Nat.le_of_ble_eq_true rfl) hG hb hA (hΦ _ hP).1 (q0 := 0) rfl hP hl.1 (rest := []) rfl (Nat.zero_le _) dJx4a65c_add_72be8_7 ⟨Nat.le_refl _, by show 0 + N' ≤ N'; omega⟩ fun r H' L hL hr => ?_
  obtain ⟨q, rfl, hq, hP1, hz, hfr⟩ := hr
  refine lv_astore_n C.1 C.2.1 dJx4a65c_add_72be8_10 rfl hl (by decide) rfl fun ls1 hl1 => ?_
  have hz0 := (hΦ _ hP).2
  refine ls_tail (A := fun q => q = a ∨ q = e1 ∨ n0 ≤ q) C hm hG (lv_at hl1 1 rfl) (lv_at hl1 2 rfl) (lv_at hl1 0 rfl) (lv_at hl1 3 rfl) hP1 (ls_D2 (Or.inl rfl) (Or.inr (Or.inr hq)) (by omega)) ⟨hz, fun x hx hxA => hfr x (by omega) (fun z => hxA (Or.inl z)) (fun z => hxA (Or.inr (Or.inl z))), fun x hx => hL x (by simpa using hx)⟩ ?_ hn hN hq (fun _ h => h) (fun x h1 h2 h3 z => by omega) hz0 ⟨Nat.le_refl _, by show 0 + N' ≤ N'; omega⟩
  obtain ⟨cell, h1, h2⟩ := hA v hv
  exact ⟨cell, by rw [hfr v hv2.2.2 hv2.1 hv2.2.1]; exact h1, h2⟩
/-- there is room -/
theorem ls_help0 {X : mm_X} {l : Launch} {LP : Nat → Prop} {n0 a e0 v n cap : Nat} {mc : Int32} {g : Nat → Option Nat} (hn : n < cap) (hN : cap ≤ 200000) (hv : LP v) (hae : a ≠ e0) :
    Met l yJx4a65c_add_72be8 (Cond.code yJx4a65c_add_72be8 cJx4a65c_add_72be8 4 none :: mm_good) { frames := 5, cells := 0, slots := 0, locals := 160 } (ls_P X [.ref a, .ref v, .ref e0, .int (nI n)] LP (fun H => va_P X.1 mm_cls [(a, ls_l mc e0 (nI n)), (e0, ls_a X cap g)] H ∧ n0 ≤ H.size)) (ls_Q (ls_Rh X a e0 mc n cap (va_up g n (some v)) n0 (fun q => q = e0))) 0 0 (fun q => q = a ∨ q = e0) := by
  refine ls_met (by decide +kernel) (Nat.le_of_ble_eq_true rfl) fun p e s m below meth c ls C hm hG hb hA hP hl => ?_
  refine lv_iload_n C.1 C.2.1 dJx4a65c_add_72be8_0 rfl (lv_at hl 3 rfl) ?_
  refine lv_aload_n C.1 C.2.1 dJx4a65c_add_72be8_1 rfl (lv_at hl 2 rfl) ?_
  refine W.alen (n := nI cap) C.1 C.2.1 (hP.1 1 _ rfl) ((ls_K hG).2 0 _ rfl |>.1 cap _) (by show Nat.toInt32 (arrV _ _ _).slots.size = _; rw [arrV_size]; rfl) rfl rfl dJx4a65c_add_72be8_2 ?_
  refine lv_icmp_ne C.1 C.2.1 dJx4a65c_add_72be8_3 (tgt := 11) rfl (fun _ => ?_) fun q => absurd ((nI_eq (by omega) (by omega)).mp q) (by omega)
  exact ls_tail (A := fun q => q = a ∨ q = e0) C hm hG (lv_at hl 0 rfl) (lv_at hl 1 rfl) (lv_at hl 2 rfl) (lv_at hl 3 rfl) hP.1 (ls_D2 (Or.inl rfl) (Or.inr rfl) hae) va_S.rf (hA v hv) hn hN rfl (fun _ h => h) (fun x h1 h2 h3 z => by omega) hP.2 ⟨Nat.le_refl _, Nat.le_refl _⟩
/-- add(e), out of its helper -/
theorem ls_add {X : mm_X} {l : Launch} {LP : Nat → Prop} {n0 a e0 e1 v n N' mcc mss mcx msx : Nat} (hmx : mcc ≤ mcx ∧ mss ≤ msx) {mc : Int32} {g' : Nat → Option Nat} {tl : va_W} {A free : Addr → Prop} {Dq : Nat → Prop} (hD : va_D A ((a, ls_l mc e0 (nI n)) :: tl)) (hAb : ∀ q, A q → X.2.2.2.size ≤ q) (hAy : ∀ y, LP y → ¬ A y) (hf : ∀ x, A x → free x) (hA2 : ∀ x, x < n0 → x ≠ a → x ≠ e1 → ¬ A x)
    (hM : Met l yJx4a65c_add_72be8 (Cond.code yJx4a65c_add_72be8 cJx4a65c_add_72be8 4 none :: mm_good) { frames := 5, cells := mcc, slots := mss, locals := 160 } (ls_P X [.ref a, .ref v, .ref e0, .int (nI n)] LP (fun H => va_P X.1 mm_cls ((a, ls_l (mc + 1) e0 (nI n)) :: tl) H ∧ n0 ≤ H.size)) (ls_Q (ls_Rh X a e1 (mc + 1) n N' g' n0 Dq)) mcc mss free) :
    Met l yJx4a65c_add_9ea2d (Cond.code yJx4a65c_add_9ea2d cJx4a65c_add_9ea2d 2 (some .boolean) :: mm_good) { frames := 8, cells := mcx, slots := msx, locals := 240 } (ls_P X [.ref a, .ref v] LP (fun H => va_P X.1 mm_cls ((a, ls_l mc e0 (nI n)) :: tl) H ∧ n0 ≤ H.size)) (ls_Q (fun r H H' => r = some (.int 1) ∧ ls_Rh X a e1 (mc + 1) n N' g' n0 Dq none H H')) mcx msx free := by
  refine ls_met (by decide +kernel) (Nat.le_of_ble_eq_true rfl) fun p e s m below meth c ls C hm hG hb hA hP hl => ?_
  obtain ⟨hP, hn0⟩ := hP
  refine lv_aload_n C.1 C.2.1 dJx4a65c_add_9ea2d_0 rfl (lv_at hl 0 rfl) ?_
  refine lv_dup C.1 C.2.1 dJx4a65c_add_9ea2d_1 rfl ?_
  refine ls_gmod C hG hP 0 rfl dJx4a65c_add_9ea2d_2 ?_
  refine lv_iconst C.1 C.2.1 dJx4a65c_add_9ea2d_5 (v := 1) rfl ?_
  refine lv_iadd C.1 C.2.1 dJx4a65c_add_9ea2d_6 ?_
  refine ls_pmod C hG hP hD va_S.rf 0 rfl dJx4a65c_add_9ea2d_7 fun H1 locs1 hP1 hD1 hS1 => ?_
  replace hP1 : va_P X.1 mm_cls ((a, ls_l (mc + 1) e0 (nI n)) :: tl) H1 := hP1
  refine lv_aload_n C.1 C.2.1 dJx4a65c_add_9ea2d_10 rfl (lv_at hl 0 rfl) ?_
  refine lv_aload_n C.1 C.2.1 dJx4a65c_add_9ea2d_11 rfl (lv_at hl 1 rfl) ?_
  refine lv_aload_n C.1 C.2.1 dJx4a65c_add_9ea2d_12 rfl (lv_at hl 0 rfl) ?_
  refine ls_gelem C hG hP1 0 rfl dJx4a65c_add_9ea2d_13 ?_
  refine lv_aload_n C.1 C.2.1 dJx4a65c_add_9ea2d_16 rfl (lv_at hl 0 rfl) ?_
  refine ls_gsize C hG hP1 0 rfl dJx4a65c_add_9ea2d_17 ?_
  have hb1 : ∀ q, q < X.2.2.2.size → H1[q]? = X.2.2.2[q]? := fun q hq => by
    by_cases hqs : q < s.heap.size
    · rw [hS1.2.1 q hqs (fun z => by have := hAb q z; omega)]
      exact hb q hq
    · have h1 := hb q hq
      rw [Array.getElem?_eq_none (by omega), Array.getElem?_eq_getElem hq] at h1
      cases h1
  refine ls_V C (As := [.ref v, .ref e0, .int (nI n)]) hM lk_h rfl ⟨by decide +kernel, by decide +kernel, by rw [show List.length _ = 3 from rfl]; decide +kernel⟩ ⟨rfl, rfl⟩ (by constructor <;> exact Nat.le_of_ble_eq_true rfl) hG hb1 (fun y hy => ls_anyS hS1 (hAy y hy) (hA y hy)) hP1 (q0 := 0) rfl ⟨hP1, Nat.le_trans hn0 hS1.1⟩ hl.1 (rest := []) rfl (Nat.zero_le _) dJx4a65c_add_9ea2d_20 ⟨by show 0 + mcc ≤ mcx; omega, by show 0 + mss ≤ msx; omega⟩ fun r H' L hL hr => ?_
  obtain ⟨rfl, q, hq, hP2, hz, hfr⟩ := hr
  refine lv_iconst C.1 C.2.1 dJx4a65c_add_9ea2d_23 (v := 1) rfl ?_
  exact W.widen (k := mcx) (n := msx) (by show 0 + mcc ≤ mcx; omega) (by show 0 + mss ≤ msx; omega) (W.zret C.1 C.2.1 hm.1 rfl (fun t ht hW => ⟨hW.alike, _, rfl, rfl, rfl, q, hq, by rw [ht]; exact hP2, by rw [ht]; exact Nat.le_trans hS1.1 hz, fun x hx h1 h2 => by rw [ht, hfr x hx h1 h2]; exact hS1.2.1 x (by omega) (hA2 x hx h1 h2)⟩) (fun z hz => (List.mem_append.mp hz).elim (fun h => hf _ (hS1.2.2 z h)) (hL z)) dJx4a65c_add_9ea2d_24 hm.2.1)
/-- clear(): a list that never had an array of its own, or one that has -/
theorem ls_clear {X : mm_X} {l : Launch} {LP : Nat → Prop} {a e0 n : Nat} {mc : Int32} {tl : va_W} {A : Addr → Prop} (hD : va_D A ((a, ls_l mc e0 (nI n)) :: tl)) (hn : n ≤ 200000)
    (ht : (n = 0 ∧ tl = []) ∨ ∃ cap g, tl = [(e0, ls_a X cap g)] ∧ n ≤ cap ∧ cap ≤ 200000) :
    Met l yJx4a65c_clear_da8c8 (Cond.code yJx4a65c_clear_da8c8 cJx4a65c_clear_da8c8 4 none :: mm_good) { frames := 0, cells := 0, slots := 0, locals := 0 } (ls_P X [.ref a] LP (va_P X.1 mm_cls ((a, ls_l mc e0 (nI n)) :: tl))) (ls_Q (fun r H H' => r = none ∧ (∃ tl', (tl' = tl ∨ ∃ cap g g', tl = [(e0, ls_a X cap g)] ∧ tl' = [(e0, ls_a X cap g')]) ∧ va_P X.1 mm_cls ((a, ls_l (mc + 1) e0 0) :: tl') H') ∧ H.size ≤ H'.size ∧ ∀ x, x < H.size → ¬ A x → H'[x]? = H[x]?)) 0 0 A := by
  refine ls_met (by decide +kernel) (Nat.le_of_ble_eq_true rfl) fun p e s m below meth c ls C hm hG hb hA hP hl => ?_
  refine lv_aload_n C.1 C.2.1 dJx4a65c_clear_da8c8_0 rfl (lv_at hl 0 rfl) ?_
  refine lv_dup C.1 C.2.1 dJx4a65c_clear_da8c8_1 rfl ?_
  refine ls_gmod C hG hP 0 rfl dJx4a65c_clear_da8c8_2 ?_
  refine lv_iconst C.1 C.2.1 dJx4a65c_clear_da8c8_5 (v := 1) rfl ?_
  refine lv_iadd C.1 C.2.1 dJx4a65c_clear_da8c8_6 ?_
  refine ls_pmod C hG hP hD va_S.rf 0 rfl dJx4a65c_clear_da8c8_7 fun H1 locs1 hP1 hD1 hS1 => ?_
  refine lv_aload_n C.1 C.2.1 dJx4a65c_clear_da8c8_10 rfl (lv_at hl 0 rfl) ?_
  refine ls_gelem C hG hP1 0 rfl dJx4a65c_clear_da8c8_11 ?_
  refine lv_astore_n C.1 C.2.1 dJx4a65c_clear_da8c8_14 rfl hl (by decide) rfl fun ls1 hl1 => ?_
  refine lv_aload_n C.1 C.2.1 dJx4a65c_clear_da8c8_15 rfl (lv_at hl1 1 rfl) ?_
  refine ls_gsize C hG hP1 0 rfl dJx4a65c_clear_da8c8_16 ?_
  refine lv_istore_n C.1 C.2.1 dJx4a65c_clear_da8c8_19 rfl hl1 (by decide) rfl fun ls2 hl2 => ?_
  refine lv_aload_n C.1 C.2.1 dJx4a65c_clear_da8c8_20 rfl (lv_at hl2 2 rfl) ?_
  refine lv_iconst C.1 C.2.1 dJx4a65c_clear_da8c8_21 (v := 0) rfl ?_
  refine lv_dup_x1 C.1 C.2.1 dJx4a65c_clear_da8c8_22 rfl rfl ?_
  refine ls_psize C hG hP1 hD1 hS1 0 rfl dJx4a65c_clear_da8c8_23 fun H2 locs2 hP2 hD2 hS2 => ?_
  refine lv_istore_n C.1 C.2.1 dJx4a65c_clear_da8c8_26 rfl hl2 (by decide) rfl fun ls3 hl3 => ?_
  replace hP2 : va_P X.1 mm_cls ((a, ls_l (mc + 1) e0 0) :: tl) H2 := hP2
  replace hD2 : va_D A ((a, ls_l (mc + 1) e0 0) :: tl) := hD2
  have hl0 : lv_has ls3 4 [(3, .int (nI 0)), (2, .int (nI n)), (1, .ref e0), (0, .ref a)] := hl3
  have fin : ∀ (tl' : va_W) (H3 : Heap) (locs3 : List Loc) (ls4 : Array Slot), (tl' = tl ∨ ∃ cap g g', tl = [(e0, ls_a X cap g)] ∧ tl' = [(e0, ls_a X cap g')]) → va_P X.1 mm_cls ((a, ls_l (mc + 1) e0 0) :: tl') H3 → va_S A s.heap H3 locs3 → W p l e { frames := 0, cells := 0, slots := 0, locals := 0 } s m #[.ref a] below meth c H3 locs3 0 0 (MQ below (ls_Q (fun r H H' => r = none ∧ (∃ tl', (tl' = tl ∨ ∃ cap g g', tl = [(e0, ls_a X cap g)] ∧ tl' = [(e0, ls_a X cap g')]) ∧ va_P X.1 mm_cls ((a, ls_l (mc + 1) e0 0) :: tl') H') ∧ H.size ≤ H'.size ∧ ∀ x, x < H.size → ¬ A x → H'[x]? = H[x]?)) #[.ref a] s 0 0 A) (F0 m 42 ls4 []) := fun tl' H3 locs3 ls4 h1 h2 h3 =>
    W.vret C.1 C.2.1 hm.1 (fun t ht hW => ⟨hW.alike, _, rfl, rfl, ⟨tl', h1, by rw [ht]; exact h2⟩, by rw [ht]; exact h3.1, fun x hx hxA => by rw [ht]; exact h3.2.1 x hx hxA⟩) (fun z hz => h3.2.2 z hz) dJx4a65c_clear_da8c8_42 hm.2.1
  rcases ht with ⟨rfl, rfl⟩ | ⟨cap, g, rfl, hc1, hc2⟩
  · refine lv_iload_n C.1 C.2.1 dJx4a65c_clear_da8c8_27 rfl (lv_at hl0 0 rfl) ?_
    refine lv_iload_n C.1 C.2.1 dJx4a65c_clear_da8c8_28 rfl (lv_at hl0 1 rfl) ?_
    exact lv_icmp_ge C.1 C.2.1 dJx4a65c_clear_da8c8_29 (tgt := 42) rfl (fun _ => fin _ _ _ _ (Or.inl rfl) hP2 hS2) fun q => absurd (show nI 0 ≤ nI 0 from by decide) q
  · have loop : ∀ (k i : Nat) (g' : Nat → Option Nat) (H3 : Heap) (locs3 : List Loc) (ls4 : Array Slot), k + i = n → lv_has ls4 4 [(3, .int (nI i)), (2, .int (nI n)), (1, .ref e0), (0, .ref a)] → va_P X.1 mm_cls [(a, ls_l (mc + 1) e0 0), (e0, ls_a X cap g')] H3 → va_D A [(a, ls_l (mc + 1) e0 0), (e0, ls_a X cap g')] → va_S A s.heap H3 locs3 →
        W p l e { frames := 0, cells := 0, slots := 0, locals := 0 } s m #[.ref a] below meth c H3 locs3 0 0 (MQ below (ls_Q (fun r H H' => r = none ∧ (∃ tl', (tl' = [(e0, ls_a X cap g)] ∨ ∃ cap1 g1 g', [(e0, ls_a X cap g)] = [(e0, ls_a X cap1 g1)] ∧ tl' = [(e0, ls_a X cap1 g')]) ∧ va_P X.1 mm_cls ((a, ls_l (mc + 1) e0 0) :: tl') H') ∧ H.size ≤ H'.size ∧ ∀ x, x < H.size → ¬ A x → H'[x]? = H[x]?)) #[.ref a] s 0 0 A) (F0 m 27 ls4 []) := by
      intro k
      induction k with
      | zero =>
        intro i g' H3 locs3 ls4 hk hl4 hP3 hD3 hS3
        refine lv_iload_n C.1 C.2.1 dJx4a65c_clear_da8c8_27 rfl (lv_at hl4 0 rfl) ?_
        refine lv_iload_n C.1 C.2.1 dJx4a65c_clear_da8c8_28 rfl (lv_at hl4 1 rfl) ?_
        refine lv_icmp_ge C.1 C.2.1 dJx4a65c_clear_da8c8_29 (tgt := 42) rfl (fun _ => fin _ _ _ _ (Or.inr ⟨cap, g, g', rfl, rfl⟩) hP3 hS3) fun q => absurd (Int32.not_lt.mp (nI_nlt (show n ≤ i by omega) (by omega))) q
      | succ k ih =>
        intro i g' H3 locs3 ls4 hk hl4 hP3 hD3 hS3
        refine lv_iload_n C.1 C.2.1 dJx4a65c_clear_da8c8_27 rfl (lv_at hl4 0 rfl) ?_
        refine lv_iload_n C.1 C.2.1 dJx4a65c_clear_da8c8_28 rfl (lv_at hl4 1 rfl) ?_
        refine lv_icmp_ge C.1 C.2.1 dJx4a65c_clear_da8c8_29 (tgt := 42) rfl (fun q => absurd (nI_lt (show i < n by omega) (by omega)) (Int32.not_lt.mpr q)) fun _ => ?_
        refine lv_aload_n C.1 C.2.1 dJx4a65c_clear_da8c8_32 rfl (lv_at hl4 2 rfl) ?_
        refine lv_iload_n C.1 C.2.1 dJx4a65c_clear_da8c8_33 rfl (lv_at hl4 0 rfl) ?_
        refine lv_null C.1 C.2.1 dJx4a65c_clear_da8c8_34 ?_
        refine va_astqN C.1 C.2.1 (ls_K hG) hP3 hD3 hS3 1 0 rfl rfl (vp_in_nI (by omega) (by omega)) dJx4a65c_clear_da8c8_35 fun H4 locs4 hP4 hD4 hS4 => ?_
        refine lv_iinc C.1 C.2.1 dJx4a65c_clear_da8c8_36 hl4 (k := 0) rfl (nI_1 i) (by decide) rfl fun ls5 hl5 => ?_
        refine lv_goto C.1 C.2.1 dJx4a65c_clear_da8c8_39 (tgt := 27) rfl ?_
        exact ih (i + 1) _ H4 locs4 ls5 (by omega) hl5 hP4 hD4 hS4
    exact loop n 0 g H2 locs2 ls3 rfl hl0 hP2 hD2 hS2
section
variable {p : Program} {l : Launch} {e : Env} {R : Room} {s : State} {m : MethodId} {args : Array Value} {below : List Frame} {meth : Method} {c : Code} {H : Heap} {locs : List Loc} {cells slots : Nat} {Q : State → Prop}
variable {cc : ByteArray} {maxL pc : Nat} {ls : Array Slot} {rest st : List Value} {X : mm_X} {own : String} {y : MethodName} {bytes : ByteArray} {mL idx mc ms : Nat} {rm : Room} {As : List Value} {LP : Nat → Prop} {Φ : Heap → Prop} {Rl : Option Value → Heap → Heap → Prop} {free : Addr → Prop}
/-- a constructor is called -/
theorem ls_I (C : CallFix p m c cc maxL s args mm_good own) {a : Nat} (hM : Met l y (Cond.code y bytes mL none :: mm_good) rm (ls_P X (.ref a :: As) LP Φ) (ls_Q Rl) mc ms free) (k : Cond.methodLink own idx y ∈ mm_good ∧ Cond.instanceMethod y ∈ mm_good ∧ Cond.initialized y.cls ∈ mm_good ∧ Cond.code y bytes mL none ∈ mm_good) (hy : y.name = "<init>")
    (hd : y.cls ≠ "java/lang/invoke/MethodHandle" ∧ y.cls ≠ "java/lang/invoke/VarHandle" ∧ (parseMethodDescriptor y.desc).map (fun d => d.parameters.length) = some As.length) (hrm : rm.cells = mc ∧ rm.slots = ms) (hR : rm.frames + 1 ≤ R.frames ∧ 8 + (mL + 11) + rm.locals ≤ R.locals)
    (hG : mm_G X s) (hb : ∀ q, q < X.2.2.2.size → H[q]? = X.2.2.2[q]?) (hA : ∀ z, LP z → va_Any ls_O s H z) (hP : Φ H) (hls : ls.size = maxL) (hst : st = As.reverse ++ .ref a :: rest) (hW : (rest.map fun v => v.category).sum ≤ 8) (hdg : decode cc pc = .ok (.invokespecial idx, 3)) (hf : cells + mc ≤ R.cells ∧ slots + ms ≤ R.slots)
    (kk : ∀ (v : Option Value) (H' : Heap) (L : List Loc), (∀ q ∈ L, free q.base) → Rl v H H' → W p l e R s m args below meth c H' (locs ++ L) (cells + mc) (slots + ms) Q (F0 m (pc + 3) ls (v.toList ++ rest))) : W p l e R s m args below meth c H locs cells slots Q (F0 m pc ls st) :=
  ls_call (va_runI C hM ⟨ls_callB As.length C.2.2.2.2 hrm k.2.2.2 k.1 k.2.2.1 hd hR, hy, C.2.2.2.2 _ k.2.1⟩ ⟨ls_P.blind, fun U hU hW => ⟨rfl, hG.warm hW, by rw [hU]; exact hb, fun y hy => by rw [hU]; exact ls_any hW.alike (hA y hy), by rw [hU]; exact hP⟩⟩ rfl rfl hls hst (by show 2 * 0 + _ ≤ 8; omega) hdg hf) kk
end
theorem lk_i : Cond.methodLink RJxa1e45 1 objectInit ∈ mm_good ∧ Cond.fieldLink RJxc12de 7 "java/util/AbstractList" "modCount" "I" ∈ mm_good := ⟨ls_in 81 (by decide +kernel), ls_in 86 (by decide +kernel)⟩
theorem lk_iC : Cond.methodLink RJxc12de 1 yJxa1e45_init_da8c8 ∈ mm_good ∧ Cond.instanceMethod yJxa1e45_init_da8c8 ∈ mm_good ∧ Cond.initialized RJxa1e45 ∈ mm_good ∧ Cond.code yJxa1e45_init_da8c8 cJxa1e45_init_da8c8 1 none ∈ mm_good := ⟨ls_in 78 (by decide +kernel), ls_in 79 (by decide +kernel), ls_in 41 (by decide +kernel), ls_in 80 (by decide +kernel)⟩
theorem lk_iL : Cond.methodLink RJx4a65c 1 yJxc12de_init_da8c8 ∈ mm_good ∧ Cond.instanceMethod yJxc12de_init_da8c8 ∈ mm_good ∧ Cond.initialized RJxc12de ∈ mm_good ∧ Cond.code yJxc12de_init_da8c8 cJxc12de_init_da8c8 1 none ∈ mm_good := ⟨ls_in 75 (by decide +kernel), ls_in 76 (by decide +kernel), ls_in 42 (by decide +kernel), ls_in 77 (by decide +kernel)⟩
theorem ls_initC {X : mm_X} {l : Launch} {LP : Nat → Prop} {a : Nat} {Φ : Heap → Prop} {free : Addr → Prop} : Met l yJxa1e45_init_da8c8 (Cond.code yJxa1e45_init_da8c8 cJxa1e45_init_da8c8 1 none :: mm_good) { frames := 1, cells := 0, slots := 0, locals := 20 } (ls_P X [.ref a] LP Φ) (ls_Q fun r H H' => r = none ∧ H' = H) 0 0 free := by
  refine ls_met (by decide +kernel) (Nat.le_of_ble_eq_true rfl) fun p e s m below meth c ls C hm hG hb hA hP hl => ?_
  refine lv_aload_n C.1 C.2.1 dJxa1e45_init_da8c8_0 rfl (lv_at hl 0 rfl) ?_
  refine W.objInit C.1 C.2.1 C.2.2.2.1 (C.2.2.2.2 _ lk_i.1) (C.2.2.2.2 _ (mm_pws_in (by simp [mm_pws]))) (C.2.2.2.2 _ (mm_pws_in (by simp [mm_pws]))) rfl (by rw [C.2.2.1]; exact hl.1) rfl dJxa1e45_init_da8c8_1 (Nat.le_of_ble_eq_true rfl) (Nat.le_of_ble_eq_true rfl) ?_
  exact W.vret C.1 C.2.1 hm.1 (fun t ht hW => ⟨hW.alike, _, rfl, rfl, ht⟩) (fun q hq => by cases hq) dJxa1e45_init_da8c8_4 hm.2.1
theorem ls_initL {X : mm_X} {l : Launch} {LP : Nat → Prop} {a : Nat} {v0 v1 v2 : Value} : Met l yJxc12de_init_da8c8 (Cond.code yJxc12de_init_da8c8 cJxc12de_init_da8c8 1 none :: mm_good) { frames := 2, cells := 0, slots := 0, locals := 50 } (ls_P X [.ref a] LP (va_P X.1 mm_cls [(a, .inr (8, [v0, v1, v2]))])) (ls_Q fun r H H' => r = none ∧ va_P X.1 mm_cls [(a, .inr (8, [.int 0, v1, v2]))] H' ∧ H.size ≤ H'.size ∧ ∀ x, x < H.size → x ≠ a → H'[x]? = H[x]?) 0 0 (fun q => q = a) := by
  refine ls_met (by decide +kernel) (Nat.le_of_ble_eq_true rfl) fun p e s m below meth c ls C hm hG hb hA hP hl => ?_
  refine lv_aload_n C.1 C.2.1 dJxc12de_init_da8c8_0 rfl (lv_at hl 0 rfl) ?_
  refine ls_I C (As := []) (ls_initC (free := fun q => q = a) (LP := LP) (Φ := va_P X.1 mm_cls [(a, .inr (8, [v0, v1, v2]))])) lk_iC rfl ⟨by decide +kernel, by decide +kernel, by rw [show List.length _ = 0 from rfl]; decide +kernel⟩ ⟨rfl, rfl⟩ (by constructor <;> exact Nat.le_of_ble_eq_true rfl) hG hb hA hP hl.1 (rest := []) rfl (Nat.zero_le _) dJxc12de_init_da8c8_1 ⟨Nat.le_refl _, Nat.le_refl _⟩ fun v H' L hL hv => ?_
  obtain ⟨rfl, rfl⟩ := hv
  refine lv_aload_n C.1 C.2.1 dJxc12de_init_da8c8_4 rfl (lv_at hl 0 rfl) ?_
  refine lv_iconst C.1 C.2.1 dJxc12de_init_da8c8_5 (v := 0) rfl ?_
  refine va_put (D := X.1) (ci := 8) (C := RJx4a65c) (T := TJx4a65c) (N := 3) C.1 C.2.1 C.2.2.2.2 ls_u8 tyJx4a65c tyJx4a65c_ok nmJx4a65c C.2.2.2.1 (ls_K hG) hP (ls_D1 (A := fun q => q = a) rfl) (ls_Sl va_S.rf (L := [] ++ L) (fun q hq => hL q (by simpa using hq))) 0 rfl rfl 0 (by decide) (C.2.2.2.2 _ lk_i.2) (fun _ q => q) rfl (ty := .int) (v := .int 0) (tyJx4a65c_ok 0 (by decide)) rfl rfl (by show 0 < 3; decide) dJxc12de_init_da8c8_6 fun H1 locs1 hP1 hD1 hS1 => ?_
  exact W.vret C.1 C.2.1 hm.1 (fun t ht hW => ⟨hW.alike, _, rfl, rfl, by rw [ht]; exact hP1, by rw [ht]; exact hS1.1, fun x hx h1 => by rw [ht]; exact hS1.2.1 x hx h1⟩) (fun q hq => hS1.2.2 q hq) dJxc12de_init_da8c8_9 hm.2.1
/-- ArrayList's constructor -/
theorem ls_init {X : mm_X} {l : Launch} {LP : Nat → Prop} {a : Nat} {v0 v1 : Value} {n : Int32} (ha : X.2.2.2.size ≤ a) : Met l yJx4a65c_init_da8c8 (Cond.code yJx4a65c_init_da8c8 cJx4a65c_init_da8c8 1 none :: mm_good) { frames := 4, cells := 0, slots := 0, locals := 120 } (ls_P X [.ref a] LP (va_P X.1 mm_cls [(a, .inr (8, [v0, v1, .int n]))])) (ls_Q fun r H H' => r = none ∧ va_P X.1 mm_cls [(a, ls_l 0 X.2.2.1.1 n)] H' ∧ H.size ≤ H'.size ∧ ∀ x, x < H.size → x ≠ a → H'[x]? = H[x]?) 0 0 (fun q => q = a) := by
  refine ls_met (by decide +kernel) (Nat.le_of_ble_eq_true rfl) fun p e s m below meth c ls C hm hG hb hA hP hl => ?_
  refine lv_aload_n C.1 C.2.1 dJx4a65c_init_da8c8_0 rfl (lv_at hl 0 rfl) ?_
  refine ls_I C (As := []) (ls_initL (LP := LP)) lk_iL rfl ⟨by decide +kernel, by decide +kernel, by rw [show List.length _ = 0 from rfl]; decide +kernel⟩ ⟨rfl, rfl⟩ (by constructor <;> exact Nat.le_of_ble_eq_true rfl) hG hb hA hP hl.1 (rest := []) rfl (Nat.zero_le _) dJx4a65c_init_da8c8_1 ⟨Nat.le_refl _, Nat.le_refl _⟩ fun v H1 L hL hv => ?_
  obtain ⟨rfl, hP1, hz1, hf1⟩ := hv
  have hS : va_S (fun q => q = a) s.heap H1 ([] ++ L) := ⟨hz1, hf1, fun q hq => hL q (by simpa using hq)⟩
  refine lv_aload_n C.1 C.2.1 dJx4a65c_init_da8c8_4 rfl (lv_at hl 0 rfl) ?_
  refine va_gets C.1 C.2.1 (ls_Z (A := fun q => q = a) hG hb (fun q z => by rw [z]; exact ha)) hS C.2.2.2.1 (C.2.2.2.2 _ lk_def.1) (fun _ q => q) dJx4a65c_init_da8c8_5 ?_
  refine ls_pelem C hG hP1 (ls_D1 (A := fun q => q = a) rfl) hS 0 rfl dJx4a65c_init_da8c8_8 fun H2 locs2 hP2 hD2 hS2 => ?_
  exact W.vret C.1 C.2.1 hm.1 (fun t ht hW => ⟨hW.alike, _, rfl, rfl, by rw [ht]; exact hP2, by rw [ht]; exact hS2.1, fun x hx h1 => by rw [ht]; exact hS2.2.1 x hx h1⟩) (fun q hq => hS2.2.2 q hq) dJx4a65c_init_da8c8_11 hm.2.1
/-! THE FIVE METHODS AS THE SIMULATION ASKS FOR THEM -/
/-- a contract chosen at the state of the call -/
theorem ls_conv {l : Launch} {y : MethodName} {ws : List Cond} {rm : Room} {Pc' : Array Value → State → Prop} {Qc' : Array Value → State → Outcome → State → Prop} {mc ms : Nat} {free' : Addr → Prop}
    (h : ∀ (a : Array Value) (s : State), (∀ w ∈ ws, w.before a s = true) → Pc' a s → ∃ (Pc : Array Value → State → Prop) (Qc : Array Value → State → Outcome → State → Prop) (free : Addr → Prop), Met l y ws rm Pc Qc mc ms free ∧ Pc a s ∧ (∀ o t, Qc a s o t → Qc' a s o t) ∧ ∀ q, free q → free' q) : Met l y ws rm Pc' Qc' mc ms free' := by
  intro p e ha hc hk s m args below hf happ hp ht
  have hw : ∀ w ∈ ws, w.before args s = true := by
    have h2 := happ
    unfold Spec.appliesLoose at h2
    rw [hf] at h2
    simp only [Bool.and_eq_true] at h2
    exact atoms_spec h2.2
  obtain ⟨Pc, Qc, free, hM, hP, hQ, hF⟩ := h args s hw hp
  obtain ⟨n, o, h1, h2, h3, h4, L, h5, h6⟩ := hM p e ha hc hk s m args below hf happ hP ht
  exact ⟨n, o, h1, h2, h3, hQ _ _ h4, L, h5, fun q hq => hF _ (h6 q hq)⟩
theorem ls_nI {i : Int32} (h : ¬ i < 0) : i = nI i.toNatClampNeg := by
  apply Int32.toInt_inj.mp
  have h0 : (0 : Int) ≤ i.toInt := by
    have := Int32.not_lt.mp h
    simpa using Int32.le_iff_toInt_le.mp this
  have h1 : i.toNatClampNeg < 2 ^ 31 := by
    have := Int32.toInt_lt i
    show i.toInt.toNat < _
    omega
  rw [nI_toInt h1]
  show i.toInt = ((i.toInt.toNat : Nat) : Int)
  omega
/-- an object may lie in an array of objects -/
theorem ls_obj {X : mm_X} {σ : mm_S} {ι η : Nat → Nat} {U : State} {H : Heap} {b : Nat} (hG : mm_G X U) (hH : mm_H X σ ι η U H) (h : (mm_ci σ b).isSome = true) : va_Any ls_O U H (ι b) := by
  obtain ⟨c, hc⟩ := Option.isSome_iff_exists.mp h
  obtain ⟨fs, hfs⟩ := mm_cis hc
  obtain ⟨r, hr, hlen, cell, q1, q2, q3, q4⟩ := (hH.2.2.2.2.2.1 b _ hfs).2.2.2
  obtain ⟨-, hC, -, h9⟩ := mm_cls_at hr
  have hkn := (hG.1 c r hr).2
  have hcast := va_Nw.use (A := #[]) rfl (hG.2.2.2.2.2.2.2.2.2.2.2.2.2.2.2.2 c h9)
  rw [← hC] at hcast
  obtain ⟨c0, t1, f1, f2, f3⟩ := Cond.castable_spec hcast
  cases hkn.1.symm.trans f1
  obtain ⟨kC, hkC, -⟩ := hkn.2
  exact ⟨cell, q1, by rw [q3]; rfl, ⟨kC, by rw [q2]; exact hkC⟩, fun comp hcomp => by cases hcomp.symm.trans f2; rw [q2]; exact f3⟩
theorem mm_at.eta {X : mm_X} {ι η η' : Nat → Nat} {U : State} {k : Nat} {o : mm_O} {H : Heap} (he : η' k = η k) (h : mm_at X ι η U k o H) : mm_at X ι η' U k o H := by
  rcases o with ⟨ci, fs⟩ | ⟨kd, n', f⟩ | ⟨n', f⟩ | l
  · exact h
  · match kd, h with
    | 0, h => exact h
    | 1, h => exact h
    | kd + 2, h => exact h
  · exact h
  · obtain ⟨hl, mc, a, b⟩ := h
    refine ⟨hl, mc, by rw [he]; exact a, ?_⟩
    rw [he]
    exact b
/-- a list is written -/
theorem mm_H.lput {X : mm_X} {σ τ : mm_S} {ι η : Nat → Nat} {U : State} {H H1 : Heap} {a q : Nat} {o0 : mm_O} {l' : List Nat} (hH : mm_H X σ ι η U H) (h0 : σ.1 a = some o0) (hro : mm_ro o0 = false) (hl' : ∀ b ∈ l', b < σ.2.1) (z : H.size ≤ H1.size)
    (fr : ∀ x, x < H.size → x ≠ ι a → ((∃ l, o0 = .inr (.inr (.inr l))) → η a ≠ X.2.2.1.1 → x ≠ η a) → H1[x]? = H[x]?)
    (hat : mm_at X ι (fun k => if k = a then q else η k) U a (.inr (.inr (.inr l'))) H1)
    (hq : q ≠ X.2.2.1.1 → (∀ i, i < σ.2.1 → ι i ≠ q) ∧ ∀ k l, σ.1 k = some (.inr (.inr (.inr l))) → η k ≠ X.2.2.1.1 → k ≠ a → η k ≠ q)
    (h1 : τ.1 = (mm_put σ a (.inr (.inr (.inr l')))).1) (h2 : τ.2.1 = σ.2.1) : mm_H X τ ι (fun k => if k = a then q else η k) U H1 := by
  obtain ⟨⟨a1, a2⟩, b, c, d, e, f, g, u1, u2, u3⟩ := hH
  have hτ : ∀ k, τ.1 k = if k = a then some (.inr (.inr (.inr l'))) else σ.1 k := fun k => by rw [h1]; rfl
  obtain ⟨ha, -, har, -⟩ := f a o0 h0
  have ha2 := d a (har hro) ha
  have ho : (∃ l, o0 = .inr (.inr (.inr l))) → η a ≠ X.2.2.1.1 → X.2.2.2.size ≤ η a := fun ⟨l, hl⟩ hne => by
    subst hl
    obtain ⟨-, mc, -, hb⟩ := (f a _ h0).2.2.2
    rcases hb with hb | hb
    · exact absurd hb.1 hne
    · exact hb.2.1
  have hsz : ∀ k l, σ.1 k = some (.inr (.inr (.inr l))) → η k ≠ X.2.2.1.1 → η k < H.size := fun k l hk hne => by
    obtain ⟨-, mc, -, hb⟩ := (f k _ hk).2.2.2
    rcases hb with hb | ⟨-, -, cap, g, -, -, -, hb, -⟩
    · exact absurd hb.1 hne
    · exact (Array.getElem?_eq_some_iff.mp hb).1
  refine ⟨⟨Nat.le_trans a1 z, fun x hx => ?_⟩, by rw [h2]; exact b, fun i hi => Nat.lt_of_lt_of_le (c i (by omega)) z, by rw [h2]; exact d, by rw [h2]; exact e, fun k o hk => ?_, fun k l hk hne => ?_, Nat.le_trans u1 z, u2, u3⟩
  · rw [fr x (by omega) (by omega) (fun p1 p2 => by have := ho p1 p2; omega)]
    exact a2 x hx
  · rw [hτ] at hk
    rw [h2]
    by_cases e1 : k = a
    · subst e1
      rw [if_pos rfl] at hk
      cases hk
      exact ⟨ha, hl', fun _ => har hro, hat⟩
    · rw [if_neg e1] at hk
      obtain ⟨f1, f2, f3, f4⟩ := f k o hk
      refine ⟨f1, f2, f3, mm_at.eta (if_neg e1) (f4.kept ?_ fun l ho2 hne => ?_)⟩
      · exact fr _ (c k f1) (fun z => e1 (b k a f1 ha (har hro) z)) (fun ⟨l, hl⟩ hne => by subst hl; exact (g a l h0 hne).1 k f1)
      · subst ho2
        exact fr _ (hsz k l hk hne) (fun z => (g k l hk hne).1 a ha z.symm) (fun ⟨l2, hl2⟩ hne2 z => by subst hl2; exact e1 ((g a l2 h0 hne2).2 k l hk z))
  · rw [hτ] at hk
    rw [h2]
    by_cases e1 : k = a
    · subst e1
      simp only [if_true] at hne ⊢
      refine ⟨(hq hne).1, fun k' l2 hk2 he => ?_⟩
      rw [hτ] at hk2
      by_cases e2 : k' = k
      · exact e2
      · rw [if_neg e2] at hk2 he
        exact absurd he ((hq hne).2 k' l2 hk2 (by rw [he]; exact hne) e2)
    · rw [if_neg e1] at hk
      simp only [if_neg e1] at hne ⊢
      refine ⟨(g k l hk hne).1, fun k' l2 hk2 he => ?_⟩
      rw [hτ] at hk2
      by_cases e2 : k' = a
      · subst e2
        simp only [if_true] at he
        exact absurd he.symm ((hq (by rw [he]; exact hne)).2 k l hk hne e1)
      · rw [if_neg e2] at hk2
        simp only [if_neg e2] at he
        exact (g k l hk hne).2 k' l2 hk2 he
theorem ls_P1 {X : mm_X} {a e : Nat} {mc n : Int32} {H : Heap} (h : t_OB a (X.1.1 8) 3 (X.1.2 8) H (vp_V [.int mc, .ref e, .int n])) : va_P X.1 mm_cls [(a, ls_l mc e n)] H := by
  intro k q hk
  rcases k with _ | k
  · cases hk; exact ⟨_, rfl, h⟩
  · cases hk
theorem ls_P2 {X : mm_X} {a e cap : Nat} {mc n : Int32} {g : Nat → Option Nat} {H : Heap} (h : t_OB a (X.1.1 8) 3 (X.1.2 8) H (vp_V [.int mc, .ref e, .int n])) (h2 : H[e]? = some (arrV X.2.1.2.2.2 cap (fun j => va_rf (g j)))) : va_P X.1 mm_cls [(a, ls_l mc e n), (e, ls_a X cap g)] H := by
  intro k q hk
  rcases k with _ | _ | k
  · cases hk; exact ⟨_, rfl, h⟩
  · cases hk; exact h2
  · cases hk
theorem ls_O1 {X : mm_X} {a e : Nat} {mc n : Int32} {tl : va_W} {H : Heap} (h : va_P X.1 mm_cls ((a, ls_l mc e n) :: tl) H) : t_OB a (X.1.1 8) 3 (X.1.2 8) H (vp_V [.int mc, .ref e, .int n]) := by
  obtain ⟨r, hr, h⟩ := h 0 _ rfl
  cases hr
  exact h
section
variable {X : mm_X} {l : Launch} {σ : mm_S} {a : Nat} {x : List Nat}
theorem ls_Lsize (h : mm_lst σ a = some x) : mm_PM X l 0 [.ref a] σ (some (.int (Int32.ofNat x.length))) σ := by
  intro ι η hST
  rw [Nat.sub_self, Nat.sub_self]
  refine ls_conv fun v s hw hPc => ?_
  obtain ⟨rfl, hG, hH⟩ := hPc
  obtain ⟨hlen, mc, hob, -⟩ := (hH.2.2.2.2.2.1 a _ (mm_lsts h)).2.2.2
  refine ⟨_, _, fun _ => False, ls_size (X := X) (LP := fun _ => False) (a := ι a) (v0 := .int mc) (v1 := .ref (η a)) (n := nI x.length), ⟨rfl, hG, hH.2.2.2.2.2.2.2.2.2, fun _ h => h.elim, ls_P1 hob⟩, fun o t ht => ?_, fun _ h => h.elim⟩
  obtain ⟨hA, v, rfl, rfl, hh⟩ := ht
  exact ⟨_, ι, η, rfl, rfl, fun _ _ => rfl, by rw [hh]; exact hH.moved hA hh, fun w hw => by cases hw; trivial⟩
theorem ls_Lget {i : Int32} {v : Nat} (h : mm_lst σ a = some x) (hi : ¬ (i < 0 ∨ x.length ≤ i.toNatClampNeg)) (hv : x[i.toNatClampNeg]? = some v) : mm_PM X l 1 [.ref a, .int i] σ (some (.ref v)) σ := by
  intro ι η hST
  rw [Nat.sub_self, Nat.sub_self]
  refine ls_conv fun u s hw hPc => ?_
  obtain ⟨rfl, hG, hH⟩ := hPc
  obtain ⟨-, hov, -, hlen, mc, hob, hb⟩ := hH.2.2.2.2.2.1 a _ (mm_lsts h)
  have hlt : i.toNatClampNeg < x.length := Nat.not_le.mp fun q => hi (Or.inr q)
  have h0 : ¬ i < 0 := fun q => hi (Or.inl q)
  obtain ⟨hv1, hv2⟩ := List.getElem?_eq_some_iff.mp hv
  rcases hb with ⟨-, rfl⟩ | ⟨hne, -, cap, g, c1, c2, c3, c4, c5⟩
  · exact absurd hlt (Nat.not_lt_zero _)
  · have hx : ls_ix i (nI x.length) := ⟨h0, by rw [ls_nI h0]; exact nI_lt hlt (by omega)⟩
    refine ⟨_, _, fun _ => False, ls_get (X := X) (LP := fun _ => False) (a := ι a) (v0 := .int mc) (e0 := η a) (n := nI x.length) (cap := cap) (g := g) (y := ι v) hx (fun q => q.elim h0 (by omega)) (by rw [c5 _ hv1, hv2]), ⟨rfl, hG, hH.2.2.2.2.2.2.2.2.2, fun _ h => h.elim, ls_P2 hob c4⟩, fun o t ht => ?_, fun _ h => h.elim⟩
    obtain ⟨hA, w, rfl, rfl, hh⟩ := ht
    refine ⟨some (.ref v), ι, η, rfl, rfl, fun _ _ => rfl, by rw [hh]; exact hH.moved hA hh, fun w hw => ?_⟩
    cases hw
    exact hov v (by rw [← hv2]; exact List.getElem_mem _)
theorem ls_Lclear (h : mm_lst σ a = some x) : mm_PM X l 3 [.ref a] σ none (mm_put σ a (.inr (.inr (.inr [])))) := by
  intro ι η hST
  rw [show (mm_put σ a (.inr (.inr (.inr [])))).2.2.1 - σ.2.2.1 = 0 from Nat.sub_self _, show (mm_put σ a (.inr (.inr (.inr [])))).2.2.2 - σ.2.2.2 = 0 from Nat.sub_self _]
  refine ls_conv fun u s hw hPc => ?_
  obtain ⟨rfl, hG, hH⟩ := hPc
  obtain ⟨hk, hov, hro, hlen, mc, hob, hb⟩ := hH.2.2.2.2.2.1 a _ (mm_lsts h)
  have ha2 := hH.2.2.2.1 a (hro rfl) hk
  have hbz := hH.2.2.2.2.2.2.2.2.1
  have hbase := hH.2.2.2.2.2.2.2.2.2
  rcases hb with ⟨he, rfl⟩ | ⟨hne, he2, cap, g, c1, c2, c3, c4, c5⟩
  · refine ⟨_, _, fun q => q = ι a, ls_clear (X := X) (LP := fun _ => False) (a := ι a) (e0 := η a) (n := 0) (mc := mc) (tl := []) (A := fun q => q = ι a) (ls_D1 rfl) (by omega) (Or.inl ⟨rfl, rfl⟩), ⟨rfl, hG, hbase, fun _ h => h.elim, ls_P1 hob⟩, fun o t ht => ?_, fun q hq => by rw [hq]; exact ha2⟩
    obtain ⟨hA, w, rfl, rfl, ⟨tl', -, hP'⟩, hz, hfr⟩ := ht
    have hN := hH.lput (τ := mm_put σ a (.inr (.inr (.inr [])))) (q := η a) (l' := []) (mm_lsts h) rfl (fun _ hb => by cases hb) hz (fun y hy h1 _ => hfr y hy h1) ⟨Nat.zero_le _, mc + 1, by dsimp only; rw [if_pos rfl]; exact ls_O1 hP', Or.inl ⟨by dsimp only; rw [if_pos rfl]; exact he, rfl⟩⟩ (fun q => absurd he q) rfl rfl
    exact ⟨none, ι, _, rfl, rfl, fun _ _ => rfl, hN.re hA ⟨Nat.le_refl _, hN.1.1, hN.1.2⟩, fun w hw => by cases hw⟩
  · have hae : ι a ≠ η a := (hH.2.2.2.2.2.2.1 a _ (mm_lsts h) hne).1 a hk
    refine ⟨_, _, fun q => q = ι a ∨ q = η a, ls_clear (X := X) (LP := fun _ => False) (a := ι a) (e0 := η a) (n := x.length) (mc := mc) (tl := [(η a, ls_a X cap g)]) (A := fun q => q = ι a ∨ q = η a) (ls_D2 (Or.inl rfl) (Or.inr rfl) hae) (by omega) (Or.inr ⟨cap, g, rfl, c3, c2⟩), ⟨rfl, hG, hbase, fun _ h => h.elim, ls_P2 hob c4⟩, fun o t ht => ?_, fun q hq => hq.elim (fun z => by rw [z]; exact ha2) (fun z => by rw [z]; exact he2)⟩
    obtain ⟨hA, w, rfl, rfl, ⟨tl', htl, hP'⟩, hz, hfr⟩ := ht
    have hcell : ∃ g' : Nat → Option Nat, t.heap[η a]? = some (arrV X.2.1.2.2.2 cap (fun j => va_rf (g' j))) := by
      rcases htl with rfl | ⟨cap1, g1, g', h1, rfl⟩
      · exact ⟨g, hP' 1 _ rfl⟩
      · have h2 : ((η a, ls_a X cap g) : Nat × va_E) = (η a, ls_a X cap1 g1) := by injection h1
        injection h2 with _ h2
        injection h2 with h2
        injection h2 with _ h2
        injection h2 with h2 _
        subst h2
        exact ⟨g', hP' 1 _ rfl⟩
    obtain ⟨g', hg'⟩ := hcell
    have hN := hH.lput (τ := mm_put σ a (.inr (.inr (.inr [])))) (q := η a) (l' := []) (mm_lsts h) rfl (fun _ hb => by cases hb) hz (fun y hy h1 h2 => hfr y hy (fun z => z.elim h1 (h2 ⟨_, rfl⟩ hne))) ⟨Nat.zero_le _, mc + 1, by dsimp only; rw [if_pos rfl]; exact ls_O1 hP', Or.inr ⟨by dsimp only; rw [if_pos rfl]; exact hne, by dsimp only; rw [if_pos rfl]; exact he2, cap, g', c1, c2, Nat.zero_le _, by dsimp only; rw [if_pos rfl]; exact hg', fun j hj => absurd hj (Nat.not_lt_zero _)⟩⟩ (fun _ => ⟨fun i hi => (hH.2.2.2.2.2.2.1 a _ (mm_lsts h) hne).1 i hi, fun k l2 hk2 _ hne2 z => hne2 ((hH.2.2.2.2.2.2.1 a _ (mm_lsts h) hne).2 k l2 hk2 z)⟩) rfl rfl
    exact ⟨none, ι, _, rfl, rfl, fun _ _ => rfl, hN.re hA ⟨Nat.le_refl _, hN.1.1, hN.1.2⟩, fun w hw => by cases hw⟩
theorem ls_Linit (h : mm_fr σ a = true) : mm_PM X l 4 [.ref a] σ none (mm_put σ a (.inr (.inr (.inr [])))) := by
  intro ι η hST
  rw [show (mm_put σ a (.inr (.inr (.inr [])))).2.2.1 - σ.2.2.1 = 0 from Nat.sub_self _, show (mm_put σ a (.inr (.inr (.inr [])))).2.2.2 - σ.2.2.2 = 0 from Nat.sub_self _]
  obtain ⟨m0, hf⟩ : ∃ m0, σ.1 a = some (.inl (8, [.int m0, .null, .int 0])) := by
    unfold mm_fr at h
    split at h
    · rename_i c x z hx
      simp only [Bool.and_eq_true, beq_iff_eq] at h
      obtain ⟨⟨rfl, rfl⟩, rfl⟩ := h
      exact ⟨_, hx⟩
    · cases h
  refine ls_conv fun u s hw hPc => ?_
  obtain ⟨rfl, hG, hH⟩ := hPc
  obtain ⟨hk, hov, hro, r, hr, hlen, hob⟩ := hH.2.2.2.2.2.1 a _ hf
  cases hr
  have ha2 := hH.2.2.2.1 a (hro rfl) hk
  have hbase := hH.2.2.2.2.2.2.2.2.2
  refine ⟨_, _, fun q => q = ι a, ls_init (X := X) (LP := fun _ => False) (a := ι a) (v0 := .int m0) (v1 := .null) (n := 0) ha2, ⟨rfl, hG, hbase, fun _ h => h.elim, fun k q hk => ?_⟩, fun o t ht => ?_, fun q hq => by rw [hq]; exact ha2⟩
  · rcases k with _ | k
    · cases hk; exact ⟨_, rfl, hob⟩
    · cases hk
  · obtain ⟨hA, w, rfl, rfl, hP', hz, hfr⟩ := ht
    have hN := hH.lput (τ := mm_put σ a (.inr (.inr (.inr [])))) (q := X.2.2.1.1) (l' := []) hf rfl (fun _ hb => by cases hb) hz (fun y hy h1 _ => hfr y hy h1) ⟨Nat.zero_le _, 0, by dsimp only; rw [if_pos rfl]; exact ls_O1 hP', Or.inl ⟨by dsimp only; rw [if_pos rfl], rfl⟩⟩ (fun q => absurd rfl q) rfl rfl
    exact ⟨none, ι, _, rfl, rfl, fun _ _ => rfl, hN.re hA ⟨Nat.le_refl _, hN.1.1, hN.1.2⟩, fun w hw => by cases hw⟩
end
theorem ls_els {ι : Nat → Nat} {x : List Nat} {v n : Nat} {g : Nat → Option Nat} (hn : n = x.length) (hg : ∀ j (h : j < x.length), g j = some (ι x[j])) : ∀ j (h : j < (x ++ [v]).length), va_up g n (some (ι v)) j = some (ι (x ++ [v])[j]) := by
  intro j hj
  subst hn
  by_cases e : j = x.length
  · subst e
    rw [va_up_self]
    simp
  · have h1 : j < x.length := by rw [List.length_append, List.length_singleton] at hj; omega
    rw [va_up_ne _ _ e, hg j h1, List.getElem_append_left h1]
theorem ls_Ladd {X : mm_X} {l : Launch} {σ : mm_S} {a v : Nat} {x : List Nat} (h : mm_lst σ a = some x) (h6 : x.length < 60000) (hok : mm_oks σ (x ++ [v]) = true) : mm_PM X l 2 [.ref a, .ref v] σ (some (.int 1)) (mm_bmp (mm_put σ a (.inr (.inr (.inr (x ++ [v]))))) 1 (2 * x.length + 10)) := by
  intro ι η hST
  rw [show (mm_bmp (mm_put σ a (.inr (.inr (.inr (x ++ [v]))))) 1 (2 * x.length + 10)).2.2.1 - σ.2.2.1 = 1 from Nat.add_sub_cancel_left _ _, show (mm_bmp (mm_put σ a (.inr (.inr (.inr (x ++ [v]))))) 1 (2 * x.length + 10)).2.2.2 - σ.2.2.2 = 2 * x.length + 10 from Nat.add_sub_cancel_left _ _]
  refine ls_conv fun u s hw hPc => ?_
  obtain ⟨rfl, hG, hH⟩ := hPc
  have hl := mm_lsts h
  obtain ⟨hk, hov, hro, hlen, mc, hob, hb⟩ := hH.2.2.2.2.2.1 a _ hl
  have ha2 := hH.2.2.2.1 a (hro rfl) hk
  have han := hH.2.2.1 a hk
  have hbz := hH.2.2.2.2.2.2.2.2.1
  have hbase := hH.2.2.2.2.2.2.2.2.2
  have hobj : ∀ b ∈ x ++ [v], ∃ c fs, σ.1 b = some (.inl (c, fs)) := fun b hb => by
    obtain ⟨c, hc⟩ := Option.isSome_iff_exists.mp (List.all_eq_true.mp hok b hb)
    obtain ⟨fs, hfs⟩ := mm_cis hc
    exact ⟨c, fs, hfs⟩
  have hlt : ∀ b ∈ x ++ [v], b < σ.2.1 := fun b hb => by
    obtain ⟨c, fs, hfs⟩ := hobj b hb
    exact (hH.2.2.2.2.2.1 b _ hfs).1
  have hne1 : ∀ b ∈ x ++ [v], ι b ≠ ι a := fun b hb z => by
    obtain ⟨c, fs, hfs⟩ := hobj b hb
    have := hH.2.1 b a (hlt b hb) hk (hro rfl) z
    subst this
    rw [hl] at hfs
    cases hfs
  have hA : ∀ y, (∃ b ∈ x ++ [v], y = ι b) → va_Any ls_O s s.heap y := fun y ⟨b, hb, hy⟩ => by
    rw [hy]
    exact ls_obj hG hH (List.all_eq_true.mp hok b hb)
  have hvm : v ∈ x ++ [v] := List.mem_append_right _ (List.mem_singleton.mpr rfl)
  have fin : ∀ (t : State) (e1 q N' : Nat) (g : Nat → Option Nat), s.vm.Alike t.vm → va_P X.1 mm_cls [(ι a, ls_l (mc + 1) q (nI (x.length + 1))), (q, ls_a X N' (va_up g x.length (some (ι v))))] t.heap → s.heap.size ≤ t.heap.size → (∀ y, y < s.heap.size → y ≠ ι a → y ≠ e1 → t.heap[y]? = s.heap[y]?) → (e1 = ι a ∨ (η a ≠ X.2.2.1.1 ∧ e1 = η a)) → q ≠ X.2.2.1.1 → X.2.2.2.size ≤ q → (∀ i, i < σ.2.1 → ι i ≠ q) → (∀ k l, σ.1 k = some (.inr (.inr (.inr l))) → η k ≠ X.2.2.1.1 → k ≠ a → η k ≠ q) → 10 ≤ N' → N' ≤ 200000 → x.length + 1 ≤ N' → (∀ j (h : j < x.length), g j = some (ι x[j])) →
      mm_Qc X (.inl (some (.int 1))) (mm_bmp (mm_put σ a (.inr (.inr (.inr (x ++ [v]))))) 1 (2 * x.length + 10)) ι σ.2.1 (List.map (mm_v ι) [.ref a, .ref v]).toArray s (.returned (some (.int 1))) t := by
    intro t e1 q N' g hAl hP' hz hfr he1 hq1 hq2 hq3 hq4 hN1 hN2 hN3 hg
    have hN := hH.lput (τ := mm_bmp (mm_put σ a (.inr (.inr (.inr (x ++ [v]))))) 1 (2 * x.length + 10)) (q := q) (l' := x ++ [v]) hl rfl hlt hz (fun y hy h1 h2 => hfr y hy h1 (by
      rcases he1 with rfl | ⟨hne, rfl⟩
      · exact h1
      · exact h2 ⟨_, rfl⟩ hne)) ⟨by rw [List.length_append, List.length_singleton]; omega, mc + 1, by dsimp only; rw [if_pos rfl, List.length_append, List.length_singleton]; exact ls_O1 hP', Or.inr ⟨by dsimp only; rw [if_pos rfl]; exact hq1, by dsimp only; rw [if_pos rfl]; exact hq2, N', _, hN1, hN2, by rw [List.length_append, List.length_singleton]; exact hN3, by dsimp only; rw [if_pos rfl]; exact hP' 1 _ rfl, ls_els rfl hg⟩⟩ (fun _ => ⟨hq3, hq4⟩) rfl rfl
    exact ⟨some (.int 1), ι, _, rfl, rfl, fun _ _ => rfl, hN.re hAl ⟨Nat.le_refl _, hN.1.1, hN.1.2⟩, fun w hw => by cases hw; trivial⟩
  have hqn : ∀ q, s.heap.size ≤ q → q ≠ X.2.2.1.1 ∧ X.2.2.2.size ≤ q ∧ (∀ i, i < σ.2.1 → ι i ≠ q) ∧ ∀ k l, σ.1 k = some (.inr (.inr (.inr l))) → η k ≠ X.2.2.1.1 → k ≠ a → η k ≠ q := fun q hq => by
    obtain ⟨cell0, he0, -⟩ := hG.2.2.2.2.2.2.2.2.2.2.2.2.1
    have he := (Array.getElem?_eq_some_iff.mp he0).1
    refine ⟨by omega, by omega, fun i hi z => ?_, fun k l hkl hne _ z => ?_⟩
    · have := hH.2.2.1 i hi
      omega
    · obtain ⟨-, mc, -, hb⟩ := (hH.2.2.2.2.2.1 k _ hkl).2.2.2
      rcases hb with hb | ⟨-, -, cap, g, -, -, -, hb, -⟩
      · exact hne hb.1
      · have := (Array.getElem?_eq_some_iff.mp hb).1
        omega
  rcases hb with ⟨he, rfl⟩ | ⟨hne, he2, cap, g, c1, c2, c3, c4, c5⟩
  · have hM := ls_add (X := X) (l := l) (LP := fun y => ∃ b ∈ [] ++ [v], y = ι b) (n0 := s.heap.size) (a := ι a) (e0 := X.2.2.1.1) (e1 := ι a) (v := ι v) (n := 0) (N' := 10) (mcc := 1) (mss := 10) (mcx := 1) (msx := 2 * ([] : List Nat).length + 10) (mc := mc) (tl := []) (A := fun q => q = ι a) (free := fun q => q = ι a ∨ q = ι a ∨ s.heap.size ≤ q) (Dq := fun q => s.heap.size ≤ q) (g' := va_up (fun _ => none) 0 (some (ι v)))
      ⟨Nat.le_refl _, Nat.le_of_ble_eq_true rfl⟩ (ls_D1 rfl) (fun q hq => by rw [hq]; exact ha2) (fun y ⟨b, hb, hy⟩ z => hne1 b hb (hy.symm.trans z)) (fun q hq => Or.inl hq) (fun y _ h1 _ => h1)
      (ls_help1 (n := 0) (N' := 10) (by omega) (by omega) ⟨v, hvm, rfl⟩ ⟨hne1 v hvm, hne1 v hvm, hH.2.2.1 v (hlt v hvm)⟩ han (fun H hh => hh) (fun s hG _ hb => by
          obtain ⟨cell0, h1, h2, h3⟩ := hG.2.2.2.2.2.2.2.2.2.2.2.2.1
          exact ⟨cell0, by rw [hb _ (Array.getElem?_eq_some_iff.mp h1).1]; exact h1, h2, h3⟩)
        (ls_grow0 (n1 := 1) (by decide) (fun H hh => hh.1) (fun r H H' ⟨q, hq, _⟩ => ⟨q, hq⟩) (ls_grow1 (n := nI 0) han ⟨ha2, hbz⟩)))
    rw [he] at hob
    refine ⟨_, _, _, hM, ⟨rfl, hG, hbase, hA, ls_P1 hob, Nat.le_refl _⟩, fun o t ht => ?_, fun q hq => ?_⟩
    · obtain ⟨hAl, w, rfl, rfl, -, q, hq, hP', hz, hfr⟩ := ht
      obtain ⟨q1, q2, q3, q4⟩ := hqn q hq
      exact fin t (ι a) q 10 (fun _ => none) hAl hP' hz hfr (Or.inl rfl) q1 q2 q3 q4 (by omega) (by omega) (Nat.le_of_ble_eq_true rfl) (fun j hj => absurd hj (Nat.not_lt_zero _))
    · show X.2.2.2.size ≤ q
      rcases hq with z | z | z
      · rw [z]; exact ha2
      · rw [z]; exact ha2
      · exact Nat.le_trans hbz z
  · have hae : ι a ≠ η a := (hH.2.2.2.2.2.2.1 a _ hl hne).1 a hk
    have hne2 : ∀ b ∈ x ++ [v], ι b ≠ η a := fun b hb => (hH.2.2.2.2.2.2.1 a _ hl hne).1 b (hlt b hb)
    rcases Nat.lt_or_eq_of_le c3 with hc | hc
    · have hM := ls_add (X := X) (l := l) (LP := fun y => ∃ b ∈ x ++ [v], y = ι b) (n0 := s.heap.size) (a := ι a) (e0 := η a) (e1 := η a) (v := ι v) (n := x.length) (N' := cap) (mcc := 0) (mss := 0) (mcx := 1) (msx := 2 * x.length + 10) (mc := mc) (tl := [(η a, ls_a X cap g)]) (A := fun q => q = ι a ∨ q = η a) (free := fun q => q = ι a ∨ q = η a) (Dq := fun q => q = η a) (g' := va_up g x.length (some (ι v)))
        ⟨Nat.zero_le _, Nat.zero_le _⟩ (ls_D2 (Or.inl rfl) (Or.inr rfl) hae) (fun q hq => hq.elim (fun z => by rw [z]; exact ha2) (fun z => by rw [z]; exact he2)) (fun y ⟨b, hb, hy⟩ z => z.elim (fun z => hne1 b hb (hy.symm.trans z)) (fun z => hne2 b hb (hy.symm.trans z))) (fun q hq => hq) (fun y _ h1 h2 z => z.elim h1 h2)
        (ls_help0 hc c2 ⟨v, hvm, rfl⟩ hae)
      refine ⟨_, _, _, hM, ⟨rfl, hG, hbase, hA, ls_P2 hob c4, Nat.le_refl _⟩, fun o t ht => ?_, fun q hq => hq.elim (fun z => by rw [z]; exact ha2) (fun z => by rw [z]; exact he2)⟩
      obtain ⟨hAl, w, rfl, rfl, -, q, rfl, hP', hz, hfr⟩ := ht
      exact fin t (η a) (η a) cap g hAl hP' hz hfr (Or.inr ⟨hne, rfl⟩) hne he2 (fun i hi => (hH.2.2.2.2.2.2.1 a _ hl hne).1 i hi) (fun k l hkl _ hka z => hka ((hH.2.2.2.2.2.2.1 a _ hl hne).2 k l hkl z)) c1 c2 hc c5
    · subst hc
      have hM := ls_add (X := X) (l := l) (LP := fun y => ∃ b ∈ x ++ [v], y = ι b) (n0 := s.heap.size) (a := ι a) (e0 := η a) (e1 := η a) (v := ι v) (n := x.length) (N' := x.length + x.length / 2) (mcc := 1) (mss := x.length + x.length / 2) (mcx := 1) (msx := 2 * x.length + 10) (mc := mc) (tl := [(η a, ls_a X x.length g)]) (A := fun q => q = ι a ∨ q = η a) (free := fun q => q = ι a ∨ q = η a ∨ s.heap.size ≤ q) (Dq := fun q => s.heap.size ≤ q) (g' := va_up (ls_cp g x.length) x.length (some (ι v)))
        ⟨Nat.le_refl _, by omega⟩ (ls_D2 (Or.inl rfl) (Or.inr rfl) hae) (fun q hq => hq.elim (fun z => by rw [z]; exact ha2) (fun z => by rw [z]; exact he2)) (fun y ⟨b, hb, hy⟩ z => z.elim (fun z => hne1 b hb (hy.symm.trans z)) (fun z => hne2 b hb (hy.symm.trans z))) (fun q hq => hq.elim Or.inl (fun z => Or.inr (Or.inl z))) (fun y _ h1 h2 z => z.elim h1 h2)
        (ls_help1 (by omega) (by omega) ⟨v, hvm, rfl⟩ ⟨hne1 v hvm, hne2 v hvm, hH.2.2.1 v (hlt v hvm)⟩ han (fun H hh => ⟨hh.1.sub [0] rfl, hh.2⟩) (fun s hG hh _ => ⟨_, hh.1 1 _ rfl, (ls_K hG).2 0 _ rfl |>.1 _ (fun j => va_rf (g j)), by show (arrV _ _ _).slots.size = _; rw [arrV_size]⟩)
          (ls_grow0 (nI_1 x.length) (fun H hh => hh.1.sub [0] rfl) (fun r H H' ⟨q, hq, _⟩ => ⟨q, hq⟩) (ls_grow2 c1 (by omega) (fun i hi y hy => ⟨x[i], List.mem_append_left _ (List.getElem_mem hi), by rw [c5 i hi] at hy; exact (Option.some.inj hy).symm⟩) (fun y ⟨b, hb, hy⟩ => ⟨by rw [hy]; exact hne2 b hb, by rw [hy]; exact hH.2.2.1 b (hlt b hb)⟩) hae han ⟨ha2, he2, hbz⟩)))
      refine ⟨_, _, _, hM, ⟨rfl, hG, hbase, hA, ls_P2 hob c4, Nat.le_refl _⟩, fun o t ht => ?_, fun q hq => ?_⟩
      · obtain ⟨hAl, w, rfl, rfl, -, q, hq, hP', hz, hfr⟩ := ht
        obtain ⟨q1, q2, q3, q4⟩ := hqn q hq
        exact fin t (η a) q (x.length + x.length / 2) (ls_cp g x.length) hAl hP' hz hfr (Or.inr ⟨hne, rfl⟩) q1 q2 q3 q4 (by omega) (by omega) (by omega) (fun j hj => by
          show (if 0 ≤ j ∧ j < 0 + x.length then g (0 + (j - 0)) else none) = _
          rw [if_pos ⟨Nat.zero_le _, by omega⟩, show 0 + (j - 0) = j by omega]
          exact c5 j hj)
      · show X.2.2.2.size ≤ q
        rcases hq with z | z | z
        · rw [z]; exact ha2
        · rw [z]; exact he2
        · exact Nat.le_trans hbz z
/-- ArrayList keeps what is asked of it -/
theorem ls_all {X : mm_X} (l : Launch) : mm_Ls X l := ⟨fun _ _ _ h => ls_Lsize h, fun _ _ _ _ _ h h1 h2 => ls_Lget h h1 h2, fun _ _ _ _ h h1 h2 => ls_Ladd h h1 h2, fun _ _ _ h => ls_Lclear h, fun _ _ h => ls_Linit h⟩
