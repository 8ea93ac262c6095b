/-! WHAT TIES THE MINI MACHINE TO THE MACHINE: facts of the tables, the heap, locals. X: class numbers' ids and slots; the ids of int[], boolean[], long[], Object[]; the empty array of ArrayList and the law's static row; the heap at the law's start. -/
abbrev mm_X : Type := va_G × (Nat × Nat × Nat × Nat) × (Nat × Nat) × Heap
def mm_oth : List Cond := mm_nst ++ (vx_atS RX6 46 (mm_xn 0) mm_chain ++ (vx_atS RX6 62 (mm_xn 1) mm_chain ++ (vx_atS RX6 144 (mm_xn 2) mm_chain ++ [.castable (mm_xn 0) (mm_xn 0), .castable (mm_xn 1) (mm_xn 1), .castable (mm_xn 2) (mm_xn 2)])))
def mm_A (X : mm_X) : Nat → Prop := fun q => X.2.2.2.size ≤ q
/-- what ArrayList needs of them -/
def mm_GL (X : mm_X) (U : State) : Prop :=
  va_Z RJx4a65c "DEFAULTCAPACITY_EMPTY_ELEMENTDATA" "[Ljava/lang/Object;" (.ref X.2.2.1.1) (mm_A X) U X.2.2.2 ∧ (ArrOfT U X.2.1.2.2.2 (.object "java/lang/Object") ∧ va_RA U X.2.1.2.2.2 (.object "java/lang/Object")) ∧
  (∃ cell : Cell, X.2.2.2[X.2.2.1.1]? = some cell ∧ U.isArrayOf cell (.object "java/lang/Object") ∧ cell.slots.size = 0) ∧ va_AO "java/lang/Object" U ∧ (∃ mi, va_Mi "[Ljava/lang/Object;" mi U) ∧ va_Dc U ∧ ∀ c, c < 9 → va_Nw (.castable (mm_cn c) "java/lang/Object") U
/-- what is known of the tables, and of the statics at the law's start -/
def mm_G (X : mm_X) (U : State) : Prop :=
  (∀ (c : Nat) (q : vw_C), mm_cls[c]? = some q → u_Kn U q.1 q.2.1 q.2.2 (X.1.1 c) (X.1.2 c)) ∧
  (ArrOfT U X.2.1.1 .int ∧ U.vm.findClass ("[" ++ FieldType.int.toString) = some X.2.1.1) ∧
  (ArrOfT U X.2.1.2.1 .boolean ∧ U.vm.findClass ("[" ++ FieldType.boolean.toString) = some X.2.1.2.1) ∧
  (True ∧ True) ∧
  (∀ w ∈ mm_oth, va_Nw w U) ∧ (∀ q ∈ mm_str, ∃ sa, vk_R RX6 q.1 q.2 sa U) ∧
  vx_Zq Bundle.tN "UNASSIGNED_STACK" Bundle.steD (mm_A X) U X.2.2.2 ∧ vx_Zq Bundle.tN "SUPPRESSED_SENTINEL" Bundle.listD (mm_A X) U X.2.2.2 ∧
  va_Z "HandArchive" "LOCUS_PLACES" "[I" (.ref X.2.2.1.2) (mm_A X) U X.2.2.2 ∧ (∀ e e', e < 3 → e' < 3 → e ≠ e' → va_Nc (mm_xn e) (mm_xn e') U) ∧ mm_GL X U
/-- a word that goes on holding as the tables grow warm -/
def mm_wm (w : Cond) : Bool := w.onTables && (w.keepsFace || (match w with
  | .fieldLinkNest .. => true
  | .methodLinkNest .. => true
  | _ => false))
theorem mm_warm {w : Cond} (hw : mm_wm w = true) {s U : State} (hW : s.WarmedH U.vm) (h : va_Nw w s) : va_Nw w U := by
  unfold mm_wm at hw
  rw [Bool.and_eq_true, Bool.or_eq_true] at hw
  obtain ⟨h1, h2 | h2⟩ := hw
  · exact va_tabs h1 (rfl : (s.setVm U.vm).vm = U.vm) (Cond.before_shiftedFace (State.Shifted.of_warmed hW) w h2 h)
  · cases w with
    | fieldLinkNest => exact va_Nw.warmF hW h
    | methodLinkNest => exact va_Nw.warmM hW h
    | _ => cases h2
set_option maxRecDepth 100000 in
theorem mm_oth_wm : mm_oth.all mm_wm = true := by decide +kernel
set_option maxRecDepth 100000 in
theorem mm_cast_wm : (List.range 9).all (fun c => mm_wm (.castable (mm_cn c) "java/lang/Object")) = true := by decide +kernel
theorem mm_GL.warm {X : mm_X} {s U : State} (hW : s.WarmedH U.vm) (h : mm_GL X s) : mm_GL X U := by
  obtain ⟨h1, ⟨h2, h3⟩, ⟨cell, h4, h4b, h4c⟩, h5, ⟨mi, h6⟩, h7, h8⟩ := h
  have hA := hW.alike
  exact ⟨va_Z.moved hA h1, ⟨arrOfT_moved hA h2, h3.moved hA⟩, ⟨cell, h4, State.isArrayOf_alike hA h4b, h4c⟩, va_AO.moved hA h5, ⟨mi, va_Mi.moved hA h6⟩, va_Dc.moved hA h7, fun c hc => mm_warm (List.all_eq_true.mp mm_cast_wm c (List.mem_range.mpr hc)) hW (h8 c hc)⟩
theorem mm_G.warm {X : mm_X} {s U : State} (hW : s.WarmedH U.vm) (h : mm_G X s) : mm_G X U := by
  obtain ⟨h1, ⟨h2, h2'⟩, ⟨h3, h3'⟩, ⟨h4, h4'⟩, h5, h6, h7, h8, h9, h10, h11⟩ := h
  have hA := hW.alike
  exact ⟨fun c q hq => u_Kn_moved hA (h1 c q hq), ⟨arrOfT_moved hA h2, by rw [hA.findClass]; exact h2'⟩, ⟨arrOfT_moved hA h3, by rw [hA.findClass]; exact h3'⟩, ⟨trivial, trivial⟩,
    fun w hw => mm_warm (List.all_eq_true.mp mm_oth_wm w hw) hW (h5 w hw), fun q hq => by obtain ⟨sa, hs⟩ := h6 q hq; exact ⟨sa, vk_R.warm hW hs⟩,
    vx_Zq.moved hA h7, vx_Zq.moved hA h8, va_Z.moved hA h9, fun e e' h1 h2 h3 => va_Nc.moved hA (h10 e e' h1 h2 h3), h11.warm hW⟩
-- values and objects, with the addresses as they are in the machine
def mm_v (ι : Nat → Nat) (v : Value) : Value := match v with
  | .ref a => .ref (ι a)
  | v => v
def mm_vv (n : Nat) (v : Value) : Prop := match v with
  | .ref a => a < n
  | _ => True
def mm_ov (n : Nat) (o : mm_O) : Prop := match o with
  | .inl (_, fs) => ∀ v ∈ fs, mm_vv n v
  | .inr (.inr (.inr l)) => ∀ a ∈ l, a < n
  | _ => True
/-- an object that nothing writes to -/
def mm_ro (o : mm_O) : Bool := match o with
  | .inr (.inl (kd, _, _)) => kd == 2
  | _ => false
def mm_own8 (X : mm_X) (ι : Nat → Nat) (l : List Nat) (e : Nat) (H : Heap) : Prop :=
  ∃ (cap : Nat) (g : Nat → Option Nat), 10 ≤ cap ∧ cap ≤ 200000 ∧ l.length ≤ cap ∧ H[e]? = some (arrV X.2.1.2.2.2 cap (fun j => va_rf (g j))) ∧ ∀ j (h : j < l.length), g j = some (ι (l[j]))
def mm_at (X : mm_X) (ι η : Nat → Nat) (U : State) (k : Nat) (o : mm_O) (H : Heap) : Prop := match o with
  | .inl (ci, fs) => ∃ r : vw_C, mm_cls[ci]? = some r ∧ fs.length = r.2.2 ∧ t_OB (ι k) (X.1.1 ci) r.2.2 (X.1.2 ci) H (vp_V (fs.map (mm_v ι)))
  | .inr (.inl (0, n, f)) => H[ι k]? = some (arrV X.2.1.1 n (fun j => .int (f j))) ∧ n ≤ 100000
  | .inr (.inl (1, n, f)) => H[ι k]? = some (arrV X.2.1.2.1 n (fun j => .int (f j))) ∧ n ≤ 100000
  | .inr (.inl (_, n, f)) => ∃ cell, H[ι k]? = some cell ∧ U.isArrayOf cell .int ∧ cell.vm ≠ .unknown ∧ cell.slots.size = n ∧ ∀ j, j < n → cell.slots[j]? = some (.int (f j))
  | .inr (.inr (.inl (_, _))) => False
  | .inr (.inr (.inr l)) => l.length ≤ 60000 ∧ ∃ mc : Int32, t_OB (ι k) (X.1.1 8) 3 (X.1.2 8) H (vp_V [.int mc, .ref (η k), .int (nI l.length)]) ∧ ((η k = X.2.2.1.1 ∧ l = []) ∨ (η k ≠ X.2.2.1.1 ∧ X.2.2.2.size ≤ η k ∧ mm_own8 X ι l (η k) H))
def mm_H (X : mm_X) (σ : mm_S) (ι η : Nat → Nat) (U : State) (H : Heap) : Prop :=
  (X.2.2.2.size ≤ H.size ∧ ∀ q, q < X.2.2.2.size → H[q]? = X.2.2.2[q]?) ∧
  (∀ i j, i < σ.2.1 → j < σ.2.1 → 2 ≤ j → ι i = ι j → i = j) ∧ (∀ i, i < σ.2.1 → ι i < H.size) ∧ (∀ i, 2 ≤ i → i < σ.2.1 → X.2.2.2.size ≤ ι i) ∧ (2 ≤ σ.2.1 ∧ ι 1 = X.2.2.1.2) ∧
  (∀ k o, σ.1 k = some o → k < σ.2.1 ∧ mm_ov σ.2.1 o ∧ (mm_ro o = false → 2 ≤ k) ∧ mm_at X ι η U k o H) ∧
  (∀ k l, σ.1 k = some (.inr (.inr (.inr l))) → η k ≠ X.2.2.1.1 → (∀ i, i < σ.2.1 → ι i ≠ η k) ∧ ∀ k' l', σ.1 k' = some (.inr (.inr (.inr l'))) → η k' = η k → k' = k) ∧
  (U.heap.size ≤ H.size ∧ X.2.2.2.size ≤ U.heap.size ∧ ∀ q, q < X.2.2.2.size → U.heap[q]? = X.2.2.2[q]?)
/-- locals -/
def mm_LR (ι : Nat → Nat) (n : Nat) (ls : List Value) (nL : Nat) (mls : Array Slot) : Prop :=
  mls.size = nL ∧ ls.length = nL ∧ lv_wf mls ∧ ∀ (i : Nat) (v : Value), ls[i]? = some v → mm_ok1 v = true → mls[i]? = some (Slot.val (mm_v ι v)) ∧ mm_vv n v
def mm_ST (n : Nat) (st : List Value) : Prop := ∀ v ∈ st, mm_vv n v
-- the frame of a method
abbrev mm_K : Type := Program × Launch × Env × Room × State × MethodId × Array Value × List Frame × Method × Code
def mm_W (K : mm_K) (H : Heap) (locs : List Loc) (cells slots : Nat) (Q : State → Prop) (g : JFrame) : Prop :=
  W K.1 K.2.1 K.2.2.1 K.2.2.2.1 K.2.2.2.2.1 K.2.2.2.2.2.1 K.2.2.2.2.2.2.1 K.2.2.2.2.2.2.2.1 K.2.2.2.2.2.2.2.2.1 K.2.2.2.2.2.2.2.2.2 H locs cells slots Q g
def mm_Ks (K : mm_K) : State := K.2.2.2.2.1
def mm_Km (K : mm_K) : MethodId := K.2.2.2.2.2.1
def mm_Ka (K : mm_K) : Array Value := K.2.2.2.2.2.2.1
def mm_Kb (K : mm_K) : List Frame := K.2.2.2.2.2.2.2.1
def mm_KR (K : mm_K) : Room := K.2.2.2.1
def mm_Fx (K : mm_K) (y : Nat) : Prop :=
  K.1.tables.exec = Jvm.exec ∧ (K.2.2.2.2.2.2.2.2.2).code = mm_by y ∧ (K.2.2.2.2.2.2.2.2.2).maxLocals = mm_mx y ∧ (mm_Ks K).vm.findClass (mm_cn (mm_own y)) = some (mm_Km K).cls ∧ (∀ w ∈ mm_good, w.before (mm_Ka K) (mm_Ks K) = true) ∧
  (K.2.2.2.2.2.2.2.2.2).exceptionTable.toList = tableOf (mm_lh mm_hr y) ∧ (K.2.2.2.2.2.2.2.2.1).locks = false ∧ (K.2.2.2.2.2.2.2.2.1).sig.returnType = mm_rt y ∧ (K.2.2.2.2.2.2.2.2.1).name = (mm_nm y).name ∧
  mm_rk y ≤ (mm_KR K).frames ∧ 38 * mm_rk y ≤ (mm_KR K).locals ∧ y < 116 ∧ K.2.1.stackTraces = false
def mm_Qc (X : mm_X) (o : Option Value ⊕ Nat) (σ' : mm_S) (ι : Nat → Nat) (n : Nat) : Array Value → State → Outcome → State → Prop := fun _ _ oc t =>
  ∃ v ι' η', o = .inl v ∧ oc = .returned (v.map (mm_v ι')) ∧ (∀ i, i < n → ι' i = ι i) ∧ mm_H X σ' ι' η' t t.heap ∧ (∀ w, v = some w → mm_vv σ'.2.1 w)
def mm_Xc (X : mm_X) (o : Option Value ⊕ Nat) (σ' : mm_S) (ι : Nat → Nat) (n : Nat) : String → State → State → Prop := fun E _ t =>
  ∃ e ι' η', o = .inr e ∧ E = mm_xn e ∧ (∀ i, i < n → ι' i = ι i) ∧ mm_H X σ' ι' η' t t.heap
def mm_Q (X : mm_X) (K : mm_K) (o : Option Value ⊕ Nat) (σ' : mm_S) (ι : Nat → Nat) (n mc ms : Nat) : State → Prop :=
  vx_MQ (mm_Kb K) (mm_Qc X o σ' ι n) (mm_Xc X o σ' ι n) (mm_Ka K) (mm_Ks K) mc ms (mm_A X)
/-- one configuration's end, from any frame that shows it -/
def mm_Sm (X : mm_X) (y pc : Nat) (ls st : List Value) (σ : mm_S) (o : Option Value ⊕ Nat) (σ' : mm_S) : Prop :=
  (σ.2.1 ≤ σ'.2.1 ∧ σ.2.2.1 ≤ σ'.2.2.1 ∧ σ.2.2.2 ≤ σ'.2.2.2) ∧
  ∀ (K : mm_K) (H : Heap) (locs : List Loc) (cells slots mc ms : Nat) (mls : Array Slot) (ι η : Nat → Nat), mm_Fx K y → mm_G X (mm_Ks K) → mm_H X σ ι η (mm_Ks K) H → mm_LR ι σ.2.1 ls (mm_mx y) mls → mm_ST σ.2.1 st →
    (∀ z ∈ locs, mm_A X z.base) → (cells + σ'.2.2.1 ≤ mc + σ.2.2.1 ∧ slots + σ'.2.2.2 ≤ ms + σ.2.2.2) → (mc ≤ (mm_KR K).cells ∧ ms ≤ (mm_KR K).slots) →
    mm_W K H locs cells slots (mm_Q X K o σ' ι σ.2.1 mc ms) (F0 (mm_Km K) pc mls (st.map (mm_v ι)))
def mm_Sim (X : mm_X) (rec : mm_C) : Prop := ∀ y pc ls st σ o σ', rec y pc ls st σ = some (o, σ') → mm_Sm X y pc ls st σ o σ'
