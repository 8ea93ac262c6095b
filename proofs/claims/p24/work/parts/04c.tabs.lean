/-! THE TABLES ARE THE STATEMENT'S: checked by program -/
theorem mm_lk_mem {t : List (Nat × Nat)} {k v : Nat} (h : mm_lk t k = some v) : (k, v) ∈ t := by
  induction t with
  | nil => cases h
  | cons q r ih =>
    obtain ⟨a, b⟩ := q
    unfold mm_lk at h
    by_cases e : a = k
    · rw [if_pos e] at h; cases h; rw [e]; exact List.mem_cons_self
    · rw [if_neg e] at h; exact List.mem_cons_of_mem _ (ih h)
def mm_ty (d : Nat) : FieldType → Bool := fun t => match d % 10, t with
  | 0, .int => true
  | 1, .object _ => true
  | 1, .array _ => true
  | 2, .boolean => true
  | _, _ => false
def mm_fok (e : Nat × Nat) : Bool := match mm_cls[e.2 / 1000]? with
  | none => false
  | some (_, T, N) => decide (e.2 / 10 % 100 < N) && (decide (Cond.fieldLink (mm_cn (e.1 / 1000)) (e.1 % 1000) (T (e.2 / 10 % 100)).1 (T (e.2 / 10 % 100)).2.1 (T (e.2 / 10 % 100)).2.2.1 ∈ mm_good) ||
      (decide (Cond.fieldLinkNest (mm_cn (e.1 / 1000)) (e.1 % 1000) (T (e.2 / 10 % 100)).1 (T (e.2 / 10 % 100)).2.1 (T (e.2 / 10 % 100)).2.2.1 RX6 ∈ mm_nst) && decide (e.1 / 1000 ≠ e.2 / 1000))) &&
      (match parseFieldDescriptor (T (e.2 / 10 % 100)).2.2.1 with | some t => mm_ty e.2 t | none => false) && decide (e.1 % 1000 + e.1 / 1000 * 1000 = e.1) &&
      decide ((T (e.2 / 10 % 100)).2.2.2 = mm_fin.contains (e.2 / 1000 * 100 + e.2 / 10 % 100)) && (!(T (e.2 / 10 % 100)).2.2.2 || decide ((T (e.2 / 10 % 100)).1 = mm_cn (e.2 / 1000)))
set_option maxRecDepth 1000000 in
theorem mm_fdt_ok : mm_fdt.all mm_fok = true := by decide +kernel
set_option maxRecDepth 1000000 in
theorem mm_cls_ok : (List.range 9).all (fun c => match mm_cls[c]? with | some (C, T, N) => (u_ws C T N).all (fun w => decide (w ∈ mm_good)) && decide (C = mm_cn c) && decide (((mm_dfl[c]?).getD []).length = N) | none => false) = true := by decide +kernel
def mm_nok (e : Nat × Nat) : Bool := decide (e.1 % 1000 + e.1 / 1000 * 1000 = e.1) && (if e.2 < 100 then (match mm_cls[e.2]? with
  | none => false
  | some (C, _, N) => decide (Cond.classLink (mm_cn (e.1 / 1000)) (e.1 % 1000) C ∈ mm_good) && decide (Cond.instantiable C N ∈ mm_good) && decide (Cond.initialized C ∈ mm_good))
  else decide (e.1 / 1000 = 6) && decide (e.2 - 100 < 3) && decide (Cond.classLink RX6 (e.1 % 1000) (mm_xn (e.2 - 100)) ∈ mm_good) && decide (Cond.initialized (mm_xn (e.2 - 100)) ∈ mm_good))
set_option maxRecDepth 1000000 in
theorem mm_nwt_ok : mm_nwt.all mm_nok = true := by decide +kernel
def mm_cok (e : Nat × Nat) : Bool := decide (e.1 % 1000 + e.1 / 1000 * 1000 = e.1) && decide (e.2 < 9) && decide (Cond.classLink (mm_cn (e.1 / 1000)) (e.1 % 1000) (mm_cn e.2) ∈ mm_good)
set_option maxRecDepth 1000000 in
theorem mm_cct_ok : mm_cct.all mm_cok = true := by decide +kernel
set_option maxRecDepth 1000000 in
theorem mm_kt_ok : mm_kt.all (fun e => decide (e.1 % 1000 + e.1 / 1000 * 1000 = e.1) && decide (Cond.constant (mm_cn (e.1 / 1000)) (e.1 % 1000) (Int32.ofNat e.2) ∈ mm_good)) = true := by decide +kernel
set_option maxRecDepth 1000000 in
theorem mm_arr_ok : Cond.arrayClass .int ∈ mm_good ∧ Cond.arrayClass .boolean ∈ mm_good ∧ True ∧ Cond.fieldLink RX6 216 "HandArchive" "LOCUS_PLACES" "[I" ∈ mm_good := by decide +kernel
theorem mm_good_in {w : Cond} (h : w ∈ mm_good) : w ∈ lw_tbl ∧ goodWord w = true := List.mem_filter.mp h
theorem mm_good_good (c : Cond) (hc : c ∈ mm_good) : GoodIn mm_good (c :: mm_good) := fun w hw => (List.mem_cons.mp hw).elim (fun e => by rw [e]; exact ⟨hc, good_of_word (mm_good_in hc).2⟩) (fun h => ⟨h, good_of_word (mm_good_in h).2⟩)
theorem mm_kd2 : ∀ y, y < 116 → mm_kd y = 2 → (mm_nm y).name = "<init>" := by decide +kernel
