/-! THE SIMULATION, an instruction at a time: what neither reads nor writes the heap -/
theorem mm_its {α : Type} {c : Prop} [Decidable c] {a : Option α} {r : α} (h : (if c then a else none) = some r) : c ∧ a = some r := by
  by_cases q : c
  · rw [if_pos q] at h; exact ⟨q, h⟩
  · rw [if_neg q] at h; cases h
theorem mm_itn {α : Type} {c : Prop} [Decidable c] {a : Option α} {r : α} (h : (if c then none else a) = some r) : ¬ c ∧ a = some r := by
  by_cases q : c
  · rw [if_pos q] at h; cases h
  · rw [if_neg q] at h; exact ⟨q, h⟩
theorem mm_bds {α β : Type} {a : Option α} {f : α → Option β} {r : β} (h : a.bind f = some r) : ∃ x, a = some x ∧ f x = some r := by
  cases a with
  | none => cases h
  | some x => exact ⟨x, rfl, h⟩
theorem mm_p1s {st : List Value} {k : Int32 → List Value → Option mm_R} {r : mm_R} (h : mm_p1 st k = some r) : ∃ a t, st = .int a :: t ∧ k a t = some r := by
  unfold mm_p1 at h; split at h
  · exact ⟨_, _, rfl, h⟩
  · cases h
theorem mm_p2s {st : List Value} {k : Int32 → Int32 → List Value → Option mm_R} {r : mm_R} (h : mm_p2 st k = some r) : ∃ a b t, st = .int b :: .int a :: t ∧ k a b t = some r := by
  unfold mm_p2 at h; split at h
  · exact ⟨_, _, _, rfl, h⟩
  · cases h
theorem mm_l2s {st : List Value} {k : Int64 → Int64 → List Value → Option mm_R} {r : mm_R} (h : mm_l2 st k = some r) : ∃ a b t, st = .long b :: .long a :: t ∧ k a b t = some r := by
  unfold mm_l2 at h; split at h
  · exact ⟨_, _, _, rfl, h⟩
  · cases h
theorem mm_prs {st : List Value} {k : Nat → List Value → Option mm_R} {r : mm_R} (h : mm_pr st k = some r) : ∃ a t, st = .ref a :: t ∧ k a t = some r := by
  unfold mm_pr at h; split at h
  · exact ⟨_, _, rfl, h⟩
  · cases h
theorem mm_pis {st : List Value} {k : Nat → Int32 → List Value → Option mm_R} {r : mm_R} (h : mm_pi st k = some r) : ∃ a i t, st = .int i :: .ref a :: t ∧ k a i t = some r := by
  unfold mm_pi at h; split at h
  · exact ⟨_, _, _, rfl, h⟩
  · cases h
theorem mm_piis {st : List Value} {k : Nat → Int32 → Int32 → List Value → Option mm_R} {r : mm_R} (h : mm_pii st k = some r) : ∃ a i x t, st = .int x :: .int i :: .ref a :: t ∧ k a i x t = some r := by
  unfold mm_pii at h; split at h
  · exact ⟨_, _, _, _, rfl, h⟩
  · cases h
theorem mm_pils {st : List Value} {k : Nat → Int32 → Int64 → List Value → Option mm_R} {r : mm_R} (h : mm_pil st k = some r) : ∃ a i x t, st = .long x :: .int i :: .ref a :: t ∧ k a i x t = some r := by
  unfold mm_pil at h; split at h
  · exact ⟨_, _, _, _, rfl, h⟩
  · cases h
theorem mm_pvs {st : List Value} {k : Value → Nat → List Value → Option mm_R} {r : mm_R} (h : mm_pv st k = some r) : ∃ v a t, st = v :: .ref a :: t ∧ k v a t = some r := by
  unfold mm_pv at h; split at h
  · exact ⟨_, _, _, rfl, h⟩
  · cases h
theorem mm_rrs {st : List Value} {k : Nat → Nat → List Value → Option mm_R} {r : mm_R} (h : mm_rr st k = some r) : ∃ v a t, st = .ref v :: .ref a :: t ∧ k v a t = some r := by
  unfold mm_rr at h; split at h
  · exact ⟨_, _, _, rfl, h⟩
  · cases h
theorem mm_s1s {st : List Value} {k : Value → List Value → Option mm_R} {r : mm_R} (h : mm_s1 st k = some r) : ∃ v t, st = v :: t ∧ mm_ok1 v = true ∧ k v t = some r := by
  unfold mm_s1 at h; split at h
  · obtain ⟨q, h⟩ := mm_its h; exact ⟨_, _, rfl, q, h⟩
  · cases h
theorem mm_s2s {st : List Value} {k : Value → Value → List Value → Option mm_R} {r : mm_R} (h : mm_s2 st k = some r) : ∃ v w t, st = v :: w :: t ∧ (mm_ok1 v = true ∧ mm_ok1 w = true) ∧ k v w t = some r := by
  unfold mm_s2 at h; split at h
  · obtain ⟨q, h⟩ := mm_its h; exact ⟨_, _, _, rfl, q, h⟩
  · cases h
theorem mm_tgs {pc : Nat} {off : Int} {k : Nat → Option mm_R} {r : mm_R} (h : mm_tg pc off k = some r) : ∃ t : Nat, (pc : Int) + off = (t : Int) ∧ k t = some r := by
  unfold mm_tg at h
  replace h := mm_its h
  obtain ⟨q, h⟩ := h
  exact ⟨_, (Int.toNat_of_nonneg q).symm, h⟩
theorem mm_cat1 {v : Value} (ι : Nat → Nat) (h : mm_ok1 v = true) : (mm_v ι v).category = 1 := by
  cases v <;> first | rfl | (cases h)
theorem mm_vcat (ι : Nat → Nat) (v : Value) : (mm_v ι v).category = v.category := by cases v <;> rfl
theorem mm_ST.tl {n : Nat} {v : Value} {st : List Value} (h : mm_ST n (v :: st)) : mm_ST n st := fun w hw => h w (List.mem_cons_of_mem _ hw)
theorem mm_ST.hd {n : Nat} {v : Value} {st : List Value} (h : mm_ST n (v :: st)) : mm_vv n v := h v List.mem_cons_self
theorem mm_ST.cn {n : Nat} {v : Value} {st : List Value} (hv : mm_vv n v) (h : mm_ST n st) : mm_ST n (v :: st) := fun w hw => (List.mem_cons.mp hw).elim (fun e => e ▸ hv) (h w)
theorem mm_ST.i {n : Nat} {x : Int32} {st : List Value} (h : mm_ST n st) : mm_ST n (.int x :: st) := h.cn trivial
theorem mm_ST.l {n : Nat} {x : Int64} {st : List Value} (h : mm_ST n st) : mm_ST n (.long x :: st) := h.cn trivial
section
variable {X : mm_X} {rec : mm_C} {y pc : Nat} {ls st : List Value} {σ σ' : mm_S} {o : Option Value ⊕ Nat} {len : Nat}
/-- a step that leaves heap and locals as they are -/
theorem mm_pure {pc' : Nat} {st' : List Value} (hr : mm_Sm X y pc' ls st' σ o σ') (hv : ∀ ι mls, mm_LR ι σ.2.1 ls (mm_mx y) mls → mm_ST σ.2.1 st → mm_ST σ.2.1 st')
    (hw : ∀ (K : mm_K) (H : Heap) (locs : List Loc) (cells slots : Nat) (Q : State → Prop) (mls : Array Slot) (ι η : Nat → Nat), mm_Fx K y → mm_G X (mm_Ks K) → mm_H X σ ι η (mm_Ks K) H → mm_LR ι σ.2.1 ls (mm_mx y) mls → mm_ST σ.2.1 st → (∀ z ∈ locs, mm_A X z.base) → (cells ≤ (mm_KR K).cells ∧ slots ≤ (mm_KR K).slots) →
      mm_W K H locs cells slots Q (F0 (mm_Km K) pc' mls (st'.map (mm_v ι))) → mm_W K H locs cells slots Q (F0 (mm_Km K) pc mls (st.map (mm_v ι)))) : mm_Sm X y pc ls st σ o σ' :=
  ⟨hr.1, fun K H locs cells slots mc ms mls ι η hF hG hH hL hst hlo hc hR => hw K H locs cells slots _ mls ι η hF hG hH hL hst hlo
    ⟨by have := hr.1.2.1; have := hc.1; have := hR.1; omega, by have := hr.1.2.2; have := hc.2; have := hR.2; omega⟩
    (hr.2 K H locs cells slots mc ms mls ι η hF hG hH hL (hv ι mls hL hst) hlo hc hR)⟩
/-- a step that leaves the heap as it is -/
theorem mm_loc {pc' : Nat} {ls' st' : List Value} (hr : mm_Sm X y pc' ls' st' σ o σ') (hv : mm_ST σ.2.1 st → mm_ST σ.2.1 st')
    (hw : ∀ (K : mm_K) (H : Heap) (locs : List Loc) (cells slots : Nat) (Q : State → Prop) (mls : Array Slot) (ι : Nat → Nat), mm_Fx K y → mm_LR ι σ.2.1 ls (mm_mx y) mls → mm_ST σ.2.1 st →
      (∀ mls', mm_LR ι σ.2.1 ls' (mm_mx y) mls' → mm_W K H locs cells slots Q (F0 (mm_Km K) pc' mls' (st'.map (mm_v ι)))) → mm_W K H locs cells slots Q (F0 (mm_Km K) pc mls (st.map (mm_v ι)))) : mm_Sm X y pc ls st σ o σ' :=
  ⟨hr.1, fun K H locs cells slots mc ms mls ι η hF hG hH hL hst hlo hc hR => hw K H locs cells slots _ mls ι hF hL hst
    (fun mls' hL' => hr.2 K H locs cells slots mc ms mls' ι η hF hG hH hL' (hv hst) hlo hc hR)⟩

theorem mm_s_iconst {n : Int} (hs : mm_Sim X rec) (hd : decode (mm_by y) pc = .ok (.iconst n, len)) (h : mm_step rec y pc ls st σ (.iconst n) len = some (o, σ')) : mm_Sm X y pc ls st σ o σ' := by
  simp only [mm_step] at h
  replace h := mm_its h
  obtain ⟨hlen, h⟩ := h
  subst hlen
  exact mm_pure (hs _ _ _ _ _ _ _ h) (fun _ _ _ q => q.i) (fun K H locs cells slots Q mls ι η hF _ _ _ _ _ _ k => lv_iconst hF.1 hF.2.1 hd rfl k)
theorem mm_s_bipush {n : Int} (hs : mm_Sim X rec) (hd : decode (mm_by y) pc = .ok (.bipush n, len)) (h : mm_step rec y pc ls st σ (.bipush n) len = some (o, σ')) : mm_Sm X y pc ls st σ o σ' := by
  simp only [mm_step] at h
  replace h := mm_its h
  obtain ⟨hlen, h⟩ := h
  subst hlen
  exact mm_pure (hs _ _ _ _ _ _ _ h) (fun _ _ _ q => q.i) (fun K H locs cells slots Q mls ι η hF _ _ _ _ _ _ k => lv_bipush hF.1 hF.2.1 hd rfl k)
theorem mm_s_sipush {n : Int} (hs : mm_Sim X rec) (hd : decode (mm_by y) pc = .ok (.sipush n, len)) (h : mm_step rec y pc ls st σ (.sipush n) len = some (o, σ')) : mm_Sm X y pc ls st σ o σ' := by
  simp only [mm_step] at h
  replace h := mm_its h
  obtain ⟨hlen, h⟩ := h
  subst hlen
  exact mm_pure (hs _ _ _ _ _ _ _ h) (fun _ _ _ q => q.i) (fun K H locs cells slots Q mls ι η hF _ _ _ _ _ _ k => lv_sipush hF.1 hF.2.1 hd rfl k)
theorem mm_s_lconst {n : Fin 2} (hs : mm_Sim X rec) (hd : decode (mm_by y) pc = .ok (.lconst n, len)) (h : mm_step rec y pc ls st σ (.lconst n) len = some (o, σ')) : mm_Sm X y pc ls st σ o σ' := by
  simp only [mm_step] at h
  replace h := mm_its h
  obtain ⟨hlen, h⟩ := h
  subst hlen
  exact mm_pure (hs _ _ _ _ _ _ _ h) (fun _ _ _ q => q.l) (fun K H locs cells slots Q mls ι η hF _ _ _ _ _ _ k => lv_lconst hF.1 hF.2.1 hd rfl k)
theorem mm_s_iadd (hs : mm_Sim X rec) (hd : decode (mm_by y) pc = .ok (.iadd, len)) (h : mm_step rec y pc ls st σ (.iadd) len = some (o, σ')) : mm_Sm X y pc ls st σ o σ' := by
  simp only [mm_step] at h
  replace h := mm_its h
  obtain ⟨hlen, h⟩ := h
  subst hlen
  replace h := mm_p2s h
  obtain ⟨a, b, t, rfl, h⟩ := h
  exact mm_pure (hs _ _ _ _ _ _ _ h) (fun _ _ _ q => q.tl.tl.i) (fun K H locs cells slots Q mls ι η hF _ _ _ _ _ _ k => lv_iadd hF.1 hF.2.1 hd  k)
theorem mm_s_isub (hs : mm_Sim X rec) (hd : decode (mm_by y) pc = .ok (.isub, len)) (h : mm_step rec y pc ls st σ (.isub) len = some (o, σ')) : mm_Sm X y pc ls st σ o σ' := by
  simp only [mm_step] at h
  replace h := mm_its h
  obtain ⟨hlen, h⟩ := h
  subst hlen
  replace h := mm_p2s h
  obtain ⟨a, b, t, rfl, h⟩ := h
  exact mm_pure (hs _ _ _ _ _ _ _ h) (fun _ _ _ q => q.tl.tl.i) (fun K H locs cells slots Q mls ι η hF _ _ _ _ _ _ k => lv_isub hF.1 hF.2.1 hd  k)
theorem mm_s_imul (hs : mm_Sim X rec) (hd : decode (mm_by y) pc = .ok (.imul, len)) (h : mm_step rec y pc ls st σ (.imul) len = some (o, σ')) : mm_Sm X y pc ls st σ o σ' := by
  simp only [mm_step] at h
  replace h := mm_its h
  obtain ⟨hlen, h⟩ := h
  subst hlen
  replace h := mm_p2s h
  obtain ⟨a, b, t, rfl, h⟩ := h
  exact mm_pure (hs _ _ _ _ _ _ _ h) (fun _ _ _ q => q.tl.tl.i) (fun K H locs cells slots Q mls ι η hF _ _ _ _ _ _ k => lv_imul hF.1 hF.2.1 hd  k)
theorem mm_s_iand (hs : mm_Sim X rec) (hd : decode (mm_by y) pc = .ok (.iand, len)) (h : mm_step rec y pc ls st σ (.iand) len = some (o, σ')) : mm_Sm X y pc ls st σ o σ' := by
  simp only [mm_step] at h
  replace h := mm_its h
  obtain ⟨hlen, h⟩ := h
  subst hlen
  replace h := mm_p2s h
  obtain ⟨a, b, t, rfl, h⟩ := h
  exact mm_pure (hs _ _ _ _ _ _ _ h) (fun _ _ _ q => q.tl.tl.i) (fun K H locs cells slots Q mls ι η hF _ _ _ _ _ _ k => lv_iand hF.1 hF.2.1 hd  k)
theorem mm_s_ior (hs : mm_Sim X rec) (hd : decode (mm_by y) pc = .ok (.ior, len)) (h : mm_step rec y pc ls st σ (.ior) len = some (o, σ')) : mm_Sm X y pc ls st σ o σ' := by
  simp only [mm_step] at h
  replace h := mm_its h
  obtain ⟨hlen, h⟩ := h
  subst hlen
  replace h := mm_p2s h
  obtain ⟨a, b, t, rfl, h⟩ := h
  exact mm_pure (hs _ _ _ _ _ _ _ h) (fun _ _ _ q => q.tl.tl.i) (fun K H locs cells slots Q mls ι η hF _ _ _ _ _ _ k => lv_ior hF.1 hF.2.1 hd  k)
theorem mm_s_ixor (hs : mm_Sim X rec) (hd : decode (mm_by y) pc = .ok (.ixor, len)) (h : mm_step rec y pc ls st σ (.ixor) len = some (o, σ')) : mm_Sm X y pc ls st σ o σ' := by
  simp only [mm_step] at h
  replace h := mm_its h
  obtain ⟨hlen, h⟩ := h
  subst hlen
  replace h := mm_p2s h
  obtain ⟨a, b, t, rfl, h⟩ := h
  exact mm_pure (hs _ _ _ _ _ _ _ h) (fun _ _ _ q => q.tl.tl.i) (fun K H locs cells slots Q mls ι η hF _ _ _ _ _ _ k => lv_ixor hF.1 hF.2.1 hd  k)
theorem mm_s_ishl (hs : mm_Sim X rec) (hd : decode (mm_by y) pc = .ok (.ishl, len)) (h : mm_step rec y pc ls st σ (.ishl) len = some (o, σ')) : mm_Sm X y pc ls st σ o σ' := by
  simp only [mm_step] at h
  replace h := mm_its h
  obtain ⟨hlen, h⟩ := h
  subst hlen
  replace h := mm_p2s h
  obtain ⟨a, b, t, rfl, h⟩ := h
  exact mm_pure (hs _ _ _ _ _ _ _ h) (fun _ _ _ q => q.tl.tl.i) (fun K H locs cells slots Q mls ι η hF _ _ _ _ _ _ k => lv_ishl hF.1 hF.2.1 hd  k)
theorem mm_s_ishr (hs : mm_Sim X rec) (hd : decode (mm_by y) pc = .ok (.ishr, len)) (h : mm_step rec y pc ls st σ (.ishr) len = some (o, σ')) : mm_Sm X y pc ls st σ o σ' := by
  simp only [mm_step] at h
  replace h := mm_its h
  obtain ⟨hlen, h⟩ := h
  subst hlen
  replace h := mm_p2s h
  obtain ⟨a, b, t, rfl, h⟩ := h
  exact mm_pure (hs _ _ _ _ _ _ _ h) (fun _ _ _ q => q.tl.tl.i) (fun K H locs cells slots Q mls ι η hF _ _ _ _ _ _ k => lv_ishr hF.1 hF.2.1 hd  k)
theorem mm_s_iushr (hs : mm_Sim X rec) (hd : decode (mm_by y) pc = .ok (.iushr, len)) (h : mm_step rec y pc ls st σ (.iushr) len = some (o, σ')) : mm_Sm X y pc ls st σ o σ' := by
  simp only [mm_step] at h
  replace h := mm_its h
  obtain ⟨hlen, h⟩ := h
  subst hlen
  replace h := mm_p2s h
  obtain ⟨a, b, t, rfl, h⟩ := h
  exact mm_pure (hs _ _ _ _ _ _ _ h) (fun _ _ _ q => q.tl.tl.i) (fun K H locs cells slots Q mls ι η hF _ _ _ _ _ _ k => lv_iushr hF.1 hF.2.1 hd rfl k)
theorem mm_s_idiv (hs : mm_Sim X rec) (hd : decode (mm_by y) pc = .ok (.idiv, len)) (h : mm_step rec y pc ls st σ (.idiv) len = some (o, σ')) : mm_Sm X y pc ls st σ o σ' := by
  simp only [mm_step] at h
  replace h := mm_its h
  obtain ⟨hlen, h⟩ := h
  subst hlen
  replace h := mm_p2s h
  obtain ⟨a, b, t, rfl, h⟩ := h
  replace h := mm_itn h
  obtain ⟨hne, h⟩ := h
  exact mm_pure (hs _ _ _ _ _ _ _ h) (fun _ _ _ q => q.tl.tl.i) (fun K H locs cells slots Q mls ι η hF _ _ _ _ _ _ k => lv_idiv hF.1 hF.2.1 hd hne k)
theorem mm_s_irem (hs : mm_Sim X rec) (hd : decode (mm_by y) pc = .ok (.irem, len)) (h : mm_step rec y pc ls st σ (.irem) len = some (o, σ')) : mm_Sm X y pc ls st σ o σ' := by
  simp only [mm_step] at h
  replace h := mm_its h
  obtain ⟨hlen, h⟩ := h
  subst hlen
  replace h := mm_p2s h
  obtain ⟨a, b, t, rfl, h⟩ := h
  replace h := mm_itn h
  obtain ⟨hne, h⟩ := h
  exact mm_pure (hs _ _ _ _ _ _ _ h) (fun _ _ _ q => q.tl.tl.i) (fun K H locs cells slots Q mls ι η hF _ _ _ _ _ _ k => lv_irem hF.1 hF.2.1 hd hne k)
theorem mm_s_ineg (hs : mm_Sim X rec) (hd : decode (mm_by y) pc = .ok (.ineg, len)) (h : mm_step rec y pc ls st σ (.ineg) len = some (o, σ')) : mm_Sm X y pc ls st σ o σ' := by
  simp only [mm_step] at h
  replace h := mm_its h
  obtain ⟨hlen, h⟩ := h
  subst hlen
  replace h := mm_p1s h
  obtain ⟨a, t, rfl, h⟩ := h
  exact mm_pure (hs _ _ _ _ _ _ _ h) (fun _ _ _ q => q.tl.i) (fun K H locs cells slots Q mls ι η hF _ _ _ _ _ _ k => lv_ineg hF.1 hF.2.1 hd k)
theorem mm_s_i2l (hs : mm_Sim X rec) (hd : decode (mm_by y) pc = .ok (.i2l, len)) (h : mm_step rec y pc ls st σ (.i2l) len = some (o, σ')) : mm_Sm X y pc ls st σ o σ' := by
  simp only [mm_step] at h
  replace h := mm_its h
  obtain ⟨hlen, h⟩ := h
  subst hlen
  replace h := mm_p1s h
  obtain ⟨a, t, rfl, h⟩ := h
  exact mm_pure (hs _ _ _ _ _ _ _ h) (fun _ _ _ q => q.tl.l) (fun K H locs cells slots Q mls ι η hF _ _ _ _ _ _ k => lv_i2l hF.1 hF.2.1 hd rfl k)
theorem mm_s_lcmp (hs : mm_Sim X rec) (hd : decode (mm_by y) pc = .ok (.lcmp, len)) (h : mm_step rec y pc ls st σ (.lcmp) len = some (o, σ')) : mm_Sm X y pc ls st σ o σ' := by
  simp only [mm_step] at h
  replace h := mm_its h
  obtain ⟨hlen, h⟩ := h
  subst hlen
  replace h := mm_l2s h
  obtain ⟨a, b, t, rfl, h⟩ := h
  exact mm_pure (hs _ _ _ _ _ _ _ h) (fun _ _ _ q => q.tl.tl.i) (fun K H locs cells slots Q mls ι η hF _ _ _ _ _ _ k => W.lcmp hF.1 hF.2.1 hd k)
theorem mm_s_aconst_null (hs : mm_Sim X rec) (hd : decode (mm_by y) pc = .ok (.aconst_null, len)) (h : mm_step rec y pc ls st σ (.aconst_null) len = some (o, σ')) : mm_Sm X y pc ls st σ o σ' := by
  simp only [mm_step] at h
  replace h := mm_its h
  obtain ⟨hlen, h⟩ := h
  subst hlen
  exact mm_pure (hs _ _ _ _ _ _ _ h) (fun _ _ _ q => q.cn trivial) (fun K H locs cells slots Q mls ι η hF _ _ _ _ _ _ k => lv_null hF.1 hF.2.1 hd k)
theorem mm_s_dup (hs : mm_Sim X rec) (hd : decode (mm_by y) pc = .ok (.dup, len)) (h : mm_step rec y pc ls st σ (.dup) len = some (o, σ')) : mm_Sm X y pc ls st σ o σ' := by
  simp only [mm_step] at h
  replace h := mm_its h
  obtain ⟨hlen, h⟩ := h
  subst hlen
  replace h := mm_s1s h
  obtain ⟨v, t, rfl, hv, h⟩ := h
  exact mm_pure (hs _ _ _ _ _ _ _ h) (fun _ _ _ q => q.cn q.hd) (fun K H locs cells slots Q mls ι η hF _ _ _ _ _ _ k => lv_dup hF.1 hF.2.1 hd (mm_cat1 ι hv) k)
theorem mm_s_pop (hs : mm_Sim X rec) (hd : decode (mm_by y) pc = .ok (.pop, len)) (h : mm_step rec y pc ls st σ (.pop) len = some (o, σ')) : mm_Sm X y pc ls st σ o σ' := by
  simp only [mm_step] at h
  replace h := mm_its h
  obtain ⟨hlen, h⟩ := h
  subst hlen
  replace h := mm_s1s h
  obtain ⟨v, t, rfl, hv, h⟩ := h
  exact mm_pure (hs _ _ _ _ _ _ _ h) (fun _ _ _ q => q.tl) (fun K H locs cells slots Q mls ι η hF _ _ _ _ _ _ k => lv_pop hF.1 hF.2.1 hd (mm_cat1 ι hv) k)
theorem mm_s_dup_x1 (hs : mm_Sim X rec) (hd : decode (mm_by y) pc = .ok (.dup_x1, len)) (h : mm_step rec y pc ls st σ (.dup_x1) len = some (o, σ')) : mm_Sm X y pc ls st σ o σ' := by
  simp only [mm_step] at h
  replace h := mm_its h
  obtain ⟨hlen, h⟩ := h
  subst hlen
  replace h := mm_s2s h
  obtain ⟨v, w, t, rfl, ⟨hv, hv'⟩, h⟩ := h
  exact mm_pure (hs _ _ _ _ _ _ _ h) (fun _ _ _ q => ((q.tl.tl.cn q.hd).cn q.tl.hd).cn q.hd) (fun K H locs cells slots Q mls ι η hF _ _ _ _ _ _ k => lv_dup_x1 hF.1 hF.2.1 hd (mm_cat1 ι hv) (mm_cat1 ι hv') k)
theorem mm_s_dup2 (hs : mm_Sim X rec) (hd : decode (mm_by y) pc = .ok (.dup2, len)) (h : mm_step rec y pc ls st σ (.dup2) len = some (o, σ')) : mm_Sm X y pc ls st σ o σ' := by
  simp only [mm_step] at h
  replace h := mm_its h
  obtain ⟨hlen, h⟩ := h
  subst hlen
  replace h := mm_s2s h
  obtain ⟨v, w, t, rfl, ⟨hv, hv'⟩, h⟩ := h
  exact mm_pure (hs _ _ _ _ _ _ _ h) (fun _ _ _ q => (q.cn q.tl.hd).cn q.hd) (fun K H locs cells slots Q mls ι η hF _ _ _ _ _ _ k => lv_dup2_11 hF.1 hF.2.1 hd (mm_cat1 ι hv) (mm_cat1 ι hv') k)
theorem mm_s_goto {off : Int} (hs : mm_Sim X rec) (hd : decode (mm_by y) pc = .ok (.goto off, len)) (h : mm_step rec y pc ls st σ (.goto off) len = some (o, σ')) : mm_Sm X y pc ls st σ o σ' := by
  simp only [mm_step] at h
  replace h := mm_its h
  obtain ⟨hlen, h⟩ := h
  subst hlen
  replace h := mm_tgs h
  obtain ⟨t, ht, h⟩ := h
  exact mm_pure (hs _ _ _ _ _ _ _ h) (fun _ _ _ q => q) (fun K H locs cells slots Q mls ι η hF _ _ _ _ _ _ k => lv_goto hF.1 hF.2.1 hd ht k)
/-- a branch: one of the two goes on -/
theorem mm_ifs {c : Prop} [Decidable c] {a b : Option mm_R} {r : mm_R} (h : (if c then a else b) = some r) : (c ∧ a = some r) ∨ (¬ c ∧ b = some r) := by
  by_cases q : c
  · rw [if_pos q] at h; exact Or.inl ⟨q, h⟩
  · rw [if_neg q] at h; exact Or.inr ⟨q, h⟩

theorem mm_s_ifCond {c : ClassFile.Cond} {off : Int} (hs : mm_Sim X rec) (hd : decode (mm_by y) pc = .ok (.ifCond c off, len)) (h : mm_step rec y pc ls st σ (.ifCond c off) len = some (o, σ')) : mm_Sm X y pc ls st σ o σ' := by
  simp only [mm_step] at h
  replace h := mm_its h
  obtain ⟨hlen, h⟩ := h
  subst hlen
  replace h := mm_p1s h
  obtain ⟨a, r, rfl, h⟩ := h
  replace h := mm_tgs h
  obtain ⟨t, ht, h⟩ := h
  cases c with
  | eq =>
    replace h := mm_ifs h
    rcases h with ⟨hc, h⟩ | ⟨hc, h⟩
    · exact mm_pure (hs _ _ _ _ _ _ _ h) (fun _ _ _ q => q.tl) (fun K H locs cells slots Q mls ι η hF _ _ _ _ _ _ k => lv_if_eq hF.1 hF.2.1 hd ht (fun _ => k) (fun z => absurd hc z))
    · exact mm_pure (hs _ _ _ _ _ _ _ h) (fun _ _ _ q => q.tl) (fun K H locs cells slots Q mls ι η hF _ _ _ _ _ _ k => lv_if_eq hF.1 hF.2.1 hd ht (fun z => absurd z hc) (fun _ => k))
  | ne =>
    replace h := mm_ifs h
    rcases h with ⟨hc, h⟩ | ⟨hc, h⟩
    · exact mm_pure (hs _ _ _ _ _ _ _ h) (fun _ _ _ q => q.tl) (fun K H locs cells slots Q mls ι η hF _ _ _ _ _ _ k => lv_if_ne hF.1 hF.2.1 hd ht (fun z => absurd hc z) (fun _ => k))
    · exact mm_pure (hs _ _ _ _ _ _ _ h) (fun _ _ _ q => q.tl) (fun K H locs cells slots Q mls ι η hF _ _ _ _ _ _ k => lv_if_ne hF.1 hF.2.1 hd ht (fun _ => k) (fun z => absurd z hc))
  | lt =>
    replace h := mm_ifs h
    rcases h with ⟨hc, h⟩ | ⟨hc, h⟩
    · exact mm_pure (hs _ _ _ _ _ _ _ h) (fun _ _ _ q => q.tl) (fun K H locs cells slots Q mls ι η hF _ _ _ _ _ _ k => lv_if_lt hF.1 hF.2.1 hd ht (fun _ => k) (fun z => absurd hc z))
    · exact mm_pure (hs _ _ _ _ _ _ _ h) (fun _ _ _ q => q.tl) (fun K H locs cells slots Q mls ι η hF _ _ _ _ _ _ k => lv_if_lt hF.1 hF.2.1 hd ht (fun z => absurd z hc) (fun _ => k))
  | ge =>
    replace h := mm_ifs h
    rcases h with ⟨hc, h⟩ | ⟨hc, h⟩
    · exact mm_pure (hs _ _ _ _ _ _ _ h) (fun _ _ _ q => q.tl) (fun K H locs cells slots Q mls ι η hF _ _ _ _ _ _ k => lv_if_ge hF.1 hF.2.1 hd ht (fun _ => k) (fun z => absurd hc z))
    · exact mm_pure (hs _ _ _ _ _ _ _ h) (fun _ _ _ q => q.tl) (fun K H locs cells slots Q mls ι η hF _ _ _ _ _ _ k => lv_if_ge hF.1 hF.2.1 hd ht (fun z => absurd z hc) (fun _ => k))
  | gt =>
    replace h := mm_ifs h
    rcases h with ⟨hc, h⟩ | ⟨hc, h⟩
    · exact mm_pure (hs _ _ _ _ _ _ _ h) (fun _ _ _ q => q.tl) (fun K H locs cells slots Q mls ι η hF _ _ _ _ _ _ k => lv_if_gt hF.1 hF.2.1 hd ht (fun _ => k) (fun z => absurd hc z))
    · exact mm_pure (hs _ _ _ _ _ _ _ h) (fun _ _ _ q => q.tl) (fun K H locs cells slots Q mls ι η hF _ _ _ _ _ _ k => lv_if_gt hF.1 hF.2.1 hd ht (fun z => absurd z hc) (fun _ => k))
  | le =>
    replace h := mm_ifs h
    rcases h with ⟨hc, h⟩ | ⟨hc, h⟩
    · exact mm_pure (hs _ _ _ _ _ _ _ h) (fun _ _ _ q => q.tl) (fun K H locs cells slots Q mls ι η hF _ _ _ _ _ _ k => lv_if_le hF.1 hF.2.1 hd ht (fun _ => k) (fun z => absurd hc z))
    · exact mm_pure (hs _ _ _ _ _ _ _ h) (fun _ _ _ q => q.tl) (fun K H locs cells slots Q mls ι η hF _ _ _ _ _ _ k => lv_if_le hF.1 hF.2.1 hd ht (fun z => absurd z hc) (fun _ => k))
theorem mm_s_if_icmp {c : ClassFile.Cond} {off : Int} (hs : mm_Sim X rec) (hd : decode (mm_by y) pc = .ok (.if_icmp c off, len)) (h : mm_step rec y pc ls st σ (.if_icmp c off) len = some (o, σ')) : mm_Sm X y pc ls st σ o σ' := by
  simp only [mm_step] at h
  replace h := mm_its h
  obtain ⟨hlen, h⟩ := h
  subst hlen
  replace h := mm_p2s h
  obtain ⟨a, b, r, rfl, h⟩ := h
  replace h := mm_tgs h
  obtain ⟨t, ht, h⟩ := h
  cases c with
  | eq =>
    replace h := mm_ifs h
    rcases h with ⟨hc, h⟩ | ⟨hc, h⟩
    · exact mm_pure (hs _ _ _ _ _ _ _ h) (fun _ _ _ q => q.tl.tl) (fun K H locs cells slots Q mls ι η hF _ _ _ _ _ _ k => lv_icmp_eq hF.1 hF.2.1 hd ht (fun _ => k) (fun z => absurd hc z))
    · exact mm_pure (hs _ _ _ _ _ _ _ h) (fun _ _ _ q => q.tl.tl) (fun K H locs cells slots Q mls ι η hF _ _ _ _ _ _ k => lv_icmp_eq hF.1 hF.2.1 hd ht (fun z => absurd z hc) (fun _ => k))
  | ne =>
    replace h := mm_ifs h
    rcases h with ⟨hc, h⟩ | ⟨hc, h⟩
    · exact mm_pure (hs _ _ _ _ _ _ _ h) (fun _ _ _ q => q.tl.tl) (fun K H locs cells slots Q mls ι η hF _ _ _ _ _ _ k => lv_icmp_ne hF.1 hF.2.1 hd ht (fun z => absurd hc z) (fun _ => k))
    · exact mm_pure (hs _ _ _ _ _ _ _ h) (fun _ _ _ q => q.tl.tl) (fun K H locs cells slots Q mls ι η hF _ _ _ _ _ _ k => lv_icmp_ne hF.1 hF.2.1 hd ht (fun _ => k) (fun z => absurd z hc))
  | lt =>
    replace h := mm_ifs h
    rcases h with ⟨hc, h⟩ | ⟨hc, h⟩
    · exact mm_pure (hs _ _ _ _ _ _ _ h) (fun _ _ _ q => q.tl.tl) (fun K H locs cells slots Q mls ι η hF _ _ _ _ _ _ k => lv_icmp_lt hF.1 hF.2.1 hd ht (fun _ => k) (fun z => absurd hc z))
    · exact mm_pure (hs _ _ _ _ _ _ _ h) (fun _ _ _ q => q.tl.tl) (fun K H locs cells slots Q mls ι η hF _ _ _ _ _ _ k => lv_icmp_lt hF.1 hF.2.1 hd ht (fun z => absurd z hc) (fun _ => k))
  | ge =>
    replace h := mm_ifs h
    rcases h with ⟨hc, h⟩ | ⟨hc, h⟩
    · exact mm_pure (hs _ _ _ _ _ _ _ h) (fun _ _ _ q => q.tl.tl) (fun K H locs cells slots Q mls ι η hF _ _ _ _ _ _ k => lv_icmp_ge hF.1 hF.2.1 hd ht (fun _ => k) (fun z => absurd hc z))
    · exact mm_pure (hs _ _ _ _ _ _ _ h) (fun _ _ _ q => q.tl.tl) (fun K H locs cells slots Q mls ι η hF _ _ _ _ _ _ k => lv_icmp_ge hF.1 hF.2.1 hd ht (fun z => absurd z hc) (fun _ => k))
  | gt =>
    replace h := mm_ifs h
    rcases h with ⟨hc, h⟩ | ⟨hc, h⟩
    · exact mm_pure (hs _ _ _ _ _ _ _ h) (fun _ _ _ q => q.tl.tl) (fun K H locs cells slots Q mls ι η hF _ _ _ _ _ _ k => lv_icmp_gt hF.1 hF.2.1 hd ht (fun _ => k) (fun z => absurd hc z))
    · exact mm_pure (hs _ _ _ _ _ _ _ h) (fun _ _ _ q => q.tl.tl) (fun K H locs cells slots Q mls ι η hF _ _ _ _ _ _ k => lv_icmp_gt hF.1 hF.2.1 hd ht (fun z => absurd z hc) (fun _ => k))
  | le =>
    replace h := mm_ifs h
    rcases h with ⟨hc, h⟩ | ⟨hc, h⟩
    · exact mm_pure (hs _ _ _ _ _ _ _ h) (fun _ _ _ q => q.tl.tl) (fun K H locs cells slots Q mls ι η hF _ _ _ _ _ _ k => lv_icmp_le hF.1 hF.2.1 hd ht (fun _ => k) (fun z => absurd hc z))
    · exact mm_pure (hs _ _ _ _ _ _ _ h) (fun _ _ _ q => q.tl.tl) (fun K H locs cells slots Q mls ι η hF _ _ _ _ _ _ k => lv_icmp_le hF.1 hF.2.1 hd ht (fun z => absurd z hc) (fun _ => k))
theorem mm_s_ifnull {off : Int} (hs : mm_Sim X rec) (hd : decode (mm_by y) pc = .ok (.ifnull off, len)) (h : mm_step rec y pc ls st σ (.ifnull off) len = some (o, σ')) : mm_Sm X y pc ls st σ o σ' := by
  simp only [mm_step] at h
  replace h := mm_its h
  obtain ⟨hlen, h⟩ := h
  subst hlen
  unfold mm_nl at h
  split at h
  · replace h := mm_tgs h
    obtain ⟨t, ht, h⟩ := h
    exact mm_pure (hs _ _ _ _ _ _ _ h) (fun _ _ _ q => q.tl) (fun K H locs cells slots Q mls ι η hF _ _ _ _ _ _ k => lv_ifnullN hF.1 hF.2.1 hd ht k)
  · exact mm_pure (hs _ _ _ _ _ _ _ h) (fun _ _ _ q => q.tl) (fun K H locs cells slots Q mls ι η hF _ _ _ _ _ _ k => lv_ifnull hF.1 hF.2.1 hd k)
  · cases h
theorem mm_s_tableswitch {d lo hi : Int} {offs : Array Int} (hs : mm_Sim X rec) (hd : decode (mm_by y) pc = .ok (.tableswitch d lo hi offs, len)) (h : mm_step rec y pc ls st σ (.tableswitch d lo hi offs) len = some (o, σ')) : mm_Sm X y pc ls st σ o σ' := by
  simp only [mm_step] at h
  replace h := mm_p1s h
  obtain ⟨a, r, rfl, h⟩ := h
  replace h := mm_ifs h
  rcases h with ⟨hc, h⟩ | ⟨hc, h⟩
  · replace h := mm_tgs h
    obtain ⟨t, ht, h⟩ := h
    exact mm_pure (hs _ _ _ _ _ _ _ h) (fun _ _ _ q => q.tl) (fun K H locs cells slots Q mls ι η hF _ _ _ _ _ _ k => lv_tableOut hF.1 hF.2.1 hd hc ht k)
  · replace h := mm_bds h
    obtain ⟨off, ho, h⟩ := h
    replace h := mm_tgs h
    obtain ⟨t, ht, h⟩ := h
    exact mm_pure (hs _ _ _ _ _ _ _ h) (fun _ _ _ q => q.tl) (fun K H locs cells slots Q mls ι η hF _ _ _ _ _ _ k => lv_tableIn hF.1 hF.2.1 hd (fun z => hc (Or.inl z)) (fun z => hc (Or.inr z)) ho ht k)
theorem mm_s_lookupswitch {d : Int} {ps : Array (Int × Int)} (hs : mm_Sim X rec) (hd : decode (mm_by y) pc = .ok (.lookupswitch d ps, len)) (h : mm_step rec y pc ls st σ (.lookupswitch d ps) len = some (o, σ')) : mm_Sm X y pc ls st σ o σ' := by
  simp only [mm_step] at h
  replace h := mm_p1s h
  obtain ⟨a, r, rfl, h⟩ := h
  replace h := mm_its h
  obtain ⟨hp, h⟩ := h
  replace h := mm_tgs h
  obtain ⟨t, ht, h⟩ := h
  exact mm_pure (hs _ _ _ _ _ _ _ h) (fun _ _ _ q => q.tl) (fun K H locs cells slots Q mls ι η hF _ _ _ _ _ _ k => lv_lookup hF.1 hF.2.1 hd hp rfl ht k)
-- locals
theorem mm_lvis {n : Nat} {x : Int32} (h : mm_lvi ls n = some x) : ls[n]? = some (.int x) := by
  unfold mm_lvi at h; split at h
  · rename_i q; cases h; exact q
  · cases h
theorem mm_lvrs {n : Nat} {v : Value} (h : mm_lvr ls n = some v) : ls[n]? = some v ∧ (v = .null ∨ ∃ a, v = .ref a) := by
  unfold mm_lvr at h; split at h
  · rename_i q; cases h; exact ⟨q, Or.inr ⟨_, rfl⟩⟩
  · rename_i q; cases h; exact ⟨q, Or.inl rfl⟩
  · cases h
theorem mm_LR.int {ι : Nat → Nat} {n nL i : Nat} {x : Int32} {mls : Array Slot} (h : mm_LR ι n ls nL mls) (hi : ls[i]? = some (.int x)) : mls[i]? = some (.val (.int x)) := (h.2.2.2 i _ hi rfl).1
theorem mm_lod_s {pc' n : Nat} {b : Bool} (hs : mm_Sim X rec) (h : mm_lod rec y pc' ls n st σ b = some (o, σ'))
    (h1 : b = true → ∀ (K : mm_K) (H : Heap) (locs : List Loc) (cells slots : Nat) (Q : State → Prop) (mls : Array Slot) (tl : List Value) (x : Int32), mm_Fx K y → mls[n]? = some (.val (.int x)) → mm_W K H locs cells slots Q (F0 (mm_Km K) pc' mls (.int x :: tl)) → mm_W K H locs cells slots Q (F0 (mm_Km K) pc mls tl))
    (h2 : b = false → ∀ (K : mm_K) (H : Heap) (locs : List Loc) (cells slots : Nat) (Q : State → Prop) (mls : Array Slot) (tl : List Value) (x : Nat), mm_Fx K y → mls[n]? = some (.val (.ref x)) → mm_W K H locs cells slots Q (F0 (mm_Km K) pc' mls (.ref x :: tl)) → mm_W K H locs cells slots Q (F0 (mm_Km K) pc mls tl))
    (h3 : b = false → ∀ (K : mm_K) (H : Heap) (locs : List Loc) (cells slots : Nat) (Q : State → Prop) (mls : Array Slot) (tl : List Value), mm_Fx K y → mls[n]? = some (.val .null) → mm_W K H locs cells slots Q (F0 (mm_Km K) pc' mls (.null :: tl)) → mm_W K H locs cells slots Q (F0 (mm_Km K) pc mls tl)) : mm_Sm X y pc ls st σ o σ' := by
  unfold mm_lod at h
  replace h := mm_ifs h
  rcases h with ⟨hb, h⟩ | ⟨hb, h⟩
  · replace h := mm_bds h
    obtain ⟨x, hx, h⟩ := h
    exact mm_pure (hs _ _ _ _ _ _ _ h) (fun _ _ _ q => q.i) (fun K H locs cells slots Q mls ι η hF _ _ hL _ _ _ k => h1 hb K H locs cells slots Q mls _ x hF (hL.int (mm_lvis hx)) k)
  · have hb' : b = false := by cases b <;> simp_all
    replace h := mm_bds h
    obtain ⟨v, hx, h⟩ := h
    obtain ⟨hv, rfl | ⟨a, rfl⟩⟩ := mm_lvrs hx
    · exact mm_pure (hs _ _ _ _ _ _ _ h) (fun _ _ _ q => q.cn trivial) (fun K H locs cells slots Q mls ι η hF _ _ hL _ _ _ k => h3 hb' K H locs cells slots Q mls _ hF (hL.2.2.2 n _ hv rfl).1 k)
    · exact mm_pure (hs _ _ _ _ _ _ _ h) (fun ι mls hL q => q.cn (hL.2.2.2 n _ hv rfl).2) (fun K H locs cells slots Q mls ι η hF _ _ hL _ _ _ k => h2 hb' K H locs cells slots Q mls _ (ι a) hF (hL.2.2.2 n _ hv rfl).1 k)
theorem mm_s_iload_n {n : Fin 4} (hs : mm_Sim X rec) (hd : decode (mm_by y) pc = .ok (.iload_n n, len)) (h : mm_step rec y pc ls st σ (.iload_n n) len = some (o, σ')) : mm_Sm X y pc ls st σ o σ' := by
  simp only [mm_step] at h
  replace h := mm_its h
  obtain ⟨hlen, h⟩ := h
  subst hlen
  exact mm_lod_s hs h (fun _ K H locs cells slots Q mls tl x hF hl k => lv_iload_n hF.1 hF.2.1 hd rfl hl k) (fun q => by cases q) (fun q => by cases q)
theorem mm_s_iload {n : Nat} (hs : mm_Sim X rec) (hd : decode (mm_by y) pc = .ok (.iload n, len)) (h : mm_step rec y pc ls st σ (.iload n) len = some (o, σ')) : mm_Sm X y pc ls st σ o σ' := by
  simp only [mm_step] at h
  replace h := mm_its h
  obtain ⟨hlen, h⟩ := h
  subst hlen
  exact mm_lod_s hs h (fun _ K H locs cells slots Q mls tl x hF hl k => lv_iload hF.1 hF.2.1 hd hl k) (fun q => by cases q) (fun q => by cases q)
theorem mm_s_aload_n {n : Fin 4} (hs : mm_Sim X rec) (hd : decode (mm_by y) pc = .ok (.aload_n n, len)) (h : mm_step rec y pc ls st σ (.aload_n n) len = some (o, σ')) : mm_Sm X y pc ls st σ o σ' := by
  simp only [mm_step] at h
  replace h := mm_its h
  obtain ⟨hlen, h⟩ := h
  subst hlen
  exact mm_lod_s hs h (fun q => by cases q) (fun _ K H locs cells slots Q mls tl x hF hl k => lv_aload_n hF.1 hF.2.1 hd rfl hl k) (fun _ K H locs cells slots Q mls tl hF hl k => lv_aload_nN hF.1 hF.2.1 hd rfl hl k)
theorem mm_s_aload {n : Nat} (hs : mm_Sim X rec) (hd : decode (mm_by y) pc = .ok (.aload n, len)) (h : mm_step rec y pc ls st σ (.aload n) len = some (o, σ')) : mm_Sm X y pc ls st σ o σ' := by
  simp only [mm_step] at h
  replace h := mm_its h
  obtain ⟨hlen, h⟩ := h
  subst hlen
  exact mm_lod_s hs h (fun q => by cases q) (fun _ K H locs cells slots Q mls tl x hF hl k => lv_aload hF.1 hF.2.1 hd hl k) (fun _ K H locs cells slots Q mls tl hF hl k => lv_aloadN hF.1 hF.2.1 hd hl k)
end
