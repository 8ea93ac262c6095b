/-! THE LIMIT of the mini machine over its fuel: an equation of its own, and an induction. -/
def mm_le (f g : Option mm_R) : Prop := ∀ r, f = some r → g = some r
theorem mm_le.rf (f : Option mm_R) : mm_le f f := fun _ h => h
def mm_fle (f g : mm_C) : Prop := ∀ y pc ls st σ, mm_le (f y pc ls st σ) (g y pc ls st σ)
noncomputable def mm_L : mm_C := fun y pc ls st σ =>
  @dite _ (∃ r, ∃ n, mm_run n y pc ls st σ = some r) (Classical.propDecidable _) (fun h => some (Classical.choose h)) (fun _ => none)
/-- all that grows with the fuel, and comes from a fuel -/
def mm_co (F : mm_C → Option mm_R) : Prop := (∀ f g, mm_fle f g → mm_le (F f) (F g)) ∧ ((∀ n, mm_fle (mm_run n) (mm_run (n + 1))) → ∀ r, F mm_L = some r → ∃ n, F (mm_run n) = some r)
theorem mm_run_up (hm : ∀ n, mm_fle (mm_run n) (mm_run (n + 1))) (n k : Nat) : mm_fle (mm_run n) (mm_run (n + k)) := by
  induction k with
  | zero => exact fun _ _ _ _ _ _ h => h
  | succ k ih => exact fun y pc ls st σ r h => hm (n + k) _ _ _ _ _ r (ih y pc ls st σ r h)
theorem mm_L_of (hm : ∀ n, mm_fle (mm_run n) (mm_run (n + 1))) {n y pc : Nat} {ls st : List Value} {σ : mm_S} {r : mm_R} (h : mm_run n y pc ls st σ = some r) : mm_L y pc ls st σ = some r := by
  have hx : ∃ r, ∃ n, mm_run n y pc ls st σ = some r := ⟨r, n, h⟩
  unfold mm_L
  rw [dif_pos hx]
  obtain ⟨n', h'⟩ := Classical.choose_spec hx
  have h1 := mm_run_up hm n n' y pc ls st σ _ h
  have h2 := mm_run_up hm n' n y pc ls st σ _ h'
  rw [Nat.add_comm] at h2
  rw [h1] at h2
  exact h2.symm
theorem mm_L_to {y pc : Nat} {ls st : List Value} {σ : mm_S} {r : mm_R} (h : mm_L y pc ls st σ = some r) : ∃ n, mm_run n y pc ls st σ = some r := by
  by_cases hx : ∃ r, ∃ n, mm_run n y pc ls st σ = some r
  · unfold mm_L at h
    rw [dif_pos hx] at h
    cases h
    exact Classical.choose_spec hx
  · unfold mm_L at h
    rw [dif_neg hx] at h
    cases h
theorem mm_co.const (x : Option mm_R) : mm_co (fun _ => x) := ⟨fun _ _ _ => mm_le.rf x, fun _ r h => ⟨0, h⟩⟩
theorem mm_co.recs (y pc : Nat) (ls st : List Value) (σ : mm_S) : mm_co (fun f => f y pc ls st σ) := ⟨fun f g h => h y pc ls st σ, fun _ r h => mm_L_to h⟩
theorem mm_co.ite {c : Prop} [Decidable c] {F G : mm_C → Option mm_R} (hF : mm_co F) (hG : mm_co G) : mm_co (fun f => if c then F f else G f) := by
  by_cases h : c
  · simpa only [if_pos h] using hF
  · simpa only [if_neg h] using hG
theorem mm_co.bind {α : Type} {o : Option α} {F : α → mm_C → Option mm_R} (hF : ∀ x, mm_co (F x)) : mm_co (fun f => o.bind fun x => F x f) := by
  cases o with
  | none => exact mm_co.const none
  | some x => exact hF x
theorem mm_co.p1 {st : List Value} {F : Int32 → List Value → mm_C → Option mm_R} (hF : ∀ a r, mm_co (F a r)) : mm_co (fun f => mm_p1 st fun a r => F a r f) := by
  unfold mm_p1; split
  · exact hF _ _
  · exact mm_co.const none
theorem mm_co.p2 {st : List Value} {F : Int32 → Int32 → List Value → mm_C → Option mm_R} (hF : ∀ a b r, mm_co (F a b r)) : mm_co (fun f => mm_p2 st fun a b r => F a b r f) := by
  unfold mm_p2; split
  · exact hF _ _ _
  · exact mm_co.const none
theorem mm_co.l2 {st : List Value} {F : Int64 → Int64 → List Value → mm_C → Option mm_R} (hF : ∀ a b r, mm_co (F a b r)) : mm_co (fun f => mm_l2 st fun a b r => F a b r f) := by
  unfold mm_l2; split
  · exact hF _ _ _
  · exact mm_co.const none
theorem mm_co.pr {st : List Value} {F : Nat → List Value → mm_C → Option mm_R} (hF : ∀ a r, mm_co (F a r)) : mm_co (fun f => mm_pr st fun a r => F a r f) := by
  unfold mm_pr; split
  · exact hF _ _
  · exact mm_co.const none
theorem mm_co.pi {st : List Value} {F : Nat → Int32 → List Value → mm_C → Option mm_R} (hF : ∀ a b r, mm_co (F a b r)) : mm_co (fun f => mm_pi st fun a b r => F a b r f) := by
  unfold mm_pi; split
  · exact hF _ _ _
  · exact mm_co.const none
theorem mm_co.pii {st : List Value} {F : Nat → Int32 → Int32 → List Value → mm_C → Option mm_R} (hF : ∀ a b c r, mm_co (F a b c r)) : mm_co (fun f => mm_pii st fun a b c r => F a b c r f) := by
  unfold mm_pii; split
  · exact hF _ _ _ _
  · exact mm_co.const none
theorem mm_co.pil {st : List Value} {F : Nat → Int32 → Int64 → List Value → mm_C → Option mm_R} (hF : ∀ a b c r, mm_co (F a b c r)) : mm_co (fun f => mm_pil st fun a b c r => F a b c r f) := by
  unfold mm_pil; split
  · exact hF _ _ _ _
  · exact mm_co.const none
theorem mm_co.pv {st : List Value} {F : Value → Nat → List Value → mm_C → Option mm_R} (hF : ∀ a b r, mm_co (F a b r)) : mm_co (fun f => mm_pv st fun a b r => F a b r f) := by
  unfold mm_pv; split
  · exact hF _ _ _
  · exact mm_co.const none
theorem mm_co.rr {st : List Value} {F : Nat → Nat → List Value → mm_C → Option mm_R} (hF : ∀ a b r, mm_co (F a b r)) : mm_co (fun f => mm_rr st fun a b r => F a b r f) := by
  unfold mm_rr; split
  · exact hF _ _ _
  · exact mm_co.const none
theorem mm_co.nl {st : List Value} {F G : List Value → mm_C → Option mm_R} (hF : ∀ r, mm_co (F r)) (hG : ∀ r, mm_co (G r)) : mm_co (fun f => mm_nl st (fun r => F r f) (fun r => G r f)) := by
  unfold mm_nl; split
  · exact hF _
  · exact hG _
  · exact mm_co.const none
theorem mm_co.s1 {st : List Value} {F : Value → List Value → mm_C → Option mm_R} (hF : ∀ a r, mm_co (F a r)) : mm_co (fun f => mm_s1 st fun a r => F a r f) := by
  unfold mm_s1; split
  · exact mm_co.ite (hF _ _) (mm_co.const none)
  · exact mm_co.const none
theorem mm_co.s2 {st : List Value} {F : Value → Value → List Value → mm_C → Option mm_R} (hF : ∀ a b r, mm_co (F a b r)) : mm_co (fun f => mm_s2 st fun a b r => F a b r f) := by
  unfold mm_s2; split
  · exact mm_co.ite (hF _ _ _) (mm_co.const none)
  · exact mm_co.const none
theorem mm_co.tg {pc : Nat} {off : Int} {F : Nat → mm_C → Option mm_R} (hF : ∀ t, mm_co (F t)) : mm_co (fun f => mm_tg pc off fun t => F t f) := by
  unfold mm_tg
  exact mm_co.ite (hF _) (mm_co.const none)
theorem mm_co.cif {c : ClassFile.Cond} {a b : Int32} {F G : mm_C → Option mm_R} (hF : mm_co F) (hG : mm_co G) : mm_co (fun f => mm_if c a b (F f) (G f)) := by
  unfold mm_if
  cases c
  · exact mm_co.ite hF hG
  · exact mm_co.ite hG hF
  · exact mm_co.ite hF hG
  · exact mm_co.ite hF hG
  · exact mm_co.ite hF hG
  · exact mm_co.ite hF hG
theorem mm_ret_le {r r' : Option mm_R} {k k' : Option Value → mm_S → Option mm_R} {x x' : Nat → mm_S → Option mm_R} (h : mm_le r r') (hk : ∀ v σ, mm_le (k v σ) (k' v σ)) (hx : ∀ v σ, mm_le (x v σ) (x' v σ)) : mm_le (mm_ret r k x) (mm_ret r' k' x') := by
  intro q hq
  match r, h, hq with
  | some (.inl v, σ), h, hq => rw [h _ rfl]; exact hk v σ q hq
  | some (.inr v, σ), h, hq => rw [h _ rfl]; exact hx v σ q hq
theorem mm_co.ret {F : mm_C → Option mm_R} {K : Option Value → mm_S → mm_C → Option mm_R} {X : Nat → mm_S → mm_C → Option mm_R} (hF : mm_co F) (hK : ∀ v σ, mm_co (K v σ)) (hX : ∀ v σ, mm_co (X v σ)) : mm_co (fun f => mm_ret (F f) (fun v σ => K v σ f) (fun v σ => X v σ f)) := by
  refine ⟨fun f g h => mm_ret_le (hF.1 f g h) (fun v σ => (hK v σ).1 f g h) (fun v σ => (hX v σ).1 f g h), fun hm r h => ?_⟩
  replace h : mm_ret (F mm_L) (fun v σ => K v σ mm_L) (fun v σ => X v σ mm_L) = some r := h
  cases hL : F mm_L with
  | none => rw [hL] at h; cases h
  | some q =>
    obtain ⟨n, hn⟩ := hF.2 hm q hL
    rw [hL] at h
    obtain ⟨o, σ⟩ := q
    cases o with
    | inl v =>
      obtain ⟨n', hn'⟩ := (hK v σ).2 hm r h
      refine ⟨n + n', ?_⟩
      have e := hF.1 _ _ (mm_run_up hm n n') _ hn
      have e' := (hK v σ).1 _ _ (mm_run_up hm n' n) _ hn'
      rw [Nat.add_comm n' n] at e'
      show mm_ret _ _ _ = _
      rw [e]
      exact e'
    | inr v =>
      obtain ⟨n', hn'⟩ := (hX v σ).2 hm r h
      refine ⟨n + n', ?_⟩
      have e := hF.1 _ _ (mm_run_up hm n n') _ hn
      have e' := (hX v σ).1 _ _ (mm_run_up hm n' n) _ hn'
      rw [Nat.add_comm n' n] at e'
      show mm_ret _ _ _ = _
      rw [e]
      exact e'
theorem mm_co.cat (y pc : Nat) (ls : List Value) (E : Nat) (σ : mm_S) : mm_co (fun f => mm_cat f y pc ls E σ) := by
  unfold mm_cat
  cases mm_hd (mm_lh mm_hhs y) pc E with
  | none => exact mm_co.ite (mm_co.const _) (mm_co.const _)
  | some h => exact mm_co.bind fun q => mm_co.ite (mm_co.recs _ _ _ _ _) (mm_co.const none)
theorem mm_co.call (y pc : Nat) (ls : List Value) (z : Nat) (As rest : List Value) (σ : mm_S) : mm_co (fun f => mm_call f y pc ls z As rest σ) := by
  unfold mm_call
  exact mm_co.ite (mm_co.ret (mm_co.recs _ _ _ _ _) (fun v σ => mm_co.recs _ _ _ _ _) (fun v σ => mm_co.ite (mm_co.const none) (mm_co.cat _ _ _ _ _))) (mm_co.const none)
theorem mm_co.lod (y pc : Nat) (ls : List Value) (n : Nat) (st : List Value) (σ : mm_S) (i : Bool) : mm_co (fun f => mm_lod f y pc ls n st σ i) := by
  unfold mm_lod
  exact mm_co.ite (mm_co.bind fun _ => mm_co.recs _ _ _ _ _) (mm_co.bind fun _ => mm_co.recs _ _ _ _ _)
theorem mm_co.sto (y pc : Nat) (ls : List Value) (n : Nat) (v : Value) (st : List Value) (σ : mm_S) : mm_co (fun f => mm_sto f y pc ls n v st σ) := by
  unfold mm_sto
  exact mm_co.ite (mm_co.recs _ _ _ _ _) (mm_co.const none)
theorem mm_co.inv (y pc : Nat) (ls st : List Value) (σ : mm_S) (z kd : Nat) : mm_co (fun f => mm_inv f y pc ls st σ z kd) := by
  unfold mm_inv
  exact mm_co.ite (mm_co.ite (mm_co.call _ _ _ _ _ _ _) (mm_co.pr fun _ _ => mm_co.bind fun _ => mm_co.ite (mm_co.call _ _ _ _ _ _ _) (mm_co.const none))) (mm_co.const none)
theorem mm_co.prim (y pc : Nat) (ls st : List Value) (σ : mm_S) (q : Nat) : mm_co (fun f => mm_prim f y pc ls st σ q) := by
  unfold mm_prim
  split <;> repeat' (first | exact mm_co.const none | exact mm_co.recs _ _ _ _ _ | refine mm_co.ite ?_ ?_ | refine mm_co.pr fun _ _ => ?_ | refine mm_co.p1 fun _ _ => ?_ | refine mm_co.p2 fun _ _ _ => ?_ | refine mm_co.pi fun _ _ _ => ?_ | refine mm_co.rr fun _ _ _ => ?_ | refine mm_co.bind fun _ => ?_)
theorem mm_co.ivk (y pc : Nat) (ls st : List Value) (σ : mm_S) (i kd lo hi : Nat) : mm_co (fun f => mm_ivk f y pc ls st σ i kd lo hi) := by
  unfold mm_ivk
  cases mm_lu mm_ivt y i with
  | none => exact mm_co.const _
  | some z => exact mm_co.ite (mm_co.inv _ _ _ _ _ _ _) (mm_co.ite (mm_co.prim _ _ _ _ _ _) (mm_co.const none))
set_option maxHeartbeats 4000000 in
theorem mm_co.step (y pc : Nat) (ls st : List Value) (σ : mm_S) (i : ClassFile.Instr) (len : Nat) : mm_co (fun f => mm_step f y pc ls st σ i len) := by
  cases i <;> simp only [mm_step] <;> repeat' (first | exact mm_co.const _ | exact mm_co.recs _ _ _ _ _ | exact mm_co.lod _ _ _ _ _ _ _ | exact mm_co.sto _ _ _ _ _ _ _ | exact mm_co.ivk _ _ _ _ _ _ _ _ _ | refine mm_co.ite ?_ ?_ | refine mm_co.p1 fun _ _ => ?_ | refine mm_co.p2 fun _ _ _ => ?_ | refine mm_co.l2 fun _ _ _ => ?_ | refine mm_co.pr fun _ _ => ?_ | refine mm_co.pi fun _ _ _ => ?_ | refine mm_co.pii fun _ _ _ _ => ?_ | refine mm_co.pil fun _ _ _ _ => ?_ | refine mm_co.pv fun _ _ _ => ?_ | refine mm_co.s1 fun _ _ => ?_ | refine mm_co.s2 fun _ _ _ => ?_ | refine mm_co.nl (fun _ => ?_) (fun _ => ?_) | refine mm_co.tg fun _ => ?_ | refine mm_co.cif ?_ ?_ | refine mm_co.bind fun _ => ?_ | split)
theorem mm_run_mono : ∀ n, mm_fle (mm_run n) (mm_run (n + 1))
  | 0 => fun _ _ _ _ _ r h => by cases h
  | n + 1 => fun y pc ls st σ r h => by
    have ih := mm_run_mono n
    simp only [mm_run] at h ⊢
    cases hd : decode (mm_by y) pc with
    | error e => rw [hd] at h; cases h
    | ok q =>
      rw [hd] at h
      exact (mm_co.step y pc ls st σ q.1 q.2).1 _ _ ih r h
theorem mm_runL (n : Nat) : mm_fle (mm_run n) mm_L := fun _ _ _ _ _ _ h => mm_L_of mm_run_mono h
/-- THE EQUATION -/
theorem mm_L_eq {y pc : Nat} {ls st : List Value} {σ : mm_S} {i : ClassFile.Instr} {len : Nat} (hd : decode (mm_by y) pc = .ok (i, len)) : mm_L y pc ls st σ = mm_step mm_L y pc ls st σ i len := by
  have hco := mm_co.step y pc ls st σ i len
  refine Option.ext fun r => ⟨fun h => ?_, fun h => ?_⟩
  · obtain ⟨n, hn⟩ := mm_L_to h
    cases n with
    | zero => cases hn
    | succ n =>
      simp only [mm_run, hd] at hn
      exact hco.1 _ _ (mm_runL n) r hn
  · obtain ⟨n, hn⟩ := hco.2 mm_run_mono r h
    refine mm_L_of mm_run_mono (n := n + 1) ?_
    simp only [mm_run, hd]
    exact hn
