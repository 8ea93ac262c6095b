/-! THE SIMULATION: objects and arrays -/
theorem mm_at.kept {X : mm_X} {ι η : Nat → Nat} {U : State} {k : Nat} {o : mm_O} {H H1 : Heap} (h : mm_at X ι η U k o H) (h1 : H1[ι k]? = H[ι k]?) (h2 : ∀ l, o = .inr (.inr (.inr l)) → η k ≠ X.2.2.1.1 → H1[η k]? = H[η k]?) : mm_at X ι η U k o H1 := by
  rcases o with ⟨ci, fs⟩ | ⟨kd, n, f⟩ | ⟨n, f⟩ | l
  · obtain ⟨r, a, b, c⟩ := h
    exact ⟨r, a, b, c.kept h1⟩
  · match kd, h with
    | 0, h => exact ⟨h1.trans h.1, h.2⟩
    | 1, h => exact ⟨h1.trans h.1, h.2⟩
    | kd + 2, h =>
      obtain ⟨cell, a, b⟩ := h
      exact ⟨cell, h1.trans a, b⟩
  · exact h
  · obtain ⟨hl, mc, a, b⟩ := h
    refine ⟨hl, mc, a.kept h1, ?_⟩
    rcases b with b | ⟨b1, b2, cap, g, c1, c0, c2, c3, c4⟩
    · exact Or.inl b
    · exact Or.inr ⟨b1, b2, cap, g, c1, c0, c2, (h2 l rfl b1).trans c3, c4⟩
theorem mm_at.ext {X : mm_X} {ι ι' η : Nat → Nat} {U : State} {n k : Nat} {o : mm_O} {H : Heap} (h : mm_at X ι η U k o H) (he : ∀ i, i < n → ι' i = ι i) (hk : k < n) (ho : mm_ov n o) : mm_at X ι' η U k o H := by
  rcases o with ⟨ci, fs⟩ | ⟨kd, n', f⟩ | ⟨n', f⟩ | l
  · obtain ⟨r, a, b, c⟩ := h
    refine ⟨r, a, b, ?_⟩
    rw [he k hk, mm_st_ext (st := fs) he ho]
    exact c
  · match kd, h with
    | 0, h => exact ⟨by rw [he k hk]; exact h.1, h.2⟩
    | 1, h => exact ⟨by rw [he k hk]; exact h.1, h.2⟩
    | kd + 2, h =>
      obtain ⟨cell, a, b⟩ := h
      exact ⟨cell, by rw [he k hk]; exact a, b⟩
  · exact h
  · obtain ⟨hl, mc, a, b⟩ := h
    refine ⟨hl, mc, by rw [he k hk]; exact a, ?_⟩
    rcases b with b | ⟨b1, b2, cap, g, c1, c0, c2, c3, c4⟩
    · exact Or.inl b
    · exact Or.inr ⟨b1, b2, cap, g, c1, c0, c2, c3, fun j hj => by rw [c4 j hj, he _ (ho _ (List.getElem_mem hj))]⟩
theorem mm_at.moved {X : mm_X} {ι η : Nat → Nat} {u U : State} {k : Nat} {o : mm_O} {H : Heap} (hA : u.vm.Alike U.vm) (h : mm_at X ι η u k o H) : mm_at X ι η U k o H := by
  rcases o with ⟨ci, fs⟩ | ⟨kd, n', f⟩ | ⟨n', f⟩ | l
  · exact h
  · match kd, h with
    | 0, h => exact h
    | 1, h => exact h
    | kd + 2, h =>
      obtain ⟨cell, a, b, c⟩ := h
      exact ⟨cell, a, State.isArrayOf_alike hA b, c⟩
  · exact h
  · exact h
theorem mm_H.moved {X : mm_X} {σ : mm_S} {ι η : Nat → Nat} {u U : State} {H : Heap} (hA : u.vm.Alike U.vm) (hU : U.heap = H) (h : mm_H X σ ι η u H) : mm_H X σ ι η U H :=
  ⟨h.1, h.2.1, h.2.2.1, h.2.2.2.1, h.2.2.2.2.1, fun k o hk => ⟨(h.2.2.2.2.2.1 k o hk).1, (h.2.2.2.2.2.1 k o hk).2.1, (h.2.2.2.2.2.1 k o hk).2.2.1, (h.2.2.2.2.2.1 k o hk).2.2.2.moved hA⟩, h.2.2.2.2.2.2.1, by rw [hU]; exact ⟨Nat.le_refl _, h.1.1, h.1.2⟩⟩
theorem mm_H.grow {X : mm_X} {σ : mm_S} {ι η : Nat → Nat} {U : State} {H H1 : Heap} (h : mm_H X σ ι η U H) (z : H.size ≤ H1.size) (oq : ∀ q : Nat, q < H.size → H1[q]? = H[q]?) : mm_H X σ ι η U H1 := by
  obtain ⟨⟨a1, a2⟩, b, c, d, e, f, g, u⟩ := h
  refine ⟨⟨by omega, fun q hq => (oq q (by omega)).trans (a2 q hq)⟩, b, fun i hi => by have := c i hi; omega, d, e, fun k o hk => ?_, g, by omega, u.2⟩
  obtain ⟨f1, f2, f3, f4⟩ := f k o hk
  refine ⟨f1, f2, f3, f4.kept (oq _ (c k f1)) fun l hl hn => oq _ ?_⟩
  subst hl
  obtain ⟨-, -, -, w⟩ := f4
  rcases w with w | ⟨-, -, cap, gg, -, -, -, w, -⟩
  · exact absurd w.1 hn
  · exact (Array.getElem?_eq_some_iff.mp w).1
theorem mm_ov.mono {n n' : Nat} {o : mm_O} (hn : n ≤ n') (h : mm_ov n o) : mm_ov n' o := by
  rcases o with ⟨ci, fs⟩ | ⟨kd, n', f⟩ | ⟨n', f⟩ | l
  · exact fun v hv => (h v hv).mono hn
  · trivial
  · trivial
  · exact fun a ha => Nat.lt_of_lt_of_le (h a ha) hn
def mm_il (o : mm_O) : Bool := match o with
  | .inr (.inr (.inr _)) => true
  | _ => false
/-- an object that is no list is written -/
theorem mm_H.put {X : mm_X} {σ : mm_S} {ι η : Nat → Nat} {U : State} {H H1 : Heap} {k : Nat} {o0 o : mm_O} (h : mm_H X σ ι η U H) (h0 : σ.1 k = some o0) (hr0 : mm_ro o0 = false) (hl0 : mm_il o0 = false) (hr : mm_ro o = false) (hl : mm_il o = false) (hv : mm_ov σ.2.1 o)
    (z : H1.size = H.size) (oq : ∀ q : Nat, q ≠ ι k → H1[q]? = H[q]?) (ha : mm_at X ι η U k o H1) : mm_H X (mm_put σ k o) ι η U H1 := by
  obtain ⟨⟨a1, a2⟩, b, c, d, e, f, g, u⟩ := h
  obtain ⟨k1, k2, k3, k4⟩ := f k o0 h0
  have k5 := k3 hr0
  have k6 := d k k5 k1
  have hne : ∀ l, o0 ≠ .inr (.inr (.inr l)) := fun l q => by rw [q] at hl0; cases hl0
  have hne' : ∀ l, o ≠ .inr (.inr (.inr l)) := fun l q => by rw [q] at hl; cases hl
  have hput : ∀ j, (mm_put σ k o).1 j = if j = k then some o else σ.1 j := fun j => rfl
  refine ⟨⟨by rw [z]; exact a1, fun q hq => by rw [oq q (by omega)]; exact a2 q hq⟩, b, fun i hi => by rw [z]; exact c i hi, d, e, fun j o' hj => ?_, fun j l hj hn => ?_, by rw [z]; exact u.1, u.2⟩
  · rw [hput] at hj
    by_cases q : j = k
    · rw [if_pos q] at hj
      cases hj
      subst q
      exact ⟨k1, hv, fun _ => k5, ha⟩
    · rw [if_neg q] at hj
      obtain ⟨f1, f2, f3, f4⟩ := f j o' hj
      refine ⟨f1, f2, f3, f4.kept (oq _ fun w => q (b j k f1 k1 k5 w)) fun l hl' hn => oq _ fun w => ?_⟩
      subst hl'
      exact (g j l hj hn).1 k k1 w.symm
  · rw [hput] at hj
    by_cases q : j = k
    · rw [if_pos q] at hj
      exact absurd (Option.some.inj hj) (hne' l)
    · rw [if_neg q] at hj
      obtain ⟨g1, g2⟩ := g j l hj hn
      refine ⟨g1, fun k' l' hk' hh => ?_⟩
      rw [hput] at hk'
      by_cases q' : k' = k
      · rw [if_pos q'] at hk'
        exact absurd (Option.some.inj hk') (hne' l')
      · rw [if_neg q'] at hk'
        exact g2 k' l' hk' hh
/-- a thing that is no list is made -/
theorem mm_H.new {X : mm_X} {σ : mm_S} {ι η : Nat → Nat} {U : State} {H H1 : Heap} {o : mm_O} {n : Nat} (h : mm_H X σ ι η U H) (hl : mm_il o = false) (hv : mm_ov (σ.2.1 + 1) o)
    (z : H1.size = H.size + 1) (oq : ∀ q : Nat, q < H.size → H1[q]? = H[q]?) (ha : mm_at X (fun j => if j = σ.2.1 then H.size else ι j) η U σ.2.1 o H1) : mm_H X (mm_new σ o n) (fun j => if j = σ.2.1 then H.size else ι j) η U H1 := by
  obtain ⟨⟨a1, a2⟩, b, c, d, e, f, g, u⟩ := h
  have hne' : ∀ l, o ≠ .inr (.inr (.inr l)) := fun l q => by rw [q] at hl; cases hl
  have hput : ∀ j, (mm_new σ o n).1 j = if j = σ.2.1 then some o else σ.1 j := fun j => rfl
  have hnx : (mm_new σ o n).2.1 = σ.2.1 + 1 := rfl
  have hi1 : ∀ i, i < σ.2.1 → (fun j => if j = σ.2.1 then H.size else ι j) i = ι i := fun i hi => if_neg (by omega)
  have hi2 : (fun j => if j = σ.2.1 then H.size else ι j) σ.2.1 = H.size := if_pos rfl
  generalize hι' : (fun j => if j = σ.2.1 then H.size else ι j) = ι' at ha hi1 hi2 ⊢
  refine ⟨⟨by rw [z]; omega, fun q hq => by rw [oq q (by omega)]; exact a2 q hq⟩, ?_, ?_, ?_, ?_, fun j o' hj => ?_, fun j l hj hn => ?_, by omega, u.2⟩
  · rw [hnx]
    intro i j hi hj hj2 q
    rcases Nat.lt_or_ge i σ.2.1 with hi' | hi' <;> rcases Nat.lt_or_ge j σ.2.1 with hj' | hj'
    · rw [hi1 i hi', hi1 j hj'] at q; exact b i j hi' hj' hj2 q
    · have : j = σ.2.1 := by omega
      subst this
      rw [hi1 i hi', hi2] at q
      have := c i hi'; omega
    · have : i = σ.2.1 := by omega
      subst this
      rw [hi1 j hj', hi2] at q
      have := c j hj'; omega
    · omega
  · rw [hnx]
    intro i hi
    rcases Nat.lt_or_ge i σ.2.1 with hi' | hi'
    · rw [hi1 i hi', z]; have := c i hi'; omega
    · have : i = σ.2.1 := by omega
      subst this
      rw [hi2, z]; omega
  · rw [hnx]
    intro i h2 hi
    rcases Nat.lt_or_ge i σ.2.1 with hi' | hi'
    · rw [hi1 i hi']; exact d i h2 hi'
    · have : i = σ.2.1 := by omega
      subst this
      rw [hi2]; exact a1
  · rw [hnx]
    exact ⟨by omega, by rw [hi1 1 (by omega)]; exact e.2⟩
  · rw [hput] at hj
    rw [hnx]
    by_cases q : j = σ.2.1
    · rw [if_pos q] at hj
      cases hj
      subst q
      exact ⟨by omega, hv, fun _ => e.1, ha⟩
    · rw [if_neg q] at hj
      obtain ⟨f1, f2, f3, f4⟩ := f j o' hj
      refine ⟨by omega, f2.mono (by omega), f3, ((f4.kept (oq _ (c j f1)) fun l hl' hn => oq _ ?_).ext hi1 f1 f2)⟩
      subst hl'
      obtain ⟨-, -, -, w⟩ := f4
      rcases w with w | ⟨-, -, cap, gg, -, -, -, w, -⟩
      · exact absurd w.1 hn
      · exact (Array.getElem?_eq_some_iff.mp w).1
  · rw [hput] at hj
    by_cases q : j = σ.2.1
    · rw [if_pos q] at hj
      exact absurd (Option.some.inj hj) (hne' l)
    · rw [if_neg q] at hj
      obtain ⟨g1, g2⟩ := g j l hj hn
      obtain ⟨-, -, -, f4⟩ := f j _ hj
      refine ⟨fun i hi => ?_, fun k' l' hk' hh => ?_⟩
      · rw [hnx] at hi
        rcases Nat.lt_or_ge i σ.2.1 with hi' | hi'
        · rw [hi1 i hi']; exact g1 i hi'
        · have : i = σ.2.1 := by omega
          subst this
          rw [hi2]
          intro w
          obtain ⟨-, -, -, r⟩ := f4
          rcases r with r | ⟨-, -, cap, gg, -, -, -, r, -⟩
          · exact hn r.1
          · have := (Array.getElem?_eq_some_iff.mp r).1; omega
      · rw [hput] at hk'
        by_cases q' : k' = σ.2.1
        · rw [if_pos q'] at hk'
          exact absurd (Option.some.inj hk') (hne' l')
        · rw [if_neg q'] at hk'
          exact g2 k' l' hk' hh
section
variable {X : mm_X} {rec : mm_C} {y pc : Nat} {ls st : List Value} {σ σ' : mm_S} {o : Option Value ⊕ Nat} {len : Nat}
theorem mm_cls_at {ci : Nat} {r : vw_C} (h : mm_cls[ci]? = some r) : (∀ w ∈ u_ws r.1 r.2.1 r.2.2, w ∈ mm_good) ∧ r.1 = mm_cn ci ∧ ((mm_dfl[ci]?).getD []).length = r.2.2 ∧ ci < 9 := by
  have hlt : ci < 9 := (List.getElem?_eq_some_iff.mp h).1
  have h1 := List.all_eq_true.mp mm_cls_ok ci (List.mem_range.mpr hlt)
  rw [h] at h1
  obtain ⟨C, T, N⟩ := r
  simp only [Bool.and_eq_true, decide_eq_true_eq, List.all_eq_true] at h1
  exact ⟨h1.1.1, h1.1.2, h1.2, hlt⟩
theorem mm_flds {a ci k : Nat} {v : Value} (h : mm_fld σ a ci k = some v) : ∃ fs, σ.1 a = some (.inl (ci, fs)) ∧ fs[k]? = some v := by
  unfold mm_fld at h
  split at h
  · rename_i c fs q
    replace h := mm_its h
    obtain ⟨e, h⟩ := h
    subst e
    exact ⟨fs, q, h⟩
  · cases h
theorem mm_getis {a ci k : Nat} {x : Int32} (h : mm_geti σ a ci k = some x) : mm_fld σ a ci k = some (.int x) := by
  unfold mm_geti at h
  split at h
  · rename_i q; cases h; exact q
  · cases h
theorem mm_getrs {a ci k : Nat} {v : Value} (h : mm_getr σ a ci k = some v) : mm_fld σ a ci k = some v := by
  unfold mm_getr at h
  split at h
  · rename_i q; cases h; exact q
  · rename_i q; cases h; exact q
  · cases h
/-- a field is read -/
theorem mm_rd {K : mm_K} {H : Heap} {locs : List Loc} {cells slots : Nat} {Q : State → Prop} {mls : Array Slot} {ι η : Nat → Nat} {a n d : Nat} {v : Value} {tl : List Value} (hd : decode (mm_by y) pc = .ok (.getfield n, 3)) (hF : mm_Fx K y) (hG : mm_G X (mm_Ks K)) (hH : mm_H X σ ι η (mm_Ks K) H)
    (hu : mm_lu mm_fdt y n = some d) (hf : mm_fld σ a (d / 1000) (d / 10 % 100) = some v) (k : mm_W K H locs cells slots Q (F0 (mm_Km K) (pc + 3) mls (mm_v ι v :: tl))) : mm_W K H locs cells slots Q (F0 (mm_Km K) pc mls (.ref (ι a) :: tl)) := by
  obtain ⟨hi, hk⟩ := mm_lu_of hu _ mm_fdt_ok
  obtain ⟨fs, h1, h2⟩ := mm_flds hf
  obtain ⟨-, -, -, r, hr, hlen, hob⟩ := hH.2.2.2.2.2.1 a _ h1
  unfold mm_fok at hk
  simp only [mm_k1 hi, mm_k2 hi, hr] at hk
  obtain ⟨C, T, N⟩ := r
  simp only [Bool.and_eq_true, Bool.or_eq_true, decide_eq_true_eq] at hk
  obtain ⟨hin, hC, -, -⟩ := mm_cls_at hr
  obtain ⟨⟨⟨⟨⟨hN, hw⟩, -⟩, -⟩, -⟩, -⟩ := hk
  have hP : va_P X.1 mm_cls [(ι a, .inr (d / 1000, fs.map (mm_v ι)))] H := fun i q hq => by
    have hz : i < 1 := (List.getElem?_eq_some_iff.mp hq).1
    rw [show i = 0 by omega] at hq
    cases hq
    exact ⟨_, hr, hob⟩
  have hK : va_K X.1 mm_cls [] (mm_Ks K) := ⟨hG.1, fun k q h => by simp at h⟩
  have hv : (fs.map (mm_v ι))[d / 10 % 100]? = some (mm_v ι v) := by rw [List.getElem?_map, h2]; rfl
  rcases hw with hw | ⟨hw, -⟩
  · exact va_get (D := X.1) (ci := d / 1000) (C := C) (T := T) (N := N) hF.1 hF.2.1 hF.2.2.2.2.1 hin hF.2.2.2.1 hK hP 0 rfl hr _ hN (hF.2.2.2.2.1 _ hw) (fun _ q => q) hv hd k
  · exact va_getN (D := X.1) (ci := d / 1000) (C := C) (T := T) (N := N) hF.1 hF.2.1 hF.2.2.2.2.1 hin hF.2.2.2.1 hK hP 0 rfl hr _ hN (va_Nw.use rfl (hG.2.2.2.2.1 _ (List.mem_append_left _ hw))) (fun _ q => q) hv hd k
theorem mm_s_getfield {n : Nat} (hs : mm_Sim X rec) (hd : decode (mm_by y) pc = .ok (.getfield n, len)) (h : mm_step rec y pc ls st σ (.getfield n) len = some (o, σ')) : mm_Sm X y pc ls st σ o σ' := by
  simp only [mm_step] at h
  replace h := mm_its h
  obtain ⟨hlen, h⟩ := h
  subst hlen
  replace h := mm_bds h
  obtain ⟨d, hu, h⟩ := h
  replace h := mm_prs h
  obtain ⟨a, t, rfl, h⟩ := h
  replace h := mm_ifs h
  rcases h with ⟨hc, h⟩ | ⟨hc, h⟩
  · replace h := mm_bds h
    obtain ⟨v, hv, h⟩ := h
    have hf := mm_getrs hv
    refine ⟨(hs _ _ _ _ _ _ _ h).1, fun K H locs cells slots mc ms mls ι η hF hG hH hL hst hlo hcc hR => ?_⟩
    have hvv : mm_vv σ.2.1 v := by
      obtain ⟨fs, h1, h2⟩ := mm_flds hf
      exact (hH.2.2.2.2.2.1 a _ h1).2.1 v (List.mem_of_getElem? h2)
    exact mm_rd hd hF hG hH hu hf ((hs _ _ _ _ _ _ _ h).2 K H locs cells slots mc ms mls ι η hF hG hH hL (hst.tl.cn hvv) hlo hcc hR)
  · replace h := mm_bds h
    obtain ⟨v, hv, h⟩ := h
    have hf := mm_getis hv
    refine ⟨(hs _ _ _ _ _ _ _ h).1, fun K H locs cells slots mc ms mls ι η hF hG hH hL hst hlo hcc hR => ?_⟩
    exact mm_rd hd hF hG hH hu hf ((hs _ _ _ _ _ _ _ h).2 K H locs cells slots mc ms mls ι η hF hG hH hL hst.tl.i hlo hcc hR)
theorem mm_cis {a c : Nat} (h : mm_ci σ a = some c) : ∃ fs, σ.1 a = some (.inl (c, fs)) := by
  unfold mm_ci at h
  split at h
  · rename_i q; cases h; exact ⟨_, q⟩
  · cases h
/-- the cell of an object of a class -/
theorem mm_cell {ι η : Nat → Nat} {s : State} {H : Heap} {a c : Nat} {fs : List Value} (hG : mm_G X s) (hH : mm_H X σ ι η s H) (h : σ.1 a = some (.inl (c, fs))) : ∃ cell : Cell, H[ι a]? = some cell ∧ cell.vm.isStatics = false ∧ s.vm.findClass (mm_cn c) = some cell.cls := by
  obtain ⟨-, -, -, r, hr, hlen, cell, q1, q2, q3, q4⟩ := hH.2.2.2.2.2.1 a _ h
  obtain ⟨-, hC, -, -⟩ := mm_cls_at hr
  exact ⟨cell, q1, by rw [q3]; rfl, by rw [← hC, q2]; exact (hG.1 c r hr).2.1⟩
theorem mm_s_checkcast {n : Nat} (hs : mm_Sim X rec) (hd : decode (mm_by y) pc = .ok (.checkcast n, len)) (h : mm_step rec y pc ls st σ (.checkcast n) len = some (o, σ')) : mm_Sm X y pc ls st σ o σ' := by
  simp only [mm_step] at h
  replace h := mm_its h
  obtain ⟨hlen, h⟩ := h
  subst hlen
  replace h := mm_bds h
  obtain ⟨c, hu, h⟩ := h
  replace h := mm_prs h
  obtain ⟨a, t, rfl, h⟩ := h
  replace h := mm_bds h
  obtain ⟨c', hc, h⟩ := h
  replace h := mm_its h
  obtain ⟨hcc, h⟩ := h
  subst hcc
  obtain ⟨fs, hfs⟩ := mm_cis hc
  obtain ⟨hi, hk⟩ := mm_lu_of hu _ mm_cct_ok
  unfold mm_cok at hk
  simp only [mm_k1 hi, mm_k2 hi, Bool.and_eq_true, decide_eq_true_eq] at hk
  exact mm_pure (hs _ _ _ _ _ _ _ h) (fun _ _ _ q => q) (fun K H locs cells slots Q mls ι η hF hG hH _ _ _ _ k => by
    obtain ⟨-, -, -, r, hr, -, -⟩ := hH.2.2.2.2.2.1 a _ hfs
    obtain ⟨-, hC, -, -⟩ := mm_cls_at hr
    have hat : ClassAt (mm_Ks K) (mm_cn c') (X.1.1 c') := by rw [← hC]; exact (hG.1 c' r hr).2
    exact va_castS hF.1 hF.2.1 hF.2.2.2.1 (hF.2.2.2.2.1 _ hk.2) hat (mm_cell hG hH hfs) hd k)
theorem mm_lens {a n : Nat} (h : mm_len σ a = some n) : (∃ kd f, σ.1 a = some (.inr (.inl (kd, n, f)))) ∨ ∃ f, σ.1 a = some (.inr (.inr (.inl (n, f)))) := by
  unfold mm_len at h
  split at h
  · rename_i x q; cases h; exact Or.inl ⟨x.1, x.2.2, q⟩
  · rename_i x q; cases h; exact Or.inr ⟨x.2, q⟩
  · cases h
theorem mm_s_arraylength (hs : mm_Sim X rec) (hd : decode (mm_by y) pc = .ok (.arraylength, len)) (h : mm_step rec y pc ls st σ (.arraylength) len = some (o, σ')) : mm_Sm X y pc ls st σ o σ' := by
  simp only [mm_step] at h
  replace h := mm_its h
  obtain ⟨hlen, h⟩ := h
  subst hlen
  replace h := mm_prs h
  obtain ⟨a, t, rfl, h⟩ := h
  replace h := mm_bds h
  obtain ⟨n, hn, h⟩ := h
  exact mm_pure (hs _ _ _ _ _ _ _ h) (fun _ _ _ q => q.tl.i) (fun K H locs cells slots Q mls ι η hF hG hH _ _ _ _ k => by
    rcases mm_lens hn with ⟨kd, f, hf⟩ | ⟨f, hf⟩
    · obtain ⟨-, -, -, hat⟩ := hH.2.2.2.2.2.1 a _ hf
      match kd, hat with
      | 0, hat => exact W.alen (n := Int32.ofNat n) hF.1 hF.2.1 hat.1 (hG.2.1.1 n (fun j => .int (f j))) (by rw [arrV_size]) rfl rfl hd k
      | 1, hat => exact W.alen (n := Int32.ofNat n) hF.1 hF.2.1 hat.1 (hG.2.2.1.1 n (fun j => .int (f j))) (by rw [arrV_size]) rfl rfl hd k
      | kd + 2, hat =>
        obtain ⟨cell, c1, c2, c3, c4, c5⟩ := hat
        exact W.alen (n := Int32.ofNat n) hF.1 hF.2.1 c1 c2 (by rw [c4]) rfl rfl hd k
    · obtain ⟨-, -, -, hat⟩ := hH.2.2.2.2.2.1 a _ hf
      exact (show False from hat).elim)
theorem mm_arrs {a : Nat} {x : Nat × Nat × (Nat → Int32)} (h : mm_arr σ a = some x) : σ.1 a = some (.inr (.inl x)) := by
  unfold mm_arr at h
  split at h
  · rename_i q; cases h; exact q
  · cases h
theorem mm_lars {a : Nat} {x : Nat × (Nat → Int64)} (h : mm_lar σ a = some x) : σ.1 a = some (.inr (.inr (.inl x))) := by
  unfold mm_lar at h
  split at h
  · rename_i q; cases h; exact q
  · cases h
theorem mm_s_iaload (hs : mm_Sim X rec) (hd : decode (mm_by y) pc = .ok (.iaload, len)) (h : mm_step rec y pc ls st σ (.iaload) len = some (o, σ')) : mm_Sm X y pc ls st σ o σ' := by
  simp only [mm_step] at h
  replace h := mm_its h
  obtain ⟨hlen, h⟩ := h
  subst hlen
  replace h := mm_pis h
  obtain ⟨a, i, t, rfl, h⟩ := h
  replace h := mm_bds h
  obtain ⟨x, hx, h⟩ := h
  unfold mm_ald at hx
  obtain ⟨⟨kd, n, f⟩, hz, hx⟩ := mm_bds hx
  obtain ⟨hin, hx⟩ := mm_itn hx
  obtain ⟨hkd, hx⟩ := mm_its hx
  cases hx
  have hlt : i.toNatClampNeg < n := Nat.not_le.mp fun q => hin (Or.inr q)
  exact mm_pure (hs _ _ _ _ _ _ _ h) (fun _ _ _ q => q.tl.tl.i) (fun K H locs cells slots Q mls ι η hF hG hH _ _ _ _ k => by
    obtain ⟨-, -, -, hat⟩ := hH.2.2.2.2.2.1 a _ (mm_arrs hz)
    match kd, hkd, hat with
    | 0, _, hat => exact W.iald (v := .int (f i.toNatClampNeg)) hF.1 hF.2.1 hat.1 (hG.2.1.1 n (fun j => .int (f j))) (fun q => by cases q) (by show ¬ (i < 0 ∨ (arrV _ _ _).slots.size ≤ _); rw [arrV_size]; exact hin) (by show (arrV _ _ _).slots[_]? = _; rw [arrV_read _ _ hlt]) rfl rfl hd k
    | 1, hkd, hat => cases hkd
    | kd + 2, _, hat =>
      obtain ⟨cell, c1, c2, c3, c4, c5⟩ := hat
      exact W.iald (v := .int (f i.toNatClampNeg)) hF.1 hF.2.1 c1 c2 c3 (by rw [c4]; exact hin) (c5 _ hlt) rfl rfl hd k)
theorem mm_s_baload (hs : mm_Sim X rec) (hd : decode (mm_by y) pc = .ok (.baload, len)) (h : mm_step rec y pc ls st σ (.baload) len = some (o, σ')) : mm_Sm X y pc ls st σ o σ' := by
  simp only [mm_step] at h
  replace h := mm_its h
  obtain ⟨hlen, h⟩ := h
  subst hlen
  replace h := mm_pis h
  obtain ⟨a, i, t, rfl, h⟩ := h
  replace h := mm_bds h
  obtain ⟨x, hx, h⟩ := h
  unfold mm_ald at hx
  obtain ⟨⟨kd, n, f⟩, hz, hx⟩ := mm_bds hx
  obtain ⟨hin, hx⟩ := mm_itn hx
  obtain ⟨hkd, hx⟩ := mm_its hx
  cases hx
  have hlt : i.toNatClampNeg < n := Nat.not_le.mp fun q => hin (Or.inr q)
  have hk1 : kd = 1 := by simpa using hkd
  subst hk1
  exact mm_pure (hs _ _ _ _ _ _ _ h) (fun _ _ _ q => q.tl.tl.i) (fun K H locs cells slots Q mls ι η hF hG hH _ _ _ _ k => by
    obtain ⟨-, -, -, hat⟩ := hH.2.2.2.2.2.1 a _ (mm_arrs hz)
    exact W.zald (v := .int (f i.toNatClampNeg)) hF.1 hF.2.1 hat.1 (hG.2.2.1.1 n (fun j => .int (f j))) (fun q => by cases q) (by show ¬ (i < 0 ∨ (arrV _ _ _).slots.size ≤ _); rw [arrV_size]; exact hin) (by show (arrV _ _ _).slots[_]? = _; rw [arrV_read _ _ hlt]) rfl rfl hd k)
theorem mm_s_laload (hs : mm_Sim X rec) (hd : decode (mm_by y) pc = .ok (.laload, len)) (h : mm_step rec y pc ls st σ (.laload) len = some (o, σ')) : mm_Sm X y pc ls st σ o σ' := by
  simp only [mm_step] at h
  replace h := mm_its h
  obtain ⟨hlen, h⟩ := h
  subst hlen
  replace h := mm_pis h
  obtain ⟨a, i, t, rfl, h⟩ := h
  replace h := mm_bds h
  obtain ⟨⟨n, f⟩, hz, h⟩ := h
  replace h := mm_itn h
  obtain ⟨hin, h⟩ := h
  have hlt : i.toNatClampNeg < n := Nat.not_le.mp fun q => hin (Or.inr q)
  exact mm_pure (hs _ _ _ _ _ _ _ h) (fun _ _ _ q => q.tl.tl.l) (fun K H locs cells slots Q mls ι η hF hG hH _ _ _ _ k => by
    obtain ⟨-, -, -, hat⟩ := hH.2.2.2.2.2.1 a _ (mm_lars hz)
    exact (show False from hat).elim)
/-- a step that writes an object that is no list -/
theorem mm_wr {pc' a : Nat} {st' : List Value} {o0 o1 : mm_O} (hr : mm_Sm X y pc' ls st' (mm_put σ a o1) o σ') (hv : mm_ST σ.2.1 st → mm_ST σ.2.1 st') (h0 : σ.1 a = some o0) (hr0 : mm_ro o0 = false) (hl0 : mm_il o0 = false) (hr1 : mm_ro o1 = false) (hl1 : mm_il o1 = false) (hov : mm_ST σ.2.1 st → mm_ov σ.2.1 o0 → mm_ov σ.2.1 o1)
    (hw : ∀ (K : mm_K) (H : Heap) (locs : List Loc) (cells slots : Nat) (Q : State → Prop) (mls : Array Slot) (ι η : Nat → Nat), mm_Fx K y → mm_G X (mm_Ks K) → mm_at X ι η (mm_Ks K) a o0 H → mm_ST σ.2.1 st →
      (∀ (H1 : Heap) (j : Nat), H1.size = H.size → (∀ q : Nat, q ≠ ι a → H1[q]? = H[q]?) → mm_at X ι η (mm_Ks K) a o1 H1 → mm_W K H1 (locs ++ [⟨ι a, j⟩]) cells slots Q (F0 (mm_Km K) pc' mls (st'.map (mm_v ι)))) → mm_W K H locs cells slots Q (F0 (mm_Km K) pc mls (st.map (mm_v ι)))) : mm_Sm X y pc ls st σ o σ' :=
  ⟨hr.1, fun K H locs cells slots mc ms mls ι η hF hG hH hL hst hlo hc hR => by
    obtain ⟨f1, f2, f3, f4⟩ := hH.2.2.2.2.2.1 a _ h0
    refine hw K H locs cells slots _ mls ι η hF hG f4 hst fun H1 j z oq hat => ?_
    refine hr.2 K H1 _ cells slots mc ms mls ι η hF hG (hH.put h0 hr0 hl0 hr1 hl1 (hov hst f2) z oq hat) hL (hv hst) (fun z hz => ?_) hc hR
    rcases List.mem_append.mp hz with hz | hz
    · exact hlo z hz
    · rw [List.mem_singleton.mp hz]
      exact hH.2.2.2.1 a (f3 hr0) f1⟩
theorem mm_upd_arr {cI n i : Nat} {f : Nat → Int32} {x : Int32} : (arrV cI n (fun j => .int (f j))).setSlot i (.int x) = arrV cI n (fun j => .int (upd f i x j)) := by
  rw [arrV_store]
  congr 1
  funext q
  by_cases hq : q = i
  · simp [updV, upd, hq]
  · simp [updV, upd, hq]
theorem mm_upd_larr {cI n i : Nat} {f : Nat → Int64} {x : Int64} : (arrV cI n (fun j => .long (f j))).setSlot i (.long x) = arrV cI n (fun j => .long (vp_updL f i x j)) := by
  rw [arrV_store]
  congr 1
  funext q
  by_cases hq : q = i
  · simp [updV, vp_updL, hq]
  · simp [updV, vp_updL, hq]
theorem mm_s_iastore (hs : mm_Sim X rec) (hd : decode (mm_by y) pc = .ok (.iastore, len)) (h : mm_step rec y pc ls st σ (.iastore) len = some (o, σ')) : mm_Sm X y pc ls st σ o σ' := by
  simp only [mm_step] at h
  replace h := mm_its h
  obtain ⟨hlen, h⟩ := h
  subst hlen
  replace h := mm_piis h
  obtain ⟨a, i, x, t, rfl, h⟩ := h
  replace h := mm_bds h
  obtain ⟨σ1, hx, h⟩ := h
  unfold mm_ast at hx
  obtain ⟨⟨kd, n, f⟩, hz, hx⟩ := mm_bds hx
  obtain ⟨hin, hx⟩ := mm_itn hx
  obtain ⟨hkd, hx⟩ := mm_its hx
  have hkd : kd = 0 := hkd
  subst hkd
  cases hx
  exact mm_wr (hs _ _ _ _ _ _ _ h) (fun q => q.tl.tl.tl) (mm_arrs hz) rfl rfl rfl rfl (fun _ _ => trivial) (fun K H locs cells slots Q mls ι η hF hG hat hst k => by
    refine W.iast hF.1 hF.2.1 hat.1 (hG.2.1.1 n (fun j => .int (f j))) (fun q => by cases q) (by show ¬ (i < 0 ∨ (arrV _ _ _).slots.size ≤ _); rw [arrV_size]; exact hin) rfl rfl hd fun H1 e z oq => k H1 _ z oq ⟨?_, hat.2⟩
    rw [e, mm_upd_arr])
theorem mm_s_bastore (hs : mm_Sim X rec) (hd : decode (mm_by y) pc = .ok (.bastore, len)) (h : mm_step rec y pc ls st σ (.bastore) len = some (o, σ')) : mm_Sm X y pc ls st σ o σ' := by
  simp only [mm_step] at h
  replace h := mm_its h
  obtain ⟨hlen, h⟩ := h
  subst hlen
  replace h := mm_piis h
  obtain ⟨a, i, x, t, rfl, h⟩ := h
  replace h := mm_its h
  obtain ⟨hx01, h⟩ := h
  replace h := mm_bds h
  obtain ⟨σ1, hx, h⟩ := h
  unfold mm_ast at hx
  obtain ⟨⟨kd, n, f⟩, hz, hx⟩ := mm_bds hx
  obtain ⟨hin, hx⟩ := mm_itn hx
  obtain ⟨hkd, hx⟩ := mm_its hx
  have hkd : kd = 1 := hkd
  subst hkd
  cases hx
  exact mm_wr (hs _ _ _ _ _ _ _ h) (fun q => q.tl.tl.tl) (mm_arrs hz) rfl rfl rfl rfl (fun _ _ => trivial) (fun K H locs cells slots Q mls ι η hF hG hat hst k => by
    refine W.zast hF.1 hF.2.1 hat.1 (hG.2.2.1.1 n (fun j => .int (f j))) (fun q => by cases q) (by show ¬ (i < 0 ∨ (arrV _ _ _).slots.size ≤ _); rw [arrV_size]; exact hin) rfl rfl hd fun H1 e z oq => k H1 _ z oq ⟨?_, hat.2⟩
    rw [e, show narrow .boolean (.int x) = .int x by rcases hx01 with rfl | rfl <;> rfl, mm_upd_arr])
theorem mm_s_lastore (hs : mm_Sim X rec) (hd : decode (mm_by y) pc = .ok (.lastore, len)) (h : mm_step rec y pc ls st σ (.lastore) len = some (o, σ')) : mm_Sm X y pc ls st σ o σ' := by
  simp only [mm_step] at h
  replace h := mm_its h
  obtain ⟨hlen, h⟩ := h
  subst hlen
  replace h := mm_pils h
  obtain ⟨a, i, x, t, rfl, h⟩ := h
  replace h := mm_bds h
  obtain ⟨⟨n, f⟩, hz, h⟩ := h
  replace h := mm_itn h
  obtain ⟨hin, h⟩ := h
  exact mm_wr (hs _ _ _ _ _ _ _ h) (fun q => q.tl.tl.tl) (mm_lars hz) rfl rfl rfl rfl (fun _ _ => trivial) (fun K H locs cells slots Q mls ι η hF hG hat hst k => by
    exact (show False from hat).elim)
end

