/-! THE SIMULATION: locals that are written, the heap -/
def mm_as (ι : Nat → Nat) (ls : List Value) : List (Nat × Value) := (List.range ls.length).filterMap fun i => (ls[i]?).bind fun v => if mm_ok1 v = true then some (i, mm_v ι v) else none
theorem mm_as_mem {ι : Nat → Nat} {ls : List Value} {i : Nat} {v : Value} (h : ls[i]? = some v) (hv : mm_ok1 v = true) : (i, mm_v ι v) ∈ mm_as ι ls := by
  refine List.mem_filterMap.mpr ⟨i, List.mem_range.mpr (List.getElem?_eq_some_iff.mp h).1, ?_⟩
  rw [h]
  show (if mm_ok1 v = true then some (i, mm_v ι v) else none) = _
  rw [if_pos hv]
theorem mm_as_to {ι : Nat → Nat} {ls : List Value} {q : Nat × Value} (h : q ∈ mm_as ι ls) : ∃ v, ls[q.1]? = some v ∧ mm_ok1 v = true ∧ q.2 = mm_v ι v := by
  obtain ⟨i, -, h⟩ := List.mem_filterMap.mp h
  replace h := mm_bds h
  obtain ⟨v, h1, h2⟩ := h
  obtain ⟨h3, h4⟩ := mm_its h2
  cases h4
  exact ⟨v, h1, h3, rfl⟩
theorem mm_LR.has {ι : Nat → Nat} {n nL : Nat} {ls : List Value} {mls : Array Slot} (h : mm_LR ι n ls nL mls) : lv_has mls nL (mm_as ι ls) := by
  refine ⟨h.1, h.2.2.1, fun q hq => ?_⟩
  obtain ⟨v, h1, h2, h3⟩ := mm_as_to hq
  rw [h3]
  exact (h.2.2.2 q.1 v h1 h2).1
theorem mm_LR.set {ι : Nat → Nat} {nx nL n : Nat} {ls : List Value} {mls mls' : Array Slot} {w u : Value} (hL : mm_LR ι nx ls nL mls) (hn : n < nL)
    (h : lv_has mls' nL ((n, w) :: (mm_as ι ls).filter fun q => !(q.1 == n) && !(q.1 + 1 == n && q.2.category == 2))) (hu : mm_ok1 u = true → w = mm_v ι u ∧ mm_vv nx u) : mm_LR ι nx (ls.set n u) nL mls' := by
  refine ⟨h.1, by rw [List.length_set]; exact hL.2.1, h.2.1, fun i v hv hok => ?_⟩
  rw [List.getElem?_set] at hv
  by_cases e : n = i
  · rw [if_pos e, if_pos (by rw [hL.2.1]; exact hn)] at hv
    cases hv
    subst e
    obtain ⟨h1, h2⟩ := hu hok
    exact ⟨by rw [← h1]; exact h.2.2 _ List.mem_cons_self, h2⟩
  · rw [if_neg e] at hv
    refine ⟨h.2.2 (i, mm_v ι v) (List.mem_cons_of_mem _ (List.mem_filter.mpr ⟨mm_as_mem hv hok, ?_⟩)), (hL.2.2.2 i v hv hok).2⟩
    have h1 : ((i : Nat) == n) = false := by simp; exact fun z => e z.symm
    have h2 := mm_cat1 ι hok
    show (!(i == n) && !(i + 1 == n && (mm_v ι v).category == 2)) = true
    rw [h1, h2]
    simp
theorem mm_LR.ext {ι ι' : Nat → Nat} {n n' nL : Nat} {ls : List Value} {mls : Array Slot} (h : mm_LR ι n ls nL mls) (he : ∀ i, i < n → ι' i = ι i) (hn : n ≤ n') : mm_LR ι' n' ls nL mls := by
  refine ⟨h.1, h.2.1, h.2.2.1, fun i v hv hok => ?_⟩
  obtain ⟨h1, h2⟩ := h.2.2.2 i v hv hok
  cases v with
  | ref a => exact ⟨by rw [h1]; show some (Slot.val (.ref (ι a))) = some (Slot.val (.ref (ι' a))); rw [he a h2], Nat.lt_of_lt_of_le h2 hn⟩
  | _ => exact ⟨h1, trivial⟩
theorem mm_v_ext {ι ι' : Nat → Nat} {n : Nat} {v : Value} (he : ∀ i, i < n → ι' i = ι i) (h : mm_vv n v) : mm_v ι' v = mm_v ι v := by
  cases v with
  | ref a => show Value.ref (ι' a) = Value.ref (ι a); rw [he a h]
  | _ => rfl
theorem mm_vv.mono {n n' : Nat} {v : Value} (hn : n ≤ n') (h : mm_vv n v) : mm_vv n' v := by
  cases v with
  | ref a => exact Nat.lt_of_lt_of_le h hn
  | _ => trivial
theorem mm_ST.mono {n n' : Nat} {st : List Value} (hn : n ≤ n') (h : mm_ST n st) : mm_ST n' st := fun v hv => (h v hv).mono hn
theorem mm_st_ext {ι ι' : Nat → Nat} {n : Nat} {st : List Value} (he : ∀ i, i < n → ι' i = ι i) (h : mm_ST n st) : st.map (mm_v ι') = st.map (mm_v ι) := List.map_congr_left fun v hv => mm_v_ext he (h v hv)
section
variable {X : mm_X} {rec : mm_C} {y pc : Nat} {ls st : List Value} {σ σ' : mm_S} {o : Option Value ⊕ Nat} {len : Nat}
theorem mm_s_istore_n {n : Fin 4} (hs : mm_Sim X rec) (hd : decode (mm_by y) pc = .ok (.istore_n n, len)) (h : mm_step rec y pc ls st σ (.istore_n n) len = some (o, σ')) : mm_Sm X y pc ls st σ o σ' := by
  simp only [mm_step] at h
  replace h := mm_its h
  obtain ⟨hlen, h⟩ := h
  subst hlen
  replace h := mm_p1s h
  obtain ⟨a, t, rfl, h⟩ := h
  replace h := mm_its h
  obtain ⟨hn, h⟩ := h
  exact mm_loc (hs _ _ _ _ _ _ _ h) (fun q => q.tl) (fun K H locs cells slots Q mls ι hF hL _ k => by
    have hn' : n.val < mm_mx y := by rw [← hL.2.1]; exact hn
    exact lv_istore_n hF.1 hF.2.1 hd rfl hL.has hn' rfl (fun ls' h' => k ls' (hL.set hn' h' (fun _ => ⟨rfl, trivial⟩))))
theorem mm_s_istore {n : Nat} (hs : mm_Sim X rec) (hd : decode (mm_by y) pc = .ok (.istore n, len)) (h : mm_step rec y pc ls st σ (.istore n) len = some (o, σ')) : mm_Sm X y pc ls st σ o σ' := by
  simp only [mm_step] at h
  replace h := mm_its h
  obtain ⟨hlen, h⟩ := h
  subst hlen
  replace h := mm_p1s h
  obtain ⟨a, t, rfl, h⟩ := h
  replace h := mm_its h
  obtain ⟨hn, h⟩ := h
  exact mm_loc (hs _ _ _ _ _ _ _ h) (fun q => q.tl) (fun K H locs cells slots Q mls ι hF hL _ k => by
    have hn' : n < mm_mx y := by rw [← hL.2.1]; exact hn
    exact lv_istore hF.1 hF.2.1 hd hL.has hn' rfl (fun ls' h' => k ls' (hL.set hn' h' (fun _ => ⟨rfl, trivial⟩))))
theorem mm_s_astore_n {n : Fin 4} (hs : mm_Sim X rec) (hd : decode (mm_by y) pc = .ok (.astore_n n, len)) (h : mm_step rec y pc ls st σ (.astore_n n) len = some (o, σ')) : mm_Sm X y pc ls st σ o σ' := by
  simp only [mm_step] at h
  replace h := mm_its h
  obtain ⟨hlen, h⟩ := h
  subst hlen
  replace h := mm_prs h
  obtain ⟨a, t, rfl, h⟩ := h
  replace h := mm_its h
  obtain ⟨hn, h⟩ := h
  exact mm_loc (hs _ _ _ _ _ _ _ h) (fun q => q.tl) (fun K H locs cells slots Q mls ι hF hL hst k => by
    have hn' : n.val < mm_mx y := by rw [← hL.2.1]; exact hn
    exact lv_astore_n hF.1 hF.2.1 hd rfl hL.has hn' rfl (fun ls' h' => k ls' (hL.set hn' h' (fun _ => ⟨rfl, hst.hd⟩))))
theorem mm_s_astore {n : Nat} (hs : mm_Sim X rec) (hd : decode (mm_by y) pc = .ok (.astore n, len)) (h : mm_step rec y pc ls st σ (.astore n) len = some (o, σ')) : mm_Sm X y pc ls st σ o σ' := by
  simp only [mm_step] at h
  replace h := mm_its h
  obtain ⟨hlen, h⟩ := h
  subst hlen
  replace h := mm_prs h
  obtain ⟨a, t, rfl, h⟩ := h
  replace h := mm_its h
  obtain ⟨hn, h⟩ := h
  exact mm_loc (hs _ _ _ _ _ _ _ h) (fun q => q.tl) (fun K H locs cells slots Q mls ι hF hL hst k => by
    have hn' : n < mm_mx y := by rw [← hL.2.1]; exact hn
    exact lv_astore hF.1 hF.2.1 hd hL.has hn' rfl (fun ls' h' => k ls' (hL.set hn' h' (fun _ => ⟨rfl, hst.hd⟩))))
theorem mm_s_iinc {n : Nat} {d : Int} (hs : mm_Sim X rec) (hd : decode (mm_by y) pc = .ok (.iinc n d, len)) (h : mm_step rec y pc ls st σ (.iinc n d) len = some (o, σ')) : mm_Sm X y pc ls st σ o σ' := by
  simp only [mm_step] at h
  replace h := mm_its h
  obtain ⟨hlen, h⟩ := h
  subst hlen
  replace h := mm_bds h
  obtain ⟨x, hx, h⟩ := h
  have hx := mm_lvis hx
  exact mm_loc (hs _ _ _ _ _ _ _ h) (fun q => q) (fun K H locs cells slots Q mls ι hF hL hst k => by
    have hn' : n < mm_mx y := by rw [← hL.2.1]; exact (List.getElem?_eq_some_iff.mp hx).1
    obtain ⟨j, hj⟩ := List.getElem?_of_mem (mm_as_mem (ι := ι) hx rfl)
    exact lv_iinc hF.1 hF.2.1 hd hL.has hj rfl hn' rfl (fun ls' h' => k ls' (hL.set hn' h' (fun _ => ⟨rfl, trivial⟩))))
theorem mm_lu_of {t : List (Nat × Nat)} {i v : Nat} (h : mm_lu t y i = some v) (f : Nat × Nat → Bool) (hf : t.all f = true) : i < 1000 ∧ f (mm_own y * 1000 + i, v) = true := by
  unfold mm_lu at h
  replace h := mm_its h
  obtain ⟨hi, h⟩ := h
  exact ⟨hi, List.all_eq_true.mp hf _ (mm_lk_mem h)⟩
theorem mm_k1 {a i : Nat} (h : i < 1000) : (a * 1000 + i) / 1000 = a := by omega
theorem mm_k2 {a i : Nat} (h : i < 1000) : (a * 1000 + i) % 1000 = i := by omega
theorem mm_s_ldc {n : Nat} (hs : mm_Sim X rec) (hd : decode (mm_by y) pc = .ok (.ldc n, len)) (h : mm_step rec y pc ls st σ (.ldc n) len = some (o, σ')) : mm_Sm X y pc ls st σ o σ' := by
  simp only [mm_step] at h
  replace h := mm_its h
  obtain ⟨hlen, h⟩ := h
  subst hlen
  replace h := mm_bds h
  obtain ⟨v, hv, h⟩ := h
  obtain ⟨hi, hk⟩ := mm_lu_of hv _ mm_kt_ok
  simp only [mm_k1 hi, mm_k2 hi, Bool.and_eq_true, decide_eq_true_eq] at hk
  exact mm_pure (hs _ _ _ _ _ _ _ h) (fun _ _ _ q => q.i) (fun K H locs cells slots Q mls ι η hF _ _ _ _ _ _ k => lv_ldc hF.1 hF.2.1 hF.2.2.2.1 (hF.2.2.2.2.1 _ hk.2) hd k)
theorem mm_s_getstatic {n : Nat} (hs : mm_Sim X rec) (hd : decode (mm_by y) pc = .ok (.getstatic n, len)) (h : mm_step rec y pc ls st σ (.getstatic n) len = some (o, σ')) : mm_Sm X y pc ls st σ o σ' := by
  simp only [mm_step] at h
  replace h := mm_its h
  obtain ⟨hlen, h⟩ := h
  obtain ⟨hlen, ho, hn⟩ := hlen
  subst hlen
  subst hn
  refine ⟨(hs _ _ _ _ _ _ _ h).1, fun K H locs cells slots mc ms mls ι η hF hG hH hL hst hlo hc hR => ?_⟩
  have k := (hs _ _ _ _ _ _ _ h).2 K H locs cells slots mc ms mls ι η hF hG hH hL (hst.cn (show 1 < σ.2.1 from hH.2.2.2.2.1.1)) hlo hc hR
  obtain ⟨cf, kf, fi, f, a, cell, h1, h2, h3, h4, h5, h6, h7, h8⟩ := hG.2.2.2.2.2.2.2.2.1
  have hown := hF.2.2.2.1
  rw [ho] at hown
  refine W.gets hF.1 hF.2.1 hown (hF.2.2.2.2.1 _ mm_arr_ok.2.2.2) h1 h2 h3 h4 (cell₁ := cell) ?_ (fun e => by rw [e] at h6; cases h6) h7 rfl hd ?_
  · rw [hH.1.2 a (Array.getElem?_eq_some_iff.mp h5).1]; exact h5
  · rw [← hH.2.2.2.2.1.2]; exact k
end

