/-! EQUATIONS: switches -/
def mm_sw (a : Int32) (td : Nat) (f : Nat → Option mm_R) : List (Int32 × Nat) → Option mm_R
  | [] => f td
  | (v, t) :: r => if a = v then f t else mm_sw a td f r
theorem mm_sw_none {a : Int32} {td : Nat} {f : Nat → Option mm_R} : ∀ {vs : List (Int32 × Nat)}, (∀ p ∈ vs, a ≠ p.1) → mm_sw a td f vs = f td
  | [], _ => rfl
  | (v, t) :: r, h => by
    show (if a = v then f t else mm_sw a td f r) = _
    rw [if_neg (h (v, t) List.mem_cons_self)]
    exact mm_sw_none fun p hp => h p (List.mem_cons_of_mem _ hp)
def mm_tok (pc : Nat) (lo : Int) (offs : List Int) : List (Int32 × Nat) → Bool
  | [] => offs.isEmpty
  | (v, t) :: r => match offs with
    | [] => false
    | o :: os => decide (v.toInt = lo) && decide ((pc : Int) + o = (t : Int)) && mm_tok pc (lo + 1) os r
theorem mm_tab_sw {pc td : Nat} {a : Int32} {f : Nat → Option mm_R} : ∀ {lo : Int} {offs : List Int} {vs : List (Int32 × Nat)}, mm_tok pc lo offs vs = true → (a.toInt < lo → mm_sw a td f vs = f td) ∧ (lo + (vs.length : Int) ≤ a.toInt → mm_sw a td f vs = f td) ∧ (lo ≤ a.toInt → a.toInt < lo + (vs.length : Int) → ∃ o, offs[(a.toInt - lo).toNat]? = some o ∧ mm_tg pc o f = mm_sw a td f vs)
  | lo, offs, [], _ => ⟨fun _ => rfl, fun _ => rfl, fun h1 h2 => by simp at h2; omega⟩
  | lo, [], (v, t) :: r, h => by simp [mm_tok] at h
  | lo, o :: os, (v, t) :: r, h => by
    unfold mm_tok at h
    simp only [Bool.and_eq_true, decide_eq_true_eq] at h
    obtain ⟨⟨h1, h2⟩, h3⟩ := h
    obtain ⟨i1, i2, i3⟩ := mm_tab_sw (a := a) (td := td) (f := f) h3
    have hsw : mm_sw a td f ((v, t) :: r) = if a = v then f t else mm_sw a td f r := rfl
    have hne : a.toInt ≠ lo → ¬ a = v := fun q e => q (by rw [e]; exact h1)
    refine ⟨fun q => ?_, fun q => ?_, fun q1 q2 => ?_⟩
    · rw [hsw, if_neg (hne (by omega))]; exact i1 (by omega)
    · simp only [List.length_cons] at q
      rw [hsw, if_neg (hne (by omega))]; exact i2 (by omega)
    · simp only [List.length_cons] at q2
      by_cases e : a.toInt = lo
      · refine ⟨o, by rw [e]; simp, ?_⟩
        rw [hsw, if_pos (Int32.toInt_inj.mp (by rw [e, h1])), mm_tgq h2]
      · obtain ⟨o', h4, h5⟩ := i3 (by omega) (by omega)
        refine ⟨o', ?_, by rw [hsw, if_neg (hne e)]; exact h5⟩
        rw [show (a.toInt - lo).toNat = (a.toInt - (lo + 1)).toNat + 1 by omega, List.getElem?_cons_succ]
        exact h4
section
variable {y pc : Nat} {cc : ByteArray} {ls st : List Value} {σ : mm_S}
theorem L_tab {d lo hi : Int} {offs : Array Int} {len td : Nat} {a : Int32} (vs : List (Int32 × Nat)) (hb : mm_by y = cc) (hd : decode cc pc = .ok (.tableswitch d lo hi offs, len)) (ht : (pc : Int) + d = (td : Int)) (hh : hi + 1 = lo + (vs.length : Int)) (hv : mm_tok pc lo offs.toList vs = true) : mm_L y pc ls (.int a :: st) σ = mm_sw a td (fun t => mm_L y t ls st σ) vs := by
  rw [mm_Lq hb hd]
  simp only [mm_step, mm_p1]
  obtain ⟨i1, i2, i3⟩ := mm_tab_sw (a := a) (td := td) (f := fun t => mm_L y t ls st σ) hv
  by_cases q : a.toInt < lo ∨ hi < a.toInt
  · rw [if_pos q, mm_tgq ht]
    rcases q with q | q
    · exact (i1 q).symm
    · exact (i2 (by omega)).symm
  · rw [if_neg q]
    obtain ⟨o, h1, h2⟩ := i3 (by omega) (by omega)
    rw [Array.getElem?_toList] at h1
    rw [h1]
    exact h2
def mm_lok (pc : Nat) : List (Int × Int) → List (Int32 × Nat) → Bool
  | [], [] => true
  | (k, o) :: r, (v, t) :: s => decide (v.toInt = k) && decide ((pc : Int) + o = (t : Int)) && mm_lok pc r s
  | _, _ => false
theorem mm_look_sw {d : Int} {td : Nat} {a : Int32} {f : Nat → Option mm_R} (ht : (pc : Int) + d = (td : Int)) : ∀ {ps : List (Int × Int)} {vs : List (Int32 × Nat)}, mm_lok pc ps vs = true → mm_tg pc (Op.lookupswitch.offset ps d a.toInt) f = mm_sw a td f vs
  | [], [], _ => mm_tgq ht
  | [], _ :: _, h => by cases h
  | _ :: _, [], h => by cases h
  | (k, o) :: r, (v, t) :: s, h => by
    unfold mm_lok at h
    simp only [Bool.and_eq_true, decide_eq_true_eq] at h
    obtain ⟨⟨h1, h2⟩, h3⟩ := h
    have hsw : mm_sw a td f ((v, t) :: s) = if a = v then f t else mm_sw a td f s := rfl
    by_cases e : a = v
    · have he : Op.lookupswitch.offset ((k, o) :: r) d a.toInt = o := by
        rw [e, h1]
        simp [Op.lookupswitch.offset]
      rw [hsw, if_pos e, he]
      exact mm_tgq h2
    · rw [hsw, if_neg e, lv_osw e h1]
      exact mm_look_sw ht h3
theorem L_look {d : Int} {ps : Array (Int × Int)} {len td : Nat} {a : Int32} (vs : List (Int32 × Nat)) (hb : mm_by y = cc) (hd : decode cc pc = .ok (.lookupswitch d ps, len)) (ht : (pc : Int) + d = (td : Int)) (hp : (ps.toList.zip (ps.toList.drop 1)).all (fun (x, next) => x.1 < next.1) = true) (hv : mm_lok pc ps.toList vs = true) : mm_L y pc ls (.int a :: st) σ = mm_sw a td (fun t => mm_L y t ls st σ) vs := by
  rw [mm_Lq hb hd]
  simp only [mm_step, mm_p1]
  rw [if_pos hp, mm_look_sw ht hv]
theorem pf_i {y d : Nat} {x : Int32} (h : d % 10 = 0 ∧ (!(mm_fin.contains (d / 1000 * 100 + d / 10 % 100)) || (mm_kd y == 2 && mm_own y == d / 1000)) = true) : mm_pf y d (.int x) = true := by
  unfold mm_pf
  rw [h.1, h.2]
  rfl
theorem pf_r {y d : Nat} {x : Nat} (h : d % 10 = 1 ∧ (!(mm_fin.contains (d / 1000 * 100 + d / 10 % 100)) || (mm_kd y == 2 && mm_own y == d / 1000)) = true) : mm_pf y d (.ref x) = true := by
  unfold mm_pf
  rw [h.1, h.2]
  rfl
end
