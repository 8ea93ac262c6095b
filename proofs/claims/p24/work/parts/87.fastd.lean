-- 28: HandArchive.tellsApart
noncomputable def F28_38  (l0 : Nat) (l1 : Nat) (l2 : Nat) (l3 : Nat) (s0 : Nat) (T : fS) : Option fR := (fif (Bool.rec (motive := fun _ => Bool) (ieq s0 1) true (ieq s0 0)) (some ((.inl (some (.inl s0)), T) : fR)) (none : Option fR))
theorem G28_38 {z : Option mm_O} {T : fS} {r : fR}  (l0 : Nat) (xl1 : Int32) (l1 : Nat) (hl1 : xl1 = nI l1) (xl2 : Int32) (l2 : Nat) (hl2 : xl2 = nI l2) (xl3 : Int32) (l3 : Nat) (hl3 : xl3 = nI l3) (xs0 : Int32) (s0 : Nat) (hs0 : xs0 = nI s0) (h : F28_38  l0 l1 l2 l3 s0 T = some r) : mm_L 28 38 [.ref l0, .int xl1, .int xl2, .int xl3] [.int xs0] (toS z T) = some (tR z r) := by
  unfold F28_38 at h
  refine Eq.trans (e28_38 ..) ?_
  exact (fb_if (cj_01 hs0) h (fun h1 => (fr_i hs0 h1)) (fun h1 => (fr_n h1)))
noncomputable def F28_33  (l0 : Nat) (l1 : Nat) (l2 : Nat) (l3 : Nat) (T : fS) : Option fR := (F28_38  l0 l1 l2 l3 1 T)
theorem G28_33 {z : Option mm_O} {T : fS} {r : fR}  (l0 : Nat) (xl1 : Int32) (l1 : Nat) (hl1 : xl1 = nI l1) (xl2 : Int32) (l2 : Nat) (hl2 : xl2 = nI l2) (xl3 : Int32) (l3 : Nat) (hl3 : xl3 = nI l3) (h : F28_33  l0 l1 l2 l3 T = some r) : mm_L 28 33 [.ref l0, .int xl1, .int xl2, .int xl3] [] (toS z T) = some (tR z r) := by
  unfold F28_33 at h
  refine Eq.trans (e28_33 ..) ?_
  exact (G28_38  _ _ _ hl1 _ _ hl2 _ _ hl3 _ _ (rfl : (1 : Int32) = nI 1) h)
noncomputable def F28_37  (l0 : Nat) (l1 : Nat) (l2 : Nat) (l3 : Nat) (T : fS) : Option fR := (F28_38  l0 l1 l2 l3 0 T)
theorem G28_37 {z : Option mm_O} {T : fS} {r : fR}  (l0 : Nat) (xl1 : Int32) (l1 : Nat) (hl1 : xl1 = nI l1) (xl2 : Int32) (l2 : Nat) (hl2 : xl2 = nI l2) (xl3 : Int32) (l3 : Nat) (hl3 : xl3 = nI l3) (h : F28_37  l0 l1 l2 l3 T = some r) : mm_L 28 37 [.ref l0, .int xl1, .int xl2, .int xl3] [] (toS z T) = some (tR z r) := by
  unfold F28_37 at h
  refine Eq.trans (e28_37 ..) ?_
  exact (G28_38  _ _ _ hl1 _ _ hl2 _ _ hl3 _ _ (rfl : (0 : Int32) = nI 0) h)
noncomputable def F28_30  (l0 : Nat) (l1 : Nat) (l2 : Nat) (l3 : Nat) (s0 : Nat) (s1 : Nat) (T : fS) : Option fR := (fif (ieq s1 s0) (F28_37  l0 l1 l2 l3 T) (F28_33  l0 l1 l2 l3 T))
theorem G28_30 {z : Option mm_O} {T : fS} {r : fR}  (l0 : Nat) (xl1 : Int32) (l1 : Nat) (hl1 : xl1 = nI l1) (xl2 : Int32) (l2 : Nat) (hl2 : xl2 = nI l2) (xl3 : Int32) (l3 : Nat) (hl3 : xl3 = nI l3) (xs0 : Int32) (s0 : Nat) (hs0 : xs0 = nI s0) (xs1 : Int32) (s1 : Nat) (hs1 : xs1 = nI s1) (h : F28_30  l0 l1 l2 l3 s0 s1 T = some r) : mm_L 28 30 [.ref l0, .int xl1, .int xl2, .int xl3] [.int xs0, .int xs1] (toS z T) = some (tR z r) := by
  unfold F28_30 at h
  refine Eq.trans (e28_30 ..) ?_
  exact (fb_if (cj_eq hs1 hs0) h (fun h1 => (G28_37  _ _ _ hl1 _ _ hl2 _ _ hl3 h1)) (fun h1 => (G28_33  _ _ _ hl1 _ _ hl2 _ _ hl3 h1)))
noncomputable def F28_27  (l0 : Nat) (l1 : Nat) (l2 : Nat) (l3 : Nat) (s0 : Nat) (s1 : Nat) (s2 : Nat) (T : fS) : Option fR := (fKi true (F29_0 s1 s0 T) (fun v0 T1 => F28_30  l0 l1 l2 l3 v0 s2 T1))
theorem G28_27 {z : Option mm_O} {T : fS} {r : fR}  (l0 : Nat) (xl1 : Int32) (l1 : Nat) (hl1 : xl1 = nI l1) (xl2 : Int32) (l2 : Nat) (hl2 : xl2 = nI l2) (xl3 : Int32) (l3 : Nat) (hl3 : xl3 = nI l3) (s0 : Nat) (xs1 : Int32) (s1 : Nat) (hs1 : xs1 = nI s1) (xs2 : Int32) (s2 : Nat) (hs2 : xs2 = nI s2) (h : F28_27  l0 l1 l2 l3 s0 s1 s2 T = some r) : mm_L 28 27 [.ref l0, .int xl1, .int xl2, .int xl3] [.ref s0, .int xs1, .int xs2] (toS z T) = some (tR z r) := by
  unfold F28_27 at h
  refine Eq.trans (e28_27 ..) ?_
  exact (fb_K0i (fun _ q => GM29 _ _ hs1 _ q) h (fun v0 T1 h2 => G28_30  _ _ _ hl1 _ _ hl2 _ _ hl3 _ _ rfl _ _ hs2 h2))
noncomputable def F28_24  (l0 : Nat) (l1 : Nat) (l2 : Nat) (l3 : Nat) (s0 : Nat) (s1 : Nat) (s2 : Nat) (T : fS) : Option fR := (fif (fch T s0 1) (F28_27  l0 l1 l2 l3 s0 s1 s2 T) none)
theorem G28_24 {z : Option mm_O} {T : fS} {r : fR}  (l0 : Nat) (xl1 : Int32) (l1 : Nat) (hl1 : xl1 = nI l1) (xl2 : Int32) (l2 : Nat) (hl2 : xl2 = nI l2) (xl3 : Int32) (l3 : Nat) (hl3 : xl3 = nI l3) (s0 : Nat) (xs1 : Int32) (s1 : Nat) (hs1 : xs1 = nI s1) (xs2 : Int32) (s2 : Nat) (hs2 : xs2 = nI s2) (h : F28_24  l0 l1 l2 l3 s0 s1 s2 T = some r) : mm_L 28 24 [.ref l0, .int xl1, .int xl2, .int xl3] [.ref s0, .int xs1, .int xs2] (toS z T) = some (tR z r) := by
  unfold F28_24 at h
  refine Eq.trans (e28_24 ..) ?_
  exact (fb_c h (fun h2 => G28_27  _ _ _ hl1 _ _ hl2 _ _ hl3 _ _ _ hs1 _ _ hs2 h2))
noncomputable def F28_20  (l0 : Nat) (l1 : Nat) (l2 : Nat) (l3 : Nat) (s0 : Nat) (s1 : Nat) (s2 : Nat) (T : fS) : Option fR := (fbn (flg T s0 l3) (fun v0 => F28_24  l0 l1 l2 l3 v0 s1 s2 T))
theorem G28_20 {z : Option mm_O} {T : fS} {r : fR}  (l0 : Nat) (xl1 : Int32) (l1 : Nat) (hl1 : xl1 = nI l1) (xl2 : Int32) (l2 : Nat) (hl2 : xl2 = nI l2) (xl3 : Int32) (l3 : Nat) (hl3 : xl3 = nI l3) (s0 : Nat) (xs1 : Int32) (s1 : Nat) (hs1 : xs1 = nI s1) (xs2 : Int32) (s2 : Nat) (hs2 : xs2 = nI s2) (h : F28_20  l0 l1 l2 l3 s0 s1 s2 T = some r) : mm_L 28 20 [.ref l0, .int xl1, .int xl2, .int xl3] [.ref s0, .int xs1, .int xs2] (toS z T) = some (tR z r) := by
  unfold F28_20 at h
  refine Eq.trans (e28_20 ..) ?_
  exact (fb_g (fun _ q => by rw [hl3]; exact flg_ok q) h (fun v0 h2 => G28_24  _ _ _ hl1 _ _ hl2 _ _ hl3 _ _ _ hs1 _ _ hs2 h2))
noncomputable def F28_15  (l0 : Nat) (l1 : Nat) (l2 : Nat) (l3 : Nat) (s0 : Nat) (T : fS) : Option fR := (fbv (fgr T l0 6 0) (fun v0 => F28_20  l0 l1 l2 l3 v0 l1 s0 T) ((none : Option fR)))
theorem G28_15 {z : Option mm_O} {T : fS} {r : fR}  (l0 : Nat) (xl1 : Int32) (l1 : Nat) (hl1 : xl1 = nI l1) (xl2 : Int32) (l2 : Nat) (hl2 : xl2 = nI l2) (xl3 : Int32) (l3 : Nat) (hl3 : xl3 = nI l3) (xs0 : Int32) (s0 : Nat) (hs0 : xs0 = nI s0) (h : F28_15  l0 l1 l2 l3 s0 T = some r) : mm_L 28 15 [.ref l0, .int xl1, .int xl2, .int xl3] [.int xs0] (toS z T) = some (tR z r) := by
  unfold F28_15 at h
  refine Eq.trans (e28_15 ..) ?_
  exact (fb_v (fun _ q => fgr_ok q) h (fun v0 h2 => G28_20  _ _ _ hl1 _ _ hl2 _ _ hl3 _ _ _ hl1 _ _ hs0 h2) (fun h2 => fr_n h2))
noncomputable def F28_12  (l0 : Nat) (l1 : Nat) (l2 : Nat) (l3 : Nat) (s0 : Nat) (s1 : Nat) (T : fS) : Option fR := (fKi true (F29_0 s1 s0 T) (fun v0 T1 => F28_15  l0 l1 l2 l3 v0 T1))
theorem G28_12 {z : Option mm_O} {T : fS} {r : fR}  (l0 : Nat) (xl1 : Int32) (l1 : Nat) (hl1 : xl1 = nI l1) (xl2 : Int32) (l2 : Nat) (hl2 : xl2 = nI l2) (xl3 : Int32) (l3 : Nat) (hl3 : xl3 = nI l3) (s0 : Nat) (xs1 : Int32) (s1 : Nat) (hs1 : xs1 = nI s1) (h : F28_12  l0 l1 l2 l3 s0 s1 T = some r) : mm_L 28 12 [.ref l0, .int xl1, .int xl2, .int xl3] [.ref s0, .int xs1] (toS z T) = some (tR z r) := by
  unfold F28_12 at h
  refine Eq.trans (e28_12 ..) ?_
  exact (fb_K0i (fun _ q => GM29 _ _ hs1 _ q) h (fun v0 T1 h2 => G28_15  _ _ _ hl1 _ _ hl2 _ _ hl3 _ _ rfl h2))
noncomputable def F28_9  (l0 : Nat) (l1 : Nat) (l2 : Nat) (l3 : Nat) (s0 : Nat) (s1 : Nat) (T : fS) : Option fR := (fif (fch T s0 1) (F28_12  l0 l1 l2 l3 s0 s1 T) none)
theorem G28_9 {z : Option mm_O} {T : fS} {r : fR}  (l0 : Nat) (xl1 : Int32) (l1 : Nat) (hl1 : xl1 = nI l1) (xl2 : Int32) (l2 : Nat) (hl2 : xl2 = nI l2) (xl3 : Int32) (l3 : Nat) (hl3 : xl3 = nI l3) (s0 : Nat) (xs1 : Int32) (s1 : Nat) (hs1 : xs1 = nI s1) (h : F28_9  l0 l1 l2 l3 s0 s1 T = some r) : mm_L 28 9 [.ref l0, .int xl1, .int xl2, .int xl3] [.ref s0, .int xs1] (toS z T) = some (tR z r) := by
  unfold F28_9 at h
  refine Eq.trans (e28_9 ..) ?_
  exact (fb_c h (fun h2 => G28_12  _ _ _ hl1 _ _ hl2 _ _ hl3 _ _ _ hs1 h2))
noncomputable def F28_5  (l0 : Nat) (l1 : Nat) (l2 : Nat) (l3 : Nat) (s0 : Nat) (s1 : Nat) (T : fS) : Option fR := (fbn (flg T s0 l2) (fun v0 => F28_9  l0 l1 l2 l3 v0 s1 T))
theorem G28_5 {z : Option mm_O} {T : fS} {r : fR}  (l0 : Nat) (xl1 : Int32) (l1 : Nat) (hl1 : xl1 = nI l1) (xl2 : Int32) (l2 : Nat) (hl2 : xl2 = nI l2) (xl3 : Int32) (l3 : Nat) (hl3 : xl3 = nI l3) (s0 : Nat) (xs1 : Int32) (s1 : Nat) (hs1 : xs1 = nI s1) (h : F28_5  l0 l1 l2 l3 s0 s1 T = some r) : mm_L 28 5 [.ref l0, .int xl1, .int xl2, .int xl3] [.ref s0, .int xs1] (toS z T) = some (tR z r) := by
  unfold F28_5 at h
  refine Eq.trans (e28_5 ..) ?_
  exact (fb_g (fun _ q => by rw [hl2]; exact flg_ok q) h (fun v0 h2 => G28_9  _ _ _ hl1 _ _ hl2 _ _ hl3 _ _ _ hs1 h2))
noncomputable def F28_0  (l0 : Nat) (l1 : Nat) (l2 : Nat) (l3 : Nat) (T : fS) : Option fR := (fbv (fgr T l0 6 0) (fun v0 => F28_5  l0 l1 l2 l3 v0 l1 T) ((none : Option fR)))
theorem G28_0 {z : Option mm_O} {T : fS} {r : fR}  (l0 : Nat) (xl1 : Int32) (l1 : Nat) (hl1 : xl1 = nI l1) (xl2 : Int32) (l2 : Nat) (hl2 : xl2 = nI l2) (xl3 : Int32) (l3 : Nat) (hl3 : xl3 = nI l3) (h : F28_0  l0 l1 l2 l3 T = some r) : mm_L 28 0 [.ref l0, .int xl1, .int xl2, .int xl3] [] (toS z T) = some (tR z r) := by
  unfold F28_0 at h
  refine Eq.trans (e28_0 ..) ?_
  exact (fb_v (fun _ q => fgr_ok q) h (fun v0 h2 => G28_5  _ _ _ hl1 _ _ hl2 _ _ hl3 _ _ _ hl1 h2) (fun h2 => fr_n h2))
theorem GM28 {z : Option mm_O} {T : fS} {r : fR} (l0 : Nat) (xl1 : Int32) (l1 : Nat) (hl1 : xl1 = nI l1) (xl2 : Int32) (l2 : Nat) (hl2 : xl2 = nI l2) (xl3 : Int32) (l3 : Nat) (hl3 : xl3 = nI l3) (h : F28_0 l0 l1 l2 l3 T = some r) : mm_M 28 [.ref l0, .int xl1, .int xl2, .int xl3] (toS z T) = some (tR z r) := Eq.trans (M_28 ..) (G28_0 l0 xl1 l1 hl1 xl2 l2 hl2 xl3 l3 hl3 h)
-- 31: HandArchive.firstSignJustLike
noncomputable def F31_31  (l0 : Nat) (l1 : Nat) (l2 : Nat) (T : fS) : Option fR := (some ((.inl (some (.inl l2)), T) : fR))
theorem G31_31 {z : Option mm_O} {T : fS} {r : fR}  (l0 : Nat) (l1 : Nat) (xl2 : Int32) (l2 : Nat) (hl2 : xl2 = nI l2) (h : F31_31  l0 l1 l2 T = some r) : mm_L 31 31 [.ref l0, .ref l1, .int xl2] [] (toS z T) = some (tR z r) := by
  unfold F31_31 at h
  refine Eq.trans (e31_31 ..) ?_
  exact (fr_i hl2 h)
noncomputable def F31_33 (k2 : Nat → Nat → Nat → fS → Option fR) (l0 : Nat) (l1 : Nat) (l2 : Nat) (T : fS) : Option fR := (k2 l0 l1 (iA l2 1) T)
theorem G31_33 {z : Option mm_O} {T : fS} {r : fR} (k2 : Nat → Nat → Nat → fS → Option fR) (hk2 : ∀ (l0 : Nat) (l1 : Nat) (xl2 : Int32) (l2 : Nat) (hl2 : xl2 = nI l2) (T : fS) (r : fR), k2 l0 l1 l2 T = some r → mm_L 31 2 [.ref l0, .ref l1, .int xl2] [] (toS z T) = some (tR z r)) (l0 : Nat) (l1 : Nat) (xl2 : Int32) (l2 : Nat) (hl2 : xl2 = nI l2) (h : F31_33 k2 l0 l1 l2 T = some r) : mm_L 31 33 [.ref l0, .ref l1, .int xl2] [] (toS z T) = some (tR z r) := by
  unfold F31_33 at h
  refine Eq.trans (e31_33 ..) ?_
  exact (hk2 _ _ _ _ (iA_ok hl2 (rfl : (1 : Int32) = nI 1)) _ _ h)
noncomputable def F31_28 (k2 : Nat → Nat → Nat → fS → Option fR) (l0 : Nat) (l1 : Nat) (l2 : Nat) (s0 : Nat) (T : fS) : Option fR := (fif (ieq s0 0) (F31_33 k2 l0 l1 l2 T) (F31_31  l0 l1 l2 T))
theorem G31_28 {z : Option mm_O} {T : fS} {r : fR} (k2 : Nat → Nat → Nat → fS → Option fR) (hk2 : ∀ (l0 : Nat) (l1 : Nat) (xl2 : Int32) (l2 : Nat) (hl2 : xl2 = nI l2) (T : fS) (r : fR), k2 l0 l1 l2 T = some r → mm_L 31 2 [.ref l0, .ref l1, .int xl2] [] (toS z T) = some (tR z r)) (l0 : Nat) (l1 : Nat) (xl2 : Int32) (l2 : Nat) (hl2 : xl2 = nI l2) (xs0 : Int32) (s0 : Nat) (hs0 : xs0 = nI s0) (h : F31_28 k2 l0 l1 l2 s0 T = some r) : mm_L 31 28 [.ref l0, .ref l1, .int xl2] [.int xs0] (toS z T) = some (tR z r) := by
  unfold F31_28 at h
  refine Eq.trans (e31_28 ..) ?_
  exact (fb_if (cj_eq hs0 (rfl : (0 : Int32) = nI 0)) h (fun h1 => (G31_33 k2 hk2 _ _ _ _ hl2 h1)) (fun h1 => (G31_31  _ _ _ _ hl2 h1)))
noncomputable def F31_24 (k2 : Nat → Nat → Nat → fS → Option fR) (l0 : Nat) (l1 : Nat) (l2 : Nat) (s0 : Nat) (T : fS) : Option fR := (fKi true (fif (fch T s0 1) (F9_0 s0 l1 T) none) (fun v0 T1 => F31_28 k2 l0 l1 l2 v0 T1))
theorem G31_24 {z : Option mm_O} {T : fS} {r : fR} (k2 : Nat → Nat → Nat → fS → Option fR) (hk2 : ∀ (l0 : Nat) (l1 : Nat) (xl2 : Int32) (l2 : Nat) (hl2 : xl2 = nI l2) (T : fS) (r : fR), k2 l0 l1 l2 T = some r → mm_L 31 2 [.ref l0, .ref l1, .int xl2] [] (toS z T) = some (tR z r)) (l0 : Nat) (l1 : Nat) (xl2 : Int32) (l2 : Nat) (hl2 : xl2 = nI l2) (s0 : Nat) (h : F31_24 k2 l0 l1 l2 s0 T = some r) : mm_L 31 24 [.ref l0, .ref l1, .int xl2] [.ref s0] (toS z T) = some (tR z r) := by
  unfold F31_24 at h
  refine Eq.trans (e31_24 ..) ?_
  exact (fb_K0i (fun _ q => fb_mo (y := 9) ow_9 q (fun q => GM9 _ _ q)) h (fun v0 T1 h2 => G31_28 k2 hk2 _ _ _ _ hl2 _ _ rfl h2))
noncomputable def F31_21 (k2 : Nat → Nat → Nat → fS → Option fR) (l0 : Nat) (l1 : Nat) (l2 : Nat) (s0 : Nat) (T : fS) : Option fR := (fif (fch T s0 1) (F31_24 k2 l0 l1 l2 s0 T) none)
theorem G31_21 {z : Option mm_O} {T : fS} {r : fR} (k2 : Nat → Nat → Nat → fS → Option fR) (hk2 : ∀ (l0 : Nat) (l1 : Nat) (xl2 : Int32) (l2 : Nat) (hl2 : xl2 = nI l2) (T : fS) (r : fR), k2 l0 l1 l2 T = some r → mm_L 31 2 [.ref l0, .ref l1, .int xl2] [] (toS z T) = some (tR z r)) (l0 : Nat) (l1 : Nat) (xl2 : Int32) (l2 : Nat) (hl2 : xl2 = nI l2) (s0 : Nat) (h : F31_21 k2 l0 l1 l2 s0 T = some r) : mm_L 31 21 [.ref l0, .ref l1, .int xl2] [.ref s0] (toS z T) = some (tR z r) := by
  unfold F31_21 at h
  refine Eq.trans (e31_21 ..) ?_
  exact (fb_c h (fun h2 => G31_24 k2 hk2 _ _ _ _ hl2 _ h2))
noncomputable def F31_17 (k2 : Nat → Nat → Nat → fS → Option fR) (l0 : Nat) (l1 : Nat) (l2 : Nat) (s0 : Nat) (T : fS) : Option fR := (fbn (flg T s0 l2) (fun v0 => F31_21 k2 l0 l1 l2 v0 T))
theorem G31_17 {z : Option mm_O} {T : fS} {r : fR} (k2 : Nat → Nat → Nat → fS → Option fR) (hk2 : ∀ (l0 : Nat) (l1 : Nat) (xl2 : Int32) (l2 : Nat) (hl2 : xl2 = nI l2) (T : fS) (r : fR), k2 l0 l1 l2 T = some r → mm_L 31 2 [.ref l0, .ref l1, .int xl2] [] (toS z T) = some (tR z r)) (l0 : Nat) (l1 : Nat) (xl2 : Int32) (l2 : Nat) (hl2 : xl2 = nI l2) (s0 : Nat) (h : F31_17 k2 l0 l1 l2 s0 T = some r) : mm_L 31 17 [.ref l0, .ref l1, .int xl2] [.ref s0] (toS z T) = some (tR z r) := by
  unfold F31_17 at h
  refine Eq.trans (e31_17 ..) ?_
  exact (fb_g (fun _ q => by rw [hl2]; exact flg_ok q) h (fun v0 h2 => G31_21 k2 hk2 _ _ _ _ hl2 _ h2))
noncomputable def F31_13 (k2 : Nat → Nat → Nat → fS → Option fR) (l0 : Nat) (l1 : Nat) (l2 : Nat) (T : fS) : Option fR := (fbv (fgr T l0 6 0) (fun v0 => F31_17 k2 l0 l1 l2 v0 T) ((none : Option fR)))
theorem G31_13 {z : Option mm_O} {T : fS} {r : fR} (k2 : Nat → Nat → Nat → fS → Option fR) (hk2 : ∀ (l0 : Nat) (l1 : Nat) (xl2 : Int32) (l2 : Nat) (hl2 : xl2 = nI l2) (T : fS) (r : fR), k2 l0 l1 l2 T = some r → mm_L 31 2 [.ref l0, .ref l1, .int xl2] [] (toS z T) = some (tR z r)) (l0 : Nat) (l1 : Nat) (xl2 : Int32) (l2 : Nat) (hl2 : xl2 = nI l2) (h : F31_13 k2 l0 l1 l2 T = some r) : mm_L 31 13 [.ref l0, .ref l1, .int xl2] [] (toS z T) = some (tR z r) := by
  unfold F31_13 at h
  refine Eq.trans (e31_13 ..) ?_
  exact (fb_v (fun _ q => fgr_ok q) h (fun v0 h2 => G31_17 k2 hk2 _ _ _ _ hl2 _ h2) (fun h2 => fr_n h2))
noncomputable def F31_39  (l0 : Nat) (l1 : Nat) (l2 : Nat) (T : fS) : Option fR := (some ((.inl (some (.inl 4294967295)), T) : fR))
theorem G31_39 {z : Option mm_O} {T : fS} {r : fR}  (l0 : Nat) (l1 : Nat) (xl2 : Int32) (l2 : Nat) (hl2 : xl2 = nI l2) (h : F31_39  l0 l1 l2 T = some r) : mm_L 31 39 [.ref l0, .ref l1, .int xl2] [] (toS z T) = some (tR z r) := by
  unfold F31_39 at h
  refine Eq.trans (e31_39 ..) ?_
  exact (fr_i (by decide : (-1 : Int32) = nI 4294967295) h)
noncomputable def F31_10 (k2 : Nat → Nat → Nat → fS → Option fR) (l0 : Nat) (l1 : Nat) (l2 : Nat) (s0 : Nat) (s1 : Nat) (T : fS) : Option fR := (fif (ile s0 s1) (F31_39  l0 l1 l2 T) (F31_13 k2 l0 l1 l2 T))
theorem G31_10 {z : Option mm_O} {T : fS} {r : fR} (k2 : Nat → Nat → Nat → fS → Option fR) (hk2 : ∀ (l0 : Nat) (l1 : Nat) (xl2 : Int32) (l2 : Nat) (hl2 : xl2 = nI l2) (T : fS) (r : fR), k2 l0 l1 l2 T = some r → mm_L 31 2 [.ref l0, .ref l1, .int xl2] [] (toS z T) = some (tR z r)) (l0 : Nat) (l1 : Nat) (xl2 : Int32) (l2 : Nat) (hl2 : xl2 = nI l2) (xs0 : Int32) (s0 : Nat) (hs0 : xs0 = nI s0) (xs1 : Int32) (s1 : Nat) (hs1 : xs1 = nI s1) (h : F31_10 k2 l0 l1 l2 s0 s1 T = some r) : mm_L 31 10 [.ref l0, .ref l1, .int xl2] [.int xs0, .int xs1] (toS z T) = some (tR z r) := by
  unfold F31_10 at h
  refine Eq.trans (e31_10 ..) ?_
  exact (fb_if (cj_le hs0 hs1) h (fun h1 => (G31_39  _ _ _ _ hl2 h1)) (fun h1 => (G31_13 k2 hk2 _ _ _ _ hl2 h1)))
noncomputable def F31_7 (k2 : Nat → Nat → Nat → fS → Option fR) (l0 : Nat) (l1 : Nat) (l2 : Nat) (s0 : Nat) (s1 : Nat) (T : fS) : Option fR := (fbn (flz T s0) (fun v0 => F31_10 k2 l0 l1 l2 v0 s1 T))
theorem G31_7 {z : Option mm_O} {T : fS} {r : fR} (k2 : Nat → Nat → Nat → fS → Option fR) (hk2 : ∀ (l0 : Nat) (l1 : Nat) (xl2 : Int32) (l2 : Nat) (hl2 : xl2 = nI l2) (T : fS) (r : fR), k2 l0 l1 l2 T = some r → mm_L 31 2 [.ref l0, .ref l1, .int xl2] [] (toS z T) = some (tR z r)) (l0 : Nat) (l1 : Nat) (xl2 : Int32) (l2 : Nat) (hl2 : xl2 = nI l2) (s0 : Nat) (xs1 : Int32) (s1 : Nat) (hs1 : xs1 = nI s1) (h : F31_7 k2 l0 l1 l2 s0 s1 T = some r) : mm_L 31 7 [.ref l0, .ref l1, .int xl2] [.ref s0, .int xs1] (toS z T) = some (tR z r) := by
  unfold F31_7 at h
  refine Eq.trans (e31_7 ..) ?_
  exact (fb_n (fun _ q => flz_ok q) h (fun v0 h2 => G31_10 k2 hk2 _ _ _ _ hl2 _ _ rfl _ _ hs1 h2))
noncomputable def F31_2 (k2 : Nat → Nat → Nat → fS → Option fR) (l0 : Nat) (l1 : Nat) (l2 : Nat) (T : fS) : Option fR := (fbv (fgr T l0 6 0) (fun v0 => F31_7 k2 l0 l1 l2 v0 l2 T) ((none : Option fR)))
theorem G31_2 {z : Option mm_O} {T : fS} {r : fR} (k2 : Nat → Nat → Nat → fS → Option fR) (hk2 : ∀ (l0 : Nat) (l1 : Nat) (xl2 : Int32) (l2 : Nat) (hl2 : xl2 = nI l2) (T : fS) (r : fR), k2 l0 l1 l2 T = some r → mm_L 31 2 [.ref l0, .ref l1, .int xl2] [] (toS z T) = some (tR z r)) (l0 : Nat) (l1 : Nat) (xl2 : Int32) (l2 : Nat) (hl2 : xl2 = nI l2) (h : F31_2 k2 l0 l1 l2 T = some r) : mm_L 31 2 [.ref l0, .ref l1, .int xl2] [] (toS z T) = some (tR z r) := by
  unfold F31_2 at h
  refine Eq.trans (e31_2 ..) ?_
  exact (fb_v (fun _ q => fgr_ok q) h (fun v0 h2 => G31_7 k2 hk2 _ _ _ _ hl2 _ _ _ hl2 h2) (fun h2 => fr_n h2))
noncomputable def H31_2  (n : Nat) : Nat → Nat → Nat → fS → Option fR := Nat.rec (motive := fun _ => Nat → Nat → Nat → fS → Option fR) (fun _ _ _ _ => none) (fun _ ih => F31_2 ih) n
theorem HG31_2 {z : Option mm_O}  : ∀ (n : Nat) (l0 : Nat) (l1 : Nat) (xl2 : Int32) (l2 : Nat) (hl2 : xl2 = nI l2) {T : fS} {r : fR}, H31_2  n l0 l1 l2 T = some r → mm_L 31 2 [.ref l0, .ref l1, .int xl2] [] (toS z T) = some (tR z r) := by
  intro n
  induction n with
  | zero =>
    intro l0 l1 xl2 l2 hl2 T r h
    exact fr_n h
  | succ n ih =>
    intro l0 l1 xl2 l2 hl2 T r h
    exact G31_2 (H31_2  n) (fun l0 l1 xl2 l2 hl2 T r h => ih l0 l1 xl2 l2 hl2 h) l0 l1 xl2 l2 hl2 h
noncomputable def F31_0  (l0 : Nat) (l1 : Nat) (T : fS) : Option fR := (H31_2  300 l0 l1 0 T)
theorem G31_0 {z : Option mm_O} {T : fS} {r : fR}  (l0 : Nat) (l1 : Nat) (ul2 : Value) (h : F31_0  l0 l1 T = some r) : mm_L 31 0 [.ref l0, .ref l1, ul2] [] (toS z T) = some (tR z r) := by
  unfold F31_0 at h
  refine Eq.trans (e31_0 ..) ?_
  exact (HG31_2  300 _ _ _ _ (rfl : (0 : Int32) = nI 0) h)
theorem GM31 {z : Option mm_O} {T : fS} {r : fR} (l0 : Nat) (l1 : Nat) (h : F31_0 l0 l1 T = some r) : mm_M 31 [.ref l0, .ref l1] (toS z T) = some (tR z r) := Eq.trans (M_31 ..) (G31_0 l0 l1 _ h)
-- 32: HandArchive.countSignsJustLike
noncomputable def F32_36 (k4 : Nat → Nat → Nat → Nat → fS → Option fR) (l0 : Nat) (l1 : Nat) (l2 : Nat) (l3 : Nat) (T : fS) : Option fR := (k4 l0 l1 l2 (iA l3 1) T)
theorem G32_36 {z : Option mm_O} {T : fS} {r : fR} (k4 : Nat → Nat → Nat → Nat → fS → Option fR) (hk4 : ∀ (l0 : Nat) (l1 : Nat) (xl2 : Int32) (l2 : Nat) (hl2 : xl2 = nI l2) (xl3 : Int32) (l3 : Nat) (hl3 : xl3 = nI l3) (T : fS) (r : fR), k4 l0 l1 l2 l3 T = some r → mm_L 32 4 [.ref l0, .ref l1, .int xl2, .int xl3] [] (toS z T) = some (tR z r)) (l0 : Nat) (l1 : Nat) (xl2 : Int32) (l2 : Nat) (hl2 : xl2 = nI l2) (xl3 : Int32) (l3 : Nat) (hl3 : xl3 = nI l3) (h : F32_36 k4 l0 l1 l2 l3 T = some r) : mm_L 32 36 [.ref l0, .ref l1, .int xl2, .int xl3] [] (toS z T) = some (tR z r) := by
  unfold F32_36 at h
  refine Eq.trans (e32_36 ..) ?_
  exact (hk4 _ _ _ _ hl2 _ _ (iA_ok hl3 (rfl : (1 : Int32) = nI 1)) _ _ h)
noncomputable def F32_33 (k4 : Nat → Nat → Nat → Nat → fS → Option fR) (l0 : Nat) (l1 : Nat) (l2 : Nat) (l3 : Nat) (T : fS) : Option fR := (F32_36 k4 l0 l1 (iA l2 1) l3 T)
theorem G32_33 {z : Option mm_O} {T : fS} {r : fR} (k4 : Nat → Nat → Nat → Nat → fS → Option fR) (hk4 : ∀ (l0 : Nat) (l1 : Nat) (xl2 : Int32) (l2 : Nat) (hl2 : xl2 = nI l2) (xl3 : Int32) (l3 : Nat) (hl3 : xl3 = nI l3) (T : fS) (r : fR), k4 l0 l1 l2 l3 T = some r → mm_L 32 4 [.ref l0, .ref l1, .int xl2, .int xl3] [] (toS z T) = some (tR z r)) (l0 : Nat) (l1 : Nat) (xl2 : Int32) (l2 : Nat) (hl2 : xl2 = nI l2) (xl3 : Int32) (l3 : Nat) (hl3 : xl3 = nI l3) (h : F32_33 k4 l0 l1 l2 l3 T = some r) : mm_L 32 33 [.ref l0, .ref l1, .int xl2, .int xl3] [] (toS z T) = some (tR z r) := by
  unfold F32_33 at h
  refine Eq.trans (e32_33 ..) ?_
  exact (G32_36 k4 hk4 _ _ _ _ (iA_ok hl2 (rfl : (1 : Int32) = nI 1)) _ _ hl3 h)
noncomputable def F32_30 (k4 : Nat → Nat → Nat → Nat → fS → Option fR) (l0 : Nat) (l1 : Nat) (l2 : Nat) (l3 : Nat) (s0 : Nat) (T : fS) : Option fR := (fif (ieq s0 0) (F32_36 k4 l0 l1 l2 l3 T) (F32_33 k4 l0 l1 l2 l3 T))
theorem G32_30 {z : Option mm_O} {T : fS} {r : fR} (k4 : Nat → Nat → Nat → Nat → fS → Option fR) (hk4 : ∀ (l0 : Nat) (l1 : Nat) (xl2 : Int32) (l2 : Nat) (hl2 : xl2 = nI l2) (xl3 : Int32) (l3 : Nat) (hl3 : xl3 = nI l3) (T : fS) (r : fR), k4 l0 l1 l2 l3 T = some r → mm_L 32 4 [.ref l0, .ref l1, .int xl2, .int xl3] [] (toS z T) = some (tR z r)) (l0 : Nat) (l1 : Nat) (xl2 : Int32) (l2 : Nat) (hl2 : xl2 = nI l2) (xl3 : Int32) (l3 : Nat) (hl3 : xl3 = nI l3) (xs0 : Int32) (s0 : Nat) (hs0 : xs0 = nI s0) (h : F32_30 k4 l0 l1 l2 l3 s0 T = some r) : mm_L 32 30 [.ref l0, .ref l1, .int xl2, .int xl3] [.int xs0] (toS z T) = some (tR z r) := by
  unfold F32_30 at h
  refine Eq.trans (e32_30 ..) ?_
  exact (fb_if (cj_eq hs0 (rfl : (0 : Int32) = nI 0)) h (fun h1 => (G32_36 k4 hk4 _ _ _ _ hl2 _ _ hl3 h1)) (fun h1 => (G32_33 k4 hk4 _ _ _ _ hl2 _ _ hl3 h1)))
noncomputable def F32_26 (k4 : Nat → Nat → Nat → Nat → fS → Option fR) (l0 : Nat) (l1 : Nat) (l2 : Nat) (l3 : Nat) (s0 : Nat) (T : fS) : Option fR := (fKi true (fif (fch T s0 1) (F9_0 s0 l1 T) none) (fun v0 T1 => F32_30 k4 l0 l1 l2 l3 v0 T1))
theorem G32_26 {z : Option mm_O} {T : fS} {r : fR} (k4 : Nat → Nat → Nat → Nat → fS → Option fR) (hk4 : ∀ (l0 : Nat) (l1 : Nat) (xl2 : Int32) (l2 : Nat) (hl2 : xl2 = nI l2) (xl3 : Int32) (l3 : Nat) (hl3 : xl3 = nI l3) (T : fS) (r : fR), k4 l0 l1 l2 l3 T = some r → mm_L 32 4 [.ref l0, .ref l1, .int xl2, .int xl3] [] (toS z T) = some (tR z r)) (l0 : Nat) (l1 : Nat) (xl2 : Int32) (l2 : Nat) (hl2 : xl2 = nI l2) (xl3 : Int32) (l3 : Nat) (hl3 : xl3 = nI l3) (s0 : Nat) (h : F32_26 k4 l0 l1 l2 l3 s0 T = some r) : mm_L 32 26 [.ref l0, .ref l1, .int xl2, .int xl3] [.ref s0] (toS z T) = some (tR z r) := by
  unfold F32_26 at h
  refine Eq.trans (e32_26 ..) ?_
  exact (fb_K0i (fun _ q => fb_mo (y := 9) ow_9 q (fun q => GM9 _ _ q)) h (fun v0 T1 h2 => G32_30 k4 hk4 _ _ _ _ hl2 _ _ hl3 _ _ rfl h2))
noncomputable def F32_23 (k4 : Nat → Nat → Nat → Nat → fS → Option fR) (l0 : Nat) (l1 : Nat) (l2 : Nat) (l3 : Nat) (s0 : Nat) (T : fS) : Option fR := (fif (fch T s0 1) (F32_26 k4 l0 l1 l2 l3 s0 T) none)
theorem G32_23 {z : Option mm_O} {T : fS} {r : fR} (k4 : Nat → Nat → Nat → Nat → fS → Option fR) (hk4 : ∀ (l0 : Nat) (l1 : Nat) (xl2 : Int32) (l2 : Nat) (hl2 : xl2 = nI l2) (xl3 : Int32) (l3 : Nat) (hl3 : xl3 = nI l3) (T : fS) (r : fR), k4 l0 l1 l2 l3 T = some r → mm_L 32 4 [.ref l0, .ref l1, .int xl2, .int xl3] [] (toS z T) = some (tR z r)) (l0 : Nat) (l1 : Nat) (xl2 : Int32) (l2 : Nat) (hl2 : xl2 = nI l2) (xl3 : Int32) (l3 : Nat) (hl3 : xl3 = nI l3) (s0 : Nat) (h : F32_23 k4 l0 l1 l2 l3 s0 T = some r) : mm_L 32 23 [.ref l0, .ref l1, .int xl2, .int xl3] [.ref s0] (toS z T) = some (tR z r) := by
  unfold F32_23 at h
  refine Eq.trans (e32_23 ..) ?_
  exact (fb_c h (fun h2 => G32_26 k4 hk4 _ _ _ _ hl2 _ _ hl3 _ h2))
noncomputable def F32_19 (k4 : Nat → Nat → Nat → Nat → fS → Option fR) (l0 : Nat) (l1 : Nat) (l2 : Nat) (l3 : Nat) (s0 : Nat) (T : fS) : Option fR := (fbn (flg T s0 l3) (fun v0 => F32_23 k4 l0 l1 l2 l3 v0 T))
theorem G32_19 {z : Option mm_O} {T : fS} {r : fR} (k4 : Nat → Nat → Nat → Nat → fS → Option fR) (hk4 : ∀ (l0 : Nat) (l1 : Nat) (xl2 : Int32) (l2 : Nat) (hl2 : xl2 = nI l2) (xl3 : Int32) (l3 : Nat) (hl3 : xl3 = nI l3) (T : fS) (r : fR), k4 l0 l1 l2 l3 T = some r → mm_L 32 4 [.ref l0, .ref l1, .int xl2, .int xl3] [] (toS z T) = some (tR z r)) (l0 : Nat) (l1 : Nat) (xl2 : Int32) (l2 : Nat) (hl2 : xl2 = nI l2) (xl3 : Int32) (l3 : Nat) (hl3 : xl3 = nI l3) (s0 : Nat) (h : F32_19 k4 l0 l1 l2 l3 s0 T = some r) : mm_L 32 19 [.ref l0, .ref l1, .int xl2, .int xl3] [.ref s0] (toS z T) = some (tR z r) := by
  unfold F32_19 at h
  refine Eq.trans (e32_19 ..) ?_
  exact (fb_g (fun _ q => by rw [hl3]; exact flg_ok q) h (fun v0 h2 => G32_23 k4 hk4 _ _ _ _ hl2 _ _ hl3 _ h2))
noncomputable def F32_15 (k4 : Nat → Nat → Nat → Nat → fS → Option fR) (l0 : Nat) (l1 : Nat) (l2 : Nat) (l3 : Nat) (T : fS) : Option fR := (fbv (fgr T l0 6 0) (fun v0 => F32_19 k4 l0 l1 l2 l3 v0 T) ((none : Option fR)))
theorem G32_15 {z : Option mm_O} {T : fS} {r : fR} (k4 : Nat → Nat → Nat → Nat → fS → Option fR) (hk4 : ∀ (l0 : Nat) (l1 : Nat) (xl2 : Int32) (l2 : Nat) (hl2 : xl2 = nI l2) (xl3 : Int32) (l3 : Nat) (hl3 : xl3 = nI l3) (T : fS) (r : fR), k4 l0 l1 l2 l3 T = some r → mm_L 32 4 [.ref l0, .ref l1, .int xl2, .int xl3] [] (toS z T) = some (tR z r)) (l0 : Nat) (l1 : Nat) (xl2 : Int32) (l2 : Nat) (hl2 : xl2 = nI l2) (xl3 : Int32) (l3 : Nat) (hl3 : xl3 = nI l3) (h : F32_15 k4 l0 l1 l2 l3 T = some r) : mm_L 32 15 [.ref l0, .ref l1, .int xl2, .int xl3] [] (toS z T) = some (tR z r) := by
  unfold F32_15 at h
  refine Eq.trans (e32_15 ..) ?_
  exact (fb_v (fun _ q => fgr_ok q) h (fun v0 h2 => G32_19 k4 hk4 _ _ _ _ hl2 _ _ hl3 _ h2) (fun h2 => fr_n h2))
noncomputable def F32_42  (l0 : Nat) (l1 : Nat) (l2 : Nat) (l3 : Nat) (T : fS) : Option fR := (some ((.inl (some (.inl l2)), T) : fR))
theorem G32_42 {z : Option mm_O} {T : fS} {r : fR}  (l0 : Nat) (l1 : Nat) (xl2 : Int32) (l2 : Nat) (hl2 : xl2 = nI l2) (xl3 : Int32) (l3 : Nat) (hl3 : xl3 = nI l3) (h : F32_42  l0 l1 l2 l3 T = some r) : mm_L 32 42 [.ref l0, .ref l1, .int xl2, .int xl3] [] (toS z T) = some (tR z r) := by
  unfold F32_42 at h
  refine Eq.trans (e32_42 ..) ?_
  exact (fr_i hl2 h)
noncomputable def F32_12 (k4 : Nat → Nat → Nat → Nat → fS → Option fR) (l0 : Nat) (l1 : Nat) (l2 : Nat) (l3 : Nat) (s0 : Nat) (s1 : Nat) (T : fS) : Option fR := (fif (ile s0 s1) (F32_42  l0 l1 l2 l3 T) (F32_15 k4 l0 l1 l2 l3 T))
theorem G32_12 {z : Option mm_O} {T : fS} {r : fR} (k4 : Nat → Nat → Nat → Nat → fS → Option fR) (hk4 : ∀ (l0 : Nat) (l1 : Nat) (xl2 : Int32) (l2 : Nat) (hl2 : xl2 = nI l2) (xl3 : Int32) (l3 : Nat) (hl3 : xl3 = nI l3) (T : fS) (r : fR), k4 l0 l1 l2 l3 T = some r → mm_L 32 4 [.ref l0, .ref l1, .int xl2, .int xl3] [] (toS z T) = some (tR z r)) (l0 : Nat) (l1 : Nat) (xl2 : Int32) (l2 : Nat) (hl2 : xl2 = nI l2) (xl3 : Int32) (l3 : Nat) (hl3 : xl3 = nI l3) (xs0 : Int32) (s0 : Nat) (hs0 : xs0 = nI s0) (xs1 : Int32) (s1 : Nat) (hs1 : xs1 = nI s1) (h : F32_12 k4 l0 l1 l2 l3 s0 s1 T = some r) : mm_L 32 12 [.ref l0, .ref l1, .int xl2, .int xl3] [.int xs0, .int xs1] (toS z T) = some (tR z r) := by
  unfold F32_12 at h
  refine Eq.trans (e32_12 ..) ?_
  exact (fb_if (cj_le hs0 hs1) h (fun h1 => (G32_42  _ _ _ _ hl2 _ _ hl3 h1)) (fun h1 => (G32_15 k4 hk4 _ _ _ _ hl2 _ _ hl3 h1)))
noncomputable def F32_9 (k4 : Nat → Nat → Nat → Nat → fS → Option fR) (l0 : Nat) (l1 : Nat) (l2 : Nat) (l3 : Nat) (s0 : Nat) (s1 : Nat) (T : fS) : Option fR := (fbn (flz T s0) (fun v0 => F32_12 k4 l0 l1 l2 l3 v0 s1 T))
theorem G32_9 {z : Option mm_O} {T : fS} {r : fR} (k4 : Nat → Nat → Nat → Nat → fS → Option fR) (hk4 : ∀ (l0 : Nat) (l1 : Nat) (xl2 : Int32) (l2 : Nat) (hl2 : xl2 = nI l2) (xl3 : Int32) (l3 : Nat) (hl3 : xl3 = nI l3) (T : fS) (r : fR), k4 l0 l1 l2 l3 T = some r → mm_L 32 4 [.ref l0, .ref l1, .int xl2, .int xl3] [] (toS z T) = some (tR z r)) (l0 : Nat) (l1 : Nat) (xl2 : Int32) (l2 : Nat) (hl2 : xl2 = nI l2) (xl3 : Int32) (l3 : Nat) (hl3 : xl3 = nI l3) (s0 : Nat) (xs1 : Int32) (s1 : Nat) (hs1 : xs1 = nI s1) (h : F32_9 k4 l0 l1 l2 l3 s0 s1 T = some r) : mm_L 32 9 [.ref l0, .ref l1, .int xl2, .int xl3] [.ref s0, .int xs1] (toS z T) = some (tR z r) := by
  unfold F32_9 at h
  refine Eq.trans (e32_9 ..) ?_
  exact (fb_n (fun _ q => flz_ok q) h (fun v0 h2 => G32_12 k4 hk4 _ _ _ _ hl2 _ _ hl3 _ _ rfl _ _ hs1 h2))
noncomputable def F32_4 (k4 : Nat → Nat → Nat → Nat → fS → Option fR) (l0 : Nat) (l1 : Nat) (l2 : Nat) (l3 : Nat) (T : fS) : Option fR := (fbv (fgr T l0 6 0) (fun v0 => F32_9 k4 l0 l1 l2 l3 v0 l3 T) ((none : Option fR)))
theorem G32_4 {z : Option mm_O} {T : fS} {r : fR} (k4 : Nat → Nat → Nat → Nat → fS → Option fR) (hk4 : ∀ (l0 : Nat) (l1 : Nat) (xl2 : Int32) (l2 : Nat) (hl2 : xl2 = nI l2) (xl3 : Int32) (l3 : Nat) (hl3 : xl3 = nI l3) (T : fS) (r : fR), k4 l0 l1 l2 l3 T = some r → mm_L 32 4 [.ref l0, .ref l1, .int xl2, .int xl3] [] (toS z T) = some (tR z r)) (l0 : Nat) (l1 : Nat) (xl2 : Int32) (l2 : Nat) (hl2 : xl2 = nI l2) (xl3 : Int32) (l3 : Nat) (hl3 : xl3 = nI l3) (h : F32_4 k4 l0 l1 l2 l3 T = some r) : mm_L 32 4 [.ref l0, .ref l1, .int xl2, .int xl3] [] (toS z T) = some (tR z r) := by
  unfold F32_4 at h
  refine Eq.trans (e32_4 ..) ?_
  exact (fb_v (fun _ q => fgr_ok q) h (fun v0 h2 => G32_9 k4 hk4 _ _ _ _ hl2 _ _ hl3 _ _ _ hl3 h2) (fun h2 => fr_n h2))
noncomputable def H32_4  (n : Nat) : Nat → Nat → Nat → Nat → fS → Option fR := Nat.rec (motive := fun _ => Nat → Nat → Nat → Nat → fS → Option fR) (fun _ _ _ _ _ => none) (fun _ ih => F32_4 ih) n
theorem HG32_4 {z : Option mm_O}  : ∀ (n : Nat) (l0 : Nat) (l1 : Nat) (xl2 : Int32) (l2 : Nat) (hl2 : xl2 = nI l2) (xl3 : Int32) (l3 : Nat) (hl3 : xl3 = nI l3) {T : fS} {r : fR}, H32_4  n l0 l1 l2 l3 T = some r → mm_L 32 4 [.ref l0, .ref l1, .int xl2, .int xl3] [] (toS z T) = some (tR z r) := by
  intro n
  induction n with
  | zero =>
    intro l0 l1 xl2 l2 hl2 xl3 l3 hl3 T r h
    exact fr_n h
  | succ n ih =>
    intro l0 l1 xl2 l2 hl2 xl3 l3 hl3 T r h
    exact G32_4 (H32_4  n) (fun l0 l1 xl2 l2 hl2 xl3 l3 hl3 T r h => ih l0 l1 xl2 l2 hl2 xl3 l3 hl3 h) l0 l1 xl2 l2 hl2 xl3 l3 hl3 h
noncomputable def F32_0  (l0 : Nat) (l1 : Nat) (T : fS) : Option fR := (H32_4  300 l0 l1 0 0 T)
theorem G32_0 {z : Option mm_O} {T : fS} {r : fR}  (l0 : Nat) (l1 : Nat) (ul2 : Value) (ul3 : Value) (h : F32_0  l0 l1 T = some r) : mm_L 32 0 [.ref l0, .ref l1, ul2, ul3] [] (toS z T) = some (tR z r) := by
  unfold F32_0 at h
  refine Eq.trans (e32_0 ..) ?_
  exact (HG32_4  300 _ _ _ _ (rfl : (0 : Int32) = nI 0) _ _ (rfl : (0 : Int32) = nI 0) h)
theorem GM32 {z : Option mm_O} {T : fS} {r : fR} (l0 : Nat) (l1 : Nat) (h : F32_0 l0 l1 T = some r) : mm_M 32 [.ref l0, .ref l1] (toS z T) = some (tR z r) := Eq.trans (M_32 ..) (G32_0 l0 l1 _ _ h)
-- 46: HandArchive.referentBehind
noncomputable def F46_84 (k5 : Nat → Nat → Nat → Nat → Nat → fS → Option fR) (l0 : Nat) (l1 : Nat) (l2 : Nat) (l3 : Nat) (l4 : Nat) (l5 : Nat) (T : fS) : Option fR := (k5 l0 l1 l2 l3 (iA l4 1) T)
theorem G46_84 {z : Option mm_O} {T : fS} {r : fR} (k5 : Nat → Nat → Nat → Nat → Nat → fS → Option fR) (hk5 : ∀ (l0 : Nat) (xl1 : Int32) (l1 : Nat) (hl1 : xl1 = nI l1) (xl2 : Int32) (l2 : Nat) (hl2 : xl2 = nI l2) (xl3 : Int32) (l3 : Nat) (hl3 : xl3 = nI l3) (xl4 : Int32) (l4 : Nat) (hl4 : xl4 = nI l4) (ul5 : Value) (T : fS) (r : fR), k5 l0 l1 l2 l3 l4 T = some r → mm_L 46 5 [.ref l0, .int xl1, .int xl2, .int xl3, .int xl4, ul5] [] (toS z T) = some (tR z r)) (l0 : Nat) (xl1 : Int32) (l1 : Nat) (hl1 : xl1 = nI l1) (xl2 : Int32) (l2 : Nat) (hl2 : xl2 = nI l2) (xl3 : Int32) (l3 : Nat) (hl3 : xl3 = nI l3) (xl4 : Int32) (l4 : Nat) (hl4 : xl4 = nI l4) (l5 : Nat) (h : F46_84 k5 l0 l1 l2 l3 l4 l5 T = some r) : mm_L 46 84 [.ref l0, .int xl1, .int xl2, .int xl3, .int xl4, .ref l5] [] (toS z T) = some (tR z r) := by
  unfold F46_84 at h
  refine Eq.trans (e46_84 ..) ?_
  exact (hk5 _ _ _ hl1 _ _ hl2 _ _ hl3 _ _ (iA_ok hl4 (rfl : (1 : Int32) = nI 1)) _ _ _ h)
noncomputable def F46_60 (k5 : Nat → Nat → Nat → Nat → Nat → fS → Option fR) (l0 : Nat) (l1 : Nat) (l2 : Nat) (l3 : Nat) (l4 : Nat) (l5 : Nat) (s0 : Nat) (T : fS) : Option fR := (F46_84 k5 l0 l1 l2 s0 l4 l5 T)
theorem G46_60 {z : Option mm_O} {T : fS} {r : fR} (k5 : Nat → Nat → Nat → Nat → Nat → fS → Option fR) (hk5 : ∀ (l0 : Nat) (xl1 : Int32) (l1 : Nat) (hl1 : xl1 = nI l1) (xl2 : Int32) (l2 : Nat) (hl2 : xl2 = nI l2) (xl3 : Int32) (l3 : Nat) (hl3 : xl3 = nI l3) (xl4 : Int32) (l4 : Nat) (hl4 : xl4 = nI l4) (ul5 : Value) (T : fS) (r : fR), k5 l0 l1 l2 l3 l4 T = some r → mm_L 46 5 [.ref l0, .int xl1, .int xl2, .int xl3, .int xl4, ul5] [] (toS z T) = some (tR z r)) (l0 : Nat) (xl1 : Int32) (l1 : Nat) (hl1 : xl1 = nI l1) (xl2 : Int32) (l2 : Nat) (hl2 : xl2 = nI l2) (xl3 : Int32) (l3 : Nat) (hl3 : xl3 = nI l3) (xl4 : Int32) (l4 : Nat) (hl4 : xl4 = nI l4) (l5 : Nat) (xs0 : Int32) (s0 : Nat) (hs0 : xs0 = nI s0) (h : F46_60 k5 l0 l1 l2 l3 l4 l5 s0 T = some r) : mm_L 46 60 [.ref l0, .int xl1, .int xl2, .int xl3, .int xl4, .ref l5] [.int xs0] (toS z T) = some (tR z r) := by
  unfold F46_60 at h
  refine Eq.trans (e46_60 ..) ?_
  exact (G46_84 k5 hk5 _ _ _ hl1 _ _ hl2 _ _ hs0 _ _ hl4 _ h)
noncomputable def F46_55 (k5 : Nat → Nat → Nat → Nat → Nat → fS → Option fR) (l0 : Nat) (l1 : Nat) (l2 : Nat) (l3 : Nat) (l4 : Nat) (l5 : Nat) (T : fS) : Option fR := (fbn (fgi T l5 2 2) (fun v0 => F46_60 k5 l0 l1 l2 l3 l4 l5 v0 T))
theorem G46_55 {z : Option mm_O} {T : fS} {r : fR} (k5 : Nat → Nat → Nat → Nat → Nat → fS → Option fR) (hk5 : ∀ (l0 : Nat) (xl1 : Int32) (l1 : Nat) (hl1 : xl1 = nI l1) (xl2 : Int32) (l2 : Nat) (hl2 : xl2 = nI l2) (xl3 : Int32) (l3 : Nat) (hl3 : xl3 = nI l3) (xl4 : Int32) (l4 : Nat) (hl4 : xl4 = nI l4) (ul5 : Value) (T : fS) (r : fR), k5 l0 l1 l2 l3 l4 T = some r → mm_L 46 5 [.ref l0, .int xl1, .int xl2, .int xl3, .int xl4, ul5] [] (toS z T) = some (tR z r)) (l0 : Nat) (xl1 : Int32) (l1 : Nat) (hl1 : xl1 = nI l1) (xl2 : Int32) (l2 : Nat) (hl2 : xl2 = nI l2) (xl3 : Int32) (l3 : Nat) (hl3 : xl3 = nI l3) (xl4 : Int32) (l4 : Nat) (hl4 : xl4 = nI l4) (l5 : Nat) (h : F46_55 k5 l0 l1 l2 l3 l4 l5 T = some r) : mm_L 46 55 [.ref l0, .int xl1, .int xl2, .int xl3, .int xl4, .ref l5] [] (toS z T) = some (tR z r) := by
  unfold F46_55 at h
  refine Eq.trans (e46_55 ..) ?_
  exact (fb_n (fun _ q => fgi_ok q) h (fun v0 h2 => G46_60 k5 hk5 _ _ _ hl1 _ _ hl2 _ _ hl3 _ _ hl4 _ _ _ rfl h2))
noncomputable def F46_82 (k5 : Nat → Nat → Nat → Nat → Nat → fS → Option fR) (l0 : Nat) (l1 : Nat) (l2 : Nat) (l3 : Nat) (l4 : Nat) (l5 : Nat) (T : fS) : Option fR := (F46_84 k5 l0 l1 l2 4294967295 l4 l5 T)
theorem G46_82 {z : Option mm_O} {T : fS} {r : fR} (k5 : Nat → Nat → Nat → Nat → Nat → fS → Option fR) (hk5 : ∀ (l0 : Nat) (xl1 : Int32) (l1 : Nat) (hl1 : xl1 = nI l1) (xl2 : Int32) (l2 : Nat) (hl2 : xl2 = nI l2) (xl3 : Int32) (l3 : Nat) (hl3 : xl3 = nI l3) (xl4 : Int32) (l4 : Nat) (hl4 : xl4 = nI l4) (ul5 : Value) (T : fS) (r : fR), k5 l0 l1 l2 l3 l4 T = some r → mm_L 46 5 [.ref l0, .int xl1, .int xl2, .int xl3, .int xl4, ul5] [] (toS z T) = some (tR z r)) (l0 : Nat) (xl1 : Int32) (l1 : Nat) (hl1 : xl1 = nI l1) (xl2 : Int32) (l2 : Nat) (hl2 : xl2 = nI l2) (xl3 : Int32) (l3 : Nat) (hl3 : xl3 = nI l3) (xl4 : Int32) (l4 : Nat) (hl4 : xl4 = nI l4) (l5 : Nat) (h : F46_82 k5 l0 l1 l2 l3 l4 l5 T = some r) : mm_L 46 82 [.ref l0, .int xl1, .int xl2, .int xl3, .int xl4, .ref l5] [] (toS z T) = some (tR z r) := by
  unfold F46_82 at h
  refine Eq.trans (e46_82 ..) ?_
  exact (G46_84 k5 hk5 _ _ _ hl1 _ _ hl2 _ _ (by decide : (-1 : Int32) = nI 4294967295) _ _ hl4 _ h)
noncomputable def F46_78 (k5 : Nat → Nat → Nat → Nat → Nat → fS → Option fR) (l0 : Nat) (l1 : Nat) (l2 : Nat) (l3 : Nat) (l4 : Nat) (l5 : Nat) (s0 : Nat) (T : fS) : Option fR := (fif (ieq s0 l2) (F46_82 k5 l0 l1 l2 l3 l4 l5 T) (F46_84 k5 l0 l1 l2 l3 l4 l5 T))
theorem G46_78 {z : Option mm_O} {T : fS} {r : fR} (k5 : Nat → Nat → Nat → Nat → Nat → fS → Option fR) (hk5 : ∀ (l0 : Nat) (xl1 : Int32) (l1 : Nat) (hl1 : xl1 = nI l1) (xl2 : Int32) (l2 : Nat) (hl2 : xl2 = nI l2) (xl3 : Int32) (l3 : Nat) (hl3 : xl3 = nI l3) (xl4 : Int32) (l4 : Nat) (hl4 : xl4 = nI l4) (ul5 : Value) (T : fS) (r : fR), k5 l0 l1 l2 l3 l4 T = some r → mm_L 46 5 [.ref l0, .int xl1, .int xl2, .int xl3, .int xl4, ul5] [] (toS z T) = some (tR z r)) (l0 : Nat) (xl1 : Int32) (l1 : Nat) (hl1 : xl1 = nI l1) (xl2 : Int32) (l2 : Nat) (hl2 : xl2 = nI l2) (xl3 : Int32) (l3 : Nat) (hl3 : xl3 = nI l3) (xl4 : Int32) (l4 : Nat) (hl4 : xl4 = nI l4) (l5 : Nat) (xs0 : Int32) (s0 : Nat) (hs0 : xs0 = nI s0) (h : F46_78 k5 l0 l1 l2 l3 l4 l5 s0 T = some r) : mm_L 46 78 [.ref l0, .int xl1, .int xl2, .int xl3, .int xl4, .ref l5] [.int xs0] (toS z T) = some (tR z r) := by
  unfold F46_78 at h
  refine Eq.trans (e46_78 ..) ?_
  exact (fb_if (cj_eq hs0 hl2) h (fun h1 => (G46_82 k5 hk5 _ _ _ hl1 _ _ hl2 _ _ hl3 _ _ hl4 _ h1)) (fun h1 => (G46_84 k5 hk5 _ _ _ hl1 _ _ hl2 _ _ hl3 _ _ hl4 _ h1)))
noncomputable def F46_73 (k5 : Nat → Nat → Nat → Nat → Nat → fS → Option fR) (l0 : Nat) (l1 : Nat) (l2 : Nat) (l3 : Nat) (l4 : Nat) (l5 : Nat) (T : fS) : Option fR := (fbn (fgi T l5 2 1) (fun v0 => F46_78 k5 l0 l1 l2 l3 l4 l5 v0 T))
theorem G46_73 {z : Option mm_O} {T : fS} {r : fR} (k5 : Nat → Nat → Nat → Nat → Nat → fS → Option fR) (hk5 : ∀ (l0 : Nat) (xl1 : Int32) (l1 : Nat) (hl1 : xl1 = nI l1) (xl2 : Int32) (l2 : Nat) (hl2 : xl2 = nI l2) (xl3 : Int32) (l3 : Nat) (hl3 : xl3 = nI l3) (xl4 : Int32) (l4 : Nat) (hl4 : xl4 = nI l4) (ul5 : Value) (T : fS) (r : fR), k5 l0 l1 l2 l3 l4 T = some r → mm_L 46 5 [.ref l0, .int xl1, .int xl2, .int xl3, .int xl4, ul5] [] (toS z T) = some (tR z r)) (l0 : Nat) (xl1 : Int32) (l1 : Nat) (hl1 : xl1 = nI l1) (xl2 : Int32) (l2 : Nat) (hl2 : xl2 = nI l2) (xl3 : Int32) (l3 : Nat) (hl3 : xl3 = nI l3) (xl4 : Int32) (l4 : Nat) (hl4 : xl4 = nI l4) (l5 : Nat) (h : F46_73 k5 l0 l1 l2 l3 l4 l5 T = some r) : mm_L 46 73 [.ref l0, .int xl1, .int xl2, .int xl3, .int xl4, .ref l5] [] (toS z T) = some (tR z r) := by
  unfold F46_73 at h
  refine Eq.trans (e46_73 ..) ?_
  exact (fb_n (fun _ q => fgi_ok q) h (fun v0 h2 => G46_78 k5 hk5 _ _ _ hl1 _ _ hl2 _ _ hl3 _ _ hl4 _ _ _ rfl h2))
noncomputable def F46_69 (k5 : Nat → Nat → Nat → Nat → Nat → fS → Option fR) (l0 : Nat) (l1 : Nat) (l2 : Nat) (l3 : Nat) (l4 : Nat) (l5 : Nat) (s0 : Nat) (T : fS) : Option fR := (fif (ieq s0 3) (F46_73 k5 l0 l1 l2 l3 l4 l5 T) (F46_84 k5 l0 l1 l2 l3 l4 l5 T))
theorem G46_69 {z : Option mm_O} {T : fS} {r : fR} (k5 : Nat → Nat → Nat → Nat → Nat → fS → Option fR) (hk5 : ∀ (l0 : Nat) (xl1 : Int32) (l1 : Nat) (hl1 : xl1 = nI l1) (xl2 : Int32) (l2 : Nat) (hl2 : xl2 = nI l2) (xl3 : Int32) (l3 : Nat) (hl3 : xl3 = nI l3) (xl4 : Int32) (l4 : Nat) (hl4 : xl4 = nI l4) (ul5 : Value) (T : fS) (r : fR), k5 l0 l1 l2 l3 l4 T = some r → mm_L 46 5 [.ref l0, .int xl1, .int xl2, .int xl3, .int xl4, ul5] [] (toS z T) = some (tR z r)) (l0 : Nat) (xl1 : Int32) (l1 : Nat) (hl1 : xl1 = nI l1) (xl2 : Int32) (l2 : Nat) (hl2 : xl2 = nI l2) (xl3 : Int32) (l3 : Nat) (hl3 : xl3 = nI l3) (xl4 : Int32) (l4 : Nat) (hl4 : xl4 = nI l4) (l5 : Nat) (xs0 : Int32) (s0 : Nat) (hs0 : xs0 = nI s0) (h : F46_69 k5 l0 l1 l2 l3 l4 l5 s0 T = some r) : mm_L 46 69 [.ref l0, .int xl1, .int xl2, .int xl3, .int xl4, .ref l5] [.int xs0] (toS z T) = some (tR z r) := by
  unfold F46_69 at h
  refine Eq.trans (e46_69 ..) ?_
  exact (fb_if (cj_eq hs0 (rfl : (3 : Int32) = nI 3)) h (fun h1 => (G46_73 k5 hk5 _ _ _ hl1 _ _ hl2 _ _ hl3 _ _ hl4 _ h1)) (fun h1 => (G46_84 k5 hk5 _ _ _ hl1 _ _ hl2 _ _ hl3 _ _ hl4 _ h1)))
noncomputable def F46_64 (k5 : Nat → Nat → Nat → Nat → Nat → fS → Option fR) (l0 : Nat) (l1 : Nat) (l2 : Nat) (l3 : Nat) (l4 : Nat) (l5 : Nat) (T : fS) : Option fR := (fbn (fgi T l5 2 0) (fun v0 => F46_69 k5 l0 l1 l2 l3 l4 l5 v0 T))
theorem G46_64 {z : Option mm_O} {T : fS} {r : fR} (k5 : Nat → Nat → Nat → Nat → Nat → fS → Option fR) (hk5 : ∀ (l0 : Nat) (xl1 : Int32) (l1 : Nat) (hl1 : xl1 = nI l1) (xl2 : Int32) (l2 : Nat) (hl2 : xl2 = nI l2) (xl3 : Int32) (l3 : Nat) (hl3 : xl3 = nI l3) (xl4 : Int32) (l4 : Nat) (hl4 : xl4 = nI l4) (ul5 : Value) (T : fS) (r : fR), k5 l0 l1 l2 l3 l4 T = some r → mm_L 46 5 [.ref l0, .int xl1, .int xl2, .int xl3, .int xl4, ul5] [] (toS z T) = some (tR z r)) (l0 : Nat) (xl1 : Int32) (l1 : Nat) (hl1 : xl1 = nI l1) (xl2 : Int32) (l2 : Nat) (hl2 : xl2 = nI l2) (xl3 : Int32) (l3 : Nat) (hl3 : xl3 = nI l3) (xl4 : Int32) (l4 : Nat) (hl4 : xl4 = nI l4) (l5 : Nat) (h : F46_64 k5 l0 l1 l2 l3 l4 l5 T = some r) : mm_L 46 64 [.ref l0, .int xl1, .int xl2, .int xl3, .int xl4, .ref l5] [] (toS z T) = some (tR z r) := by
  unfold F46_64 at h
  refine Eq.trans (e46_64 ..) ?_
  exact (fb_n (fun _ q => fgi_ok q) h (fun v0 h2 => G46_69 k5 hk5 _ _ _ hl1 _ _ hl2 _ _ hl3 _ _ hl4 _ _ _ rfl h2))
noncomputable def F46_51 (k5 : Nat → Nat → Nat → Nat → Nat → fS → Option fR) (l0 : Nat) (l1 : Nat) (l2 : Nat) (l3 : Nat) (l4 : Nat) (l5 : Nat) (s0 : Nat) (T : fS) : Option fR := (fif (ieq s0 l2) (F46_55 k5 l0 l1 l2 l3 l4 l5 T) (F46_64 k5 l0 l1 l2 l3 l4 l5 T))
theorem G46_51 {z : Option mm_O} {T : fS} {r : fR} (k5 : Nat → Nat → Nat → Nat → Nat → fS → Option fR) (hk5 : ∀ (l0 : Nat) (xl1 : Int32) (l1 : Nat) (hl1 : xl1 = nI l1) (xl2 : Int32) (l2 : Nat) (hl2 : xl2 = nI l2) (xl3 : Int32) (l3 : Nat) (hl3 : xl3 = nI l3) (xl4 : Int32) (l4 : Nat) (hl4 : xl4 = nI l4) (ul5 : Value) (T : fS) (r : fR), k5 l0 l1 l2 l3 l4 T = some r → mm_L 46 5 [.ref l0, .int xl1, .int xl2, .int xl3, .int xl4, ul5] [] (toS z T) = some (tR z r)) (l0 : Nat) (xl1 : Int32) (l1 : Nat) (hl1 : xl1 = nI l1) (xl2 : Int32) (l2 : Nat) (hl2 : xl2 = nI l2) (xl3 : Int32) (l3 : Nat) (hl3 : xl3 = nI l3) (xl4 : Int32) (l4 : Nat) (hl4 : xl4 = nI l4) (l5 : Nat) (xs0 : Int32) (s0 : Nat) (hs0 : xs0 = nI s0) (h : F46_51 k5 l0 l1 l2 l3 l4 l5 s0 T = some r) : mm_L 46 51 [.ref l0, .int xl1, .int xl2, .int xl3, .int xl4, .ref l5] [.int xs0] (toS z T) = some (tR z r) := by
  unfold F46_51 at h
  refine Eq.trans (e46_51 ..) ?_
  exact (fb_if (cj_eq hs0 hl2) h (fun h1 => (G46_55 k5 hk5 _ _ _ hl1 _ _ hl2 _ _ hl3 _ _ hl4 _ h1)) (fun h1 => (G46_64 k5 hk5 _ _ _ hl1 _ _ hl2 _ _ hl3 _ _ hl4 _ h1)))
noncomputable def F46_46 (k5 : Nat → Nat → Nat → Nat → Nat → fS → Option fR) (l0 : Nat) (l1 : Nat) (l2 : Nat) (l3 : Nat) (l4 : Nat) (l5 : Nat) (T : fS) : Option fR := (fbn (fgi T l5 2 1) (fun v0 => F46_51 k5 l0 l1 l2 l3 l4 l5 v0 T))
theorem G46_46 {z : Option mm_O} {T : fS} {r : fR} (k5 : Nat → Nat → Nat → Nat → Nat → fS → Option fR) (hk5 : ∀ (l0 : Nat) (xl1 : Int32) (l1 : Nat) (hl1 : xl1 = nI l1) (xl2 : Int32) (l2 : Nat) (hl2 : xl2 = nI l2) (xl3 : Int32) (l3 : Nat) (hl3 : xl3 = nI l3) (xl4 : Int32) (l4 : Nat) (hl4 : xl4 = nI l4) (ul5 : Value) (T : fS) (r : fR), k5 l0 l1 l2 l3 l4 T = some r → mm_L 46 5 [.ref l0, .int xl1, .int xl2, .int xl3, .int xl4, ul5] [] (toS z T) = some (tR z r)) (l0 : Nat) (xl1 : Int32) (l1 : Nat) (hl1 : xl1 = nI l1) (xl2 : Int32) (l2 : Nat) (hl2 : xl2 = nI l2) (xl3 : Int32) (l3 : Nat) (hl3 : xl3 = nI l3) (xl4 : Int32) (l4 : Nat) (hl4 : xl4 = nI l4) (l5 : Nat) (h : F46_46 k5 l0 l1 l2 l3 l4 l5 T = some r) : mm_L 46 46 [.ref l0, .int xl1, .int xl2, .int xl3, .int xl4, .ref l5] [] (toS z T) = some (tR z r) := by
  unfold F46_46 at h
  refine Eq.trans (e46_46 ..) ?_
  exact (fb_n (fun _ q => fgi_ok q) h (fun v0 h2 => G46_51 k5 hk5 _ _ _ hl1 _ _ hl2 _ _ hl3 _ _ hl4 _ _ _ rfl h2))
noncomputable def F46_42 (k5 : Nat → Nat → Nat → Nat → Nat → fS → Option fR) (l0 : Nat) (l1 : Nat) (l2 : Nat) (l3 : Nat) (l4 : Nat) (l5 : Nat) (s0 : Nat) (T : fS) : Option fR := (fif (ieq s0 1) (F46_46 k5 l0 l1 l2 l3 l4 l5 T) (F46_64 k5 l0 l1 l2 l3 l4 l5 T))
theorem G46_42 {z : Option mm_O} {T : fS} {r : fR} (k5 : Nat → Nat → Nat → Nat → Nat → fS → Option fR) (hk5 : ∀ (l0 : Nat) (xl1 : Int32) (l1 : Nat) (hl1 : xl1 = nI l1) (xl2 : Int32) (l2 : Nat) (hl2 : xl2 = nI l2) (xl3 : Int32) (l3 : Nat) (hl3 : xl3 = nI l3) (xl4 : Int32) (l4 : Nat) (hl4 : xl4 = nI l4) (ul5 : Value) (T : fS) (r : fR), k5 l0 l1 l2 l3 l4 T = some r → mm_L 46 5 [.ref l0, .int xl1, .int xl2, .int xl3, .int xl4, ul5] [] (toS z T) = some (tR z r)) (l0 : Nat) (xl1 : Int32) (l1 : Nat) (hl1 : xl1 = nI l1) (xl2 : Int32) (l2 : Nat) (hl2 : xl2 = nI l2) (xl3 : Int32) (l3 : Nat) (hl3 : xl3 = nI l3) (xl4 : Int32) (l4 : Nat) (hl4 : xl4 = nI l4) (l5 : Nat) (xs0 : Int32) (s0 : Nat) (hs0 : xs0 = nI s0) (h : F46_42 k5 l0 l1 l2 l3 l4 l5 s0 T = some r) : mm_L 46 42 [.ref l0, .int xl1, .int xl2, .int xl3, .int xl4, .ref l5] [.int xs0] (toS z T) = some (tR z r) := by
  unfold F46_42 at h
  refine Eq.trans (e46_42 ..) ?_
  exact (fb_if (cj_eq hs0 (rfl : (1 : Int32) = nI 1)) h (fun h1 => (G46_46 k5 hk5 _ _ _ hl1 _ _ hl2 _ _ hl3 _ _ hl4 _ h1)) (fun h1 => (G46_64 k5 hk5 _ _ _ hl1 _ _ hl2 _ _ hl3 _ _ hl4 _ h1)))
noncomputable def F46_35 (k5 : Nat → Nat → Nat → Nat → Nat → fS → Option fR) (l0 : Nat) (l1 : Nat) (l2 : Nat) (l3 : Nat) (l4 : Nat) (s0 : Nat) (T : fS) : Option fR := (fbn (fgi T s0 2 0) (fun v0 => F46_42 k5 l0 l1 l2 l3 l4 s0 v0 T))
theorem G46_35 {z : Option mm_O} {T : fS} {r : fR} (k5 : Nat → Nat → Nat → Nat → Nat → fS → Option fR) (hk5 : ∀ (l0 : Nat) (xl1 : Int32) (l1 : Nat) (hl1 : xl1 = nI l1) (xl2 : Int32) (l2 : Nat) (hl2 : xl2 = nI l2) (xl3 : Int32) (l3 : Nat) (hl3 : xl3 = nI l3) (xl4 : Int32) (l4 : Nat) (hl4 : xl4 = nI l4) (ul5 : Value) (T : fS) (r : fR), k5 l0 l1 l2 l3 l4 T = some r → mm_L 46 5 [.ref l0, .int xl1, .int xl2, .int xl3, .int xl4, ul5] [] (toS z T) = some (tR z r)) (l0 : Nat) (xl1 : Int32) (l1 : Nat) (hl1 : xl1 = nI l1) (xl2 : Int32) (l2 : Nat) (hl2 : xl2 = nI l2) (xl3 : Int32) (l3 : Nat) (hl3 : xl3 = nI l3) (xl4 : Int32) (l4 : Nat) (hl4 : xl4 = nI l4) (ul5 : Value) (s0 : Nat) (h : F46_35 k5 l0 l1 l2 l3 l4 s0 T = some r) : mm_L 46 35 [.ref l0, .int xl1, .int xl2, .int xl3, .int xl4, ul5] [.ref s0] (toS z T) = some (tR z r) := by
  unfold F46_35 at h
  refine Eq.trans (e46_35 ..) ?_
  exact (fb_n (fun _ q => fgi_ok q) h (fun v0 h2 => G46_42 k5 hk5 _ _ _ hl1 _ _ hl2 _ _ hl3 _ _ hl4 _ _ _ rfl h2))
noncomputable def F46_32 (k5 : Nat → Nat → Nat → Nat → Nat → fS → Option fR) (l0 : Nat) (l1 : Nat) (l2 : Nat) (l3 : Nat) (l4 : Nat) (s0 : Nat) (T : fS) : Option fR := (fif (fch T s0 2) (F46_35 k5 l0 l1 l2 l3 l4 s0 T) none)
theorem G46_32 {z : Option mm_O} {T : fS} {r : fR} (k5 : Nat → Nat → Nat → Nat → Nat → fS → Option fR) (hk5 : ∀ (l0 : Nat) (xl1 : Int32) (l1 : Nat) (hl1 : xl1 = nI l1) (xl2 : Int32) (l2 : Nat) (hl2 : xl2 = nI l2) (xl3 : Int32) (l3 : Nat) (hl3 : xl3 = nI l3) (xl4 : Int32) (l4 : Nat) (hl4 : xl4 = nI l4) (ul5 : Value) (T : fS) (r : fR), k5 l0 l1 l2 l3 l4 T = some r → mm_L 46 5 [.ref l0, .int xl1, .int xl2, .int xl3, .int xl4, ul5] [] (toS z T) = some (tR z r)) (l0 : Nat) (xl1 : Int32) (l1 : Nat) (hl1 : xl1 = nI l1) (xl2 : Int32) (l2 : Nat) (hl2 : xl2 = nI l2) (xl3 : Int32) (l3 : Nat) (hl3 : xl3 = nI l3) (xl4 : Int32) (l4 : Nat) (hl4 : xl4 = nI l4) (ul5 : Value) (s0 : Nat) (h : F46_32 k5 l0 l1 l2 l3 l4 s0 T = some r) : mm_L 46 32 [.ref l0, .int xl1, .int xl2, .int xl3, .int xl4, ul5] [.ref s0] (toS z T) = some (tR z r) := by
  unfold F46_32 at h
  refine Eq.trans (e46_32 ..) ?_
  exact (fb_c h (fun h2 => G46_35 k5 hk5 _ _ _ hl1 _ _ hl2 _ _ hl3 _ _ hl4 _ _ h2))
noncomputable def F46_27 (k5 : Nat → Nat → Nat → Nat → Nat → fS → Option fR) (l0 : Nat) (l1 : Nat) (l2 : Nat) (l3 : Nat) (l4 : Nat) (s0 : Nat) (T : fS) : Option fR := (fbn (flg T s0 l4) (fun v0 => F46_32 k5 l0 l1 l2 l3 l4 v0 T))
theorem G46_27 {z : Option mm_O} {T : fS} {r : fR} (k5 : Nat → Nat → Nat → Nat → Nat → fS → Option fR) (hk5 : ∀ (l0 : Nat) (xl1 : Int32) (l1 : Nat) (hl1 : xl1 = nI l1) (xl2 : Int32) (l2 : Nat) (hl2 : xl2 = nI l2) (xl3 : Int32) (l3 : Nat) (hl3 : xl3 = nI l3) (xl4 : Int32) (l4 : Nat) (hl4 : xl4 = nI l4) (ul5 : Value) (T : fS) (r : fR), k5 l0 l1 l2 l3 l4 T = some r → mm_L 46 5 [.ref l0, .int xl1, .int xl2, .int xl3, .int xl4, ul5] [] (toS z T) = some (tR z r)) (l0 : Nat) (xl1 : Int32) (l1 : Nat) (hl1 : xl1 = nI l1) (xl2 : Int32) (l2 : Nat) (hl2 : xl2 = nI l2) (xl3 : Int32) (l3 : Nat) (hl3 : xl3 = nI l3) (xl4 : Int32) (l4 : Nat) (hl4 : xl4 = nI l4) (ul5 : Value) (s0 : Nat) (h : F46_27 k5 l0 l1 l2 l3 l4 s0 T = some r) : mm_L 46 27 [.ref l0, .int xl1, .int xl2, .int xl3, .int xl4, ul5] [.ref s0] (toS z T) = some (tR z r) := by
  unfold F46_27 at h
  refine Eq.trans (e46_27 ..) ?_
  exact (fb_g (fun _ q => by rw [hl4]; exact flg_ok q) h (fun v0 h2 => G46_32 k5 hk5 _ _ _ hl1 _ _ hl2 _ _ hl3 _ _ hl4 _ _ h2))
noncomputable def F46_23 (k5 : Nat → Nat → Nat → Nat → Nat → fS → Option fR) (l0 : Nat) (l1 : Nat) (l2 : Nat) (l3 : Nat) (l4 : Nat) (T : fS) : Option fR := (fbv (fgr T l0 6 1) (fun v0 => F46_27 k5 l0 l1 l2 l3 l4 v0 T) ((none : Option fR)))
theorem G46_23 {z : Option mm_O} {T : fS} {r : fR} (k5 : Nat → Nat → Nat → Nat → Nat → fS → Option fR) (hk5 : ∀ (l0 : Nat) (xl1 : Int32) (l1 : Nat) (hl1 : xl1 = nI l1) (xl2 : Int32) (l2 : Nat) (hl2 : xl2 = nI l2) (xl3 : Int32) (l3 : Nat) (hl3 : xl3 = nI l3) (xl4 : Int32) (l4 : Nat) (hl4 : xl4 = nI l4) (ul5 : Value) (T : fS) (r : fR), k5 l0 l1 l2 l3 l4 T = some r → mm_L 46 5 [.ref l0, .int xl1, .int xl2, .int xl3, .int xl4, ul5] [] (toS z T) = some (tR z r)) (l0 : Nat) (xl1 : Int32) (l1 : Nat) (hl1 : xl1 = nI l1) (xl2 : Int32) (l2 : Nat) (hl2 : xl2 = nI l2) (xl3 : Int32) (l3 : Nat) (hl3 : xl3 = nI l3) (xl4 : Int32) (l4 : Nat) (hl4 : xl4 = nI l4) (ul5 : Value) (h : F46_23 k5 l0 l1 l2 l3 l4 T = some r) : mm_L 46 23 [.ref l0, .int xl1, .int xl2, .int xl3, .int xl4, ul5] [] (toS z T) = some (tR z r) := by
  unfold F46_23 at h
  refine Eq.trans (e46_23 ..) ?_
  exact (fb_v (fun _ q => fgr_ok q) h (fun v0 h2 => G46_27 k5 hk5 _ _ _ hl1 _ _ hl2 _ _ hl3 _ _ hl4 _ _ h2) (fun h2 => fr_n h2))
noncomputable def F46_90  (l0 : Nat) (l1 : Nat) (l2 : Nat) (l3 : Nat) (l4 : Nat) (T : fS) : Option fR := (some ((.inl (some (.inl l3)), T) : fR))
theorem G46_90 {z : Option mm_O} {T : fS} {r : fR}  (l0 : Nat) (xl1 : Int32) (l1 : Nat) (hl1 : xl1 = nI l1) (xl2 : Int32) (l2 : Nat) (hl2 : xl2 = nI l2) (xl3 : Int32) (l3 : Nat) (hl3 : xl3 = nI l3) (xl4 : Int32) (l4 : Nat) (hl4 : xl4 = nI l4) (ul5 : Value) (h : F46_90  l0 l1 l2 l3 l4 T = some r) : mm_L 46 90 [.ref l0, .int xl1, .int xl2, .int xl3, .int xl4, ul5] [] (toS z T) = some (tR z r) := by
  unfold F46_90 at h
  refine Eq.trans (e46_90 ..) ?_
  exact (fr_i hl3 h)
noncomputable def F46_20 (k5 : Nat → Nat → Nat → Nat → Nat → fS → Option fR) (l0 : Nat) (l1 : Nat) (l2 : Nat) (l3 : Nat) (l4 : Nat) (s0 : Nat) (s1 : Nat) (T : fS) : Option fR := (fif (ile s0 s1) (F46_90  l0 l1 l2 l3 l4 T) (F46_23 k5 l0 l1 l2 l3 l4 T))
theorem G46_20 {z : Option mm_O} {T : fS} {r : fR} (k5 : Nat → Nat → Nat → Nat → Nat → fS → Option fR) (hk5 : ∀ (l0 : Nat) (xl1 : Int32) (l1 : Nat) (hl1 : xl1 = nI l1) (xl2 : Int32) (l2 : Nat) (hl2 : xl2 = nI l2) (xl3 : Int32) (l3 : Nat) (hl3 : xl3 = nI l3) (xl4 : Int32) (l4 : Nat) (hl4 : xl4 = nI l4) (ul5 : Value) (T : fS) (r : fR), k5 l0 l1 l2 l3 l4 T = some r → mm_L 46 5 [.ref l0, .int xl1, .int xl2, .int xl3, .int xl4, ul5] [] (toS z T) = some (tR z r)) (l0 : Nat) (xl1 : Int32) (l1 : Nat) (hl1 : xl1 = nI l1) (xl2 : Int32) (l2 : Nat) (hl2 : xl2 = nI l2) (xl3 : Int32) (l3 : Nat) (hl3 : xl3 = nI l3) (xl4 : Int32) (l4 : Nat) (hl4 : xl4 = nI l4) (ul5 : Value) (xs0 : Int32) (s0 : Nat) (hs0 : xs0 = nI s0) (xs1 : Int32) (s1 : Nat) (hs1 : xs1 = nI s1) (h : F46_20 k5 l0 l1 l2 l3 l4 s0 s1 T = some r) : mm_L 46 20 [.ref l0, .int xl1, .int xl2, .int xl3, .int xl4, ul5] [.int xs0, .int xs1] (toS z T) = some (tR z r) := by
  unfold F46_20 at h
  refine Eq.trans (e46_20 ..) ?_
  exact (fb_if (cj_le hs0 hs1) h (fun h1 => (G46_90  _ _ _ hl1 _ _ hl2 _ _ hl3 _ _ hl4 _ h1)) (fun h1 => (G46_23 k5 hk5 _ _ _ hl1 _ _ hl2 _ _ hl3 _ _ hl4 _ h1)))
noncomputable def F46_17 (k5 : Nat → Nat → Nat → Nat → Nat → fS → Option fR) (l0 : Nat) (l1 : Nat) (l2 : Nat) (l3 : Nat) (l4 : Nat) (s0 : Nat) (s1 : Nat) (T : fS) : Option fR := (fbn (flz T s0) (fun v0 => F46_20 k5 l0 l1 l2 l3 l4 v0 s1 T))
theorem G46_17 {z : Option mm_O} {T : fS} {r : fR} (k5 : Nat → Nat → Nat → Nat → Nat → fS → Option fR) (hk5 : ∀ (l0 : Nat) (xl1 : Int32) (l1 : Nat) (hl1 : xl1 = nI l1) (xl2 : Int32) (l2 : Nat) (hl2 : xl2 = nI l2) (xl3 : Int32) (l3 : Nat) (hl3 : xl3 = nI l3) (xl4 : Int32) (l4 : Nat) (hl4 : xl4 = nI l4) (ul5 : Value) (T : fS) (r : fR), k5 l0 l1 l2 l3 l4 T = some r → mm_L 46 5 [.ref l0, .int xl1, .int xl2, .int xl3, .int xl4, ul5] [] (toS z T) = some (tR z r)) (l0 : Nat) (xl1 : Int32) (l1 : Nat) (hl1 : xl1 = nI l1) (xl2 : Int32) (l2 : Nat) (hl2 : xl2 = nI l2) (xl3 : Int32) (l3 : Nat) (hl3 : xl3 = nI l3) (xl4 : Int32) (l4 : Nat) (hl4 : xl4 = nI l4) (ul5 : Value) (s0 : Nat) (xs1 : Int32) (s1 : Nat) (hs1 : xs1 = nI s1) (h : F46_17 k5 l0 l1 l2 l3 l4 s0 s1 T = some r) : mm_L 46 17 [.ref l0, .int xl1, .int xl2, .int xl3, .int xl4, ul5] [.ref s0, .int xs1] (toS z T) = some (tR z r) := by
  unfold F46_17 at h
  refine Eq.trans (e46_17 ..) ?_
  exact (fb_n (fun _ q => flz_ok q) h (fun v0 h2 => G46_20 k5 hk5 _ _ _ hl1 _ _ hl2 _ _ hl3 _ _ hl4 _ _ _ rfl _ _ hs1 h2))
noncomputable def F46_11 (k5 : Nat → Nat → Nat → Nat → Nat → fS → Option fR) (l0 : Nat) (l1 : Nat) (l2 : Nat) (l3 : Nat) (l4 : Nat) (T : fS) : Option fR := (fbv (fgr T l0 6 1) (fun v0 => F46_17 k5 l0 l1 l2 l3 l4 v0 l4 T) ((none : Option fR)))
theorem G46_11 {z : Option mm_O} {T : fS} {r : fR} (k5 : Nat → Nat → Nat → Nat → Nat → fS → Option fR) (hk5 : ∀ (l0 : Nat) (xl1 : Int32) (l1 : Nat) (hl1 : xl1 = nI l1) (xl2 : Int32) (l2 : Nat) (hl2 : xl2 = nI l2) (xl3 : Int32) (l3 : Nat) (hl3 : xl3 = nI l3) (xl4 : Int32) (l4 : Nat) (hl4 : xl4 = nI l4) (ul5 : Value) (T : fS) (r : fR), k5 l0 l1 l2 l3 l4 T = some r → mm_L 46 5 [.ref l0, .int xl1, .int xl2, .int xl3, .int xl4, ul5] [] (toS z T) = some (tR z r)) (l0 : Nat) (xl1 : Int32) (l1 : Nat) (hl1 : xl1 = nI l1) (xl2 : Int32) (l2 : Nat) (hl2 : xl2 = nI l2) (xl3 : Int32) (l3 : Nat) (hl3 : xl3 = nI l3) (xl4 : Int32) (l4 : Nat) (hl4 : xl4 = nI l4) (ul5 : Value) (h : F46_11 k5 l0 l1 l2 l3 l4 T = some r) : mm_L 46 11 [.ref l0, .int xl1, .int xl2, .int xl3, .int xl4, ul5] [] (toS z T) = some (tR z r) := by
  unfold F46_11 at h
  refine Eq.trans (e46_11 ..) ?_
  exact (fb_v (fun _ q => fgr_ok q) h (fun v0 h2 => G46_17 k5 hk5 _ _ _ hl1 _ _ hl2 _ _ hl3 _ _ hl4 _ _ _ _ hl4 h2) (fun h2 => fr_n h2))
noncomputable def F46_5 (k5 : Nat → Nat → Nat → Nat → Nat → fS → Option fR) (l0 : Nat) (l1 : Nat) (l2 : Nat) (l3 : Nat) (l4 : Nat) (T : fS) : Option fR := (fif (ilt l1 l4) (F46_90  l0 l1 l2 l3 l4 T) (F46_11 k5 l0 l1 l2 l3 l4 T))
theorem G46_5 {z : Option mm_O} {T : fS} {r : fR} (k5 : Nat → Nat → Nat → Nat → Nat → fS → Option fR) (hk5 : ∀ (l0 : Nat) (xl1 : Int32) (l1 : Nat) (hl1 : xl1 = nI l1) (xl2 : Int32) (l2 : Nat) (hl2 : xl2 = nI l2) (xl3 : Int32) (l3 : Nat) (hl3 : xl3 = nI l3) (xl4 : Int32) (l4 : Nat) (hl4 : xl4 = nI l4) (ul5 : Value) (T : fS) (r : fR), k5 l0 l1 l2 l3 l4 T = some r → mm_L 46 5 [.ref l0, .int xl1, .int xl2, .int xl3, .int xl4, ul5] [] (toS z T) = some (tR z r)) (l0 : Nat) (xl1 : Int32) (l1 : Nat) (hl1 : xl1 = nI l1) (xl2 : Int32) (l2 : Nat) (hl2 : xl2 = nI l2) (xl3 : Int32) (l3 : Nat) (hl3 : xl3 = nI l3) (xl4 : Int32) (l4 : Nat) (hl4 : xl4 = nI l4) (ul5 : Value) (h : F46_5 k5 l0 l1 l2 l3 l4 T = some r) : mm_L 46 5 [.ref l0, .int xl1, .int xl2, .int xl3, .int xl4, ul5] [] (toS z T) = some (tR z r) := by
  unfold F46_5 at h
  refine Eq.trans (e46_5 ..) ?_
  exact (fb_if (cj_lt hl1 hl4) h (fun h1 => (G46_90  _ _ _ hl1 _ _ hl2 _ _ hl3 _ _ hl4 _ h1)) (fun h1 => (G46_11 k5 hk5 _ _ _ hl1 _ _ hl2 _ _ hl3 _ _ hl4 _ h1)))
noncomputable def H46_5  (n : Nat) : Nat → Nat → Nat → Nat → Nat → fS → Option fR := Nat.rec (motive := fun _ => Nat → Nat → Nat → Nat → Nat → fS → Option fR) (fun _ _ _ _ _ _ => none) (fun _ ih => F46_5 ih) n
theorem HG46_5 {z : Option mm_O}  : ∀ (n : Nat) (l0 : Nat) (xl1 : Int32) (l1 : Nat) (hl1 : xl1 = nI l1) (xl2 : Int32) (l2 : Nat) (hl2 : xl2 = nI l2) (xl3 : Int32) (l3 : Nat) (hl3 : xl3 = nI l3) (xl4 : Int32) (l4 : Nat) (hl4 : xl4 = nI l4) (ul5 : Value) {T : fS} {r : fR}, H46_5  n l0 l1 l2 l3 l4 T = some r → mm_L 46 5 [.ref l0, .int xl1, .int xl2, .int xl3, .int xl4, ul5] [] (toS z T) = some (tR z r) := by
  intro n
  induction n with
  | zero =>
    intro l0 xl1 l1 hl1 xl2 l2 hl2 xl3 l3 hl3 xl4 l4 hl4 ul5 T r h
    exact fr_n h
  | succ n ih =>
    intro l0 xl1 l1 hl1 xl2 l2 hl2 xl3 l3 hl3 xl4 l4 hl4 ul5 T r h
    exact G46_5 (H46_5  n) (fun l0 xl1 l1 hl1 xl2 l2 hl2 xl3 l3 hl3 xl4 l4 hl4 ul5 T r h => ih l0 xl1 l1 hl1 xl2 l2 hl2 xl3 l3 hl3 xl4 l4 hl4 ul5 h) l0 xl1 l1 hl1 xl2 l2 hl2 xl3 l3 hl3 xl4 l4 hl4 ul5 h
noncomputable def F46_0  (l0 : Nat) (l1 : Nat) (l2 : Nat) (T : fS) : Option fR := (H46_5  300 l0 l1 l2 4294967295 0 T)
theorem G46_0 {z : Option mm_O} {T : fS} {r : fR}  (l0 : Nat) (xl1 : Int32) (l1 : Nat) (hl1 : xl1 = nI l1) (xl2 : Int32) (l2 : Nat) (hl2 : xl2 = nI l2) (ul3 : Value) (ul4 : Value) (ul5 : Value) (h : F46_0  l0 l1 l2 T = some r) : mm_L 46 0 [.ref l0, .int xl1, .int xl2, ul3, ul4, ul5] [] (toS z T) = some (tR z r) := by
  unfold F46_0 at h
  refine Eq.trans (e46_0 ..) ?_
  exact (HG46_5  300 _ _ _ hl1 _ _ hl2 _ _ (by decide : (-1 : Int32) = nI 4294967295) _ _ (rfl : (0 : Int32) = nI 0) _ h)
theorem GM46 {z : Option mm_O} {T : fS} {r : fR} (l0 : Nat) (xl1 : Int32) (l1 : Nat) (hl1 : xl1 = nI l1) (xl2 : Int32) (l2 : Nat) (hl2 : xl2 = nI l2) (h : F46_0 l0 l1 l2 T = some r) : mm_M 46 [.ref l0, .int xl1, .int xl2] (toS z T) = some (tR z r) := Eq.trans (M_46 ..) (G46_0 l0 xl1 l1 hl1 xl2 l2 hl2 _ _ _ h)
-- 47: HandArchive.handsTold
noncomputable def F47_21  (l0 : Nat) (l1 : Nat) (l2 : Nat) (l3 : Nat) (l4 : Nat) (l5 : Nat) (s0 : Nat) (T : fS) : Option fR := (some ((.inl (some (.inr (some s0))), T) : fR))
theorem G47_21 {z : Option mm_O} {T : fS} {r : fR}  (l0 : Nat) (xl1 : Int32) (l1 : Nat) (hl1 : xl1 = nI l1) (xl2 : Int32) (l2 : Nat) (hl2 : xl2 = nI l2) (xl3 : Int32) (l3 : Nat) (hl3 : xl3 = nI l3) (xl4 : Int32) (l4 : Nat) (hl4 : xl4 = nI l4) (xl5 : Int32) (l5 : Nat) (hl5 : xl5 = nI l5) (ul6 : Value) (ul7 : Value) (s0 : Nat) (h : F47_21  l0 l1 l2 l3 l4 l5 s0 T = some r) : mm_L 47 21 [.ref l0, .int xl1, .int xl2, .int xl3, .int xl4, .int xl5, ul6, ul7] [.ref s0] (toS z T) = some (tR z r) := by
  unfold F47_21 at h
  refine Eq.trans (e47_21 ..) ?_
  exact (fr_r h)
noncomputable def F47_5  (l0 : Nat) (l1 : Nat) (l2 : Nat) (l3 : Nat) (l4 : Nat) (T : fS) : Option fR := (fKr true (F48_0 (iS l2 (iM (iF2 (fun x y => x / y) l2 8) 8)) 4 (iF2 (fun x y => x / y) l2 8) T) (fun v0 T1 => F47_21  l0 l1 l2 l3 l4 (iF2 (fun x y => x / y) l2 8) v0 T1))
theorem G47_5 {z : Option mm_O} {T : fS} {r : fR}  (l0 : Nat) (xl1 : Int32) (l1 : Nat) (hl1 : xl1 = nI l1) (xl2 : Int32) (l2 : Nat) (hl2 : xl2 = nI l2) (xl3 : Int32) (l3 : Nat) (hl3 : xl3 = nI l3) (xl4 : Int32) (l4 : Nat) (hl4 : xl4 = nI l4) (ul5 : Value) (ul6 : Value) (ul7 : Value) (h : F47_5  l0 l1 l2 l3 l4 T = some r) : mm_L 47 5 [.ref l0, .int xl1, .int xl2, .int xl3, .int xl4, ul5, ul6, ul7] [] (toS z T) = some (tR z r) := by
  unfold F47_5 at h
  refine Eq.trans (e47_5 ..) ?_
  exact (fb_K0r (fun _ q => GM48 _ _ (iS_ok hl2 (iM_ok (iF2_ok (f := (fun x y => x / y)) hl2 (rfl : (8 : Int32) = nI 8)) (rfl : (8 : Int32) = nI 8))) _ _ (rfl : (4 : Int32) = nI 4) _ _ (iF2_ok (f := (fun x y => x / y)) hl2 (rfl : (8 : Int32) = nI 8)) q) h (fun v0 T1 h2 => G47_21  _ _ _ hl1 _ _ hl2 _ _ hl3 _ _ hl4 _ _ (iF2_ok (f := (fun x y => x / y)) hl2 (rfl : (8 : Int32) = nI 8)) _ _ _ h2))
noncomputable def F47_48  (l0 : Nat) (l1 : Nat) (l2 : Nat) (l3 : Nat) (l4 : Nat) (s0 : Nat) (T : fS) : Option fR := (some ((.inl (some (.inr (some s0))), T) : fR))
theorem G47_48 {z : Option mm_O} {T : fS} {r : fR}  (l0 : Nat) (xl1 : Int32) (l1 : Nat) (hl1 : xl1 = nI l1) (xl2 : Int32) (l2 : Nat) (hl2 : xl2 = nI l2) (xl3 : Int32) (l3 : Nat) (hl3 : xl3 = nI l3) (xl4 : Int32) (l4 : Nat) (hl4 : xl4 = nI l4) (ul5 : Value) (ul6 : Value) (ul7 : Value) (s0 : Nat) (h : F47_48  l0 l1 l2 l3 l4 s0 T = some r) : mm_L 47 48 [.ref l0, .int xl1, .int xl2, .int xl3, .int xl4, ul5, ul6, ul7] [.ref s0] (toS z T) = some (tR z r) := by
  unfold F47_48 at h
  refine Eq.trans (e47_48 ..) ?_
  exact (fr_r h)
noncomputable def F47_44  (l0 : Nat) (l1 : Nat) (l2 : Nat) (l3 : Nat) (l4 : Nat) (s0 : Nat) (s1 : Nat) (T : fS) : Option fR := (fKr true (F48_0 s1 s0 0 T) (fun v0 T1 => F47_48  l0 l1 l2 l3 l4 v0 T1))
theorem G47_44 {z : Option mm_O} {T : fS} {r : fR}  (l0 : Nat) (xl1 : Int32) (l1 : Nat) (hl1 : xl1 = nI l1) (xl2 : Int32) (l2 : Nat) (hl2 : xl2 = nI l2) (xl3 : Int32) (l3 : Nat) (hl3 : xl3 = nI l3) (xl4 : Int32) (l4 : Nat) (hl4 : xl4 = nI l4) (ul5 : Value) (ul6 : Value) (ul7 : Value) (xs0 : Int32) (s0 : Nat) (hs0 : xs0 = nI s0) (xs1 : Int32) (s1 : Nat) (hs1 : xs1 = nI s1) (h : F47_44  l0 l1 l2 l3 l4 s0 s1 T = some r) : mm_L 47 44 [.ref l0, .int xl1, .int xl2, .int xl3, .int xl4, ul5, ul6, ul7] [.int xs0, .int xs1] (toS z T) = some (tR z r) := by
  unfold F47_44 at h
  refine Eq.trans (e47_44 ..) ?_
  exact (fb_K0r (fun _ q => GM48 _ _ hs1 _ _ hs0 _ _ (rfl : (0 : Int32) = nI 0) q) h (fun v0 T1 h2 => G47_48  _ _ _ hl1 _ _ hl2 _ _ hl3 _ _ hl4 _ _ _ _ h2))
noncomputable def F47_39  (l0 : Nat) (l1 : Nat) (l2 : Nat) (l3 : Nat) (l4 : Nat) (T : fS) : Option fR := (fKi true (F55_0 l2 T) (fun v0 T1 => F47_44  l0 l1 l2 l3 l4 v0 1 T1))
theorem G47_39 {z : Option mm_O} {T : fS} {r : fR}  (l0 : Nat) (xl1 : Int32) (l1 : Nat) (hl1 : xl1 = nI l1) (xl2 : Int32) (l2 : Nat) (hl2 : xl2 = nI l2) (xl3 : Int32) (l3 : Nat) (hl3 : xl3 = nI l3) (xl4 : Int32) (l4 : Nat) (hl4 : xl4 = nI l4) (ul5 : Value) (ul6 : Value) (ul7 : Value) (h : F47_39  l0 l1 l2 l3 l4 T = some r) : mm_L 47 39 [.ref l0, .int xl1, .int xl2, .int xl3, .int xl4, ul5, ul6, ul7] [] (toS z T) = some (tR z r) := by
  unfold F47_39 at h
  refine Eq.trans (e47_39 ..) ?_
  exact (fb_K0i (fun _ q => GM55 _ _ hl2 q) h (fun v0 T1 h2 => G47_44  _ _ _ hl1 _ _ hl2 _ _ hl3 _ _ hl4 _ _ _ _ _ rfl _ _ (rfl : (1 : Int32) = nI 1) h2))
noncomputable def F47_137  (l0 : Nat) (l1 : Nat) (l2 : Nat) (l3 : Nat) (l4 : Nat) (l5 : Nat) (l6 : Nat) (l7 : Nat) (s0 : Nat) (T : fS) : Option fR := (some ((.inl (some (.inr (some s0))), T) : fR))
theorem G47_137 {z : Option mm_O} {T : fS} {r : fR}  (l0 : Nat) (xl1 : Int32) (l1 : Nat) (hl1 : xl1 = nI l1) (xl2 : Int32) (l2 : Nat) (hl2 : xl2 = nI l2) (xl3 : Int32) (l3 : Nat) (hl3 : xl3 = nI l3) (xl4 : Int32) (l4 : Nat) (hl4 : xl4 = nI l4) (l5 : Nat) (xl6 : Int32) (l6 : Nat) (hl6 : xl6 = nI l6) (xl7 : Int32) (l7 : Nat) (hl7 : xl7 = nI l7) (s0 : Nat) (h : F47_137  l0 l1 l2 l3 l4 l5 l6 l7 s0 T = some r) : mm_L 47 137 [.ref l0, .int xl1, .int xl2, .int xl3, .int xl4, .ref l5, .int xl6, .int xl7] [.ref s0] (toS z T) = some (tR z r) := by
  unfold F47_137 at h
  refine Eq.trans (e47_137 ..) ?_
  exact (fr_r h)
noncomputable def F47_134  (l0 : Nat) (l1 : Nat) (l2 : Nat) (l3 : Nat) (l4 : Nat) (l5 : Nat) (l6 : Nat) (l7 : Nat) (s0 : Nat) (s1 : Nat) (s2 : Nat) (s3 : Nat) (s4 : Nat) (s5 : Nat) (s6 : Nat) (s7 : Nat) (s8 : Nat) (T : fS) : Option fR := (fKv false (fif (fch T s7 1) (F6_0 s7 s6 s5 s4 s3 s2 s1 s0 T) none) (fun T1 => F47_137  l0 l1 l2 l3 l4 l5 l6 l7 s8 T1))
theorem G47_134 {z : Option mm_O} {T : fS} {r : fR}  (l0 : Nat) (xl1 : Int32) (l1 : Nat) (hl1 : xl1 = nI l1) (xl2 : Int32) (l2 : Nat) (hl2 : xl2 = nI l2) (xl3 : Int32) (l3 : Nat) (hl3 : xl3 = nI l3) (xl4 : Int32) (l4 : Nat) (hl4 : xl4 = nI l4) (l5 : Nat) (xl6 : Int32) (l6 : Nat) (hl6 : xl6 = nI l6) (xl7 : Int32) (l7 : Nat) (hl7 : xl7 = nI l7) (xs0 : Int32) (s0 : Nat) (hs0 : xs0 = nI s0) (xs1 : Int32) (s1 : Nat) (hs1 : xs1 = nI s1) (xs2 : Int32) (s2 : Nat) (hs2 : xs2 = nI s2) (xs3 : Int32) (s3 : Nat) (hs3 : xs3 = nI s3) (xs4 : Int32) (s4 : Nat) (hs4 : xs4 = nI s4) (xs5 : Int32) (s5 : Nat) (hs5 : xs5 = nI s5) (xs6 : Int32) (s6 : Nat) (hs6 : xs6 = nI s6) (s7 : Nat) (s8 : Nat) (h : F47_134  l0 l1 l2 l3 l4 l5 l6 l7 s0 s1 s2 s3 s4 s5 s6 s7 s8 T = some r) : mm_L 47 134 [.ref l0, .int xl1, .int xl2, .int xl3, .int xl4, .ref l5, .int xl6, .int xl7] [.int xs0, .int xs1, .int xs2, .int xs3, .int xs4, .int xs5, .int xs6, .ref s7, .ref s8] (toS z T) = some (tR z r) := by
  unfold F47_134 at h
  refine Eq.trans (e47_134 ..) ?_
  exact (fb_K2v (fun _ q => fb_mo (y := 6) ow_6 q (fun q => GM6 _ _ _ hs6 _ _ hs5 _ _ hs4 _ _ hs3 _ _ hs2 _ _ hs1 _ _ hs0 q)) h (fun T1 h2 => G47_137  _ _ _ hl1 _ _ hl2 _ _ hl3 _ _ hl4 _ _ _ hl6 _ _ hl7 _ h2))
noncomputable def F47_129  (l0 : Nat) (l1 : Nat) (l2 : Nat) (l3 : Nat) (l4 : Nat) (l5 : Nat) (l6 : Nat) (l7 : Nat) (s0 : Nat) (s1 : Nat) (s2 : Nat) (s3 : Nat) (s4 : Nat) (s5 : Nat) (s6 : Nat) (s7 : Nat) (T : fS) : Option fR := (fbn (fgi T l5 1 6) (fun v0 => F47_134  l0 l1 l2 l3 l4 l5 l6 l7 v0 s0 s1 s2 s3 s4 s5 s6 s7 T))
theorem G47_129 {z : Option mm_O} {T : fS} {r : fR}  (l0 : Nat) (xl1 : Int32) (l1 : Nat) (hl1 : xl1 = nI l1) (xl2 : Int32) (l2 : Nat) (hl2 : xl2 = nI l2) (xl3 : Int32) (l3 : Nat) (hl3 : xl3 = nI l3) (xl4 : Int32) (l4 : Nat) (hl4 : xl4 = nI l4) (l5 : Nat) (xl6 : Int32) (l6 : Nat) (hl6 : xl6 = nI l6) (xl7 : Int32) (l7 : Nat) (hl7 : xl7 = nI l7) (xs0 : Int32) (s0 : Nat) (hs0 : xs0 = nI s0) (xs1 : Int32) (s1 : Nat) (hs1 : xs1 = nI s1) (xs2 : Int32) (s2 : Nat) (hs2 : xs2 = nI s2) (xs3 : Int32) (s3 : Nat) (hs3 : xs3 = nI s3) (xs4 : Int32) (s4 : Nat) (hs4 : xs4 = nI s4) (xs5 : Int32) (s5 : Nat) (hs5 : xs5 = nI s5) (s6 : Nat) (s7 : Nat) (h : F47_129  l0 l1 l2 l3 l4 l5 l6 l7 s0 s1 s2 s3 s4 s5 s6 s7 T = some r) : mm_L 47 129 [.ref l0, .int xl1, .int xl2, .int xl3, .int xl4, .ref l5, .int xl6, .int xl7] [.int xs0, .int xs1, .int xs2, .int xs3, .int xs4, .int xs5, .ref s6, .ref s7] (toS z T) = some (tR z r) := by
  unfold F47_129 at h
  refine Eq.trans (e47_129 ..) ?_
  exact (fb_n (fun _ q => fgi_ok q) h (fun v0 h2 => G47_134  _ _ _ hl1 _ _ hl2 _ _ hl3 _ _ hl4 _ _ _ hl6 _ _ hl7 _ _ rfl _ _ hs0 _ _ hs1 _ _ hs2 _ _ hs3 _ _ hs4 _ _ hs5 _ _ h2))
noncomputable def F47_124  (l0 : Nat) (l1 : Nat) (l2 : Nat) (l3 : Nat) (l4 : Nat) (l5 : Nat) (l6 : Nat) (l7 : Nat) (s0 : Nat) (s1 : Nat) (s2 : Nat) (s3 : Nat) (s4 : Nat) (s5 : Nat) (s6 : Nat) (T : fS) : Option fR := (fbn (fgi T l5 1 5) (fun v0 => F47_129  l0 l1 l2 l3 l4 l5 l6 l7 v0 s0 s1 s2 s3 s4 s5 s6 T))
theorem G47_124 {z : Option mm_O} {T : fS} {r : fR}  (l0 : Nat) (xl1 : Int32) (l1 : Nat) (hl1 : xl1 = nI l1) (xl2 : Int32) (l2 : Nat) (hl2 : xl2 = nI l2) (xl3 : Int32) (l3 : Nat) (hl3 : xl3 = nI l3) (xl4 : Int32) (l4 : Nat) (hl4 : xl4 = nI l4) (l5 : Nat) (xl6 : Int32) (l6 : Nat) (hl6 : xl6 = nI l6) (xl7 : Int32) (l7 : Nat) (hl7 : xl7 = nI l7) (xs0 : Int32) (s0 : Nat) (hs0 : xs0 = nI s0) (xs1 : Int32) (s1 : Nat) (hs1 : xs1 = nI s1) (xs2 : Int32) (s2 : Nat) (hs2 : xs2 = nI s2) (xs3 : Int32) (s3 : Nat) (hs3 : xs3 = nI s3) (xs4 : Int32) (s4 : Nat) (hs4 : xs4 = nI s4) (s5 : Nat) (s6 : Nat) (h : F47_124  l0 l1 l2 l3 l4 l5 l6 l7 s0 s1 s2 s3 s4 s5 s6 T = some r) : mm_L 47 124 [.ref l0, .int xl1, .int xl2, .int xl3, .int xl4, .ref l5, .int xl6, .int xl7] [.int xs0, .int xs1, .int xs2, .int xs3, .int xs4, .ref s5, .ref s6] (toS z T) = some (tR z r) := by
  unfold F47_124 at h
  refine Eq.trans (e47_124 ..) ?_
  exact (fb_n (fun _ q => fgi_ok q) h (fun v0 h2 => G47_129  _ _ _ hl1 _ _ hl2 _ _ hl3 _ _ hl4 _ _ _ hl6 _ _ hl7 _ _ rfl _ _ hs0 _ _ hs1 _ _ hs2 _ _ hs3 _ _ hs4 _ _ h2))
noncomputable def F47_119  (l0 : Nat) (l1 : Nat) (l2 : Nat) (l3 : Nat) (l4 : Nat) (l5 : Nat) (l6 : Nat) (l7 : Nat) (s0 : Nat) (s1 : Nat) (s2 : Nat) (s3 : Nat) (s4 : Nat) (s5 : Nat) (T : fS) : Option fR := (fbn (fgi T l5 1 4) (fun v0 => F47_124  l0 l1 l2 l3 l4 l5 l6 l7 v0 s0 s1 s2 s3 s4 s5 T))
theorem G47_119 {z : Option mm_O} {T : fS} {r : fR}  (l0 : Nat) (xl1 : Int32) (l1 : Nat) (hl1 : xl1 = nI l1) (xl2 : Int32) (l2 : Nat) (hl2 : xl2 = nI l2) (xl3 : Int32) (l3 : Nat) (hl3 : xl3 = nI l3) (xl4 : Int32) (l4 : Nat) (hl4 : xl4 = nI l4) (l5 : Nat) (xl6 : Int32) (l6 : Nat) (hl6 : xl6 = nI l6) (xl7 : Int32) (l7 : Nat) (hl7 : xl7 = nI l7) (xs0 : Int32) (s0 : Nat) (hs0 : xs0 = nI s0) (xs1 : Int32) (s1 : Nat) (hs1 : xs1 = nI s1) (xs2 : Int32) (s2 : Nat) (hs2 : xs2 = nI s2) (xs3 : Int32) (s3 : Nat) (hs3 : xs3 = nI s3) (s4 : Nat) (s5 : Nat) (h : F47_119  l0 l1 l2 l3 l4 l5 l6 l7 s0 s1 s2 s3 s4 s5 T = some r) : mm_L 47 119 [.ref l0, .int xl1, .int xl2, .int xl3, .int xl4, .ref l5, .int xl6, .int xl7] [.int xs0, .int xs1, .int xs2, .int xs3, .ref s4, .ref s5] (toS z T) = some (tR z r) := by
  unfold F47_119 at h
  refine Eq.trans (e47_119 ..) ?_
  exact (fb_n (fun _ q => fgi_ok q) h (fun v0 h2 => G47_124  _ _ _ hl1 _ _ hl2 _ _ hl3 _ _ hl4 _ _ _ hl6 _ _ hl7 _ _ rfl _ _ hs0 _ _ hs1 _ _ hs2 _ _ hs3 _ _ h2))
noncomputable def F47_110  (l0 : Nat) (l1 : Nat) (l2 : Nat) (l3 : Nat) (l4 : Nat) (l5 : Nat) (l6 : Nat) (l7 : Nat) (s0 : Nat) (s1 : Nat) (s2 : Nat) (T : fS) : Option fR := (fbn (fgi T l5 1 3) (fun v0 => F47_119  l0 l1 l2 l3 l4 l5 l6 l7 v0 l7 l6 s0 s1 s2 T))
theorem G47_110 {z : Option mm_O} {T : fS} {r : fR}  (l0 : Nat) (xl1 : Int32) (l1 : Nat) (hl1 : xl1 = nI l1) (xl2 : Int32) (l2 : Nat) (hl2 : xl2 = nI l2) (xl3 : Int32) (l3 : Nat) (hl3 : xl3 = nI l3) (xl4 : Int32) (l4 : Nat) (hl4 : xl4 = nI l4) (l5 : Nat) (xl6 : Int32) (l6 : Nat) (hl6 : xl6 = nI l6) (xl7 : Int32) (l7 : Nat) (hl7 : xl7 = nI l7) (xs0 : Int32) (s0 : Nat) (hs0 : xs0 = nI s0) (s1 : Nat) (s2 : Nat) (h : F47_110  l0 l1 l2 l3 l4 l5 l6 l7 s0 s1 s2 T = some r) : mm_L 47 110 [.ref l0, .int xl1, .int xl2, .int xl3, .int xl4, .ref l5, .int xl6, .int xl7] [.int xs0, .ref s1, .ref s2] (toS z T) = some (tR z r) := by
  unfold F47_110 at h
  refine Eq.trans (e47_110 ..) ?_
  exact (fb_n (fun _ q => fgi_ok q) h (fun v0 h2 => G47_119  _ _ _ hl1 _ _ hl2 _ _ hl3 _ _ hl4 _ _ _ hl6 _ _ hl7 _ _ rfl _ _ hl7 _ _ hl6 _ _ hs0 _ _ h2))
noncomputable def F47_99  (l0 : Nat) (l1 : Nat) (l2 : Nat) (l3 : Nat) (l4 : Nat) (l5 : Nat) (l6 : Nat) (s0 : Nat) (T : fS) : Option fR := (fgd T (fbn (fgi (fnw T (.inl (1, [.inl 0, .inl 0, .inl 0, .inl 0, .inl 0, .inl 0, .inl 0]) : fO) 7) l5 1 0) (fun v0 => F47_110  l0 l1 l2 l3 l4 l5 l6 s0 v0 T.2.1 T.2.1 (fnw T (.inl (1, [.inl 0, .inl 0, .inl 0, .inl 0, .inl 0, .inl 0, .inl 0]) : fO) 7))))
theorem G47_99 {z : Option mm_O} {T : fS} {r : fR}  (l0 : Nat) (xl1 : Int32) (l1 : Nat) (hl1 : xl1 = nI l1) (xl2 : Int32) (l2 : Nat) (hl2 : xl2 = nI l2) (xl3 : Int32) (l3 : Nat) (hl3 : xl3 = nI l3) (xl4 : Int32) (l4 : Nat) (hl4 : xl4 = nI l4) (l5 : Nat) (xl6 : Int32) (l6 : Nat) (hl6 : xl6 = nI l6) (ul7 : Value) (xs0 : Int32) (s0 : Nat) (hs0 : xs0 = nI s0) (h : F47_99  l0 l1 l2 l3 l4 l5 l6 s0 T = some r) : mm_L 47 99 [.ref l0, .int xl1, .int xl2, .int xl3, .int xl4, .ref l5, .int xl6, ul7] [.int xs0] (toS z T) = some (tR z r) := by
  unfold F47_99 at h
  refine Eq.trans (e47_99 ..) ?_
  have hg0 := fgd_in h
  replace h := hg0.2
  rw [show mm_new (toS z T) (.inl (1, [.int 0, .int 0, .int 0, .int 0, .int 0, .int 0, .int 0])) 7 = toS z (fnw T (.inl (1, [.inl 0, .inl 0, .inl 0, .inl 0, .inl 0, .inl 0, .inl 0]) : fO) 7) from fnw_ok (o := (.inl (1, [.inl 0, .inl 0, .inl 0, .inl 0, .inl 0, .inl 0, .inl 0]) : fO)) hg0.1]
  exact (fb_n (fun _ q => fgi_ok q) h (fun v0 h2 => G47_110  _ _ _ hl1 _ _ hl2 _ _ hl3 _ _ hl4 _ _ _ hl6 _ _ hs0 _ _ rfl _ _ h2))
noncomputable def F47_91  (l0 : Nat) (l1 : Nat) (l2 : Nat) (l3 : Nat) (l4 : Nat) (l5 : Nat) (l6 : Nat) (s0 : Nat) (T : fS) : Option fR := (F47_99  l0 l1 l2 l3 l4 l5 l6 s0 T)
theorem G47_91 {z : Option mm_O} {T : fS} {r : fR}  (l0 : Nat) (xl1 : Int32) (l1 : Nat) (hl1 : xl1 = nI l1) (xl2 : Int32) (l2 : Nat) (hl2 : xl2 = nI l2) (xl3 : Int32) (l3 : Nat) (hl3 : xl3 = nI l3) (xl4 : Int32) (l4 : Nat) (hl4 : xl4 = nI l4) (l5 : Nat) (xl6 : Int32) (l6 : Nat) (hl6 : xl6 = nI l6) (ul7 : Value) (xs0 : Int32) (s0 : Nat) (hs0 : xs0 = nI s0) (h : F47_91  l0 l1 l2 l3 l4 l5 l6 s0 T = some r) : mm_L 47 91 [.ref l0, .int xl1, .int xl2, .int xl3, .int xl4, .ref l5, .int xl6, ul7] [.int xs0] (toS z T) = some (tR z r) := by
  unfold F47_91 at h
  refine Eq.trans (e47_91 ..) ?_
  exact (G47_99  _ _ _ hl1 _ _ hl2 _ _ hl3 _ _ hl4 _ _ _ hl6 _ _ _ hs0 h)
noncomputable def F47_86  (l0 : Nat) (l1 : Nat) (l2 : Nat) (l3 : Nat) (l4 : Nat) (l5 : Nat) (l6 : Nat) (T : fS) : Option fR := (fKi true (F55_0 l4 T) (fun v0 T1 => F47_91  l0 l1 l2 l3 l4 l5 l6 v0 T1))
theorem G47_86 {z : Option mm_O} {T : fS} {r : fR}  (l0 : Nat) (xl1 : Int32) (l1 : Nat) (hl1 : xl1 = nI l1) (xl2 : Int32) (l2 : Nat) (hl2 : xl2 = nI l2) (xl3 : Int32) (l3 : Nat) (hl3 : xl3 = nI l3) (xl4 : Int32) (l4 : Nat) (hl4 : xl4 = nI l4) (l5 : Nat) (xl6 : Int32) (l6 : Nat) (hl6 : xl6 = nI l6) (ul7 : Value) (h : F47_86  l0 l1 l2 l3 l4 l5 l6 T = some r) : mm_L 47 86 [.ref l0, .int xl1, .int xl2, .int xl3, .int xl4, .ref l5, .int xl6, ul7] [] (toS z T) = some (tR z r) := by
  unfold F47_86 at h
  refine Eq.trans (e47_86 ..) ?_
  exact (fb_K0i (fun _ q => GM55 _ _ hl4 q) h (fun v0 T1 h2 => G47_91  _ _ _ hl1 _ _ hl2 _ _ hl3 _ _ hl4 _ _ _ hl6 _ _ _ rfl h2))
noncomputable def F47_94  (l0 : Nat) (l1 : Nat) (l2 : Nat) (l3 : Nat) (l4 : Nat) (l5 : Nat) (l6 : Nat) (T : fS) : Option fR := (fbn (fgi T l5 1 2) (fun v0 => F47_99  l0 l1 l2 l3 l4 l5 l6 v0 T))
theorem G47_94 {z : Option mm_O} {T : fS} {r : fR}  (l0 : Nat) (xl1 : Int32) (l1 : Nat) (hl1 : xl1 = nI l1) (xl2 : Int32) (l2 : Nat) (hl2 : xl2 = nI l2) (xl3 : Int32) (l3 : Nat) (hl3 : xl3 = nI l3) (xl4 : Int32) (l4 : Nat) (hl4 : xl4 = nI l4) (l5 : Nat) (xl6 : Int32) (l6 : Nat) (hl6 : xl6 = nI l6) (ul7 : Value) (h : F47_94  l0 l1 l2 l3 l4 l5 l6 T = some r) : mm_L 47 94 [.ref l0, .int xl1, .int xl2, .int xl3, .int xl4, .ref l5, .int xl6, ul7] [] (toS z T) = some (tR z r) := by
  unfold F47_94 at h
  refine Eq.trans (e47_94 ..) ?_
  exact (fb_n (fun _ q => fgi_ok q) h (fun v0 h2 => G47_99  _ _ _ hl1 _ _ hl2 _ _ hl3 _ _ hl4 _ _ _ hl6 _ _ _ rfl h2))
noncomputable def F47_79  (l0 : Nat) (l1 : Nat) (l2 : Nat) (l3 : Nat) (l4 : Nat) (l5 : Nat) (s0 : Nat) (T : fS) : Option fR := (fif (ieq l1 4) (F47_86  l0 l1 l2 l3 l4 l5 s0 T) (F47_94  l0 l1 l2 l3 l4 l5 s0 T))
theorem G47_79 {z : Option mm_O} {T : fS} {r : fR}  (l0 : Nat) (xl1 : Int32) (l1 : Nat) (hl1 : xl1 = nI l1) (xl2 : Int32) (l2 : Nat) (hl2 : xl2 = nI l2) (xl3 : Int32) (l3 : Nat) (hl3 : xl3 = nI l3) (xl4 : Int32) (l4 : Nat) (hl4 : xl4 = nI l4) (l5 : Nat) (ul6 : Value) (ul7 : Value) (xs0 : Int32) (s0 : Nat) (hs0 : xs0 = nI s0) (h : F47_79  l0 l1 l2 l3 l4 l5 s0 T = some r) : mm_L 47 79 [.ref l0, .int xl1, .int xl2, .int xl3, .int xl4, .ref l5, ul6, ul7] [.int xs0] (toS z T) = some (tR z r) := by
  unfold F47_79 at h
  refine Eq.trans (e47_79 ..) ?_
  exact (fb_if (cj_eq hl1 (rfl : (4 : Int32) = nI 4)) h (fun h1 => (G47_86  _ _ _ hl1 _ _ hl2 _ _ hl3 _ _ hl4 _ _ _ hs0 _ h1)) (fun h1 => (G47_94  _ _ _ hl1 _ _ hl2 _ _ hl3 _ _ hl4 _ _ _ hs0 _ h1)))
noncomputable def F47_71  (l0 : Nat) (l1 : Nat) (l2 : Nat) (l3 : Nat) (l4 : Nat) (l5 : Nat) (s0 : Nat) (T : fS) : Option fR := (F47_79  l0 l1 l2 l3 l4 l5 s0 T)
theorem G47_71 {z : Option mm_O} {T : fS} {r : fR}  (l0 : Nat) (xl1 : Int32) (l1 : Nat) (hl1 : xl1 = nI l1) (xl2 : Int32) (l2 : Nat) (hl2 : xl2 = nI l2) (xl3 : Int32) (l3 : Nat) (hl3 : xl3 = nI l3) (xl4 : Int32) (l4 : Nat) (hl4 : xl4 = nI l4) (l5 : Nat) (ul6 : Value) (ul7 : Value) (xs0 : Int32) (s0 : Nat) (hs0 : xs0 = nI s0) (h : F47_71  l0 l1 l2 l3 l4 l5 s0 T = some r) : mm_L 47 71 [.ref l0, .int xl1, .int xl2, .int xl3, .int xl4, .ref l5, ul6, ul7] [.int xs0] (toS z T) = some (tR z r) := by
  unfold F47_71 at h
  refine Eq.trans (e47_71 ..) ?_
  exact (G47_79  _ _ _ hl1 _ _ hl2 _ _ hl3 _ _ hl4 _ _ _ _ _ hs0 h)
noncomputable def F47_67  (l0 : Nat) (l1 : Nat) (l2 : Nat) (l3 : Nat) (l4 : Nat) (l5 : Nat) (T : fS) : Option fR := (fKi true (F55_0 l3 T) (fun v0 T1 => F47_71  l0 l1 l2 l3 l4 l5 v0 T1))
theorem G47_67 {z : Option mm_O} {T : fS} {r : fR}  (l0 : Nat) (xl1 : Int32) (l1 : Nat) (hl1 : xl1 = nI l1) (xl2 : Int32) (l2 : Nat) (hl2 : xl2 = nI l2) (xl3 : Int32) (l3 : Nat) (hl3 : xl3 = nI l3) (xl4 : Int32) (l4 : Nat) (hl4 : xl4 = nI l4) (l5 : Nat) (ul6 : Value) (ul7 : Value) (h : F47_67  l0 l1 l2 l3 l4 l5 T = some r) : mm_L 47 67 [.ref l0, .int xl1, .int xl2, .int xl3, .int xl4, .ref l5, ul6, ul7] [] (toS z T) = some (tR z r) := by
  unfold F47_67 at h
  refine Eq.trans (e47_67 ..) ?_
  exact (fb_K0i (fun _ q => GM55 _ _ hl3 q) h (fun v0 T1 h2 => G47_71  _ _ _ hl1 _ _ hl2 _ _ hl3 _ _ hl4 _ _ _ _ _ rfl h2))
noncomputable def F47_74  (l0 : Nat) (l1 : Nat) (l2 : Nat) (l3 : Nat) (l4 : Nat) (l5 : Nat) (T : fS) : Option fR := (fbn (fgi T l5 1 1) (fun v0 => F47_79  l0 l1 l2 l3 l4 l5 v0 T))
theorem G47_74 {z : Option mm_O} {T : fS} {r : fR}  (l0 : Nat) (xl1 : Int32) (l1 : Nat) (hl1 : xl1 = nI l1) (xl2 : Int32) (l2 : Nat) (hl2 : xl2 = nI l2) (xl3 : Int32) (l3 : Nat) (hl3 : xl3 = nI l3) (xl4 : Int32) (l4 : Nat) (hl4 : xl4 = nI l4) (l5 : Nat) (ul6 : Value) (ul7 : Value) (h : F47_74  l0 l1 l2 l3 l4 l5 T = some r) : mm_L 47 74 [.ref l0, .int xl1, .int xl2, .int xl3, .int xl4, .ref l5, ul6, ul7] [] (toS z T) = some (tR z r) := by
  unfold F47_74 at h
  refine Eq.trans (e47_74 ..) ?_
  exact (fb_n (fun _ q => fgi_ok q) h (fun v0 h2 => G47_79  _ _ _ hl1 _ _ hl2 _ _ hl3 _ _ hl4 _ _ _ _ _ rfl h2))
noncomputable def F47_60  (l0 : Nat) (l1 : Nat) (l2 : Nat) (l3 : Nat) (l4 : Nat) (s0 : Nat) (T : fS) : Option fR := (fif (ieq l1 4) (F47_67  l0 l1 l2 l3 l4 s0 T) (F47_74  l0 l1 l2 l3 l4 s0 T))
theorem G47_60 {z : Option mm_O} {T : fS} {r : fR}  (l0 : Nat) (xl1 : Int32) (l1 : Nat) (hl1 : xl1 = nI l1) (xl2 : Int32) (l2 : Nat) (hl2 : xl2 = nI l2) (xl3 : Int32) (l3 : Nat) (hl3 : xl3 = nI l3) (xl4 : Int32) (l4 : Nat) (hl4 : xl4 = nI l4) (ul5 : Value) (ul6 : Value) (ul7 : Value) (s0 : Nat) (h : F47_60  l0 l1 l2 l3 l4 s0 T = some r) : mm_L 47 60 [.ref l0, .int xl1, .int xl2, .int xl3, .int xl4, ul5, ul6, ul7] [.ref s0] (toS z T) = some (tR z r) := by
  unfold F47_60 at h
  refine Eq.trans (e47_60 ..) ?_
  exact (fb_if (cj_eq hl1 (rfl : (4 : Int32) = nI 4)) h (fun h1 => (G47_67  _ _ _ hl1 _ _ hl2 _ _ hl3 _ _ hl4 _ _ _ h1)) (fun h1 => (G47_74  _ _ _ hl1 _ _ hl2 _ _ hl3 _ _ hl4 _ _ _ h1)))
noncomputable def F47_57  (l0 : Nat) (l1 : Nat) (l2 : Nat) (l3 : Nat) (l4 : Nat) (s0 : Nat) (T : fS) : Option fR := (fif (fch T s0 1) (F47_60  l0 l1 l2 l3 l4 s0 T) none)
theorem G47_57 {z : Option mm_O} {T : fS} {r : fR}  (l0 : Nat) (xl1 : Int32) (l1 : Nat) (hl1 : xl1 = nI l1) (xl2 : Int32) (l2 : Nat) (hl2 : xl2 = nI l2) (xl3 : Int32) (l3 : Nat) (hl3 : xl3 = nI l3) (xl4 : Int32) (l4 : Nat) (hl4 : xl4 = nI l4) (ul5 : Value) (ul6 : Value) (ul7 : Value) (s0 : Nat) (h : F47_57  l0 l1 l2 l3 l4 s0 T = some r) : mm_L 47 57 [.ref l0, .int xl1, .int xl2, .int xl3, .int xl4, ul5, ul6, ul7] [.ref s0] (toS z T) = some (tR z r) := by
  unfold F47_57 at h
  refine Eq.trans (e47_57 ..) ?_
  exact (fb_c h (fun h2 => G47_60  _ _ _ hl1 _ _ hl2 _ _ hl3 _ _ hl4 _ _ _ _ h2))
noncomputable def F47_53  (l0 : Nat) (l1 : Nat) (l2 : Nat) (l3 : Nat) (l4 : Nat) (s0 : Nat) (T : fS) : Option fR := (fbn (flg T s0 l2) (fun v0 => F47_57  l0 l1 l2 l3 l4 v0 T))
theorem G47_53 {z : Option mm_O} {T : fS} {r : fR}  (l0 : Nat) (xl1 : Int32) (l1 : Nat) (hl1 : xl1 = nI l1) (xl2 : Int32) (l2 : Nat) (hl2 : xl2 = nI l2) (xl3 : Int32) (l3 : Nat) (hl3 : xl3 = nI l3) (xl4 : Int32) (l4 : Nat) (hl4 : xl4 = nI l4) (ul5 : Value) (ul6 : Value) (ul7 : Value) (s0 : Nat) (h : F47_53  l0 l1 l2 l3 l4 s0 T = some r) : mm_L 47 53 [.ref l0, .int xl1, .int xl2, .int xl3, .int xl4, ul5, ul6, ul7] [.ref s0] (toS z T) = some (tR z r) := by
  unfold F47_53 at h
  refine Eq.trans (e47_53 ..) ?_
  exact (fb_g (fun _ q => by rw [hl2]; exact flg_ok q) h (fun v0 h2 => G47_57  _ _ _ hl1 _ _ hl2 _ _ hl3 _ _ hl4 _ _ _ _ h2))
noncomputable def F47_49  (l0 : Nat) (l1 : Nat) (l2 : Nat) (l3 : Nat) (l4 : Nat) (T : fS) : Option fR := (fbv (fgr T l0 6 0) (fun v0 => F47_53  l0 l1 l2 l3 l4 v0 T) ((none : Option fR)))
theorem G47_49 {z : Option mm_O} {T : fS} {r : fR}  (l0 : Nat) (xl1 : Int32) (l1 : Nat) (hl1 : xl1 = nI l1) (xl2 : Int32) (l2 : Nat) (hl2 : xl2 = nI l2) (xl3 : Int32) (l3 : Nat) (hl3 : xl3 = nI l3) (xl4 : Int32) (l4 : Nat) (hl4 : xl4 = nI l4) (ul5 : Value) (ul6 : Value) (ul7 : Value) (h : F47_49  l0 l1 l2 l3 l4 T = some r) : mm_L 47 49 [.ref l0, .int xl1, .int xl2, .int xl3, .int xl4, ul5, ul6, ul7] [] (toS z T) = some (tR z r) := by
  unfold F47_49 at h
  refine Eq.trans (e47_49 ..) ?_
  exact (fb_v (fun _ q => fgr_ok q) h (fun v0 h2 => G47_53  _ _ _ hl1 _ _ hl2 _ _ hl3 _ _ hl4 _ _ _ _ h2) (fun h2 => fr_n h2))
noncomputable def F47_36  (l0 : Nat) (l1 : Nat) (l2 : Nat) (l3 : Nat) (l4 : Nat) (s0 : Nat) (T : fS) : Option fR := (fif (ieq s0 0) (F47_39  l0 l1 l2 l3 l4 T) (F47_49  l0 l1 l2 l3 l4 T))
theorem G47_36 {z : Option mm_O} {T : fS} {r : fR}  (l0 : Nat) (xl1 : Int32) (l1 : Nat) (hl1 : xl1 = nI l1) (xl2 : Int32) (l2 : Nat) (hl2 : xl2 = nI l2) (xl3 : Int32) (l3 : Nat) (hl3 : xl3 = nI l3) (xl4 : Int32) (l4 : Nat) (hl4 : xl4 = nI l4) (ul5 : Value) (ul6 : Value) (ul7 : Value) (xs0 : Int32) (s0 : Nat) (hs0 : xs0 = nI s0) (h : F47_36  l0 l1 l2 l3 l4 s0 T = some r) : mm_L 47 36 [.ref l0, .int xl1, .int xl2, .int xl3, .int xl4, ul5, ul6, ul7] [.int xs0] (toS z T) = some (tR z r) := by
  unfold F47_36 at h
  refine Eq.trans (e47_36 ..) ?_
  exact (fb_if (cj_eq hs0 (rfl : (0 : Int32) = nI 0)) h (fun h1 => (G47_39  _ _ _ hl1 _ _ hl2 _ _ hl3 _ _ hl4 _ _ _ h1)) (fun h1 => (G47_49  _ _ _ hl1 _ _ hl2 _ _ hl3 _ _ hl4 _ _ _ h1)))
noncomputable def F47_31  (l0 : Nat) (l1 : Nat) (l2 : Nat) (l3 : Nat) (l4 : Nat) (T : fS) : Option fR := (fKi true (fif (fch T l0 6) (F33_0 l0 l2 T) none) (fun v0 T1 => F47_36  l0 l1 l2 l3 l4 v0 T1))
theorem G47_31 {z : Option mm_O} {T : fS} {r : fR}  (l0 : Nat) (xl1 : Int32) (l1 : Nat) (hl1 : xl1 = nI l1) (xl2 : Int32) (l2 : Nat) (hl2 : xl2 = nI l2) (xl3 : Int32) (l3 : Nat) (hl3 : xl3 = nI l3) (xl4 : Int32) (l4 : Nat) (hl4 : xl4 = nI l4) (ul5 : Value) (ul6 : Value) (ul7 : Value) (h : F47_31  l0 l1 l2 l3 l4 T = some r) : mm_L 47 31 [.ref l0, .int xl1, .int xl2, .int xl3, .int xl4, ul5, ul6, ul7] [] (toS z T) = some (tR z r) := by
  unfold F47_31 at h
  refine Eq.trans (e47_31 ..) ?_
  exact (fb_K0i (fun _ q => fb_mo (y := 33) ow_33 q (fun q => GM33 _ _ _ hl2 q)) h (fun v0 T1 h2 => G47_36  _ _ _ hl1 _ _ hl2 _ _ hl3 _ _ hl4 _ _ _ _ _ rfl h2))
noncomputable def F47_26  (l0 : Nat) (l1 : Nat) (l2 : Nat) (l3 : Nat) (l4 : Nat) (T : fS) : Option fR := (fif (ieq l1 4) (F47_31  l0 l1 l2 l3 l4 T) (F47_39  l0 l1 l2 l3 l4 T))
theorem G47_26 {z : Option mm_O} {T : fS} {r : fR}  (l0 : Nat) (xl1 : Int32) (l1 : Nat) (hl1 : xl1 = nI l1) (xl2 : Int32) (l2 : Nat) (hl2 : xl2 = nI l2) (xl3 : Int32) (l3 : Nat) (hl3 : xl3 = nI l3) (xl4 : Int32) (l4 : Nat) (hl4 : xl4 = nI l4) (ul5 : Value) (ul6 : Value) (ul7 : Value) (h : F47_26  l0 l1 l2 l3 l4 T = some r) : mm_L 47 26 [.ref l0, .int xl1, .int xl2, .int xl3, .int xl4, ul5, ul6, ul7] [] (toS z T) = some (tR z r) := by
  unfold F47_26 at h
  refine Eq.trans (e47_26 ..) ?_
  exact (fb_if (cj_eq hl1 (rfl : (4 : Int32) = nI 4)) h (fun h1 => (G47_31  _ _ _ hl1 _ _ hl2 _ _ hl3 _ _ hl4 _ _ _ h1)) (fun h1 => (G47_39  _ _ _ hl1 _ _ hl2 _ _ hl3 _ _ hl4 _ _ _ h1)))
noncomputable def F47_22  (l0 : Nat) (l1 : Nat) (l2 : Nat) (l3 : Nat) (l4 : Nat) (T : fS) : Option fR := (fif (ieq l1 0) (F47_31  l0 l1 l2 l3 l4 T) (F47_26  l0 l1 l2 l3 l4 T))
theorem G47_22 {z : Option mm_O} {T : fS} {r : fR}  (l0 : Nat) (xl1 : Int32) (l1 : Nat) (hl1 : xl1 = nI l1) (xl2 : Int32) (l2 : Nat) (hl2 : xl2 = nI l2) (xl3 : Int32) (l3 : Nat) (hl3 : xl3 = nI l3) (xl4 : Int32) (l4 : Nat) (hl4 : xl4 = nI l4) (ul5 : Value) (ul6 : Value) (ul7 : Value) (h : F47_22  l0 l1 l2 l3 l4 T = some r) : mm_L 47 22 [.ref l0, .int xl1, .int xl2, .int xl3, .int xl4, ul5, ul6, ul7] [] (toS z T) = some (tR z r) := by
  unfold F47_22 at h
  refine Eq.trans (e47_22 ..) ?_
  exact (fb_if (cj_eq hl1 (rfl : (0 : Int32) = nI 0)) h (fun h1 => (G47_31  _ _ _ hl1 _ _ hl2 _ _ hl3 _ _ hl4 _ _ _ h1)) (fun h1 => (G47_26  _ _ _ hl1 _ _ hl2 _ _ hl3 _ _ hl4 _ _ _ h1)))
noncomputable def F47_0  (l0 : Nat) (l1 : Nat) (l2 : Nat) (l3 : Nat) (l4 : Nat) (T : fS) : Option fR := (fif (ieq l1 5) (F47_5  l0 l1 l2 l3 l4 T) (F47_22  l0 l1 l2 l3 l4 T))
theorem G47_0 {z : Option mm_O} {T : fS} {r : fR}  (l0 : Nat) (xl1 : Int32) (l1 : Nat) (hl1 : xl1 = nI l1) (xl2 : Int32) (l2 : Nat) (hl2 : xl2 = nI l2) (xl3 : Int32) (l3 : Nat) (hl3 : xl3 = nI l3) (xl4 : Int32) (l4 : Nat) (hl4 : xl4 = nI l4) (ul5 : Value) (ul6 : Value) (ul7 : Value) (h : F47_0  l0 l1 l2 l3 l4 T = some r) : mm_L 47 0 [.ref l0, .int xl1, .int xl2, .int xl3, .int xl4, ul5, ul6, ul7] [] (toS z T) = some (tR z r) := by
  unfold F47_0 at h
  refine Eq.trans (e47_0 ..) ?_
  exact (fb_if (cj_eq hl1 (rfl : (5 : Int32) = nI 5)) h (fun h1 => (G47_5  _ _ _ hl1 _ _ hl2 _ _ hl3 _ _ hl4 _ _ _ h1)) (fun h1 => (G47_22  _ _ _ hl1 _ _ hl2 _ _ hl3 _ _ hl4 _ _ _ h1)))
theorem GM47 {z : Option mm_O} {T : fS} {r : fR} (l0 : Nat) (xl1 : Int32) (l1 : Nat) (hl1 : xl1 = nI l1) (xl2 : Int32) (l2 : Nat) (hl2 : xl2 = nI l2) (xl3 : Int32) (l3 : Nat) (hl3 : xl3 = nI l3) (xl4 : Int32) (l4 : Nat) (hl4 : xl4 = nI l4) (h : F47_0 l0 l1 l2 l3 l4 T = some r) : mm_M 47 [.ref l0, .int xl1, .int xl2, .int xl3, .int xl4] (toS z T) = some (tR z r) := Eq.trans (M_47 ..) (G47_0 l0 xl1 l1 hl1 xl2 l2 hl2 xl3 l3 hl3 xl4 l4 hl4 _ _ _ h)
-- 49: HandArchive.isArticulatorBusy
noncomputable def F49_59  (l0 : Nat) (l1 : Nat) (l2 : Nat) (l3 : Nat) (l4 : Nat) (l5 : Nat) (T : fS) : Option fR := (some ((.inl (some (.inl 1)), T) : fR))
theorem G49_59 {z : Option mm_O} {T : fS} {r : fR}  (l0 : Nat) (xl1 : Int32) (l1 : Nat) (hl1 : xl1 = nI l1) (xl2 : Int32) (l2 : Nat) (hl2 : xl2 = nI l2) (xl3 : Int32) (l3 : Nat) (hl3 : xl3 = nI l3) (xl4 : Int32) (l4 : Nat) (hl4 : xl4 = nI l4) (l5 : Nat) (h : F49_59  l0 l1 l2 l3 l4 l5 T = some r) : mm_L 49 59 [.ref l0, .int xl1, .int xl2, .int xl3, .int xl4, .ref l5] [] (toS z T) = some (tR z r) := by
  unfold F49_59 at h
  refine Eq.trans (e49_59 ..) ?_
  exact (fb_pos (by decide) (fr_i (rfl : (1 : Int32) = nI 1) h))
noncomputable def F49_61 (k3 : Nat → Nat → Nat → Nat → Nat → fS → Option fR) (l0 : Nat) (l1 : Nat) (l2 : Nat) (l3 : Nat) (l4 : Nat) (l5 : Nat) (T : fS) : Option fR := (k3 l0 l1 l2 l3 (iA l4 1) T)
theorem G49_61 {z : Option mm_O} {T : fS} {r : fR} (k3 : Nat → Nat → Nat → Nat → Nat → fS → Option fR) (hk3 : ∀ (l0 : Nat) (xl1 : Int32) (l1 : Nat) (hl1 : xl1 = nI l1) (xl2 : Int32) (l2 : Nat) (hl2 : xl2 = nI l2) (xl3 : Int32) (l3 : Nat) (hl3 : xl3 = nI l3) (xl4 : Int32) (l4 : Nat) (hl4 : xl4 = nI l4) (ul5 : Value) (T : fS) (r : fR), k3 l0 l1 l2 l3 l4 T = some r → mm_L 49 3 [.ref l0, .int xl1, .int xl2, .int xl3, .int xl4, ul5] [] (toS z T) = some (tR z r)) (l0 : Nat) (xl1 : Int32) (l1 : Nat) (hl1 : xl1 = nI l1) (xl2 : Int32) (l2 : Nat) (hl2 : xl2 = nI l2) (xl3 : Int32) (l3 : Nat) (hl3 : xl3 = nI l3) (xl4 : Int32) (l4 : Nat) (hl4 : xl4 = nI l4) (l5 : Nat) (h : F49_61 k3 l0 l1 l2 l3 l4 l5 T = some r) : mm_L 49 61 [.ref l0, .int xl1, .int xl2, .int xl3, .int xl4, .ref l5] [] (toS z T) = some (tR z r) := by
  unfold F49_61 at h
  refine Eq.trans (e49_61 ..) ?_
  exact (hk3 _ _ _ hl1 _ _ hl2 _ _ hl3 _ _ (iA_ok hl4 (rfl : (1 : Int32) = nI 1)) _ _ _ h)
noncomputable def F49_56 (k3 : Nat → Nat → Nat → Nat → Nat → fS → Option fR) (l0 : Nat) (l1 : Nat) (l2 : Nat) (l3 : Nat) (l4 : Nat) (l5 : Nat) (s0 : Nat) (s1 : Nat) (T : fS) : Option fR := (fif (ilt s0 s1) (F49_61 k3 l0 l1 l2 l3 l4 l5 T) (F49_59  l0 l1 l2 l3 l4 l5 T))
theorem G49_56 {z : Option mm_O} {T : fS} {r : fR} (k3 : Nat → Nat → Nat → Nat → Nat → fS → Option fR) (hk3 : ∀ (l0 : Nat) (xl1 : Int32) (l1 : Nat) (hl1 : xl1 = nI l1) (xl2 : Int32) (l2 : Nat) (hl2 : xl2 = nI l2) (xl3 : Int32) (l3 : Nat) (hl3 : xl3 = nI l3) (xl4 : Int32) (l4 : Nat) (hl4 : xl4 = nI l4) (ul5 : Value) (T : fS) (r : fR), k3 l0 l1 l2 l3 l4 T = some r → mm_L 49 3 [.ref l0, .int xl1, .int xl2, .int xl3, .int xl4, ul5] [] (toS z T) = some (tR z r)) (l0 : Nat) (xl1 : Int32) (l1 : Nat) (hl1 : xl1 = nI l1) (xl2 : Int32) (l2 : Nat) (hl2 : xl2 = nI l2) (xl3 : Int32) (l3 : Nat) (hl3 : xl3 = nI l3) (xl4 : Int32) (l4 : Nat) (hl4 : xl4 = nI l4) (l5 : Nat) (xs0 : Int32) (s0 : Nat) (hs0 : xs0 = nI s0) (xs1 : Int32) (s1 : Nat) (hs1 : xs1 = nI s1) (h : F49_56 k3 l0 l1 l2 l3 l4 l5 s0 s1 T = some r) : mm_L 49 56 [.ref l0, .int xl1, .int xl2, .int xl3, .int xl4, .ref l5] [.int xs0, .int xs1] (toS z T) = some (tR z r) := by
  unfold F49_56 at h
  refine Eq.trans (e49_56 ..) ?_
  exact (fb_if (cj_lt hs0 hs1) h (fun h1 => (G49_61 k3 hk3 _ _ _ hl1 _ _ hl2 _ _ hl3 _ _ hl4 _ h1)) (fun h1 => (G49_59  _ _ _ hl1 _ _ hl2 _ _ hl3 _ _ hl4 _ h1)))
noncomputable def F49_50 (k3 : Nat → Nat → Nat → Nat → Nat → fS → Option fR) (l0 : Nat) (l1 : Nat) (l2 : Nat) (l3 : Nat) (l4 : Nat) (l5 : Nat) (T : fS) : Option fR := (fbn (fgi T l5 5 2) (fun v0 => F49_56 k3 l0 l1 l2 l3 l4 l5 v0 l2 T))
theorem G49_50 {z : Option mm_O} {T : fS} {r : fR} (k3 : Nat → Nat → Nat → Nat → Nat → fS → Option fR) (hk3 : ∀ (l0 : Nat) (xl1 : Int32) (l1 : Nat) (hl1 : xl1 = nI l1) (xl2 : Int32) (l2 : Nat) (hl2 : xl2 = nI l2) (xl3 : Int32) (l3 : Nat) (hl3 : xl3 = nI l3) (xl4 : Int32) (l4 : Nat) (hl4 : xl4 = nI l4) (ul5 : Value) (T : fS) (r : fR), k3 l0 l1 l2 l3 l4 T = some r → mm_L 49 3 [.ref l0, .int xl1, .int xl2, .int xl3, .int xl4, ul5] [] (toS z T) = some (tR z r)) (l0 : Nat) (xl1 : Int32) (l1 : Nat) (hl1 : xl1 = nI l1) (xl2 : Int32) (l2 : Nat) (hl2 : xl2 = nI l2) (xl3 : Int32) (l3 : Nat) (hl3 : xl3 = nI l3) (xl4 : Int32) (l4 : Nat) (hl4 : xl4 = nI l4) (l5 : Nat) (h : F49_50 k3 l0 l1 l2 l3 l4 l5 T = some r) : mm_L 49 50 [.ref l0, .int xl1, .int xl2, .int xl3, .int xl4, .ref l5] [] (toS z T) = some (tR z r) := by
  unfold F49_50 at h
  refine Eq.trans (e49_50 ..) ?_
  exact (fb_n (fun _ q => fgi_ok q) h (fun v0 h2 => G49_56 k3 hk3 _ _ _ hl1 _ _ hl2 _ _ hl3 _ _ hl4 _ _ _ rfl _ _ hl2 h2))
noncomputable def F49_46 (k3 : Nat → Nat → Nat → Nat → Nat → fS → Option fR) (l0 : Nat) (l1 : Nat) (l2 : Nat) (l3 : Nat) (l4 : Nat) (l5 : Nat) (s0 : Nat) (T : fS) : Option fR := (fif (ilt l3 s0) (F49_61 k3 l0 l1 l2 l3 l4 l5 T) (F49_50 k3 l0 l1 l2 l3 l4 l5 T))
theorem G49_46 {z : Option mm_O} {T : fS} {r : fR} (k3 : Nat → Nat → Nat → Nat → Nat → fS → Option fR) (hk3 : ∀ (l0 : Nat) (xl1 : Int32) (l1 : Nat) (hl1 : xl1 = nI l1) (xl2 : Int32) (l2 : Nat) (hl2 : xl2 = nI l2) (xl3 : Int32) (l3 : Nat) (hl3 : xl3 = nI l3) (xl4 : Int32) (l4 : Nat) (hl4 : xl4 = nI l4) (ul5 : Value) (T : fS) (r : fR), k3 l0 l1 l2 l3 l4 T = some r → mm_L 49 3 [.ref l0, .int xl1, .int xl2, .int xl3, .int xl4, ul5] [] (toS z T) = some (tR z r)) (l0 : Nat) (xl1 : Int32) (l1 : Nat) (hl1 : xl1 = nI l1) (xl2 : Int32) (l2 : Nat) (hl2 : xl2 = nI l2) (xl3 : Int32) (l3 : Nat) (hl3 : xl3 = nI l3) (xl4 : Int32) (l4 : Nat) (hl4 : xl4 = nI l4) (l5 : Nat) (xs0 : Int32) (s0 : Nat) (hs0 : xs0 = nI s0) (h : F49_46 k3 l0 l1 l2 l3 l4 l5 s0 T = some r) : mm_L 49 46 [.ref l0, .int xl1, .int xl2, .int xl3, .int xl4, .ref l5] [.int xs0] (toS z T) = some (tR z r) := by
  unfold F49_46 at h
  refine Eq.trans (e49_46 ..) ?_
  exact (fb_if (cj_lt hl3 hs0) h (fun h1 => (G49_61 k3 hk3 _ _ _ hl1 _ _ hl2 _ _ hl3 _ _ hl4 _ h1)) (fun h1 => (G49_50 k3 hk3 _ _ _ hl1 _ _ hl2 _ _ hl3 _ _ hl4 _ h1)))
noncomputable def F49_41 (k3 : Nat → Nat → Nat → Nat → Nat → fS → Option fR) (l0 : Nat) (l1 : Nat) (l2 : Nat) (l3 : Nat) (l4 : Nat) (l5 : Nat) (T : fS) : Option fR := (fbn (fgi T l5 5 1) (fun v0 => F49_46 k3 l0 l1 l2 l3 l4 l5 v0 T))
theorem G49_41 {z : Option mm_O} {T : fS} {r : fR} (k3 : Nat → Nat → Nat → Nat → Nat → fS → Option fR) (hk3 : ∀ (l0 : Nat) (xl1 : Int32) (l1 : Nat) (hl1 : xl1 = nI l1) (xl2 : Int32) (l2 : Nat) (hl2 : xl2 = nI l2) (xl3 : Int32) (l3 : Nat) (hl3 : xl3 = nI l3) (xl4 : Int32) (l4 : Nat) (hl4 : xl4 = nI l4) (ul5 : Value) (T : fS) (r : fR), k3 l0 l1 l2 l3 l4 T = some r → mm_L 49 3 [.ref l0, .int xl1, .int xl2, .int xl3, .int xl4, ul5] [] (toS z T) = some (tR z r)) (l0 : Nat) (xl1 : Int32) (l1 : Nat) (hl1 : xl1 = nI l1) (xl2 : Int32) (l2 : Nat) (hl2 : xl2 = nI l2) (xl3 : Int32) (l3 : Nat) (hl3 : xl3 = nI l3) (xl4 : Int32) (l4 : Nat) (hl4 : xl4 = nI l4) (l5 : Nat) (h : F49_41 k3 l0 l1 l2 l3 l4 l5 T = some r) : mm_L 49 41 [.ref l0, .int xl1, .int xl2, .int xl3, .int xl4, .ref l5] [] (toS z T) = some (tR z r) := by
  unfold F49_41 at h
  refine Eq.trans (e49_41 ..) ?_
  exact (fb_n (fun _ q => fgi_ok q) h (fun v0 h2 => G49_46 k3 hk3 _ _ _ hl1 _ _ hl2 _ _ hl3 _ _ hl4 _ _ _ rfl h2))
noncomputable def F49_37 (k3 : Nat → Nat → Nat → Nat → Nat → fS → Option fR) (l0 : Nat) (l1 : Nat) (l2 : Nat) (l3 : Nat) (l4 : Nat) (l5 : Nat) (s0 : Nat) (T : fS) : Option fR := (fif (ieq s0 l1) (F49_41 k3 l0 l1 l2 l3 l4 l5 T) (F49_61 k3 l0 l1 l2 l3 l4 l5 T))
theorem G49_37 {z : Option mm_O} {T : fS} {r : fR} (k3 : Nat → Nat → Nat → Nat → Nat → fS → Option fR) (hk3 : ∀ (l0 : Nat) (xl1 : Int32) (l1 : Nat) (hl1 : xl1 = nI l1) (xl2 : Int32) (l2 : Nat) (hl2 : xl2 = nI l2) (xl3 : Int32) (l3 : Nat) (hl3 : xl3 = nI l3) (xl4 : Int32) (l4 : Nat) (hl4 : xl4 = nI l4) (ul5 : Value) (T : fS) (r : fR), k3 l0 l1 l2 l3 l4 T = some r → mm_L 49 3 [.ref l0, .int xl1, .int xl2, .int xl3, .int xl4, ul5] [] (toS z T) = some (tR z r)) (l0 : Nat) (xl1 : Int32) (l1 : Nat) (hl1 : xl1 = nI l1) (xl2 : Int32) (l2 : Nat) (hl2 : xl2 = nI l2) (xl3 : Int32) (l3 : Nat) (hl3 : xl3 = nI l3) (xl4 : Int32) (l4 : Nat) (hl4 : xl4 = nI l4) (l5 : Nat) (xs0 : Int32) (s0 : Nat) (hs0 : xs0 = nI s0) (h : F49_37 k3 l0 l1 l2 l3 l4 l5 s0 T = some r) : mm_L 49 37 [.ref l0, .int xl1, .int xl2, .int xl3, .int xl4, .ref l5] [.int xs0] (toS z T) = some (tR z r) := by
  unfold F49_37 at h
  refine Eq.trans (e49_37 ..) ?_
  exact (fb_if (cj_eq hs0 hl1) h (fun h1 => (G49_41 k3 hk3 _ _ _ hl1 _ _ hl2 _ _ hl3 _ _ hl4 _ h1)) (fun h1 => (G49_61 k3 hk3 _ _ _ hl1 _ _ hl2 _ _ hl3 _ _ hl4 _ h1)))
noncomputable def F49_34 (k3 : Nat → Nat → Nat → Nat → Nat → fS → Option fR) (l0 : Nat) (l1 : Nat) (l2 : Nat) (l3 : Nat) (l4 : Nat) (l5 : Nat) (s0 : Nat) (T : fS) : Option fR := (fKi true (F52_0 s0 T) (fun v0 T1 => F49_37 k3 l0 l1 l2 l3 l4 l5 v0 T1))
theorem G49_34 {z : Option mm_O} {T : fS} {r : fR} (k3 : Nat → Nat → Nat → Nat → Nat → fS → Option fR) (hk3 : ∀ (l0 : Nat) (xl1 : Int32) (l1 : Nat) (hl1 : xl1 = nI l1) (xl2 : Int32) (l2 : Nat) (hl2 : xl2 = nI l2) (xl3 : Int32) (l3 : Nat) (hl3 : xl3 = nI l3) (xl4 : Int32) (l4 : Nat) (hl4 : xl4 = nI l4) (ul5 : Value) (T : fS) (r : fR), k3 l0 l1 l2 l3 l4 T = some r → mm_L 49 3 [.ref l0, .int xl1, .int xl2, .int xl3, .int xl4, ul5] [] (toS z T) = some (tR z r)) (l0 : Nat) (xl1 : Int32) (l1 : Nat) (hl1 : xl1 = nI l1) (xl2 : Int32) (l2 : Nat) (hl2 : xl2 = nI l2) (xl3 : Int32) (l3 : Nat) (hl3 : xl3 = nI l3) (xl4 : Int32) (l4 : Nat) (hl4 : xl4 = nI l4) (l5 : Nat) (xs0 : Int32) (s0 : Nat) (hs0 : xs0 = nI s0) (h : F49_34 k3 l0 l1 l2 l3 l4 l5 s0 T = some r) : mm_L 49 34 [.ref l0, .int xl1, .int xl2, .int xl3, .int xl4, .ref l5] [.int xs0] (toS z T) = some (tR z r) := by
  unfold F49_34 at h
  refine Eq.trans (e49_34 ..) ?_
  exact (fb_K0i (fun _ q => GM52 _ _ hs0 q) h (fun v0 T1 h2 => G49_37 k3 hk3 _ _ _ hl1 _ _ hl2 _ _ hl3 _ _ hl4 _ _ _ rfl h2))
noncomputable def F49_27 (k3 : Nat → Nat → Nat → Nat → Nat → fS → Option fR) (l0 : Nat) (l1 : Nat) (l2 : Nat) (l3 : Nat) (l4 : Nat) (s0 : Nat) (T : fS) : Option fR := (fbn (fgi T s0 5 0) (fun v0 => F49_34 k3 l0 l1 l2 l3 l4 s0 v0 T))
theorem G49_27 {z : Option mm_O} {T : fS} {r : fR} (k3 : Nat → Nat → Nat → Nat → Nat → fS → Option fR) (hk3 : ∀ (l0 : Nat) (xl1 : Int32) (l1 : Nat) (hl1 : xl1 = nI l1) (xl2 : Int32) (l2 : Nat) (hl2 : xl2 = nI l2) (xl3 : Int32) (l3 : Nat) (hl3 : xl3 = nI l3) (xl4 : Int32) (l4 : Nat) (hl4 : xl4 = nI l4) (ul5 : Value) (T : fS) (r : fR), k3 l0 l1 l2 l3 l4 T = some r → mm_L 49 3 [.ref l0, .int xl1, .int xl2, .int xl3, .int xl4, ul5] [] (toS z T) = some (tR z r)) (l0 : Nat) (xl1 : Int32) (l1 : Nat) (hl1 : xl1 = nI l1) (xl2 : Int32) (l2 : Nat) (hl2 : xl2 = nI l2) (xl3 : Int32) (l3 : Nat) (hl3 : xl3 = nI l3) (xl4 : Int32) (l4 : Nat) (hl4 : xl4 = nI l4) (ul5 : Value) (s0 : Nat) (h : F49_27 k3 l0 l1 l2 l3 l4 s0 T = some r) : mm_L 49 27 [.ref l0, .int xl1, .int xl2, .int xl3, .int xl4, ul5] [.ref s0] (toS z T) = some (tR z r) := by
  unfold F49_27 at h
  refine Eq.trans (e49_27 ..) ?_
  exact (fb_n (fun _ q => fgi_ok q) h (fun v0 h2 => G49_34 k3 hk3 _ _ _ hl1 _ _ hl2 _ _ hl3 _ _ hl4 _ _ _ rfl h2))
noncomputable def F49_24 (k3 : Nat → Nat → Nat → Nat → Nat → fS → Option fR) (l0 : Nat) (l1 : Nat) (l2 : Nat) (l3 : Nat) (l4 : Nat) (s0 : Nat) (T : fS) : Option fR := (fif (fch T s0 5) (F49_27 k3 l0 l1 l2 l3 l4 s0 T) none)
theorem G49_24 {z : Option mm_O} {T : fS} {r : fR} (k3 : Nat → Nat → Nat → Nat → Nat → fS → Option fR) (hk3 : ∀ (l0 : Nat) (xl1 : Int32) (l1 : Nat) (hl1 : xl1 = nI l1) (xl2 : Int32) (l2 : Nat) (hl2 : xl2 = nI l2) (xl3 : Int32) (l3 : Nat) (hl3 : xl3 = nI l3) (xl4 : Int32) (l4 : Nat) (hl4 : xl4 = nI l4) (ul5 : Value) (T : fS) (r : fR), k3 l0 l1 l2 l3 l4 T = some r → mm_L 49 3 [.ref l0, .int xl1, .int xl2, .int xl3, .int xl4, ul5] [] (toS z T) = some (tR z r)) (l0 : Nat) (xl1 : Int32) (l1 : Nat) (hl1 : xl1 = nI l1) (xl2 : Int32) (l2 : Nat) (hl2 : xl2 = nI l2) (xl3 : Int32) (l3 : Nat) (hl3 : xl3 = nI l3) (xl4 : Int32) (l4 : Nat) (hl4 : xl4 = nI l4) (ul5 : Value) (s0 : Nat) (h : F49_24 k3 l0 l1 l2 l3 l4 s0 T = some r) : mm_L 49 24 [.ref l0, .int xl1, .int xl2, .int xl3, .int xl4, ul5] [.ref s0] (toS z T) = some (tR z r) := by
  unfold F49_24 at h
  refine Eq.trans (e49_24 ..) ?_
  exact (fb_c h (fun h2 => G49_27 k3 hk3 _ _ _ hl1 _ _ hl2 _ _ hl3 _ _ hl4 _ _ h2))
noncomputable def F49_19 (k3 : Nat → Nat → Nat → Nat → Nat → fS → Option fR) (l0 : Nat) (l1 : Nat) (l2 : Nat) (l3 : Nat) (l4 : Nat) (s0 : Nat) (T : fS) : Option fR := (fbn (flg T s0 l4) (fun v0 => F49_24 k3 l0 l1 l2 l3 l4 v0 T))
theorem G49_19 {z : Option mm_O} {T : fS} {r : fR} (k3 : Nat → Nat → Nat → Nat → Nat → fS → Option fR) (hk3 : ∀ (l0 : Nat) (xl1 : Int32) (l1 : Nat) (hl1 : xl1 = nI l1) (xl2 : Int32) (l2 : Nat) (hl2 : xl2 = nI l2) (xl3 : Int32) (l3 : Nat) (hl3 : xl3 = nI l3) (xl4 : Int32) (l4 : Nat) (hl4 : xl4 = nI l4) (ul5 : Value) (T : fS) (r : fR), k3 l0 l1 l2 l3 l4 T = some r → mm_L 49 3 [.ref l0, .int xl1, .int xl2, .int xl3, .int xl4, ul5] [] (toS z T) = some (tR z r)) (l0 : Nat) (xl1 : Int32) (l1 : Nat) (hl1 : xl1 = nI l1) (xl2 : Int32) (l2 : Nat) (hl2 : xl2 = nI l2) (xl3 : Int32) (l3 : Nat) (hl3 : xl3 = nI l3) (xl4 : Int32) (l4 : Nat) (hl4 : xl4 = nI l4) (ul5 : Value) (s0 : Nat) (h : F49_19 k3 l0 l1 l2 l3 l4 s0 T = some r) : mm_L 49 19 [.ref l0, .int xl1, .int xl2, .int xl3, .int xl4, ul5] [.ref s0] (toS z T) = some (tR z r) := by
  unfold F49_19 at h
  refine Eq.trans (e49_19 ..) ?_
  exact (fb_g (fun _ q => by rw [hl4]; exact flg_ok q) h (fun v0 h2 => G49_24 k3 hk3 _ _ _ hl1 _ _ hl2 _ _ hl3 _ _ hl4 _ _ h2))
noncomputable def F49_15 (k3 : Nat → Nat → Nat → Nat → Nat → fS → Option fR) (l0 : Nat) (l1 : Nat) (l2 : Nat) (l3 : Nat) (l4 : Nat) (T : fS) : Option fR := (fbv (fgr T l0 6 2) (fun v0 => F49_19 k3 l0 l1 l2 l3 l4 v0 T) ((none : Option fR)))
theorem G49_15 {z : Option mm_O} {T : fS} {r : fR} (k3 : Nat → Nat → Nat → Nat → Nat → fS → Option fR) (hk3 : ∀ (l0 : Nat) (xl1 : Int32) (l1 : Nat) (hl1 : xl1 = nI l1) (xl2 : Int32) (l2 : Nat) (hl2 : xl2 = nI l2) (xl3 : Int32) (l3 : Nat) (hl3 : xl3 = nI l3) (xl4 : Int32) (l4 : Nat) (hl4 : xl4 = nI l4) (ul5 : Value) (T : fS) (r : fR), k3 l0 l1 l2 l3 l4 T = some r → mm_L 49 3 [.ref l0, .int xl1, .int xl2, .int xl3, .int xl4, ul5] [] (toS z T) = some (tR z r)) (l0 : Nat) (xl1 : Int32) (l1 : Nat) (hl1 : xl1 = nI l1) (xl2 : Int32) (l2 : Nat) (hl2 : xl2 = nI l2) (xl3 : Int32) (l3 : Nat) (hl3 : xl3 = nI l3) (xl4 : Int32) (l4 : Nat) (hl4 : xl4 = nI l4) (ul5 : Value) (h : F49_15 k3 l0 l1 l2 l3 l4 T = some r) : mm_L 49 15 [.ref l0, .int xl1, .int xl2, .int xl3, .int xl4, ul5] [] (toS z T) = some (tR z r) := by
  unfold F49_15 at h
  refine Eq.trans (e49_15 ..) ?_
  exact (fb_v (fun _ q => fgr_ok q) h (fun v0 h2 => G49_19 k3 hk3 _ _ _ hl1 _ _ hl2 _ _ hl3 _ _ hl4 _ _ h2) (fun h2 => fr_n h2))
noncomputable def F49_67  (l0 : Nat) (l1 : Nat) (l2 : Nat) (l3 : Nat) (l4 : Nat) (T : fS) : Option fR := (some ((.inl (some (.inl 0)), T) : fR))
theorem G49_67 {z : Option mm_O} {T : fS} {r : fR}  (l0 : Nat) (xl1 : Int32) (l1 : Nat) (hl1 : xl1 = nI l1) (xl2 : Int32) (l2 : Nat) (hl2 : xl2 = nI l2) (xl3 : Int32) (l3 : Nat) (hl3 : xl3 = nI l3) (xl4 : Int32) (l4 : Nat) (hl4 : xl4 = nI l4) (ul5 : Value) (h : F49_67  l0 l1 l2 l3 l4 T = some r) : mm_L 49 67 [.ref l0, .int xl1, .int xl2, .int xl3, .int xl4, ul5] [] (toS z T) = some (tR z r) := by
  unfold F49_67 at h
  refine Eq.trans (e49_67 ..) ?_
  exact (fb_pos (by decide) (fr_i (rfl : (0 : Int32) = nI 0) h))
noncomputable def F49_12 (k3 : Nat → Nat → Nat → Nat → Nat → fS → Option fR) (l0 : Nat) (l1 : Nat) (l2 : Nat) (l3 : Nat) (l4 : Nat) (s0 : Nat) (s1 : Nat) (T : fS) : Option fR := (fif (ile s0 s1) (F49_67  l0 l1 l2 l3 l4 T) (F49_15 k3 l0 l1 l2 l3 l4 T))
theorem G49_12 {z : Option mm_O} {T : fS} {r : fR} (k3 : Nat → Nat → Nat → Nat → Nat → fS → Option fR) (hk3 : ∀ (l0 : Nat) (xl1 : Int32) (l1 : Nat) (hl1 : xl1 = nI l1) (xl2 : Int32) (l2 : Nat) (hl2 : xl2 = nI l2) (xl3 : Int32) (l3 : Nat) (hl3 : xl3 = nI l3) (xl4 : Int32) (l4 : Nat) (hl4 : xl4 = nI l4) (ul5 : Value) (T : fS) (r : fR), k3 l0 l1 l2 l3 l4 T = some r → mm_L 49 3 [.ref l0, .int xl1, .int xl2, .int xl3, .int xl4, ul5] [] (toS z T) = some (tR z r)) (l0 : Nat) (xl1 : Int32) (l1 : Nat) (hl1 : xl1 = nI l1) (xl2 : Int32) (l2 : Nat) (hl2 : xl2 = nI l2) (xl3 : Int32) (l3 : Nat) (hl3 : xl3 = nI l3) (xl4 : Int32) (l4 : Nat) (hl4 : xl4 = nI l4) (ul5 : Value) (xs0 : Int32) (s0 : Nat) (hs0 : xs0 = nI s0) (xs1 : Int32) (s1 : Nat) (hs1 : xs1 = nI s1) (h : F49_12 k3 l0 l1 l2 l3 l4 s0 s1 T = some r) : mm_L 49 12 [.ref l0, .int xl1, .int xl2, .int xl3, .int xl4, ul5] [.int xs0, .int xs1] (toS z T) = some (tR z r) := by
  unfold F49_12 at h
  refine Eq.trans (e49_12 ..) ?_
  exact (fb_if (cj_le hs0 hs1) h (fun h1 => (G49_67  _ _ _ hl1 _ _ hl2 _ _ hl3 _ _ hl4 _ h1)) (fun h1 => (G49_15 k3 hk3 _ _ _ hl1 _ _ hl2 _ _ hl3 _ _ hl4 _ h1)))
noncomputable def F49_9 (k3 : Nat → Nat → Nat → Nat → Nat → fS → Option fR) (l0 : Nat) (l1 : Nat) (l2 : Nat) (l3 : Nat) (l4 : Nat) (s0 : Nat) (s1 : Nat) (T : fS) : Option fR := (fbn (flz T s0) (fun v0 => F49_12 k3 l0 l1 l2 l3 l4 v0 s1 T))
theorem G49_9 {z : Option mm_O} {T : fS} {r : fR} (k3 : Nat → Nat → Nat → Nat → Nat → fS → Option fR) (hk3 : ∀ (l0 : Nat) (xl1 : Int32) (l1 : Nat) (hl1 : xl1 = nI l1) (xl2 : Int32) (l2 : Nat) (hl2 : xl2 = nI l2) (xl3 : Int32) (l3 : Nat) (hl3 : xl3 = nI l3) (xl4 : Int32) (l4 : Nat) (hl4 : xl4 = nI l4) (ul5 : Value) (T : fS) (r : fR), k3 l0 l1 l2 l3 l4 T = some r → mm_L 49 3 [.ref l0, .int xl1, .int xl2, .int xl3, .int xl4, ul5] [] (toS z T) = some (tR z r)) (l0 : Nat) (xl1 : Int32) (l1 : Nat) (hl1 : xl1 = nI l1) (xl2 : Int32) (l2 : Nat) (hl2 : xl2 = nI l2) (xl3 : Int32) (l3 : Nat) (hl3 : xl3 = nI l3) (xl4 : Int32) (l4 : Nat) (hl4 : xl4 = nI l4) (ul5 : Value) (s0 : Nat) (xs1 : Int32) (s1 : Nat) (hs1 : xs1 = nI s1) (h : F49_9 k3 l0 l1 l2 l3 l4 s0 s1 T = some r) : mm_L 49 9 [.ref l0, .int xl1, .int xl2, .int xl3, .int xl4, ul5] [.ref s0, .int xs1] (toS z T) = some (tR z r) := by
  unfold F49_9 at h
  refine Eq.trans (e49_9 ..) ?_
  exact (fb_n (fun _ q => flz_ok q) h (fun v0 h2 => G49_12 k3 hk3 _ _ _ hl1 _ _ hl2 _ _ hl3 _ _ hl4 _ _ _ rfl _ _ hs1 h2))
noncomputable def F49_3 (k3 : Nat → Nat → Nat → Nat → Nat → fS → Option fR) (l0 : Nat) (l1 : Nat) (l2 : Nat) (l3 : Nat) (l4 : Nat) (T : fS) : Option fR := (fbv (fgr T l0 6 2) (fun v0 => F49_9 k3 l0 l1 l2 l3 l4 v0 l4 T) ((none : Option fR)))
theorem G49_3 {z : Option mm_O} {T : fS} {r : fR} (k3 : Nat → Nat → Nat → Nat → Nat → fS → Option fR) (hk3 : ∀ (l0 : Nat) (xl1 : Int32) (l1 : Nat) (hl1 : xl1 = nI l1) (xl2 : Int32) (l2 : Nat) (hl2 : xl2 = nI l2) (xl3 : Int32) (l3 : Nat) (hl3 : xl3 = nI l3) (xl4 : Int32) (l4 : Nat) (hl4 : xl4 = nI l4) (ul5 : Value) (T : fS) (r : fR), k3 l0 l1 l2 l3 l4 T = some r → mm_L 49 3 [.ref l0, .int xl1, .int xl2, .int xl3, .int xl4, ul5] [] (toS z T) = some (tR z r)) (l0 : Nat) (xl1 : Int32) (l1 : Nat) (hl1 : xl1 = nI l1) (xl2 : Int32) (l2 : Nat) (hl2 : xl2 = nI l2) (xl3 : Int32) (l3 : Nat) (hl3 : xl3 = nI l3) (xl4 : Int32) (l4 : Nat) (hl4 : xl4 = nI l4) (ul5 : Value) (h : F49_3 k3 l0 l1 l2 l3 l4 T = some r) : mm_L 49 3 [.ref l0, .int xl1, .int xl2, .int xl3, .int xl4, ul5] [] (toS z T) = some (tR z r) := by
  unfold F49_3 at h
  refine Eq.trans (e49_3 ..) ?_
  exact (fb_v (fun _ q => fgr_ok q) h (fun v0 h2 => G49_9 k3 hk3 _ _ _ hl1 _ _ hl2 _ _ hl3 _ _ hl4 _ _ _ _ hl4 h2) (fun h2 => fr_n h2))
noncomputable def H49_3  (n : Nat) : Nat → Nat → Nat → Nat → Nat → fS → Option fR := Nat.rec (motive := fun _ => Nat → Nat → Nat → Nat → Nat → fS → Option fR) (fun _ _ _ _ _ _ => none) (fun _ ih => F49_3 ih) n
theorem HG49_3 {z : Option mm_O}  : ∀ (n : Nat) (l0 : Nat) (xl1 : Int32) (l1 : Nat) (hl1 : xl1 = nI l1) (xl2 : Int32) (l2 : Nat) (hl2 : xl2 = nI l2) (xl3 : Int32) (l3 : Nat) (hl3 : xl3 = nI l3) (xl4 : Int32) (l4 : Nat) (hl4 : xl4 = nI l4) (ul5 : Value) {T : fS} {r : fR}, H49_3  n l0 l1 l2 l3 l4 T = some r → mm_L 49 3 [.ref l0, .int xl1, .int xl2, .int xl3, .int xl4, ul5] [] (toS z T) = some (tR z r) := by
  intro n
  induction n with
  | zero =>
    intro l0 xl1 l1 hl1 xl2 l2 hl2 xl3 l3 hl3 xl4 l4 hl4 ul5 T r h
    exact fr_n h
  | succ n ih =>
    intro l0 xl1 l1 hl1 xl2 l2 hl2 xl3 l3 hl3 xl4 l4 hl4 ul5 T r h
    exact G49_3 (H49_3  n) (fun l0 xl1 l1 hl1 xl2 l2 hl2 xl3 l3 hl3 xl4 l4 hl4 ul5 T r h => ih l0 xl1 l1 hl1 xl2 l2 hl2 xl3 l3 hl3 xl4 l4 hl4 ul5 h) l0 xl1 l1 hl1 xl2 l2 hl2 xl3 l3 hl3 xl4 l4 hl4 ul5 h
noncomputable def F49_0  (l0 : Nat) (l1 : Nat) (l2 : Nat) (l3 : Nat) (T : fS) : Option fR := (H49_3  300 l0 l1 l2 l3 0 T)
theorem G49_0 {z : Option mm_O} {T : fS} {r : fR}  (l0 : Nat) (xl1 : Int32) (l1 : Nat) (hl1 : xl1 = nI l1) (xl2 : Int32) (l2 : Nat) (hl2 : xl2 = nI l2) (xl3 : Int32) (l3 : Nat) (hl3 : xl3 = nI l3) (ul4 : Value) (ul5 : Value) (h : F49_0  l0 l1 l2 l3 T = some r) : mm_L 49 0 [.ref l0, .int xl1, .int xl2, .int xl3, ul4, ul5] [] (toS z T) = some (tR z r) := by
  unfold F49_0 at h
  refine Eq.trans (e49_0 ..) ?_
  exact (HG49_3  300 _ _ _ hl1 _ _ hl2 _ _ hl3 _ _ (rfl : (0 : Int32) = nI 0) _ h)
theorem GM49 {z : Option mm_O} {T : fS} {r : fR} (l0 : Nat) (xl1 : Int32) (l1 : Nat) (hl1 : xl1 = nI l1) (xl2 : Int32) (l2 : Nat) (hl2 : xl2 = nI l2) (xl3 : Int32) (l3 : Nat) (hl3 : xl3 = nI l3) (h : F49_0 l0 l1 l2 l3 T = some r) : mm_M 49 [.ref l0, .int xl1, .int xl2, .int xl3] (toS z T) = some (tR z r) := Eq.trans (M_49 ..) (G49_0 l0 xl1 l1 hl1 xl2 l2 hl2 xl3 l3 hl3 _ _ h)
-- 51: HandArchive.faceOver
noncomputable def F51_61  (l0 : Nat) (l1 : Nat) (l2 : Nat) (l3 : Nat) (l4 : Nat) (s0 : Nat) (T : fS) : Option fR := (some ((.inl (some (.inl s0)), T) : fR))
theorem G51_61 {z : Option mm_O} {T : fS} {r : fR}  (l0 : Nat) (xl1 : Int32) (l1 : Nat) (hl1 : xl1 = nI l1) (xl2 : Int32) (l2 : Nat) (hl2 : xl2 = nI l2) (xl3 : Int32) (l3 : Nat) (hl3 : xl3 = nI l3) (l4 : Nat) (xs0 : Int32) (s0 : Nat) (hs0 : xs0 = nI s0) (h : F51_61  l0 l1 l2 l3 l4 s0 T = some r) : mm_L 51 61 [.ref l0, .int xl1, .int xl2, .int xl3, .ref l4] [.int xs0] (toS z T) = some (tR z r) := by
  unfold F51_61 at h
  refine Eq.trans (e51_61 ..) ?_
  exact (fr_i hs0 h)
noncomputable def F51_56  (l0 : Nat) (l1 : Nat) (l2 : Nat) (l3 : Nat) (l4 : Nat) (T : fS) : Option fR := (fbn (fgi T l4 5 0) (fun v0 => F51_61  l0 l1 l2 l3 l4 v0 T))
theorem G51_56 {z : Option mm_O} {T : fS} {r : fR}  (l0 : Nat) (xl1 : Int32) (l1 : Nat) (hl1 : xl1 = nI l1) (xl2 : Int32) (l2 : Nat) (hl2 : xl2 = nI l2) (xl3 : Int32) (l3 : Nat) (hl3 : xl3 = nI l3) (l4 : Nat) (h : F51_56  l0 l1 l2 l3 l4 T = some r) : mm_L 51 56 [.ref l0, .int xl1, .int xl2, .int xl3, .ref l4] [] (toS z T) = some (tR z r) := by
  unfold F51_56 at h
  refine Eq.trans (e51_56 ..) ?_
  exact (fb_n (fun _ q => fgi_ok q) h (fun v0 h2 => G51_61  _ _ _ hl1 _ _ hl2 _ _ hl3 _ _ _ rfl h2))
noncomputable def F51_62 (k2 : Nat → Nat → Nat → Nat → fS → Option fR) (l0 : Nat) (l1 : Nat) (l2 : Nat) (l3 : Nat) (l4 : Nat) (T : fS) : Option fR := (k2 l0 l1 l2 (iA l3 1) T)
theorem G51_62 {z : Option mm_O} {T : fS} {r : fR} (k2 : Nat → Nat → Nat → Nat → fS → Option fR) (hk2 : ∀ (l0 : Nat) (xl1 : Int32) (l1 : Nat) (hl1 : xl1 = nI l1) (xl2 : Int32) (l2 : Nat) (hl2 : xl2 = nI l2) (xl3 : Int32) (l3 : Nat) (hl3 : xl3 = nI l3) (ul4 : Value) (T : fS) (r : fR), k2 l0 l1 l2 l3 T = some r → mm_L 51 2 [.ref l0, .int xl1, .int xl2, .int xl3, ul4] [] (toS z T) = some (tR z r)) (l0 : Nat) (xl1 : Int32) (l1 : Nat) (hl1 : xl1 = nI l1) (xl2 : Int32) (l2 : Nat) (hl2 : xl2 = nI l2) (xl3 : Int32) (l3 : Nat) (hl3 : xl3 = nI l3) (l4 : Nat) (h : F51_62 k2 l0 l1 l2 l3 l4 T = some r) : mm_L 51 62 [.ref l0, .int xl1, .int xl2, .int xl3, .ref l4] [] (toS z T) = some (tR z r) := by
  unfold F51_62 at h
  refine Eq.trans (e51_62 ..) ?_
  exact (hk2 _ _ _ hl1 _ _ hl2 _ _ (iA_ok hl3 (rfl : (1 : Int32) = nI 1)) _ _ _ h)
noncomputable def F51_53 (k2 : Nat → Nat → Nat → Nat → fS → Option fR) (l0 : Nat) (l1 : Nat) (l2 : Nat) (l3 : Nat) (l4 : Nat) (s0 : Nat) (s1 : Nat) (T : fS) : Option fR := (fif (ilt s0 s1) (F51_62 k2 l0 l1 l2 l3 l4 T) (F51_56  l0 l1 l2 l3 l4 T))
theorem G51_53 {z : Option mm_O} {T : fS} {r : fR} (k2 : Nat → Nat → Nat → Nat → fS → Option fR) (hk2 : ∀ (l0 : Nat) (xl1 : Int32) (l1 : Nat) (hl1 : xl1 = nI l1) (xl2 : Int32) (l2 : Nat) (hl2 : xl2 = nI l2) (xl3 : Int32) (l3 : Nat) (hl3 : xl3 = nI l3) (ul4 : Value) (T : fS) (r : fR), k2 l0 l1 l2 l3 T = some r → mm_L 51 2 [.ref l0, .int xl1, .int xl2, .int xl3, ul4] [] (toS z T) = some (tR z r)) (l0 : Nat) (xl1 : Int32) (l1 : Nat) (hl1 : xl1 = nI l1) (xl2 : Int32) (l2 : Nat) (hl2 : xl2 = nI l2) (xl3 : Int32) (l3 : Nat) (hl3 : xl3 = nI l3) (l4 : Nat) (xs0 : Int32) (s0 : Nat) (hs0 : xs0 = nI s0) (xs1 : Int32) (s1 : Nat) (hs1 : xs1 = nI s1) (h : F51_53 k2 l0 l1 l2 l3 l4 s0 s1 T = some r) : mm_L 51 53 [.ref l0, .int xl1, .int xl2, .int xl3, .ref l4] [.int xs0, .int xs1] (toS z T) = some (tR z r) := by
  unfold F51_53 at h
  refine Eq.trans (e51_53 ..) ?_
  exact (fb_if (cj_lt hs0 hs1) h (fun h1 => (G51_62 k2 hk2 _ _ _ hl1 _ _ hl2 _ _ hl3 _ h1)) (fun h1 => (G51_56  _ _ _ hl1 _ _ hl2 _ _ hl3 _ h1)))
noncomputable def F51_47 (k2 : Nat → Nat → Nat → Nat → fS → Option fR) (l0 : Nat) (l1 : Nat) (l2 : Nat) (l3 : Nat) (l4 : Nat) (T : fS) : Option fR := (fbn (fgi T l4 5 2) (fun v0 => F51_53 k2 l0 l1 l2 l3 l4 v0 l1 T))
theorem G51_47 {z : Option mm_O} {T : fS} {r : fR} (k2 : Nat → Nat → Nat → Nat → fS → Option fR) (hk2 : ∀ (l0 : Nat) (xl1 : Int32) (l1 : Nat) (hl1 : xl1 = nI l1) (xl2 : Int32) (l2 : Nat) (hl2 : xl2 = nI l2) (xl3 : Int32) (l3 : Nat) (hl3 : xl3 = nI l3) (ul4 : Value) (T : fS) (r : fR), k2 l0 l1 l2 l3 T = some r → mm_L 51 2 [.ref l0, .int xl1, .int xl2, .int xl3, ul4] [] (toS z T) = some (tR z r)) (l0 : Nat) (xl1 : Int32) (l1 : Nat) (hl1 : xl1 = nI l1) (xl2 : Int32) (l2 : Nat) (hl2 : xl2 = nI l2) (xl3 : Int32) (l3 : Nat) (hl3 : xl3 = nI l3) (l4 : Nat) (h : F51_47 k2 l0 l1 l2 l3 l4 T = some r) : mm_L 51 47 [.ref l0, .int xl1, .int xl2, .int xl3, .ref l4] [] (toS z T) = some (tR z r) := by
  unfold F51_47 at h
  refine Eq.trans (e51_47 ..) ?_
  exact (fb_n (fun _ q => fgi_ok q) h (fun v0 h2 => G51_53 k2 hk2 _ _ _ hl1 _ _ hl2 _ _ hl3 _ _ _ rfl _ _ hl1 h2))
noncomputable def F51_43 (k2 : Nat → Nat → Nat → Nat → fS → Option fR) (l0 : Nat) (l1 : Nat) (l2 : Nat) (l3 : Nat) (l4 : Nat) (s0 : Nat) (T : fS) : Option fR := (fif (ilt l1 s0) (F51_62 k2 l0 l1 l2 l3 l4 T) (F51_47 k2 l0 l1 l2 l3 l4 T))
theorem G51_43 {z : Option mm_O} {T : fS} {r : fR} (k2 : Nat → Nat → Nat → Nat → fS → Option fR) (hk2 : ∀ (l0 : Nat) (xl1 : Int32) (l1 : Nat) (hl1 : xl1 = nI l1) (xl2 : Int32) (l2 : Nat) (hl2 : xl2 = nI l2) (xl3 : Int32) (l3 : Nat) (hl3 : xl3 = nI l3) (ul4 : Value) (T : fS) (r : fR), k2 l0 l1 l2 l3 T = some r → mm_L 51 2 [.ref l0, .int xl1, .int xl2, .int xl3, ul4] [] (toS z T) = some (tR z r)) (l0 : Nat) (xl1 : Int32) (l1 : Nat) (hl1 : xl1 = nI l1) (xl2 : Int32) (l2 : Nat) (hl2 : xl2 = nI l2) (xl3 : Int32) (l3 : Nat) (hl3 : xl3 = nI l3) (l4 : Nat) (xs0 : Int32) (s0 : Nat) (hs0 : xs0 = nI s0) (h : F51_43 k2 l0 l1 l2 l3 l4 s0 T = some r) : mm_L 51 43 [.ref l0, .int xl1, .int xl2, .int xl3, .ref l4] [.int xs0] (toS z T) = some (tR z r) := by
  unfold F51_43 at h
  refine Eq.trans (e51_43 ..) ?_
  exact (fb_if (cj_lt hl1 hs0) h (fun h1 => (G51_62 k2 hk2 _ _ _ hl1 _ _ hl2 _ _ hl3 _ h1)) (fun h1 => (G51_47 k2 hk2 _ _ _ hl1 _ _ hl2 _ _ hl3 _ h1)))
noncomputable def F51_38 (k2 : Nat → Nat → Nat → Nat → fS → Option fR) (l0 : Nat) (l1 : Nat) (l2 : Nat) (l3 : Nat) (l4 : Nat) (T : fS) : Option fR := (fbn (fgi T l4 5 1) (fun v0 => F51_43 k2 l0 l1 l2 l3 l4 v0 T))
theorem G51_38 {z : Option mm_O} {T : fS} {r : fR} (k2 : Nat → Nat → Nat → Nat → fS → Option fR) (hk2 : ∀ (l0 : Nat) (xl1 : Int32) (l1 : Nat) (hl1 : xl1 = nI l1) (xl2 : Int32) (l2 : Nat) (hl2 : xl2 = nI l2) (xl3 : Int32) (l3 : Nat) (hl3 : xl3 = nI l3) (ul4 : Value) (T : fS) (r : fR), k2 l0 l1 l2 l3 T = some r → mm_L 51 2 [.ref l0, .int xl1, .int xl2, .int xl3, ul4] [] (toS z T) = some (tR z r)) (l0 : Nat) (xl1 : Int32) (l1 : Nat) (hl1 : xl1 = nI l1) (xl2 : Int32) (l2 : Nat) (hl2 : xl2 = nI l2) (xl3 : Int32) (l3 : Nat) (hl3 : xl3 = nI l3) (l4 : Nat) (h : F51_38 k2 l0 l1 l2 l3 l4 T = some r) : mm_L 51 38 [.ref l0, .int xl1, .int xl2, .int xl3, .ref l4] [] (toS z T) = some (tR z r) := by
  unfold F51_38 at h
  refine Eq.trans (e51_38 ..) ?_
  exact (fb_n (fun _ q => fgi_ok q) h (fun v0 h2 => G51_43 k2 hk2 _ _ _ hl1 _ _ hl2 _ _ hl3 _ _ _ rfl h2))
noncomputable def F51_34 (k2 : Nat → Nat → Nat → Nat → fS → Option fR) (l0 : Nat) (l1 : Nat) (l2 : Nat) (l3 : Nat) (l4 : Nat) (s0 : Nat) (T : fS) : Option fR := (fif (ieq s0 l2) (F51_38 k2 l0 l1 l2 l3 l4 T) (F51_62 k2 l0 l1 l2 l3 l4 T))
theorem G51_34 {z : Option mm_O} {T : fS} {r : fR} (k2 : Nat → Nat → Nat → Nat → fS → Option fR) (hk2 : ∀ (l0 : Nat) (xl1 : Int32) (l1 : Nat) (hl1 : xl1 = nI l1) (xl2 : Int32) (l2 : Nat) (hl2 : xl2 = nI l2) (xl3 : Int32) (l3 : Nat) (hl3 : xl3 = nI l3) (ul4 : Value) (T : fS) (r : fR), k2 l0 l1 l2 l3 T = some r → mm_L 51 2 [.ref l0, .int xl1, .int xl2, .int xl3, ul4] [] (toS z T) = some (tR z r)) (l0 : Nat) (xl1 : Int32) (l1 : Nat) (hl1 : xl1 = nI l1) (xl2 : Int32) (l2 : Nat) (hl2 : xl2 = nI l2) (xl3 : Int32) (l3 : Nat) (hl3 : xl3 = nI l3) (l4 : Nat) (xs0 : Int32) (s0 : Nat) (hs0 : xs0 = nI s0) (h : F51_34 k2 l0 l1 l2 l3 l4 s0 T = some r) : mm_L 51 34 [.ref l0, .int xl1, .int xl2, .int xl3, .ref l4] [.int xs0] (toS z T) = some (tR z r) := by
  unfold F51_34 at h
  refine Eq.trans (e51_34 ..) ?_
  exact (fb_if (cj_eq hs0 hl2) h (fun h1 => (G51_38 k2 hk2 _ _ _ hl1 _ _ hl2 _ _ hl3 _ h1)) (fun h1 => (G51_62 k2 hk2 _ _ _ hl1 _ _ hl2 _ _ hl3 _ h1)))
noncomputable def F51_31 (k2 : Nat → Nat → Nat → Nat → fS → Option fR) (l0 : Nat) (l1 : Nat) (l2 : Nat) (l3 : Nat) (l4 : Nat) (s0 : Nat) (T : fS) : Option fR := (fKi true (F52_0 s0 T) (fun v0 T1 => F51_34 k2 l0 l1 l2 l3 l4 v0 T1))
theorem G51_31 {z : Option mm_O} {T : fS} {r : fR} (k2 : Nat → Nat → Nat → Nat → fS → Option fR) (hk2 : ∀ (l0 : Nat) (xl1 : Int32) (l1 : Nat) (hl1 : xl1 = nI l1) (xl2 : Int32) (l2 : Nat) (hl2 : xl2 = nI l2) (xl3 : Int32) (l3 : Nat) (hl3 : xl3 = nI l3) (ul4 : Value) (T : fS) (r : fR), k2 l0 l1 l2 l3 T = some r → mm_L 51 2 [.ref l0, .int xl1, .int xl2, .int xl3, ul4] [] (toS z T) = some (tR z r)) (l0 : Nat) (xl1 : Int32) (l1 : Nat) (hl1 : xl1 = nI l1) (xl2 : Int32) (l2 : Nat) (hl2 : xl2 = nI l2) (xl3 : Int32) (l3 : Nat) (hl3 : xl3 = nI l3) (l4 : Nat) (xs0 : Int32) (s0 : Nat) (hs0 : xs0 = nI s0) (h : F51_31 k2 l0 l1 l2 l3 l4 s0 T = some r) : mm_L 51 31 [.ref l0, .int xl1, .int xl2, .int xl3, .ref l4] [.int xs0] (toS z T) = some (tR z r) := by
  unfold F51_31 at h
  refine Eq.trans (e51_31 ..) ?_
  exact (fb_K0i (fun _ q => GM52 _ _ hs0 q) h (fun v0 T1 h2 => G51_34 k2 hk2 _ _ _ hl1 _ _ hl2 _ _ hl3 _ _ _ rfl h2))
noncomputable def F51_24 (k2 : Nat → Nat → Nat → Nat → fS → Option fR) (l0 : Nat) (l1 : Nat) (l2 : Nat) (l3 : Nat) (s0 : Nat) (T : fS) : Option fR := (fbn (fgi T s0 5 0) (fun v0 => F51_31 k2 l0 l1 l2 l3 s0 v0 T))
theorem G51_24 {z : Option mm_O} {T : fS} {r : fR} (k2 : Nat → Nat → Nat → Nat → fS → Option fR) (hk2 : ∀ (l0 : Nat) (xl1 : Int32) (l1 : Nat) (hl1 : xl1 = nI l1) (xl2 : Int32) (l2 : Nat) (hl2 : xl2 = nI l2) (xl3 : Int32) (l3 : Nat) (hl3 : xl3 = nI l3) (ul4 : Value) (T : fS) (r : fR), k2 l0 l1 l2 l3 T = some r → mm_L 51 2 [.ref l0, .int xl1, .int xl2, .int xl3, ul4] [] (toS z T) = some (tR z r)) (l0 : Nat) (xl1 : Int32) (l1 : Nat) (hl1 : xl1 = nI l1) (xl2 : Int32) (l2 : Nat) (hl2 : xl2 = nI l2) (xl3 : Int32) (l3 : Nat) (hl3 : xl3 = nI l3) (ul4 : Value) (s0 : Nat) (h : F51_24 k2 l0 l1 l2 l3 s0 T = some r) : mm_L 51 24 [.ref l0, .int xl1, .int xl2, .int xl3, ul4] [.ref s0] (toS z T) = some (tR z r) := by
  unfold F51_24 at h
  refine Eq.trans (e51_24 ..) ?_
  exact (fb_n (fun _ q => fgi_ok q) h (fun v0 h2 => G51_31 k2 hk2 _ _ _ hl1 _ _ hl2 _ _ hl3 _ _ _ rfl h2))
noncomputable def F51_21 (k2 : Nat → Nat → Nat → Nat → fS → Option fR) (l0 : Nat) (l1 : Nat) (l2 : Nat) (l3 : Nat) (s0 : Nat) (T : fS) : Option fR := (fif (fch T s0 5) (F51_24 k2 l0 l1 l2 l3 s0 T) none)
theorem G51_21 {z : Option mm_O} {T : fS} {r : fR} (k2 : Nat → Nat → Nat → Nat → fS → Option fR) (hk2 : ∀ (l0 : Nat) (xl1 : Int32) (l1 : Nat) (hl1 : xl1 = nI l1) (xl2 : Int32) (l2 : Nat) (hl2 : xl2 = nI l2) (xl3 : Int32) (l3 : Nat) (hl3 : xl3 = nI l3) (ul4 : Value) (T : fS) (r : fR), k2 l0 l1 l2 l3 T = some r → mm_L 51 2 [.ref l0, .int xl1, .int xl2, .int xl3, ul4] [] (toS z T) = some (tR z r)) (l0 : Nat) (xl1 : Int32) (l1 : Nat) (hl1 : xl1 = nI l1) (xl2 : Int32) (l2 : Nat) (hl2 : xl2 = nI l2) (xl3 : Int32) (l3 : Nat) (hl3 : xl3 = nI l3) (ul4 : Value) (s0 : Nat) (h : F51_21 k2 l0 l1 l2 l3 s0 T = some r) : mm_L 51 21 [.ref l0, .int xl1, .int xl2, .int xl3, ul4] [.ref s0] (toS z T) = some (tR z r) := by
  unfold F51_21 at h
  refine Eq.trans (e51_21 ..) ?_
  exact (fb_c h (fun h2 => G51_24 k2 hk2 _ _ _ hl1 _ _ hl2 _ _ hl3 _ _ h2))
noncomputable def F51_17 (k2 : Nat → Nat → Nat → Nat → fS → Option fR) (l0 : Nat) (l1 : Nat) (l2 : Nat) (l3 : Nat) (s0 : Nat) (T : fS) : Option fR := (fbn (flg T s0 l3) (fun v0 => F51_21 k2 l0 l1 l2 l3 v0 T))
theorem G51_17 {z : Option mm_O} {T : fS} {r : fR} (k2 : Nat → Nat → Nat → Nat → fS → Option fR) (hk2 : ∀ (l0 : Nat) (xl1 : Int32) (l1 : Nat) (hl1 : xl1 = nI l1) (xl2 : Int32) (l2 : Nat) (hl2 : xl2 = nI l2) (xl3 : Int32) (l3 : Nat) (hl3 : xl3 = nI l3) (ul4 : Value) (T : fS) (r : fR), k2 l0 l1 l2 l3 T = some r → mm_L 51 2 [.ref l0, .int xl1, .int xl2, .int xl3, ul4] [] (toS z T) = some (tR z r)) (l0 : Nat) (xl1 : Int32) (l1 : Nat) (hl1 : xl1 = nI l1) (xl2 : Int32) (l2 : Nat) (hl2 : xl2 = nI l2) (xl3 : Int32) (l3 : Nat) (hl3 : xl3 = nI l3) (ul4 : Value) (s0 : Nat) (h : F51_17 k2 l0 l1 l2 l3 s0 T = some r) : mm_L 51 17 [.ref l0, .int xl1, .int xl2, .int xl3, ul4] [.ref s0] (toS z T) = some (tR z r) := by
  unfold F51_17 at h
  refine Eq.trans (e51_17 ..) ?_
  exact (fb_g (fun _ q => by rw [hl3]; exact flg_ok q) h (fun v0 h2 => G51_21 k2 hk2 _ _ _ hl1 _ _ hl2 _ _ hl3 _ _ h2))
noncomputable def F51_13 (k2 : Nat → Nat → Nat → Nat → fS → Option fR) (l0 : Nat) (l1 : Nat) (l2 : Nat) (l3 : Nat) (T : fS) : Option fR := (fbv (fgr T l0 6 2) (fun v0 => F51_17 k2 l0 l1 l2 l3 v0 T) ((none : Option fR)))
theorem G51_13 {z : Option mm_O} {T : fS} {r : fR} (k2 : Nat → Nat → Nat → Nat → fS → Option fR) (hk2 : ∀ (l0 : Nat) (xl1 : Int32) (l1 : Nat) (hl1 : xl1 = nI l1) (xl2 : Int32) (l2 : Nat) (hl2 : xl2 = nI l2) (xl3 : Int32) (l3 : Nat) (hl3 : xl3 = nI l3) (ul4 : Value) (T : fS) (r : fR), k2 l0 l1 l2 l3 T = some r → mm_L 51 2 [.ref l0, .int xl1, .int xl2, .int xl3, ul4] [] (toS z T) = some (tR z r)) (l0 : Nat) (xl1 : Int32) (l1 : Nat) (hl1 : xl1 = nI l1) (xl2 : Int32) (l2 : Nat) (hl2 : xl2 = nI l2) (xl3 : Int32) (l3 : Nat) (hl3 : xl3 = nI l3) (ul4 : Value) (h : F51_13 k2 l0 l1 l2 l3 T = some r) : mm_L 51 13 [.ref l0, .int xl1, .int xl2, .int xl3, ul4] [] (toS z T) = some (tR z r) := by
  unfold F51_13 at h
  refine Eq.trans (e51_13 ..) ?_
  exact (fb_v (fun _ q => fgr_ok q) h (fun v0 h2 => G51_17 k2 hk2 _ _ _ hl1 _ _ hl2 _ _ hl3 _ _ h2) (fun h2 => fr_n h2))
noncomputable def F51_68  (l0 : Nat) (l1 : Nat) (l2 : Nat) (l3 : Nat) (T : fS) : Option fR := (some ((.inl (some (.inl 4294967295)), T) : fR))
theorem G51_68 {z : Option mm_O} {T : fS} {r : fR}  (l0 : Nat) (xl1 : Int32) (l1 : Nat) (hl1 : xl1 = nI l1) (xl2 : Int32) (l2 : Nat) (hl2 : xl2 = nI l2) (xl3 : Int32) (l3 : Nat) (hl3 : xl3 = nI l3) (ul4 : Value) (h : F51_68  l0 l1 l2 l3 T = some r) : mm_L 51 68 [.ref l0, .int xl1, .int xl2, .int xl3, ul4] [] (toS z T) = some (tR z r) := by
  unfold F51_68 at h
  refine Eq.trans (e51_68 ..) ?_
  exact (fr_i (by decide : (-1 : Int32) = nI 4294967295) h)
noncomputable def F51_10 (k2 : Nat → Nat → Nat → Nat → fS → Option fR) (l0 : Nat) (l1 : Nat) (l2 : Nat) (l3 : Nat) (s0 : Nat) (s1 : Nat) (T : fS) : Option fR := (fif (ile s0 s1) (F51_68  l0 l1 l2 l3 T) (F51_13 k2 l0 l1 l2 l3 T))
theorem G51_10 {z : Option mm_O} {T : fS} {r : fR} (k2 : Nat → Nat → Nat → Nat → fS → Option fR) (hk2 : ∀ (l0 : Nat) (xl1 : Int32) (l1 : Nat) (hl1 : xl1 = nI l1) (xl2 : Int32) (l2 : Nat) (hl2 : xl2 = nI l2) (xl3 : Int32) (l3 : Nat) (hl3 : xl3 = nI l3) (ul4 : Value) (T : fS) (r : fR), k2 l0 l1 l2 l3 T = some r → mm_L 51 2 [.ref l0, .int xl1, .int xl2, .int xl3, ul4] [] (toS z T) = some (tR z r)) (l0 : Nat) (xl1 : Int32) (l1 : Nat) (hl1 : xl1 = nI l1) (xl2 : Int32) (l2 : Nat) (hl2 : xl2 = nI l2) (xl3 : Int32) (l3 : Nat) (hl3 : xl3 = nI l3) (ul4 : Value) (xs0 : Int32) (s0 : Nat) (hs0 : xs0 = nI s0) (xs1 : Int32) (s1 : Nat) (hs1 : xs1 = nI s1) (h : F51_10 k2 l0 l1 l2 l3 s0 s1 T = some r) : mm_L 51 10 [.ref l0, .int xl1, .int xl2, .int xl3, ul4] [.int xs0, .int xs1] (toS z T) = some (tR z r) := by
  unfold F51_10 at h
  refine Eq.trans (e51_10 ..) ?_
  exact (fb_if (cj_le hs0 hs1) h (fun h1 => (G51_68  _ _ _ hl1 _ _ hl2 _ _ hl3 _ h1)) (fun h1 => (G51_13 k2 hk2 _ _ _ hl1 _ _ hl2 _ _ hl3 _ h1)))
noncomputable def F51_7 (k2 : Nat → Nat → Nat → Nat → fS → Option fR) (l0 : Nat) (l1 : Nat) (l2 : Nat) (l3 : Nat) (s0 : Nat) (s1 : Nat) (T : fS) : Option fR := (fbn (flz T s0) (fun v0 => F51_10 k2 l0 l1 l2 l3 v0 s1 T))
theorem G51_7 {z : Option mm_O} {T : fS} {r : fR} (k2 : Nat → Nat → Nat → Nat → fS → Option fR) (hk2 : ∀ (l0 : Nat) (xl1 : Int32) (l1 : Nat) (hl1 : xl1 = nI l1) (xl2 : Int32) (l2 : Nat) (hl2 : xl2 = nI l2) (xl3 : Int32) (l3 : Nat) (hl3 : xl3 = nI l3) (ul4 : Value) (T : fS) (r : fR), k2 l0 l1 l2 l3 T = some r → mm_L 51 2 [.ref l0, .int xl1, .int xl2, .int xl3, ul4] [] (toS z T) = some (tR z r)) (l0 : Nat) (xl1 : Int32) (l1 : Nat) (hl1 : xl1 = nI l1) (xl2 : Int32) (l2 : Nat) (hl2 : xl2 = nI l2) (xl3 : Int32) (l3 : Nat) (hl3 : xl3 = nI l3) (ul4 : Value) (s0 : Nat) (xs1 : Int32) (s1 : Nat) (hs1 : xs1 = nI s1) (h : F51_7 k2 l0 l1 l2 l3 s0 s1 T = some r) : mm_L 51 7 [.ref l0, .int xl1, .int xl2, .int xl3, ul4] [.ref s0, .int xs1] (toS z T) = some (tR z r) := by
  unfold F51_7 at h
  refine Eq.trans (e51_7 ..) ?_
  exact (fb_n (fun _ q => flz_ok q) h (fun v0 h2 => G51_10 k2 hk2 _ _ _ hl1 _ _ hl2 _ _ hl3 _ _ _ rfl _ _ hs1 h2))
noncomputable def F51_2 (k2 : Nat → Nat → Nat → Nat → fS → Option fR) (l0 : Nat) (l1 : Nat) (l2 : Nat) (l3 : Nat) (T : fS) : Option fR := (fbv (fgr T l0 6 2) (fun v0 => F51_7 k2 l0 l1 l2 l3 v0 l3 T) ((none : Option fR)))
theorem G51_2 {z : Option mm_O} {T : fS} {r : fR} (k2 : Nat → Nat → Nat → Nat → fS → Option fR) (hk2 : ∀ (l0 : Nat) (xl1 : Int32) (l1 : Nat) (hl1 : xl1 = nI l1) (xl2 : Int32) (l2 : Nat) (hl2 : xl2 = nI l2) (xl3 : Int32) (l3 : Nat) (hl3 : xl3 = nI l3) (ul4 : Value) (T : fS) (r : fR), k2 l0 l1 l2 l3 T = some r → mm_L 51 2 [.ref l0, .int xl1, .int xl2, .int xl3, ul4] [] (toS z T) = some (tR z r)) (l0 : Nat) (xl1 : Int32) (l1 : Nat) (hl1 : xl1 = nI l1) (xl2 : Int32) (l2 : Nat) (hl2 : xl2 = nI l2) (xl3 : Int32) (l3 : Nat) (hl3 : xl3 = nI l3) (ul4 : Value) (h : F51_2 k2 l0 l1 l2 l3 T = some r) : mm_L 51 2 [.ref l0, .int xl1, .int xl2, .int xl3, ul4] [] (toS z T) = some (tR z r) := by
  unfold F51_2 at h
  refine Eq.trans (e51_2 ..) ?_
  exact (fb_v (fun _ q => fgr_ok q) h (fun v0 h2 => G51_7 k2 hk2 _ _ _ hl1 _ _ hl2 _ _ hl3 _ _ _ _ hl3 h2) (fun h2 => fr_n h2))
noncomputable def H51_2  (n : Nat) : Nat → Nat → Nat → Nat → fS → Option fR := Nat.rec (motive := fun _ => Nat → Nat → Nat → Nat → fS → Option fR) (fun _ _ _ _ _ => none) (fun _ ih => F51_2 ih) n
theorem HG51_2 {z : Option mm_O}  : ∀ (n : Nat) (l0 : Nat) (xl1 : Int32) (l1 : Nat) (hl1 : xl1 = nI l1) (xl2 : Int32) (l2 : Nat) (hl2 : xl2 = nI l2) (xl3 : Int32) (l3 : Nat) (hl3 : xl3 = nI l3) (ul4 : Value) {T : fS} {r : fR}, H51_2  n l0 l1 l2 l3 T = some r → mm_L 51 2 [.ref l0, .int xl1, .int xl2, .int xl3, ul4] [] (toS z T) = some (tR z r) := by
  intro n
  induction n with
  | zero =>
    intro l0 xl1 l1 hl1 xl2 l2 hl2 xl3 l3 hl3 ul4 T r h
    exact fr_n h
  | succ n ih =>
    intro l0 xl1 l1 hl1 xl2 l2 hl2 xl3 l3 hl3 ul4 T r h
    exact G51_2 (H51_2  n) (fun l0 xl1 l1 hl1 xl2 l2 hl2 xl3 l3 hl3 ul4 T r h => ih l0 xl1 l1 hl1 xl2 l2 hl2 xl3 l3 hl3 ul4 h) l0 xl1 l1 hl1 xl2 l2 hl2 xl3 l3 hl3 ul4 h
noncomputable def F51_0  (l0 : Nat) (l1 : Nat) (l2 : Nat) (T : fS) : Option fR := (H51_2  300 l0 l1 l2 0 T)
theorem G51_0 {z : Option mm_O} {T : fS} {r : fR}  (l0 : Nat) (xl1 : Int32) (l1 : Nat) (hl1 : xl1 = nI l1) (xl2 : Int32) (l2 : Nat) (hl2 : xl2 = nI l2) (ul3 : Value) (ul4 : Value) (h : F51_0  l0 l1 l2 T = some r) : mm_L 51 0 [.ref l0, .int xl1, .int xl2, ul3, ul4] [] (toS z T) = some (tR z r) := by
  unfold F51_0 at h
  refine Eq.trans (e51_0 ..) ?_
  exact (HG51_2  300 _ _ _ hl1 _ _ hl2 _ _ (rfl : (0 : Int32) = nI 0) _ h)
theorem GM51 {z : Option mm_O} {T : fS} {r : fR} (l0 : Nat) (xl1 : Int32) (l1 : Nat) (hl1 : xl1 = nI l1) (xl2 : Int32) (l2 : Nat) (hl2 : xl2 = nI l2) (h : F51_0 l0 l1 l2 T = some r) : mm_M 51 [.ref l0, .int xl1, .int xl2] (toS z T) = some (tR z r) := Eq.trans (M_51 ..) (G51_0 l0 xl1 l1 hl1 xl2 l2 hl2 _ _ h)
-- 62: HandArchive.hasNoSecond
noncomputable def F62_39  (l0 : Nat) (l1 : Nat) (s0 : Nat) (T : fS) : Option fR := (fif (Bool.rec (motive := fun _ => Bool) (ieq s0 1) true (ieq s0 0)) (some ((.inl (some (.inl s0)), T) : fR)) (none : Option fR))
theorem G62_39 {z : Option mm_O} {T : fS} {r : fR}  (l0 : Nat) (xl1 : Int32) (l1 : Nat) (hl1 : xl1 = nI l1) (xs0 : Int32) (s0 : Nat) (hs0 : xs0 = nI s0) (h : F62_39  l0 l1 s0 T = some r) : mm_L 62 39 [.ref l0, .int xl1] [.int xs0] (toS z T) = some (tR z r) := by
  unfold F62_39 at h
  refine Eq.trans (e62_39 ..) ?_
  exact (fb_if (cj_01 hs0) h (fun h1 => (fr_i hs0 h1)) (fun h1 => (fr_n h1)))
noncomputable def F62_34  (l0 : Nat) (l1 : Nat) (T : fS) : Option fR := (F62_39  l0 l1 1 T)
theorem G62_34 {z : Option mm_O} {T : fS} {r : fR}  (l0 : Nat) (xl1 : Int32) (l1 : Nat) (hl1 : xl1 = nI l1) (h : F62_34  l0 l1 T = some r) : mm_L 62 34 [.ref l0, .int xl1] [] (toS z T) = some (tR z r) := by
  unfold F62_34 at h
  refine Eq.trans (e62_34 ..) ?_
  exact (G62_39  _ _ _ hl1 _ _ (rfl : (1 : Int32) = nI 1) h)
noncomputable def F62_38  (l0 : Nat) (l1 : Nat) (T : fS) : Option fR := (F62_39  l0 l1 0 T)
theorem G62_38 {z : Option mm_O} {T : fS} {r : fR}  (l0 : Nat) (xl1 : Int32) (l1 : Nat) (hl1 : xl1 = nI l1) (h : F62_38  l0 l1 T = some r) : mm_L 62 38 [.ref l0, .int xl1] [] (toS z T) = some (tR z r) := by
  unfold F62_38 at h
  refine Eq.trans (e62_38 ..) ?_
  exact (G62_39  _ _ _ hl1 _ _ (rfl : (0 : Int32) = nI 0) h)
noncomputable def F62_31  (l0 : Nat) (l1 : Nat) (s0 : Nat) (T : fS) : Option fR := (fif (ieq s0 0) (F62_34  l0 l1 T) (F62_38  l0 l1 T))
theorem G62_31 {z : Option mm_O} {T : fS} {r : fR}  (l0 : Nat) (xl1 : Int32) (l1 : Nat) (hl1 : xl1 = nI l1) (xs0 : Int32) (s0 : Nat) (hs0 : xs0 = nI s0) (h : F62_31  l0 l1 s0 T = some r) : mm_L 62 31 [.ref l0, .int xl1] [.int xs0] (toS z T) = some (tR z r) := by
  unfold F62_31 at h
  refine Eq.trans (e62_31 ..) ?_
  exact (fb_if (cj_eq hs0 (rfl : (0 : Int32) = nI 0)) h (fun h1 => (G62_34  _ _ _ hl1 h1)) (fun h1 => (G62_38  _ _ _ hl1 h1)))
noncomputable def F62_28  (l0 : Nat) (l1 : Nat) (s0 : Nat) (T : fS) : Option fR := (fbn (fgi T s0 1 5) (fun v0 => F62_31  l0 l1 v0 T))
theorem G62_28 {z : Option mm_O} {T : fS} {r : fR}  (l0 : Nat) (xl1 : Int32) (l1 : Nat) (hl1 : xl1 = nI l1) (s0 : Nat) (h : F62_28  l0 l1 s0 T = some r) : mm_L 62 28 [.ref l0, .int xl1] [.ref s0] (toS z T) = some (tR z r) := by
  unfold F62_28 at h
  refine Eq.trans (e62_28 ..) ?_
  exact (fb_n (fun _ q => fgi_ok q) h (fun v0 h2 => G62_31  _ _ _ hl1 _ _ rfl h2))
noncomputable def F62_25  (l0 : Nat) (l1 : Nat) (s0 : Nat) (T : fS) : Option fR := (fbv (fgr T s0 2 4) (fun v0 => F62_28  l0 l1 v0 T) ((none : Option fR)))
theorem G62_25 {z : Option mm_O} {T : fS} {r : fR}  (l0 : Nat) (xl1 : Int32) (l1 : Nat) (hl1 : xl1 = nI l1) (s0 : Nat) (h : F62_25  l0 l1 s0 T = some r) : mm_L 62 25 [.ref l0, .int xl1] [.ref s0] (toS z T) = some (tR z r) := by
  unfold F62_25 at h
  refine Eq.trans (e62_25 ..) ?_
  exact (fb_v (fun _ q => fgr_ok q) h (fun v0 h2 => G62_28  _ _ _ hl1 _ h2) (fun h2 => fr_n h2))
noncomputable def F62_22  (l0 : Nat) (l1 : Nat) (s0 : Nat) (T : fS) : Option fR := (fif (fch T s0 2) (F62_25  l0 l1 s0 T) none)
theorem G62_22 {z : Option mm_O} {T : fS} {r : fR}  (l0 : Nat) (xl1 : Int32) (l1 : Nat) (hl1 : xl1 = nI l1) (s0 : Nat) (h : F62_22  l0 l1 s0 T = some r) : mm_L 62 22 [.ref l0, .int xl1] [.ref s0] (toS z T) = some (tR z r) := by
  unfold F62_22 at h
  refine Eq.trans (e62_22 ..) ?_
  exact (fb_c h (fun h2 => G62_25  _ _ _ hl1 _ h2))
noncomputable def F62_18  (l0 : Nat) (l1 : Nat) (s0 : Nat) (T : fS) : Option fR := (fbn (flg T s0 l1) (fun v0 => F62_22  l0 l1 v0 T))
theorem G62_18 {z : Option mm_O} {T : fS} {r : fR}  (l0 : Nat) (xl1 : Int32) (l1 : Nat) (hl1 : xl1 = nI l1) (s0 : Nat) (h : F62_18  l0 l1 s0 T = some r) : mm_L 62 18 [.ref l0, .int xl1] [.ref s0] (toS z T) = some (tR z r) := by
  unfold F62_18 at h
  refine Eq.trans (e62_18 ..) ?_
  exact (fb_g (fun _ q => by rw [hl1]; exact flg_ok q) h (fun v0 h2 => G62_22  _ _ _ hl1 _ h2))
noncomputable def F62_14  (l0 : Nat) (l1 : Nat) (T : fS) : Option fR := (fbv (fgr T l0 6 1) (fun v0 => F62_18  l0 l1 v0 T) ((none : Option fR)))
theorem G62_14 {z : Option mm_O} {T : fS} {r : fR}  (l0 : Nat) (xl1 : Int32) (l1 : Nat) (hl1 : xl1 = nI l1) (h : F62_14  l0 l1 T = some r) : mm_L 62 14 [.ref l0, .int xl1] [] (toS z T) = some (tR z r) := by
  unfold F62_14 at h
  refine Eq.trans (e62_14 ..) ?_
  exact (fb_v (fun _ q => fgr_ok q) h (fun v0 h2 => G62_18  _ _ _ hl1 _ h2) (fun h2 => fr_n h2))
noncomputable def F62_11  (l0 : Nat) (l1 : Nat) (s0 : Nat) (T : fS) : Option fR := (fif (ieq s0 0) (F62_34  l0 l1 T) (F62_14  l0 l1 T))
theorem G62_11 {z : Option mm_O} {T : fS} {r : fR}  (l0 : Nat) (xl1 : Int32) (l1 : Nat) (hl1 : xl1 = nI l1) (xs0 : Int32) (s0 : Nat) (hs0 : xs0 = nI s0) (h : F62_11  l0 l1 s0 T = some r) : mm_L 62 11 [.ref l0, .int xl1] [.int xs0] (toS z T) = some (tR z r) := by
  unfold F62_11 at h
  refine Eq.trans (e62_11 ..) ?_
  exact (fb_if (cj_eq hs0 (rfl : (0 : Int32) = nI 0)) h (fun h1 => (G62_34  _ _ _ hl1 h1)) (fun h1 => (G62_14  _ _ _ hl1 h1)))
noncomputable def F62_8  (l0 : Nat) (l1 : Nat) (s0 : Nat) (s1 : Nat) (T : fS) : Option fR := (fKi false (F101_0 s1 s0 T) (fun v0 T1 => F62_11  l0 l1 v0 T1))
theorem G62_8 {z : Option mm_O} {T : fS} {r : fR}  (l0 : Nat) (xl1 : Int32) (l1 : Nat) (hl1 : xl1 = nI l1) (xs0 : Int32) (s0 : Nat) (hs0 : xs0 = nI s0) (xs1 : Int32) (s1 : Nat) (hs1 : xs1 = nI s1) (h : F62_8  l0 l1 s0 s1 T = some r) : mm_L 62 8 [.ref l0, .int xl1] [.int xs0, .int xs1] (toS z T) = some (tR z r) := by
  unfold F62_8 at h
  refine Eq.trans (e62_8 ..) ?_
  exact (fb_K2i (fun _ q => GM101 _ _ hs1 _ _ hs0 q) h (fun v0 T1 h2 => G62_11  _ _ _ hl1 _ _ rfl h2))
noncomputable def F62_5  (l0 : Nat) (l1 : Nat) (s0 : Nat) (s1 : Nat) (T : fS) : Option fR := (fbn (flz T s0) (fun v0 => F62_8  l0 l1 v0 s1 T))
theorem G62_5 {z : Option mm_O} {T : fS} {r : fR}  (l0 : Nat) (xl1 : Int32) (l1 : Nat) (hl1 : xl1 = nI l1) (s0 : Nat) (xs1 : Int32) (s1 : Nat) (hs1 : xs1 = nI s1) (h : F62_5  l0 l1 s0 s1 T = some r) : mm_L 62 5 [.ref l0, .int xl1] [.ref s0, .int xs1] (toS z T) = some (tR z r) := by
  unfold F62_5 at h
  refine Eq.trans (e62_5 ..) ?_
  exact (fb_n (fun _ q => flz_ok q) h (fun v0 h2 => G62_8  _ _ _ hl1 _ _ rfl _ _ hs1 h2))
noncomputable def F62_0  (l0 : Nat) (l1 : Nat) (T : fS) : Option fR := (fbv (fgr T l0 6 1) (fun v0 => F62_5  l0 l1 v0 l1 T) ((none : Option fR)))
theorem G62_0 {z : Option mm_O} {T : fS} {r : fR}  (l0 : Nat) (xl1 : Int32) (l1 : Nat) (hl1 : xl1 = nI l1) (h : F62_0  l0 l1 T = some r) : mm_L 62 0 [.ref l0, .int xl1] [] (toS z T) = some (tR z r) := by
  unfold F62_0 at h
  refine Eq.trans (e62_0 ..) ?_
  exact (fb_v (fun _ q => fgr_ok q) h (fun v0 h2 => G62_5  _ _ _ hl1 _ _ _ hl1 h2) (fun h2 => fr_n h2))
theorem GM62 {z : Option mm_O} {T : fS} {r : fR} (l0 : Nat) (xl1 : Int32) (l1 : Nat) (hl1 : xl1 = nI l1) (h : F62_0 l0 l1 T = some r) : mm_M 62 [.ref l0, .int xl1] (toS z T) = some (tR z r) := Eq.trans (M_62 ..) (G62_0 l0 xl1 l1 hl1 h)
-- 63: HandArchive.likenShape
noncomputable def F63_7  (l0 : Nat) (l1 : Nat) (l2 : Nat) (T : fS) : Option fR := (some ((.inl none, T) : fR))
theorem G63_7 {z : Option mm_O} {T : fS} {r : fR}  (l0 : Nat) (xl1 : Int32) (l1 : Nat) (hl1 : xl1 = nI l1) (l2 : Nat) (ul3 : Value) (ul4 : Value) (h : F63_7  l0 l1 l2 T = some r) : mm_L 63 7 [.ref l0, .int xl1, .ref l2, ul3, ul4] [] (toS z T) = some (tR z r) := by
  unfold F63_7 at h
  refine Eq.trans (e63_7 ..) ?_
  exact (fr_v h)
noncomputable def F63_82  (l0 : Nat) (l1 : Nat) (l2 : Nat) (l3 : Nat) (l4 : Nat) (T : fS) : Option fR := (some ((.inl none, T) : fR))
theorem G63_82 {z : Option mm_O} {T : fS} {r : fR}  (l0 : Nat) (xl1 : Int32) (l1 : Nat) (hl1 : xl1 = nI l1) (l2 : Nat) (xl3 : Int32) (l3 : Nat) (hl3 : xl3 = nI l3) (xl4 : Int32) (l4 : Nat) (hl4 : xl4 = nI l4) (h : F63_82  l0 l1 l2 l3 l4 T = some r) : mm_L 63 82 [.ref l0, .int xl1, .ref l2, .int xl3, .int xl4] [] (toS z T) = some (tR z r) := by
  unfold F63_82 at h
  refine Eq.trans (e63_82 ..) ?_
  exact (fr_v h)
noncomputable def F63_79  (l0 : Nat) (l1 : Nat) (l2 : Nat) (l3 : Nat) (l4 : Nat) (s0 : Nat) (s1 : Nat) (T : fS) : Option fR := (fbs (fsf T s1 1 0 (.inl s0)) (fun T1 => F63_82  l0 l1 l2 l3 l4 T1))
theorem G63_79 {z : Option mm_O} {T : fS} {r : fR}  (l0 : Nat) (xl1 : Int32) (l1 : Nat) (hl1 : xl1 = nI l1) (l2 : Nat) (xl3 : Int32) (l3 : Nat) (hl3 : xl3 = nI l3) (xl4 : Int32) (l4 : Nat) (hl4 : xl4 = nI l4) (xs0 : Int32) (s0 : Nat) (hs0 : xs0 = nI s0) (s1 : Nat) (h : F63_79  l0 l1 l2 l3 l4 s0 s1 T = some r) : mm_L 63 79 [.ref l0, .int xl1, .ref l2, .int xl3, .int xl4] [.int xs0, .ref s1] (toS z T) = some (tR z r) := by
  unfold F63_79 at h
  refine Eq.trans (e63_79 ..) ?_
  exact (fb_s (fun _ q => (fun q => by rw [hs0]; exact fsf_ok (v := .inl s0) q) q) h (fun T1 h2 => G63_82  _ _ _ hl1 _ _ _ hl3 _ _ hl4 h2))
noncomputable def F63_76  (l0 : Nat) (l1 : Nat) (l2 : Nat) (l3 : Nat) (l4 : Nat) (s0 : Nat) (s1 : Nat) (T : fS) : Option fR := (fbn (fgi T s0 1 0) (fun v0 => F63_79  l0 l1 l2 l3 l4 v0 s1 T))
theorem G63_76 {z : Option mm_O} {T : fS} {r : fR}  (l0 : Nat) (xl1 : Int32) (l1 : Nat) (hl1 : xl1 = nI l1) (l2 : Nat) (xl3 : Int32) (l3 : Nat) (hl3 : xl3 = nI l3) (xl4 : Int32) (l4 : Nat) (hl4 : xl4 = nI l4) (s0 : Nat) (s1 : Nat) (h : F63_76  l0 l1 l2 l3 l4 s0 s1 T = some r) : mm_L 63 76 [.ref l0, .int xl1, .ref l2, .int xl3, .int xl4] [.ref s0, .ref s1] (toS z T) = some (tR z r) := by
  unfold F63_76 at h
  refine Eq.trans (e63_76 ..) ?_
  exact (fb_n (fun _ q => fgi_ok q) h (fun v0 h2 => G63_79  _ _ _ hl1 _ _ _ hl3 _ _ hl4 _ _ rfl _ h2))
noncomputable def F63_73  (l0 : Nat) (l1 : Nat) (l2 : Nat) (l3 : Nat) (l4 : Nat) (s0 : Nat) (s1 : Nat) (T : fS) : Option fR := (fbv (fgr T s0 2 4) (fun v0 => F63_76  l0 l1 l2 l3 l4 v0 s1 T) ((none : Option fR)))
theorem G63_73 {z : Option mm_O} {T : fS} {r : fR}  (l0 : Nat) (xl1 : Int32) (l1 : Nat) (hl1 : xl1 = nI l1) (l2 : Nat) (xl3 : Int32) (l3 : Nat) (hl3 : xl3 = nI l3) (xl4 : Int32) (l4 : Nat) (hl4 : xl4 = nI l4) (s0 : Nat) (s1 : Nat) (h : F63_73  l0 l1 l2 l3 l4 s0 s1 T = some r) : mm_L 63 73 [.ref l0, .int xl1, .ref l2, .int xl3, .int xl4] [.ref s0, .ref s1] (toS z T) = some (tR z r) := by
  unfold F63_73 at h
  refine Eq.trans (e63_73 ..) ?_
  exact (fb_v (fun _ q => fgr_ok q) h (fun v0 h2 => G63_76  _ _ _ hl1 _ _ _ hl3 _ _ hl4 _ _ h2) (fun h2 => fr_n h2))
noncomputable def F63_70  (l0 : Nat) (l1 : Nat) (l2 : Nat) (l3 : Nat) (l4 : Nat) (s0 : Nat) (s1 : Nat) (T : fS) : Option fR := (fif (fch T s0 2) (F63_73  l0 l1 l2 l3 l4 s0 s1 T) none)
theorem G63_70 {z : Option mm_O} {T : fS} {r : fR}  (l0 : Nat) (xl1 : Int32) (l1 : Nat) (hl1 : xl1 = nI l1) (l2 : Nat) (xl3 : Int32) (l3 : Nat) (hl3 : xl3 = nI l3) (xl4 : Int32) (l4 : Nat) (hl4 : xl4 = nI l4) (s0 : Nat) (s1 : Nat) (h : F63_70  l0 l1 l2 l3 l4 s0 s1 T = some r) : mm_L 63 70 [.ref l0, .int xl1, .ref l2, .int xl3, .int xl4] [.ref s0, .ref s1] (toS z T) = some (tR z r) := by
  unfold F63_70 at h
  refine Eq.trans (e63_70 ..) ?_
  exact (fb_c h (fun h2 => G63_73  _ _ _ hl1 _ _ _ hl3 _ _ hl4 _ _ h2))
noncomputable def F63_65  (l0 : Nat) (l1 : Nat) (l2 : Nat) (l3 : Nat) (l4 : Nat) (s0 : Nat) (s1 : Nat) (T : fS) : Option fR := (fbn (flg T s0 l4) (fun v0 => F63_70  l0 l1 l2 l3 l4 v0 s1 T))
theorem G63_65 {z : Option mm_O} {T : fS} {r : fR}  (l0 : Nat) (xl1 : Int32) (l1 : Nat) (hl1 : xl1 = nI l1) (l2 : Nat) (xl3 : Int32) (l3 : Nat) (hl3 : xl3 = nI l3) (xl4 : Int32) (l4 : Nat) (hl4 : xl4 = nI l4) (s0 : Nat) (s1 : Nat) (h : F63_65  l0 l1 l2 l3 l4 s0 s1 T = some r) : mm_L 63 65 [.ref l0, .int xl1, .ref l2, .int xl3, .int xl4] [.ref s0, .ref s1] (toS z T) = some (tR z r) := by
  unfold F63_65 at h
  refine Eq.trans (e63_65 ..) ?_
  exact (fb_g (fun _ q => by rw [hl4]; exact flg_ok q) h (fun v0 h2 => G63_70  _ _ _ hl1 _ _ _ hl3 _ _ hl4 _ _ h2))
noncomputable def F63_61  (l0 : Nat) (l1 : Nat) (l2 : Nat) (l3 : Nat) (l4 : Nat) (s0 : Nat) (T : fS) : Option fR := (fbv (fgr T l0 6 1) (fun v0 => F63_65  l0 l1 l2 l3 l4 v0 s0 T) ((none : Option fR)))
theorem G63_61 {z : Option mm_O} {T : fS} {r : fR}  (l0 : Nat) (xl1 : Int32) (l1 : Nat) (hl1 : xl1 = nI l1) (l2 : Nat) (xl3 : Int32) (l3 : Nat) (hl3 : xl3 = nI l3) (xl4 : Int32) (l4 : Nat) (hl4 : xl4 = nI l4) (s0 : Nat) (h : F63_61  l0 l1 l2 l3 l4 s0 T = some r) : mm_L 63 61 [.ref l0, .int xl1, .ref l2, .int xl3, .int xl4] [.ref s0] (toS z T) = some (tR z r) := by
  unfold F63_61 at h
  refine Eq.trans (e63_61 ..) ?_
  exact (fb_v (fun _ q => fgr_ok q) h (fun v0 h2 => G63_65  _ _ _ hl1 _ _ _ hl3 _ _ hl4 _ _ h2) (fun h2 => fr_n h2))
noncomputable def F63_57  (l0 : Nat) (l1 : Nat) (l2 : Nat) (l3 : Nat) (l4 : Nat) (T : fS) : Option fR := (fbv (fgr T l2 2 4) (fun v0 => F63_61  l0 l1 l2 l3 l4 v0 T) ((none : Option fR)))
theorem G63_57 {z : Option mm_O} {T : fS} {r : fR}  (l0 : Nat) (xl1 : Int32) (l1 : Nat) (hl1 : xl1 = nI l1) (l2 : Nat) (xl3 : Int32) (l3 : Nat) (hl3 : xl3 = nI l3) (xl4 : Int32) (l4 : Nat) (hl4 : xl4 = nI l4) (h : F63_57  l0 l1 l2 l3 l4 T = some r) : mm_L 63 57 [.ref l0, .int xl1, .ref l2, .int xl3, .int xl4] [] (toS z T) = some (tR z r) := by
  unfold F63_57 at h
  refine Eq.trans (e63_57 ..) ?_
  exact (fb_v (fun _ q => fgr_ok q) h (fun v0 h2 => G63_61  _ _ _ hl1 _ _ _ hl3 _ _ hl4 _ h2) (fun h2 => fr_n h2))
noncomputable def F63_54  (l0 : Nat) (l1 : Nat) (l2 : Nat) (l3 : Nat) (l4 : Nat) (s0 : Nat) (T : fS) : Option fR := (fif (ieq s0 0) (F63_82  l0 l1 l2 l3 l4 T) (F63_57  l0 l1 l2 l3 l4 T))
theorem G63_54 {z : Option mm_O} {T : fS} {r : fR}  (l0 : Nat) (xl1 : Int32) (l1 : Nat) (hl1 : xl1 = nI l1) (l2 : Nat) (xl3 : Int32) (l3 : Nat) (hl3 : xl3 = nI l3) (xl4 : Int32) (l4 : Nat) (hl4 : xl4 = nI l4) (xs0 : Int32) (s0 : Nat) (hs0 : xs0 = nI s0) (h : F63_54  l0 l1 l2 l3 l4 s0 T = some r) : mm_L 63 54 [.ref l0, .int xl1, .ref l2, .int xl3, .int xl4] [.int xs0] (toS z T) = some (tR z r) := by
  unfold F63_54 at h
  refine Eq.trans (e63_54 ..) ?_
  exact (fb_if (cj_eq hs0 (rfl : (0 : Int32) = nI 0)) h (fun h1 => (G63_82  _ _ _ hl1 _ _ _ hl3 _ _ hl4 h1)) (fun h1 => (G63_57  _ _ _ hl1 _ _ _ hl3 _ _ hl4 h1)))
noncomputable def F63_51  (l0 : Nat) (l1 : Nat) (l2 : Nat) (l3 : Nat) (l4 : Nat) (s0 : Nat) (s1 : Nat) (T : fS) : Option fR := (fKi false (F101_0 s1 s0 T) (fun v0 T1 => F63_54  l0 l1 l2 l3 l4 v0 T1))
theorem G63_51 {z : Option mm_O} {T : fS} {r : fR}  (l0 : Nat) (xl1 : Int32) (l1 : Nat) (hl1 : xl1 = nI l1) (l2 : Nat) (xl3 : Int32) (l3 : Nat) (hl3 : xl3 = nI l3) (xl4 : Int32) (l4 : Nat) (hl4 : xl4 = nI l4) (xs0 : Int32) (s0 : Nat) (hs0 : xs0 = nI s0) (xs1 : Int32) (s1 : Nat) (hs1 : xs1 = nI s1) (h : F63_51  l0 l1 l2 l3 l4 s0 s1 T = some r) : mm_L 63 51 [.ref l0, .int xl1, .ref l2, .int xl3, .int xl4] [.int xs0, .int xs1] (toS z T) = some (tR z r) := by
  unfold F63_51 at h
  refine Eq.trans (e63_51 ..) ?_
  exact (fb_K2i (fun _ q => GM101 _ _ hs1 _ _ hs0 q) h (fun v0 T1 h2 => G63_54  _ _ _ hl1 _ _ _ hl3 _ _ hl4 _ _ rfl h2))
noncomputable def F63_48  (l0 : Nat) (l1 : Nat) (l2 : Nat) (l3 : Nat) (l4 : Nat) (s0 : Nat) (s1 : Nat) (T : fS) : Option fR := (fbn (flz T s0) (fun v0 => F63_51  l0 l1 l2 l3 l4 v0 s1 T))
theorem G63_48 {z : Option mm_O} {T : fS} {r : fR}  (l0 : Nat) (xl1 : Int32) (l1 : Nat) (hl1 : xl1 = nI l1) (l2 : Nat) (xl3 : Int32) (l3 : Nat) (hl3 : xl3 = nI l3) (xl4 : Int32) (l4 : Nat) (hl4 : xl4 = nI l4) (s0 : Nat) (xs1 : Int32) (s1 : Nat) (hs1 : xs1 = nI s1) (h : F63_48  l0 l1 l2 l3 l4 s0 s1 T = some r) : mm_L 63 48 [.ref l0, .int xl1, .ref l2, .int xl3, .int xl4] [.ref s0, .int xs1] (toS z T) = some (tR z r) := by
  unfold F63_48 at h
  refine Eq.trans (e63_48 ..) ?_
  exact (fb_n (fun _ q => flz_ok q) h (fun v0 h2 => G63_51  _ _ _ hl1 _ _ _ hl3 _ _ hl4 _ _ rfl _ _ hs1 h2))
noncomputable def F63_40  (l0 : Nat) (l1 : Nat) (l2 : Nat) (l3 : Nat) (s0 : Nat) (T : fS) : Option fR := (fbv (fgr T l0 6 1) (fun v0 => F63_48  l0 l1 l2 l3 s0 v0 s0 T) ((none : Option fR)))
theorem G63_40 {z : Option mm_O} {T : fS} {r : fR}  (l0 : Nat) (xl1 : Int32) (l1 : Nat) (hl1 : xl1 = nI l1) (l2 : Nat) (xl3 : Int32) (l3 : Nat) (hl3 : xl3 = nI l3) (ul4 : Value) (xs0 : Int32) (s0 : Nat) (hs0 : xs0 = nI s0) (h : F63_40  l0 l1 l2 l3 s0 T = some r) : mm_L 63 40 [.ref l0, .int xl1, .ref l2, .int xl3, ul4] [.int xs0] (toS z T) = some (tR z r) := by
  unfold F63_40 at h
  refine Eq.trans (e63_40 ..) ?_
  exact (fb_v (fun _ q => fgr_ok q) h (fun v0 h2 => G63_48  _ _ _ hl1 _ _ _ hl3 _ _ hs0 _ _ _ hs0 h2) (fun h2 => fr_n h2))
noncomputable def F63_31  (l0 : Nat) (l1 : Nat) (l2 : Nat) (l3 : Nat) (T : fS) : Option fR := (F63_40  l0 l1 l2 l3 (iS l1 1) T)
theorem G63_31 {z : Option mm_O} {T : fS} {r : fR}  (l0 : Nat) (xl1 : Int32) (l1 : Nat) (hl1 : xl1 = nI l1) (l2 : Nat) (xl3 : Int32) (l3 : Nat) (hl3 : xl3 = nI l3) (ul4 : Value) (h : F63_31  l0 l1 l2 l3 T = some r) : mm_L 63 31 [.ref l0, .int xl1, .ref l2, .int xl3, ul4] [] (toS z T) = some (tR z r) := by
  unfold F63_31 at h
  refine Eq.trans (e63_31 ..) ?_
  exact (G63_40  _ _ _ hl1 _ _ _ hl3 _ _ _ (iS_ok hl1 (rfl : (1 : Int32) = nI 1)) h)
noncomputable def F63_37  (l0 : Nat) (l1 : Nat) (l2 : Nat) (l3 : Nat) (T : fS) : Option fR := (F63_40  l0 l1 l2 l3 (iA l1 1) T)
theorem G63_37 {z : Option mm_O} {T : fS} {r : fR}  (l0 : Nat) (xl1 : Int32) (l1 : Nat) (hl1 : xl1 = nI l1) (l2 : Nat) (xl3 : Int32) (l3 : Nat) (hl3 : xl3 = nI l3) (ul4 : Value) (h : F63_37  l0 l1 l2 l3 T = some r) : mm_L 63 37 [.ref l0, .int xl1, .ref l2, .int xl3, ul4] [] (toS z T) = some (tR z r) := by
  unfold F63_37 at h
  refine Eq.trans (e63_37 ..) ?_
  exact (G63_40  _ _ _ hl1 _ _ _ hl3 _ _ _ (iA_ok hl1 (rfl : (1 : Int32) = nI 1)) h)
noncomputable def F63_26  (l0 : Nat) (l1 : Nat) (l2 : Nat) (s0 : Nat) (T : fS) : Option fR := (fif (ieq s0 0) (F63_37  l0 l1 l2 s0 T) (F63_31  l0 l1 l2 s0 T))
theorem G63_26 {z : Option mm_O} {T : fS} {r : fR}  (l0 : Nat) (xl1 : Int32) (l1 : Nat) (hl1 : xl1 = nI l1) (l2 : Nat) (ul3 : Value) (ul4 : Value) (xs0 : Int32) (s0 : Nat) (hs0 : xs0 = nI s0) (h : F63_26  l0 l1 l2 s0 T = some r) : mm_L 63 26 [.ref l0, .int xl1, .ref l2, ul3, ul4] [.int xs0] (toS z T) = some (tR z r) := by
  unfold F63_26 at h
  refine Eq.trans (e63_26 ..) ?_
  exact (fb_if (cj_eq hs0 (rfl : (0 : Int32) = nI 0)) h (fun h1 => (G63_37  _ _ _ hl1 _ _ _ hs0 _ h1)) (fun h1 => (G63_31  _ _ _ hl1 _ _ _ hs0 _ h1)))
noncomputable def F63_21  (l0 : Nat) (l1 : Nat) (l2 : Nat) (T : fS) : Option fR := (F63_26  l0 l1 l2 1 T)
theorem G63_21 {z : Option mm_O} {T : fS} {r : fR}  (l0 : Nat) (xl1 : Int32) (l1 : Nat) (hl1 : xl1 = nI l1) (l2 : Nat) (ul3 : Value) (ul4 : Value) (h : F63_21  l0 l1 l2 T = some r) : mm_L 63 21 [.ref l0, .int xl1, .ref l2, ul3, ul4] [] (toS z T) = some (tR z r) := by
  unfold F63_21 at h
  refine Eq.trans (e63_21 ..) ?_
  exact (G63_26  _ _ _ hl1 _ _ _ _ _ (rfl : (1 : Int32) = nI 1) h)
noncomputable def F63_25  (l0 : Nat) (l1 : Nat) (l2 : Nat) (T : fS) : Option fR := (F63_26  l0 l1 l2 0 T)
theorem G63_25 {z : Option mm_O} {T : fS} {r : fR}  (l0 : Nat) (xl1 : Int32) (l1 : Nat) (hl1 : xl1 = nI l1) (l2 : Nat) (ul3 : Value) (ul4 : Value) (h : F63_25  l0 l1 l2 T = some r) : mm_L 63 25 [.ref l0, .int xl1, .ref l2, ul3, ul4] [] (toS z T) = some (tR z r) := by
  unfold F63_25 at h
  refine Eq.trans (e63_25 ..) ?_
  exact (G63_26  _ _ _ hl1 _ _ _ _ _ (rfl : (0 : Int32) = nI 0) h)
noncomputable def F63_18  (l0 : Nat) (l1 : Nat) (l2 : Nat) (s0 : Nat) (s1 : Nat) (T : fS) : Option fR := (fif (ilt s1 s0) (F63_25  l0 l1 l2 T) (F63_21  l0 l1 l2 T))
theorem G63_18 {z : Option mm_O} {T : fS} {r : fR}  (l0 : Nat) (xl1 : Int32) (l1 : Nat) (hl1 : xl1 = nI l1) (l2 : Nat) (ul3 : Value) (ul4 : Value) (xs0 : Int32) (s0 : Nat) (hs0 : xs0 = nI s0) (xs1 : Int32) (s1 : Nat) (hs1 : xs1 = nI s1) (h : F63_18  l0 l1 l2 s0 s1 T = some r) : mm_L 63 18 [.ref l0, .int xl1, .ref l2, ul3, ul4] [.int xs0, .int xs1] (toS z T) = some (tR z r) := by
  unfold F63_18 at h
  refine Eq.trans (e63_18 ..) ?_
  exact (fb_if (cj_lt hs1 hs0) h (fun h1 => (G63_25  _ _ _ hl1 _ _ _ h1)) (fun h1 => (G63_21  _ _ _ hl1 _ _ _ h1)))
noncomputable def F63_15  (l0 : Nat) (l1 : Nat) (l2 : Nat) (s0 : Nat) (s1 : Nat) (T : fS) : Option fR := (fbn (flz T s0) (fun v0 => F63_18  l0 l1 l2 v0 s1 T))
theorem G63_15 {z : Option mm_O} {T : fS} {r : fR}  (l0 : Nat) (xl1 : Int32) (l1 : Nat) (hl1 : xl1 = nI l1) (l2 : Nat) (ul3 : Value) (ul4 : Value) (s0 : Nat) (xs1 : Int32) (s1 : Nat) (hs1 : xs1 = nI s1) (h : F63_15  l0 l1 l2 s0 s1 T = some r) : mm_L 63 15 [.ref l0, .int xl1, .ref l2, ul3, ul4] [.ref s0, .int xs1] (toS z T) = some (tR z r) := by
  unfold F63_15 at h
  refine Eq.trans (e63_15 ..) ?_
  exact (fb_n (fun _ q => flz_ok q) h (fun v0 h2 => G63_18  _ _ _ hl1 _ _ _ _ _ rfl _ _ hs1 h2))
noncomputable def F63_8  (l0 : Nat) (l1 : Nat) (l2 : Nat) (T : fS) : Option fR := (fbv (fgr T l0 6 1) (fun v0 => F63_15  l0 l1 l2 v0 (iA l1 1) T) ((none : Option fR)))
theorem G63_8 {z : Option mm_O} {T : fS} {r : fR}  (l0 : Nat) (xl1 : Int32) (l1 : Nat) (hl1 : xl1 = nI l1) (l2 : Nat) (ul3 : Value) (ul4 : Value) (h : F63_8  l0 l1 l2 T = some r) : mm_L 63 8 [.ref l0, .int xl1, .ref l2, ul3, ul4] [] (toS z T) = some (tR z r) := by
  unfold F63_8 at h
  refine Eq.trans (e63_8 ..) ?_
  exact (fb_v (fun _ q => fgr_ok q) h (fun v0 h2 => G63_15  _ _ _ hl1 _ _ _ _ _ _ (iA_ok hl1 (rfl : (1 : Int32) = nI 1)) h2) (fun h2 => fr_n h2))
noncomputable def F63_4  (l0 : Nat) (l1 : Nat) (l2 : Nat) (s0 : Nat) (T : fS) : Option fR := (fif (ieq s0 0) (F63_7  l0 l1 l2 T) (F63_8  l0 l1 l2 T))
theorem G63_4 {z : Option mm_O} {T : fS} {r : fR}  (l0 : Nat) (xl1 : Int32) (l1 : Nat) (hl1 : xl1 = nI l1) (l2 : Nat) (ul3 : Value) (ul4 : Value) (xs0 : Int32) (s0 : Nat) (hs0 : xs0 = nI s0) (h : F63_4  l0 l1 l2 s0 T = some r) : mm_L 63 4 [.ref l0, .int xl1, .ref l2, ul3, ul4] [.int xs0] (toS z T) = some (tR z r) := by
  unfold F63_4 at h
  refine Eq.trans (e63_4 ..) ?_
  exact (fb_if (cj_eq hs0 (rfl : (0 : Int32) = nI 0)) h (fun h1 => (G63_7  _ _ _ hl1 _ _ _ h1)) (fun h1 => (G63_8  _ _ _ hl1 _ _ _ h1)))
noncomputable def F63_0  (l0 : Nat) (l1 : Nat) (l2 : Nat) (T : fS) : Option fR := (fKi true (fif (fch T l2 2) (F13_0 l2  T) none) (fun v0 T1 => F63_4  l0 l1 l2 v0 T1))
theorem G63_0 {z : Option mm_O} {T : fS} {r : fR}  (l0 : Nat) (xl1 : Int32) (l1 : Nat) (hl1 : xl1 = nI l1) (l2 : Nat) (ul3 : Value) (ul4 : Value) (h : F63_0  l0 l1 l2 T = some r) : mm_L 63 0 [.ref l0, .int xl1, .ref l2, ul3, ul4] [] (toS z T) = some (tR z r) := by
  unfold F63_0 at h
  refine Eq.trans (e63_0 ..) ?_
  exact (fb_K0i (fun _ q => fb_mo (y := 13) ow_13 q (fun q => GM13 _  q)) h (fun v0 T1 h2 => G63_4  _ _ _ hl1 _ _ _ _ _ rfl h2))
theorem GM63 {z : Option mm_O} {T : fS} {r : fR} (l0 : Nat) (xl1 : Int32) (l1 : Nat) (hl1 : xl1 = nI l1) (l2 : Nat) (h : F63_0 l0 l1 l2 T = some r) : mm_M 63 [.ref l0, .int xl1, .ref l2] (toS z T) = some (tR z r) := Eq.trans (M_63 ..) (G63_0 l0 xl1 l1 hl1 l2 _ _ h)
