-- 21: HandArchive$Rule.toggleException
noncomputable def F21_37  (l0 : Nat) (l1 : Nat) (s0 : Nat) (T : fS) : Option fR := (fif (Bool.rec (motive := fun _ => Bool) (ieq s0 1) true (ieq s0 0)) (some ((.inl (some (.inl s0)), T) : fR)) (none : Option fR))
theorem G21_37 {z : Option mm_O} {T : fS} {r : fR}  (l0 : Nat) (xl1 : Int32) (l1 : Nat) (hl1 : xl1 = nI l1) (xs0 : Int32) (s0 : Nat) (hs0 : xs0 = nI s0) (h : F21_37  l0 l1 s0 T = some r) : mm_L 21 37 [.ref l0, .int xl1] [.int xs0] (toS z T) = some (tR z r) := by
  unfold F21_37 at h
  refine Eq.trans (e21_37 ..) ?_
  exact (fb_if (cj_01 hs0) h (fun h1 => (fr_i hs0 h1)) (fun h1 => (fr_n h1)))
noncomputable def F21_32  (l0 : Nat) (l1 : Nat) (T : fS) : Option fR := (fKi true (fif (fch T l0 4) (F20_0 l0 l1 T) none) (fun v0 T1 => F21_37  l0 l1 v0 T1))
theorem G21_32 {z : Option mm_O} {T : fS} {r : fR}  (l0 : Nat) (xl1 : Int32) (l1 : Nat) (hl1 : xl1 = nI l1) (h : F21_32  l0 l1 T = some r) : mm_L 21 32 [.ref l0, .int xl1] [] (toS z T) = some (tR z r) := by
  unfold F21_32 at h
  refine Eq.trans (e21_32 ..) ?_
  exact (fb_K0i (fun _ q => fb_mo (y := 20) ow_20 q (fun q => GM20 _ _ _ hl1 q)) h (fun v0 T1 h2 => G21_37  _ _ _ hl1 _ _ rfl h2))
noncomputable def F21_31  (l0 : Nat) (l1 : Nat) (s0 : Nat) (s1 : Nat) (s2 : Nat) (T : fS) : Option fR := (fbs (fif (Bool.rec (motive := fun _ => Bool) (ieq s0 1) true (ieq s0 0)) (fas T s2 s1 1 s0) none) (fun T1 => F21_32  l0 l1 T1))
theorem G21_31 {z : Option mm_O} {T : fS} {r : fR}  (l0 : Nat) (xl1 : Int32) (l1 : Nat) (hl1 : xl1 = nI l1) (xs0 : Int32) (s0 : Nat) (hs0 : xs0 = nI s0) (xs1 : Int32) (s1 : Nat) (hs1 : xs1 = nI s1) (s2 : Nat) (h : F21_31  l0 l1 s0 s1 s2 T = some r) : mm_L 21 31 [.ref l0, .int xl1] [.int xs0, .int xs1, .ref s2] (toS z T) = some (tR z r) := by
  unfold F21_31 at h
  refine Eq.trans (e21_31 ..) ?_
  exact (fb_s (fun _ q => fs_01 hs0 (fun q => by rw [show (xs1 : Int32) = nI s1 from hs1, show (xs0 : Int32) = nI s0 from hs0]; exact fas_ok q) q) h (fun T1 h2 => G21_32  _ _ _ hl1 h2))
noncomputable def F21_26  (l0 : Nat) (l1 : Nat) (s0 : Nat) (s1 : Nat) (T : fS) : Option fR := (F21_31  l0 l1 1 s0 s1 T)
theorem G21_26 {z : Option mm_O} {T : fS} {r : fR}  (l0 : Nat) (xl1 : Int32) (l1 : Nat) (hl1 : xl1 = nI l1) (xs0 : Int32) (s0 : Nat) (hs0 : xs0 = nI s0) (s1 : Nat) (h : F21_26  l0 l1 s0 s1 T = some r) : mm_L 21 26 [.ref l0, .int xl1] [.int xs0, .ref s1] (toS z T) = some (tR z r) := by
  unfold F21_26 at h
  refine Eq.trans (e21_26 ..) ?_
  exact (G21_31  _ _ _ hl1 _ _ (rfl : (1 : Int32) = nI 1) _ _ hs0 _ h)
noncomputable def F21_30  (l0 : Nat) (l1 : Nat) (s0 : Nat) (s1 : Nat) (T : fS) : Option fR := (F21_31  l0 l1 0 s0 s1 T)
theorem G21_30 {z : Option mm_O} {T : fS} {r : fR}  (l0 : Nat) (xl1 : Int32) (l1 : Nat) (hl1 : xl1 = nI l1) (xs0 : Int32) (s0 : Nat) (hs0 : xs0 = nI s0) (s1 : Nat) (h : F21_30  l0 l1 s0 s1 T = some r) : mm_L 21 30 [.ref l0, .int xl1] [.int xs0, .ref s1] (toS z T) = some (tR z r) := by
  unfold F21_30 at h
  refine Eq.trans (e21_30 ..) ?_
  exact (G21_31  _ _ _ hl1 _ _ (rfl : (0 : Int32) = nI 0) _ _ hs0 _ h)
noncomputable def F21_23  (l0 : Nat) (l1 : Nat) (s0 : Nat) (s1 : Nat) (s2 : Nat) (T : fS) : Option fR := (fif (ieq s0 0) (F21_26  l0 l1 s1 s2 T) (F21_30  l0 l1 s1 s2 T))
theorem G21_23 {z : Option mm_O} {T : fS} {r : fR}  (l0 : Nat) (xl1 : Int32) (l1 : Nat) (hl1 : xl1 = nI l1) (xs0 : Int32) (s0 : Nat) (hs0 : xs0 = nI s0) (xs1 : Int32) (s1 : Nat) (hs1 : xs1 = nI s1) (s2 : Nat) (h : F21_23  l0 l1 s0 s1 s2 T = some r) : mm_L 21 23 [.ref l0, .int xl1] [.int xs0, .int xs1, .ref s2] (toS z T) = some (tR z r) := by
  unfold F21_23 at h
  refine Eq.trans (e21_23 ..) ?_
  exact (fb_if (cj_eq hs0 (rfl : (0 : Int32) = nI 0)) h (fun h1 => (G21_26  _ _ _ hl1 _ _ hs1 _ h1)) (fun h1 => (G21_30  _ _ _ hl1 _ _ hs1 _ h1)))
noncomputable def F21_21  (l0 : Nat) (l1 : Nat) (s0 : Nat) (s1 : Nat) (s2 : Nat) (T : fS) : Option fR := (fbn (fal T s0 l1 true) (fun v0 => F21_23  l0 l1 v0 s1 s2 T))
theorem G21_21 {z : Option mm_O} {T : fS} {r : fR}  (l0 : Nat) (xl1 : Int32) (l1 : Nat) (hl1 : xl1 = nI l1) (s0 : Nat) (xs1 : Int32) (s1 : Nat) (hs1 : xs1 = nI s1) (s2 : Nat) (h : F21_21  l0 l1 s0 s1 s2 T = some r) : mm_L 21 21 [.ref l0, .int xl1] [.ref s0, .int xs1, .ref s2] (toS z T) = some (tR z r) := by
  unfold F21_21 at h
  refine Eq.trans (e21_21 ..) ?_
  exact (fb_n (fun _ q => by rw [hl1]; exact fal_ok q) h (fun v0 h2 => G21_23  _ _ _ hl1 _ _ rfl _ _ hs1 _ h2))
noncomputable def F21_16  (l0 : Nat) (l1 : Nat) (s0 : Nat) (T : fS) : Option fR := (fbv (fgr T l0 4 1) (fun v0 => F21_21  l0 l1 v0 l1 s0 T) ((none : Option fR)))
theorem G21_16 {z : Option mm_O} {T : fS} {r : fR}  (l0 : Nat) (xl1 : Int32) (l1 : Nat) (hl1 : xl1 = nI l1) (s0 : Nat) (h : F21_16  l0 l1 s0 T = some r) : mm_L 21 16 [.ref l0, .int xl1] [.ref s0] (toS z T) = some (tR z r) := by
  unfold F21_16 at h
  refine Eq.trans (e21_16 ..) ?_
  exact (fb_v (fun _ q => fgr_ok q) h (fun v0 h2 => G21_21  _ _ _ hl1 _ _ _ hl1 _ h2) (fun h2 => fr_n h2))
noncomputable def F21_12  (l0 : Nat) (l1 : Nat) (T : fS) : Option fR := (fbv (fgr T l0 4 1) (fun v0 => F21_16  l0 l1 v0 T) ((none : Option fR)))
theorem G21_12 {z : Option mm_O} {T : fS} {r : fR}  (l0 : Nat) (xl1 : Int32) (l1 : Nat) (hl1 : xl1 = nI l1) (h : F21_12  l0 l1 T = some r) : mm_L 21 12 [.ref l0, .int xl1] [] (toS z T) = some (tR z r) := by
  unfold F21_12 at h
  refine Eq.trans (e21_12 ..) ?_
  exact (fb_v (fun _ q => fgr_ok q) h (fun v0 h2 => G21_16  _ _ _ hl1 _ h2) (fun h2 => fr_n h2))
noncomputable def F21_9  (l0 : Nat) (l1 : Nat) (s0 : Nat) (T : fS) : Option fR := (fif (ieq s0 0) (F21_32  l0 l1 T) (F21_12  l0 l1 T))
theorem G21_9 {z : Option mm_O} {T : fS} {r : fR}  (l0 : Nat) (xl1 : Int32) (l1 : Nat) (hl1 : xl1 = nI l1) (xs0 : Int32) (s0 : Nat) (hs0 : xs0 = nI s0) (h : F21_9  l0 l1 s0 T = some r) : mm_L 21 9 [.ref l0, .int xl1] [.int xs0] (toS z T) = some (tR z r) := by
  unfold F21_9 at h
  refine Eq.trans (e21_9 ..) ?_
  exact (fb_if (cj_eq hs0 (rfl : (0 : Int32) = nI 0)) h (fun h1 => (G21_32  _ _ _ hl1 h1)) (fun h1 => (G21_12  _ _ _ hl1 h1)))
noncomputable def F21_6  (l0 : Nat) (l1 : Nat) (s0 : Nat) (s1 : Nat) (T : fS) : Option fR := (fKi false (F101_0 s1 s0 T) (fun v0 T1 => F21_9  l0 l1 v0 T1))
theorem G21_6 {z : Option mm_O} {T : fS} {r : fR}  (l0 : Nat) (xl1 : Int32) (l1 : Nat) (hl1 : xl1 = nI l1) (xs0 : Int32) (s0 : Nat) (hs0 : xs0 = nI s0) (xs1 : Int32) (s1 : Nat) (hs1 : xs1 = nI s1) (h : F21_6  l0 l1 s0 s1 T = some r) : mm_L 21 6 [.ref l0, .int xl1] [.int xs0, .int xs1] (toS z T) = some (tR z r) := by
  unfold F21_6 at h
  refine Eq.trans (e21_6 ..) ?_
  exact (fb_K2i (fun _ q => GM101 _ _ hs1 _ _ hs0 q) h (fun v0 T1 h2 => G21_9  _ _ _ hl1 _ _ rfl h2))
noncomputable def F21_5  (l0 : Nat) (l1 : Nat) (s0 : Nat) (s1 : Nat) (T : fS) : Option fR := (fbn (fln T s0) (fun v0 => F21_6  l0 l1 v0 s1 T))
theorem G21_5 {z : Option mm_O} {T : fS} {r : fR}  (l0 : Nat) (xl1 : Int32) (l1 : Nat) (hl1 : xl1 = nI l1) (s0 : Nat) (xs1 : Int32) (s1 : Nat) (hs1 : xs1 = nI s1) (h : F21_5  l0 l1 s0 s1 T = some r) : mm_L 21 5 [.ref l0, .int xl1] [.ref s0, .int xs1] (toS z T) = some (tR z r) := by
  unfold F21_5 at h
  refine Eq.trans (e21_5 ..) ?_
  exact (fb_n (fun _ q => fln_ok q) h (fun v0 h2 => G21_6  _ _ _ hl1 _ _ rfl _ _ hs1 h2))
noncomputable def F21_0  (l0 : Nat) (l1 : Nat) (T : fS) : Option fR := (fbv (fgr T l0 4 1) (fun v0 => F21_5  l0 l1 v0 l1 T) ((none : Option fR)))
theorem G21_0 {z : Option mm_O} {T : fS} {r : fR}  (l0 : Nat) (xl1 : Int32) (l1 : Nat) (hl1 : xl1 = nI l1) (h : F21_0  l0 l1 T = some r) : mm_L 21 0 [.ref l0, .int xl1] [] (toS z T) = some (tR z r) := by
  unfold F21_0 at h
  refine Eq.trans (e21_0 ..) ?_
  exact (fb_v (fun _ q => fgr_ok q) h (fun v0 h2 => G21_5  _ _ _ hl1 _ _ _ hl1 h2) (fun h2 => fr_n h2))
theorem GM21 {z : Option mm_O} {T : fS} {r : fR} (l0 : Nat) (xl1 : Int32) (l1 : Nat) (hl1 : xl1 = nI l1) (h : F21_0 l0 l1 T = some r) : mm_M 21 [.ref l0, .int xl1] (toS z T) = some (tR z r) := Eq.trans (M_21 ..) (G21_0 l0 xl1 l1 hl1 h)
-- 41: HandArchive.hasSignAndLoci
noncomputable def F41_41  (l0 : Nat) (l1 : Nat) (l2 : Nat) (l3 : Nat) (l4 : Nat) (s0 : Nat) (T : fS) : Option fR := (fif (Bool.rec (motive := fun _ => Bool) (ieq s0 1) true (ieq s0 0)) (some ((.inl (some (.inl s0)), T) : fR)) (none : Option fR))
theorem G41_41 {z : Option mm_O} {T : fS} {r : fR}  (l0 : Nat) (xl1 : Int32) (l1 : Nat) (hl1 : xl1 = nI l1) (xl2 : Int32) (l2 : Nat) (hl2 : xl2 = nI l2) (xl3 : Int32) (l3 : Nat) (hl3 : xl3 = nI l3) (xl4 : Int32) (l4 : Nat) (hl4 : xl4 = nI l4) (xs0 : Int32) (s0 : Nat) (hs0 : xs0 = nI s0) (h : F41_41  l0 l1 l2 l3 l4 s0 T = some r) : mm_L 41 41 [.ref l0, .int xl1, .int xl2, .int xl3, .int xl4] [.int xs0] (toS z T) = some (tR z r) := by
  unfold F41_41 at h
  refine Eq.trans (e41_41 ..) ?_
  exact (fb_if (cj_01 hs0) h (fun h1 => (fr_i hs0 h1)) (fun h1 => (fr_n h1)))
noncomputable def F41_36  (l0 : Nat) (l1 : Nat) (l2 : Nat) (l3 : Nat) (l4 : Nat) (T : fS) : Option fR := (fKi true (fif (fch T l0 6) (F33_0 l0 l2 T) none) (fun v0 T1 => F41_41  l0 l1 l2 l3 l4 v0 T1))
theorem G41_36 {z : Option mm_O} {T : fS} {r : fR}  (l0 : Nat) (xl1 : Int32) (l1 : Nat) (hl1 : xl1 = nI l1) (xl2 : Int32) (l2 : Nat) (hl2 : xl2 = nI l2) (xl3 : Int32) (l3 : Nat) (hl3 : xl3 = nI l3) (xl4 : Int32) (l4 : Nat) (hl4 : xl4 = nI l4) (h : F41_36  l0 l1 l2 l3 l4 T = some r) : mm_L 41 36 [.ref l0, .int xl1, .int xl2, .int xl3, .int xl4] [] (toS z T) = some (tR z r) := by
  unfold F41_36 at h
  refine Eq.trans (e41_36 ..) ?_
  exact (fb_K0i (fun _ q => fb_mo (y := 33) ow_33 q (fun q => GM33 _ _ _ hl2 q)) h (fun v0 T1 h2 => G41_41  _ _ _ hl1 _ _ hl2 _ _ hl3 _ _ hl4 _ _ rfl h2))
noncomputable def F41_46  (l0 : Nat) (l1 : Nat) (l2 : Nat) (l3 : Nat) (l4 : Nat) (s0 : Nat) (T : fS) : Option fR := (fif (Bool.rec (motive := fun _ => Bool) (ieq s0 1) true (ieq s0 0)) (some ((.inl (some (.inl s0)), T) : fR)) (none : Option fR))
theorem G41_46 {z : Option mm_O} {T : fS} {r : fR}  (l0 : Nat) (xl1 : Int32) (l1 : Nat) (hl1 : xl1 = nI l1) (xl2 : Int32) (l2 : Nat) (hl2 : xl2 = nI l2) (xl3 : Int32) (l3 : Nat) (hl3 : xl3 = nI l3) (xl4 : Int32) (l4 : Nat) (hl4 : xl4 = nI l4) (xs0 : Int32) (s0 : Nat) (hs0 : xs0 = nI s0) (h : F41_46  l0 l1 l2 l3 l4 s0 T = some r) : mm_L 41 46 [.ref l0, .int xl1, .int xl2, .int xl3, .int xl4] [.int xs0] (toS z T) = some (tR z r) := by
  unfold F41_46 at h
  refine Eq.trans (e41_46 ..) ?_
  exact (fb_if (cj_01 hs0) h (fun h1 => (fr_i hs0 h1)) (fun h1 => (fr_n h1)))
noncomputable def F41_42  (l0 : Nat) (l1 : Nat) (l2 : Nat) (l3 : Nat) (l4 : Nat) (T : fS) : Option fR := (fKi true (F54_0 l2 T) (fun v0 T1 => F41_46  l0 l1 l2 l3 l4 v0 T1))
theorem G41_42 {z : Option mm_O} {T : fS} {r : fR}  (l0 : Nat) (xl1 : Int32) (l1 : Nat) (hl1 : xl1 = nI l1) (xl2 : Int32) (l2 : Nat) (hl2 : xl2 = nI l2) (xl3 : Int32) (l3 : Nat) (hl3 : xl3 = nI l3) (xl4 : Int32) (l4 : Nat) (hl4 : xl4 = nI l4) (h : F41_42  l0 l1 l2 l3 l4 T = some r) : mm_L 41 42 [.ref l0, .int xl1, .int xl2, .int xl3, .int xl4] [] (toS z T) = some (tR z r) := by
  unfold F41_42 at h
  refine Eq.trans (e41_42 ..) ?_
  exact (fb_K0i (fun _ q => GM54 _ _ hl2 q) h (fun v0 T1 h2 => G41_46  _ _ _ hl1 _ _ hl2 _ _ hl3 _ _ hl4 _ _ rfl h2))
noncomputable def F41_75  (l0 : Nat) (l1 : Nat) (l2 : Nat) (l3 : Nat) (l4 : Nat) (s0 : Nat) (T : fS) : Option fR := (fif (Bool.rec (motive := fun _ => Bool) (ieq s0 1) true (ieq s0 0)) (some ((.inl (some (.inl s0)), T) : fR)) (none : Option fR))
theorem G41_75 {z : Option mm_O} {T : fS} {r : fR}  (l0 : Nat) (xl1 : Int32) (l1 : Nat) (hl1 : xl1 = nI l1) (xl2 : Int32) (l2 : Nat) (hl2 : xl2 = nI l2) (xl3 : Int32) (l3 : Nat) (hl3 : xl3 = nI l3) (xl4 : Int32) (l4 : Nat) (hl4 : xl4 = nI l4) (xs0 : Int32) (s0 : Nat) (hs0 : xs0 = nI s0) (h : F41_75  l0 l1 l2 l3 l4 s0 T = some r) : mm_L 41 75 [.ref l0, .int xl1, .int xl2, .int xl3, .int xl4] [.int xs0] (toS z T) = some (tR z r) := by
  unfold F41_75 at h
  refine Eq.trans (e41_75 ..) ?_
  exact (fb_if (cj_01 hs0) h (fun h1 => (fr_i hs0 h1)) (fun h1 => (fr_n h1)))
noncomputable def F41_70  (l0 : Nat) (l1 : Nat) (l2 : Nat) (l3 : Nat) (l4 : Nat) (T : fS) : Option fR := (F41_75  l0 l1 l2 l3 l4 1 T)
theorem G41_70 {z : Option mm_O} {T : fS} {r : fR}  (l0 : Nat) (xl1 : Int32) (l1 : Nat) (hl1 : xl1 = nI l1) (xl2 : Int32) (l2 : Nat) (hl2 : xl2 = nI l2) (xl3 : Int32) (l3 : Nat) (hl3 : xl3 = nI l3) (xl4 : Int32) (l4 : Nat) (hl4 : xl4 = nI l4) (h : F41_70  l0 l1 l2 l3 l4 T = some r) : mm_L 41 70 [.ref l0, .int xl1, .int xl2, .int xl3, .int xl4] [] (toS z T) = some (tR z r) := by
  unfold F41_70 at h
  refine Eq.trans (e41_70 ..) ?_
  exact (G41_75  _ _ _ hl1 _ _ hl2 _ _ hl3 _ _ hl4 _ _ (rfl : (1 : Int32) = nI 1) h)
noncomputable def F41_74  (l0 : Nat) (l1 : Nat) (l2 : Nat) (l3 : Nat) (l4 : Nat) (T : fS) : Option fR := (F41_75  l0 l1 l2 l3 l4 0 T)
theorem G41_74 {z : Option mm_O} {T : fS} {r : fR}  (l0 : Nat) (xl1 : Int32) (l1 : Nat) (hl1 : xl1 = nI l1) (xl2 : Int32) (l2 : Nat) (hl2 : xl2 = nI l2) (xl3 : Int32) (l3 : Nat) (hl3 : xl3 = nI l3) (xl4 : Int32) (l4 : Nat) (hl4 : xl4 = nI l4) (h : F41_74  l0 l1 l2 l3 l4 T = some r) : mm_L 41 74 [.ref l0, .int xl1, .int xl2, .int xl3, .int xl4] [] (toS z T) = some (tR z r) := by
  unfold F41_74 at h
  refine Eq.trans (e41_74 ..) ?_
  exact (G41_75  _ _ _ hl1 _ _ hl2 _ _ hl3 _ _ hl4 _ _ (rfl : (0 : Int32) = nI 0) h)
noncomputable def F41_67  (l0 : Nat) (l1 : Nat) (l2 : Nat) (l3 : Nat) (l4 : Nat) (s0 : Nat) (T : fS) : Option fR := (fif (ieq s0 0) (F41_74  l0 l1 l2 l3 l4 T) (F41_70  l0 l1 l2 l3 l4 T))
theorem G41_67 {z : Option mm_O} {T : fS} {r : fR}  (l0 : Nat) (xl1 : Int32) (l1 : Nat) (hl1 : xl1 = nI l1) (xl2 : Int32) (l2 : Nat) (hl2 : xl2 = nI l2) (xl3 : Int32) (l3 : Nat) (hl3 : xl3 = nI l3) (xl4 : Int32) (l4 : Nat) (hl4 : xl4 = nI l4) (xs0 : Int32) (s0 : Nat) (hs0 : xs0 = nI s0) (h : F41_67  l0 l1 l2 l3 l4 s0 T = some r) : mm_L 41 67 [.ref l0, .int xl1, .int xl2, .int xl3, .int xl4] [.int xs0] (toS z T) = some (tR z r) := by
  unfold F41_67 at h
  refine Eq.trans (e41_67 ..) ?_
  exact (fb_if (cj_eq hs0 (rfl : (0 : Int32) = nI 0)) h (fun h1 => (G41_74  _ _ _ hl1 _ _ hl2 _ _ hl3 _ _ hl4 h1)) (fun h1 => (G41_70  _ _ _ hl1 _ _ hl2 _ _ hl3 _ _ hl4 h1)))
noncomputable def F41_62  (l0 : Nat) (l1 : Nat) (l2 : Nat) (l3 : Nat) (l4 : Nat) (T : fS) : Option fR := (fKi true (F54_0 l4 T) (fun v0 T1 => F41_67  l0 l1 l2 l3 l4 v0 T1))
theorem G41_62 {z : Option mm_O} {T : fS} {r : fR}  (l0 : Nat) (xl1 : Int32) (l1 : Nat) (hl1 : xl1 = nI l1) (xl2 : Int32) (l2 : Nat) (hl2 : xl2 = nI l2) (xl3 : Int32) (l3 : Nat) (hl3 : xl3 = nI l3) (xl4 : Int32) (l4 : Nat) (hl4 : xl4 = nI l4) (h : F41_62  l0 l1 l2 l3 l4 T = some r) : mm_L 41 62 [.ref l0, .int xl1, .int xl2, .int xl3, .int xl4] [] (toS z T) = some (tR z r) := by
  unfold F41_62 at h
  refine Eq.trans (e41_62 ..) ?_
  exact (fb_K0i (fun _ q => GM54 _ _ hl4 q) h (fun v0 T1 h2 => G41_67  _ _ _ hl1 _ _ hl2 _ _ hl3 _ _ hl4 _ _ rfl h2))
noncomputable def F41_59  (l0 : Nat) (l1 : Nat) (l2 : Nat) (l3 : Nat) (l4 : Nat) (s0 : Nat) (T : fS) : Option fR := (fif (ieq s0 0) (F41_74  l0 l1 l2 l3 l4 T) (F41_62  l0 l1 l2 l3 l4 T))
theorem G41_59 {z : Option mm_O} {T : fS} {r : fR}  (l0 : Nat) (xl1 : Int32) (l1 : Nat) (hl1 : xl1 = nI l1) (xl2 : Int32) (l2 : Nat) (hl2 : xl2 = nI l2) (xl3 : Int32) (l3 : Nat) (hl3 : xl3 = nI l3) (xl4 : Int32) (l4 : Nat) (hl4 : xl4 = nI l4) (xs0 : Int32) (s0 : Nat) (hs0 : xs0 = nI s0) (h : F41_59  l0 l1 l2 l3 l4 s0 T = some r) : mm_L 41 59 [.ref l0, .int xl1, .int xl2, .int xl3, .int xl4] [.int xs0] (toS z T) = some (tR z r) := by
  unfold F41_59 at h
  refine Eq.trans (e41_59 ..) ?_
  exact (fb_if (cj_eq hs0 (rfl : (0 : Int32) = nI 0)) h (fun h1 => (G41_74  _ _ _ hl1 _ _ hl2 _ _ hl3 _ _ hl4 h1)) (fun h1 => (G41_62  _ _ _ hl1 _ _ hl2 _ _ hl3 _ _ hl4 h1)))
noncomputable def F41_55  (l0 : Nat) (l1 : Nat) (l2 : Nat) (l3 : Nat) (l4 : Nat) (T : fS) : Option fR := (fKi true (F54_0 l3 T) (fun v0 T1 => F41_59  l0 l1 l2 l3 l4 v0 T1))
theorem G41_55 {z : Option mm_O} {T : fS} {r : fR}  (l0 : Nat) (xl1 : Int32) (l1 : Nat) (hl1 : xl1 = nI l1) (xl2 : Int32) (l2 : Nat) (hl2 : xl2 = nI l2) (xl3 : Int32) (l3 : Nat) (hl3 : xl3 = nI l3) (xl4 : Int32) (l4 : Nat) (hl4 : xl4 = nI l4) (h : F41_55  l0 l1 l2 l3 l4 T = some r) : mm_L 41 55 [.ref l0, .int xl1, .int xl2, .int xl3, .int xl4] [] (toS z T) = some (tR z r) := by
  unfold F41_55 at h
  refine Eq.trans (e41_55 ..) ?_
  exact (fb_K0i (fun _ q => GM54 _ _ hl3 q) h (fun v0 T1 h2 => G41_59  _ _ _ hl1 _ _ hl2 _ _ hl3 _ _ hl4 _ _ rfl h2))
noncomputable def F41_52  (l0 : Nat) (l1 : Nat) (l2 : Nat) (l3 : Nat) (l4 : Nat) (s0 : Nat) (T : fS) : Option fR := (fif (ieq s0 0) (F41_74  l0 l1 l2 l3 l4 T) (F41_55  l0 l1 l2 l3 l4 T))
theorem G41_52 {z : Option mm_O} {T : fS} {r : fR}  (l0 : Nat) (xl1 : Int32) (l1 : Nat) (hl1 : xl1 = nI l1) (xl2 : Int32) (l2 : Nat) (hl2 : xl2 = nI l2) (xl3 : Int32) (l3 : Nat) (hl3 : xl3 = nI l3) (xl4 : Int32) (l4 : Nat) (hl4 : xl4 = nI l4) (xs0 : Int32) (s0 : Nat) (hs0 : xs0 = nI s0) (h : F41_52  l0 l1 l2 l3 l4 s0 T = some r) : mm_L 41 52 [.ref l0, .int xl1, .int xl2, .int xl3, .int xl4] [.int xs0] (toS z T) = some (tR z r) := by
  unfold F41_52 at h
  refine Eq.trans (e41_52 ..) ?_
  exact (fb_if (cj_eq hs0 (rfl : (0 : Int32) = nI 0)) h (fun h1 => (G41_74  _ _ _ hl1 _ _ hl2 _ _ hl3 _ _ hl4 h1)) (fun h1 => (G41_55  _ _ _ hl1 _ _ hl2 _ _ hl3 _ _ hl4 h1)))
noncomputable def F41_47  (l0 : Nat) (l1 : Nat) (l2 : Nat) (l3 : Nat) (l4 : Nat) (T : fS) : Option fR := (fKi true (fif (fch T l0 6) (F33_0 l0 l2 T) none) (fun v0 T1 => F41_52  l0 l1 l2 l3 l4 v0 T1))
theorem G41_47 {z : Option mm_O} {T : fS} {r : fR}  (l0 : Nat) (xl1 : Int32) (l1 : Nat) (hl1 : xl1 = nI l1) (xl2 : Int32) (l2 : Nat) (hl2 : xl2 = nI l2) (xl3 : Int32) (l3 : Nat) (hl3 : xl3 = nI l3) (xl4 : Int32) (l4 : Nat) (hl4 : xl4 = nI l4) (h : F41_47  l0 l1 l2 l3 l4 T = some r) : mm_L 41 47 [.ref l0, .int xl1, .int xl2, .int xl3, .int xl4] [] (toS z T) = some (tR z r) := by
  unfold F41_47 at h
  refine Eq.trans (e41_47 ..) ?_
  exact (fb_K0i (fun _ q => fb_mo (y := 33) ow_33 q (fun q => GM33 _ _ _ hl2 q)) h (fun v0 T1 h2 => G41_52  _ _ _ hl1 _ _ hl2 _ _ hl3 _ _ hl4 _ _ rfl h2))
noncomputable def F41_76  (l0 : Nat) (l1 : Nat) (l2 : Nat) (l3 : Nat) (l4 : Nat) (T : fS) : Option fR := (some ((.inl (some (.inl 1)), T) : fR))
theorem G41_76 {z : Option mm_O} {T : fS} {r : fR}  (l0 : Nat) (xl1 : Int32) (l1 : Nat) (hl1 : xl1 = nI l1) (xl2 : Int32) (l2 : Nat) (hl2 : xl2 = nI l2) (xl3 : Int32) (l3 : Nat) (hl3 : xl3 = nI l3) (xl4 : Int32) (l4 : Nat) (hl4 : xl4 = nI l4) (h : F41_76  l0 l1 l2 l3 l4 T = some r) : mm_L 41 76 [.ref l0, .int xl1, .int xl2, .int xl3, .int xl4] [] (toS z T) = some (tR z r) := by
  unfold F41_76 at h
  refine Eq.trans (e41_76 ..) ?_
  exact (fb_pos (by decide) (fr_i (rfl : (1 : Int32) = nI 1) h))
noncomputable def F41_0  (l0 : Nat) (l1 : Nat) (l2 : Nat) (l3 : Nat) (l4 : Nat) (T : fS) : Option fR := (fif (ieq l1 0) (F41_36  l0 l1 l2 l3 l4 T) (fif (ieq l1 1) (F41_42  l0 l1 l2 l3 l4 T) (fif (ieq l1 2) (F41_42  l0 l1 l2 l3 l4 T) (fif (ieq l1 3) (F41_42  l0 l1 l2 l3 l4 T) (fif (ieq l1 4) (F41_47  l0 l1 l2 l3 l4 T) (F41_76  l0 l1 l2 l3 l4 T))))))
theorem G41_0 {z : Option mm_O} {T : fS} {r : fR}  (l0 : Nat) (xl1 : Int32) (l1 : Nat) (hl1 : xl1 = nI l1) (xl2 : Int32) (l2 : Nat) (hl2 : xl2 = nI l2) (xl3 : Int32) (l3 : Nat) (hl3 : xl3 = nI l3) (xl4 : Int32) (l4 : Nat) (hl4 : xl4 = nI l4) (h : F41_0  l0 l1 l2 l3 l4 T = some r) : mm_L 41 0 [.ref l0, .int xl1, .int xl2, .int xl3, .int xl4] [] (toS z T) = some (tR z r) := by
  unfold F41_0 at h
  refine Eq.trans (e41_0 ..) ?_
  exact (fb_if (cj_eq hl1 (rfl : (0 : Int32) = nI 0)) h (fun h1 => (G41_36  _ _ _ hl1 _ _ hl2 _ _ hl3 _ _ hl4 h1)) (fun h1 => (fb_if (cj_eq hl1 (rfl : (1 : Int32) = nI 1)) h1 (fun h1 => (G41_42  _ _ _ hl1 _ _ hl2 _ _ hl3 _ _ hl4 h1)) (fun h1 => (fb_if (cj_eq hl1 (rfl : (2 : Int32) = nI 2)) h1 (fun h1 => (G41_42  _ _ _ hl1 _ _ hl2 _ _ hl3 _ _ hl4 h1)) (fun h1 => (fb_if (cj_eq hl1 (rfl : (3 : Int32) = nI 3)) h1 (fun h1 => (G41_42  _ _ _ hl1 _ _ hl2 _ _ hl3 _ _ hl4 h1)) (fun h1 => (fb_if (cj_eq hl1 (rfl : (4 : Int32) = nI 4)) h1 (fun h1 => (G41_47  _ _ _ hl1 _ _ hl2 _ _ hl3 _ _ hl4 h1)) (fun h1 => (G41_76  _ _ _ hl1 _ _ hl2 _ _ hl3 _ _ hl4 h1)))))))))))
theorem GM41 {z : Option mm_O} {T : fS} {r : fR} (l0 : Nat) (xl1 : Int32) (l1 : Nat) (hl1 : xl1 = nI l1) (xl2 : Int32) (l2 : Nat) (hl2 : xl2 = nI l2) (xl3 : Int32) (l3 : Nat) (hl3 : xl3 = nI l3) (xl4 : Int32) (l4 : Nat) (hl4 : xl4 = nI l4) (h : F41_0 l0 l1 l2 l3 l4 T = some r) : mm_M 41 [.ref l0, .int xl1, .int xl2, .int xl3, .int xl4] (toS z T) = some (tR z r) := Eq.trans (M_41 ..) (G41_0 l0 xl1 l1 hl1 xl2 l2 hl2 xl3 l3 hl3 xl4 l4 hl4 h)
-- 48: HandArchive.stillHands
noncomputable def F48_14  (l0 : Nat) (l1 : Nat) (l2 : Nat) (s0 : Nat) (T : fS) : Option fR := (some ((.inl (some (.inr (some s0))), T) : fR))
theorem G48_14 {z : Option mm_O} {T : fS} {r : fR}  (xl0 : Int32) (l0 : Nat) (hl0 : xl0 = nI l0) (xl1 : Int32) (l1 : Nat) (hl1 : xl1 = nI l1) (xl2 : Int32) (l2 : Nat) (hl2 : xl2 = nI l2) (s0 : Nat) (h : F48_14  l0 l1 l2 s0 T = some r) : mm_L 48 14 [.int xl0, .int xl1, .int xl2] [.ref s0] (toS z T) = some (tR z r) := by
  unfold F48_14 at h
  refine Eq.trans (e48_14 ..) ?_
  exact (fr_r h)
noncomputable def F48_0  (l0 : Nat) (l1 : Nat) (l2 : Nat) (T : fS) : Option fR := (fgd T (fKv false (fif (fch (fnw T (.inl (1, [.inl 0, .inl 0, .inl 0, .inl 0, .inl 0, .inl 0, .inl 0]) : fO) 7) T.2.1 1) (F6_0 T.2.1 l0 l1 l1 l2 l2 0 4294967295 (fnw T (.inl (1, [.inl 0, .inl 0, .inl 0, .inl 0, .inl 0, .inl 0, .inl 0]) : fO) 7)) none) (fun T1 => F48_14  l0 l1 l2 T.2.1 T1)))
theorem G48_0 {z : Option mm_O} {T : fS} {r : fR}  (xl0 : Int32) (l0 : Nat) (hl0 : xl0 = nI l0) (xl1 : Int32) (l1 : Nat) (hl1 : xl1 = nI l1) (xl2 : Int32) (l2 : Nat) (hl2 : xl2 = nI l2) (h : F48_0  l0 l1 l2 T = some r) : mm_L 48 0 [.int xl0, .int xl1, .int xl2] [] (toS z T) = some (tR z r) := by
  unfold F48_0 at h
  refine Eq.trans (e48_0 ..) ?_
  have hg0 := fgd_in h
  replace h := hg0.2
  rw [show mm_new (toS z T) (.inl (1, [.int 0, .int 0, .int 0, .int 0, .int 0, .int 0, .int 0])) 7 = toS z (fnw T (.inl (1, [.inl 0, .inl 0, .inl 0, .inl 0, .inl 0, .inl 0, .inl 0]) : fO) 7) from fnw_ok (o := (.inl (1, [.inl 0, .inl 0, .inl 0, .inl 0, .inl 0, .inl 0, .inl 0]) : fO)) hg0.1]
  exact (fb_K2v (fun _ q => fb_mo (y := 6) ow_6 q (fun q => GM6 _ _ _ hl0 _ _ hl1 _ _ hl1 _ _ hl2 _ _ hl2 _ _ (rfl : (0 : Int32) = nI 0) _ _ (by decide : (-1 : Int32) = nI 4294967295) q)) h (fun T1 h2 => G48_14  _ _ hl0 _ _ hl1 _ _ hl2 _ h2))
theorem GM48 {z : Option mm_O} {T : fS} {r : fR} (xl0 : Int32) (l0 : Nat) (hl0 : xl0 = nI l0) (xl1 : Int32) (l1 : Nat) (hl1 : xl1 = nI l1) (xl2 : Int32) (l2 : Nat) (hl2 : xl2 = nI l2) (h : F48_0 l0 l1 l2 T = some r) : mm_M 48 [.int xl0, .int xl1, .int xl2] (toS z T) = some (tR z r) := Eq.trans (M_48 ..) (G48_0 xl0 l0 hl0 xl1 l1 hl1 xl2 l2 hl2 h)
-- 52: HandArchive.articulatorOf
noncomputable def F52_0  (l0 : Nat) (T : fS) : Option fR := (some ((.inl (some (.inl (imx 0 (iS l0 1)))), T) : fR))
theorem G52_0 {z : Option mm_O} {T : fS} {r : fR}  (xl0 : Int32) (l0 : Nat) (hl0 : xl0 = nI l0) (h : F52_0  l0 T = some r) : mm_L 52 0 [.int xl0] [] (toS z T) = some (tR z r) := by
  unfold F52_0 at h
  refine Eq.trans (e52_0 ..) ?_
  exact (fr_i (imx_ok (rfl : (0 : Int32) = nI 0) (iS_ok hl0 (rfl : (1 : Int32) = nI 1))) h)
theorem GM52 {z : Option mm_O} {T : fS} {r : fR} (xl0 : Int32) (l0 : Nat) (hl0 : xl0 = nI l0) (h : F52_0 l0 T = some r) : mm_M 52 [.int xl0] (toS z T) = some (tR z r) := Eq.trans (M_52 ..) (G52_0 xl0 l0 hl0 h)
-- 55: HandArchive.placeOf
noncomputable def F55_16  (l0 : Nat) (s0 : Nat) (T : fS) : Option fR := (some ((.inl (some (.inl s0)), T) : fR))
theorem G55_16 {z : Option mm_O} {T : fS} {r : fR}  (xl0 : Int32) (l0 : Nat) (hl0 : xl0 = nI l0) (xs0 : Int32) (s0 : Nat) (hs0 : xs0 = nI s0) (h : F55_16  l0 s0 T = some r) : mm_L 55 16 [.int xl0] [.int xs0] (toS z T) = some (tR z r) := by
  unfold F55_16 at h
  refine Eq.trans (e55_16 ..) ?_
  exact (fr_i hs0 h)
noncomputable def F55_12  (l0 : Nat) (s0 : Nat) (T : fS) : Option fR := (F55_16  l0 s0 T)
theorem G55_12 {z : Option mm_O} {T : fS} {r : fR}  (xl0 : Int32) (l0 : Nat) (hl0 : xl0 = nI l0) (xs0 : Int32) (s0 : Nat) (hs0 : xs0 = nI s0) (h : F55_12  l0 s0 T = some r) : mm_L 55 12 [.int xl0] [.int xs0] (toS z T) = some (tR z r) := by
  unfold F55_12 at h
  refine Eq.trans (e55_12 ..) ?_
  exact (G55_16  _ _ hl0 _ _ hs0 h)
noncomputable def F55_7  (l0 : Nat) (T : fS) : Option fR := (fbn (fal T 1 l0 false) (fun v0 => F55_12  l0 v0 T))
theorem G55_7 {z : Option mm_O} {T : fS} {r : fR}  (xl0 : Int32) (l0 : Nat) (hl0 : xl0 = nI l0) (h : F55_7  l0 T = some r) : mm_L 55 7 [.int xl0] [] (toS z T) = some (tR z r) := by
  unfold F55_7 at h
  refine Eq.trans (e55_7 ..) ?_
  exact (fb_n (fun _ q => by rw [hl0]; exact fal_ok q) h (fun v0 h2 => G55_12  _ _ hl0 _ _ rfl h2))
noncomputable def F55_15  (l0 : Nat) (T : fS) : Option fR := (F55_16  l0 4294967295 T)
theorem G55_15 {z : Option mm_O} {T : fS} {r : fR}  (xl0 : Int32) (l0 : Nat) (hl0 : xl0 = nI l0) (h : F55_15  l0 T = some r) : mm_L 55 15 [.int xl0] [] (toS z T) = some (tR z r) := by
  unfold F55_15 at h
  refine Eq.trans (e55_15 ..) ?_
  exact (G55_16  _ _ hl0 _ _ (by decide : (-1 : Int32) = nI 4294967295) h)
noncomputable def F55_4  (l0 : Nat) (s0 : Nat) (T : fS) : Option fR := (fif (ieq s0 0) (F55_15  l0 T) (F55_7  l0 T))
theorem G55_4 {z : Option mm_O} {T : fS} {r : fR}  (xl0 : Int32) (l0 : Nat) (hl0 : xl0 = nI l0) (xs0 : Int32) (s0 : Nat) (hs0 : xs0 = nI s0) (h : F55_4  l0 s0 T = some r) : mm_L 55 4 [.int xl0] [.int xs0] (toS z T) = some (tR z r) := by
  unfold F55_4 at h
  refine Eq.trans (e55_4 ..) ?_
  exact (fb_if (cj_eq hs0 (rfl : (0 : Int32) = nI 0)) h (fun h1 => (G55_15  _ _ hl0 h1)) (fun h1 => (G55_7  _ _ hl0 h1)))
noncomputable def F55_0  (l0 : Nat) (T : fS) : Option fR := (fKi true (F54_0 l0 T) (fun v0 T1 => F55_4  l0 v0 T1))
theorem G55_0 {z : Option mm_O} {T : fS} {r : fR}  (xl0 : Int32) (l0 : Nat) (hl0 : xl0 = nI l0) (h : F55_0  l0 T = some r) : mm_L 55 0 [.int xl0] [] (toS z T) = some (tR z r) := by
  unfold F55_0 at h
  refine Eq.trans (e55_0 ..) ?_
  exact (fb_K0i (fun _ q => GM54 _ _ hl0 q) h (fun v0 T1 h2 => G55_4  _ _ hl0 _ _ rfl h2))
theorem GM55 {z : Option mm_O} {T : fS} {r : fR} (xl0 : Int32) (l0 : Nat) (hl0 : xl0 = nI l0) (h : F55_0 l0 T = some r) : mm_M 55 [.int xl0] (toS z T) = some (tR z r) := Eq.trans (M_55 ..) (G55_0 xl0 l0 hl0 h)
-- 78: HandArchive.stepsDone
noncomputable def F78_6  (l0 : Nat) (l1 : Nat) (s0 : Nat) (s1 : Nat) (s2 : Nat) (T : fS) : Option fR := (some ((.inl (some (.inl (imx s2 (iA (iS (iS s1 s0) 2) 1)))), T) : fR))
theorem G78_6 {z : Option mm_O} {T : fS} {r : fR}  (l0 : Nat) (xl1 : Int32) (l1 : Nat) (hl1 : xl1 = nI l1) (xs0 : Int32) (s0 : Nat) (hs0 : xs0 = nI s0) (xs1 : Int32) (s1 : Nat) (hs1 : xs1 = nI s1) (xs2 : Int32) (s2 : Nat) (hs2 : xs2 = nI s2) (h : F78_6  l0 l1 s0 s1 s2 T = some r) : mm_L 78 6 [.ref l0, .int xl1] [.int xs0, .int xs1, .int xs2] (toS z T) = some (tR z r) := by
  unfold F78_6 at h
  refine Eq.trans (e78_6 ..) ?_
  exact (fr_i (imx_ok hs2 (iA_ok (iS_ok (iS_ok hs1 hs0) (rfl : (2 : Int32) = nI 2)) (rfl : (1 : Int32) = nI 1))) h)
noncomputable def F78_0  (l0 : Nat) (l1 : Nat) (T : fS) : Option fR := (fbn (fgi T l0 2 6) (fun v0 => F78_6  l0 l1 v0 l1 0 T))
theorem G78_0 {z : Option mm_O} {T : fS} {r : fR}  (l0 : Nat) (xl1 : Int32) (l1 : Nat) (hl1 : xl1 = nI l1) (h : F78_0  l0 l1 T = some r) : mm_L 78 0 [.ref l0, .int xl1] [] (toS z T) = some (tR z r) := by
  unfold F78_0 at h
  refine Eq.trans (e78_0 ..) ?_
  exact (fb_n (fun _ q => fgi_ok q) h (fun v0 h2 => G78_6  _ _ _ hl1 _ _ rfl _ _ hl1 _ _ (rfl : (0 : Int32) = nI 0) h2))
theorem GM78 {z : Option mm_O} {T : fS} {r : fR} (l0 : Nat) (xl1 : Int32) (l1 : Nat) (hl1 : xl1 = nI l1) (h : F78_0 l0 l1 T = some r) : mm_M 78 [.ref l0, .int xl1] (toS z T) = some (tR z r) := Eq.trans (M_78 ..) (G78_0 l0 xl1 l1 hl1 h)
-- 79: HandArchive.placeOnWay
noncomputable def F79_76  (l0 : Nat) (l1 : Nat) (l2 : Nat) (l3 : Nat) (l4 : Nat) (l5 : Nat) (l6 : Nat) (s0 : Nat) (s1 : Nat) (s2 : Nat) (T : fS) : Option fR := (some ((.inl (some (.inl (iA s2 (iM s1 s0)))), T) : fR))
theorem G79_76 {z : Option mm_O} {T : fS} {r : fR}  (xl0 : Int32) (l0 : Nat) (hl0 : xl0 = nI l0) (xl1 : Int32) (l1 : Nat) (hl1 : xl1 = nI l1) (xl2 : Int32) (l2 : Nat) (hl2 : xl2 = nI l2) (xl3 : Int32) (l3 : Nat) (hl3 : xl3 = nI l3) (xl4 : Int32) (l4 : Nat) (hl4 : xl4 = nI l4) (xl5 : Int32) (l5 : Nat) (hl5 : xl5 = nI l5) (xl6 : Int32) (l6 : Nat) (hl6 : xl6 = nI l6) (xs0 : Int32) (s0 : Nat) (hs0 : xs0 = nI s0) (xs1 : Int32) (s1 : Nat) (hs1 : xs1 = nI s1) (xs2 : Int32) (s2 : Nat) (hs2 : xs2 = nI s2) (h : F79_76  l0 l1 l2 l3 l4 l5 l6 s0 s1 s2 T = some r) : mm_L 79 76 [.int xl0, .int xl1, .int xl2, .int xl3, .int xl4, .int xl5, .int xl6] [.int xs0, .int xs1, .int xs2] (toS z T) = some (tR z r) := by
  unfold F79_76 at h
  refine Eq.trans (e79_76 ..) ?_
  exact (fr_i (iA_ok hs2 (iM_ok hs1 hs0)) h)
noncomputable def F79_73  (l0 : Nat) (l1 : Nat) (l2 : Nat) (l3 : Nat) (l4 : Nat) (l5 : Nat) (l6 : Nat) (s0 : Nat) (s1 : Nat) (s2 : Nat) (s3 : Nat) (T : fS) : Option fR := (fKi true (F105_0 s1 s0 T) (fun v0 T1 => F79_76  l0 l1 l2 l3 l4 l5 l6 v0 s2 s3 T1))
theorem G79_73 {z : Option mm_O} {T : fS} {r : fR}  (xl0 : Int32) (l0 : Nat) (hl0 : xl0 = nI l0) (xl1 : Int32) (l1 : Nat) (hl1 : xl1 = nI l1) (xl2 : Int32) (l2 : Nat) (hl2 : xl2 = nI l2) (xl3 : Int32) (l3 : Nat) (hl3 : xl3 = nI l3) (xl4 : Int32) (l4 : Nat) (hl4 : xl4 = nI l4) (xl5 : Int32) (l5 : Nat) (hl5 : xl5 = nI l5) (xl6 : Int32) (l6 : Nat) (hl6 : xl6 = nI l6) (xs0 : Int32) (s0 : Nat) (hs0 : xs0 = nI s0) (xs1 : Int32) (s1 : Nat) (hs1 : xs1 = nI s1) (xs2 : Int32) (s2 : Nat) (hs2 : xs2 = nI s2) (xs3 : Int32) (s3 : Nat) (hs3 : xs3 = nI s3) (h : F79_73  l0 l1 l2 l3 l4 l5 l6 s0 s1 s2 s3 T = some r) : mm_L 79 73 [.int xl0, .int xl1, .int xl2, .int xl3, .int xl4, .int xl5, .int xl6] [.int xs0, .int xs1, .int xs2, .int xs3] (toS z T) = some (tR z r) := by
  unfold F79_73 at h
  refine Eq.trans (e79_73 ..) ?_
  exact (fb_K0i (fun _ q => GM105 _ _ hs1 _ _ hs0 q) h (fun v0 T1 h2 => G79_76  _ _ hl0 _ _ hl1 _ _ hl2 _ _ hl3 _ _ hl4 _ _ hl5 _ _ hl6 _ _ rfl _ _ hs2 _ _ hs3 h2))
noncomputable def F79_69  (l0 : Nat) (l1 : Nat) (l2 : Nat) (l3 : Nat) (l4 : Nat) (l5 : Nat) (l6 : Nat) (s0 : Nat) (s1 : Nat) (s2 : Nat) (T : fS) : Option fR := (fKi true (F102_0 l1 T) (fun v0 T1 => F79_73  l0 l1 l2 l3 l4 l5 l6 v0 s0 s1 s2 T1))
theorem G79_69 {z : Option mm_O} {T : fS} {r : fR}  (xl0 : Int32) (l0 : Nat) (hl0 : xl0 = nI l0) (xl1 : Int32) (l1 : Nat) (hl1 : xl1 = nI l1) (xl2 : Int32) (l2 : Nat) (hl2 : xl2 = nI l2) (xl3 : Int32) (l3 : Nat) (hl3 : xl3 = nI l3) (xl4 : Int32) (l4 : Nat) (hl4 : xl4 = nI l4) (xl5 : Int32) (l5 : Nat) (hl5 : xl5 = nI l5) (xl6 : Int32) (l6 : Nat) (hl6 : xl6 = nI l6) (xs0 : Int32) (s0 : Nat) (hs0 : xs0 = nI s0) (xs1 : Int32) (s1 : Nat) (hs1 : xs1 = nI s1) (xs2 : Int32) (s2 : Nat) (hs2 : xs2 = nI s2) (h : F79_69  l0 l1 l2 l3 l4 l5 l6 s0 s1 s2 T = some r) : mm_L 79 69 [.int xl0, .int xl1, .int xl2, .int xl3, .int xl4, .int xl5, .int xl6] [.int xs0, .int xs1, .int xs2] (toS z T) = some (tR z r) := by
  unfold F79_69 at h
  refine Eq.trans (e79_69 ..) ?_
  exact (fb_K0i (fun _ q => GM102 _ _ hl1 q) h (fun v0 T1 h2 => G79_73  _ _ hl0 _ _ hl1 _ _ hl2 _ _ hl3 _ _ hl4 _ _ hl5 _ _ hl6 _ _ rfl _ _ hs0 _ _ hs1 _ _ hs2 h2))
noncomputable def F79_59  (l0 : Nat) (l1 : Nat) (l2 : Nat) (l3 : Nat) (l4 : Nat) (l5 : Nat) (l6 : Nat) (s0 : Nat) (s1 : Nat) (s2 : Nat) (T : fS) : Option fR := (fKi true (F102_0 l0 T) (fun v0 T1 => F79_69  l0 l1 l2 l3 l4 l5 l6 v0 (iM 3 l6) (iA s2 (iM s1 s0)) T1))
theorem G79_59 {z : Option mm_O} {T : fS} {r : fR}  (xl0 : Int32) (l0 : Nat) (hl0 : xl0 = nI l0) (xl1 : Int32) (l1 : Nat) (hl1 : xl1 = nI l1) (xl2 : Int32) (l2 : Nat) (hl2 : xl2 = nI l2) (xl3 : Int32) (l3 : Nat) (hl3 : xl3 = nI l3) (xl4 : Int32) (l4 : Nat) (hl4 : xl4 = nI l4) (xl5 : Int32) (l5 : Nat) (hl5 : xl5 = nI l5) (xl6 : Int32) (l6 : Nat) (hl6 : xl6 = nI l6) (xs0 : Int32) (s0 : Nat) (hs0 : xs0 = nI s0) (xs1 : Int32) (s1 : Nat) (hs1 : xs1 = nI s1) (xs2 : Int32) (s2 : Nat) (hs2 : xs2 = nI s2) (h : F79_59  l0 l1 l2 l3 l4 l5 l6 s0 s1 s2 T = some r) : mm_L 79 59 [.int xl0, .int xl1, .int xl2, .int xl3, .int xl4, .int xl5, .int xl6] [.int xs0, .int xs1, .int xs2] (toS z T) = some (tR z r) := by
  unfold F79_59 at h
  refine Eq.trans (e79_59 ..) ?_
  exact (fb_K0i (fun _ q => GM102 _ _ hl0 q) h (fun v0 T1 h2 => G79_69  _ _ hl0 _ _ hl1 _ _ hl2 _ _ hl3 _ _ hl4 _ _ hl5 _ _ hl6 _ _ rfl _ _ (iM_ok (rfl : (3 : Int32) = nI 3) hl6) _ _ (iA_ok hs2 (iM_ok hs1 hs0)) h2))
noncomputable def F79_56  (l0 : Nat) (l1 : Nat) (l2 : Nat) (l3 : Nat) (l4 : Nat) (l5 : Nat) (l6 : Nat) (s0 : Nat) (s1 : Nat) (s2 : Nat) (s3 : Nat) (T : fS) : Option fR := (fKi true (F105_0 s1 s0 T) (fun v0 T1 => F79_59  l0 l1 l2 l3 l4 l5 l6 v0 s2 s3 T1))
theorem G79_56 {z : Option mm_O} {T : fS} {r : fR}  (xl0 : Int32) (l0 : Nat) (hl0 : xl0 = nI l0) (xl1 : Int32) (l1 : Nat) (hl1 : xl1 = nI l1) (xl2 : Int32) (l2 : Nat) (hl2 : xl2 = nI l2) (xl3 : Int32) (l3 : Nat) (hl3 : xl3 = nI l3) (xl4 : Int32) (l4 : Nat) (hl4 : xl4 = nI l4) (xl5 : Int32) (l5 : Nat) (hl5 : xl5 = nI l5) (xl6 : Int32) (l6 : Nat) (hl6 : xl6 = nI l6) (xs0 : Int32) (s0 : Nat) (hs0 : xs0 = nI s0) (xs1 : Int32) (s1 : Nat) (hs1 : xs1 = nI s1) (xs2 : Int32) (s2 : Nat) (hs2 : xs2 = nI s2) (xs3 : Int32) (s3 : Nat) (hs3 : xs3 = nI s3) (h : F79_56  l0 l1 l2 l3 l4 l5 l6 s0 s1 s2 s3 T = some r) : mm_L 79 56 [.int xl0, .int xl1, .int xl2, .int xl3, .int xl4, .int xl5, .int xl6] [.int xs0, .int xs1, .int xs2, .int xs3] (toS z T) = some (tR z r) := by
  unfold F79_56 at h
  refine Eq.trans (e79_56 ..) ?_
  exact (fb_K0i (fun _ q => GM105 _ _ hs1 _ _ hs0 q) h (fun v0 T1 h2 => G79_59  _ _ hl0 _ _ hl1 _ _ hl2 _ _ hl3 _ _ hl4 _ _ hl5 _ _ hl6 _ _ rfl _ _ hs2 _ _ hs3 h2))
noncomputable def F79_52  (l0 : Nat) (l1 : Nat) (l2 : Nat) (l3 : Nat) (l4 : Nat) (l5 : Nat) (l6 : Nat) (s0 : Nat) (s1 : Nat) (s2 : Nat) (T : fS) : Option fR := (fKi true (F103_0 l1 T) (fun v0 T1 => F79_56  l0 l1 l2 l3 l4 l5 l6 v0 s0 s1 s2 T1))
theorem G79_52 {z : Option mm_O} {T : fS} {r : fR}  (xl0 : Int32) (l0 : Nat) (hl0 : xl0 = nI l0) (xl1 : Int32) (l1 : Nat) (hl1 : xl1 = nI l1) (xl2 : Int32) (l2 : Nat) (hl2 : xl2 = nI l2) (xl3 : Int32) (l3 : Nat) (hl3 : xl3 = nI l3) (xl4 : Int32) (l4 : Nat) (hl4 : xl4 = nI l4) (xl5 : Int32) (l5 : Nat) (hl5 : xl5 = nI l5) (xl6 : Int32) (l6 : Nat) (hl6 : xl6 = nI l6) (xs0 : Int32) (s0 : Nat) (hs0 : xs0 = nI s0) (xs1 : Int32) (s1 : Nat) (hs1 : xs1 = nI s1) (xs2 : Int32) (s2 : Nat) (hs2 : xs2 = nI s2) (h : F79_52  l0 l1 l2 l3 l4 l5 l6 s0 s1 s2 T = some r) : mm_L 79 52 [.int xl0, .int xl1, .int xl2, .int xl3, .int xl4, .int xl5, .int xl6] [.int xs0, .int xs1, .int xs2] (toS z T) = some (tR z r) := by
  unfold F79_52 at h
  refine Eq.trans (e79_52 ..) ?_
  exact (fb_K0i (fun _ q => GM103 _ _ hl1 q) h (fun v0 T1 h2 => G79_56  _ _ hl0 _ _ hl1 _ _ hl2 _ _ hl3 _ _ hl4 _ _ hl5 _ _ hl6 _ _ rfl _ _ hs0 _ _ hs1 _ _ hs2 h2))
noncomputable def F79_21  (l0 : Nat) (l1 : Nat) (l2 : Nat) (l3 : Nat) (s0 : Nat) (s1 : Nat) (T : fS) : Option fR := (fKi true (F103_0 l0 T) (fun v0 T1 => F79_52  l0 l1 l2 l3 (iab (iS s1 s0)) (imn l2 l3) (imn (iS l2 (imn l2 l3)) (iab (iS s1 s0))) v0 (imn l2 l3) l0 T1))
theorem G79_21 {z : Option mm_O} {T : fS} {r : fR}  (xl0 : Int32) (l0 : Nat) (hl0 : xl0 = nI l0) (xl1 : Int32) (l1 : Nat) (hl1 : xl1 = nI l1) (xl2 : Int32) (l2 : Nat) (hl2 : xl2 = nI l2) (xl3 : Int32) (l3 : Nat) (hl3 : xl3 = nI l3) (ul4 : Value) (ul5 : Value) (ul6 : Value) (xs0 : Int32) (s0 : Nat) (hs0 : xs0 = nI s0) (xs1 : Int32) (s1 : Nat) (hs1 : xs1 = nI s1) (h : F79_21  l0 l1 l2 l3 s0 s1 T = some r) : mm_L 79 21 [.int xl0, .int xl1, .int xl2, .int xl3, ul4, ul5, ul6] [.int xs0, .int xs1] (toS z T) = some (tR z r) := by
  unfold F79_21 at h
  refine Eq.trans (e79_21 ..) ?_
  exact (fb_K0i (fun _ q => GM103 _ _ hl0 q) h (fun v0 T1 h2 => G79_52  _ _ hl0 _ _ hl1 _ _ hl2 _ _ hl3 _ _ (iab_ok (iS_ok hs1 hs0)) _ _ (imn_ok hl2 hl3) _ _ (imn_ok (iS_ok hl2 (imn_ok hl2 hl3)) (iab_ok (iS_ok hs1 hs0))) _ _ rfl _ _ (imn_ok hl2 hl3) _ _ hl0 h2))
noncomputable def F79_17  (l0 : Nat) (l1 : Nat) (l2 : Nat) (l3 : Nat) (s0 : Nat) (T : fS) : Option fR := (fKi true (F102_0 l0 T) (fun v0 T1 => F79_21  l0 l1 l2 l3 v0 s0 T1))
theorem G79_17 {z : Option mm_O} {T : fS} {r : fR}  (xl0 : Int32) (l0 : Nat) (hl0 : xl0 = nI l0) (xl1 : Int32) (l1 : Nat) (hl1 : xl1 = nI l1) (xl2 : Int32) (l2 : Nat) (hl2 : xl2 = nI l2) (xl3 : Int32) (l3 : Nat) (hl3 : xl3 = nI l3) (ul4 : Value) (ul5 : Value) (ul6 : Value) (xs0 : Int32) (s0 : Nat) (hs0 : xs0 = nI s0) (h : F79_17  l0 l1 l2 l3 s0 T = some r) : mm_L 79 17 [.int xl0, .int xl1, .int xl2, .int xl3, ul4, ul5, ul6] [.int xs0] (toS z T) = some (tR z r) := by
  unfold F79_17 at h
  refine Eq.trans (e79_17 ..) ?_
  exact (fb_K0i (fun _ q => GM102 _ _ hl0 q) h (fun v0 T1 h2 => G79_21  _ _ hl0 _ _ hl1 _ _ hl2 _ _ hl3 _ _ _ _ _ rfl _ _ hs0 h2))
noncomputable def F79_8  (l0 : Nat) (l1 : Nat) (l2 : Nat) (s0 : Nat) (s1 : Nat) (T : fS) : Option fR := (fKi true (F102_0 l1 T) (fun v0 T1 => F79_17  l0 l1 l2 (iab (iS s1 s0)) v0 T1))
theorem G79_8 {z : Option mm_O} {T : fS} {r : fR}  (xl0 : Int32) (l0 : Nat) (hl0 : xl0 = nI l0) (xl1 : Int32) (l1 : Nat) (hl1 : xl1 = nI l1) (xl2 : Int32) (l2 : Nat) (hl2 : xl2 = nI l2) (ul3 : Value) (ul4 : Value) (ul5 : Value) (ul6 : Value) (xs0 : Int32) (s0 : Nat) (hs0 : xs0 = nI s0) (xs1 : Int32) (s1 : Nat) (hs1 : xs1 = nI s1) (h : F79_8  l0 l1 l2 s0 s1 T = some r) : mm_L 79 8 [.int xl0, .int xl1, .int xl2, ul3, ul4, ul5, ul6] [.int xs0, .int xs1] (toS z T) = some (tR z r) := by
  unfold F79_8 at h
  refine Eq.trans (e79_8 ..) ?_
  exact (fb_K0i (fun _ q => GM102 _ _ hl1 q) h (fun v0 T1 h2 => G79_17  _ _ hl0 _ _ hl1 _ _ hl2 _ _ (iab_ok (iS_ok hs1 hs0)) _ _ _ _ _ rfl h2))
noncomputable def F79_4  (l0 : Nat) (l1 : Nat) (l2 : Nat) (s0 : Nat) (T : fS) : Option fR := (fKi true (F103_0 l0 T) (fun v0 T1 => F79_8  l0 l1 l2 v0 s0 T1))
theorem G79_4 {z : Option mm_O} {T : fS} {r : fR}  (xl0 : Int32) (l0 : Nat) (hl0 : xl0 = nI l0) (xl1 : Int32) (l1 : Nat) (hl1 : xl1 = nI l1) (xl2 : Int32) (l2 : Nat) (hl2 : xl2 = nI l2) (ul3 : Value) (ul4 : Value) (ul5 : Value) (ul6 : Value) (xs0 : Int32) (s0 : Nat) (hs0 : xs0 = nI s0) (h : F79_4  l0 l1 l2 s0 T = some r) : mm_L 79 4 [.int xl0, .int xl1, .int xl2, ul3, ul4, ul5, ul6] [.int xs0] (toS z T) = some (tR z r) := by
  unfold F79_4 at h
  refine Eq.trans (e79_4 ..) ?_
  exact (fb_K0i (fun _ q => GM103 _ _ hl0 q) h (fun v0 T1 h2 => G79_8  _ _ hl0 _ _ hl1 _ _ hl2 _ _ _ _ _ _ rfl _ _ hs0 h2))
noncomputable def F79_0  (l0 : Nat) (l1 : Nat) (l2 : Nat) (T : fS) : Option fR := (fKi true (F103_0 l1 T) (fun v0 T1 => F79_4  l0 l1 l2 v0 T1))
theorem G79_0 {z : Option mm_O} {T : fS} {r : fR}  (xl0 : Int32) (l0 : Nat) (hl0 : xl0 = nI l0) (xl1 : Int32) (l1 : Nat) (hl1 : xl1 = nI l1) (xl2 : Int32) (l2 : Nat) (hl2 : xl2 = nI l2) (ul3 : Value) (ul4 : Value) (ul5 : Value) (ul6 : Value) (h : F79_0  l0 l1 l2 T = some r) : mm_L 79 0 [.int xl0, .int xl1, .int xl2, ul3, ul4, ul5, ul6] [] (toS z T) = some (tR z r) := by
  unfold F79_0 at h
  refine Eq.trans (e79_0 ..) ?_
  exact (fb_K0i (fun _ q => GM103 _ _ hl1 q) h (fun v0 T1 h2 => G79_4  _ _ hl0 _ _ hl1 _ _ hl2 _ _ _ _ _ _ rfl h2))
theorem GM79 {z : Option mm_O} {T : fS} {r : fR} (xl0 : Int32) (l0 : Nat) (hl0 : xl0 = nI l0) (xl1 : Int32) (l1 : Nat) (hl1 : xl1 = nI l1) (xl2 : Int32) (l2 : Nat) (hl2 : xl2 = nI l2) (h : F79_0 l0 l1 l2 T = some r) : mm_M 79 [.int xl0, .int xl1, .int xl2] (toS z T) = some (tR z r) := Eq.trans (M_79 ..) (G79_0 xl0 l0 hl0 xl1 l1 hl1 xl2 l2 hl2 _ _ _ _ h)
-- 82: HandArchive.pointingReadBack
noncomputable def F82_43  (l0 : Nat) (l1 : Nat) (s0 : Nat) (T : fS) : Option fR := (some ((.inl (some (.inl s0)), T) : fR))
theorem G82_43 {z : Option mm_O} {T : fS} {r : fR}  (l0 : Nat) (xl1 : Int32) (l1 : Nat) (hl1 : xl1 = nI l1) (xs0 : Int32) (s0 : Nat) (hs0 : xs0 = nI s0) (h : F82_43  l0 l1 s0 T = some r) : mm_L 82 43 [.ref l0, .int xl1] [.int xs0] (toS z T) = some (tR z r) := by
  unfold F82_43 at h
  refine Eq.trans (e82_43 ..) ?_
  exact (fr_i hs0 h)
noncomputable def F82_39  (l0 : Nat) (l1 : Nat) (s0 : Nat) (T : fS) : Option fR := (F82_43  l0 l1 s0 T)
theorem G82_39 {z : Option mm_O} {T : fS} {r : fR}  (l0 : Nat) (xl1 : Int32) (l1 : Nat) (hl1 : xl1 = nI l1) (xs0 : Int32) (s0 : Nat) (hs0 : xs0 = nI s0) (h : F82_39  l0 l1 s0 T = some r) : mm_L 82 39 [.ref l0, .int xl1] [.int xs0] (toS z T) = some (tR z r) := by
  unfold F82_39 at h
  refine Eq.trans (e82_39 ..) ?_
  exact (G82_43  _ _ _ hl1 _ _ hs0 h)
noncomputable def F82_36  (l0 : Nat) (l1 : Nat) (s0 : Nat) (T : fS) : Option fR := (fKi true (F56_0 s0 T) (fun v0 T1 => F82_39  l0 l1 v0 T1))
theorem G82_36 {z : Option mm_O} {T : fS} {r : fR}  (l0 : Nat) (xl1 : Int32) (l1 : Nat) (hl1 : xl1 = nI l1) (xs0 : Int32) (s0 : Nat) (hs0 : xs0 = nI s0) (h : F82_36  l0 l1 s0 T = some r) : mm_L 82 36 [.ref l0, .int xl1] [.int xs0] (toS z T) = some (tR z r) := by
  unfold F82_36 at h
  refine Eq.trans (e82_36 ..) ?_
  exact (fb_K0i (fun _ q => GM56 _ _ hs0 q) h (fun v0 T1 h2 => G82_39  _ _ _ hl1 _ _ rfl h2))
noncomputable def F82_32  (l0 : Nat) (l1 : Nat) (T : fS) : Option fR := (fbn (fgi T l0 1 1) (fun v0 => F82_36  l0 l1 v0 T))
theorem G82_32 {z : Option mm_O} {T : fS} {r : fR}  (l0 : Nat) (xl1 : Int32) (l1 : Nat) (hl1 : xl1 = nI l1) (h : F82_32  l0 l1 T = some r) : mm_L 82 32 [.ref l0, .int xl1] [] (toS z T) = some (tR z r) := by
  unfold F82_32 at h
  refine Eq.trans (e82_32 ..) ?_
  exact (fb_n (fun _ q => fgi_ok q) h (fun v0 h2 => G82_36  _ _ _ hl1 _ _ rfl h2))
noncomputable def F82_42  (l0 : Nat) (l1 : Nat) (T : fS) : Option fR := (F82_43  l0 l1 4294967295 T)
theorem G82_42 {z : Option mm_O} {T : fS} {r : fR}  (l0 : Nat) (xl1 : Int32) (l1 : Nat) (hl1 : xl1 = nI l1) (h : F82_42  l0 l1 T = some r) : mm_L 82 42 [.ref l0, .int xl1] [] (toS z T) = some (tR z r) := by
  unfold F82_42 at h
  refine Eq.trans (e82_42 ..) ?_
  exact (G82_43  _ _ _ hl1 _ _ (by decide : (-1 : Int32) = nI 4294967295) h)
noncomputable def F82_27  (l0 : Nat) (s0 : Nat) (T : fS) : Option fR := (fif (ieq s0 0) (F82_42  l0 s0 T) (F82_32  l0 s0 T))
theorem G82_27 {z : Option mm_O} {T : fS} {r : fR}  (l0 : Nat) (ul1 : Value) (xs0 : Int32) (s0 : Nat) (hs0 : xs0 = nI s0) (h : F82_27  l0 s0 T = some r) : mm_L 82 27 [.ref l0, ul1] [.int xs0] (toS z T) = some (tR z r) := by
  unfold F82_27 at h
  refine Eq.trans (e82_27 ..) ?_
  exact (fb_if (cj_eq hs0 (rfl : (0 : Int32) = nI 0)) h (fun h1 => (G82_42  _ _ _ hs0 h1)) (fun h1 => (G82_32  _ _ _ hs0 h1)))
noncomputable def F82_22  (l0 : Nat) (T : fS) : Option fR := (F82_27  l0 1 T)
theorem G82_22 {z : Option mm_O} {T : fS} {r : fR}  (l0 : Nat) (ul1 : Value) (h : F82_22  l0 T = some r) : mm_L 82 22 [.ref l0, ul1] [] (toS z T) = some (tR z r) := by
  unfold F82_22 at h
  refine Eq.trans (e82_22 ..) ?_
  exact (G82_27  _ _ _ _ (rfl : (1 : Int32) = nI 1) h)
noncomputable def F82_26  (l0 : Nat) (T : fS) : Option fR := (F82_27  l0 0 T)
theorem G82_26 {z : Option mm_O} {T : fS} {r : fR}  (l0 : Nat) (ul1 : Value) (h : F82_26  l0 T = some r) : mm_L 82 26 [.ref l0, ul1] [] (toS z T) = some (tR z r) := by
  unfold F82_26 at h
  refine Eq.trans (e82_26 ..) ?_
  exact (G82_27  _ _ _ _ (rfl : (0 : Int32) = nI 0) h)
noncomputable def F82_18  (l0 : Nat) (s0 : Nat) (T : fS) : Option fR := (fif (ieq s0 1) (F82_22  l0 T) (F82_26  l0 T))
theorem G82_18 {z : Option mm_O} {T : fS} {r : fR}  (l0 : Nat) (ul1 : Value) (xs0 : Int32) (s0 : Nat) (hs0 : xs0 = nI s0) (h : F82_18  l0 s0 T = some r) : mm_L 82 18 [.ref l0, ul1] [.int xs0] (toS z T) = some (tR z r) := by
  unfold F82_18 at h
  refine Eq.trans (e82_18 ..) ?_
  exact (fb_if (cj_eq hs0 (rfl : (1 : Int32) = nI 1)) h (fun h1 => (G82_22  _ _ h1)) (fun h1 => (G82_26  _ _ h1)))
noncomputable def F82_14  (l0 : Nat) (T : fS) : Option fR := (fbn (fgi T l0 1 0) (fun v0 => F82_18  l0 v0 T))
theorem G82_14 {z : Option mm_O} {T : fS} {r : fR}  (l0 : Nat) (ul1 : Value) (h : F82_14  l0 T = some r) : mm_L 82 14 [.ref l0, ul1] [] (toS z T) = some (tR z r) := by
  unfold F82_14 at h
  refine Eq.trans (e82_14 ..) ?_
  exact (fb_n (fun _ q => fgi_ok q) h (fun v0 h2 => G82_18  _ _ _ _ rfl h2))
noncomputable def F82_11  (l0 : Nat) (s0 : Nat) (T : fS) : Option fR := (fif (ieq s0 0) (F82_14  l0 T) (F82_26  l0 T))
theorem G82_11 {z : Option mm_O} {T : fS} {r : fR}  (l0 : Nat) (ul1 : Value) (xs0 : Int32) (s0 : Nat) (hs0 : xs0 = nI s0) (h : F82_11  l0 s0 T = some r) : mm_L 82 11 [.ref l0, ul1] [.int xs0] (toS z T) = some (tR z r) := by
  unfold F82_11 at h
  refine Eq.trans (e82_11 ..) ?_
  exact (fb_if (cj_eq hs0 (rfl : (0 : Int32) = nI 0)) h (fun h1 => (G82_14  _ _ h1)) (fun h1 => (G82_26  _ _ h1)))
noncomputable def F82_7  (l0 : Nat) (T : fS) : Option fR := (fbn (fgi T l0 1 3) (fun v0 => F82_11  l0 v0 T))
theorem G82_7 {z : Option mm_O} {T : fS} {r : fR}  (l0 : Nat) (ul1 : Value) (h : F82_7  l0 T = some r) : mm_L 82 7 [.ref l0, ul1] [] (toS z T) = some (tR z r) := by
  unfold F82_7 at h
  refine Eq.trans (e82_7 ..) ?_
  exact (fb_n (fun _ q => fgi_ok q) h (fun v0 h2 => G82_11  _ _ _ _ rfl h2))
noncomputable def F82_4  (l0 : Nat) (s0 : Nat) (T : fS) : Option fR := (fif (ieq s0 0) (F82_26  l0 T) (F82_7  l0 T))
theorem G82_4 {z : Option mm_O} {T : fS} {r : fR}  (l0 : Nat) (ul1 : Value) (xs0 : Int32) (s0 : Nat) (hs0 : xs0 = nI s0) (h : F82_4  l0 s0 T = some r) : mm_L 82 4 [.ref l0, ul1] [.int xs0] (toS z T) = some (tR z r) := by
  unfold F82_4 at h
  refine Eq.trans (e82_4 ..) ?_
  exact (fb_if (cj_eq hs0 (rfl : (0 : Int32) = nI 0)) h (fun h1 => (G82_26  _ _ h1)) (fun h1 => (G82_7  _ _ h1)))
noncomputable def F82_0  (l0 : Nat) (T : fS) : Option fR := (fKi true (fif (fch T l0 1) (F11_0 l0  T) none) (fun v0 T1 => F82_4  l0 v0 T1))
theorem G82_0 {z : Option mm_O} {T : fS} {r : fR}  (l0 : Nat) (ul1 : Value) (h : F82_0  l0 T = some r) : mm_L 82 0 [.ref l0, ul1] [] (toS z T) = some (tR z r) := by
  unfold F82_0 at h
  refine Eq.trans (e82_0 ..) ?_
  exact (fb_K0i (fun _ q => fb_mo (y := 11) ow_11 q (fun q => GM11 _  q)) h (fun v0 T1 h2 => G82_4  _ _ _ _ rfl h2))
theorem GM82 {z : Option mm_O} {T : fS} {r : fR} (l0 : Nat) (h : F82_0 l0 T = some r) : mm_M 82 [.ref l0] (toS z T) = some (tR z r) := Eq.trans (M_82 ..) (G82_0 l0 _ h)
-- 83: HandArchive.letterReadBack
noncomputable def F83_42  (l0 : Nat) (l1 : Nat) (s0 : Nat) (T : fS) : Option fR := (some ((.inl (some (.inl s0)), T) : fR))
theorem G83_42 {z : Option mm_O} {T : fS} {r : fR}  (l0 : Nat) (xl1 : Int32) (l1 : Nat) (hl1 : xl1 = nI l1) (xs0 : Int32) (s0 : Nat) (hs0 : xs0 = nI s0) (h : F83_42  l0 l1 s0 T = some r) : mm_L 83 42 [.ref l0, .int xl1] [.int xs0] (toS z T) = some (tR z r) := by
  unfold F83_42 at h
  refine Eq.trans (e83_42 ..) ?_
  exact (fr_i hs0 h)
noncomputable def F83_37  (l0 : Nat) (l1 : Nat) (T : fS) : Option fR := (F83_42  l0 l1 l1 T)
theorem G83_37 {z : Option mm_O} {T : fS} {r : fR}  (l0 : Nat) (xl1 : Int32) (l1 : Nat) (hl1 : xl1 = nI l1) (h : F83_37  l0 l1 T = some r) : mm_L 83 37 [.ref l0, .int xl1] [] (toS z T) = some (tR z r) := by
  unfold F83_37 at h
  refine Eq.trans (e83_37 ..) ?_
  exact (G83_42  _ _ _ hl1 _ _ hl1 h)
noncomputable def F83_41  (l0 : Nat) (l1 : Nat) (T : fS) : Option fR := (F83_42  l0 l1 4294967295 T)
theorem G83_41 {z : Option mm_O} {T : fS} {r : fR}  (l0 : Nat) (xl1 : Int32) (l1 : Nat) (hl1 : xl1 = nI l1) (h : F83_41  l0 l1 T = some r) : mm_L 83 41 [.ref l0, .int xl1] [] (toS z T) = some (tR z r) := by
  unfold F83_41 at h
  refine Eq.trans (e83_41 ..) ?_
  exact (G83_42  _ _ _ hl1 _ _ (by decide : (-1 : Int32) = nI 4294967295) h)
noncomputable def F83_34  (l0 : Nat) (l1 : Nat) (s0 : Nat) (T : fS) : Option fR := (fif (ieq s0 0) (F83_41  l0 l1 T) (F83_37  l0 l1 T))
theorem G83_34 {z : Option mm_O} {T : fS} {r : fR}  (l0 : Nat) (xl1 : Int32) (l1 : Nat) (hl1 : xl1 = nI l1) (xs0 : Int32) (s0 : Nat) (hs0 : xs0 = nI s0) (h : F83_34  l0 l1 s0 T = some r) : mm_L 83 34 [.ref l0, .int xl1] [.int xs0] (toS z T) = some (tR z r) := by
  unfold F83_34 at h
  refine Eq.trans (e83_34 ..) ?_
  exact (fb_if (cj_eq hs0 (rfl : (0 : Int32) = nI 0)) h (fun h1 => (G83_41  _ _ _ hl1 h1)) (fun h1 => (G83_37  _ _ _ hl1 h1)))
noncomputable def F83_28  (l0 : Nat) (l1 : Nat) (T : fS) : Option fR := (fKi false (F101_0 l1 26 T) (fun v0 T1 => F83_34  l0 l1 v0 T1))
theorem G83_28 {z : Option mm_O} {T : fS} {r : fR}  (l0 : Nat) (xl1 : Int32) (l1 : Nat) (hl1 : xl1 = nI l1) (h : F83_28  l0 l1 T = some r) : mm_L 83 28 [.ref l0, .int xl1] [] (toS z T) = some (tR z r) := by
  unfold F83_28 at h
  refine Eq.trans (e83_28 ..) ?_
  exact (fb_K2i (fun _ q => GM101 _ _ hl1 _ _ (rfl : (26 : Int32) = nI 26) q) h (fun v0 T1 h2 => G83_34  _ _ _ hl1 _ _ rfl h2))
noncomputable def F83_24  (l0 : Nat) (l1 : Nat) (s0 : Nat) (T : fS) : Option fR := (fif (ieq s0 4) (F83_28  l0 l1 T) (F83_41  l0 l1 T))
theorem G83_24 {z : Option mm_O} {T : fS} {r : fR}  (l0 : Nat) (xl1 : Int32) (l1 : Nat) (hl1 : xl1 = nI l1) (xs0 : Int32) (s0 : Nat) (hs0 : xs0 = nI s0) (h : F83_24  l0 l1 s0 T = some r) : mm_L 83 24 [.ref l0, .int xl1] [.int xs0] (toS z T) = some (tR z r) := by
  unfold F83_24 at h
  refine Eq.trans (e83_24 ..) ?_
  exact (fb_if (cj_eq hs0 (rfl : (4 : Int32) = nI 4)) h (fun h1 => (G83_28  _ _ _ hl1 h1)) (fun h1 => (G83_41  _ _ _ hl1 h1)))
noncomputable def F83_20  (l0 : Nat) (l1 : Nat) (T : fS) : Option fR := (fbn (fgi T l0 1 1) (fun v0 => F83_24  l0 l1 v0 T))
theorem G83_20 {z : Option mm_O} {T : fS} {r : fR}  (l0 : Nat) (xl1 : Int32) (l1 : Nat) (hl1 : xl1 = nI l1) (h : F83_20  l0 l1 T = some r) : mm_L 83 20 [.ref l0, .int xl1] [] (toS z T) = some (tR z r) := by
  unfold F83_20 at h
  refine Eq.trans (e83_20 ..) ?_
  exact (fb_n (fun _ q => fgi_ok q) h (fun v0 h2 => G83_24  _ _ _ hl1 _ _ rfl h2))
noncomputable def F83_17  (l0 : Nat) (l1 : Nat) (s0 : Nat) (T : fS) : Option fR := (fif (ieq s0 0) (F83_41  l0 l1 T) (F83_20  l0 l1 T))
theorem G83_17 {z : Option mm_O} {T : fS} {r : fR}  (l0 : Nat) (xl1 : Int32) (l1 : Nat) (hl1 : xl1 = nI l1) (xs0 : Int32) (s0 : Nat) (hs0 : xs0 = nI s0) (h : F83_17  l0 l1 s0 T = some r) : mm_L 83 17 [.ref l0, .int xl1] [.int xs0] (toS z T) = some (tR z r) := by
  unfold F83_17 at h
  refine Eq.trans (e83_17 ..) ?_
  exact (fb_if (cj_eq hs0 (rfl : (0 : Int32) = nI 0)) h (fun h1 => (G83_41  _ _ _ hl1 h1)) (fun h1 => (G83_20  _ _ _ hl1 h1)))
noncomputable def F83_11  (l0 : Nat) (s0 : Nat) (s1 : Nat) (T : fS) : Option fR := (fKi true (fif (fch T l0 1) (F11_0 l0  T) none) (fun v0 T1 => F83_17  l0 (iA s1 s0) v0 T1))
theorem G83_11 {z : Option mm_O} {T : fS} {r : fR}  (l0 : Nat) (ul1 : Value) (xs0 : Int32) (s0 : Nat) (hs0 : xs0 = nI s0) (xs1 : Int32) (s1 : Nat) (hs1 : xs1 = nI s1) (h : F83_11  l0 s0 s1 T = some r) : mm_L 83 11 [.ref l0, ul1] [.int xs0, .int xs1] (toS z T) = some (tR z r) := by
  unfold F83_11 at h
  refine Eq.trans (e83_11 ..) ?_
  exact (fb_K0i (fun _ q => fb_mo (y := 11) ow_11 q (fun q => GM11 _  q)) h (fun v0 T1 h2 => G83_17  _ _ _ (iA_ok hs1 hs0) _ _ rfl h2))
noncomputable def F83_6  (l0 : Nat) (s0 : Nat) (s1 : Nat) (T : fS) : Option fR := (fbn (fgi T l0 1 0) (fun v0 => F83_11  l0 v0 (iM s1 s0) T))
theorem G83_6 {z : Option mm_O} {T : fS} {r : fR}  (l0 : Nat) (ul1 : Value) (xs0 : Int32) (s0 : Nat) (hs0 : xs0 = nI s0) (xs1 : Int32) (s1 : Nat) (hs1 : xs1 = nI s1) (h : F83_6  l0 s0 s1 T = some r) : mm_L 83 6 [.ref l0, ul1] [.int xs0, .int xs1] (toS z T) = some (tR z r) := by
  unfold F83_6 at h
  refine Eq.trans (e83_6 ..) ?_
  exact (fb_n (fun _ q => fgi_ok q) h (fun v0 h2 => G83_11  _ _ _ _ rfl _ _ (iM_ok hs1 hs0) h2))
noncomputable def F83_0  (l0 : Nat) (T : fS) : Option fR := (fbn (fgi T l0 1 3) (fun v0 => F83_6  l0 v0 8 T))
theorem G83_0 {z : Option mm_O} {T : fS} {r : fR}  (l0 : Nat) (ul1 : Value) (h : F83_0  l0 T = some r) : mm_L 83 0 [.ref l0, ul1] [] (toS z T) = some (tR z r) := by
  unfold F83_0 at h
  refine Eq.trans (e83_0 ..) ?_
  exact (fb_n (fun _ q => fgi_ok q) h (fun v0 h2 => G83_6  _ _ _ _ rfl _ _ (rfl : (8 : Int32) = nI 8) h2))
theorem GM83 {z : Option mm_O} {T : fS} {r : fR} (l0 : Nat) (h : F83_0 l0 T = some r) : mm_M 83 [.ref l0] (toS z T) = some (tR z r) := Eq.trans (M_83 ..) (G83_0 l0 _ h)
-- 104: HandArchive.distance
noncomputable def F104_20  (l0 : Nat) (l1 : Nat) (s0 : Nat) (s1 : Nat) (s2 : Nat) (T : fS) : Option fR := (some ((.inl (some (.inl (iA s2 (iab (iS s1 s0))))), T) : fR))
theorem G104_20 {z : Option mm_O} {T : fS} {r : fR}  (xl0 : Int32) (l0 : Nat) (hl0 : xl0 = nI l0) (xl1 : Int32) (l1 : Nat) (hl1 : xl1 = nI l1) (xs0 : Int32) (s0 : Nat) (hs0 : xs0 = nI s0) (xs1 : Int32) (s1 : Nat) (hs1 : xs1 = nI s1) (xs2 : Int32) (s2 : Nat) (hs2 : xs2 = nI s2) (h : F104_20  l0 l1 s0 s1 s2 T = some r) : mm_L 104 20 [.int xl0, .int xl1] [.int xs0, .int xs1, .int xs2] (toS z T) = some (tR z r) := by
  unfold F104_20 at h
  refine Eq.trans (e104_20 ..) ?_
  exact (fr_i (iA_ok hs2 (iab_ok (iS_ok hs1 hs0))) h)
noncomputable def F104_16  (l0 : Nat) (l1 : Nat) (s0 : Nat) (s1 : Nat) (T : fS) : Option fR := (fKi true (F103_0 l1 T) (fun v0 T1 => F104_20  l0 l1 v0 s0 s1 T1))
theorem G104_16 {z : Option mm_O} {T : fS} {r : fR}  (xl0 : Int32) (l0 : Nat) (hl0 : xl0 = nI l0) (xl1 : Int32) (l1 : Nat) (hl1 : xl1 = nI l1) (xs0 : Int32) (s0 : Nat) (hs0 : xs0 = nI s0) (xs1 : Int32) (s1 : Nat) (hs1 : xs1 = nI s1) (h : F104_16  l0 l1 s0 s1 T = some r) : mm_L 104 16 [.int xl0, .int xl1] [.int xs0, .int xs1] (toS z T) = some (tR z r) := by
  unfold F104_16 at h
  refine Eq.trans (e104_16 ..) ?_
  exact (fb_K0i (fun _ q => GM103 _ _ hl1 q) h (fun v0 T1 h2 => G104_20  _ _ hl0 _ _ hl1 _ _ rfl _ _ hs0 _ _ hs1 h2))
noncomputable def F104_8  (l0 : Nat) (l1 : Nat) (s0 : Nat) (s1 : Nat) (T : fS) : Option fR := (fKi true (F103_0 l0 T) (fun v0 T1 => F104_16  l0 l1 v0 (iab (iS s1 s0)) T1))
theorem G104_8 {z : Option mm_O} {T : fS} {r : fR}  (xl0 : Int32) (l0 : Nat) (hl0 : xl0 = nI l0) (xl1 : Int32) (l1 : Nat) (hl1 : xl1 = nI l1) (xs0 : Int32) (s0 : Nat) (hs0 : xs0 = nI s0) (xs1 : Int32) (s1 : Nat) (hs1 : xs1 = nI s1) (h : F104_8  l0 l1 s0 s1 T = some r) : mm_L 104 8 [.int xl0, .int xl1] [.int xs0, .int xs1] (toS z T) = some (tR z r) := by
  unfold F104_8 at h
  refine Eq.trans (e104_8 ..) ?_
  exact (fb_K0i (fun _ q => GM103 _ _ hl0 q) h (fun v0 T1 h2 => G104_16  _ _ hl0 _ _ hl1 _ _ rfl _ _ (iab_ok (iS_ok hs1 hs0)) h2))
noncomputable def F104_4  (l0 : Nat) (l1 : Nat) (s0 : Nat) (T : fS) : Option fR := (fKi true (F102_0 l1 T) (fun v0 T1 => F104_8  l0 l1 v0 s0 T1))
theorem G104_4 {z : Option mm_O} {T : fS} {r : fR}  (xl0 : Int32) (l0 : Nat) (hl0 : xl0 = nI l0) (xl1 : Int32) (l1 : Nat) (hl1 : xl1 = nI l1) (xs0 : Int32) (s0 : Nat) (hs0 : xs0 = nI s0) (h : F104_4  l0 l1 s0 T = some r) : mm_L 104 4 [.int xl0, .int xl1] [.int xs0] (toS z T) = some (tR z r) := by
  unfold F104_4 at h
  refine Eq.trans (e104_4 ..) ?_
  exact (fb_K0i (fun _ q => GM102 _ _ hl1 q) h (fun v0 T1 h2 => G104_8  _ _ hl0 _ _ hl1 _ _ rfl _ _ hs0 h2))
noncomputable def F104_0  (l0 : Nat) (l1 : Nat) (T : fS) : Option fR := (fKi true (F102_0 l0 T) (fun v0 T1 => F104_4  l0 l1 v0 T1))
theorem G104_0 {z : Option mm_O} {T : fS} {r : fR}  (xl0 : Int32) (l0 : Nat) (hl0 : xl0 = nI l0) (xl1 : Int32) (l1 : Nat) (hl1 : xl1 = nI l1) (h : F104_0  l0 l1 T = some r) : mm_L 104 0 [.int xl0, .int xl1] [] (toS z T) = some (tR z r) := by
  unfold F104_0 at h
  refine Eq.trans (e104_0 ..) ?_
  exact (fb_K0i (fun _ q => GM102 _ _ hl0 q) h (fun v0 T1 h2 => G104_4  _ _ hl0 _ _ hl1 _ _ rfl h2))
theorem GM104 {z : Option mm_O} {T : fS} {r : fR} (xl0 : Int32) (l0 : Nat) (hl0 : xl0 = nI l0) (xl1 : Int32) (l1 : Nat) (hl1 : xl1 = nI l1) (h : F104_0 l0 l1 T = some r) : mm_M 104 [.int xl0, .int xl1] (toS z T) = some (tR z r) := Eq.trans (M_104 ..) (G104_0 xl0 l0 hl0 xl1 l1 hl1 h)
-- 72: HandArchive.ticksOfPassing
noncomputable def F72_33  (l0 : Nat) (l1 : Nat) (T : fS) : Option fR := (some ((.inl (some (.inl 0)), T) : fR))
theorem G72_33 {z : Option mm_O} {T : fS} {r : fR}  (l0 : Nat) (l1 : Nat) (h : F72_33  l0 l1 T = some r) : mm_L 72 33 [.ref l0, .ref l1] [] (toS z T) = some (tR z r) := by
  unfold F72_33 at h
  refine Eq.trans (e72_33 ..) ?_
  exact (fr_i (rfl : (0 : Int32) = nI 0) h)
noncomputable def F72_47  (l0 : Nat) (l1 : Nat) (s0 : Nat) (s1 : Nat) (T : fS) : Option fR := (some ((.inl (some (.inl (imx s1 s0))), T) : fR))
theorem G72_47 {z : Option mm_O} {T : fS} {r : fR}  (l0 : Nat) (l1 : Nat) (xs0 : Int32) (s0 : Nat) (hs0 : xs0 = nI s0) (xs1 : Int32) (s1 : Nat) (hs1 : xs1 = nI s1) (h : F72_47  l0 l1 s0 s1 T = some r) : mm_L 72 47 [.ref l0, .ref l1] [.int xs0, .int xs1] (toS z T) = some (tR z r) := by
  unfold F72_47 at h
  refine Eq.trans (e72_47 ..) ?_
  exact (fr_i (imx_ok hs1 hs0) h)
noncomputable def F72_44  (l0 : Nat) (l1 : Nat) (s0 : Nat) (s1 : Nat) (s2 : Nat) (T : fS) : Option fR := (fKi true (F104_0 s1 s0 T) (fun v0 T1 => F72_47  l0 l1 v0 s2 T1))
theorem G72_44 {z : Option mm_O} {T : fS} {r : fR}  (l0 : Nat) (l1 : Nat) (xs0 : Int32) (s0 : Nat) (hs0 : xs0 = nI s0) (xs1 : Int32) (s1 : Nat) (hs1 : xs1 = nI s1) (xs2 : Int32) (s2 : Nat) (hs2 : xs2 = nI s2) (h : F72_44  l0 l1 s0 s1 s2 T = some r) : mm_L 72 44 [.ref l0, .ref l1] [.int xs0, .int xs1, .int xs2] (toS z T) = some (tR z r) := by
  unfold F72_44 at h
  refine Eq.trans (e72_44 ..) ?_
  exact (fb_K0i (fun _ q => GM104 _ _ hs1 _ _ hs0 q) h (fun v0 T1 h2 => G72_47  _ _ _ _ rfl _ _ hs2 h2))
noncomputable def F72_40  (l0 : Nat) (l1 : Nat) (s0 : Nat) (s1 : Nat) (T : fS) : Option fR := (fbn (fgi T l1 1 1) (fun v0 => F72_44  l0 l1 v0 s0 s1 T))
theorem G72_40 {z : Option mm_O} {T : fS} {r : fR}  (l0 : Nat) (l1 : Nat) (xs0 : Int32) (s0 : Nat) (hs0 : xs0 = nI s0) (xs1 : Int32) (s1 : Nat) (hs1 : xs1 = nI s1) (h : F72_40  l0 l1 s0 s1 T = some r) : mm_L 72 40 [.ref l0, .ref l1] [.int xs0, .int xs1] (toS z T) = some (tR z r) := by
  unfold F72_40 at h
  refine Eq.trans (e72_40 ..) ?_
  exact (fb_n (fun _ q => fgi_ok q) h (fun v0 h2 => G72_44  _ _ _ _ rfl _ _ hs0 _ _ hs1 h2))
noncomputable def F72_35  (l0 : Nat) (l1 : Nat) (T : fS) : Option fR := (fbn (fgi T l0 1 2) (fun v0 => F72_40  l0 l1 v0 1 T))
theorem G72_35 {z : Option mm_O} {T : fS} {r : fR}  (l0 : Nat) (l1 : Nat) (h : F72_35  l0 l1 T = some r) : mm_L 72 35 [.ref l0, .ref l1] [] (toS z T) = some (tR z r) := by
  unfold F72_35 at h
  refine Eq.trans (e72_35 ..) ?_
  exact (fb_n (fun _ q => fgi_ok q) h (fun v0 h2 => G72_40  _ _ _ _ rfl _ _ (rfl : (1 : Int32) = nI 1) h2))
noncomputable def F72_30  (l0 : Nat) (l1 : Nat) (s0 : Nat) (s1 : Nat) (T : fS) : Option fR := (fif (ieq s1 s0) (F72_33  l0 l1 T) (F72_35  l0 l1 T))
theorem G72_30 {z : Option mm_O} {T : fS} {r : fR}  (l0 : Nat) (l1 : Nat) (xs0 : Int32) (s0 : Nat) (hs0 : xs0 = nI s0) (xs1 : Int32) (s1 : Nat) (hs1 : xs1 = nI s1) (h : F72_30  l0 l1 s0 s1 T = some r) : mm_L 72 30 [.ref l0, .ref l1] [.int xs0, .int xs1] (toS z T) = some (tR z r) := by
  unfold F72_30 at h
  refine Eq.trans (e72_30 ..) ?_
  exact (fb_if (cj_eq hs1 hs0) h (fun h1 => (G72_33  _ _ h1)) (fun h1 => (G72_35  _ _ h1)))
noncomputable def F72_26  (l0 : Nat) (l1 : Nat) (s0 : Nat) (T : fS) : Option fR := (fbn (fgi T l1 1 3) (fun v0 => F72_30  l0 l1 v0 s0 T))
theorem G72_26 {z : Option mm_O} {T : fS} {r : fR}  (l0 : Nat) (l1 : Nat) (xs0 : Int32) (s0 : Nat) (hs0 : xs0 = nI s0) (h : F72_26  l0 l1 s0 T = some r) : mm_L 72 26 [.ref l0, .ref l1] [.int xs0] (toS z T) = some (tR z r) := by
  unfold F72_26 at h
  refine Eq.trans (e72_26 ..) ?_
  exact (fb_n (fun _ q => fgi_ok q) h (fun v0 h2 => G72_30  _ _ _ _ rfl _ _ hs0 h2))
noncomputable def F72_22  (l0 : Nat) (l1 : Nat) (T : fS) : Option fR := (fbn (fgi T l0 1 4) (fun v0 => F72_26  l0 l1 v0 T))
theorem G72_22 {z : Option mm_O} {T : fS} {r : fR}  (l0 : Nat) (l1 : Nat) (h : F72_22  l0 l1 T = some r) : mm_L 72 22 [.ref l0, .ref l1] [] (toS z T) = some (tR z r) := by
  unfold F72_22 at h
  refine Eq.trans (e72_22 ..) ?_
  exact (fb_n (fun _ q => fgi_ok q) h (fun v0 h2 => G72_26  _ _ _ _ rfl h2))
noncomputable def F72_19  (l0 : Nat) (l1 : Nat) (s0 : Nat) (s1 : Nat) (T : fS) : Option fR := (fif (ieq s1 s0) (F72_22  l0 l1 T) (F72_35  l0 l1 T))
theorem G72_19 {z : Option mm_O} {T : fS} {r : fR}  (l0 : Nat) (l1 : Nat) (xs0 : Int32) (s0 : Nat) (hs0 : xs0 = nI s0) (xs1 : Int32) (s1 : Nat) (hs1 : xs1 = nI s1) (h : F72_19  l0 l1 s0 s1 T = some r) : mm_L 72 19 [.ref l0, .ref l1] [.int xs0, .int xs1] (toS z T) = some (tR z r) := by
  unfold F72_19 at h
  refine Eq.trans (e72_19 ..) ?_
  exact (fb_if (cj_eq hs1 hs0) h (fun h1 => (G72_22  _ _ h1)) (fun h1 => (G72_35  _ _ h1)))
noncomputable def F72_15  (l0 : Nat) (l1 : Nat) (s0 : Nat) (T : fS) : Option fR := (fbn (fgi T l1 1 1) (fun v0 => F72_19  l0 l1 v0 s0 T))
theorem G72_15 {z : Option mm_O} {T : fS} {r : fR}  (l0 : Nat) (l1 : Nat) (xs0 : Int32) (s0 : Nat) (hs0 : xs0 = nI s0) (h : F72_15  l0 l1 s0 T = some r) : mm_L 72 15 [.ref l0, .ref l1] [.int xs0] (toS z T) = some (tR z r) := by
  unfold F72_15 at h
  refine Eq.trans (e72_15 ..) ?_
  exact (fb_n (fun _ q => fgi_ok q) h (fun v0 h2 => G72_19  _ _ _ _ rfl _ _ hs0 h2))
noncomputable def F72_11  (l0 : Nat) (l1 : Nat) (T : fS) : Option fR := (fbn (fgi T l0 1 2) (fun v0 => F72_15  l0 l1 v0 T))
theorem G72_11 {z : Option mm_O} {T : fS} {r : fR}  (l0 : Nat) (l1 : Nat) (h : F72_11  l0 l1 T = some r) : mm_L 72 11 [.ref l0, .ref l1] [] (toS z T) = some (tR z r) := by
  unfold F72_11 at h
  refine Eq.trans (e72_11 ..) ?_
  exact (fb_n (fun _ q => fgi_ok q) h (fun v0 h2 => G72_15  _ _ _ _ rfl h2))
noncomputable def F72_8  (l0 : Nat) (l1 : Nat) (s0 : Nat) (s1 : Nat) (T : fS) : Option fR := (fif (ieq s1 s0) (F72_11  l0 l1 T) (F72_35  l0 l1 T))
theorem G72_8 {z : Option mm_O} {T : fS} {r : fR}  (l0 : Nat) (l1 : Nat) (xs0 : Int32) (s0 : Nat) (hs0 : xs0 = nI s0) (xs1 : Int32) (s1 : Nat) (hs1 : xs1 = nI s1) (h : F72_8  l0 l1 s0 s1 T = some r) : mm_L 72 8 [.ref l0, .ref l1] [.int xs0, .int xs1] (toS z T) = some (tR z r) := by
  unfold F72_8 at h
  refine Eq.trans (e72_8 ..) ?_
  exact (fb_if (cj_eq hs1 hs0) h (fun h1 => (G72_11  _ _ h1)) (fun h1 => (G72_35  _ _ h1)))
noncomputable def F72_4  (l0 : Nat) (l1 : Nat) (s0 : Nat) (T : fS) : Option fR := (fbn (fgi T l1 1 0) (fun v0 => F72_8  l0 l1 v0 s0 T))
theorem G72_4 {z : Option mm_O} {T : fS} {r : fR}  (l0 : Nat) (l1 : Nat) (xs0 : Int32) (s0 : Nat) (hs0 : xs0 = nI s0) (h : F72_4  l0 l1 s0 T = some r) : mm_L 72 4 [.ref l0, .ref l1] [.int xs0] (toS z T) = some (tR z r) := by
  unfold F72_4 at h
  refine Eq.trans (e72_4 ..) ?_
  exact (fb_n (fun _ q => fgi_ok q) h (fun v0 h2 => G72_8  _ _ _ _ rfl _ _ hs0 h2))
noncomputable def F72_0  (l0 : Nat) (l1 : Nat) (T : fS) : Option fR := (fbn (fgi T l0 1 0) (fun v0 => F72_4  l0 l1 v0 T))
theorem G72_0 {z : Option mm_O} {T : fS} {r : fR}  (l0 : Nat) (l1 : Nat) (h : F72_0  l0 l1 T = some r) : mm_L 72 0 [.ref l0, .ref l1] [] (toS z T) = some (tR z r) := by
  unfold F72_0 at h
  refine Eq.trans (e72_0 ..) ?_
  exact (fb_n (fun _ q => fgi_ok q) h (fun v0 h2 => G72_4  _ _ _ _ rfl h2))
theorem GM72 {z : Option mm_O} {T : fS} {r : fR} (l0 : Nat) (l1 : Nat) (h : F72_0 l0 l1 T = some r) : mm_M 72 [.ref l0, .ref l1] (toS z T) = some (tR z r) := Eq.trans (M_72 ..) (G72_0 l0 l1 h)
-- 73: HandArchive.ticksOfItem
noncomputable def F73_18  (l0 : Nat) (T : fS) : Option fR := (some ((.inl (some (.inl 3)), T) : fR))
theorem G73_18 {z : Option mm_O} {T : fS} {r : fR}  (l0 : Nat) (h : F73_18  l0 T = some r) : mm_L 73 18 [.ref l0] [] (toS z T) = some (tR z r) := by
  unfold F73_18 at h
  refine Eq.trans (e73_18 ..) ?_
  exact (fr_i (rfl : (3 : Int32) = nI 3) h)
noncomputable def F73_33  (l0 : Nat) (s0 : Nat) (s1 : Nat) (s2 : Nat) (T : fS) : Option fR := (some ((.inl (some (.inl (iA (iA s2 (imx s1 s0)) 2))), T) : fR))
theorem G73_33 {z : Option mm_O} {T : fS} {r : fR}  (l0 : Nat) (xs0 : Int32) (s0 : Nat) (hs0 : xs0 = nI s0) (xs1 : Int32) (s1 : Nat) (hs1 : xs1 = nI s1) (xs2 : Int32) (s2 : Nat) (hs2 : xs2 = nI s2) (h : F73_33  l0 s0 s1 s2 T = some r) : mm_L 73 33 [.ref l0] [.int xs0, .int xs1, .int xs2] (toS z T) = some (tR z r) := by
  unfold F73_33 at h
  refine Eq.trans (e73_33 ..) ?_
  exact (fr_i (iA_ok (iA_ok hs2 (imx_ok hs1 hs0)) (rfl : (2 : Int32) = nI 2)) h)
noncomputable def F73_30  (l0 : Nat) (s0 : Nat) (s1 : Nat) (s2 : Nat) (s3 : Nat) (T : fS) : Option fR := (fKi true (F104_0 s1 s0 T) (fun v0 T1 => F73_33  l0 v0 s2 s3 T1))
theorem G73_30 {z : Option mm_O} {T : fS} {r : fR}  (l0 : Nat) (xs0 : Int32) (s0 : Nat) (hs0 : xs0 = nI s0) (xs1 : Int32) (s1 : Nat) (hs1 : xs1 = nI s1) (xs2 : Int32) (s2 : Nat) (hs2 : xs2 = nI s2) (xs3 : Int32) (s3 : Nat) (hs3 : xs3 = nI s3) (h : F73_30  l0 s0 s1 s2 s3 T = some r) : mm_L 73 30 [.ref l0] [.int xs0, .int xs1, .int xs2, .int xs3] (toS z T) = some (tR z r) := by
  unfold F73_30 at h
  refine Eq.trans (e73_30 ..) ?_
  exact (fb_K0i (fun _ q => GM104 _ _ hs1 _ _ hs0 q) h (fun v0 T1 h2 => G73_33  _ _ _ rfl _ _ hs2 _ _ hs3 h2))
noncomputable def F73_26  (l0 : Nat) (s0 : Nat) (s1 : Nat) (s2 : Nat) (T : fS) : Option fR := (fbn (fgi T l0 1 2) (fun v0 => F73_30  l0 v0 s0 s1 s2 T))
theorem G73_26 {z : Option mm_O} {T : fS} {r : fR}  (l0 : Nat) (xs0 : Int32) (s0 : Nat) (hs0 : xs0 = nI s0) (xs1 : Int32) (s1 : Nat) (hs1 : xs1 = nI s1) (xs2 : Int32) (s2 : Nat) (hs2 : xs2 = nI s2) (h : F73_26  l0 s0 s1 s2 T = some r) : mm_L 73 26 [.ref l0] [.int xs0, .int xs1, .int xs2] (toS z T) = some (tR z r) := by
  unfold F73_26 at h
  refine Eq.trans (e73_26 ..) ?_
  exact (fb_n (fun _ q => fgi_ok q) h (fun v0 h2 => G73_30  _ _ _ rfl _ _ hs0 _ _ hs1 _ _ hs2 h2))
noncomputable def F73_20  (l0 : Nat) (T : fS) : Option fR := (fbn (fgi T l0 1 1) (fun v0 => F73_26  l0 v0 1 2 T))
theorem G73_20 {z : Option mm_O} {T : fS} {r : fR}  (l0 : Nat) (h : F73_20  l0 T = some r) : mm_L 73 20 [.ref l0] [] (toS z T) = some (tR z r) := by
  unfold F73_20 at h
  refine Eq.trans (e73_20 ..) ?_
  exact (fb_n (fun _ q => fgi_ok q) h (fun v0 h2 => G73_26  _ _ _ rfl _ _ (rfl : (1 : Int32) = nI 1) _ _ (rfl : (2 : Int32) = nI 2) h2))
noncomputable def F73_15  (l0 : Nat) (s0 : Nat) (s1 : Nat) (T : fS) : Option fR := (fif (ieq s1 s0) (F73_18  l0 T) (F73_20  l0 T))
theorem G73_15 {z : Option mm_O} {T : fS} {r : fR}  (l0 : Nat) (xs0 : Int32) (s0 : Nat) (hs0 : xs0 = nI s0) (xs1 : Int32) (s1 : Nat) (hs1 : xs1 = nI s1) (h : F73_15  l0 s0 s1 T = some r) : mm_L 73 15 [.ref l0] [.int xs0, .int xs1] (toS z T) = some (tR z r) := by
  unfold F73_15 at h
  refine Eq.trans (e73_15 ..) ?_
  exact (fb_if (cj_eq hs1 hs0) h (fun h1 => (G73_18  _ h1)) (fun h1 => (G73_20  _ h1)))
noncomputable def F73_11  (l0 : Nat) (s0 : Nat) (T : fS) : Option fR := (fbn (fgi T l0 1 4) (fun v0 => F73_15  l0 v0 s0 T))
theorem G73_11 {z : Option mm_O} {T : fS} {r : fR}  (l0 : Nat) (xs0 : Int32) (s0 : Nat) (hs0 : xs0 = nI s0) (h : F73_11  l0 s0 T = some r) : mm_L 73 11 [.ref l0] [.int xs0] (toS z T) = some (tR z r) := by
  unfold F73_11 at h
  refine Eq.trans (e73_11 ..) ?_
  exact (fb_n (fun _ q => fgi_ok q) h (fun v0 h2 => G73_15  _ _ _ rfl _ _ hs0 h2))
noncomputable def F73_7  (l0 : Nat) (T : fS) : Option fR := (fbn (fgi T l0 1 3) (fun v0 => F73_11  l0 v0 T))
theorem G73_7 {z : Option mm_O} {T : fS} {r : fR}  (l0 : Nat) (h : F73_7  l0 T = some r) : mm_L 73 7 [.ref l0] [] (toS z T) = some (tR z r) := by
  unfold F73_7 at h
  refine Eq.trans (e73_7 ..) ?_
  exact (fb_n (fun _ q => fgi_ok q) h (fun v0 h2 => G73_11  _ _ _ rfl h2))
noncomputable def F73_4  (l0 : Nat) (s0 : Nat) (T : fS) : Option fR := (fif (ieq s0 0) (F73_7  l0 T) (F73_20  l0 T))
theorem G73_4 {z : Option mm_O} {T : fS} {r : fR}  (l0 : Nat) (xs0 : Int32) (s0 : Nat) (hs0 : xs0 = nI s0) (h : F73_4  l0 s0 T = some r) : mm_L 73 4 [.ref l0] [.int xs0] (toS z T) = some (tR z r) := by
  unfold F73_4 at h
  refine Eq.trans (e73_4 ..) ?_
  exact (fb_if (cj_eq hs0 (rfl : (0 : Int32) = nI 0)) h (fun h1 => (G73_7  _ h1)) (fun h1 => (G73_20  _ h1)))
noncomputable def F73_0  (l0 : Nat) (T : fS) : Option fR := (fKi true (fif (fch T l0 1) (F10_0 l0  T) none) (fun v0 T1 => F73_4  l0 v0 T1))
theorem G73_0 {z : Option mm_O} {T : fS} {r : fR}  (l0 : Nat) (h : F73_0  l0 T = some r) : mm_L 73 0 [.ref l0] [] (toS z T) = some (tR z r) := by
  unfold F73_0 at h
  refine Eq.trans (e73_0 ..) ?_
  exact (fb_K0i (fun _ q => fb_mo (y := 10) ow_10 q (fun q => GM10 _  q)) h (fun v0 T1 h2 => G73_4  _ _ _ rfl h2))
theorem GM73 {z : Option mm_O} {T : fS} {r : fR} (l0 : Nat) (h : F73_0 l0 T = some r) : mm_M 73 [.ref l0] (toS z T) = some (tR z r) := Eq.trans (M_73 ..) (G73_0 l0 h)
-- 76: HandArchive.placeInItem
noncomputable def F76_22  (l0 : Nat) (l1 : Nat) (s0 : Nat) (T : fS) : Option fR := (some ((.inl (some (.inl s0)), T) : fR))
theorem G76_22 {z : Option mm_O} {T : fS} {r : fR}  (l0 : Nat) (xl1 : Int32) (l1 : Nat) (hl1 : xl1 = nI l1) (xs0 : Int32) (s0 : Nat) (hs0 : xs0 = nI s0) (h : F76_22  l0 l1 s0 T = some r) : mm_L 76 22 [.ref l0, .int xl1] [.int xs0] (toS z T) = some (tR z r) := by
  unfold F76_22 at h
  refine Eq.trans (e76_22 ..) ?_
  exact (fr_i hs0 h)
noncomputable def F76_19  (l0 : Nat) (l1 : Nat) (s0 : Nat) (s1 : Nat) (s2 : Nat) (T : fS) : Option fR := (fKi true (F79_0 s2 s1 s0 T) (fun v0 T1 => F76_22  l0 l1 v0 T1))
theorem G76_19 {z : Option mm_O} {T : fS} {r : fR}  (l0 : Nat) (xl1 : Int32) (l1 : Nat) (hl1 : xl1 = nI l1) (xs0 : Int32) (s0 : Nat) (hs0 : xs0 = nI s0) (xs1 : Int32) (s1 : Nat) (hs1 : xs1 = nI s1) (xs2 : Int32) (s2 : Nat) (hs2 : xs2 = nI s2) (h : F76_19  l0 l1 s0 s1 s2 T = some r) : mm_L 76 19 [.ref l0, .int xl1] [.int xs0, .int xs1, .int xs2] (toS z T) = some (tR z r) := by
  unfold F76_19 at h
  refine Eq.trans (e76_19 ..) ?_
  exact (fb_K0i (fun _ q => GM79 _ _ hs2 _ _ hs1 _ _ hs0 q) h (fun v0 T1 h2 => G76_22  _ _ _ hl1 _ _ rfl h2))
noncomputable def F76_14  (l0 : Nat) (l1 : Nat) (s0 : Nat) (s1 : Nat) (T : fS) : Option fR := (fKi true (F78_0 l0 l1 T) (fun v0 T1 => F76_19  l0 l1 v0 s0 s1 T1))
theorem G76_14 {z : Option mm_O} {T : fS} {r : fR}  (l0 : Nat) (xl1 : Int32) (l1 : Nat) (hl1 : xl1 = nI l1) (xs0 : Int32) (s0 : Nat) (hs0 : xs0 = nI s0) (xs1 : Int32) (s1 : Nat) (hs1 : xs1 = nI s1) (h : F76_14  l0 l1 s0 s1 T = some r) : mm_L 76 14 [.ref l0, .int xl1] [.int xs0, .int xs1] (toS z T) = some (tR z r) := by
  unfold F76_14 at h
  refine Eq.trans (e76_14 ..) ?_
  exact (fb_K0i (fun _ q => GM78 _ _ _ hl1 q) h (fun v0 T1 h2 => G76_19  _ _ _ hl1 _ _ rfl _ _ hs0 _ _ hs1 h2))
noncomputable def F76_11  (l0 : Nat) (l1 : Nat) (s0 : Nat) (s1 : Nat) (T : fS) : Option fR := (fbn (fgi T s0 1 2) (fun v0 => F76_14  l0 l1 v0 s1 T))
theorem G76_11 {z : Option mm_O} {T : fS} {r : fR}  (l0 : Nat) (xl1 : Int32) (l1 : Nat) (hl1 : xl1 = nI l1) (s0 : Nat) (xs1 : Int32) (s1 : Nat) (hs1 : xs1 = nI s1) (h : F76_11  l0 l1 s0 s1 T = some r) : mm_L 76 11 [.ref l0, .int xl1] [.ref s0, .int xs1] (toS z T) = some (tR z r) := by
  unfold F76_11 at h
  refine Eq.trans (e76_11 ..) ?_
  exact (fb_n (fun _ q => fgi_ok q) h (fun v0 h2 => G76_14  _ _ _ hl1 _ _ rfl _ _ hs1 h2))
noncomputable def F76_7  (l0 : Nat) (l1 : Nat) (s0 : Nat) (T : fS) : Option fR := (fbv (fgr T l0 2 4) (fun v0 => F76_11  l0 l1 v0 s0 T) ((none : Option fR)))
theorem G76_7 {z : Option mm_O} {T : fS} {r : fR}  (l0 : Nat) (xl1 : Int32) (l1 : Nat) (hl1 : xl1 = nI l1) (xs0 : Int32) (s0 : Nat) (hs0 : xs0 = nI s0) (h : F76_7  l0 l1 s0 T = some r) : mm_L 76 7 [.ref l0, .int xl1] [.int xs0] (toS z T) = some (tR z r) := by
  unfold F76_7 at h
  refine Eq.trans (e76_7 ..) ?_
  exact (fb_v (fun _ q => fgr_ok q) h (fun v0 h2 => G76_11  _ _ _ hl1 _ _ _ hs0 h2) (fun h2 => fr_n h2))
noncomputable def F76_4  (l0 : Nat) (l1 : Nat) (s0 : Nat) (T : fS) : Option fR := (fbn (fgi T s0 1 1) (fun v0 => F76_7  l0 l1 v0 T))
theorem G76_4 {z : Option mm_O} {T : fS} {r : fR}  (l0 : Nat) (xl1 : Int32) (l1 : Nat) (hl1 : xl1 = nI l1) (s0 : Nat) (h : F76_4  l0 l1 s0 T = some r) : mm_L 76 4 [.ref l0, .int xl1] [.ref s0] (toS z T) = some (tR z r) := by
  unfold F76_4 at h
  refine Eq.trans (e76_4 ..) ?_
  exact (fb_n (fun _ q => fgi_ok q) h (fun v0 h2 => G76_7  _ _ _ hl1 _ _ rfl h2))
noncomputable def F76_0  (l0 : Nat) (l1 : Nat) (T : fS) : Option fR := (fbv (fgr T l0 2 4) (fun v0 => F76_4  l0 l1 v0 T) ((none : Option fR)))
theorem G76_0 {z : Option mm_O} {T : fS} {r : fR}  (l0 : Nat) (xl1 : Int32) (l1 : Nat) (hl1 : xl1 = nI l1) (h : F76_0  l0 l1 T = some r) : mm_L 76 0 [.ref l0, .int xl1] [] (toS z T) = some (tR z r) := by
  unfold F76_0 at h
  refine Eq.trans (e76_0 ..) ?_
  exact (fb_v (fun _ q => fgr_ok q) h (fun v0 h2 => G76_4  _ _ _ hl1 _ h2) (fun h2 => fr_n h2))
theorem GM76 {z : Option mm_O} {T : fS} {r : fR} (l0 : Nat) (xl1 : Int32) (l1 : Nat) (hl1 : xl1 = nI l1) (h : F76_0 l0 l1 T = some r) : mm_M 76 [.ref l0, .int xl1] (toS z T) = some (tR z r) := Eq.trans (M_76 ..) (G76_0 l0 xl1 l1 hl1 h)
-- 77: HandArchive.turnInItem
noncomputable def F77_25  (l0 : Nat) (l1 : Nat) (s0 : Nat) (T : fS) : Option fR := (some ((.inl (some (.inl s0)), T) : fR))
theorem G77_25 {z : Option mm_O} {T : fS} {r : fR}  (l0 : Nat) (xl1 : Int32) (l1 : Nat) (hl1 : xl1 = nI l1) (xs0 : Int32) (s0 : Nat) (hs0 : xs0 = nI s0) (h : F77_25  l0 l1 s0 T = some r) : mm_L 77 25 [.ref l0, .int xl1] [.int xs0] (toS z T) = some (tR z r) := by
  unfold F77_25 at h
  refine Eq.trans (e77_25 ..) ?_
  exact (fr_i hs0 h)
noncomputable def F77_15  (l0 : Nat) (l1 : Nat) (s0 : Nat) (T : fS) : Option fR := (F77_25  l0 l1 s0 T)
theorem G77_15 {z : Option mm_O} {T : fS} {r : fR}  (l0 : Nat) (xl1 : Int32) (l1 : Nat) (hl1 : xl1 = nI l1) (xs0 : Int32) (s0 : Nat) (hs0 : xs0 = nI s0) (h : F77_15  l0 l1 s0 T = some r) : mm_L 77 15 [.ref l0, .int xl1] [.int xs0] (toS z T) = some (tR z r) := by
  unfold F77_15 at h
  refine Eq.trans (e77_15 ..) ?_
  exact (G77_25  _ _ _ hl1 _ _ hs0 h)
noncomputable def F77_12  (l0 : Nat) (l1 : Nat) (s0 : Nat) (T : fS) : Option fR := (fbn (fgi T s0 1 4) (fun v0 => F77_15  l0 l1 v0 T))
theorem G77_12 {z : Option mm_O} {T : fS} {r : fR}  (l0 : Nat) (xl1 : Int32) (l1 : Nat) (hl1 : xl1 = nI l1) (s0 : Nat) (h : F77_12  l0 l1 s0 T = some r) : mm_L 77 12 [.ref l0, .int xl1] [.ref s0] (toS z T) = some (tR z r) := by
  unfold F77_12 at h
  refine Eq.trans (e77_12 ..) ?_
  exact (fb_n (fun _ q => fgi_ok q) h (fun v0 h2 => G77_15  _ _ _ hl1 _ _ rfl h2))
noncomputable def F77_8  (l0 : Nat) (l1 : Nat) (T : fS) : Option fR := (fbv (fgr T l0 2 4) (fun v0 => F77_12  l0 l1 v0 T) ((none : Option fR)))
theorem G77_8 {z : Option mm_O} {T : fS} {r : fR}  (l0 : Nat) (xl1 : Int32) (l1 : Nat) (hl1 : xl1 = nI l1) (h : F77_8  l0 l1 T = some r) : mm_L 77 8 [.ref l0, .int xl1] [] (toS z T) = some (tR z r) := by
  unfold F77_8 at h
  refine Eq.trans (e77_8 ..) ?_
  exact (fb_v (fun _ q => fgr_ok q) h (fun v0 h2 => G77_12  _ _ _ hl1 _ h2) (fun h2 => fr_n h2))
noncomputable def F77_22  (l0 : Nat) (l1 : Nat) (s0 : Nat) (T : fS) : Option fR := (fbn (fgi T s0 1 3) (fun v0 => F77_25  l0 l1 v0 T))
theorem G77_22 {z : Option mm_O} {T : fS} {r : fR}  (l0 : Nat) (xl1 : Int32) (l1 : Nat) (hl1 : xl1 = nI l1) (s0 : Nat) (h : F77_22  l0 l1 s0 T = some r) : mm_L 77 22 [.ref l0, .int xl1] [.ref s0] (toS z T) = some (tR z r) := by
  unfold F77_22 at h
  refine Eq.trans (e77_22 ..) ?_
  exact (fb_n (fun _ q => fgi_ok q) h (fun v0 h2 => G77_25  _ _ _ hl1 _ _ rfl h2))
noncomputable def F77_18  (l0 : Nat) (l1 : Nat) (T : fS) : Option fR := (fbv (fgr T l0 2 4) (fun v0 => F77_22  l0 l1 v0 T) ((none : Option fR)))
theorem G77_18 {z : Option mm_O} {T : fS} {r : fR}  (l0 : Nat) (xl1 : Int32) (l1 : Nat) (hl1 : xl1 = nI l1) (h : F77_18  l0 l1 T = some r) : mm_L 77 18 [.ref l0, .int xl1] [] (toS z T) = some (tR z r) := by
  unfold F77_18 at h
  refine Eq.trans (e77_18 ..) ?_
  exact (fb_v (fun _ q => fgr_ok q) h (fun v0 h2 => G77_22  _ _ _ hl1 _ h2) (fun h2 => fr_n h2))
noncomputable def F77_5  (l0 : Nat) (l1 : Nat) (s0 : Nat) (T : fS) : Option fR := (fif (ile s0 0) (F77_18  l0 l1 T) (F77_8  l0 l1 T))
theorem G77_5 {z : Option mm_O} {T : fS} {r : fR}  (l0 : Nat) (xl1 : Int32) (l1 : Nat) (hl1 : xl1 = nI l1) (xs0 : Int32) (s0 : Nat) (hs0 : xs0 = nI s0) (h : F77_5  l0 l1 s0 T = some r) : mm_L 77 5 [.ref l0, .int xl1] [.int xs0] (toS z T) = some (tR z r) := by
  unfold F77_5 at h
  refine Eq.trans (e77_5 ..) ?_
  exact (fb_if (cj_le hs0 (rfl : (0 : Int32) = nI 0)) h (fun h1 => (G77_18  _ _ _ hl1 h1)) (fun h1 => (G77_8  _ _ _ hl1 h1)))
noncomputable def F77_0  (l0 : Nat) (l1 : Nat) (T : fS) : Option fR := (fKi true (F78_0 l0 l1 T) (fun v0 T1 => F77_5  l0 l1 v0 T1))
theorem G77_0 {z : Option mm_O} {T : fS} {r : fR}  (l0 : Nat) (xl1 : Int32) (l1 : Nat) (hl1 : xl1 = nI l1) (h : F77_0  l0 l1 T = some r) : mm_L 77 0 [.ref l0, .int xl1] [] (toS z T) = some (tR z r) := by
  unfold F77_0 at h
  refine Eq.trans (e77_0 ..) ?_
  exact (fb_K0i (fun _ q => GM78 _ _ _ hl1 q) h (fun v0 T1 h2 => G77_5  _ _ _ hl1 _ _ rfl h2))
theorem GM77 {z : Option mm_O} {T : fS} {r : fR} (l0 : Nat) (xl1 : Int32) (l1 : Nat) (hl1 : xl1 = nI l1) (h : F77_0 l0 l1 T = some r) : mm_M 77 [.ref l0, .int xl1] (toS z T) = some (tR z r) := Eq.trans (M_77 ..) (G77_0 l0 xl1 l1 hl1 h)
-- 3: HandArchive$Clip.countMarks
noncomputable def F3_40 (k5 : Nat → Nat → Nat → Nat → Nat → fS → Option fR) (l0 : Nat) (l1 : Nat) (l2 : Nat) (l3 : Nat) (l4 : Nat) (T : fS) : Option fR := (k5 l0 l1 l2 l3 (iA l4 1) T)
theorem G3_40 {z : Option mm_O} {T : fS} {r : fR} (k5 : Nat → Nat → Nat → Nat → Nat → fS → Option fR) (hk5 : ∀ (l0 : Nat) (xl1 : Int32) (l1 : Nat) (hl1 : xl1 = nI l1) (xl2 : Int32) (l2 : Nat) (hl2 : xl2 = nI l2) (xl3 : Int32) (l3 : Nat) (hl3 : xl3 = nI l3) (xl4 : Int32) (l4 : Nat) (hl4 : xl4 = nI l4) (T : fS) (r : fR), k5 l0 l1 l2 l3 l4 T = some r → mm_L 3 5 [.ref l0, .int xl1, .int xl2, .int xl3, .int xl4] [] (toS z T) = some (tR z r)) (l0 : Nat) (xl1 : Int32) (l1 : Nat) (hl1 : xl1 = nI l1) (xl2 : Int32) (l2 : Nat) (hl2 : xl2 = nI l2) (xl3 : Int32) (l3 : Nat) (hl3 : xl3 = nI l3) (xl4 : Int32) (l4 : Nat) (hl4 : xl4 = nI l4) (h : F3_40 k5 l0 l1 l2 l3 l4 T = some r) : mm_L 3 40 [.ref l0, .int xl1, .int xl2, .int xl3, .int xl4] [] (toS z T) = some (tR z r) := by
  unfold F3_40 at h
  refine Eq.trans (e3_40 ..) ?_
  exact (hk5 _ _ _ hl1 _ _ hl2 _ _ hl3 _ _ (iA_ok hl4 (rfl : (1 : Int32) = nI 1)) _ _ h)
noncomputable def F3_37 (k5 : Nat → Nat → Nat → Nat → Nat → fS → Option fR) (l0 : Nat) (l1 : Nat) (l2 : Nat) (l3 : Nat) (l4 : Nat) (T : fS) : Option fR := (F3_40 k5 l0 l1 l2 (iA l3 1) l4 T)
theorem G3_37 {z : Option mm_O} {T : fS} {r : fR} (k5 : Nat → Nat → Nat → Nat → Nat → fS → Option fR) (hk5 : ∀ (l0 : Nat) (xl1 : Int32) (l1 : Nat) (hl1 : xl1 = nI l1) (xl2 : Int32) (l2 : Nat) (hl2 : xl2 = nI l2) (xl3 : Int32) (l3 : Nat) (hl3 : xl3 = nI l3) (xl4 : Int32) (l4 : Nat) (hl4 : xl4 = nI l4) (T : fS) (r : fR), k5 l0 l1 l2 l3 l4 T = some r → mm_L 3 5 [.ref l0, .int xl1, .int xl2, .int xl3, .int xl4] [] (toS z T) = some (tR z r)) (l0 : Nat) (xl1 : Int32) (l1 : Nat) (hl1 : xl1 = nI l1) (xl2 : Int32) (l2 : Nat) (hl2 : xl2 = nI l2) (xl3 : Int32) (l3 : Nat) (hl3 : xl3 = nI l3) (xl4 : Int32) (l4 : Nat) (hl4 : xl4 = nI l4) (h : F3_37 k5 l0 l1 l2 l3 l4 T = some r) : mm_L 3 37 [.ref l0, .int xl1, .int xl2, .int xl3, .int xl4] [] (toS z T) = some (tR z r) := by
  unfold F3_37 at h
  refine Eq.trans (e3_37 ..) ?_
  exact (G3_40 k5 hk5 _ _ _ hl1 _ _ hl2 _ _ (iA_ok hl3 (rfl : (1 : Int32) = nI 1)) _ _ hl4 h)
noncomputable def F3_34 (k5 : Nat → Nat → Nat → Nat → Nat → fS → Option fR) (l0 : Nat) (l1 : Nat) (l2 : Nat) (l3 : Nat) (l4 : Nat) (s0 : Nat) (T : fS) : Option fR := (fif (ieq s0 0) (F3_40 k5 l0 l1 l2 l3 l4 T) (F3_37 k5 l0 l1 l2 l3 l4 T))
theorem G3_34 {z : Option mm_O} {T : fS} {r : fR} (k5 : Nat → Nat → Nat → Nat → Nat → fS → Option fR) (hk5 : ∀ (l0 : Nat) (xl1 : Int32) (l1 : Nat) (hl1 : xl1 = nI l1) (xl2 : Int32) (l2 : Nat) (hl2 : xl2 = nI l2) (xl3 : Int32) (l3 : Nat) (hl3 : xl3 = nI l3) (xl4 : Int32) (l4 : Nat) (hl4 : xl4 = nI l4) (T : fS) (r : fR), k5 l0 l1 l2 l3 l4 T = some r → mm_L 3 5 [.ref l0, .int xl1, .int xl2, .int xl3, .int xl4] [] (toS z T) = some (tR z r)) (l0 : Nat) (xl1 : Int32) (l1 : Nat) (hl1 : xl1 = nI l1) (xl2 : Int32) (l2 : Nat) (hl2 : xl2 = nI l2) (xl3 : Int32) (l3 : Nat) (hl3 : xl3 = nI l3) (xl4 : Int32) (l4 : Nat) (hl4 : xl4 = nI l4) (xs0 : Int32) (s0 : Nat) (hs0 : xs0 = nI s0) (h : F3_34 k5 l0 l1 l2 l3 l4 s0 T = some r) : mm_L 3 34 [.ref l0, .int xl1, .int xl2, .int xl3, .int xl4] [.int xs0] (toS z T) = some (tR z r) := by
  unfold F3_34 at h
  refine Eq.trans (e3_34 ..) ?_
  exact (fb_if (cj_eq hs0 (rfl : (0 : Int32) = nI 0)) h (fun h1 => (G3_40 k5 hk5 _ _ _ hl1 _ _ hl2 _ _ hl3 _ _ hl4 h1)) (fun h1 => (G3_37 k5 hk5 _ _ _ hl1 _ _ hl2 _ _ hl3 _ _ hl4 h1)))
noncomputable def F3_29 (k5 : Nat → Nat → Nat → Nat → Nat → fS → Option fR) (l0 : Nat) (l1 : Nat) (l2 : Nat) (l3 : Nat) (l4 : Nat) (s0 : Nat) (T : fS) : Option fR := (fKi true (fif (fch T s0 3) (F16_0 s0 l1 l2 T) none) (fun v0 T1 => F3_34 k5 l0 l1 l2 l3 l4 v0 T1))
theorem G3_29 {z : Option mm_O} {T : fS} {r : fR} (k5 : Nat → Nat → Nat → Nat → Nat → fS → Option fR) (hk5 : ∀ (l0 : Nat) (xl1 : Int32) (l1 : Nat) (hl1 : xl1 = nI l1) (xl2 : Int32) (l2 : Nat) (hl2 : xl2 = nI l2) (xl3 : Int32) (l3 : Nat) (hl3 : xl3 = nI l3) (xl4 : Int32) (l4 : Nat) (hl4 : xl4 = nI l4) (T : fS) (r : fR), k5 l0 l1 l2 l3 l4 T = some r → mm_L 3 5 [.ref l0, .int xl1, .int xl2, .int xl3, .int xl4] [] (toS z T) = some (tR z r)) (l0 : Nat) (xl1 : Int32) (l1 : Nat) (hl1 : xl1 = nI l1) (xl2 : Int32) (l2 : Nat) (hl2 : xl2 = nI l2) (xl3 : Int32) (l3 : Nat) (hl3 : xl3 = nI l3) (xl4 : Int32) (l4 : Nat) (hl4 : xl4 = nI l4) (s0 : Nat) (h : F3_29 k5 l0 l1 l2 l3 l4 s0 T = some r) : mm_L 3 29 [.ref l0, .int xl1, .int xl2, .int xl3, .int xl4] [.ref s0] (toS z T) = some (tR z r) := by
  unfold F3_29 at h
  refine Eq.trans (e3_29 ..) ?_
  exact (fb_K0i (fun _ q => fb_mo (y := 16) ow_16 q (fun q => GM16 _ _ _ hl1 _ _ hl2 q)) h (fun v0 T1 h2 => G3_34 k5 hk5 _ _ _ hl1 _ _ hl2 _ _ hl3 _ _ hl4 _ _ rfl h2))
noncomputable def F3_26 (k5 : Nat → Nat → Nat → Nat → Nat → fS → Option fR) (l0 : Nat) (l1 : Nat) (l2 : Nat) (l3 : Nat) (l4 : Nat) (s0 : Nat) (T : fS) : Option fR := (fif (fch T s0 3) (F3_29 k5 l0 l1 l2 l3 l4 s0 T) none)
theorem G3_26 {z : Option mm_O} {T : fS} {r : fR} (k5 : Nat → Nat → Nat → Nat → Nat → fS → Option fR) (hk5 : ∀ (l0 : Nat) (xl1 : Int32) (l1 : Nat) (hl1 : xl1 = nI l1) (xl2 : Int32) (l2 : Nat) (hl2 : xl2 = nI l2) (xl3 : Int32) (l3 : Nat) (hl3 : xl3 = nI l3) (xl4 : Int32) (l4 : Nat) (hl4 : xl4 = nI l4) (T : fS) (r : fR), k5 l0 l1 l2 l3 l4 T = some r → mm_L 3 5 [.ref l0, .int xl1, .int xl2, .int xl3, .int xl4] [] (toS z T) = some (tR z r)) (l0 : Nat) (xl1 : Int32) (l1 : Nat) (hl1 : xl1 = nI l1) (xl2 : Int32) (l2 : Nat) (hl2 : xl2 = nI l2) (xl3 : Int32) (l3 : Nat) (hl3 : xl3 = nI l3) (xl4 : Int32) (l4 : Nat) (hl4 : xl4 = nI l4) (s0 : Nat) (h : F3_26 k5 l0 l1 l2 l3 l4 s0 T = some r) : mm_L 3 26 [.ref l0, .int xl1, .int xl2, .int xl3, .int xl4] [.ref s0] (toS z T) = some (tR z r) := by
  unfold F3_26 at h
  refine Eq.trans (e3_26 ..) ?_
  exact (fb_c h (fun h2 => G3_29 k5 hk5 _ _ _ hl1 _ _ hl2 _ _ hl3 _ _ hl4 _ h2))
noncomputable def F3_21 (k5 : Nat → Nat → Nat → Nat → Nat → fS → Option fR) (l0 : Nat) (l1 : Nat) (l2 : Nat) (l3 : Nat) (l4 : Nat) (s0 : Nat) (T : fS) : Option fR := (fbn (flg T s0 l4) (fun v0 => F3_26 k5 l0 l1 l2 l3 l4 v0 T))
theorem G3_21 {z : Option mm_O} {T : fS} {r : fR} (k5 : Nat → Nat → Nat → Nat → Nat → fS → Option fR) (hk5 : ∀ (l0 : Nat) (xl1 : Int32) (l1 : Nat) (hl1 : xl1 = nI l1) (xl2 : Int32) (l2 : Nat) (hl2 : xl2 = nI l2) (xl3 : Int32) (l3 : Nat) (hl3 : xl3 = nI l3) (xl4 : Int32) (l4 : Nat) (hl4 : xl4 = nI l4) (T : fS) (r : fR), k5 l0 l1 l2 l3 l4 T = some r → mm_L 3 5 [.ref l0, .int xl1, .int xl2, .int xl3, .int xl4] [] (toS z T) = some (tR z r)) (l0 : Nat) (xl1 : Int32) (l1 : Nat) (hl1 : xl1 = nI l1) (xl2 : Int32) (l2 : Nat) (hl2 : xl2 = nI l2) (xl3 : Int32) (l3 : Nat) (hl3 : xl3 = nI l3) (xl4 : Int32) (l4 : Nat) (hl4 : xl4 = nI l4) (s0 : Nat) (h : F3_21 k5 l0 l1 l2 l3 l4 s0 T = some r) : mm_L 3 21 [.ref l0, .int xl1, .int xl2, .int xl3, .int xl4] [.ref s0] (toS z T) = some (tR z r) := by
  unfold F3_21 at h
  refine Eq.trans (e3_21 ..) ?_
  exact (fb_g (fun _ q => by rw [hl4]; exact flg_ok q) h (fun v0 h2 => G3_26 k5 hk5 _ _ _ hl1 _ _ hl2 _ _ hl3 _ _ hl4 _ h2))
noncomputable def F3_17 (k5 : Nat → Nat → Nat → Nat → Nat → fS → Option fR) (l0 : Nat) (l1 : Nat) (l2 : Nat) (l3 : Nat) (l4 : Nat) (T : fS) : Option fR := (fbv (fgr T l0 0 4) (fun v0 => F3_21 k5 l0 l1 l2 l3 l4 v0 T) ((none : Option fR)))
theorem G3_17 {z : Option mm_O} {T : fS} {r : fR} (k5 : Nat → Nat → Nat → Nat → Nat → fS → Option fR) (hk5 : ∀ (l0 : Nat) (xl1 : Int32) (l1 : Nat) (hl1 : xl1 = nI l1) (xl2 : Int32) (l2 : Nat) (hl2 : xl2 = nI l2) (xl3 : Int32) (l3 : Nat) (hl3 : xl3 = nI l3) (xl4 : Int32) (l4 : Nat) (hl4 : xl4 = nI l4) (T : fS) (r : fR), k5 l0 l1 l2 l3 l4 T = some r → mm_L 3 5 [.ref l0, .int xl1, .int xl2, .int xl3, .int xl4] [] (toS z T) = some (tR z r)) (l0 : Nat) (xl1 : Int32) (l1 : Nat) (hl1 : xl1 = nI l1) (xl2 : Int32) (l2 : Nat) (hl2 : xl2 = nI l2) (xl3 : Int32) (l3 : Nat) (hl3 : xl3 = nI l3) (xl4 : Int32) (l4 : Nat) (hl4 : xl4 = nI l4) (h : F3_17 k5 l0 l1 l2 l3 l4 T = some r) : mm_L 3 17 [.ref l0, .int xl1, .int xl2, .int xl3, .int xl4] [] (toS z T) = some (tR z r) := by
  unfold F3_17 at h
  refine Eq.trans (e3_17 ..) ?_
  exact (fb_v (fun _ q => fgr_ok q) h (fun v0 h2 => G3_21 k5 hk5 _ _ _ hl1 _ _ hl2 _ _ hl3 _ _ hl4 _ h2) (fun h2 => fr_n h2))
noncomputable def F3_46  (l0 : Nat) (l1 : Nat) (l2 : Nat) (l3 : Nat) (l4 : Nat) (T : fS) : Option fR := (some ((.inl (some (.inl l3)), T) : fR))
theorem G3_46 {z : Option mm_O} {T : fS} {r : fR}  (l0 : Nat) (xl1 : Int32) (l1 : Nat) (hl1 : xl1 = nI l1) (xl2 : Int32) (l2 : Nat) (hl2 : xl2 = nI l2) (xl3 : Int32) (l3 : Nat) (hl3 : xl3 = nI l3) (xl4 : Int32) (l4 : Nat) (hl4 : xl4 = nI l4) (h : F3_46  l0 l1 l2 l3 l4 T = some r) : mm_L 3 46 [.ref l0, .int xl1, .int xl2, .int xl3, .int xl4] [] (toS z T) = some (tR z r) := by
  unfold F3_46 at h
  refine Eq.trans (e3_46 ..) ?_
  exact (fr_i hl3 h)
noncomputable def F3_14 (k5 : Nat → Nat → Nat → Nat → Nat → fS → Option fR) (l0 : Nat) (l1 : Nat) (l2 : Nat) (l3 : Nat) (l4 : Nat) (s0 : Nat) (s1 : Nat) (T : fS) : Option fR := (fif (ile s0 s1) (F3_46  l0 l1 l2 l3 l4 T) (F3_17 k5 l0 l1 l2 l3 l4 T))
theorem G3_14 {z : Option mm_O} {T : fS} {r : fR} (k5 : Nat → Nat → Nat → Nat → Nat → fS → Option fR) (hk5 : ∀ (l0 : Nat) (xl1 : Int32) (l1 : Nat) (hl1 : xl1 = nI l1) (xl2 : Int32) (l2 : Nat) (hl2 : xl2 = nI l2) (xl3 : Int32) (l3 : Nat) (hl3 : xl3 = nI l3) (xl4 : Int32) (l4 : Nat) (hl4 : xl4 = nI l4) (T : fS) (r : fR), k5 l0 l1 l2 l3 l4 T = some r → mm_L 3 5 [.ref l0, .int xl1, .int xl2, .int xl3, .int xl4] [] (toS z T) = some (tR z r)) (l0 : Nat) (xl1 : Int32) (l1 : Nat) (hl1 : xl1 = nI l1) (xl2 : Int32) (l2 : Nat) (hl2 : xl2 = nI l2) (xl3 : Int32) (l3 : Nat) (hl3 : xl3 = nI l3) (xl4 : Int32) (l4 : Nat) (hl4 : xl4 = nI l4) (xs0 : Int32) (s0 : Nat) (hs0 : xs0 = nI s0) (xs1 : Int32) (s1 : Nat) (hs1 : xs1 = nI s1) (h : F3_14 k5 l0 l1 l2 l3 l4 s0 s1 T = some r) : mm_L 3 14 [.ref l0, .int xl1, .int xl2, .int xl3, .int xl4] [.int xs0, .int xs1] (toS z T) = some (tR z r) := by
  unfold F3_14 at h
  refine Eq.trans (e3_14 ..) ?_
  exact (fb_if (cj_le hs0 hs1) h (fun h1 => (G3_46  _ _ _ hl1 _ _ hl2 _ _ hl3 _ _ hl4 h1)) (fun h1 => (G3_17 k5 hk5 _ _ _ hl1 _ _ hl2 _ _ hl3 _ _ hl4 h1)))
noncomputable def F3_11 (k5 : Nat → Nat → Nat → Nat → Nat → fS → Option fR) (l0 : Nat) (l1 : Nat) (l2 : Nat) (l3 : Nat) (l4 : Nat) (s0 : Nat) (s1 : Nat) (T : fS) : Option fR := (fbn (flz T s0) (fun v0 => F3_14 k5 l0 l1 l2 l3 l4 v0 s1 T))
theorem G3_11 {z : Option mm_O} {T : fS} {r : fR} (k5 : Nat → Nat → Nat → Nat → Nat → fS → Option fR) (hk5 : ∀ (l0 : Nat) (xl1 : Int32) (l1 : Nat) (hl1 : xl1 = nI l1) (xl2 : Int32) (l2 : Nat) (hl2 : xl2 = nI l2) (xl3 : Int32) (l3 : Nat) (hl3 : xl3 = nI l3) (xl4 : Int32) (l4 : Nat) (hl4 : xl4 = nI l4) (T : fS) (r : fR), k5 l0 l1 l2 l3 l4 T = some r → mm_L 3 5 [.ref l0, .int xl1, .int xl2, .int xl3, .int xl4] [] (toS z T) = some (tR z r)) (l0 : Nat) (xl1 : Int32) (l1 : Nat) (hl1 : xl1 = nI l1) (xl2 : Int32) (l2 : Nat) (hl2 : xl2 = nI l2) (xl3 : Int32) (l3 : Nat) (hl3 : xl3 = nI l3) (xl4 : Int32) (l4 : Nat) (hl4 : xl4 = nI l4) (s0 : Nat) (xs1 : Int32) (s1 : Nat) (hs1 : xs1 = nI s1) (h : F3_11 k5 l0 l1 l2 l3 l4 s0 s1 T = some r) : mm_L 3 11 [.ref l0, .int xl1, .int xl2, .int xl3, .int xl4] [.ref s0, .int xs1] (toS z T) = some (tR z r) := by
  unfold F3_11 at h
  refine Eq.trans (e3_11 ..) ?_
  exact (fb_n (fun _ q => flz_ok q) h (fun v0 h2 => G3_14 k5 hk5 _ _ _ hl1 _ _ hl2 _ _ hl3 _ _ hl4 _ _ rfl _ _ hs1 h2))
noncomputable def F3_5 (k5 : Nat → Nat → Nat → Nat → Nat → fS → Option fR) (l0 : Nat) (l1 : Nat) (l2 : Nat) (l3 : Nat) (l4 : Nat) (T : fS) : Option fR := (fbv (fgr T l0 0 4) (fun v0 => F3_11 k5 l0 l1 l2 l3 l4 v0 l4 T) ((none : Option fR)))
theorem G3_5 {z : Option mm_O} {T : fS} {r : fR} (k5 : Nat → Nat → Nat → Nat → Nat → fS → Option fR) (hk5 : ∀ (l0 : Nat) (xl1 : Int32) (l1 : Nat) (hl1 : xl1 = nI l1) (xl2 : Int32) (l2 : Nat) (hl2 : xl2 = nI l2) (xl3 : Int32) (l3 : Nat) (hl3 : xl3 = nI l3) (xl4 : Int32) (l4 : Nat) (hl4 : xl4 = nI l4) (T : fS) (r : fR), k5 l0 l1 l2 l3 l4 T = some r → mm_L 3 5 [.ref l0, .int xl1, .int xl2, .int xl3, .int xl4] [] (toS z T) = some (tR z r)) (l0 : Nat) (xl1 : Int32) (l1 : Nat) (hl1 : xl1 = nI l1) (xl2 : Int32) (l2 : Nat) (hl2 : xl2 = nI l2) (xl3 : Int32) (l3 : Nat) (hl3 : xl3 = nI l3) (xl4 : Int32) (l4 : Nat) (hl4 : xl4 = nI l4) (h : F3_5 k5 l0 l1 l2 l3 l4 T = some r) : mm_L 3 5 [.ref l0, .int xl1, .int xl2, .int xl3, .int xl4] [] (toS z T) = some (tR z r) := by
  unfold F3_5 at h
  refine Eq.trans (e3_5 ..) ?_
  exact (fb_v (fun _ q => fgr_ok q) h (fun v0 h2 => G3_11 k5 hk5 _ _ _ hl1 _ _ hl2 _ _ hl3 _ _ hl4 _ _ _ hl4 h2) (fun h2 => fr_n h2))
noncomputable def H3_5  (n : Nat) : Nat → Nat → Nat → Nat → Nat → fS → Option fR := Nat.rec (motive := fun _ => Nat → Nat → Nat → Nat → Nat → fS → Option fR) (fun _ _ _ _ _ _ => none) (fun _ ih => F3_5 ih) n
theorem HG3_5 {z : Option mm_O}  : ∀ (n : Nat) (l0 : Nat) (xl1 : Int32) (l1 : Nat) (hl1 : xl1 = nI l1) (xl2 : Int32) (l2 : Nat) (hl2 : xl2 = nI l2) (xl3 : Int32) (l3 : Nat) (hl3 : xl3 = nI l3) (xl4 : Int32) (l4 : Nat) (hl4 : xl4 = nI l4) {T : fS} {r : fR}, H3_5  n l0 l1 l2 l3 l4 T = some r → mm_L 3 5 [.ref l0, .int xl1, .int xl2, .int xl3, .int xl4] [] (toS z T) = some (tR z r) := by
  intro n
  induction n with
  | zero =>
    intro l0 xl1 l1 hl1 xl2 l2 hl2 xl3 l3 hl3 xl4 l4 hl4 T r h
    exact fr_n h
  | succ n ih =>
    intro l0 xl1 l1 hl1 xl2 l2 hl2 xl3 l3 hl3 xl4 l4 hl4 T r h
    exact G3_5 (H3_5  n) (fun l0 xl1 l1 hl1 xl2 l2 hl2 xl3 l3 hl3 xl4 l4 hl4 T r h => ih l0 xl1 l1 hl1 xl2 l2 hl2 xl3 l3 hl3 xl4 l4 hl4 h) l0 xl1 l1 hl1 xl2 l2 hl2 xl3 l3 hl3 xl4 l4 hl4 h
noncomputable def F3_0  (l0 : Nat) (l1 : Nat) (l2 : Nat) (T : fS) : Option fR := (H3_5  300 l0 l1 l2 0 0 T)
theorem G3_0 {z : Option mm_O} {T : fS} {r : fR}  (l0 : Nat) (xl1 : Int32) (l1 : Nat) (hl1 : xl1 = nI l1) (xl2 : Int32) (l2 : Nat) (hl2 : xl2 = nI l2) (ul3 : Value) (ul4 : Value) (h : F3_0  l0 l1 l2 T = some r) : mm_L 3 0 [.ref l0, .int xl1, .int xl2, ul3, ul4] [] (toS z T) = some (tR z r) := by
  unfold F3_0 at h
  refine Eq.trans (e3_0 ..) ?_
  exact (HG3_5  300 _ _ _ hl1 _ _ hl2 _ _ (rfl : (0 : Int32) = nI 0) _ _ (rfl : (0 : Int32) = nI 0) h)
theorem GM3 {z : Option mm_O} {T : fS} {r : fR} (l0 : Nat) (xl1 : Int32) (l1 : Nat) (hl1 : xl1 = nI l1) (xl2 : Int32) (l2 : Nat) (hl2 : xl2 = nI l2) (h : F3_0 l0 l1 l2 T = some r) : mm_M 3 [.ref l0, .int xl1, .int xl2] (toS z T) = some (tR z r) := Eq.trans (M_3 ..) (G3_0 l0 xl1 l1 hl1 xl2 l2 hl2 _ _ h)
-- 4: HandArchive$Clip.hasMarkWithin
noncomputable def F4_58  (l0 : Nat) (l1 : Nat) (l2 : Nat) (l3 : Nat) (l4 : Nat) (l5 : Nat) (l6 : Nat) (T : fS) : Option fR := (some ((.inl (some (.inl 1)), T) : fR))
theorem G4_58 {z : Option mm_O} {T : fS} {r : fR}  (l0 : Nat) (xl1 : Int32) (l1 : Nat) (hl1 : xl1 = nI l1) (xl2 : Int32) (l2 : Nat) (hl2 : xl2 = nI l2) (xl3 : Int32) (l3 : Nat) (hl3 : xl3 = nI l3) (xl4 : Int32) (l4 : Nat) (hl4 : xl4 = nI l4) (xl5 : Int32) (l5 : Nat) (hl5 : xl5 = nI l5) (l6 : Nat) (h : F4_58  l0 l1 l2 l3 l4 l5 l6 T = some r) : mm_L 4 58 [.ref l0, .int xl1, .int xl2, .int xl3, .int xl4, .int xl5, .ref l6] [] (toS z T) = some (tR z r) := by
  unfold F4_58 at h
  refine Eq.trans (e4_58 ..) ?_
  exact (fb_pos (by decide) (fr_i (rfl : (1 : Int32) = nI 1) h))
noncomputable def F4_60 (k3 : Nat → Nat → Nat → Nat → Nat → Nat → fS → Option fR) (l0 : Nat) (l1 : Nat) (l2 : Nat) (l3 : Nat) (l4 : Nat) (l5 : Nat) (l6 : Nat) (T : fS) : Option fR := (k3 l0 l1 l2 l3 l4 (iA l5 1) T)
theorem G4_60 {z : Option mm_O} {T : fS} {r : fR} (k3 : Nat → Nat → Nat → Nat → Nat → Nat → fS → Option fR) (hk3 : ∀ (l0 : Nat) (xl1 : Int32) (l1 : Nat) (hl1 : xl1 = nI l1) (xl2 : Int32) (l2 : Nat) (hl2 : xl2 = nI l2) (xl3 : Int32) (l3 : Nat) (hl3 : xl3 = nI l3) (xl4 : Int32) (l4 : Nat) (hl4 : xl4 = nI l4) (xl5 : Int32) (l5 : Nat) (hl5 : xl5 = nI l5) (ul6 : Value) (T : fS) (r : fR), k3 l0 l1 l2 l3 l4 l5 T = some r → mm_L 4 3 [.ref l0, .int xl1, .int xl2, .int xl3, .int xl4, .int xl5, ul6] [] (toS z T) = some (tR z r)) (l0 : Nat) (xl1 : Int32) (l1 : Nat) (hl1 : xl1 = nI l1) (xl2 : Int32) (l2 : Nat) (hl2 : xl2 = nI l2) (xl3 : Int32) (l3 : Nat) (hl3 : xl3 = nI l3) (xl4 : Int32) (l4 : Nat) (hl4 : xl4 = nI l4) (xl5 : Int32) (l5 : Nat) (hl5 : xl5 = nI l5) (l6 : Nat) (h : F4_60 k3 l0 l1 l2 l3 l4 l5 l6 T = some r) : mm_L 4 60 [.ref l0, .int xl1, .int xl2, .int xl3, .int xl4, .int xl5, .ref l6] [] (toS z T) = some (tR z r) := by
  unfold F4_60 at h
  refine Eq.trans (e4_60 ..) ?_
  exact (hk3 _ _ _ hl1 _ _ hl2 _ _ hl3 _ _ hl4 _ _ (iA_ok hl5 (rfl : (1 : Int32) = nI 1)) _ _ _ h)
noncomputable def F4_55 (k3 : Nat → Nat → Nat → Nat → Nat → Nat → fS → Option fR) (l0 : Nat) (l1 : Nat) (l2 : Nat) (l3 : Nat) (l4 : Nat) (l5 : Nat) (l6 : Nat) (s0 : Nat) (s1 : Nat) (T : fS) : Option fR := (fif (ile s0 s1) (F4_60 k3 l0 l1 l2 l3 l4 l5 l6 T) (F4_58  l0 l1 l2 l3 l4 l5 l6 T))
theorem G4_55 {z : Option mm_O} {T : fS} {r : fR} (k3 : Nat → Nat → Nat → Nat → Nat → Nat → fS → Option fR) (hk3 : ∀ (l0 : Nat) (xl1 : Int32) (l1 : Nat) (hl1 : xl1 = nI l1) (xl2 : Int32) (l2 : Nat) (hl2 : xl2 = nI l2) (xl3 : Int32) (l3 : Nat) (hl3 : xl3 = nI l3) (xl4 : Int32) (l4 : Nat) (hl4 : xl4 = nI l4) (xl5 : Int32) (l5 : Nat) (hl5 : xl5 = nI l5) (ul6 : Value) (T : fS) (r : fR), k3 l0 l1 l2 l3 l4 l5 T = some r → mm_L 4 3 [.ref l0, .int xl1, .int xl2, .int xl3, .int xl4, .int xl5, ul6] [] (toS z T) = some (tR z r)) (l0 : Nat) (xl1 : Int32) (l1 : Nat) (hl1 : xl1 = nI l1) (xl2 : Int32) (l2 : Nat) (hl2 : xl2 = nI l2) (xl3 : Int32) (l3 : Nat) (hl3 : xl3 = nI l3) (xl4 : Int32) (l4 : Nat) (hl4 : xl4 = nI l4) (xl5 : Int32) (l5 : Nat) (hl5 : xl5 = nI l5) (l6 : Nat) (xs0 : Int32) (s0 : Nat) (hs0 : xs0 = nI s0) (xs1 : Int32) (s1 : Nat) (hs1 : xs1 = nI s1) (h : F4_55 k3 l0 l1 l2 l3 l4 l5 l6 s0 s1 T = some r) : mm_L 4 55 [.ref l0, .int xl1, .int xl2, .int xl3, .int xl4, .int xl5, .ref l6] [.int xs0, .int xs1] (toS z T) = some (tR z r) := by
  unfold F4_55 at h
  refine Eq.trans (e4_55 ..) ?_
  exact (fb_if (cj_le hs0 hs1) h (fun h1 => (G4_60 k3 hk3 _ _ _ hl1 _ _ hl2 _ _ hl3 _ _ hl4 _ _ hl5 _ h1)) (fun h1 => (G4_58  _ _ _ hl1 _ _ hl2 _ _ hl3 _ _ hl4 _ _ hl5 _ h1)))
noncomputable def F4_49 (k3 : Nat → Nat → Nat → Nat → Nat → Nat → fS → Option fR) (l0 : Nat) (l1 : Nat) (l2 : Nat) (l3 : Nat) (l4 : Nat) (l5 : Nat) (l6 : Nat) (T : fS) : Option fR := (fbn (fgi T l6 3 3) (fun v0 => F4_55 k3 l0 l1 l2 l3 l4 l5 l6 v0 l3 T))
theorem G4_49 {z : Option mm_O} {T : fS} {r : fR} (k3 : Nat → Nat → Nat → Nat → Nat → Nat → fS → Option fR) (hk3 : ∀ (l0 : Nat) (xl1 : Int32) (l1 : Nat) (hl1 : xl1 = nI l1) (xl2 : Int32) (l2 : Nat) (hl2 : xl2 = nI l2) (xl3 : Int32) (l3 : Nat) (hl3 : xl3 = nI l3) (xl4 : Int32) (l4 : Nat) (hl4 : xl4 = nI l4) (xl5 : Int32) (l5 : Nat) (hl5 : xl5 = nI l5) (ul6 : Value) (T : fS) (r : fR), k3 l0 l1 l2 l3 l4 l5 T = some r → mm_L 4 3 [.ref l0, .int xl1, .int xl2, .int xl3, .int xl4, .int xl5, ul6] [] (toS z T) = some (tR z r)) (l0 : Nat) (xl1 : Int32) (l1 : Nat) (hl1 : xl1 = nI l1) (xl2 : Int32) (l2 : Nat) (hl2 : xl2 = nI l2) (xl3 : Int32) (l3 : Nat) (hl3 : xl3 = nI l3) (xl4 : Int32) (l4 : Nat) (hl4 : xl4 = nI l4) (xl5 : Int32) (l5 : Nat) (hl5 : xl5 = nI l5) (l6 : Nat) (h : F4_49 k3 l0 l1 l2 l3 l4 l5 l6 T = some r) : mm_L 4 49 [.ref l0, .int xl1, .int xl2, .int xl3, .int xl4, .int xl5, .ref l6] [] (toS z T) = some (tR z r) := by
  unfold F4_49 at h
  refine Eq.trans (e4_49 ..) ?_
  exact (fb_n (fun _ q => fgi_ok q) h (fun v0 h2 => G4_55 k3 hk3 _ _ _ hl1 _ _ hl2 _ _ hl3 _ _ hl4 _ _ hl5 _ _ _ rfl _ _ hl3 h2))
noncomputable def F4_44 (k3 : Nat → Nat → Nat → Nat → Nat → Nat → fS → Option fR) (l0 : Nat) (l1 : Nat) (l2 : Nat) (l3 : Nat) (l4 : Nat) (l5 : Nat) (l6 : Nat) (s0 : Nat) (T : fS) : Option fR := (fif (ile l4 s0) (F4_60 k3 l0 l1 l2 l3 l4 l5 l6 T) (F4_49 k3 l0 l1 l2 l3 l4 l5 l6 T))
theorem G4_44 {z : Option mm_O} {T : fS} {r : fR} (k3 : Nat → Nat → Nat → Nat → Nat → Nat → fS → Option fR) (hk3 : ∀ (l0 : Nat) (xl1 : Int32) (l1 : Nat) (hl1 : xl1 = nI l1) (xl2 : Int32) (l2 : Nat) (hl2 : xl2 = nI l2) (xl3 : Int32) (l3 : Nat) (hl3 : xl3 = nI l3) (xl4 : Int32) (l4 : Nat) (hl4 : xl4 = nI l4) (xl5 : Int32) (l5 : Nat) (hl5 : xl5 = nI l5) (ul6 : Value) (T : fS) (r : fR), k3 l0 l1 l2 l3 l4 l5 T = some r → mm_L 4 3 [.ref l0, .int xl1, .int xl2, .int xl3, .int xl4, .int xl5, ul6] [] (toS z T) = some (tR z r)) (l0 : Nat) (xl1 : Int32) (l1 : Nat) (hl1 : xl1 = nI l1) (xl2 : Int32) (l2 : Nat) (hl2 : xl2 = nI l2) (xl3 : Int32) (l3 : Nat) (hl3 : xl3 = nI l3) (xl4 : Int32) (l4 : Nat) (hl4 : xl4 = nI l4) (xl5 : Int32) (l5 : Nat) (hl5 : xl5 = nI l5) (l6 : Nat) (xs0 : Int32) (s0 : Nat) (hs0 : xs0 = nI s0) (h : F4_44 k3 l0 l1 l2 l3 l4 l5 l6 s0 T = some r) : mm_L 4 44 [.ref l0, .int xl1, .int xl2, .int xl3, .int xl4, .int xl5, .ref l6] [.int xs0] (toS z T) = some (tR z r) := by
  unfold F4_44 at h
  refine Eq.trans (e4_44 ..) ?_
  exact (fb_if (cj_le hl4 hs0) h (fun h1 => (G4_60 k3 hk3 _ _ _ hl1 _ _ hl2 _ _ hl3 _ _ hl4 _ _ hl5 _ h1)) (fun h1 => (G4_49 k3 hk3 _ _ _ hl1 _ _ hl2 _ _ hl3 _ _ hl4 _ _ hl5 _ h1)))
noncomputable def F4_39 (k3 : Nat → Nat → Nat → Nat → Nat → Nat → fS → Option fR) (l0 : Nat) (l1 : Nat) (l2 : Nat) (l3 : Nat) (l4 : Nat) (l5 : Nat) (l6 : Nat) (T : fS) : Option fR := (fbn (fgi T l6 3 2) (fun v0 => F4_44 k3 l0 l1 l2 l3 l4 l5 l6 v0 T))
theorem G4_39 {z : Option mm_O} {T : fS} {r : fR} (k3 : Nat → Nat → Nat → Nat → Nat → Nat → fS → Option fR) (hk3 : ∀ (l0 : Nat) (xl1 : Int32) (l1 : Nat) (hl1 : xl1 = nI l1) (xl2 : Int32) (l2 : Nat) (hl2 : xl2 = nI l2) (xl3 : Int32) (l3 : Nat) (hl3 : xl3 = nI l3) (xl4 : Int32) (l4 : Nat) (hl4 : xl4 = nI l4) (xl5 : Int32) (l5 : Nat) (hl5 : xl5 = nI l5) (ul6 : Value) (T : fS) (r : fR), k3 l0 l1 l2 l3 l4 l5 T = some r → mm_L 4 3 [.ref l0, .int xl1, .int xl2, .int xl3, .int xl4, .int xl5, ul6] [] (toS z T) = some (tR z r)) (l0 : Nat) (xl1 : Int32) (l1 : Nat) (hl1 : xl1 = nI l1) (xl2 : Int32) (l2 : Nat) (hl2 : xl2 = nI l2) (xl3 : Int32) (l3 : Nat) (hl3 : xl3 = nI l3) (xl4 : Int32) (l4 : Nat) (hl4 : xl4 = nI l4) (xl5 : Int32) (l5 : Nat) (hl5 : xl5 = nI l5) (l6 : Nat) (h : F4_39 k3 l0 l1 l2 l3 l4 l5 l6 T = some r) : mm_L 4 39 [.ref l0, .int xl1, .int xl2, .int xl3, .int xl4, .int xl5, .ref l6] [] (toS z T) = some (tR z r) := by
  unfold F4_39 at h
  refine Eq.trans (e4_39 ..) ?_
  exact (fb_n (fun _ q => fgi_ok q) h (fun v0 h2 => G4_44 k3 hk3 _ _ _ hl1 _ _ hl2 _ _ hl3 _ _ hl4 _ _ hl5 _ _ _ rfl h2))
noncomputable def F4_36 (k3 : Nat → Nat → Nat → Nat → Nat → Nat → fS → Option fR) (l0 : Nat) (l1 : Nat) (l2 : Nat) (l3 : Nat) (l4 : Nat) (l5 : Nat) (l6 : Nat) (s0 : Nat) (T : fS) : Option fR := (fif (ieq s0 0) (F4_60 k3 l0 l1 l2 l3 l4 l5 l6 T) (F4_39 k3 l0 l1 l2 l3 l4 l5 l6 T))
theorem G4_36 {z : Option mm_O} {T : fS} {r : fR} (k3 : Nat → Nat → Nat → Nat → Nat → Nat → fS → Option fR) (hk3 : ∀ (l0 : Nat) (xl1 : Int32) (l1 : Nat) (hl1 : xl1 = nI l1) (xl2 : Int32) (l2 : Nat) (hl2 : xl2 = nI l2) (xl3 : Int32) (l3 : Nat) (hl3 : xl3 = nI l3) (xl4 : Int32) (l4 : Nat) (hl4 : xl4 = nI l4) (xl5 : Int32) (l5 : Nat) (hl5 : xl5 = nI l5) (ul6 : Value) (T : fS) (r : fR), k3 l0 l1 l2 l3 l4 l5 T = some r → mm_L 4 3 [.ref l0, .int xl1, .int xl2, .int xl3, .int xl4, .int xl5, ul6] [] (toS z T) = some (tR z r)) (l0 : Nat) (xl1 : Int32) (l1 : Nat) (hl1 : xl1 = nI l1) (xl2 : Int32) (l2 : Nat) (hl2 : xl2 = nI l2) (xl3 : Int32) (l3 : Nat) (hl3 : xl3 = nI l3) (xl4 : Int32) (l4 : Nat) (hl4 : xl4 = nI l4) (xl5 : Int32) (l5 : Nat) (hl5 : xl5 = nI l5) (l6 : Nat) (xs0 : Int32) (s0 : Nat) (hs0 : xs0 = nI s0) (h : F4_36 k3 l0 l1 l2 l3 l4 l5 l6 s0 T = some r) : mm_L 4 36 [.ref l0, .int xl1, .int xl2, .int xl3, .int xl4, .int xl5, .ref l6] [.int xs0] (toS z T) = some (tR z r) := by
  unfold F4_36 at h
  refine Eq.trans (e4_36 ..) ?_
  exact (fb_if (cj_eq hs0 (rfl : (0 : Int32) = nI 0)) h (fun h1 => (G4_60 k3 hk3 _ _ _ hl1 _ _ hl2 _ _ hl3 _ _ hl4 _ _ hl5 _ h1)) (fun h1 => (G4_39 k3 hk3 _ _ _ hl1 _ _ hl2 _ _ hl3 _ _ hl4 _ _ hl5 _ h1)))
noncomputable def F4_27 (k3 : Nat → Nat → Nat → Nat → Nat → Nat → fS → Option fR) (l0 : Nat) (l1 : Nat) (l2 : Nat) (l3 : Nat) (l4 : Nat) (l5 : Nat) (s0 : Nat) (T : fS) : Option fR := (fKi true (fif (fch T s0 3) (F16_0 s0 l1 l2 T) none) (fun v0 T1 => F4_36 k3 l0 l1 l2 l3 l4 l5 s0 v0 T1))
theorem G4_27 {z : Option mm_O} {T : fS} {r : fR} (k3 : Nat → Nat → Nat → Nat → Nat → Nat → fS → Option fR) (hk3 : ∀ (l0 : Nat) (xl1 : Int32) (l1 : Nat) (hl1 : xl1 = nI l1) (xl2 : Int32) (l2 : Nat) (hl2 : xl2 = nI l2) (xl3 : Int32) (l3 : Nat) (hl3 : xl3 = nI l3) (xl4 : Int32) (l4 : Nat) (hl4 : xl4 = nI l4) (xl5 : Int32) (l5 : Nat) (hl5 : xl5 = nI l5) (ul6 : Value) (T : fS) (r : fR), k3 l0 l1 l2 l3 l4 l5 T = some r → mm_L 4 3 [.ref l0, .int xl1, .int xl2, .int xl3, .int xl4, .int xl5, ul6] [] (toS z T) = some (tR z r)) (l0 : Nat) (xl1 : Int32) (l1 : Nat) (hl1 : xl1 = nI l1) (xl2 : Int32) (l2 : Nat) (hl2 : xl2 = nI l2) (xl3 : Int32) (l3 : Nat) (hl3 : xl3 = nI l3) (xl4 : Int32) (l4 : Nat) (hl4 : xl4 = nI l4) (xl5 : Int32) (l5 : Nat) (hl5 : xl5 = nI l5) (ul6 : Value) (s0 : Nat) (h : F4_27 k3 l0 l1 l2 l3 l4 l5 s0 T = some r) : mm_L 4 27 [.ref l0, .int xl1, .int xl2, .int xl3, .int xl4, .int xl5, ul6] [.ref s0] (toS z T) = some (tR z r) := by
  unfold F4_27 at h
  refine Eq.trans (e4_27 ..) ?_
  exact (fb_K0i (fun _ q => fb_mo (y := 16) ow_16 q (fun q => GM16 _ _ _ hl1 _ _ hl2 q)) h (fun v0 T1 h2 => G4_36 k3 hk3 _ _ _ hl1 _ _ hl2 _ _ hl3 _ _ hl4 _ _ hl5 _ _ _ rfl h2))
noncomputable def F4_24 (k3 : Nat → Nat → Nat → Nat → Nat → Nat → fS → Option fR) (l0 : Nat) (l1 : Nat) (l2 : Nat) (l3 : Nat) (l4 : Nat) (l5 : Nat) (s0 : Nat) (T : fS) : Option fR := (fif (fch T s0 3) (F4_27 k3 l0 l1 l2 l3 l4 l5 s0 T) none)
theorem G4_24 {z : Option mm_O} {T : fS} {r : fR} (k3 : Nat → Nat → Nat → Nat → Nat → Nat → fS → Option fR) (hk3 : ∀ (l0 : Nat) (xl1 : Int32) (l1 : Nat) (hl1 : xl1 = nI l1) (xl2 : Int32) (l2 : Nat) (hl2 : xl2 = nI l2) (xl3 : Int32) (l3 : Nat) (hl3 : xl3 = nI l3) (xl4 : Int32) (l4 : Nat) (hl4 : xl4 = nI l4) (xl5 : Int32) (l5 : Nat) (hl5 : xl5 = nI l5) (ul6 : Value) (T : fS) (r : fR), k3 l0 l1 l2 l3 l4 l5 T = some r → mm_L 4 3 [.ref l0, .int xl1, .int xl2, .int xl3, .int xl4, .int xl5, ul6] [] (toS z T) = some (tR z r)) (l0 : Nat) (xl1 : Int32) (l1 : Nat) (hl1 : xl1 = nI l1) (xl2 : Int32) (l2 : Nat) (hl2 : xl2 = nI l2) (xl3 : Int32) (l3 : Nat) (hl3 : xl3 = nI l3) (xl4 : Int32) (l4 : Nat) (hl4 : xl4 = nI l4) (xl5 : Int32) (l5 : Nat) (hl5 : xl5 = nI l5) (ul6 : Value) (s0 : Nat) (h : F4_24 k3 l0 l1 l2 l3 l4 l5 s0 T = some r) : mm_L 4 24 [.ref l0, .int xl1, .int xl2, .int xl3, .int xl4, .int xl5, ul6] [.ref s0] (toS z T) = some (tR z r) := by
  unfold F4_24 at h
  refine Eq.trans (e4_24 ..) ?_
  exact (fb_c h (fun h2 => G4_27 k3 hk3 _ _ _ hl1 _ _ hl2 _ _ hl3 _ _ hl4 _ _ hl5 _ _ h2))
noncomputable def F4_19 (k3 : Nat → Nat → Nat → Nat → Nat → Nat → fS → Option fR) (l0 : Nat) (l1 : Nat) (l2 : Nat) (l3 : Nat) (l4 : Nat) (l5 : Nat) (s0 : Nat) (T : fS) : Option fR := (fbn (flg T s0 l5) (fun v0 => F4_24 k3 l0 l1 l2 l3 l4 l5 v0 T))
theorem G4_19 {z : Option mm_O} {T : fS} {r : fR} (k3 : Nat → Nat → Nat → Nat → Nat → Nat → fS → Option fR) (hk3 : ∀ (l0 : Nat) (xl1 : Int32) (l1 : Nat) (hl1 : xl1 = nI l1) (xl2 : Int32) (l2 : Nat) (hl2 : xl2 = nI l2) (xl3 : Int32) (l3 : Nat) (hl3 : xl3 = nI l3) (xl4 : Int32) (l4 : Nat) (hl4 : xl4 = nI l4) (xl5 : Int32) (l5 : Nat) (hl5 : xl5 = nI l5) (ul6 : Value) (T : fS) (r : fR), k3 l0 l1 l2 l3 l4 l5 T = some r → mm_L 4 3 [.ref l0, .int xl1, .int xl2, .int xl3, .int xl4, .int xl5, ul6] [] (toS z T) = some (tR z r)) (l0 : Nat) (xl1 : Int32) (l1 : Nat) (hl1 : xl1 = nI l1) (xl2 : Int32) (l2 : Nat) (hl2 : xl2 = nI l2) (xl3 : Int32) (l3 : Nat) (hl3 : xl3 = nI l3) (xl4 : Int32) (l4 : Nat) (hl4 : xl4 = nI l4) (xl5 : Int32) (l5 : Nat) (hl5 : xl5 = nI l5) (ul6 : Value) (s0 : Nat) (h : F4_19 k3 l0 l1 l2 l3 l4 l5 s0 T = some r) : mm_L 4 19 [.ref l0, .int xl1, .int xl2, .int xl3, .int xl4, .int xl5, ul6] [.ref s0] (toS z T) = some (tR z r) := by
  unfold F4_19 at h
  refine Eq.trans (e4_19 ..) ?_
  exact (fb_g (fun _ q => by rw [hl5]; exact flg_ok q) h (fun v0 h2 => G4_24 k3 hk3 _ _ _ hl1 _ _ hl2 _ _ hl3 _ _ hl4 _ _ hl5 _ _ h2))
noncomputable def F4_15 (k3 : Nat → Nat → Nat → Nat → Nat → Nat → fS → Option fR) (l0 : Nat) (l1 : Nat) (l2 : Nat) (l3 : Nat) (l4 : Nat) (l5 : Nat) (T : fS) : Option fR := (fbv (fgr T l0 0 4) (fun v0 => F4_19 k3 l0 l1 l2 l3 l4 l5 v0 T) ((none : Option fR)))
theorem G4_15 {z : Option mm_O} {T : fS} {r : fR} (k3 : Nat → Nat → Nat → Nat → Nat → Nat → fS → Option fR) (hk3 : ∀ (l0 : Nat) (xl1 : Int32) (l1 : Nat) (hl1 : xl1 = nI l1) (xl2 : Int32) (l2 : Nat) (hl2 : xl2 = nI l2) (xl3 : Int32) (l3 : Nat) (hl3 : xl3 = nI l3) (xl4 : Int32) (l4 : Nat) (hl4 : xl4 = nI l4) (xl5 : Int32) (l5 : Nat) (hl5 : xl5 = nI l5) (ul6 : Value) (T : fS) (r : fR), k3 l0 l1 l2 l3 l4 l5 T = some r → mm_L 4 3 [.ref l0, .int xl1, .int xl2, .int xl3, .int xl4, .int xl5, ul6] [] (toS z T) = some (tR z r)) (l0 : Nat) (xl1 : Int32) (l1 : Nat) (hl1 : xl1 = nI l1) (xl2 : Int32) (l2 : Nat) (hl2 : xl2 = nI l2) (xl3 : Int32) (l3 : Nat) (hl3 : xl3 = nI l3) (xl4 : Int32) (l4 : Nat) (hl4 : xl4 = nI l4) (xl5 : Int32) (l5 : Nat) (hl5 : xl5 = nI l5) (ul6 : Value) (h : F4_15 k3 l0 l1 l2 l3 l4 l5 T = some r) : mm_L 4 15 [.ref l0, .int xl1, .int xl2, .int xl3, .int xl4, .int xl5, ul6] [] (toS z T) = some (tR z r) := by
  unfold F4_15 at h
  refine Eq.trans (e4_15 ..) ?_
  exact (fb_v (fun _ q => fgr_ok q) h (fun v0 h2 => G4_19 k3 hk3 _ _ _ hl1 _ _ hl2 _ _ hl3 _ _ hl4 _ _ hl5 _ _ h2) (fun h2 => fr_n h2))
noncomputable def F4_66  (l0 : Nat) (l1 : Nat) (l2 : Nat) (l3 : Nat) (l4 : Nat) (l5 : Nat) (T : fS) : Option fR := (some ((.inl (some (.inl 0)), T) : fR))
theorem G4_66 {z : Option mm_O} {T : fS} {r : fR}  (l0 : Nat) (xl1 : Int32) (l1 : Nat) (hl1 : xl1 = nI l1) (xl2 : Int32) (l2 : Nat) (hl2 : xl2 = nI l2) (xl3 : Int32) (l3 : Nat) (hl3 : xl3 = nI l3) (xl4 : Int32) (l4 : Nat) (hl4 : xl4 = nI l4) (xl5 : Int32) (l5 : Nat) (hl5 : xl5 = nI l5) (ul6 : Value) (h : F4_66  l0 l1 l2 l3 l4 l5 T = some r) : mm_L 4 66 [.ref l0, .int xl1, .int xl2, .int xl3, .int xl4, .int xl5, ul6] [] (toS z T) = some (tR z r) := by
  unfold F4_66 at h
  refine Eq.trans (e4_66 ..) ?_
  exact (fb_pos (by decide) (fr_i (rfl : (0 : Int32) = nI 0) h))
noncomputable def F4_12 (k3 : Nat → Nat → Nat → Nat → Nat → Nat → fS → Option fR) (l0 : Nat) (l1 : Nat) (l2 : Nat) (l3 : Nat) (l4 : Nat) (l5 : Nat) (s0 : Nat) (s1 : Nat) (T : fS) : Option fR := (fif (ile s0 s1) (F4_66  l0 l1 l2 l3 l4 l5 T) (F4_15 k3 l0 l1 l2 l3 l4 l5 T))
theorem G4_12 {z : Option mm_O} {T : fS} {r : fR} (k3 : Nat → Nat → Nat → Nat → Nat → Nat → fS → Option fR) (hk3 : ∀ (l0 : Nat) (xl1 : Int32) (l1 : Nat) (hl1 : xl1 = nI l1) (xl2 : Int32) (l2 : Nat) (hl2 : xl2 = nI l2) (xl3 : Int32) (l3 : Nat) (hl3 : xl3 = nI l3) (xl4 : Int32) (l4 : Nat) (hl4 : xl4 = nI l4) (xl5 : Int32) (l5 : Nat) (hl5 : xl5 = nI l5) (ul6 : Value) (T : fS) (r : fR), k3 l0 l1 l2 l3 l4 l5 T = some r → mm_L 4 3 [.ref l0, .int xl1, .int xl2, .int xl3, .int xl4, .int xl5, ul6] [] (toS z T) = some (tR z r)) (l0 : Nat) (xl1 : Int32) (l1 : Nat) (hl1 : xl1 = nI l1) (xl2 : Int32) (l2 : Nat) (hl2 : xl2 = nI l2) (xl3 : Int32) (l3 : Nat) (hl3 : xl3 = nI l3) (xl4 : Int32) (l4 : Nat) (hl4 : xl4 = nI l4) (xl5 : Int32) (l5 : Nat) (hl5 : xl5 = nI l5) (ul6 : Value) (xs0 : Int32) (s0 : Nat) (hs0 : xs0 = nI s0) (xs1 : Int32) (s1 : Nat) (hs1 : xs1 = nI s1) (h : F4_12 k3 l0 l1 l2 l3 l4 l5 s0 s1 T = some r) : mm_L 4 12 [.ref l0, .int xl1, .int xl2, .int xl3, .int xl4, .int xl5, ul6] [.int xs0, .int xs1] (toS z T) = some (tR z r) := by
  unfold F4_12 at h
  refine Eq.trans (e4_12 ..) ?_
  exact (fb_if (cj_le hs0 hs1) h (fun h1 => (G4_66  _ _ _ hl1 _ _ hl2 _ _ hl3 _ _ hl4 _ _ hl5 _ h1)) (fun h1 => (G4_15 k3 hk3 _ _ _ hl1 _ _ hl2 _ _ hl3 _ _ hl4 _ _ hl5 _ h1)))
noncomputable def F4_9 (k3 : Nat → Nat → Nat → Nat → Nat → Nat → fS → Option fR) (l0 : Nat) (l1 : Nat) (l2 : Nat) (l3 : Nat) (l4 : Nat) (l5 : Nat) (s0 : Nat) (s1 : Nat) (T : fS) : Option fR := (fbn (flz T s0) (fun v0 => F4_12 k3 l0 l1 l2 l3 l4 l5 v0 s1 T))
theorem G4_9 {z : Option mm_O} {T : fS} {r : fR} (k3 : Nat → Nat → Nat → Nat → Nat → Nat → fS → Option fR) (hk3 : ∀ (l0 : Nat) (xl1 : Int32) (l1 : Nat) (hl1 : xl1 = nI l1) (xl2 : Int32) (l2 : Nat) (hl2 : xl2 = nI l2) (xl3 : Int32) (l3 : Nat) (hl3 : xl3 = nI l3) (xl4 : Int32) (l4 : Nat) (hl4 : xl4 = nI l4) (xl5 : Int32) (l5 : Nat) (hl5 : xl5 = nI l5) (ul6 : Value) (T : fS) (r : fR), k3 l0 l1 l2 l3 l4 l5 T = some r → mm_L 4 3 [.ref l0, .int xl1, .int xl2, .int xl3, .int xl4, .int xl5, ul6] [] (toS z T) = some (tR z r)) (l0 : Nat) (xl1 : Int32) (l1 : Nat) (hl1 : xl1 = nI l1) (xl2 : Int32) (l2 : Nat) (hl2 : xl2 = nI l2) (xl3 : Int32) (l3 : Nat) (hl3 : xl3 = nI l3) (xl4 : Int32) (l4 : Nat) (hl4 : xl4 = nI l4) (xl5 : Int32) (l5 : Nat) (hl5 : xl5 = nI l5) (ul6 : Value) (s0 : Nat) (xs1 : Int32) (s1 : Nat) (hs1 : xs1 = nI s1) (h : F4_9 k3 l0 l1 l2 l3 l4 l5 s0 s1 T = some r) : mm_L 4 9 [.ref l0, .int xl1, .int xl2, .int xl3, .int xl4, .int xl5, ul6] [.ref s0, .int xs1] (toS z T) = some (tR z r) := by
  unfold F4_9 at h
  refine Eq.trans (e4_9 ..) ?_
  exact (fb_n (fun _ q => flz_ok q) h (fun v0 h2 => G4_12 k3 hk3 _ _ _ hl1 _ _ hl2 _ _ hl3 _ _ hl4 _ _ hl5 _ _ _ rfl _ _ hs1 h2))
noncomputable def F4_3 (k3 : Nat → Nat → Nat → Nat → Nat → Nat → fS → Option fR) (l0 : Nat) (l1 : Nat) (l2 : Nat) (l3 : Nat) (l4 : Nat) (l5 : Nat) (T : fS) : Option fR := (fbv (fgr T l0 0 4) (fun v0 => F4_9 k3 l0 l1 l2 l3 l4 l5 v0 l5 T) ((none : Option fR)))
theorem G4_3 {z : Option mm_O} {T : fS} {r : fR} (k3 : Nat → Nat → Nat → Nat → Nat → Nat → fS → Option fR) (hk3 : ∀ (l0 : Nat) (xl1 : Int32) (l1 : Nat) (hl1 : xl1 = nI l1) (xl2 : Int32) (l2 : Nat) (hl2 : xl2 = nI l2) (xl3 : Int32) (l3 : Nat) (hl3 : xl3 = nI l3) (xl4 : Int32) (l4 : Nat) (hl4 : xl4 = nI l4) (xl5 : Int32) (l5 : Nat) (hl5 : xl5 = nI l5) (ul6 : Value) (T : fS) (r : fR), k3 l0 l1 l2 l3 l4 l5 T = some r → mm_L 4 3 [.ref l0, .int xl1, .int xl2, .int xl3, .int xl4, .int xl5, ul6] [] (toS z T) = some (tR z r)) (l0 : Nat) (xl1 : Int32) (l1 : Nat) (hl1 : xl1 = nI l1) (xl2 : Int32) (l2 : Nat) (hl2 : xl2 = nI l2) (xl3 : Int32) (l3 : Nat) (hl3 : xl3 = nI l3) (xl4 : Int32) (l4 : Nat) (hl4 : xl4 = nI l4) (xl5 : Int32) (l5 : Nat) (hl5 : xl5 = nI l5) (ul6 : Value) (h : F4_3 k3 l0 l1 l2 l3 l4 l5 T = some r) : mm_L 4 3 [.ref l0, .int xl1, .int xl2, .int xl3, .int xl4, .int xl5, ul6] [] (toS z T) = some (tR z r) := by
  unfold F4_3 at h
  refine Eq.trans (e4_3 ..) ?_
  exact (fb_v (fun _ q => fgr_ok q) h (fun v0 h2 => G4_9 k3 hk3 _ _ _ hl1 _ _ hl2 _ _ hl3 _ _ hl4 _ _ hl5 _ _ _ _ hl5 h2) (fun h2 => fr_n h2))
noncomputable def H4_3  (n : Nat) : Nat → Nat → Nat → Nat → Nat → Nat → fS → Option fR := Nat.rec (motive := fun _ => Nat → Nat → Nat → Nat → Nat → Nat → fS → Option fR) (fun _ _ _ _ _ _ _ => none) (fun _ ih => F4_3 ih) n
theorem HG4_3 {z : Option mm_O}  : ∀ (n : Nat) (l0 : Nat) (xl1 : Int32) (l1 : Nat) (hl1 : xl1 = nI l1) (xl2 : Int32) (l2 : Nat) (hl2 : xl2 = nI l2) (xl3 : Int32) (l3 : Nat) (hl3 : xl3 = nI l3) (xl4 : Int32) (l4 : Nat) (hl4 : xl4 = nI l4) (xl5 : Int32) (l5 : Nat) (hl5 : xl5 = nI l5) (ul6 : Value) {T : fS} {r : fR}, H4_3  n l0 l1 l2 l3 l4 l5 T = some r → mm_L 4 3 [.ref l0, .int xl1, .int xl2, .int xl3, .int xl4, .int xl5, ul6] [] (toS z T) = some (tR z r) := by
  intro n
  induction n with
  | zero =>
    intro l0 xl1 l1 hl1 xl2 l2 hl2 xl3 l3 hl3 xl4 l4 hl4 xl5 l5 hl5 ul6 T r h
    exact fr_n h
  | succ n ih =>
    intro l0 xl1 l1 hl1 xl2 l2 hl2 xl3 l3 hl3 xl4 l4 hl4 xl5 l5 hl5 ul6 T r h
    exact G4_3 (H4_3  n) (fun l0 xl1 l1 hl1 xl2 l2 hl2 xl3 l3 hl3 xl4 l4 hl4 xl5 l5 hl5 ul6 T r h => ih l0 xl1 l1 hl1 xl2 l2 hl2 xl3 l3 hl3 xl4 l4 hl4 xl5 l5 hl5 ul6 h) l0 xl1 l1 hl1 xl2 l2 hl2 xl3 l3 hl3 xl4 l4 hl4 xl5 l5 hl5 ul6 h
noncomputable def F4_0  (l0 : Nat) (l1 : Nat) (l2 : Nat) (l3 : Nat) (l4 : Nat) (T : fS) : Option fR := (H4_3  300 l0 l1 l2 l3 l4 0 T)
theorem G4_0 {z : Option mm_O} {T : fS} {r : fR}  (l0 : Nat) (xl1 : Int32) (l1 : Nat) (hl1 : xl1 = nI l1) (xl2 : Int32) (l2 : Nat) (hl2 : xl2 = nI l2) (xl3 : Int32) (l3 : Nat) (hl3 : xl3 = nI l3) (xl4 : Int32) (l4 : Nat) (hl4 : xl4 = nI l4) (ul5 : Value) (ul6 : Value) (h : F4_0  l0 l1 l2 l3 l4 T = some r) : mm_L 4 0 [.ref l0, .int xl1, .int xl2, .int xl3, .int xl4, ul5, ul6] [] (toS z T) = some (tR z r) := by
  unfold F4_0 at h
  refine Eq.trans (e4_0 ..) ?_
  exact (HG4_3  300 _ _ _ hl1 _ _ hl2 _ _ hl3 _ _ hl4 _ _ (rfl : (0 : Int32) = nI 0) _ h)
theorem GM4 {z : Option mm_O} {T : fS} {r : fR} (l0 : Nat) (xl1 : Int32) (l1 : Nat) (hl1 : xl1 = nI l1) (xl2 : Int32) (l2 : Nat) (hl2 : xl2 = nI l2) (xl3 : Int32) (l3 : Nat) (hl3 : xl3 = nI l3) (xl4 : Int32) (l4 : Nat) (hl4 : xl4 = nI l4) (h : F4_0 l0 l1 l2 l3 l4 T = some r) : mm_M 4 [.ref l0, .int xl1, .int xl2, .int xl3, .int xl4] (toS z T) = some (tR z r) := Eq.trans (M_4 ..) (G4_0 l0 xl1 l1 hl1 xl2 l2 hl2 xl3 l3 hl3 xl4 l4 hl4 _ _ h)
-- 5: HandArchive$Clip.writeValues
noncomputable def F5_15 (k3 : Nat → Nat → Nat → Nat → Nat → fS → Option fR) (l0 : Nat) (l1 : Nat) (l2 : Nat) (l3 : Nat) (l4 : Nat) (T : fS) : Option fR := (k3 l0 l1 l2 l3 (iA l4 1) T)
theorem G5_15 {z : Option mm_O} {T : fS} {r : fR} (k3 : Nat → Nat → Nat → Nat → Nat → fS → Option fR) (hk3 : ∀ (l0 : Nat) (xl1 : Int32) (l1 : Nat) (hl1 : xl1 = nI l1) (xl2 : Int32) (l2 : Nat) (hl2 : xl2 = nI l2) (l3 : Nat) (xl4 : Int32) (l4 : Nat) (hl4 : xl4 = nI l4) (T : fS) (r : fR), k3 l0 l1 l2 l3 l4 T = some r → mm_L 5 3 [.ref l0, .int xl1, .int xl2, .ref l3, .int xl4] [] (toS z T) = some (tR z r)) (l0 : Nat) (xl1 : Int32) (l1 : Nat) (hl1 : xl1 = nI l1) (xl2 : Int32) (l2 : Nat) (hl2 : xl2 = nI l2) (l3 : Nat) (xl4 : Int32) (l4 : Nat) (hl4 : xl4 = nI l4) (h : F5_15 k3 l0 l1 l2 l3 l4 T = some r) : mm_L 5 15 [.ref l0, .int xl1, .int xl2, .ref l3, .int xl4] [] (toS z T) = some (tR z r) := by
  unfold F5_15 at h
  refine Eq.trans (e5_15 ..) ?_
  exact (hk3 _ _ _ hl1 _ _ hl2 _ _ _ (iA_ok hl4 (rfl : (1 : Int32) = nI 1)) _ _ h)
noncomputable def F5_10 (k3 : Nat → Nat → Nat → Nat → Nat → fS → Option fR) (l0 : Nat) (l1 : Nat) (l2 : Nat) (l3 : Nat) (l4 : Nat) (T : fS) : Option fR := (fbs (fas T l3 l4 0 4294967295) (fun T1 => F5_15 k3 l0 l1 l2 l3 l4 T1))
theorem G5_10 {z : Option mm_O} {T : fS} {r : fR} (k3 : Nat → Nat → Nat → Nat → Nat → fS → Option fR) (hk3 : ∀ (l0 : Nat) (xl1 : Int32) (l1 : Nat) (hl1 : xl1 = nI l1) (xl2 : Int32) (l2 : Nat) (hl2 : xl2 = nI l2) (l3 : Nat) (xl4 : Int32) (l4 : Nat) (hl4 : xl4 = nI l4) (T : fS) (r : fR), k3 l0 l1 l2 l3 l4 T = some r → mm_L 5 3 [.ref l0, .int xl1, .int xl2, .ref l3, .int xl4] [] (toS z T) = some (tR z r)) (l0 : Nat) (xl1 : Int32) (l1 : Nat) (hl1 : xl1 = nI l1) (xl2 : Int32) (l2 : Nat) (hl2 : xl2 = nI l2) (l3 : Nat) (xl4 : Int32) (l4 : Nat) (hl4 : xl4 = nI l4) (h : F5_10 k3 l0 l1 l2 l3 l4 T = some r) : mm_L 5 10 [.ref l0, .int xl1, .int xl2, .ref l3, .int xl4] [] (toS z T) = some (tR z r) := by
  unfold F5_10 at h
  refine Eq.trans (e5_10 ..) ?_
  exact (fb_s (fun _ q => (fun q => by rw [show (xl4 : Int32) = nI l4 from hl4, show ((-1) : Int32) = nI 4294967295 from (by decide : (-1 : Int32) = nI 4294967295)]; exact fas_ok q) q) h (fun T1 h2 => G5_15 k3 hk3 _ _ _ hl1 _ _ hl2 _ _ _ hl4 h2))
noncomputable def F5_72 (k24 : Nat → Nat → Nat → Nat → Nat → fS → Option fR) (l0 : Nat) (l1 : Nat) (l2 : Nat) (l3 : Nat) (l4 : Nat) (T : fS) : Option fR := (k24 l0 l1 l2 l3 (iA l4 1) T)
theorem G5_72 {z : Option mm_O} {T : fS} {r : fR} (k24 : Nat → Nat → Nat → Nat → Nat → fS → Option fR) (hk24 : ∀ (l0 : Nat) (xl1 : Int32) (l1 : Nat) (hl1 : xl1 = nI l1) (xl2 : Int32) (l2 : Nat) (hl2 : xl2 = nI l2) (l3 : Nat) (xl4 : Int32) (l4 : Nat) (hl4 : xl4 = nI l4) (T : fS) (r : fR), k24 l0 l1 l2 l3 l4 T = some r → mm_L 5 24 [.ref l0, .int xl1, .int xl2, .ref l3, .int xl4] [] (toS z T) = some (tR z r)) (l0 : Nat) (xl1 : Int32) (l1 : Nat) (hl1 : xl1 = nI l1) (xl2 : Int32) (l2 : Nat) (hl2 : xl2 = nI l2) (l3 : Nat) (xl4 : Int32) (l4 : Nat) (hl4 : xl4 = nI l4) (h : F5_72 k24 l0 l1 l2 l3 l4 T = some r) : mm_L 5 72 [.ref l0, .int xl1, .int xl2, .ref l3, .int xl4] [] (toS z T) = some (tR z r) := by
  unfold F5_72 at h
  refine Eq.trans (e5_72 ..) ?_
  exact (hk24 _ _ _ hl1 _ _ hl2 _ _ _ (iA_ok hl4 (rfl : (1 : Int32) = nI 1)) _ _ h)
noncomputable def F5_68 (k24 : Nat → Nat → Nat → Nat → Nat → fS → Option fR) (l0 : Nat) (l1 : Nat) (l2 : Nat) (l3 : Nat) (l4 : Nat) (s0 : Nat) (T : fS) : Option fR := (fKv true (fif (fch T s0 3) (F17_0 s0 l3 T) none) (fun T1 => F5_72 k24 l0 l1 l2 l3 l4 T1))
theorem G5_68 {z : Option mm_O} {T : fS} {r : fR} (k24 : Nat → Nat → Nat → Nat → Nat → fS → Option fR) (hk24 : ∀ (l0 : Nat) (xl1 : Int32) (l1 : Nat) (hl1 : xl1 = nI l1) (xl2 : Int32) (l2 : Nat) (hl2 : xl2 = nI l2) (l3 : Nat) (xl4 : Int32) (l4 : Nat) (hl4 : xl4 = nI l4) (T : fS) (r : fR), k24 l0 l1 l2 l3 l4 T = some r → mm_L 5 24 [.ref l0, .int xl1, .int xl2, .ref l3, .int xl4] [] (toS z T) = some (tR z r)) (l0 : Nat) (xl1 : Int32) (l1 : Nat) (hl1 : xl1 = nI l1) (xl2 : Int32) (l2 : Nat) (hl2 : xl2 = nI l2) (l3 : Nat) (xl4 : Int32) (l4 : Nat) (hl4 : xl4 = nI l4) (s0 : Nat) (h : F5_68 k24 l0 l1 l2 l3 l4 s0 T = some r) : mm_L 5 68 [.ref l0, .int xl1, .int xl2, .ref l3, .int xl4] [.ref s0] (toS z T) = some (tR z r) := by
  unfold F5_68 at h
  refine Eq.trans (e5_68 ..) ?_
  exact (fb_K0v (fun _ q => fb_mo (y := 17) ow_17 q (fun q => GM17 _ _ q)) h (fun T1 h2 => G5_72 k24 hk24 _ _ _ hl1 _ _ hl2 _ _ _ hl4 h2))
noncomputable def F5_65 (k24 : Nat → Nat → Nat → Nat → Nat → fS → Option fR) (l0 : Nat) (l1 : Nat) (l2 : Nat) (l3 : Nat) (l4 : Nat) (s0 : Nat) (T : fS) : Option fR := (fif (fch T s0 3) (F5_68 k24 l0 l1 l2 l3 l4 s0 T) none)
theorem G5_65 {z : Option mm_O} {T : fS} {r : fR} (k24 : Nat → Nat → Nat → Nat → Nat → fS → Option fR) (hk24 : ∀ (l0 : Nat) (xl1 : Int32) (l1 : Nat) (hl1 : xl1 = nI l1) (xl2 : Int32) (l2 : Nat) (hl2 : xl2 = nI l2) (l3 : Nat) (xl4 : Int32) (l4 : Nat) (hl4 : xl4 = nI l4) (T : fS) (r : fR), k24 l0 l1 l2 l3 l4 T = some r → mm_L 5 24 [.ref l0, .int xl1, .int xl2, .ref l3, .int xl4] [] (toS z T) = some (tR z r)) (l0 : Nat) (xl1 : Int32) (l1 : Nat) (hl1 : xl1 = nI l1) (xl2 : Int32) (l2 : Nat) (hl2 : xl2 = nI l2) (l3 : Nat) (xl4 : Int32) (l4 : Nat) (hl4 : xl4 = nI l4) (s0 : Nat) (h : F5_65 k24 l0 l1 l2 l3 l4 s0 T = some r) : mm_L 5 65 [.ref l0, .int xl1, .int xl2, .ref l3, .int xl4] [.ref s0] (toS z T) = some (tR z r) := by
  unfold F5_65 at h
  refine Eq.trans (e5_65 ..) ?_
  exact (fb_c h (fun h2 => G5_68 k24 hk24 _ _ _ hl1 _ _ hl2 _ _ _ hl4 _ h2))
noncomputable def F5_60 (k24 : Nat → Nat → Nat → Nat → Nat → fS → Option fR) (l0 : Nat) (l1 : Nat) (l2 : Nat) (l3 : Nat) (l4 : Nat) (s0 : Nat) (T : fS) : Option fR := (fbn (flg T s0 l4) (fun v0 => F5_65 k24 l0 l1 l2 l3 l4 v0 T))
theorem G5_60 {z : Option mm_O} {T : fS} {r : fR} (k24 : Nat → Nat → Nat → Nat → Nat → fS → Option fR) (hk24 : ∀ (l0 : Nat) (xl1 : Int32) (l1 : Nat) (hl1 : xl1 = nI l1) (xl2 : Int32) (l2 : Nat) (hl2 : xl2 = nI l2) (l3 : Nat) (xl4 : Int32) (l4 : Nat) (hl4 : xl4 = nI l4) (T : fS) (r : fR), k24 l0 l1 l2 l3 l4 T = some r → mm_L 5 24 [.ref l0, .int xl1, .int xl2, .ref l3, .int xl4] [] (toS z T) = some (tR z r)) (l0 : Nat) (xl1 : Int32) (l1 : Nat) (hl1 : xl1 = nI l1) (xl2 : Int32) (l2 : Nat) (hl2 : xl2 = nI l2) (l3 : Nat) (xl4 : Int32) (l4 : Nat) (hl4 : xl4 = nI l4) (s0 : Nat) (h : F5_60 k24 l0 l1 l2 l3 l4 s0 T = some r) : mm_L 5 60 [.ref l0, .int xl1, .int xl2, .ref l3, .int xl4] [.ref s0] (toS z T) = some (tR z r) := by
  unfold F5_60 at h
  refine Eq.trans (e5_60 ..) ?_
  exact (fb_g (fun _ q => by rw [hl4]; exact flg_ok q) h (fun v0 h2 => G5_65 k24 hk24 _ _ _ hl1 _ _ hl2 _ _ _ hl4 _ h2))
noncomputable def F5_56 (k24 : Nat → Nat → Nat → Nat → Nat → fS → Option fR) (l0 : Nat) (l1 : Nat) (l2 : Nat) (l3 : Nat) (l4 : Nat) (T : fS) : Option fR := (fbv (fgr T l0 0 4) (fun v0 => F5_60 k24 l0 l1 l2 l3 l4 v0 T) ((none : Option fR)))
theorem G5_56 {z : Option mm_O} {T : fS} {r : fR} (k24 : Nat → Nat → Nat → Nat → Nat → fS → Option fR) (hk24 : ∀ (l0 : Nat) (xl1 : Int32) (l1 : Nat) (hl1 : xl1 = nI l1) (xl2 : Int32) (l2 : Nat) (hl2 : xl2 = nI l2) (l3 : Nat) (xl4 : Int32) (l4 : Nat) (hl4 : xl4 = nI l4) (T : fS) (r : fR), k24 l0 l1 l2 l3 l4 T = some r → mm_L 5 24 [.ref l0, .int xl1, .int xl2, .ref l3, .int xl4] [] (toS z T) = some (tR z r)) (l0 : Nat) (xl1 : Int32) (l1 : Nat) (hl1 : xl1 = nI l1) (xl2 : Int32) (l2 : Nat) (hl2 : xl2 = nI l2) (l3 : Nat) (xl4 : Int32) (l4 : Nat) (hl4 : xl4 = nI l4) (h : F5_56 k24 l0 l1 l2 l3 l4 T = some r) : mm_L 5 56 [.ref l0, .int xl1, .int xl2, .ref l3, .int xl4] [] (toS z T) = some (tR z r) := by
  unfold F5_56 at h
  refine Eq.trans (e5_56 ..) ?_
  exact (fb_v (fun _ q => fgr_ok q) h (fun v0 h2 => G5_60 k24 hk24 _ _ _ hl1 _ _ hl2 _ _ _ hl4 _ h2) (fun h2 => fr_n h2))
noncomputable def F5_53 (k24 : Nat → Nat → Nat → Nat → Nat → fS → Option fR) (l0 : Nat) (l1 : Nat) (l2 : Nat) (l3 : Nat) (l4 : Nat) (s0 : Nat) (T : fS) : Option fR := (fif (ieq s0 0) (F5_72 k24 l0 l1 l2 l3 l4 T) (F5_56 k24 l0 l1 l2 l3 l4 T))
theorem G5_53 {z : Option mm_O} {T : fS} {r : fR} (k24 : Nat → Nat → Nat → Nat → Nat → fS → Option fR) (hk24 : ∀ (l0 : Nat) (xl1 : Int32) (l1 : Nat) (hl1 : xl1 = nI l1) (xl2 : Int32) (l2 : Nat) (hl2 : xl2 = nI l2) (l3 : Nat) (xl4 : Int32) (l4 : Nat) (hl4 : xl4 = nI l4) (T : fS) (r : fR), k24 l0 l1 l2 l3 l4 T = some r → mm_L 5 24 [.ref l0, .int xl1, .int xl2, .ref l3, .int xl4] [] (toS z T) = some (tR z r)) (l0 : Nat) (xl1 : Int32) (l1 : Nat) (hl1 : xl1 = nI l1) (xl2 : Int32) (l2 : Nat) (hl2 : xl2 = nI l2) (l3 : Nat) (xl4 : Int32) (l4 : Nat) (hl4 : xl4 = nI l4) (xs0 : Int32) (s0 : Nat) (hs0 : xs0 = nI s0) (h : F5_53 k24 l0 l1 l2 l3 l4 s0 T = some r) : mm_L 5 53 [.ref l0, .int xl1, .int xl2, .ref l3, .int xl4] [.int xs0] (toS z T) = some (tR z r) := by
  unfold F5_53 at h
  refine Eq.trans (e5_53 ..) ?_
  exact (fb_if (cj_eq hs0 (rfl : (0 : Int32) = nI 0)) h (fun h1 => (G5_72 k24 hk24 _ _ _ hl1 _ _ hl2 _ _ _ hl4 h1)) (fun h1 => (G5_56 k24 hk24 _ _ _ hl1 _ _ hl2 _ _ _ hl4 h1)))
noncomputable def F5_48 (k24 : Nat → Nat → Nat → Nat → Nat → fS → Option fR) (l0 : Nat) (l1 : Nat) (l2 : Nat) (l3 : Nat) (l4 : Nat) (s0 : Nat) (T : fS) : Option fR := (fKi true (fif (fch T s0 3) (F16_0 s0 l1 l2 T) none) (fun v0 T1 => F5_53 k24 l0 l1 l2 l3 l4 v0 T1))
theorem G5_48 {z : Option mm_O} {T : fS} {r : fR} (k24 : Nat → Nat → Nat → Nat → Nat → fS → Option fR) (hk24 : ∀ (l0 : Nat) (xl1 : Int32) (l1 : Nat) (hl1 : xl1 = nI l1) (xl2 : Int32) (l2 : Nat) (hl2 : xl2 = nI l2) (l3 : Nat) (xl4 : Int32) (l4 : Nat) (hl4 : xl4 = nI l4) (T : fS) (r : fR), k24 l0 l1 l2 l3 l4 T = some r → mm_L 5 24 [.ref l0, .int xl1, .int xl2, .ref l3, .int xl4] [] (toS z T) = some (tR z r)) (l0 : Nat) (xl1 : Int32) (l1 : Nat) (hl1 : xl1 = nI l1) (xl2 : Int32) (l2 : Nat) (hl2 : xl2 = nI l2) (l3 : Nat) (xl4 : Int32) (l4 : Nat) (hl4 : xl4 = nI l4) (s0 : Nat) (h : F5_48 k24 l0 l1 l2 l3 l4 s0 T = some r) : mm_L 5 48 [.ref l0, .int xl1, .int xl2, .ref l3, .int xl4] [.ref s0] (toS z T) = some (tR z r) := by
  unfold F5_48 at h
  refine Eq.trans (e5_48 ..) ?_
  exact (fb_K0i (fun _ q => fb_mo (y := 16) ow_16 q (fun q => GM16 _ _ _ hl1 _ _ hl2 q)) h (fun v0 T1 h2 => G5_53 k24 hk24 _ _ _ hl1 _ _ hl2 _ _ _ hl4 _ _ rfl h2))
noncomputable def F5_45 (k24 : Nat → Nat → Nat → Nat → Nat → fS → Option fR) (l0 : Nat) (l1 : Nat) (l2 : Nat) (l3 : Nat) (l4 : Nat) (s0 : Nat) (T : fS) : Option fR := (fif (fch T s0 3) (F5_48 k24 l0 l1 l2 l3 l4 s0 T) none)
theorem G5_45 {z : Option mm_O} {T : fS} {r : fR} (k24 : Nat → Nat → Nat → Nat → Nat → fS → Option fR) (hk24 : ∀ (l0 : Nat) (xl1 : Int32) (l1 : Nat) (hl1 : xl1 = nI l1) (xl2 : Int32) (l2 : Nat) (hl2 : xl2 = nI l2) (l3 : Nat) (xl4 : Int32) (l4 : Nat) (hl4 : xl4 = nI l4) (T : fS) (r : fR), k24 l0 l1 l2 l3 l4 T = some r → mm_L 5 24 [.ref l0, .int xl1, .int xl2, .ref l3, .int xl4] [] (toS z T) = some (tR z r)) (l0 : Nat) (xl1 : Int32) (l1 : Nat) (hl1 : xl1 = nI l1) (xl2 : Int32) (l2 : Nat) (hl2 : xl2 = nI l2) (l3 : Nat) (xl4 : Int32) (l4 : Nat) (hl4 : xl4 = nI l4) (s0 : Nat) (h : F5_45 k24 l0 l1 l2 l3 l4 s0 T = some r) : mm_L 5 45 [.ref l0, .int xl1, .int xl2, .ref l3, .int xl4] [.ref s0] (toS z T) = some (tR z r) := by
  unfold F5_45 at h
  refine Eq.trans (e5_45 ..) ?_
  exact (fb_c h (fun h2 => G5_48 k24 hk24 _ _ _ hl1 _ _ hl2 _ _ _ hl4 _ h2))
noncomputable def F5_40 (k24 : Nat → Nat → Nat → Nat → Nat → fS → Option fR) (l0 : Nat) (l1 : Nat) (l2 : Nat) (l3 : Nat) (l4 : Nat) (s0 : Nat) (T : fS) : Option fR := (fbn (flg T s0 l4) (fun v0 => F5_45 k24 l0 l1 l2 l3 l4 v0 T))
theorem G5_40 {z : Option mm_O} {T : fS} {r : fR} (k24 : Nat → Nat → Nat → Nat → Nat → fS → Option fR) (hk24 : ∀ (l0 : Nat) (xl1 : Int32) (l1 : Nat) (hl1 : xl1 = nI l1) (xl2 : Int32) (l2 : Nat) (hl2 : xl2 = nI l2) (l3 : Nat) (xl4 : Int32) (l4 : Nat) (hl4 : xl4 = nI l4) (T : fS) (r : fR), k24 l0 l1 l2 l3 l4 T = some r → mm_L 5 24 [.ref l0, .int xl1, .int xl2, .ref l3, .int xl4] [] (toS z T) = some (tR z r)) (l0 : Nat) (xl1 : Int32) (l1 : Nat) (hl1 : xl1 = nI l1) (xl2 : Int32) (l2 : Nat) (hl2 : xl2 = nI l2) (l3 : Nat) (xl4 : Int32) (l4 : Nat) (hl4 : xl4 = nI l4) (s0 : Nat) (h : F5_40 k24 l0 l1 l2 l3 l4 s0 T = some r) : mm_L 5 40 [.ref l0, .int xl1, .int xl2, .ref l3, .int xl4] [.ref s0] (toS z T) = some (tR z r) := by
  unfold F5_40 at h
  refine Eq.trans (e5_40 ..) ?_
  exact (fb_g (fun _ q => by rw [hl4]; exact flg_ok q) h (fun v0 h2 => G5_45 k24 hk24 _ _ _ hl1 _ _ hl2 _ _ _ hl4 _ h2))
noncomputable def F5_36 (k24 : Nat → Nat → Nat → Nat → Nat → fS → Option fR) (l0 : Nat) (l1 : Nat) (l2 : Nat) (l3 : Nat) (l4 : Nat) (T : fS) : Option fR := (fbv (fgr T l0 0 4) (fun v0 => F5_40 k24 l0 l1 l2 l3 l4 v0 T) ((none : Option fR)))
theorem G5_36 {z : Option mm_O} {T : fS} {r : fR} (k24 : Nat → Nat → Nat → Nat → Nat → fS → Option fR) (hk24 : ∀ (l0 : Nat) (xl1 : Int32) (l1 : Nat) (hl1 : xl1 = nI l1) (xl2 : Int32) (l2 : Nat) (hl2 : xl2 = nI l2) (l3 : Nat) (xl4 : Int32) (l4 : Nat) (hl4 : xl4 = nI l4) (T : fS) (r : fR), k24 l0 l1 l2 l3 l4 T = some r → mm_L 5 24 [.ref l0, .int xl1, .int xl2, .ref l3, .int xl4] [] (toS z T) = some (tR z r)) (l0 : Nat) (xl1 : Int32) (l1 : Nat) (hl1 : xl1 = nI l1) (xl2 : Int32) (l2 : Nat) (hl2 : xl2 = nI l2) (l3 : Nat) (xl4 : Int32) (l4 : Nat) (hl4 : xl4 = nI l4) (h : F5_36 k24 l0 l1 l2 l3 l4 T = some r) : mm_L 5 36 [.ref l0, .int xl1, .int xl2, .ref l3, .int xl4] [] (toS z T) = some (tR z r) := by
  unfold F5_36 at h
  refine Eq.trans (e5_36 ..) ?_
  exact (fb_v (fun _ q => fgr_ok q) h (fun v0 h2 => G5_40 k24 hk24 _ _ _ hl1 _ _ hl2 _ _ _ hl4 _ h2) (fun h2 => fr_n h2))
noncomputable def F5_78  (l0 : Nat) (l1 : Nat) (l2 : Nat) (l3 : Nat) (l4 : Nat) (T : fS) : Option fR := (some ((.inl none, T) : fR))
theorem G5_78 {z : Option mm_O} {T : fS} {r : fR}  (l0 : Nat) (xl1 : Int32) (l1 : Nat) (hl1 : xl1 = nI l1) (xl2 : Int32) (l2 : Nat) (hl2 : xl2 = nI l2) (l3 : Nat) (xl4 : Int32) (l4 : Nat) (hl4 : xl4 = nI l4) (h : F5_78  l0 l1 l2 l3 l4 T = some r) : mm_L 5 78 [.ref l0, .int xl1, .int xl2, .ref l3, .int xl4] [] (toS z T) = some (tR z r) := by
  unfold F5_78 at h
  refine Eq.trans (e5_78 ..) ?_
  exact (fr_v h)
noncomputable def F5_33 (k24 : Nat → Nat → Nat → Nat → Nat → fS → Option fR) (l0 : Nat) (l1 : Nat) (l2 : Nat) (l3 : Nat) (l4 : Nat) (s0 : Nat) (s1 : Nat) (T : fS) : Option fR := (fif (ile s0 s1) (F5_78  l0 l1 l2 l3 l4 T) (F5_36 k24 l0 l1 l2 l3 l4 T))
theorem G5_33 {z : Option mm_O} {T : fS} {r : fR} (k24 : Nat → Nat → Nat → Nat → Nat → fS → Option fR) (hk24 : ∀ (l0 : Nat) (xl1 : Int32) (l1 : Nat) (hl1 : xl1 = nI l1) (xl2 : Int32) (l2 : Nat) (hl2 : xl2 = nI l2) (l3 : Nat) (xl4 : Int32) (l4 : Nat) (hl4 : xl4 = nI l4) (T : fS) (r : fR), k24 l0 l1 l2 l3 l4 T = some r → mm_L 5 24 [.ref l0, .int xl1, .int xl2, .ref l3, .int xl4] [] (toS z T) = some (tR z r)) (l0 : Nat) (xl1 : Int32) (l1 : Nat) (hl1 : xl1 = nI l1) (xl2 : Int32) (l2 : Nat) (hl2 : xl2 = nI l2) (l3 : Nat) (xl4 : Int32) (l4 : Nat) (hl4 : xl4 = nI l4) (xs0 : Int32) (s0 : Nat) (hs0 : xs0 = nI s0) (xs1 : Int32) (s1 : Nat) (hs1 : xs1 = nI s1) (h : F5_33 k24 l0 l1 l2 l3 l4 s0 s1 T = some r) : mm_L 5 33 [.ref l0, .int xl1, .int xl2, .ref l3, .int xl4] [.int xs0, .int xs1] (toS z T) = some (tR z r) := by
  unfold F5_33 at h
  refine Eq.trans (e5_33 ..) ?_
  exact (fb_if (cj_le hs0 hs1) h (fun h1 => (G5_78  _ _ _ hl1 _ _ hl2 _ _ _ hl4 h1)) (fun h1 => (G5_36 k24 hk24 _ _ _ hl1 _ _ hl2 _ _ _ hl4 h1)))
noncomputable def F5_30 (k24 : Nat → Nat → Nat → Nat → Nat → fS → Option fR) (l0 : Nat) (l1 : Nat) (l2 : Nat) (l3 : Nat) (l4 : Nat) (s0 : Nat) (s1 : Nat) (T : fS) : Option fR := (fbn (flz T s0) (fun v0 => F5_33 k24 l0 l1 l2 l3 l4 v0 s1 T))
theorem G5_30 {z : Option mm_O} {T : fS} {r : fR} (k24 : Nat → Nat → Nat → Nat → Nat → fS → Option fR) (hk24 : ∀ (l0 : Nat) (xl1 : Int32) (l1 : Nat) (hl1 : xl1 = nI l1) (xl2 : Int32) (l2 : Nat) (hl2 : xl2 = nI l2) (l3 : Nat) (xl4 : Int32) (l4 : Nat) (hl4 : xl4 = nI l4) (T : fS) (r : fR), k24 l0 l1 l2 l3 l4 T = some r → mm_L 5 24 [.ref l0, .int xl1, .int xl2, .ref l3, .int xl4] [] (toS z T) = some (tR z r)) (l0 : Nat) (xl1 : Int32) (l1 : Nat) (hl1 : xl1 = nI l1) (xl2 : Int32) (l2 : Nat) (hl2 : xl2 = nI l2) (l3 : Nat) (xl4 : Int32) (l4 : Nat) (hl4 : xl4 = nI l4) (s0 : Nat) (xs1 : Int32) (s1 : Nat) (hs1 : xs1 = nI s1) (h : F5_30 k24 l0 l1 l2 l3 l4 s0 s1 T = some r) : mm_L 5 30 [.ref l0, .int xl1, .int xl2, .ref l3, .int xl4] [.ref s0, .int xs1] (toS z T) = some (tR z r) := by
  unfold F5_30 at h
  refine Eq.trans (e5_30 ..) ?_
  exact (fb_n (fun _ q => flz_ok q) h (fun v0 h2 => G5_33 k24 hk24 _ _ _ hl1 _ _ hl2 _ _ _ hl4 _ _ rfl _ _ hs1 h2))
noncomputable def F5_24 (k24 : Nat → Nat → Nat → Nat → Nat → fS → Option fR) (l0 : Nat) (l1 : Nat) (l2 : Nat) (l3 : Nat) (l4 : Nat) (T : fS) : Option fR := (fbv (fgr T l0 0 4) (fun v0 => F5_30 k24 l0 l1 l2 l3 l4 v0 l4 T) ((none : Option fR)))
theorem G5_24 {z : Option mm_O} {T : fS} {r : fR} (k24 : Nat → Nat → Nat → Nat → Nat → fS → Option fR) (hk24 : ∀ (l0 : Nat) (xl1 : Int32) (l1 : Nat) (hl1 : xl1 = nI l1) (xl2 : Int32) (l2 : Nat) (hl2 : xl2 = nI l2) (l3 : Nat) (xl4 : Int32) (l4 : Nat) (hl4 : xl4 = nI l4) (T : fS) (r : fR), k24 l0 l1 l2 l3 l4 T = some r → mm_L 5 24 [.ref l0, .int xl1, .int xl2, .ref l3, .int xl4] [] (toS z T) = some (tR z r)) (l0 : Nat) (xl1 : Int32) (l1 : Nat) (hl1 : xl1 = nI l1) (xl2 : Int32) (l2 : Nat) (hl2 : xl2 = nI l2) (l3 : Nat) (xl4 : Int32) (l4 : Nat) (hl4 : xl4 = nI l4) (h : F5_24 k24 l0 l1 l2 l3 l4 T = some r) : mm_L 5 24 [.ref l0, .int xl1, .int xl2, .ref l3, .int xl4] [] (toS z T) = some (tR z r) := by
  unfold F5_24 at h
  refine Eq.trans (e5_24 ..) ?_
  exact (fb_v (fun _ q => fgr_ok q) h (fun v0 h2 => G5_30 k24 hk24 _ _ _ hl1 _ _ hl2 _ _ _ hl4 _ _ _ hl4 h2) (fun h2 => fr_n h2))
noncomputable def H5_24  (n : Nat) : Nat → Nat → Nat → Nat → Nat → fS → Option fR := Nat.rec (motive := fun _ => Nat → Nat → Nat → Nat → Nat → fS → Option fR) (fun _ _ _ _ _ _ => none) (fun _ ih => F5_24 ih) n
theorem HG5_24 {z : Option mm_O}  : ∀ (n : Nat) (l0 : Nat) (xl1 : Int32) (l1 : Nat) (hl1 : xl1 = nI l1) (xl2 : Int32) (l2 : Nat) (hl2 : xl2 = nI l2) (l3 : Nat) (xl4 : Int32) (l4 : Nat) (hl4 : xl4 = nI l4) {T : fS} {r : fR}, H5_24  n l0 l1 l2 l3 l4 T = some r → mm_L 5 24 [.ref l0, .int xl1, .int xl2, .ref l3, .int xl4] [] (toS z T) = some (tR z r) := by
  intro n
  induction n with
  | zero =>
    intro l0 xl1 l1 hl1 xl2 l2 hl2 l3 xl4 l4 hl4 T r h
    exact fr_n h
  | succ n ih =>
    intro l0 xl1 l1 hl1 xl2 l2 hl2 l3 xl4 l4 hl4 T r h
    exact G5_24 (H5_24  n) (fun l0 xl1 l1 hl1 xl2 l2 hl2 l3 xl4 l4 hl4 T r h => ih l0 xl1 l1 hl1 xl2 l2 hl2 l3 xl4 l4 hl4 h) l0 xl1 l1 hl1 xl2 l2 hl2 l3 xl4 l4 hl4 h
noncomputable def F5_21  (l0 : Nat) (l1 : Nat) (l2 : Nat) (l3 : Nat) (l4 : Nat) (T : fS) : Option fR := (H5_24  300 l0 l1 l2 l3 0 T)
theorem G5_21 {z : Option mm_O} {T : fS} {r : fR}  (l0 : Nat) (xl1 : Int32) (l1 : Nat) (hl1 : xl1 = nI l1) (xl2 : Int32) (l2 : Nat) (hl2 : xl2 = nI l2) (l3 : Nat) (xl4 : Int32) (l4 : Nat) (hl4 : xl4 = nI l4) (h : F5_21  l0 l1 l2 l3 l4 T = some r) : mm_L 5 21 [.ref l0, .int xl1, .int xl2, .ref l3, .int xl4] [] (toS z T) = some (tR z r) := by
  unfold F5_21 at h
  refine Eq.trans (e5_21 ..) ?_
  exact (HG5_24  300 _ _ _ hl1 _ _ hl2 _ _ _ (rfl : (0 : Int32) = nI 0) h)
noncomputable def F5_7 (k3 : Nat → Nat → Nat → Nat → Nat → fS → Option fR) (l0 : Nat) (l1 : Nat) (l2 : Nat) (l3 : Nat) (l4 : Nat) (s0 : Nat) (s1 : Nat) (T : fS) : Option fR := (fif (ile s0 s1) (F5_21  l0 l1 l2 l3 l4 T) (F5_10 k3 l0 l1 l2 l3 l4 T))
theorem G5_7 {z : Option mm_O} {T : fS} {r : fR} (k3 : Nat → Nat → Nat → Nat → Nat → fS → Option fR) (hk3 : ∀ (l0 : Nat) (xl1 : Int32) (l1 : Nat) (hl1 : xl1 = nI l1) (xl2 : Int32) (l2 : Nat) (hl2 : xl2 = nI l2) (l3 : Nat) (xl4 : Int32) (l4 : Nat) (hl4 : xl4 = nI l4) (T : fS) (r : fR), k3 l0 l1 l2 l3 l4 T = some r → mm_L 5 3 [.ref l0, .int xl1, .int xl2, .ref l3, .int xl4] [] (toS z T) = some (tR z r)) (l0 : Nat) (xl1 : Int32) (l1 : Nat) (hl1 : xl1 = nI l1) (xl2 : Int32) (l2 : Nat) (hl2 : xl2 = nI l2) (l3 : Nat) (xl4 : Int32) (l4 : Nat) (hl4 : xl4 = nI l4) (xs0 : Int32) (s0 : Nat) (hs0 : xs0 = nI s0) (xs1 : Int32) (s1 : Nat) (hs1 : xs1 = nI s1) (h : F5_7 k3 l0 l1 l2 l3 l4 s0 s1 T = some r) : mm_L 5 7 [.ref l0, .int xl1, .int xl2, .ref l3, .int xl4] [.int xs0, .int xs1] (toS z T) = some (tR z r) := by
  unfold F5_7 at h
  refine Eq.trans (e5_7 ..) ?_
  exact (fb_if (cj_le hs0 hs1) h (fun h1 => (G5_21  _ _ _ hl1 _ _ hl2 _ _ _ hl4 h1)) (fun h1 => (G5_10 k3 hk3 _ _ _ hl1 _ _ hl2 _ _ _ hl4 h1)))
noncomputable def F5_3 (k3 : Nat → Nat → Nat → Nat → Nat → fS → Option fR) (l0 : Nat) (l1 : Nat) (l2 : Nat) (l3 : Nat) (l4 : Nat) (T : fS) : Option fR := (fbn (fln T l3) (fun v0 => F5_7 k3 l0 l1 l2 l3 l4 v0 l4 T))
theorem G5_3 {z : Option mm_O} {T : fS} {r : fR} (k3 : Nat → Nat → Nat → Nat → Nat → fS → Option fR) (hk3 : ∀ (l0 : Nat) (xl1 : Int32) (l1 : Nat) (hl1 : xl1 = nI l1) (xl2 : Int32) (l2 : Nat) (hl2 : xl2 = nI l2) (l3 : Nat) (xl4 : Int32) (l4 : Nat) (hl4 : xl4 = nI l4) (T : fS) (r : fR), k3 l0 l1 l2 l3 l4 T = some r → mm_L 5 3 [.ref l0, .int xl1, .int xl2, .ref l3, .int xl4] [] (toS z T) = some (tR z r)) (l0 : Nat) (xl1 : Int32) (l1 : Nat) (hl1 : xl1 = nI l1) (xl2 : Int32) (l2 : Nat) (hl2 : xl2 = nI l2) (l3 : Nat) (xl4 : Int32) (l4 : Nat) (hl4 : xl4 = nI l4) (h : F5_3 k3 l0 l1 l2 l3 l4 T = some r) : mm_L 5 3 [.ref l0, .int xl1, .int xl2, .ref l3, .int xl4] [] (toS z T) = some (tR z r) := by
  unfold F5_3 at h
  refine Eq.trans (e5_3 ..) ?_
  exact (fb_n (fun _ q => fln_ok q) h (fun v0 h2 => G5_7 k3 hk3 _ _ _ hl1 _ _ hl2 _ _ _ hl4 _ _ rfl _ _ hl4 h2))
noncomputable def H5_3  (n : Nat) : Nat → Nat → Nat → Nat → Nat → fS → Option fR := Nat.rec (motive := fun _ => Nat → Nat → Nat → Nat → Nat → fS → Option fR) (fun _ _ _ _ _ _ => none) (fun _ ih => F5_3 ih) n
theorem HG5_3 {z : Option mm_O}  : ∀ (n : Nat) (l0 : Nat) (xl1 : Int32) (l1 : Nat) (hl1 : xl1 = nI l1) (xl2 : Int32) (l2 : Nat) (hl2 : xl2 = nI l2) (l3 : Nat) (xl4 : Int32) (l4 : Nat) (hl4 : xl4 = nI l4) {T : fS} {r : fR}, H5_3  n l0 l1 l2 l3 l4 T = some r → mm_L 5 3 [.ref l0, .int xl1, .int xl2, .ref l3, .int xl4] [] (toS z T) = some (tR z r) := by
  intro n
  induction n with
  | zero =>
    intro l0 xl1 l1 hl1 xl2 l2 hl2 l3 xl4 l4 hl4 T r h
    exact fr_n h
  | succ n ih =>
    intro l0 xl1 l1 hl1 xl2 l2 hl2 l3 xl4 l4 hl4 T r h
    exact G5_3 (H5_3  n) (fun l0 xl1 l1 hl1 xl2 l2 hl2 l3 xl4 l4 hl4 T r h => ih l0 xl1 l1 hl1 xl2 l2 hl2 l3 xl4 l4 hl4 h) l0 xl1 l1 hl1 xl2 l2 hl2 l3 xl4 l4 hl4 h
noncomputable def F5_0  (l0 : Nat) (l1 : Nat) (l2 : Nat) (l3 : Nat) (T : fS) : Option fR := (H5_3  300 l0 l1 l2 l3 0 T)
theorem G5_0 {z : Option mm_O} {T : fS} {r : fR}  (l0 : Nat) (xl1 : Int32) (l1 : Nat) (hl1 : xl1 = nI l1) (xl2 : Int32) (l2 : Nat) (hl2 : xl2 = nI l2) (l3 : Nat) (ul4 : Value) (h : F5_0  l0 l1 l2 l3 T = some r) : mm_L 5 0 [.ref l0, .int xl1, .int xl2, .ref l3, ul4] [] (toS z T) = some (tR z r) := by
  unfold F5_0 at h
  refine Eq.trans (e5_0 ..) ?_
  exact (HG5_3  300 _ _ _ hl1 _ _ hl2 _ _ _ (rfl : (0 : Int32) = nI 0) h)
theorem GM5 {z : Option mm_O} {T : fS} {r : fR} (l0 : Nat) (xl1 : Int32) (l1 : Nat) (hl1 : xl1 = nI l1) (xl2 : Int32) (l2 : Nat) (hl2 : xl2 = nI l2) (l3 : Nat) (h : F5_0 l0 l1 l2 l3 T = some r) : mm_M 5 [.ref l0, .int xl1, .int xl2, .ref l3] (toS z T) = some (tR z r) := Eq.trans (M_5 ..) (G5_0 l0 xl1 l1 hl1 xl2 l2 hl2 l3 _ h)
