-- 64: HandArchive.easeTurn
noncomputable def F64_8  (l0 : Nat) (l1 : Nat) (l2 : Nat) (T : fS) : Option fR := (some ((.inl none, T) : fR))
theorem G64_8 {z : Option mm_O} {T : fS} {r : fR}  (l0 : Nat) (xl1 : Int32) (l1 : Nat) (hl1 : xl1 = nI l1) (l2 : Nat) (ul3 : Value) (h : F64_8  l0 l1 l2 T = some r) : mm_L 64 8 [.ref l0, .int xl1, .ref l2, ul3] [] (toS z T) = some (tR z r) := by
  unfold F64_8 at h
  refine Eq.trans (e64_8 ..) ?_
  exact (fr_v h)
noncomputable def F64_53  (l0 : Nat) (l1 : Nat) (l2 : Nat) (l3 : Nat) (T : fS) : Option fR := (some ((.inl none, T) : fR))
theorem G64_53 {z : Option mm_O} {T : fS} {r : fR}  (l0 : Nat) (xl1 : Int32) (l1 : Nat) (hl1 : xl1 = nI l1) (l2 : Nat) (xl3 : Int32) (l3 : Nat) (hl3 : xl3 = nI l3) (h : F64_53  l0 l1 l2 l3 T = some r) : mm_L 64 53 [.ref l0, .int xl1, .ref l2, .int xl3] [] (toS z T) = some (tR z r) := by
  unfold F64_53 at h
  refine Eq.trans (e64_53 ..) ?_
  exact (fr_v h)
noncomputable def F64_49  (l0 : Nat) (l1 : Nat) (l2 : Nat) (l3 : Nat) (s0 : Nat) (T : fS) : Option fR := (fbs (fsf T s0 1 3 (.inl l3)) (fun T1 => F64_53  l0 l1 l2 l3 T1))
theorem G64_49 {z : Option mm_O} {T : fS} {r : fR}  (l0 : Nat) (xl1 : Int32) (l1 : Nat) (hl1 : xl1 = nI l1) (l2 : Nat) (xl3 : Int32) (l3 : Nat) (hl3 : xl3 = nI l3) (s0 : Nat) (h : F64_49  l0 l1 l2 l3 s0 T = some r) : mm_L 64 49 [.ref l0, .int xl1, .ref l2, .int xl3] [.ref s0] (toS z T) = some (tR z r) := by
  unfold F64_49 at h
  refine Eq.trans (e64_49 ..) ?_
  exact (fb_s (fun _ q => (fun q => by rw [hl3]; exact fsf_ok (v := .inl l3) q) q) h (fun T1 h2 => G64_53  _ _ _ hl1 _ _ _ hl3 h2))
noncomputable def F64_45  (l0 : Nat) (l1 : Nat) (l2 : Nat) (l3 : Nat) (T : fS) : Option fR := (fbv (fgr T l2 2 4) (fun v0 => F64_49  l0 l1 l2 l3 v0 T) ((none : Option fR)))
theorem G64_45 {z : Option mm_O} {T : fS} {r : fR}  (l0 : Nat) (xl1 : Int32) (l1 : Nat) (hl1 : xl1 = nI l1) (l2 : Nat) (xl3 : Int32) (l3 : Nat) (hl3 : xl3 = nI l3) (h : F64_45  l0 l1 l2 l3 T = some r) : mm_L 64 45 [.ref l0, .int xl1, .ref l2, .int xl3] [] (toS z T) = some (tR z r) := by
  unfold F64_45 at h
  refine Eq.trans (e64_45 ..) ?_
  exact (fb_v (fun _ q => fgr_ok q) h (fun v0 h2 => G64_49  _ _ _ hl1 _ _ _ hl3 _ h2) (fun h2 => fr_n h2))
noncomputable def F64_37  (l0 : Nat) (l1 : Nat) (l2 : Nat) (l3 : Nat) (s0 : Nat) (s1 : Nat) (T : fS) : Option fR := (fif (ieq (iab (iS s1 s0)) 2) (F64_45  l0 l1 l2 l3 T) (F64_53  l0 l1 l2 l3 T))
theorem G64_37 {z : Option mm_O} {T : fS} {r : fR}  (l0 : Nat) (xl1 : Int32) (l1 : Nat) (hl1 : xl1 = nI l1) (l2 : Nat) (xl3 : Int32) (l3 : Nat) (hl3 : xl3 = nI l3) (xs0 : Int32) (s0 : Nat) (hs0 : xs0 = nI s0) (xs1 : Int32) (s1 : Nat) (hs1 : xs1 = nI s1) (h : F64_37  l0 l1 l2 l3 s0 s1 T = some r) : mm_L 64 37 [.ref l0, .int xl1, .ref l2, .int xl3] [.int xs0, .int xs1] (toS z T) = some (tR z r) := by
  unfold F64_37 at h
  refine Eq.trans (e64_37 ..) ?_
  exact (fb_if (cj_eq (iab_ok (iS_ok hs1 hs0)) (rfl : (2 : Int32) = nI 2)) h (fun h1 => (G64_45  _ _ _ hl1 _ _ _ hl3 h1)) (fun h1 => (G64_53  _ _ _ hl1 _ _ _ hl3 h1)))
noncomputable def F64_34  (l0 : Nat) (l1 : Nat) (l2 : Nat) (l3 : Nat) (s0 : Nat) (s1 : Nat) (T : fS) : Option fR := (fbn (fgi T s0 1 3) (fun v0 => F64_37  l0 l1 l2 l3 v0 s1 T))
theorem G64_34 {z : Option mm_O} {T : fS} {r : fR}  (l0 : Nat) (xl1 : Int32) (l1 : Nat) (hl1 : xl1 = nI l1) (l2 : Nat) (xl3 : Int32) (l3 : Nat) (hl3 : xl3 = nI l3) (s0 : Nat) (xs1 : Int32) (s1 : Nat) (hs1 : xs1 = nI s1) (h : F64_34  l0 l1 l2 l3 s0 s1 T = some r) : mm_L 64 34 [.ref l0, .int xl1, .ref l2, .int xl3] [.ref s0, .int xs1] (toS z T) = some (tR z r) := by
  unfold F64_34 at h
  refine Eq.trans (e64_34 ..) ?_
  exact (fb_n (fun _ q => fgi_ok q) h (fun v0 h2 => G64_37  _ _ _ hl1 _ _ _ hl3 _ _ rfl _ _ hs1 h2))
noncomputable def F64_28  (l0 : Nat) (l1 : Nat) (l2 : Nat) (s0 : Nat) (T : fS) : Option fR := (fbv (fgr T l2 2 4) (fun v0 => F64_34  l0 l1 l2 s0 v0 s0 T) ((none : Option fR)))
theorem G64_28 {z : Option mm_O} {T : fS} {r : fR}  (l0 : Nat) (xl1 : Int32) (l1 : Nat) (hl1 : xl1 = nI l1) (l2 : Nat) (ul3 : Value) (xs0 : Int32) (s0 : Nat) (hs0 : xs0 = nI s0) (h : F64_28  l0 l1 l2 s0 T = some r) : mm_L 64 28 [.ref l0, .int xl1, .ref l2, ul3] [.int xs0] (toS z T) = some (tR z r) := by
  unfold F64_28 at h
  refine Eq.trans (e64_28 ..) ?_
  exact (fb_v (fun _ q => fgr_ok q) h (fun v0 h2 => G64_34  _ _ _ hl1 _ _ _ hs0 _ _ _ hs0 h2) (fun h2 => fr_n h2))
noncomputable def F64_25  (l0 : Nat) (l1 : Nat) (l2 : Nat) (s0 : Nat) (T : fS) : Option fR := (fbn (fgi T s0 1 4) (fun v0 => F64_28  l0 l1 l2 v0 T))
theorem G64_25 {z : Option mm_O} {T : fS} {r : fR}  (l0 : Nat) (xl1 : Int32) (l1 : Nat) (hl1 : xl1 = nI l1) (l2 : Nat) (ul3 : Value) (s0 : Nat) (h : F64_25  l0 l1 l2 s0 T = some r) : mm_L 64 25 [.ref l0, .int xl1, .ref l2, ul3] [.ref s0] (toS z T) = some (tR z r) := by
  unfold F64_25 at h
  refine Eq.trans (e64_25 ..) ?_
  exact (fb_n (fun _ q => fgi_ok q) h (fun v0 h2 => G64_28  _ _ _ hl1 _ _ _ _ rfl h2))
noncomputable def F64_22  (l0 : Nat) (l1 : Nat) (l2 : Nat) (s0 : Nat) (T : fS) : Option fR := (fbv (fgr T s0 2 4) (fun v0 => F64_25  l0 l1 l2 v0 T) ((none : Option fR)))
theorem G64_22 {z : Option mm_O} {T : fS} {r : fR}  (l0 : Nat) (xl1 : Int32) (l1 : Nat) (hl1 : xl1 = nI l1) (l2 : Nat) (ul3 : Value) (s0 : Nat) (h : F64_22  l0 l1 l2 s0 T = some r) : mm_L 64 22 [.ref l0, .int xl1, .ref l2, ul3] [.ref s0] (toS z T) = some (tR z r) := by
  unfold F64_22 at h
  refine Eq.trans (e64_22 ..) ?_
  exact (fb_v (fun _ q => fgr_ok q) h (fun v0 h2 => G64_25  _ _ _ hl1 _ _ _ h2) (fun h2 => fr_n h2))
noncomputable def F64_19  (l0 : Nat) (l1 : Nat) (l2 : Nat) (s0 : Nat) (T : fS) : Option fR := (fif (fch T s0 2) (F64_22  l0 l1 l2 s0 T) none)
theorem G64_19 {z : Option mm_O} {T : fS} {r : fR}  (l0 : Nat) (xl1 : Int32) (l1 : Nat) (hl1 : xl1 = nI l1) (l2 : Nat) (ul3 : Value) (s0 : Nat) (h : F64_19  l0 l1 l2 s0 T = some r) : mm_L 64 19 [.ref l0, .int xl1, .ref l2, ul3] [.ref s0] (toS z T) = some (tR z r) := by
  unfold F64_19 at h
  refine Eq.trans (e64_19 ..) ?_
  exact (fb_c h (fun h2 => G64_22  _ _ _ hl1 _ _ _ h2))
noncomputable def F64_13  (l0 : Nat) (l1 : Nat) (l2 : Nat) (s0 : Nat) (T : fS) : Option fR := (fbn (flg T s0 (iS l1 1)) (fun v0 => F64_19  l0 l1 l2 v0 T))
theorem G64_13 {z : Option mm_O} {T : fS} {r : fR}  (l0 : Nat) (xl1 : Int32) (l1 : Nat) (hl1 : xl1 = nI l1) (l2 : Nat) (ul3 : Value) (s0 : Nat) (h : F64_13  l0 l1 l2 s0 T = some r) : mm_L 64 13 [.ref l0, .int xl1, .ref l2, ul3] [.ref s0] (toS z T) = some (tR z r) := by
  unfold F64_13 at h
  refine Eq.trans (e64_13 ..) ?_
  exact (fb_g (fun _ q => by rw [(iS_ok hl1 (rfl : (1 : Int32) = nI 1))]; exact flg_ok q) h (fun v0 h2 => G64_19  _ _ _ hl1 _ _ _ h2))
noncomputable def F64_9  (l0 : Nat) (l1 : Nat) (l2 : Nat) (T : fS) : Option fR := (fbv (fgr T l0 6 1) (fun v0 => F64_13  l0 l1 l2 v0 T) ((none : Option fR)))
theorem G64_9 {z : Option mm_O} {T : fS} {r : fR}  (l0 : Nat) (xl1 : Int32) (l1 : Nat) (hl1 : xl1 = nI l1) (l2 : Nat) (ul3 : Value) (h : F64_9  l0 l1 l2 T = some r) : mm_L 64 9 [.ref l0, .int xl1, .ref l2, ul3] [] (toS z T) = some (tR z r) := by
  unfold F64_9 at h
  refine Eq.trans (e64_9 ..) ?_
  exact (fb_v (fun _ q => fgr_ok q) h (fun v0 h2 => G64_13  _ _ _ hl1 _ _ _ h2) (fun h2 => fr_n h2))
noncomputable def F64_5  (l0 : Nat) (l1 : Nat) (l2 : Nat) (s0 : Nat) (T : fS) : Option fR := (fif (ieq s0 0) (F64_8  l0 l1 l2 T) (F64_9  l0 l1 l2 T))
theorem G64_5 {z : Option mm_O} {T : fS} {r : fR}  (l0 : Nat) (xl1 : Int32) (l1 : Nat) (hl1 : xl1 = nI l1) (l2 : Nat) (ul3 : Value) (xs0 : Int32) (s0 : Nat) (hs0 : xs0 = nI s0) (h : F64_5  l0 l1 l2 s0 T = some r) : mm_L 64 5 [.ref l0, .int xl1, .ref l2, ul3] [.int xs0] (toS z T) = some (tR z r) := by
  unfold F64_5 at h
  refine Eq.trans (e64_5 ..) ?_
  exact (fb_if (cj_eq hs0 (rfl : (0 : Int32) = nI 0)) h (fun h1 => (G64_8  _ _ _ hl1 _ _ h1)) (fun h1 => (G64_9  _ _ _ hl1 _ _ h1)))
noncomputable def F64_0  (l0 : Nat) (l1 : Nat) (l2 : Nat) (T : fS) : Option fR := (fKi true (fif (fch T l0 6) (F67_0 l0 l1 T) none) (fun v0 T1 => F64_5  l0 l1 l2 v0 T1))
theorem G64_0 {z : Option mm_O} {T : fS} {r : fR}  (l0 : Nat) (xl1 : Int32) (l1 : Nat) (hl1 : xl1 = nI l1) (l2 : Nat) (ul3 : Value) (h : F64_0  l0 l1 l2 T = some r) : mm_L 64 0 [.ref l0, .int xl1, .ref l2, ul3] [] (toS z T) = some (tR z r) := by
  unfold F64_0 at h
  refine Eq.trans (e64_0 ..) ?_
  exact (fb_K0i (fun _ q => fb_mo (y := 67) ow_67 q (fun q => GM67 _ _ _ hl1 q)) h (fun v0 T1 h2 => G64_5  _ _ _ hl1 _ _ _ _ rfl h2))
theorem GM64 {z : Option mm_O} {T : fS} {r : fR} (l0 : Nat) (xl1 : Int32) (l1 : Nat) (hl1 : xl1 = nI l1) (l2 : Nat) (h : F64_0 l0 l1 l2 T = some r) : mm_M 64 [.ref l0, .int xl1, .ref l2] (toS z T) = some (tR z r) := Eq.trans (M_64 ..) (G64_0 l0 xl1 l1 hl1 l2 _ h)
-- 65: HandArchive.swapEnds
noncomputable def F65_25  (l0 : Nat) (l1 : Nat) (l2 : Nat) (T : fS) : Option fR := (some ((.inl none, T) : fR))
theorem G65_25 {z : Option mm_O} {T : fS} {r : fR}  (l0 : Nat) (xl1 : Int32) (l1 : Nat) (hl1 : xl1 = nI l1) (l2 : Nat) (ul3 : Value) (ul4 : Value) (ul5 : Value) (h : F65_25  l0 l1 l2 T = some r) : mm_L 65 25 [.ref l0, .int xl1, .ref l2, ul3, ul4, ul5] [] (toS z T) = some (tR z r) := by
  unfold F65_25 at h
  refine Eq.trans (e65_25 ..) ?_
  exact (fr_v h)
noncomputable def F65_97  (l0 : Nat) (l1 : Nat) (l2 : Nat) (l3 : Nat) (l4 : Nat) (l5 : Nat) (T : fS) : Option fR := (some ((.inl none, T) : fR))
theorem G65_97 {z : Option mm_O} {T : fS} {r : fR}  (l0 : Nat) (xl1 : Int32) (l1 : Nat) (hl1 : xl1 = nI l1) (l2 : Nat) (xl3 : Int32) (l3 : Nat) (hl3 : xl3 = nI l3) (xl4 : Int32) (l4 : Nat) (hl4 : xl4 = nI l4) (xl5 : Int32) (l5 : Nat) (hl5 : xl5 = nI l5) (h : F65_97  l0 l1 l2 l3 l4 l5 T = some r) : mm_L 65 97 [.ref l0, .int xl1, .ref l2, .int xl3, .int xl4, .int xl5] [] (toS z T) = some (tR z r) := by
  unfold F65_97 at h
  refine Eq.trans (e65_97 ..) ?_
  exact (fr_v h)
noncomputable def F65_92  (l0 : Nat) (l1 : Nat) (l2 : Nat) (l3 : Nat) (l4 : Nat) (l5 : Nat) (s0 : Nat) (T : fS) : Option fR := (fbs (fsf T s0 1 2 (.inl l4)) (fun T1 => F65_97  l0 l1 l2 l3 l4 l5 T1))
theorem G65_92 {z : Option mm_O} {T : fS} {r : fR}  (l0 : Nat) (xl1 : Int32) (l1 : Nat) (hl1 : xl1 = nI l1) (l2 : Nat) (xl3 : Int32) (l3 : Nat) (hl3 : xl3 = nI l3) (xl4 : Int32) (l4 : Nat) (hl4 : xl4 = nI l4) (xl5 : Int32) (l5 : Nat) (hl5 : xl5 = nI l5) (s0 : Nat) (h : F65_92  l0 l1 l2 l3 l4 l5 s0 T = some r) : mm_L 65 92 [.ref l0, .int xl1, .ref l2, .int xl3, .int xl4, .int xl5] [.ref s0] (toS z T) = some (tR z r) := by
  unfold F65_92 at h
  refine Eq.trans (e65_92 ..) ?_
  exact (fb_s (fun _ q => (fun q => by rw [hl4]; exact fsf_ok (v := .inl l4) q) q) h (fun T1 h2 => G65_97  _ _ _ hl1 _ _ _ hl3 _ _ hl4 _ _ hl5 h2))
noncomputable def F65_88  (l0 : Nat) (l1 : Nat) (l2 : Nat) (l3 : Nat) (l4 : Nat) (l5 : Nat) (T : fS) : Option fR := (fbv (fgr T l2 2 4) (fun v0 => F65_92  l0 l1 l2 l3 l4 l5 v0 T) ((none : Option fR)))
theorem G65_88 {z : Option mm_O} {T : fS} {r : fR}  (l0 : Nat) (xl1 : Int32) (l1 : Nat) (hl1 : xl1 = nI l1) (l2 : Nat) (xl3 : Int32) (l3 : Nat) (hl3 : xl3 = nI l3) (xl4 : Int32) (l4 : Nat) (hl4 : xl4 = nI l4) (xl5 : Int32) (l5 : Nat) (hl5 : xl5 = nI l5) (h : F65_88  l0 l1 l2 l3 l4 l5 T = some r) : mm_L 65 88 [.ref l0, .int xl1, .ref l2, .int xl3, .int xl4, .int xl5] [] (toS z T) = some (tR z r) := by
  unfold F65_88 at h
  refine Eq.trans (e65_88 ..) ?_
  exact (fb_v (fun _ q => fgr_ok q) h (fun v0 h2 => G65_92  _ _ _ hl1 _ _ _ hl3 _ _ hl4 _ _ hl5 _ h2) (fun h2 => fr_n h2))
noncomputable def F65_83  (l0 : Nat) (l1 : Nat) (l2 : Nat) (l3 : Nat) (l4 : Nat) (l5 : Nat) (s0 : Nat) (T : fS) : Option fR := (fbs (fsf T s0 1 1 (.inl l5)) (fun T1 => F65_88  l0 l1 l2 l3 l4 l5 T1))
theorem G65_83 {z : Option mm_O} {T : fS} {r : fR}  (l0 : Nat) (xl1 : Int32) (l1 : Nat) (hl1 : xl1 = nI l1) (l2 : Nat) (xl3 : Int32) (l3 : Nat) (hl3 : xl3 = nI l3) (xl4 : Int32) (l4 : Nat) (hl4 : xl4 = nI l4) (xl5 : Int32) (l5 : Nat) (hl5 : xl5 = nI l5) (s0 : Nat) (h : F65_83  l0 l1 l2 l3 l4 l5 s0 T = some r) : mm_L 65 83 [.ref l0, .int xl1, .ref l2, .int xl3, .int xl4, .int xl5] [.ref s0] (toS z T) = some (tR z r) := by
  unfold F65_83 at h
  refine Eq.trans (e65_83 ..) ?_
  exact (fb_s (fun _ q => (fun q => by rw [hl5]; exact fsf_ok (v := .inl l5) q) q) h (fun T1 h2 => G65_88  _ _ _ hl1 _ _ _ hl3 _ _ hl4 _ _ hl5 h2))
noncomputable def F65_79  (l0 : Nat) (l1 : Nat) (l2 : Nat) (l3 : Nat) (l4 : Nat) (l5 : Nat) (T : fS) : Option fR := (fbv (fgr T l2 2 4) (fun v0 => F65_83  l0 l1 l2 l3 l4 l5 v0 T) ((none : Option fR)))
theorem G65_79 {z : Option mm_O} {T : fS} {r : fR}  (l0 : Nat) (xl1 : Int32) (l1 : Nat) (hl1 : xl1 = nI l1) (l2 : Nat) (xl3 : Int32) (l3 : Nat) (hl3 : xl3 = nI l3) (xl4 : Int32) (l4 : Nat) (hl4 : xl4 = nI l4) (xl5 : Int32) (l5 : Nat) (hl5 : xl5 = nI l5) (h : F65_79  l0 l1 l2 l3 l4 l5 T = some r) : mm_L 65 79 [.ref l0, .int xl1, .ref l2, .int xl3, .int xl4, .int xl5] [] (toS z T) = some (tR z r) := by
  unfold F65_79 at h
  refine Eq.trans (e65_79 ..) ?_
  exact (fb_v (fun _ q => fgr_ok q) h (fun v0 h2 => G65_83  _ _ _ hl1 _ _ _ hl3 _ _ hl4 _ _ hl5 _ h2) (fun h2 => fr_n h2))
noncomputable def F65_76  (l0 : Nat) (l1 : Nat) (l2 : Nat) (l3 : Nat) (l4 : Nat) (l5 : Nat) (s0 : Nat) (s1 : Nat) (T : fS) : Option fR := (fif (ile s0 s1) (F65_97  l0 l1 l2 l3 l4 l5 T) (F65_79  l0 l1 l2 l3 l4 l5 T))
theorem G65_76 {z : Option mm_O} {T : fS} {r : fR}  (l0 : Nat) (xl1 : Int32) (l1 : Nat) (hl1 : xl1 = nI l1) (l2 : Nat) (xl3 : Int32) (l3 : Nat) (hl3 : xl3 = nI l3) (xl4 : Int32) (l4 : Nat) (hl4 : xl4 = nI l4) (xl5 : Int32) (l5 : Nat) (hl5 : xl5 = nI l5) (xs0 : Int32) (s0 : Nat) (hs0 : xs0 = nI s0) (xs1 : Int32) (s1 : Nat) (hs1 : xs1 = nI s1) (h : F65_76  l0 l1 l2 l3 l4 l5 s0 s1 T = some r) : mm_L 65 76 [.ref l0, .int xl1, .ref l2, .int xl3, .int xl4, .int xl5] [.int xs0, .int xs1] (toS z T) = some (tR z r) := by
  unfold F65_76 at h
  refine Eq.trans (e65_76 ..) ?_
  exact (fb_if (cj_le hs0 hs1) h (fun h1 => (G65_97  _ _ _ hl1 _ _ _ hl3 _ _ hl4 _ _ hl5 h1)) (fun h1 => (G65_79  _ _ _ hl1 _ _ _ hl3 _ _ hl4 _ _ hl5 h1)))
noncomputable def F65_70  (l0 : Nat) (l1 : Nat) (l2 : Nat) (l3 : Nat) (l4 : Nat) (l5 : Nat) (s0 : Nat) (T : fS) : Option fR := (fKi true (F104_0 l3 l4 T) (fun v0 T1 => F65_76  l0 l1 l2 l3 l4 l5 v0 s0 T1))
theorem G65_70 {z : Option mm_O} {T : fS} {r : fR}  (l0 : Nat) (xl1 : Int32) (l1 : Nat) (hl1 : xl1 = nI l1) (l2 : Nat) (xl3 : Int32) (l3 : Nat) (hl3 : xl3 = nI l3) (xl4 : Int32) (l4 : Nat) (hl4 : xl4 = nI l4) (xl5 : Int32) (l5 : Nat) (hl5 : xl5 = nI l5) (xs0 : Int32) (s0 : Nat) (hs0 : xs0 = nI s0) (h : F65_70  l0 l1 l2 l3 l4 l5 s0 T = some r) : mm_L 65 70 [.ref l0, .int xl1, .ref l2, .int xl3, .int xl4, .int xl5] [.int xs0] (toS z T) = some (tR z r) := by
  unfold F65_70 at h
  refine Eq.trans (e65_70 ..) ?_
  exact (fb_K0i (fun _ q => GM104 _ _ hl3 _ _ hl4 q) h (fun v0 T1 h2 => G65_76  _ _ _ hl1 _ _ _ hl3 _ _ hl4 _ _ hl5 _ _ rfl _ _ hs0 h2))
noncomputable def F65_62  (l0 : Nat) (l1 : Nat) (l2 : Nat) (l3 : Nat) (l4 : Nat) (s0 : Nat) (T : fS) : Option fR := (fKi true (F104_0 l3 s0 T) (fun v0 T1 => F65_70  l0 l1 l2 l3 l4 s0 v0 T1))
theorem G65_62 {z : Option mm_O} {T : fS} {r : fR}  (l0 : Nat) (xl1 : Int32) (l1 : Nat) (hl1 : xl1 = nI l1) (l2 : Nat) (xl3 : Int32) (l3 : Nat) (hl3 : xl3 = nI l3) (xl4 : Int32) (l4 : Nat) (hl4 : xl4 = nI l4) (ul5 : Value) (xs0 : Int32) (s0 : Nat) (hs0 : xs0 = nI s0) (h : F65_62  l0 l1 l2 l3 l4 s0 T = some r) : mm_L 65 62 [.ref l0, .int xl1, .ref l2, .int xl3, .int xl4, ul5] [.int xs0] (toS z T) = some (tR z r) := by
  unfold F65_62 at h
  refine Eq.trans (e65_62 ..) ?_
  exact (fb_K0i (fun _ q => GM104 _ _ hl3 _ _ hs0 q) h (fun v0 T1 h2 => G65_70  _ _ _ hl1 _ _ _ hl3 _ _ hl4 _ _ hs0 _ _ rfl h2))
noncomputable def F65_59  (l0 : Nat) (l1 : Nat) (l2 : Nat) (l3 : Nat) (l4 : Nat) (s0 : Nat) (T : fS) : Option fR := (fbn (fgi T s0 1 2) (fun v0 => F65_62  l0 l1 l2 l3 l4 v0 T))
theorem G65_59 {z : Option mm_O} {T : fS} {r : fR}  (l0 : Nat) (xl1 : Int32) (l1 : Nat) (hl1 : xl1 = nI l1) (l2 : Nat) (xl3 : Int32) (l3 : Nat) (hl3 : xl3 = nI l3) (xl4 : Int32) (l4 : Nat) (hl4 : xl4 = nI l4) (ul5 : Value) (s0 : Nat) (h : F65_59  l0 l1 l2 l3 l4 s0 T = some r) : mm_L 65 59 [.ref l0, .int xl1, .ref l2, .int xl3, .int xl4, ul5] [.ref s0] (toS z T) = some (tR z r) := by
  unfold F65_59 at h
  refine Eq.trans (e65_59 ..) ?_
  exact (fb_n (fun _ q => fgi_ok q) h (fun v0 h2 => G65_62  _ _ _ hl1 _ _ _ hl3 _ _ hl4 _ _ _ rfl h2))
noncomputable def F65_53  (l0 : Nat) (l1 : Nat) (l2 : Nat) (l3 : Nat) (s0 : Nat) (T : fS) : Option fR := (fbv (fgr T l2 2 4) (fun v0 => F65_59  l0 l1 l2 l3 s0 v0 T) ((none : Option fR)))
theorem G65_53 {z : Option mm_O} {T : fS} {r : fR}  (l0 : Nat) (xl1 : Int32) (l1 : Nat) (hl1 : xl1 = nI l1) (l2 : Nat) (xl3 : Int32) (l3 : Nat) (hl3 : xl3 = nI l3) (ul4 : Value) (ul5 : Value) (xs0 : Int32) (s0 : Nat) (hs0 : xs0 = nI s0) (h : F65_53  l0 l1 l2 l3 s0 T = some r) : mm_L 65 53 [.ref l0, .int xl1, .ref l2, .int xl3, ul4, ul5] [.int xs0] (toS z T) = some (tR z r) := by
  unfold F65_53 at h
  refine Eq.trans (e65_53 ..) ?_
  exact (fb_v (fun _ q => fgr_ok q) h (fun v0 h2 => G65_59  _ _ _ hl1 _ _ _ hl3 _ _ hs0 _ _ h2) (fun h2 => fr_n h2))
noncomputable def F65_50  (l0 : Nat) (l1 : Nat) (l2 : Nat) (l3 : Nat) (s0 : Nat) (T : fS) : Option fR := (fbn (fgi T s0 1 1) (fun v0 => F65_53  l0 l1 l2 l3 v0 T))
theorem G65_50 {z : Option mm_O} {T : fS} {r : fR}  (l0 : Nat) (xl1 : Int32) (l1 : Nat) (hl1 : xl1 = nI l1) (l2 : Nat) (xl3 : Int32) (l3 : Nat) (hl3 : xl3 = nI l3) (ul4 : Value) (ul5 : Value) (s0 : Nat) (h : F65_50  l0 l1 l2 l3 s0 T = some r) : mm_L 65 50 [.ref l0, .int xl1, .ref l2, .int xl3, ul4, ul5] [.ref s0] (toS z T) = some (tR z r) := by
  unfold F65_50 at h
  refine Eq.trans (e65_50 ..) ?_
  exact (fb_n (fun _ q => fgi_ok q) h (fun v0 h2 => G65_53  _ _ _ hl1 _ _ _ hl3 _ _ _ _ rfl h2))
noncomputable def F65_45  (l0 : Nat) (l1 : Nat) (l2 : Nat) (s0 : Nat) (T : fS) : Option fR := (fbv (fgr T l2 2 4) (fun v0 => F65_50  l0 l1 l2 s0 v0 T) ((none : Option fR)))
theorem G65_45 {z : Option mm_O} {T : fS} {r : fR}  (l0 : Nat) (xl1 : Int32) (l1 : Nat) (hl1 : xl1 = nI l1) (l2 : Nat) (ul3 : Value) (ul4 : Value) (ul5 : Value) (xs0 : Int32) (s0 : Nat) (hs0 : xs0 = nI s0) (h : F65_45  l0 l1 l2 s0 T = some r) : mm_L 65 45 [.ref l0, .int xl1, .ref l2, ul3, ul4, ul5] [.int xs0] (toS z T) = some (tR z r) := by
  unfold F65_45 at h
  refine Eq.trans (e65_45 ..) ?_
  exact (fb_v (fun _ q => fgr_ok q) h (fun v0 h2 => G65_50  _ _ _ hl1 _ _ _ hs0 _ _ _ h2) (fun h2 => fr_n h2))
noncomputable def F65_42  (l0 : Nat) (l1 : Nat) (l2 : Nat) (s0 : Nat) (T : fS) : Option fR := (fbn (fgi T s0 1 2) (fun v0 => F65_45  l0 l1 l2 v0 T))
theorem G65_42 {z : Option mm_O} {T : fS} {r : fR}  (l0 : Nat) (xl1 : Int32) (l1 : Nat) (hl1 : xl1 = nI l1) (l2 : Nat) (ul3 : Value) (ul4 : Value) (ul5 : Value) (s0 : Nat) (h : F65_42  l0 l1 l2 s0 T = some r) : mm_L 65 42 [.ref l0, .int xl1, .ref l2, ul3, ul4, ul5] [.ref s0] (toS z T) = some (tR z r) := by
  unfold F65_42 at h
  refine Eq.trans (e65_42 ..) ?_
  exact (fb_n (fun _ q => fgi_ok q) h (fun v0 h2 => G65_45  _ _ _ hl1 _ _ _ _ _ _ rfl h2))
noncomputable def F65_39  (l0 : Nat) (l1 : Nat) (l2 : Nat) (s0 : Nat) (T : fS) : Option fR := (fbv (fgr T s0 2 4) (fun v0 => F65_42  l0 l1 l2 v0 T) ((none : Option fR)))
theorem G65_39 {z : Option mm_O} {T : fS} {r : fR}  (l0 : Nat) (xl1 : Int32) (l1 : Nat) (hl1 : xl1 = nI l1) (l2 : Nat) (ul3 : Value) (ul4 : Value) (ul5 : Value) (s0 : Nat) (h : F65_39  l0 l1 l2 s0 T = some r) : mm_L 65 39 [.ref l0, .int xl1, .ref l2, ul3, ul4, ul5] [.ref s0] (toS z T) = some (tR z r) := by
  unfold F65_39 at h
  refine Eq.trans (e65_39 ..) ?_
  exact (fb_v (fun _ q => fgr_ok q) h (fun v0 h2 => G65_42  _ _ _ hl1 _ _ _ _ _ h2) (fun h2 => fr_n h2))
noncomputable def F65_36  (l0 : Nat) (l1 : Nat) (l2 : Nat) (s0 : Nat) (T : fS) : Option fR := (fif (fch T s0 2) (F65_39  l0 l1 l2 s0 T) none)
theorem G65_36 {z : Option mm_O} {T : fS} {r : fR}  (l0 : Nat) (xl1 : Int32) (l1 : Nat) (hl1 : xl1 = nI l1) (l2 : Nat) (ul3 : Value) (ul4 : Value) (ul5 : Value) (s0 : Nat) (h : F65_36  l0 l1 l2 s0 T = some r) : mm_L 65 36 [.ref l0, .int xl1, .ref l2, ul3, ul4, ul5] [.ref s0] (toS z T) = some (tR z r) := by
  unfold F65_36 at h
  refine Eq.trans (e65_36 ..) ?_
  exact (fb_c h (fun h2 => G65_39  _ _ _ hl1 _ _ _ _ _ h2))
noncomputable def F65_30  (l0 : Nat) (l1 : Nat) (l2 : Nat) (s0 : Nat) (T : fS) : Option fR := (fbn (flg T s0 (iS l1 1)) (fun v0 => F65_36  l0 l1 l2 v0 T))
theorem G65_30 {z : Option mm_O} {T : fS} {r : fR}  (l0 : Nat) (xl1 : Int32) (l1 : Nat) (hl1 : xl1 = nI l1) (l2 : Nat) (ul3 : Value) (ul4 : Value) (ul5 : Value) (s0 : Nat) (h : F65_30  l0 l1 l2 s0 T = some r) : mm_L 65 30 [.ref l0, .int xl1, .ref l2, ul3, ul4, ul5] [.ref s0] (toS z T) = some (tR z r) := by
  unfold F65_30 at h
  refine Eq.trans (e65_30 ..) ?_
  exact (fb_g (fun _ q => by rw [(iS_ok hl1 (rfl : (1 : Int32) = nI 1))]; exact flg_ok q) h (fun v0 h2 => G65_36  _ _ _ hl1 _ _ _ _ _ h2))
noncomputable def F65_26  (l0 : Nat) (l1 : Nat) (l2 : Nat) (T : fS) : Option fR := (fbv (fgr T l0 6 1) (fun v0 => F65_30  l0 l1 l2 v0 T) ((none : Option fR)))
theorem G65_26 {z : Option mm_O} {T : fS} {r : fR}  (l0 : Nat) (xl1 : Int32) (l1 : Nat) (hl1 : xl1 = nI l1) (l2 : Nat) (ul3 : Value) (ul4 : Value) (ul5 : Value) (h : F65_26  l0 l1 l2 T = some r) : mm_L 65 26 [.ref l0, .int xl1, .ref l2, ul3, ul4, ul5] [] (toS z T) = some (tR z r) := by
  unfold F65_26 at h
  refine Eq.trans (e65_26 ..) ?_
  exact (fb_v (fun _ q => fgr_ok q) h (fun v0 h2 => G65_30  _ _ _ hl1 _ _ _ _ _ h2) (fun h2 => fr_n h2))
noncomputable def F65_22  (l0 : Nat) (l1 : Nat) (l2 : Nat) (s0 : Nat) (T : fS) : Option fR := (fif (ieq s0 0) (F65_25  l0 l1 l2 T) (F65_26  l0 l1 l2 T))
theorem G65_22 {z : Option mm_O} {T : fS} {r : fR}  (l0 : Nat) (xl1 : Int32) (l1 : Nat) (hl1 : xl1 = nI l1) (l2 : Nat) (ul3 : Value) (ul4 : Value) (ul5 : Value) (xs0 : Int32) (s0 : Nat) (hs0 : xs0 = nI s0) (h : F65_22  l0 l1 l2 s0 T = some r) : mm_L 65 22 [.ref l0, .int xl1, .ref l2, ul3, ul4, ul5] [.int xs0] (toS z T) = some (tR z r) := by
  unfold F65_22 at h
  refine Eq.trans (e65_22 ..) ?_
  exact (fb_if (cj_eq hs0 (rfl : (0 : Int32) = nI 0)) h (fun h1 => (G65_25  _ _ _ hl1 _ _ _ _ h1)) (fun h1 => (G65_26  _ _ _ hl1 _ _ _ _ h1)))
noncomputable def F65_19  (l0 : Nat) (l1 : Nat) (l2 : Nat) (s0 : Nat) (T : fS) : Option fR := (fKi true (fif (fch T s0 1) (F10_0 s0  T) none) (fun v0 T1 => F65_22  l0 l1 l2 v0 T1))
theorem G65_19 {z : Option mm_O} {T : fS} {r : fR}  (l0 : Nat) (xl1 : Int32) (l1 : Nat) (hl1 : xl1 = nI l1) (l2 : Nat) (ul3 : Value) (ul4 : Value) (ul5 : Value) (s0 : Nat) (h : F65_19  l0 l1 l2 s0 T = some r) : mm_L 65 19 [.ref l0, .int xl1, .ref l2, ul3, ul4, ul5] [.ref s0] (toS z T) = some (tR z r) := by
  unfold F65_19 at h
  refine Eq.trans (e65_19 ..) ?_
  exact (fb_K0i (fun _ q => fb_mo (y := 10) ow_10 q (fun q => GM10 _  q)) h (fun v0 T1 h2 => G65_22  _ _ _ hl1 _ _ _ _ _ _ rfl h2))
noncomputable def F65_15  (l0 : Nat) (l1 : Nat) (l2 : Nat) (T : fS) : Option fR := (fbv (fgr T l2 2 4) (fun v0 => F65_19  l0 l1 l2 v0 T) ((none : Option fR)))
theorem G65_15 {z : Option mm_O} {T : fS} {r : fR}  (l0 : Nat) (xl1 : Int32) (l1 : Nat) (hl1 : xl1 = nI l1) (l2 : Nat) (ul3 : Value) (ul4 : Value) (ul5 : Value) (h : F65_15  l0 l1 l2 T = some r) : mm_L 65 15 [.ref l0, .int xl1, .ref l2, ul3, ul4, ul5] [] (toS z T) = some (tR z r) := by
  unfold F65_15 at h
  refine Eq.trans (e65_15 ..) ?_
  exact (fb_v (fun _ q => fgr_ok q) h (fun v0 h2 => G65_19  _ _ _ hl1 _ _ _ _ _ h2) (fun h2 => fr_n h2))
noncomputable def F65_12  (l0 : Nat) (l1 : Nat) (l2 : Nat) (s0 : Nat) (T : fS) : Option fR := (fif (ieq s0 0) (F65_25  l0 l1 l2 T) (F65_15  l0 l1 l2 T))
theorem G65_12 {z : Option mm_O} {T : fS} {r : fR}  (l0 : Nat) (xl1 : Int32) (l1 : Nat) (hl1 : xl1 = nI l1) (l2 : Nat) (ul3 : Value) (ul4 : Value) (ul5 : Value) (xs0 : Int32) (s0 : Nat) (hs0 : xs0 = nI s0) (h : F65_12  l0 l1 l2 s0 T = some r) : mm_L 65 12 [.ref l0, .int xl1, .ref l2, ul3, ul4, ul5] [.int xs0] (toS z T) = some (tR z r) := by
  unfold F65_12 at h
  refine Eq.trans (e65_12 ..) ?_
  exact (fb_if (cj_eq hs0 (rfl : (0 : Int32) = nI 0)) h (fun h1 => (G65_25  _ _ _ hl1 _ _ _ _ h1)) (fun h1 => (G65_15  _ _ _ hl1 _ _ _ _ h1)))
noncomputable def F65_7  (l0 : Nat) (l1 : Nat) (l2 : Nat) (T : fS) : Option fR := (fKi true (fif (fch T l0 6) (F67_0 l0 l1 T) none) (fun v0 T1 => F65_12  l0 l1 l2 v0 T1))
theorem G65_7 {z : Option mm_O} {T : fS} {r : fR}  (l0 : Nat) (xl1 : Int32) (l1 : Nat) (hl1 : xl1 = nI l1) (l2 : Nat) (ul3 : Value) (ul4 : Value) (ul5 : Value) (h : F65_7  l0 l1 l2 T = some r) : mm_L 65 7 [.ref l0, .int xl1, .ref l2, ul3, ul4, ul5] [] (toS z T) = some (tR z r) := by
  unfold F65_7 at h
  refine Eq.trans (e65_7 ..) ?_
  exact (fb_K0i (fun _ q => fb_mo (y := 67) ow_67 q (fun q => GM67 _ _ _ hl1 q)) h (fun v0 T1 h2 => G65_12  _ _ _ hl1 _ _ _ _ _ _ rfl h2))
noncomputable def F65_4  (l0 : Nat) (l1 : Nat) (l2 : Nat) (s0 : Nat) (T : fS) : Option fR := (fif (ieq s0 0) (F65_7  l0 l1 l2 T) (F65_25  l0 l1 l2 T))
theorem G65_4 {z : Option mm_O} {T : fS} {r : fR}  (l0 : Nat) (xl1 : Int32) (l1 : Nat) (hl1 : xl1 = nI l1) (l2 : Nat) (ul3 : Value) (ul4 : Value) (ul5 : Value) (xs0 : Int32) (s0 : Nat) (hs0 : xs0 = nI s0) (h : F65_4  l0 l1 l2 s0 T = some r) : mm_L 65 4 [.ref l0, .int xl1, .ref l2, ul3, ul4, ul5] [.int xs0] (toS z T) = some (tR z r) := by
  unfold F65_4 at h
  refine Eq.trans (e65_4 ..) ?_
  exact (fb_if (cj_eq hs0 (rfl : (0 : Int32) = nI 0)) h (fun h1 => (G65_7  _ _ _ hl1 _ _ _ _ h1)) (fun h1 => (G65_25  _ _ _ hl1 _ _ _ _ h1)))
noncomputable def F65_0  (l0 : Nat) (l1 : Nat) (l2 : Nat) (T : fS) : Option fR := (fbn (fgi T l2 2 0) (fun v0 => F65_4  l0 l1 l2 v0 T))
theorem G65_0 {z : Option mm_O} {T : fS} {r : fR}  (l0 : Nat) (xl1 : Int32) (l1 : Nat) (hl1 : xl1 = nI l1) (l2 : Nat) (ul3 : Value) (ul4 : Value) (ul5 : Value) (h : F65_0  l0 l1 l2 T = some r) : mm_L 65 0 [.ref l0, .int xl1, .ref l2, ul3, ul4, ul5] [] (toS z T) = some (tR z r) := by
  unfold F65_0 at h
  refine Eq.trans (e65_0 ..) ?_
  exact (fb_n (fun _ q => fgi_ok q) h (fun v0 h2 => G65_4  _ _ _ hl1 _ _ _ _ _ _ rfl h2))
theorem GM65 {z : Option mm_O} {T : fS} {r : fR} (l0 : Nat) (xl1 : Int32) (l1 : Nat) (hl1 : xl1 = nI l1) (l2 : Nat) (h : F65_0 l0 l1 l2 T = some r) : mm_M 65 [.ref l0, .int xl1, .ref l2] (toS z T) = some (tR z r) := Eq.trans (M_65 ..) (G65_0 l0 xl1 l1 hl1 l2 _ _ _ h)
-- 66: HandArchive.slideLetter
noncomputable def F66_16  (l0 : Nat) (l1 : Nat) (l2 : Nat) (T : fS) : Option fR := (some ((.inl none, T) : fR))
theorem G66_16 {z : Option mm_O} {T : fS} {r : fR}  (l0 : Nat) (xl1 : Int32) (l1 : Nat) (hl1 : xl1 = nI l1) (l2 : Nat) (ul3 : Value) (h : F66_16  l0 l1 l2 T = some r) : mm_L 66 16 [.ref l0, .int xl1, .ref l2, ul3] [] (toS z T) = some (tR z r) := by
  unfold F66_16 at h
  refine Eq.trans (e66_16 ..) ?_
  exact (fr_v h)
noncomputable def F66_66  (l0 : Nat) (l1 : Nat) (l2 : Nat) (l3 : Nat) (T : fS) : Option fR := (some ((.inl none, T) : fR))
theorem G66_66 {z : Option mm_O} {T : fS} {r : fR}  (l0 : Nat) (xl1 : Int32) (l1 : Nat) (hl1 : xl1 = nI l1) (l2 : Nat) (l3 : Nat) (h : F66_66  l0 l1 l2 l3 T = some r) : mm_L 66 66 [.ref l0, .int xl1, .ref l2, .ref l3] [] (toS z T) = some (tR z r) := by
  unfold F66_66 at h
  refine Eq.trans (e66_66 ..) ?_
  exact (fr_v h)
noncomputable def F66_62  (l0 : Nat) (l1 : Nat) (l2 : Nat) (l3 : Nat) (s0 : Nat) (T : fS) : Option fR := (fbs (fsf T s0 1 2 (.inl 5)) (fun T1 => F66_66  l0 l1 l2 l3 T1))
theorem G66_62 {z : Option mm_O} {T : fS} {r : fR}  (l0 : Nat) (xl1 : Int32) (l1 : Nat) (hl1 : xl1 = nI l1) (l2 : Nat) (l3 : Nat) (s0 : Nat) (h : F66_62  l0 l1 l2 l3 s0 T = some r) : mm_L 66 62 [.ref l0, .int xl1, .ref l2, .ref l3] [.ref s0] (toS z T) = some (tR z r) := by
  unfold F66_62 at h
  refine Eq.trans (e66_62 ..) ?_
  exact (fb_s (fun _ q => (fun q => by rw [(rfl : (5 : Int32) = nI 5)]; exact fsf_ok (v := .inl 5) q) q) h (fun T1 h2 => G66_66  _ _ _ hl1 _ _ h2))
noncomputable def F66_58  (l0 : Nat) (l1 : Nat) (l2 : Nat) (l3 : Nat) (T : fS) : Option fR := (fbv (fgr T l2 2 4) (fun v0 => F66_62  l0 l1 l2 l3 v0 T) ((none : Option fR)))
theorem G66_58 {z : Option mm_O} {T : fS} {r : fR}  (l0 : Nat) (xl1 : Int32) (l1 : Nat) (hl1 : xl1 = nI l1) (l2 : Nat) (l3 : Nat) (h : F66_58  l0 l1 l2 l3 T = some r) : mm_L 66 58 [.ref l0, .int xl1, .ref l2, .ref l3] [] (toS z T) = some (tR z r) := by
  unfold F66_58 at h
  refine Eq.trans (e66_58 ..) ?_
  exact (fb_v (fun _ q => fgr_ok q) h (fun v0 h2 => G66_62  _ _ _ hl1 _ _ _ h2) (fun h2 => fr_n h2))
noncomputable def F66_54  (l0 : Nat) (l1 : Nat) (l2 : Nat) (l3 : Nat) (s0 : Nat) (T : fS) : Option fR := (fbs (fsf T s0 1 1 (.inl 4)) (fun T1 => F66_58  l0 l1 l2 l3 T1))
theorem G66_54 {z : Option mm_O} {T : fS} {r : fR}  (l0 : Nat) (xl1 : Int32) (l1 : Nat) (hl1 : xl1 = nI l1) (l2 : Nat) (l3 : Nat) (s0 : Nat) (h : F66_54  l0 l1 l2 l3 s0 T = some r) : mm_L 66 54 [.ref l0, .int xl1, .ref l2, .ref l3] [.ref s0] (toS z T) = some (tR z r) := by
  unfold F66_54 at h
  refine Eq.trans (e66_54 ..) ?_
  exact (fb_s (fun _ q => (fun q => by rw [(rfl : (4 : Int32) = nI 4)]; exact fsf_ok (v := .inl 4) q) q) h (fun T1 h2 => G66_58  _ _ _ hl1 _ _ h2))
noncomputable def F66_50  (l0 : Nat) (l1 : Nat) (l2 : Nat) (l3 : Nat) (T : fS) : Option fR := (fbv (fgr T l2 2 4) (fun v0 => F66_54  l0 l1 l2 l3 v0 T) ((none : Option fR)))
theorem G66_50 {z : Option mm_O} {T : fS} {r : fR}  (l0 : Nat) (xl1 : Int32) (l1 : Nat) (hl1 : xl1 = nI l1) (l2 : Nat) (l3 : Nat) (h : F66_50  l0 l1 l2 l3 T = some r) : mm_L 66 50 [.ref l0, .int xl1, .ref l2, .ref l3] [] (toS z T) = some (tR z r) := by
  unfold F66_50 at h
  refine Eq.trans (e66_50 ..) ?_
  exact (fb_v (fun _ q => fgr_ok q) h (fun v0 h2 => G66_54  _ _ _ hl1 _ _ _ h2) (fun h2 => fr_n h2))
noncomputable def F66_47  (l0 : Nat) (l1 : Nat) (l2 : Nat) (l3 : Nat) (s0 : Nat) (s1 : Nat) (T : fS) : Option fR := (fif (ieq s1 s0) (F66_50  l0 l1 l2 l3 T) (F66_66  l0 l1 l2 l3 T))
theorem G66_47 {z : Option mm_O} {T : fS} {r : fR}  (l0 : Nat) (xl1 : Int32) (l1 : Nat) (hl1 : xl1 = nI l1) (l2 : Nat) (l3 : Nat) (xs0 : Int32) (s0 : Nat) (hs0 : xs0 = nI s0) (xs1 : Int32) (s1 : Nat) (hs1 : xs1 = nI s1) (h : F66_47  l0 l1 l2 l3 s0 s1 T = some r) : mm_L 66 47 [.ref l0, .int xl1, .ref l2, .ref l3] [.int xs0, .int xs1] (toS z T) = some (tR z r) := by
  unfold F66_47 at h
  refine Eq.trans (e66_47 ..) ?_
  exact (fb_if (cj_eq hs1 hs0) h (fun h1 => (G66_50  _ _ _ hl1 _ _ h1)) (fun h1 => (G66_66  _ _ _ hl1 _ _ h1)))
noncomputable def F66_43  (l0 : Nat) (l1 : Nat) (l2 : Nat) (l3 : Nat) (s0 : Nat) (T : fS) : Option fR := (fbn (fgi T l2 2 1) (fun v0 => F66_47  l0 l1 l2 l3 v0 s0 T))
theorem G66_43 {z : Option mm_O} {T : fS} {r : fR}  (l0 : Nat) (xl1 : Int32) (l1 : Nat) (hl1 : xl1 = nI l1) (l2 : Nat) (l3 : Nat) (xs0 : Int32) (s0 : Nat) (hs0 : xs0 = nI s0) (h : F66_43  l0 l1 l2 l3 s0 T = some r) : mm_L 66 43 [.ref l0, .int xl1, .ref l2, .ref l3] [.int xs0] (toS z T) = some (tR z r) := by
  unfold F66_43 at h
  refine Eq.trans (e66_43 ..) ?_
  exact (fb_n (fun _ q => fgi_ok q) h (fun v0 h2 => G66_47  _ _ _ hl1 _ _ _ _ rfl _ _ hs0 h2))
noncomputable def F66_39  (l0 : Nat) (l1 : Nat) (l2 : Nat) (l3 : Nat) (T : fS) : Option fR := (fbn (fgi T l3 2 1) (fun v0 => F66_43  l0 l1 l2 l3 v0 T))
theorem G66_39 {z : Option mm_O} {T : fS} {r : fR}  (l0 : Nat) (xl1 : Int32) (l1 : Nat) (hl1 : xl1 = nI l1) (l2 : Nat) (l3 : Nat) (h : F66_39  l0 l1 l2 l3 T = some r) : mm_L 66 39 [.ref l0, .int xl1, .ref l2, .ref l3] [] (toS z T) = some (tR z r) := by
  unfold F66_39 at h
  refine Eq.trans (e66_39 ..) ?_
  exact (fb_n (fun _ q => fgi_ok q) h (fun v0 h2 => G66_43  _ _ _ hl1 _ _ _ _ rfl h2))
noncomputable def F66_35  (l0 : Nat) (l1 : Nat) (l2 : Nat) (l3 : Nat) (s0 : Nat) (T : fS) : Option fR := (fif (ieq s0 5) (F66_39  l0 l1 l2 l3 T) (F66_66  l0 l1 l2 l3 T))
theorem G66_35 {z : Option mm_O} {T : fS} {r : fR}  (l0 : Nat) (xl1 : Int32) (l1 : Nat) (hl1 : xl1 = nI l1) (l2 : Nat) (l3 : Nat) (xs0 : Int32) (s0 : Nat) (hs0 : xs0 = nI s0) (h : F66_35  l0 l1 l2 l3 s0 T = some r) : mm_L 66 35 [.ref l0, .int xl1, .ref l2, .ref l3] [.int xs0] (toS z T) = some (tR z r) := by
  unfold F66_35 at h
  refine Eq.trans (e66_35 ..) ?_
  exact (fb_if (cj_eq hs0 (rfl : (5 : Int32) = nI 5)) h (fun h1 => (G66_39  _ _ _ hl1 _ _ h1)) (fun h1 => (G66_66  _ _ _ hl1 _ _ h1)))
noncomputable def F66_30  (l0 : Nat) (l1 : Nat) (l2 : Nat) (s0 : Nat) (T : fS) : Option fR := (fbn (fgi T s0 2 0) (fun v0 => F66_35  l0 l1 l2 s0 v0 T))
theorem G66_30 {z : Option mm_O} {T : fS} {r : fR}  (l0 : Nat) (xl1 : Int32) (l1 : Nat) (hl1 : xl1 = nI l1) (l2 : Nat) (ul3 : Value) (s0 : Nat) (h : F66_30  l0 l1 l2 s0 T = some r) : mm_L 66 30 [.ref l0, .int xl1, .ref l2, ul3] [.ref s0] (toS z T) = some (tR z r) := by
  unfold F66_30 at h
  refine Eq.trans (e66_30 ..) ?_
  exact (fb_n (fun _ q => fgi_ok q) h (fun v0 h2 => G66_35  _ _ _ hl1 _ _ _ _ rfl h2))
noncomputable def F66_27  (l0 : Nat) (l1 : Nat) (l2 : Nat) (s0 : Nat) (T : fS) : Option fR := (fif (fch T s0 2) (F66_30  l0 l1 l2 s0 T) none)
theorem G66_27 {z : Option mm_O} {T : fS} {r : fR}  (l0 : Nat) (xl1 : Int32) (l1 : Nat) (hl1 : xl1 = nI l1) (l2 : Nat) (ul3 : Value) (s0 : Nat) (h : F66_27  l0 l1 l2 s0 T = some r) : mm_L 66 27 [.ref l0, .int xl1, .ref l2, ul3] [.ref s0] (toS z T) = some (tR z r) := by
  unfold F66_27 at h
  refine Eq.trans (e66_27 ..) ?_
  exact (fb_c h (fun h2 => G66_30  _ _ _ hl1 _ _ _ h2))
noncomputable def F66_21  (l0 : Nat) (l1 : Nat) (l2 : Nat) (s0 : Nat) (T : fS) : Option fR := (fbn (flg T s0 (iS l1 1)) (fun v0 => F66_27  l0 l1 l2 v0 T))
theorem G66_21 {z : Option mm_O} {T : fS} {r : fR}  (l0 : Nat) (xl1 : Int32) (l1 : Nat) (hl1 : xl1 = nI l1) (l2 : Nat) (ul3 : Value) (s0 : Nat) (h : F66_21  l0 l1 l2 s0 T = some r) : mm_L 66 21 [.ref l0, .int xl1, .ref l2, ul3] [.ref s0] (toS z T) = some (tR z r) := by
  unfold F66_21 at h
  refine Eq.trans (e66_21 ..) ?_
  exact (fb_g (fun _ q => by rw [(iS_ok hl1 (rfl : (1 : Int32) = nI 1))]; exact flg_ok q) h (fun v0 h2 => G66_27  _ _ _ hl1 _ _ _ h2))
noncomputable def F66_17  (l0 : Nat) (l1 : Nat) (l2 : Nat) (T : fS) : Option fR := (fbv (fgr T l0 6 1) (fun v0 => F66_21  l0 l1 l2 v0 T) ((none : Option fR)))
theorem G66_17 {z : Option mm_O} {T : fS} {r : fR}  (l0 : Nat) (xl1 : Int32) (l1 : Nat) (hl1 : xl1 = nI l1) (l2 : Nat) (ul3 : Value) (h : F66_17  l0 l1 l2 T = some r) : mm_L 66 17 [.ref l0, .int xl1, .ref l2, ul3] [] (toS z T) = some (tR z r) := by
  unfold F66_17 at h
  refine Eq.trans (e66_17 ..) ?_
  exact (fb_v (fun _ q => fgr_ok q) h (fun v0 h2 => G66_21  _ _ _ hl1 _ _ _ h2) (fun h2 => fr_n h2))
noncomputable def F66_13  (l0 : Nat) (l1 : Nat) (l2 : Nat) (s0 : Nat) (T : fS) : Option fR := (fif (ieq s0 0) (F66_16  l0 l1 l2 T) (F66_17  l0 l1 l2 T))
theorem G66_13 {z : Option mm_O} {T : fS} {r : fR}  (l0 : Nat) (xl1 : Int32) (l1 : Nat) (hl1 : xl1 = nI l1) (l2 : Nat) (ul3 : Value) (xs0 : Int32) (s0 : Nat) (hs0 : xs0 = nI s0) (h : F66_13  l0 l1 l2 s0 T = some r) : mm_L 66 13 [.ref l0, .int xl1, .ref l2, ul3] [.int xs0] (toS z T) = some (tR z r) := by
  unfold F66_13 at h
  refine Eq.trans (e66_13 ..) ?_
  exact (fb_if (cj_eq hs0 (rfl : (0 : Int32) = nI 0)) h (fun h1 => (G66_16  _ _ _ hl1 _ _ h1)) (fun h1 => (G66_17  _ _ _ hl1 _ _ h1)))
noncomputable def F66_8  (l0 : Nat) (l1 : Nat) (l2 : Nat) (T : fS) : Option fR := (fKi true (fif (fch T l0 6) (F67_0 l0 l1 T) none) (fun v0 T1 => F66_13  l0 l1 l2 v0 T1))
theorem G66_8 {z : Option mm_O} {T : fS} {r : fR}  (l0 : Nat) (xl1 : Int32) (l1 : Nat) (hl1 : xl1 = nI l1) (l2 : Nat) (ul3 : Value) (h : F66_8  l0 l1 l2 T = some r) : mm_L 66 8 [.ref l0, .int xl1, .ref l2, ul3] [] (toS z T) = some (tR z r) := by
  unfold F66_8 at h
  refine Eq.trans (e66_8 ..) ?_
  exact (fb_K0i (fun _ q => fb_mo (y := 67) ow_67 q (fun q => GM67 _ _ _ hl1 q)) h (fun v0 T1 h2 => G66_13  _ _ _ hl1 _ _ _ _ rfl h2))
noncomputable def F66_4  (l0 : Nat) (l1 : Nat) (l2 : Nat) (s0 : Nat) (T : fS) : Option fR := (fif (ieq s0 5) (F66_8  l0 l1 l2 T) (F66_16  l0 l1 l2 T))
theorem G66_4 {z : Option mm_O} {T : fS} {r : fR}  (l0 : Nat) (xl1 : Int32) (l1 : Nat) (hl1 : xl1 = nI l1) (l2 : Nat) (ul3 : Value) (xs0 : Int32) (s0 : Nat) (hs0 : xs0 = nI s0) (h : F66_4  l0 l1 l2 s0 T = some r) : mm_L 66 4 [.ref l0, .int xl1, .ref l2, ul3] [.int xs0] (toS z T) = some (tR z r) := by
  unfold F66_4 at h
  refine Eq.trans (e66_4 ..) ?_
  exact (fb_if (cj_eq hs0 (rfl : (5 : Int32) = nI 5)) h (fun h1 => (G66_8  _ _ _ hl1 _ _ h1)) (fun h1 => (G66_16  _ _ _ hl1 _ _ h1)))
noncomputable def F66_0  (l0 : Nat) (l1 : Nat) (l2 : Nat) (T : fS) : Option fR := (fbn (fgi T l2 2 0) (fun v0 => F66_4  l0 l1 l2 v0 T))
theorem G66_0 {z : Option mm_O} {T : fS} {r : fR}  (l0 : Nat) (xl1 : Int32) (l1 : Nat) (hl1 : xl1 = nI l1) (l2 : Nat) (ul3 : Value) (h : F66_0  l0 l1 l2 T = some r) : mm_L 66 0 [.ref l0, .int xl1, .ref l2, ul3] [] (toS z T) = some (tR z r) := by
  unfold F66_0 at h
  refine Eq.trans (e66_0 ..) ?_
  exact (fb_n (fun _ q => fgi_ok q) h (fun v0 h2 => G66_4  _ _ _ hl1 _ _ _ _ rfl h2))
theorem GM66 {z : Option mm_O} {T : fS} {r : fR} (l0 : Nat) (xl1 : Int32) (l1 : Nat) (hl1 : xl1 = nI l1) (l2 : Nat) (h : F66_0 l0 l1 l2 T = some r) : mm_M 66 [.ref l0, .int xl1, .ref l2] (toS z T) = some (tR z r) := Eq.trans (M_66 ..) (G66_0 l0 xl1 l1 hl1 l2 _ h)
-- 74: HandArchive.itemAtTick
noncomputable def F74_31  (l0 : Nat) (l1 : Nat) (l2 : Nat) (T : fS) : Option fR := (some ((.inl (some (.inl l2)), T) : fR))
theorem G74_31 {z : Option mm_O} {T : fS} {r : fR}  (l0 : Nat) (xl1 : Int32) (l1 : Nat) (hl1 : xl1 = nI l1) (xl2 : Int32) (l2 : Nat) (hl2 : xl2 = nI l2) (h : F74_31  l0 l1 l2 T = some r) : mm_L 74 31 [.ref l0, .int xl1, .int xl2] [] (toS z T) = some (tR z r) := by
  unfold F74_31 at h
  refine Eq.trans (e74_31 ..) ?_
  exact (fr_i hl2 h)
noncomputable def F74_33 (k2 : Nat → Nat → Nat → fS → Option fR) (l0 : Nat) (l1 : Nat) (l2 : Nat) (T : fS) : Option fR := (k2 l0 l1 (iA l2 1) T)
theorem G74_33 {z : Option mm_O} {T : fS} {r : fR} (k2 : Nat → Nat → Nat → fS → Option fR) (hk2 : ∀ (l0 : Nat) (xl1 : Int32) (l1 : Nat) (hl1 : xl1 = nI l1) (xl2 : Int32) (l2 : Nat) (hl2 : xl2 = nI l2) (T : fS) (r : fR), k2 l0 l1 l2 T = some r → mm_L 74 2 [.ref l0, .int xl1, .int xl2] [] (toS z T) = some (tR z r)) (l0 : Nat) (xl1 : Int32) (l1 : Nat) (hl1 : xl1 = nI l1) (xl2 : Int32) (l2 : Nat) (hl2 : xl2 = nI l2) (h : F74_33 k2 l0 l1 l2 T = some r) : mm_L 74 33 [.ref l0, .int xl1, .int xl2] [] (toS z T) = some (tR z r) := by
  unfold F74_33 at h
  refine Eq.trans (e74_33 ..) ?_
  exact (hk2 _ _ _ hl1 _ _ (iA_ok hl2 (rfl : (1 : Int32) = nI 1)) _ _ h)
noncomputable def F74_28 (k2 : Nat → Nat → Nat → fS → Option fR) (l0 : Nat) (l1 : Nat) (l2 : Nat) (s0 : Nat) (s1 : Nat) (T : fS) : Option fR := (fif (ile s0 s1) (F74_33 k2 l0 l1 l2 T) (F74_31  l0 l1 l2 T))
theorem G74_28 {z : Option mm_O} {T : fS} {r : fR} (k2 : Nat → Nat → Nat → fS → Option fR) (hk2 : ∀ (l0 : Nat) (xl1 : Int32) (l1 : Nat) (hl1 : xl1 = nI l1) (xl2 : Int32) (l2 : Nat) (hl2 : xl2 = nI l2) (T : fS) (r : fR), k2 l0 l1 l2 T = some r → mm_L 74 2 [.ref l0, .int xl1, .int xl2] [] (toS z T) = some (tR z r)) (l0 : Nat) (xl1 : Int32) (l1 : Nat) (hl1 : xl1 = nI l1) (xl2 : Int32) (l2 : Nat) (hl2 : xl2 = nI l2) (xs0 : Int32) (s0 : Nat) (hs0 : xs0 = nI s0) (xs1 : Int32) (s1 : Nat) (hs1 : xs1 = nI s1) (h : F74_28 k2 l0 l1 l2 s0 s1 T = some r) : mm_L 74 28 [.ref l0, .int xl1, .int xl2] [.int xs0, .int xs1] (toS z T) = some (tR z r) := by
  unfold F74_28 at h
  refine Eq.trans (e74_28 ..) ?_
  exact (fb_if (cj_le hs0 hs1) h (fun h1 => (G74_33 k2 hk2 _ _ _ hl1 _ _ hl2 h1)) (fun h1 => (G74_31  _ _ _ hl1 _ _ hl2 h1)))
noncomputable def F74_25 (k2 : Nat → Nat → Nat → fS → Option fR) (l0 : Nat) (l1 : Nat) (l2 : Nat) (s0 : Nat) (s1 : Nat) (T : fS) : Option fR := (fbn (fgi T s0 2 7) (fun v0 => F74_28 k2 l0 l1 l2 v0 s1 T))
theorem G74_25 {z : Option mm_O} {T : fS} {r : fR} (k2 : Nat → Nat → Nat → fS → Option fR) (hk2 : ∀ (l0 : Nat) (xl1 : Int32) (l1 : Nat) (hl1 : xl1 = nI l1) (xl2 : Int32) (l2 : Nat) (hl2 : xl2 = nI l2) (T : fS) (r : fR), k2 l0 l1 l2 T = some r → mm_L 74 2 [.ref l0, .int xl1, .int xl2] [] (toS z T) = some (tR z r)) (l0 : Nat) (xl1 : Int32) (l1 : Nat) (hl1 : xl1 = nI l1) (xl2 : Int32) (l2 : Nat) (hl2 : xl2 = nI l2) (s0 : Nat) (xs1 : Int32) (s1 : Nat) (hs1 : xs1 = nI s1) (h : F74_25 k2 l0 l1 l2 s0 s1 T = some r) : mm_L 74 25 [.ref l0, .int xl1, .int xl2] [.ref s0, .int xs1] (toS z T) = some (tR z r) := by
  unfold F74_25 at h
  refine Eq.trans (e74_25 ..) ?_
  exact (fb_n (fun _ q => fgi_ok q) h (fun v0 h2 => G74_28 k2 hk2 _ _ _ hl1 _ _ hl2 _ _ rfl _ _ hs1 h2))
noncomputable def F74_22 (k2 : Nat → Nat → Nat → fS → Option fR) (l0 : Nat) (l1 : Nat) (l2 : Nat) (s0 : Nat) (s1 : Nat) (T : fS) : Option fR := (fif (fch T s0 2) (F74_25 k2 l0 l1 l2 s0 s1 T) none)
theorem G74_22 {z : Option mm_O} {T : fS} {r : fR} (k2 : Nat → Nat → Nat → fS → Option fR) (hk2 : ∀ (l0 : Nat) (xl1 : Int32) (l1 : Nat) (hl1 : xl1 = nI l1) (xl2 : Int32) (l2 : Nat) (hl2 : xl2 = nI l2) (T : fS) (r : fR), k2 l0 l1 l2 T = some r → mm_L 74 2 [.ref l0, .int xl1, .int xl2] [] (toS z T) = some (tR z r)) (l0 : Nat) (xl1 : Int32) (l1 : Nat) (hl1 : xl1 = nI l1) (xl2 : Int32) (l2 : Nat) (hl2 : xl2 = nI l2) (s0 : Nat) (xs1 : Int32) (s1 : Nat) (hs1 : xs1 = nI s1) (h : F74_22 k2 l0 l1 l2 s0 s1 T = some r) : mm_L 74 22 [.ref l0, .int xl1, .int xl2] [.ref s0, .int xs1] (toS z T) = some (tR z r) := by
  unfold F74_22 at h
  refine Eq.trans (e74_22 ..) ?_
  exact (fb_c h (fun h2 => G74_25 k2 hk2 _ _ _ hl1 _ _ hl2 _ _ _ hs1 h2))
noncomputable def F74_18 (k2 : Nat → Nat → Nat → fS → Option fR) (l0 : Nat) (l1 : Nat) (l2 : Nat) (s0 : Nat) (s1 : Nat) (T : fS) : Option fR := (fbn (flg T s0 l2) (fun v0 => F74_22 k2 l0 l1 l2 v0 s1 T))
theorem G74_18 {z : Option mm_O} {T : fS} {r : fR} (k2 : Nat → Nat → Nat → fS → Option fR) (hk2 : ∀ (l0 : Nat) (xl1 : Int32) (l1 : Nat) (hl1 : xl1 = nI l1) (xl2 : Int32) (l2 : Nat) (hl2 : xl2 = nI l2) (T : fS) (r : fR), k2 l0 l1 l2 T = some r → mm_L 74 2 [.ref l0, .int xl1, .int xl2] [] (toS z T) = some (tR z r)) (l0 : Nat) (xl1 : Int32) (l1 : Nat) (hl1 : xl1 = nI l1) (xl2 : Int32) (l2 : Nat) (hl2 : xl2 = nI l2) (s0 : Nat) (xs1 : Int32) (s1 : Nat) (hs1 : xs1 = nI s1) (h : F74_18 k2 l0 l1 l2 s0 s1 T = some r) : mm_L 74 18 [.ref l0, .int xl1, .int xl2] [.ref s0, .int xs1] (toS z T) = some (tR z r) := by
  unfold F74_18 at h
  refine Eq.trans (e74_18 ..) ?_
  exact (fb_g (fun _ q => by rw [hl2]; exact flg_ok q) h (fun v0 h2 => G74_22 k2 hk2 _ _ _ hl1 _ _ hl2 _ _ _ hs1 h2))
noncomputable def F74_13 (k2 : Nat → Nat → Nat → fS → Option fR) (l0 : Nat) (l1 : Nat) (l2 : Nat) (T : fS) : Option fR := (fbv (fgr T l0 6 1) (fun v0 => F74_18 k2 l0 l1 l2 v0 l1 T) ((none : Option fR)))
theorem G74_13 {z : Option mm_O} {T : fS} {r : fR} (k2 : Nat → Nat → Nat → fS → Option fR) (hk2 : ∀ (l0 : Nat) (xl1 : Int32) (l1 : Nat) (hl1 : xl1 = nI l1) (xl2 : Int32) (l2 : Nat) (hl2 : xl2 = nI l2) (T : fS) (r : fR), k2 l0 l1 l2 T = some r → mm_L 74 2 [.ref l0, .int xl1, .int xl2] [] (toS z T) = some (tR z r)) (l0 : Nat) (xl1 : Int32) (l1 : Nat) (hl1 : xl1 = nI l1) (xl2 : Int32) (l2 : Nat) (hl2 : xl2 = nI l2) (h : F74_13 k2 l0 l1 l2 T = some r) : mm_L 74 13 [.ref l0, .int xl1, .int xl2] [] (toS z T) = some (tR z r) := by
  unfold F74_13 at h
  refine Eq.trans (e74_13 ..) ?_
  exact (fb_v (fun _ q => fgr_ok q) h (fun v0 h2 => G74_18 k2 hk2 _ _ _ hl1 _ _ hl2 _ _ _ hl1 h2) (fun h2 => fr_n h2))
noncomputable def F74_39  (l0 : Nat) (l1 : Nat) (l2 : Nat) (T : fS) : Option fR := (some ((.inl (some (.inl 4294967295)), T) : fR))
theorem G74_39 {z : Option mm_O} {T : fS} {r : fR}  (l0 : Nat) (xl1 : Int32) (l1 : Nat) (hl1 : xl1 = nI l1) (xl2 : Int32) (l2 : Nat) (hl2 : xl2 = nI l2) (h : F74_39  l0 l1 l2 T = some r) : mm_L 74 39 [.ref l0, .int xl1, .int xl2] [] (toS z T) = some (tR z r) := by
  unfold F74_39 at h
  refine Eq.trans (e74_39 ..) ?_
  exact (fr_i (by decide : (-1 : Int32) = nI 4294967295) h)
noncomputable def F74_10 (k2 : Nat → Nat → Nat → fS → Option fR) (l0 : Nat) (l1 : Nat) (l2 : Nat) (s0 : Nat) (s1 : Nat) (T : fS) : Option fR := (fif (ile s0 s1) (F74_39  l0 l1 l2 T) (F74_13 k2 l0 l1 l2 T))
theorem G74_10 {z : Option mm_O} {T : fS} {r : fR} (k2 : Nat → Nat → Nat → fS → Option fR) (hk2 : ∀ (l0 : Nat) (xl1 : Int32) (l1 : Nat) (hl1 : xl1 = nI l1) (xl2 : Int32) (l2 : Nat) (hl2 : xl2 = nI l2) (T : fS) (r : fR), k2 l0 l1 l2 T = some r → mm_L 74 2 [.ref l0, .int xl1, .int xl2] [] (toS z T) = some (tR z r)) (l0 : Nat) (xl1 : Int32) (l1 : Nat) (hl1 : xl1 = nI l1) (xl2 : Int32) (l2 : Nat) (hl2 : xl2 = nI l2) (xs0 : Int32) (s0 : Nat) (hs0 : xs0 = nI s0) (xs1 : Int32) (s1 : Nat) (hs1 : xs1 = nI s1) (h : F74_10 k2 l0 l1 l2 s0 s1 T = some r) : mm_L 74 10 [.ref l0, .int xl1, .int xl2] [.int xs0, .int xs1] (toS z T) = some (tR z r) := by
  unfold F74_10 at h
  refine Eq.trans (e74_10 ..) ?_
  exact (fb_if (cj_le hs0 hs1) h (fun h1 => (G74_39  _ _ _ hl1 _ _ hl2 h1)) (fun h1 => (G74_13 k2 hk2 _ _ _ hl1 _ _ hl2 h1)))
noncomputable def F74_7 (k2 : Nat → Nat → Nat → fS → Option fR) (l0 : Nat) (l1 : Nat) (l2 : Nat) (s0 : Nat) (s1 : Nat) (T : fS) : Option fR := (fbn (flz T s0) (fun v0 => F74_10 k2 l0 l1 l2 v0 s1 T))
theorem G74_7 {z : Option mm_O} {T : fS} {r : fR} (k2 : Nat → Nat → Nat → fS → Option fR) (hk2 : ∀ (l0 : Nat) (xl1 : Int32) (l1 : Nat) (hl1 : xl1 = nI l1) (xl2 : Int32) (l2 : Nat) (hl2 : xl2 = nI l2) (T : fS) (r : fR), k2 l0 l1 l2 T = some r → mm_L 74 2 [.ref l0, .int xl1, .int xl2] [] (toS z T) = some (tR z r)) (l0 : Nat) (xl1 : Int32) (l1 : Nat) (hl1 : xl1 = nI l1) (xl2 : Int32) (l2 : Nat) (hl2 : xl2 = nI l2) (s0 : Nat) (xs1 : Int32) (s1 : Nat) (hs1 : xs1 = nI s1) (h : F74_7 k2 l0 l1 l2 s0 s1 T = some r) : mm_L 74 7 [.ref l0, .int xl1, .int xl2] [.ref s0, .int xs1] (toS z T) = some (tR z r) := by
  unfold F74_7 at h
  refine Eq.trans (e74_7 ..) ?_
  exact (fb_n (fun _ q => flz_ok q) h (fun v0 h2 => G74_10 k2 hk2 _ _ _ hl1 _ _ hl2 _ _ rfl _ _ hs1 h2))
noncomputable def F74_2 (k2 : Nat → Nat → Nat → fS → Option fR) (l0 : Nat) (l1 : Nat) (l2 : Nat) (T : fS) : Option fR := (fbv (fgr T l0 6 1) (fun v0 => F74_7 k2 l0 l1 l2 v0 l2 T) ((none : Option fR)))
theorem G74_2 {z : Option mm_O} {T : fS} {r : fR} (k2 : Nat → Nat → Nat → fS → Option fR) (hk2 : ∀ (l0 : Nat) (xl1 : Int32) (l1 : Nat) (hl1 : xl1 = nI l1) (xl2 : Int32) (l2 : Nat) (hl2 : xl2 = nI l2) (T : fS) (r : fR), k2 l0 l1 l2 T = some r → mm_L 74 2 [.ref l0, .int xl1, .int xl2] [] (toS z T) = some (tR z r)) (l0 : Nat) (xl1 : Int32) (l1 : Nat) (hl1 : xl1 = nI l1) (xl2 : Int32) (l2 : Nat) (hl2 : xl2 = nI l2) (h : F74_2 k2 l0 l1 l2 T = some r) : mm_L 74 2 [.ref l0, .int xl1, .int xl2] [] (toS z T) = some (tR z r) := by
  unfold F74_2 at h
  refine Eq.trans (e74_2 ..) ?_
  exact (fb_v (fun _ q => fgr_ok q) h (fun v0 h2 => G74_7 k2 hk2 _ _ _ hl1 _ _ hl2 _ _ _ hl2 h2) (fun h2 => fr_n h2))
noncomputable def H74_2  (n : Nat) : Nat → Nat → Nat → fS → Option fR := Nat.rec (motive := fun _ => Nat → Nat → Nat → fS → Option fR) (fun _ _ _ _ => none) (fun _ ih => F74_2 ih) n
theorem HG74_2 {z : Option mm_O}  : ∀ (n : Nat) (l0 : Nat) (xl1 : Int32) (l1 : Nat) (hl1 : xl1 = nI l1) (xl2 : Int32) (l2 : Nat) (hl2 : xl2 = nI l2) {T : fS} {r : fR}, H74_2  n l0 l1 l2 T = some r → mm_L 74 2 [.ref l0, .int xl1, .int xl2] [] (toS z T) = some (tR z r) := by
  intro n
  induction n with
  | zero =>
    intro l0 xl1 l1 hl1 xl2 l2 hl2 T r h
    exact fr_n h
  | succ n ih =>
    intro l0 xl1 l1 hl1 xl2 l2 hl2 T r h
    exact G74_2 (H74_2  n) (fun l0 xl1 l1 hl1 xl2 l2 hl2 T r h => ih l0 xl1 l1 hl1 xl2 l2 hl2 h) l0 xl1 l1 hl1 xl2 l2 hl2 h
noncomputable def F74_0  (l0 : Nat) (l1 : Nat) (T : fS) : Option fR := (H74_2  300 l0 l1 0 T)
theorem G74_0 {z : Option mm_O} {T : fS} {r : fR}  (l0 : Nat) (xl1 : Int32) (l1 : Nat) (hl1 : xl1 = nI l1) (ul2 : Value) (h : F74_0  l0 l1 T = some r) : mm_L 74 0 [.ref l0, .int xl1, ul2] [] (toS z T) = some (tR z r) := by
  unfold F74_0 at h
  refine Eq.trans (e74_0 ..) ?_
  exact (HG74_2  300 _ _ _ hl1 _ _ (rfl : (0 : Int32) = nI 0) h)
theorem GM74 {z : Option mm_O} {T : fS} {r : fR} (l0 : Nat) (xl1 : Int32) (l1 : Nat) (hl1 : xl1 = nI l1) (h : F74_0 l0 l1 T = some r) : mm_M 74 [.ref l0, .int xl1] (toS z T) = some (tR z r) := Eq.trans (M_74 ..) (G74_0 l0 xl1 l1 hl1 _ h)
-- 75: HandArchive.placeInPassing
noncomputable def F75_78  (l0 : Nat) (l1 : Nat) (l2 : Nat) (l3 : Nat) (l4 : Nat) (s0 : Nat) (T : fS) : Option fR := (some ((.inl (some (.inl s0)), T) : fR))
theorem G75_78 {z : Option mm_O} {T : fS} {r : fR}  (l0 : Nat) (xl1 : Int32) (l1 : Nat) (hl1 : xl1 = nI l1) (xl2 : Int32) (l2 : Nat) (hl2 : xl2 = nI l2) (l3 : Nat) (xl4 : Int32) (l4 : Nat) (hl4 : xl4 = nI l4) (xs0 : Int32) (s0 : Nat) (hs0 : xs0 = nI s0) (h : F75_78  l0 l1 l2 l3 l4 s0 T = some r) : mm_L 75 78 [.ref l0, .int xl1, .int xl2, .ref l3, .int xl4] [.int xs0] (toS z T) = some (tR z r) := by
  unfold F75_78 at h
  refine Eq.trans (e75_78 ..) ?_
  exact (fr_i hs0 h)
noncomputable def F75_72  (l0 : Nat) (l1 : Nat) (l2 : Nat) (l3 : Nat) (l4 : Nat) (s0 : Nat) (s1 : Nat) (s2 : Nat) (s3 : Nat) (T : fS) : Option fR := (fKi true (F79_0 s3 s2 (iA (iS s1 s0) 1) T) (fun v0 T1 => F75_78  l0 l1 l2 l3 l4 v0 T1))
theorem G75_72 {z : Option mm_O} {T : fS} {r : fR}  (l0 : Nat) (xl1 : Int32) (l1 : Nat) (hl1 : xl1 = nI l1) (xl2 : Int32) (l2 : Nat) (hl2 : xl2 = nI l2) (l3 : Nat) (xl4 : Int32) (l4 : Nat) (hl4 : xl4 = nI l4) (xs0 : Int32) (s0 : Nat) (hs0 : xs0 = nI s0) (xs1 : Int32) (s1 : Nat) (hs1 : xs1 = nI s1) (xs2 : Int32) (s2 : Nat) (hs2 : xs2 = nI s2) (xs3 : Int32) (s3 : Nat) (hs3 : xs3 = nI s3) (h : F75_72  l0 l1 l2 l3 l4 s0 s1 s2 s3 T = some r) : mm_L 75 72 [.ref l0, .int xl1, .int xl2, .ref l3, .int xl4] [.int xs0, .int xs1, .int xs2, .int xs3] (toS z T) = some (tR z r) := by
  unfold F75_72 at h
  refine Eq.trans (e75_72 ..) ?_
  exact (fb_K0i (fun _ q => GM79 _ _ hs3 _ _ hs2 _ _ (iA_ok (iS_ok hs1 hs0) (rfl : (1 : Int32) = nI 1)) q) h (fun v0 T1 h2 => G75_78  _ _ _ hl1 _ _ hl2 _ _ _ hl4 _ _ rfl h2))
noncomputable def F75_69  (l0 : Nat) (l1 : Nat) (l2 : Nat) (l3 : Nat) (l4 : Nat) (s0 : Nat) (s1 : Nat) (s2 : Nat) (s3 : Nat) (T : fS) : Option fR := (fbn (fgi T s0 2 5) (fun v0 => F75_72  l0 l1 l2 l3 l4 v0 s1 s2 s3 T))
theorem G75_69 {z : Option mm_O} {T : fS} {r : fR}  (l0 : Nat) (xl1 : Int32) (l1 : Nat) (hl1 : xl1 = nI l1) (xl2 : Int32) (l2 : Nat) (hl2 : xl2 = nI l2) (l3 : Nat) (xl4 : Int32) (l4 : Nat) (hl4 : xl4 = nI l4) (s0 : Nat) (xs1 : Int32) (s1 : Nat) (hs1 : xs1 = nI s1) (xs2 : Int32) (s2 : Nat) (hs2 : xs2 = nI s2) (xs3 : Int32) (s3 : Nat) (hs3 : xs3 = nI s3) (h : F75_69  l0 l1 l2 l3 l4 s0 s1 s2 s3 T = some r) : mm_L 75 69 [.ref l0, .int xl1, .int xl2, .ref l3, .int xl4] [.ref s0, .int xs1, .int xs2, .int xs3] (toS z T) = some (tR z r) := by
  unfold F75_69 at h
  refine Eq.trans (e75_69 ..) ?_
  exact (fb_n (fun _ q => fgi_ok q) h (fun v0 h2 => G75_72  _ _ _ hl1 _ _ hl2 _ _ _ hl4 _ _ rfl _ _ hs1 _ _ hs2 _ _ hs3 h2))
noncomputable def F75_66  (l0 : Nat) (l1 : Nat) (l2 : Nat) (l3 : Nat) (l4 : Nat) (s0 : Nat) (s1 : Nat) (s2 : Nat) (s3 : Nat) (T : fS) : Option fR := (fif (fch T s0 2) (F75_69  l0 l1 l2 l3 l4 s0 s1 s2 s3 T) none)
theorem G75_66 {z : Option mm_O} {T : fS} {r : fR}  (l0 : Nat) (xl1 : Int32) (l1 : Nat) (hl1 : xl1 = nI l1) (xl2 : Int32) (l2 : Nat) (hl2 : xl2 = nI l2) (l3 : Nat) (xl4 : Int32) (l4 : Nat) (hl4 : xl4 = nI l4) (s0 : Nat) (xs1 : Int32) (s1 : Nat) (hs1 : xs1 = nI s1) (xs2 : Int32) (s2 : Nat) (hs2 : xs2 = nI s2) (xs3 : Int32) (s3 : Nat) (hs3 : xs3 = nI s3) (h : F75_66  l0 l1 l2 l3 l4 s0 s1 s2 s3 T = some r) : mm_L 75 66 [.ref l0, .int xl1, .int xl2, .ref l3, .int xl4] [.ref s0, .int xs1, .int xs2, .int xs3] (toS z T) = some (tR z r) := by
  unfold F75_66 at h
  refine Eq.trans (e75_66 ..) ?_
  exact (fb_c h (fun h2 => G75_69  _ _ _ hl1 _ _ hl2 _ _ _ hl4 _ _ _ hs1 _ _ hs2 _ _ hs3 h2))
noncomputable def F75_62  (l0 : Nat) (l1 : Nat) (l2 : Nat) (l3 : Nat) (l4 : Nat) (s0 : Nat) (s1 : Nat) (s2 : Nat) (s3 : Nat) (T : fS) : Option fR := (fbn (flg T s0 l1) (fun v0 => F75_66  l0 l1 l2 l3 l4 v0 s1 s2 s3 T))
theorem G75_62 {z : Option mm_O} {T : fS} {r : fR}  (l0 : Nat) (xl1 : Int32) (l1 : Nat) (hl1 : xl1 = nI l1) (xl2 : Int32) (l2 : Nat) (hl2 : xl2 = nI l2) (l3 : Nat) (xl4 : Int32) (l4 : Nat) (hl4 : xl4 = nI l4) (s0 : Nat) (xs1 : Int32) (s1 : Nat) (hs1 : xs1 = nI s1) (xs2 : Int32) (s2 : Nat) (hs2 : xs2 = nI s2) (xs3 : Int32) (s3 : Nat) (hs3 : xs3 = nI s3) (h : F75_62  l0 l1 l2 l3 l4 s0 s1 s2 s3 T = some r) : mm_L 75 62 [.ref l0, .int xl1, .int xl2, .ref l3, .int xl4] [.ref s0, .int xs1, .int xs2, .int xs3] (toS z T) = some (tR z r) := by
  unfold F75_62 at h
  refine Eq.trans (e75_62 ..) ?_
  exact (fb_g (fun _ q => by rw [hl1]; exact flg_ok q) h (fun v0 h2 => G75_66  _ _ _ hl1 _ _ hl2 _ _ _ hl4 _ _ _ hs1 _ _ hs2 _ _ hs3 h2))
noncomputable def F75_57  (l0 : Nat) (l1 : Nat) (l2 : Nat) (l3 : Nat) (l4 : Nat) (s0 : Nat) (s1 : Nat) (T : fS) : Option fR := (fbv (fgr T l0 6 1) (fun v0 => F75_62  l0 l1 l2 l3 l4 v0 l2 s0 s1 T) ((none : Option fR)))
theorem G75_57 {z : Option mm_O} {T : fS} {r : fR}  (l0 : Nat) (xl1 : Int32) (l1 : Nat) (hl1 : xl1 = nI l1) (xl2 : Int32) (l2 : Nat) (hl2 : xl2 = nI l2) (l3 : Nat) (xl4 : Int32) (l4 : Nat) (hl4 : xl4 = nI l4) (xs0 : Int32) (s0 : Nat) (hs0 : xs0 = nI s0) (xs1 : Int32) (s1 : Nat) (hs1 : xs1 = nI s1) (h : F75_57  l0 l1 l2 l3 l4 s0 s1 T = some r) : mm_L 75 57 [.ref l0, .int xl1, .int xl2, .ref l3, .int xl4] [.int xs0, .int xs1] (toS z T) = some (tR z r) := by
  unfold F75_57 at h
  refine Eq.trans (e75_57 ..) ?_
  exact (fb_v (fun _ q => fgr_ok q) h (fun v0 h2 => G75_62  _ _ _ hl1 _ _ hl2 _ _ _ hl4 _ _ _ hl2 _ _ hs0 _ _ hs1 h2) (fun h2 => fr_n h2))
noncomputable def F75_49  (l0 : Nat) (l1 : Nat) (l2 : Nat) (l3 : Nat) (s0 : Nat) (T : fS) : Option fR := (fbn (fgi T l3 1 1) (fun v0 => F75_57  l0 l1 l2 l3 s0 v0 s0 T))
theorem G75_49 {z : Option mm_O} {T : fS} {r : fR}  (l0 : Nat) (xl1 : Int32) (l1 : Nat) (hl1 : xl1 = nI l1) (xl2 : Int32) (l2 : Nat) (hl2 : xl2 = nI l2) (l3 : Nat) (ul4 : Value) (xs0 : Int32) (s0 : Nat) (hs0 : xs0 = nI s0) (h : F75_49  l0 l1 l2 l3 s0 T = some r) : mm_L 75 49 [.ref l0, .int xl1, .int xl2, .ref l3, ul4] [.int xs0] (toS z T) = some (tR z r) := by
  unfold F75_49 at h
  refine Eq.trans (e75_49 ..) ?_
  exact (fb_n (fun _ q => fgi_ok q) h (fun v0 h2 => G75_57  _ _ _ hl1 _ _ hl2 _ _ _ hs0 _ _ rfl _ _ hs0 h2))
noncomputable def F75_42  (l0 : Nat) (l1 : Nat) (l2 : Nat) (l3 : Nat) (s0 : Nat) (T : fS) : Option fR := (F75_49  l0 l1 l2 l3 s0 T)
theorem G75_42 {z : Option mm_O} {T : fS} {r : fR}  (l0 : Nat) (xl1 : Int32) (l1 : Nat) (hl1 : xl1 = nI l1) (xl2 : Int32) (l2 : Nat) (hl2 : xl2 = nI l2) (l3 : Nat) (ul4 : Value) (xs0 : Int32) (s0 : Nat) (hs0 : xs0 = nI s0) (h : F75_42  l0 l1 l2 l3 s0 T = some r) : mm_L 75 42 [.ref l0, .int xl1, .int xl2, .ref l3, ul4] [.int xs0] (toS z T) = some (tR z r) := by
  unfold F75_42 at h
  refine Eq.trans (e75_42 ..) ?_
  exact (G75_49  _ _ _ hl1 _ _ hl2 _ _ _ _ hs0 h)
noncomputable def F75_39  (l0 : Nat) (l1 : Nat) (l2 : Nat) (l3 : Nat) (s0 : Nat) (T : fS) : Option fR := (fbn (fgi T s0 1 2) (fun v0 => F75_42  l0 l1 l2 l3 v0 T))
theorem G75_39 {z : Option mm_O} {T : fS} {r : fR}  (l0 : Nat) (xl1 : Int32) (l1 : Nat) (hl1 : xl1 = nI l1) (xl2 : Int32) (l2 : Nat) (hl2 : xl2 = nI l2) (l3 : Nat) (ul4 : Value) (s0 : Nat) (h : F75_39  l0 l1 l2 l3 s0 T = some r) : mm_L 75 39 [.ref l0, .int xl1, .int xl2, .ref l3, ul4] [.ref s0] (toS z T) = some (tR z r) := by
  unfold F75_39 at h
  refine Eq.trans (e75_39 ..) ?_
  exact (fb_n (fun _ q => fgi_ok q) h (fun v0 h2 => G75_42  _ _ _ hl1 _ _ hl2 _ _ _ _ rfl h2))
noncomputable def F75_36  (l0 : Nat) (l1 : Nat) (l2 : Nat) (l3 : Nat) (s0 : Nat) (T : fS) : Option fR := (fbv (fgr T s0 2 4) (fun v0 => F75_39  l0 l1 l2 l3 v0 T) ((none : Option fR)))
theorem G75_36 {z : Option mm_O} {T : fS} {r : fR}  (l0 : Nat) (xl1 : Int32) (l1 : Nat) (hl1 : xl1 = nI l1) (xl2 : Int32) (l2 : Nat) (hl2 : xl2 = nI l2) (l3 : Nat) (ul4 : Value) (s0 : Nat) (h : F75_36  l0 l1 l2 l3 s0 T = some r) : mm_L 75 36 [.ref l0, .int xl1, .int xl2, .ref l3, ul4] [.ref s0] (toS z T) = some (tR z r) := by
  unfold F75_36 at h
  refine Eq.trans (e75_36 ..) ?_
  exact (fb_v (fun _ q => fgr_ok q) h (fun v0 h2 => G75_39  _ _ _ hl1 _ _ hl2 _ _ _ h2) (fun h2 => fr_n h2))
noncomputable def F75_33  (l0 : Nat) (l1 : Nat) (l2 : Nat) (l3 : Nat) (s0 : Nat) (T : fS) : Option fR := (fif (fch T s0 2) (F75_36  l0 l1 l2 l3 s0 T) none)
theorem G75_33 {z : Option mm_O} {T : fS} {r : fR}  (l0 : Nat) (xl1 : Int32) (l1 : Nat) (hl1 : xl1 = nI l1) (xl2 : Int32) (l2 : Nat) (hl2 : xl2 = nI l2) (l3 : Nat) (ul4 : Value) (s0 : Nat) (h : F75_33  l0 l1 l2 l3 s0 T = some r) : mm_L 75 33 [.ref l0, .int xl1, .int xl2, .ref l3, ul4] [.ref s0] (toS z T) = some (tR z r) := by
  unfold F75_33 at h
  refine Eq.trans (e75_33 ..) ?_
  exact (fb_c h (fun h2 => G75_36  _ _ _ hl1 _ _ hl2 _ _ _ h2))
noncomputable def F75_27  (l0 : Nat) (l1 : Nat) (l2 : Nat) (l3 : Nat) (s0 : Nat) (T : fS) : Option fR := (fbn (flg T s0 (iS l1 1)) (fun v0 => F75_33  l0 l1 l2 l3 v0 T))
theorem G75_27 {z : Option mm_O} {T : fS} {r : fR}  (l0 : Nat) (xl1 : Int32) (l1 : Nat) (hl1 : xl1 = nI l1) (xl2 : Int32) (l2 : Nat) (hl2 : xl2 = nI l2) (l3 : Nat) (ul4 : Value) (s0 : Nat) (h : F75_27  l0 l1 l2 l3 s0 T = some r) : mm_L 75 27 [.ref l0, .int xl1, .int xl2, .ref l3, ul4] [.ref s0] (toS z T) = some (tR z r) := by
  unfold F75_27 at h
  refine Eq.trans (e75_27 ..) ?_
  exact (fb_g (fun _ q => by rw [(iS_ok hl1 (rfl : (1 : Int32) = nI 1))]; exact flg_ok q) h (fun v0 h2 => G75_33  _ _ _ hl1 _ _ hl2 _ _ _ h2))
noncomputable def F75_23  (l0 : Nat) (l1 : Nat) (l2 : Nat) (l3 : Nat) (T : fS) : Option fR := (fbv (fgr T l0 6 1) (fun v0 => F75_27  l0 l1 l2 l3 v0 T) ((none : Option fR)))
theorem G75_23 {z : Option mm_O} {T : fS} {r : fR}  (l0 : Nat) (xl1 : Int32) (l1 : Nat) (hl1 : xl1 = nI l1) (xl2 : Int32) (l2 : Nat) (hl2 : xl2 = nI l2) (l3 : Nat) (ul4 : Value) (h : F75_23  l0 l1 l2 l3 T = some r) : mm_L 75 23 [.ref l0, .int xl1, .int xl2, .ref l3, ul4] [] (toS z T) = some (tR z r) := by
  unfold F75_23 at h
  refine Eq.trans (e75_23 ..) ?_
  exact (fb_v (fun _ q => fgr_ok q) h (fun v0 h2 => G75_27  _ _ _ hl1 _ _ hl2 _ _ _ h2) (fun h2 => fr_n h2))
noncomputable def F75_45  (l0 : Nat) (l1 : Nat) (l2 : Nat) (l3 : Nat) (T : fS) : Option fR := (fbn (fgi T l3 1 1) (fun v0 => F75_49  l0 l1 l2 l3 v0 T))
theorem G75_45 {z : Option mm_O} {T : fS} {r : fR}  (l0 : Nat) (xl1 : Int32) (l1 : Nat) (hl1 : xl1 = nI l1) (xl2 : Int32) (l2 : Nat) (hl2 : xl2 = nI l2) (l3 : Nat) (ul4 : Value) (h : F75_45  l0 l1 l2 l3 T = some r) : mm_L 75 45 [.ref l0, .int xl1, .int xl2, .ref l3, ul4] [] (toS z T) = some (tR z r) := by
  unfold F75_45 at h
  refine Eq.trans (e75_45 ..) ?_
  exact (fb_n (fun _ q => fgi_ok q) h (fun v0 h2 => G75_49  _ _ _ hl1 _ _ hl2 _ _ _ _ rfl h2))
noncomputable def F75_20  (l0 : Nat) (l1 : Nat) (l2 : Nat) (l3 : Nat) (s0 : Nat) (T : fS) : Option fR := (fif (ieq s0 0) (F75_45  l0 l1 l2 l3 T) (F75_23  l0 l1 l2 l3 T))
theorem G75_20 {z : Option mm_O} {T : fS} {r : fR}  (l0 : Nat) (xl1 : Int32) (l1 : Nat) (hl1 : xl1 = nI l1) (xl2 : Int32) (l2 : Nat) (hl2 : xl2 = nI l2) (l3 : Nat) (ul4 : Value) (xs0 : Int32) (s0 : Nat) (hs0 : xs0 = nI s0) (h : F75_20  l0 l1 l2 l3 s0 T = some r) : mm_L 75 20 [.ref l0, .int xl1, .int xl2, .ref l3, ul4] [.int xs0] (toS z T) = some (tR z r) := by
  unfold F75_20 at h
  refine Eq.trans (e75_20 ..) ?_
  exact (fb_if (cj_eq hs0 (rfl : (0 : Int32) = nI 0)) h (fun h1 => (G75_45  _ _ _ hl1 _ _ hl2 _ _ h1)) (fun h1 => (G75_23  _ _ _ hl1 _ _ hl2 _ _ h1)))
noncomputable def F75_14  (l0 : Nat) (l1 : Nat) (l2 : Nat) (s0 : Nat) (T : fS) : Option fR := (fKi true (fif (fch T l0 6) (F67_0 l0 l1 T) none) (fun v0 T1 => F75_20  l0 l1 l2 s0 v0 T1))
theorem G75_14 {z : Option mm_O} {T : fS} {r : fR}  (l0 : Nat) (xl1 : Int32) (l1 : Nat) (hl1 : xl1 = nI l1) (xl2 : Int32) (l2 : Nat) (hl2 : xl2 = nI l2) (ul3 : Value) (ul4 : Value) (s0 : Nat) (h : F75_14  l0 l1 l2 s0 T = some r) : mm_L 75 14 [.ref l0, .int xl1, .int xl2, ul3, ul4] [.ref s0] (toS z T) = some (tR z r) := by
  unfold F75_14 at h
  refine Eq.trans (e75_14 ..) ?_
  exact (fb_K0i (fun _ q => fb_mo (y := 67) ow_67 q (fun q => GM67 _ _ _ hl1 q)) h (fun v0 T1 h2 => G75_20  _ _ _ hl1 _ _ hl2 _ _ _ _ rfl h2))
noncomputable def F75_11  (l0 : Nat) (l1 : Nat) (l2 : Nat) (s0 : Nat) (T : fS) : Option fR := (fbv (fgr T s0 2 4) (fun v0 => F75_14  l0 l1 l2 v0 T) ((none : Option fR)))
theorem G75_11 {z : Option mm_O} {T : fS} {r : fR}  (l0 : Nat) (xl1 : Int32) (l1 : Nat) (hl1 : xl1 = nI l1) (xl2 : Int32) (l2 : Nat) (hl2 : xl2 = nI l2) (ul3 : Value) (ul4 : Value) (s0 : Nat) (h : F75_11  l0 l1 l2 s0 T = some r) : mm_L 75 11 [.ref l0, .int xl1, .int xl2, ul3, ul4] [.ref s0] (toS z T) = some (tR z r) := by
  unfold F75_11 at h
  refine Eq.trans (e75_11 ..) ?_
  exact (fb_v (fun _ q => fgr_ok q) h (fun v0 h2 => G75_14  _ _ _ hl1 _ _ hl2 _ _ _ h2) (fun h2 => fr_n h2))
noncomputable def F75_8  (l0 : Nat) (l1 : Nat) (l2 : Nat) (s0 : Nat) (T : fS) : Option fR := (fif (fch T s0 2) (F75_11  l0 l1 l2 s0 T) none)
theorem G75_8 {z : Option mm_O} {T : fS} {r : fR}  (l0 : Nat) (xl1 : Int32) (l1 : Nat) (hl1 : xl1 = nI l1) (xl2 : Int32) (l2 : Nat) (hl2 : xl2 = nI l2) (ul3 : Value) (ul4 : Value) (s0 : Nat) (h : F75_8  l0 l1 l2 s0 T = some r) : mm_L 75 8 [.ref l0, .int xl1, .int xl2, ul3, ul4] [.ref s0] (toS z T) = some (tR z r) := by
  unfold F75_8 at h
  refine Eq.trans (e75_8 ..) ?_
  exact (fb_c h (fun h2 => G75_11  _ _ _ hl1 _ _ hl2 _ _ _ h2))
noncomputable def F75_4  (l0 : Nat) (l1 : Nat) (l2 : Nat) (s0 : Nat) (T : fS) : Option fR := (fbn (flg T s0 l1) (fun v0 => F75_8  l0 l1 l2 v0 T))
theorem G75_4 {z : Option mm_O} {T : fS} {r : fR}  (l0 : Nat) (xl1 : Int32) (l1 : Nat) (hl1 : xl1 = nI l1) (xl2 : Int32) (l2 : Nat) (hl2 : xl2 = nI l2) (ul3 : Value) (ul4 : Value) (s0 : Nat) (h : F75_4  l0 l1 l2 s0 T = some r) : mm_L 75 4 [.ref l0, .int xl1, .int xl2, ul3, ul4] [.ref s0] (toS z T) = some (tR z r) := by
  unfold F75_4 at h
  refine Eq.trans (e75_4 ..) ?_
  exact (fb_g (fun _ q => by rw [hl1]; exact flg_ok q) h (fun v0 h2 => G75_8  _ _ _ hl1 _ _ hl2 _ _ _ h2))
noncomputable def F75_0  (l0 : Nat) (l1 : Nat) (l2 : Nat) (T : fS) : Option fR := (fbv (fgr T l0 6 1) (fun v0 => F75_4  l0 l1 l2 v0 T) ((none : Option fR)))
theorem G75_0 {z : Option mm_O} {T : fS} {r : fR}  (l0 : Nat) (xl1 : Int32) (l1 : Nat) (hl1 : xl1 = nI l1) (xl2 : Int32) (l2 : Nat) (hl2 : xl2 = nI l2) (ul3 : Value) (ul4 : Value) (h : F75_0  l0 l1 l2 T = some r) : mm_L 75 0 [.ref l0, .int xl1, .int xl2, ul3, ul4] [] (toS z T) = some (tR z r) := by
  unfold F75_0 at h
  refine Eq.trans (e75_0 ..) ?_
  exact (fb_v (fun _ q => fgr_ok q) h (fun v0 h2 => G75_4  _ _ _ hl1 _ _ hl2 _ _ _ h2) (fun h2 => fr_n h2))
theorem GM75 {z : Option mm_O} {T : fS} {r : fR} (l0 : Nat) (xl1 : Int32) (l1 : Nat) (hl1 : xl1 = nI l1) (xl2 : Int32) (l2 : Nat) (hl2 : xl2 = nI l2) (h : F75_0 l0 l1 l2 T = some r) : mm_M 75 [.ref l0, .int xl1, .int xl2] (toS z T) = some (tR z r) := Eq.trans (M_75 ..) (G75_0 l0 xl1 l1 hl1 xl2 l2 hl2 _ _ h)
-- 92: HandArchive.letGo
noncomputable def F92_99 (k5 : Nat → Nat → Nat → Nat → Nat → fS → Option fR) (l0 : Nat) (l1 : Nat) (l2 : Nat) (l3 : Nat) (l4 : Nat) (l5 : Nat) (l6 : Nat) (T : fS) : Option fR := (k5 l0 l1 l2 l3 (iA l4 1) T)
theorem G92_99 {z : Option mm_O} {T : fS} {r : fR} (k5 : Nat → Nat → Nat → Nat → Nat → fS → Option fR) (hk5 : ∀ (l0 : Nat) (xl1 : Int32) (l1 : Nat) (hl1 : xl1 = nI l1) (xl2 : Int32) (l2 : Nat) (hl2 : xl2 = nI l2) (xl3 : Int32) (l3 : Nat) (hl3 : xl3 = nI l3) (xl4 : Int32) (l4 : Nat) (hl4 : xl4 = nI l4) (ul5 : Value) (ul6 : Value) (T : fS) (r : fR), k5 l0 l1 l2 l3 l4 T = some r → mm_L 92 5 [.ref l0, .int xl1, .int xl2, .int xl3, .int xl4, ul5, ul6] [] (toS z T) = some (tR z r)) (l0 : Nat) (xl1 : Int32) (l1 : Nat) (hl1 : xl1 = nI l1) (xl2 : Int32) (l2 : Nat) (hl2 : xl2 = nI l2) (xl3 : Int32) (l3 : Nat) (hl3 : xl3 = nI l3) (xl4 : Int32) (l4 : Nat) (hl4 : xl4 = nI l4) (l5 : Nat) (xl6 : Int32) (l6 : Nat) (hl6 : xl6 = nI l6) (h : F92_99 k5 l0 l1 l2 l3 l4 l5 l6 T = some r) : mm_L 92 99 [.ref l0, .int xl1, .int xl2, .int xl3, .int xl4, .ref l5, .int xl6] [] (toS z T) = some (tR z r) := by
  unfold F92_99 at h
  refine Eq.trans (e92_99 ..) ?_
  exact (hk5 _ _ _ hl1 _ _ hl2 _ _ hl3 _ _ (iA_ok hl4 (rfl : (1 : Int32) = nI 1)) _ _ _ _ h)
noncomputable def F92_96 (k5 : Nat → Nat → Nat → Nat → Nat → fS → Option fR) (l0 : Nat) (l1 : Nat) (l2 : Nat) (l3 : Nat) (l4 : Nat) (l5 : Nat) (l6 : Nat) (T : fS) : Option fR := (F92_99 k5 l0 l1 l2 (iA l3 1) l4 l5 l6 T)
theorem G92_96 {z : Option mm_O} {T : fS} {r : fR} (k5 : Nat → Nat → Nat → Nat → Nat → fS → Option fR) (hk5 : ∀ (l0 : Nat) (xl1 : Int32) (l1 : Nat) (hl1 : xl1 = nI l1) (xl2 : Int32) (l2 : Nat) (hl2 : xl2 = nI l2) (xl3 : Int32) (l3 : Nat) (hl3 : xl3 = nI l3) (xl4 : Int32) (l4 : Nat) (hl4 : xl4 = nI l4) (ul5 : Value) (ul6 : Value) (T : fS) (r : fR), k5 l0 l1 l2 l3 l4 T = some r → mm_L 92 5 [.ref l0, .int xl1, .int xl2, .int xl3, .int xl4, ul5, ul6] [] (toS z T) = some (tR z r)) (l0 : Nat) (xl1 : Int32) (l1 : Nat) (hl1 : xl1 = nI l1) (xl2 : Int32) (l2 : Nat) (hl2 : xl2 = nI l2) (xl3 : Int32) (l3 : Nat) (hl3 : xl3 = nI l3) (xl4 : Int32) (l4 : Nat) (hl4 : xl4 = nI l4) (l5 : Nat) (xl6 : Int32) (l6 : Nat) (hl6 : xl6 = nI l6) (h : F92_96 k5 l0 l1 l2 l3 l4 l5 l6 T = some r) : mm_L 92 96 [.ref l0, .int xl1, .int xl2, .int xl3, .int xl4, .ref l5, .int xl6] [] (toS z T) = some (tR z r) := by
  unfold F92_96 at h
  refine Eq.trans (e92_96 ..) ?_
  exact (G92_99 k5 hk5 _ _ _ hl1 _ _ hl2 _ _ (iA_ok hl3 (rfl : (1 : Int32) = nI 1)) _ _ hl4 _ _ _ hl6 h)
noncomputable def F92_93 (k5 : Nat → Nat → Nat → Nat → Nat → fS → Option fR) (l0 : Nat) (l1 : Nat) (l2 : Nat) (l3 : Nat) (l4 : Nat) (l5 : Nat) (l6 : Nat) (s0 : Nat) (T : fS) : Option fR := (fbs (fcl T s0) (fun T1 => F92_96 k5 l0 l1 l2 l3 l4 l5 l6 T1))
theorem G92_93 {z : Option mm_O} {T : fS} {r : fR} (k5 : Nat → Nat → Nat → Nat → Nat → fS → Option fR) (hk5 : ∀ (l0 : Nat) (xl1 : Int32) (l1 : Nat) (hl1 : xl1 = nI l1) (xl2 : Int32) (l2 : Nat) (hl2 : xl2 = nI l2) (xl3 : Int32) (l3 : Nat) (hl3 : xl3 = nI l3) (xl4 : Int32) (l4 : Nat) (hl4 : xl4 = nI l4) (ul5 : Value) (ul6 : Value) (T : fS) (r : fR), k5 l0 l1 l2 l3 l4 T = some r → mm_L 92 5 [.ref l0, .int xl1, .int xl2, .int xl3, .int xl4, ul5, ul6] [] (toS z T) = some (tR z r)) (l0 : Nat) (xl1 : Int32) (l1 : Nat) (hl1 : xl1 = nI l1) (xl2 : Int32) (l2 : Nat) (hl2 : xl2 = nI l2) (xl3 : Int32) (l3 : Nat) (hl3 : xl3 = nI l3) (xl4 : Int32) (l4 : Nat) (hl4 : xl4 = nI l4) (l5 : Nat) (xl6 : Int32) (l6 : Nat) (hl6 : xl6 = nI l6) (s0 : Nat) (h : F92_93 k5 l0 l1 l2 l3 l4 l5 l6 s0 T = some r) : mm_L 92 93 [.ref l0, .int xl1, .int xl2, .int xl3, .int xl4, .ref l5, .int xl6] [.ref s0] (toS z T) = some (tR z r) := by
  unfold F92_93 at h
  refine Eq.trans (e92_93 ..) ?_
  exact (fb_s (fun _ q => fcl_ok q) h (fun T1 h2 => G92_96 k5 hk5 _ _ _ hl1 _ _ hl2 _ _ hl3 _ _ hl4 _ _ _ hl6 h2))
noncomputable def F92_88 (k5 : Nat → Nat → Nat → Nat → Nat → fS → Option fR) (l0 : Nat) (l1 : Nat) (l2 : Nat) (l3 : Nat) (l4 : Nat) (l5 : Nat) (l6 : Nat) (T : fS) : Option fR := (fbv (fgr T l5 0 4) (fun v0 => F92_93 k5 l0 l1 l2 l3 l4 l5 l6 v0 T) ((none : Option fR)))
theorem G92_88 {z : Option mm_O} {T : fS} {r : fR} (k5 : Nat → Nat → Nat → Nat → Nat → fS → Option fR) (hk5 : ∀ (l0 : Nat) (xl1 : Int32) (l1 : Nat) (hl1 : xl1 = nI l1) (xl2 : Int32) (l2 : Nat) (hl2 : xl2 = nI l2) (xl3 : Int32) (l3 : Nat) (hl3 : xl3 = nI l3) (xl4 : Int32) (l4 : Nat) (hl4 : xl4 = nI l4) (ul5 : Value) (ul6 : Value) (T : fS) (r : fR), k5 l0 l1 l2 l3 l4 T = some r → mm_L 92 5 [.ref l0, .int xl1, .int xl2, .int xl3, .int xl4, ul5, ul6] [] (toS z T) = some (tR z r)) (l0 : Nat) (xl1 : Int32) (l1 : Nat) (hl1 : xl1 = nI l1) (xl2 : Int32) (l2 : Nat) (hl2 : xl2 = nI l2) (xl3 : Int32) (l3 : Nat) (hl3 : xl3 = nI l3) (xl4 : Int32) (l4 : Nat) (hl4 : xl4 = nI l4) (l5 : Nat) (xl6 : Int32) (l6 : Nat) (hl6 : xl6 = nI l6) (h : F92_88 k5 l0 l1 l2 l3 l4 l5 l6 T = some r) : mm_L 92 88 [.ref l0, .int xl1, .int xl2, .int xl3, .int xl4, .ref l5, .int xl6] [] (toS z T) = some (tR z r) := by
  unfold F92_88 at h
  refine Eq.trans (e92_88 ..) ?_
  exact (fb_v (fun _ q => fgr_ok q) h (fun v0 h2 => G92_93 k5 hk5 _ _ _ hl1 _ _ hl2 _ _ hl3 _ _ hl4 _ _ _ hl6 _ h2) (fun h2 => fr_n h2))
noncomputable def F92_82 (k5 : Nat → Nat → Nat → Nat → Nat → fS → Option fR) (l0 : Nat) (l1 : Nat) (l2 : Nat) (l3 : Nat) (l4 : Nat) (l5 : Nat) (l6 : Nat) (T : fS) : Option fR := (fbs (fsf T l5 0 5 (.inl 1)) (fun T1 => F92_88 k5 l0 l1 l2 l3 l4 l5 l6 T1))
theorem G92_82 {z : Option mm_O} {T : fS} {r : fR} (k5 : Nat → Nat → Nat → Nat → Nat → fS → Option fR) (hk5 : ∀ (l0 : Nat) (xl1 : Int32) (l1 : Nat) (hl1 : xl1 = nI l1) (xl2 : Int32) (l2 : Nat) (hl2 : xl2 = nI l2) (xl3 : Int32) (l3 : Nat) (hl3 : xl3 = nI l3) (xl4 : Int32) (l4 : Nat) (hl4 : xl4 = nI l4) (ul5 : Value) (ul6 : Value) (T : fS) (r : fR), k5 l0 l1 l2 l3 l4 T = some r → mm_L 92 5 [.ref l0, .int xl1, .int xl2, .int xl3, .int xl4, ul5, ul6] [] (toS z T) = some (tR z r)) (l0 : Nat) (xl1 : Int32) (l1 : Nat) (hl1 : xl1 = nI l1) (xl2 : Int32) (l2 : Nat) (hl2 : xl2 = nI l2) (xl3 : Int32) (l3 : Nat) (hl3 : xl3 = nI l3) (xl4 : Int32) (l4 : Nat) (hl4 : xl4 = nI l4) (l5 : Nat) (xl6 : Int32) (l6 : Nat) (hl6 : xl6 = nI l6) (h : F92_82 k5 l0 l1 l2 l3 l4 l5 l6 T = some r) : mm_L 92 82 [.ref l0, .int xl1, .int xl2, .int xl3, .int xl4, .ref l5, .int xl6] [] (toS z T) = some (tR z r) := by
  unfold F92_82 at h
  refine Eq.trans (e92_82 ..) ?_
  exact (fb_s (fun _ q => (fun q => by rw [(rfl : (1 : Int32) = nI 1)]; exact fsf_ok (v := .inl 1) q) q) h (fun T1 h2 => G92_88 k5 hk5 _ _ _ hl1 _ _ hl2 _ _ hl3 _ _ hl4 _ _ _ hl6 h2))
noncomputable def F92_79 (k5 : Nat → Nat → Nat → Nat → Nat → fS → Option fR) (l0 : Nat) (l1 : Nat) (l2 : Nat) (l3 : Nat) (l4 : Nat) (l5 : Nat) (l6 : Nat) (s0 : Nat) (T : fS) : Option fR := (fif (ieq s0 0) (F92_99 k5 l0 l1 l2 l3 l4 l5 l6 T) (F92_82 k5 l0 l1 l2 l3 l4 l5 l6 T))
theorem G92_79 {z : Option mm_O} {T : fS} {r : fR} (k5 : Nat → Nat → Nat → Nat → Nat → fS → Option fR) (hk5 : ∀ (l0 : Nat) (xl1 : Int32) (l1 : Nat) (hl1 : xl1 = nI l1) (xl2 : Int32) (l2 : Nat) (hl2 : xl2 = nI l2) (xl3 : Int32) (l3 : Nat) (hl3 : xl3 = nI l3) (xl4 : Int32) (l4 : Nat) (hl4 : xl4 = nI l4) (ul5 : Value) (ul6 : Value) (T : fS) (r : fR), k5 l0 l1 l2 l3 l4 T = some r → mm_L 92 5 [.ref l0, .int xl1, .int xl2, .int xl3, .int xl4, ul5, ul6] [] (toS z T) = some (tR z r)) (l0 : Nat) (xl1 : Int32) (l1 : Nat) (hl1 : xl1 = nI l1) (xl2 : Int32) (l2 : Nat) (hl2 : xl2 = nI l2) (xl3 : Int32) (l3 : Nat) (hl3 : xl3 = nI l3) (xl4 : Int32) (l4 : Nat) (hl4 : xl4 = nI l4) (l5 : Nat) (xl6 : Int32) (l6 : Nat) (hl6 : xl6 = nI l6) (xs0 : Int32) (s0 : Nat) (hs0 : xs0 = nI s0) (h : F92_79 k5 l0 l1 l2 l3 l4 l5 l6 s0 T = some r) : mm_L 92 79 [.ref l0, .int xl1, .int xl2, .int xl3, .int xl4, .ref l5, .int xl6] [.int xs0] (toS z T) = some (tR z r) := by
  unfold F92_79 at h
  refine Eq.trans (e92_79 ..) ?_
  exact (fb_if (cj_eq hs0 (rfl : (0 : Int32) = nI 0)) h (fun h1 => (G92_99 k5 hk5 _ _ _ hl1 _ _ hl2 _ _ hl3 _ _ hl4 _ _ _ hl6 h1)) (fun h1 => (G92_82 k5 hk5 _ _ _ hl1 _ _ hl2 _ _ hl3 _ _ hl4 _ _ _ hl6 h1)))
noncomputable def F92_74 (k5 : Nat → Nat → Nat → Nat → Nat → fS → Option fR) (l0 : Nat) (l1 : Nat) (l2 : Nat) (l3 : Nat) (l4 : Nat) (l5 : Nat) (l6 : Nat) (T : fS) : Option fR := (fKi true (fif (fch T l5 0) (F2_0 l5  T) none) (fun v0 T1 => F92_79 k5 l0 l1 l2 l3 l4 l5 l6 v0 T1))
theorem G92_74 {z : Option mm_O} {T : fS} {r : fR} (k5 : Nat → Nat → Nat → Nat → Nat → fS → Option fR) (hk5 : ∀ (l0 : Nat) (xl1 : Int32) (l1 : Nat) (hl1 : xl1 = nI l1) (xl2 : Int32) (l2 : Nat) (hl2 : xl2 = nI l2) (xl3 : Int32) (l3 : Nat) (hl3 : xl3 = nI l3) (xl4 : Int32) (l4 : Nat) (hl4 : xl4 = nI l4) (ul5 : Value) (ul6 : Value) (T : fS) (r : fR), k5 l0 l1 l2 l3 l4 T = some r → mm_L 92 5 [.ref l0, .int xl1, .int xl2, .int xl3, .int xl4, ul5, ul6] [] (toS z T) = some (tR z r)) (l0 : Nat) (xl1 : Int32) (l1 : Nat) (hl1 : xl1 = nI l1) (xl2 : Int32) (l2 : Nat) (hl2 : xl2 = nI l2) (xl3 : Int32) (l3 : Nat) (hl3 : xl3 = nI l3) (xl4 : Int32) (l4 : Nat) (hl4 : xl4 = nI l4) (l5 : Nat) (xl6 : Int32) (l6 : Nat) (hl6 : xl6 = nI l6) (h : F92_74 k5 l0 l1 l2 l3 l4 l5 l6 T = some r) : mm_L 92 74 [.ref l0, .int xl1, .int xl2, .int xl3, .int xl4, .ref l5, .int xl6] [] (toS z T) = some (tR z r) := by
  unfold F92_74 at h
  refine Eq.trans (e92_74 ..) ?_
  exact (fb_K0i (fun _ q => fb_mo (y := 2) ow_2 q (fun q => GM2 _  q)) h (fun v0 T1 h2 => G92_79 k5 hk5 _ _ _ hl1 _ _ hl2 _ _ hl3 _ _ hl4 _ _ _ hl6 _ _ rfl h2))
noncomputable def F92_69 (k5 : Nat → Nat → Nat → Nat → Nat → fS → Option fR) (l0 : Nat) (l1 : Nat) (l2 : Nat) (l3 : Nat) (l4 : Nat) (l5 : Nat) (l6 : Nat) (T : fS) : Option fR := (fif (ieq l6 0) (F92_74 k5 l0 l1 l2 l3 l4 l5 l6 T) (F92_82 k5 l0 l1 l2 l3 l4 l5 l6 T))
theorem G92_69 {z : Option mm_O} {T : fS} {r : fR} (k5 : Nat → Nat → Nat → Nat → Nat → fS → Option fR) (hk5 : ∀ (l0 : Nat) (xl1 : Int32) (l1 : Nat) (hl1 : xl1 = nI l1) (xl2 : Int32) (l2 : Nat) (hl2 : xl2 = nI l2) (xl3 : Int32) (l3 : Nat) (hl3 : xl3 = nI l3) (xl4 : Int32) (l4 : Nat) (hl4 : xl4 = nI l4) (ul5 : Value) (ul6 : Value) (T : fS) (r : fR), k5 l0 l1 l2 l3 l4 T = some r → mm_L 92 5 [.ref l0, .int xl1, .int xl2, .int xl3, .int xl4, ul5, ul6] [] (toS z T) = some (tR z r)) (l0 : Nat) (xl1 : Int32) (l1 : Nat) (hl1 : xl1 = nI l1) (xl2 : Int32) (l2 : Nat) (hl2 : xl2 = nI l2) (xl3 : Int32) (l3 : Nat) (hl3 : xl3 = nI l3) (xl4 : Int32) (l4 : Nat) (hl4 : xl4 = nI l4) (l5 : Nat) (xl6 : Int32) (l6 : Nat) (hl6 : xl6 = nI l6) (h : F92_69 k5 l0 l1 l2 l3 l4 l5 l6 T = some r) : mm_L 92 69 [.ref l0, .int xl1, .int xl2, .int xl3, .int xl4, .ref l5, .int xl6] [] (toS z T) = some (tR z r) := by
  unfold F92_69 at h
  refine Eq.trans (e92_69 ..) ?_
  exact (fb_if (cj_eq hl6 (rfl : (0 : Int32) = nI 0)) h (fun h1 => (G92_74 k5 hk5 _ _ _ hl1 _ _ hl2 _ _ hl3 _ _ hl4 _ _ _ hl6 h1)) (fun h1 => (G92_82 k5 hk5 _ _ _ hl1 _ _ hl2 _ _ hl3 _ _ hl4 _ _ _ hl6 h1)))
noncomputable def F92_66 (k5 : Nat → Nat → Nat → Nat → Nat → fS → Option fR) (l0 : Nat) (l1 : Nat) (l2 : Nat) (l3 : Nat) (l4 : Nat) (l5 : Nat) (l6 : Nat) (s0 : Nat) (T : fS) : Option fR := (fif (ieq s0 0) (F92_69 k5 l0 l1 l2 l3 l4 l5 l6 T) (F92_99 k5 l0 l1 l2 l3 l4 l5 l6 T))
theorem G92_66 {z : Option mm_O} {T : fS} {r : fR} (k5 : Nat → Nat → Nat → Nat → Nat → fS → Option fR) (hk5 : ∀ (l0 : Nat) (xl1 : Int32) (l1 : Nat) (hl1 : xl1 = nI l1) (xl2 : Int32) (l2 : Nat) (hl2 : xl2 = nI l2) (xl3 : Int32) (l3 : Nat) (hl3 : xl3 = nI l3) (xl4 : Int32) (l4 : Nat) (hl4 : xl4 = nI l4) (ul5 : Value) (ul6 : Value) (T : fS) (r : fR), k5 l0 l1 l2 l3 l4 T = some r → mm_L 92 5 [.ref l0, .int xl1, .int xl2, .int xl3, .int xl4, ul5, ul6] [] (toS z T) = some (tR z r)) (l0 : Nat) (xl1 : Int32) (l1 : Nat) (hl1 : xl1 = nI l1) (xl2 : Int32) (l2 : Nat) (hl2 : xl2 = nI l2) (xl3 : Int32) (l3 : Nat) (hl3 : xl3 = nI l3) (xl4 : Int32) (l4 : Nat) (hl4 : xl4 = nI l4) (l5 : Nat) (xl6 : Int32) (l6 : Nat) (hl6 : xl6 = nI l6) (xs0 : Int32) (s0 : Nat) (hs0 : xs0 = nI s0) (h : F92_66 k5 l0 l1 l2 l3 l4 l5 l6 s0 T = some r) : mm_L 92 66 [.ref l0, .int xl1, .int xl2, .int xl3, .int xl4, .ref l5, .int xl6] [.int xs0] (toS z T) = some (tR z r) := by
  unfold F92_66 at h
  refine Eq.trans (e92_66 ..) ?_
  exact (fb_if (cj_eq hs0 (rfl : (0 : Int32) = nI 0)) h (fun h1 => (G92_69 k5 hk5 _ _ _ hl1 _ _ hl2 _ _ hl3 _ _ hl4 _ _ _ hl6 h1)) (fun h1 => (G92_99 k5 hk5 _ _ _ hl1 _ _ hl2 _ _ hl3 _ _ hl4 _ _ _ hl6 h1)))
noncomputable def F92_59 (k5 : Nat → Nat → Nat → Nat → Nat → fS → Option fR) (l0 : Nat) (l1 : Nat) (l2 : Nat) (l3 : Nat) (l4 : Nat) (l5 : Nat) (s0 : Nat) (T : fS) : Option fR := (fbn (fgi T l5 0 5) (fun v0 => F92_66 k5 l0 l1 l2 l3 l4 l5 s0 v0 T))
theorem G92_59 {z : Option mm_O} {T : fS} {r : fR} (k5 : Nat → Nat → Nat → Nat → Nat → fS → Option fR) (hk5 : ∀ (l0 : Nat) (xl1 : Int32) (l1 : Nat) (hl1 : xl1 = nI l1) (xl2 : Int32) (l2 : Nat) (hl2 : xl2 = nI l2) (xl3 : Int32) (l3 : Nat) (hl3 : xl3 = nI l3) (xl4 : Int32) (l4 : Nat) (hl4 : xl4 = nI l4) (ul5 : Value) (ul6 : Value) (T : fS) (r : fR), k5 l0 l1 l2 l3 l4 T = some r → mm_L 92 5 [.ref l0, .int xl1, .int xl2, .int xl3, .int xl4, ul5, ul6] [] (toS z T) = some (tR z r)) (l0 : Nat) (xl1 : Int32) (l1 : Nat) (hl1 : xl1 = nI l1) (xl2 : Int32) (l2 : Nat) (hl2 : xl2 = nI l2) (xl3 : Int32) (l3 : Nat) (hl3 : xl3 = nI l3) (xl4 : Int32) (l4 : Nat) (hl4 : xl4 = nI l4) (l5 : Nat) (ul6 : Value) (xs0 : Int32) (s0 : Nat) (hs0 : xs0 = nI s0) (h : F92_59 k5 l0 l1 l2 l3 l4 l5 s0 T = some r) : mm_L 92 59 [.ref l0, .int xl1, .int xl2, .int xl3, .int xl4, .ref l5, ul6] [.int xs0] (toS z T) = some (tR z r) := by
  unfold F92_59 at h
  refine Eq.trans (e92_59 ..) ?_
  exact (fb_n (fun _ q => fgi_ok q) h (fun v0 h2 => G92_66 k5 hk5 _ _ _ hl1 _ _ hl2 _ _ hl3 _ _ hl4 _ _ _ hs0 _ _ rfl h2))
noncomputable def F92_54 (k5 : Nat → Nat → Nat → Nat → Nat → fS → Option fR) (l0 : Nat) (l1 : Nat) (l2 : Nat) (l3 : Nat) (l4 : Nat) (l5 : Nat) (T : fS) : Option fR := (F92_59 k5 l0 l1 l2 l3 l4 l5 1 T)
theorem G92_54 {z : Option mm_O} {T : fS} {r : fR} (k5 : Nat → Nat → Nat → Nat → Nat → fS → Option fR) (hk5 : ∀ (l0 : Nat) (xl1 : Int32) (l1 : Nat) (hl1 : xl1 = nI l1) (xl2 : Int32) (l2 : Nat) (hl2 : xl2 = nI l2) (xl3 : Int32) (l3 : Nat) (hl3 : xl3 = nI l3) (xl4 : Int32) (l4 : Nat) (hl4 : xl4 = nI l4) (ul5 : Value) (ul6 : Value) (T : fS) (r : fR), k5 l0 l1 l2 l3 l4 T = some r → mm_L 92 5 [.ref l0, .int xl1, .int xl2, .int xl3, .int xl4, ul5, ul6] [] (toS z T) = some (tR z r)) (l0 : Nat) (xl1 : Int32) (l1 : Nat) (hl1 : xl1 = nI l1) (xl2 : Int32) (l2 : Nat) (hl2 : xl2 = nI l2) (xl3 : Int32) (l3 : Nat) (hl3 : xl3 = nI l3) (xl4 : Int32) (l4 : Nat) (hl4 : xl4 = nI l4) (l5 : Nat) (ul6 : Value) (h : F92_54 k5 l0 l1 l2 l3 l4 l5 T = some r) : mm_L 92 54 [.ref l0, .int xl1, .int xl2, .int xl3, .int xl4, .ref l5, ul6] [] (toS z T) = some (tR z r) := by
  unfold F92_54 at h
  refine Eq.trans (e92_54 ..) ?_
  exact (G92_59 k5 hk5 _ _ _ hl1 _ _ hl2 _ _ hl3 _ _ hl4 _ _ _ _ (rfl : (1 : Int32) = nI 1) h)
noncomputable def F92_58 (k5 : Nat → Nat → Nat → Nat → Nat → fS → Option fR) (l0 : Nat) (l1 : Nat) (l2 : Nat) (l3 : Nat) (l4 : Nat) (l5 : Nat) (T : fS) : Option fR := (F92_59 k5 l0 l1 l2 l3 l4 l5 0 T)
theorem G92_58 {z : Option mm_O} {T : fS} {r : fR} (k5 : Nat → Nat → Nat → Nat → Nat → fS → Option fR) (hk5 : ∀ (l0 : Nat) (xl1 : Int32) (l1 : Nat) (hl1 : xl1 = nI l1) (xl2 : Int32) (l2 : Nat) (hl2 : xl2 = nI l2) (xl3 : Int32) (l3 : Nat) (hl3 : xl3 = nI l3) (xl4 : Int32) (l4 : Nat) (hl4 : xl4 = nI l4) (ul5 : Value) (ul6 : Value) (T : fS) (r : fR), k5 l0 l1 l2 l3 l4 T = some r → mm_L 92 5 [.ref l0, .int xl1, .int xl2, .int xl3, .int xl4, ul5, ul6] [] (toS z T) = some (tR z r)) (l0 : Nat) (xl1 : Int32) (l1 : Nat) (hl1 : xl1 = nI l1) (xl2 : Int32) (l2 : Nat) (hl2 : xl2 = nI l2) (xl3 : Int32) (l3 : Nat) (hl3 : xl3 = nI l3) (xl4 : Int32) (l4 : Nat) (hl4 : xl4 = nI l4) (l5 : Nat) (ul6 : Value) (h : F92_58 k5 l0 l1 l2 l3 l4 l5 T = some r) : mm_L 92 58 [.ref l0, .int xl1, .int xl2, .int xl3, .int xl4, .ref l5, ul6] [] (toS z T) = some (tR z r) := by
  unfold F92_58 at h
  refine Eq.trans (e92_58 ..) ?_
  exact (G92_59 k5 hk5 _ _ _ hl1 _ _ hl2 _ _ hl3 _ _ hl4 _ _ _ _ (rfl : (0 : Int32) = nI 0) h)
noncomputable def F92_50 (k5 : Nat → Nat → Nat → Nat → Nat → fS → Option fR) (l0 : Nat) (l1 : Nat) (l2 : Nat) (l3 : Nat) (l4 : Nat) (l5 : Nat) (s0 : Nat) (T : fS) : Option fR := (fif (ieq s0 l2) (F92_54 k5 l0 l1 l2 l3 l4 l5 T) (F92_58 k5 l0 l1 l2 l3 l4 l5 T))
theorem G92_50 {z : Option mm_O} {T : fS} {r : fR} (k5 : Nat → Nat → Nat → Nat → Nat → fS → Option fR) (hk5 : ∀ (l0 : Nat) (xl1 : Int32) (l1 : Nat) (hl1 : xl1 = nI l1) (xl2 : Int32) (l2 : Nat) (hl2 : xl2 = nI l2) (xl3 : Int32) (l3 : Nat) (hl3 : xl3 = nI l3) (xl4 : Int32) (l4 : Nat) (hl4 : xl4 = nI l4) (ul5 : Value) (ul6 : Value) (T : fS) (r : fR), k5 l0 l1 l2 l3 l4 T = some r → mm_L 92 5 [.ref l0, .int xl1, .int xl2, .int xl3, .int xl4, ul5, ul6] [] (toS z T) = some (tR z r)) (l0 : Nat) (xl1 : Int32) (l1 : Nat) (hl1 : xl1 = nI l1) (xl2 : Int32) (l2 : Nat) (hl2 : xl2 = nI l2) (xl3 : Int32) (l3 : Nat) (hl3 : xl3 = nI l3) (xl4 : Int32) (l4 : Nat) (hl4 : xl4 = nI l4) (l5 : Nat) (ul6 : Value) (xs0 : Int32) (s0 : Nat) (hs0 : xs0 = nI s0) (h : F92_50 k5 l0 l1 l2 l3 l4 l5 s0 T = some r) : mm_L 92 50 [.ref l0, .int xl1, .int xl2, .int xl3, .int xl4, .ref l5, ul6] [.int xs0] (toS z T) = some (tR z r) := by
  unfold F92_50 at h
  refine Eq.trans (e92_50 ..) ?_
  exact (fb_if (cj_eq hs0 hl2) h (fun h1 => (G92_54 k5 hk5 _ _ _ hl1 _ _ hl2 _ _ hl3 _ _ hl4 _ _ h1)) (fun h1 => (G92_58 k5 hk5 _ _ _ hl1 _ _ hl2 _ _ hl3 _ _ hl4 _ _ h1)))
noncomputable def F92_45 (k5 : Nat → Nat → Nat → Nat → Nat → fS → Option fR) (l0 : Nat) (l1 : Nat) (l2 : Nat) (l3 : Nat) (l4 : Nat) (l5 : Nat) (T : fS) : Option fR := (fbn (fgi T l5 0 1) (fun v0 => F92_50 k5 l0 l1 l2 l3 l4 l5 v0 T))
theorem G92_45 {z : Option mm_O} {T : fS} {r : fR} (k5 : Nat → Nat → Nat → Nat → Nat → fS → Option fR) (hk5 : ∀ (l0 : Nat) (xl1 : Int32) (l1 : Nat) (hl1 : xl1 = nI l1) (xl2 : Int32) (l2 : Nat) (hl2 : xl2 = nI l2) (xl3 : Int32) (l3 : Nat) (hl3 : xl3 = nI l3) (xl4 : Int32) (l4 : Nat) (hl4 : xl4 = nI l4) (ul5 : Value) (ul6 : Value) (T : fS) (r : fR), k5 l0 l1 l2 l3 l4 T = some r → mm_L 92 5 [.ref l0, .int xl1, .int xl2, .int xl3, .int xl4, ul5, ul6] [] (toS z T) = some (tR z r)) (l0 : Nat) (xl1 : Int32) (l1 : Nat) (hl1 : xl1 = nI l1) (xl2 : Int32) (l2 : Nat) (hl2 : xl2 = nI l2) (xl3 : Int32) (l3 : Nat) (hl3 : xl3 = nI l3) (xl4 : Int32) (l4 : Nat) (hl4 : xl4 = nI l4) (l5 : Nat) (ul6 : Value) (h : F92_45 k5 l0 l1 l2 l3 l4 l5 T = some r) : mm_L 92 45 [.ref l0, .int xl1, .int xl2, .int xl3, .int xl4, .ref l5, ul6] [] (toS z T) = some (tR z r) := by
  unfold F92_45 at h
  refine Eq.trans (e92_45 ..) ?_
  exact (fb_n (fun _ q => fgi_ok q) h (fun v0 h2 => G92_50 k5 hk5 _ _ _ hl1 _ _ hl2 _ _ hl3 _ _ hl4 _ _ _ _ rfl h2))
noncomputable def F92_40 (k5 : Nat → Nat → Nat → Nat → Nat → fS → Option fR) (l0 : Nat) (l1 : Nat) (l2 : Nat) (l3 : Nat) (l4 : Nat) (l5 : Nat) (T : fS) : Option fR := (fif (ieq l2 4294967295) (F92_54 k5 l0 l1 l2 l3 l4 l5 T) (F92_45 k5 l0 l1 l2 l3 l4 l5 T))
theorem G92_40 {z : Option mm_O} {T : fS} {r : fR} (k5 : Nat → Nat → Nat → Nat → Nat → fS → Option fR) (hk5 : ∀ (l0 : Nat) (xl1 : Int32) (l1 : Nat) (hl1 : xl1 = nI l1) (xl2 : Int32) (l2 : Nat) (hl2 : xl2 = nI l2) (xl3 : Int32) (l3 : Nat) (hl3 : xl3 = nI l3) (xl4 : Int32) (l4 : Nat) (hl4 : xl4 = nI l4) (ul5 : Value) (ul6 : Value) (T : fS) (r : fR), k5 l0 l1 l2 l3 l4 T = some r → mm_L 92 5 [.ref l0, .int xl1, .int xl2, .int xl3, .int xl4, ul5, ul6] [] (toS z T) = some (tR z r)) (l0 : Nat) (xl1 : Int32) (l1 : Nat) (hl1 : xl1 = nI l1) (xl2 : Int32) (l2 : Nat) (hl2 : xl2 = nI l2) (xl3 : Int32) (l3 : Nat) (hl3 : xl3 = nI l3) (xl4 : Int32) (l4 : Nat) (hl4 : xl4 = nI l4) (l5 : Nat) (ul6 : Value) (h : F92_40 k5 l0 l1 l2 l3 l4 l5 T = some r) : mm_L 92 40 [.ref l0, .int xl1, .int xl2, .int xl3, .int xl4, .ref l5, ul6] [] (toS z T) = some (tR z r) := by
  unfold F92_40 at h
  refine Eq.trans (e92_40 ..) ?_
  exact (fb_if (cj_eq hl2 (by decide : (-1 : Int32) = nI 4294967295)) h (fun h1 => (G92_54 k5 hk5 _ _ _ hl1 _ _ hl2 _ _ hl3 _ _ hl4 _ _ h1)) (fun h1 => (G92_45 k5 hk5 _ _ _ hl1 _ _ hl2 _ _ hl3 _ _ hl4 _ _ h1)))
noncomputable def F92_37 (k5 : Nat → Nat → Nat → Nat → Nat → fS → Option fR) (l0 : Nat) (l1 : Nat) (l2 : Nat) (l3 : Nat) (l4 : Nat) (l5 : Nat) (s0 : Nat) (T : fS) : Option fR := (fif (ieq s0 0) (F92_58 k5 l0 l1 l2 l3 l4 l5 T) (F92_40 k5 l0 l1 l2 l3 l4 l5 T))
theorem G92_37 {z : Option mm_O} {T : fS} {r : fR} (k5 : Nat → Nat → Nat → Nat → Nat → fS → Option fR) (hk5 : ∀ (l0 : Nat) (xl1 : Int32) (l1 : Nat) (hl1 : xl1 = nI l1) (xl2 : Int32) (l2 : Nat) (hl2 : xl2 = nI l2) (xl3 : Int32) (l3 : Nat) (hl3 : xl3 = nI l3) (xl4 : Int32) (l4 : Nat) (hl4 : xl4 = nI l4) (ul5 : Value) (ul6 : Value) (T : fS) (r : fR), k5 l0 l1 l2 l3 l4 T = some r → mm_L 92 5 [.ref l0, .int xl1, .int xl2, .int xl3, .int xl4, ul5, ul6] [] (toS z T) = some (tR z r)) (l0 : Nat) (xl1 : Int32) (l1 : Nat) (hl1 : xl1 = nI l1) (xl2 : Int32) (l2 : Nat) (hl2 : xl2 = nI l2) (xl3 : Int32) (l3 : Nat) (hl3 : xl3 = nI l3) (xl4 : Int32) (l4 : Nat) (hl4 : xl4 = nI l4) (l5 : Nat) (ul6 : Value) (xs0 : Int32) (s0 : Nat) (hs0 : xs0 = nI s0) (h : F92_37 k5 l0 l1 l2 l3 l4 l5 s0 T = some r) : mm_L 92 37 [.ref l0, .int xl1, .int xl2, .int xl3, .int xl4, .ref l5, ul6] [.int xs0] (toS z T) = some (tR z r) := by
  unfold F92_37 at h
  refine Eq.trans (e92_37 ..) ?_
  exact (fb_if (cj_eq hs0 (rfl : (0 : Int32) = nI 0)) h (fun h1 => (G92_58 k5 hk5 _ _ _ hl1 _ _ hl2 _ _ hl3 _ _ hl4 _ _ h1)) (fun h1 => (G92_40 k5 hk5 _ _ _ hl1 _ _ hl2 _ _ hl3 _ _ hl4 _ _ h1)))
noncomputable def F92_29 (k5 : Nat → Nat → Nat → Nat → Nat → fS → Option fR) (l0 : Nat) (l1 : Nat) (l2 : Nat) (l3 : Nat) (l4 : Nat) (s0 : Nat) (T : fS) : Option fR := (fKi true (fif (fch T s0 0) (F1_0 s0 l1 T) none) (fun v0 T1 => F92_37 k5 l0 l1 l2 l3 l4 s0 v0 T1))
theorem G92_29 {z : Option mm_O} {T : fS} {r : fR} (k5 : Nat → Nat → Nat → Nat → Nat → fS → Option fR) (hk5 : ∀ (l0 : Nat) (xl1 : Int32) (l1 : Nat) (hl1 : xl1 = nI l1) (xl2 : Int32) (l2 : Nat) (hl2 : xl2 = nI l2) (xl3 : Int32) (l3 : Nat) (hl3 : xl3 = nI l3) (xl4 : Int32) (l4 : Nat) (hl4 : xl4 = nI l4) (ul5 : Value) (ul6 : Value) (T : fS) (r : fR), k5 l0 l1 l2 l3 l4 T = some r → mm_L 92 5 [.ref l0, .int xl1, .int xl2, .int xl3, .int xl4, ul5, ul6] [] (toS z T) = some (tR z r)) (l0 : Nat) (xl1 : Int32) (l1 : Nat) (hl1 : xl1 = nI l1) (xl2 : Int32) (l2 : Nat) (hl2 : xl2 = nI l2) (xl3 : Int32) (l3 : Nat) (hl3 : xl3 = nI l3) (xl4 : Int32) (l4 : Nat) (hl4 : xl4 = nI l4) (ul5 : Value) (ul6 : Value) (s0 : Nat) (h : F92_29 k5 l0 l1 l2 l3 l4 s0 T = some r) : mm_L 92 29 [.ref l0, .int xl1, .int xl2, .int xl3, .int xl4, ul5, ul6] [.ref s0] (toS z T) = some (tR z r) := by
  unfold F92_29 at h
  refine Eq.trans (e92_29 ..) ?_
  exact (fb_K0i (fun _ q => fb_mo (y := 1) ow_1 q (fun q => GM1 _ _ _ hl1 q)) h (fun v0 T1 h2 => G92_37 k5 hk5 _ _ _ hl1 _ _ hl2 _ _ hl3 _ _ hl4 _ _ _ _ rfl h2))
noncomputable def F92_26 (k5 : Nat → Nat → Nat → Nat → Nat → fS → Option fR) (l0 : Nat) (l1 : Nat) (l2 : Nat) (l3 : Nat) (l4 : Nat) (s0 : Nat) (T : fS) : Option fR := (fif (fch T s0 0) (F92_29 k5 l0 l1 l2 l3 l4 s0 T) none)
theorem G92_26 {z : Option mm_O} {T : fS} {r : fR} (k5 : Nat → Nat → Nat → Nat → Nat → fS → Option fR) (hk5 : ∀ (l0 : Nat) (xl1 : Int32) (l1 : Nat) (hl1 : xl1 = nI l1) (xl2 : Int32) (l2 : Nat) (hl2 : xl2 = nI l2) (xl3 : Int32) (l3 : Nat) (hl3 : xl3 = nI l3) (xl4 : Int32) (l4 : Nat) (hl4 : xl4 = nI l4) (ul5 : Value) (ul6 : Value) (T : fS) (r : fR), k5 l0 l1 l2 l3 l4 T = some r → mm_L 92 5 [.ref l0, .int xl1, .int xl2, .int xl3, .int xl4, ul5, ul6] [] (toS z T) = some (tR z r)) (l0 : Nat) (xl1 : Int32) (l1 : Nat) (hl1 : xl1 = nI l1) (xl2 : Int32) (l2 : Nat) (hl2 : xl2 = nI l2) (xl3 : Int32) (l3 : Nat) (hl3 : xl3 = nI l3) (xl4 : Int32) (l4 : Nat) (hl4 : xl4 = nI l4) (ul5 : Value) (ul6 : Value) (s0 : Nat) (h : F92_26 k5 l0 l1 l2 l3 l4 s0 T = some r) : mm_L 92 26 [.ref l0, .int xl1, .int xl2, .int xl3, .int xl4, ul5, ul6] [.ref s0] (toS z T) = some (tR z r) := by
  unfold F92_26 at h
  refine Eq.trans (e92_26 ..) ?_
  exact (fb_c h (fun h2 => G92_29 k5 hk5 _ _ _ hl1 _ _ hl2 _ _ hl3 _ _ hl4 _ _ _ h2))
noncomputable def F92_21 (k5 : Nat → Nat → Nat → Nat → Nat → fS → Option fR) (l0 : Nat) (l1 : Nat) (l2 : Nat) (l3 : Nat) (l4 : Nat) (s0 : Nat) (T : fS) : Option fR := (fbn (flg T s0 l4) (fun v0 => F92_26 k5 l0 l1 l2 l3 l4 v0 T))
theorem G92_21 {z : Option mm_O} {T : fS} {r : fR} (k5 : Nat → Nat → Nat → Nat → Nat → fS → Option fR) (hk5 : ∀ (l0 : Nat) (xl1 : Int32) (l1 : Nat) (hl1 : xl1 = nI l1) (xl2 : Int32) (l2 : Nat) (hl2 : xl2 = nI l2) (xl3 : Int32) (l3 : Nat) (hl3 : xl3 = nI l3) (xl4 : Int32) (l4 : Nat) (hl4 : xl4 = nI l4) (ul5 : Value) (ul6 : Value) (T : fS) (r : fR), k5 l0 l1 l2 l3 l4 T = some r → mm_L 92 5 [.ref l0, .int xl1, .int xl2, .int xl3, .int xl4, ul5, ul6] [] (toS z T) = some (tR z r)) (l0 : Nat) (xl1 : Int32) (l1 : Nat) (hl1 : xl1 = nI l1) (xl2 : Int32) (l2 : Nat) (hl2 : xl2 = nI l2) (xl3 : Int32) (l3 : Nat) (hl3 : xl3 = nI l3) (xl4 : Int32) (l4 : Nat) (hl4 : xl4 = nI l4) (ul5 : Value) (ul6 : Value) (s0 : Nat) (h : F92_21 k5 l0 l1 l2 l3 l4 s0 T = some r) : mm_L 92 21 [.ref l0, .int xl1, .int xl2, .int xl3, .int xl4, ul5, ul6] [.ref s0] (toS z T) = some (tR z r) := by
  unfold F92_21 at h
  refine Eq.trans (e92_21 ..) ?_
  exact (fb_g (fun _ q => by rw [hl4]; exact flg_ok q) h (fun v0 h2 => G92_26 k5 hk5 _ _ _ hl1 _ _ hl2 _ _ hl3 _ _ hl4 _ _ _ h2))
noncomputable def F92_17 (k5 : Nat → Nat → Nat → Nat → Nat → fS → Option fR) (l0 : Nat) (l1 : Nat) (l2 : Nat) (l3 : Nat) (l4 : Nat) (T : fS) : Option fR := (fbv (fgr T l0 6 4) (fun v0 => F92_21 k5 l0 l1 l2 l3 l4 v0 T) ((none : Option fR)))
theorem G92_17 {z : Option mm_O} {T : fS} {r : fR} (k5 : Nat → Nat → Nat → Nat → Nat → fS → Option fR) (hk5 : ∀ (l0 : Nat) (xl1 : Int32) (l1 : Nat) (hl1 : xl1 = nI l1) (xl2 : Int32) (l2 : Nat) (hl2 : xl2 = nI l2) (xl3 : Int32) (l3 : Nat) (hl3 : xl3 = nI l3) (xl4 : Int32) (l4 : Nat) (hl4 : xl4 = nI l4) (ul5 : Value) (ul6 : Value) (T : fS) (r : fR), k5 l0 l1 l2 l3 l4 T = some r → mm_L 92 5 [.ref l0, .int xl1, .int xl2, .int xl3, .int xl4, ul5, ul6] [] (toS z T) = some (tR z r)) (l0 : Nat) (xl1 : Int32) (l1 : Nat) (hl1 : xl1 = nI l1) (xl2 : Int32) (l2 : Nat) (hl2 : xl2 = nI l2) (xl3 : Int32) (l3 : Nat) (hl3 : xl3 = nI l3) (xl4 : Int32) (l4 : Nat) (hl4 : xl4 = nI l4) (ul5 : Value) (ul6 : Value) (h : F92_17 k5 l0 l1 l2 l3 l4 T = some r) : mm_L 92 17 [.ref l0, .int xl1, .int xl2, .int xl3, .int xl4, ul5, ul6] [] (toS z T) = some (tR z r) := by
  unfold F92_17 at h
  refine Eq.trans (e92_17 ..) ?_
  exact (fb_v (fun _ q => fgr_ok q) h (fun v0 h2 => G92_21 k5 hk5 _ _ _ hl1 _ _ hl2 _ _ hl3 _ _ hl4 _ _ _ h2) (fun h2 => fr_n h2))
noncomputable def F92_105  (l0 : Nat) (l1 : Nat) (l2 : Nat) (l3 : Nat) (l4 : Nat) (T : fS) : Option fR := (some ((.inl (some (.inl l3)), T) : fR))
theorem G92_105 {z : Option mm_O} {T : fS} {r : fR}  (l0 : Nat) (xl1 : Int32) (l1 : Nat) (hl1 : xl1 = nI l1) (xl2 : Int32) (l2 : Nat) (hl2 : xl2 = nI l2) (xl3 : Int32) (l3 : Nat) (hl3 : xl3 = nI l3) (xl4 : Int32) (l4 : Nat) (hl4 : xl4 = nI l4) (ul5 : Value) (ul6 : Value) (h : F92_105  l0 l1 l2 l3 l4 T = some r) : mm_L 92 105 [.ref l0, .int xl1, .int xl2, .int xl3, .int xl4, ul5, ul6] [] (toS z T) = some (tR z r) := by
  unfold F92_105 at h
  refine Eq.trans (e92_105 ..) ?_
  exact (fr_i hl3 h)
noncomputable def F92_14 (k5 : Nat → Nat → Nat → Nat → Nat → fS → Option fR) (l0 : Nat) (l1 : Nat) (l2 : Nat) (l3 : Nat) (l4 : Nat) (s0 : Nat) (s1 : Nat) (T : fS) : Option fR := (fif (ile s0 s1) (F92_105  l0 l1 l2 l3 l4 T) (F92_17 k5 l0 l1 l2 l3 l4 T))
theorem G92_14 {z : Option mm_O} {T : fS} {r : fR} (k5 : Nat → Nat → Nat → Nat → Nat → fS → Option fR) (hk5 : ∀ (l0 : Nat) (xl1 : Int32) (l1 : Nat) (hl1 : xl1 = nI l1) (xl2 : Int32) (l2 : Nat) (hl2 : xl2 = nI l2) (xl3 : Int32) (l3 : Nat) (hl3 : xl3 = nI l3) (xl4 : Int32) (l4 : Nat) (hl4 : xl4 = nI l4) (ul5 : Value) (ul6 : Value) (T : fS) (r : fR), k5 l0 l1 l2 l3 l4 T = some r → mm_L 92 5 [.ref l0, .int xl1, .int xl2, .int xl3, .int xl4, ul5, ul6] [] (toS z T) = some (tR z r)) (l0 : Nat) (xl1 : Int32) (l1 : Nat) (hl1 : xl1 = nI l1) (xl2 : Int32) (l2 : Nat) (hl2 : xl2 = nI l2) (xl3 : Int32) (l3 : Nat) (hl3 : xl3 = nI l3) (xl4 : Int32) (l4 : Nat) (hl4 : xl4 = nI l4) (ul5 : Value) (ul6 : Value) (xs0 : Int32) (s0 : Nat) (hs0 : xs0 = nI s0) (xs1 : Int32) (s1 : Nat) (hs1 : xs1 = nI s1) (h : F92_14 k5 l0 l1 l2 l3 l4 s0 s1 T = some r) : mm_L 92 14 [.ref l0, .int xl1, .int xl2, .int xl3, .int xl4, ul5, ul6] [.int xs0, .int xs1] (toS z T) = some (tR z r) := by
  unfold F92_14 at h
  refine Eq.trans (e92_14 ..) ?_
  exact (fb_if (cj_le hs0 hs1) h (fun h1 => (G92_105  _ _ _ hl1 _ _ hl2 _ _ hl3 _ _ hl4 _ _ h1)) (fun h1 => (G92_17 k5 hk5 _ _ _ hl1 _ _ hl2 _ _ hl3 _ _ hl4 _ _ h1)))
noncomputable def F92_11 (k5 : Nat → Nat → Nat → Nat → Nat → fS → Option fR) (l0 : Nat) (l1 : Nat) (l2 : Nat) (l3 : Nat) (l4 : Nat) (s0 : Nat) (s1 : Nat) (T : fS) : Option fR := (fbn (flz T s0) (fun v0 => F92_14 k5 l0 l1 l2 l3 l4 v0 s1 T))
theorem G92_11 {z : Option mm_O} {T : fS} {r : fR} (k5 : Nat → Nat → Nat → Nat → Nat → fS → Option fR) (hk5 : ∀ (l0 : Nat) (xl1 : Int32) (l1 : Nat) (hl1 : xl1 = nI l1) (xl2 : Int32) (l2 : Nat) (hl2 : xl2 = nI l2) (xl3 : Int32) (l3 : Nat) (hl3 : xl3 = nI l3) (xl4 : Int32) (l4 : Nat) (hl4 : xl4 = nI l4) (ul5 : Value) (ul6 : Value) (T : fS) (r : fR), k5 l0 l1 l2 l3 l4 T = some r → mm_L 92 5 [.ref l0, .int xl1, .int xl2, .int xl3, .int xl4, ul5, ul6] [] (toS z T) = some (tR z r)) (l0 : Nat) (xl1 : Int32) (l1 : Nat) (hl1 : xl1 = nI l1) (xl2 : Int32) (l2 : Nat) (hl2 : xl2 = nI l2) (xl3 : Int32) (l3 : Nat) (hl3 : xl3 = nI l3) (xl4 : Int32) (l4 : Nat) (hl4 : xl4 = nI l4) (ul5 : Value) (ul6 : Value) (s0 : Nat) (xs1 : Int32) (s1 : Nat) (hs1 : xs1 = nI s1) (h : F92_11 k5 l0 l1 l2 l3 l4 s0 s1 T = some r) : mm_L 92 11 [.ref l0, .int xl1, .int xl2, .int xl3, .int xl4, ul5, ul6] [.ref s0, .int xs1] (toS z T) = some (tR z r) := by
  unfold F92_11 at h
  refine Eq.trans (e92_11 ..) ?_
  exact (fb_n (fun _ q => flz_ok q) h (fun v0 h2 => G92_14 k5 hk5 _ _ _ hl1 _ _ hl2 _ _ hl3 _ _ hl4 _ _ _ _ rfl _ _ hs1 h2))
noncomputable def F92_5 (k5 : Nat → Nat → Nat → Nat → Nat → fS → Option fR) (l0 : Nat) (l1 : Nat) (l2 : Nat) (l3 : Nat) (l4 : Nat) (T : fS) : Option fR := (fbv (fgr T l0 6 4) (fun v0 => F92_11 k5 l0 l1 l2 l3 l4 v0 l4 T) ((none : Option fR)))
theorem G92_5 {z : Option mm_O} {T : fS} {r : fR} (k5 : Nat → Nat → Nat → Nat → Nat → fS → Option fR) (hk5 : ∀ (l0 : Nat) (xl1 : Int32) (l1 : Nat) (hl1 : xl1 = nI l1) (xl2 : Int32) (l2 : Nat) (hl2 : xl2 = nI l2) (xl3 : Int32) (l3 : Nat) (hl3 : xl3 = nI l3) (xl4 : Int32) (l4 : Nat) (hl4 : xl4 = nI l4) (ul5 : Value) (ul6 : Value) (T : fS) (r : fR), k5 l0 l1 l2 l3 l4 T = some r → mm_L 92 5 [.ref l0, .int xl1, .int xl2, .int xl3, .int xl4, ul5, ul6] [] (toS z T) = some (tR z r)) (l0 : Nat) (xl1 : Int32) (l1 : Nat) (hl1 : xl1 = nI l1) (xl2 : Int32) (l2 : Nat) (hl2 : xl2 = nI l2) (xl3 : Int32) (l3 : Nat) (hl3 : xl3 = nI l3) (xl4 : Int32) (l4 : Nat) (hl4 : xl4 = nI l4) (ul5 : Value) (ul6 : Value) (h : F92_5 k5 l0 l1 l2 l3 l4 T = some r) : mm_L 92 5 [.ref l0, .int xl1, .int xl2, .int xl3, .int xl4, ul5, ul6] [] (toS z T) = some (tR z r) := by
  unfold F92_5 at h
  refine Eq.trans (e92_5 ..) ?_
  exact (fb_v (fun _ q => fgr_ok q) h (fun v0 h2 => G92_11 k5 hk5 _ _ _ hl1 _ _ hl2 _ _ hl3 _ _ hl4 _ _ _ _ _ hl4 h2) (fun h2 => fr_n h2))
noncomputable def H92_5  (n : Nat) : Nat → Nat → Nat → Nat → Nat → fS → Option fR := Nat.rec (motive := fun _ => Nat → Nat → Nat → Nat → Nat → fS → Option fR) (fun _ _ _ _ _ _ => none) (fun _ ih => F92_5 ih) n
theorem HG92_5 {z : Option mm_O}  : ∀ (n : Nat) (l0 : Nat) (xl1 : Int32) (l1 : Nat) (hl1 : xl1 = nI l1) (xl2 : Int32) (l2 : Nat) (hl2 : xl2 = nI l2) (xl3 : Int32) (l3 : Nat) (hl3 : xl3 = nI l3) (xl4 : Int32) (l4 : Nat) (hl4 : xl4 = nI l4) (ul5 : Value) (ul6 : Value) {T : fS} {r : fR}, H92_5  n l0 l1 l2 l3 l4 T = some r → mm_L 92 5 [.ref l0, .int xl1, .int xl2, .int xl3, .int xl4, ul5, ul6] [] (toS z T) = some (tR z r) := by
  intro n
  induction n with
  | zero =>
    intro l0 xl1 l1 hl1 xl2 l2 hl2 xl3 l3 hl3 xl4 l4 hl4 ul5 ul6 T r h
    exact fr_n h
  | succ n ih =>
    intro l0 xl1 l1 hl1 xl2 l2 hl2 xl3 l3 hl3 xl4 l4 hl4 ul5 ul6 T r h
    exact G92_5 (H92_5  n) (fun l0 xl1 l1 hl1 xl2 l2 hl2 xl3 l3 hl3 xl4 l4 hl4 ul5 ul6 T r h => ih l0 xl1 l1 hl1 xl2 l2 hl2 xl3 l3 hl3 xl4 l4 hl4 ul5 ul6 h) l0 xl1 l1 hl1 xl2 l2 hl2 xl3 l3 hl3 xl4 l4 hl4 ul5 ul6 h
noncomputable def F92_0  (l0 : Nat) (l1 : Nat) (l2 : Nat) (T : fS) : Option fR := (H92_5  300 l0 l1 l2 0 0 T)
theorem G92_0 {z : Option mm_O} {T : fS} {r : fR}  (l0 : Nat) (xl1 : Int32) (l1 : Nat) (hl1 : xl1 = nI l1) (xl2 : Int32) (l2 : Nat) (hl2 : xl2 = nI l2) (ul3 : Value) (ul4 : Value) (ul5 : Value) (ul6 : Value) (h : F92_0  l0 l1 l2 T = some r) : mm_L 92 0 [.ref l0, .int xl1, .int xl2, ul3, ul4, ul5, ul6] [] (toS z T) = some (tR z r) := by
  unfold F92_0 at h
  refine Eq.trans (e92_0 ..) ?_
  exact (HG92_5  300 _ _ _ hl1 _ _ hl2 _ _ (rfl : (0 : Int32) = nI 0) _ _ (rfl : (0 : Int32) = nI 0) _ _ h)
theorem GM92 {z : Option mm_O} {T : fS} {r : fR} (l0 : Nat) (xl1 : Int32) (l1 : Nat) (hl1 : xl1 = nI l1) (xl2 : Int32) (l2 : Nat) (hl2 : xl2 = nI l2) (h : F92_0 l0 l1 l2 T = some r) : mm_M 92 [.ref l0, .int xl1, .int xl2] (toS z T) = some (tR z r) := Eq.trans (M_92 ..) (G92_0 l0 xl1 l1 hl1 xl2 l2 hl2 _ _ _ _ h)
-- 95: HandArchive.countMarksShared
noncomputable def F95_70 (k6 : Nat → Nat → Nat → Nat → Nat → Nat → fS → Option fR) (l0 : Nat) (l1 : Nat) (l2 : Nat) (l3 : Nat) (l4 : Nat) (l5 : Nat) (l6 : Nat) (T : fS) : Option fR := (k6 l0 l1 l2 l3 l4 (iA l5 1) T)
theorem G95_70 {z : Option mm_O} {T : fS} {r : fR} (k6 : Nat → Nat → Nat → Nat → Nat → Nat → fS → Option fR) (hk6 : ∀ (l0 : Nat) (l1 : Nat) (xl2 : Int32) (l2 : Nat) (hl2 : xl2 = nI l2) (xl3 : Int32) (l3 : Nat) (hl3 : xl3 = nI l3) (xl4 : Int32) (l4 : Nat) (hl4 : xl4 = nI l4) (xl5 : Int32) (l5 : Nat) (hl5 : xl5 = nI l5) (ul6 : Value) (T : fS) (r : fR), k6 l0 l1 l2 l3 l4 l5 T = some r → mm_L 95 6 [.ref l0, .ref l1, .int xl2, .int xl3, .int xl4, .int xl5, ul6] [] (toS z T) = some (tR z r)) (l0 : Nat) (l1 : Nat) (xl2 : Int32) (l2 : Nat) (hl2 : xl2 = nI l2) (xl3 : Int32) (l3 : Nat) (hl3 : xl3 = nI l3) (xl4 : Int32) (l4 : Nat) (hl4 : xl4 = nI l4) (xl5 : Int32) (l5 : Nat) (hl5 : xl5 = nI l5) (l6 : Nat) (h : F95_70 k6 l0 l1 l2 l3 l4 l5 l6 T = some r) : mm_L 95 70 [.ref l0, .ref l1, .int xl2, .int xl3, .int xl4, .int xl5, .ref l6] [] (toS z T) = some (tR z r) := by
  unfold F95_70 at h
  refine Eq.trans (e95_70 ..) ?_
  exact (hk6 _ _ _ _ hl2 _ _ hl3 _ _ hl4 _ _ (iA_ok hl5 (rfl : (1 : Int32) = nI 1)) _ _ _ h)
noncomputable def F95_67 (k6 : Nat → Nat → Nat → Nat → Nat → Nat → fS → Option fR) (l0 : Nat) (l1 : Nat) (l2 : Nat) (l3 : Nat) (l4 : Nat) (l5 : Nat) (l6 : Nat) (T : fS) : Option fR := (F95_70 k6 l0 l1 l2 l3 (iA l4 1) l5 l6 T)
theorem G95_67 {z : Option mm_O} {T : fS} {r : fR} (k6 : Nat → Nat → Nat → Nat → Nat → Nat → fS → Option fR) (hk6 : ∀ (l0 : Nat) (l1 : Nat) (xl2 : Int32) (l2 : Nat) (hl2 : xl2 = nI l2) (xl3 : Int32) (l3 : Nat) (hl3 : xl3 = nI l3) (xl4 : Int32) (l4 : Nat) (hl4 : xl4 = nI l4) (xl5 : Int32) (l5 : Nat) (hl5 : xl5 = nI l5) (ul6 : Value) (T : fS) (r : fR), k6 l0 l1 l2 l3 l4 l5 T = some r → mm_L 95 6 [.ref l0, .ref l1, .int xl2, .int xl3, .int xl4, .int xl5, ul6] [] (toS z T) = some (tR z r)) (l0 : Nat) (l1 : Nat) (xl2 : Int32) (l2 : Nat) (hl2 : xl2 = nI l2) (xl3 : Int32) (l3 : Nat) (hl3 : xl3 = nI l3) (xl4 : Int32) (l4 : Nat) (hl4 : xl4 = nI l4) (xl5 : Int32) (l5 : Nat) (hl5 : xl5 = nI l5) (l6 : Nat) (h : F95_67 k6 l0 l1 l2 l3 l4 l5 l6 T = some r) : mm_L 95 67 [.ref l0, .ref l1, .int xl2, .int xl3, .int xl4, .int xl5, .ref l6] [] (toS z T) = some (tR z r) := by
  unfold F95_67 at h
  refine Eq.trans (e95_67 ..) ?_
  exact (G95_70 k6 hk6 _ _ _ _ hl2 _ _ hl3 _ _ (iA_ok hl4 (rfl : (1 : Int32) = nI 1)) _ _ hl5 _ h)
noncomputable def F95_63 (k6 : Nat → Nat → Nat → Nat → Nat → Nat → fS → Option fR) (l0 : Nat) (l1 : Nat) (l2 : Nat) (l3 : Nat) (l4 : Nat) (l5 : Nat) (l6 : Nat) (s0 : Nat) (s1 : Nat) (s2 : Nat) (T : fS) : Option fR := (fif (ile s2 (iS s1 s0)) (F95_70 k6 l0 l1 l2 l3 l4 l5 l6 T) (F95_67 k6 l0 l1 l2 l3 l4 l5 l6 T))
theorem G95_63 {z : Option mm_O} {T : fS} {r : fR} (k6 : Nat → Nat → Nat → Nat → Nat → Nat → fS → Option fR) (hk6 : ∀ (l0 : Nat) (l1 : Nat) (xl2 : Int32) (l2 : Nat) (hl2 : xl2 = nI l2) (xl3 : Int32) (l3 : Nat) (hl3 : xl3 = nI l3) (xl4 : Int32) (l4 : Nat) (hl4 : xl4 = nI l4) (xl5 : Int32) (l5 : Nat) (hl5 : xl5 = nI l5) (ul6 : Value) (T : fS) (r : fR), k6 l0 l1 l2 l3 l4 l5 T = some r → mm_L 95 6 [.ref l0, .ref l1, .int xl2, .int xl3, .int xl4, .int xl5, ul6] [] (toS z T) = some (tR z r)) (l0 : Nat) (l1 : Nat) (xl2 : Int32) (l2 : Nat) (hl2 : xl2 = nI l2) (xl3 : Int32) (l3 : Nat) (hl3 : xl3 = nI l3) (xl4 : Int32) (l4 : Nat) (hl4 : xl4 = nI l4) (xl5 : Int32) (l5 : Nat) (hl5 : xl5 = nI l5) (l6 : Nat) (xs0 : Int32) (s0 : Nat) (hs0 : xs0 = nI s0) (xs1 : Int32) (s1 : Nat) (hs1 : xs1 = nI s1) (xs2 : Int32) (s2 : Nat) (hs2 : xs2 = nI s2) (h : F95_63 k6 l0 l1 l2 l3 l4 l5 l6 s0 s1 s2 T = some r) : mm_L 95 63 [.ref l0, .ref l1, .int xl2, .int xl3, .int xl4, .int xl5, .ref l6] [.int xs0, .int xs1, .int xs2] (toS z T) = some (tR z r) := by
  unfold F95_63 at h
  refine Eq.trans (e95_63 ..) ?_
  exact (fb_if (cj_le hs2 (iS_ok hs1 hs0)) h (fun h1 => (G95_70 k6 hk6 _ _ _ _ hl2 _ _ hl3 _ _ hl4 _ _ hl5 _ h1)) (fun h1 => (G95_67 k6 hk6 _ _ _ _ hl2 _ _ hl3 _ _ hl4 _ _ hl5 _ h1)))
noncomputable def F95_58 (k6 : Nat → Nat → Nat → Nat → Nat → Nat → fS → Option fR) (l0 : Nat) (l1 : Nat) (l2 : Nat) (l3 : Nat) (l4 : Nat) (l5 : Nat) (l6 : Nat) (s0 : Nat) (s1 : Nat) (T : fS) : Option fR := (fbn (fgi T l6 3 2) (fun v0 => F95_63 k6 l0 l1 l2 l3 l4 l5 l6 v0 s0 s1 T))
theorem G95_58 {z : Option mm_O} {T : fS} {r : fR} (k6 : Nat → Nat → Nat → Nat → Nat → Nat → fS → Option fR) (hk6 : ∀ (l0 : Nat) (l1 : Nat) (xl2 : Int32) (l2 : Nat) (hl2 : xl2 = nI l2) (xl3 : Int32) (l3 : Nat) (hl3 : xl3 = nI l3) (xl4 : Int32) (l4 : Nat) (hl4 : xl4 = nI l4) (xl5 : Int32) (l5 : Nat) (hl5 : xl5 = nI l5) (ul6 : Value) (T : fS) (r : fR), k6 l0 l1 l2 l3 l4 l5 T = some r → mm_L 95 6 [.ref l0, .ref l1, .int xl2, .int xl3, .int xl4, .int xl5, ul6] [] (toS z T) = some (tR z r)) (l0 : Nat) (l1 : Nat) (xl2 : Int32) (l2 : Nat) (hl2 : xl2 = nI l2) (xl3 : Int32) (l3 : Nat) (hl3 : xl3 = nI l3) (xl4 : Int32) (l4 : Nat) (hl4 : xl4 = nI l4) (xl5 : Int32) (l5 : Nat) (hl5 : xl5 = nI l5) (l6 : Nat) (xs0 : Int32) (s0 : Nat) (hs0 : xs0 = nI s0) (xs1 : Int32) (s1 : Nat) (hs1 : xs1 = nI s1) (h : F95_58 k6 l0 l1 l2 l3 l4 l5 l6 s0 s1 T = some r) : mm_L 95 58 [.ref l0, .ref l1, .int xl2, .int xl3, .int xl4, .int xl5, .ref l6] [.int xs0, .int xs1] (toS z T) = some (tR z r) := by
  unfold F95_58 at h
  refine Eq.trans (e95_58 ..) ?_
  exact (fb_n (fun _ q => fgi_ok q) h (fun v0 h2 => G95_63 k6 hk6 _ _ _ _ hl2 _ _ hl3 _ _ hl4 _ _ hl5 _ _ _ rfl _ _ hs0 _ _ hs1 h2))
noncomputable def F95_52 (k6 : Nat → Nat → Nat → Nat → Nat → Nat → fS → Option fR) (l0 : Nat) (l1 : Nat) (l2 : Nat) (l3 : Nat) (l4 : Nat) (l5 : Nat) (l6 : Nat) (s0 : Nat) (s1 : Nat) (T : fS) : Option fR := (fbn (fgi T l6 3 3) (fun v0 => F95_58 k6 l0 l1 l2 l3 l4 l5 l6 v0 (iM s1 s0) T))
theorem G95_52 {z : Option mm_O} {T : fS} {r : fR} (k6 : Nat → Nat → Nat → Nat → Nat → Nat → fS → Option fR) (hk6 : ∀ (l0 : Nat) (l1 : Nat) (xl2 : Int32) (l2 : Nat) (hl2 : xl2 = nI l2) (xl3 : Int32) (l3 : Nat) (hl3 : xl3 = nI l3) (xl4 : Int32) (l4 : Nat) (hl4 : xl4 = nI l4) (xl5 : Int32) (l5 : Nat) (hl5 : xl5 = nI l5) (ul6 : Value) (T : fS) (r : fR), k6 l0 l1 l2 l3 l4 l5 T = some r → mm_L 95 6 [.ref l0, .ref l1, .int xl2, .int xl3, .int xl4, .int xl5, ul6] [] (toS z T) = some (tR z r)) (l0 : Nat) (l1 : Nat) (xl2 : Int32) (l2 : Nat) (hl2 : xl2 = nI l2) (xl3 : Int32) (l3 : Nat) (hl3 : xl3 = nI l3) (xl4 : Int32) (l4 : Nat) (hl4 : xl4 = nI l4) (xl5 : Int32) (l5 : Nat) (hl5 : xl5 = nI l5) (l6 : Nat) (xs0 : Int32) (s0 : Nat) (hs0 : xs0 = nI s0) (xs1 : Int32) (s1 : Nat) (hs1 : xs1 = nI s1) (h : F95_52 k6 l0 l1 l2 l3 l4 l5 l6 s0 s1 T = some r) : mm_L 95 52 [.ref l0, .ref l1, .int xl2, .int xl3, .int xl4, .int xl5, .ref l6] [.int xs0, .int xs1] (toS z T) = some (tR z r) := by
  unfold F95_52 at h
  refine Eq.trans (e95_52 ..) ?_
  exact (fb_n (fun _ q => fgi_ok q) h (fun v0 h2 => G95_58 k6 hk6 _ _ _ _ hl2 _ _ hl3 _ _ hl4 _ _ hl5 _ _ _ rfl _ _ (iM_ok hs1 hs0) h2))
noncomputable def F95_49 (k6 : Nat → Nat → Nat → Nat → Nat → Nat → fS → Option fR) (l0 : Nat) (l1 : Nat) (l2 : Nat) (l3 : Nat) (l4 : Nat) (l5 : Nat) (l6 : Nat) (s0 : Nat) (s1 : Nat) (s2 : Nat) (T : fS) : Option fR := (fKi true (fif (fch T s1 3) (F18_0 s1 s0 T) none) (fun v0 T1 => F95_52 k6 l0 l1 l2 l3 l4 l5 l6 v0 s2 T1))
theorem G95_49 {z : Option mm_O} {T : fS} {r : fR} (k6 : Nat → Nat → Nat → Nat → Nat → Nat → fS → Option fR) (hk6 : ∀ (l0 : Nat) (l1 : Nat) (xl2 : Int32) (l2 : Nat) (hl2 : xl2 = nI l2) (xl3 : Int32) (l3 : Nat) (hl3 : xl3 = nI l3) (xl4 : Int32) (l4 : Nat) (hl4 : xl4 = nI l4) (xl5 : Int32) (l5 : Nat) (hl5 : xl5 = nI l5) (ul6 : Value) (T : fS) (r : fR), k6 l0 l1 l2 l3 l4 l5 T = some r → mm_L 95 6 [.ref l0, .ref l1, .int xl2, .int xl3, .int xl4, .int xl5, ul6] [] (toS z T) = some (tR z r)) (l0 : Nat) (l1 : Nat) (xl2 : Int32) (l2 : Nat) (hl2 : xl2 = nI l2) (xl3 : Int32) (l3 : Nat) (hl3 : xl3 = nI l3) (xl4 : Int32) (l4 : Nat) (hl4 : xl4 = nI l4) (xl5 : Int32) (l5 : Nat) (hl5 : xl5 = nI l5) (l6 : Nat) (s0 : Nat) (s1 : Nat) (xs2 : Int32) (s2 : Nat) (hs2 : xs2 = nI s2) (h : F95_49 k6 l0 l1 l2 l3 l4 l5 l6 s0 s1 s2 T = some r) : mm_L 95 49 [.ref l0, .ref l1, .int xl2, .int xl3, .int xl4, .int xl5, .ref l6] [.ref s0, .ref s1, .int xs2] (toS z T) = some (tR z r) := by
  unfold F95_49 at h
  refine Eq.trans (e95_49 ..) ?_
  exact (fb_K0i (fun _ q => fb_mo (y := 18) ow_18 q (fun q => GM18 _ _ q)) h (fun v0 T1 h2 => G95_52 k6 hk6 _ _ _ _ hl2 _ _ hl3 _ _ hl4 _ _ hl5 _ _ _ rfl _ _ hs2 h2))
noncomputable def F95_42 (k6 : Nat → Nat → Nat → Nat → Nat → Nat → fS → Option fR) (l0 : Nat) (l1 : Nat) (l2 : Nat) (l3 : Nat) (l4 : Nat) (l5 : Nat) (l6 : Nat) (T : fS) : Option fR := (fbv (fgr T l0 6 7) (fun v0 => F95_49 k6 l0 l1 l2 l3 l4 l5 l6 v0 l6 2 T) ((none : Option fR)))
theorem G95_42 {z : Option mm_O} {T : fS} {r : fR} (k6 : Nat → Nat → Nat → Nat → Nat → Nat → fS → Option fR) (hk6 : ∀ (l0 : Nat) (l1 : Nat) (xl2 : Int32) (l2 : Nat) (hl2 : xl2 = nI l2) (xl3 : Int32) (l3 : Nat) (hl3 : xl3 = nI l3) (xl4 : Int32) (l4 : Nat) (hl4 : xl4 = nI l4) (xl5 : Int32) (l5 : Nat) (hl5 : xl5 = nI l5) (ul6 : Value) (T : fS) (r : fR), k6 l0 l1 l2 l3 l4 l5 T = some r → mm_L 95 6 [.ref l0, .ref l1, .int xl2, .int xl3, .int xl4, .int xl5, ul6] [] (toS z T) = some (tR z r)) (l0 : Nat) (l1 : Nat) (xl2 : Int32) (l2 : Nat) (hl2 : xl2 = nI l2) (xl3 : Int32) (l3 : Nat) (hl3 : xl3 = nI l3) (xl4 : Int32) (l4 : Nat) (hl4 : xl4 = nI l4) (xl5 : Int32) (l5 : Nat) (hl5 : xl5 = nI l5) (l6 : Nat) (h : F95_42 k6 l0 l1 l2 l3 l4 l5 l6 T = some r) : mm_L 95 42 [.ref l0, .ref l1, .int xl2, .int xl3, .int xl4, .int xl5, .ref l6] [] (toS z T) = some (tR z r) := by
  unfold F95_42 at h
  refine Eq.trans (e95_42 ..) ?_
  exact (fb_v (fun _ q => fgr_ok q) h (fun v0 h2 => G95_49 k6 hk6 _ _ _ _ hl2 _ _ hl3 _ _ hl4 _ _ hl5 _ _ _ _ _ (rfl : (2 : Int32) = nI 2) h2) (fun h2 => fr_n h2))
noncomputable def F95_39 (k6 : Nat → Nat → Nat → Nat → Nat → Nat → fS → Option fR) (l0 : Nat) (l1 : Nat) (l2 : Nat) (l3 : Nat) (l4 : Nat) (l5 : Nat) (l6 : Nat) (s0 : Nat) (T : fS) : Option fR := (fif (ieq s0 0) (F95_70 k6 l0 l1 l2 l3 l4 l5 l6 T) (F95_42 k6 l0 l1 l2 l3 l4 l5 l6 T))
theorem G95_39 {z : Option mm_O} {T : fS} {r : fR} (k6 : Nat → Nat → Nat → Nat → Nat → Nat → fS → Option fR) (hk6 : ∀ (l0 : Nat) (l1 : Nat) (xl2 : Int32) (l2 : Nat) (hl2 : xl2 = nI l2) (xl3 : Int32) (l3 : Nat) (hl3 : xl3 = nI l3) (xl4 : Int32) (l4 : Nat) (hl4 : xl4 = nI l4) (xl5 : Int32) (l5 : Nat) (hl5 : xl5 = nI l5) (ul6 : Value) (T : fS) (r : fR), k6 l0 l1 l2 l3 l4 l5 T = some r → mm_L 95 6 [.ref l0, .ref l1, .int xl2, .int xl3, .int xl4, .int xl5, ul6] [] (toS z T) = some (tR z r)) (l0 : Nat) (l1 : Nat) (xl2 : Int32) (l2 : Nat) (hl2 : xl2 = nI l2) (xl3 : Int32) (l3 : Nat) (hl3 : xl3 = nI l3) (xl4 : Int32) (l4 : Nat) (hl4 : xl4 = nI l4) (xl5 : Int32) (l5 : Nat) (hl5 : xl5 = nI l5) (l6 : Nat) (xs0 : Int32) (s0 : Nat) (hs0 : xs0 = nI s0) (h : F95_39 k6 l0 l1 l2 l3 l4 l5 l6 s0 T = some r) : mm_L 95 39 [.ref l0, .ref l1, .int xl2, .int xl3, .int xl4, .int xl5, .ref l6] [.int xs0] (toS z T) = some (tR z r) := by
  unfold F95_39 at h
  refine Eq.trans (e95_39 ..) ?_
  exact (fb_if (cj_eq hs0 (rfl : (0 : Int32) = nI 0)) h (fun h1 => (G95_70 k6 hk6 _ _ _ _ hl2 _ _ hl3 _ _ hl4 _ _ hl5 _ h1)) (fun h1 => (G95_42 k6 hk6 _ _ _ _ hl2 _ _ hl3 _ _ hl4 _ _ hl5 _ h1)))
noncomputable def F95_30 (k6 : Nat → Nat → Nat → Nat → Nat → Nat → fS → Option fR) (l0 : Nat) (l1 : Nat) (l2 : Nat) (l3 : Nat) (l4 : Nat) (l5 : Nat) (s0 : Nat) (T : fS) : Option fR := (fKi true (fif (fch T s0 3) (F16_0 s0 l2 l3 T) none) (fun v0 T1 => F95_39 k6 l0 l1 l2 l3 l4 l5 s0 v0 T1))
theorem G95_30 {z : Option mm_O} {T : fS} {r : fR} (k6 : Nat → Nat → Nat → Nat → Nat → Nat → fS → Option fR) (hk6 : ∀ (l0 : Nat) (l1 : Nat) (xl2 : Int32) (l2 : Nat) (hl2 : xl2 = nI l2) (xl3 : Int32) (l3 : Nat) (hl3 : xl3 = nI l3) (xl4 : Int32) (l4 : Nat) (hl4 : xl4 = nI l4) (xl5 : Int32) (l5 : Nat) (hl5 : xl5 = nI l5) (ul6 : Value) (T : fS) (r : fR), k6 l0 l1 l2 l3 l4 l5 T = some r → mm_L 95 6 [.ref l0, .ref l1, .int xl2, .int xl3, .int xl4, .int xl5, ul6] [] (toS z T) = some (tR z r)) (l0 : Nat) (l1 : Nat) (xl2 : Int32) (l2 : Nat) (hl2 : xl2 = nI l2) (xl3 : Int32) (l3 : Nat) (hl3 : xl3 = nI l3) (xl4 : Int32) (l4 : Nat) (hl4 : xl4 = nI l4) (xl5 : Int32) (l5 : Nat) (hl5 : xl5 = nI l5) (ul6 : Value) (s0 : Nat) (h : F95_30 k6 l0 l1 l2 l3 l4 l5 s0 T = some r) : mm_L 95 30 [.ref l0, .ref l1, .int xl2, .int xl3, .int xl4, .int xl5, ul6] [.ref s0] (toS z T) = some (tR z r) := by
  unfold F95_30 at h
  refine Eq.trans (e95_30 ..) ?_
  exact (fb_K0i (fun _ q => fb_mo (y := 16) ow_16 q (fun q => GM16 _ _ _ hl2 _ _ hl3 q)) h (fun v0 T1 h2 => G95_39 k6 hk6 _ _ _ _ hl2 _ _ hl3 _ _ hl4 _ _ hl5 _ _ _ rfl h2))
noncomputable def F95_27 (k6 : Nat → Nat → Nat → Nat → Nat → Nat → fS → Option fR) (l0 : Nat) (l1 : Nat) (l2 : Nat) (l3 : Nat) (l4 : Nat) (l5 : Nat) (s0 : Nat) (T : fS) : Option fR := (fif (fch T s0 3) (F95_30 k6 l0 l1 l2 l3 l4 l5 s0 T) none)
theorem G95_27 {z : Option mm_O} {T : fS} {r : fR} (k6 : Nat → Nat → Nat → Nat → Nat → Nat → fS → Option fR) (hk6 : ∀ (l0 : Nat) (l1 : Nat) (xl2 : Int32) (l2 : Nat) (hl2 : xl2 = nI l2) (xl3 : Int32) (l3 : Nat) (hl3 : xl3 = nI l3) (xl4 : Int32) (l4 : Nat) (hl4 : xl4 = nI l4) (xl5 : Int32) (l5 : Nat) (hl5 : xl5 = nI l5) (ul6 : Value) (T : fS) (r : fR), k6 l0 l1 l2 l3 l4 l5 T = some r → mm_L 95 6 [.ref l0, .ref l1, .int xl2, .int xl3, .int xl4, .int xl5, ul6] [] (toS z T) = some (tR z r)) (l0 : Nat) (l1 : Nat) (xl2 : Int32) (l2 : Nat) (hl2 : xl2 = nI l2) (xl3 : Int32) (l3 : Nat) (hl3 : xl3 = nI l3) (xl4 : Int32) (l4 : Nat) (hl4 : xl4 = nI l4) (xl5 : Int32) (l5 : Nat) (hl5 : xl5 = nI l5) (ul6 : Value) (s0 : Nat) (h : F95_27 k6 l0 l1 l2 l3 l4 l5 s0 T = some r) : mm_L 95 27 [.ref l0, .ref l1, .int xl2, .int xl3, .int xl4, .int xl5, ul6] [.ref s0] (toS z T) = some (tR z r) := by
  unfold F95_27 at h
  refine Eq.trans (e95_27 ..) ?_
  exact (fb_c h (fun h2 => G95_30 k6 hk6 _ _ _ _ hl2 _ _ hl3 _ _ hl4 _ _ hl5 _ _ h2))
noncomputable def F95_22 (k6 : Nat → Nat → Nat → Nat → Nat → Nat → fS → Option fR) (l0 : Nat) (l1 : Nat) (l2 : Nat) (l3 : Nat) (l4 : Nat) (l5 : Nat) (s0 : Nat) (T : fS) : Option fR := (fbn (flg T s0 l5) (fun v0 => F95_27 k6 l0 l1 l2 l3 l4 l5 v0 T))
theorem G95_22 {z : Option mm_O} {T : fS} {r : fR} (k6 : Nat → Nat → Nat → Nat → Nat → Nat → fS → Option fR) (hk6 : ∀ (l0 : Nat) (l1 : Nat) (xl2 : Int32) (l2 : Nat) (hl2 : xl2 = nI l2) (xl3 : Int32) (l3 : Nat) (hl3 : xl3 = nI l3) (xl4 : Int32) (l4 : Nat) (hl4 : xl4 = nI l4) (xl5 : Int32) (l5 : Nat) (hl5 : xl5 = nI l5) (ul6 : Value) (T : fS) (r : fR), k6 l0 l1 l2 l3 l4 l5 T = some r → mm_L 95 6 [.ref l0, .ref l1, .int xl2, .int xl3, .int xl4, .int xl5, ul6] [] (toS z T) = some (tR z r)) (l0 : Nat) (l1 : Nat) (xl2 : Int32) (l2 : Nat) (hl2 : xl2 = nI l2) (xl3 : Int32) (l3 : Nat) (hl3 : xl3 = nI l3) (xl4 : Int32) (l4 : Nat) (hl4 : xl4 = nI l4) (xl5 : Int32) (l5 : Nat) (hl5 : xl5 = nI l5) (ul6 : Value) (s0 : Nat) (h : F95_22 k6 l0 l1 l2 l3 l4 l5 s0 T = some r) : mm_L 95 22 [.ref l0, .ref l1, .int xl2, .int xl3, .int xl4, .int xl5, ul6] [.ref s0] (toS z T) = some (tR z r) := by
  unfold F95_22 at h
  refine Eq.trans (e95_22 ..) ?_
  exact (fb_g (fun _ q => by rw [hl5]; exact flg_ok q) h (fun v0 h2 => G95_27 k6 hk6 _ _ _ _ hl2 _ _ hl3 _ _ hl4 _ _ hl5 _ _ h2))
noncomputable def F95_18 (k6 : Nat → Nat → Nat → Nat → Nat → Nat → fS → Option fR) (l0 : Nat) (l1 : Nat) (l2 : Nat) (l3 : Nat) (l4 : Nat) (l5 : Nat) (T : fS) : Option fR := (fbv (fgr T l1 0 4) (fun v0 => F95_22 k6 l0 l1 l2 l3 l4 l5 v0 T) ((none : Option fR)))
theorem G95_18 {z : Option mm_O} {T : fS} {r : fR} (k6 : Nat → Nat → Nat → Nat → Nat → Nat → fS → Option fR) (hk6 : ∀ (l0 : Nat) (l1 : Nat) (xl2 : Int32) (l2 : Nat) (hl2 : xl2 = nI l2) (xl3 : Int32) (l3 : Nat) (hl3 : xl3 = nI l3) (xl4 : Int32) (l4 : Nat) (hl4 : xl4 = nI l4) (xl5 : Int32) (l5 : Nat) (hl5 : xl5 = nI l5) (ul6 : Value) (T : fS) (r : fR), k6 l0 l1 l2 l3 l4 l5 T = some r → mm_L 95 6 [.ref l0, .ref l1, .int xl2, .int xl3, .int xl4, .int xl5, ul6] [] (toS z T) = some (tR z r)) (l0 : Nat) (l1 : Nat) (xl2 : Int32) (l2 : Nat) (hl2 : xl2 = nI l2) (xl3 : Int32) (l3 : Nat) (hl3 : xl3 = nI l3) (xl4 : Int32) (l4 : Nat) (hl4 : xl4 = nI l4) (xl5 : Int32) (l5 : Nat) (hl5 : xl5 = nI l5) (ul6 : Value) (h : F95_18 k6 l0 l1 l2 l3 l4 l5 T = some r) : mm_L 95 18 [.ref l0, .ref l1, .int xl2, .int xl3, .int xl4, .int xl5, ul6] [] (toS z T) = some (tR z r) := by
  unfold F95_18 at h
  refine Eq.trans (e95_18 ..) ?_
  exact (fb_v (fun _ q => fgr_ok q) h (fun v0 h2 => G95_22 k6 hk6 _ _ _ _ hl2 _ _ hl3 _ _ hl4 _ _ hl5 _ _ h2) (fun h2 => fr_n h2))
noncomputable def F95_76  (l0 : Nat) (l1 : Nat) (l2 : Nat) (l3 : Nat) (l4 : Nat) (l5 : Nat) (T : fS) : Option fR := (some ((.inl (some (.inl l4)), T) : fR))
theorem G95_76 {z : Option mm_O} {T : fS} {r : fR}  (l0 : Nat) (l1 : Nat) (xl2 : Int32) (l2 : Nat) (hl2 : xl2 = nI l2) (xl3 : Int32) (l3 : Nat) (hl3 : xl3 = nI l3) (xl4 : Int32) (l4 : Nat) (hl4 : xl4 = nI l4) (xl5 : Int32) (l5 : Nat) (hl5 : xl5 = nI l5) (ul6 : Value) (h : F95_76  l0 l1 l2 l3 l4 l5 T = some r) : mm_L 95 76 [.ref l0, .ref l1, .int xl2, .int xl3, .int xl4, .int xl5, ul6] [] (toS z T) = some (tR z r) := by
  unfold F95_76 at h
  refine Eq.trans (e95_76 ..) ?_
  exact (fr_i hl4 h)
noncomputable def F95_15 (k6 : Nat → Nat → Nat → Nat → Nat → Nat → fS → Option fR) (l0 : Nat) (l1 : Nat) (l2 : Nat) (l3 : Nat) (l4 : Nat) (l5 : Nat) (s0 : Nat) (s1 : Nat) (T : fS) : Option fR := (fif (ile s0 s1) (F95_76  l0 l1 l2 l3 l4 l5 T) (F95_18 k6 l0 l1 l2 l3 l4 l5 T))
theorem G95_15 {z : Option mm_O} {T : fS} {r : fR} (k6 : Nat → Nat → Nat → Nat → Nat → Nat → fS → Option fR) (hk6 : ∀ (l0 : Nat) (l1 : Nat) (xl2 : Int32) (l2 : Nat) (hl2 : xl2 = nI l2) (xl3 : Int32) (l3 : Nat) (hl3 : xl3 = nI l3) (xl4 : Int32) (l4 : Nat) (hl4 : xl4 = nI l4) (xl5 : Int32) (l5 : Nat) (hl5 : xl5 = nI l5) (ul6 : Value) (T : fS) (r : fR), k6 l0 l1 l2 l3 l4 l5 T = some r → mm_L 95 6 [.ref l0, .ref l1, .int xl2, .int xl3, .int xl4, .int xl5, ul6] [] (toS z T) = some (tR z r)) (l0 : Nat) (l1 : Nat) (xl2 : Int32) (l2 : Nat) (hl2 : xl2 = nI l2) (xl3 : Int32) (l3 : Nat) (hl3 : xl3 = nI l3) (xl4 : Int32) (l4 : Nat) (hl4 : xl4 = nI l4) (xl5 : Int32) (l5 : Nat) (hl5 : xl5 = nI l5) (ul6 : Value) (xs0 : Int32) (s0 : Nat) (hs0 : xs0 = nI s0) (xs1 : Int32) (s1 : Nat) (hs1 : xs1 = nI s1) (h : F95_15 k6 l0 l1 l2 l3 l4 l5 s0 s1 T = some r) : mm_L 95 15 [.ref l0, .ref l1, .int xl2, .int xl3, .int xl4, .int xl5, ul6] [.int xs0, .int xs1] (toS z T) = some (tR z r) := by
  unfold F95_15 at h
  refine Eq.trans (e95_15 ..) ?_
  exact (fb_if (cj_le hs0 hs1) h (fun h1 => (G95_76  _ _ _ _ hl2 _ _ hl3 _ _ hl4 _ _ hl5 _ h1)) (fun h1 => (G95_18 k6 hk6 _ _ _ _ hl2 _ _ hl3 _ _ hl4 _ _ hl5 _ h1)))
noncomputable def F95_12 (k6 : Nat → Nat → Nat → Nat → Nat → Nat → fS → Option fR) (l0 : Nat) (l1 : Nat) (l2 : Nat) (l3 : Nat) (l4 : Nat) (l5 : Nat) (s0 : Nat) (s1 : Nat) (T : fS) : Option fR := (fbn (flz T s0) (fun v0 => F95_15 k6 l0 l1 l2 l3 l4 l5 v0 s1 T))
theorem G95_12 {z : Option mm_O} {T : fS} {r : fR} (k6 : Nat → Nat → Nat → Nat → Nat → Nat → fS → Option fR) (hk6 : ∀ (l0 : Nat) (l1 : Nat) (xl2 : Int32) (l2 : Nat) (hl2 : xl2 = nI l2) (xl3 : Int32) (l3 : Nat) (hl3 : xl3 = nI l3) (xl4 : Int32) (l4 : Nat) (hl4 : xl4 = nI l4) (xl5 : Int32) (l5 : Nat) (hl5 : xl5 = nI l5) (ul6 : Value) (T : fS) (r : fR), k6 l0 l1 l2 l3 l4 l5 T = some r → mm_L 95 6 [.ref l0, .ref l1, .int xl2, .int xl3, .int xl4, .int xl5, ul6] [] (toS z T) = some (tR z r)) (l0 : Nat) (l1 : Nat) (xl2 : Int32) (l2 : Nat) (hl2 : xl2 = nI l2) (xl3 : Int32) (l3 : Nat) (hl3 : xl3 = nI l3) (xl4 : Int32) (l4 : Nat) (hl4 : xl4 = nI l4) (xl5 : Int32) (l5 : Nat) (hl5 : xl5 = nI l5) (ul6 : Value) (s0 : Nat) (xs1 : Int32) (s1 : Nat) (hs1 : xs1 = nI s1) (h : F95_12 k6 l0 l1 l2 l3 l4 l5 s0 s1 T = some r) : mm_L 95 12 [.ref l0, .ref l1, .int xl2, .int xl3, .int xl4, .int xl5, ul6] [.ref s0, .int xs1] (toS z T) = some (tR z r) := by
  unfold F95_12 at h
  refine Eq.trans (e95_12 ..) ?_
  exact (fb_n (fun _ q => flz_ok q) h (fun v0 h2 => G95_15 k6 hk6 _ _ _ _ hl2 _ _ hl3 _ _ hl4 _ _ hl5 _ _ _ rfl _ _ hs1 h2))
noncomputable def F95_6 (k6 : Nat → Nat → Nat → Nat → Nat → Nat → fS → Option fR) (l0 : Nat) (l1 : Nat) (l2 : Nat) (l3 : Nat) (l4 : Nat) (l5 : Nat) (T : fS) : Option fR := (fbv (fgr T l1 0 4) (fun v0 => F95_12 k6 l0 l1 l2 l3 l4 l5 v0 l5 T) ((none : Option fR)))
theorem G95_6 {z : Option mm_O} {T : fS} {r : fR} (k6 : Nat → Nat → Nat → Nat → Nat → Nat → fS → Option fR) (hk6 : ∀ (l0 : Nat) (l1 : Nat) (xl2 : Int32) (l2 : Nat) (hl2 : xl2 = nI l2) (xl3 : Int32) (l3 : Nat) (hl3 : xl3 = nI l3) (xl4 : Int32) (l4 : Nat) (hl4 : xl4 = nI l4) (xl5 : Int32) (l5 : Nat) (hl5 : xl5 = nI l5) (ul6 : Value) (T : fS) (r : fR), k6 l0 l1 l2 l3 l4 l5 T = some r → mm_L 95 6 [.ref l0, .ref l1, .int xl2, .int xl3, .int xl4, .int xl5, ul6] [] (toS z T) = some (tR z r)) (l0 : Nat) (l1 : Nat) (xl2 : Int32) (l2 : Nat) (hl2 : xl2 = nI l2) (xl3 : Int32) (l3 : Nat) (hl3 : xl3 = nI l3) (xl4 : Int32) (l4 : Nat) (hl4 : xl4 = nI l4) (xl5 : Int32) (l5 : Nat) (hl5 : xl5 = nI l5) (ul6 : Value) (h : F95_6 k6 l0 l1 l2 l3 l4 l5 T = some r) : mm_L 95 6 [.ref l0, .ref l1, .int xl2, .int xl3, .int xl4, .int xl5, ul6] [] (toS z T) = some (tR z r) := by
  unfold F95_6 at h
  refine Eq.trans (e95_6 ..) ?_
  exact (fb_v (fun _ q => fgr_ok q) h (fun v0 h2 => G95_12 k6 hk6 _ _ _ _ hl2 _ _ hl3 _ _ hl4 _ _ hl5 _ _ _ _ hl5 h2) (fun h2 => fr_n h2))
noncomputable def H95_6  (n : Nat) : Nat → Nat → Nat → Nat → Nat → Nat → fS → Option fR := Nat.rec (motive := fun _ => Nat → Nat → Nat → Nat → Nat → Nat → fS → Option fR) (fun _ _ _ _ _ _ _ => none) (fun _ ih => F95_6 ih) n
theorem HG95_6 {z : Option mm_O}  : ∀ (n : Nat) (l0 : Nat) (l1 : Nat) (xl2 : Int32) (l2 : Nat) (hl2 : xl2 = nI l2) (xl3 : Int32) (l3 : Nat) (hl3 : xl3 = nI l3) (xl4 : Int32) (l4 : Nat) (hl4 : xl4 = nI l4) (xl5 : Int32) (l5 : Nat) (hl5 : xl5 = nI l5) (ul6 : Value) {T : fS} {r : fR}, H95_6  n l0 l1 l2 l3 l4 l5 T = some r → mm_L 95 6 [.ref l0, .ref l1, .int xl2, .int xl3, .int xl4, .int xl5, ul6] [] (toS z T) = some (tR z r) := by
  intro n
  induction n with
  | zero =>
    intro l0 l1 xl2 l2 hl2 xl3 l3 hl3 xl4 l4 hl4 xl5 l5 hl5 ul6 T r h
    exact fr_n h
  | succ n ih =>
    intro l0 l1 xl2 l2 hl2 xl3 l3 hl3 xl4 l4 hl4 xl5 l5 hl5 ul6 T r h
    exact G95_6 (H95_6  n) (fun l0 l1 xl2 l2 hl2 xl3 l3 hl3 xl4 l4 hl4 xl5 l5 hl5 ul6 T r h => ih l0 l1 xl2 l2 hl2 xl3 l3 hl3 xl4 l4 hl4 xl5 l5 hl5 ul6 h) l0 l1 xl2 l2 hl2 xl3 l3 hl3 xl4 l4 hl4 xl5 l5 hl5 ul6 h
noncomputable def F95_0  (l0 : Nat) (l1 : Nat) (l2 : Nat) (l3 : Nat) (T : fS) : Option fR := (H95_6  300 l0 l1 l2 l3 0 0 T)
theorem G95_0 {z : Option mm_O} {T : fS} {r : fR}  (l0 : Nat) (l1 : Nat) (xl2 : Int32) (l2 : Nat) (hl2 : xl2 = nI l2) (xl3 : Int32) (l3 : Nat) (hl3 : xl3 = nI l3) (ul4 : Value) (ul5 : Value) (ul6 : Value) (h : F95_0  l0 l1 l2 l3 T = some r) : mm_L 95 0 [.ref l0, .ref l1, .int xl2, .int xl3, ul4, ul5, ul6] [] (toS z T) = some (tR z r) := by
  unfold F95_0 at h
  refine Eq.trans (e95_0 ..) ?_
  exact (HG95_6  300 _ _ _ _ hl2 _ _ hl3 _ _ (rfl : (0 : Int32) = nI 0) _ _ (rfl : (0 : Int32) = nI 0) _ h)
theorem GM95 {z : Option mm_O} {T : fS} {r : fR} (l0 : Nat) (l1 : Nat) (xl2 : Int32) (l2 : Nat) (hl2 : xl2 = nI l2) (xl3 : Int32) (l3 : Nat) (hl3 : xl3 = nI l3) (h : F95_0 l0 l1 l2 l3 T = some r) : mm_M 95 [.ref l0, .ref l1, .int xl2, .int xl3] (toS z T) = some (tR z r) := Eq.trans (M_95 ..) (G95_0 l0 l1 xl2 l2 hl2 xl3 l3 hl3 _ _ _ h)
-- 0z: HandArchive$Clip.<init>
noncomputable def F0z_36  (l0 : Nat) (l1 : Nat) (l2 : Nat) (T : fS) : Option fR := (some ((.inl none, T) : fR))
theorem G0z_36 {z : Option mm_O} {T : fS} {r : fR}  (l0 : Nat) (xl1 : Int32) (l1 : Nat) (hl1 : xl1 = nI l1) (xl2 : Int32) (l2 : Nat) (hl2 : xl2 = nI l2) (h : F0z_36  l0 l1 l2 T = some r) : mm_L 0 36 [.ref l0, .int xl1, .int xl2, .null, .null] [] (toS z T) = some (tR z r) := by
  unfold F0z_36 at h
  refine Eq.trans (e0z_36 ..) ?_
  exact (fr_v h)
noncomputable def F0z_33  (l0 : Nat) (l1 : Nat) (l2 : Nat) (s0 : Nat) (s1 : Nat) (T : fS) : Option fR := (fbs (fsf T s1 0 4 (.inr (some s0))) (fun T1 => F0z_36  l0 l1 l2 T1))
theorem G0z_33 {z : Option mm_O} {T : fS} {r : fR}  (l0 : Nat) (xl1 : Int32) (l1 : Nat) (hl1 : xl1 = nI l1) (xl2 : Int32) (l2 : Nat) (hl2 : xl2 = nI l2) (s0 : Nat) (s1 : Nat) (h : F0z_33  l0 l1 l2 s0 s1 T = some r) : mm_L 0 33 [.ref l0, .int xl1, .int xl2, .null, .null] [.ref s0, .ref s1] (toS z T) = some (tR z r) := by
  unfold F0z_33 at h
  refine Eq.trans (e0z_33 ..) ?_
  exact (fb_s (fun _ q => fsf_ok (v := (.inr (some s0))) q) h (fun T1 h2 => G0z_36  _ _ _ hl1 _ _ hl2 h2))
noncomputable def F0z_25  (l0 : Nat) (l1 : Nat) (l2 : Nat) (T : fS) : Option fR := (fgd T (fbs (fin0 (fnw T (.inl (8, [.inl 0, .inr none, .inl 0]) : fO) 3) T.2.1) (fun T1 => F0z_33  l0 l1 l2 T.2.1 l0 T1)))
theorem G0z_25 {z : Option mm_O} {T : fS} {r : fR}  (l0 : Nat) (xl1 : Int32) (l1 : Nat) (hl1 : xl1 = nI l1) (xl2 : Int32) (l2 : Nat) (hl2 : xl2 = nI l2) (h : F0z_25  l0 l1 l2 T = some r) : mm_L 0 25 [.ref l0, .int xl1, .int xl2, .null, .null] [] (toS z T) = some (tR z r) := by
  unfold F0z_25 at h
  refine Eq.trans (e0z_25 ..) ?_
  have hg0 := fgd_in h
  replace h := hg0.2
  rw [show mm_new (toS z T) (.inl (8, [.int 0, .null, .int 0])) 3 = toS z (fnw T (.inl (8, [.inl 0, .inr none, .inl 0]) : fO) 3) from fnw_ok (o := (.inl (8, [.inl 0, .inr none, .inl 0]) : fO)) hg0.1]
  exact (fb_s (fun _ q => fin0_ok q) h (fun T1 h2 => G0z_33  _ _ _ hl1 _ _ hl2 _ _ h2))
noncomputable def F0z_19  (l0 : Nat) (l1 : Nat) (l2 : Nat) (T : fS) : Option fR := (fbs (fsf T l0 0 3 (.inr none)) (fun T1 => F0z_25  l0 l1 l2 T1))
theorem G0z_19 {z : Option mm_O} {T : fS} {r : fR}  (l0 : Nat) (xl1 : Int32) (l1 : Nat) (hl1 : xl1 = nI l1) (xl2 : Int32) (l2 : Nat) (hl2 : xl2 = nI l2) (h : F0z_19  l0 l1 l2 T = some r) : mm_L 0 19 [.ref l0, .int xl1, .int xl2, .null, .null] [] (toS z T) = some (tR z r) := by
  unfold F0z_19 at h
  refine Eq.trans (e0z_19 ..) ?_
  exact (fb_s (fun _ q => fsf_ok (v := .inr none) q) h (fun T1 h2 => G0z_25  _ _ _ hl1 _ _ hl2 h2))
noncomputable def F0z_14  (l0 : Nat) (l1 : Nat) (l2 : Nat) (T : fS) : Option fR := (fbs (fsf T l0 0 2 (.inr none)) (fun T1 => F0z_19  l0 l1 l2 T1))
theorem G0z_14 {z : Option mm_O} {T : fS} {r : fR}  (l0 : Nat) (xl1 : Int32) (l1 : Nat) (hl1 : xl1 = nI l1) (xl2 : Int32) (l2 : Nat) (hl2 : xl2 = nI l2) (h : F0z_14  l0 l1 l2 T = some r) : mm_L 0 14 [.ref l0, .int xl1, .int xl2, .null, .null] [] (toS z T) = some (tR z r) := by
  unfold F0z_14 at h
  refine Eq.trans (e0z_14 ..) ?_
  exact (fb_s (fun _ q => fsf_ok (v := .inr none) q) h (fun T1 h2 => G0z_19  _ _ _ hl1 _ _ hl2 h2))
noncomputable def F0z_9  (l0 : Nat) (l1 : Nat) (l2 : Nat) (T : fS) : Option fR := (fbs (fsf T l0 0 1 (.inl l2)) (fun T1 => F0z_14  l0 l1 l2 T1))
theorem G0z_9 {z : Option mm_O} {T : fS} {r : fR}  (l0 : Nat) (xl1 : Int32) (l1 : Nat) (hl1 : xl1 = nI l1) (xl2 : Int32) (l2 : Nat) (hl2 : xl2 = nI l2) (h : F0z_9  l0 l1 l2 T = some r) : mm_L 0 9 [.ref l0, .int xl1, .int xl2, .null, .null] [] (toS z T) = some (tR z r) := by
  unfold F0z_9 at h
  refine Eq.trans (e0z_9 ..) ?_
  exact (fb_s (fun _ q => (fun q => by rw [hl2]; exact fsf_ok (v := .inl l2) q) q) h (fun T1 h2 => G0z_14  _ _ _ hl1 _ _ hl2 h2))
noncomputable def F0z_0  (l0 : Nat) (l1 : Nat) (l2 : Nat) (T : fS) : Option fR := (fbs (fsf T l0 0 0 (.inl l1)) (fun T1 => F0z_9  l0 l1 l2 T1))
theorem G0z_0 {z : Option mm_O} {T : fS} {r : fR}  (l0 : Nat) (xl1 : Int32) (l1 : Nat) (hl1 : xl1 = nI l1) (xl2 : Int32) (l2 : Nat) (hl2 : xl2 = nI l2) (h : F0z_0  l0 l1 l2 T = some r) : mm_L 0 0 [.ref l0, .int xl1, .int xl2, .null, .null] [] (toS z T) = some (tR z r) := by
  unfold F0z_0 at h
  refine Eq.trans (e0z_0 ..) ?_
  exact (fb_s (fun _ q => (fun q => by rw [hl1]; exact fsf_ok (v := .inl l1) q) q) h (fun T1 h2 => G0z_9  _ _ _ hl1 _ _ hl2 h2))
theorem GM0z {z : Option mm_O} {T : fS} {r : fR} (l0 : Nat) (xl1 : Int32) (l1 : Nat) (hl1 : xl1 = nI l1) (xl2 : Int32) (l2 : Nat) (hl2 : xl2 = nI l2) (h : F0z_0 l0 l1 l2 T = some r) : mm_M 0 [.ref l0, .int xl1, .int xl2, .null, .null] (toS z T) = some (tR z r) := Eq.trans (M_0 ..) (G0z_0 l0 xl1 l1 hl1 xl2 l2 hl2 h)
-- 0: HandArchive$Clip.<init>
noncomputable def F0_36  (l0 : Nat) (l1 : Nat) (l2 : Nat) (l3 : Nat) (l4 : Nat) (T : fS) : Option fR := (some ((.inl none, T) : fR))
theorem G0_36 {z : Option mm_O} {T : fS} {r : fR}  (l0 : Nat) (xl1 : Int32) (l1 : Nat) (hl1 : xl1 = nI l1) (xl2 : Int32) (l2 : Nat) (hl2 : xl2 = nI l2) (l3 : Nat) (l4 : Nat) (h : F0_36  l0 l1 l2 l3 l4 T = some r) : mm_L 0 36 [.ref l0, .int xl1, .int xl2, .ref l3, .ref l4] [] (toS z T) = some (tR z r) := by
  unfold F0_36 at h
  refine Eq.trans (e0_36 ..) ?_
  exact (fr_v h)
noncomputable def F0_33  (l0 : Nat) (l1 : Nat) (l2 : Nat) (l3 : Nat) (l4 : Nat) (s0 : Nat) (s1 : Nat) (T : fS) : Option fR := (fbs (fsf T s1 0 4 (.inr (some s0))) (fun T1 => F0_36  l0 l1 l2 l3 l4 T1))
theorem G0_33 {z : Option mm_O} {T : fS} {r : fR}  (l0 : Nat) (xl1 : Int32) (l1 : Nat) (hl1 : xl1 = nI l1) (xl2 : Int32) (l2 : Nat) (hl2 : xl2 = nI l2) (l3 : Nat) (l4 : Nat) (s0 : Nat) (s1 : Nat) (h : F0_33  l0 l1 l2 l3 l4 s0 s1 T = some r) : mm_L 0 33 [.ref l0, .int xl1, .int xl2, .ref l3, .ref l4] [.ref s0, .ref s1] (toS z T) = some (tR z r) := by
  unfold F0_33 at h
  refine Eq.trans (e0_33 ..) ?_
  exact (fb_s (fun _ q => fsf_ok (v := (.inr (some s0))) q) h (fun T1 h2 => G0_36  _ _ _ hl1 _ _ hl2 _ _ h2))
noncomputable def F0_25  (l0 : Nat) (l1 : Nat) (l2 : Nat) (l3 : Nat) (l4 : Nat) (T : fS) : Option fR := (fgd T (fbs (fin0 (fnw T (.inl (8, [.inl 0, .inr none, .inl 0]) : fO) 3) T.2.1) (fun T1 => F0_33  l0 l1 l2 l3 l4 T.2.1 l0 T1)))
theorem G0_25 {z : Option mm_O} {T : fS} {r : fR}  (l0 : Nat) (xl1 : Int32) (l1 : Nat) (hl1 : xl1 = nI l1) (xl2 : Int32) (l2 : Nat) (hl2 : xl2 = nI l2) (l3 : Nat) (l4 : Nat) (h : F0_25  l0 l1 l2 l3 l4 T = some r) : mm_L 0 25 [.ref l0, .int xl1, .int xl2, .ref l3, .ref l4] [] (toS z T) = some (tR z r) := by
  unfold F0_25 at h
  refine Eq.trans (e0_25 ..) ?_
  have hg0 := fgd_in h
  replace h := hg0.2
  rw [show mm_new (toS z T) (.inl (8, [.int 0, .null, .int 0])) 3 = toS z (fnw T (.inl (8, [.inl 0, .inr none, .inl 0]) : fO) 3) from fnw_ok (o := (.inl (8, [.inl 0, .inr none, .inl 0]) : fO)) hg0.1]
  exact (fb_s (fun _ q => fin0_ok q) h (fun T1 h2 => G0_33  _ _ _ hl1 _ _ hl2 _ _ _ _ h2))
noncomputable def F0_19  (l0 : Nat) (l1 : Nat) (l2 : Nat) (l3 : Nat) (l4 : Nat) (T : fS) : Option fR := (fbs (fsf T l0 0 3 (.inr (some l4))) (fun T1 => F0_25  l0 l1 l2 l3 l4 T1))
theorem G0_19 {z : Option mm_O} {T : fS} {r : fR}  (l0 : Nat) (xl1 : Int32) (l1 : Nat) (hl1 : xl1 = nI l1) (xl2 : Int32) (l2 : Nat) (hl2 : xl2 = nI l2) (l3 : Nat) (l4 : Nat) (h : F0_19  l0 l1 l2 l3 l4 T = some r) : mm_L 0 19 [.ref l0, .int xl1, .int xl2, .ref l3, .ref l4] [] (toS z T) = some (tR z r) := by
  unfold F0_19 at h
  refine Eq.trans (e0_19 ..) ?_
  exact (fb_s (fun _ q => fsf_ok (v := (.inr (some l4))) q) h (fun T1 h2 => G0_25  _ _ _ hl1 _ _ hl2 _ _ h2))
noncomputable def F0_14  (l0 : Nat) (l1 : Nat) (l2 : Nat) (l3 : Nat) (l4 : Nat) (T : fS) : Option fR := (fbs (fsf T l0 0 2 (.inr (some l3))) (fun T1 => F0_19  l0 l1 l2 l3 l4 T1))
theorem G0_14 {z : Option mm_O} {T : fS} {r : fR}  (l0 : Nat) (xl1 : Int32) (l1 : Nat) (hl1 : xl1 = nI l1) (xl2 : Int32) (l2 : Nat) (hl2 : xl2 = nI l2) (l3 : Nat) (l4 : Nat) (h : F0_14  l0 l1 l2 l3 l4 T = some r) : mm_L 0 14 [.ref l0, .int xl1, .int xl2, .ref l3, .ref l4] [] (toS z T) = some (tR z r) := by
  unfold F0_14 at h
  refine Eq.trans (e0_14 ..) ?_
  exact (fb_s (fun _ q => fsf_ok (v := (.inr (some l3))) q) h (fun T1 h2 => G0_19  _ _ _ hl1 _ _ hl2 _ _ h2))
noncomputable def F0_9  (l0 : Nat) (l1 : Nat) (l2 : Nat) (l3 : Nat) (l4 : Nat) (T : fS) : Option fR := (fbs (fsf T l0 0 1 (.inl l2)) (fun T1 => F0_14  l0 l1 l2 l3 l4 T1))
theorem G0_9 {z : Option mm_O} {T : fS} {r : fR}  (l0 : Nat) (xl1 : Int32) (l1 : Nat) (hl1 : xl1 = nI l1) (xl2 : Int32) (l2 : Nat) (hl2 : xl2 = nI l2) (l3 : Nat) (l4 : Nat) (h : F0_9  l0 l1 l2 l3 l4 T = some r) : mm_L 0 9 [.ref l0, .int xl1, .int xl2, .ref l3, .ref l4] [] (toS z T) = some (tR z r) := by
  unfold F0_9 at h
  refine Eq.trans (e0_9 ..) ?_
  exact (fb_s (fun _ q => (fun q => by rw [hl2]; exact fsf_ok (v := .inl l2) q) q) h (fun T1 h2 => G0_14  _ _ _ hl1 _ _ hl2 _ _ h2))
noncomputable def F0_0  (l0 : Nat) (l1 : Nat) (l2 : Nat) (l3 : Nat) (l4 : Nat) (T : fS) : Option fR := (fbs (fsf T l0 0 0 (.inl l1)) (fun T1 => F0_9  l0 l1 l2 l3 l4 T1))
theorem G0_0 {z : Option mm_O} {T : fS} {r : fR}  (l0 : Nat) (xl1 : Int32) (l1 : Nat) (hl1 : xl1 = nI l1) (xl2 : Int32) (l2 : Nat) (hl2 : xl2 = nI l2) (l3 : Nat) (l4 : Nat) (h : F0_0  l0 l1 l2 l3 l4 T = some r) : mm_L 0 0 [.ref l0, .int xl1, .int xl2, .ref l3, .ref l4] [] (toS z T) = some (tR z r) := by
  unfold F0_0 at h
  refine Eq.trans (e0_0 ..) ?_
  exact (fb_s (fun _ q => (fun q => by rw [hl1]; exact fsf_ok (v := .inl l1) q) q) h (fun T1 h2 => G0_9  _ _ _ hl1 _ _ hl2 _ _ h2))
theorem GM0 {z : Option mm_O} {T : fS} {r : fR} (l0 : Nat) (xl1 : Int32) (l1 : Nat) (hl1 : xl1 = nI l1) (xl2 : Int32) (l2 : Nat) (hl2 : xl2 = nI l2) (l3 : Nat) (l4 : Nat) (h : F0_0 l0 l1 l2 l3 l4 T = some r) : mm_M 0 [.ref l0, .int xl1, .int xl2, .ref l3, .ref l4] (toS z T) = some (tR z r) := Eq.trans (M_0 ..) (G0_0 l0 xl1 l1 hl1 xl2 l2 hl2 l3 l4 h)
-- 23: HandArchive.<init>
noncomputable def F23_84  (l0 : Nat) (T : fS) : Option fR := (some ((.inl none, T) : fR))
theorem G23_84 {z : Option mm_O} {T : fS} {r : fR}  (l0 : Nat) (h : F23_84  l0 T = some r) : mm_L 23 84 [.ref l0] [] (toS z T) = some (tR z r) := by
  unfold F23_84 at h
  refine Eq.trans (e23_84 ..) ?_
  exact (fr_v h)
noncomputable def F23_75  (l0 : Nat) (T : fS) : Option fR := (fgd T (fbs (fsf (fnw T (.inr (.inl (0, 200, tqz 0 8)) : fO) 200) l0 6 7 (.inr (some T.2.1))) (fun T1 => F23_84  l0 T1)))
theorem G23_75 {z : Option mm_O} {T : fS} {r : fR}  (l0 : Nat) (h : F23_75  l0 T = some r) : mm_L 23 75 [.ref l0] [] (toS z T) = some (tR z r) := by
  unfold F23_75 at h
  refine Eq.trans (e23_75 ..) ?_
  have hg0 := fgd_in h
  replace h := hg0.2
  rw [show mm_new (toS z T) (.inr (.inl (0, 200, fun _ => 0))) 200 = toS z (fnw T (.inr (.inl (0, 200, tqz 0 8)) : fO) 200) from by rw [← toA_0]; exact fnw_ok (o := (.inr (.inl (0, 200, tqz 0 8)) : fO)) hg0.1]
  exact (fb_s (fun _ q => fsf_ok (v := (.inr (some T.2.1))) q) h (fun T1 h2 => G23_84  _ h2))
noncomputable def F23_66  (l0 : Nat) (T : fS) : Option fR := (fgd T (fbs (fsf (fnw T (.inr (.inl (0, 200, tqz 0 8)) : fO) 200) l0 6 6 (.inr (some T.2.1))) (fun T1 => F23_75  l0 T1)))
theorem G23_66 {z : Option mm_O} {T : fS} {r : fR}  (l0 : Nat) (h : F23_66  l0 T = some r) : mm_L 23 66 [.ref l0] [] (toS z T) = some (tR z r) := by
  unfold F23_66 at h
  refine Eq.trans (e23_66 ..) ?_
  have hg0 := fgd_in h
  replace h := hg0.2
  rw [show mm_new (toS z T) (.inr (.inl (0, 200, fun _ => 0))) 200 = toS z (fnw T (.inr (.inl (0, 200, tqz 0 8)) : fO) 200) from by rw [← toA_0]; exact fnw_ok (o := (.inr (.inl (0, 200, tqz 0 8)) : fO)) hg0.1]
  exact (fb_s (fun _ q => fsf_ok (v := (.inr (some T.2.1))) q) h (fun T1 h2 => G23_75  _ h2))
noncomputable def F23_59  (l0 : Nat) (T : fS) : Option fR := (fgd T (fbs (fsf (fnw T (.inr (.inl (0, 3, tqz 0 8)) : fO) 3) l0 6 5 (.inr (some T.2.1))) (fun T1 => F23_66  l0 T1)))
theorem G23_59 {z : Option mm_O} {T : fS} {r : fR}  (l0 : Nat) (h : F23_59  l0 T = some r) : mm_L 23 59 [.ref l0] [] (toS z T) = some (tR z r) := by
  unfold F23_59 at h
  refine Eq.trans (e23_59 ..) ?_
  have hg0 := fgd_in h
  replace h := hg0.2
  rw [show mm_new (toS z T) (.inr (.inl (0, 3, fun _ => 0))) 3 = toS z (fnw T (.inr (.inl (0, 3, tqz 0 8)) : fO) 3) from by rw [← toA_0]; exact fnw_ok (o := (.inr (.inl (0, 3, tqz 0 8)) : fO)) hg0.1]
  exact (fb_s (fun _ q => fsf_ok (v := (.inr (some T.2.1))) q) h (fun T1 h2 => G23_66  _ h2))
noncomputable def F23_56  (l0 : Nat) (s0 : Nat) (s1 : Nat) (T : fS) : Option fR := (fbs (fsf T s1 6 4 (.inr (some s0))) (fun T1 => F23_59  l0 T1))
theorem G23_56 {z : Option mm_O} {T : fS} {r : fR}  (l0 : Nat) (s0 : Nat) (s1 : Nat) (h : F23_56  l0 s0 s1 T = some r) : mm_L 23 56 [.ref l0] [.ref s0, .ref s1] (toS z T) = some (tR z r) := by
  unfold F23_56 at h
  refine Eq.trans (e23_56 ..) ?_
  exact (fb_s (fun _ q => fsf_ok (v := (.inr (some s0))) q) h (fun T1 h2 => G23_59  _ h2))
noncomputable def F23_48  (l0 : Nat) (T : fS) : Option fR := (fgd T (fbs (fin0 (fnw T (.inl (8, [.inl 0, .inr none, .inl 0]) : fO) 3) T.2.1) (fun T1 => F23_56  l0 T.2.1 l0 T1)))
theorem G23_48 {z : Option mm_O} {T : fS} {r : fR}  (l0 : Nat) (h : F23_48  l0 T = some r) : mm_L 23 48 [.ref l0] [] (toS z T) = some (tR z r) := by
  unfold F23_48 at h
  refine Eq.trans (e23_48 ..) ?_
  have hg0 := fgd_in h
  replace h := hg0.2
  rw [show mm_new (toS z T) (.inl (8, [.int 0, .null, .int 0])) 3 = toS z (fnw T (.inl (8, [.inl 0, .inr none, .inl 0]) : fO) 3) from fnw_ok (o := (.inl (8, [.inl 0, .inr none, .inl 0]) : fO)) hg0.1]
  exact (fb_s (fun _ q => fin0_ok q) h (fun T1 h2 => G23_56  _ _ _ h2))
noncomputable def F23_45  (l0 : Nat) (s0 : Nat) (s1 : Nat) (T : fS) : Option fR := (fbs (fsf T s1 6 3 (.inr (some s0))) (fun T1 => F23_48  l0 T1))
theorem G23_45 {z : Option mm_O} {T : fS} {r : fR}  (l0 : Nat) (s0 : Nat) (s1 : Nat) (h : F23_45  l0 s0 s1 T = some r) : mm_L 23 45 [.ref l0] [.ref s0, .ref s1] (toS z T) = some (tR z r) := by
  unfold F23_45 at h
  refine Eq.trans (e23_45 ..) ?_
  exact (fb_s (fun _ q => fsf_ok (v := (.inr (some s0))) q) h (fun T1 h2 => G23_48  _ h2))
noncomputable def F23_37  (l0 : Nat) (T : fS) : Option fR := (fgd T (fbs (fin0 (fnw T (.inl (8, [.inl 0, .inr none, .inl 0]) : fO) 3) T.2.1) (fun T1 => F23_45  l0 T.2.1 l0 T1)))
theorem G23_37 {z : Option mm_O} {T : fS} {r : fR}  (l0 : Nat) (h : F23_37  l0 T = some r) : mm_L 23 37 [.ref l0] [] (toS z T) = some (tR z r) := by
  unfold F23_37 at h
  refine Eq.trans (e23_37 ..) ?_
  have hg0 := fgd_in h
  replace h := hg0.2
  rw [show mm_new (toS z T) (.inl (8, [.int 0, .null, .int 0])) 3 = toS z (fnw T (.inl (8, [.inl 0, .inr none, .inl 0]) : fO) 3) from fnw_ok (o := (.inl (8, [.inl 0, .inr none, .inl 0]) : fO)) hg0.1]
  exact (fb_s (fun _ q => fin0_ok q) h (fun T1 h2 => G23_45  _ _ _ h2))
noncomputable def F23_34  (l0 : Nat) (s0 : Nat) (s1 : Nat) (T : fS) : Option fR := (fbs (fsf T s1 6 2 (.inr (some s0))) (fun T1 => F23_37  l0 T1))
theorem G23_34 {z : Option mm_O} {T : fS} {r : fR}  (l0 : Nat) (s0 : Nat) (s1 : Nat) (h : F23_34  l0 s0 s1 T = some r) : mm_L 23 34 [.ref l0] [.ref s0, .ref s1] (toS z T) = some (tR z r) := by
  unfold F23_34 at h
  refine Eq.trans (e23_34 ..) ?_
  exact (fb_s (fun _ q => fsf_ok (v := (.inr (some s0))) q) h (fun T1 h2 => G23_37  _ h2))
noncomputable def F23_26  (l0 : Nat) (T : fS) : Option fR := (fgd T (fbs (fin0 (fnw T (.inl (8, [.inl 0, .inr none, .inl 0]) : fO) 3) T.2.1) (fun T1 => F23_34  l0 T.2.1 l0 T1)))
theorem G23_26 {z : Option mm_O} {T : fS} {r : fR}  (l0 : Nat) (h : F23_26  l0 T = some r) : mm_L 23 26 [.ref l0] [] (toS z T) = some (tR z r) := by
  unfold F23_26 at h
  refine Eq.trans (e23_26 ..) ?_
  have hg0 := fgd_in h
  replace h := hg0.2
  rw [show mm_new (toS z T) (.inl (8, [.int 0, .null, .int 0])) 3 = toS z (fnw T (.inl (8, [.inl 0, .inr none, .inl 0]) : fO) 3) from fnw_ok (o := (.inl (8, [.inl 0, .inr none, .inl 0]) : fO)) hg0.1]
  exact (fb_s (fun _ q => fin0_ok q) h (fun T1 h2 => G23_34  _ _ _ h2))
noncomputable def F23_23  (l0 : Nat) (s0 : Nat) (s1 : Nat) (T : fS) : Option fR := (fbs (fsf T s1 6 1 (.inr (some s0))) (fun T1 => F23_26  l0 T1))
theorem G23_23 {z : Option mm_O} {T : fS} {r : fR}  (l0 : Nat) (s0 : Nat) (s1 : Nat) (h : F23_23  l0 s0 s1 T = some r) : mm_L 23 23 [.ref l0] [.ref s0, .ref s1] (toS z T) = some (tR z r) := by
  unfold F23_23 at h
  refine Eq.trans (e23_23 ..) ?_
  exact (fb_s (fun _ q => fsf_ok (v := (.inr (some s0))) q) h (fun T1 h2 => G23_26  _ h2))
noncomputable def F23_15  (l0 : Nat) (T : fS) : Option fR := (fgd T (fbs (fin0 (fnw T (.inl (8, [.inl 0, .inr none, .inl 0]) : fO) 3) T.2.1) (fun T1 => F23_23  l0 T.2.1 l0 T1)))
theorem G23_15 {z : Option mm_O} {T : fS} {r : fR}  (l0 : Nat) (h : F23_15  l0 T = some r) : mm_L 23 15 [.ref l0] [] (toS z T) = some (tR z r) := by
  unfold F23_15 at h
  refine Eq.trans (e23_15 ..) ?_
  have hg0 := fgd_in h
  replace h := hg0.2
  rw [show mm_new (toS z T) (.inl (8, [.int 0, .null, .int 0])) 3 = toS z (fnw T (.inl (8, [.inl 0, .inr none, .inl 0]) : fO) 3) from fnw_ok (o := (.inl (8, [.inl 0, .inr none, .inl 0]) : fO)) hg0.1]
  exact (fb_s (fun _ q => fin0_ok q) h (fun T1 h2 => G23_23  _ _ _ h2))
noncomputable def F23_12  (l0 : Nat) (s0 : Nat) (s1 : Nat) (T : fS) : Option fR := (fbs (fsf T s1 6 0 (.inr (some s0))) (fun T1 => F23_15  l0 T1))
theorem G23_12 {z : Option mm_O} {T : fS} {r : fR}  (l0 : Nat) (s0 : Nat) (s1 : Nat) (h : F23_12  l0 s0 s1 T = some r) : mm_L 23 12 [.ref l0] [.ref s0, .ref s1] (toS z T) = some (tR z r) := by
  unfold F23_12 at h
  refine Eq.trans (e23_12 ..) ?_
  exact (fb_s (fun _ q => fsf_ok (v := (.inr (some s0))) q) h (fun T1 h2 => G23_15  _ h2))
noncomputable def F23_0  (l0 : Nat) (T : fS) : Option fR := (fgd T (fbs (fin0 (fnw T (.inl (8, [.inl 0, .inr none, .inl 0]) : fO) 3) T.2.1) (fun T1 => F23_12  l0 T.2.1 l0 T1)))
theorem G23_0 {z : Option mm_O} {T : fS} {r : fR}  (l0 : Nat) (h : F23_0  l0 T = some r) : mm_L 23 0 [.ref l0] [] (toS z T) = some (tR z r) := by
  unfold F23_0 at h
  refine Eq.trans (e23_0 ..) ?_
  have hg0 := fgd_in h
  replace h := hg0.2
  rw [show mm_new (toS z T) (.inl (8, [.int 0, .null, .int 0])) 3 = toS z (fnw T (.inl (8, [.inl 0, .inr none, .inl 0]) : fO) 3) from fnw_ok (o := (.inl (8, [.inl 0, .inr none, .inl 0]) : fO)) hg0.1]
  exact (fb_s (fun _ q => fin0_ok q) h (fun T1 h2 => G23_12  _ _ _ h2))
theorem GM23 {z : Option mm_O} {T : fS} {r : fR} (l0 : Nat) (h : F23_0 l0 T = some r) : mm_M 23 [.ref l0] (toS z T) = some (tR z r) := Eq.trans (M_23 ..) (G23_0 l0 h)
