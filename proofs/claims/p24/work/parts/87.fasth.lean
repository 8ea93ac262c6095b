-- 87: HandArchive.withdraw
noncomputable def F87_10  (l0 : Nat) (l1 : Nat) (s0 : Nat) (T : fS) : Option fR := (some ((.inl (some (.inl s0)), T) : fR))
theorem G87_10 {z : Option mm_O} {T : fS} {r : fR}  (l0 : Nat) (xl1 : Int32) (l1 : Nat) (hl1 : xl1 = nI l1) (xs0 : Int32) (s0 : Nat) (hs0 : xs0 = nI s0) (h : F87_10  l0 l1 s0 T = some r) : mm_L 87 10 [.ref l0, .int xl1] [.int xs0] (toS z T) = some (tR z r) := by
  unfold F87_10 at h
  refine Eq.trans (e87_10 ..) ?_
  exact (fr_i hs0 h)
noncomputable def F87_4  (l0 : Nat) (l1 : Nat) (T : fS) : Option fR := (fKi true (fif (fch T l0 6) (F92_0 l0 l1 4294967295 T) none) (fun v0 T1 => F87_10  l0 l1 v0 T1))
theorem G87_4 {z : Option mm_O} {T : fS} {r : fR}  (l0 : Nat) (xl1 : Int32) (l1 : Nat) (hl1 : xl1 = nI l1) (h : F87_4  l0 l1 T = some r) : mm_L 87 4 [.ref l0, .int xl1] [] (toS z T) = some (tR z r) := by
  unfold F87_4 at h
  refine Eq.trans (e87_4 ..) ?_
  exact (fb_K0i (fun _ q => fb_mo (y := 92) ow_92 q (fun q => GM92 _ _ _ hl1 _ _ (by decide : (-1 : Int32) = nI 4294967295) q)) h (fun v0 T1 h2 => G87_10  _ _ _ hl1 _ _ rfl h2))
noncomputable def F87_0  (l0 : Nat) (l1 : Nat) (T : fS) : Option fR := (fKv true (F97_0 l1 T) (fun T1 => F87_4  l0 l1 T1))
theorem G87_0 {z : Option mm_O} {T : fS} {r : fR}  (l0 : Nat) (xl1 : Int32) (l1 : Nat) (hl1 : xl1 = nI l1) (h : F87_0  l0 l1 T = some r) : mm_L 87 0 [.ref l0, .int xl1] [] (toS z T) = some (tR z r) := by
  unfold F87_0 at h
  refine Eq.trans (e87_0 ..) ?_
  exact (fb_K0v (fun _ q => GM97 _ _ hl1 q) h (fun T1 h2 => G87_4  _ _ _ hl1 h2))
theorem GM87 {z : Option mm_O} {T : fS} {r : fR} (l0 : Nat) (xl1 : Int32) (l1 : Nat) (hl1 : xl1 = nI l1) (h : F87_0 l0 l1 T = some r) : mm_M 87 [.ref l0, .int xl1] (toS z T) = some (tR z r) := Eq.trans (M_87 ..) (G87_0 l0 xl1 l1 hl1 h)
-- 90: HandArchive.agree
noncomputable def F90_27  (l0 : Nat) (l1 : Nat) (l2 : Nat) (l3 : Nat) (l4 : Nat) (l5 : Nat) (T : fS) : Option fR := (some ((.inr 0, fbm T 1 6) : fR))
theorem G90_27 {z : Option mm_O} {T : fS} {r : fR}  (l0 : Nat) (xl1 : Int32) (l1 : Nat) (hl1 : xl1 = nI l1) (xl2 : Int32) (l2 : Nat) (hl2 : xl2 = nI l2) (xl3 : Int32) (l3 : Nat) (hl3 : xl3 = nI l3) (xl4 : Int32) (l4 : Nat) (hl4 : xl4 = nI l4) (xl5 : Int32) (l5 : Nat) (hl5 : xl5 = nI l5) (ul6 : Value) (h : F90_27  l0 l1 l2 l3 l4 l5 T = some r) : mm_L 90 27 [.ref l0, .int xl1, .int xl2, .int xl3, .int xl4, .int xl5, ul6] [] (toS z T) = some (tR z r) := by
  unfold F90_27 at h
  refine Eq.trans (e90_27 ..) ?_
  exact (fr_x h)
noncomputable def F90_108  (l0 : Nat) (l1 : Nat) (l2 : Nat) (l3 : Nat) (l4 : Nat) (l5 : Nat) (l6 : Nat) (s0 : Nat) (T : fS) : Option fR := (some ((.inl (some (.inl s0)), T) : fR))
theorem G90_108 {z : Option mm_O} {T : fS} {r : fR}  (l0 : Nat) (xl1 : Int32) (l1 : Nat) (hl1 : xl1 = nI l1) (xl2 : Int32) (l2 : Nat) (hl2 : xl2 = nI l2) (xl3 : Int32) (l3 : Nat) (hl3 : xl3 = nI l3) (xl4 : Int32) (l4 : Nat) (hl4 : xl4 = nI l4) (xl5 : Int32) (l5 : Nat) (hl5 : xl5 = nI l5) (l6 : Nat) (xs0 : Int32) (s0 : Nat) (hs0 : xs0 = nI s0) (h : F90_108  l0 l1 l2 l3 l4 l5 l6 s0 T = some r) : mm_L 90 108 [.ref l0, .int xl1, .int xl2, .int xl3, .int xl4, .int xl5, .ref l6] [.int xs0] (toS z T) = some (tR z r) := by
  unfold F90_108 at h
  refine Eq.trans (e90_108 ..) ?_
  exact (fr_i hs0 h)
noncomputable def F90_104  (l0 : Nat) (l1 : Nat) (l2 : Nat) (l3 : Nat) (l4 : Nat) (l5 : Nat) (l6 : Nat) (T : fS) : Option fR := (fKi true (fif (fch T l0 6) (F93_0 l0  T) none) (fun v0 T1 => F90_108  l0 l1 l2 l3 l4 l5 l6 v0 T1))
theorem G90_104 {z : Option mm_O} {T : fS} {r : fR}  (l0 : Nat) (xl1 : Int32) (l1 : Nat) (hl1 : xl1 = nI l1) (xl2 : Int32) (l2 : Nat) (hl2 : xl2 = nI l2) (xl3 : Int32) (l3 : Nat) (hl3 : xl3 = nI l3) (xl4 : Int32) (l4 : Nat) (hl4 : xl4 = nI l4) (xl5 : Int32) (l5 : Nat) (hl5 : xl5 = nI l5) (l6 : Nat) (h : F90_104  l0 l1 l2 l3 l4 l5 l6 T = some r) : mm_L 90 104 [.ref l0, .int xl1, .int xl2, .int xl3, .int xl4, .int xl5, .ref l6] [] (toS z T) = some (tR z r) := by
  unfold F90_104 at h
  refine Eq.trans (e90_104 ..) ?_
  exact (fb_K0i (fun _ q => fb_mo (y := 93) ow_93 q (fun q => GM93 _  q)) h (fun v0 T1 h2 => G90_108  _ _ _ hl1 _ _ hl2 _ _ hl3 _ _ hl4 _ _ hl5 _ _ _ rfl h2))
noncomputable def F90_113  (l0 : Nat) (l1 : Nat) (l2 : Nat) (l3 : Nat) (l4 : Nat) (l5 : Nat) (l6 : Nat) (s0 : Nat) (T : fS) : Option fR := (some ((.inl (some (.inl s0)), T) : fR))
theorem G90_113 {z : Option mm_O} {T : fS} {r : fR}  (l0 : Nat) (xl1 : Int32) (l1 : Nat) (hl1 : xl1 = nI l1) (xl2 : Int32) (l2 : Nat) (hl2 : xl2 = nI l2) (xl3 : Int32) (l3 : Nat) (hl3 : xl3 = nI l3) (xl4 : Int32) (l4 : Nat) (hl4 : xl4 = nI l4) (xl5 : Int32) (l5 : Nat) (hl5 : xl5 = nI l5) (l6 : Nat) (xs0 : Int32) (s0 : Nat) (hs0 : xs0 = nI s0) (h : F90_113  l0 l1 l2 l3 l4 l5 l6 s0 T = some r) : mm_L 90 113 [.ref l0, .int xl1, .int xl2, .int xl3, .int xl4, .int xl5, .ref l6] [.int xs0] (toS z T) = some (tR z r) := by
  unfold F90_113 at h
  refine Eq.trans (e90_113 ..) ?_
  exact (fr_i hs0 h)
noncomputable def F90_109  (l0 : Nat) (l1 : Nat) (l2 : Nat) (l3 : Nat) (l4 : Nat) (l5 : Nat) (l6 : Nat) (T : fS) : Option fR := (fKi true (fif (fch T l0 6) (F94_0 l0  T) none) (fun v0 T1 => F90_113  l0 l1 l2 l3 l4 l5 l6 v0 T1))
theorem G90_109 {z : Option mm_O} {T : fS} {r : fR}  (l0 : Nat) (xl1 : Int32) (l1 : Nat) (hl1 : xl1 = nI l1) (xl2 : Int32) (l2 : Nat) (hl2 : xl2 = nI l2) (xl3 : Int32) (l3 : Nat) (hl3 : xl3 = nI l3) (xl4 : Int32) (l4 : Nat) (hl4 : xl4 = nI l4) (xl5 : Int32) (l5 : Nat) (hl5 : xl5 = nI l5) (l6 : Nat) (h : F90_109  l0 l1 l2 l3 l4 l5 l6 T = some r) : mm_L 90 109 [.ref l0, .int xl1, .int xl2, .int xl3, .int xl4, .int xl5, .ref l6] [] (toS z T) = some (tR z r) := by
  unfold F90_109 at h
  refine Eq.trans (e90_109 ..) ?_
  exact (fb_K0i (fun _ q => fb_mo (y := 94) ow_94 q (fun q => GM94 _  q)) h (fun v0 T1 h2 => G90_113  _ _ _ hl1 _ _ hl2 _ _ hl3 _ _ hl4 _ _ hl5 _ _ _ rfl h2))
noncomputable def F90_123  (l0 : Nat) (l1 : Nat) (l2 : Nat) (l3 : Nat) (l4 : Nat) (l5 : Nat) (l6 : Nat) (s0 : Nat) (T : fS) : Option fR := (some ((.inl (some (.inl s0)), T) : fR))
theorem G90_123 {z : Option mm_O} {T : fS} {r : fR}  (l0 : Nat) (xl1 : Int32) (l1 : Nat) (hl1 : xl1 = nI l1) (xl2 : Int32) (l2 : Nat) (hl2 : xl2 = nI l2) (xl3 : Int32) (l3 : Nat) (hl3 : xl3 = nI l3) (xl4 : Int32) (l4 : Nat) (hl4 : xl4 = nI l4) (xl5 : Int32) (l5 : Nat) (hl5 : xl5 = nI l5) (l6 : Nat) (xs0 : Int32) (s0 : Nat) (hs0 : xs0 = nI s0) (h : F90_123  l0 l1 l2 l3 l4 l5 l6 s0 T = some r) : mm_L 90 123 [.ref l0, .int xl1, .int xl2, .int xl3, .int xl4, .int xl5, .ref l6] [.int xs0] (toS z T) = some (tR z r) := by
  unfold F90_123 at h
  refine Eq.trans (e90_123 ..) ?_
  exact (fr_i hs0 h)
noncomputable def F90_114  (l0 : Nat) (l1 : Nat) (l2 : Nat) (l3 : Nat) (l4 : Nat) (l5 : Nat) (l6 : Nat) (T : fS) : Option fR := (fKi true (fif (fch T l0 6) (F95_0 l0 l6 l2 l4 T) none) (fun v0 T1 => F90_123  l0 l1 l2 l3 l4 l5 l6 v0 T1))
theorem G90_114 {z : Option mm_O} {T : fS} {r : fR}  (l0 : Nat) (xl1 : Int32) (l1 : Nat) (hl1 : xl1 = nI l1) (xl2 : Int32) (l2 : Nat) (hl2 : xl2 = nI l2) (xl3 : Int32) (l3 : Nat) (hl3 : xl3 = nI l3) (xl4 : Int32) (l4 : Nat) (hl4 : xl4 = nI l4) (xl5 : Int32) (l5 : Nat) (hl5 : xl5 = nI l5) (l6 : Nat) (h : F90_114  l0 l1 l2 l3 l4 l5 l6 T = some r) : mm_L 90 114 [.ref l0, .int xl1, .int xl2, .int xl3, .int xl4, .int xl5, .ref l6] [] (toS z T) = some (tR z r) := by
  unfold F90_114 at h
  refine Eq.trans (e90_114 ..) ?_
  exact (fb_K0i (fun _ q => fb_mo (y := 95) ow_95 q (fun q => GM95 _ _ _ _ hl2 _ _ hl4 q)) h (fun v0 T1 h2 => G90_123  _ _ _ hl1 _ _ hl2 _ _ hl3 _ _ hl4 _ _ hl5 _ _ _ rfl h2))
noncomputable def F90_74  (l0 : Nat) (l1 : Nat) (l2 : Nat) (l3 : Nat) (l4 : Nat) (l5 : Nat) (l6 : Nat) (T : fS) : Option fR := (fif (ieq l5 0) (F90_104  l0 l1 l2 l3 l4 l5 l6 T) (fif (ieq l5 1) (F90_109  l0 l1 l2 l3 l4 l5 l6 T) (F90_114  l0 l1 l2 l3 l4 l5 l6 T)))
theorem G90_74 {z : Option mm_O} {T : fS} {r : fR}  (l0 : Nat) (xl1 : Int32) (l1 : Nat) (hl1 : xl1 = nI l1) (xl2 : Int32) (l2 : Nat) (hl2 : xl2 = nI l2) (xl3 : Int32) (l3 : Nat) (hl3 : xl3 = nI l3) (xl4 : Int32) (l4 : Nat) (hl4 : xl4 = nI l4) (xl5 : Int32) (l5 : Nat) (hl5 : xl5 = nI l5) (l6 : Nat) (h : F90_74  l0 l1 l2 l3 l4 l5 l6 T = some r) : mm_L 90 74 [.ref l0, .int xl1, .int xl2, .int xl3, .int xl4, .int xl5, .ref l6] [] (toS z T) = some (tR z r) := by
  unfold F90_74 at h
  refine Eq.trans (e90_74 ..) ?_
  exact (fb_if (cj_eq hl5 (rfl : (0 : Int32) = nI 0)) h (fun h1 => (G90_104  _ _ _ hl1 _ _ hl2 _ _ hl3 _ _ hl4 _ _ hl5 _ h1)) (fun h1 => (fb_if (cj_eq hl5 (rfl : (1 : Int32) = nI 1)) h1 (fun h1 => (G90_109  _ _ _ hl1 _ _ hl2 _ _ hl3 _ _ hl4 _ _ hl5 _ h1)) (fun h1 => (G90_114  _ _ _ hl1 _ _ hl2 _ _ hl3 _ _ hl4 _ _ hl5 _ h1)))))
noncomputable def F90_71  (l0 : Nat) (l1 : Nat) (l2 : Nat) (l3 : Nat) (l4 : Nat) (l5 : Nat) (l6 : Nat) (s0 : Nat) (s1 : Nat) (s2 : Nat) (s3 : Nat) (T : fS) : Option fR := (fKv true (fif (fch T s3 0) (F5_0 s3 s2 s1 s0 T) none) (fun T1 => F90_74  l0 l1 l2 l3 l4 l5 l6 T1))
theorem G90_71 {z : Option mm_O} {T : fS} {r : fR}  (l0 : Nat) (xl1 : Int32) (l1 : Nat) (hl1 : xl1 = nI l1) (xl2 : Int32) (l2 : Nat) (hl2 : xl2 = nI l2) (xl3 : Int32) (l3 : Nat) (hl3 : xl3 = nI l3) (xl4 : Int32) (l4 : Nat) (hl4 : xl4 = nI l4) (xl5 : Int32) (l5 : Nat) (hl5 : xl5 = nI l5) (l6 : Nat) (s0 : Nat) (xs1 : Int32) (s1 : Nat) (hs1 : xs1 = nI s1) (xs2 : Int32) (s2 : Nat) (hs2 : xs2 = nI s2) (s3 : Nat) (h : F90_71  l0 l1 l2 l3 l4 l5 l6 s0 s1 s2 s3 T = some r) : mm_L 90 71 [.ref l0, .int xl1, .int xl2, .int xl3, .int xl4, .int xl5, .ref l6] [.ref s0, .int xs1, .int xs2, .ref s3] (toS z T) = some (tR z r) := by
  unfold F90_71 at h
  refine Eq.trans (e90_71 ..) ?_
  exact (fb_K0v (fun _ q => fb_mo (y := 5) ow_5 q (fun q => GM5 _ _ _ hs2 _ _ hs1 _ q)) h (fun T1 h2 => G90_74  _ _ _ hl1 _ _ hl2 _ _ hl3 _ _ hl4 _ _ hl5 _ h2))
noncomputable def F90_62  (l0 : Nat) (l1 : Nat) (l2 : Nat) (l3 : Nat) (l4 : Nat) (l5 : Nat) (l6 : Nat) (T : fS) : Option fR := (fbv (fgr T l0 6 7) (fun v0 => F90_71  l0 l1 l2 l3 l4 l5 l6 v0 l4 l3 l6 T) ((none : Option fR)))
theorem G90_62 {z : Option mm_O} {T : fS} {r : fR}  (l0 : Nat) (xl1 : Int32) (l1 : Nat) (hl1 : xl1 = nI l1) (xl2 : Int32) (l2 : Nat) (hl2 : xl2 = nI l2) (xl3 : Int32) (l3 : Nat) (hl3 : xl3 = nI l3) (xl4 : Int32) (l4 : Nat) (hl4 : xl4 = nI l4) (xl5 : Int32) (l5 : Nat) (hl5 : xl5 = nI l5) (l6 : Nat) (h : F90_62  l0 l1 l2 l3 l4 l5 l6 T = some r) : mm_L 90 62 [.ref l0, .int xl1, .int xl2, .int xl3, .int xl4, .int xl5, .ref l6] [] (toS z T) = some (tR z r) := by
  unfold F90_62 at h
  refine Eq.trans (e90_62 ..) ?_
  exact (fb_v (fun _ q => fgr_ok q) h (fun v0 h2 => G90_71  _ _ _ hl1 _ _ hl2 _ _ hl3 _ _ hl4 _ _ hl5 _ _ _ _ hl4 _ _ hl3 _ h2) (fun h2 => fr_n h2))
noncomputable def F90_59  (l0 : Nat) (l1 : Nat) (l2 : Nat) (l3 : Nat) (l4 : Nat) (l5 : Nat) (l6 : Nat) (s0 : Nat) (s1 : Nat) (s2 : Nat) (s3 : Nat) (T : fS) : Option fR := (fKv true (fif (fch T s3 0) (F5_0 s3 s2 s1 s0 T) none) (fun T1 => F90_62  l0 l1 l2 l3 l4 l5 l6 T1))
theorem G90_59 {z : Option mm_O} {T : fS} {r : fR}  (l0 : Nat) (xl1 : Int32) (l1 : Nat) (hl1 : xl1 = nI l1) (xl2 : Int32) (l2 : Nat) (hl2 : xl2 = nI l2) (xl3 : Int32) (l3 : Nat) (hl3 : xl3 = nI l3) (xl4 : Int32) (l4 : Nat) (hl4 : xl4 = nI l4) (xl5 : Int32) (l5 : Nat) (hl5 : xl5 = nI l5) (l6 : Nat) (s0 : Nat) (xs1 : Int32) (s1 : Nat) (hs1 : xs1 = nI s1) (xs2 : Int32) (s2 : Nat) (hs2 : xs2 = nI s2) (s3 : Nat) (h : F90_59  l0 l1 l2 l3 l4 l5 l6 s0 s1 s2 s3 T = some r) : mm_L 90 59 [.ref l0, .int xl1, .int xl2, .int xl3, .int xl4, .int xl5, .ref l6] [.ref s0, .int xs1, .int xs2, .ref s3] (toS z T) = some (tR z r) := by
  unfold F90_59 at h
  refine Eq.trans (e90_59 ..) ?_
  exact (fb_K0v (fun _ q => fb_mo (y := 5) ow_5 q (fun q => GM5 _ _ _ hs2 _ _ hs1 _ q)) h (fun T1 h2 => G90_62  _ _ _ hl1 _ _ hl2 _ _ hl3 _ _ hl4 _ _ hl5 _ h2))
noncomputable def F90_48  (l0 : Nat) (l1 : Nat) (l2 : Nat) (l3 : Nat) (l4 : Nat) (l5 : Nat) (s0 : Nat) (T : fS) : Option fR := (fbv (fgr T l0 6 6) (fun v0 => F90_59  l0 l1 l2 l3 l4 l5 s0 v0 l4 l2 s0 T) ((none : Option fR)))
theorem G90_48 {z : Option mm_O} {T : fS} {r : fR}  (l0 : Nat) (xl1 : Int32) (l1 : Nat) (hl1 : xl1 = nI l1) (xl2 : Int32) (l2 : Nat) (hl2 : xl2 = nI l2) (xl3 : Int32) (l3 : Nat) (hl3 : xl3 = nI l3) (xl4 : Int32) (l4 : Nat) (hl4 : xl4 = nI l4) (xl5 : Int32) (l5 : Nat) (hl5 : xl5 = nI l5) (ul6 : Value) (s0 : Nat) (h : F90_48  l0 l1 l2 l3 l4 l5 s0 T = some r) : mm_L 90 48 [.ref l0, .int xl1, .int xl2, .int xl3, .int xl4, .int xl5, ul6] [.ref s0] (toS z T) = some (tR z r) := by
  unfold F90_48 at h
  refine Eq.trans (e90_48 ..) ?_
  exact (fb_v (fun _ q => fgr_ok q) h (fun v0 h2 => G90_59  _ _ _ hl1 _ _ hl2 _ _ hl3 _ _ hl4 _ _ hl5 _ _ _ _ hl4 _ _ hl2 _ h2) (fun h2 => fr_n h2))
noncomputable def F90_45  (l0 : Nat) (l1 : Nat) (l2 : Nat) (l3 : Nat) (l4 : Nat) (l5 : Nat) (s0 : Nat) (T : fS) : Option fR := (fif (fch T s0 0) (F90_48  l0 l1 l2 l3 l4 l5 s0 T) none)
theorem G90_45 {z : Option mm_O} {T : fS} {r : fR}  (l0 : Nat) (xl1 : Int32) (l1 : Nat) (hl1 : xl1 = nI l1) (xl2 : Int32) (l2 : Nat) (hl2 : xl2 = nI l2) (xl3 : Int32) (l3 : Nat) (hl3 : xl3 = nI l3) (xl4 : Int32) (l4 : Nat) (hl4 : xl4 = nI l4) (xl5 : Int32) (l5 : Nat) (hl5 : xl5 = nI l5) (ul6 : Value) (s0 : Nat) (h : F90_45  l0 l1 l2 l3 l4 l5 s0 T = some r) : mm_L 90 45 [.ref l0, .int xl1, .int xl2, .int xl3, .int xl4, .int xl5, ul6] [.ref s0] (toS z T) = some (tR z r) := by
  unfold F90_45 at h
  refine Eq.trans (e90_45 ..) ?_
  exact (fb_c h (fun h2 => G90_48  _ _ _ hl1 _ _ hl2 _ _ hl3 _ _ hl4 _ _ hl5 _ _ h2))
noncomputable def F90_41  (l0 : Nat) (l1 : Nat) (l2 : Nat) (l3 : Nat) (l4 : Nat) (l5 : Nat) (s0 : Nat) (T : fS) : Option fR := (fbn (flg T s0 l1) (fun v0 => F90_45  l0 l1 l2 l3 l4 l5 v0 T))
theorem G90_41 {z : Option mm_O} {T : fS} {r : fR}  (l0 : Nat) (xl1 : Int32) (l1 : Nat) (hl1 : xl1 = nI l1) (xl2 : Int32) (l2 : Nat) (hl2 : xl2 = nI l2) (xl3 : Int32) (l3 : Nat) (hl3 : xl3 = nI l3) (xl4 : Int32) (l4 : Nat) (hl4 : xl4 = nI l4) (xl5 : Int32) (l5 : Nat) (hl5 : xl5 = nI l5) (ul6 : Value) (s0 : Nat) (h : F90_41  l0 l1 l2 l3 l4 l5 s0 T = some r) : mm_L 90 41 [.ref l0, .int xl1, .int xl2, .int xl3, .int xl4, .int xl5, ul6] [.ref s0] (toS z T) = some (tR z r) := by
  unfold F90_41 at h
  refine Eq.trans (e90_41 ..) ?_
  exact (fb_g (fun _ q => by rw [hl1]; exact flg_ok q) h (fun v0 h2 => G90_45  _ _ _ hl1 _ _ hl2 _ _ hl3 _ _ hl4 _ _ hl5 _ _ h2))
noncomputable def F90_37  (l0 : Nat) (l1 : Nat) (l2 : Nat) (l3 : Nat) (l4 : Nat) (l5 : Nat) (T : fS) : Option fR := (fbv (fgr T l0 6 4) (fun v0 => F90_41  l0 l1 l2 l3 l4 l5 v0 T) ((none : Option fR)))
theorem G90_37 {z : Option mm_O} {T : fS} {r : fR}  (l0 : Nat) (xl1 : Int32) (l1 : Nat) (hl1 : xl1 = nI l1) (xl2 : Int32) (l2 : Nat) (hl2 : xl2 = nI l2) (xl3 : Int32) (l3 : Nat) (hl3 : xl3 = nI l3) (xl4 : Int32) (l4 : Nat) (hl4 : xl4 = nI l4) (xl5 : Int32) (l5 : Nat) (hl5 : xl5 = nI l5) (ul6 : Value) (h : F90_37  l0 l1 l2 l3 l4 l5 T = some r) : mm_L 90 37 [.ref l0, .int xl1, .int xl2, .int xl3, .int xl4, .int xl5, ul6] [] (toS z T) = some (tR z r) := by
  unfold F90_37 at h
  refine Eq.trans (e90_37 ..) ?_
  exact (fb_v (fun _ q => fgr_ok q) h (fun v0 h2 => G90_41  _ _ _ hl1 _ _ hl2 _ _ hl3 _ _ hl4 _ _ hl5 _ _ h2) (fun h2 => fr_n h2))
noncomputable def F90_24  (l0 : Nat) (l1 : Nat) (l2 : Nat) (l3 : Nat) (l4 : Nat) (l5 : Nat) (s0 : Nat) (T : fS) : Option fR := (fif (ieq s0 0) (F90_27  l0 l1 l2 l3 l4 l5 T) (F90_37  l0 l1 l2 l3 l4 l5 T))
theorem G90_24 {z : Option mm_O} {T : fS} {r : fR}  (l0 : Nat) (xl1 : Int32) (l1 : Nat) (hl1 : xl1 = nI l1) (xl2 : Int32) (l2 : Nat) (hl2 : xl2 = nI l2) (xl3 : Int32) (l3 : Nat) (hl3 : xl3 = nI l3) (xl4 : Int32) (l4 : Nat) (hl4 : xl4 = nI l4) (xl5 : Int32) (l5 : Nat) (hl5 : xl5 = nI l5) (ul6 : Value) (xs0 : Int32) (s0 : Nat) (hs0 : xs0 = nI s0) (h : F90_24  l0 l1 l2 l3 l4 l5 s0 T = some r) : mm_L 90 24 [.ref l0, .int xl1, .int xl2, .int xl3, .int xl4, .int xl5, ul6] [.int xs0] (toS z T) = some (tR z r) := by
  unfold F90_24 at h
  refine Eq.trans (e90_24 ..) ?_
  exact (fb_if (cj_eq hs0 (rfl : (0 : Int32) = nI 0)) h (fun h1 => (G90_27  _ _ _ hl1 _ _ hl2 _ _ hl3 _ _ hl4 _ _ hl5 _ h1)) (fun h1 => (G90_37  _ _ _ hl1 _ _ hl2 _ _ hl3 _ _ hl4 _ _ hl5 _ h1)))
noncomputable def F90_18  (l0 : Nat) (l1 : Nat) (l2 : Nat) (l3 : Nat) (l4 : Nat) (l5 : Nat) (T : fS) : Option fR := (fKi false (F101_0 l5 3 T) (fun v0 T1 => F90_24  l0 l1 l2 l3 l4 l5 v0 T1))
theorem G90_18 {z : Option mm_O} {T : fS} {r : fR}  (l0 : Nat) (xl1 : Int32) (l1 : Nat) (hl1 : xl1 = nI l1) (xl2 : Int32) (l2 : Nat) (hl2 : xl2 = nI l2) (xl3 : Int32) (l3 : Nat) (hl3 : xl3 = nI l3) (xl4 : Int32) (l4 : Nat) (hl4 : xl4 = nI l4) (xl5 : Int32) (l5 : Nat) (hl5 : xl5 = nI l5) (ul6 : Value) (h : F90_18  l0 l1 l2 l3 l4 l5 T = some r) : mm_L 90 18 [.ref l0, .int xl1, .int xl2, .int xl3, .int xl4, .int xl5, ul6] [] (toS z T) = some (tR z r) := by
  unfold F90_18 at h
  refine Eq.trans (e90_18 ..) ?_
  exact (fb_K2i (fun _ q => GM101 _ _ hl5 _ _ (rfl : (3 : Int32) = nI 3) q) h (fun v0 T1 h2 => G90_24  _ _ _ hl1 _ _ hl2 _ _ hl3 _ _ hl4 _ _ hl5 _ _ _ rfl h2))
noncomputable def F90_13  (l0 : Nat) (l1 : Nat) (l2 : Nat) (l3 : Nat) (l4 : Nat) (l5 : Nat) (T : fS) : Option fR := (fKv true (F100_0 l4 T) (fun T1 => F90_18  l0 l1 l2 l3 l4 l5 T1))
theorem G90_13 {z : Option mm_O} {T : fS} {r : fR}  (l0 : Nat) (xl1 : Int32) (l1 : Nat) (hl1 : xl1 = nI l1) (xl2 : Int32) (l2 : Nat) (hl2 : xl2 = nI l2) (xl3 : Int32) (l3 : Nat) (hl3 : xl3 = nI l3) (xl4 : Int32) (l4 : Nat) (hl4 : xl4 = nI l4) (xl5 : Int32) (l5 : Nat) (hl5 : xl5 = nI l5) (ul6 : Value) (h : F90_13  l0 l1 l2 l3 l4 l5 T = some r) : mm_L 90 13 [.ref l0, .int xl1, .int xl2, .int xl3, .int xl4, .int xl5, ul6] [] (toS z T) = some (tR z r) := by
  unfold F90_13 at h
  refine Eq.trans (e90_13 ..) ?_
  exact (fb_K0v (fun _ q => GM100 _ _ hl4 q) h (fun T1 h2 => G90_18  _ _ _ hl1 _ _ hl2 _ _ hl3 _ _ hl4 _ _ hl5 _ h2))
noncomputable def F90_9  (l0 : Nat) (l1 : Nat) (l2 : Nat) (l3 : Nat) (l4 : Nat) (l5 : Nat) (T : fS) : Option fR := (fKv true (F99_0 l3 T) (fun T1 => F90_13  l0 l1 l2 l3 l4 l5 T1))
theorem G90_9 {z : Option mm_O} {T : fS} {r : fR}  (l0 : Nat) (xl1 : Int32) (l1 : Nat) (hl1 : xl1 = nI l1) (xl2 : Int32) (l2 : Nat) (hl2 : xl2 = nI l2) (xl3 : Int32) (l3 : Nat) (hl3 : xl3 = nI l3) (xl4 : Int32) (l4 : Nat) (hl4 : xl4 = nI l4) (xl5 : Int32) (l5 : Nat) (hl5 : xl5 = nI l5) (ul6 : Value) (h : F90_9  l0 l1 l2 l3 l4 l5 T = some r) : mm_L 90 9 [.ref l0, .int xl1, .int xl2, .int xl3, .int xl4, .int xl5, ul6] [] (toS z T) = some (tR z r) := by
  unfold F90_9 at h
  refine Eq.trans (e90_9 ..) ?_
  exact (fb_K0v (fun _ q => GM99 _ _ hl3 q) h (fun T1 h2 => G90_13  _ _ _ hl1 _ _ hl2 _ _ hl3 _ _ hl4 _ _ hl5 _ h2))
noncomputable def F90_5  (l0 : Nat) (l1 : Nat) (l2 : Nat) (l3 : Nat) (l4 : Nat) (l5 : Nat) (T : fS) : Option fR := (fKv true (F99_0 l2 T) (fun T1 => F90_9  l0 l1 l2 l3 l4 l5 T1))
theorem G90_5 {z : Option mm_O} {T : fS} {r : fR}  (l0 : Nat) (xl1 : Int32) (l1 : Nat) (hl1 : xl1 = nI l1) (xl2 : Int32) (l2 : Nat) (hl2 : xl2 = nI l2) (xl3 : Int32) (l3 : Nat) (hl3 : xl3 = nI l3) (xl4 : Int32) (l4 : Nat) (hl4 : xl4 = nI l4) (xl5 : Int32) (l5 : Nat) (hl5 : xl5 = nI l5) (ul6 : Value) (h : F90_5  l0 l1 l2 l3 l4 l5 T = some r) : mm_L 90 5 [.ref l0, .int xl1, .int xl2, .int xl3, .int xl4, .int xl5, ul6] [] (toS z T) = some (tR z r) := by
  unfold F90_5 at h
  refine Eq.trans (e90_5 ..) ?_
  exact (fb_K0v (fun _ q => GM99 _ _ hl2 q) h (fun T1 h2 => G90_9  _ _ _ hl1 _ _ hl2 _ _ hl3 _ _ hl4 _ _ hl5 _ h2))
noncomputable def F90_0  (l0 : Nat) (l1 : Nat) (l2 : Nat) (l3 : Nat) (l4 : Nat) (l5 : Nat) (T : fS) : Option fR := (fKv true (fif (fch T l0 6) (F96_0 l0 l1 T) none) (fun T1 => F90_5  l0 l1 l2 l3 l4 l5 T1))
theorem G90_0 {z : Option mm_O} {T : fS} {r : fR}  (l0 : Nat) (xl1 : Int32) (l1 : Nat) (hl1 : xl1 = nI l1) (xl2 : Int32) (l2 : Nat) (hl2 : xl2 = nI l2) (xl3 : Int32) (l3 : Nat) (hl3 : xl3 = nI l3) (xl4 : Int32) (l4 : Nat) (hl4 : xl4 = nI l4) (xl5 : Int32) (l5 : Nat) (hl5 : xl5 = nI l5) (ul6 : Value) (h : F90_0  l0 l1 l2 l3 l4 l5 T = some r) : mm_L 90 0 [.ref l0, .int xl1, .int xl2, .int xl3, .int xl4, .int xl5, ul6] [] (toS z T) = some (tR z r) := by
  unfold F90_0 at h
  refine Eq.trans (e90_0 ..) ?_
  exact (fb_K0v (fun _ q => fb_mo (y := 96) ow_96 q (fun q => GM96 _ _ _ hl1 q)) h (fun T1 h2 => G90_5  _ _ _ hl1 _ _ hl2 _ _ hl3 _ _ hl4 _ _ hl5 _ h2))
theorem GM90 {z : Option mm_O} {T : fS} {r : fR} (l0 : Nat) (xl1 : Int32) (l1 : Nat) (hl1 : xl1 = nI l1) (xl2 : Int32) (l2 : Nat) (hl2 : xl2 = nI l2) (xl3 : Int32) (l3 : Nat) (hl3 : xl3 = nI l3) (xl4 : Int32) (l4 : Nat) (hl4 : xl4 = nI l4) (xl5 : Int32) (l5 : Nat) (hl5 : xl5 = nI l5) (h : F90_0 l0 l1 l2 l3 l4 l5 T = some r) : mm_M 90 [.ref l0, .int xl1, .int xl2, .int xl3, .int xl4, .int xl5] (toS z T) = some (tR z r) := Eq.trans (M_90 ..) (G90_0 l0 xl1 l1 hl1 xl2 l2 hl2 xl3 l3 hl3 xl4 l4 hl4 xl5 l5 hl5 _ h)
-- 24: HandArchive.sign
noncomputable def F24_66  (l0 : Nat) (l1 : Nat) (l2 : Nat) (l3 : Nat) (l4 : Nat) (l5 : Nat) (l6 : Nat) (l7 : Nat) (l8 : Nat) (T : fS) : Option fR := (some ((.inr 0, fbm T 1 6) : fR))
theorem G24_66 {z : Option mm_O} {T : fS} {r : fR}  (l0 : Nat) (xl1 : Int32) (l1 : Nat) (hl1 : xl1 = nI l1) (xl2 : Int32) (l2 : Nat) (hl2 : xl2 = nI l2) (xl3 : Int32) (l3 : Nat) (hl3 : xl3 = nI l3) (xl4 : Int32) (l4 : Nat) (hl4 : xl4 = nI l4) (xl5 : Int32) (l5 : Nat) (hl5 : xl5 = nI l5) (xl6 : Int32) (l6 : Nat) (hl6 : xl6 = nI l6) (xl7 : Int32) (l7 : Nat) (hl7 : xl7 = nI l7) (xl8 : Int32) (l8 : Nat) (hl8 : xl8 = nI l8) (ul9 : Value) (h : F24_66  l0 l1 l2 l3 l4 l5 l6 l7 l8 T = some r) : mm_L 24 66 [.ref l0, .int xl1, .int xl2, .int xl3, .int xl4, .int xl5, .int xl6, .int xl7, .int xl8, ul9] [] (toS z T) = some (tR z r) := by
  unfold F24_66 at h
  refine Eq.trans (e24_66 ..) ?_
  exact (fr_x h)
noncomputable def F24_91  (l0 : Nat) (l1 : Nat) (l2 : Nat) (l3 : Nat) (l4 : Nat) (l5 : Nat) (l6 : Nat) (l7 : Nat) (l8 : Nat) (T : fS) : Option fR := (some ((.inr 0, fbm T 1 6) : fR))
theorem G24_91 {z : Option mm_O} {T : fS} {r : fR}  (l0 : Nat) (xl1 : Int32) (l1 : Nat) (hl1 : xl1 = nI l1) (xl2 : Int32) (l2 : Nat) (hl2 : xl2 = nI l2) (xl3 : Int32) (l3 : Nat) (hl3 : xl3 = nI l3) (xl4 : Int32) (l4 : Nat) (hl4 : xl4 = nI l4) (xl5 : Int32) (l5 : Nat) (hl5 : xl5 = nI l5) (xl6 : Int32) (l6 : Nat) (hl6 : xl6 = nI l6) (xl7 : Int32) (l7 : Nat) (hl7 : xl7 = nI l7) (xl8 : Int32) (l8 : Nat) (hl8 : xl8 = nI l8) (ul9 : Value) (h : F24_91  l0 l1 l2 l3 l4 l5 l6 l7 l8 T = some r) : mm_L 24 91 [.ref l0, .int xl1, .int xl2, .int xl3, .int xl4, .int xl5, .int xl6, .int xl7, .int xl8, ul9] [] (toS z T) = some (tR z r) := by
  unfold F24_91 at h
  refine Eq.trans (e24_91 ..) ?_
  exact (fr_x h)
noncomputable def F24_113  (l0 : Nat) (l1 : Nat) (l2 : Nat) (l3 : Nat) (l4 : Nat) (l5 : Nat) (l6 : Nat) (l7 : Nat) (l8 : Nat) (T : fS) : Option fR := (some ((.inr 1, fbm T 1 6) : fR))
theorem G24_113 {z : Option mm_O} {T : fS} {r : fR}  (l0 : Nat) (xl1 : Int32) (l1 : Nat) (hl1 : xl1 = nI l1) (xl2 : Int32) (l2 : Nat) (hl2 : xl2 = nI l2) (xl3 : Int32) (l3 : Nat) (hl3 : xl3 = nI l3) (xl4 : Int32) (l4 : Nat) (hl4 : xl4 = nI l4) (xl5 : Int32) (l5 : Nat) (hl5 : xl5 = nI l5) (xl6 : Int32) (l6 : Nat) (hl6 : xl6 = nI l6) (xl7 : Int32) (l7 : Nat) (hl7 : xl7 = nI l7) (xl8 : Int32) (l8 : Nat) (hl8 : xl8 = nI l8) (ul9 : Value) (h : F24_113  l0 l1 l2 l3 l4 l5 l6 l7 l8 T = some r) : mm_L 24 113 [.ref l0, .int xl1, .int xl2, .int xl3, .int xl4, .int xl5, .int xl6, .int xl7, .int xl8, ul9] [] (toS z T) = some (tR z r) := by
  unfold F24_113 at h
  refine Eq.trans (e24_113 ..) ?_
  exact (fr_x h)
noncomputable def F24_153  (l0 : Nat) (l1 : Nat) (l2 : Nat) (l3 : Nat) (l4 : Nat) (l5 : Nat) (l6 : Nat) (l7 : Nat) (l8 : Nat) (l9 : Nat) (T : fS) : Option fR := (some ((.inr 1, fbm T 1 6) : fR))
theorem G24_153 {z : Option mm_O} {T : fS} {r : fR}  (l0 : Nat) (xl1 : Int32) (l1 : Nat) (hl1 : xl1 = nI l1) (xl2 : Int32) (l2 : Nat) (hl2 : xl2 = nI l2) (xl3 : Int32) (l3 : Nat) (hl3 : xl3 = nI l3) (xl4 : Int32) (l4 : Nat) (hl4 : xl4 = nI l4) (xl5 : Int32) (l5 : Nat) (hl5 : xl5 = nI l5) (xl6 : Int32) (l6 : Nat) (hl6 : xl6 = nI l6) (xl7 : Int32) (l7 : Nat) (hl7 : xl7 = nI l7) (xl8 : Int32) (l8 : Nat) (hl8 : xl8 = nI l8) (l9 : Nat) (h : F24_153  l0 l1 l2 l3 l4 l5 l6 l7 l8 l9 T = some r) : mm_L 24 153 [.ref l0, .int xl1, .int xl2, .int xl3, .int xl4, .int xl5, .int xl6, .int xl7, .int xl8, .ref l9] [] (toS z T) = some (tR z r) := by
  unfold F24_153 at h
  refine Eq.trans (e24_153 ..) ?_
  exact (fr_x h)
noncomputable def F24_180  (l0 : Nat) (l1 : Nat) (l2 : Nat) (l3 : Nat) (l4 : Nat) (l5 : Nat) (l6 : Nat) (l7 : Nat) (l8 : Nat) (l9 : Nat) (s0 : Nat) (T : fS) : Option fR := (some ((.inl (some (.inl (iS s0 1))), T) : fR))
theorem G24_180 {z : Option mm_O} {T : fS} {r : fR}  (l0 : Nat) (xl1 : Int32) (l1 : Nat) (hl1 : xl1 = nI l1) (xl2 : Int32) (l2 : Nat) (hl2 : xl2 = nI l2) (xl3 : Int32) (l3 : Nat) (hl3 : xl3 = nI l3) (xl4 : Int32) (l4 : Nat) (hl4 : xl4 = nI l4) (xl5 : Int32) (l5 : Nat) (hl5 : xl5 = nI l5) (xl6 : Int32) (l6 : Nat) (hl6 : xl6 = nI l6) (xl7 : Int32) (l7 : Nat) (hl7 : xl7 = nI l7) (xl8 : Int32) (l8 : Nat) (hl8 : xl8 = nI l8) (l9 : Nat) (xs0 : Int32) (s0 : Nat) (hs0 : xs0 = nI s0) (h : F24_180  l0 l1 l2 l3 l4 l5 l6 l7 l8 l9 s0 T = some r) : mm_L 24 180 [.ref l0, .int xl1, .int xl2, .int xl3, .int xl4, .int xl5, .int xl6, .int xl7, .int xl8, .ref l9] [.int xs0] (toS z T) = some (tR z r) := by
  unfold F24_180 at h
  refine Eq.trans (e24_180 ..) ?_
  exact (fr_i (iS_ok hs0 (rfl : (1 : Int32) = nI 1)) h)
noncomputable def F24_177  (l0 : Nat) (l1 : Nat) (l2 : Nat) (l3 : Nat) (l4 : Nat) (l5 : Nat) (l6 : Nat) (l7 : Nat) (l8 : Nat) (l9 : Nat) (s0 : Nat) (T : fS) : Option fR := (fbn (flz T s0) (fun v0 => F24_180  l0 l1 l2 l3 l4 l5 l6 l7 l8 l9 v0 T))
theorem G24_177 {z : Option mm_O} {T : fS} {r : fR}  (l0 : Nat) (xl1 : Int32) (l1 : Nat) (hl1 : xl1 = nI l1) (xl2 : Int32) (l2 : Nat) (hl2 : xl2 = nI l2) (xl3 : Int32) (l3 : Nat) (hl3 : xl3 = nI l3) (xl4 : Int32) (l4 : Nat) (hl4 : xl4 = nI l4) (xl5 : Int32) (l5 : Nat) (hl5 : xl5 = nI l5) (xl6 : Int32) (l6 : Nat) (hl6 : xl6 = nI l6) (xl7 : Int32) (l7 : Nat) (hl7 : xl7 = nI l7) (xl8 : Int32) (l8 : Nat) (hl8 : xl8 = nI l8) (l9 : Nat) (s0 : Nat) (h : F24_177  l0 l1 l2 l3 l4 l5 l6 l7 l8 l9 s0 T = some r) : mm_L 24 177 [.ref l0, .int xl1, .int xl2, .int xl3, .int xl4, .int xl5, .int xl6, .int xl7, .int xl8, .ref l9] [.ref s0] (toS z T) = some (tR z r) := by
  unfold F24_177 at h
  refine Eq.trans (e24_177 ..) ?_
  exact (fb_n (fun _ q => flz_ok q) h (fun v0 h2 => G24_180  _ _ _ hl1 _ _ hl2 _ _ hl3 _ _ hl4 _ _ hl5 _ _ hl6 _ _ hl7 _ _ hl8 _ _ _ rfl h2))
noncomputable def F24_172  (l0 : Nat) (l1 : Nat) (l2 : Nat) (l3 : Nat) (l4 : Nat) (l5 : Nat) (l6 : Nat) (l7 : Nat) (l8 : Nat) (l9 : Nat) (s0 : Nat) (T : fS) : Option fR := (fbv (fgr T l0 6 0) (fun v0 => F24_177  l0 l1 l2 l3 l4 l5 l6 l7 l8 l9 v0 T) ((none : Option fR)))
theorem G24_172 {z : Option mm_O} {T : fS} {r : fR}  (l0 : Nat) (xl1 : Int32) (l1 : Nat) (hl1 : xl1 = nI l1) (xl2 : Int32) (l2 : Nat) (hl2 : xl2 = nI l2) (xl3 : Int32) (l3 : Nat) (hl3 : xl3 = nI l3) (xl4 : Int32) (l4 : Nat) (hl4 : xl4 = nI l4) (xl5 : Int32) (l5 : Nat) (hl5 : xl5 = nI l5) (xl6 : Int32) (l6 : Nat) (hl6 : xl6 = nI l6) (xl7 : Int32) (l7 : Nat) (hl7 : xl7 = nI l7) (xl8 : Int32) (l8 : Nat) (hl8 : xl8 = nI l8) (l9 : Nat) (xs0 : Int32) (s0 : Nat) (hs0 : xs0 = nI s0) (h : F24_172  l0 l1 l2 l3 l4 l5 l6 l7 l8 l9 s0 T = some r) : mm_L 24 172 [.ref l0, .int xl1, .int xl2, .int xl3, .int xl4, .int xl5, .int xl6, .int xl7, .int xl8, .ref l9] [.int xs0] (toS z T) = some (tR z r) := by
  unfold F24_172 at h
  refine Eq.trans (e24_172 ..) ?_
  exact (fb_v (fun _ q => fgr_ok q) h (fun v0 h2 => G24_177  _ _ _ hl1 _ _ hl2 _ _ hl3 _ _ hl4 _ _ hl5 _ _ hl6 _ _ hl7 _ _ hl8 _ _ h2) (fun h2 => fr_n h2))
noncomputable def F24_167  (l0 : Nat) (l1 : Nat) (l2 : Nat) (l3 : Nat) (l4 : Nat) (l5 : Nat) (l6 : Nat) (l7 : Nat) (l8 : Nat) (l9 : Nat) (s0 : Nat) (T : fS) : Option fR := (fbs (fla T s0 l9) (fun T1 => F24_172  l0 l1 l2 l3 l4 l5 l6 l7 l8 l9 1 T1))
theorem G24_167 {z : Option mm_O} {T : fS} {r : fR}  (l0 : Nat) (xl1 : Int32) (l1 : Nat) (hl1 : xl1 = nI l1) (xl2 : Int32) (l2 : Nat) (hl2 : xl2 = nI l2) (xl3 : Int32) (l3 : Nat) (hl3 : xl3 = nI l3) (xl4 : Int32) (l4 : Nat) (hl4 : xl4 = nI l4) (xl5 : Int32) (l5 : Nat) (hl5 : xl5 = nI l5) (xl6 : Int32) (l6 : Nat) (hl6 : xl6 = nI l6) (xl7 : Int32) (l7 : Nat) (hl7 : xl7 = nI l7) (xl8 : Int32) (l8 : Nat) (hl8 : xl8 = nI l8) (l9 : Nat) (s0 : Nat) (h : F24_167  l0 l1 l2 l3 l4 l5 l6 l7 l8 l9 s0 T = some r) : mm_L 24 167 [.ref l0, .int xl1, .int xl2, .int xl3, .int xl4, .int xl5, .int xl6, .int xl7, .int xl8, .ref l9] [.ref s0] (toS z T) = some (tR z r) := by
  unfold F24_167 at h
  refine Eq.trans (e24_167 ..) ?_
  exact (fb_s (fun _ q => fla_ok q) h (fun T1 h2 => G24_172  _ _ _ hl1 _ _ hl2 _ _ hl3 _ _ hl4 _ _ hl5 _ _ hl6 _ _ hl7 _ _ hl8 _ _ _ (rfl : (1 : Int32) = nI 1) h2))
noncomputable def F24_163  (l0 : Nat) (l1 : Nat) (l2 : Nat) (l3 : Nat) (l4 : Nat) (l5 : Nat) (l6 : Nat) (l7 : Nat) (l8 : Nat) (l9 : Nat) (T : fS) : Option fR := (fbv (fgr T l0 6 0) (fun v0 => F24_167  l0 l1 l2 l3 l4 l5 l6 l7 l8 l9 v0 T) ((none : Option fR)))
theorem G24_163 {z : Option mm_O} {T : fS} {r : fR}  (l0 : Nat) (xl1 : Int32) (l1 : Nat) (hl1 : xl1 = nI l1) (xl2 : Int32) (l2 : Nat) (hl2 : xl2 = nI l2) (xl3 : Int32) (l3 : Nat) (hl3 : xl3 = nI l3) (xl4 : Int32) (l4 : Nat) (hl4 : xl4 = nI l4) (xl5 : Int32) (l5 : Nat) (hl5 : xl5 = nI l5) (xl6 : Int32) (l6 : Nat) (hl6 : xl6 = nI l6) (xl7 : Int32) (l7 : Nat) (hl7 : xl7 = nI l7) (xl8 : Int32) (l8 : Nat) (hl8 : xl8 = nI l8) (l9 : Nat) (h : F24_163  l0 l1 l2 l3 l4 l5 l6 l7 l8 l9 T = some r) : mm_L 24 163 [.ref l0, .int xl1, .int xl2, .int xl3, .int xl4, .int xl5, .int xl6, .int xl7, .int xl8, .ref l9] [] (toS z T) = some (tR z r) := by
  unfold F24_163 at h
  refine Eq.trans (e24_163 ..) ?_
  exact (fb_v (fun _ q => fgr_ok q) h (fun v0 h2 => G24_167  _ _ _ hl1 _ _ hl2 _ _ hl3 _ _ hl4 _ _ hl5 _ _ hl6 _ _ hl7 _ _ hl8 _ _ h2) (fun h2 => fr_n h2))
noncomputable def F24_149  (l0 : Nat) (l1 : Nat) (l2 : Nat) (l3 : Nat) (l4 : Nat) (l5 : Nat) (l6 : Nat) (l7 : Nat) (l8 : Nat) (l9 : Nat) (s0 : Nat) (T : fS) : Option fR := (fif (ieq s0 4294967295) (F24_163  l0 l1 l2 l3 l4 l5 l6 l7 l8 l9 T) (F24_153  l0 l1 l2 l3 l4 l5 l6 l7 l8 l9 T))
theorem G24_149 {z : Option mm_O} {T : fS} {r : fR}  (l0 : Nat) (xl1 : Int32) (l1 : Nat) (hl1 : xl1 = nI l1) (xl2 : Int32) (l2 : Nat) (hl2 : xl2 = nI l2) (xl3 : Int32) (l3 : Nat) (hl3 : xl3 = nI l3) (xl4 : Int32) (l4 : Nat) (hl4 : xl4 = nI l4) (xl5 : Int32) (l5 : Nat) (hl5 : xl5 = nI l5) (xl6 : Int32) (l6 : Nat) (hl6 : xl6 = nI l6) (xl7 : Int32) (l7 : Nat) (hl7 : xl7 = nI l7) (xl8 : Int32) (l8 : Nat) (hl8 : xl8 = nI l8) (l9 : Nat) (xs0 : Int32) (s0 : Nat) (hs0 : xs0 = nI s0) (h : F24_149  l0 l1 l2 l3 l4 l5 l6 l7 l8 l9 s0 T = some r) : mm_L 24 149 [.ref l0, .int xl1, .int xl2, .int xl3, .int xl4, .int xl5, .int xl6, .int xl7, .int xl8, .ref l9] [.int xs0] (toS z T) = some (tR z r) := by
  unfold F24_149 at h
  refine Eq.trans (e24_149 ..) ?_
  exact (fb_if (cj_eq hs0 (by decide : (-1 : Int32) = nI 4294967295)) h (fun h1 => (G24_163  _ _ _ hl1 _ _ hl2 _ _ hl3 _ _ hl4 _ _ hl5 _ _ hl6 _ _ hl7 _ _ hl8 _ h1)) (fun h1 => (G24_153  _ _ _ hl1 _ _ hl2 _ _ hl3 _ _ hl4 _ _ hl5 _ _ hl6 _ _ hl7 _ _ hl8 _ h1)))
noncomputable def F24_141  (l0 : Nat) (l1 : Nat) (l2 : Nat) (l3 : Nat) (l4 : Nat) (l5 : Nat) (l6 : Nat) (l7 : Nat) (l8 : Nat) (s0 : Nat) (T : fS) : Option fR := (fKi true (fif (fch T l0 6) (F31_0 l0 s0 T) none) (fun v0 T1 => F24_149  l0 l1 l2 l3 l4 l5 l6 l7 l8 s0 v0 T1))
theorem G24_141 {z : Option mm_O} {T : fS} {r : fR}  (l0 : Nat) (xl1 : Int32) (l1 : Nat) (hl1 : xl1 = nI l1) (xl2 : Int32) (l2 : Nat) (hl2 : xl2 = nI l2) (xl3 : Int32) (l3 : Nat) (hl3 : xl3 = nI l3) (xl4 : Int32) (l4 : Nat) (hl4 : xl4 = nI l4) (xl5 : Int32) (l5 : Nat) (hl5 : xl5 = nI l5) (xl6 : Int32) (l6 : Nat) (hl6 : xl6 = nI l6) (xl7 : Int32) (l7 : Nat) (hl7 : xl7 = nI l7) (xl8 : Int32) (l8 : Nat) (hl8 : xl8 = nI l8) (ul9 : Value) (s0 : Nat) (h : F24_141  l0 l1 l2 l3 l4 l5 l6 l7 l8 s0 T = some r) : mm_L 24 141 [.ref l0, .int xl1, .int xl2, .int xl3, .int xl4, .int xl5, .int xl6, .int xl7, .int xl8, ul9] [.ref s0] (toS z T) = some (tR z r) := by
  unfold F24_141 at h
  refine Eq.trans (e24_141 ..) ?_
  exact (fb_K0i (fun _ q => fb_mo (y := 31) ow_31 q (fun q => GM31 _ _ q)) h (fun v0 T1 h2 => G24_149  _ _ _ hl1 _ _ hl2 _ _ hl3 _ _ hl4 _ _ hl5 _ _ hl6 _ _ hl7 _ _ hl8 _ _ _ rfl h2))
noncomputable def F24_123  (l0 : Nat) (l1 : Nat) (l2 : Nat) (l3 : Nat) (l4 : Nat) (l5 : Nat) (l6 : Nat) (l7 : Nat) (l8 : Nat) (T : fS) : Option fR := (fgd T (fKv false (fif (fch (fnw T (.inl (1, [.inl 0, .inl 0, .inl 0, .inl 0, .inl 0, .inl 0, .inl 0]) : fO) 7) T.2.1 1) (F6_0 T.2.1 l1 l2 l3 l4 l5 l6 l7 (fnw T (.inl (1, [.inl 0, .inl 0, .inl 0, .inl 0, .inl 0, .inl 0, .inl 0]) : fO) 7)) none) (fun T1 => F24_141  l0 l1 l2 l3 l4 l5 l6 l7 l8 T.2.1 T1)))
theorem G24_123 {z : Option mm_O} {T : fS} {r : fR}  (l0 : Nat) (xl1 : Int32) (l1 : Nat) (hl1 : xl1 = nI l1) (xl2 : Int32) (l2 : Nat) (hl2 : xl2 = nI l2) (xl3 : Int32) (l3 : Nat) (hl3 : xl3 = nI l3) (xl4 : Int32) (l4 : Nat) (hl4 : xl4 = nI l4) (xl5 : Int32) (l5 : Nat) (hl5 : xl5 = nI l5) (xl6 : Int32) (l6 : Nat) (hl6 : xl6 = nI l6) (xl7 : Int32) (l7 : Nat) (hl7 : xl7 = nI l7) (xl8 : Int32) (l8 : Nat) (hl8 : xl8 = nI l8) (ul9 : Value) (h : F24_123  l0 l1 l2 l3 l4 l5 l6 l7 l8 T = some r) : mm_L 24 123 [.ref l0, .int xl1, .int xl2, .int xl3, .int xl4, .int xl5, .int xl6, .int xl7, .int xl8, ul9] [] (toS z T) = some (tR z r) := by
  unfold F24_123 at h
  refine Eq.trans (e24_123 ..) ?_
  have hg0 := fgd_in h
  replace h := hg0.2
  rw [show mm_new (toS z T) (.inl (1, [.int 0, .int 0, .int 0, .int 0, .int 0, .int 0, .int 0])) 7 = toS z (fnw T (.inl (1, [.inl 0, .inl 0, .inl 0, .inl 0, .inl 0, .inl 0, .inl 0]) : fO) 7) from fnw_ok (o := (.inl (1, [.inl 0, .inl 0, .inl 0, .inl 0, .inl 0, .inl 0, .inl 0]) : fO)) hg0.1]
  exact (fb_K2v (fun _ q => fb_mo (y := 6) ow_6 q (fun q => GM6 _ _ _ hl1 _ _ hl2 _ _ hl3 _ _ hl4 _ _ hl5 _ _ hl6 _ _ hl7 q)) h (fun T1 h2 => G24_141  _ _ _ hl1 _ _ hl2 _ _ hl3 _ _ hl4 _ _ hl5 _ _ hl6 _ _ hl7 _ _ hl8 _ _ h2))
noncomputable def F24_108  (l0 : Nat) (l1 : Nat) (l2 : Nat) (l3 : Nat) (l4 : Nat) (l5 : Nat) (l6 : Nat) (l7 : Nat) (l8 : Nat) (s0 : Nat) (T : fS) : Option fR := (fif (ilt s0 30) (F24_123  l0 l1 l2 l3 l4 l5 l6 l7 l8 T) (F24_113  l0 l1 l2 l3 l4 l5 l6 l7 l8 T))
theorem G24_108 {z : Option mm_O} {T : fS} {r : fR}  (l0 : Nat) (xl1 : Int32) (l1 : Nat) (hl1 : xl1 = nI l1) (xl2 : Int32) (l2 : Nat) (hl2 : xl2 = nI l2) (xl3 : Int32) (l3 : Nat) (hl3 : xl3 = nI l3) (xl4 : Int32) (l4 : Nat) (hl4 : xl4 = nI l4) (xl5 : Int32) (l5 : Nat) (hl5 : xl5 = nI l5) (xl6 : Int32) (l6 : Nat) (hl6 : xl6 = nI l6) (xl7 : Int32) (l7 : Nat) (hl7 : xl7 = nI l7) (xl8 : Int32) (l8 : Nat) (hl8 : xl8 = nI l8) (ul9 : Value) (xs0 : Int32) (s0 : Nat) (hs0 : xs0 = nI s0) (h : F24_108  l0 l1 l2 l3 l4 l5 l6 l7 l8 s0 T = some r) : mm_L 24 108 [.ref l0, .int xl1, .int xl2, .int xl3, .int xl4, .int xl5, .int xl6, .int xl7, .int xl8, ul9] [.int xs0] (toS z T) = some (tR z r) := by
  unfold F24_108 at h
  refine Eq.trans (e24_108 ..) ?_
  exact (fb_if (cj_lt hs0 (rfl : (30 : Int32) = nI 30)) h (fun h1 => (G24_123  _ _ _ hl1 _ _ hl2 _ _ hl3 _ _ hl4 _ _ hl5 _ _ hl6 _ _ hl7 _ _ hl8 _ h1)) (fun h1 => (G24_113  _ _ _ hl1 _ _ hl2 _ _ hl3 _ _ hl4 _ _ hl5 _ _ hl6 _ _ hl7 _ _ hl8 _ h1)))
noncomputable def F24_105  (l0 : Nat) (l1 : Nat) (l2 : Nat) (l3 : Nat) (l4 : Nat) (l5 : Nat) (l6 : Nat) (l7 : Nat) (l8 : Nat) (s0 : Nat) (T : fS) : Option fR := (fbn (flz T s0) (fun v0 => F24_108  l0 l1 l2 l3 l4 l5 l6 l7 l8 v0 T))
theorem G24_105 {z : Option mm_O} {T : fS} {r : fR}  (l0 : Nat) (xl1 : Int32) (l1 : Nat) (hl1 : xl1 = nI l1) (xl2 : Int32) (l2 : Nat) (hl2 : xl2 = nI l2) (xl3 : Int32) (l3 : Nat) (hl3 : xl3 = nI l3) (xl4 : Int32) (l4 : Nat) (hl4 : xl4 = nI l4) (xl5 : Int32) (l5 : Nat) (hl5 : xl5 = nI l5) (xl6 : Int32) (l6 : Nat) (hl6 : xl6 = nI l6) (xl7 : Int32) (l7 : Nat) (hl7 : xl7 = nI l7) (xl8 : Int32) (l8 : Nat) (hl8 : xl8 = nI l8) (ul9 : Value) (s0 : Nat) (h : F24_105  l0 l1 l2 l3 l4 l5 l6 l7 l8 s0 T = some r) : mm_L 24 105 [.ref l0, .int xl1, .int xl2, .int xl3, .int xl4, .int xl5, .int xl6, .int xl7, .int xl8, ul9] [.ref s0] (toS z T) = some (tR z r) := by
  unfold F24_105 at h
  refine Eq.trans (e24_105 ..) ?_
  exact (fb_n (fun _ q => flz_ok q) h (fun v0 h2 => G24_108  _ _ _ hl1 _ _ hl2 _ _ hl3 _ _ hl4 _ _ hl5 _ _ hl6 _ _ hl7 _ _ hl8 _ _ _ rfl h2))
noncomputable def F24_101  (l0 : Nat) (l1 : Nat) (l2 : Nat) (l3 : Nat) (l4 : Nat) (l5 : Nat) (l6 : Nat) (l7 : Nat) (l8 : Nat) (T : fS) : Option fR := (fbv (fgr T l0 6 0) (fun v0 => F24_105  l0 l1 l2 l3 l4 l5 l6 l7 l8 v0 T) ((none : Option fR)))
theorem G24_101 {z : Option mm_O} {T : fS} {r : fR}  (l0 : Nat) (xl1 : Int32) (l1 : Nat) (hl1 : xl1 = nI l1) (xl2 : Int32) (l2 : Nat) (hl2 : xl2 = nI l2) (xl3 : Int32) (l3 : Nat) (hl3 : xl3 = nI l3) (xl4 : Int32) (l4 : Nat) (hl4 : xl4 = nI l4) (xl5 : Int32) (l5 : Nat) (hl5 : xl5 = nI l5) (xl6 : Int32) (l6 : Nat) (hl6 : xl6 = nI l6) (xl7 : Int32) (l7 : Nat) (hl7 : xl7 = nI l7) (xl8 : Int32) (l8 : Nat) (hl8 : xl8 = nI l8) (ul9 : Value) (h : F24_101  l0 l1 l2 l3 l4 l5 l6 l7 l8 T = some r) : mm_L 24 101 [.ref l0, .int xl1, .int xl2, .int xl3, .int xl4, .int xl5, .int xl6, .int xl7, .int xl8, ul9] [] (toS z T) = some (tR z r) := by
  unfold F24_101 at h
  refine Eq.trans (e24_101 ..) ?_
  exact (fb_v (fun _ q => fgr_ok q) h (fun v0 h2 => G24_105  _ _ _ hl1 _ _ hl2 _ _ hl3 _ _ hl4 _ _ hl5 _ _ hl6 _ _ hl7 _ _ hl8 _ _ h2) (fun h2 => fr_n h2))
noncomputable def F24_88  (l0 : Nat) (l1 : Nat) (l2 : Nat) (l3 : Nat) (l4 : Nat) (l5 : Nat) (l6 : Nat) (l7 : Nat) (l8 : Nat) (s0 : Nat) (T : fS) : Option fR := (fif (ieq s0 0) (F24_91  l0 l1 l2 l3 l4 l5 l6 l7 l8 T) (F24_101  l0 l1 l2 l3 l4 l5 l6 l7 l8 T))
theorem G24_88 {z : Option mm_O} {T : fS} {r : fR}  (l0 : Nat) (xl1 : Int32) (l1 : Nat) (hl1 : xl1 = nI l1) (xl2 : Int32) (l2 : Nat) (hl2 : xl2 = nI l2) (xl3 : Int32) (l3 : Nat) (hl3 : xl3 = nI l3) (xl4 : Int32) (l4 : Nat) (hl4 : xl4 = nI l4) (xl5 : Int32) (l5 : Nat) (hl5 : xl5 = nI l5) (xl6 : Int32) (l6 : Nat) (hl6 : xl6 = nI l6) (xl7 : Int32) (l7 : Nat) (hl7 : xl7 = nI l7) (xl8 : Int32) (l8 : Nat) (hl8 : xl8 = nI l8) (ul9 : Value) (xs0 : Int32) (s0 : Nat) (hs0 : xs0 = nI s0) (h : F24_88  l0 l1 l2 l3 l4 l5 l6 l7 l8 s0 T = some r) : mm_L 24 88 [.ref l0, .int xl1, .int xl2, .int xl3, .int xl4, .int xl5, .int xl6, .int xl7, .int xl8, ul9] [.int xs0] (toS z T) = some (tR z r) := by
  unfold F24_88 at h
  refine Eq.trans (e24_88 ..) ?_
  exact (fb_if (cj_eq hs0 (rfl : (0 : Int32) = nI 0)) h (fun h1 => (G24_91  _ _ _ hl1 _ _ hl2 _ _ hl3 _ _ hl4 _ _ hl5 _ _ hl6 _ _ hl7 _ _ hl8 _ h1)) (fun h1 => (G24_101  _ _ _ hl1 _ _ hl2 _ _ hl3 _ _ hl4 _ _ hl5 _ _ hl6 _ _ hl7 _ _ hl8 _ h1)))
noncomputable def F24_82  (l0 : Nat) (l1 : Nat) (l2 : Nat) (l3 : Nat) (l4 : Nat) (l5 : Nat) (l6 : Nat) (l7 : Nat) (l8 : Nat) (T : fS) : Option fR := (fKi true (F30_0 l1 l7 T) (fun v0 T1 => F24_88  l0 l1 l2 l3 l4 l5 l6 l7 l8 v0 T1))
theorem G24_82 {z : Option mm_O} {T : fS} {r : fR}  (l0 : Nat) (xl1 : Int32) (l1 : Nat) (hl1 : xl1 = nI l1) (xl2 : Int32) (l2 : Nat) (hl2 : xl2 = nI l2) (xl3 : Int32) (l3 : Nat) (hl3 : xl3 = nI l3) (xl4 : Int32) (l4 : Nat) (hl4 : xl4 = nI l4) (xl5 : Int32) (l5 : Nat) (hl5 : xl5 = nI l5) (xl6 : Int32) (l6 : Nat) (hl6 : xl6 = nI l6) (xl7 : Int32) (l7 : Nat) (hl7 : xl7 = nI l7) (xl8 : Int32) (l8 : Nat) (hl8 : xl8 = nI l8) (ul9 : Value) (h : F24_82  l0 l1 l2 l3 l4 l5 l6 l7 l8 T = some r) : mm_L 24 82 [.ref l0, .int xl1, .int xl2, .int xl3, .int xl4, .int xl5, .int xl6, .int xl7, .int xl8, ul9] [] (toS z T) = some (tR z r) := by
  unfold F24_82 at h
  refine Eq.trans (e24_82 ..) ?_
  exact (fb_K0i (fun _ q => GM30 _ _ hl1 _ _ hl7 q) h (fun v0 T1 h2 => G24_88  _ _ _ hl1 _ _ hl2 _ _ hl3 _ _ hl4 _ _ hl5 _ _ hl6 _ _ hl7 _ _ hl8 _ _ _ rfl h2))
noncomputable def F24_76  (l0 : Nat) (l1 : Nat) (l2 : Nat) (l3 : Nat) (l4 : Nat) (l5 : Nat) (l6 : Nat) (l7 : Nat) (l8 : Nat) (T : fS) : Option fR := (fif (ieq l6 2) (F24_82  l0 l1 l2 l3 l4 l5 l6 l7 l8 T) (F24_101  l0 l1 l2 l3 l4 l5 l6 l7 l8 T))
theorem G24_76 {z : Option mm_O} {T : fS} {r : fR}  (l0 : Nat) (xl1 : Int32) (l1 : Nat) (hl1 : xl1 = nI l1) (xl2 : Int32) (l2 : Nat) (hl2 : xl2 = nI l2) (xl3 : Int32) (l3 : Nat) (hl3 : xl3 = nI l3) (xl4 : Int32) (l4 : Nat) (hl4 : xl4 = nI l4) (xl5 : Int32) (l5 : Nat) (hl5 : xl5 = nI l5) (xl6 : Int32) (l6 : Nat) (hl6 : xl6 = nI l6) (xl7 : Int32) (l7 : Nat) (hl7 : xl7 = nI l7) (xl8 : Int32) (l8 : Nat) (hl8 : xl8 = nI l8) (ul9 : Value) (h : F24_76  l0 l1 l2 l3 l4 l5 l6 l7 l8 T = some r) : mm_L 24 76 [.ref l0, .int xl1, .int xl2, .int xl3, .int xl4, .int xl5, .int xl6, .int xl7, .int xl8, ul9] [] (toS z T) = some (tR z r) := by
  unfold F24_76 at h
  refine Eq.trans (e24_76 ..) ?_
  exact (fb_if (cj_eq hl6 (rfl : (2 : Int32) = nI 2)) h (fun h1 => (G24_82  _ _ _ hl1 _ _ hl2 _ _ hl3 _ _ hl4 _ _ hl5 _ _ hl6 _ _ hl7 _ _ hl8 _ h1)) (fun h1 => (G24_101  _ _ _ hl1 _ _ hl2 _ _ hl3 _ _ hl4 _ _ hl5 _ _ hl6 _ _ hl7 _ _ hl8 _ h1)))
noncomputable def F24_59  (l0 : Nat) (l1 : Nat) (l2 : Nat) (l3 : Nat) (l4 : Nat) (l5 : Nat) (l6 : Nat) (l7 : Nat) (s0 : Nat) (T : fS) : Option fR := (fif (ieq s0 0) (F24_66  l0 l1 l2 l3 l4 l5 l6 l7 s0 T) (F24_76  l0 l1 l2 l3 l4 l5 l6 l7 s0 T))
theorem G24_59 {z : Option mm_O} {T : fS} {r : fR}  (l0 : Nat) (xl1 : Int32) (l1 : Nat) (hl1 : xl1 = nI l1) (xl2 : Int32) (l2 : Nat) (hl2 : xl2 = nI l2) (xl3 : Int32) (l3 : Nat) (hl3 : xl3 = nI l3) (xl4 : Int32) (l4 : Nat) (hl4 : xl4 = nI l4) (xl5 : Int32) (l5 : Nat) (hl5 : xl5 = nI l5) (xl6 : Int32) (l6 : Nat) (hl6 : xl6 = nI l6) (xl7 : Int32) (l7 : Nat) (hl7 : xl7 = nI l7) (ul8 : Value) (ul9 : Value) (xs0 : Int32) (s0 : Nat) (hs0 : xs0 = nI s0) (h : F24_59  l0 l1 l2 l3 l4 l5 l6 l7 s0 T = some r) : mm_L 24 59 [.ref l0, .int xl1, .int xl2, .int xl3, .int xl4, .int xl5, .int xl6, .int xl7, ul8, ul9] [.int xs0] (toS z T) = some (tR z r) := by
  unfold F24_59 at h
  refine Eq.trans (e24_59 ..) ?_
  exact (fb_if (cj_eq hs0 (rfl : (0 : Int32) = nI 0)) h (fun h1 => (G24_66  _ _ _ hl1 _ _ hl2 _ _ hl3 _ _ hl4 _ _ hl5 _ _ hl6 _ _ hl7 _ _ hs0 _ h1)) (fun h1 => (G24_76  _ _ _ hl1 _ _ hl2 _ _ hl3 _ _ hl4 _ _ hl5 _ _ hl6 _ _ hl7 _ _ hs0 _ h1)))
noncomputable def F24_54  (l0 : Nat) (l1 : Nat) (l2 : Nat) (l3 : Nat) (l4 : Nat) (l5 : Nat) (l6 : Nat) (l7 : Nat) (T : fS) : Option fR := (F24_59  l0 l1 l2 l3 l4 l5 l6 l7 1 T)
theorem G24_54 {z : Option mm_O} {T : fS} {r : fR}  (l0 : Nat) (xl1 : Int32) (l1 : Nat) (hl1 : xl1 = nI l1) (xl2 : Int32) (l2 : Nat) (hl2 : xl2 = nI l2) (xl3 : Int32) (l3 : Nat) (hl3 : xl3 = nI l3) (xl4 : Int32) (l4 : Nat) (hl4 : xl4 = nI l4) (xl5 : Int32) (l5 : Nat) (hl5 : xl5 = nI l5) (xl6 : Int32) (l6 : Nat) (hl6 : xl6 = nI l6) (xl7 : Int32) (l7 : Nat) (hl7 : xl7 = nI l7) (ul8 : Value) (ul9 : Value) (h : F24_54  l0 l1 l2 l3 l4 l5 l6 l7 T = some r) : mm_L 24 54 [.ref l0, .int xl1, .int xl2, .int xl3, .int xl4, .int xl5, .int xl6, .int xl7, ul8, ul9] [] (toS z T) = some (tR z r) := by
  unfold F24_54 at h
  refine Eq.trans (e24_54 ..) ?_
  exact (G24_59  _ _ _ hl1 _ _ hl2 _ _ hl3 _ _ hl4 _ _ hl5 _ _ hl6 _ _ hl7 _ _ _ _ (rfl : (1 : Int32) = nI 1) h)
noncomputable def F24_58  (l0 : Nat) (l1 : Nat) (l2 : Nat) (l3 : Nat) (l4 : Nat) (l5 : Nat) (l6 : Nat) (l7 : Nat) (T : fS) : Option fR := (F24_59  l0 l1 l2 l3 l4 l5 l6 l7 0 T)
theorem G24_58 {z : Option mm_O} {T : fS} {r : fR}  (l0 : Nat) (xl1 : Int32) (l1 : Nat) (hl1 : xl1 = nI l1) (xl2 : Int32) (l2 : Nat) (hl2 : xl2 = nI l2) (xl3 : Int32) (l3 : Nat) (hl3 : xl3 = nI l3) (xl4 : Int32) (l4 : Nat) (hl4 : xl4 = nI l4) (xl5 : Int32) (l5 : Nat) (hl5 : xl5 = nI l5) (xl6 : Int32) (l6 : Nat) (hl6 : xl6 = nI l6) (xl7 : Int32) (l7 : Nat) (hl7 : xl7 = nI l7) (ul8 : Value) (ul9 : Value) (h : F24_58  l0 l1 l2 l3 l4 l5 l6 l7 T = some r) : mm_L 24 58 [.ref l0, .int xl1, .int xl2, .int xl3, .int xl4, .int xl5, .int xl6, .int xl7, ul8, ul9] [] (toS z T) = some (tR z r) := by
  unfold F24_58 at h
  refine Eq.trans (e24_58 ..) ?_
  exact (G24_59  _ _ _ hl1 _ _ hl2 _ _ hl3 _ _ hl4 _ _ hl5 _ _ hl6 _ _ hl7 _ _ _ _ (rfl : (0 : Int32) = nI 0) h)
noncomputable def F24_51  (l0 : Nat) (l1 : Nat) (l2 : Nat) (l3 : Nat) (l4 : Nat) (l5 : Nat) (l6 : Nat) (l7 : Nat) (s0 : Nat) (T : fS) : Option fR := (fif (ieq s0 0) (F24_58  l0 l1 l2 l3 l4 l5 l6 l7 T) (F24_54  l0 l1 l2 l3 l4 l5 l6 l7 T))
theorem G24_51 {z : Option mm_O} {T : fS} {r : fR}  (l0 : Nat) (xl1 : Int32) (l1 : Nat) (hl1 : xl1 = nI l1) (xl2 : Int32) (l2 : Nat) (hl2 : xl2 = nI l2) (xl3 : Int32) (l3 : Nat) (hl3 : xl3 = nI l3) (xl4 : Int32) (l4 : Nat) (hl4 : xl4 = nI l4) (xl5 : Int32) (l5 : Nat) (hl5 : xl5 = nI l5) (xl6 : Int32) (l6 : Nat) (hl6 : xl6 = nI l6) (xl7 : Int32) (l7 : Nat) (hl7 : xl7 = nI l7) (ul8 : Value) (ul9 : Value) (xs0 : Int32) (s0 : Nat) (hs0 : xs0 = nI s0) (h : F24_51  l0 l1 l2 l3 l4 l5 l6 l7 s0 T = some r) : mm_L 24 51 [.ref l0, .int xl1, .int xl2, .int xl3, .int xl4, .int xl5, .int xl6, .int xl7, ul8, ul9] [.int xs0] (toS z T) = some (tR z r) := by
  unfold F24_51 at h
  refine Eq.trans (e24_51 ..) ?_
  exact (fb_if (cj_eq hs0 (rfl : (0 : Int32) = nI 0)) h (fun h1 => (G24_58  _ _ _ hl1 _ _ hl2 _ _ hl3 _ _ hl4 _ _ hl5 _ _ hl6 _ _ hl7 _ _ h1)) (fun h1 => (G24_54  _ _ _ hl1 _ _ hl2 _ _ hl3 _ _ hl4 _ _ hl5 _ _ hl6 _ _ hl7 _ _ h1)))
noncomputable def F24_45  (l0 : Nat) (l1 : Nat) (l2 : Nat) (l3 : Nat) (l4 : Nat) (l5 : Nat) (l6 : Nat) (l7 : Nat) (T : fS) : Option fR := (fKi false (F101_0 l6 3 T) (fun v0 T1 => F24_51  l0 l1 l2 l3 l4 l5 l6 l7 v0 T1))
theorem G24_45 {z : Option mm_O} {T : fS} {r : fR}  (l0 : Nat) (xl1 : Int32) (l1 : Nat) (hl1 : xl1 = nI l1) (xl2 : Int32) (l2 : Nat) (hl2 : xl2 = nI l2) (xl3 : Int32) (l3 : Nat) (hl3 : xl3 = nI l3) (xl4 : Int32) (l4 : Nat) (hl4 : xl4 = nI l4) (xl5 : Int32) (l5 : Nat) (hl5 : xl5 = nI l5) (xl6 : Int32) (l6 : Nat) (hl6 : xl6 = nI l6) (xl7 : Int32) (l7 : Nat) (hl7 : xl7 = nI l7) (ul8 : Value) (ul9 : Value) (h : F24_45  l0 l1 l2 l3 l4 l5 l6 l7 T = some r) : mm_L 24 45 [.ref l0, .int xl1, .int xl2, .int xl3, .int xl4, .int xl5, .int xl6, .int xl7, ul8, ul9] [] (toS z T) = some (tR z r) := by
  unfold F24_45 at h
  refine Eq.trans (e24_45 ..) ?_
  exact (fb_K2i (fun _ q => GM101 _ _ hl6 _ _ (rfl : (3 : Int32) = nI 3) q) h (fun v0 T1 h2 => G24_51  _ _ _ hl1 _ _ hl2 _ _ hl3 _ _ hl4 _ _ hl5 _ _ hl6 _ _ hl7 _ _ _ _ rfl h2))
noncomputable def F24_42  (l0 : Nat) (l1 : Nat) (l2 : Nat) (l3 : Nat) (l4 : Nat) (l5 : Nat) (l6 : Nat) (l7 : Nat) (s0 : Nat) (T : fS) : Option fR := (fif (ieq s0 0) (F24_58  l0 l1 l2 l3 l4 l5 l6 l7 T) (F24_45  l0 l1 l2 l3 l4 l5 l6 l7 T))
theorem G24_42 {z : Option mm_O} {T : fS} {r : fR}  (l0 : Nat) (xl1 : Int32) (l1 : Nat) (hl1 : xl1 = nI l1) (xl2 : Int32) (l2 : Nat) (hl2 : xl2 = nI l2) (xl3 : Int32) (l3 : Nat) (hl3 : xl3 = nI l3) (xl4 : Int32) (l4 : Nat) (hl4 : xl4 = nI l4) (xl5 : Int32) (l5 : Nat) (hl5 : xl5 = nI l5) (xl6 : Int32) (l6 : Nat) (hl6 : xl6 = nI l6) (xl7 : Int32) (l7 : Nat) (hl7 : xl7 = nI l7) (ul8 : Value) (ul9 : Value) (xs0 : Int32) (s0 : Nat) (hs0 : xs0 = nI s0) (h : F24_42  l0 l1 l2 l3 l4 l5 l6 l7 s0 T = some r) : mm_L 24 42 [.ref l0, .int xl1, .int xl2, .int xl3, .int xl4, .int xl5, .int xl6, .int xl7, ul8, ul9] [.int xs0] (toS z T) = some (tR z r) := by
  unfold F24_42 at h
  refine Eq.trans (e24_42 ..) ?_
  exact (fb_if (cj_eq hs0 (rfl : (0 : Int32) = nI 0)) h (fun h1 => (G24_58  _ _ _ hl1 _ _ hl2 _ _ hl3 _ _ hl4 _ _ hl5 _ _ hl6 _ _ hl7 _ _ h1)) (fun h1 => (G24_45  _ _ _ hl1 _ _ hl2 _ _ hl3 _ _ hl4 _ _ hl5 _ _ hl6 _ _ hl7 _ _ h1)))
noncomputable def F24_36  (l0 : Nat) (l1 : Nat) (l2 : Nat) (l3 : Nat) (l4 : Nat) (l5 : Nat) (l6 : Nat) (l7 : Nat) (T : fS) : Option fR := (fKi false (F101_0 l5 4 T) (fun v0 T1 => F24_42  l0 l1 l2 l3 l4 l5 l6 l7 v0 T1))
theorem G24_36 {z : Option mm_O} {T : fS} {r : fR}  (l0 : Nat) (xl1 : Int32) (l1 : Nat) (hl1 : xl1 = nI l1) (xl2 : Int32) (l2 : Nat) (hl2 : xl2 = nI l2) (xl3 : Int32) (l3 : Nat) (hl3 : xl3 = nI l3) (xl4 : Int32) (l4 : Nat) (hl4 : xl4 = nI l4) (xl5 : Int32) (l5 : Nat) (hl5 : xl5 = nI l5) (xl6 : Int32) (l6 : Nat) (hl6 : xl6 = nI l6) (xl7 : Int32) (l7 : Nat) (hl7 : xl7 = nI l7) (ul8 : Value) (ul9 : Value) (h : F24_36  l0 l1 l2 l3 l4 l5 l6 l7 T = some r) : mm_L 24 36 [.ref l0, .int xl1, .int xl2, .int xl3, .int xl4, .int xl5, .int xl6, .int xl7, ul8, ul9] [] (toS z T) = some (tR z r) := by
  unfold F24_36 at h
  refine Eq.trans (e24_36 ..) ?_
  exact (fb_K2i (fun _ q => GM101 _ _ hl5 _ _ (rfl : (4 : Int32) = nI 4) q) h (fun v0 T1 h2 => G24_42  _ _ _ hl1 _ _ hl2 _ _ hl3 _ _ hl4 _ _ hl5 _ _ hl6 _ _ hl7 _ _ _ _ rfl h2))
noncomputable def F24_33  (l0 : Nat) (l1 : Nat) (l2 : Nat) (l3 : Nat) (l4 : Nat) (l5 : Nat) (l6 : Nat) (l7 : Nat) (s0 : Nat) (T : fS) : Option fR := (fif (ieq s0 0) (F24_58  l0 l1 l2 l3 l4 l5 l6 l7 T) (F24_36  l0 l1 l2 l3 l4 l5 l6 l7 T))
theorem G24_33 {z : Option mm_O} {T : fS} {r : fR}  (l0 : Nat) (xl1 : Int32) (l1 : Nat) (hl1 : xl1 = nI l1) (xl2 : Int32) (l2 : Nat) (hl2 : xl2 = nI l2) (xl3 : Int32) (l3 : Nat) (hl3 : xl3 = nI l3) (xl4 : Int32) (l4 : Nat) (hl4 : xl4 = nI l4) (xl5 : Int32) (l5 : Nat) (hl5 : xl5 = nI l5) (xl6 : Int32) (l6 : Nat) (hl6 : xl6 = nI l6) (xl7 : Int32) (l7 : Nat) (hl7 : xl7 = nI l7) (ul8 : Value) (ul9 : Value) (xs0 : Int32) (s0 : Nat) (hs0 : xs0 = nI s0) (h : F24_33  l0 l1 l2 l3 l4 l5 l6 l7 s0 T = some r) : mm_L 24 33 [.ref l0, .int xl1, .int xl2, .int xl3, .int xl4, .int xl5, .int xl6, .int xl7, ul8, ul9] [.int xs0] (toS z T) = some (tR z r) := by
  unfold F24_33 at h
  refine Eq.trans (e24_33 ..) ?_
  exact (fb_if (cj_eq hs0 (rfl : (0 : Int32) = nI 0)) h (fun h1 => (G24_58  _ _ _ hl1 _ _ hl2 _ _ hl3 _ _ hl4 _ _ hl5 _ _ hl6 _ _ hl7 _ _ h1)) (fun h1 => (G24_36  _ _ _ hl1 _ _ hl2 _ _ hl3 _ _ hl4 _ _ hl5 _ _ hl6 _ _ hl7 _ _ h1)))
noncomputable def F24_27  (l0 : Nat) (l1 : Nat) (l2 : Nat) (l3 : Nat) (l4 : Nat) (l5 : Nat) (l6 : Nat) (l7 : Nat) (T : fS) : Option fR := (fKi false (F101_0 l4 4 T) (fun v0 T1 => F24_33  l0 l1 l2 l3 l4 l5 l6 l7 v0 T1))
theorem G24_27 {z : Option mm_O} {T : fS} {r : fR}  (l0 : Nat) (xl1 : Int32) (l1 : Nat) (hl1 : xl1 = nI l1) (xl2 : Int32) (l2 : Nat) (hl2 : xl2 = nI l2) (xl3 : Int32) (l3 : Nat) (hl3 : xl3 = nI l3) (xl4 : Int32) (l4 : Nat) (hl4 : xl4 = nI l4) (xl5 : Int32) (l5 : Nat) (hl5 : xl5 = nI l5) (xl6 : Int32) (l6 : Nat) (hl6 : xl6 = nI l6) (xl7 : Int32) (l7 : Nat) (hl7 : xl7 = nI l7) (ul8 : Value) (ul9 : Value) (h : F24_27  l0 l1 l2 l3 l4 l5 l6 l7 T = some r) : mm_L 24 27 [.ref l0, .int xl1, .int xl2, .int xl3, .int xl4, .int xl5, .int xl6, .int xl7, ul8, ul9] [] (toS z T) = some (tR z r) := by
  unfold F24_27 at h
  refine Eq.trans (e24_27 ..) ?_
  exact (fb_K2i (fun _ q => GM101 _ _ hl4 _ _ (rfl : (4 : Int32) = nI 4) q) h (fun v0 T1 h2 => G24_33  _ _ _ hl1 _ _ hl2 _ _ hl3 _ _ hl4 _ _ hl5 _ _ hl6 _ _ hl7 _ _ _ _ rfl h2))
noncomputable def F24_24  (l0 : Nat) (l1 : Nat) (l2 : Nat) (l3 : Nat) (l4 : Nat) (l5 : Nat) (l6 : Nat) (l7 : Nat) (s0 : Nat) (T : fS) : Option fR := (fif (ieq s0 0) (F24_58  l0 l1 l2 l3 l4 l5 l6 l7 T) (F24_27  l0 l1 l2 l3 l4 l5 l6 l7 T))
theorem G24_24 {z : Option mm_O} {T : fS} {r : fR}  (l0 : Nat) (xl1 : Int32) (l1 : Nat) (hl1 : xl1 = nI l1) (xl2 : Int32) (l2 : Nat) (hl2 : xl2 = nI l2) (xl3 : Int32) (l3 : Nat) (hl3 : xl3 = nI l3) (xl4 : Int32) (l4 : Nat) (hl4 : xl4 = nI l4) (xl5 : Int32) (l5 : Nat) (hl5 : xl5 = nI l5) (xl6 : Int32) (l6 : Nat) (hl6 : xl6 = nI l6) (xl7 : Int32) (l7 : Nat) (hl7 : xl7 = nI l7) (ul8 : Value) (ul9 : Value) (xs0 : Int32) (s0 : Nat) (hs0 : xs0 = nI s0) (h : F24_24  l0 l1 l2 l3 l4 l5 l6 l7 s0 T = some r) : mm_L 24 24 [.ref l0, .int xl1, .int xl2, .int xl3, .int xl4, .int xl5, .int xl6, .int xl7, ul8, ul9] [.int xs0] (toS z T) = some (tR z r) := by
  unfold F24_24 at h
  refine Eq.trans (e24_24 ..) ?_
  exact (fb_if (cj_eq hs0 (rfl : (0 : Int32) = nI 0)) h (fun h1 => (G24_58  _ _ _ hl1 _ _ hl2 _ _ hl3 _ _ hl4 _ _ hl5 _ _ hl6 _ _ hl7 _ _ h1)) (fun h1 => (G24_27  _ _ _ hl1 _ _ hl2 _ _ hl3 _ _ hl4 _ _ hl5 _ _ hl6 _ _ hl7 _ _ h1)))
noncomputable def F24_18  (l0 : Nat) (l1 : Nat) (l2 : Nat) (l3 : Nat) (l4 : Nat) (l5 : Nat) (l6 : Nat) (l7 : Nat) (T : fS) : Option fR := (fKi false (F101_0 l3 9 T) (fun v0 T1 => F24_24  l0 l1 l2 l3 l4 l5 l6 l7 v0 T1))
theorem G24_18 {z : Option mm_O} {T : fS} {r : fR}  (l0 : Nat) (xl1 : Int32) (l1 : Nat) (hl1 : xl1 = nI l1) (xl2 : Int32) (l2 : Nat) (hl2 : xl2 = nI l2) (xl3 : Int32) (l3 : Nat) (hl3 : xl3 = nI l3) (xl4 : Int32) (l4 : Nat) (hl4 : xl4 = nI l4) (xl5 : Int32) (l5 : Nat) (hl5 : xl5 = nI l5) (xl6 : Int32) (l6 : Nat) (hl6 : xl6 = nI l6) (xl7 : Int32) (l7 : Nat) (hl7 : xl7 = nI l7) (ul8 : Value) (ul9 : Value) (h : F24_18  l0 l1 l2 l3 l4 l5 l6 l7 T = some r) : mm_L 24 18 [.ref l0, .int xl1, .int xl2, .int xl3, .int xl4, .int xl5, .int xl6, .int xl7, ul8, ul9] [] (toS z T) = some (tR z r) := by
  unfold F24_18 at h
  refine Eq.trans (e24_18 ..) ?_
  exact (fb_K2i (fun _ q => GM101 _ _ hl3 _ _ (rfl : (9 : Int32) = nI 9) q) h (fun v0 T1 h2 => G24_24  _ _ _ hl1 _ _ hl2 _ _ hl3 _ _ hl4 _ _ hl5 _ _ hl6 _ _ hl7 _ _ _ _ rfl h2))
noncomputable def F24_15  (l0 : Nat) (l1 : Nat) (l2 : Nat) (l3 : Nat) (l4 : Nat) (l5 : Nat) (l6 : Nat) (l7 : Nat) (s0 : Nat) (T : fS) : Option fR := (fif (ieq s0 0) (F24_58  l0 l1 l2 l3 l4 l5 l6 l7 T) (F24_18  l0 l1 l2 l3 l4 l5 l6 l7 T))
theorem G24_15 {z : Option mm_O} {T : fS} {r : fR}  (l0 : Nat) (xl1 : Int32) (l1 : Nat) (hl1 : xl1 = nI l1) (xl2 : Int32) (l2 : Nat) (hl2 : xl2 = nI l2) (xl3 : Int32) (l3 : Nat) (hl3 : xl3 = nI l3) (xl4 : Int32) (l4 : Nat) (hl4 : xl4 = nI l4) (xl5 : Int32) (l5 : Nat) (hl5 : xl5 = nI l5) (xl6 : Int32) (l6 : Nat) (hl6 : xl6 = nI l6) (xl7 : Int32) (l7 : Nat) (hl7 : xl7 = nI l7) (ul8 : Value) (ul9 : Value) (xs0 : Int32) (s0 : Nat) (hs0 : xs0 = nI s0) (h : F24_15  l0 l1 l2 l3 l4 l5 l6 l7 s0 T = some r) : mm_L 24 15 [.ref l0, .int xl1, .int xl2, .int xl3, .int xl4, .int xl5, .int xl6, .int xl7, ul8, ul9] [.int xs0] (toS z T) = some (tR z r) := by
  unfold F24_15 at h
  refine Eq.trans (e24_15 ..) ?_
  exact (fb_if (cj_eq hs0 (rfl : (0 : Int32) = nI 0)) h (fun h1 => (G24_58  _ _ _ hl1 _ _ hl2 _ _ hl3 _ _ hl4 _ _ hl5 _ _ hl6 _ _ hl7 _ _ h1)) (fun h1 => (G24_18  _ _ _ hl1 _ _ hl2 _ _ hl3 _ _ hl4 _ _ hl5 _ _ hl6 _ _ hl7 _ _ h1)))
noncomputable def F24_9  (l0 : Nat) (l1 : Nat) (l2 : Nat) (l3 : Nat) (l4 : Nat) (l5 : Nat) (l6 : Nat) (l7 : Nat) (T : fS) : Option fR := (fKi false (F101_0 l2 9 T) (fun v0 T1 => F24_15  l0 l1 l2 l3 l4 l5 l6 l7 v0 T1))
theorem G24_9 {z : Option mm_O} {T : fS} {r : fR}  (l0 : Nat) (xl1 : Int32) (l1 : Nat) (hl1 : xl1 = nI l1) (xl2 : Int32) (l2 : Nat) (hl2 : xl2 = nI l2) (xl3 : Int32) (l3 : Nat) (hl3 : xl3 = nI l3) (xl4 : Int32) (l4 : Nat) (hl4 : xl4 = nI l4) (xl5 : Int32) (l5 : Nat) (hl5 : xl5 = nI l5) (xl6 : Int32) (l6 : Nat) (hl6 : xl6 = nI l6) (xl7 : Int32) (l7 : Nat) (hl7 : xl7 = nI l7) (ul8 : Value) (ul9 : Value) (h : F24_9  l0 l1 l2 l3 l4 l5 l6 l7 T = some r) : mm_L 24 9 [.ref l0, .int xl1, .int xl2, .int xl3, .int xl4, .int xl5, .int xl6, .int xl7, ul8, ul9] [] (toS z T) = some (tR z r) := by
  unfold F24_9 at h
  refine Eq.trans (e24_9 ..) ?_
  exact (fb_K2i (fun _ q => GM101 _ _ hl2 _ _ (rfl : (9 : Int32) = nI 9) q) h (fun v0 T1 h2 => G24_15  _ _ _ hl1 _ _ hl2 _ _ hl3 _ _ hl4 _ _ hl5 _ _ hl6 _ _ hl7 _ _ _ _ rfl h2))
noncomputable def F24_6  (l0 : Nat) (l1 : Nat) (l2 : Nat) (l3 : Nat) (l4 : Nat) (l5 : Nat) (l6 : Nat) (l7 : Nat) (s0 : Nat) (T : fS) : Option fR := (fif (ieq s0 0) (F24_58  l0 l1 l2 l3 l4 l5 l6 l7 T) (F24_9  l0 l1 l2 l3 l4 l5 l6 l7 T))
theorem G24_6 {z : Option mm_O} {T : fS} {r : fR}  (l0 : Nat) (xl1 : Int32) (l1 : Nat) (hl1 : xl1 = nI l1) (xl2 : Int32) (l2 : Nat) (hl2 : xl2 = nI l2) (xl3 : Int32) (l3 : Nat) (hl3 : xl3 = nI l3) (xl4 : Int32) (l4 : Nat) (hl4 : xl4 = nI l4) (xl5 : Int32) (l5 : Nat) (hl5 : xl5 = nI l5) (xl6 : Int32) (l6 : Nat) (hl6 : xl6 = nI l6) (xl7 : Int32) (l7 : Nat) (hl7 : xl7 = nI l7) (ul8 : Value) (ul9 : Value) (xs0 : Int32) (s0 : Nat) (hs0 : xs0 = nI s0) (h : F24_6  l0 l1 l2 l3 l4 l5 l6 l7 s0 T = some r) : mm_L 24 6 [.ref l0, .int xl1, .int xl2, .int xl3, .int xl4, .int xl5, .int xl6, .int xl7, ul8, ul9] [.int xs0] (toS z T) = some (tR z r) := by
  unfold F24_6 at h
  refine Eq.trans (e24_6 ..) ?_
  exact (fb_if (cj_eq hs0 (rfl : (0 : Int32) = nI 0)) h (fun h1 => (G24_58  _ _ _ hl1 _ _ hl2 _ _ hl3 _ _ hl4 _ _ hl5 _ _ hl6 _ _ hl7 _ _ h1)) (fun h1 => (G24_9  _ _ _ hl1 _ _ hl2 _ _ hl3 _ _ hl4 _ _ hl5 _ _ hl6 _ _ hl7 _ _ h1)))
noncomputable def F24_0  (l0 : Nat) (l1 : Nat) (l2 : Nat) (l3 : Nat) (l4 : Nat) (l5 : Nat) (l6 : Nat) (l7 : Nat) (T : fS) : Option fR := (fKi false (F101_0 l1 8 T) (fun v0 T1 => F24_6  l0 l1 l2 l3 l4 l5 l6 l7 v0 T1))
theorem G24_0 {z : Option mm_O} {T : fS} {r : fR}  (l0 : Nat) (xl1 : Int32) (l1 : Nat) (hl1 : xl1 = nI l1) (xl2 : Int32) (l2 : Nat) (hl2 : xl2 = nI l2) (xl3 : Int32) (l3 : Nat) (hl3 : xl3 = nI l3) (xl4 : Int32) (l4 : Nat) (hl4 : xl4 = nI l4) (xl5 : Int32) (l5 : Nat) (hl5 : xl5 = nI l5) (xl6 : Int32) (l6 : Nat) (hl6 : xl6 = nI l6) (xl7 : Int32) (l7 : Nat) (hl7 : xl7 = nI l7) (ul8 : Value) (ul9 : Value) (h : F24_0  l0 l1 l2 l3 l4 l5 l6 l7 T = some r) : mm_L 24 0 [.ref l0, .int xl1, .int xl2, .int xl3, .int xl4, .int xl5, .int xl6, .int xl7, ul8, ul9] [] (toS z T) = some (tR z r) := by
  unfold F24_0 at h
  refine Eq.trans (e24_0 ..) ?_
  exact (fb_K2i (fun _ q => GM101 _ _ hl1 _ _ (rfl : (8 : Int32) = nI 8) q) h (fun v0 T1 h2 => G24_6  _ _ _ hl1 _ _ hl2 _ _ hl3 _ _ hl4 _ _ hl5 _ _ hl6 _ _ hl7 _ _ _ _ rfl h2))
theorem GM24 {z : Option mm_O} {T : fS} {r : fR} (l0 : Nat) (xl1 : Int32) (l1 : Nat) (hl1 : xl1 = nI l1) (xl2 : Int32) (l2 : Nat) (hl2 : xl2 = nI l2) (xl3 : Int32) (l3 : Nat) (hl3 : xl3 = nI l3) (xl4 : Int32) (l4 : Nat) (hl4 : xl4 = nI l4) (xl5 : Int32) (l5 : Nat) (hl5 : xl5 = nI l5) (xl6 : Int32) (l6 : Nat) (hl6 : xl6 = nI l6) (xl7 : Int32) (l7 : Nat) (hl7 : xl7 = nI l7) (h : F24_0 l0 l1 l2 l3 l4 l5 l6 l7 T = some r) : mm_M 24 [.ref l0, .int xl1, .int xl2, .int xl3, .int xl4, .int xl5, .int xl6, .int xl7] (toS z T) = some (tR z r) := Eq.trans (M_24 ..) (G24_0 l0 xl1 l1 hl1 xl2 l2 hl2 xl3 l3 hl3 xl4 l4 hl4 xl5 l5 hl5 xl6 l6 hl6 xl7 l7 hl7 _ _ h)
-- 36: HandArchive.item
noncomputable def F36_12  (l0 : Nat) (l1 : Nat) (l2 : Nat) (l3 : Nat) (l4 : Nat) (T : fS) : Option fR := (some ((.inr 2, fbm T 1 6) : fR))
theorem G36_12 {z : Option mm_O} {T : fS} {r : fR}  (l0 : Nat) (xl1 : Int32) (l1 : Nat) (hl1 : xl1 = nI l1) (xl2 : Int32) (l2 : Nat) (hl2 : xl2 = nI l2) (xl3 : Int32) (l3 : Nat) (hl3 : xl3 = nI l3) (xl4 : Int32) (l4 : Nat) (hl4 : xl4 = nI l4) (h : F36_12  l0 l1 l2 l3 l4 T = some r) : mm_L 36 12 [.ref l0, .int xl1, .int xl2, .int xl3, .int xl4] [] (toS z T) = some (tR z r) := by
  unfold F36_12 at h
  refine Eq.trans (e36_12 ..) ?_
  exact (fr_x h)
noncomputable def F36_33  (l0 : Nat) (l1 : Nat) (l2 : Nat) (l3 : Nat) (l4 : Nat) (T : fS) : Option fR := (some ((.inr 0, fbm T 1 6) : fR))
theorem G36_33 {z : Option mm_O} {T : fS} {r : fR}  (l0 : Nat) (xl1 : Int32) (l1 : Nat) (hl1 : xl1 = nI l1) (xl2 : Int32) (l2 : Nat) (hl2 : xl2 = nI l2) (xl3 : Int32) (l3 : Nat) (hl3 : xl3 = nI l3) (xl4 : Int32) (l4 : Nat) (hl4 : xl4 = nI l4) (h : F36_33  l0 l1 l2 l3 l4 T = some r) : mm_L 36 33 [.ref l0, .int xl1, .int xl2, .int xl3, .int xl4] [] (toS z T) = some (tR z r) := by
  unfold F36_33 at h
  refine Eq.trans (e36_33 ..) ?_
  exact (fr_x h)
noncomputable def F36_55  (l0 : Nat) (l1 : Nat) (l2 : Nat) (l3 : Nat) (l4 : Nat) (T : fS) : Option fR := (some ((.inr 1, fbm T 1 6) : fR))
theorem G36_55 {z : Option mm_O} {T : fS} {r : fR}  (l0 : Nat) (xl1 : Int32) (l1 : Nat) (hl1 : xl1 = nI l1) (xl2 : Int32) (l2 : Nat) (hl2 : xl2 = nI l2) (xl3 : Int32) (l3 : Nat) (hl3 : xl3 = nI l3) (xl4 : Int32) (l4 : Nat) (hl4 : xl4 = nI l4) (h : F36_55  l0 l1 l2 l3 l4 T = some r) : mm_L 36 55 [.ref l0, .int xl1, .int xl2, .int xl3, .int xl4] [] (toS z T) = some (tR z r) := by
  unfold F36_55 at h
  refine Eq.trans (e36_55 ..) ?_
  exact (fr_x h)
noncomputable def F36_77  (l0 : Nat) (l1 : Nat) (l2 : Nat) (l3 : Nat) (l4 : Nat) (T : fS) : Option fR := (some ((.inr 1, fbm T 1 6) : fR))
theorem G36_77 {z : Option mm_O} {T : fS} {r : fR}  (l0 : Nat) (xl1 : Int32) (l1 : Nat) (hl1 : xl1 = nI l1) (xl2 : Int32) (l2 : Nat) (hl2 : xl2 = nI l2) (xl3 : Int32) (l3 : Nat) (hl3 : xl3 = nI l3) (xl4 : Int32) (l4 : Nat) (hl4 : xl4 = nI l4) (h : F36_77  l0 l1 l2 l3 l4 T = some r) : mm_L 36 77 [.ref l0, .int xl1, .int xl2, .int xl3, .int xl4] [] (toS z T) = some (tR z r) := by
  unfold F36_77 at h
  refine Eq.trans (e36_77 ..) ?_
  exact (fr_x h)
noncomputable def F36_121  (l0 : Nat) (l1 : Nat) (l2 : Nat) (l3 : Nat) (l4 : Nat) (s0 : Nat) (T : fS) : Option fR := (some ((.inl (some (.inl s0)), T) : fR))
theorem G36_121 {z : Option mm_O} {T : fS} {r : fR}  (l0 : Nat) (xl1 : Int32) (l1 : Nat) (hl1 : xl1 = nI l1) (xl2 : Int32) (l2 : Nat) (hl2 : xl2 = nI l2) (xl3 : Int32) (l3 : Nat) (hl3 : xl3 = nI l3) (xl4 : Int32) (l4 : Nat) (hl4 : xl4 = nI l4) (xs0 : Int32) (s0 : Nat) (hs0 : xs0 = nI s0) (h : F36_121  l0 l1 l2 l3 l4 s0 T = some r) : mm_L 36 121 [.ref l0, .int xl1, .int xl2, .int xl3, .int xl4] [.int xs0] (toS z T) = some (tR z r) := by
  unfold F36_121 at h
  refine Eq.trans (e36_121 ..) ?_
  exact (fr_i hs0 h)
noncomputable def F36_118  (l0 : Nat) (l1 : Nat) (l2 : Nat) (l3 : Nat) (l4 : Nat) (s0 : Nat) (T : fS) : Option fR := (fbn (flz T s0) (fun v0 => F36_121  l0 l1 l2 l3 l4 v0 T))
theorem G36_118 {z : Option mm_O} {T : fS} {r : fR}  (l0 : Nat) (xl1 : Int32) (l1 : Nat) (hl1 : xl1 = nI l1) (xl2 : Int32) (l2 : Nat) (hl2 : xl2 = nI l2) (xl3 : Int32) (l3 : Nat) (hl3 : xl3 = nI l3) (xl4 : Int32) (l4 : Nat) (hl4 : xl4 = nI l4) (s0 : Nat) (h : F36_118  l0 l1 l2 l3 l4 s0 T = some r) : mm_L 36 118 [.ref l0, .int xl1, .int xl2, .int xl3, .int xl4] [.ref s0] (toS z T) = some (tR z r) := by
  unfold F36_118 at h
  refine Eq.trans (e36_118 ..) ?_
  exact (fb_n (fun _ q => flz_ok q) h (fun v0 h2 => G36_121  _ _ _ hl1 _ _ hl2 _ _ hl3 _ _ hl4 _ _ rfl h2))
noncomputable def F36_113  (l0 : Nat) (l1 : Nat) (l2 : Nat) (l3 : Nat) (l4 : Nat) (s0 : Nat) (T : fS) : Option fR := (fbv (fgr T l0 6 1) (fun v0 => F36_118  l0 l1 l2 l3 l4 v0 T) ((none : Option fR)))
theorem G36_113 {z : Option mm_O} {T : fS} {r : fR}  (l0 : Nat) (xl1 : Int32) (l1 : Nat) (hl1 : xl1 = nI l1) (xl2 : Int32) (l2 : Nat) (hl2 : xl2 = nI l2) (xl3 : Int32) (l3 : Nat) (hl3 : xl3 = nI l3) (xl4 : Int32) (l4 : Nat) (hl4 : xl4 = nI l4) (xs0 : Int32) (s0 : Nat) (hs0 : xs0 = nI s0) (h : F36_113  l0 l1 l2 l3 l4 s0 T = some r) : mm_L 36 113 [.ref l0, .int xl1, .int xl2, .int xl3, .int xl4] [.int xs0] (toS z T) = some (tR z r) := by
  unfold F36_113 at h
  refine Eq.trans (e36_113 ..) ?_
  exact (fb_v (fun _ q => fgr_ok q) h (fun v0 h2 => G36_118  _ _ _ hl1 _ _ hl2 _ _ hl3 _ _ hl4 _ h2) (fun h2 => fr_n h2))
noncomputable def F36_110  (l0 : Nat) (l1 : Nat) (l2 : Nat) (l3 : Nat) (l4 : Nat) (s0 : Nat) (s1 : Nat) (T : fS) : Option fR := (fbs (fla T s1 s0) (fun T1 => F36_113  l0 l1 l2 l3 l4 1 T1))
theorem G36_110 {z : Option mm_O} {T : fS} {r : fR}  (l0 : Nat) (xl1 : Int32) (l1 : Nat) (hl1 : xl1 = nI l1) (xl2 : Int32) (l2 : Nat) (hl2 : xl2 = nI l2) (xl3 : Int32) (l3 : Nat) (hl3 : xl3 = nI l3) (xl4 : Int32) (l4 : Nat) (hl4 : xl4 = nI l4) (s0 : Nat) (s1 : Nat) (h : F36_110  l0 l1 l2 l3 l4 s0 s1 T = some r) : mm_L 36 110 [.ref l0, .int xl1, .int xl2, .int xl3, .int xl4] [.ref s0, .ref s1] (toS z T) = some (tR z r) := by
  unfold F36_110 at h
  refine Eq.trans (e36_110 ..) ?_
  exact (fb_s (fun _ q => fla_ok q) h (fun T1 h2 => G36_113  _ _ _ hl1 _ _ hl2 _ _ hl3 _ _ hl4 _ _ (rfl : (1 : Int32) = nI 1) h2))
noncomputable def F36_107  (l0 : Nat) (l1 : Nat) (l2 : Nat) (l3 : Nat) (l4 : Nat) (s0 : Nat) (s1 : Nat) (s2 : Nat) (s3 : Nat) (s4 : Nat) (s5 : Nat) (s6 : Nat) (T : fS) : Option fR := (fKv false (fif (fch T s4 2) (F12_0 s4 s3 s2 s1 s0 T) none) (fun T1 => F36_110  l0 l1 l2 l3 l4 s5 s6 T1))
theorem G36_107 {z : Option mm_O} {T : fS} {r : fR}  (l0 : Nat) (xl1 : Int32) (l1 : Nat) (hl1 : xl1 = nI l1) (xl2 : Int32) (l2 : Nat) (hl2 : xl2 = nI l2) (xl3 : Int32) (l3 : Nat) (hl3 : xl3 = nI l3) (xl4 : Int32) (l4 : Nat) (hl4 : xl4 = nI l4) (s0 : Nat) (xs1 : Int32) (s1 : Nat) (hs1 : xs1 = nI s1) (xs2 : Int32) (s2 : Nat) (hs2 : xs2 = nI s2) (xs3 : Int32) (s3 : Nat) (hs3 : xs3 = nI s3) (s4 : Nat) (s5 : Nat) (s6 : Nat) (h : F36_107  l0 l1 l2 l3 l4 s0 s1 s2 s3 s4 s5 s6 T = some r) : mm_L 36 107 [.ref l0, .int xl1, .int xl2, .int xl3, .int xl4] [.ref s0, .int xs1, .int xs2, .int xs3, .ref s4, .ref s5, .ref s6] (toS z T) = some (tR z r) := by
  unfold F36_107 at h
  refine Eq.trans (e36_107 ..) ?_
  exact (fb_K2v (fun _ q => fb_mo (y := 12) ow_12 q (fun q => GM12 _ _ _ hs3 _ _ hs2 _ _ hs1 _ q)) h (fun T1 h2 => G36_110  _ _ _ hl1 _ _ hl2 _ _ hl3 _ _ hl4 _ _ h2))
noncomputable def F36_91  (l0 : Nat) (l1 : Nat) (l2 : Nat) (l3 : Nat) (l4 : Nat) (s0 : Nat) (T : fS) : Option fR := (fgd T (fKr true (fif (fch (fnw T (.inl (2, [.inl 0, .inl 0, .inl 0, .inr none, .inr none, .inl 0, .inl 0, .inl 0]) : fO) 8) l0 6) (F47_0 l0 l1 l2 l3 l4 (fnw T (.inl (2, [.inl 0, .inl 0, .inl 0, .inr none, .inr none, .inl 0, .inl 0, .inl 0]) : fO) 8)) none) (fun v0 T1 => F36_107  l0 l1 l2 l3 l4 v0 l3 l2 l1 T.2.1 T.2.1 s0 T1)))
theorem G36_91 {z : Option mm_O} {T : fS} {r : fR}  (l0 : Nat) (xl1 : Int32) (l1 : Nat) (hl1 : xl1 = nI l1) (xl2 : Int32) (l2 : Nat) (hl2 : xl2 = nI l2) (xl3 : Int32) (l3 : Nat) (hl3 : xl3 = nI l3) (xl4 : Int32) (l4 : Nat) (hl4 : xl4 = nI l4) (s0 : Nat) (h : F36_91  l0 l1 l2 l3 l4 s0 T = some r) : mm_L 36 91 [.ref l0, .int xl1, .int xl2, .int xl3, .int xl4] [.ref s0] (toS z T) = some (tR z r) := by
  unfold F36_91 at h
  refine Eq.trans (e36_91 ..) ?_
  have hg0 := fgd_in h
  replace h := hg0.2
  rw [show mm_new (toS z T) (.inl (2, [.int 0, .int 0, .int 0, .null, .null, .int 0, .int 0, .int 0])) 8 = toS z (fnw T (.inl (2, [.inl 0, .inl 0, .inl 0, .inr none, .inr none, .inl 0, .inl 0, .inl 0]) : fO) 8) from fnw_ok (o := (.inl (2, [.inl 0, .inl 0, .inl 0, .inr none, .inr none, .inl 0, .inl 0, .inl 0]) : fO)) hg0.1]
  exact (fb_K0r (fun _ q => fb_mo (y := 47) ow_47 q (fun q => GM47 _ _ _ hl1 _ _ hl2 _ _ hl3 _ _ hl4 q)) h (fun v0 T1 h2 => G36_107  _ _ _ hl1 _ _ hl2 _ _ hl3 _ _ hl4 _ _ _ hl3 _ _ hl2 _ _ hl1 _ _ _ h2))
noncomputable def F36_87  (l0 : Nat) (l1 : Nat) (l2 : Nat) (l3 : Nat) (l4 : Nat) (T : fS) : Option fR := (fbv (fgr T l0 6 1) (fun v0 => F36_91  l0 l1 l2 l3 l4 v0 T) ((none : Option fR)))
theorem G36_87 {z : Option mm_O} {T : fS} {r : fR}  (l0 : Nat) (xl1 : Int32) (l1 : Nat) (hl1 : xl1 = nI l1) (xl2 : Int32) (l2 : Nat) (hl2 : xl2 = nI l2) (xl3 : Int32) (l3 : Nat) (hl3 : xl3 = nI l3) (xl4 : Int32) (l4 : Nat) (hl4 : xl4 = nI l4) (h : F36_87  l0 l1 l2 l3 l4 T = some r) : mm_L 36 87 [.ref l0, .int xl1, .int xl2, .int xl3, .int xl4] [] (toS z T) = some (tR z r) := by
  unfold F36_87 at h
  refine Eq.trans (e36_87 ..) ?_
  exact (fb_v (fun _ q => fgr_ok q) h (fun v0 h2 => G36_91  _ _ _ hl1 _ _ hl2 _ _ hl3 _ _ hl4 _ h2) (fun h2 => fr_n h2))
noncomputable def F36_74  (l0 : Nat) (l1 : Nat) (l2 : Nat) (l3 : Nat) (l4 : Nat) (s0 : Nat) (T : fS) : Option fR := (fif (ieq s0 0) (F36_77  l0 l1 l2 l3 l4 T) (F36_87  l0 l1 l2 l3 l4 T))
theorem G36_74 {z : Option mm_O} {T : fS} {r : fR}  (l0 : Nat) (xl1 : Int32) (l1 : Nat) (hl1 : xl1 = nI l1) (xl2 : Int32) (l2 : Nat) (hl2 : xl2 = nI l2) (xl3 : Int32) (l3 : Nat) (hl3 : xl3 = nI l3) (xl4 : Int32) (l4 : Nat) (hl4 : xl4 = nI l4) (xs0 : Int32) (s0 : Nat) (hs0 : xs0 = nI s0) (h : F36_74  l0 l1 l2 l3 l4 s0 T = some r) : mm_L 36 74 [.ref l0, .int xl1, .int xl2, .int xl3, .int xl4] [.int xs0] (toS z T) = some (tR z r) := by
  unfold F36_74 at h
  refine Eq.trans (e36_74 ..) ?_
  exact (fb_if (cj_eq hs0 (rfl : (0 : Int32) = nI 0)) h (fun h1 => (G36_77  _ _ _ hl1 _ _ hl2 _ _ hl3 _ _ hl4 h1)) (fun h1 => (G36_87  _ _ _ hl1 _ _ hl2 _ _ hl3 _ _ hl4 h1)))
noncomputable def F36_65  (l0 : Nat) (l1 : Nat) (l2 : Nat) (l3 : Nat) (l4 : Nat) (T : fS) : Option fR := (fKi true (fif (fch T l0 6) (F43_0 l0 l1 l2 l3 l4 T) none) (fun v0 T1 => F36_74  l0 l1 l2 l3 l4 v0 T1))
theorem G36_65 {z : Option mm_O} {T : fS} {r : fR}  (l0 : Nat) (xl1 : Int32) (l1 : Nat) (hl1 : xl1 = nI l1) (xl2 : Int32) (l2 : Nat) (hl2 : xl2 = nI l2) (xl3 : Int32) (l3 : Nat) (hl3 : xl3 = nI l3) (xl4 : Int32) (l4 : Nat) (hl4 : xl4 = nI l4) (h : F36_65  l0 l1 l2 l3 l4 T = some r) : mm_L 36 65 [.ref l0, .int xl1, .int xl2, .int xl3, .int xl4] [] (toS z T) = some (tR z r) := by
  unfold F36_65 at h
  refine Eq.trans (e36_65 ..) ?_
  exact (fb_K0i (fun _ q => fb_mo (y := 43) ow_43 q (fun q => GM43 _ _ _ hl1 _ _ hl2 _ _ hl3 _ _ hl4 q)) h (fun v0 T1 h2 => G36_74  _ _ _ hl1 _ _ hl2 _ _ hl3 _ _ hl4 _ _ rfl h2))
noncomputable def F36_50  (l0 : Nat) (l1 : Nat) (l2 : Nat) (l3 : Nat) (l4 : Nat) (s0 : Nat) (T : fS) : Option fR := (fif (ilt s0 14) (F36_65  l0 l1 l2 l3 l4 T) (F36_55  l0 l1 l2 l3 l4 T))
theorem G36_50 {z : Option mm_O} {T : fS} {r : fR}  (l0 : Nat) (xl1 : Int32) (l1 : Nat) (hl1 : xl1 = nI l1) (xl2 : Int32) (l2 : Nat) (hl2 : xl2 = nI l2) (xl3 : Int32) (l3 : Nat) (hl3 : xl3 = nI l3) (xl4 : Int32) (l4 : Nat) (hl4 : xl4 = nI l4) (xs0 : Int32) (s0 : Nat) (hs0 : xs0 = nI s0) (h : F36_50  l0 l1 l2 l3 l4 s0 T = some r) : mm_L 36 50 [.ref l0, .int xl1, .int xl2, .int xl3, .int xl4] [.int xs0] (toS z T) = some (tR z r) := by
  unfold F36_50 at h
  refine Eq.trans (e36_50 ..) ?_
  exact (fb_if (cj_lt hs0 (rfl : (14 : Int32) = nI 14)) h (fun h1 => (G36_65  _ _ _ hl1 _ _ hl2 _ _ hl3 _ _ hl4 h1)) (fun h1 => (G36_55  _ _ _ hl1 _ _ hl2 _ _ hl3 _ _ hl4 h1)))
noncomputable def F36_47  (l0 : Nat) (l1 : Nat) (l2 : Nat) (l3 : Nat) (l4 : Nat) (s0 : Nat) (T : fS) : Option fR := (fbn (flz T s0) (fun v0 => F36_50  l0 l1 l2 l3 l4 v0 T))
theorem G36_47 {z : Option mm_O} {T : fS} {r : fR}  (l0 : Nat) (xl1 : Int32) (l1 : Nat) (hl1 : xl1 = nI l1) (xl2 : Int32) (l2 : Nat) (hl2 : xl2 = nI l2) (xl3 : Int32) (l3 : Nat) (hl3 : xl3 = nI l3) (xl4 : Int32) (l4 : Nat) (hl4 : xl4 = nI l4) (s0 : Nat) (h : F36_47  l0 l1 l2 l3 l4 s0 T = some r) : mm_L 36 47 [.ref l0, .int xl1, .int xl2, .int xl3, .int xl4] [.ref s0] (toS z T) = some (tR z r) := by
  unfold F36_47 at h
  refine Eq.trans (e36_47 ..) ?_
  exact (fb_n (fun _ q => flz_ok q) h (fun v0 h2 => G36_50  _ _ _ hl1 _ _ hl2 _ _ hl3 _ _ hl4 _ _ rfl h2))
noncomputable def F36_43  (l0 : Nat) (l1 : Nat) (l2 : Nat) (l3 : Nat) (l4 : Nat) (T : fS) : Option fR := (fbv (fgr T l0 6 1) (fun v0 => F36_47  l0 l1 l2 l3 l4 v0 T) ((none : Option fR)))
theorem G36_43 {z : Option mm_O} {T : fS} {r : fR}  (l0 : Nat) (xl1 : Int32) (l1 : Nat) (hl1 : xl1 = nI l1) (xl2 : Int32) (l2 : Nat) (hl2 : xl2 = nI l2) (xl3 : Int32) (l3 : Nat) (hl3 : xl3 = nI l3) (xl4 : Int32) (l4 : Nat) (hl4 : xl4 = nI l4) (h : F36_43  l0 l1 l2 l3 l4 T = some r) : mm_L 36 43 [.ref l0, .int xl1, .int xl2, .int xl3, .int xl4] [] (toS z T) = some (tR z r) := by
  unfold F36_43 at h
  refine Eq.trans (e36_43 ..) ?_
  exact (fb_v (fun _ q => fgr_ok q) h (fun v0 h2 => G36_47  _ _ _ hl1 _ _ hl2 _ _ hl3 _ _ hl4 _ h2) (fun h2 => fr_n h2))
noncomputable def F36_30  (l0 : Nat) (l1 : Nat) (l2 : Nat) (l3 : Nat) (l4 : Nat) (s0 : Nat) (T : fS) : Option fR := (fif (ieq s0 0) (F36_33  l0 l1 l2 l3 l4 T) (F36_43  l0 l1 l2 l3 l4 T))
theorem G36_30 {z : Option mm_O} {T : fS} {r : fR}  (l0 : Nat) (xl1 : Int32) (l1 : Nat) (hl1 : xl1 = nI l1) (xl2 : Int32) (l2 : Nat) (hl2 : xl2 = nI l2) (xl3 : Int32) (l3 : Nat) (hl3 : xl3 = nI l3) (xl4 : Int32) (l4 : Nat) (hl4 : xl4 = nI l4) (xs0 : Int32) (s0 : Nat) (hs0 : xs0 = nI s0) (h : F36_30  l0 l1 l2 l3 l4 s0 T = some r) : mm_L 36 30 [.ref l0, .int xl1, .int xl2, .int xl3, .int xl4] [.int xs0] (toS z T) = some (tR z r) := by
  unfold F36_30 at h
  refine Eq.trans (e36_30 ..) ?_
  exact (fb_if (cj_eq hs0 (rfl : (0 : Int32) = nI 0)) h (fun h1 => (G36_33  _ _ _ hl1 _ _ hl2 _ _ hl3 _ _ hl4 h1)) (fun h1 => (G36_43  _ _ _ hl1 _ _ hl2 _ _ hl3 _ _ hl4 h1)))
noncomputable def F36_22  (l0 : Nat) (l1 : Nat) (l2 : Nat) (l3 : Nat) (l4 : Nat) (T : fS) : Option fR := (fKi true (F42_0 l1 l2 l3 l4 T) (fun v0 T1 => F36_30  l0 l1 l2 l3 l4 v0 T1))
theorem G36_22 {z : Option mm_O} {T : fS} {r : fR}  (l0 : Nat) (xl1 : Int32) (l1 : Nat) (hl1 : xl1 = nI l1) (xl2 : Int32) (l2 : Nat) (hl2 : xl2 = nI l2) (xl3 : Int32) (l3 : Nat) (hl3 : xl3 = nI l3) (xl4 : Int32) (l4 : Nat) (hl4 : xl4 = nI l4) (h : F36_22  l0 l1 l2 l3 l4 T = some r) : mm_L 36 22 [.ref l0, .int xl1, .int xl2, .int xl3, .int xl4] [] (toS z T) = some (tR z r) := by
  unfold F36_22 at h
  refine Eq.trans (e36_22 ..) ?_
  exact (fb_K0i (fun _ q => GM42 _ _ hl1 _ _ hl2 _ _ hl3 _ _ hl4 q) h (fun v0 T1 h2 => G36_30  _ _ _ hl1 _ _ hl2 _ _ hl3 _ _ hl4 _ _ rfl h2))
noncomputable def F36_9  (l0 : Nat) (l1 : Nat) (l2 : Nat) (l3 : Nat) (l4 : Nat) (s0 : Nat) (T : fS) : Option fR := (fif (ieq s0 0) (F36_12  l0 l1 l2 l3 l4 T) (F36_22  l0 l1 l2 l3 l4 T))
theorem G36_9 {z : Option mm_O} {T : fS} {r : fR}  (l0 : Nat) (xl1 : Int32) (l1 : Nat) (hl1 : xl1 = nI l1) (xl2 : Int32) (l2 : Nat) (hl2 : xl2 = nI l2) (xl3 : Int32) (l3 : Nat) (hl3 : xl3 = nI l3) (xl4 : Int32) (l4 : Nat) (hl4 : xl4 = nI l4) (xs0 : Int32) (s0 : Nat) (hs0 : xs0 = nI s0) (h : F36_9  l0 l1 l2 l3 l4 s0 T = some r) : mm_L 36 9 [.ref l0, .int xl1, .int xl2, .int xl3, .int xl4] [.int xs0] (toS z T) = some (tR z r) := by
  unfold F36_9 at h
  refine Eq.trans (e36_9 ..) ?_
  exact (fb_if (cj_eq hs0 (rfl : (0 : Int32) = nI 0)) h (fun h1 => (G36_12  _ _ _ hl1 _ _ hl2 _ _ hl3 _ _ hl4 h1)) (fun h1 => (G36_22  _ _ _ hl1 _ _ hl2 _ _ hl3 _ _ hl4 h1)))
noncomputable def F36_0  (l0 : Nat) (l1 : Nat) (l2 : Nat) (l3 : Nat) (l4 : Nat) (T : fS) : Option fR := (fKi true (fif (fch T l0 6) (F41_0 l0 l1 l2 l3 l4 T) none) (fun v0 T1 => F36_9  l0 l1 l2 l3 l4 v0 T1))
theorem G36_0 {z : Option mm_O} {T : fS} {r : fR}  (l0 : Nat) (xl1 : Int32) (l1 : Nat) (hl1 : xl1 = nI l1) (xl2 : Int32) (l2 : Nat) (hl2 : xl2 = nI l2) (xl3 : Int32) (l3 : Nat) (hl3 : xl3 = nI l3) (xl4 : Int32) (l4 : Nat) (hl4 : xl4 = nI l4) (h : F36_0  l0 l1 l2 l3 l4 T = some r) : mm_L 36 0 [.ref l0, .int xl1, .int xl2, .int xl3, .int xl4] [] (toS z T) = some (tR z r) := by
  unfold F36_0 at h
  refine Eq.trans (e36_0 ..) ?_
  exact (fb_K0i (fun _ q => fb_mo (y := 41) ow_41 q (fun q => GM41 _ _ _ hl1 _ _ hl2 _ _ hl3 _ _ hl4 q)) h (fun v0 T1 h2 => G36_9  _ _ _ hl1 _ _ hl2 _ _ hl3 _ _ hl4 _ _ rfl h2))
theorem GM36 {z : Option mm_O} {T : fS} {r : fR} (l0 : Nat) (xl1 : Int32) (l1 : Nat) (hl1 : xl1 = nI l1) (xl2 : Int32) (l2 : Nat) (hl2 : xl2 = nI l2) (xl3 : Int32) (l3 : Nat) (hl3 : xl3 = nI l3) (xl4 : Int32) (l4 : Nat) (hl4 : xl4 = nI l4) (h : F36_0 l0 l1 l2 l3 l4 T = some r) : mm_M 36 [.ref l0, .int xl1, .int xl2, .int xl3, .int xl4] (toS z T) = some (tR z r) := Eq.trans (M_36 ..) (G36_0 l0 xl1 l1 hl1 xl2 l2 hl2 xl3 l3 hl3 xl4 l4 hl4 h)
-- 38: HandArchive.face
noncomputable def F38_23  (l0 : Nat) (l1 : Nat) (l2 : Nat) (l3 : Nat) (T : fS) : Option fR := (some ((.inr 0, fbm T 1 6) : fR))
theorem G38_23 {z : Option mm_O} {T : fS} {r : fR}  (l0 : Nat) (xl1 : Int32) (l1 : Nat) (hl1 : xl1 = nI l1) (xl2 : Int32) (l2 : Nat) (hl2 : xl2 = nI l2) (xl3 : Int32) (l3 : Nat) (hl3 : xl3 = nI l3) (h : F38_23  l0 l1 l2 l3 T = some r) : mm_L 38 23 [.ref l0, .int xl1, .int xl2, .int xl3] [] (toS z T) = some (tR z r) := by
  unfold F38_23 at h
  refine Eq.trans (e38_23 ..) ?_
  exact (fr_x h)
noncomputable def F38_45  (l0 : Nat) (l1 : Nat) (l2 : Nat) (l3 : Nat) (T : fS) : Option fR := (some ((.inr 1, fbm T 1 6) : fR))
theorem G38_45 {z : Option mm_O} {T : fS} {r : fR}  (l0 : Nat) (xl1 : Int32) (l1 : Nat) (hl1 : xl1 = nI l1) (xl2 : Int32) (l2 : Nat) (hl2 : xl2 = nI l2) (xl3 : Int32) (l3 : Nat) (hl3 : xl3 = nI l3) (h : F38_45  l0 l1 l2 l3 T = some r) : mm_L 38 45 [.ref l0, .int xl1, .int xl2, .int xl3] [] (toS z T) = some (tR z r) := by
  unfold F38_45 at h
  refine Eq.trans (e38_45 ..) ?_
  exact (fr_x h)
noncomputable def F38_68  (l0 : Nat) (l1 : Nat) (l2 : Nat) (l3 : Nat) (T : fS) : Option fR := (some ((.inr 1, fbm T 1 6) : fR))
theorem G38_68 {z : Option mm_O} {T : fS} {r : fR}  (l0 : Nat) (xl1 : Int32) (l1 : Nat) (hl1 : xl1 = nI l1) (xl2 : Int32) (l2 : Nat) (hl2 : xl2 = nI l2) (xl3 : Int32) (l3 : Nat) (hl3 : xl3 = nI l3) (h : F38_68  l0 l1 l2 l3 T = some r) : mm_L 38 68 [.ref l0, .int xl1, .int xl2, .int xl3] [] (toS z T) = some (tR z r) := by
  unfold F38_68 at h
  refine Eq.trans (e38_68 ..) ?_
  exact (fr_x h)
noncomputable def F38_103  (l0 : Nat) (l1 : Nat) (l2 : Nat) (l3 : Nat) (s0 : Nat) (T : fS) : Option fR := (some ((.inl (some (.inl s0)), T) : fR))
theorem G38_103 {z : Option mm_O} {T : fS} {r : fR}  (l0 : Nat) (xl1 : Int32) (l1 : Nat) (hl1 : xl1 = nI l1) (xl2 : Int32) (l2 : Nat) (hl2 : xl2 = nI l2) (xl3 : Int32) (l3 : Nat) (hl3 : xl3 = nI l3) (xs0 : Int32) (s0 : Nat) (hs0 : xs0 = nI s0) (h : F38_103  l0 l1 l2 l3 s0 T = some r) : mm_L 38 103 [.ref l0, .int xl1, .int xl2, .int xl3] [.int xs0] (toS z T) = some (tR z r) := by
  unfold F38_103 at h
  refine Eq.trans (e38_103 ..) ?_
  exact (fr_i hs0 h)
noncomputable def F38_100  (l0 : Nat) (l1 : Nat) (l2 : Nat) (l3 : Nat) (s0 : Nat) (T : fS) : Option fR := (fbn (flz T s0) (fun v0 => F38_103  l0 l1 l2 l3 v0 T))
theorem G38_100 {z : Option mm_O} {T : fS} {r : fR}  (l0 : Nat) (xl1 : Int32) (l1 : Nat) (hl1 : xl1 = nI l1) (xl2 : Int32) (l2 : Nat) (hl2 : xl2 = nI l2) (xl3 : Int32) (l3 : Nat) (hl3 : xl3 = nI l3) (s0 : Nat) (h : F38_100  l0 l1 l2 l3 s0 T = some r) : mm_L 38 100 [.ref l0, .int xl1, .int xl2, .int xl3] [.ref s0] (toS z T) = some (tR z r) := by
  unfold F38_100 at h
  refine Eq.trans (e38_100 ..) ?_
  exact (fb_n (fun _ q => flz_ok q) h (fun v0 h2 => G38_103  _ _ _ hl1 _ _ hl2 _ _ hl3 _ _ rfl h2))
noncomputable def F38_95  (l0 : Nat) (l1 : Nat) (l2 : Nat) (l3 : Nat) (s0 : Nat) (T : fS) : Option fR := (fbv (fgr T l0 6 2) (fun v0 => F38_100  l0 l1 l2 l3 v0 T) ((none : Option fR)))
theorem G38_95 {z : Option mm_O} {T : fS} {r : fR}  (l0 : Nat) (xl1 : Int32) (l1 : Nat) (hl1 : xl1 = nI l1) (xl2 : Int32) (l2 : Nat) (hl2 : xl2 = nI l2) (xl3 : Int32) (l3 : Nat) (hl3 : xl3 = nI l3) (xs0 : Int32) (s0 : Nat) (hs0 : xs0 = nI s0) (h : F38_95  l0 l1 l2 l3 s0 T = some r) : mm_L 38 95 [.ref l0, .int xl1, .int xl2, .int xl3] [.int xs0] (toS z T) = some (tR z r) := by
  unfold F38_95 at h
  refine Eq.trans (e38_95 ..) ?_
  exact (fb_v (fun _ q => fgr_ok q) h (fun v0 h2 => G38_100  _ _ _ hl1 _ _ hl2 _ _ hl3 _ h2) (fun h2 => fr_n h2))
noncomputable def F38_92  (l0 : Nat) (l1 : Nat) (l2 : Nat) (l3 : Nat) (s0 : Nat) (s1 : Nat) (T : fS) : Option fR := (fbs (fla T s1 s0) (fun T1 => F38_95  l0 l1 l2 l3 1 T1))
theorem G38_92 {z : Option mm_O} {T : fS} {r : fR}  (l0 : Nat) (xl1 : Int32) (l1 : Nat) (hl1 : xl1 = nI l1) (xl2 : Int32) (l2 : Nat) (hl2 : xl2 = nI l2) (xl3 : Int32) (l3 : Nat) (hl3 : xl3 = nI l3) (s0 : Nat) (s1 : Nat) (h : F38_92  l0 l1 l2 l3 s0 s1 T = some r) : mm_L 38 92 [.ref l0, .int xl1, .int xl2, .int xl3] [.ref s0, .ref s1] (toS z T) = some (tR z r) := by
  unfold F38_92 at h
  refine Eq.trans (e38_92 ..) ?_
  exact (fb_s (fun _ q => fla_ok q) h (fun T1 h2 => G38_95  _ _ _ hl1 _ _ hl2 _ _ hl3 _ _ (rfl : (1 : Int32) = nI 1) h2))
noncomputable def F38_82  (l0 : Nat) (l1 : Nat) (l2 : Nat) (l3 : Nat) (s0 : Nat) (T : fS) : Option fR := (fgd T (fKv false (fif (fch (fnw T (.inl (5, [.inl 0, .inl 0, .inl 0]) : fO) 3) T.2.1 5) (F22_0 T.2.1 l1 l2 l3 (fnw T (.inl (5, [.inl 0, .inl 0, .inl 0]) : fO) 3)) none) (fun T1 => F38_92  l0 l1 l2 l3 T.2.1 s0 T1)))
theorem G38_82 {z : Option mm_O} {T : fS} {r : fR}  (l0 : Nat) (xl1 : Int32) (l1 : Nat) (hl1 : xl1 = nI l1) (xl2 : Int32) (l2 : Nat) (hl2 : xl2 = nI l2) (xl3 : Int32) (l3 : Nat) (hl3 : xl3 = nI l3) (s0 : Nat) (h : F38_82  l0 l1 l2 l3 s0 T = some r) : mm_L 38 82 [.ref l0, .int xl1, .int xl2, .int xl3] [.ref s0] (toS z T) = some (tR z r) := by
  unfold F38_82 at h
  refine Eq.trans (e38_82 ..) ?_
  have hg0 := fgd_in h
  replace h := hg0.2
  rw [show mm_new (toS z T) (.inl (5, [.int 0, .int 0, .int 0])) 3 = toS z (fnw T (.inl (5, [.inl 0, .inl 0, .inl 0]) : fO) 3) from fnw_ok (o := (.inl (5, [.inl 0, .inl 0, .inl 0]) : fO)) hg0.1]
  exact (fb_K2v (fun _ q => fb_mo (y := 22) ow_22 q (fun q => GM22 _ _ _ hl1 _ _ hl2 _ _ hl3 q)) h (fun T1 h2 => G38_92  _ _ _ hl1 _ _ hl2 _ _ hl3 _ _ h2))
noncomputable def F38_78  (l0 : Nat) (l1 : Nat) (l2 : Nat) (l3 : Nat) (T : fS) : Option fR := (fbv (fgr T l0 6 2) (fun v0 => F38_82  l0 l1 l2 l3 v0 T) ((none : Option fR)))
theorem G38_78 {z : Option mm_O} {T : fS} {r : fR}  (l0 : Nat) (xl1 : Int32) (l1 : Nat) (hl1 : xl1 = nI l1) (xl2 : Int32) (l2 : Nat) (hl2 : xl2 = nI l2) (xl3 : Int32) (l3 : Nat) (hl3 : xl3 = nI l3) (h : F38_78  l0 l1 l2 l3 T = some r) : mm_L 38 78 [.ref l0, .int xl1, .int xl2, .int xl3] [] (toS z T) = some (tR z r) := by
  unfold F38_78 at h
  refine Eq.trans (e38_78 ..) ?_
  exact (fb_v (fun _ q => fgr_ok q) h (fun v0 h2 => G38_82  _ _ _ hl1 _ _ hl2 _ _ hl3 _ h2) (fun h2 => fr_n h2))
noncomputable def F38_65  (l0 : Nat) (l1 : Nat) (l2 : Nat) (l3 : Nat) (s0 : Nat) (T : fS) : Option fR := (fif (ieq s0 0) (F38_78  l0 l1 l2 l3 T) (F38_68  l0 l1 l2 l3 T))
theorem G38_65 {z : Option mm_O} {T : fS} {r : fR}  (l0 : Nat) (xl1 : Int32) (l1 : Nat) (hl1 : xl1 = nI l1) (xl2 : Int32) (l2 : Nat) (hl2 : xl2 = nI l2) (xl3 : Int32) (l3 : Nat) (hl3 : xl3 = nI l3) (xs0 : Int32) (s0 : Nat) (hs0 : xs0 = nI s0) (h : F38_65  l0 l1 l2 l3 s0 T = some r) : mm_L 38 65 [.ref l0, .int xl1, .int xl2, .int xl3] [.int xs0] (toS z T) = some (tR z r) := by
  unfold F38_65 at h
  refine Eq.trans (e38_65 ..) ?_
  exact (fb_if (cj_eq hs0 (rfl : (0 : Int32) = nI 0)) h (fun h1 => (G38_78  _ _ _ hl1 _ _ hl2 _ _ hl3 h1)) (fun h1 => (G38_68  _ _ _ hl1 _ _ hl2 _ _ hl3 h1)))
noncomputable def F38_60  (l0 : Nat) (l1 : Nat) (l2 : Nat) (l3 : Nat) (s0 : Nat) (s1 : Nat) (T : fS) : Option fR := (fKi true (fif (fch T s1 6) (F49_0 s1 s0 l2 l3 T) none) (fun v0 T1 => F38_65  l0 l1 l2 l3 v0 T1))
theorem G38_60 {z : Option mm_O} {T : fS} {r : fR}  (l0 : Nat) (xl1 : Int32) (l1 : Nat) (hl1 : xl1 = nI l1) (xl2 : Int32) (l2 : Nat) (hl2 : xl2 = nI l2) (xl3 : Int32) (l3 : Nat) (hl3 : xl3 = nI l3) (xs0 : Int32) (s0 : Nat) (hs0 : xs0 = nI s0) (s1 : Nat) (h : F38_60  l0 l1 l2 l3 s0 s1 T = some r) : mm_L 38 60 [.ref l0, .int xl1, .int xl2, .int xl3] [.int xs0, .ref s1] (toS z T) = some (tR z r) := by
  unfold F38_60 at h
  refine Eq.trans (e38_60 ..) ?_
  exact (fb_K0i (fun _ q => fb_mo (y := 49) ow_49 q (fun q => GM49 _ _ _ hs0 _ _ hl2 _ _ hl3 q)) h (fun v0 T1 h2 => G38_65  _ _ _ hl1 _ _ hl2 _ _ hl3 _ _ rfl h2))
noncomputable def F38_55  (l0 : Nat) (l1 : Nat) (l2 : Nat) (l3 : Nat) (T : fS) : Option fR := (fKi true (F52_0 l1 T) (fun v0 T1 => F38_60  l0 l1 l2 l3 v0 l0 T1))
theorem G38_55 {z : Option mm_O} {T : fS} {r : fR}  (l0 : Nat) (xl1 : Int32) (l1 : Nat) (hl1 : xl1 = nI l1) (xl2 : Int32) (l2 : Nat) (hl2 : xl2 = nI l2) (xl3 : Int32) (l3 : Nat) (hl3 : xl3 = nI l3) (h : F38_55  l0 l1 l2 l3 T = some r) : mm_L 38 55 [.ref l0, .int xl1, .int xl2, .int xl3] [] (toS z T) = some (tR z r) := by
  unfold F38_55 at h
  refine Eq.trans (e38_55 ..) ?_
  exact (fb_K0i (fun _ q => GM52 _ _ hl1 q) h (fun v0 T1 h2 => G38_60  _ _ _ hl1 _ _ hl2 _ _ hl3 _ _ rfl _ h2))
noncomputable def F38_40  (l0 : Nat) (l1 : Nat) (l2 : Nat) (l3 : Nat) (s0 : Nat) (T : fS) : Option fR := (fif (ilt s0 8) (F38_55  l0 l1 l2 l3 T) (F38_45  l0 l1 l2 l3 T))
theorem G38_40 {z : Option mm_O} {T : fS} {r : fR}  (l0 : Nat) (xl1 : Int32) (l1 : Nat) (hl1 : xl1 = nI l1) (xl2 : Int32) (l2 : Nat) (hl2 : xl2 = nI l2) (xl3 : Int32) (l3 : Nat) (hl3 : xl3 = nI l3) (xs0 : Int32) (s0 : Nat) (hs0 : xs0 = nI s0) (h : F38_40  l0 l1 l2 l3 s0 T = some r) : mm_L 38 40 [.ref l0, .int xl1, .int xl2, .int xl3] [.int xs0] (toS z T) = some (tR z r) := by
  unfold F38_40 at h
  refine Eq.trans (e38_40 ..) ?_
  exact (fb_if (cj_lt hs0 (rfl : (8 : Int32) = nI 8)) h (fun h1 => (G38_55  _ _ _ hl1 _ _ hl2 _ _ hl3 h1)) (fun h1 => (G38_45  _ _ _ hl1 _ _ hl2 _ _ hl3 h1)))
noncomputable def F38_37  (l0 : Nat) (l1 : Nat) (l2 : Nat) (l3 : Nat) (s0 : Nat) (T : fS) : Option fR := (fbn (flz T s0) (fun v0 => F38_40  l0 l1 l2 l3 v0 T))
theorem G38_37 {z : Option mm_O} {T : fS} {r : fR}  (l0 : Nat) (xl1 : Int32) (l1 : Nat) (hl1 : xl1 = nI l1) (xl2 : Int32) (l2 : Nat) (hl2 : xl2 = nI l2) (xl3 : Int32) (l3 : Nat) (hl3 : xl3 = nI l3) (s0 : Nat) (h : F38_37  l0 l1 l2 l3 s0 T = some r) : mm_L 38 37 [.ref l0, .int xl1, .int xl2, .int xl3] [.ref s0] (toS z T) = some (tR z r) := by
  unfold F38_37 at h
  refine Eq.trans (e38_37 ..) ?_
  exact (fb_n (fun _ q => flz_ok q) h (fun v0 h2 => G38_40  _ _ _ hl1 _ _ hl2 _ _ hl3 _ _ rfl h2))
noncomputable def F38_33  (l0 : Nat) (l1 : Nat) (l2 : Nat) (l3 : Nat) (T : fS) : Option fR := (fbv (fgr T l0 6 2) (fun v0 => F38_37  l0 l1 l2 l3 v0 T) ((none : Option fR)))
theorem G38_33 {z : Option mm_O} {T : fS} {r : fR}  (l0 : Nat) (xl1 : Int32) (l1 : Nat) (hl1 : xl1 = nI l1) (xl2 : Int32) (l2 : Nat) (hl2 : xl2 = nI l2) (xl3 : Int32) (l3 : Nat) (hl3 : xl3 = nI l3) (h : F38_33  l0 l1 l2 l3 T = some r) : mm_L 38 33 [.ref l0, .int xl1, .int xl2, .int xl3] [] (toS z T) = some (tR z r) := by
  unfold F38_33 at h
  refine Eq.trans (e38_33 ..) ?_
  exact (fb_v (fun _ q => fgr_ok q) h (fun v0 h2 => G38_37  _ _ _ hl1 _ _ hl2 _ _ hl3 _ h2) (fun h2 => fr_n h2))
noncomputable def F38_18  (l0 : Nat) (l1 : Nat) (l2 : Nat) (l3 : Nat) (T : fS) : Option fR := (fif (ile l2 l3) (F38_33  l0 l1 l2 l3 T) (F38_23  l0 l1 l2 l3 T))
theorem G38_18 {z : Option mm_O} {T : fS} {r : fR}  (l0 : Nat) (xl1 : Int32) (l1 : Nat) (hl1 : xl1 = nI l1) (xl2 : Int32) (l2 : Nat) (hl2 : xl2 = nI l2) (xl3 : Int32) (l3 : Nat) (hl3 : xl3 = nI l3) (h : F38_18  l0 l1 l2 l3 T = some r) : mm_L 38 18 [.ref l0, .int xl1, .int xl2, .int xl3] [] (toS z T) = some (tR z r) := by
  unfold F38_18 at h
  refine Eq.trans (e38_18 ..) ?_
  exact (fb_if (cj_le hl2 hl3) h (fun h1 => (G38_33  _ _ _ hl1 _ _ hl2 _ _ hl3 h1)) (fun h1 => (G38_23  _ _ _ hl1 _ _ hl2 _ _ hl3 h1)))
noncomputable def F38_15  (l0 : Nat) (l1 : Nat) (l2 : Nat) (l3 : Nat) (s0 : Nat) (T : fS) : Option fR := (fif (ieq s0 0) (F38_23  l0 l1 l2 l3 T) (F38_18  l0 l1 l2 l3 T))
theorem G38_15 {z : Option mm_O} {T : fS} {r : fR}  (l0 : Nat) (xl1 : Int32) (l1 : Nat) (hl1 : xl1 = nI l1) (xl2 : Int32) (l2 : Nat) (hl2 : xl2 = nI l2) (xl3 : Int32) (l3 : Nat) (hl3 : xl3 = nI l3) (xs0 : Int32) (s0 : Nat) (hs0 : xs0 = nI s0) (h : F38_15  l0 l1 l2 l3 s0 T = some r) : mm_L 38 15 [.ref l0, .int xl1, .int xl2, .int xl3] [.int xs0] (toS z T) = some (tR z r) := by
  unfold F38_15 at h
  refine Eq.trans (e38_15 ..) ?_
  exact (fb_if (cj_eq hs0 (rfl : (0 : Int32) = nI 0)) h (fun h1 => (G38_23  _ _ _ hl1 _ _ hl2 _ _ hl3 h1)) (fun h1 => (G38_18  _ _ _ hl1 _ _ hl2 _ _ hl3 h1)))
noncomputable def F38_10  (l0 : Nat) (l1 : Nat) (l2 : Nat) (l3 : Nat) (T : fS) : Option fR := (fKi false (F101_0 l1 4 T) (fun v0 T1 => F38_15  l0 l1 l2 l3 v0 T1))
theorem G38_10 {z : Option mm_O} {T : fS} {r : fR}  (l0 : Nat) (xl1 : Int32) (l1 : Nat) (hl1 : xl1 = nI l1) (xl2 : Int32) (l2 : Nat) (hl2 : xl2 = nI l2) (xl3 : Int32) (l3 : Nat) (hl3 : xl3 = nI l3) (h : F38_10  l0 l1 l2 l3 T = some r) : mm_L 38 10 [.ref l0, .int xl1, .int xl2, .int xl3] [] (toS z T) = some (tR z r) := by
  unfold F38_10 at h
  refine Eq.trans (e38_10 ..) ?_
  exact (fb_K2i (fun _ q => GM101 _ _ hl1 _ _ (rfl : (4 : Int32) = nI 4) q) h (fun v0 T1 h2 => G38_15  _ _ _ hl1 _ _ hl2 _ _ hl3 _ _ rfl h2))
noncomputable def F38_5  (l0 : Nat) (l1 : Nat) (l2 : Nat) (l3 : Nat) (T : fS) : Option fR := (fKv true (fif (fch T l0 6) (F53_0 l0 l3 T) none) (fun T1 => F38_10  l0 l1 l2 l3 T1))
theorem G38_5 {z : Option mm_O} {T : fS} {r : fR}  (l0 : Nat) (xl1 : Int32) (l1 : Nat) (hl1 : xl1 = nI l1) (xl2 : Int32) (l2 : Nat) (hl2 : xl2 = nI l2) (xl3 : Int32) (l3 : Nat) (hl3 : xl3 = nI l3) (h : F38_5  l0 l1 l2 l3 T = some r) : mm_L 38 5 [.ref l0, .int xl1, .int xl2, .int xl3] [] (toS z T) = some (tR z r) := by
  unfold F38_5 at h
  refine Eq.trans (e38_5 ..) ?_
  exact (fb_K0v (fun _ q => fb_mo (y := 53) ow_53 q (fun q => GM53 _ _ _ hl3 q)) h (fun T1 h2 => G38_10  _ _ _ hl1 _ _ hl2 _ _ hl3 h2))
noncomputable def F38_0  (l0 : Nat) (l1 : Nat) (l2 : Nat) (l3 : Nat) (T : fS) : Option fR := (fKv true (fif (fch T l0 6) (F53_0 l0 l2 T) none) (fun T1 => F38_5  l0 l1 l2 l3 T1))
theorem G38_0 {z : Option mm_O} {T : fS} {r : fR}  (l0 : Nat) (xl1 : Int32) (l1 : Nat) (hl1 : xl1 = nI l1) (xl2 : Int32) (l2 : Nat) (hl2 : xl2 = nI l2) (xl3 : Int32) (l3 : Nat) (hl3 : xl3 = nI l3) (h : F38_0  l0 l1 l2 l3 T = some r) : mm_L 38 0 [.ref l0, .int xl1, .int xl2, .int xl3] [] (toS z T) = some (tR z r) := by
  unfold F38_0 at h
  refine Eq.trans (e38_0 ..) ?_
  exact (fb_K0v (fun _ q => fb_mo (y := 53) ow_53 q (fun q => GM53 _ _ _ hl2 q)) h (fun T1 h2 => G38_5  _ _ _ hl1 _ _ hl2 _ _ hl3 h2))
theorem GM38 {z : Option mm_O} {T : fS} {r : fR} (l0 : Nat) (xl1 : Int32) (l1 : Nat) (hl1 : xl1 = nI l1) (xl2 : Int32) (l2 : Nat) (hl2 : xl2 = nI l2) (xl3 : Int32) (l3 : Nat) (hl3 : xl3 = nI l3) (h : F38_0 l0 l1 l2 l3 T = some r) : mm_M 38 [.ref l0, .int xl1, .int xl2, .int xl3] (toS z T) = some (tR z r) := Eq.trans (M_38 ..) (G38_0 l0 xl1 l1 hl1 xl2 l2 hl2 xl3 l3 hl3 h)
-- 57: HandArchive.rule
noncomputable def F57_8  (l0 : Nat) (l1 : Nat) (T : fS) : Option fR := (some ((.inr 0, fbm T 1 6) : fR))
theorem G57_8 {z : Option mm_O} {T : fS} {r : fR}  (l0 : Nat) (xl1 : Int32) (l1 : Nat) (hl1 : xl1 = nI l1) (h : F57_8  l0 l1 T = some r) : mm_L 57 8 [.ref l0, .int xl1] [] (toS z T) = some (tR z r) := by
  unfold F57_8 at h
  refine Eq.trans (e57_8 ..) ?_
  exact (fr_x h)
noncomputable def F57_31  (l0 : Nat) (l1 : Nat) (T : fS) : Option fR := (some ((.inr 1, fbm T 1 6) : fR))
theorem G57_31 {z : Option mm_O} {T : fS} {r : fR}  (l0 : Nat) (xl1 : Int32) (l1 : Nat) (hl1 : xl1 = nI l1) (h : F57_31  l0 l1 T = some r) : mm_L 57 31 [.ref l0, .int xl1] [] (toS z T) = some (tR z r) := by
  unfold F57_31 at h
  refine Eq.trans (e57_31 ..) ?_
  exact (fr_x h)
noncomputable def F57_65  (l0 : Nat) (l1 : Nat) (s0 : Nat) (T : fS) : Option fR := (some ((.inl (some (.inl (iS s0 1))), T) : fR))
theorem G57_65 {z : Option mm_O} {T : fS} {r : fR}  (l0 : Nat) (xl1 : Int32) (l1 : Nat) (hl1 : xl1 = nI l1) (xs0 : Int32) (s0 : Nat) (hs0 : xs0 = nI s0) (h : F57_65  l0 l1 s0 T = some r) : mm_L 57 65 [.ref l0, .int xl1] [.int xs0] (toS z T) = some (tR z r) := by
  unfold F57_65 at h
  refine Eq.trans (e57_65 ..) ?_
  exact (fr_i (iS_ok hs0 (rfl : (1 : Int32) = nI 1)) h)
noncomputable def F57_62  (l0 : Nat) (l1 : Nat) (s0 : Nat) (T : fS) : Option fR := (fbn (flz T s0) (fun v0 => F57_65  l0 l1 v0 T))
theorem G57_62 {z : Option mm_O} {T : fS} {r : fR}  (l0 : Nat) (xl1 : Int32) (l1 : Nat) (hl1 : xl1 = nI l1) (s0 : Nat) (h : F57_62  l0 l1 s0 T = some r) : mm_L 57 62 [.ref l0, .int xl1] [.ref s0] (toS z T) = some (tR z r) := by
  unfold F57_62 at h
  refine Eq.trans (e57_62 ..) ?_
  exact (fb_n (fun _ q => flz_ok q) h (fun v0 h2 => G57_65  _ _ _ hl1 _ _ rfl h2))
noncomputable def F57_57  (l0 : Nat) (l1 : Nat) (s0 : Nat) (T : fS) : Option fR := (fbv (fgr T l0 6 3) (fun v0 => F57_62  l0 l1 v0 T) ((none : Option fR)))
theorem G57_57 {z : Option mm_O} {T : fS} {r : fR}  (l0 : Nat) (xl1 : Int32) (l1 : Nat) (hl1 : xl1 = nI l1) (xs0 : Int32) (s0 : Nat) (hs0 : xs0 = nI s0) (h : F57_57  l0 l1 s0 T = some r) : mm_L 57 57 [.ref l0, .int xl1] [.int xs0] (toS z T) = some (tR z r) := by
  unfold F57_57 at h
  refine Eq.trans (e57_57 ..) ?_
  exact (fb_v (fun _ q => fgr_ok q) h (fun v0 h2 => G57_62  _ _ _ hl1 _ h2) (fun h2 => fr_n h2))
noncomputable def F57_54  (l0 : Nat) (l1 : Nat) (s0 : Nat) (s1 : Nat) (T : fS) : Option fR := (fbs (fla T s1 s0) (fun T1 => F57_57  l0 l1 1 T1))
theorem G57_54 {z : Option mm_O} {T : fS} {r : fR}  (l0 : Nat) (xl1 : Int32) (l1 : Nat) (hl1 : xl1 = nI l1) (s0 : Nat) (s1 : Nat) (h : F57_54  l0 l1 s0 s1 T = some r) : mm_L 57 54 [.ref l0, .int xl1] [.ref s0, .ref s1] (toS z T) = some (tR z r) := by
  unfold F57_54 at h
  refine Eq.trans (e57_54 ..) ?_
  exact (fb_s (fun _ q => fla_ok q) h (fun T1 h2 => G57_57  _ _ _ hl1 _ _ (rfl : (1 : Int32) = nI 1) h2))
noncomputable def F57_46  (l0 : Nat) (l1 : Nat) (s0 : Nat) (T : fS) : Option fR := (fgd T (fKv false (fif (fch (fnw T (.inl (4, [.inl 0, .inr none]) : fO) 2) T.2.1 4) (F19_0 T.2.1 l1 (fnw T (.inl (4, [.inl 0, .inr none]) : fO) 2)) none) (fun T1 => F57_54  l0 l1 T.2.1 s0 T1)))
theorem G57_46 {z : Option mm_O} {T : fS} {r : fR}  (l0 : Nat) (xl1 : Int32) (l1 : Nat) (hl1 : xl1 = nI l1) (s0 : Nat) (h : F57_46  l0 l1 s0 T = some r) : mm_L 57 46 [.ref l0, .int xl1] [.ref s0] (toS z T) = some (tR z r) := by
  unfold F57_46 at h
  refine Eq.trans (e57_46 ..) ?_
  have hg0 := fgd_in h
  replace h := hg0.2
  rw [show mm_new (toS z T) (.inl (4, [.int 0, .null])) 2 = toS z (fnw T (.inl (4, [.inl 0, .inr none]) : fO) 2) from fnw_ok (o := (.inl (4, [.inl 0, .inr none]) : fO)) hg0.1]
  exact (fb_K2v (fun _ q => fb_mo (y := 19) ow_19 q (fun q => GM19 _ _ _ hl1 q)) h (fun T1 h2 => G57_54  _ _ _ hl1 _ _ h2))
noncomputable def F57_42  (l0 : Nat) (l1 : Nat) (T : fS) : Option fR := (fbv (fgr T l0 6 3) (fun v0 => F57_46  l0 l1 v0 T) ((none : Option fR)))
theorem G57_42 {z : Option mm_O} {T : fS} {r : fR}  (l0 : Nat) (xl1 : Int32) (l1 : Nat) (hl1 : xl1 = nI l1) (h : F57_42  l0 l1 T = some r) : mm_L 57 42 [.ref l0, .int xl1] [] (toS z T) = some (tR z r) := by
  unfold F57_42 at h
  refine Eq.trans (e57_42 ..) ?_
  exact (fb_v (fun _ q => fgr_ok q) h (fun v0 h2 => G57_46  _ _ _ hl1 _ h2) (fun h2 => fr_n h2))
noncomputable def F57_26  (l0 : Nat) (l1 : Nat) (s0 : Nat) (T : fS) : Option fR := (fif (ilt s0 6) (F57_42  l0 l1 T) (F57_31  l0 l1 T))
theorem G57_26 {z : Option mm_O} {T : fS} {r : fR}  (l0 : Nat) (xl1 : Int32) (l1 : Nat) (hl1 : xl1 = nI l1) (xs0 : Int32) (s0 : Nat) (hs0 : xs0 = nI s0) (h : F57_26  l0 l1 s0 T = some r) : mm_L 57 26 [.ref l0, .int xl1] [.int xs0] (toS z T) = some (tR z r) := by
  unfold F57_26 at h
  refine Eq.trans (e57_26 ..) ?_
  exact (fb_if (cj_lt hs0 (rfl : (6 : Int32) = nI 6)) h (fun h1 => (G57_42  _ _ _ hl1 h1)) (fun h1 => (G57_31  _ _ _ hl1 h1)))
noncomputable def F57_23  (l0 : Nat) (l1 : Nat) (s0 : Nat) (T : fS) : Option fR := (fbn (flz T s0) (fun v0 => F57_26  l0 l1 v0 T))
theorem G57_23 {z : Option mm_O} {T : fS} {r : fR}  (l0 : Nat) (xl1 : Int32) (l1 : Nat) (hl1 : xl1 = nI l1) (s0 : Nat) (h : F57_23  l0 l1 s0 T = some r) : mm_L 57 23 [.ref l0, .int xl1] [.ref s0] (toS z T) = some (tR z r) := by
  unfold F57_23 at h
  refine Eq.trans (e57_23 ..) ?_
  exact (fb_n (fun _ q => flz_ok q) h (fun v0 h2 => G57_26  _ _ _ hl1 _ _ rfl h2))
noncomputable def F57_19  (l0 : Nat) (l1 : Nat) (T : fS) : Option fR := (fbv (fgr T l0 6 3) (fun v0 => F57_23  l0 l1 v0 T) ((none : Option fR)))
theorem G57_19 {z : Option mm_O} {T : fS} {r : fR}  (l0 : Nat) (xl1 : Int32) (l1 : Nat) (hl1 : xl1 = nI l1) (h : F57_19  l0 l1 T = some r) : mm_L 57 19 [.ref l0, .int xl1] [] (toS z T) = some (tR z r) := by
  unfold F57_19 at h
  refine Eq.trans (e57_19 ..) ?_
  exact (fb_v (fun _ q => fgr_ok q) h (fun v0 h2 => G57_23  _ _ _ hl1 _ h2) (fun h2 => fr_n h2))
noncomputable def F57_5  (l0 : Nat) (l1 : Nat) (s0 : Nat) (T : fS) : Option fR := (fif (ieq s0 0) (F57_8  l0 l1 T) (F57_19  l0 l1 T))
theorem G57_5 {z : Option mm_O} {T : fS} {r : fR}  (l0 : Nat) (xl1 : Int32) (l1 : Nat) (hl1 : xl1 = nI l1) (xs0 : Int32) (s0 : Nat) (hs0 : xs0 = nI s0) (h : F57_5  l0 l1 s0 T = some r) : mm_L 57 5 [.ref l0, .int xl1] [.int xs0] (toS z T) = some (tR z r) := by
  unfold F57_5 at h
  refine Eq.trans (e57_5 ..) ?_
  exact (fb_if (cj_eq hs0 (rfl : (0 : Int32) = nI 0)) h (fun h1 => (G57_8  _ _ _ hl1 h1)) (fun h1 => (G57_19  _ _ _ hl1 h1)))
noncomputable def F57_0  (l0 : Nat) (l1 : Nat) (T : fS) : Option fR := (fKi false (F101_0 l1 5 T) (fun v0 T1 => F57_5  l0 l1 v0 T1))
theorem G57_0 {z : Option mm_O} {T : fS} {r : fR}  (l0 : Nat) (xl1 : Int32) (l1 : Nat) (hl1 : xl1 = nI l1) (h : F57_0  l0 l1 T = some r) : mm_L 57 0 [.ref l0, .int xl1] [] (toS z T) = some (tR z r) := by
  unfold F57_0 at h
  refine Eq.trans (e57_0 ..) ?_
  exact (fb_K2i (fun _ q => GM101 _ _ hl1 _ _ (rfl : (5 : Int32) = nI 5) q) h (fun v0 T1 h2 => G57_5  _ _ _ hl1 _ _ rfl h2))
theorem GM57 {z : Option mm_O} {T : fS} {r : fR} (l0 : Nat) (xl1 : Int32) (l1 : Nat) (hl1 : xl1 = nI l1) (h : F57_0 l0 l1 T = some r) : mm_M 57 [.ref l0, .int xl1] (toS z T) = some (tR z r) := Eq.trans (M_57 ..) (G57_0 l0 xl1 l1 hl1 h)
-- 68: HandArchive.signed
noncomputable def F68_14  (l0 : Nat) (l1 : Nat) (l2 : Nat) (T : fS) : Option fR := (some ((.inr 0, fbm T 1 6) : fR))
theorem G68_14 {z : Option mm_O} {T : fS} {r : fR}  (l0 : Nat) (xl1 : Int32) (l1 : Nat) (hl1 : xl1 = nI l1) (xl2 : Int32) (l2 : Nat) (hl2 : xl2 = nI l2) (ul3 : Value) (h : F68_14  l0 l1 l2 T = some r) : mm_L 68 14 [.ref l0, .int xl1, .int xl2, ul3] [] (toS z T) = some (tR z r) := by
  unfold F68_14 at h
  refine Eq.trans (e68_14 ..) ?_
  exact (fr_x h)
noncomputable def F68_95  (l0 : Nat) (l1 : Nat) (l2 : Nat) (l3 : Nat) (s0 : Nat) (T : fS) : Option fR := (some ((.inl (some (.inl s0)), T) : fR))
theorem G68_95 {z : Option mm_O} {T : fS} {r : fR}  (l0 : Nat) (xl1 : Int32) (l1 : Nat) (hl1 : xl1 = nI l1) (xl2 : Int32) (l2 : Nat) (hl2 : xl2 = nI l2) (l3 : Nat) (xs0 : Int32) (s0 : Nat) (hs0 : xs0 = nI s0) (h : F68_95  l0 l1 l2 l3 s0 T = some r) : mm_L 68 95 [.ref l0, .int xl1, .int xl2, .ref l3] [.int xs0] (toS z T) = some (tR z r) := by
  unfold F68_95 at h
  refine Eq.trans (e68_95 ..) ?_
  exact (fr_i hs0 h)
noncomputable def F68_92  (l0 : Nat) (l1 : Nat) (l2 : Nat) (l3 : Nat) (s0 : Nat) (T : fS) : Option fR := (fbn (fgi T s0 1 0) (fun v0 => F68_95  l0 l1 l2 l3 v0 T))
theorem G68_92 {z : Option mm_O} {T : fS} {r : fR}  (l0 : Nat) (xl1 : Int32) (l1 : Nat) (hl1 : xl1 = nI l1) (xl2 : Int32) (l2 : Nat) (hl2 : xl2 = nI l2) (l3 : Nat) (s0 : Nat) (h : F68_92  l0 l1 l2 l3 s0 T = some r) : mm_L 68 92 [.ref l0, .int xl1, .int xl2, .ref l3] [.ref s0] (toS z T) = some (tR z r) := by
  unfold F68_92 at h
  refine Eq.trans (e68_92 ..) ?_
  exact (fb_n (fun _ q => fgi_ok q) h (fun v0 h2 => G68_95  _ _ _ hl1 _ _ hl2 _ _ _ rfl h2))
noncomputable def F68_88  (l0 : Nat) (l1 : Nat) (l2 : Nat) (l3 : Nat) (T : fS) : Option fR := (fbv (fgr T l3 2 4) (fun v0 => F68_92  l0 l1 l2 l3 v0 T) ((none : Option fR)))
theorem G68_88 {z : Option mm_O} {T : fS} {r : fR}  (l0 : Nat) (xl1 : Int32) (l1 : Nat) (hl1 : xl1 = nI l1) (xl2 : Int32) (l2 : Nat) (hl2 : xl2 = nI l2) (l3 : Nat) (h : F68_88  l0 l1 l2 l3 T = some r) : mm_L 68 88 [.ref l0, .int xl1, .int xl2, .ref l3] [] (toS z T) = some (tR z r) := by
  unfold F68_88 at h
  refine Eq.trans (e68_88 ..) ?_
  exact (fb_v (fun _ q => fgr_ok q) h (fun v0 h2 => G68_92  _ _ _ hl1 _ _ hl2 _ _ h2) (fun h2 => fr_n h2))
noncomputable def F68_103  (l0 : Nat) (l1 : Nat) (l2 : Nat) (l3 : Nat) (s0 : Nat) (T : fS) : Option fR := (some ((.inl (some (.inl s0)), T) : fR))
theorem G68_103 {z : Option mm_O} {T : fS} {r : fR}  (l0 : Nat) (xl1 : Int32) (l1 : Nat) (hl1 : xl1 = nI l1) (xl2 : Int32) (l2 : Nat) (hl2 : xl2 = nI l2) (l3 : Nat) (xs0 : Int32) (s0 : Nat) (hs0 : xs0 = nI s0) (h : F68_103  l0 l1 l2 l3 s0 T = some r) : mm_L 68 103 [.ref l0, .int xl1, .int xl2, .ref l3] [.int xs0] (toS z T) = some (tR z r) := by
  unfold F68_103 at h
  refine Eq.trans (e68_103 ..) ?_
  exact (fr_i hs0 h)
noncomputable def F68_100  (l0 : Nat) (l1 : Nat) (l2 : Nat) (l3 : Nat) (s0 : Nat) (T : fS) : Option fR := (fbn (fgi T s0 1 1) (fun v0 => F68_103  l0 l1 l2 l3 v0 T))
theorem G68_100 {z : Option mm_O} {T : fS} {r : fR}  (l0 : Nat) (xl1 : Int32) (l1 : Nat) (hl1 : xl1 = nI l1) (xl2 : Int32) (l2 : Nat) (hl2 : xl2 = nI l2) (l3 : Nat) (s0 : Nat) (h : F68_100  l0 l1 l2 l3 s0 T = some r) : mm_L 68 100 [.ref l0, .int xl1, .int xl2, .ref l3] [.ref s0] (toS z T) = some (tR z r) := by
  unfold F68_100 at h
  refine Eq.trans (e68_100 ..) ?_
  exact (fb_n (fun _ q => fgi_ok q) h (fun v0 h2 => G68_103  _ _ _ hl1 _ _ hl2 _ _ _ rfl h2))
noncomputable def F68_96  (l0 : Nat) (l1 : Nat) (l2 : Nat) (l3 : Nat) (T : fS) : Option fR := (fbv (fgr T l3 2 4) (fun v0 => F68_100  l0 l1 l2 l3 v0 T) ((none : Option fR)))
theorem G68_96 {z : Option mm_O} {T : fS} {r : fR}  (l0 : Nat) (xl1 : Int32) (l1 : Nat) (hl1 : xl1 = nI l1) (xl2 : Int32) (l2 : Nat) (hl2 : xl2 = nI l2) (l3 : Nat) (h : F68_96  l0 l1 l2 l3 T = some r) : mm_L 68 96 [.ref l0, .int xl1, .int xl2, .ref l3] [] (toS z T) = some (tR z r) := by
  unfold F68_96 at h
  refine Eq.trans (e68_96 ..) ?_
  exact (fb_v (fun _ q => fgr_ok q) h (fun v0 h2 => G68_100  _ _ _ hl1 _ _ hl2 _ _ h2) (fun h2 => fr_n h2))
noncomputable def F68_111  (l0 : Nat) (l1 : Nat) (l2 : Nat) (l3 : Nat) (s0 : Nat) (T : fS) : Option fR := (some ((.inl (some (.inl s0)), T) : fR))
theorem G68_111 {z : Option mm_O} {T : fS} {r : fR}  (l0 : Nat) (xl1 : Int32) (l1 : Nat) (hl1 : xl1 = nI l1) (xl2 : Int32) (l2 : Nat) (hl2 : xl2 = nI l2) (l3 : Nat) (xs0 : Int32) (s0 : Nat) (hs0 : xs0 = nI s0) (h : F68_111  l0 l1 l2 l3 s0 T = some r) : mm_L 68 111 [.ref l0, .int xl1, .int xl2, .ref l3] [.int xs0] (toS z T) = some (tR z r) := by
  unfold F68_111 at h
  refine Eq.trans (e68_111 ..) ?_
  exact (fr_i hs0 h)
noncomputable def F68_108  (l0 : Nat) (l1 : Nat) (l2 : Nat) (l3 : Nat) (s0 : Nat) (T : fS) : Option fR := (fbn (fgi T s0 1 2) (fun v0 => F68_111  l0 l1 l2 l3 v0 T))
theorem G68_108 {z : Option mm_O} {T : fS} {r : fR}  (l0 : Nat) (xl1 : Int32) (l1 : Nat) (hl1 : xl1 = nI l1) (xl2 : Int32) (l2 : Nat) (hl2 : xl2 = nI l2) (l3 : Nat) (s0 : Nat) (h : F68_108  l0 l1 l2 l3 s0 T = some r) : mm_L 68 108 [.ref l0, .int xl1, .int xl2, .ref l3] [.ref s0] (toS z T) = some (tR z r) := by
  unfold F68_108 at h
  refine Eq.trans (e68_108 ..) ?_
  exact (fb_n (fun _ q => fgi_ok q) h (fun v0 h2 => G68_111  _ _ _ hl1 _ _ hl2 _ _ _ rfl h2))
noncomputable def F68_104  (l0 : Nat) (l1 : Nat) (l2 : Nat) (l3 : Nat) (T : fS) : Option fR := (fbv (fgr T l3 2 4) (fun v0 => F68_108  l0 l1 l2 l3 v0 T) ((none : Option fR)))
theorem G68_104 {z : Option mm_O} {T : fS} {r : fR}  (l0 : Nat) (xl1 : Int32) (l1 : Nat) (hl1 : xl1 = nI l1) (xl2 : Int32) (l2 : Nat) (hl2 : xl2 = nI l2) (l3 : Nat) (h : F68_104  l0 l1 l2 l3 T = some r) : mm_L 68 104 [.ref l0, .int xl1, .int xl2, .ref l3] [] (toS z T) = some (tR z r) := by
  unfold F68_104 at h
  refine Eq.trans (e68_104 ..) ?_
  exact (fb_v (fun _ q => fgr_ok q) h (fun v0 h2 => G68_108  _ _ _ hl1 _ _ hl2 _ _ h2) (fun h2 => fr_n h2))
noncomputable def F68_119  (l0 : Nat) (l1 : Nat) (l2 : Nat) (l3 : Nat) (s0 : Nat) (T : fS) : Option fR := (some ((.inl (some (.inl s0)), T) : fR))
theorem G68_119 {z : Option mm_O} {T : fS} {r : fR}  (l0 : Nat) (xl1 : Int32) (l1 : Nat) (hl1 : xl1 = nI l1) (xl2 : Int32) (l2 : Nat) (hl2 : xl2 = nI l2) (l3 : Nat) (xs0 : Int32) (s0 : Nat) (hs0 : xs0 = nI s0) (h : F68_119  l0 l1 l2 l3 s0 T = some r) : mm_L 68 119 [.ref l0, .int xl1, .int xl2, .ref l3] [.int xs0] (toS z T) = some (tR z r) := by
  unfold F68_119 at h
  refine Eq.trans (e68_119 ..) ?_
  exact (fr_i hs0 h)
noncomputable def F68_116  (l0 : Nat) (l1 : Nat) (l2 : Nat) (l3 : Nat) (s0 : Nat) (T : fS) : Option fR := (fbn (fgi T s0 1 3) (fun v0 => F68_119  l0 l1 l2 l3 v0 T))
theorem G68_116 {z : Option mm_O} {T : fS} {r : fR}  (l0 : Nat) (xl1 : Int32) (l1 : Nat) (hl1 : xl1 = nI l1) (xl2 : Int32) (l2 : Nat) (hl2 : xl2 = nI l2) (l3 : Nat) (s0 : Nat) (h : F68_116  l0 l1 l2 l3 s0 T = some r) : mm_L 68 116 [.ref l0, .int xl1, .int xl2, .ref l3] [.ref s0] (toS z T) = some (tR z r) := by
  unfold F68_116 at h
  refine Eq.trans (e68_116 ..) ?_
  exact (fb_n (fun _ q => fgi_ok q) h (fun v0 h2 => G68_119  _ _ _ hl1 _ _ hl2 _ _ _ rfl h2))
noncomputable def F68_112  (l0 : Nat) (l1 : Nat) (l2 : Nat) (l3 : Nat) (T : fS) : Option fR := (fbv (fgr T l3 2 4) (fun v0 => F68_116  l0 l1 l2 l3 v0 T) ((none : Option fR)))
theorem G68_112 {z : Option mm_O} {T : fS} {r : fR}  (l0 : Nat) (xl1 : Int32) (l1 : Nat) (hl1 : xl1 = nI l1) (xl2 : Int32) (l2 : Nat) (hl2 : xl2 = nI l2) (l3 : Nat) (h : F68_112  l0 l1 l2 l3 T = some r) : mm_L 68 112 [.ref l0, .int xl1, .int xl2, .ref l3] [] (toS z T) = some (tR z r) := by
  unfold F68_112 at h
  refine Eq.trans (e68_112 ..) ?_
  exact (fb_v (fun _ q => fgr_ok q) h (fun v0 h2 => G68_116  _ _ _ hl1 _ _ hl2 _ _ h2) (fun h2 => fr_n h2))
noncomputable def F68_127  (l0 : Nat) (l1 : Nat) (l2 : Nat) (l3 : Nat) (s0 : Nat) (T : fS) : Option fR := (some ((.inl (some (.inl s0)), T) : fR))
theorem G68_127 {z : Option mm_O} {T : fS} {r : fR}  (l0 : Nat) (xl1 : Int32) (l1 : Nat) (hl1 : xl1 = nI l1) (xl2 : Int32) (l2 : Nat) (hl2 : xl2 = nI l2) (l3 : Nat) (xs0 : Int32) (s0 : Nat) (hs0 : xs0 = nI s0) (h : F68_127  l0 l1 l2 l3 s0 T = some r) : mm_L 68 127 [.ref l0, .int xl1, .int xl2, .ref l3] [.int xs0] (toS z T) = some (tR z r) := by
  unfold F68_127 at h
  refine Eq.trans (e68_127 ..) ?_
  exact (fr_i hs0 h)
noncomputable def F68_124  (l0 : Nat) (l1 : Nat) (l2 : Nat) (l3 : Nat) (s0 : Nat) (T : fS) : Option fR := (fbn (fgi T s0 1 4) (fun v0 => F68_127  l0 l1 l2 l3 v0 T))
theorem G68_124 {z : Option mm_O} {T : fS} {r : fR}  (l0 : Nat) (xl1 : Int32) (l1 : Nat) (hl1 : xl1 = nI l1) (xl2 : Int32) (l2 : Nat) (hl2 : xl2 = nI l2) (l3 : Nat) (s0 : Nat) (h : F68_124  l0 l1 l2 l3 s0 T = some r) : mm_L 68 124 [.ref l0, .int xl1, .int xl2, .ref l3] [.ref s0] (toS z T) = some (tR z r) := by
  unfold F68_124 at h
  refine Eq.trans (e68_124 ..) ?_
  exact (fb_n (fun _ q => fgi_ok q) h (fun v0 h2 => G68_127  _ _ _ hl1 _ _ hl2 _ _ _ rfl h2))
noncomputable def F68_120  (l0 : Nat) (l1 : Nat) (l2 : Nat) (l3 : Nat) (T : fS) : Option fR := (fbv (fgr T l3 2 4) (fun v0 => F68_124  l0 l1 l2 l3 v0 T) ((none : Option fR)))
theorem G68_120 {z : Option mm_O} {T : fS} {r : fR}  (l0 : Nat) (xl1 : Int32) (l1 : Nat) (hl1 : xl1 = nI l1) (xl2 : Int32) (l2 : Nat) (hl2 : xl2 = nI l2) (l3 : Nat) (h : F68_120  l0 l1 l2 l3 T = some r) : mm_L 68 120 [.ref l0, .int xl1, .int xl2, .ref l3] [] (toS z T) = some (tR z r) := by
  unfold F68_120 at h
  refine Eq.trans (e68_120 ..) ?_
  exact (fb_v (fun _ q => fgr_ok q) h (fun v0 h2 => G68_124  _ _ _ hl1 _ _ hl2 _ _ h2) (fun h2 => fr_n h2))
noncomputable def F68_135  (l0 : Nat) (l1 : Nat) (l2 : Nat) (l3 : Nat) (s0 : Nat) (T : fS) : Option fR := (some ((.inl (some (.inl s0)), T) : fR))
theorem G68_135 {z : Option mm_O} {T : fS} {r : fR}  (l0 : Nat) (xl1 : Int32) (l1 : Nat) (hl1 : xl1 = nI l1) (xl2 : Int32) (l2 : Nat) (hl2 : xl2 = nI l2) (l3 : Nat) (xs0 : Int32) (s0 : Nat) (hs0 : xs0 = nI s0) (h : F68_135  l0 l1 l2 l3 s0 T = some r) : mm_L 68 135 [.ref l0, .int xl1, .int xl2, .ref l3] [.int xs0] (toS z T) = some (tR z r) := by
  unfold F68_135 at h
  refine Eq.trans (e68_135 ..) ?_
  exact (fr_i hs0 h)
noncomputable def F68_132  (l0 : Nat) (l1 : Nat) (l2 : Nat) (l3 : Nat) (s0 : Nat) (T : fS) : Option fR := (fbn (fgi T s0 1 5) (fun v0 => F68_135  l0 l1 l2 l3 v0 T))
theorem G68_132 {z : Option mm_O} {T : fS} {r : fR}  (l0 : Nat) (xl1 : Int32) (l1 : Nat) (hl1 : xl1 = nI l1) (xl2 : Int32) (l2 : Nat) (hl2 : xl2 = nI l2) (l3 : Nat) (s0 : Nat) (h : F68_132  l0 l1 l2 l3 s0 T = some r) : mm_L 68 132 [.ref l0, .int xl1, .int xl2, .ref l3] [.ref s0] (toS z T) = some (tR z r) := by
  unfold F68_132 at h
  refine Eq.trans (e68_132 ..) ?_
  exact (fb_n (fun _ q => fgi_ok q) h (fun v0 h2 => G68_135  _ _ _ hl1 _ _ hl2 _ _ _ rfl h2))
noncomputable def F68_128  (l0 : Nat) (l1 : Nat) (l2 : Nat) (l3 : Nat) (T : fS) : Option fR := (fbv (fgr T l3 2 4) (fun v0 => F68_132  l0 l1 l2 l3 v0 T) ((none : Option fR)))
theorem G68_128 {z : Option mm_O} {T : fS} {r : fR}  (l0 : Nat) (xl1 : Int32) (l1 : Nat) (hl1 : xl1 = nI l1) (xl2 : Int32) (l2 : Nat) (hl2 : xl2 = nI l2) (l3 : Nat) (h : F68_128  l0 l1 l2 l3 T = some r) : mm_L 68 128 [.ref l0, .int xl1, .int xl2, .ref l3] [] (toS z T) = some (tR z r) := by
  unfold F68_128 at h
  refine Eq.trans (e68_128 ..) ?_
  exact (fb_v (fun _ q => fgr_ok q) h (fun v0 h2 => G68_132  _ _ _ hl1 _ _ hl2 _ _ h2) (fun h2 => fr_n h2))
noncomputable def F68_140  (l0 : Nat) (l1 : Nat) (l2 : Nat) (l3 : Nat) (s0 : Nat) (T : fS) : Option fR := (some ((.inl (some (.inl s0)), T) : fR))
theorem G68_140 {z : Option mm_O} {T : fS} {r : fR}  (l0 : Nat) (xl1 : Int32) (l1 : Nat) (hl1 : xl1 = nI l1) (xl2 : Int32) (l2 : Nat) (hl2 : xl2 = nI l2) (l3 : Nat) (xs0 : Int32) (s0 : Nat) (hs0 : xs0 = nI s0) (h : F68_140  l0 l1 l2 l3 s0 T = some r) : mm_L 68 140 [.ref l0, .int xl1, .int xl2, .ref l3] [.int xs0] (toS z T) = some (tR z r) := by
  unfold F68_140 at h
  refine Eq.trans (e68_140 ..) ?_
  exact (fr_i hs0 h)
noncomputable def F68_136  (l0 : Nat) (l1 : Nat) (l2 : Nat) (l3 : Nat) (T : fS) : Option fR := (fbn (fgi T l3 2 5) (fun v0 => F68_140  l0 l1 l2 l3 v0 T))
theorem G68_136 {z : Option mm_O} {T : fS} {r : fR}  (l0 : Nat) (xl1 : Int32) (l1 : Nat) (hl1 : xl1 = nI l1) (xl2 : Int32) (l2 : Nat) (hl2 : xl2 = nI l2) (l3 : Nat) (h : F68_136  l0 l1 l2 l3 T = some r) : mm_L 68 136 [.ref l0, .int xl1, .int xl2, .ref l3] [] (toS z T) = some (tR z r) := by
  unfold F68_136 at h
  refine Eq.trans (e68_136 ..) ?_
  exact (fb_n (fun _ q => fgi_ok q) h (fun v0 h2 => G68_140  _ _ _ hl1 _ _ hl2 _ _ _ rfl h2))
noncomputable def F68_145  (l0 : Nat) (l1 : Nat) (l2 : Nat) (l3 : Nat) (s0 : Nat) (T : fS) : Option fR := (some ((.inl (some (.inl s0)), T) : fR))
theorem G68_145 {z : Option mm_O} {T : fS} {r : fR}  (l0 : Nat) (xl1 : Int32) (l1 : Nat) (hl1 : xl1 = nI l1) (xl2 : Int32) (l2 : Nat) (hl2 : xl2 = nI l2) (l3 : Nat) (xs0 : Int32) (s0 : Nat) (hs0 : xs0 = nI s0) (h : F68_145  l0 l1 l2 l3 s0 T = some r) : mm_L 68 145 [.ref l0, .int xl1, .int xl2, .ref l3] [.int xs0] (toS z T) = some (tR z r) := by
  unfold F68_145 at h
  refine Eq.trans (e68_145 ..) ?_
  exact (fr_i hs0 h)
noncomputable def F68_141  (l0 : Nat) (l1 : Nat) (l2 : Nat) (l3 : Nat) (T : fS) : Option fR := (fbn (fgi T l3 2 6) (fun v0 => F68_145  l0 l1 l2 l3 v0 T))
theorem G68_141 {z : Option mm_O} {T : fS} {r : fR}  (l0 : Nat) (xl1 : Int32) (l1 : Nat) (hl1 : xl1 = nI l1) (xl2 : Int32) (l2 : Nat) (hl2 : xl2 = nI l2) (l3 : Nat) (h : F68_141  l0 l1 l2 l3 T = some r) : mm_L 68 141 [.ref l0, .int xl1, .int xl2, .ref l3] [] (toS z T) = some (tR z r) := by
  unfold F68_141 at h
  refine Eq.trans (e68_141 ..) ?_
  exact (fb_n (fun _ q => fgi_ok q) h (fun v0 h2 => G68_145  _ _ _ hl1 _ _ hl2 _ _ _ rfl h2))
noncomputable def F68_150  (l0 : Nat) (l1 : Nat) (l2 : Nat) (l3 : Nat) (s0 : Nat) (T : fS) : Option fR := (some ((.inl (some (.inl s0)), T) : fR))
theorem G68_150 {z : Option mm_O} {T : fS} {r : fR}  (l0 : Nat) (xl1 : Int32) (l1 : Nat) (hl1 : xl1 = nI l1) (xl2 : Int32) (l2 : Nat) (hl2 : xl2 = nI l2) (l3 : Nat) (xs0 : Int32) (s0 : Nat) (hs0 : xs0 = nI s0) (h : F68_150  l0 l1 l2 l3 s0 T = some r) : mm_L 68 150 [.ref l0, .int xl1, .int xl2, .ref l3] [.int xs0] (toS z T) = some (tR z r) := by
  unfold F68_150 at h
  refine Eq.trans (e68_150 ..) ?_
  exact (fr_i hs0 h)
noncomputable def F68_146  (l0 : Nat) (l1 : Nat) (l2 : Nat) (l3 : Nat) (T : fS) : Option fR := (fbn (fgi T l3 2 7) (fun v0 => F68_150  l0 l1 l2 l3 v0 T))
theorem G68_146 {z : Option mm_O} {T : fS} {r : fR}  (l0 : Nat) (xl1 : Int32) (l1 : Nat) (hl1 : xl1 = nI l1) (xl2 : Int32) (l2 : Nat) (hl2 : xl2 = nI l2) (l3 : Nat) (h : F68_146  l0 l1 l2 l3 T = some r) : mm_L 68 146 [.ref l0, .int xl1, .int xl2, .ref l3] [] (toS z T) = some (tR z r) := by
  unfold F68_146 at h
  refine Eq.trans (e68_146 ..) ?_
  exact (fb_n (fun _ q => fgi_ok q) h (fun v0 h2 => G68_150  _ _ _ hl1 _ _ hl2 _ _ _ rfl h2))
noncomputable def F68_39  (l0 : Nat) (l1 : Nat) (l2 : Nat) (s0 : Nat) (T : fS) : Option fR := (fif (ieq l2 0) (F68_88  l0 l1 l2 s0 T) (fif (ieq l2 1) (F68_96  l0 l1 l2 s0 T) (fif (ieq l2 2) (F68_104  l0 l1 l2 s0 T) (fif (ieq l2 3) (F68_112  l0 l1 l2 s0 T) (fif (ieq l2 4) (F68_120  l0 l1 l2 s0 T) (fif (ieq l2 5) (F68_128  l0 l1 l2 s0 T) (fif (ieq l2 6) (F68_136  l0 l1 l2 s0 T) (fif (ieq l2 7) (F68_141  l0 l1 l2 s0 T) (F68_146  l0 l1 l2 s0 T)))))))))
theorem G68_39 {z : Option mm_O} {T : fS} {r : fR}  (l0 : Nat) (xl1 : Int32) (l1 : Nat) (hl1 : xl1 = nI l1) (xl2 : Int32) (l2 : Nat) (hl2 : xl2 = nI l2) (ul3 : Value) (s0 : Nat) (h : F68_39  l0 l1 l2 s0 T = some r) : mm_L 68 39 [.ref l0, .int xl1, .int xl2, ul3] [.ref s0] (toS z T) = some (tR z r) := by
  unfold F68_39 at h
  refine Eq.trans (e68_39 ..) ?_
  exact (fb_if (cj_eq hl2 (rfl : (0 : Int32) = nI 0)) h (fun h1 => (G68_88  _ _ _ hl1 _ _ hl2 _ h1)) (fun h1 => (fb_if (cj_eq hl2 (rfl : (1 : Int32) = nI 1)) h1 (fun h1 => (G68_96  _ _ _ hl1 _ _ hl2 _ h1)) (fun h1 => (fb_if (cj_eq hl2 (rfl : (2 : Int32) = nI 2)) h1 (fun h1 => (G68_104  _ _ _ hl1 _ _ hl2 _ h1)) (fun h1 => (fb_if (cj_eq hl2 (rfl : (3 : Int32) = nI 3)) h1 (fun h1 => (G68_112  _ _ _ hl1 _ _ hl2 _ h1)) (fun h1 => (fb_if (cj_eq hl2 (rfl : (4 : Int32) = nI 4)) h1 (fun h1 => (G68_120  _ _ _ hl1 _ _ hl2 _ h1)) (fun h1 => (fb_if (cj_eq hl2 (rfl : (5 : Int32) = nI 5)) h1 (fun h1 => (G68_128  _ _ _ hl1 _ _ hl2 _ h1)) (fun h1 => (fb_if (cj_eq hl2 (rfl : (6 : Int32) = nI 6)) h1 (fun h1 => (G68_136  _ _ _ hl1 _ _ hl2 _ h1)) (fun h1 => (fb_if (cj_eq hl2 (rfl : (7 : Int32) = nI 7)) h1 (fun h1 => (G68_141  _ _ _ hl1 _ _ hl2 _ h1)) (fun h1 => (G68_146  _ _ _ hl1 _ _ hl2 _ h1)))))))))))))))))
noncomputable def F68_36  (l0 : Nat) (l1 : Nat) (l2 : Nat) (s0 : Nat) (T : fS) : Option fR := (fif (fch T s0 2) (F68_39  l0 l1 l2 s0 T) none)
theorem G68_36 {z : Option mm_O} {T : fS} {r : fR}  (l0 : Nat) (xl1 : Int32) (l1 : Nat) (hl1 : xl1 = nI l1) (xl2 : Int32) (l2 : Nat) (hl2 : xl2 = nI l2) (ul3 : Value) (s0 : Nat) (h : F68_36  l0 l1 l2 s0 T = some r) : mm_L 68 36 [.ref l0, .int xl1, .int xl2, ul3] [.ref s0] (toS z T) = some (tR z r) := by
  unfold F68_36 at h
  refine Eq.trans (e68_36 ..) ?_
  exact (fb_c h (fun h2 => G68_39  _ _ _ hl1 _ _ hl2 _ _ h2))
noncomputable def F68_32  (l0 : Nat) (l1 : Nat) (l2 : Nat) (s0 : Nat) (T : fS) : Option fR := (fbn (flg T s0 l1) (fun v0 => F68_36  l0 l1 l2 v0 T))
theorem G68_32 {z : Option mm_O} {T : fS} {r : fR}  (l0 : Nat) (xl1 : Int32) (l1 : Nat) (hl1 : xl1 = nI l1) (xl2 : Int32) (l2 : Nat) (hl2 : xl2 = nI l2) (ul3 : Value) (s0 : Nat) (h : F68_32  l0 l1 l2 s0 T = some r) : mm_L 68 32 [.ref l0, .int xl1, .int xl2, ul3] [.ref s0] (toS z T) = some (tR z r) := by
  unfold F68_32 at h
  refine Eq.trans (e68_32 ..) ?_
  exact (fb_g (fun _ q => by rw [hl1]; exact flg_ok q) h (fun v0 h2 => G68_36  _ _ _ hl1 _ _ hl2 _ _ h2))
noncomputable def F68_28  (l0 : Nat) (l1 : Nat) (l2 : Nat) (T : fS) : Option fR := (fbv (fgr T l0 6 1) (fun v0 => F68_32  l0 l1 l2 v0 T) ((none : Option fR)))
theorem G68_28 {z : Option mm_O} {T : fS} {r : fR}  (l0 : Nat) (xl1 : Int32) (l1 : Nat) (hl1 : xl1 = nI l1) (xl2 : Int32) (l2 : Nat) (hl2 : xl2 = nI l2) (ul3 : Value) (h : F68_28  l0 l1 l2 T = some r) : mm_L 68 28 [.ref l0, .int xl1, .int xl2, ul3] [] (toS z T) = some (tR z r) := by
  unfold F68_28 at h
  refine Eq.trans (e68_28 ..) ?_
  exact (fb_v (fun _ q => fgr_ok q) h (fun v0 h2 => G68_32  _ _ _ hl1 _ _ hl2 _ _ h2) (fun h2 => fr_n h2))
noncomputable def F68_24  (l0 : Nat) (l1 : Nat) (l2 : Nat) (T : fS) : Option fR := (fKv true (fif (fch T l0 6) (F71_0 l0  T) none) (fun T1 => F68_28  l0 l1 l2 T1))
theorem G68_24 {z : Option mm_O} {T : fS} {r : fR}  (l0 : Nat) (xl1 : Int32) (l1 : Nat) (hl1 : xl1 = nI l1) (xl2 : Int32) (l2 : Nat) (hl2 : xl2 = nI l2) (ul3 : Value) (h : F68_24  l0 l1 l2 T = some r) : mm_L 68 24 [.ref l0, .int xl1, .int xl2, ul3] [] (toS z T) = some (tR z r) := by
  unfold F68_24 at h
  refine Eq.trans (e68_24 ..) ?_
  exact (fb_K0v (fun _ q => fb_mo (y := 71) ow_71 q (fun q => GM71 _  q)) h (fun T1 h2 => G68_28  _ _ _ hl1 _ _ hl2 _ h2))
noncomputable def F68_11  (l0 : Nat) (l1 : Nat) (l2 : Nat) (s0 : Nat) (T : fS) : Option fR := (fif (ieq s0 0) (F68_14  l0 l1 l2 T) (F68_24  l0 l1 l2 T))
theorem G68_11 {z : Option mm_O} {T : fS} {r : fR}  (l0 : Nat) (xl1 : Int32) (l1 : Nat) (hl1 : xl1 = nI l1) (xl2 : Int32) (l2 : Nat) (hl2 : xl2 = nI l2) (ul3 : Value) (xs0 : Int32) (s0 : Nat) (hs0 : xs0 = nI s0) (h : F68_11  l0 l1 l2 s0 T = some r) : mm_L 68 11 [.ref l0, .int xl1, .int xl2, ul3] [.int xs0] (toS z T) = some (tR z r) := by
  unfold F68_11 at h
  refine Eq.trans (e68_11 ..) ?_
  exact (fb_if (cj_eq hs0 (rfl : (0 : Int32) = nI 0)) h (fun h1 => (G68_14  _ _ _ hl1 _ _ hl2 _ h1)) (fun h1 => (G68_24  _ _ _ hl1 _ _ hl2 _ h1)))
noncomputable def F68_5  (l0 : Nat) (l1 : Nat) (l2 : Nat) (T : fS) : Option fR := (fKi false (F101_0 l2 9 T) (fun v0 T1 => F68_11  l0 l1 l2 v0 T1))
theorem G68_5 {z : Option mm_O} {T : fS} {r : fR}  (l0 : Nat) (xl1 : Int32) (l1 : Nat) (hl1 : xl1 = nI l1) (xl2 : Int32) (l2 : Nat) (hl2 : xl2 = nI l2) (ul3 : Value) (h : F68_5  l0 l1 l2 T = some r) : mm_L 68 5 [.ref l0, .int xl1, .int xl2, ul3] [] (toS z T) = some (tR z r) := by
  unfold F68_5 at h
  refine Eq.trans (e68_5 ..) ?_
  exact (fb_K2i (fun _ q => GM101 _ _ hl2 _ _ (rfl : (9 : Int32) = nI 9) q) h (fun v0 T1 h2 => G68_11  _ _ _ hl1 _ _ hl2 _ _ _ rfl h2))
noncomputable def F68_0  (l0 : Nat) (l1 : Nat) (l2 : Nat) (T : fS) : Option fR := (fKv true (fif (fch T l0 6) (F53_0 l0 l1 T) none) (fun T1 => F68_5  l0 l1 l2 T1))
theorem G68_0 {z : Option mm_O} {T : fS} {r : fR}  (l0 : Nat) (xl1 : Int32) (l1 : Nat) (hl1 : xl1 = nI l1) (xl2 : Int32) (l2 : Nat) (hl2 : xl2 = nI l2) (ul3 : Value) (h : F68_0  l0 l1 l2 T = some r) : mm_L 68 0 [.ref l0, .int xl1, .int xl2, ul3] [] (toS z T) = some (tR z r) := by
  unfold F68_0 at h
  refine Eq.trans (e68_0 ..) ?_
  exact (fb_K0v (fun _ q => fb_mo (y := 53) ow_53 q (fun q => GM53 _ _ _ hl1 q)) h (fun T1 h2 => G68_5  _ _ _ hl1 _ _ hl2 _ h2))
theorem GM68 {z : Option mm_O} {T : fS} {r : fR} (l0 : Nat) (xl1 : Int32) (l1 : Nat) (hl1 : xl1 = nI l1) (xl2 : Int32) (l2 : Nat) (hl2 : xl2 = nI l2) (h : F68_0 l0 l1 l2 T = some r) : mm_M 68 [.ref l0, .int xl1, .int xl2] (toS z T) = some (tR z r) := Eq.trans (M_68 ..) (G68_0 l0 xl1 l1 hl1 xl2 l2 hl2 _ h)
-- 69: HandArchive.at
noncomputable def F69_4  (l0 : Nat) (l1 : Nat) (l2 : Nat) (T : fS) : Option fR := (some ((.inr 2, fbm T 1 6) : fR))
theorem G69_4 {z : Option mm_O} {T : fS} {r : fR}  (l0 : Nat) (xl1 : Int32) (l1 : Nat) (hl1 : xl1 = nI l1) (xl2 : Int32) (l2 : Nat) (hl2 : xl2 = nI l2) (ul3 : Value) (ul4 : Value) (ul5 : Value) (h : F69_4  l0 l1 l2 T = some r) : mm_L 69 4 [.ref l0, .int xl1, .int xl2, ul3, ul4, ul5] [] (toS z T) = some (tR z r) := by
  unfold F69_4 at h
  refine Eq.trans (e69_4 ..) ?_
  exact (fr_x h)
noncomputable def F69_24  (l0 : Nat) (l1 : Nat) (l2 : Nat) (T : fS) : Option fR := (some ((.inr 0, fbm T 1 6) : fR))
theorem G69_24 {z : Option mm_O} {T : fS} {r : fR}  (l0 : Nat) (xl1 : Int32) (l1 : Nat) (hl1 : xl1 = nI l1) (xl2 : Int32) (l2 : Nat) (hl2 : xl2 = nI l2) (ul3 : Value) (ul4 : Value) (ul5 : Value) (h : F69_24  l0 l1 l2 T = some r) : mm_L 69 24 [.ref l0, .int xl1, .int xl2, ul3, ul4, ul5] [] (toS z T) = some (tR z r) := by
  unfold F69_24 at h
  refine Eq.trans (e69_24 ..) ?_
  exact (fr_x h)
noncomputable def F69_58  (l0 : Nat) (l1 : Nat) (l2 : Nat) (l3 : Nat) (T : fS) : Option fR := (some ((.inl (some (.inl 4294967295)), T) : fR))
theorem G69_58 {z : Option mm_O} {T : fS} {r : fR}  (l0 : Nat) (xl1 : Int32) (l1 : Nat) (hl1 : xl1 = nI l1) (xl2 : Int32) (l2 : Nat) (hl2 : xl2 = nI l2) (xl3 : Int32) (l3 : Nat) (hl3 : xl3 = nI l3) (ul4 : Value) (ul5 : Value) (h : F69_58  l0 l1 l2 l3 T = some r) : mm_L 69 58 [.ref l0, .int xl1, .int xl2, .int xl3, ul4, ul5] [] (toS z T) = some (tR z r) := by
  unfold F69_58 at h
  refine Eq.trans (e69_58 ..) ?_
  exact (fr_i (by decide : (-1 : Int32) = nI 4294967295) h)
noncomputable def F69_144  (l0 : Nat) (l1 : Nat) (l2 : Nat) (l3 : Nat) (l4 : Nat) (l5 : Nat) (s0 : Nat) (T : fS) : Option fR := (some ((.inl (some (.inl s0)), T) : fR))
theorem G69_144 {z : Option mm_O} {T : fS} {r : fR}  (l0 : Nat) (xl1 : Int32) (l1 : Nat) (hl1 : xl1 = nI l1) (xl2 : Int32) (l2 : Nat) (hl2 : xl2 = nI l2) (xl3 : Int32) (l3 : Nat) (hl3 : xl3 = nI l3) (l4 : Nat) (xl5 : Int32) (l5 : Nat) (hl5 : xl5 = nI l5) (xs0 : Int32) (s0 : Nat) (hs0 : xs0 = nI s0) (h : F69_144  l0 l1 l2 l3 l4 l5 s0 T = some r) : mm_L 69 144 [.ref l0, .int xl1, .int xl2, .int xl3, .ref l4, .int xl5] [.int xs0] (toS z T) = some (tR z r) := by
  unfold F69_144 at h
  refine Eq.trans (e69_144 ..) ?_
  exact (fr_i hs0 h)
noncomputable def F69_141  (l0 : Nat) (l1 : Nat) (l2 : Nat) (l3 : Nat) (l4 : Nat) (l5 : Nat) (s0 : Nat) (T : fS) : Option fR := (fbn (fgi T s0 1 0) (fun v0 => F69_144  l0 l1 l2 l3 l4 l5 v0 T))
theorem G69_141 {z : Option mm_O} {T : fS} {r : fR}  (l0 : Nat) (xl1 : Int32) (l1 : Nat) (hl1 : xl1 = nI l1) (xl2 : Int32) (l2 : Nat) (hl2 : xl2 = nI l2) (xl3 : Int32) (l3 : Nat) (hl3 : xl3 = nI l3) (l4 : Nat) (xl5 : Int32) (l5 : Nat) (hl5 : xl5 = nI l5) (s0 : Nat) (h : F69_141  l0 l1 l2 l3 l4 l5 s0 T = some r) : mm_L 69 141 [.ref l0, .int xl1, .int xl2, .int xl3, .ref l4, .int xl5] [.ref s0] (toS z T) = some (tR z r) := by
  unfold F69_141 at h
  refine Eq.trans (e69_141 ..) ?_
  exact (fb_n (fun _ q => fgi_ok q) h (fun v0 h2 => G69_144  _ _ _ hl1 _ _ hl2 _ _ hl3 _ _ _ hl5 _ _ rfl h2))
noncomputable def F69_136  (l0 : Nat) (l1 : Nat) (l2 : Nat) (l3 : Nat) (l4 : Nat) (l5 : Nat) (T : fS) : Option fR := (fbv (fgr T l4 2 4) (fun v0 => F69_141  l0 l1 l2 l3 l4 l5 v0 T) ((none : Option fR)))
theorem G69_136 {z : Option mm_O} {T : fS} {r : fR}  (l0 : Nat) (xl1 : Int32) (l1 : Nat) (hl1 : xl1 = nI l1) (xl2 : Int32) (l2 : Nat) (hl2 : xl2 = nI l2) (xl3 : Int32) (l3 : Nat) (hl3 : xl3 = nI l3) (l4 : Nat) (xl5 : Int32) (l5 : Nat) (hl5 : xl5 = nI l5) (h : F69_136  l0 l1 l2 l3 l4 l5 T = some r) : mm_L 69 136 [.ref l0, .int xl1, .int xl2, .int xl3, .ref l4, .int xl5] [] (toS z T) = some (tR z r) := by
  unfold F69_136 at h
  refine Eq.trans (e69_136 ..) ?_
  exact (fb_v (fun _ q => fgr_ok q) h (fun v0 h2 => G69_141  _ _ _ hl1 _ _ hl2 _ _ hl3 _ _ _ hl5 _ h2) (fun h2 => fr_n h2))
noncomputable def F69_165  (l0 : Nat) (l1 : Nat) (l2 : Nat) (l3 : Nat) (l4 : Nat) (l5 : Nat) (s0 : Nat) (T : fS) : Option fR := (some ((.inl (some (.inl s0)), T) : fR))
theorem G69_165 {z : Option mm_O} {T : fS} {r : fR}  (l0 : Nat) (xl1 : Int32) (l1 : Nat) (hl1 : xl1 = nI l1) (xl2 : Int32) (l2 : Nat) (hl2 : xl2 = nI l2) (xl3 : Int32) (l3 : Nat) (hl3 : xl3 = nI l3) (l4 : Nat) (xl5 : Int32) (l5 : Nat) (hl5 : xl5 = nI l5) (xs0 : Int32) (s0 : Nat) (hs0 : xs0 = nI s0) (h : F69_165  l0 l1 l2 l3 l4 l5 s0 T = some r) : mm_L 69 165 [.ref l0, .int xl1, .int xl2, .int xl3, .ref l4, .int xl5] [.int xs0] (toS z T) = some (tR z r) := by
  unfold F69_165 at h
  refine Eq.trans (e69_165 ..) ?_
  exact (fr_i hs0 h)
noncomputable def F69_156  (l0 : Nat) (l1 : Nat) (l2 : Nat) (l3 : Nat) (l4 : Nat) (l5 : Nat) (s0 : Nat) (T : fS) : Option fR := (F69_165  l0 l1 l2 l3 l4 l5 s0 T)
theorem G69_156 {z : Option mm_O} {T : fS} {r : fR}  (l0 : Nat) (xl1 : Int32) (l1 : Nat) (hl1 : xl1 = nI l1) (xl2 : Int32) (l2 : Nat) (hl2 : xl2 = nI l2) (xl3 : Int32) (l3 : Nat) (hl3 : xl3 = nI l3) (l4 : Nat) (xl5 : Int32) (l5 : Nat) (hl5 : xl5 = nI l5) (xs0 : Int32) (s0 : Nat) (hs0 : xs0 = nI s0) (h : F69_156  l0 l1 l2 l3 l4 l5 s0 T = some r) : mm_L 69 156 [.ref l0, .int xl1, .int xl2, .int xl3, .ref l4, .int xl5] [.int xs0] (toS z T) = some (tR z r) := by
  unfold F69_156 at h
  refine Eq.trans (e69_156 ..) ?_
  exact (G69_165  _ _ _ hl1 _ _ hl2 _ _ hl3 _ _ _ hl5 _ _ hs0 h)
noncomputable def F69_150  (l0 : Nat) (l1 : Nat) (l2 : Nat) (l3 : Nat) (l4 : Nat) (l5 : Nat) (T : fS) : Option fR := (fKi true (fif (fch T l0 6) (F75_0 l0 l3 l1 T) none) (fun v0 T1 => F69_156  l0 l1 l2 l3 l4 l5 v0 T1))
theorem G69_150 {z : Option mm_O} {T : fS} {r : fR}  (l0 : Nat) (xl1 : Int32) (l1 : Nat) (hl1 : xl1 = nI l1) (xl2 : Int32) (l2 : Nat) (hl2 : xl2 = nI l2) (xl3 : Int32) (l3 : Nat) (hl3 : xl3 = nI l3) (l4 : Nat) (xl5 : Int32) (l5 : Nat) (hl5 : xl5 = nI l5) (h : F69_150  l0 l1 l2 l3 l4 l5 T = some r) : mm_L 69 150 [.ref l0, .int xl1, .int xl2, .int xl3, .ref l4, .int xl5] [] (toS z T) = some (tR z r) := by
  unfold F69_150 at h
  refine Eq.trans (e69_150 ..) ?_
  exact (fb_K0i (fun _ q => fb_mo (y := 75) ow_75 q (fun q => GM75 _ _ _ hl3 _ _ hl1 q)) h (fun v0 T1 h2 => G69_156  _ _ _ hl1 _ _ hl2 _ _ hl3 _ _ _ hl5 _ _ rfl h2))
noncomputable def F69_159  (l0 : Nat) (l1 : Nat) (l2 : Nat) (l3 : Nat) (l4 : Nat) (l5 : Nat) (T : fS) : Option fR := (fKi true (F76_0 l4 l1 T) (fun v0 T1 => F69_165  l0 l1 l2 l3 l4 l5 v0 T1))
theorem G69_159 {z : Option mm_O} {T : fS} {r : fR}  (l0 : Nat) (xl1 : Int32) (l1 : Nat) (hl1 : xl1 = nI l1) (xl2 : Int32) (l2 : Nat) (hl2 : xl2 = nI l2) (xl3 : Int32) (l3 : Nat) (hl3 : xl3 = nI l3) (l4 : Nat) (xl5 : Int32) (l5 : Nat) (hl5 : xl5 = nI l5) (h : F69_159  l0 l1 l2 l3 l4 l5 T = some r) : mm_L 69 159 [.ref l0, .int xl1, .int xl2, .int xl3, .ref l4, .int xl5] [] (toS z T) = some (tR z r) := by
  unfold F69_159 at h
  refine Eq.trans (e69_159 ..) ?_
  exact (fb_K0i (fun _ q => GM76 _ _ _ hl1 q) h (fun v0 T1 h2 => G69_165  _ _ _ hl1 _ _ hl2 _ _ hl3 _ _ _ hl5 _ _ rfl h2))
noncomputable def F69_145  (l0 : Nat) (l1 : Nat) (l2 : Nat) (l3 : Nat) (l4 : Nat) (l5 : Nat) (T : fS) : Option fR := (fif (ieq l5 0) (F69_159  l0 l1 l2 l3 l4 l5 T) (F69_150  l0 l1 l2 l3 l4 l5 T))
theorem G69_145 {z : Option mm_O} {T : fS} {r : fR}  (l0 : Nat) (xl1 : Int32) (l1 : Nat) (hl1 : xl1 = nI l1) (xl2 : Int32) (l2 : Nat) (hl2 : xl2 = nI l2) (xl3 : Int32) (l3 : Nat) (hl3 : xl3 = nI l3) (l4 : Nat) (xl5 : Int32) (l5 : Nat) (hl5 : xl5 = nI l5) (h : F69_145  l0 l1 l2 l3 l4 l5 T = some r) : mm_L 69 145 [.ref l0, .int xl1, .int xl2, .int xl3, .ref l4, .int xl5] [] (toS z T) = some (tR z r) := by
  unfold F69_145 at h
  refine Eq.trans (e69_145 ..) ?_
  exact (fb_if (cj_eq hl5 (rfl : (0 : Int32) = nI 0)) h (fun h1 => (G69_159  _ _ _ hl1 _ _ hl2 _ _ hl3 _ _ _ hl5 h1)) (fun h1 => (G69_150  _ _ _ hl1 _ _ hl2 _ _ hl3 _ _ _ hl5 h1)))
noncomputable def F69_188  (l0 : Nat) (l1 : Nat) (l2 : Nat) (l3 : Nat) (l4 : Nat) (l5 : Nat) (s0 : Nat) (T : fS) : Option fR := (some ((.inl (some (.inl s0)), T) : fR))
theorem G69_188 {z : Option mm_O} {T : fS} {r : fR}  (l0 : Nat) (xl1 : Int32) (l1 : Nat) (hl1 : xl1 = nI l1) (xl2 : Int32) (l2 : Nat) (hl2 : xl2 = nI l2) (xl3 : Int32) (l3 : Nat) (hl3 : xl3 = nI l3) (l4 : Nat) (xl5 : Int32) (l5 : Nat) (hl5 : xl5 = nI l5) (xs0 : Int32) (s0 : Nat) (hs0 : xs0 = nI s0) (h : F69_188  l0 l1 l2 l3 l4 l5 s0 T = some r) : mm_L 69 188 [.ref l0, .int xl1, .int xl2, .int xl3, .ref l4, .int xl5] [.int xs0] (toS z T) = some (tR z r) := by
  unfold F69_188 at h
  refine Eq.trans (e69_188 ..) ?_
  exact (fr_i hs0 h)
noncomputable def F69_179  (l0 : Nat) (l1 : Nat) (l2 : Nat) (l3 : Nat) (l4 : Nat) (l5 : Nat) (s0 : Nat) (T : fS) : Option fR := (F69_188  l0 l1 l2 l3 l4 l5 s0 T)
theorem G69_179 {z : Option mm_O} {T : fS} {r : fR}  (l0 : Nat) (xl1 : Int32) (l1 : Nat) (hl1 : xl1 = nI l1) (xl2 : Int32) (l2 : Nat) (hl2 : xl2 = nI l2) (xl3 : Int32) (l3 : Nat) (hl3 : xl3 = nI l3) (l4 : Nat) (xl5 : Int32) (l5 : Nat) (hl5 : xl5 = nI l5) (xs0 : Int32) (s0 : Nat) (hs0 : xs0 = nI s0) (h : F69_179  l0 l1 l2 l3 l4 l5 s0 T = some r) : mm_L 69 179 [.ref l0, .int xl1, .int xl2, .int xl3, .ref l4, .int xl5] [.int xs0] (toS z T) = some (tR z r) := by
  unfold F69_179 at h
  refine Eq.trans (e69_179 ..) ?_
  exact (G69_188  _ _ _ hl1 _ _ hl2 _ _ hl3 _ _ _ hl5 _ _ hs0 h)
noncomputable def F69_176  (l0 : Nat) (l1 : Nat) (l2 : Nat) (l3 : Nat) (l4 : Nat) (l5 : Nat) (s0 : Nat) (T : fS) : Option fR := (fbn (fgi T s0 1 3) (fun v0 => F69_179  l0 l1 l2 l3 l4 l5 v0 T))
theorem G69_176 {z : Option mm_O} {T : fS} {r : fR}  (l0 : Nat) (xl1 : Int32) (l1 : Nat) (hl1 : xl1 = nI l1) (xl2 : Int32) (l2 : Nat) (hl2 : xl2 = nI l2) (xl3 : Int32) (l3 : Nat) (hl3 : xl3 = nI l3) (l4 : Nat) (xl5 : Int32) (l5 : Nat) (hl5 : xl5 = nI l5) (s0 : Nat) (h : F69_176  l0 l1 l2 l3 l4 l5 s0 T = some r) : mm_L 69 176 [.ref l0, .int xl1, .int xl2, .int xl3, .ref l4, .int xl5] [.ref s0] (toS z T) = some (tR z r) := by
  unfold F69_176 at h
  refine Eq.trans (e69_176 ..) ?_
  exact (fb_n (fun _ q => fgi_ok q) h (fun v0 h2 => G69_179  _ _ _ hl1 _ _ hl2 _ _ hl3 _ _ _ hl5 _ _ rfl h2))
noncomputable def F69_171  (l0 : Nat) (l1 : Nat) (l2 : Nat) (l3 : Nat) (l4 : Nat) (l5 : Nat) (T : fS) : Option fR := (fbv (fgr T l4 2 4) (fun v0 => F69_176  l0 l1 l2 l3 l4 l5 v0 T) ((none : Option fR)))
theorem G69_171 {z : Option mm_O} {T : fS} {r : fR}  (l0 : Nat) (xl1 : Int32) (l1 : Nat) (hl1 : xl1 = nI l1) (xl2 : Int32) (l2 : Nat) (hl2 : xl2 = nI l2) (xl3 : Int32) (l3 : Nat) (hl3 : xl3 = nI l3) (l4 : Nat) (xl5 : Int32) (l5 : Nat) (hl5 : xl5 = nI l5) (h : F69_171  l0 l1 l2 l3 l4 l5 T = some r) : mm_L 69 171 [.ref l0, .int xl1, .int xl2, .int xl3, .ref l4, .int xl5] [] (toS z T) = some (tR z r) := by
  unfold F69_171 at h
  refine Eq.trans (e69_171 ..) ?_
  exact (fb_v (fun _ q => fgr_ok q) h (fun v0 h2 => G69_176  _ _ _ hl1 _ _ hl2 _ _ hl3 _ _ _ hl5 _ h2) (fun h2 => fr_n h2))
noncomputable def F69_182  (l0 : Nat) (l1 : Nat) (l2 : Nat) (l3 : Nat) (l4 : Nat) (l5 : Nat) (T : fS) : Option fR := (fKi true (F77_0 l4 l1 T) (fun v0 T1 => F69_188  l0 l1 l2 l3 l4 l5 v0 T1))
theorem G69_182 {z : Option mm_O} {T : fS} {r : fR}  (l0 : Nat) (xl1 : Int32) (l1 : Nat) (hl1 : xl1 = nI l1) (xl2 : Int32) (l2 : Nat) (hl2 : xl2 = nI l2) (xl3 : Int32) (l3 : Nat) (hl3 : xl3 = nI l3) (l4 : Nat) (xl5 : Int32) (l5 : Nat) (hl5 : xl5 = nI l5) (h : F69_182  l0 l1 l2 l3 l4 l5 T = some r) : mm_L 69 182 [.ref l0, .int xl1, .int xl2, .int xl3, .ref l4, .int xl5] [] (toS z T) = some (tR z r) := by
  unfold F69_182 at h
  refine Eq.trans (e69_182 ..) ?_
  exact (fb_K0i (fun _ q => GM77 _ _ _ hl1 q) h (fun v0 T1 h2 => G69_188  _ _ _ hl1 _ _ hl2 _ _ hl3 _ _ _ hl5 _ _ rfl h2))
noncomputable def F69_166  (l0 : Nat) (l1 : Nat) (l2 : Nat) (l3 : Nat) (l4 : Nat) (l5 : Nat) (T : fS) : Option fR := (fif (ieq l5 0) (F69_182  l0 l1 l2 l3 l4 l5 T) (F69_171  l0 l1 l2 l3 l4 l5 T))
theorem G69_166 {z : Option mm_O} {T : fS} {r : fR}  (l0 : Nat) (xl1 : Int32) (l1 : Nat) (hl1 : xl1 = nI l1) (xl2 : Int32) (l2 : Nat) (hl2 : xl2 = nI l2) (xl3 : Int32) (l3 : Nat) (hl3 : xl3 = nI l3) (l4 : Nat) (xl5 : Int32) (l5 : Nat) (hl5 : xl5 = nI l5) (h : F69_166  l0 l1 l2 l3 l4 l5 T = some r) : mm_L 69 166 [.ref l0, .int xl1, .int xl2, .int xl3, .ref l4, .int xl5] [] (toS z T) = some (tR z r) := by
  unfold F69_166 at h
  refine Eq.trans (e69_166 ..) ?_
  exact (fb_if (cj_eq hl5 (rfl : (0 : Int32) = nI 0)) h (fun h1 => (G69_182  _ _ _ hl1 _ _ hl2 _ _ hl3 _ _ _ hl5 h1)) (fun h1 => (G69_171  _ _ _ hl1 _ _ hl2 _ _ hl3 _ _ _ hl5 h1)))
noncomputable def F69_206  (l0 : Nat) (l1 : Nat) (l2 : Nat) (l3 : Nat) (l4 : Nat) (l5 : Nat) (s0 : Nat) (T : fS) : Option fR := (some ((.inl (some (.inl s0)), T) : fR))
theorem G69_206 {z : Option mm_O} {T : fS} {r : fR}  (l0 : Nat) (xl1 : Int32) (l1 : Nat) (hl1 : xl1 = nI l1) (xl2 : Int32) (l2 : Nat) (hl2 : xl2 = nI l2) (xl3 : Int32) (l3 : Nat) (hl3 : xl3 = nI l3) (l4 : Nat) (xl5 : Int32) (l5 : Nat) (hl5 : xl5 = nI l5) (xs0 : Int32) (s0 : Nat) (hs0 : xs0 = nI s0) (h : F69_206  l0 l1 l2 l3 l4 l5 s0 T = some r) : mm_L 69 206 [.ref l0, .int xl1, .int xl2, .int xl3, .ref l4, .int xl5] [.int xs0] (toS z T) = some (tR z r) := by
  unfold F69_206 at h
  refine Eq.trans (e69_206 ..) ?_
  exact (fr_i hs0 h)
noncomputable def F69_194  (l0 : Nat) (l1 : Nat) (l2 : Nat) (l3 : Nat) (l4 : Nat) (l5 : Nat) (T : fS) : Option fR := (F69_206  l0 l1 l2 l3 l4 l5 0 T)
theorem G69_194 {z : Option mm_O} {T : fS} {r : fR}  (l0 : Nat) (xl1 : Int32) (l1 : Nat) (hl1 : xl1 = nI l1) (xl2 : Int32) (l2 : Nat) (hl2 : xl2 = nI l2) (xl3 : Int32) (l3 : Nat) (hl3 : xl3 = nI l3) (l4 : Nat) (xl5 : Int32) (l5 : Nat) (hl5 : xl5 = nI l5) (h : F69_194  l0 l1 l2 l3 l4 l5 T = some r) : mm_L 69 194 [.ref l0, .int xl1, .int xl2, .int xl3, .ref l4, .int xl5] [] (toS z T) = some (tR z r) := by
  unfold F69_194 at h
  refine Eq.trans (e69_194 ..) ?_
  exact (G69_206  _ _ _ hl1 _ _ hl2 _ _ hl3 _ _ _ hl5 _ _ (rfl : (0 : Int32) = nI 0) h)
noncomputable def F69_203  (l0 : Nat) (l1 : Nat) (l2 : Nat) (l3 : Nat) (l4 : Nat) (l5 : Nat) (s0 : Nat) (T : fS) : Option fR := (fbn (fgi T s0 1 5) (fun v0 => F69_206  l0 l1 l2 l3 l4 l5 v0 T))
theorem G69_203 {z : Option mm_O} {T : fS} {r : fR}  (l0 : Nat) (xl1 : Int32) (l1 : Nat) (hl1 : xl1 = nI l1) (xl2 : Int32) (l2 : Nat) (hl2 : xl2 = nI l2) (xl3 : Int32) (l3 : Nat) (hl3 : xl3 = nI l3) (l4 : Nat) (xl5 : Int32) (l5 : Nat) (hl5 : xl5 = nI l5) (s0 : Nat) (h : F69_203  l0 l1 l2 l3 l4 l5 s0 T = some r) : mm_L 69 203 [.ref l0, .int xl1, .int xl2, .int xl3, .ref l4, .int xl5] [.ref s0] (toS z T) = some (tR z r) := by
  unfold F69_203 at h
  refine Eq.trans (e69_203 ..) ?_
  exact (fb_n (fun _ q => fgi_ok q) h (fun v0 h2 => G69_206  _ _ _ hl1 _ _ hl2 _ _ hl3 _ _ _ hl5 _ _ rfl h2))
noncomputable def F69_198  (l0 : Nat) (l1 : Nat) (l2 : Nat) (l3 : Nat) (l4 : Nat) (l5 : Nat) (T : fS) : Option fR := (fbv (fgr T l4 2 4) (fun v0 => F69_203  l0 l1 l2 l3 l4 l5 v0 T) ((none : Option fR)))
theorem G69_198 {z : Option mm_O} {T : fS} {r : fR}  (l0 : Nat) (xl1 : Int32) (l1 : Nat) (hl1 : xl1 = nI l1) (xl2 : Int32) (l2 : Nat) (hl2 : xl2 = nI l2) (xl3 : Int32) (l3 : Nat) (hl3 : xl3 = nI l3) (l4 : Nat) (xl5 : Int32) (l5 : Nat) (hl5 : xl5 = nI l5) (h : F69_198  l0 l1 l2 l3 l4 l5 T = some r) : mm_L 69 198 [.ref l0, .int xl1, .int xl2, .int xl3, .ref l4, .int xl5] [] (toS z T) = some (tR z r) := by
  unfold F69_198 at h
  refine Eq.trans (e69_198 ..) ?_
  exact (fb_v (fun _ q => fgr_ok q) h (fun v0 h2 => G69_203  _ _ _ hl1 _ _ hl2 _ _ hl3 _ _ _ hl5 _ h2) (fun h2 => fr_n h2))
noncomputable def F69_189  (l0 : Nat) (l1 : Nat) (l2 : Nat) (l3 : Nat) (l4 : Nat) (l5 : Nat) (T : fS) : Option fR := (fif (ieq l5 0) (F69_198  l0 l1 l2 l3 l4 l5 T) (F69_194  l0 l1 l2 l3 l4 l5 T))
theorem G69_189 {z : Option mm_O} {T : fS} {r : fR}  (l0 : Nat) (xl1 : Int32) (l1 : Nat) (hl1 : xl1 = nI l1) (xl2 : Int32) (l2 : Nat) (hl2 : xl2 = nI l2) (xl3 : Int32) (l3 : Nat) (hl3 : xl3 = nI l3) (l4 : Nat) (xl5 : Int32) (l5 : Nat) (hl5 : xl5 = nI l5) (h : F69_189  l0 l1 l2 l3 l4 l5 T = some r) : mm_L 69 189 [.ref l0, .int xl1, .int xl2, .int xl3, .ref l4, .int xl5] [] (toS z T) = some (tR z r) := by
  unfold F69_189 at h
  refine Eq.trans (e69_189 ..) ?_
  exact (fb_if (cj_eq hl5 (rfl : (0 : Int32) = nI 0)) h (fun h1 => (G69_198  _ _ _ hl1 _ _ hl2 _ _ hl3 _ _ _ hl5 h1)) (fun h1 => (G69_194  _ _ _ hl1 _ _ hl2 _ _ hl3 _ _ _ hl5 h1)))
noncomputable def F69_207  (l0 : Nat) (l1 : Nat) (l2 : Nat) (l3 : Nat) (l4 : Nat) (l5 : Nat) (T : fS) : Option fR := (some ((.inl (some (.inl l3)), T) : fR))
theorem G69_207 {z : Option mm_O} {T : fS} {r : fR}  (l0 : Nat) (xl1 : Int32) (l1 : Nat) (hl1 : xl1 = nI l1) (xl2 : Int32) (l2 : Nat) (hl2 : xl2 = nI l2) (xl3 : Int32) (l3 : Nat) (hl3 : xl3 = nI l3) (l4 : Nat) (xl5 : Int32) (l5 : Nat) (hl5 : xl5 = nI l5) (h : F69_207  l0 l1 l2 l3 l4 l5 T = some r) : mm_L 69 207 [.ref l0, .int xl1, .int xl2, .int xl3, .ref l4, .int xl5] [] (toS z T) = some (tR z r) := by
  unfold F69_207 at h
  refine Eq.trans (e69_207 ..) ?_
  exact (fr_i hl3 h)
noncomputable def F69_217  (l0 : Nat) (l1 : Nat) (l2 : Nat) (l3 : Nat) (l4 : Nat) (l5 : Nat) (s0 : Nat) (T : fS) : Option fR := (some ((.inl (some (.inl s0)), T) : fR))
theorem G69_217 {z : Option mm_O} {T : fS} {r : fR}  (l0 : Nat) (xl1 : Int32) (l1 : Nat) (hl1 : xl1 = nI l1) (xl2 : Int32) (l2 : Nat) (hl2 : xl2 = nI l2) (xl3 : Int32) (l3 : Nat) (hl3 : xl3 = nI l3) (l4 : Nat) (xl5 : Int32) (l5 : Nat) (hl5 : xl5 = nI l5) (xs0 : Int32) (s0 : Nat) (hs0 : xs0 = nI s0) (h : F69_217  l0 l1 l2 l3 l4 l5 s0 T = some r) : mm_L 69 217 [.ref l0, .int xl1, .int xl2, .int xl3, .ref l4, .int xl5] [.int xs0] (toS z T) = some (tR z r) := by
  unfold F69_217 at h
  refine Eq.trans (e69_217 ..) ?_
  exact (fr_i hs0 h)
noncomputable def F69_209  (l0 : Nat) (l1 : Nat) (l2 : Nat) (l3 : Nat) (l4 : Nat) (l5 : Nat) (T : fS) : Option fR := (fKi true (fif (fch T l0 6) (F50_0 l0 l3 (iS l2 4) T) none) (fun v0 T1 => F69_217  l0 l1 l2 l3 l4 l5 v0 T1))
theorem G69_209 {z : Option mm_O} {T : fS} {r : fR}  (l0 : Nat) (xl1 : Int32) (l1 : Nat) (hl1 : xl1 = nI l1) (xl2 : Int32) (l2 : Nat) (hl2 : xl2 = nI l2) (xl3 : Int32) (l3 : Nat) (hl3 : xl3 = nI l3) (l4 : Nat) (xl5 : Int32) (l5 : Nat) (hl5 : xl5 = nI l5) (h : F69_209  l0 l1 l2 l3 l4 l5 T = some r) : mm_L 69 209 [.ref l0, .int xl1, .int xl2, .int xl3, .ref l4, .int xl5] [] (toS z T) = some (tR z r) := by
  unfold F69_209 at h
  refine Eq.trans (e69_209 ..) ?_
  exact (fb_K0i (fun _ q => fb_mo (y := 50) ow_50 q (fun q => GM50 _ _ _ hl3 _ _ (iS_ok hl2 (rfl : (4 : Int32) = nI 4)) q)) h (fun v0 T1 h2 => G69_217  _ _ _ hl1 _ _ hl2 _ _ hl3 _ _ _ hl5 _ _ rfl h2))
noncomputable def F69_87  (l0 : Nat) (l1 : Nat) (l2 : Nat) (l3 : Nat) (l4 : Nat) (s0 : Nat) (T : fS) : Option fR := (fif (ieq l2 0) (F69_136  l0 l1 l2 l3 l4 s0 T) (fif (ieq l2 1) (F69_145  l0 l1 l2 l3 l4 s0 T) (fif (ieq l2 2) (F69_166  l0 l1 l2 l3 l4 s0 T) (fif (ieq l2 3) (F69_189  l0 l1 l2 l3 l4 s0 T) (fif (ieq l2 4) (F69_209  l0 l1 l2 l3 l4 s0 T) (fif (ieq l2 5) (F69_209  l0 l1 l2 l3 l4 s0 T) (fif (ieq l2 6) (F69_209  l0 l1 l2 l3 l4 s0 T) (fif (ieq l2 7) (F69_207  l0 l1 l2 l3 l4 s0 T) (F69_209  l0 l1 l2 l3 l4 s0 T)))))))))
theorem G69_87 {z : Option mm_O} {T : fS} {r : fR}  (l0 : Nat) (xl1 : Int32) (l1 : Nat) (hl1 : xl1 = nI l1) (xl2 : Int32) (l2 : Nat) (hl2 : xl2 = nI l2) (xl3 : Int32) (l3 : Nat) (hl3 : xl3 = nI l3) (l4 : Nat) (ul5 : Value) (xs0 : Int32) (s0 : Nat) (hs0 : xs0 = nI s0) (h : F69_87  l0 l1 l2 l3 l4 s0 T = some r) : mm_L 69 87 [.ref l0, .int xl1, .int xl2, .int xl3, .ref l4, ul5] [.int xs0] (toS z T) = some (tR z r) := by
  unfold F69_87 at h
  refine Eq.trans (e69_87 ..) ?_
  exact (fb_if (cj_eq hl2 (rfl : (0 : Int32) = nI 0)) h (fun h1 => (G69_136  _ _ _ hl1 _ _ hl2 _ _ hl3 _ _ _ hs0 h1)) (fun h1 => (fb_if (cj_eq hl2 (rfl : (1 : Int32) = nI 1)) h1 (fun h1 => (G69_145  _ _ _ hl1 _ _ hl2 _ _ hl3 _ _ _ hs0 h1)) (fun h1 => (fb_if (cj_eq hl2 (rfl : (2 : Int32) = nI 2)) h1 (fun h1 => (G69_166  _ _ _ hl1 _ _ hl2 _ _ hl3 _ _ _ hs0 h1)) (fun h1 => (fb_if (cj_eq hl2 (rfl : (3 : Int32) = nI 3)) h1 (fun h1 => (G69_189  _ _ _ hl1 _ _ hl2 _ _ hl3 _ _ _ hs0 h1)) (fun h1 => (fb_if (cj_eq hl2 (rfl : (4 : Int32) = nI 4)) h1 (fun h1 => (G69_209  _ _ _ hl1 _ _ hl2 _ _ hl3 _ _ _ hs0 h1)) (fun h1 => (fb_if (cj_eq hl2 (rfl : (5 : Int32) = nI 5)) h1 (fun h1 => (G69_209  _ _ _ hl1 _ _ hl2 _ _ hl3 _ _ _ hs0 h1)) (fun h1 => (fb_if (cj_eq hl2 (rfl : (6 : Int32) = nI 6)) h1 (fun h1 => (G69_209  _ _ _ hl1 _ _ hl2 _ _ hl3 _ _ _ hs0 h1)) (fun h1 => (fb_if (cj_eq hl2 (rfl : (7 : Int32) = nI 7)) h1 (fun h1 => (G69_207  _ _ _ hl1 _ _ hl2 _ _ hl3 _ _ _ hs0 h1)) (fun h1 => (G69_209  _ _ _ hl1 _ _ hl2 _ _ hl3 _ _ _ hs0 h1)))))))))))))))))
noncomputable def F69_82  (l0 : Nat) (l1 : Nat) (l2 : Nat) (l3 : Nat) (l4 : Nat) (T : fS) : Option fR := (F69_87  l0 l1 l2 l3 l4 1 T)
theorem G69_82 {z : Option mm_O} {T : fS} {r : fR}  (l0 : Nat) (xl1 : Int32) (l1 : Nat) (hl1 : xl1 = nI l1) (xl2 : Int32) (l2 : Nat) (hl2 : xl2 = nI l2) (xl3 : Int32) (l3 : Nat) (hl3 : xl3 = nI l3) (l4 : Nat) (ul5 : Value) (h : F69_82  l0 l1 l2 l3 l4 T = some r) : mm_L 69 82 [.ref l0, .int xl1, .int xl2, .int xl3, .ref l4, ul5] [] (toS z T) = some (tR z r) := by
  unfold F69_82 at h
  refine Eq.trans (e69_82 ..) ?_
  exact (G69_87  _ _ _ hl1 _ _ hl2 _ _ hl3 _ _ _ _ (rfl : (1 : Int32) = nI 1) h)
noncomputable def F69_86  (l0 : Nat) (l1 : Nat) (l2 : Nat) (l3 : Nat) (l4 : Nat) (T : fS) : Option fR := (F69_87  l0 l1 l2 l3 l4 0 T)
theorem G69_86 {z : Option mm_O} {T : fS} {r : fR}  (l0 : Nat) (xl1 : Int32) (l1 : Nat) (hl1 : xl1 = nI l1) (xl2 : Int32) (l2 : Nat) (hl2 : xl2 = nI l2) (xl3 : Int32) (l3 : Nat) (hl3 : xl3 = nI l3) (l4 : Nat) (ul5 : Value) (h : F69_86  l0 l1 l2 l3 l4 T = some r) : mm_L 69 86 [.ref l0, .int xl1, .int xl2, .int xl3, .ref l4, ul5] [] (toS z T) = some (tR z r) := by
  unfold F69_86 at h
  refine Eq.trans (e69_86 ..) ?_
  exact (G69_87  _ _ _ hl1 _ _ hl2 _ _ hl3 _ _ _ _ (rfl : (0 : Int32) = nI 0) h)
noncomputable def F69_79  (l0 : Nat) (l1 : Nat) (l2 : Nat) (l3 : Nat) (l4 : Nat) (s0 : Nat) (s1 : Nat) (T : fS) : Option fR := (fif (ile s0 s1) (F69_86  l0 l1 l2 l3 l4 T) (F69_82  l0 l1 l2 l3 l4 T))
theorem G69_79 {z : Option mm_O} {T : fS} {r : fR}  (l0 : Nat) (xl1 : Int32) (l1 : Nat) (hl1 : xl1 = nI l1) (xl2 : Int32) (l2 : Nat) (hl2 : xl2 = nI l2) (xl3 : Int32) (l3 : Nat) (hl3 : xl3 = nI l3) (l4 : Nat) (ul5 : Value) (xs0 : Int32) (s0 : Nat) (hs0 : xs0 = nI s0) (xs1 : Int32) (s1 : Nat) (hs1 : xs1 = nI s1) (h : F69_79  l0 l1 l2 l3 l4 s0 s1 T = some r) : mm_L 69 79 [.ref l0, .int xl1, .int xl2, .int xl3, .ref l4, ul5] [.int xs0, .int xs1] (toS z T) = some (tR z r) := by
  unfold F69_79 at h
  refine Eq.trans (e69_79 ..) ?_
  exact (fb_if (cj_le hs0 hs1) h (fun h1 => (G69_86  _ _ _ hl1 _ _ hl2 _ _ hl3 _ _ h1)) (fun h1 => (G69_82  _ _ _ hl1 _ _ hl2 _ _ hl3 _ _ h1)))
noncomputable def F69_71  (l0 : Nat) (l1 : Nat) (l2 : Nat) (l3 : Nat) (s0 : Nat) (T : fS) : Option fR := (fbn (fgi T s0 2 6) (fun v0 => F69_79  l0 l1 l2 l3 s0 v0 l1 T))
theorem G69_71 {z : Option mm_O} {T : fS} {r : fR}  (l0 : Nat) (xl1 : Int32) (l1 : Nat) (hl1 : xl1 = nI l1) (xl2 : Int32) (l2 : Nat) (hl2 : xl2 = nI l2) (xl3 : Int32) (l3 : Nat) (hl3 : xl3 = nI l3) (ul4 : Value) (ul5 : Value) (s0 : Nat) (h : F69_71  l0 l1 l2 l3 s0 T = some r) : mm_L 69 71 [.ref l0, .int xl1, .int xl2, .int xl3, ul4, ul5] [.ref s0] (toS z T) = some (tR z r) := by
  unfold F69_71 at h
  refine Eq.trans (e69_71 ..) ?_
  exact (fb_n (fun _ q => fgi_ok q) h (fun v0 h2 => G69_79  _ _ _ hl1 _ _ hl2 _ _ hl3 _ _ _ _ rfl _ _ hl1 h2))
noncomputable def F69_68  (l0 : Nat) (l1 : Nat) (l2 : Nat) (l3 : Nat) (s0 : Nat) (T : fS) : Option fR := (fif (fch T s0 2) (F69_71  l0 l1 l2 l3 s0 T) none)
theorem G69_68 {z : Option mm_O} {T : fS} {r : fR}  (l0 : Nat) (xl1 : Int32) (l1 : Nat) (hl1 : xl1 = nI l1) (xl2 : Int32) (l2 : Nat) (hl2 : xl2 = nI l2) (xl3 : Int32) (l3 : Nat) (hl3 : xl3 = nI l3) (ul4 : Value) (ul5 : Value) (s0 : Nat) (h : F69_68  l0 l1 l2 l3 s0 T = some r) : mm_L 69 68 [.ref l0, .int xl1, .int xl2, .int xl3, ul4, ul5] [.ref s0] (toS z T) = some (tR z r) := by
  unfold F69_68 at h
  refine Eq.trans (e69_68 ..) ?_
  exact (fb_c h (fun h2 => G69_71  _ _ _ hl1 _ _ hl2 _ _ hl3 _ _ _ h2))
noncomputable def F69_64  (l0 : Nat) (l1 : Nat) (l2 : Nat) (l3 : Nat) (s0 : Nat) (T : fS) : Option fR := (fbn (flg T s0 l3) (fun v0 => F69_68  l0 l1 l2 l3 v0 T))
theorem G69_64 {z : Option mm_O} {T : fS} {r : fR}  (l0 : Nat) (xl1 : Int32) (l1 : Nat) (hl1 : xl1 = nI l1) (xl2 : Int32) (l2 : Nat) (hl2 : xl2 = nI l2) (xl3 : Int32) (l3 : Nat) (hl3 : xl3 = nI l3) (ul4 : Value) (ul5 : Value) (s0 : Nat) (h : F69_64  l0 l1 l2 l3 s0 T = some r) : mm_L 69 64 [.ref l0, .int xl1, .int xl2, .int xl3, ul4, ul5] [.ref s0] (toS z T) = some (tR z r) := by
  unfold F69_64 at h
  refine Eq.trans (e69_64 ..) ?_
  exact (fb_g (fun _ q => by rw [hl3]; exact flg_ok q) h (fun v0 h2 => G69_68  _ _ _ hl1 _ _ hl2 _ _ hl3 _ _ _ h2))
noncomputable def F69_60  (l0 : Nat) (l1 : Nat) (l2 : Nat) (l3 : Nat) (T : fS) : Option fR := (fbv (fgr T l0 6 1) (fun v0 => F69_64  l0 l1 l2 l3 v0 T) ((none : Option fR)))
theorem G69_60 {z : Option mm_O} {T : fS} {r : fR}  (l0 : Nat) (xl1 : Int32) (l1 : Nat) (hl1 : xl1 = nI l1) (xl2 : Int32) (l2 : Nat) (hl2 : xl2 = nI l2) (xl3 : Int32) (l3 : Nat) (hl3 : xl3 = nI l3) (ul4 : Value) (ul5 : Value) (h : F69_60  l0 l1 l2 l3 T = some r) : mm_L 69 60 [.ref l0, .int xl1, .int xl2, .int xl3, ul4, ul5] [] (toS z T) = some (tR z r) := by
  unfold F69_60 at h
  refine Eq.trans (e69_60 ..) ?_
  exact (fb_v (fun _ q => fgr_ok q) h (fun v0 h2 => G69_64  _ _ _ hl1 _ _ hl2 _ _ hl3 _ _ _ h2) (fun h2 => fr_n h2))
noncomputable def F69_55  (l0 : Nat) (l1 : Nat) (l2 : Nat) (l3 : Nat) (s0 : Nat) (T : fS) : Option fR := (fif (ieq s0 0) (F69_58  l0 l1 l2 l3 T) (F69_60  l0 l1 l2 l3 T))
theorem G69_55 {z : Option mm_O} {T : fS} {r : fR}  (l0 : Nat) (xl1 : Int32) (l1 : Nat) (hl1 : xl1 = nI l1) (xl2 : Int32) (l2 : Nat) (hl2 : xl2 = nI l2) (xl3 : Int32) (l3 : Nat) (hl3 : xl3 = nI l3) (ul4 : Value) (ul5 : Value) (xs0 : Int32) (s0 : Nat) (hs0 : xs0 = nI s0) (h : F69_55  l0 l1 l2 l3 s0 T = some r) : mm_L 69 55 [.ref l0, .int xl1, .int xl2, .int xl3, ul4, ul5] [.int xs0] (toS z T) = some (tR z r) := by
  unfold F69_55 at h
  refine Eq.trans (e69_55 ..) ?_
  exact (fb_if (cj_eq hs0 (rfl : (0 : Int32) = nI 0)) h (fun h1 => (G69_58  _ _ _ hl1 _ _ hl2 _ _ hl3 _ _ h1)) (fun h1 => (G69_60  _ _ _ hl1 _ _ hl2 _ _ hl3 _ _ h1)))
noncomputable def F69_52  (l0 : Nat) (l1 : Nat) (l2 : Nat) (l3 : Nat) (s0 : Nat) (s1 : Nat) (T : fS) : Option fR := (fKi false (F101_0 s1 s0 T) (fun v0 T1 => F69_55  l0 l1 l2 l3 v0 T1))
theorem G69_52 {z : Option mm_O} {T : fS} {r : fR}  (l0 : Nat) (xl1 : Int32) (l1 : Nat) (hl1 : xl1 = nI l1) (xl2 : Int32) (l2 : Nat) (hl2 : xl2 = nI l2) (xl3 : Int32) (l3 : Nat) (hl3 : xl3 = nI l3) (ul4 : Value) (ul5 : Value) (xs0 : Int32) (s0 : Nat) (hs0 : xs0 = nI s0) (xs1 : Int32) (s1 : Nat) (hs1 : xs1 = nI s1) (h : F69_52  l0 l1 l2 l3 s0 s1 T = some r) : mm_L 69 52 [.ref l0, .int xl1, .int xl2, .int xl3, ul4, ul5] [.int xs0, .int xs1] (toS z T) = some (tR z r) := by
  unfold F69_52 at h
  refine Eq.trans (e69_52 ..) ?_
  exact (fb_K2i (fun _ q => GM101 _ _ hs1 _ _ hs0 q) h (fun v0 T1 h2 => G69_55  _ _ _ hl1 _ _ hl2 _ _ hl3 _ _ _ _ rfl h2))
noncomputable def F69_49  (l0 : Nat) (l1 : Nat) (l2 : Nat) (l3 : Nat) (s0 : Nat) (s1 : Nat) (T : fS) : Option fR := (fbn (flz T s0) (fun v0 => F69_52  l0 l1 l2 l3 v0 s1 T))
theorem G69_49 {z : Option mm_O} {T : fS} {r : fR}  (l0 : Nat) (xl1 : Int32) (l1 : Nat) (hl1 : xl1 = nI l1) (xl2 : Int32) (l2 : Nat) (hl2 : xl2 = nI l2) (xl3 : Int32) (l3 : Nat) (hl3 : xl3 = nI l3) (ul4 : Value) (ul5 : Value) (s0 : Nat) (xs1 : Int32) (s1 : Nat) (hs1 : xs1 = nI s1) (h : F69_49  l0 l1 l2 l3 s0 s1 T = some r) : mm_L 69 49 [.ref l0, .int xl1, .int xl2, .int xl3, ul4, ul5] [.ref s0, .int xs1] (toS z T) = some (tR z r) := by
  unfold F69_49 at h
  refine Eq.trans (e69_49 ..) ?_
  exact (fb_n (fun _ q => flz_ok q) h (fun v0 h2 => G69_52  _ _ _ hl1 _ _ hl2 _ _ hl3 _ _ _ _ rfl _ _ hs1 h2))
noncomputable def F69_43  (l0 : Nat) (l1 : Nat) (l2 : Nat) (s0 : Nat) (T : fS) : Option fR := (fbv (fgr T l0 6 1) (fun v0 => F69_49  l0 l1 l2 s0 v0 s0 T) ((none : Option fR)))
theorem G69_43 {z : Option mm_O} {T : fS} {r : fR}  (l0 : Nat) (xl1 : Int32) (l1 : Nat) (hl1 : xl1 = nI l1) (xl2 : Int32) (l2 : Nat) (hl2 : xl2 = nI l2) (ul3 : Value) (ul4 : Value) (ul5 : Value) (xs0 : Int32) (s0 : Nat) (hs0 : xs0 = nI s0) (h : F69_43  l0 l1 l2 s0 T = some r) : mm_L 69 43 [.ref l0, .int xl1, .int xl2, ul3, ul4, ul5] [.int xs0] (toS z T) = some (tR z r) := by
  unfold F69_43 at h
  refine Eq.trans (e69_43 ..) ?_
  exact (fb_v (fun _ q => fgr_ok q) h (fun v0 h2 => G69_49  _ _ _ hl1 _ _ hl2 _ _ hs0 _ _ _ _ _ hs0 h2) (fun h2 => fr_n h2))
noncomputable def F69_38  (l0 : Nat) (l1 : Nat) (l2 : Nat) (T : fS) : Option fR := (fKi true (fif (fch T l0 6) (F74_0 l0 l1 T) none) (fun v0 T1 => F69_43  l0 l1 l2 v0 T1))
theorem G69_38 {z : Option mm_O} {T : fS} {r : fR}  (l0 : Nat) (xl1 : Int32) (l1 : Nat) (hl1 : xl1 = nI l1) (xl2 : Int32) (l2 : Nat) (hl2 : xl2 = nI l2) (ul3 : Value) (ul4 : Value) (ul5 : Value) (h : F69_38  l0 l1 l2 T = some r) : mm_L 69 38 [.ref l0, .int xl1, .int xl2, ul3, ul4, ul5] [] (toS z T) = some (tR z r) := by
  unfold F69_38 at h
  refine Eq.trans (e69_38 ..) ?_
  exact (fb_K0i (fun _ q => fb_mo (y := 74) ow_74 q (fun q => GM74 _ _ _ hl1 q)) h (fun v0 T1 h2 => G69_43  _ _ _ hl1 _ _ hl2 _ _ _ _ _ rfl h2))
noncomputable def F69_34  (l0 : Nat) (l1 : Nat) (l2 : Nat) (T : fS) : Option fR := (fKv true (fif (fch T l0 6) (F71_0 l0  T) none) (fun T1 => F69_38  l0 l1 l2 T1))
theorem G69_34 {z : Option mm_O} {T : fS} {r : fR}  (l0 : Nat) (xl1 : Int32) (l1 : Nat) (hl1 : xl1 = nI l1) (xl2 : Int32) (l2 : Nat) (hl2 : xl2 = nI l2) (ul3 : Value) (ul4 : Value) (ul5 : Value) (h : F69_34  l0 l1 l2 T = some r) : mm_L 69 34 [.ref l0, .int xl1, .int xl2, ul3, ul4, ul5] [] (toS z T) = some (tR z r) := by
  unfold F69_34 at h
  refine Eq.trans (e69_34 ..) ?_
  exact (fb_K0v (fun _ q => fb_mo (y := 71) ow_71 q (fun q => GM71 _  q)) h (fun T1 h2 => G69_38  _ _ _ hl1 _ _ hl2 _ _ _ h2))
noncomputable def F69_21  (l0 : Nat) (l1 : Nat) (l2 : Nat) (s0 : Nat) (T : fS) : Option fR := (fif (ieq s0 0) (F69_24  l0 l1 l2 T) (F69_34  l0 l1 l2 T))
theorem G69_21 {z : Option mm_O} {T : fS} {r : fR}  (l0 : Nat) (xl1 : Int32) (l1 : Nat) (hl1 : xl1 = nI l1) (xl2 : Int32) (l2 : Nat) (hl2 : xl2 = nI l2) (ul3 : Value) (ul4 : Value) (ul5 : Value) (xs0 : Int32) (s0 : Nat) (hs0 : xs0 = nI s0) (h : F69_21  l0 l1 l2 s0 T = some r) : mm_L 69 21 [.ref l0, .int xl1, .int xl2, ul3, ul4, ul5] [.int xs0] (toS z T) = some (tR z r) := by
  unfold F69_21 at h
  refine Eq.trans (e69_21 ..) ?_
  exact (fb_if (cj_eq hs0 (rfl : (0 : Int32) = nI 0)) h (fun h1 => (G69_24  _ _ _ hl1 _ _ hl2 _ _ _ h1)) (fun h1 => (G69_34  _ _ _ hl1 _ _ hl2 _ _ _ h1)))
noncomputable def F69_15  (l0 : Nat) (l1 : Nat) (l2 : Nat) (T : fS) : Option fR := (fKi false (F101_0 l2 8 T) (fun v0 T1 => F69_21  l0 l1 l2 v0 T1))
theorem G69_15 {z : Option mm_O} {T : fS} {r : fR}  (l0 : Nat) (xl1 : Int32) (l1 : Nat) (hl1 : xl1 = nI l1) (xl2 : Int32) (l2 : Nat) (hl2 : xl2 = nI l2) (ul3 : Value) (ul4 : Value) (ul5 : Value) (h : F69_15  l0 l1 l2 T = some r) : mm_L 69 15 [.ref l0, .int xl1, .int xl2, ul3, ul4, ul5] [] (toS z T) = some (tR z r) := by
  unfold F69_15 at h
  refine Eq.trans (e69_15 ..) ?_
  exact (fb_K2i (fun _ q => GM101 _ _ hl2 _ _ (rfl : (8 : Int32) = nI 8) q) h (fun v0 T1 h2 => G69_21  _ _ _ hl1 _ _ hl2 _ _ _ _ _ rfl h2))
noncomputable def F69_0  (l0 : Nat) (l1 : Nat) (l2 : Nat) (T : fS) : Option fR := (fif (ile 0 l1) (F69_15  l0 l1 l2 T) (F69_4  l0 l1 l2 T))
theorem G69_0 {z : Option mm_O} {T : fS} {r : fR}  (l0 : Nat) (xl1 : Int32) (l1 : Nat) (hl1 : xl1 = nI l1) (xl2 : Int32) (l2 : Nat) (hl2 : xl2 = nI l2) (ul3 : Value) (ul4 : Value) (ul5 : Value) (h : F69_0  l0 l1 l2 T = some r) : mm_L 69 0 [.ref l0, .int xl1, .int xl2, ul3, ul4, ul5] [] (toS z T) = some (tR z r) := by
  unfold F69_0 at h
  refine Eq.trans (e69_0 ..) ?_
  exact (fb_if (cj_le (rfl : (0 : Int32) = nI 0) hl1) h (fun h1 => (G69_15  _ _ _ hl1 _ _ hl2 _ _ _ h1)) (fun h1 => (G69_4  _ _ _ hl1 _ _ hl2 _ _ _ h1)))
theorem GM69 {z : Option mm_O} {T : fS} {r : fR} (l0 : Nat) (xl1 : Int32) (l1 : Nat) (hl1 : xl1 = nI l1) (xl2 : Int32) (l2 : Nat) (hl2 : xl2 = nI l2) (h : F69_0 l0 l1 l2 T = some r) : mm_M 69 [.ref l0, .int xl1, .int xl2] (toS z T) = some (tR z r) := Eq.trans (M_69 ..) (G69_0 l0 xl1 l1 hl1 xl2 l2 hl2 _ _ _ h)
