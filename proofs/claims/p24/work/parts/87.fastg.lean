-- 96: HandArchive.requireClip
noncomputable def F96_31  (l0 : Nat) (l1 : Nat) (T : fS) : Option fR := (some ((.inr 2, fbm T 1 6) : fR))
theorem G96_31 {z : Option mm_O} {T : fS} {r : fR}  (l0 : Nat) (xl1 : Int32) (l1 : Nat) (hl1 : xl1 = nI l1) (h : F96_31  l0 l1 T = some r) : mm_L 96 31 [.ref l0, .int xl1] [] (toS z T) = some (tR z r) := by
  unfold F96_31 at h
  refine Eq.trans (e96_31 ..) ?_
  exact (fr_x h)
noncomputable def F96_42  (l0 : Nat) (l1 : Nat) (T : fS) : Option fR := (some ((.inl none, T) : fR))
theorem G96_42 {z : Option mm_O} {T : fS} {r : fR}  (l0 : Nat) (xl1 : Int32) (l1 : Nat) (hl1 : xl1 = nI l1) (h : F96_42  l0 l1 T = some r) : mm_L 96 42 [.ref l0, .int xl1] [] (toS z T) = some (tR z r) := by
  unfold F96_42 at h
  refine Eq.trans (e96_42 ..) ?_
  exact (fr_v h)
noncomputable def F96_28  (l0 : Nat) (l1 : Nat) (s0 : Nat) (T : fS) : Option fR := (fif (ieq s0 0) (F96_42  l0 l1 T) (F96_31  l0 l1 T))
theorem G96_28 {z : Option mm_O} {T : fS} {r : fR}  (l0 : Nat) (xl1 : Int32) (l1 : Nat) (hl1 : xl1 = nI l1) (xs0 : Int32) (s0 : Nat) (hs0 : xs0 = nI s0) (h : F96_28  l0 l1 s0 T = some r) : mm_L 96 28 [.ref l0, .int xl1] [.int xs0] (toS z T) = some (tR z r) := by
  unfold F96_28 at h
  refine Eq.trans (e96_28 ..) ?_
  exact (fb_if (cj_eq hs0 (rfl : (0 : Int32) = nI 0)) h (fun h1 => (G96_42  _ _ _ hl1 h1)) (fun h1 => (G96_31  _ _ _ hl1 h1)))
noncomputable def F96_25  (l0 : Nat) (l1 : Nat) (s0 : Nat) (T : fS) : Option fR := (fbn (fgi T s0 0 5) (fun v0 => F96_28  l0 l1 v0 T))
theorem G96_25 {z : Option mm_O} {T : fS} {r : fR}  (l0 : Nat) (xl1 : Int32) (l1 : Nat) (hl1 : xl1 = nI l1) (s0 : Nat) (h : F96_25  l0 l1 s0 T = some r) : mm_L 96 25 [.ref l0, .int xl1] [.ref s0] (toS z T) = some (tR z r) := by
  unfold F96_25 at h
  refine Eq.trans (e96_25 ..) ?_
  exact (fb_n (fun _ q => fgi_ok q) h (fun v0 h2 => G96_28  _ _ _ hl1 _ _ rfl h2))
noncomputable def F96_22  (l0 : Nat) (l1 : Nat) (s0 : Nat) (T : fS) : Option fR := (fif (fch T s0 0) (F96_25  l0 l1 s0 T) none)
theorem G96_22 {z : Option mm_O} {T : fS} {r : fR}  (l0 : Nat) (xl1 : Int32) (l1 : Nat) (hl1 : xl1 = nI l1) (s0 : Nat) (h : F96_22  l0 l1 s0 T = some r) : mm_L 96 22 [.ref l0, .int xl1] [.ref s0] (toS z T) = some (tR z r) := by
  unfold F96_22 at h
  refine Eq.trans (e96_22 ..) ?_
  exact (fb_c h (fun h2 => G96_25  _ _ _ hl1 _ h2))
noncomputable def F96_18  (l0 : Nat) (l1 : Nat) (s0 : Nat) (T : fS) : Option fR := (fbn (flg T s0 l1) (fun v0 => F96_22  l0 l1 v0 T))
theorem G96_18 {z : Option mm_O} {T : fS} {r : fR}  (l0 : Nat) (xl1 : Int32) (l1 : Nat) (hl1 : xl1 = nI l1) (s0 : Nat) (h : F96_18  l0 l1 s0 T = some r) : mm_L 96 18 [.ref l0, .int xl1] [.ref s0] (toS z T) = some (tR z r) := by
  unfold F96_18 at h
  refine Eq.trans (e96_18 ..) ?_
  exact (fb_g (fun _ q => by rw [hl1]; exact flg_ok q) h (fun v0 h2 => G96_22  _ _ _ hl1 _ h2))
noncomputable def F96_14  (l0 : Nat) (l1 : Nat) (T : fS) : Option fR := (fbv (fgr T l0 6 4) (fun v0 => F96_18  l0 l1 v0 T) ((none : Option fR)))
theorem G96_14 {z : Option mm_O} {T : fS} {r : fR}  (l0 : Nat) (xl1 : Int32) (l1 : Nat) (hl1 : xl1 = nI l1) (h : F96_14  l0 l1 T = some r) : mm_L 96 14 [.ref l0, .int xl1] [] (toS z T) = some (tR z r) := by
  unfold F96_14 at h
  refine Eq.trans (e96_14 ..) ?_
  exact (fb_v (fun _ q => fgr_ok q) h (fun v0 h2 => G96_18  _ _ _ hl1 _ h2) (fun h2 => fr_n h2))
noncomputable def F96_11  (l0 : Nat) (l1 : Nat) (s0 : Nat) (T : fS) : Option fR := (fif (ieq s0 0) (F96_31  l0 l1 T) (F96_14  l0 l1 T))
theorem G96_11 {z : Option mm_O} {T : fS} {r : fR}  (l0 : Nat) (xl1 : Int32) (l1 : Nat) (hl1 : xl1 = nI l1) (xs0 : Int32) (s0 : Nat) (hs0 : xs0 = nI s0) (h : F96_11  l0 l1 s0 T = some r) : mm_L 96 11 [.ref l0, .int xl1] [.int xs0] (toS z T) = some (tR z r) := by
  unfold F96_11 at h
  refine Eq.trans (e96_11 ..) ?_
  exact (fb_if (cj_eq hs0 (rfl : (0 : Int32) = nI 0)) h (fun h1 => (G96_31  _ _ _ hl1 h1)) (fun h1 => (G96_14  _ _ _ hl1 h1)))
noncomputable def F96_8  (l0 : Nat) (l1 : Nat) (s0 : Nat) (s1 : Nat) (T : fS) : Option fR := (fKi false (F101_0 s1 s0 T) (fun v0 T1 => F96_11  l0 l1 v0 T1))
theorem G96_8 {z : Option mm_O} {T : fS} {r : fR}  (l0 : Nat) (xl1 : Int32) (l1 : Nat) (hl1 : xl1 = nI l1) (xs0 : Int32) (s0 : Nat) (hs0 : xs0 = nI s0) (xs1 : Int32) (s1 : Nat) (hs1 : xs1 = nI s1) (h : F96_8  l0 l1 s0 s1 T = some r) : mm_L 96 8 [.ref l0, .int xl1] [.int xs0, .int xs1] (toS z T) = some (tR z r) := by
  unfold F96_8 at h
  refine Eq.trans (e96_8 ..) ?_
  exact (fb_K2i (fun _ q => GM101 _ _ hs1 _ _ hs0 q) h (fun v0 T1 h2 => G96_11  _ _ _ hl1 _ _ rfl h2))
noncomputable def F96_5  (l0 : Nat) (l1 : Nat) (s0 : Nat) (s1 : Nat) (T : fS) : Option fR := (fbn (flz T s0) (fun v0 => F96_8  l0 l1 v0 s1 T))
theorem G96_5 {z : Option mm_O} {T : fS} {r : fR}  (l0 : Nat) (xl1 : Int32) (l1 : Nat) (hl1 : xl1 = nI l1) (s0 : Nat) (xs1 : Int32) (s1 : Nat) (hs1 : xs1 = nI s1) (h : F96_5  l0 l1 s0 s1 T = some r) : mm_L 96 5 [.ref l0, .int xl1] [.ref s0, .int xs1] (toS z T) = some (tR z r) := by
  unfold F96_5 at h
  refine Eq.trans (e96_5 ..) ?_
  exact (fb_n (fun _ q => flz_ok q) h (fun v0 h2 => G96_8  _ _ _ hl1 _ _ rfl _ _ hs1 h2))
noncomputable def F96_0  (l0 : Nat) (l1 : Nat) (T : fS) : Option fR := (fbv (fgr T l0 6 4) (fun v0 => F96_5  l0 l1 v0 l1 T) ((none : Option fR)))
theorem G96_0 {z : Option mm_O} {T : fS} {r : fR}  (l0 : Nat) (xl1 : Int32) (l1 : Nat) (hl1 : xl1 = nI l1) (h : F96_0  l0 l1 T = some r) : mm_L 96 0 [.ref l0, .int xl1] [] (toS z T) = some (tR z r) := by
  unfold F96_0 at h
  refine Eq.trans (e96_0 ..) ?_
  exact (fb_v (fun _ q => fgr_ok q) h (fun v0 h2 => G96_5  _ _ _ hl1 _ _ _ hl1 h2) (fun h2 => fr_n h2))
theorem GM96 {z : Option mm_O} {T : fS} {r : fR} (l0 : Nat) (xl1 : Int32) (l1 : Nat) (hl1 : xl1 = nI l1) (h : F96_0 l0 l1 T = some r) : mm_M 96 [.ref l0, .int xl1] (toS z T) = some (tR z r) := Eq.trans (M_96 ..) (G96_0 l0 xl1 l1 hl1 h)
-- 97: HandArchive.requirePerson
noncomputable def F97_9  (l0 : Nat) (T : fS) : Option fR := (some ((.inr 2, fbm T 1 6) : fR))
theorem G97_9 {z : Option mm_O} {T : fS} {r : fR}  (xl0 : Int32) (l0 : Nat) (hl0 : xl0 = nI l0) (h : F97_9  l0 T = some r) : mm_L 97 9 [.int xl0] [] (toS z T) = some (tR z r) := by
  unfold F97_9 at h
  refine Eq.trans (e97_9 ..) ?_
  exact (fr_x h)
noncomputable def F97_20  (l0 : Nat) (T : fS) : Option fR := (some ((.inl none, T) : fR))
theorem G97_20 {z : Option mm_O} {T : fS} {r : fR}  (xl0 : Int32) (l0 : Nat) (hl0 : xl0 = nI l0) (h : F97_20  l0 T = some r) : mm_L 97 20 [.int xl0] [] (toS z T) = some (tR z r) := by
  unfold F97_20 at h
  refine Eq.trans (e97_20 ..) ?_
  exact (fr_v h)
noncomputable def F97_6  (l0 : Nat) (s0 : Nat) (T : fS) : Option fR := (fif (ieq s0 0) (F97_9  l0 T) (F97_20  l0 T))
theorem G97_6 {z : Option mm_O} {T : fS} {r : fR}  (xl0 : Int32) (l0 : Nat) (hl0 : xl0 = nI l0) (xs0 : Int32) (s0 : Nat) (hs0 : xs0 = nI s0) (h : F97_6  l0 s0 T = some r) : mm_L 97 6 [.int xl0] [.int xs0] (toS z T) = some (tR z r) := by
  unfold F97_6 at h
  refine Eq.trans (e97_6 ..) ?_
  exact (fb_if (cj_eq hs0 (rfl : (0 : Int32) = nI 0)) h (fun h1 => (G97_9  _ _ hl0 h1)) (fun h1 => (G97_20  _ _ hl0 h1)))
noncomputable def F97_0  (l0 : Nat) (T : fS) : Option fR := (fKi false (F101_0 l0 6 T) (fun v0 T1 => F97_6  l0 v0 T1))
theorem G97_0 {z : Option mm_O} {T : fS} {r : fR}  (xl0 : Int32) (l0 : Nat) (hl0 : xl0 = nI l0) (h : F97_0  l0 T = some r) : mm_L 97 0 [.int xl0] [] (toS z T) = some (tR z r) := by
  unfold F97_0 at h
  refine Eq.trans (e97_0 ..) ?_
  exact (fb_K2i (fun _ q => GM101 _ _ hl0 _ _ (rfl : (6 : Int32) = nI 6) q) h (fun v0 T1 h2 => G97_6  _ _ hl0 _ _ rfl h2))
theorem GM97 {z : Option mm_O} {T : fS} {r : fR} (xl0 : Int32) (l0 : Nat) (hl0 : xl0 = nI l0) (h : F97_0 l0 T = some r) : mm_M 97 [.int xl0] (toS z T) = some (tR z r) := Eq.trans (M_97 ..) (G97_0 xl0 l0 hl0 h)
-- 98: HandArchive.requirePurpose
noncomputable def F98_8  (l0 : Nat) (T : fS) : Option fR := (some ((.inr 0, fbm T 1 6) : fR))
theorem G98_8 {z : Option mm_O} {T : fS} {r : fR}  (xl0 : Int32) (l0 : Nat) (hl0 : xl0 = nI l0) (h : F98_8  l0 T = some r) : mm_L 98 8 [.int xl0] [] (toS z T) = some (tR z r) := by
  unfold F98_8 at h
  refine Eq.trans (e98_8 ..) ?_
  exact (fr_x h)
noncomputable def F98_19  (l0 : Nat) (T : fS) : Option fR := (some ((.inl none, T) : fR))
theorem G98_19 {z : Option mm_O} {T : fS} {r : fR}  (xl0 : Int32) (l0 : Nat) (hl0 : xl0 = nI l0) (h : F98_19  l0 T = some r) : mm_L 98 19 [.int xl0] [] (toS z T) = some (tR z r) := by
  unfold F98_19 at h
  refine Eq.trans (e98_19 ..) ?_
  exact (fr_v h)
noncomputable def F98_5  (l0 : Nat) (s0 : Nat) (T : fS) : Option fR := (fif (ieq s0 0) (F98_8  l0 T) (F98_19  l0 T))
theorem G98_5 {z : Option mm_O} {T : fS} {r : fR}  (xl0 : Int32) (l0 : Nat) (hl0 : xl0 = nI l0) (xs0 : Int32) (s0 : Nat) (hs0 : xs0 = nI s0) (h : F98_5  l0 s0 T = some r) : mm_L 98 5 [.int xl0] [.int xs0] (toS z T) = some (tR z r) := by
  unfold F98_5 at h
  refine Eq.trans (e98_5 ..) ?_
  exact (fb_if (cj_eq hs0 (rfl : (0 : Int32) = nI 0)) h (fun h1 => (G98_8  _ _ hl0 h1)) (fun h1 => (G98_19  _ _ hl0 h1)))
noncomputable def F98_0  (l0 : Nat) (T : fS) : Option fR := (fKi false (F101_0 l0 3 T) (fun v0 T1 => F98_5  l0 v0 T1))
theorem G98_0 {z : Option mm_O} {T : fS} {r : fR}  (xl0 : Int32) (l0 : Nat) (hl0 : xl0 = nI l0) (h : F98_0  l0 T = some r) : mm_L 98 0 [.int xl0] [] (toS z T) = some (tR z r) := by
  unfold F98_0 at h
  refine Eq.trans (e98_0 ..) ?_
  exact (fb_K2i (fun _ q => GM101 _ _ hl0 _ _ (rfl : (3 : Int32) = nI 3) q) h (fun v0 T1 h2 => G98_5  _ _ hl0 _ _ rfl h2))
theorem GM98 {z : Option mm_O} {T : fS} {r : fR} (xl0 : Int32) (l0 : Nat) (hl0 : xl0 = nI l0) (h : F98_0 l0 T = some r) : mm_M 98 [.int xl0] (toS z T) = some (tR z r) := Eq.trans (M_98 ..) (G98_0 xl0 l0 hl0 h)
-- 99: HandArchive.requireCoder
noncomputable def F99_8  (l0 : Nat) (T : fS) : Option fR := (some ((.inr 2, fbm T 1 6) : fR))
theorem G99_8 {z : Option mm_O} {T : fS} {r : fR}  (xl0 : Int32) (l0 : Nat) (hl0 : xl0 = nI l0) (h : F99_8  l0 T = some r) : mm_L 99 8 [.int xl0] [] (toS z T) = some (tR z r) := by
  unfold F99_8 at h
  refine Eq.trans (e99_8 ..) ?_
  exact (fr_x h)
noncomputable def F99_19  (l0 : Nat) (T : fS) : Option fR := (some ((.inl none, T) : fR))
theorem G99_19 {z : Option mm_O} {T : fS} {r : fR}  (xl0 : Int32) (l0 : Nat) (hl0 : xl0 = nI l0) (h : F99_19  l0 T = some r) : mm_L 99 19 [.int xl0] [] (toS z T) = some (tR z r) := by
  unfold F99_19 at h
  refine Eq.trans (e99_19 ..) ?_
  exact (fr_v h)
noncomputable def F99_5  (l0 : Nat) (s0 : Nat) (T : fS) : Option fR := (fif (ieq s0 0) (F99_8  l0 T) (F99_19  l0 T))
theorem G99_5 {z : Option mm_O} {T : fS} {r : fR}  (xl0 : Int32) (l0 : Nat) (hl0 : xl0 = nI l0) (xs0 : Int32) (s0 : Nat) (hs0 : xs0 = nI s0) (h : F99_5  l0 s0 T = some r) : mm_L 99 5 [.int xl0] [.int xs0] (toS z T) = some (tR z r) := by
  unfold F99_5 at h
  refine Eq.trans (e99_5 ..) ?_
  exact (fb_if (cj_eq hs0 (rfl : (0 : Int32) = nI 0)) h (fun h1 => (G99_8  _ _ hl0 h1)) (fun h1 => (G99_19  _ _ hl0 h1)))
noncomputable def F99_0  (l0 : Nat) (T : fS) : Option fR := (fKi false (F101_0 l0 3 T) (fun v0 T1 => F99_5  l0 v0 T1))
theorem G99_0 {z : Option mm_O} {T : fS} {r : fR}  (xl0 : Int32) (l0 : Nat) (hl0 : xl0 = nI l0) (h : F99_0  l0 T = some r) : mm_L 99 0 [.int xl0] [] (toS z T) = some (tR z r) := by
  unfold F99_0 at h
  refine Eq.trans (e99_0 ..) ?_
  exact (fb_K2i (fun _ q => GM101 _ _ hl0 _ _ (rfl : (3 : Int32) = nI 3) q) h (fun v0 T1 h2 => G99_5  _ _ hl0 _ _ rfl h2))
theorem GM99 {z : Option mm_O} {T : fS} {r : fR} (xl0 : Int32) (l0 : Nat) (hl0 : xl0 = nI l0) (h : F99_0 l0 T = some r) : mm_M 99 [.int xl0] (toS z T) = some (tR z r) := Eq.trans (M_99 ..) (G99_0 xl0 l0 hl0 h)
-- 100: HandArchive.requireTier
noncomputable def F100_8  (l0 : Nat) (T : fS) : Option fR := (some ((.inr 2, fbm T 1 6) : fR))
theorem G100_8 {z : Option mm_O} {T : fS} {r : fR}  (xl0 : Int32) (l0 : Nat) (hl0 : xl0 = nI l0) (h : F100_8  l0 T = some r) : mm_L 100 8 [.int xl0] [] (toS z T) = some (tR z r) := by
  unfold F100_8 at h
  refine Eq.trans (e100_8 ..) ?_
  exact (fr_x h)
noncomputable def F100_19  (l0 : Nat) (T : fS) : Option fR := (some ((.inl none, T) : fR))
theorem G100_19 {z : Option mm_O} {T : fS} {r : fR}  (xl0 : Int32) (l0 : Nat) (hl0 : xl0 = nI l0) (h : F100_19  l0 T = some r) : mm_L 100 19 [.int xl0] [] (toS z T) = some (tR z r) := by
  unfold F100_19 at h
  refine Eq.trans (e100_19 ..) ?_
  exact (fr_v h)
noncomputable def F100_5  (l0 : Nat) (s0 : Nat) (T : fS) : Option fR := (fif (ieq s0 0) (F100_8  l0 T) (F100_19  l0 T))
theorem G100_5 {z : Option mm_O} {T : fS} {r : fR}  (xl0 : Int32) (l0 : Nat) (hl0 : xl0 = nI l0) (xs0 : Int32) (s0 : Nat) (hs0 : xs0 = nI s0) (h : F100_5  l0 s0 T = some r) : mm_L 100 5 [.int xl0] [.int xs0] (toS z T) = some (tR z r) := by
  unfold F100_5 at h
  refine Eq.trans (e100_5 ..) ?_
  exact (fb_if (cj_eq hs0 (rfl : (0 : Int32) = nI 0)) h (fun h1 => (G100_8  _ _ hl0 h1)) (fun h1 => (G100_19  _ _ hl0 h1)))
noncomputable def F100_0  (l0 : Nat) (T : fS) : Option fR := (fKi false (F101_0 l0 4 T) (fun v0 T1 => F100_5  l0 v0 T1))
theorem G100_0 {z : Option mm_O} {T : fS} {r : fR}  (xl0 : Int32) (l0 : Nat) (hl0 : xl0 = nI l0) (h : F100_0  l0 T = some r) : mm_L 100 0 [.int xl0] [] (toS z T) = some (tR z r) := by
  unfold F100_0 at h
  refine Eq.trans (e100_0 ..) ?_
  exact (fb_K2i (fun _ q => GM101 _ _ hl0 _ _ (rfl : (4 : Int32) = nI 4) q) h (fun v0 T1 h2 => G100_5  _ _ hl0 _ _ rfl h2))
theorem GM100 {z : Option mm_O} {T : fS} {r : fR} (xl0 : Int32) (l0 : Nat) (hl0 : xl0 = nI l0) (h : F100_0 l0 T = some r) : mm_M 100 [.int xl0] (toS z T) = some (tR z r) := Eq.trans (M_100 ..) (G100_0 xl0 l0 hl0 h)
-- 25: HandArchive.nearest
noncomputable def F25_13  (l0 : Nat) (l1 : Nat) (l2 : Nat) (T : fS) : Option fR := (some ((.inr 0, fbm T 1 6) : fR))
theorem G25_13 {z : Option mm_O} {T : fS} {r : fR}  (l0 : Nat) (xl1 : Int32) (l1 : Nat) (hl1 : xl1 = nI l1) (xl2 : Int32) (l2 : Nat) (hl2 : xl2 = nI l2) (ul3 : Value) (ul4 : Value) (ul5 : Value) (ul6 : Value) (ul7 : Value) (h : F25_13  l0 l1 l2 T = some r) : mm_L 25 13 [.ref l0, .int xl1, .int xl2, ul3, ul4, ul5, ul6, ul7] [] (toS z T) = some (tR z r) := by
  unfold F25_13 at h
  refine Eq.trans (e25_13 ..) ?_
  exact (fr_x h)
noncomputable def F25_104 (k44 : Nat → Nat → Nat → Nat → Nat → Nat → Nat → fS → Option fR) (l0 : Nat) (l1 : Nat) (l2 : Nat) (l3 : Nat) (l4 : Nat) (l5 : Nat) (l6 : Nat) (T : fS) : Option fR := (k44 l0 l1 l2 l3 l4 l5 (iA l6 1) T)
theorem G25_104 {z : Option mm_O} {T : fS} {r : fR} (k44 : Nat → Nat → Nat → Nat → Nat → Nat → Nat → fS → Option fR) (hk44 : ∀ (l0 : Nat) (xl1 : Int32) (l1 : Nat) (hl1 : xl1 = nI l1) (xl2 : Int32) (l2 : Nat) (hl2 : xl2 = nI l2) (l3 : Nat) (xl4 : Int32) (l4 : Nat) (hl4 : xl4 = nI l4) (xl5 : Int32) (l5 : Nat) (hl5 : xl5 = nI l5) (xl6 : Int32) (l6 : Nat) (hl6 : xl6 = nI l6) (ul7 : Value) (T : fS) (r : fR), k44 l0 l1 l2 l3 l4 l5 l6 T = some r → mm_L 25 44 [.ref l0, .int xl1, .int xl2, .ref l3, .int xl4, .int xl5, .int xl6, ul7] [] (toS z T) = some (tR z r)) (l0 : Nat) (xl1 : Int32) (l1 : Nat) (hl1 : xl1 = nI l1) (xl2 : Int32) (l2 : Nat) (hl2 : xl2 = nI l2) (l3 : Nat) (xl4 : Int32) (l4 : Nat) (hl4 : xl4 = nI l4) (xl5 : Int32) (l5 : Nat) (hl5 : xl5 = nI l5) (xl6 : Int32) (l6 : Nat) (hl6 : xl6 = nI l6) (ul7 : Value) (h : F25_104 k44 l0 l1 l2 l3 l4 l5 l6 T = some r) : mm_L 25 104 [.ref l0, .int xl1, .int xl2, .ref l3, .int xl4, .int xl5, .int xl6, ul7] [] (toS z T) = some (tR z r) := by
  unfold F25_104 at h
  refine Eq.trans (e25_104 ..) ?_
  exact (hk44 _ _ _ hl1 _ _ hl2 _ _ _ hl4 _ _ hl5 _ _ (iA_ok hl6 (rfl : (1 : Int32) = nI 1)) _ _ _ h)
noncomputable def F25_62 (k44 : Nat → Nat → Nat → Nat → Nat → Nat → Nat → fS → Option fR) (l0 : Nat) (l1 : Nat) (l2 : Nat) (l3 : Nat) (l4 : Nat) (l5 : Nat) (l6 : Nat) (T : fS) : Option fR := (F25_104 k44 l0 l1 l2 l3 l4 l5 l6 T)
theorem G25_62 {z : Option mm_O} {T : fS} {r : fR} (k44 : Nat → Nat → Nat → Nat → Nat → Nat → Nat → fS → Option fR) (hk44 : ∀ (l0 : Nat) (xl1 : Int32) (l1 : Nat) (hl1 : xl1 = nI l1) (xl2 : Int32) (l2 : Nat) (hl2 : xl2 = nI l2) (l3 : Nat) (xl4 : Int32) (l4 : Nat) (hl4 : xl4 = nI l4) (xl5 : Int32) (l5 : Nat) (hl5 : xl5 = nI l5) (xl6 : Int32) (l6 : Nat) (hl6 : xl6 = nI l6) (ul7 : Value) (T : fS) (r : fR), k44 l0 l1 l2 l3 l4 l5 l6 T = some r → mm_L 25 44 [.ref l0, .int xl1, .int xl2, .ref l3, .int xl4, .int xl5, .int xl6, ul7] [] (toS z T) = some (tR z r)) (l0 : Nat) (xl1 : Int32) (l1 : Nat) (hl1 : xl1 = nI l1) (xl2 : Int32) (l2 : Nat) (hl2 : xl2 = nI l2) (l3 : Nat) (xl4 : Int32) (l4 : Nat) (hl4 : xl4 = nI l4) (xl5 : Int32) (l5 : Nat) (hl5 : xl5 = nI l5) (xl6 : Int32) (l6 : Nat) (hl6 : xl6 = nI l6) (ul7 : Value) (h : F25_62 k44 l0 l1 l2 l3 l4 l5 l6 T = some r) : mm_L 25 62 [.ref l0, .int xl1, .int xl2, .ref l3, .int xl4, .int xl5, .int xl6, ul7] [] (toS z T) = some (tR z r) := by
  unfold F25_62 at h
  refine Eq.trans (e25_62 ..) ?_
  exact (G25_104 k44 hk44 _ _ _ hl1 _ _ hl2 _ _ _ hl4 _ _ hl5 _ _ hl6 _ h)
noncomputable def F25_96 (k44 : Nat → Nat → Nat → Nat → Nat → Nat → Nat → fS → Option fR) (l0 : Nat) (l1 : Nat) (l2 : Nat) (l3 : Nat) (l4 : Nat) (l5 : Nat) (l6 : Nat) (l7 : Nat) (T : fS) : Option fR := (F25_104 k44 l0 l1 l2 l3 l6 l7 l6 T)
theorem G25_96 {z : Option mm_O} {T : fS} {r : fR} (k44 : Nat → Nat → Nat → Nat → Nat → Nat → Nat → fS → Option fR) (hk44 : ∀ (l0 : Nat) (xl1 : Int32) (l1 : Nat) (hl1 : xl1 = nI l1) (xl2 : Int32) (l2 : Nat) (hl2 : xl2 = nI l2) (l3 : Nat) (xl4 : Int32) (l4 : Nat) (hl4 : xl4 = nI l4) (xl5 : Int32) (l5 : Nat) (hl5 : xl5 = nI l5) (xl6 : Int32) (l6 : Nat) (hl6 : xl6 = nI l6) (ul7 : Value) (T : fS) (r : fR), k44 l0 l1 l2 l3 l4 l5 l6 T = some r → mm_L 25 44 [.ref l0, .int xl1, .int xl2, .ref l3, .int xl4, .int xl5, .int xl6, ul7] [] (toS z T) = some (tR z r)) (l0 : Nat) (xl1 : Int32) (l1 : Nat) (hl1 : xl1 = nI l1) (xl2 : Int32) (l2 : Nat) (hl2 : xl2 = nI l2) (l3 : Nat) (xl4 : Int32) (l4 : Nat) (hl4 : xl4 = nI l4) (xl5 : Int32) (l5 : Nat) (hl5 : xl5 = nI l5) (xl6 : Int32) (l6 : Nat) (hl6 : xl6 = nI l6) (xl7 : Int32) (l7 : Nat) (hl7 : xl7 = nI l7) (h : F25_96 k44 l0 l1 l2 l3 l4 l5 l6 l7 T = some r) : mm_L 25 96 [.ref l0, .int xl1, .int xl2, .ref l3, .int xl4, .int xl5, .int xl6, .int xl7] [] (toS z T) = some (tR z r) := by
  unfold F25_96 at h
  refine Eq.trans (e25_96 ..) ?_
  exact (G25_104 k44 hk44 _ _ _ hl1 _ _ hl2 _ _ _ hl6 _ _ hl7 _ _ hl6 _ h)
noncomputable def F25_89 (k44 : Nat → Nat → Nat → Nat → Nat → Nat → Nat → fS → Option fR) (l0 : Nat) (l1 : Nat) (l2 : Nat) (l3 : Nat) (l4 : Nat) (l5 : Nat) (l6 : Nat) (l7 : Nat) (T : fS) : Option fR := (fif (ile l5 l7) (F25_104 k44 l0 l1 l2 l3 l4 l5 l6 T) (F25_96 k44 l0 l1 l2 l3 l4 l5 l6 l7 T))
theorem G25_89 {z : Option mm_O} {T : fS} {r : fR} (k44 : Nat → Nat → Nat → Nat → Nat → Nat → Nat → fS → Option fR) (hk44 : ∀ (l0 : Nat) (xl1 : Int32) (l1 : Nat) (hl1 : xl1 = nI l1) (xl2 : Int32) (l2 : Nat) (hl2 : xl2 = nI l2) (l3 : Nat) (xl4 : Int32) (l4 : Nat) (hl4 : xl4 = nI l4) (xl5 : Int32) (l5 : Nat) (hl5 : xl5 = nI l5) (xl6 : Int32) (l6 : Nat) (hl6 : xl6 = nI l6) (ul7 : Value) (T : fS) (r : fR), k44 l0 l1 l2 l3 l4 l5 l6 T = some r → mm_L 25 44 [.ref l0, .int xl1, .int xl2, .ref l3, .int xl4, .int xl5, .int xl6, ul7] [] (toS z T) = some (tR z r)) (l0 : Nat) (xl1 : Int32) (l1 : Nat) (hl1 : xl1 = nI l1) (xl2 : Int32) (l2 : Nat) (hl2 : xl2 = nI l2) (l3 : Nat) (xl4 : Int32) (l4 : Nat) (hl4 : xl4 = nI l4) (xl5 : Int32) (l5 : Nat) (hl5 : xl5 = nI l5) (xl6 : Int32) (l6 : Nat) (hl6 : xl6 = nI l6) (xl7 : Int32) (l7 : Nat) (hl7 : xl7 = nI l7) (h : F25_89 k44 l0 l1 l2 l3 l4 l5 l6 l7 T = some r) : mm_L 25 89 [.ref l0, .int xl1, .int xl2, .ref l3, .int xl4, .int xl5, .int xl6, .int xl7] [] (toS z T) = some (tR z r) := by
  unfold F25_89 at h
  refine Eq.trans (e25_89 ..) ?_
  exact (fb_if (cj_le hl5 hl7) h (fun h1 => (G25_104 k44 hk44 _ _ _ hl1 _ _ hl2 _ _ _ hl4 _ _ hl5 _ _ hl6 _ h1)) (fun h1 => (G25_96 k44 hk44 _ _ _ hl1 _ _ hl2 _ _ _ hl4 _ _ hl5 _ _ hl6 _ _ hl7 h1)))
noncomputable def F25_81 (k44 : Nat → Nat → Nat → Nat → Nat → Nat → Nat → fS → Option fR) (l0 : Nat) (l1 : Nat) (l2 : Nat) (l3 : Nat) (l4 : Nat) (l5 : Nat) (l6 : Nat) (s0 : Nat) (T : fS) : Option fR := (fif (ieq l4 4294967295) (F25_96 k44 l0 l1 l2 l3 l4 l5 l6 s0 T) (F25_89 k44 l0 l1 l2 l3 l4 l5 l6 s0 T))
theorem G25_81 {z : Option mm_O} {T : fS} {r : fR} (k44 : Nat → Nat → Nat → Nat → Nat → Nat → Nat → fS → Option fR) (hk44 : ∀ (l0 : Nat) (xl1 : Int32) (l1 : Nat) (hl1 : xl1 = nI l1) (xl2 : Int32) (l2 : Nat) (hl2 : xl2 = nI l2) (l3 : Nat) (xl4 : Int32) (l4 : Nat) (hl4 : xl4 = nI l4) (xl5 : Int32) (l5 : Nat) (hl5 : xl5 = nI l5) (xl6 : Int32) (l6 : Nat) (hl6 : xl6 = nI l6) (ul7 : Value) (T : fS) (r : fR), k44 l0 l1 l2 l3 l4 l5 l6 T = some r → mm_L 25 44 [.ref l0, .int xl1, .int xl2, .ref l3, .int xl4, .int xl5, .int xl6, ul7] [] (toS z T) = some (tR z r)) (l0 : Nat) (xl1 : Int32) (l1 : Nat) (hl1 : xl1 = nI l1) (xl2 : Int32) (l2 : Nat) (hl2 : xl2 = nI l2) (l3 : Nat) (xl4 : Int32) (l4 : Nat) (hl4 : xl4 = nI l4) (xl5 : Int32) (l5 : Nat) (hl5 : xl5 = nI l5) (xl6 : Int32) (l6 : Nat) (hl6 : xl6 = nI l6) (ul7 : Value) (xs0 : Int32) (s0 : Nat) (hs0 : xs0 = nI s0) (h : F25_81 k44 l0 l1 l2 l3 l4 l5 l6 s0 T = some r) : mm_L 25 81 [.ref l0, .int xl1, .int xl2, .ref l3, .int xl4, .int xl5, .int xl6, ul7] [.int xs0] (toS z T) = some (tR z r) := by
  unfold F25_81 at h
  refine Eq.trans (e25_81 ..) ?_
  exact (fb_if (cj_eq hl4 (by decide : (-1 : Int32) = nI 4294967295)) h (fun h1 => (G25_96 k44 hk44 _ _ _ hl1 _ _ hl2 _ _ _ hl4 _ _ hl5 _ _ hl6 _ _ hs0 h1)) (fun h1 => (G25_89 k44 hk44 _ _ _ hl1 _ _ hl2 _ _ _ hl4 _ _ hl5 _ _ hl6 _ _ hs0 h1)))
noncomputable def F25_78 (k44 : Nat → Nat → Nat → Nat → Nat → Nat → Nat → fS → Option fR) (l0 : Nat) (l1 : Nat) (l2 : Nat) (l3 : Nat) (l4 : Nat) (l5 : Nat) (l6 : Nat) (s0 : Nat) (s1 : Nat) (T : fS) : Option fR := (fKi true (fif (fch T s1 1) (F8_0 s1 s0 T) none) (fun v0 T1 => F25_81 k44 l0 l1 l2 l3 l4 l5 l6 v0 T1))
theorem G25_78 {z : Option mm_O} {T : fS} {r : fR} (k44 : Nat → Nat → Nat → Nat → Nat → Nat → Nat → fS → Option fR) (hk44 : ∀ (l0 : Nat) (xl1 : Int32) (l1 : Nat) (hl1 : xl1 = nI l1) (xl2 : Int32) (l2 : Nat) (hl2 : xl2 = nI l2) (l3 : Nat) (xl4 : Int32) (l4 : Nat) (hl4 : xl4 = nI l4) (xl5 : Int32) (l5 : Nat) (hl5 : xl5 = nI l5) (xl6 : Int32) (l6 : Nat) (hl6 : xl6 = nI l6) (ul7 : Value) (T : fS) (r : fR), k44 l0 l1 l2 l3 l4 l5 l6 T = some r → mm_L 25 44 [.ref l0, .int xl1, .int xl2, .ref l3, .int xl4, .int xl5, .int xl6, ul7] [] (toS z T) = some (tR z r)) (l0 : Nat) (xl1 : Int32) (l1 : Nat) (hl1 : xl1 = nI l1) (xl2 : Int32) (l2 : Nat) (hl2 : xl2 = nI l2) (l3 : Nat) (xl4 : Int32) (l4 : Nat) (hl4 : xl4 = nI l4) (xl5 : Int32) (l5 : Nat) (hl5 : xl5 = nI l5) (xl6 : Int32) (l6 : Nat) (hl6 : xl6 = nI l6) (ul7 : Value) (s0 : Nat) (s1 : Nat) (h : F25_78 k44 l0 l1 l2 l3 l4 l5 l6 s0 s1 T = some r) : mm_L 25 78 [.ref l0, .int xl1, .int xl2, .ref l3, .int xl4, .int xl5, .int xl6, ul7] [.ref s0, .ref s1] (toS z T) = some (tR z r) := by
  unfold F25_78 at h
  refine Eq.trans (e25_78 ..) ?_
  exact (fb_K0i (fun _ q => fb_mo (y := 8) ow_8 q (fun q => GM8 _ _ q)) h (fun v0 T1 h2 => G25_81 k44 hk44 _ _ _ hl1 _ _ hl2 _ _ _ hl4 _ _ hl5 _ _ hl6 _ _ _ rfl h2))
noncomputable def F25_75 (k44 : Nat → Nat → Nat → Nat → Nat → Nat → Nat → fS → Option fR) (l0 : Nat) (l1 : Nat) (l2 : Nat) (l3 : Nat) (l4 : Nat) (l5 : Nat) (l6 : Nat) (s0 : Nat) (s1 : Nat) (T : fS) : Option fR := (fif (fch T s0 1) (F25_78 k44 l0 l1 l2 l3 l4 l5 l6 s0 s1 T) none)
theorem G25_75 {z : Option mm_O} {T : fS} {r : fR} (k44 : Nat → Nat → Nat → Nat → Nat → Nat → Nat → fS → Option fR) (hk44 : ∀ (l0 : Nat) (xl1 : Int32) (l1 : Nat) (hl1 : xl1 = nI l1) (xl2 : Int32) (l2 : Nat) (hl2 : xl2 = nI l2) (l3 : Nat) (xl4 : Int32) (l4 : Nat) (hl4 : xl4 = nI l4) (xl5 : Int32) (l5 : Nat) (hl5 : xl5 = nI l5) (xl6 : Int32) (l6 : Nat) (hl6 : xl6 = nI l6) (ul7 : Value) (T : fS) (r : fR), k44 l0 l1 l2 l3 l4 l5 l6 T = some r → mm_L 25 44 [.ref l0, .int xl1, .int xl2, .ref l3, .int xl4, .int xl5, .int xl6, ul7] [] (toS z T) = some (tR z r)) (l0 : Nat) (xl1 : Int32) (l1 : Nat) (hl1 : xl1 = nI l1) (xl2 : Int32) (l2 : Nat) (hl2 : xl2 = nI l2) (l3 : Nat) (xl4 : Int32) (l4 : Nat) (hl4 : xl4 = nI l4) (xl5 : Int32) (l5 : Nat) (hl5 : xl5 = nI l5) (xl6 : Int32) (l6 : Nat) (hl6 : xl6 = nI l6) (ul7 : Value) (s0 : Nat) (s1 : Nat) (h : F25_75 k44 l0 l1 l2 l3 l4 l5 l6 s0 s1 T = some r) : mm_L 25 75 [.ref l0, .int xl1, .int xl2, .ref l3, .int xl4, .int xl5, .int xl6, ul7] [.ref s0, .ref s1] (toS z T) = some (tR z r) := by
  unfold F25_75 at h
  refine Eq.trans (e25_75 ..) ?_
  exact (fb_c h (fun h2 => G25_78 k44 hk44 _ _ _ hl1 _ _ hl2 _ _ _ hl4 _ _ hl5 _ _ hl6 _ _ _ h2))
noncomputable def F25_70 (k44 : Nat → Nat → Nat → Nat → Nat → Nat → Nat → fS → Option fR) (l0 : Nat) (l1 : Nat) (l2 : Nat) (l3 : Nat) (l4 : Nat) (l5 : Nat) (l6 : Nat) (s0 : Nat) (s1 : Nat) (T : fS) : Option fR := (fbn (flg T s0 l6) (fun v0 => F25_75 k44 l0 l1 l2 l3 l4 l5 l6 v0 s1 T))
theorem G25_70 {z : Option mm_O} {T : fS} {r : fR} (k44 : Nat → Nat → Nat → Nat → Nat → Nat → Nat → fS → Option fR) (hk44 : ∀ (l0 : Nat) (xl1 : Int32) (l1 : Nat) (hl1 : xl1 = nI l1) (xl2 : Int32) (l2 : Nat) (hl2 : xl2 = nI l2) (l3 : Nat) (xl4 : Int32) (l4 : Nat) (hl4 : xl4 = nI l4) (xl5 : Int32) (l5 : Nat) (hl5 : xl5 = nI l5) (xl6 : Int32) (l6 : Nat) (hl6 : xl6 = nI l6) (ul7 : Value) (T : fS) (r : fR), k44 l0 l1 l2 l3 l4 l5 l6 T = some r → mm_L 25 44 [.ref l0, .int xl1, .int xl2, .ref l3, .int xl4, .int xl5, .int xl6, ul7] [] (toS z T) = some (tR z r)) (l0 : Nat) (xl1 : Int32) (l1 : Nat) (hl1 : xl1 = nI l1) (xl2 : Int32) (l2 : Nat) (hl2 : xl2 = nI l2) (l3 : Nat) (xl4 : Int32) (l4 : Nat) (hl4 : xl4 = nI l4) (xl5 : Int32) (l5 : Nat) (hl5 : xl5 = nI l5) (xl6 : Int32) (l6 : Nat) (hl6 : xl6 = nI l6) (ul7 : Value) (s0 : Nat) (s1 : Nat) (h : F25_70 k44 l0 l1 l2 l3 l4 l5 l6 s0 s1 T = some r) : mm_L 25 70 [.ref l0, .int xl1, .int xl2, .ref l3, .int xl4, .int xl5, .int xl6, ul7] [.ref s0, .ref s1] (toS z T) = some (tR z r) := by
  unfold F25_70 at h
  refine Eq.trans (e25_70 ..) ?_
  exact (fb_g (fun _ q => by rw [hl6]; exact flg_ok q) h (fun v0 h2 => G25_75 k44 hk44 _ _ _ hl1 _ _ hl2 _ _ _ hl4 _ _ hl5 _ _ hl6 _ _ _ h2))
noncomputable def F25_65 (k44 : Nat → Nat → Nat → Nat → Nat → Nat → Nat → fS → Option fR) (l0 : Nat) (l1 : Nat) (l2 : Nat) (l3 : Nat) (l4 : Nat) (l5 : Nat) (l6 : Nat) (T : fS) : Option fR := (fbv (fgr T l0 6 0) (fun v0 => F25_70 k44 l0 l1 l2 l3 l4 l5 l6 v0 l3 T) ((none : Option fR)))
theorem G25_65 {z : Option mm_O} {T : fS} {r : fR} (k44 : Nat → Nat → Nat → Nat → Nat → Nat → Nat → fS → Option fR) (hk44 : ∀ (l0 : Nat) (xl1 : Int32) (l1 : Nat) (hl1 : xl1 = nI l1) (xl2 : Int32) (l2 : Nat) (hl2 : xl2 = nI l2) (l3 : Nat) (xl4 : Int32) (l4 : Nat) (hl4 : xl4 = nI l4) (xl5 : Int32) (l5 : Nat) (hl5 : xl5 = nI l5) (xl6 : Int32) (l6 : Nat) (hl6 : xl6 = nI l6) (ul7 : Value) (T : fS) (r : fR), k44 l0 l1 l2 l3 l4 l5 l6 T = some r → mm_L 25 44 [.ref l0, .int xl1, .int xl2, .ref l3, .int xl4, .int xl5, .int xl6, ul7] [] (toS z T) = some (tR z r)) (l0 : Nat) (xl1 : Int32) (l1 : Nat) (hl1 : xl1 = nI l1) (xl2 : Int32) (l2 : Nat) (hl2 : xl2 = nI l2) (l3 : Nat) (xl4 : Int32) (l4 : Nat) (hl4 : xl4 = nI l4) (xl5 : Int32) (l5 : Nat) (hl5 : xl5 = nI l5) (xl6 : Int32) (l6 : Nat) (hl6 : xl6 = nI l6) (ul7 : Value) (h : F25_65 k44 l0 l1 l2 l3 l4 l5 l6 T = some r) : mm_L 25 65 [.ref l0, .int xl1, .int xl2, .ref l3, .int xl4, .int xl5, .int xl6, ul7] [] (toS z T) = some (tR z r) := by
  unfold F25_65 at h
  refine Eq.trans (e25_65 ..) ?_
  exact (fb_v (fun _ q => fgr_ok q) h (fun v0 h2 => G25_70 k44 hk44 _ _ _ hl1 _ _ hl2 _ _ _ hl4 _ _ hl5 _ _ hl6 _ _ _ h2) (fun h2 => fr_n h2))
noncomputable def F25_56 (k44 : Nat → Nat → Nat → Nat → Nat → Nat → Nat → fS → Option fR) (l0 : Nat) (l1 : Nat) (l2 : Nat) (l3 : Nat) (l4 : Nat) (l5 : Nat) (l6 : Nat) (T : fS) : Option fR := (fif (ieq l6 l1) (F25_62 k44 l0 l1 l2 l3 l4 l5 l6 T) (F25_65 k44 l0 l1 l2 l3 l4 l5 l6 T))
theorem G25_56 {z : Option mm_O} {T : fS} {r : fR} (k44 : Nat → Nat → Nat → Nat → Nat → Nat → Nat → fS → Option fR) (hk44 : ∀ (l0 : Nat) (xl1 : Int32) (l1 : Nat) (hl1 : xl1 = nI l1) (xl2 : Int32) (l2 : Nat) (hl2 : xl2 = nI l2) (l3 : Nat) (xl4 : Int32) (l4 : Nat) (hl4 : xl4 = nI l4) (xl5 : Int32) (l5 : Nat) (hl5 : xl5 = nI l5) (xl6 : Int32) (l6 : Nat) (hl6 : xl6 = nI l6) (ul7 : Value) (T : fS) (r : fR), k44 l0 l1 l2 l3 l4 l5 l6 T = some r → mm_L 25 44 [.ref l0, .int xl1, .int xl2, .ref l3, .int xl4, .int xl5, .int xl6, ul7] [] (toS z T) = some (tR z r)) (l0 : Nat) (xl1 : Int32) (l1 : Nat) (hl1 : xl1 = nI l1) (xl2 : Int32) (l2 : Nat) (hl2 : xl2 = nI l2) (l3 : Nat) (xl4 : Int32) (l4 : Nat) (hl4 : xl4 = nI l4) (xl5 : Int32) (l5 : Nat) (hl5 : xl5 = nI l5) (xl6 : Int32) (l6 : Nat) (hl6 : xl6 = nI l6) (ul7 : Value) (h : F25_56 k44 l0 l1 l2 l3 l4 l5 l6 T = some r) : mm_L 25 56 [.ref l0, .int xl1, .int xl2, .ref l3, .int xl4, .int xl5, .int xl6, ul7] [] (toS z T) = some (tR z r) := by
  unfold F25_56 at h
  refine Eq.trans (e25_56 ..) ?_
  exact (fb_if (cj_eq hl6 hl1) h (fun h1 => (G25_62 k44 hk44 _ _ _ hl1 _ _ hl2 _ _ _ hl4 _ _ hl5 _ _ hl6 _ h1)) (fun h1 => (G25_65 k44 hk44 _ _ _ hl1 _ _ hl2 _ _ _ hl4 _ _ hl5 _ _ hl6 _ h1)))
noncomputable def F25_121  (l0 : Nat) (l1 : Nat) (l2 : Nat) (l3 : Nat) (l4 : Nat) (l5 : Nat) (l6 : Nat) (s0 : Nat) (T : fS) : Option fR := (some ((.inl (some (.inl s0)), T) : fR))
theorem G25_121 {z : Option mm_O} {T : fS} {r : fR}  (l0 : Nat) (xl1 : Int32) (l1 : Nat) (hl1 : xl1 = nI l1) (xl2 : Int32) (l2 : Nat) (hl2 : xl2 = nI l2) (l3 : Nat) (xl4 : Int32) (l4 : Nat) (hl4 : xl4 = nI l4) (xl5 : Int32) (l5 : Nat) (hl5 : xl5 = nI l5) (xl6 : Int32) (l6 : Nat) (hl6 : xl6 = nI l6) (ul7 : Value) (xs0 : Int32) (s0 : Nat) (hs0 : xs0 = nI s0) (h : F25_121  l0 l1 l2 l3 l4 l5 l6 s0 T = some r) : mm_L 25 121 [.ref l0, .int xl1, .int xl2, .ref l3, .int xl4, .int xl5, .int xl6, ul7] [.int xs0] (toS z T) = some (tR z r) := by
  unfold F25_121 at h
  refine Eq.trans (e25_121 ..) ?_
  exact (fr_i hs0 h)
noncomputable def F25_114  (l0 : Nat) (l1 : Nat) (l2 : Nat) (l3 : Nat) (l4 : Nat) (l5 : Nat) (l6 : Nat) (T : fS) : Option fR := (F25_121  l0 l1 l2 l3 l4 l5 l6 l4 T)
theorem G25_114 {z : Option mm_O} {T : fS} {r : fR}  (l0 : Nat) (xl1 : Int32) (l1 : Nat) (hl1 : xl1 = nI l1) (xl2 : Int32) (l2 : Nat) (hl2 : xl2 = nI l2) (l3 : Nat) (xl4 : Int32) (l4 : Nat) (hl4 : xl4 = nI l4) (xl5 : Int32) (l5 : Nat) (hl5 : xl5 = nI l5) (xl6 : Int32) (l6 : Nat) (hl6 : xl6 = nI l6) (ul7 : Value) (h : F25_114  l0 l1 l2 l3 l4 l5 l6 T = some r) : mm_L 25 114 [.ref l0, .int xl1, .int xl2, .ref l3, .int xl4, .int xl5, .int xl6, ul7] [] (toS z T) = some (tR z r) := by
  unfold F25_114 at h
  refine Eq.trans (e25_114 ..) ?_
  exact (G25_121  _ _ _ hl1 _ _ hl2 _ _ _ hl4 _ _ hl5 _ _ hl6 _ _ _ hl4 h)
noncomputable def F25_119  (l0 : Nat) (l1 : Nat) (l2 : Nat) (l3 : Nat) (l4 : Nat) (l5 : Nat) (l6 : Nat) (T : fS) : Option fR := (F25_121  l0 l1 l2 l3 l4 l5 l6 l5 T)
theorem G25_119 {z : Option mm_O} {T : fS} {r : fR}  (l0 : Nat) (xl1 : Int32) (l1 : Nat) (hl1 : xl1 = nI l1) (xl2 : Int32) (l2 : Nat) (hl2 : xl2 = nI l2) (l3 : Nat) (xl4 : Int32) (l4 : Nat) (hl4 : xl4 = nI l4) (xl5 : Int32) (l5 : Nat) (hl5 : xl5 = nI l5) (xl6 : Int32) (l6 : Nat) (hl6 : xl6 = nI l6) (ul7 : Value) (h : F25_119  l0 l1 l2 l3 l4 l5 l6 T = some r) : mm_L 25 119 [.ref l0, .int xl1, .int xl2, .ref l3, .int xl4, .int xl5, .int xl6, ul7] [] (toS z T) = some (tR z r) := by
  unfold F25_119 at h
  refine Eq.trans (e25_119 ..) ?_
  exact (G25_121  _ _ _ hl1 _ _ hl2 _ _ _ hl4 _ _ hl5 _ _ hl6 _ _ _ hl5 h)
noncomputable def F25_110  (l0 : Nat) (l1 : Nat) (l2 : Nat) (l3 : Nat) (l4 : Nat) (l5 : Nat) (l6 : Nat) (T : fS) : Option fR := (fif (ieq l2 0) (F25_114  l0 l1 l2 l3 l4 l5 l6 T) (F25_119  l0 l1 l2 l3 l4 l5 l6 T))
theorem G25_110 {z : Option mm_O} {T : fS} {r : fR}  (l0 : Nat) (xl1 : Int32) (l1 : Nat) (hl1 : xl1 = nI l1) (xl2 : Int32) (l2 : Nat) (hl2 : xl2 = nI l2) (l3 : Nat) (xl4 : Int32) (l4 : Nat) (hl4 : xl4 = nI l4) (xl5 : Int32) (l5 : Nat) (hl5 : xl5 = nI l5) (xl6 : Int32) (l6 : Nat) (hl6 : xl6 = nI l6) (ul7 : Value) (h : F25_110  l0 l1 l2 l3 l4 l5 l6 T = some r) : mm_L 25 110 [.ref l0, .int xl1, .int xl2, .ref l3, .int xl4, .int xl5, .int xl6, ul7] [] (toS z T) = some (tR z r) := by
  unfold F25_110 at h
  refine Eq.trans (e25_110 ..) ?_
  exact (fb_if (cj_eq hl2 (rfl : (0 : Int32) = nI 0)) h (fun h1 => (G25_114  _ _ _ hl1 _ _ hl2 _ _ _ hl4 _ _ hl5 _ _ hl6 _ h1)) (fun h1 => (G25_119  _ _ _ hl1 _ _ hl2 _ _ _ hl4 _ _ hl5 _ _ hl6 _ h1)))
noncomputable def F25_53 (k44 : Nat → Nat → Nat → Nat → Nat → Nat → Nat → fS → Option fR) (l0 : Nat) (l1 : Nat) (l2 : Nat) (l3 : Nat) (l4 : Nat) (l5 : Nat) (l6 : Nat) (s0 : Nat) (s1 : Nat) (T : fS) : Option fR := (fif (ile s0 s1) (F25_110  l0 l1 l2 l3 l4 l5 l6 T) (F25_56 k44 l0 l1 l2 l3 l4 l5 l6 T))
theorem G25_53 {z : Option mm_O} {T : fS} {r : fR} (k44 : Nat → Nat → Nat → Nat → Nat → Nat → Nat → fS → Option fR) (hk44 : ∀ (l0 : Nat) (xl1 : Int32) (l1 : Nat) (hl1 : xl1 = nI l1) (xl2 : Int32) (l2 : Nat) (hl2 : xl2 = nI l2) (l3 : Nat) (xl4 : Int32) (l4 : Nat) (hl4 : xl4 = nI l4) (xl5 : Int32) (l5 : Nat) (hl5 : xl5 = nI l5) (xl6 : Int32) (l6 : Nat) (hl6 : xl6 = nI l6) (ul7 : Value) (T : fS) (r : fR), k44 l0 l1 l2 l3 l4 l5 l6 T = some r → mm_L 25 44 [.ref l0, .int xl1, .int xl2, .ref l3, .int xl4, .int xl5, .int xl6, ul7] [] (toS z T) = some (tR z r)) (l0 : Nat) (xl1 : Int32) (l1 : Nat) (hl1 : xl1 = nI l1) (xl2 : Int32) (l2 : Nat) (hl2 : xl2 = nI l2) (l3 : Nat) (xl4 : Int32) (l4 : Nat) (hl4 : xl4 = nI l4) (xl5 : Int32) (l5 : Nat) (hl5 : xl5 = nI l5) (xl6 : Int32) (l6 : Nat) (hl6 : xl6 = nI l6) (ul7 : Value) (xs0 : Int32) (s0 : Nat) (hs0 : xs0 = nI s0) (xs1 : Int32) (s1 : Nat) (hs1 : xs1 = nI s1) (h : F25_53 k44 l0 l1 l2 l3 l4 l5 l6 s0 s1 T = some r) : mm_L 25 53 [.ref l0, .int xl1, .int xl2, .ref l3, .int xl4, .int xl5, .int xl6, ul7] [.int xs0, .int xs1] (toS z T) = some (tR z r) := by
  unfold F25_53 at h
  refine Eq.trans (e25_53 ..) ?_
  exact (fb_if (cj_le hs0 hs1) h (fun h1 => (G25_110  _ _ _ hl1 _ _ hl2 _ _ _ hl4 _ _ hl5 _ _ hl6 _ h1)) (fun h1 => (G25_56 k44 hk44 _ _ _ hl1 _ _ hl2 _ _ _ hl4 _ _ hl5 _ _ hl6 _ h1)))
noncomputable def F25_50 (k44 : Nat → Nat → Nat → Nat → Nat → Nat → Nat → fS → Option fR) (l0 : Nat) (l1 : Nat) (l2 : Nat) (l3 : Nat) (l4 : Nat) (l5 : Nat) (l6 : Nat) (s0 : Nat) (s1 : Nat) (T : fS) : Option fR := (fbn (flz T s0) (fun v0 => F25_53 k44 l0 l1 l2 l3 l4 l5 l6 v0 s1 T))
theorem G25_50 {z : Option mm_O} {T : fS} {r : fR} (k44 : Nat → Nat → Nat → Nat → Nat → Nat → Nat → fS → Option fR) (hk44 : ∀ (l0 : Nat) (xl1 : Int32) (l1 : Nat) (hl1 : xl1 = nI l1) (xl2 : Int32) (l2 : Nat) (hl2 : xl2 = nI l2) (l3 : Nat) (xl4 : Int32) (l4 : Nat) (hl4 : xl4 = nI l4) (xl5 : Int32) (l5 : Nat) (hl5 : xl5 = nI l5) (xl6 : Int32) (l6 : Nat) (hl6 : xl6 = nI l6) (ul7 : Value) (T : fS) (r : fR), k44 l0 l1 l2 l3 l4 l5 l6 T = some r → mm_L 25 44 [.ref l0, .int xl1, .int xl2, .ref l3, .int xl4, .int xl5, .int xl6, ul7] [] (toS z T) = some (tR z r)) (l0 : Nat) (xl1 : Int32) (l1 : Nat) (hl1 : xl1 = nI l1) (xl2 : Int32) (l2 : Nat) (hl2 : xl2 = nI l2) (l3 : Nat) (xl4 : Int32) (l4 : Nat) (hl4 : xl4 = nI l4) (xl5 : Int32) (l5 : Nat) (hl5 : xl5 = nI l5) (xl6 : Int32) (l6 : Nat) (hl6 : xl6 = nI l6) (ul7 : Value) (s0 : Nat) (xs1 : Int32) (s1 : Nat) (hs1 : xs1 = nI s1) (h : F25_50 k44 l0 l1 l2 l3 l4 l5 l6 s0 s1 T = some r) : mm_L 25 50 [.ref l0, .int xl1, .int xl2, .ref l3, .int xl4, .int xl5, .int xl6, ul7] [.ref s0, .int xs1] (toS z T) = some (tR z r) := by
  unfold F25_50 at h
  refine Eq.trans (e25_50 ..) ?_
  exact (fb_n (fun _ q => flz_ok q) h (fun v0 h2 => G25_53 k44 hk44 _ _ _ hl1 _ _ hl2 _ _ _ hl4 _ _ hl5 _ _ hl6 _ _ _ rfl _ _ hs1 h2))
noncomputable def F25_44 (k44 : Nat → Nat → Nat → Nat → Nat → Nat → Nat → fS → Option fR) (l0 : Nat) (l1 : Nat) (l2 : Nat) (l3 : Nat) (l4 : Nat) (l5 : Nat) (l6 : Nat) (T : fS) : Option fR := (fbv (fgr T l0 6 0) (fun v0 => F25_50 k44 l0 l1 l2 l3 l4 l5 l6 v0 l6 T) ((none : Option fR)))
theorem G25_44 {z : Option mm_O} {T : fS} {r : fR} (k44 : Nat → Nat → Nat → Nat → Nat → Nat → Nat → fS → Option fR) (hk44 : ∀ (l0 : Nat) (xl1 : Int32) (l1 : Nat) (hl1 : xl1 = nI l1) (xl2 : Int32) (l2 : Nat) (hl2 : xl2 = nI l2) (l3 : Nat) (xl4 : Int32) (l4 : Nat) (hl4 : xl4 = nI l4) (xl5 : Int32) (l5 : Nat) (hl5 : xl5 = nI l5) (xl6 : Int32) (l6 : Nat) (hl6 : xl6 = nI l6) (ul7 : Value) (T : fS) (r : fR), k44 l0 l1 l2 l3 l4 l5 l6 T = some r → mm_L 25 44 [.ref l0, .int xl1, .int xl2, .ref l3, .int xl4, .int xl5, .int xl6, ul7] [] (toS z T) = some (tR z r)) (l0 : Nat) (xl1 : Int32) (l1 : Nat) (hl1 : xl1 = nI l1) (xl2 : Int32) (l2 : Nat) (hl2 : xl2 = nI l2) (l3 : Nat) (xl4 : Int32) (l4 : Nat) (hl4 : xl4 = nI l4) (xl5 : Int32) (l5 : Nat) (hl5 : xl5 = nI l5) (xl6 : Int32) (l6 : Nat) (hl6 : xl6 = nI l6) (ul7 : Value) (h : F25_44 k44 l0 l1 l2 l3 l4 l5 l6 T = some r) : mm_L 25 44 [.ref l0, .int xl1, .int xl2, .ref l3, .int xl4, .int xl5, .int xl6, ul7] [] (toS z T) = some (tR z r) := by
  unfold F25_44 at h
  refine Eq.trans (e25_44 ..) ?_
  exact (fb_v (fun _ q => fgr_ok q) h (fun v0 h2 => G25_50 k44 hk44 _ _ _ hl1 _ _ hl2 _ _ _ hl4 _ _ hl5 _ _ hl6 _ _ _ _ hl6 h2) (fun h2 => fr_n h2))
noncomputable def H25_44  (n : Nat) : Nat → Nat → Nat → Nat → Nat → Nat → Nat → fS → Option fR := Nat.rec (motive := fun _ => Nat → Nat → Nat → Nat → Nat → Nat → Nat → fS → Option fR) (fun _ _ _ _ _ _ _ _ => none) (fun _ ih => F25_44 ih) n
theorem HG25_44 {z : Option mm_O}  : ∀ (n : Nat) (l0 : Nat) (xl1 : Int32) (l1 : Nat) (hl1 : xl1 = nI l1) (xl2 : Int32) (l2 : Nat) (hl2 : xl2 = nI l2) (l3 : Nat) (xl4 : Int32) (l4 : Nat) (hl4 : xl4 = nI l4) (xl5 : Int32) (l5 : Nat) (hl5 : xl5 = nI l5) (xl6 : Int32) (l6 : Nat) (hl6 : xl6 = nI l6) (ul7 : Value) {T : fS} {r : fR}, H25_44  n l0 l1 l2 l3 l4 l5 l6 T = some r → mm_L 25 44 [.ref l0, .int xl1, .int xl2, .ref l3, .int xl4, .int xl5, .int xl6, ul7] [] (toS z T) = some (tR z r) := by
  intro n
  induction n with
  | zero =>
    intro l0 xl1 l1 hl1 xl2 l2 hl2 l3 xl4 l4 hl4 xl5 l5 hl5 xl6 l6 hl6 ul7 T r h
    exact fr_n h
  | succ n ih =>
    intro l0 xl1 l1 hl1 xl2 l2 hl2 l3 xl4 l4 hl4 xl5 l5 hl5 xl6 l6 hl6 ul7 T r h
    exact G25_44 (H25_44  n) (fun l0 xl1 l1 hl1 xl2 l2 hl2 l3 xl4 l4 hl4 xl5 l5 hl5 xl6 l6 hl6 ul7 T r h => ih l0 xl1 l1 hl1 xl2 l2 hl2 l3 xl4 l4 hl4 xl5 l5 hl5 xl6 l6 hl6 ul7 h) l0 xl1 l1 hl1 xl2 l2 hl2 l3 xl4 l4 hl4 xl5 l5 hl5 xl6 l6 hl6 ul7 h
noncomputable def F25_34  (l0 : Nat) (l1 : Nat) (l2 : Nat) (s0 : Nat) (T : fS) : Option fR := (H25_44  300 l0 l1 l2 s0 4294967295 4294967295 0 T)
theorem G25_34 {z : Option mm_O} {T : fS} {r : fR}  (l0 : Nat) (xl1 : Int32) (l1 : Nat) (hl1 : xl1 = nI l1) (xl2 : Int32) (l2 : Nat) (hl2 : xl2 = nI l2) (ul3 : Value) (ul4 : Value) (ul5 : Value) (ul6 : Value) (ul7 : Value) (s0 : Nat) (h : F25_34  l0 l1 l2 s0 T = some r) : mm_L 25 34 [.ref l0, .int xl1, .int xl2, ul3, ul4, ul5, ul6, ul7] [.ref s0] (toS z T) = some (tR z r) := by
  unfold F25_34 at h
  refine Eq.trans (e25_34 ..) ?_
  exact (HG25_44  300 _ _ _ hl1 _ _ hl2 _ _ _ (by decide : (-1 : Int32) = nI 4294967295) _ _ (by decide : (-1 : Int32) = nI 4294967295) _ _ (rfl : (0 : Int32) = nI 0) _ h)
noncomputable def F25_31  (l0 : Nat) (l1 : Nat) (l2 : Nat) (s0 : Nat) (T : fS) : Option fR := (fif (fch T s0 1) (F25_34  l0 l1 l2 s0 T) none)
theorem G25_31 {z : Option mm_O} {T : fS} {r : fR}  (l0 : Nat) (xl1 : Int32) (l1 : Nat) (hl1 : xl1 = nI l1) (xl2 : Int32) (l2 : Nat) (hl2 : xl2 = nI l2) (ul3 : Value) (ul4 : Value) (ul5 : Value) (ul6 : Value) (ul7 : Value) (s0 : Nat) (h : F25_31  l0 l1 l2 s0 T = some r) : mm_L 25 31 [.ref l0, .int xl1, .int xl2, ul3, ul4, ul5, ul6, ul7] [.ref s0] (toS z T) = some (tR z r) := by
  unfold F25_31 at h
  refine Eq.trans (e25_31 ..) ?_
  exact (fb_c h (fun h2 => G25_34  _ _ _ hl1 _ _ hl2 _ _ _ _ _ _ h2))
noncomputable def F25_27  (l0 : Nat) (l1 : Nat) (l2 : Nat) (s0 : Nat) (T : fS) : Option fR := (fbn (flg T s0 l1) (fun v0 => F25_31  l0 l1 l2 v0 T))
theorem G25_27 {z : Option mm_O} {T : fS} {r : fR}  (l0 : Nat) (xl1 : Int32) (l1 : Nat) (hl1 : xl1 = nI l1) (xl2 : Int32) (l2 : Nat) (hl2 : xl2 = nI l2) (ul3 : Value) (ul4 : Value) (ul5 : Value) (ul6 : Value) (ul7 : Value) (s0 : Nat) (h : F25_27  l0 l1 l2 s0 T = some r) : mm_L 25 27 [.ref l0, .int xl1, .int xl2, ul3, ul4, ul5, ul6, ul7] [.ref s0] (toS z T) = some (tR z r) := by
  unfold F25_27 at h
  refine Eq.trans (e25_27 ..) ?_
  exact (fb_g (fun _ q => by rw [hl1]; exact flg_ok q) h (fun v0 h2 => G25_31  _ _ _ hl1 _ _ hl2 _ _ _ _ _ _ h2))
noncomputable def F25_23  (l0 : Nat) (l1 : Nat) (l2 : Nat) (T : fS) : Option fR := (fbv (fgr T l0 6 0) (fun v0 => F25_27  l0 l1 l2 v0 T) ((none : Option fR)))
theorem G25_23 {z : Option mm_O} {T : fS} {r : fR}  (l0 : Nat) (xl1 : Int32) (l1 : Nat) (hl1 : xl1 = nI l1) (xl2 : Int32) (l2 : Nat) (hl2 : xl2 = nI l2) (ul3 : Value) (ul4 : Value) (ul5 : Value) (ul6 : Value) (ul7 : Value) (h : F25_23  l0 l1 l2 T = some r) : mm_L 25 23 [.ref l0, .int xl1, .int xl2, ul3, ul4, ul5, ul6, ul7] [] (toS z T) = some (tR z r) := by
  unfold F25_23 at h
  refine Eq.trans (e25_23 ..) ?_
  exact (fb_v (fun _ q => fgr_ok q) h (fun v0 h2 => G25_27  _ _ _ hl1 _ _ hl2 _ _ _ _ _ _ h2) (fun h2 => fr_n h2))
noncomputable def F25_10  (l0 : Nat) (l1 : Nat) (l2 : Nat) (s0 : Nat) (T : fS) : Option fR := (fif (ieq s0 0) (F25_13  l0 l1 l2 T) (F25_23  l0 l1 l2 T))
theorem G25_10 {z : Option mm_O} {T : fS} {r : fR}  (l0 : Nat) (xl1 : Int32) (l1 : Nat) (hl1 : xl1 = nI l1) (xl2 : Int32) (l2 : Nat) (hl2 : xl2 = nI l2) (ul3 : Value) (ul4 : Value) (ul5 : Value) (ul6 : Value) (ul7 : Value) (xs0 : Int32) (s0 : Nat) (hs0 : xs0 = nI s0) (h : F25_10  l0 l1 l2 s0 T = some r) : mm_L 25 10 [.ref l0, .int xl1, .int xl2, ul3, ul4, ul5, ul6, ul7] [.int xs0] (toS z T) = some (tR z r) := by
  unfold F25_10 at h
  refine Eq.trans (e25_10 ..) ?_
  exact (fb_if (cj_eq hs0 (rfl : (0 : Int32) = nI 0)) h (fun h1 => (G25_13  _ _ _ hl1 _ _ hl2 _ _ _ _ _ h1)) (fun h1 => (G25_23  _ _ _ hl1 _ _ hl2 _ _ _ _ _ h1)))
noncomputable def F25_5  (l0 : Nat) (l1 : Nat) (l2 : Nat) (T : fS) : Option fR := (fKi false (F101_0 l2 2 T) (fun v0 T1 => F25_10  l0 l1 l2 v0 T1))
theorem G25_5 {z : Option mm_O} {T : fS} {r : fR}  (l0 : Nat) (xl1 : Int32) (l1 : Nat) (hl1 : xl1 = nI l1) (xl2 : Int32) (l2 : Nat) (hl2 : xl2 = nI l2) (ul3 : Value) (ul4 : Value) (ul5 : Value) (ul6 : Value) (ul7 : Value) (h : F25_5  l0 l1 l2 T = some r) : mm_L 25 5 [.ref l0, .int xl1, .int xl2, ul3, ul4, ul5, ul6, ul7] [] (toS z T) = some (tR z r) := by
  unfold F25_5 at h
  refine Eq.trans (e25_5 ..) ?_
  exact (fb_K2i (fun _ q => GM101 _ _ hl2 _ _ (rfl : (2 : Int32) = nI 2) q) h (fun v0 T1 h2 => G25_10  _ _ _ hl1 _ _ hl2 _ _ _ _ _ _ _ rfl h2))
noncomputable def F25_0  (l0 : Nat) (l1 : Nat) (l2 : Nat) (T : fS) : Option fR := (fKv true (fif (fch T l0 6) (F34_0 l0 l1 T) none) (fun T1 => F25_5  l0 l1 l2 T1))
theorem G25_0 {z : Option mm_O} {T : fS} {r : fR}  (l0 : Nat) (xl1 : Int32) (l1 : Nat) (hl1 : xl1 = nI l1) (xl2 : Int32) (l2 : Nat) (hl2 : xl2 = nI l2) (ul3 : Value) (ul4 : Value) (ul5 : Value) (ul6 : Value) (ul7 : Value) (h : F25_0  l0 l1 l2 T = some r) : mm_L 25 0 [.ref l0, .int xl1, .int xl2, ul3, ul4, ul5, ul6, ul7] [] (toS z T) = some (tR z r) := by
  unfold F25_0 at h
  refine Eq.trans (e25_0 ..) ?_
  exact (fb_K0v (fun _ q => fb_mo (y := 34) ow_34 q (fun q => GM34 _ _ _ hl1 q)) h (fun T1 h2 => G25_5  _ _ _ hl1 _ _ hl2 _ _ _ _ _ h2))
theorem GM25 {z : Option mm_O} {T : fS} {r : fR} (l0 : Nat) (xl1 : Int32) (l1 : Nat) (hl1 : xl1 = nI l1) (xl2 : Int32) (l2 : Nat) (hl2 : xl2 = nI l2) (h : F25_0 l0 l1 l2 T = some r) : mm_M 25 [.ref l0, .int xl1, .int xl2] (toS z T) = some (tR z r) := Eq.trans (M_25 ..) (G25_0 l0 xl1 l1 hl1 xl2 l2 hl2 _ _ _ _ _ h)
-- 26: HandArchive.written
noncomputable def F26_24  (l0 : Nat) (l1 : Nat) (l2 : Nat) (s0 : Nat) (T : fS) : Option fR := (some ((.inl (some (.inl s0)), T) : fR))
theorem G26_24 {z : Option mm_O} {T : fS} {r : fR}  (l0 : Nat) (xl1 : Int32) (l1 : Nat) (hl1 : xl1 = nI l1) (xl2 : Int32) (l2 : Nat) (hl2 : xl2 = nI l2) (xs0 : Int32) (s0 : Nat) (hs0 : xs0 = nI s0) (h : F26_24  l0 l1 l2 s0 T = some r) : mm_L 26 24 [.ref l0, .int xl1, .int xl2] [.int xs0] (toS z T) = some (tR z r) := by
  unfold F26_24 at h
  refine Eq.trans (e26_24 ..) ?_
  exact (fr_i hs0 h)
noncomputable def F26_21  (l0 : Nat) (l1 : Nat) (l2 : Nat) (s0 : Nat) (s1 : Nat) (T : fS) : Option fR := (fKi true (F29_0 s1 s0 T) (fun v0 T1 => F26_24  l0 l1 l2 v0 T1))
theorem G26_21 {z : Option mm_O} {T : fS} {r : fR}  (l0 : Nat) (xl1 : Int32) (l1 : Nat) (hl1 : xl1 = nI l1) (xl2 : Int32) (l2 : Nat) (hl2 : xl2 = nI l2) (s0 : Nat) (xs1 : Int32) (s1 : Nat) (hs1 : xs1 = nI s1) (h : F26_21  l0 l1 l2 s0 s1 T = some r) : mm_L 26 21 [.ref l0, .int xl1, .int xl2] [.ref s0, .int xs1] (toS z T) = some (tR z r) := by
  unfold F26_21 at h
  refine Eq.trans (e26_21 ..) ?_
  exact (fb_K0i (fun _ q => GM29 _ _ hs1 _ q) h (fun v0 T1 h2 => G26_24  _ _ _ hl1 _ _ hl2 _ _ rfl h2))
noncomputable def F26_18  (l0 : Nat) (l1 : Nat) (l2 : Nat) (s0 : Nat) (s1 : Nat) (T : fS) : Option fR := (fif (fch T s0 1) (F26_21  l0 l1 l2 s0 s1 T) none)
theorem G26_18 {z : Option mm_O} {T : fS} {r : fR}  (l0 : Nat) (xl1 : Int32) (l1 : Nat) (hl1 : xl1 = nI l1) (xl2 : Int32) (l2 : Nat) (hl2 : xl2 = nI l2) (s0 : Nat) (xs1 : Int32) (s1 : Nat) (hs1 : xs1 = nI s1) (h : F26_18  l0 l1 l2 s0 s1 T = some r) : mm_L 26 18 [.ref l0, .int xl1, .int xl2] [.ref s0, .int xs1] (toS z T) = some (tR z r) := by
  unfold F26_18 at h
  refine Eq.trans (e26_18 ..) ?_
  exact (fb_c h (fun h2 => G26_21  _ _ _ hl1 _ _ hl2 _ _ _ hs1 h2))
noncomputable def F26_14  (l0 : Nat) (l1 : Nat) (l2 : Nat) (s0 : Nat) (s1 : Nat) (T : fS) : Option fR := (fbn (flg T s0 l1) (fun v0 => F26_18  l0 l1 l2 v0 s1 T))
theorem G26_14 {z : Option mm_O} {T : fS} {r : fR}  (l0 : Nat) (xl1 : Int32) (l1 : Nat) (hl1 : xl1 = nI l1) (xl2 : Int32) (l2 : Nat) (hl2 : xl2 = nI l2) (s0 : Nat) (xs1 : Int32) (s1 : Nat) (hs1 : xs1 = nI s1) (h : F26_14  l0 l1 l2 s0 s1 T = some r) : mm_L 26 14 [.ref l0, .int xl1, .int xl2] [.ref s0, .int xs1] (toS z T) = some (tR z r) := by
  unfold F26_14 at h
  refine Eq.trans (e26_14 ..) ?_
  exact (fb_g (fun _ q => by rw [hl1]; exact flg_ok q) h (fun v0 h2 => G26_18  _ _ _ hl1 _ _ hl2 _ _ _ hs1 h2))
noncomputable def F26_9  (l0 : Nat) (l1 : Nat) (l2 : Nat) (T : fS) : Option fR := (fbv (fgr T l0 6 0) (fun v0 => F26_14  l0 l1 l2 v0 l2 T) ((none : Option fR)))
theorem G26_9 {z : Option mm_O} {T : fS} {r : fR}  (l0 : Nat) (xl1 : Int32) (l1 : Nat) (hl1 : xl1 = nI l1) (xl2 : Int32) (l2 : Nat) (hl2 : xl2 = nI l2) (h : F26_9  l0 l1 l2 T = some r) : mm_L 26 9 [.ref l0, .int xl1, .int xl2] [] (toS z T) = some (tR z r) := by
  unfold F26_9 at h
  refine Eq.trans (e26_9 ..) ?_
  exact (fb_v (fun _ q => fgr_ok q) h (fun v0 h2 => G26_14  _ _ _ hl1 _ _ hl2 _ _ _ hl2 h2) (fun h2 => fr_n h2))
noncomputable def F26_5  (l0 : Nat) (l1 : Nat) (l2 : Nat) (T : fS) : Option fR := (fKv true (F35_0 l2 T) (fun T1 => F26_9  l0 l1 l2 T1))
theorem G26_5 {z : Option mm_O} {T : fS} {r : fR}  (l0 : Nat) (xl1 : Int32) (l1 : Nat) (hl1 : xl1 = nI l1) (xl2 : Int32) (l2 : Nat) (hl2 : xl2 = nI l2) (h : F26_5  l0 l1 l2 T = some r) : mm_L 26 5 [.ref l0, .int xl1, .int xl2] [] (toS z T) = some (tR z r) := by
  unfold F26_5 at h
  refine Eq.trans (e26_5 ..) ?_
  exact (fb_K0v (fun _ q => GM35 _ _ hl2 q) h (fun T1 h2 => G26_9  _ _ _ hl1 _ _ hl2 h2))
noncomputable def F26_0  (l0 : Nat) (l1 : Nat) (l2 : Nat) (T : fS) : Option fR := (fKv true (fif (fch T l0 6) (F34_0 l0 l1 T) none) (fun T1 => F26_5  l0 l1 l2 T1))
theorem G26_0 {z : Option mm_O} {T : fS} {r : fR}  (l0 : Nat) (xl1 : Int32) (l1 : Nat) (hl1 : xl1 = nI l1) (xl2 : Int32) (l2 : Nat) (hl2 : xl2 = nI l2) (h : F26_0  l0 l1 l2 T = some r) : mm_L 26 0 [.ref l0, .int xl1, .int xl2] [] (toS z T) = some (tR z r) := by
  unfold F26_0 at h
  refine Eq.trans (e26_0 ..) ?_
  exact (fb_K0v (fun _ q => fb_mo (y := 34) ow_34 q (fun q => GM34 _ _ _ hl1 q)) h (fun T1 h2 => G26_5  _ _ _ hl1 _ _ hl2 h2))
theorem GM26 {z : Option mm_O} {T : fS} {r : fR} (l0 : Nat) (xl1 : Int32) (l1 : Nat) (hl1 : xl1 = nI l1) (xl2 : Int32) (l2 : Nat) (hl2 : xl2 = nI l2) (h : F26_0 l0 l1 l2 T = some r) : mm_M 26 [.ref l0, .int xl1, .int xl2] (toS z T) = some (tR z r) := Eq.trans (M_26 ..) (G26_0 l0 xl1 l1 hl1 xl2 l2 hl2 h)
-- 27: HandArchive.loses
noncomputable def F27_70 (k13 : Nat → Nat → Nat → Nat → Nat → fS → Option fR) (k31 : Nat → Nat → Nat → Nat → Nat → Nat → fS → Option fR) (l0 : Nat) (l1 : Nat) (l2 : Nat) (l3 : Nat) (l4 : Nat) (l5 : Nat) (T : fS) : Option fR := (k31 l0 l1 l2 l3 l4 (iA l5 1) T)
theorem G27_70 {z : Option mm_O} {T : fS} {r : fR} (k13 : Nat → Nat → Nat → Nat → Nat → fS → Option fR) (hk13 : ∀ (l0 : Nat) (xl1 : Int32) (l1 : Nat) (hl1 : xl1 = nI l1) (xl2 : Int32) (l2 : Nat) (hl2 : xl2 = nI l2) (xl3 : Int32) (l3 : Nat) (hl3 : xl3 = nI l3) (xl4 : Int32) (l4 : Nat) (hl4 : xl4 = nI l4) (ul5 : Value) (T : fS) (r : fR), k13 l0 l1 l2 l3 l4 T = some r → mm_L 27 13 [.ref l0, .int xl1, .int xl2, .int xl3, .int xl4, ul5] [] (toS z T) = some (tR z r)) (k31 : Nat → Nat → Nat → Nat → Nat → Nat → fS → Option fR) (hk31 : ∀ (l0 : Nat) (xl1 : Int32) (l1 : Nat) (hl1 : xl1 = nI l1) (xl2 : Int32) (l2 : Nat) (hl2 : xl2 = nI l2) (xl3 : Int32) (l3 : Nat) (hl3 : xl3 = nI l3) (xl4 : Int32) (l4 : Nat) (hl4 : xl4 = nI l4) (xl5 : Int32) (l5 : Nat) (hl5 : xl5 = nI l5) (T : fS) (r : fR), k31 l0 l1 l2 l3 l4 l5 T = some r → mm_L 27 31 [.ref l0, .int xl1, .int xl2, .int xl3, .int xl4, .int xl5] [] (toS z T) = some (tR z r)) (l0 : Nat) (xl1 : Int32) (l1 : Nat) (hl1 : xl1 = nI l1) (xl2 : Int32) (l2 : Nat) (hl2 : xl2 = nI l2) (xl3 : Int32) (l3 : Nat) (hl3 : xl3 = nI l3) (xl4 : Int32) (l4 : Nat) (hl4 : xl4 = nI l4) (xl5 : Int32) (l5 : Nat) (hl5 : xl5 = nI l5) (h : F27_70 k13 k31 l0 l1 l2 l3 l4 l5 T = some r) : mm_L 27 70 [.ref l0, .int xl1, .int xl2, .int xl3, .int xl4, .int xl5] [] (toS z T) = some (tR z r) := by
  unfold F27_70 at h
  refine Eq.trans (e27_70 ..) ?_
  exact (hk31 _ _ _ hl1 _ _ hl2 _ _ hl3 _ _ hl4 _ _ (iA_ok hl5 (rfl : (1 : Int32) = nI 1)) _ _ h)
noncomputable def F27_67 (k13 : Nat → Nat → Nat → Nat → Nat → fS → Option fR) (k31 : Nat → Nat → Nat → Nat → Nat → Nat → fS → Option fR) (l0 : Nat) (l1 : Nat) (l2 : Nat) (l3 : Nat) (l4 : Nat) (l5 : Nat) (T : fS) : Option fR := (F27_70 k13 k31 l0 l1 l2 (iA l3 1) l4 l5 T)
theorem G27_67 {z : Option mm_O} {T : fS} {r : fR} (k13 : Nat → Nat → Nat → Nat → Nat → fS → Option fR) (hk13 : ∀ (l0 : Nat) (xl1 : Int32) (l1 : Nat) (hl1 : xl1 = nI l1) (xl2 : Int32) (l2 : Nat) (hl2 : xl2 = nI l2) (xl3 : Int32) (l3 : Nat) (hl3 : xl3 = nI l3) (xl4 : Int32) (l4 : Nat) (hl4 : xl4 = nI l4) (ul5 : Value) (T : fS) (r : fR), k13 l0 l1 l2 l3 l4 T = some r → mm_L 27 13 [.ref l0, .int xl1, .int xl2, .int xl3, .int xl4, ul5] [] (toS z T) = some (tR z r)) (k31 : Nat → Nat → Nat → Nat → Nat → Nat → fS → Option fR) (hk31 : ∀ (l0 : Nat) (xl1 : Int32) (l1 : Nat) (hl1 : xl1 = nI l1) (xl2 : Int32) (l2 : Nat) (hl2 : xl2 = nI l2) (xl3 : Int32) (l3 : Nat) (hl3 : xl3 = nI l3) (xl4 : Int32) (l4 : Nat) (hl4 : xl4 = nI l4) (xl5 : Int32) (l5 : Nat) (hl5 : xl5 = nI l5) (T : fS) (r : fR), k31 l0 l1 l2 l3 l4 l5 T = some r → mm_L 27 31 [.ref l0, .int xl1, .int xl2, .int xl3, .int xl4, .int xl5] [] (toS z T) = some (tR z r)) (l0 : Nat) (xl1 : Int32) (l1 : Nat) (hl1 : xl1 = nI l1) (xl2 : Int32) (l2 : Nat) (hl2 : xl2 = nI l2) (xl3 : Int32) (l3 : Nat) (hl3 : xl3 = nI l3) (xl4 : Int32) (l4 : Nat) (hl4 : xl4 = nI l4) (xl5 : Int32) (l5 : Nat) (hl5 : xl5 = nI l5) (h : F27_67 k13 k31 l0 l1 l2 l3 l4 l5 T = some r) : mm_L 27 67 [.ref l0, .int xl1, .int xl2, .int xl3, .int xl4, .int xl5] [] (toS z T) = some (tR z r) := by
  unfold F27_67 at h
  refine Eq.trans (e27_67 ..) ?_
  exact (G27_70 k13 hk13 k31 hk31 _ _ _ hl1 _ _ hl2 _ _ (iA_ok hl3 (rfl : (1 : Int32) = nI 1)) _ _ hl4 _ _ hl5 h)
noncomputable def F27_64 (k13 : Nat → Nat → Nat → Nat → Nat → fS → Option fR) (k31 : Nat → Nat → Nat → Nat → Nat → Nat → fS → Option fR) (l0 : Nat) (l1 : Nat) (l2 : Nat) (l3 : Nat) (l4 : Nat) (l5 : Nat) (s0 : Nat) (T : fS) : Option fR := (fif (ieq s0 0) (F27_67 k13 k31 l0 l1 l2 l3 l4 l5 T) (F27_70 k13 k31 l0 l1 l2 l3 l4 l5 T))
theorem G27_64 {z : Option mm_O} {T : fS} {r : fR} (k13 : Nat → Nat → Nat → Nat → Nat → fS → Option fR) (hk13 : ∀ (l0 : Nat) (xl1 : Int32) (l1 : Nat) (hl1 : xl1 = nI l1) (xl2 : Int32) (l2 : Nat) (hl2 : xl2 = nI l2) (xl3 : Int32) (l3 : Nat) (hl3 : xl3 = nI l3) (xl4 : Int32) (l4 : Nat) (hl4 : xl4 = nI l4) (ul5 : Value) (T : fS) (r : fR), k13 l0 l1 l2 l3 l4 T = some r → mm_L 27 13 [.ref l0, .int xl1, .int xl2, .int xl3, .int xl4, ul5] [] (toS z T) = some (tR z r)) (k31 : Nat → Nat → Nat → Nat → Nat → Nat → fS → Option fR) (hk31 : ∀ (l0 : Nat) (xl1 : Int32) (l1 : Nat) (hl1 : xl1 = nI l1) (xl2 : Int32) (l2 : Nat) (hl2 : xl2 = nI l2) (xl3 : Int32) (l3 : Nat) (hl3 : xl3 = nI l3) (xl4 : Int32) (l4 : Nat) (hl4 : xl4 = nI l4) (xl5 : Int32) (l5 : Nat) (hl5 : xl5 = nI l5) (T : fS) (r : fR), k31 l0 l1 l2 l3 l4 l5 T = some r → mm_L 27 31 [.ref l0, .int xl1, .int xl2, .int xl3, .int xl4, .int xl5] [] (toS z T) = some (tR z r)) (l0 : Nat) (xl1 : Int32) (l1 : Nat) (hl1 : xl1 = nI l1) (xl2 : Int32) (l2 : Nat) (hl2 : xl2 = nI l2) (xl3 : Int32) (l3 : Nat) (hl3 : xl3 = nI l3) (xl4 : Int32) (l4 : Nat) (hl4 : xl4 = nI l4) (xl5 : Int32) (l5 : Nat) (hl5 : xl5 = nI l5) (xs0 : Int32) (s0 : Nat) (hs0 : xs0 = nI s0) (h : F27_64 k13 k31 l0 l1 l2 l3 l4 l5 s0 T = some r) : mm_L 27 64 [.ref l0, .int xl1, .int xl2, .int xl3, .int xl4, .int xl5] [.int xs0] (toS z T) = some (tR z r) := by
  unfold F27_64 at h
  refine Eq.trans (e27_64 ..) ?_
  exact (fb_if (cj_eq hs0 (rfl : (0 : Int32) = nI 0)) h (fun h1 => (G27_67 k13 hk13 k31 hk31 _ _ _ hl1 _ _ hl2 _ _ hl3 _ _ hl4 _ _ hl5 h1)) (fun h1 => (G27_70 k13 hk13 k31 hk31 _ _ _ hl1 _ _ hl2 _ _ hl3 _ _ hl4 _ _ hl5 h1)))
noncomputable def F27_55 (k13 : Nat → Nat → Nat → Nat → Nat → fS → Option fR) (k31 : Nat → Nat → Nat → Nat → Nat → Nat → fS → Option fR) (l0 : Nat) (l1 : Nat) (l2 : Nat) (l3 : Nat) (l4 : Nat) (l5 : Nat) (T : fS) : Option fR := (fKi true (fif (fch T l0 6) (F28_0 l0 l2 l4 l5 T) none) (fun v0 T1 => F27_64 k13 k31 l0 l1 l2 l3 l4 l5 v0 T1))
theorem G27_55 {z : Option mm_O} {T : fS} {r : fR} (k13 : Nat → Nat → Nat → Nat → Nat → fS → Option fR) (hk13 : ∀ (l0 : Nat) (xl1 : Int32) (l1 : Nat) (hl1 : xl1 = nI l1) (xl2 : Int32) (l2 : Nat) (hl2 : xl2 = nI l2) (xl3 : Int32) (l3 : Nat) (hl3 : xl3 = nI l3) (xl4 : Int32) (l4 : Nat) (hl4 : xl4 = nI l4) (ul5 : Value) (T : fS) (r : fR), k13 l0 l1 l2 l3 l4 T = some r → mm_L 27 13 [.ref l0, .int xl1, .int xl2, .int xl3, .int xl4, ul5] [] (toS z T) = some (tR z r)) (k31 : Nat → Nat → Nat → Nat → Nat → Nat → fS → Option fR) (hk31 : ∀ (l0 : Nat) (xl1 : Int32) (l1 : Nat) (hl1 : xl1 = nI l1) (xl2 : Int32) (l2 : Nat) (hl2 : xl2 = nI l2) (xl3 : Int32) (l3 : Nat) (hl3 : xl3 = nI l3) (xl4 : Int32) (l4 : Nat) (hl4 : xl4 = nI l4) (xl5 : Int32) (l5 : Nat) (hl5 : xl5 = nI l5) (T : fS) (r : fR), k31 l0 l1 l2 l3 l4 l5 T = some r → mm_L 27 31 [.ref l0, .int xl1, .int xl2, .int xl3, .int xl4, .int xl5] [] (toS z T) = some (tR z r)) (l0 : Nat) (xl1 : Int32) (l1 : Nat) (hl1 : xl1 = nI l1) (xl2 : Int32) (l2 : Nat) (hl2 : xl2 = nI l2) (xl3 : Int32) (l3 : Nat) (hl3 : xl3 = nI l3) (xl4 : Int32) (l4 : Nat) (hl4 : xl4 = nI l4) (xl5 : Int32) (l5 : Nat) (hl5 : xl5 = nI l5) (h : F27_55 k13 k31 l0 l1 l2 l3 l4 l5 T = some r) : mm_L 27 55 [.ref l0, .int xl1, .int xl2, .int xl3, .int xl4, .int xl5] [] (toS z T) = some (tR z r) := by
  unfold F27_55 at h
  refine Eq.trans (e27_55 ..) ?_
  exact (fb_K0i (fun _ q => fb_mo (y := 28) ow_28 q (fun q => GM28 _ _ _ hl2 _ _ hl4 _ _ hl5 q)) h (fun v0 T1 h2 => G27_64 k13 hk13 k31 hk31 _ _ _ hl1 _ _ hl2 _ _ hl3 _ _ hl4 _ _ hl5 _ _ rfl h2))
noncomputable def F27_52 (k13 : Nat → Nat → Nat → Nat → Nat → fS → Option fR) (k31 : Nat → Nat → Nat → Nat → Nat → Nat → fS → Option fR) (l0 : Nat) (l1 : Nat) (l2 : Nat) (l3 : Nat) (l4 : Nat) (l5 : Nat) (s0 : Nat) (T : fS) : Option fR := (fif (ieq s0 0) (F27_70 k13 k31 l0 l1 l2 l3 l4 l5 T) (F27_55 k13 k31 l0 l1 l2 l3 l4 l5 T))
theorem G27_52 {z : Option mm_O} {T : fS} {r : fR} (k13 : Nat → Nat → Nat → Nat → Nat → fS → Option fR) (hk13 : ∀ (l0 : Nat) (xl1 : Int32) (l1 : Nat) (hl1 : xl1 = nI l1) (xl2 : Int32) (l2 : Nat) (hl2 : xl2 = nI l2) (xl3 : Int32) (l3 : Nat) (hl3 : xl3 = nI l3) (xl4 : Int32) (l4 : Nat) (hl4 : xl4 = nI l4) (ul5 : Value) (T : fS) (r : fR), k13 l0 l1 l2 l3 l4 T = some r → mm_L 27 13 [.ref l0, .int xl1, .int xl2, .int xl3, .int xl4, ul5] [] (toS z T) = some (tR z r)) (k31 : Nat → Nat → Nat → Nat → Nat → Nat → fS → Option fR) (hk31 : ∀ (l0 : Nat) (xl1 : Int32) (l1 : Nat) (hl1 : xl1 = nI l1) (xl2 : Int32) (l2 : Nat) (hl2 : xl2 = nI l2) (xl3 : Int32) (l3 : Nat) (hl3 : xl3 = nI l3) (xl4 : Int32) (l4 : Nat) (hl4 : xl4 = nI l4) (xl5 : Int32) (l5 : Nat) (hl5 : xl5 = nI l5) (T : fS) (r : fR), k31 l0 l1 l2 l3 l4 l5 T = some r → mm_L 27 31 [.ref l0, .int xl1, .int xl2, .int xl3, .int xl4, .int xl5] [] (toS z T) = some (tR z r)) (l0 : Nat) (xl1 : Int32) (l1 : Nat) (hl1 : xl1 = nI l1) (xl2 : Int32) (l2 : Nat) (hl2 : xl2 = nI l2) (xl3 : Int32) (l3 : Nat) (hl3 : xl3 = nI l3) (xl4 : Int32) (l4 : Nat) (hl4 : xl4 = nI l4) (xl5 : Int32) (l5 : Nat) (hl5 : xl5 = nI l5) (xs0 : Int32) (s0 : Nat) (hs0 : xs0 = nI s0) (h : F27_52 k13 k31 l0 l1 l2 l3 l4 l5 s0 T = some r) : mm_L 27 52 [.ref l0, .int xl1, .int xl2, .int xl3, .int xl4, .int xl5] [.int xs0] (toS z T) = some (tR z r) := by
  unfold F27_52 at h
  refine Eq.trans (e27_52 ..) ?_
  exact (fb_if (cj_eq hs0 (rfl : (0 : Int32) = nI 0)) h (fun h1 => (G27_70 k13 hk13 k31 hk31 _ _ _ hl1 _ _ hl2 _ _ hl3 _ _ hl4 _ _ hl5 h1)) (fun h1 => (G27_55 k13 hk13 k31 hk31 _ _ _ hl1 _ _ hl2 _ _ hl3 _ _ hl4 _ _ hl5 h1)))
noncomputable def F27_43 (k13 : Nat → Nat → Nat → Nat → Nat → fS → Option fR) (k31 : Nat → Nat → Nat → Nat → Nat → Nat → fS → Option fR) (l0 : Nat) (l1 : Nat) (l2 : Nat) (l3 : Nat) (l4 : Nat) (l5 : Nat) (T : fS) : Option fR := (fKi true (fif (fch T l0 6) (F28_0 l0 l1 l4 l5 T) none) (fun v0 T1 => F27_52 k13 k31 l0 l1 l2 l3 l4 l5 v0 T1))
theorem G27_43 {z : Option mm_O} {T : fS} {r : fR} (k13 : Nat → Nat → Nat → Nat → Nat → fS → Option fR) (hk13 : ∀ (l0 : Nat) (xl1 : Int32) (l1 : Nat) (hl1 : xl1 = nI l1) (xl2 : Int32) (l2 : Nat) (hl2 : xl2 = nI l2) (xl3 : Int32) (l3 : Nat) (hl3 : xl3 = nI l3) (xl4 : Int32) (l4 : Nat) (hl4 : xl4 = nI l4) (ul5 : Value) (T : fS) (r : fR), k13 l0 l1 l2 l3 l4 T = some r → mm_L 27 13 [.ref l0, .int xl1, .int xl2, .int xl3, .int xl4, ul5] [] (toS z T) = some (tR z r)) (k31 : Nat → Nat → Nat → Nat → Nat → Nat → fS → Option fR) (hk31 : ∀ (l0 : Nat) (xl1 : Int32) (l1 : Nat) (hl1 : xl1 = nI l1) (xl2 : Int32) (l2 : Nat) (hl2 : xl2 = nI l2) (xl3 : Int32) (l3 : Nat) (hl3 : xl3 = nI l3) (xl4 : Int32) (l4 : Nat) (hl4 : xl4 = nI l4) (xl5 : Int32) (l5 : Nat) (hl5 : xl5 = nI l5) (T : fS) (r : fR), k31 l0 l1 l2 l3 l4 l5 T = some r → mm_L 27 31 [.ref l0, .int xl1, .int xl2, .int xl3, .int xl4, .int xl5] [] (toS z T) = some (tR z r)) (l0 : Nat) (xl1 : Int32) (l1 : Nat) (hl1 : xl1 = nI l1) (xl2 : Int32) (l2 : Nat) (hl2 : xl2 = nI l2) (xl3 : Int32) (l3 : Nat) (hl3 : xl3 = nI l3) (xl4 : Int32) (l4 : Nat) (hl4 : xl4 = nI l4) (xl5 : Int32) (l5 : Nat) (hl5 : xl5 = nI l5) (h : F27_43 k13 k31 l0 l1 l2 l3 l4 l5 T = some r) : mm_L 27 43 [.ref l0, .int xl1, .int xl2, .int xl3, .int xl4, .int xl5] [] (toS z T) = some (tR z r) := by
  unfold F27_43 at h
  refine Eq.trans (e27_43 ..) ?_
  exact (fb_K0i (fun _ q => fb_mo (y := 28) ow_28 q (fun q => GM28 _ _ _ hl1 _ _ hl4 _ _ hl5 q)) h (fun v0 T1 h2 => G27_52 k13 hk13 k31 hk31 _ _ _ hl1 _ _ hl2 _ _ hl3 _ _ hl4 _ _ hl5 _ _ rfl h2))
noncomputable def F27_76 (k13 : Nat → Nat → Nat → Nat → Nat → fS → Option fR) (l0 : Nat) (l1 : Nat) (l2 : Nat) (l3 : Nat) (l4 : Nat) (l5 : Nat) (T : fS) : Option fR := (k13 l0 l1 l2 l3 (iA l4 1) T)
theorem G27_76 {z : Option mm_O} {T : fS} {r : fR} (k13 : Nat → Nat → Nat → Nat → Nat → fS → Option fR) (hk13 : ∀ (l0 : Nat) (xl1 : Int32) (l1 : Nat) (hl1 : xl1 = nI l1) (xl2 : Int32) (l2 : Nat) (hl2 : xl2 = nI l2) (xl3 : Int32) (l3 : Nat) (hl3 : xl3 = nI l3) (xl4 : Int32) (l4 : Nat) (hl4 : xl4 = nI l4) (ul5 : Value) (T : fS) (r : fR), k13 l0 l1 l2 l3 l4 T = some r → mm_L 27 13 [.ref l0, .int xl1, .int xl2, .int xl3, .int xl4, ul5] [] (toS z T) = some (tR z r)) (l0 : Nat) (xl1 : Int32) (l1 : Nat) (hl1 : xl1 = nI l1) (xl2 : Int32) (l2 : Nat) (hl2 : xl2 = nI l2) (xl3 : Int32) (l3 : Nat) (hl3 : xl3 = nI l3) (xl4 : Int32) (l4 : Nat) (hl4 : xl4 = nI l4) (xl5 : Int32) (l5 : Nat) (hl5 : xl5 = nI l5) (h : F27_76 k13 l0 l1 l2 l3 l4 l5 T = some r) : mm_L 27 76 [.ref l0, .int xl1, .int xl2, .int xl3, .int xl4, .int xl5] [] (toS z T) = some (tR z r) := by
  unfold F27_76 at h
  refine Eq.trans (e27_76 ..) ?_
  exact (hk13 _ _ _ hl1 _ _ hl2 _ _ hl3 _ _ (iA_ok hl4 (rfl : (1 : Int32) = nI 1)) _ _ _ h)
noncomputable def F27_40 (k13 : Nat → Nat → Nat → Nat → Nat → fS → Option fR) (k31 : Nat → Nat → Nat → Nat → Nat → Nat → fS → Option fR) (l0 : Nat) (l1 : Nat) (l2 : Nat) (l3 : Nat) (l4 : Nat) (l5 : Nat) (s0 : Nat) (s1 : Nat) (T : fS) : Option fR := (fif (ile s0 s1) (F27_76 k13 l0 l1 l2 l3 l4 l5 T) (F27_43 k13 k31 l0 l1 l2 l3 l4 l5 T))
theorem G27_40 {z : Option mm_O} {T : fS} {r : fR} (k13 : Nat → Nat → Nat → Nat → Nat → fS → Option fR) (hk13 : ∀ (l0 : Nat) (xl1 : Int32) (l1 : Nat) (hl1 : xl1 = nI l1) (xl2 : Int32) (l2 : Nat) (hl2 : xl2 = nI l2) (xl3 : Int32) (l3 : Nat) (hl3 : xl3 = nI l3) (xl4 : Int32) (l4 : Nat) (hl4 : xl4 = nI l4) (ul5 : Value) (T : fS) (r : fR), k13 l0 l1 l2 l3 l4 T = some r → mm_L 27 13 [.ref l0, .int xl1, .int xl2, .int xl3, .int xl4, ul5] [] (toS z T) = some (tR z r)) (k31 : Nat → Nat → Nat → Nat → Nat → Nat → fS → Option fR) (hk31 : ∀ (l0 : Nat) (xl1 : Int32) (l1 : Nat) (hl1 : xl1 = nI l1) (xl2 : Int32) (l2 : Nat) (hl2 : xl2 = nI l2) (xl3 : Int32) (l3 : Nat) (hl3 : xl3 = nI l3) (xl4 : Int32) (l4 : Nat) (hl4 : xl4 = nI l4) (xl5 : Int32) (l5 : Nat) (hl5 : xl5 = nI l5) (T : fS) (r : fR), k31 l0 l1 l2 l3 l4 l5 T = some r → mm_L 27 31 [.ref l0, .int xl1, .int xl2, .int xl3, .int xl4, .int xl5] [] (toS z T) = some (tR z r)) (l0 : Nat) (xl1 : Int32) (l1 : Nat) (hl1 : xl1 = nI l1) (xl2 : Int32) (l2 : Nat) (hl2 : xl2 = nI l2) (xl3 : Int32) (l3 : Nat) (hl3 : xl3 = nI l3) (xl4 : Int32) (l4 : Nat) (hl4 : xl4 = nI l4) (xl5 : Int32) (l5 : Nat) (hl5 : xl5 = nI l5) (xs0 : Int32) (s0 : Nat) (hs0 : xs0 = nI s0) (xs1 : Int32) (s1 : Nat) (hs1 : xs1 = nI s1) (h : F27_40 k13 k31 l0 l1 l2 l3 l4 l5 s0 s1 T = some r) : mm_L 27 40 [.ref l0, .int xl1, .int xl2, .int xl3, .int xl4, .int xl5] [.int xs0, .int xs1] (toS z T) = some (tR z r) := by
  unfold F27_40 at h
  refine Eq.trans (e27_40 ..) ?_
  exact (fb_if (cj_le hs0 hs1) h (fun h1 => (G27_76 k13 hk13 _ _ _ hl1 _ _ hl2 _ _ hl3 _ _ hl4 _ _ hl5 h1)) (fun h1 => (G27_43 k13 hk13 k31 hk31 _ _ _ hl1 _ _ hl2 _ _ hl3 _ _ hl4 _ _ hl5 h1)))
noncomputable def F27_37 (k13 : Nat → Nat → Nat → Nat → Nat → fS → Option fR) (k31 : Nat → Nat → Nat → Nat → Nat → Nat → fS → Option fR) (l0 : Nat) (l1 : Nat) (l2 : Nat) (l3 : Nat) (l4 : Nat) (l5 : Nat) (s0 : Nat) (s1 : Nat) (T : fS) : Option fR := (fbn (flz T s0) (fun v0 => F27_40 k13 k31 l0 l1 l2 l3 l4 l5 v0 s1 T))
theorem G27_37 {z : Option mm_O} {T : fS} {r : fR} (k13 : Nat → Nat → Nat → Nat → Nat → fS → Option fR) (hk13 : ∀ (l0 : Nat) (xl1 : Int32) (l1 : Nat) (hl1 : xl1 = nI l1) (xl2 : Int32) (l2 : Nat) (hl2 : xl2 = nI l2) (xl3 : Int32) (l3 : Nat) (hl3 : xl3 = nI l3) (xl4 : Int32) (l4 : Nat) (hl4 : xl4 = nI l4) (ul5 : Value) (T : fS) (r : fR), k13 l0 l1 l2 l3 l4 T = some r → mm_L 27 13 [.ref l0, .int xl1, .int xl2, .int xl3, .int xl4, ul5] [] (toS z T) = some (tR z r)) (k31 : Nat → Nat → Nat → Nat → Nat → Nat → fS → Option fR) (hk31 : ∀ (l0 : Nat) (xl1 : Int32) (l1 : Nat) (hl1 : xl1 = nI l1) (xl2 : Int32) (l2 : Nat) (hl2 : xl2 = nI l2) (xl3 : Int32) (l3 : Nat) (hl3 : xl3 = nI l3) (xl4 : Int32) (l4 : Nat) (hl4 : xl4 = nI l4) (xl5 : Int32) (l5 : Nat) (hl5 : xl5 = nI l5) (T : fS) (r : fR), k31 l0 l1 l2 l3 l4 l5 T = some r → mm_L 27 31 [.ref l0, .int xl1, .int xl2, .int xl3, .int xl4, .int xl5] [] (toS z T) = some (tR z r)) (l0 : Nat) (xl1 : Int32) (l1 : Nat) (hl1 : xl1 = nI l1) (xl2 : Int32) (l2 : Nat) (hl2 : xl2 = nI l2) (xl3 : Int32) (l3 : Nat) (hl3 : xl3 = nI l3) (xl4 : Int32) (l4 : Nat) (hl4 : xl4 = nI l4) (xl5 : Int32) (l5 : Nat) (hl5 : xl5 = nI l5) (s0 : Nat) (xs1 : Int32) (s1 : Nat) (hs1 : xs1 = nI s1) (h : F27_37 k13 k31 l0 l1 l2 l3 l4 l5 s0 s1 T = some r) : mm_L 27 37 [.ref l0, .int xl1, .int xl2, .int xl3, .int xl4, .int xl5] [.ref s0, .int xs1] (toS z T) = some (tR z r) := by
  unfold F27_37 at h
  refine Eq.trans (e27_37 ..) ?_
  exact (fb_n (fun _ q => flz_ok q) h (fun v0 h2 => G27_40 k13 hk13 k31 hk31 _ _ _ hl1 _ _ hl2 _ _ hl3 _ _ hl4 _ _ hl5 _ _ rfl _ _ hs1 h2))
noncomputable def F27_31 (k13 : Nat → Nat → Nat → Nat → Nat → fS → Option fR) (k31 : Nat → Nat → Nat → Nat → Nat → Nat → fS → Option fR) (l0 : Nat) (l1 : Nat) (l2 : Nat) (l3 : Nat) (l4 : Nat) (l5 : Nat) (T : fS) : Option fR := (fbv (fgr T l0 6 0) (fun v0 => F27_37 k13 k31 l0 l1 l2 l3 l4 l5 v0 l5 T) ((none : Option fR)))
theorem G27_31 {z : Option mm_O} {T : fS} {r : fR} (k13 : Nat → Nat → Nat → Nat → Nat → fS → Option fR) (hk13 : ∀ (l0 : Nat) (xl1 : Int32) (l1 : Nat) (hl1 : xl1 = nI l1) (xl2 : Int32) (l2 : Nat) (hl2 : xl2 = nI l2) (xl3 : Int32) (l3 : Nat) (hl3 : xl3 = nI l3) (xl4 : Int32) (l4 : Nat) (hl4 : xl4 = nI l4) (ul5 : Value) (T : fS) (r : fR), k13 l0 l1 l2 l3 l4 T = some r → mm_L 27 13 [.ref l0, .int xl1, .int xl2, .int xl3, .int xl4, ul5] [] (toS z T) = some (tR z r)) (k31 : Nat → Nat → Nat → Nat → Nat → Nat → fS → Option fR) (hk31 : ∀ (l0 : Nat) (xl1 : Int32) (l1 : Nat) (hl1 : xl1 = nI l1) (xl2 : Int32) (l2 : Nat) (hl2 : xl2 = nI l2) (xl3 : Int32) (l3 : Nat) (hl3 : xl3 = nI l3) (xl4 : Int32) (l4 : Nat) (hl4 : xl4 = nI l4) (xl5 : Int32) (l5 : Nat) (hl5 : xl5 = nI l5) (T : fS) (r : fR), k31 l0 l1 l2 l3 l4 l5 T = some r → mm_L 27 31 [.ref l0, .int xl1, .int xl2, .int xl3, .int xl4, .int xl5] [] (toS z T) = some (tR z r)) (l0 : Nat) (xl1 : Int32) (l1 : Nat) (hl1 : xl1 = nI l1) (xl2 : Int32) (l2 : Nat) (hl2 : xl2 = nI l2) (xl3 : Int32) (l3 : Nat) (hl3 : xl3 = nI l3) (xl4 : Int32) (l4 : Nat) (hl4 : xl4 = nI l4) (xl5 : Int32) (l5 : Nat) (hl5 : xl5 = nI l5) (h : F27_31 k13 k31 l0 l1 l2 l3 l4 l5 T = some r) : mm_L 27 31 [.ref l0, .int xl1, .int xl2, .int xl3, .int xl4, .int xl5] [] (toS z T) = some (tR z r) := by
  unfold F27_31 at h
  refine Eq.trans (e27_31 ..) ?_
  exact (fb_v (fun _ q => fgr_ok q) h (fun v0 h2 => G27_37 k13 hk13 k31 hk31 _ _ _ hl1 _ _ hl2 _ _ hl3 _ _ hl4 _ _ hl5 _ _ _ hl5 h2) (fun h2 => fr_n h2))
noncomputable def H27_31 (k13 : Nat → Nat → Nat → Nat → Nat → fS → Option fR) (n : Nat) : Nat → Nat → Nat → Nat → Nat → Nat → fS → Option fR := Nat.rec (motive := fun _ => Nat → Nat → Nat → Nat → Nat → Nat → fS → Option fR) (fun _ _ _ _ _ _ _ => none) (fun _ ih => F27_31 k13 ih) n
theorem HG27_31 {z : Option mm_O} (k13 : Nat → Nat → Nat → Nat → Nat → fS → Option fR) (hk13 : ∀ (l0 : Nat) (xl1 : Int32) (l1 : Nat) (hl1 : xl1 = nI l1) (xl2 : Int32) (l2 : Nat) (hl2 : xl2 = nI l2) (xl3 : Int32) (l3 : Nat) (hl3 : xl3 = nI l3) (xl4 : Int32) (l4 : Nat) (hl4 : xl4 = nI l4) (ul5 : Value) (T : fS) (r : fR), k13 l0 l1 l2 l3 l4 T = some r → mm_L 27 13 [.ref l0, .int xl1, .int xl2, .int xl3, .int xl4, ul5] [] (toS z T) = some (tR z r)) : ∀ (n : Nat) (l0 : Nat) (xl1 : Int32) (l1 : Nat) (hl1 : xl1 = nI l1) (xl2 : Int32) (l2 : Nat) (hl2 : xl2 = nI l2) (xl3 : Int32) (l3 : Nat) (hl3 : xl3 = nI l3) (xl4 : Int32) (l4 : Nat) (hl4 : xl4 = nI l4) (xl5 : Int32) (l5 : Nat) (hl5 : xl5 = nI l5) {T : fS} {r : fR}, H27_31 k13 n l0 l1 l2 l3 l4 l5 T = some r → mm_L 27 31 [.ref l0, .int xl1, .int xl2, .int xl3, .int xl4, .int xl5] [] (toS z T) = some (tR z r) := by
  intro n
  induction n with
  | zero =>
    intro l0 xl1 l1 hl1 xl2 l2 hl2 xl3 l3 hl3 xl4 l4 hl4 xl5 l5 hl5 T r h
    exact fr_n h
  | succ n ih =>
    intro l0 xl1 l1 hl1 xl2 l2 hl2 xl3 l3 hl3 xl4 l4 hl4 xl5 l5 hl5 T r h
    exact G27_31 k13 hk13 (H27_31 k13 n) (fun l0 xl1 l1 hl1 xl2 l2 hl2 xl3 l3 hl3 xl4 l4 hl4 xl5 l5 hl5 T r h => ih l0 xl1 l1 hl1 xl2 l2 hl2 xl3 l3 hl3 xl4 l4 hl4 xl5 l5 hl5 h) l0 xl1 l1 hl1 xl2 l2 hl2 xl3 l3 hl3 xl4 l4 hl4 xl5 l5 hl5 h
noncomputable def F27_25 (k13 : Nat → Nat → Nat → Nat → Nat → fS → Option fR) (l0 : Nat) (l1 : Nat) (l2 : Nat) (l3 : Nat) (l4 : Nat) (T : fS) : Option fR := (H27_31 k13 300 l0 l1 l2 l3 l4 (iA l4 1) T)
theorem G27_25 {z : Option mm_O} {T : fS} {r : fR} (k13 : Nat → Nat → Nat → Nat → Nat → fS → Option fR) (hk13 : ∀ (l0 : Nat) (xl1 : Int32) (l1 : Nat) (hl1 : xl1 = nI l1) (xl2 : Int32) (l2 : Nat) (hl2 : xl2 = nI l2) (xl3 : Int32) (l3 : Nat) (hl3 : xl3 = nI l3) (xl4 : Int32) (l4 : Nat) (hl4 : xl4 = nI l4) (ul5 : Value) (T : fS) (r : fR), k13 l0 l1 l2 l3 l4 T = some r → mm_L 27 13 [.ref l0, .int xl1, .int xl2, .int xl3, .int xl4, ul5] [] (toS z T) = some (tR z r)) (l0 : Nat) (xl1 : Int32) (l1 : Nat) (hl1 : xl1 = nI l1) (xl2 : Int32) (l2 : Nat) (hl2 : xl2 = nI l2) (xl3 : Int32) (l3 : Nat) (hl3 : xl3 = nI l3) (xl4 : Int32) (l4 : Nat) (hl4 : xl4 = nI l4) (ul5 : Value) (h : F27_25 k13 l0 l1 l2 l3 l4 T = some r) : mm_L 27 25 [.ref l0, .int xl1, .int xl2, .int xl3, .int xl4, ul5] [] (toS z T) = some (tR z r) := by
  unfold F27_25 at h
  refine Eq.trans (e27_25 ..) ?_
  exact (HG27_31 k13 hk13 300 _ _ _ hl1 _ _ hl2 _ _ hl3 _ _ hl4 _ _ (iA_ok hl4 (rfl : (1 : Int32) = nI 1)) h)
noncomputable def F27_82  (l0 : Nat) (l1 : Nat) (l2 : Nat) (l3 : Nat) (l4 : Nat) (T : fS) : Option fR := (some ((.inl (some (.inl l3)), T) : fR))
theorem G27_82 {z : Option mm_O} {T : fS} {r : fR}  (l0 : Nat) (xl1 : Int32) (l1 : Nat) (hl1 : xl1 = nI l1) (xl2 : Int32) (l2 : Nat) (hl2 : xl2 = nI l2) (xl3 : Int32) (l3 : Nat) (hl3 : xl3 = nI l3) (xl4 : Int32) (l4 : Nat) (hl4 : xl4 = nI l4) (ul5 : Value) (h : F27_82  l0 l1 l2 l3 l4 T = some r) : mm_L 27 82 [.ref l0, .int xl1, .int xl2, .int xl3, .int xl4, ul5] [] (toS z T) = some (tR z r) := by
  unfold F27_82 at h
  refine Eq.trans (e27_82 ..) ?_
  exact (fr_i hl3 h)
noncomputable def F27_22 (k13 : Nat → Nat → Nat → Nat → Nat → fS → Option fR) (l0 : Nat) (l1 : Nat) (l2 : Nat) (l3 : Nat) (l4 : Nat) (s0 : Nat) (s1 : Nat) (T : fS) : Option fR := (fif (ile s0 s1) (F27_82  l0 l1 l2 l3 l4 T) (F27_25 k13 l0 l1 l2 l3 l4 T))
theorem G27_22 {z : Option mm_O} {T : fS} {r : fR} (k13 : Nat → Nat → Nat → Nat → Nat → fS → Option fR) (hk13 : ∀ (l0 : Nat) (xl1 : Int32) (l1 : Nat) (hl1 : xl1 = nI l1) (xl2 : Int32) (l2 : Nat) (hl2 : xl2 = nI l2) (xl3 : Int32) (l3 : Nat) (hl3 : xl3 = nI l3) (xl4 : Int32) (l4 : Nat) (hl4 : xl4 = nI l4) (ul5 : Value) (T : fS) (r : fR), k13 l0 l1 l2 l3 l4 T = some r → mm_L 27 13 [.ref l0, .int xl1, .int xl2, .int xl3, .int xl4, ul5] [] (toS z T) = some (tR z r)) (l0 : Nat) (xl1 : Int32) (l1 : Nat) (hl1 : xl1 = nI l1) (xl2 : Int32) (l2 : Nat) (hl2 : xl2 = nI l2) (xl3 : Int32) (l3 : Nat) (hl3 : xl3 = nI l3) (xl4 : Int32) (l4 : Nat) (hl4 : xl4 = nI l4) (ul5 : Value) (xs0 : Int32) (s0 : Nat) (hs0 : xs0 = nI s0) (xs1 : Int32) (s1 : Nat) (hs1 : xs1 = nI s1) (h : F27_22 k13 l0 l1 l2 l3 l4 s0 s1 T = some r) : mm_L 27 22 [.ref l0, .int xl1, .int xl2, .int xl3, .int xl4, ul5] [.int xs0, .int xs1] (toS z T) = some (tR z r) := by
  unfold F27_22 at h
  refine Eq.trans (e27_22 ..) ?_
  exact (fb_if (cj_le hs0 hs1) h (fun h1 => (G27_82  _ _ _ hl1 _ _ hl2 _ _ hl3 _ _ hl4 _ h1)) (fun h1 => (G27_25 k13 hk13 _ _ _ hl1 _ _ hl2 _ _ hl3 _ _ hl4 _ h1)))
noncomputable def F27_19 (k13 : Nat → Nat → Nat → Nat → Nat → fS → Option fR) (l0 : Nat) (l1 : Nat) (l2 : Nat) (l3 : Nat) (l4 : Nat) (s0 : Nat) (s1 : Nat) (T : fS) : Option fR := (fbn (flz T s0) (fun v0 => F27_22 k13 l0 l1 l2 l3 l4 v0 s1 T))
theorem G27_19 {z : Option mm_O} {T : fS} {r : fR} (k13 : Nat → Nat → Nat → Nat → Nat → fS → Option fR) (hk13 : ∀ (l0 : Nat) (xl1 : Int32) (l1 : Nat) (hl1 : xl1 = nI l1) (xl2 : Int32) (l2 : Nat) (hl2 : xl2 = nI l2) (xl3 : Int32) (l3 : Nat) (hl3 : xl3 = nI l3) (xl4 : Int32) (l4 : Nat) (hl4 : xl4 = nI l4) (ul5 : Value) (T : fS) (r : fR), k13 l0 l1 l2 l3 l4 T = some r → mm_L 27 13 [.ref l0, .int xl1, .int xl2, .int xl3, .int xl4, ul5] [] (toS z T) = some (tR z r)) (l0 : Nat) (xl1 : Int32) (l1 : Nat) (hl1 : xl1 = nI l1) (xl2 : Int32) (l2 : Nat) (hl2 : xl2 = nI l2) (xl3 : Int32) (l3 : Nat) (hl3 : xl3 = nI l3) (xl4 : Int32) (l4 : Nat) (hl4 : xl4 = nI l4) (ul5 : Value) (s0 : Nat) (xs1 : Int32) (s1 : Nat) (hs1 : xs1 = nI s1) (h : F27_19 k13 l0 l1 l2 l3 l4 s0 s1 T = some r) : mm_L 27 19 [.ref l0, .int xl1, .int xl2, .int xl3, .int xl4, ul5] [.ref s0, .int xs1] (toS z T) = some (tR z r) := by
  unfold F27_19 at h
  refine Eq.trans (e27_19 ..) ?_
  exact (fb_n (fun _ q => flz_ok q) h (fun v0 h2 => G27_22 k13 hk13 _ _ _ hl1 _ _ hl2 _ _ hl3 _ _ hl4 _ _ _ rfl _ _ hs1 h2))
noncomputable def F27_13 (k13 : Nat → Nat → Nat → Nat → Nat → fS → Option fR) (l0 : Nat) (l1 : Nat) (l2 : Nat) (l3 : Nat) (l4 : Nat) (T : fS) : Option fR := (fbv (fgr T l0 6 0) (fun v0 => F27_19 k13 l0 l1 l2 l3 l4 v0 l4 T) ((none : Option fR)))
theorem G27_13 {z : Option mm_O} {T : fS} {r : fR} (k13 : Nat → Nat → Nat → Nat → Nat → fS → Option fR) (hk13 : ∀ (l0 : Nat) (xl1 : Int32) (l1 : Nat) (hl1 : xl1 = nI l1) (xl2 : Int32) (l2 : Nat) (hl2 : xl2 = nI l2) (xl3 : Int32) (l3 : Nat) (hl3 : xl3 = nI l3) (xl4 : Int32) (l4 : Nat) (hl4 : xl4 = nI l4) (ul5 : Value) (T : fS) (r : fR), k13 l0 l1 l2 l3 l4 T = some r → mm_L 27 13 [.ref l0, .int xl1, .int xl2, .int xl3, .int xl4, ul5] [] (toS z T) = some (tR z r)) (l0 : Nat) (xl1 : Int32) (l1 : Nat) (hl1 : xl1 = nI l1) (xl2 : Int32) (l2 : Nat) (hl2 : xl2 = nI l2) (xl3 : Int32) (l3 : Nat) (hl3 : xl3 = nI l3) (xl4 : Int32) (l4 : Nat) (hl4 : xl4 = nI l4) (ul5 : Value) (h : F27_13 k13 l0 l1 l2 l3 l4 T = some r) : mm_L 27 13 [.ref l0, .int xl1, .int xl2, .int xl3, .int xl4, ul5] [] (toS z T) = some (tR z r) := by
  unfold F27_13 at h
  refine Eq.trans (e27_13 ..) ?_
  exact (fb_v (fun _ q => fgr_ok q) h (fun v0 h2 => G27_19 k13 hk13 _ _ _ hl1 _ _ hl2 _ _ hl3 _ _ hl4 _ _ _ _ hl4 h2) (fun h2 => fr_n h2))
noncomputable def H27_13  (n : Nat) : Nat → Nat → Nat → Nat → Nat → fS → Option fR := Nat.rec (motive := fun _ => Nat → Nat → Nat → Nat → Nat → fS → Option fR) (fun _ _ _ _ _ _ => none) (fun _ ih => F27_13 ih) n
theorem HG27_13 {z : Option mm_O}  : ∀ (n : Nat) (l0 : Nat) (xl1 : Int32) (l1 : Nat) (hl1 : xl1 = nI l1) (xl2 : Int32) (l2 : Nat) (hl2 : xl2 = nI l2) (xl3 : Int32) (l3 : Nat) (hl3 : xl3 = nI l3) (xl4 : Int32) (l4 : Nat) (hl4 : xl4 = nI l4) (ul5 : Value) {T : fS} {r : fR}, H27_13  n l0 l1 l2 l3 l4 T = some r → mm_L 27 13 [.ref l0, .int xl1, .int xl2, .int xl3, .int xl4, ul5] [] (toS z T) = some (tR z r) := by
  intro n
  induction n with
  | zero =>
    intro l0 xl1 l1 hl1 xl2 l2 hl2 xl3 l3 hl3 xl4 l4 hl4 ul5 T r h
    exact fr_n h
  | succ n ih =>
    intro l0 xl1 l1 hl1 xl2 l2 hl2 xl3 l3 hl3 xl4 l4 hl4 ul5 T r h
    exact G27_13 (H27_13  n) (fun l0 xl1 l1 hl1 xl2 l2 hl2 xl3 l3 hl3 xl4 l4 hl4 ul5 T r h => ih l0 xl1 l1 hl1 xl2 l2 hl2 xl3 l3 hl3 xl4 l4 hl4 ul5 h) l0 xl1 l1 hl1 xl2 l2 hl2 xl3 l3 hl3 xl4 l4 hl4 ul5 h
noncomputable def F27_8  (l0 : Nat) (l1 : Nat) (l2 : Nat) (T : fS) : Option fR := (H27_13  300 l0 l1 l2 0 0 T)
theorem G27_8 {z : Option mm_O} {T : fS} {r : fR}  (l0 : Nat) (xl1 : Int32) (l1 : Nat) (hl1 : xl1 = nI l1) (xl2 : Int32) (l2 : Nat) (hl2 : xl2 = nI l2) (ul3 : Value) (ul4 : Value) (ul5 : Value) (h : F27_8  l0 l1 l2 T = some r) : mm_L 27 8 [.ref l0, .int xl1, .int xl2, ul3, ul4, ul5] [] (toS z T) = some (tR z r) := by
  unfold F27_8 at h
  refine Eq.trans (e27_8 ..) ?_
  exact (HG27_13  300 _ _ _ hl1 _ _ hl2 _ _ (rfl : (0 : Int32) = nI 0) _ _ (rfl : (0 : Int32) = nI 0) _ h)
noncomputable def F27_4  (l0 : Nat) (l1 : Nat) (l2 : Nat) (T : fS) : Option fR := (fKv true (F35_0 l2 T) (fun T1 => F27_8  l0 l1 l2 T1))
theorem G27_4 {z : Option mm_O} {T : fS} {r : fR}  (l0 : Nat) (xl1 : Int32) (l1 : Nat) (hl1 : xl1 = nI l1) (xl2 : Int32) (l2 : Nat) (hl2 : xl2 = nI l2) (ul3 : Value) (ul4 : Value) (ul5 : Value) (h : F27_4  l0 l1 l2 T = some r) : mm_L 27 4 [.ref l0, .int xl1, .int xl2, ul3, ul4, ul5] [] (toS z T) = some (tR z r) := by
  unfold F27_4 at h
  refine Eq.trans (e27_4 ..) ?_
  exact (fb_K0v (fun _ q => GM35 _ _ hl2 q) h (fun T1 h2 => G27_8  _ _ _ hl1 _ _ hl2 _ _ _ h2))
noncomputable def F27_0  (l0 : Nat) (l1 : Nat) (l2 : Nat) (T : fS) : Option fR := (fKv true (F35_0 l1 T) (fun T1 => F27_4  l0 l1 l2 T1))
theorem G27_0 {z : Option mm_O} {T : fS} {r : fR}  (l0 : Nat) (xl1 : Int32) (l1 : Nat) (hl1 : xl1 = nI l1) (xl2 : Int32) (l2 : Nat) (hl2 : xl2 = nI l2) (ul3 : Value) (ul4 : Value) (ul5 : Value) (h : F27_0  l0 l1 l2 T = some r) : mm_L 27 0 [.ref l0, .int xl1, .int xl2, ul3, ul4, ul5] [] (toS z T) = some (tR z r) := by
  unfold F27_0 at h
  refine Eq.trans (e27_0 ..) ?_
  exact (fb_K0v (fun _ q => GM35 _ _ hl1 q) h (fun T1 h2 => G27_4  _ _ _ hl1 _ _ hl2 _ _ _ h2))
theorem GM27 {z : Option mm_O} {T : fS} {r : fR} (l0 : Nat) (xl1 : Int32) (l1 : Nat) (hl1 : xl1 = nI l1) (xl2 : Int32) (l2 : Nat) (hl2 : xl2 = nI l2) (h : F27_0 l0 l1 l2 T = some r) : mm_M 27 [.ref l0, .int xl1, .int xl2] (toS z T) = some (tR z r) := Eq.trans (M_27 ..) (G27_0 l0 xl1 l1 hl1 xl2 l2 hl2 _ _ _ h)
-- 39: HandArchive.shown
noncomputable def F39_13  (l0 : Nat) (l1 : Nat) (l2 : Nat) (T : fS) : Option fR := (some ((.inr 0, fbm T 1 6) : fR))
theorem G39_13 {z : Option mm_O} {T : fS} {r : fR}  (l0 : Nat) (xl1 : Int32) (l1 : Nat) (hl1 : xl1 = nI l1) (xl2 : Int32) (l2 : Nat) (hl2 : xl2 = nI l2) (h : F39_13  l0 l1 l2 T = some r) : mm_L 39 13 [.ref l0, .int xl1, .int xl2] [] (toS z T) = some (tR z r) := by
  unfold F39_13 at h
  refine Eq.trans (e39_13 ..) ?_
  exact (fr_x h)
noncomputable def F39_29  (l0 : Nat) (l1 : Nat) (l2 : Nat) (s0 : Nat) (T : fS) : Option fR := (some ((.inl (some (.inl s0)), T) : fR))
theorem G39_29 {z : Option mm_O} {T : fS} {r : fR}  (l0 : Nat) (xl1 : Int32) (l1 : Nat) (hl1 : xl1 = nI l1) (xl2 : Int32) (l2 : Nat) (hl2 : xl2 = nI l2) (xs0 : Int32) (s0 : Nat) (hs0 : xs0 = nI s0) (h : F39_29  l0 l1 l2 s0 T = some r) : mm_L 39 29 [.ref l0, .int xl1, .int xl2] [.int xs0] (toS z T) = some (tR z r) := by
  unfold F39_29 at h
  refine Eq.trans (e39_29 ..) ?_
  exact (fr_i hs0 h)
noncomputable def F39_23  (l0 : Nat) (l1 : Nat) (l2 : Nat) (T : fS) : Option fR := (fKi true (fif (fch T l0 6) (F50_0 l0 l1 l2 T) none) (fun v0 T1 => F39_29  l0 l1 l2 v0 T1))
theorem G39_23 {z : Option mm_O} {T : fS} {r : fR}  (l0 : Nat) (xl1 : Int32) (l1 : Nat) (hl1 : xl1 = nI l1) (xl2 : Int32) (l2 : Nat) (hl2 : xl2 = nI l2) (h : F39_23  l0 l1 l2 T = some r) : mm_L 39 23 [.ref l0, .int xl1, .int xl2] [] (toS z T) = some (tR z r) := by
  unfold F39_23 at h
  refine Eq.trans (e39_23 ..) ?_
  exact (fb_K0i (fun _ q => fb_mo (y := 50) ow_50 q (fun q => GM50 _ _ _ hl1 _ _ hl2 q)) h (fun v0 T1 h2 => G39_29  _ _ _ hl1 _ _ hl2 _ _ rfl h2))
noncomputable def F39_10  (l0 : Nat) (l1 : Nat) (l2 : Nat) (s0 : Nat) (T : fS) : Option fR := (fif (ieq s0 0) (F39_13  l0 l1 l2 T) (F39_23  l0 l1 l2 T))
theorem G39_10 {z : Option mm_O} {T : fS} {r : fR}  (l0 : Nat) (xl1 : Int32) (l1 : Nat) (hl1 : xl1 = nI l1) (xl2 : Int32) (l2 : Nat) (hl2 : xl2 = nI l2) (xs0 : Int32) (s0 : Nat) (hs0 : xs0 = nI s0) (h : F39_10  l0 l1 l2 s0 T = some r) : mm_L 39 10 [.ref l0, .int xl1, .int xl2] [.int xs0] (toS z T) = some (tR z r) := by
  unfold F39_10 at h
  refine Eq.trans (e39_10 ..) ?_
  exact (fb_if (cj_eq hs0 (rfl : (0 : Int32) = nI 0)) h (fun h1 => (G39_13  _ _ _ hl1 _ _ hl2 h1)) (fun h1 => (G39_23  _ _ _ hl1 _ _ hl2 h1)))
noncomputable def F39_5  (l0 : Nat) (l1 : Nat) (l2 : Nat) (T : fS) : Option fR := (fKi false (F101_0 l2 3 T) (fun v0 T1 => F39_10  l0 l1 l2 v0 T1))
theorem G39_5 {z : Option mm_O} {T : fS} {r : fR}  (l0 : Nat) (xl1 : Int32) (l1 : Nat) (hl1 : xl1 = nI l1) (xl2 : Int32) (l2 : Nat) (hl2 : xl2 = nI l2) (h : F39_5  l0 l1 l2 T = some r) : mm_L 39 5 [.ref l0, .int xl1, .int xl2] [] (toS z T) = some (tR z r) := by
  unfold F39_5 at h
  refine Eq.trans (e39_5 ..) ?_
  exact (fb_K2i (fun _ q => GM101 _ _ hl2 _ _ (rfl : (3 : Int32) = nI 3) q) h (fun v0 T1 h2 => G39_10  _ _ _ hl1 _ _ hl2 _ _ rfl h2))
noncomputable def F39_0  (l0 : Nat) (l1 : Nat) (l2 : Nat) (T : fS) : Option fR := (fKv true (fif (fch T l0 6) (F53_0 l0 l1 T) none) (fun T1 => F39_5  l0 l1 l2 T1))
theorem G39_0 {z : Option mm_O} {T : fS} {r : fR}  (l0 : Nat) (xl1 : Int32) (l1 : Nat) (hl1 : xl1 = nI l1) (xl2 : Int32) (l2 : Nat) (hl2 : xl2 = nI l2) (h : F39_0  l0 l1 l2 T = some r) : mm_L 39 0 [.ref l0, .int xl1, .int xl2] [] (toS z T) = some (tR z r) := by
  unfold F39_0 at h
  refine Eq.trans (e39_0 ..) ?_
  exact (fb_K0v (fun _ q => fb_mo (y := 53) ow_53 q (fun q => GM53 _ _ _ hl1 q)) h (fun T1 h2 => G39_5  _ _ _ hl1 _ _ hl2 h2))
theorem GM39 {z : Option mm_O} {T : fS} {r : fR} (l0 : Nat) (xl1 : Int32) (l1 : Nat) (hl1 : xl1 = nI l1) (xl2 : Int32) (l2 : Nat) (hl2 : xl2 = nI l2) (h : F39_0 l0 l1 l2 T = some r) : mm_M 39 [.ref l0, .int xl1, .int xl2] (toS z T) = some (tR z r) := Eq.trans (M_39 ..) (G39_0 l0 xl1 l1 hl1 xl2 l2 hl2 h)
-- 40: HandArchive.standsFor
noncomputable def F40_12  (l0 : Nat) (l1 : Nat) (l2 : Nat) (T : fS) : Option fR := (some ((.inr 2, fbm T 1 6) : fR))
theorem G40_12 {z : Option mm_O} {T : fS} {r : fR}  (l0 : Nat) (xl1 : Int32) (l1 : Nat) (hl1 : xl1 = nI l1) (xl2 : Int32) (l2 : Nat) (hl2 : xl2 = nI l2) (h : F40_12  l0 l1 l2 T = some r) : mm_L 40 12 [.ref l0, .int xl1, .int xl2] [] (toS z T) = some (tR z r) := by
  unfold F40_12 at h
  refine Eq.trans (e40_12 ..) ?_
  exact (fr_x h)
noncomputable def F40_28  (l0 : Nat) (l1 : Nat) (l2 : Nat) (s0 : Nat) (T : fS) : Option fR := (some ((.inl (some (.inl s0)), T) : fR))
theorem G40_28 {z : Option mm_O} {T : fS} {r : fR}  (l0 : Nat) (xl1 : Int32) (l1 : Nat) (hl1 : xl1 = nI l1) (xl2 : Int32) (l2 : Nat) (hl2 : xl2 = nI l2) (xs0 : Int32) (s0 : Nat) (hs0 : xs0 = nI s0) (h : F40_28  l0 l1 l2 s0 T = some r) : mm_L 40 28 [.ref l0, .int xl1, .int xl2] [.int xs0] (toS z T) = some (tR z r) := by
  unfold F40_28 at h
  refine Eq.trans (e40_28 ..) ?_
  exact (fr_i hs0 h)
noncomputable def F40_22  (l0 : Nat) (l1 : Nat) (l2 : Nat) (T : fS) : Option fR := (fKi true (fif (fch T l0 6) (F46_0 l0 l1 l2 T) none) (fun v0 T1 => F40_28  l0 l1 l2 v0 T1))
theorem G40_22 {z : Option mm_O} {T : fS} {r : fR}  (l0 : Nat) (xl1 : Int32) (l1 : Nat) (hl1 : xl1 = nI l1) (xl2 : Int32) (l2 : Nat) (hl2 : xl2 = nI l2) (h : F40_22  l0 l1 l2 T = some r) : mm_L 40 22 [.ref l0, .int xl1, .int xl2] [] (toS z T) = some (tR z r) := by
  unfold F40_22 at h
  refine Eq.trans (e40_22 ..) ?_
  exact (fb_K0i (fun _ q => fb_mo (y := 46) ow_46 q (fun q => GM46 _ _ _ hl1 _ _ hl2 q)) h (fun v0 T1 h2 => G40_28  _ _ _ hl1 _ _ hl2 _ _ rfl h2))
noncomputable def F40_9  (l0 : Nat) (l1 : Nat) (l2 : Nat) (s0 : Nat) (T : fS) : Option fR := (fif (ieq s0 0) (F40_12  l0 l1 l2 T) (F40_22  l0 l1 l2 T))
theorem G40_9 {z : Option mm_O} {T : fS} {r : fR}  (l0 : Nat) (xl1 : Int32) (l1 : Nat) (hl1 : xl1 = nI l1) (xl2 : Int32) (l2 : Nat) (hl2 : xl2 = nI l2) (xs0 : Int32) (s0 : Nat) (hs0 : xs0 = nI s0) (h : F40_9  l0 l1 l2 s0 T = some r) : mm_L 40 9 [.ref l0, .int xl1, .int xl2] [.int xs0] (toS z T) = some (tR z r) := by
  unfold F40_9 at h
  refine Eq.trans (e40_9 ..) ?_
  exact (fb_if (cj_eq hs0 (rfl : (0 : Int32) = nI 0)) h (fun h1 => (G40_12  _ _ _ hl1 _ _ hl2 h1)) (fun h1 => (G40_22  _ _ _ hl1 _ _ hl2 h1)))
noncomputable def F40_5  (l0 : Nat) (l1 : Nat) (l2 : Nat) (T : fS) : Option fR := (fKi true (F54_0 l2 T) (fun v0 T1 => F40_9  l0 l1 l2 v0 T1))
theorem G40_5 {z : Option mm_O} {T : fS} {r : fR}  (l0 : Nat) (xl1 : Int32) (l1 : Nat) (hl1 : xl1 = nI l1) (xl2 : Int32) (l2 : Nat) (hl2 : xl2 = nI l2) (h : F40_5  l0 l1 l2 T = some r) : mm_L 40 5 [.ref l0, .int xl1, .int xl2] [] (toS z T) = some (tR z r) := by
  unfold F40_5 at h
  refine Eq.trans (e40_5 ..) ?_
  exact (fb_K0i (fun _ q => GM54 _ _ hl2 q) h (fun v0 T1 h2 => G40_9  _ _ _ hl1 _ _ hl2 _ _ rfl h2))
noncomputable def F40_0  (l0 : Nat) (l1 : Nat) (l2 : Nat) (T : fS) : Option fR := (fKv true (fif (fch T l0 6) (F53_0 l0 l1 T) none) (fun T1 => F40_5  l0 l1 l2 T1))
theorem G40_0 {z : Option mm_O} {T : fS} {r : fR}  (l0 : Nat) (xl1 : Int32) (l1 : Nat) (hl1 : xl1 = nI l1) (xl2 : Int32) (l2 : Nat) (hl2 : xl2 = nI l2) (h : F40_0  l0 l1 l2 T = some r) : mm_L 40 0 [.ref l0, .int xl1, .int xl2] [] (toS z T) = some (tR z r) := by
  unfold F40_0 at h
  refine Eq.trans (e40_0 ..) ?_
  exact (fb_K0v (fun _ q => fb_mo (y := 53) ow_53 q (fun q => GM53 _ _ _ hl1 q)) h (fun T1 h2 => G40_5  _ _ _ hl1 _ _ hl2 h2))
theorem GM40 {z : Option mm_O} {T : fS} {r : fR} (l0 : Nat) (xl1 : Int32) (l1 : Nat) (hl1 : xl1 = nI l1) (xl2 : Int32) (l2 : Nat) (hl2 : xl2 = nI l2) (h : F40_0 l0 l1 l2 T = some r) : mm_M 40 [.ref l0, .int xl1, .int xl2] (toS z T) = some (tR z r) := Eq.trans (M_40 ..) (G40_0 l0 xl1 l1 hl1 xl2 l2 hl2 h)
-- 58: HandArchive.except
noncomputable def F58_14  (l0 : Nat) (l1 : Nat) (l2 : Nat) (T : fS) : Option fR := (some ((.inr 2, fbm T 1 6) : fR))
theorem G58_14 {z : Option mm_O} {T : fS} {r : fR}  (l0 : Nat) (xl1 : Int32) (l1 : Nat) (hl1 : xl1 = nI l1) (xl2 : Int32) (l2 : Nat) (hl2 : xl2 = nI l2) (h : F58_14  l0 l1 l2 T = some r) : mm_L 58 14 [.ref l0, .int xl1, .int xl2] [] (toS z T) = some (tR z r) := by
  unfold F58_14 at h
  refine Eq.trans (e58_14 ..) ?_
  exact (fr_x h)
noncomputable def F58_45  (l0 : Nat) (l1 : Nat) (l2 : Nat) (s0 : Nat) (T : fS) : Option fR := (fif (Bool.rec (motive := fun _ => Bool) (ieq s0 1) true (ieq s0 0)) (some ((.inl (some (.inl s0)), T) : fR)) (none : Option fR))
theorem G58_45 {z : Option mm_O} {T : fS} {r : fR}  (l0 : Nat) (xl1 : Int32) (l1 : Nat) (hl1 : xl1 = nI l1) (xl2 : Int32) (l2 : Nat) (hl2 : xl2 = nI l2) (xs0 : Int32) (s0 : Nat) (hs0 : xs0 = nI s0) (h : F58_45  l0 l1 l2 s0 T = some r) : mm_L 58 45 [.ref l0, .int xl1, .int xl2] [.int xs0] (toS z T) = some (tR z r) := by
  unfold F58_45 at h
  refine Eq.trans (e58_45 ..) ?_
  exact (fb_if (cj_01 hs0) h (fun h1 => (fr_i hs0 h1)) (fun h1 => (fr_n h1)))
noncomputable def F58_41  (l0 : Nat) (l1 : Nat) (l2 : Nat) (s0 : Nat) (T : fS) : Option fR := (fKi true (fif (fch T s0 4) (F21_0 s0 l2 T) none) (fun v0 T1 => F58_45  l0 l1 l2 v0 T1))
theorem G58_41 {z : Option mm_O} {T : fS} {r : fR}  (l0 : Nat) (xl1 : Int32) (l1 : Nat) (hl1 : xl1 = nI l1) (xl2 : Int32) (l2 : Nat) (hl2 : xl2 = nI l2) (s0 : Nat) (h : F58_41  l0 l1 l2 s0 T = some r) : mm_L 58 41 [.ref l0, .int xl1, .int xl2] [.ref s0] (toS z T) = some (tR z r) := by
  unfold F58_41 at h
  refine Eq.trans (e58_41 ..) ?_
  exact (fb_K0i (fun _ q => fb_mo (y := 21) ow_21 q (fun q => GM21 _ _ _ hl2 q)) h (fun v0 T1 h2 => G58_45  _ _ _ hl1 _ _ hl2 _ _ rfl h2))
noncomputable def F58_38  (l0 : Nat) (l1 : Nat) (l2 : Nat) (s0 : Nat) (T : fS) : Option fR := (fif (fch T s0 4) (F58_41  l0 l1 l2 s0 T) none)
theorem G58_38 {z : Option mm_O} {T : fS} {r : fR}  (l0 : Nat) (xl1 : Int32) (l1 : Nat) (hl1 : xl1 = nI l1) (xl2 : Int32) (l2 : Nat) (hl2 : xl2 = nI l2) (s0 : Nat) (h : F58_38  l0 l1 l2 s0 T = some r) : mm_L 58 38 [.ref l0, .int xl1, .int xl2] [.ref s0] (toS z T) = some (tR z r) := by
  unfold F58_38 at h
  refine Eq.trans (e58_38 ..) ?_
  exact (fb_c h (fun h2 => G58_41  _ _ _ hl1 _ _ hl2 _ h2))
noncomputable def F58_34  (l0 : Nat) (l1 : Nat) (l2 : Nat) (s0 : Nat) (T : fS) : Option fR := (fbn (flg T s0 l1) (fun v0 => F58_38  l0 l1 l2 v0 T))
theorem G58_34 {z : Option mm_O} {T : fS} {r : fR}  (l0 : Nat) (xl1 : Int32) (l1 : Nat) (hl1 : xl1 = nI l1) (xl2 : Int32) (l2 : Nat) (hl2 : xl2 = nI l2) (s0 : Nat) (h : F58_34  l0 l1 l2 s0 T = some r) : mm_L 58 34 [.ref l0, .int xl1, .int xl2] [.ref s0] (toS z T) = some (tR z r) := by
  unfold F58_34 at h
  refine Eq.trans (e58_34 ..) ?_
  exact (fb_g (fun _ q => by rw [hl1]; exact flg_ok q) h (fun v0 h2 => G58_38  _ _ _ hl1 _ _ hl2 _ h2))
noncomputable def F58_30  (l0 : Nat) (l1 : Nat) (l2 : Nat) (T : fS) : Option fR := (fbv (fgr T l0 6 3) (fun v0 => F58_34  l0 l1 l2 v0 T) ((none : Option fR)))
theorem G58_30 {z : Option mm_O} {T : fS} {r : fR}  (l0 : Nat) (xl1 : Int32) (l1 : Nat) (hl1 : xl1 = nI l1) (xl2 : Int32) (l2 : Nat) (hl2 : xl2 = nI l2) (h : F58_30  l0 l1 l2 T = some r) : mm_L 58 30 [.ref l0, .int xl1, .int xl2] [] (toS z T) = some (tR z r) := by
  unfold F58_30 at h
  refine Eq.trans (e58_30 ..) ?_
  exact (fb_v (fun _ q => fgr_ok q) h (fun v0 h2 => G58_34  _ _ _ hl1 _ _ hl2 _ h2) (fun h2 => fr_n h2))
noncomputable def F58_25  (l0 : Nat) (l1 : Nat) (l2 : Nat) (T : fS) : Option fR := (fKv true (fif (fch T l0 6) (F34_0 l0 l2 T) none) (fun T1 => F58_30  l0 l1 l2 T1))
theorem G58_25 {z : Option mm_O} {T : fS} {r : fR}  (l0 : Nat) (xl1 : Int32) (l1 : Nat) (hl1 : xl1 = nI l1) (xl2 : Int32) (l2 : Nat) (hl2 : xl2 = nI l2) (h : F58_25  l0 l1 l2 T = some r) : mm_L 58 25 [.ref l0, .int xl1, .int xl2] [] (toS z T) = some (tR z r) := by
  unfold F58_25 at h
  refine Eq.trans (e58_25 ..) ?_
  exact (fb_K0v (fun _ q => fb_mo (y := 34) ow_34 q (fun q => GM34 _ _ _ hl2 q)) h (fun T1 h2 => G58_30  _ _ _ hl1 _ _ hl2 h2))
noncomputable def F58_11  (l0 : Nat) (l1 : Nat) (l2 : Nat) (s0 : Nat) (T : fS) : Option fR := (fif (ieq s0 0) (F58_14  l0 l1 l2 T) (F58_25  l0 l1 l2 T))
theorem G58_11 {z : Option mm_O} {T : fS} {r : fR}  (l0 : Nat) (xl1 : Int32) (l1 : Nat) (hl1 : xl1 = nI l1) (xl2 : Int32) (l2 : Nat) (hl2 : xl2 = nI l2) (xs0 : Int32) (s0 : Nat) (hs0 : xs0 = nI s0) (h : F58_11  l0 l1 l2 s0 T = some r) : mm_L 58 11 [.ref l0, .int xl1, .int xl2] [.int xs0] (toS z T) = some (tR z r) := by
  unfold F58_11 at h
  refine Eq.trans (e58_11 ..) ?_
  exact (fb_if (cj_eq hs0 (rfl : (0 : Int32) = nI 0)) h (fun h1 => (G58_14  _ _ _ hl1 _ _ hl2 h1)) (fun h1 => (G58_25  _ _ _ hl1 _ _ hl2 h1)))
noncomputable def F58_8  (l0 : Nat) (l1 : Nat) (l2 : Nat) (s0 : Nat) (s1 : Nat) (T : fS) : Option fR := (fKi false (F101_0 s1 s0 T) (fun v0 T1 => F58_11  l0 l1 l2 v0 T1))
theorem G58_8 {z : Option mm_O} {T : fS} {r : fR}  (l0 : Nat) (xl1 : Int32) (l1 : Nat) (hl1 : xl1 = nI l1) (xl2 : Int32) (l2 : Nat) (hl2 : xl2 = nI l2) (xs0 : Int32) (s0 : Nat) (hs0 : xs0 = nI s0) (xs1 : Int32) (s1 : Nat) (hs1 : xs1 = nI s1) (h : F58_8  l0 l1 l2 s0 s1 T = some r) : mm_L 58 8 [.ref l0, .int xl1, .int xl2] [.int xs0, .int xs1] (toS z T) = some (tR z r) := by
  unfold F58_8 at h
  refine Eq.trans (e58_8 ..) ?_
  exact (fb_K2i (fun _ q => GM101 _ _ hs1 _ _ hs0 q) h (fun v0 T1 h2 => G58_11  _ _ _ hl1 _ _ hl2 _ _ rfl h2))
noncomputable def F58_5  (l0 : Nat) (l1 : Nat) (l2 : Nat) (s0 : Nat) (s1 : Nat) (T : fS) : Option fR := (fbn (flz T s0) (fun v0 => F58_8  l0 l1 l2 v0 s1 T))
theorem G58_5 {z : Option mm_O} {T : fS} {r : fR}  (l0 : Nat) (xl1 : Int32) (l1 : Nat) (hl1 : xl1 = nI l1) (xl2 : Int32) (l2 : Nat) (hl2 : xl2 = nI l2) (s0 : Nat) (xs1 : Int32) (s1 : Nat) (hs1 : xs1 = nI s1) (h : F58_5  l0 l1 l2 s0 s1 T = some r) : mm_L 58 5 [.ref l0, .int xl1, .int xl2] [.ref s0, .int xs1] (toS z T) = some (tR z r) := by
  unfold F58_5 at h
  refine Eq.trans (e58_5 ..) ?_
  exact (fb_n (fun _ q => flz_ok q) h (fun v0 h2 => G58_8  _ _ _ hl1 _ _ hl2 _ _ rfl _ _ hs1 h2))
noncomputable def F58_0  (l0 : Nat) (l1 : Nat) (l2 : Nat) (T : fS) : Option fR := (fbv (fgr T l0 6 3) (fun v0 => F58_5  l0 l1 l2 v0 l1 T) ((none : Option fR)))
theorem G58_0 {z : Option mm_O} {T : fS} {r : fR}  (l0 : Nat) (xl1 : Int32) (l1 : Nat) (hl1 : xl1 = nI l1) (xl2 : Int32) (l2 : Nat) (hl2 : xl2 = nI l2) (h : F58_0  l0 l1 l2 T = some r) : mm_L 58 0 [.ref l0, .int xl1, .int xl2] [] (toS z T) = some (tR z r) := by
  unfold F58_0 at h
  refine Eq.trans (e58_0 ..) ?_
  exact (fb_v (fun _ q => fgr_ok q) h (fun v0 h2 => G58_5  _ _ _ hl1 _ _ hl2 _ _ _ hl1 h2) (fun h2 => fr_n h2))
theorem GM58 {z : Option mm_O} {T : fS} {r : fR} (l0 : Nat) (xl1 : Int32) (l1 : Nat) (hl1 : xl1 = nI l1) (xl2 : Int32) (l2 : Nat) (hl2 : xl2 = nI l2) (h : F58_0 l0 l1 l2 T = some r) : mm_M 58 [.ref l0, .int xl1, .int xl2] (toS z T) = some (tR z r) := Eq.trans (M_58 ..) (G58_0 l0 xl1 l1 hl1 xl2 l2 hl2 h)
-- 70: HandArchive.readBack
noncomputable def F70_13  (l0 : Nat) (l1 : Nat) (l2 : Nat) (T : fS) : Option fR := (some ((.inr 0, fbm T 1 6) : fR))
theorem G70_13 {z : Option mm_O} {T : fS} {r : fR}  (l0 : Nat) (xl1 : Int32) (l1 : Nat) (hl1 : xl1 = nI l1) (xl2 : Int32) (l2 : Nat) (hl2 : xl2 = nI l2) (ul3 : Value) (ul4 : Value) (h : F70_13  l0 l1 l2 T = some r) : mm_L 70 13 [.ref l0, .int xl1, .int xl2, ul3, ul4] [] (toS z T) = some (tR z r) := by
  unfold F70_13 at h
  refine Eq.trans (e70_13 ..) ?_
  exact (fr_x h)
noncomputable def F70_72  (l0 : Nat) (l1 : Nat) (l2 : Nat) (l3 : Nat) (l4 : Nat) (T : fS) : Option fR := (some ((.inl (some (.inl l4)), T) : fR))
theorem G70_72 {z : Option mm_O} {T : fS} {r : fR}  (l0 : Nat) (xl1 : Int32) (l1 : Nat) (hl1 : xl1 = nI l1) (xl2 : Int32) (l2 : Nat) (hl2 : xl2 = nI l2) (l3 : Nat) (xl4 : Int32) (l4 : Nat) (hl4 : xl4 = nI l4) (h : F70_72  l0 l1 l2 l3 l4 T = some r) : mm_L 70 72 [.ref l0, .int xl1, .int xl2, .ref l3, .int xl4] [] (toS z T) = some (tR z r) := by
  unfold F70_72 at h
  refine Eq.trans (e70_72 ..) ?_
  exact (fr_i hl4 h)
noncomputable def F70_85  (l0 : Nat) (l1 : Nat) (l2 : Nat) (l3 : Nat) (l4 : Nat) (s0 : Nat) (T : fS) : Option fR := (some ((.inl (some (.inl s0)), T) : fR))
theorem G70_85 {z : Option mm_O} {T : fS} {r : fR}  (l0 : Nat) (xl1 : Int32) (l1 : Nat) (hl1 : xl1 = nI l1) (xl2 : Int32) (l2 : Nat) (hl2 : xl2 = nI l2) (l3 : Nat) (xl4 : Int32) (l4 : Nat) (hl4 : xl4 = nI l4) (xs0 : Int32) (s0 : Nat) (hs0 : xs0 = nI s0) (h : F70_85  l0 l1 l2 l3 l4 s0 T = some r) : mm_L 70 85 [.ref l0, .int xl1, .int xl2, .ref l3, .int xl4] [.int xs0] (toS z T) = some (tR z r) := by
  unfold F70_85 at h
  refine Eq.trans (e70_85 ..) ?_
  exact (fr_i hs0 h)
noncomputable def F70_82  (l0 : Nat) (l1 : Nat) (l2 : Nat) (l3 : Nat) (l4 : Nat) (s0 : Nat) (s1 : Nat) (s2 : Nat) (T : fS) : Option fR := (fKi true (fif (fch T s2 6) (F81_0 s2 s1 s0 T) none) (fun v0 T1 => F70_85  l0 l1 l2 l3 l4 v0 T1))
theorem G70_82 {z : Option mm_O} {T : fS} {r : fR}  (l0 : Nat) (xl1 : Int32) (l1 : Nat) (hl1 : xl1 = nI l1) (xl2 : Int32) (l2 : Nat) (hl2 : xl2 = nI l2) (l3 : Nat) (xl4 : Int32) (l4 : Nat) (hl4 : xl4 = nI l4) (s0 : Nat) (xs1 : Int32) (s1 : Nat) (hs1 : xs1 = nI s1) (s2 : Nat) (h : F70_82  l0 l1 l2 l3 l4 s0 s1 s2 T = some r) : mm_L 70 82 [.ref l0, .int xl1, .int xl2, .ref l3, .int xl4] [.ref s0, .int xs1, .ref s2] (toS z T) = some (tR z r) := by
  unfold F70_82 at h
  refine Eq.trans (e70_82 ..) ?_
  exact (fb_K0i (fun _ q => fb_mo (y := 81) ow_81 q (fun q => GM81 _ _ _ hs1 _ q)) h (fun v0 T1 h2 => G70_85  _ _ _ hl1 _ _ hl2 _ _ _ hl4 _ _ rfl h2))
noncomputable def F70_75  (l0 : Nat) (l1 : Nat) (l2 : Nat) (l3 : Nat) (l4 : Nat) (T : fS) : Option fR := (fbv (fgr T l3 2 4) (fun v0 => F70_82  l0 l1 l2 l3 l4 v0 l4 l0 T) ((none : Option fR)))
theorem G70_75 {z : Option mm_O} {T : fS} {r : fR}  (l0 : Nat) (xl1 : Int32) (l1 : Nat) (hl1 : xl1 = nI l1) (xl2 : Int32) (l2 : Nat) (hl2 : xl2 = nI l2) (l3 : Nat) (xl4 : Int32) (l4 : Nat) (hl4 : xl4 = nI l4) (h : F70_75  l0 l1 l2 l3 l4 T = some r) : mm_L 70 75 [.ref l0, .int xl1, .int xl2, .ref l3, .int xl4] [] (toS z T) = some (tR z r) := by
  unfold F70_75 at h
  refine Eq.trans (e70_75 ..) ?_
  exact (fb_v (fun _ q => fgr_ok q) h (fun v0 h2 => G70_82  _ _ _ hl1 _ _ hl2 _ _ _ hl4 _ _ _ hl4 _ h2) (fun h2 => fr_n h2))
noncomputable def F70_103  (l0 : Nat) (l1 : Nat) (l2 : Nat) (l3 : Nat) (l4 : Nat) (s0 : Nat) (T : fS) : Option fR := (some ((.inl (some (.inl s0)), T) : fR))
theorem G70_103 {z : Option mm_O} {T : fS} {r : fR}  (l0 : Nat) (xl1 : Int32) (l1 : Nat) (hl1 : xl1 = nI l1) (xl2 : Int32) (l2 : Nat) (hl2 : xl2 = nI l2) (l3 : Nat) (xl4 : Int32) (l4 : Nat) (hl4 : xl4 = nI l4) (xs0 : Int32) (s0 : Nat) (hs0 : xs0 = nI s0) (h : F70_103  l0 l1 l2 l3 l4 s0 T = some r) : mm_L 70 103 [.ref l0, .int xl1, .int xl2, .ref l3, .int xl4] [.int xs0] (toS z T) = some (tR z r) := by
  unfold F70_103 at h
  refine Eq.trans (e70_103 ..) ?_
  exact (fr_i hs0 h)
noncomputable def F70_99  (l0 : Nat) (l1 : Nat) (l2 : Nat) (l3 : Nat) (l4 : Nat) (s0 : Nat) (T : fS) : Option fR := (F70_103  l0 l1 l2 l3 l4 s0 T)
theorem G70_99 {z : Option mm_O} {T : fS} {r : fR}  (l0 : Nat) (xl1 : Int32) (l1 : Nat) (hl1 : xl1 = nI l1) (xl2 : Int32) (l2 : Nat) (hl2 : xl2 = nI l2) (l3 : Nat) (xl4 : Int32) (l4 : Nat) (hl4 : xl4 = nI l4) (xs0 : Int32) (s0 : Nat) (hs0 : xs0 = nI s0) (h : F70_99  l0 l1 l2 l3 l4 s0 T = some r) : mm_L 70 99 [.ref l0, .int xl1, .int xl2, .ref l3, .int xl4] [.int xs0] (toS z T) = some (tR z r) := by
  unfold F70_99 at h
  refine Eq.trans (e70_99 ..) ?_
  exact (G70_103  _ _ _ hl1 _ _ hl2 _ _ _ hl4 _ _ hs0 h)
noncomputable def F70_96  (l0 : Nat) (l1 : Nat) (l2 : Nat) (l3 : Nat) (l4 : Nat) (s0 : Nat) (s1 : Nat) (T : fS) : Option fR := (fKi true (fif (fch T s1 6) (F32_0 s1 s0 T) none) (fun v0 T1 => F70_99  l0 l1 l2 l3 l4 v0 T1))
theorem G70_96 {z : Option mm_O} {T : fS} {r : fR}  (l0 : Nat) (xl1 : Int32) (l1 : Nat) (hl1 : xl1 = nI l1) (xl2 : Int32) (l2 : Nat) (hl2 : xl2 = nI l2) (l3 : Nat) (xl4 : Int32) (l4 : Nat) (hl4 : xl4 = nI l4) (s0 : Nat) (s1 : Nat) (h : F70_96  l0 l1 l2 l3 l4 s0 s1 T = some r) : mm_L 70 96 [.ref l0, .int xl1, .int xl2, .ref l3, .int xl4] [.ref s0, .ref s1] (toS z T) = some (tR z r) := by
  unfold F70_96 at h
  refine Eq.trans (e70_96 ..) ?_
  exact (fb_K0i (fun _ q => fb_mo (y := 32) ow_32 q (fun q => GM32 _ _ q)) h (fun v0 T1 h2 => G70_99  _ _ _ hl1 _ _ hl2 _ _ _ hl4 _ _ rfl h2))
noncomputable def F70_91  (l0 : Nat) (l1 : Nat) (l2 : Nat) (l3 : Nat) (l4 : Nat) (T : fS) : Option fR := (fbv (fgr T l3 2 4) (fun v0 => F70_96  l0 l1 l2 l3 l4 v0 l0 T) ((none : Option fR)))
theorem G70_91 {z : Option mm_O} {T : fS} {r : fR}  (l0 : Nat) (xl1 : Int32) (l1 : Nat) (hl1 : xl1 = nI l1) (xl2 : Int32) (l2 : Nat) (hl2 : xl2 = nI l2) (l3 : Nat) (xl4 : Int32) (l4 : Nat) (hl4 : xl4 = nI l4) (h : F70_91  l0 l1 l2 l3 l4 T = some r) : mm_L 70 91 [.ref l0, .int xl1, .int xl2, .ref l3, .int xl4] [] (toS z T) = some (tR z r) := by
  unfold F70_91 at h
  refine Eq.trans (e70_91 ..) ?_
  exact (fb_v (fun _ q => fgr_ok q) h (fun v0 h2 => G70_96  _ _ _ hl1 _ _ hl2 _ _ _ hl4 _ _ h2) (fun h2 => fr_n h2))
noncomputable def F70_102  (l0 : Nat) (l1 : Nat) (l2 : Nat) (l3 : Nat) (l4 : Nat) (T : fS) : Option fR := (F70_103  l0 l1 l2 l3 l4 0 T)
theorem G70_102 {z : Option mm_O} {T : fS} {r : fR}  (l0 : Nat) (xl1 : Int32) (l1 : Nat) (hl1 : xl1 = nI l1) (xl2 : Int32) (l2 : Nat) (hl2 : xl2 = nI l2) (l3 : Nat) (xl4 : Int32) (l4 : Nat) (hl4 : xl4 = nI l4) (h : F70_102  l0 l1 l2 l3 l4 T = some r) : mm_L 70 102 [.ref l0, .int xl1, .int xl2, .ref l3, .int xl4] [] (toS z T) = some (tR z r) := by
  unfold F70_102 at h
  refine Eq.trans (e70_102 ..) ?_
  exact (G70_103  _ _ _ hl1 _ _ hl2 _ _ _ hl4 _ _ (rfl : (0 : Int32) = nI 0) h)
noncomputable def F70_86  (l0 : Nat) (l1 : Nat) (l2 : Nat) (l3 : Nat) (l4 : Nat) (T : fS) : Option fR := (fif (ieq l4 0) (F70_91  l0 l1 l2 l3 l4 T) (F70_102  l0 l1 l2 l3 l4 T))
theorem G70_86 {z : Option mm_O} {T : fS} {r : fR}  (l0 : Nat) (xl1 : Int32) (l1 : Nat) (hl1 : xl1 = nI l1) (xl2 : Int32) (l2 : Nat) (hl2 : xl2 = nI l2) (l3 : Nat) (xl4 : Int32) (l4 : Nat) (hl4 : xl4 = nI l4) (h : F70_86  l0 l1 l2 l3 l4 T = some r) : mm_L 70 86 [.ref l0, .int xl1, .int xl2, .ref l3, .int xl4] [] (toS z T) = some (tR z r) := by
  unfold F70_86 at h
  refine Eq.trans (e70_86 ..) ?_
  exact (fb_if (cj_eq hl4 (rfl : (0 : Int32) = nI 0)) h (fun h1 => (G70_91  _ _ _ hl1 _ _ hl2 _ _ _ hl4 h1)) (fun h1 => (G70_102  _ _ _ hl1 _ _ hl2 _ _ _ hl4 h1)))
noncomputable def F70_44  (l0 : Nat) (l1 : Nat) (l2 : Nat) (l3 : Nat) (s0 : Nat) (T : fS) : Option fR := (fif (ieq l2 0) (F70_72  l0 l1 l2 l3 s0 T) (fif (ieq l2 1) (F70_75  l0 l1 l2 l3 s0 T) (F70_86  l0 l1 l2 l3 s0 T)))
theorem G70_44 {z : Option mm_O} {T : fS} {r : fR}  (l0 : Nat) (xl1 : Int32) (l1 : Nat) (hl1 : xl1 = nI l1) (xl2 : Int32) (l2 : Nat) (hl2 : xl2 = nI l2) (l3 : Nat) (ul4 : Value) (xs0 : Int32) (s0 : Nat) (hs0 : xs0 = nI s0) (h : F70_44  l0 l1 l2 l3 s0 T = some r) : mm_L 70 44 [.ref l0, .int xl1, .int xl2, .ref l3, ul4] [.int xs0] (toS z T) = some (tR z r) := by
  unfold F70_44 at h
  refine Eq.trans (e70_44 ..) ?_
  exact (fb_if (cj_eq hl2 (rfl : (0 : Int32) = nI 0)) h (fun h1 => (G70_72  _ _ _ hl1 _ _ hl2 _ _ _ hs0 h1)) (fun h1 => (fb_if (cj_eq hl2 (rfl : (1 : Int32) = nI 1)) h1 (fun h1 => (G70_75  _ _ _ hl1 _ _ hl2 _ _ _ hs0 h1)) (fun h1 => (G70_86  _ _ _ hl1 _ _ hl2 _ _ _ hs0 h1)))))
noncomputable def F70_38  (l0 : Nat) (l1 : Nat) (l2 : Nat) (s0 : Nat) (T : fS) : Option fR := (fKi true (fif (fch T l0 6) (F80_0 l0 s0 T) none) (fun v0 T1 => F70_44  l0 l1 l2 s0 v0 T1))
theorem G70_38 {z : Option mm_O} {T : fS} {r : fR}  (l0 : Nat) (xl1 : Int32) (l1 : Nat) (hl1 : xl1 = nI l1) (xl2 : Int32) (l2 : Nat) (hl2 : xl2 = nI l2) (ul3 : Value) (ul4 : Value) (s0 : Nat) (h : F70_38  l0 l1 l2 s0 T = some r) : mm_L 70 38 [.ref l0, .int xl1, .int xl2, ul3, ul4] [.ref s0] (toS z T) = some (tR z r) := by
  unfold F70_38 at h
  refine Eq.trans (e70_38 ..) ?_
  exact (fb_K0i (fun _ q => fb_mo (y := 80) ow_80 q (fun q => GM80 _ _ q)) h (fun v0 T1 h2 => G70_44  _ _ _ hl1 _ _ hl2 _ _ _ _ rfl h2))
noncomputable def F70_35  (l0 : Nat) (l1 : Nat) (l2 : Nat) (s0 : Nat) (T : fS) : Option fR := (fif (fch T s0 2) (F70_38  l0 l1 l2 s0 T) none)
theorem G70_35 {z : Option mm_O} {T : fS} {r : fR}  (l0 : Nat) (xl1 : Int32) (l1 : Nat) (hl1 : xl1 = nI l1) (xl2 : Int32) (l2 : Nat) (hl2 : xl2 = nI l2) (ul3 : Value) (ul4 : Value) (s0 : Nat) (h : F70_35  l0 l1 l2 s0 T = some r) : mm_L 70 35 [.ref l0, .int xl1, .int xl2, ul3, ul4] [.ref s0] (toS z T) = some (tR z r) := by
  unfold F70_35 at h
  refine Eq.trans (e70_35 ..) ?_
  exact (fb_c h (fun h2 => G70_38  _ _ _ hl1 _ _ hl2 _ _ _ h2))
noncomputable def F70_31  (l0 : Nat) (l1 : Nat) (l2 : Nat) (s0 : Nat) (T : fS) : Option fR := (fbn (flg T s0 l1) (fun v0 => F70_35  l0 l1 l2 v0 T))
theorem G70_31 {z : Option mm_O} {T : fS} {r : fR}  (l0 : Nat) (xl1 : Int32) (l1 : Nat) (hl1 : xl1 = nI l1) (xl2 : Int32) (l2 : Nat) (hl2 : xl2 = nI l2) (ul3 : Value) (ul4 : Value) (s0 : Nat) (h : F70_31  l0 l1 l2 s0 T = some r) : mm_L 70 31 [.ref l0, .int xl1, .int xl2, ul3, ul4] [.ref s0] (toS z T) = some (tR z r) := by
  unfold F70_31 at h
  refine Eq.trans (e70_31 ..) ?_
  exact (fb_g (fun _ q => by rw [hl1]; exact flg_ok q) h (fun v0 h2 => G70_35  _ _ _ hl1 _ _ hl2 _ _ _ h2))
noncomputable def F70_27  (l0 : Nat) (l1 : Nat) (l2 : Nat) (T : fS) : Option fR := (fbv (fgr T l0 6 1) (fun v0 => F70_31  l0 l1 l2 v0 T) ((none : Option fR)))
theorem G70_27 {z : Option mm_O} {T : fS} {r : fR}  (l0 : Nat) (xl1 : Int32) (l1 : Nat) (hl1 : xl1 = nI l1) (xl2 : Int32) (l2 : Nat) (hl2 : xl2 = nI l2) (ul3 : Value) (ul4 : Value) (h : F70_27  l0 l1 l2 T = some r) : mm_L 70 27 [.ref l0, .int xl1, .int xl2, ul3, ul4] [] (toS z T) = some (tR z r) := by
  unfold F70_27 at h
  refine Eq.trans (e70_27 ..) ?_
  exact (fb_v (fun _ q => fgr_ok q) h (fun v0 h2 => G70_31  _ _ _ hl1 _ _ hl2 _ _ _ h2) (fun h2 => fr_n h2))
noncomputable def F70_23  (l0 : Nat) (l1 : Nat) (l2 : Nat) (T : fS) : Option fR := (fKv true (fif (fch T l0 6) (F59_0 l0  T) none) (fun T1 => F70_27  l0 l1 l2 T1))
theorem G70_23 {z : Option mm_O} {T : fS} {r : fR}  (l0 : Nat) (xl1 : Int32) (l1 : Nat) (hl1 : xl1 = nI l1) (xl2 : Int32) (l2 : Nat) (hl2 : xl2 = nI l2) (ul3 : Value) (ul4 : Value) (h : F70_23  l0 l1 l2 T = some r) : mm_L 70 23 [.ref l0, .int xl1, .int xl2, ul3, ul4] [] (toS z T) = some (tR z r) := by
  unfold F70_23 at h
  refine Eq.trans (e70_23 ..) ?_
  exact (fb_K0v (fun _ q => fb_mo (y := 59) ow_59 q (fun q => GM59 _  q)) h (fun T1 h2 => G70_27  _ _ _ hl1 _ _ hl2 _ _ h2))
noncomputable def F70_10  (l0 : Nat) (l1 : Nat) (l2 : Nat) (s0 : Nat) (T : fS) : Option fR := (fif (ieq s0 0) (F70_13  l0 l1 l2 T) (F70_23  l0 l1 l2 T))
theorem G70_10 {z : Option mm_O} {T : fS} {r : fR}  (l0 : Nat) (xl1 : Int32) (l1 : Nat) (hl1 : xl1 = nI l1) (xl2 : Int32) (l2 : Nat) (hl2 : xl2 = nI l2) (ul3 : Value) (ul4 : Value) (xs0 : Int32) (s0 : Nat) (hs0 : xs0 = nI s0) (h : F70_10  l0 l1 l2 s0 T = some r) : mm_L 70 10 [.ref l0, .int xl1, .int xl2, ul3, ul4] [.int xs0] (toS z T) = some (tR z r) := by
  unfold F70_10 at h
  refine Eq.trans (e70_10 ..) ?_
  exact (fb_if (cj_eq hs0 (rfl : (0 : Int32) = nI 0)) h (fun h1 => (G70_13  _ _ _ hl1 _ _ hl2 _ _ h1)) (fun h1 => (G70_23  _ _ _ hl1 _ _ hl2 _ _ h1)))
noncomputable def F70_5  (l0 : Nat) (l1 : Nat) (l2 : Nat) (T : fS) : Option fR := (fKi false (F101_0 l2 3 T) (fun v0 T1 => F70_10  l0 l1 l2 v0 T1))
theorem G70_5 {z : Option mm_O} {T : fS} {r : fR}  (l0 : Nat) (xl1 : Int32) (l1 : Nat) (hl1 : xl1 = nI l1) (xl2 : Int32) (l2 : Nat) (hl2 : xl2 = nI l2) (ul3 : Value) (ul4 : Value) (h : F70_5  l0 l1 l2 T = some r) : mm_L 70 5 [.ref l0, .int xl1, .int xl2, ul3, ul4] [] (toS z T) = some (tR z r) := by
  unfold F70_5 at h
  refine Eq.trans (e70_5 ..) ?_
  exact (fb_K2i (fun _ q => GM101 _ _ hl2 _ _ (rfl : (3 : Int32) = nI 3) q) h (fun v0 T1 h2 => G70_10  _ _ _ hl1 _ _ hl2 _ _ _ _ rfl h2))
noncomputable def F70_0  (l0 : Nat) (l1 : Nat) (l2 : Nat) (T : fS) : Option fR := (fKv true (fif (fch T l0 6) (F53_0 l0 l1 T) none) (fun T1 => F70_5  l0 l1 l2 T1))
theorem G70_0 {z : Option mm_O} {T : fS} {r : fR}  (l0 : Nat) (xl1 : Int32) (l1 : Nat) (hl1 : xl1 = nI l1) (xl2 : Int32) (l2 : Nat) (hl2 : xl2 = nI l2) (ul3 : Value) (ul4 : Value) (h : F70_0  l0 l1 l2 T = some r) : mm_L 70 0 [.ref l0, .int xl1, .int xl2, ul3, ul4] [] (toS z T) = some (tR z r) := by
  unfold F70_0 at h
  refine Eq.trans (e70_0 ..) ?_
  exact (fb_K0v (fun _ q => fb_mo (y := 53) ow_53 q (fun q => GM53 _ _ _ hl1 q)) h (fun T1 h2 => G70_5  _ _ _ hl1 _ _ hl2 _ _ h2))
theorem GM70 {z : Option mm_O} {T : fS} {r : fR} (l0 : Nat) (xl1 : Int32) (l1 : Nat) (hl1 : xl1 = nI l1) (xl2 : Int32) (l2 : Nat) (hl2 : xl2 = nI l2) (h : F70_0 l0 l1 l2 T = some r) : mm_M 70 [.ref l0, .int xl1, .int xl2] (toS z T) = some (tR z r) := Eq.trans (M_70 ..) (G70_0 l0 xl1 l1 hl1 xl2 l2 hl2 _ _ h)
-- 71: HandArchive.signAll
noncomputable def F71_90 (k8 : Nat → Nat → Nat → fS → Option fR) (l0 : Nat) (l1 : Nat) (l2 : Nat) (l3 : Nat) (T : fS) : Option fR := (k8 l0 l1 (iA l2 1) T)
theorem G71_90 {z : Option mm_O} {T : fS} {r : fR} (k8 : Nat → Nat → Nat → fS → Option fR) (hk8 : ∀ (l0 : Nat) (xl1 : Int32) (l1 : Nat) (hl1 : xl1 = nI l1) (xl2 : Int32) (l2 : Nat) (hl2 : xl2 = nI l2) (ul3 : Value) (T : fS) (r : fR), k8 l0 l1 l2 T = some r → mm_L 71 8 [.ref l0, .int xl1, .int xl2, ul3] [] (toS z T) = some (tR z r)) (l0 : Nat) (xl1 : Int32) (l1 : Nat) (hl1 : xl1 = nI l1) (xl2 : Int32) (l2 : Nat) (hl2 : xl2 = nI l2) (l3 : Nat) (h : F71_90 k8 l0 l1 l2 l3 T = some r) : mm_L 71 90 [.ref l0, .int xl1, .int xl2, .ref l3] [] (toS z T) = some (tR z r) := by
  unfold F71_90 at h
  refine Eq.trans (e71_90 ..) ?_
  exact (hk8 _ _ _ hl1 _ _ (iA_ok hl2 (rfl : (1 : Int32) = nI 1)) _ _ _ h)
noncomputable def F71_83 (k8 : Nat → Nat → Nat → fS → Option fR) (l0 : Nat) (l1 : Nat) (l2 : Nat) (l3 : Nat) (s0 : Nat) (s1 : Nat) (T : fS) : Option fR := (fbs (fsf T l3 2 7 (.inl (iA s1 s0))) (fun T1 => F71_90 k8 l0 (iA s1 s0) l2 l3 T1))
theorem G71_83 {z : Option mm_O} {T : fS} {r : fR} (k8 : Nat → Nat → Nat → fS → Option fR) (hk8 : ∀ (l0 : Nat) (xl1 : Int32) (l1 : Nat) (hl1 : xl1 = nI l1) (xl2 : Int32) (l2 : Nat) (hl2 : xl2 = nI l2) (ul3 : Value) (T : fS) (r : fR), k8 l0 l1 l2 T = some r → mm_L 71 8 [.ref l0, .int xl1, .int xl2, ul3] [] (toS z T) = some (tR z r)) (l0 : Nat) (xl1 : Int32) (l1 : Nat) (hl1 : xl1 = nI l1) (xl2 : Int32) (l2 : Nat) (hl2 : xl2 = nI l2) (l3 : Nat) (xs0 : Int32) (s0 : Nat) (hs0 : xs0 = nI s0) (xs1 : Int32) (s1 : Nat) (hs1 : xs1 = nI s1) (h : F71_83 k8 l0 l1 l2 l3 s0 s1 T = some r) : mm_L 71 83 [.ref l0, .int xl1, .int xl2, .ref l3] [.int xs0, .int xs1] (toS z T) = some (tR z r) := by
  unfold F71_83 at h
  refine Eq.trans (e71_83 ..) ?_
  exact (fb_s (fun _ q => (fun q => by rw [(iA_ok hs1 hs0)]; exact fsf_ok (v := .inl (iA s1 s0)) q) q) h (fun T1 h2 => G71_90 k8 hk8 _ _ _ (iA_ok hs1 hs0) _ _ hl2 _ h2))
noncomputable def F71_80 (k8 : Nat → Nat → Nat → fS → Option fR) (l0 : Nat) (l1 : Nat) (l2 : Nat) (l3 : Nat) (s0 : Nat) (s1 : Nat) (T : fS) : Option fR := (fKi true (F73_0 s0 T) (fun v0 T1 => F71_83 k8 l0 l1 l2 l3 v0 s1 T1))
theorem G71_80 {z : Option mm_O} {T : fS} {r : fR} (k8 : Nat → Nat → Nat → fS → Option fR) (hk8 : ∀ (l0 : Nat) (xl1 : Int32) (l1 : Nat) (hl1 : xl1 = nI l1) (xl2 : Int32) (l2 : Nat) (hl2 : xl2 = nI l2) (ul3 : Value) (T : fS) (r : fR), k8 l0 l1 l2 T = some r → mm_L 71 8 [.ref l0, .int xl1, .int xl2, ul3] [] (toS z T) = some (tR z r)) (l0 : Nat) (xl1 : Int32) (l1 : Nat) (hl1 : xl1 = nI l1) (xl2 : Int32) (l2 : Nat) (hl2 : xl2 = nI l2) (l3 : Nat) (s0 : Nat) (xs1 : Int32) (s1 : Nat) (hs1 : xs1 = nI s1) (h : F71_80 k8 l0 l1 l2 l3 s0 s1 T = some r) : mm_L 71 80 [.ref l0, .int xl1, .int xl2, .ref l3] [.ref s0, .int xs1] (toS z T) = some (tR z r) := by
  unfold F71_80 at h
  refine Eq.trans (e71_80 ..) ?_
  exact (fb_K0i (fun _ q => GM73 _ q) h (fun v0 T1 h2 => G71_83 k8 hk8 _ _ _ hl1 _ _ hl2 _ _ _ rfl _ _ hs1 h2))
noncomputable def F71_75 (k8 : Nat → Nat → Nat → fS → Option fR) (l0 : Nat) (l1 : Nat) (l2 : Nat) (l3 : Nat) (T : fS) : Option fR := (fbv (fgr T l3 2 4) (fun v0 => F71_80 k8 l0 l1 l2 l3 v0 l1 T) ((none : Option fR)))
theorem G71_75 {z : Option mm_O} {T : fS} {r : fR} (k8 : Nat → Nat → Nat → fS → Option fR) (hk8 : ∀ (l0 : Nat) (xl1 : Int32) (l1 : Nat) (hl1 : xl1 = nI l1) (xl2 : Int32) (l2 : Nat) (hl2 : xl2 = nI l2) (ul3 : Value) (T : fS) (r : fR), k8 l0 l1 l2 T = some r → mm_L 71 8 [.ref l0, .int xl1, .int xl2, ul3] [] (toS z T) = some (tR z r)) (l0 : Nat) (xl1 : Int32) (l1 : Nat) (hl1 : xl1 = nI l1) (xl2 : Int32) (l2 : Nat) (hl2 : xl2 = nI l2) (l3 : Nat) (h : F71_75 k8 l0 l1 l2 l3 T = some r) : mm_L 71 75 [.ref l0, .int xl1, .int xl2, .ref l3] [] (toS z T) = some (tR z r) := by
  unfold F71_75 at h
  refine Eq.trans (e71_75 ..) ?_
  exact (fb_v (fun _ q => fgr_ok q) h (fun v0 h2 => G71_80 k8 hk8 _ _ _ hl1 _ _ hl2 _ _ _ _ hl1 h2) (fun h2 => fr_n h2))
noncomputable def F71_70 (k8 : Nat → Nat → Nat → fS → Option fR) (l0 : Nat) (l1 : Nat) (l2 : Nat) (l3 : Nat) (T : fS) : Option fR := (fbs (fsf T l3 2 6 (.inl l1)) (fun T1 => F71_75 k8 l0 l1 l2 l3 T1))
theorem G71_70 {z : Option mm_O} {T : fS} {r : fR} (k8 : Nat → Nat → Nat → fS → Option fR) (hk8 : ∀ (l0 : Nat) (xl1 : Int32) (l1 : Nat) (hl1 : xl1 = nI l1) (xl2 : Int32) (l2 : Nat) (hl2 : xl2 = nI l2) (ul3 : Value) (T : fS) (r : fR), k8 l0 l1 l2 T = some r → mm_L 71 8 [.ref l0, .int xl1, .int xl2, ul3] [] (toS z T) = some (tR z r)) (l0 : Nat) (xl1 : Int32) (l1 : Nat) (hl1 : xl1 = nI l1) (xl2 : Int32) (l2 : Nat) (hl2 : xl2 = nI l2) (l3 : Nat) (h : F71_70 k8 l0 l1 l2 l3 T = some r) : mm_L 71 70 [.ref l0, .int xl1, .int xl2, .ref l3] [] (toS z T) = some (tR z r) := by
  unfold F71_70 at h
  refine Eq.trans (e71_70 ..) ?_
  exact (fb_s (fun _ q => (fun q => by rw [hl1]; exact fsf_ok (v := .inl l1) q) q) h (fun T1 h2 => G71_75 k8 hk8 _ _ _ hl1 _ _ hl2 _ h2))
noncomputable def F71_68 (k8 : Nat → Nat → Nat → fS → Option fR) (l0 : Nat) (l1 : Nat) (l2 : Nat) (l3 : Nat) (s0 : Nat) (s1 : Nat) (T : fS) : Option fR := (F71_70 k8 l0 (iA s1 s0) l2 l3 T)
theorem G71_68 {z : Option mm_O} {T : fS} {r : fR} (k8 : Nat → Nat → Nat → fS → Option fR) (hk8 : ∀ (l0 : Nat) (xl1 : Int32) (l1 : Nat) (hl1 : xl1 = nI l1) (xl2 : Int32) (l2 : Nat) (hl2 : xl2 = nI l2) (ul3 : Value) (T : fS) (r : fR), k8 l0 l1 l2 T = some r → mm_L 71 8 [.ref l0, .int xl1, .int xl2, ul3] [] (toS z T) = some (tR z r)) (l0 : Nat) (xl1 : Int32) (l1 : Nat) (hl1 : xl1 = nI l1) (xl2 : Int32) (l2 : Nat) (hl2 : xl2 = nI l2) (l3 : Nat) (xs0 : Int32) (s0 : Nat) (hs0 : xs0 = nI s0) (xs1 : Int32) (s1 : Nat) (hs1 : xs1 = nI s1) (h : F71_68 k8 l0 l1 l2 l3 s0 s1 T = some r) : mm_L 71 68 [.ref l0, .int xl1, .int xl2, .ref l3] [.int xs0, .int xs1] (toS z T) = some (tR z r) := by
  unfold F71_68 at h
  refine Eq.trans (e71_68 ..) ?_
  exact (G71_70 k8 hk8 _ _ _ (iA_ok hs1 hs0) _ _ hl2 _ h)
noncomputable def F71_65 (k8 : Nat → Nat → Nat → fS → Option fR) (l0 : Nat) (l1 : Nat) (l2 : Nat) (l3 : Nat) (s0 : Nat) (s1 : Nat) (s2 : Nat) (T : fS) : Option fR := (fKi true (F72_0 s1 s0 T) (fun v0 T1 => F71_68 k8 l0 l1 l2 l3 v0 s2 T1))
theorem G71_65 {z : Option mm_O} {T : fS} {r : fR} (k8 : Nat → Nat → Nat → fS → Option fR) (hk8 : ∀ (l0 : Nat) (xl1 : Int32) (l1 : Nat) (hl1 : xl1 = nI l1) (xl2 : Int32) (l2 : Nat) (hl2 : xl2 = nI l2) (ul3 : Value) (T : fS) (r : fR), k8 l0 l1 l2 T = some r → mm_L 71 8 [.ref l0, .int xl1, .int xl2, ul3] [] (toS z T) = some (tR z r)) (l0 : Nat) (xl1 : Int32) (l1 : Nat) (hl1 : xl1 = nI l1) (xl2 : Int32) (l2 : Nat) (hl2 : xl2 = nI l2) (l3 : Nat) (s0 : Nat) (s1 : Nat) (xs2 : Int32) (s2 : Nat) (hs2 : xs2 = nI s2) (h : F71_65 k8 l0 l1 l2 l3 s0 s1 s2 T = some r) : mm_L 71 65 [.ref l0, .int xl1, .int xl2, .ref l3] [.ref s0, .ref s1, .int xs2] (toS z T) = some (tR z r) := by
  unfold F71_65 at h
  refine Eq.trans (e71_65 ..) ?_
  exact (fb_K0i (fun _ q => GM72 _ _ q) h (fun v0 T1 h2 => G71_68 k8 hk8 _ _ _ hl1 _ _ hl2 _ _ _ rfl _ _ hs2 h2))
noncomputable def F71_61 (k8 : Nat → Nat → Nat → fS → Option fR) (l0 : Nat) (l1 : Nat) (l2 : Nat) (l3 : Nat) (s0 : Nat) (s1 : Nat) (T : fS) : Option fR := (fbv (fgr T l3 2 4) (fun v0 => F71_65 k8 l0 l1 l2 l3 v0 s0 s1 T) ((none : Option fR)))
theorem G71_61 {z : Option mm_O} {T : fS} {r : fR} (k8 : Nat → Nat → Nat → fS → Option fR) (hk8 : ∀ (l0 : Nat) (xl1 : Int32) (l1 : Nat) (hl1 : xl1 = nI l1) (xl2 : Int32) (l2 : Nat) (hl2 : xl2 = nI l2) (ul3 : Value) (T : fS) (r : fR), k8 l0 l1 l2 T = some r → mm_L 71 8 [.ref l0, .int xl1, .int xl2, ul3] [] (toS z T) = some (tR z r)) (l0 : Nat) (xl1 : Int32) (l1 : Nat) (hl1 : xl1 = nI l1) (xl2 : Int32) (l2 : Nat) (hl2 : xl2 = nI l2) (l3 : Nat) (s0 : Nat) (xs1 : Int32) (s1 : Nat) (hs1 : xs1 = nI s1) (h : F71_61 k8 l0 l1 l2 l3 s0 s1 T = some r) : mm_L 71 61 [.ref l0, .int xl1, .int xl2, .ref l3] [.ref s0, .int xs1] (toS z T) = some (tR z r) := by
  unfold F71_61 at h
  refine Eq.trans (e71_61 ..) ?_
  exact (fb_v (fun _ q => fgr_ok q) h (fun v0 h2 => G71_65 k8 hk8 _ _ _ hl1 _ _ hl2 _ _ _ _ _ hs1 h2) (fun h2 => fr_n h2))
noncomputable def F71_58 (k8 : Nat → Nat → Nat → fS → Option fR) (l0 : Nat) (l1 : Nat) (l2 : Nat) (l3 : Nat) (s0 : Nat) (s1 : Nat) (T : fS) : Option fR := (fbv (fgr T s0 2 4) (fun v0 => F71_61 k8 l0 l1 l2 l3 v0 s1 T) ((none : Option fR)))
theorem G71_58 {z : Option mm_O} {T : fS} {r : fR} (k8 : Nat → Nat → Nat → fS → Option fR) (hk8 : ∀ (l0 : Nat) (xl1 : Int32) (l1 : Nat) (hl1 : xl1 = nI l1) (xl2 : Int32) (l2 : Nat) (hl2 : xl2 = nI l2) (ul3 : Value) (T : fS) (r : fR), k8 l0 l1 l2 T = some r → mm_L 71 8 [.ref l0, .int xl1, .int xl2, ul3] [] (toS z T) = some (tR z r)) (l0 : Nat) (xl1 : Int32) (l1 : Nat) (hl1 : xl1 = nI l1) (xl2 : Int32) (l2 : Nat) (hl2 : xl2 = nI l2) (l3 : Nat) (s0 : Nat) (xs1 : Int32) (s1 : Nat) (hs1 : xs1 = nI s1) (h : F71_58 k8 l0 l1 l2 l3 s0 s1 T = some r) : mm_L 71 58 [.ref l0, .int xl1, .int xl2, .ref l3] [.ref s0, .int xs1] (toS z T) = some (tR z r) := by
  unfold F71_58 at h
  refine Eq.trans (e71_58 ..) ?_
  exact (fb_v (fun _ q => fgr_ok q) h (fun v0 h2 => G71_61 k8 hk8 _ _ _ hl1 _ _ hl2 _ _ _ _ hs1 h2) (fun h2 => fr_n h2))
noncomputable def F71_55 (k8 : Nat → Nat → Nat → fS → Option fR) (l0 : Nat) (l1 : Nat) (l2 : Nat) (l3 : Nat) (s0 : Nat) (s1 : Nat) (T : fS) : Option fR := (fif (fch T s0 2) (F71_58 k8 l0 l1 l2 l3 s0 s1 T) none)
theorem G71_55 {z : Option mm_O} {T : fS} {r : fR} (k8 : Nat → Nat → Nat → fS → Option fR) (hk8 : ∀ (l0 : Nat) (xl1 : Int32) (l1 : Nat) (hl1 : xl1 = nI l1) (xl2 : Int32) (l2 : Nat) (hl2 : xl2 = nI l2) (ul3 : Value) (T : fS) (r : fR), k8 l0 l1 l2 T = some r → mm_L 71 8 [.ref l0, .int xl1, .int xl2, ul3] [] (toS z T) = some (tR z r)) (l0 : Nat) (xl1 : Int32) (l1 : Nat) (hl1 : xl1 = nI l1) (xl2 : Int32) (l2 : Nat) (hl2 : xl2 = nI l2) (l3 : Nat) (s0 : Nat) (xs1 : Int32) (s1 : Nat) (hs1 : xs1 = nI s1) (h : F71_55 k8 l0 l1 l2 l3 s0 s1 T = some r) : mm_L 71 55 [.ref l0, .int xl1, .int xl2, .ref l3] [.ref s0, .int xs1] (toS z T) = some (tR z r) := by
  unfold F71_55 at h
  refine Eq.trans (e71_55 ..) ?_
  exact (fb_c h (fun h2 => G71_58 k8 hk8 _ _ _ hl1 _ _ hl2 _ _ _ _ hs1 h2))
noncomputable def F71_49 (k8 : Nat → Nat → Nat → fS → Option fR) (l0 : Nat) (l1 : Nat) (l2 : Nat) (l3 : Nat) (s0 : Nat) (s1 : Nat) (T : fS) : Option fR := (fbn (flg T s0 (iS l2 1)) (fun v0 => F71_55 k8 l0 l1 l2 l3 v0 s1 T))
theorem G71_49 {z : Option mm_O} {T : fS} {r : fR} (k8 : Nat → Nat → Nat → fS → Option fR) (hk8 : ∀ (l0 : Nat) (xl1 : Int32) (l1 : Nat) (hl1 : xl1 = nI l1) (xl2 : Int32) (l2 : Nat) (hl2 : xl2 = nI l2) (ul3 : Value) (T : fS) (r : fR), k8 l0 l1 l2 T = some r → mm_L 71 8 [.ref l0, .int xl1, .int xl2, ul3] [] (toS z T) = some (tR z r)) (l0 : Nat) (xl1 : Int32) (l1 : Nat) (hl1 : xl1 = nI l1) (xl2 : Int32) (l2 : Nat) (hl2 : xl2 = nI l2) (l3 : Nat) (s0 : Nat) (xs1 : Int32) (s1 : Nat) (hs1 : xs1 = nI s1) (h : F71_49 k8 l0 l1 l2 l3 s0 s1 T = some r) : mm_L 71 49 [.ref l0, .int xl1, .int xl2, .ref l3] [.ref s0, .int xs1] (toS z T) = some (tR z r) := by
  unfold F71_49 at h
  refine Eq.trans (e71_49 ..) ?_
  exact (fb_g (fun _ q => by rw [(iS_ok hl2 (rfl : (1 : Int32) = nI 1))]; exact flg_ok q) h (fun v0 h2 => G71_55 k8 hk8 _ _ _ hl1 _ _ hl2 _ _ _ _ hs1 h2))
noncomputable def F71_44 (k8 : Nat → Nat → Nat → fS → Option fR) (l0 : Nat) (l1 : Nat) (l2 : Nat) (l3 : Nat) (T : fS) : Option fR := (fbv (fgr T l0 6 1) (fun v0 => F71_49 k8 l0 l1 l2 l3 v0 l1 T) ((none : Option fR)))
theorem G71_44 {z : Option mm_O} {T : fS} {r : fR} (k8 : Nat → Nat → Nat → fS → Option fR) (hk8 : ∀ (l0 : Nat) (xl1 : Int32) (l1 : Nat) (hl1 : xl1 = nI l1) (xl2 : Int32) (l2 : Nat) (hl2 : xl2 = nI l2) (ul3 : Value) (T : fS) (r : fR), k8 l0 l1 l2 T = some r → mm_L 71 8 [.ref l0, .int xl1, .int xl2, ul3] [] (toS z T) = some (tR z r)) (l0 : Nat) (xl1 : Int32) (l1 : Nat) (hl1 : xl1 = nI l1) (xl2 : Int32) (l2 : Nat) (hl2 : xl2 = nI l2) (l3 : Nat) (h : F71_44 k8 l0 l1 l2 l3 T = some r) : mm_L 71 44 [.ref l0, .int xl1, .int xl2, .ref l3] [] (toS z T) = some (tR z r) := by
  unfold F71_44 at h
  refine Eq.trans (e71_44 ..) ?_
  exact (fb_v (fun _ q => fgr_ok q) h (fun v0 h2 => G71_49 k8 hk8 _ _ _ hl1 _ _ hl2 _ _ _ _ hl1 h2) (fun h2 => fr_n h2))
noncomputable def F71_41 (k8 : Nat → Nat → Nat → fS → Option fR) (l0 : Nat) (l1 : Nat) (l2 : Nat) (l3 : Nat) (s0 : Nat) (T : fS) : Option fR := (fif (ieq s0 0) (F71_70 k8 l0 l1 l2 l3 T) (F71_44 k8 l0 l1 l2 l3 T))
theorem G71_41 {z : Option mm_O} {T : fS} {r : fR} (k8 : Nat → Nat → Nat → fS → Option fR) (hk8 : ∀ (l0 : Nat) (xl1 : Int32) (l1 : Nat) (hl1 : xl1 = nI l1) (xl2 : Int32) (l2 : Nat) (hl2 : xl2 = nI l2) (ul3 : Value) (T : fS) (r : fR), k8 l0 l1 l2 T = some r → mm_L 71 8 [.ref l0, .int xl1, .int xl2, ul3] [] (toS z T) = some (tR z r)) (l0 : Nat) (xl1 : Int32) (l1 : Nat) (hl1 : xl1 = nI l1) (xl2 : Int32) (l2 : Nat) (hl2 : xl2 = nI l2) (l3 : Nat) (xs0 : Int32) (s0 : Nat) (hs0 : xs0 = nI s0) (h : F71_41 k8 l0 l1 l2 l3 s0 T = some r) : mm_L 71 41 [.ref l0, .int xl1, .int xl2, .ref l3] [.int xs0] (toS z T) = some (tR z r) := by
  unfold F71_41 at h
  refine Eq.trans (e71_41 ..) ?_
  exact (fb_if (cj_eq hs0 (rfl : (0 : Int32) = nI 0)) h (fun h1 => (G71_70 k8 hk8 _ _ _ hl1 _ _ hl2 _ h1)) (fun h1 => (G71_44 k8 hk8 _ _ _ hl1 _ _ hl2 _ h1)))
noncomputable def F71_36 (k8 : Nat → Nat → Nat → fS → Option fR) (l0 : Nat) (l1 : Nat) (l2 : Nat) (l3 : Nat) (T : fS) : Option fR := (fKi true (fif (fch T l0 6) (F67_0 l0 l2 T) none) (fun v0 T1 => F71_41 k8 l0 l1 l2 l3 v0 T1))
theorem G71_36 {z : Option mm_O} {T : fS} {r : fR} (k8 : Nat → Nat → Nat → fS → Option fR) (hk8 : ∀ (l0 : Nat) (xl1 : Int32) (l1 : Nat) (hl1 : xl1 = nI l1) (xl2 : Int32) (l2 : Nat) (hl2 : xl2 = nI l2) (ul3 : Value) (T : fS) (r : fR), k8 l0 l1 l2 T = some r → mm_L 71 8 [.ref l0, .int xl1, .int xl2, ul3] [] (toS z T) = some (tR z r)) (l0 : Nat) (xl1 : Int32) (l1 : Nat) (hl1 : xl1 = nI l1) (xl2 : Int32) (l2 : Nat) (hl2 : xl2 = nI l2) (l3 : Nat) (h : F71_36 k8 l0 l1 l2 l3 T = some r) : mm_L 71 36 [.ref l0, .int xl1, .int xl2, .ref l3] [] (toS z T) = some (tR z r) := by
  unfold F71_36 at h
  refine Eq.trans (e71_36 ..) ?_
  exact (fb_K0i (fun _ q => fb_mo (y := 67) ow_67 q (fun q => GM67 _ _ _ hl2 q)) h (fun v0 T1 h2 => G71_41 k8 hk8 _ _ _ hl1 _ _ hl2 _ _ _ rfl h2))
noncomputable def F71_30 (k8 : Nat → Nat → Nat → fS → Option fR) (l0 : Nat) (l1 : Nat) (l2 : Nat) (s0 : Nat) (T : fS) : Option fR := (fbs (fsf T s0 2 5 (.inl l1)) (fun T1 => F71_36 k8 l0 l1 l2 s0 T1))
theorem G71_30 {z : Option mm_O} {T : fS} {r : fR} (k8 : Nat → Nat → Nat → fS → Option fR) (hk8 : ∀ (l0 : Nat) (xl1 : Int32) (l1 : Nat) (hl1 : xl1 = nI l1) (xl2 : Int32) (l2 : Nat) (hl2 : xl2 = nI l2) (ul3 : Value) (T : fS) (r : fR), k8 l0 l1 l2 T = some r → mm_L 71 8 [.ref l0, .int xl1, .int xl2, ul3] [] (toS z T) = some (tR z r)) (l0 : Nat) (xl1 : Int32) (l1 : Nat) (hl1 : xl1 = nI l1) (xl2 : Int32) (l2 : Nat) (hl2 : xl2 = nI l2) (ul3 : Value) (s0 : Nat) (h : F71_30 k8 l0 l1 l2 s0 T = some r) : mm_L 71 30 [.ref l0, .int xl1, .int xl2, ul3] [.ref s0] (toS z T) = some (tR z r) := by
  unfold F71_30 at h
  refine Eq.trans (e71_30 ..) ?_
  exact (fb_s (fun _ q => (fun q => by rw [hl1]; exact fsf_ok (v := .inl l1) q) q) h (fun T1 h2 => G71_36 k8 hk8 _ _ _ hl1 _ _ hl2 _ h2))
noncomputable def F71_27 (k8 : Nat → Nat → Nat → fS → Option fR) (l0 : Nat) (l1 : Nat) (l2 : Nat) (s0 : Nat) (T : fS) : Option fR := (fif (fch T s0 2) (F71_30 k8 l0 l1 l2 s0 T) none)
theorem G71_27 {z : Option mm_O} {T : fS} {r : fR} (k8 : Nat → Nat → Nat → fS → Option fR) (hk8 : ∀ (l0 : Nat) (xl1 : Int32) (l1 : Nat) (hl1 : xl1 = nI l1) (xl2 : Int32) (l2 : Nat) (hl2 : xl2 = nI l2) (ul3 : Value) (T : fS) (r : fR), k8 l0 l1 l2 T = some r → mm_L 71 8 [.ref l0, .int xl1, .int xl2, ul3] [] (toS z T) = some (tR z r)) (l0 : Nat) (xl1 : Int32) (l1 : Nat) (hl1 : xl1 = nI l1) (xl2 : Int32) (l2 : Nat) (hl2 : xl2 = nI l2) (ul3 : Value) (s0 : Nat) (h : F71_27 k8 l0 l1 l2 s0 T = some r) : mm_L 71 27 [.ref l0, .int xl1, .int xl2, ul3] [.ref s0] (toS z T) = some (tR z r) := by
  unfold F71_27 at h
  refine Eq.trans (e71_27 ..) ?_
  exact (fb_c h (fun h2 => G71_30 k8 hk8 _ _ _ hl1 _ _ hl2 _ _ h2))
noncomputable def F71_23 (k8 : Nat → Nat → Nat → fS → Option fR) (l0 : Nat) (l1 : Nat) (l2 : Nat) (s0 : Nat) (T : fS) : Option fR := (fbn (flg T s0 l2) (fun v0 => F71_27 k8 l0 l1 l2 v0 T))
theorem G71_23 {z : Option mm_O} {T : fS} {r : fR} (k8 : Nat → Nat → Nat → fS → Option fR) (hk8 : ∀ (l0 : Nat) (xl1 : Int32) (l1 : Nat) (hl1 : xl1 = nI l1) (xl2 : Int32) (l2 : Nat) (hl2 : xl2 = nI l2) (ul3 : Value) (T : fS) (r : fR), k8 l0 l1 l2 T = some r → mm_L 71 8 [.ref l0, .int xl1, .int xl2, ul3] [] (toS z T) = some (tR z r)) (l0 : Nat) (xl1 : Int32) (l1 : Nat) (hl1 : xl1 = nI l1) (xl2 : Int32) (l2 : Nat) (hl2 : xl2 = nI l2) (ul3 : Value) (s0 : Nat) (h : F71_23 k8 l0 l1 l2 s0 T = some r) : mm_L 71 23 [.ref l0, .int xl1, .int xl2, ul3] [.ref s0] (toS z T) = some (tR z r) := by
  unfold F71_23 at h
  refine Eq.trans (e71_23 ..) ?_
  exact (fb_g (fun _ q => by rw [hl2]; exact flg_ok q) h (fun v0 h2 => G71_27 k8 hk8 _ _ _ hl1 _ _ hl2 _ _ h2))
noncomputable def F71_19 (k8 : Nat → Nat → Nat → fS → Option fR) (l0 : Nat) (l1 : Nat) (l2 : Nat) (T : fS) : Option fR := (fbv (fgr T l0 6 1) (fun v0 => F71_23 k8 l0 l1 l2 v0 T) ((none : Option fR)))
theorem G71_19 {z : Option mm_O} {T : fS} {r : fR} (k8 : Nat → Nat → Nat → fS → Option fR) (hk8 : ∀ (l0 : Nat) (xl1 : Int32) (l1 : Nat) (hl1 : xl1 = nI l1) (xl2 : Int32) (l2 : Nat) (hl2 : xl2 = nI l2) (ul3 : Value) (T : fS) (r : fR), k8 l0 l1 l2 T = some r → mm_L 71 8 [.ref l0, .int xl1, .int xl2, ul3] [] (toS z T) = some (tR z r)) (l0 : Nat) (xl1 : Int32) (l1 : Nat) (hl1 : xl1 = nI l1) (xl2 : Int32) (l2 : Nat) (hl2 : xl2 = nI l2) (ul3 : Value) (h : F71_19 k8 l0 l1 l2 T = some r) : mm_L 71 19 [.ref l0, .int xl1, .int xl2, ul3] [] (toS z T) = some (tR z r) := by
  unfold F71_19 at h
  refine Eq.trans (e71_19 ..) ?_
  exact (fb_v (fun _ q => fgr_ok q) h (fun v0 h2 => G71_23 k8 hk8 _ _ _ hl1 _ _ hl2 _ _ h2) (fun h2 => fr_n h2))
noncomputable def F71_96  (l0 : Nat) (l1 : Nat) (l2 : Nat) (T : fS) : Option fR := (some ((.inl none, T) : fR))
theorem G71_96 {z : Option mm_O} {T : fS} {r : fR}  (l0 : Nat) (xl1 : Int32) (l1 : Nat) (hl1 : xl1 = nI l1) (xl2 : Int32) (l2 : Nat) (hl2 : xl2 = nI l2) (ul3 : Value) (h : F71_96  l0 l1 l2 T = some r) : mm_L 71 96 [.ref l0, .int xl1, .int xl2, ul3] [] (toS z T) = some (tR z r) := by
  unfold F71_96 at h
  refine Eq.trans (e71_96 ..) ?_
  exact (fr_v h)
noncomputable def F71_16 (k8 : Nat → Nat → Nat → fS → Option fR) (l0 : Nat) (l1 : Nat) (l2 : Nat) (s0 : Nat) (s1 : Nat) (T : fS) : Option fR := (fif (ile s0 s1) (F71_96  l0 l1 l2 T) (F71_19 k8 l0 l1 l2 T))
theorem G71_16 {z : Option mm_O} {T : fS} {r : fR} (k8 : Nat → Nat → Nat → fS → Option fR) (hk8 : ∀ (l0 : Nat) (xl1 : Int32) (l1 : Nat) (hl1 : xl1 = nI l1) (xl2 : Int32) (l2 : Nat) (hl2 : xl2 = nI l2) (ul3 : Value) (T : fS) (r : fR), k8 l0 l1 l2 T = some r → mm_L 71 8 [.ref l0, .int xl1, .int xl2, ul3] [] (toS z T) = some (tR z r)) (l0 : Nat) (xl1 : Int32) (l1 : Nat) (hl1 : xl1 = nI l1) (xl2 : Int32) (l2 : Nat) (hl2 : xl2 = nI l2) (ul3 : Value) (xs0 : Int32) (s0 : Nat) (hs0 : xs0 = nI s0) (xs1 : Int32) (s1 : Nat) (hs1 : xs1 = nI s1) (h : F71_16 k8 l0 l1 l2 s0 s1 T = some r) : mm_L 71 16 [.ref l0, .int xl1, .int xl2, ul3] [.int xs0, .int xs1] (toS z T) = some (tR z r) := by
  unfold F71_16 at h
  refine Eq.trans (e71_16 ..) ?_
  exact (fb_if (cj_le hs0 hs1) h (fun h1 => (G71_96  _ _ _ hl1 _ _ hl2 _ h1)) (fun h1 => (G71_19 k8 hk8 _ _ _ hl1 _ _ hl2 _ h1)))
noncomputable def F71_13 (k8 : Nat → Nat → Nat → fS → Option fR) (l0 : Nat) (l1 : Nat) (l2 : Nat) (s0 : Nat) (s1 : Nat) (T : fS) : Option fR := (fbn (flz T s0) (fun v0 => F71_16 k8 l0 l1 l2 v0 s1 T))
theorem G71_13 {z : Option mm_O} {T : fS} {r : fR} (k8 : Nat → Nat → Nat → fS → Option fR) (hk8 : ∀ (l0 : Nat) (xl1 : Int32) (l1 : Nat) (hl1 : xl1 = nI l1) (xl2 : Int32) (l2 : Nat) (hl2 : xl2 = nI l2) (ul3 : Value) (T : fS) (r : fR), k8 l0 l1 l2 T = some r → mm_L 71 8 [.ref l0, .int xl1, .int xl2, ul3] [] (toS z T) = some (tR z r)) (l0 : Nat) (xl1 : Int32) (l1 : Nat) (hl1 : xl1 = nI l1) (xl2 : Int32) (l2 : Nat) (hl2 : xl2 = nI l2) (ul3 : Value) (s0 : Nat) (xs1 : Int32) (s1 : Nat) (hs1 : xs1 = nI s1) (h : F71_13 k8 l0 l1 l2 s0 s1 T = some r) : mm_L 71 13 [.ref l0, .int xl1, .int xl2, ul3] [.ref s0, .int xs1] (toS z T) = some (tR z r) := by
  unfold F71_13 at h
  refine Eq.trans (e71_13 ..) ?_
  exact (fb_n (fun _ q => flz_ok q) h (fun v0 h2 => G71_16 k8 hk8 _ _ _ hl1 _ _ hl2 _ _ _ rfl _ _ hs1 h2))
noncomputable def F71_8 (k8 : Nat → Nat → Nat → fS → Option fR) (l0 : Nat) (l1 : Nat) (l2 : Nat) (T : fS) : Option fR := (fbv (fgr T l0 6 1) (fun v0 => F71_13 k8 l0 l1 l2 v0 l2 T) ((none : Option fR)))
theorem G71_8 {z : Option mm_O} {T : fS} {r : fR} (k8 : Nat → Nat → Nat → fS → Option fR) (hk8 : ∀ (l0 : Nat) (xl1 : Int32) (l1 : Nat) (hl1 : xl1 = nI l1) (xl2 : Int32) (l2 : Nat) (hl2 : xl2 = nI l2) (ul3 : Value) (T : fS) (r : fR), k8 l0 l1 l2 T = some r → mm_L 71 8 [.ref l0, .int xl1, .int xl2, ul3] [] (toS z T) = some (tR z r)) (l0 : Nat) (xl1 : Int32) (l1 : Nat) (hl1 : xl1 = nI l1) (xl2 : Int32) (l2 : Nat) (hl2 : xl2 = nI l2) (ul3 : Value) (h : F71_8 k8 l0 l1 l2 T = some r) : mm_L 71 8 [.ref l0, .int xl1, .int xl2, ul3] [] (toS z T) = some (tR z r) := by
  unfold F71_8 at h
  refine Eq.trans (e71_8 ..) ?_
  exact (fb_v (fun _ q => fgr_ok q) h (fun v0 h2 => G71_13 k8 hk8 _ _ _ hl1 _ _ hl2 _ _ _ _ hl2 h2) (fun h2 => fr_n h2))
noncomputable def H71_8  (n : Nat) : Nat → Nat → Nat → fS → Option fR := Nat.rec (motive := fun _ => Nat → Nat → Nat → fS → Option fR) (fun _ _ _ _ => none) (fun _ ih => F71_8 ih) n
theorem HG71_8 {z : Option mm_O}  : ∀ (n : Nat) (l0 : Nat) (xl1 : Int32) (l1 : Nat) (hl1 : xl1 = nI l1) (xl2 : Int32) (l2 : Nat) (hl2 : xl2 = nI l2) (ul3 : Value) {T : fS} {r : fR}, H71_8  n l0 l1 l2 T = some r → mm_L 71 8 [.ref l0, .int xl1, .int xl2, ul3] [] (toS z T) = some (tR z r) := by
  intro n
  induction n with
  | zero =>
    intro l0 xl1 l1 hl1 xl2 l2 hl2 ul3 T r h
    exact fr_n h
  | succ n ih =>
    intro l0 xl1 l1 hl1 xl2 l2 hl2 ul3 T r h
    exact G71_8 (H71_8  n) (fun l0 xl1 l1 hl1 xl2 l2 hl2 ul3 T r h => ih l0 xl1 l1 hl1 xl2 l2 hl2 ul3 h) l0 xl1 l1 hl1 xl2 l2 hl2 ul3 h
noncomputable def F71_4  (l0 : Nat) (T : fS) : Option fR := (H71_8  300 l0 0 0 T)
theorem G71_4 {z : Option mm_O} {T : fS} {r : fR}  (l0 : Nat) (ul1 : Value) (ul2 : Value) (ul3 : Value) (h : F71_4  l0 T = some r) : mm_L 71 4 [.ref l0, ul1, ul2, ul3] [] (toS z T) = some (tR z r) := by
  unfold F71_4 at h
  refine Eq.trans (e71_4 ..) ?_
  exact (HG71_8  300 _ _ _ (rfl : (0 : Int32) = nI 0) _ _ (rfl : (0 : Int32) = nI 0) _ h)
noncomputable def F71_0  (l0 : Nat) (T : fS) : Option fR := (fKv true (fif (fch T l0 6) (F59_0 l0  T) none) (fun T1 => F71_4  l0 T1))
theorem G71_0 {z : Option mm_O} {T : fS} {r : fR}  (l0 : Nat) (ul1 : Value) (ul2 : Value) (ul3 : Value) (h : F71_0  l0 T = some r) : mm_L 71 0 [.ref l0, ul1, ul2, ul3] [] (toS z T) = some (tR z r) := by
  unfold F71_0 at h
  refine Eq.trans (e71_0 ..) ?_
  exact (fb_K0v (fun _ q => fb_mo (y := 59) ow_59 q (fun q => GM59 _  q)) h (fun T1 h2 => G71_4  _ _ _ _ h2))
theorem GM71 {z : Option mm_O} {T : fS} {r : fR} (l0 : Nat) (h : F71_0 l0 T = some r) : mm_M 71 [.ref l0] (toS z T) = some (tR z r) := Eq.trans (M_71 ..) (G71_0 l0 _ _ _ h)
-- 86: HandArchive.allow
noncomputable def F86_26  (l0 : Nat) (l1 : Nat) (l2 : Nat) (l3 : Nat) (T : fS) : Option fR := (some ((.inl (some (.inl 0)), T) : fR))
theorem G86_26 {z : Option mm_O} {T : fS} {r : fR}  (l0 : Nat) (xl1 : Int32) (l1 : Nat) (hl1 : xl1 = nI l1) (xl2 : Int32) (l2 : Nat) (hl2 : xl2 = nI l2) (xl3 : Int32) (l3 : Nat) (hl3 : xl3 = nI l3) (h : F86_26  l0 l1 l2 l3 T = some r) : mm_L 86 26 [.ref l0, .int xl1, .int xl2, .int xl3] [] (toS z T) = some (tR z r) := by
  unfold F86_26 at h
  refine Eq.trans (e86_26 ..) ?_
  exact (fr_i (rfl : (0 : Int32) = nI 0) h)
noncomputable def F86_19  (l0 : Nat) (l1 : Nat) (l2 : Nat) (l3 : Nat) (s0 : Nat) (s1 : Nat) (s2 : Nat) (T : fS) : Option fR := (fbs (fas T s2 s1 0 (iF2 (fun x y => x &&& y) s0 (iF2 (fun x y => x ^^^ y) (iF2 (fun x y => x <<< y) 1 (iF2 (fun x y => x &&& y) l1 31)) 4294967295))) (fun T1 => F86_26  l0 l1 l2 l3 T1))
theorem G86_19 {z : Option mm_O} {T : fS} {r : fR}  (l0 : Nat) (xl1 : Int32) (l1 : Nat) (hl1 : xl1 = nI l1) (xl2 : Int32) (l2 : Nat) (hl2 : xl2 = nI l2) (xl3 : Int32) (l3 : Nat) (hl3 : xl3 = nI l3) (xs0 : Int32) (s0 : Nat) (hs0 : xs0 = nI s0) (xs1 : Int32) (s1 : Nat) (hs1 : xs1 = nI s1) (s2 : Nat) (h : F86_19  l0 l1 l2 l3 s0 s1 s2 T = some r) : mm_L 86 19 [.ref l0, .int xl1, .int xl2, .int xl3] [.int xs0, .int xs1, .ref s2] (toS z T) = some (tR z r) := by
  unfold F86_19 at h
  refine Eq.trans (e86_19 ..) ?_
  exact (fb_s (fun _ q => (fun q => by rw [show (xs1 : Int32) = nI s1 from hs1, show ((xs0 &&& ((1 <<< (xl1 &&& 31)) ^^^ (-1))) : Int32) = nI (iF2 (fun x y => x &&& y) s0 (iF2 (fun x y => x ^^^ y) (iF2 (fun x y => x <<< y) 1 (iF2 (fun x y => x &&& y) l1 31)) 4294967295)) from (iF2_ok (f := (fun x y => x &&& y)) hs0 (iF2_ok (f := (fun x y => x ^^^ y)) (iF2_ok (f := (fun x y => x <<< y)) (rfl : (1 : Int32) = nI 1) (iF2_ok (f := (fun x y => x &&& y)) hl1 (rfl : (31 : Int32) = nI 31))) (by decide : (-1 : Int32) = nI 4294967295)))]; exact fas_ok q) q) h (fun T1 h2 => G86_26  _ _ _ hl1 _ _ hl2 _ _ hl3 h2))
noncomputable def F86_16  (l0 : Nat) (l1 : Nat) (l2 : Nat) (l3 : Nat) (s0 : Nat) (T : fS) : Option fR := (fbn (fal T s0 l2 false) (fun v0 => F86_19  l0 l1 l2 l3 v0 l2 s0 T))
theorem G86_16 {z : Option mm_O} {T : fS} {r : fR}  (l0 : Nat) (xl1 : Int32) (l1 : Nat) (hl1 : xl1 = nI l1) (xl2 : Int32) (l2 : Nat) (hl2 : xl2 = nI l2) (xl3 : Int32) (l3 : Nat) (hl3 : xl3 = nI l3) (s0 : Nat) (h : F86_16  l0 l1 l2 l3 s0 T = some r) : mm_L 86 16 [.ref l0, .int xl1, .int xl2, .int xl3] [.ref s0] (toS z T) = some (tR z r) := by
  unfold F86_16 at h
  refine Eq.trans (e86_16 ..) ?_
  exact (fb_n (fun _ q => by rw [hl2]; exact fal_ok q) h (fun v0 h2 => G86_19  _ _ _ hl1 _ _ hl2 _ _ hl3 _ _ rfl _ _ hl2 _ h2))
noncomputable def F86_12  (l0 : Nat) (l1 : Nat) (l2 : Nat) (l3 : Nat) (T : fS) : Option fR := (fbv (fgr T l0 6 5) (fun v0 => F86_16  l0 l1 l2 l3 v0 T) ((none : Option fR)))
theorem G86_12 {z : Option mm_O} {T : fS} {r : fR}  (l0 : Nat) (xl1 : Int32) (l1 : Nat) (hl1 : xl1 = nI l1) (xl2 : Int32) (l2 : Nat) (hl2 : xl2 = nI l2) (xl3 : Int32) (l3 : Nat) (hl3 : xl3 = nI l3) (h : F86_12  l0 l1 l2 l3 T = some r) : mm_L 86 12 [.ref l0, .int xl1, .int xl2, .int xl3] [] (toS z T) = some (tR z r) := by
  unfold F86_12 at h
  refine Eq.trans (e86_12 ..) ?_
  exact (fb_v (fun _ q => fgr_ok q) h (fun v0 h2 => G86_16  _ _ _ hl1 _ _ hl2 _ _ hl3 _ h2) (fun h2 => fr_n h2))
noncomputable def F86_46  (l0 : Nat) (l1 : Nat) (l2 : Nat) (l3 : Nat) (s0 : Nat) (T : fS) : Option fR := (some ((.inl (some (.inl s0)), T) : fR))
theorem G86_46 {z : Option mm_O} {T : fS} {r : fR}  (l0 : Nat) (xl1 : Int32) (l1 : Nat) (hl1 : xl1 = nI l1) (xl2 : Int32) (l2 : Nat) (hl2 : xl2 = nI l2) (xl3 : Int32) (l3 : Nat) (hl3 : xl3 = nI l3) (xs0 : Int32) (s0 : Nat) (hs0 : xs0 = nI s0) (h : F86_46  l0 l1 l2 l3 s0 T = some r) : mm_L 86 46 [.ref l0, .int xl1, .int xl2, .int xl3] [.int xs0] (toS z T) = some (tR z r) := by
  unfold F86_46 at h
  refine Eq.trans (e86_46 ..) ?_
  exact (fr_i hs0 h)
noncomputable def F86_40  (l0 : Nat) (l1 : Nat) (l2 : Nat) (l3 : Nat) (T : fS) : Option fR := (fKi true (fif (fch T l0 6) (F92_0 l0 l1 l2 T) none) (fun v0 T1 => F86_46  l0 l1 l2 l3 v0 T1))
theorem G86_40 {z : Option mm_O} {T : fS} {r : fR}  (l0 : Nat) (xl1 : Int32) (l1 : Nat) (hl1 : xl1 = nI l1) (xl2 : Int32) (l2 : Nat) (hl2 : xl2 = nI l2) (xl3 : Int32) (l3 : Nat) (hl3 : xl3 = nI l3) (h : F86_40  l0 l1 l2 l3 T = some r) : mm_L 86 40 [.ref l0, .int xl1, .int xl2, .int xl3] [] (toS z T) = some (tR z r) := by
  unfold F86_40 at h
  refine Eq.trans (e86_40 ..) ?_
  exact (fb_K0i (fun _ q => fb_mo (y := 92) ow_92 q (fun q => GM92 _ _ _ hl1 _ _ hl2 q)) h (fun v0 T1 h2 => G86_46  _ _ _ hl1 _ _ hl2 _ _ hl3 _ _ rfl h2))
noncomputable def F86_35  (l0 : Nat) (l1 : Nat) (l2 : Nat) (l3 : Nat) (s0 : Nat) (s1 : Nat) (s2 : Nat) (T : fS) : Option fR := (fbs (fas T s2 s1 0 (iF2 (fun x y => x ||| y) s0 (iF2 (fun x y => x <<< y) 1 (iF2 (fun x y => x &&& y) l1 31)))) (fun T1 => F86_40  l0 l1 l2 l3 T1))
theorem G86_35 {z : Option mm_O} {T : fS} {r : fR}  (l0 : Nat) (xl1 : Int32) (l1 : Nat) (hl1 : xl1 = nI l1) (xl2 : Int32) (l2 : Nat) (hl2 : xl2 = nI l2) (xl3 : Int32) (l3 : Nat) (hl3 : xl3 = nI l3) (xs0 : Int32) (s0 : Nat) (hs0 : xs0 = nI s0) (xs1 : Int32) (s1 : Nat) (hs1 : xs1 = nI s1) (s2 : Nat) (h : F86_35  l0 l1 l2 l3 s0 s1 s2 T = some r) : mm_L 86 35 [.ref l0, .int xl1, .int xl2, .int xl3] [.int xs0, .int xs1, .ref s2] (toS z T) = some (tR z r) := by
  unfold F86_35 at h
  refine Eq.trans (e86_35 ..) ?_
  exact (fb_s (fun _ q => (fun q => by rw [show (xs1 : Int32) = nI s1 from hs1, show ((xs0 ||| (1 <<< (xl1 &&& 31))) : Int32) = nI (iF2 (fun x y => x ||| y) s0 (iF2 (fun x y => x <<< y) 1 (iF2 (fun x y => x &&& y) l1 31))) from (iF2_ok (f := (fun x y => x ||| y)) hs0 (iF2_ok (f := (fun x y => x <<< y)) (rfl : (1 : Int32) = nI 1) (iF2_ok (f := (fun x y => x &&& y)) hl1 (rfl : (31 : Int32) = nI 31))))]; exact fas_ok q) q) h (fun T1 h2 => G86_40  _ _ _ hl1 _ _ hl2 _ _ hl3 h2))
noncomputable def F86_32  (l0 : Nat) (l1 : Nat) (l2 : Nat) (l3 : Nat) (s0 : Nat) (T : fS) : Option fR := (fbn (fal T s0 l2 false) (fun v0 => F86_35  l0 l1 l2 l3 v0 l2 s0 T))
theorem G86_32 {z : Option mm_O} {T : fS} {r : fR}  (l0 : Nat) (xl1 : Int32) (l1 : Nat) (hl1 : xl1 = nI l1) (xl2 : Int32) (l2 : Nat) (hl2 : xl2 = nI l2) (xl3 : Int32) (l3 : Nat) (hl3 : xl3 = nI l3) (s0 : Nat) (h : F86_32  l0 l1 l2 l3 s0 T = some r) : mm_L 86 32 [.ref l0, .int xl1, .int xl2, .int xl3] [.ref s0] (toS z T) = some (tR z r) := by
  unfold F86_32 at h
  refine Eq.trans (e86_32 ..) ?_
  exact (fb_n (fun _ q => by rw [hl2]; exact fal_ok q) h (fun v0 h2 => G86_35  _ _ _ hl1 _ _ hl2 _ _ hl3 _ _ rfl _ _ hl2 _ h2))
noncomputable def F86_28  (l0 : Nat) (l1 : Nat) (l2 : Nat) (l3 : Nat) (T : fS) : Option fR := (fbv (fgr T l0 6 5) (fun v0 => F86_32  l0 l1 l2 l3 v0 T) ((none : Option fR)))
theorem G86_28 {z : Option mm_O} {T : fS} {r : fR}  (l0 : Nat) (xl1 : Int32) (l1 : Nat) (hl1 : xl1 = nI l1) (xl2 : Int32) (l2 : Nat) (hl2 : xl2 = nI l2) (xl3 : Int32) (l3 : Nat) (hl3 : xl3 = nI l3) (h : F86_28  l0 l1 l2 l3 T = some r) : mm_L 86 28 [.ref l0, .int xl1, .int xl2, .int xl3] [] (toS z T) = some (tR z r) := by
  unfold F86_28 at h
  refine Eq.trans (e86_28 ..) ?_
  exact (fb_v (fun _ q => fgr_ok q) h (fun v0 h2 => G86_32  _ _ _ hl1 _ _ hl2 _ _ hl3 _ h2) (fun h2 => fr_n h2))
noncomputable def F86_8  (l0 : Nat) (l1 : Nat) (l2 : Nat) (l3 : Nat) (T : fS) : Option fR := (fif (ieq l3 0) (F86_28  l0 l1 l2 l3 T) (F86_12  l0 l1 l2 l3 T))
theorem G86_8 {z : Option mm_O} {T : fS} {r : fR}  (l0 : Nat) (xl1 : Int32) (l1 : Nat) (hl1 : xl1 = nI l1) (xl2 : Int32) (l2 : Nat) (hl2 : xl2 = nI l2) (xl3 : Int32) (l3 : Nat) (hl3 : xl3 = nI l3) (h : F86_8  l0 l1 l2 l3 T = some r) : mm_L 86 8 [.ref l0, .int xl1, .int xl2, .int xl3] [] (toS z T) = some (tR z r) := by
  unfold F86_8 at h
  refine Eq.trans (e86_8 ..) ?_
  exact (fb_if (cj_eq hl3 (rfl : (0 : Int32) = nI 0)) h (fun h1 => (G86_28  _ _ _ hl1 _ _ hl2 _ _ hl3 h1)) (fun h1 => (G86_12  _ _ _ hl1 _ _ hl2 _ _ hl3 h1)))
noncomputable def F86_4  (l0 : Nat) (l1 : Nat) (l2 : Nat) (l3 : Nat) (T : fS) : Option fR := (fKv true (F98_0 l2 T) (fun T1 => F86_8  l0 l1 l2 l3 T1))
theorem G86_4 {z : Option mm_O} {T : fS} {r : fR}  (l0 : Nat) (xl1 : Int32) (l1 : Nat) (hl1 : xl1 = nI l1) (xl2 : Int32) (l2 : Nat) (hl2 : xl2 = nI l2) (xl3 : Int32) (l3 : Nat) (hl3 : xl3 = nI l3) (h : F86_4  l0 l1 l2 l3 T = some r) : mm_L 86 4 [.ref l0, .int xl1, .int xl2, .int xl3] [] (toS z T) = some (tR z r) := by
  unfold F86_4 at h
  refine Eq.trans (e86_4 ..) ?_
  exact (fb_K0v (fun _ q => GM98 _ _ hl2 q) h (fun T1 h2 => G86_8  _ _ _ hl1 _ _ hl2 _ _ hl3 h2))
noncomputable def F86_0  (l0 : Nat) (l1 : Nat) (l2 : Nat) (l3 : Nat) (T : fS) : Option fR := (fKv true (F97_0 l1 T) (fun T1 => F86_4  l0 l1 l2 l3 T1))
theorem G86_0 {z : Option mm_O} {T : fS} {r : fR}  (l0 : Nat) (xl1 : Int32) (l1 : Nat) (hl1 : xl1 = nI l1) (xl2 : Int32) (l2 : Nat) (hl2 : xl2 = nI l2) (xl3 : Int32) (l3 : Nat) (hl3 : xl3 = nI l3) (h : F86_0  l0 l1 l2 l3 T = some r) : mm_L 86 0 [.ref l0, .int xl1, .int xl2, .int xl3] [] (toS z T) = some (tR z r) := by
  unfold F86_0 at h
  refine Eq.trans (e86_0 ..) ?_
  exact (fb_K0v (fun _ q => GM97 _ _ hl1 q) h (fun T1 h2 => G86_4  _ _ _ hl1 _ _ hl2 _ _ hl3 h2))
theorem GM86 {z : Option mm_O} {T : fS} {r : fR} (l0 : Nat) (xl1 : Int32) (l1 : Nat) (hl1 : xl1 = nI l1) (xl2 : Int32) (l2 : Nat) (hl2 : xl2 = nI l2) (xl3 : Int32) (l3 : Nat) (hl3 : xl3 = nI l3) (h : F86_0 l0 l1 l2 l3 T = some r) : mm_M 86 [.ref l0, .int xl1, .int xl2, .int xl3] (toS z T) = some (tR z r) := Eq.trans (M_86 ..) (G86_0 l0 xl1 l1 hl1 xl2 l2 hl2 xl3 l3 hl3 h)
