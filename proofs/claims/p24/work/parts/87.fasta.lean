-- 1: HandArchive$Clip.comesFrom
noncomputable def F1_17  (l0 : Nat) (l1 : Nat) (s0 : Nat) (T : fS) : Option fR := (fif (Bool.rec (motive := fun _ => Bool) (ieq s0 1) true (ieq s0 0)) (some ((.inl (some (.inl s0)), T) : fR)) (none : Option fR))
theorem G1_17 {z : Option mm_O} {T : fS} {r : fR}  (l0 : Nat) (xl1 : Int32) (l1 : Nat) (hl1 : xl1 = nI l1) (xs0 : Int32) (s0 : Nat) (hs0 : xs0 = nI s0) (h : F1_17  l0 l1 s0 T = some r) : mm_L 1 17 [.ref l0, .int xl1] [.int xs0] (toS z T) = some (tR z r) := by
  unfold F1_17 at h
  refine Eq.trans (e1_17 ..) ?_
  exact (fb_if (cj_01 hs0) h (fun h1 => (fr_i hs0 h1)) (fun h1 => (fr_n h1)))
noncomputable def F1_12  (l0 : Nat) (l1 : Nat) (T : fS) : Option fR := (F1_17  l0 l1 1 T)
theorem G1_12 {z : Option mm_O} {T : fS} {r : fR}  (l0 : Nat) (xl1 : Int32) (l1 : Nat) (hl1 : xl1 = nI l1) (h : F1_12  l0 l1 T = some r) : mm_L 1 12 [.ref l0, .int xl1] [] (toS z T) = some (tR z r) := by
  unfold F1_12 at h
  refine Eq.trans (e1_12 ..) ?_
  exact (G1_17  _ _ _ hl1 _ _ (rfl : (1 : Int32) = nI 1) h)
noncomputable def F1_16  (l0 : Nat) (l1 : Nat) (T : fS) : Option fR := (F1_17  l0 l1 0 T)
theorem G1_16 {z : Option mm_O} {T : fS} {r : fR}  (l0 : Nat) (xl1 : Int32) (l1 : Nat) (hl1 : xl1 = nI l1) (h : F1_16  l0 l1 T = some r) : mm_L 1 16 [.ref l0, .int xl1] [] (toS z T) = some (tR z r) := by
  unfold F1_16 at h
  refine Eq.trans (e1_16 ..) ?_
  exact (G1_17  _ _ _ hl1 _ _ (rfl : (0 : Int32) = nI 0) h)
noncomputable def F1_4  (l0 : Nat) (l1 : Nat) (s0 : Nat) (T : fS) : Option fR := (fif (ieq (iF2 (fun x y => x &&& y) (iF2 (fun x y => x >>> y) s0 (iF2 (fun x y => x &&& y) l1 31)) 1) 1) (F1_12  l0 l1 T) (F1_16  l0 l1 T))
theorem G1_4 {z : Option mm_O} {T : fS} {r : fR}  (l0 : Nat) (xl1 : Int32) (l1 : Nat) (hl1 : xl1 = nI l1) (xs0 : Int32) (s0 : Nat) (hs0 : xs0 = nI s0) (h : F1_4  l0 l1 s0 T = some r) : mm_L 1 4 [.ref l0, .int xl1] [.int xs0] (toS z T) = some (tR z r) := by
  unfold F1_4 at h
  refine Eq.trans (e1_4 ..) ?_
  exact (fb_if (cj_eq (iF2_ok (f := (fun x y => x &&& y)) (iF2_ok (f := (fun x y => x >>> y)) hs0 (iF2_ok (f := (fun x y => x &&& y)) hl1 (rfl : (31 : Int32) = nI 31))) (rfl : (1 : Int32) = nI 1)) (rfl : (1 : Int32) = nI 1)) h (fun h1 => (G1_12  _ _ _ hl1 h1)) (fun h1 => (G1_16  _ _ _ hl1 h1)))
noncomputable def F1_0  (l0 : Nat) (l1 : Nat) (T : fS) : Option fR := (fbn (fgi T l0 0 0) (fun v0 => F1_4  l0 l1 v0 T))
theorem G1_0 {z : Option mm_O} {T : fS} {r : fR}  (l0 : Nat) (xl1 : Int32) (l1 : Nat) (hl1 : xl1 = nI l1) (h : F1_0  l0 l1 T = some r) : mm_L 1 0 [.ref l0, .int xl1] [] (toS z T) = some (tR z r) := by
  unfold F1_0 at h
  refine Eq.trans (e1_0 ..) ?_
  exact (fb_n (fun _ q => fgi_ok q) h (fun v0 h2 => G1_4  _ _ _ hl1 _ _ rfl h2))
theorem GM1 {z : Option mm_O} {T : fS} {r : fR} (l0 : Nat) (xl1 : Int32) (l1 : Nat) (hl1 : xl1 = nI l1) (h : F1_0 l0 l1 T = some r) : mm_M 1 [.ref l0, .int xl1] (toS z T) = some (tR z r) := Eq.trans (M_1 ..) (G1_0 l0 xl1 l1 hl1 h)
-- 2: HandArchive$Clip.isMadeOfGone
noncomputable def F2_39  (l0 : Nat) (s0 : Nat) (T : fS) : Option fR := (fif (Bool.rec (motive := fun _ => Bool) (ieq s0 1) true (ieq s0 0)) (some ((.inl (some (.inl s0)), T) : fR)) (none : Option fR))
theorem G2_39 {z : Option mm_O} {T : fS} {r : fR}  (l0 : Nat) (xs0 : Int32) (s0 : Nat) (hs0 : xs0 = nI s0) (h : F2_39  l0 s0 T = some r) : mm_L 2 39 [.ref l0] [.int xs0] (toS z T) = some (tR z r) := by
  unfold F2_39 at h
  refine Eq.trans (e2_39 ..) ?_
  exact (fb_if (cj_01 hs0) h (fun h1 => (fr_i hs0 h1)) (fun h1 => (fr_n h1)))
noncomputable def F2_34  (l0 : Nat) (T : fS) : Option fR := (F2_39  l0 1 T)
theorem G2_34 {z : Option mm_O} {T : fS} {r : fR}  (l0 : Nat) (h : F2_34  l0 T = some r) : mm_L 2 34 [.ref l0] [] (toS z T) = some (tR z r) := by
  unfold F2_34 at h
  refine Eq.trans (e2_34 ..) ?_
  exact (G2_39  _ _ _ (rfl : (1 : Int32) = nI 1) h)
noncomputable def F2_38  (l0 : Nat) (T : fS) : Option fR := (F2_39  l0 0 T)
theorem G2_38 {z : Option mm_O} {T : fS} {r : fR}  (l0 : Nat) (h : F2_38  l0 T = some r) : mm_L 2 38 [.ref l0] [] (toS z T) = some (tR z r) := by
  unfold F2_38 at h
  refine Eq.trans (e2_38 ..) ?_
  exact (G2_39  _ _ _ (rfl : (0 : Int32) = nI 0) h)
noncomputable def F2_31  (l0 : Nat) (s0 : Nat) (T : fS) : Option fR := (fif (ieq s0 0) (F2_38  l0 T) (F2_34  l0 T))
theorem G2_31 {z : Option mm_O} {T : fS} {r : fR}  (l0 : Nat) (xs0 : Int32) (s0 : Nat) (hs0 : xs0 = nI s0) (h : F2_31  l0 s0 T = some r) : mm_L 2 31 [.ref l0] [.int xs0] (toS z T) = some (tR z r) := by
  unfold F2_31 at h
  refine Eq.trans (e2_31 ..) ?_
  exact (fb_if (cj_eq hs0 (rfl : (0 : Int32) = nI 0)) h (fun h1 => (G2_38  _ h1)) (fun h1 => (G2_34  _ h1)))
noncomputable def F2_28  (l0 : Nat) (s0 : Nat) (T : fS) : Option fR := (fbn (fgi T s0 0 5) (fun v0 => F2_31  l0 v0 T))
theorem G2_28 {z : Option mm_O} {T : fS} {r : fR}  (l0 : Nat) (s0 : Nat) (h : F2_28  l0 s0 T = some r) : mm_L 2 28 [.ref l0] [.ref s0] (toS z T) = some (tR z r) := by
  unfold F2_28 at h
  refine Eq.trans (e2_28 ..) ?_
  exact (fb_n (fun _ q => fgi_ok q) h (fun v0 h2 => G2_31  _ _ _ rfl h2))
noncomputable def F2_24  (l0 : Nat) (T : fS) : Option fR := (fbv (fgr T l0 0 3) (fun v0 => F2_28  l0 v0 T) ((none : Option fR)))
theorem G2_24 {z : Option mm_O} {T : fS} {r : fR}  (l0 : Nat) (h : F2_24  l0 T = some r) : mm_L 2 24 [.ref l0] [] (toS z T) = some (tR z r) := by
  unfold F2_24 at h
  refine Eq.trans (e2_24 ..) ?_
  exact (fb_v (fun _ q => fgr_ok q) h (fun v0 h2 => G2_28  _ _ h2) (fun h2 => fr_n h2))
noncomputable def F2_21n  (l0 : Nat) (T : fS) : Option fR := (F2_38  l0 T)
theorem G2_21n {z : Option mm_O} {T : fS} {r : fR}  (l0 : Nat) (h : F2_21n  l0 T = some r) : mm_L 2 21 [.ref l0] [.null] (toS z T) = some (tR z r) := by
  unfold F2_21n at h
  refine Eq.trans (e2_21n ..) ?_
  exact (G2_38  _ h)
noncomputable def F2_21  (l0 : Nat) (s0 : Nat) (T : fS) : Option fR := (F2_24  l0 T)
theorem G2_21 {z : Option mm_O} {T : fS} {r : fR}  (l0 : Nat) (s0 : Nat) (h : F2_21  l0 s0 T = some r) : mm_L 2 21 [.ref l0] [.ref s0] (toS z T) = some (tR z r) := by
  unfold F2_21 at h
  refine Eq.trans (e2_21 ..) ?_
  exact (G2_24  _ h)
noncomputable def F2_17  (l0 : Nat) (T : fS) : Option fR := (fbv (fgr T l0 0 3) (fun v0 => F2_21  l0 v0 T) (F2_21n  l0 T))
theorem G2_17 {z : Option mm_O} {T : fS} {r : fR}  (l0 : Nat) (h : F2_17  l0 T = some r) : mm_L 2 17 [.ref l0] [] (toS z T) = some (tR z r) := by
  unfold F2_17 at h
  refine Eq.trans (e2_17 ..) ?_
  exact (fb_v (fun _ q => fgr_ok q) h (fun v0 h2 => G2_21  _ _ h2) (fun h2 => G2_21n  _ h2))
noncomputable def F2_14  (l0 : Nat) (s0 : Nat) (T : fS) : Option fR := (fif (ieq s0 0) (F2_17  l0 T) (F2_34  l0 T))
theorem G2_14 {z : Option mm_O} {T : fS} {r : fR}  (l0 : Nat) (xs0 : Int32) (s0 : Nat) (hs0 : xs0 = nI s0) (h : F2_14  l0 s0 T = some r) : mm_L 2 14 [.ref l0] [.int xs0] (toS z T) = some (tR z r) := by
  unfold F2_14 at h
  refine Eq.trans (e2_14 ..) ?_
  exact (fb_if (cj_eq hs0 (rfl : (0 : Int32) = nI 0)) h (fun h1 => (G2_17  _ h1)) (fun h1 => (G2_34  _ h1)))
noncomputable def F2_11  (l0 : Nat) (s0 : Nat) (T : fS) : Option fR := (fbn (fgi T s0 0 5) (fun v0 => F2_14  l0 v0 T))
theorem G2_11 {z : Option mm_O} {T : fS} {r : fR}  (l0 : Nat) (s0 : Nat) (h : F2_11  l0 s0 T = some r) : mm_L 2 11 [.ref l0] [.ref s0] (toS z T) = some (tR z r) := by
  unfold F2_11 at h
  refine Eq.trans (e2_11 ..) ?_
  exact (fb_n (fun _ q => fgi_ok q) h (fun v0 h2 => G2_14  _ _ _ rfl h2))
noncomputable def F2_7  (l0 : Nat) (T : fS) : Option fR := (fbv (fgr T l0 0 2) (fun v0 => F2_11  l0 v0 T) ((none : Option fR)))
theorem G2_7 {z : Option mm_O} {T : fS} {r : fR}  (l0 : Nat) (h : F2_7  l0 T = some r) : mm_L 2 7 [.ref l0] [] (toS z T) = some (tR z r) := by
  unfold F2_7 at h
  refine Eq.trans (e2_7 ..) ?_
  exact (fb_v (fun _ q => fgr_ok q) h (fun v0 h2 => G2_11  _ _ h2) (fun h2 => fr_n h2))
noncomputable def F2_4n  (l0 : Nat) (T : fS) : Option fR := (F2_17  l0 T)
theorem G2_4n {z : Option mm_O} {T : fS} {r : fR}  (l0 : Nat) (h : F2_4n  l0 T = some r) : mm_L 2 4 [.ref l0] [.null] (toS z T) = some (tR z r) := by
  unfold F2_4n at h
  refine Eq.trans (e2_4n ..) ?_
  exact (G2_17  _ h)
noncomputable def F2_4  (l0 : Nat) (s0 : Nat) (T : fS) : Option fR := (F2_7  l0 T)
theorem G2_4 {z : Option mm_O} {T : fS} {r : fR}  (l0 : Nat) (s0 : Nat) (h : F2_4  l0 s0 T = some r) : mm_L 2 4 [.ref l0] [.ref s0] (toS z T) = some (tR z r) := by
  unfold F2_4 at h
  refine Eq.trans (e2_4 ..) ?_
  exact (G2_7  _ h)
noncomputable def F2_0  (l0 : Nat) (T : fS) : Option fR := (fbv (fgr T l0 0 2) (fun v0 => F2_4  l0 v0 T) (F2_4n  l0 T))
theorem G2_0 {z : Option mm_O} {T : fS} {r : fR}  (l0 : Nat) (h : F2_0  l0 T = some r) : mm_L 2 0 [.ref l0] [] (toS z T) = some (tR z r) := by
  unfold F2_0 at h
  refine Eq.trans (e2_0 ..) ?_
  exact (fb_v (fun _ q => fgr_ok q) h (fun v0 h2 => G2_4  _ _ h2) (fun h2 => G2_4n  _ h2))
theorem GM2 {z : Option mm_O} {T : fS} {r : fR} (l0 : Nat) (h : F2_0 l0 T = some r) : mm_M 2 [.ref l0] (toS z T) = some (tR z r) := Eq.trans (M_2 ..) (G2_0 l0 h)
-- 7: HandArchive$Hands.become
noncomputable def F7_56  (l0 : Nat) (l1 : Nat) (T : fS) : Option fR := (some ((.inl none, T) : fR))
theorem G7_56 {z : Option mm_O} {T : fS} {r : fR}  (l0 : Nat) (l1 : Nat) (h : F7_56  l0 l1 T = some r) : mm_L 7 56 [.ref l0, .ref l1] [] (toS z T) = some (tR z r) := by
  unfold F7_56 at h
  refine Eq.trans (e7_56 ..) ?_
  exact (fr_v h)
noncomputable def F7_53  (l0 : Nat) (l1 : Nat) (s0 : Nat) (s1 : Nat) (T : fS) : Option fR := (fbs (fsf T s1 1 6 (.inl s0)) (fun T1 => F7_56  l0 l1 T1))
theorem G7_53 {z : Option mm_O} {T : fS} {r : fR}  (l0 : Nat) (l1 : Nat) (xs0 : Int32) (s0 : Nat) (hs0 : xs0 = nI s0) (s1 : Nat) (h : F7_53  l0 l1 s0 s1 T = some r) : mm_L 7 53 [.ref l0, .ref l1] [.int xs0, .ref s1] (toS z T) = some (tR z r) := by
  unfold F7_53 at h
  refine Eq.trans (e7_53 ..) ?_
  exact (fb_s (fun _ q => (fun q => by rw [hs0]; exact fsf_ok (v := .inl s0) q) q) h (fun T1 h2 => G7_56  _ _ h2))
noncomputable def F7_48  (l0 : Nat) (l1 : Nat) (T : fS) : Option fR := (fbn (fgi T l1 1 6) (fun v0 => F7_53  l0 l1 v0 l0 T))
theorem G7_48 {z : Option mm_O} {T : fS} {r : fR}  (l0 : Nat) (l1 : Nat) (h : F7_48  l0 l1 T = some r) : mm_L 7 48 [.ref l0, .ref l1] [] (toS z T) = some (tR z r) := by
  unfold F7_48 at h
  refine Eq.trans (e7_48 ..) ?_
  exact (fb_n (fun _ q => fgi_ok q) h (fun v0 h2 => G7_53  _ _ _ _ rfl _ h2))
noncomputable def F7_45  (l0 : Nat) (l1 : Nat) (s0 : Nat) (s1 : Nat) (T : fS) : Option fR := (fbs (fsf T s1 1 5 (.inl s0)) (fun T1 => F7_48  l0 l1 T1))
theorem G7_45 {z : Option mm_O} {T : fS} {r : fR}  (l0 : Nat) (l1 : Nat) (xs0 : Int32) (s0 : Nat) (hs0 : xs0 = nI s0) (s1 : Nat) (h : F7_45  l0 l1 s0 s1 T = some r) : mm_L 7 45 [.ref l0, .ref l1] [.int xs0, .ref s1] (toS z T) = some (tR z r) := by
  unfold F7_45 at h
  refine Eq.trans (e7_45 ..) ?_
  exact (fb_s (fun _ q => (fun q => by rw [hs0]; exact fsf_ok (v := .inl s0) q) q) h (fun T1 h2 => G7_48  _ _ h2))
noncomputable def F7_40  (l0 : Nat) (l1 : Nat) (T : fS) : Option fR := (fbn (fgi T l1 1 5) (fun v0 => F7_45  l0 l1 v0 l0 T))
theorem G7_40 {z : Option mm_O} {T : fS} {r : fR}  (l0 : Nat) (l1 : Nat) (h : F7_40  l0 l1 T = some r) : mm_L 7 40 [.ref l0, .ref l1] [] (toS z T) = some (tR z r) := by
  unfold F7_40 at h
  refine Eq.trans (e7_40 ..) ?_
  exact (fb_n (fun _ q => fgi_ok q) h (fun v0 h2 => G7_45  _ _ _ _ rfl _ h2))
noncomputable def F7_37  (l0 : Nat) (l1 : Nat) (s0 : Nat) (s1 : Nat) (T : fS) : Option fR := (fbs (fsf T s1 1 4 (.inl s0)) (fun T1 => F7_40  l0 l1 T1))
theorem G7_37 {z : Option mm_O} {T : fS} {r : fR}  (l0 : Nat) (l1 : Nat) (xs0 : Int32) (s0 : Nat) (hs0 : xs0 = nI s0) (s1 : Nat) (h : F7_37  l0 l1 s0 s1 T = some r) : mm_L 7 37 [.ref l0, .ref l1] [.int xs0, .ref s1] (toS z T) = some (tR z r) := by
  unfold F7_37 at h
  refine Eq.trans (e7_37 ..) ?_
  exact (fb_s (fun _ q => (fun q => by rw [hs0]; exact fsf_ok (v := .inl s0) q) q) h (fun T1 h2 => G7_40  _ _ h2))
noncomputable def F7_32  (l0 : Nat) (l1 : Nat) (T : fS) : Option fR := (fbn (fgi T l1 1 4) (fun v0 => F7_37  l0 l1 v0 l0 T))
theorem G7_32 {z : Option mm_O} {T : fS} {r : fR}  (l0 : Nat) (l1 : Nat) (h : F7_32  l0 l1 T = some r) : mm_L 7 32 [.ref l0, .ref l1] [] (toS z T) = some (tR z r) := by
  unfold F7_32 at h
  refine Eq.trans (e7_32 ..) ?_
  exact (fb_n (fun _ q => fgi_ok q) h (fun v0 h2 => G7_37  _ _ _ _ rfl _ h2))
noncomputable def F7_29  (l0 : Nat) (l1 : Nat) (s0 : Nat) (s1 : Nat) (T : fS) : Option fR := (fbs (fsf T s1 1 3 (.inl s0)) (fun T1 => F7_32  l0 l1 T1))
theorem G7_29 {z : Option mm_O} {T : fS} {r : fR}  (l0 : Nat) (l1 : Nat) (xs0 : Int32) (s0 : Nat) (hs0 : xs0 = nI s0) (s1 : Nat) (h : F7_29  l0 l1 s0 s1 T = some r) : mm_L 7 29 [.ref l0, .ref l1] [.int xs0, .ref s1] (toS z T) = some (tR z r) := by
  unfold F7_29 at h
  refine Eq.trans (e7_29 ..) ?_
  exact (fb_s (fun _ q => (fun q => by rw [hs0]; exact fsf_ok (v := .inl s0) q) q) h (fun T1 h2 => G7_32  _ _ h2))
noncomputable def F7_24  (l0 : Nat) (l1 : Nat) (T : fS) : Option fR := (fbn (fgi T l1 1 3) (fun v0 => F7_29  l0 l1 v0 l0 T))
theorem G7_24 {z : Option mm_O} {T : fS} {r : fR}  (l0 : Nat) (l1 : Nat) (h : F7_24  l0 l1 T = some r) : mm_L 7 24 [.ref l0, .ref l1] [] (toS z T) = some (tR z r) := by
  unfold F7_24 at h
  refine Eq.trans (e7_24 ..) ?_
  exact (fb_n (fun _ q => fgi_ok q) h (fun v0 h2 => G7_29  _ _ _ _ rfl _ h2))
noncomputable def F7_21  (l0 : Nat) (l1 : Nat) (s0 : Nat) (s1 : Nat) (T : fS) : Option fR := (fbs (fsf T s1 1 2 (.inl s0)) (fun T1 => F7_24  l0 l1 T1))
theorem G7_21 {z : Option mm_O} {T : fS} {r : fR}  (l0 : Nat) (l1 : Nat) (xs0 : Int32) (s0 : Nat) (hs0 : xs0 = nI s0) (s1 : Nat) (h : F7_21  l0 l1 s0 s1 T = some r) : mm_L 7 21 [.ref l0, .ref l1] [.int xs0, .ref s1] (toS z T) = some (tR z r) := by
  unfold F7_21 at h
  refine Eq.trans (e7_21 ..) ?_
  exact (fb_s (fun _ q => (fun q => by rw [hs0]; exact fsf_ok (v := .inl s0) q) q) h (fun T1 h2 => G7_24  _ _ h2))
noncomputable def F7_16  (l0 : Nat) (l1 : Nat) (T : fS) : Option fR := (fbn (fgi T l1 1 2) (fun v0 => F7_21  l0 l1 v0 l0 T))
theorem G7_16 {z : Option mm_O} {T : fS} {r : fR}  (l0 : Nat) (l1 : Nat) (h : F7_16  l0 l1 T = some r) : mm_L 7 16 [.ref l0, .ref l1] [] (toS z T) = some (tR z r) := by
  unfold F7_16 at h
  refine Eq.trans (e7_16 ..) ?_
  exact (fb_n (fun _ q => fgi_ok q) h (fun v0 h2 => G7_21  _ _ _ _ rfl _ h2))
noncomputable def F7_13  (l0 : Nat) (l1 : Nat) (s0 : Nat) (s1 : Nat) (T : fS) : Option fR := (fbs (fsf T s1 1 1 (.inl s0)) (fun T1 => F7_16  l0 l1 T1))
theorem G7_13 {z : Option mm_O} {T : fS} {r : fR}  (l0 : Nat) (l1 : Nat) (xs0 : Int32) (s0 : Nat) (hs0 : xs0 = nI s0) (s1 : Nat) (h : F7_13  l0 l1 s0 s1 T = some r) : mm_L 7 13 [.ref l0, .ref l1] [.int xs0, .ref s1] (toS z T) = some (tR z r) := by
  unfold F7_13 at h
  refine Eq.trans (e7_13 ..) ?_
  exact (fb_s (fun _ q => (fun q => by rw [hs0]; exact fsf_ok (v := .inl s0) q) q) h (fun T1 h2 => G7_16  _ _ h2))
noncomputable def F7_8  (l0 : Nat) (l1 : Nat) (T : fS) : Option fR := (fbn (fgi T l1 1 1) (fun v0 => F7_13  l0 l1 v0 l0 T))
theorem G7_8 {z : Option mm_O} {T : fS} {r : fR}  (l0 : Nat) (l1 : Nat) (h : F7_8  l0 l1 T = some r) : mm_L 7 8 [.ref l0, .ref l1] [] (toS z T) = some (tR z r) := by
  unfold F7_8 at h
  refine Eq.trans (e7_8 ..) ?_
  exact (fb_n (fun _ q => fgi_ok q) h (fun v0 h2 => G7_13  _ _ _ _ rfl _ h2))
noncomputable def F7_5  (l0 : Nat) (l1 : Nat) (s0 : Nat) (s1 : Nat) (T : fS) : Option fR := (fbs (fsf T s1 1 0 (.inl s0)) (fun T1 => F7_8  l0 l1 T1))
theorem G7_5 {z : Option mm_O} {T : fS} {r : fR}  (l0 : Nat) (l1 : Nat) (xs0 : Int32) (s0 : Nat) (hs0 : xs0 = nI s0) (s1 : Nat) (h : F7_5  l0 l1 s0 s1 T = some r) : mm_L 7 5 [.ref l0, .ref l1] [.int xs0, .ref s1] (toS z T) = some (tR z r) := by
  unfold F7_5 at h
  refine Eq.trans (e7_5 ..) ?_
  exact (fb_s (fun _ q => (fun q => by rw [hs0]; exact fsf_ok (v := .inl s0) q) q) h (fun T1 h2 => G7_8  _ _ h2))
noncomputable def F7_0  (l0 : Nat) (l1 : Nat) (T : fS) : Option fR := (fbn (fgi T l1 1 0) (fun v0 => F7_5  l0 l1 v0 l0 T))
theorem G7_0 {z : Option mm_O} {T : fS} {r : fR}  (l0 : Nat) (l1 : Nat) (h : F7_0  l0 l1 T = some r) : mm_L 7 0 [.ref l0, .ref l1] [] (toS z T) = some (tR z r) := by
  unfold F7_0 at h
  refine Eq.trans (e7_0 ..) ?_
  exact (fb_n (fun _ q => fgi_ok q) h (fun v0 h2 => G7_5  _ _ _ _ rfl _ h2))
theorem GM7 {z : Option mm_O} {T : fS} {r : fR} (l0 : Nat) (l1 : Nat) (h : F7_0 l0 l1 T = some r) : mm_M 7 [.ref l0, .ref l1] (toS z T) = some (tR z r) := Eq.trans (M_7 ..) (G7_0 l0 l1 h)
-- 8: HandArchive$Hands.countUnlike
noncomputable def F8_114  (l0 : Nat) (l1 : Nat) (l2 : Nat) (s0 : Nat) (s1 : Nat) (T : fS) : Option fR := (some ((.inl (some (.inl (iA s1 s0))), T) : fR))
theorem G8_114 {z : Option mm_O} {T : fS} {r : fR}  (l0 : Nat) (l1 : Nat) (xl2 : Int32) (l2 : Nat) (hl2 : xl2 = nI l2) (xs0 : Int32) (s0 : Nat) (hs0 : xs0 = nI s0) (xs1 : Int32) (s1 : Nat) (hs1 : xs1 = nI s1) (h : F8_114  l0 l1 l2 s0 s1 T = some r) : mm_L 8 114 [.ref l0, .ref l1, .int xl2] [.int xs0, .int xs1] (toS z T) = some (tR z r) := by
  unfold F8_114 at h
  refine Eq.trans (e8_114 ..) ?_
  exact (fr_i (iA_ok hs1 hs0) h)
noncomputable def F8_109  (l0 : Nat) (l1 : Nat) (l2 : Nat) (s0 : Nat) (T : fS) : Option fR := (F8_114  l0 l1 l2 0 s0 T)
theorem G8_109 {z : Option mm_O} {T : fS} {r : fR}  (l0 : Nat) (l1 : Nat) (xl2 : Int32) (l2 : Nat) (hl2 : xl2 = nI l2) (xs0 : Int32) (s0 : Nat) (hs0 : xs0 = nI s0) (h : F8_109  l0 l1 l2 s0 T = some r) : mm_L 8 109 [.ref l0, .ref l1, .int xl2] [.int xs0] (toS z T) = some (tR z r) := by
  unfold F8_109 at h
  refine Eq.trans (e8_109 ..) ?_
  exact (G8_114  _ _ _ _ hl2 _ _ (rfl : (0 : Int32) = nI 0) _ _ hs0 h)
noncomputable def F8_113  (l0 : Nat) (l1 : Nat) (l2 : Nat) (s0 : Nat) (T : fS) : Option fR := (F8_114  l0 l1 l2 1 s0 T)
theorem G8_113 {z : Option mm_O} {T : fS} {r : fR}  (l0 : Nat) (l1 : Nat) (xl2 : Int32) (l2 : Nat) (hl2 : xl2 = nI l2) (xs0 : Int32) (s0 : Nat) (hs0 : xs0 = nI s0) (h : F8_113  l0 l1 l2 s0 T = some r) : mm_L 8 113 [.ref l0, .ref l1, .int xl2] [.int xs0] (toS z T) = some (tR z r) := by
  unfold F8_113 at h
  refine Eq.trans (e8_113 ..) ?_
  exact (G8_114  _ _ _ _ hl2 _ _ (rfl : (1 : Int32) = nI 1) _ _ hs0 h)
noncomputable def F8_106  (l0 : Nat) (l1 : Nat) (l2 : Nat) (s0 : Nat) (s1 : Nat) (s2 : Nat) (T : fS) : Option fR := (fif (ieq s1 s0) (F8_109  l0 l1 l2 s2 T) (F8_113  l0 l1 l2 s2 T))
theorem G8_106 {z : Option mm_O} {T : fS} {r : fR}  (l0 : Nat) (l1 : Nat) (xl2 : Int32) (l2 : Nat) (hl2 : xl2 = nI l2) (xs0 : Int32) (s0 : Nat) (hs0 : xs0 = nI s0) (xs1 : Int32) (s1 : Nat) (hs1 : xs1 = nI s1) (xs2 : Int32) (s2 : Nat) (hs2 : xs2 = nI s2) (h : F8_106  l0 l1 l2 s0 s1 s2 T = some r) : mm_L 8 106 [.ref l0, .ref l1, .int xl2] [.int xs0, .int xs1, .int xs2] (toS z T) = some (tR z r) := by
  unfold F8_106 at h
  refine Eq.trans (e8_106 ..) ?_
  exact (fb_if (cj_eq hs1 hs0) h (fun h1 => (G8_109  _ _ _ _ hl2 _ _ hs2 h1)) (fun h1 => (G8_113  _ _ _ _ hl2 _ _ hs2 h1)))
noncomputable def F8_102  (l0 : Nat) (l1 : Nat) (l2 : Nat) (s0 : Nat) (s1 : Nat) (T : fS) : Option fR := (fbn (fgi T l1 1 5) (fun v0 => F8_106  l0 l1 l2 v0 s0 s1 T))
theorem G8_102 {z : Option mm_O} {T : fS} {r : fR}  (l0 : Nat) (l1 : Nat) (xl2 : Int32) (l2 : Nat) (hl2 : xl2 = nI l2) (xs0 : Int32) (s0 : Nat) (hs0 : xs0 = nI s0) (xs1 : Int32) (s1 : Nat) (hs1 : xs1 = nI s1) (h : F8_102  l0 l1 l2 s0 s1 T = some r) : mm_L 8 102 [.ref l0, .ref l1, .int xl2] [.int xs0, .int xs1] (toS z T) = some (tR z r) := by
  unfold F8_102 at h
  refine Eq.trans (e8_102 ..) ?_
  exact (fb_n (fun _ q => fgi_ok q) h (fun v0 h2 => G8_106  _ _ _ _ hl2 _ _ rfl _ _ hs0 _ _ hs1 h2))
noncomputable def F8_95  (l0 : Nat) (l1 : Nat) (l2 : Nat) (s0 : Nat) (s1 : Nat) (T : fS) : Option fR := (fbn (fgi T l0 1 5) (fun v0 => F8_102  l0 l1 (iA s1 s0) v0 (iA s1 s0) T))
theorem G8_95 {z : Option mm_O} {T : fS} {r : fR}  (l0 : Nat) (l1 : Nat) (xl2 : Int32) (l2 : Nat) (hl2 : xl2 = nI l2) (xs0 : Int32) (s0 : Nat) (hs0 : xs0 = nI s0) (xs1 : Int32) (s1 : Nat) (hs1 : xs1 = nI s1) (h : F8_95  l0 l1 l2 s0 s1 T = some r) : mm_L 8 95 [.ref l0, .ref l1, .int xl2] [.int xs0, .int xs1] (toS z T) = some (tR z r) := by
  unfold F8_95 at h
  refine Eq.trans (e8_95 ..) ?_
  exact (fb_n (fun _ q => fgi_ok q) h (fun v0 h2 => G8_102  _ _ _ _ (iA_ok hs1 hs0) _ _ rfl _ _ (iA_ok hs1 hs0) h2))
noncomputable def F8_90  (l0 : Nat) (l1 : Nat) (l2 : Nat) (s0 : Nat) (T : fS) : Option fR := (F8_95  l0 l1 l2 0 s0 T)
theorem G8_90 {z : Option mm_O} {T : fS} {r : fR}  (l0 : Nat) (l1 : Nat) (xl2 : Int32) (l2 : Nat) (hl2 : xl2 = nI l2) (xs0 : Int32) (s0 : Nat) (hs0 : xs0 = nI s0) (h : F8_90  l0 l1 l2 s0 T = some r) : mm_L 8 90 [.ref l0, .ref l1, .int xl2] [.int xs0] (toS z T) = some (tR z r) := by
  unfold F8_90 at h
  refine Eq.trans (e8_90 ..) ?_
  exact (G8_95  _ _ _ _ hl2 _ _ (rfl : (0 : Int32) = nI 0) _ _ hs0 h)
noncomputable def F8_94  (l0 : Nat) (l1 : Nat) (l2 : Nat) (s0 : Nat) (T : fS) : Option fR := (F8_95  l0 l1 l2 1 s0 T)
theorem G8_94 {z : Option mm_O} {T : fS} {r : fR}  (l0 : Nat) (l1 : Nat) (xl2 : Int32) (l2 : Nat) (hl2 : xl2 = nI l2) (xs0 : Int32) (s0 : Nat) (hs0 : xs0 = nI s0) (h : F8_94  l0 l1 l2 s0 T = some r) : mm_L 8 94 [.ref l0, .ref l1, .int xl2] [.int xs0] (toS z T) = some (tR z r) := by
  unfold F8_94 at h
  refine Eq.trans (e8_94 ..) ?_
  exact (G8_95  _ _ _ _ hl2 _ _ (rfl : (1 : Int32) = nI 1) _ _ hs0 h)
noncomputable def F8_87  (l0 : Nat) (l1 : Nat) (l2 : Nat) (s0 : Nat) (s1 : Nat) (s2 : Nat) (T : fS) : Option fR := (fif (ieq s1 s0) (F8_90  l0 l1 l2 s2 T) (F8_94  l0 l1 l2 s2 T))
theorem G8_87 {z : Option mm_O} {T : fS} {r : fR}  (l0 : Nat) (l1 : Nat) (xl2 : Int32) (l2 : Nat) (hl2 : xl2 = nI l2) (xs0 : Int32) (s0 : Nat) (hs0 : xs0 = nI s0) (xs1 : Int32) (s1 : Nat) (hs1 : xs1 = nI s1) (xs2 : Int32) (s2 : Nat) (hs2 : xs2 = nI s2) (h : F8_87  l0 l1 l2 s0 s1 s2 T = some r) : mm_L 8 87 [.ref l0, .ref l1, .int xl2] [.int xs0, .int xs1, .int xs2] (toS z T) = some (tR z r) := by
  unfold F8_87 at h
  refine Eq.trans (e8_87 ..) ?_
  exact (fb_if (cj_eq hs1 hs0) h (fun h1 => (G8_90  _ _ _ _ hl2 _ _ hs2 h1)) (fun h1 => (G8_94  _ _ _ _ hl2 _ _ hs2 h1)))
noncomputable def F8_83  (l0 : Nat) (l1 : Nat) (l2 : Nat) (s0 : Nat) (s1 : Nat) (T : fS) : Option fR := (fbn (fgi T l1 1 4) (fun v0 => F8_87  l0 l1 l2 v0 s0 s1 T))
theorem G8_83 {z : Option mm_O} {T : fS} {r : fR}  (l0 : Nat) (l1 : Nat) (xl2 : Int32) (l2 : Nat) (hl2 : xl2 = nI l2) (xs0 : Int32) (s0 : Nat) (hs0 : xs0 = nI s0) (xs1 : Int32) (s1 : Nat) (hs1 : xs1 = nI s1) (h : F8_83  l0 l1 l2 s0 s1 T = some r) : mm_L 8 83 [.ref l0, .ref l1, .int xl2] [.int xs0, .int xs1] (toS z T) = some (tR z r) := by
  unfold F8_83 at h
  refine Eq.trans (e8_83 ..) ?_
  exact (fb_n (fun _ q => fgi_ok q) h (fun v0 h2 => G8_87  _ _ _ _ hl2 _ _ rfl _ _ hs0 _ _ hs1 h2))
noncomputable def F8_76  (l0 : Nat) (l1 : Nat) (l2 : Nat) (s0 : Nat) (s1 : Nat) (T : fS) : Option fR := (fbn (fgi T l0 1 4) (fun v0 => F8_83  l0 l1 (iA s1 s0) v0 (iA s1 s0) T))
theorem G8_76 {z : Option mm_O} {T : fS} {r : fR}  (l0 : Nat) (l1 : Nat) (xl2 : Int32) (l2 : Nat) (hl2 : xl2 = nI l2) (xs0 : Int32) (s0 : Nat) (hs0 : xs0 = nI s0) (xs1 : Int32) (s1 : Nat) (hs1 : xs1 = nI s1) (h : F8_76  l0 l1 l2 s0 s1 T = some r) : mm_L 8 76 [.ref l0, .ref l1, .int xl2] [.int xs0, .int xs1] (toS z T) = some (tR z r) := by
  unfold F8_76 at h
  refine Eq.trans (e8_76 ..) ?_
  exact (fb_n (fun _ q => fgi_ok q) h (fun v0 h2 => G8_83  _ _ _ _ (iA_ok hs1 hs0) _ _ rfl _ _ (iA_ok hs1 hs0) h2))
noncomputable def F8_71  (l0 : Nat) (l1 : Nat) (l2 : Nat) (s0 : Nat) (T : fS) : Option fR := (F8_76  l0 l1 l2 0 s0 T)
theorem G8_71 {z : Option mm_O} {T : fS} {r : fR}  (l0 : Nat) (l1 : Nat) (xl2 : Int32) (l2 : Nat) (hl2 : xl2 = nI l2) (xs0 : Int32) (s0 : Nat) (hs0 : xs0 = nI s0) (h : F8_71  l0 l1 l2 s0 T = some r) : mm_L 8 71 [.ref l0, .ref l1, .int xl2] [.int xs0] (toS z T) = some (tR z r) := by
  unfold F8_71 at h
  refine Eq.trans (e8_71 ..) ?_
  exact (G8_76  _ _ _ _ hl2 _ _ (rfl : (0 : Int32) = nI 0) _ _ hs0 h)
noncomputable def F8_75  (l0 : Nat) (l1 : Nat) (l2 : Nat) (s0 : Nat) (T : fS) : Option fR := (F8_76  l0 l1 l2 1 s0 T)
theorem G8_75 {z : Option mm_O} {T : fS} {r : fR}  (l0 : Nat) (l1 : Nat) (xl2 : Int32) (l2 : Nat) (hl2 : xl2 = nI l2) (xs0 : Int32) (s0 : Nat) (hs0 : xs0 = nI s0) (h : F8_75  l0 l1 l2 s0 T = some r) : mm_L 8 75 [.ref l0, .ref l1, .int xl2] [.int xs0] (toS z T) = some (tR z r) := by
  unfold F8_75 at h
  refine Eq.trans (e8_75 ..) ?_
  exact (G8_76  _ _ _ _ hl2 _ _ (rfl : (1 : Int32) = nI 1) _ _ hs0 h)
noncomputable def F8_68  (l0 : Nat) (l1 : Nat) (l2 : Nat) (s0 : Nat) (s1 : Nat) (s2 : Nat) (T : fS) : Option fR := (fif (ieq s1 s0) (F8_71  l0 l1 l2 s2 T) (F8_75  l0 l1 l2 s2 T))
theorem G8_68 {z : Option mm_O} {T : fS} {r : fR}  (l0 : Nat) (l1 : Nat) (xl2 : Int32) (l2 : Nat) (hl2 : xl2 = nI l2) (xs0 : Int32) (s0 : Nat) (hs0 : xs0 = nI s0) (xs1 : Int32) (s1 : Nat) (hs1 : xs1 = nI s1) (xs2 : Int32) (s2 : Nat) (hs2 : xs2 = nI s2) (h : F8_68  l0 l1 l2 s0 s1 s2 T = some r) : mm_L 8 68 [.ref l0, .ref l1, .int xl2] [.int xs0, .int xs1, .int xs2] (toS z T) = some (tR z r) := by
  unfold F8_68 at h
  refine Eq.trans (e8_68 ..) ?_
  exact (fb_if (cj_eq hs1 hs0) h (fun h1 => (G8_71  _ _ _ _ hl2 _ _ hs2 h1)) (fun h1 => (G8_75  _ _ _ _ hl2 _ _ hs2 h1)))
noncomputable def F8_64  (l0 : Nat) (l1 : Nat) (l2 : Nat) (s0 : Nat) (s1 : Nat) (T : fS) : Option fR := (fbn (fgi T l1 1 3) (fun v0 => F8_68  l0 l1 l2 v0 s0 s1 T))
theorem G8_64 {z : Option mm_O} {T : fS} {r : fR}  (l0 : Nat) (l1 : Nat) (xl2 : Int32) (l2 : Nat) (hl2 : xl2 = nI l2) (xs0 : Int32) (s0 : Nat) (hs0 : xs0 = nI s0) (xs1 : Int32) (s1 : Nat) (hs1 : xs1 = nI s1) (h : F8_64  l0 l1 l2 s0 s1 T = some r) : mm_L 8 64 [.ref l0, .ref l1, .int xl2] [.int xs0, .int xs1] (toS z T) = some (tR z r) := by
  unfold F8_64 at h
  refine Eq.trans (e8_64 ..) ?_
  exact (fb_n (fun _ q => fgi_ok q) h (fun v0 h2 => G8_68  _ _ _ _ hl2 _ _ rfl _ _ hs0 _ _ hs1 h2))
noncomputable def F8_57  (l0 : Nat) (l1 : Nat) (l2 : Nat) (s0 : Nat) (s1 : Nat) (T : fS) : Option fR := (fbn (fgi T l0 1 3) (fun v0 => F8_64  l0 l1 (iA s1 s0) v0 (iA s1 s0) T))
theorem G8_57 {z : Option mm_O} {T : fS} {r : fR}  (l0 : Nat) (l1 : Nat) (xl2 : Int32) (l2 : Nat) (hl2 : xl2 = nI l2) (xs0 : Int32) (s0 : Nat) (hs0 : xs0 = nI s0) (xs1 : Int32) (s1 : Nat) (hs1 : xs1 = nI s1) (h : F8_57  l0 l1 l2 s0 s1 T = some r) : mm_L 8 57 [.ref l0, .ref l1, .int xl2] [.int xs0, .int xs1] (toS z T) = some (tR z r) := by
  unfold F8_57 at h
  refine Eq.trans (e8_57 ..) ?_
  exact (fb_n (fun _ q => fgi_ok q) h (fun v0 h2 => G8_64  _ _ _ _ (iA_ok hs1 hs0) _ _ rfl _ _ (iA_ok hs1 hs0) h2))
noncomputable def F8_52  (l0 : Nat) (l1 : Nat) (l2 : Nat) (s0 : Nat) (T : fS) : Option fR := (F8_57  l0 l1 l2 0 s0 T)
theorem G8_52 {z : Option mm_O} {T : fS} {r : fR}  (l0 : Nat) (l1 : Nat) (xl2 : Int32) (l2 : Nat) (hl2 : xl2 = nI l2) (xs0 : Int32) (s0 : Nat) (hs0 : xs0 = nI s0) (h : F8_52  l0 l1 l2 s0 T = some r) : mm_L 8 52 [.ref l0, .ref l1, .int xl2] [.int xs0] (toS z T) = some (tR z r) := by
  unfold F8_52 at h
  refine Eq.trans (e8_52 ..) ?_
  exact (G8_57  _ _ _ _ hl2 _ _ (rfl : (0 : Int32) = nI 0) _ _ hs0 h)
noncomputable def F8_56  (l0 : Nat) (l1 : Nat) (l2 : Nat) (s0 : Nat) (T : fS) : Option fR := (F8_57  l0 l1 l2 1 s0 T)
theorem G8_56 {z : Option mm_O} {T : fS} {r : fR}  (l0 : Nat) (l1 : Nat) (xl2 : Int32) (l2 : Nat) (hl2 : xl2 = nI l2) (xs0 : Int32) (s0 : Nat) (hs0 : xs0 = nI s0) (h : F8_56  l0 l1 l2 s0 T = some r) : mm_L 8 56 [.ref l0, .ref l1, .int xl2] [.int xs0] (toS z T) = some (tR z r) := by
  unfold F8_56 at h
  refine Eq.trans (e8_56 ..) ?_
  exact (G8_57  _ _ _ _ hl2 _ _ (rfl : (1 : Int32) = nI 1) _ _ hs0 h)
noncomputable def F8_49  (l0 : Nat) (l1 : Nat) (l2 : Nat) (s0 : Nat) (s1 : Nat) (s2 : Nat) (T : fS) : Option fR := (fif (ieq s1 s0) (F8_52  l0 l1 l2 s2 T) (F8_56  l0 l1 l2 s2 T))
theorem G8_49 {z : Option mm_O} {T : fS} {r : fR}  (l0 : Nat) (l1 : Nat) (xl2 : Int32) (l2 : Nat) (hl2 : xl2 = nI l2) (xs0 : Int32) (s0 : Nat) (hs0 : xs0 = nI s0) (xs1 : Int32) (s1 : Nat) (hs1 : xs1 = nI s1) (xs2 : Int32) (s2 : Nat) (hs2 : xs2 = nI s2) (h : F8_49  l0 l1 l2 s0 s1 s2 T = some r) : mm_L 8 49 [.ref l0, .ref l1, .int xl2] [.int xs0, .int xs1, .int xs2] (toS z T) = some (tR z r) := by
  unfold F8_49 at h
  refine Eq.trans (e8_49 ..) ?_
  exact (fb_if (cj_eq hs1 hs0) h (fun h1 => (G8_52  _ _ _ _ hl2 _ _ hs2 h1)) (fun h1 => (G8_56  _ _ _ _ hl2 _ _ hs2 h1)))
noncomputable def F8_45  (l0 : Nat) (l1 : Nat) (l2 : Nat) (s0 : Nat) (s1 : Nat) (T : fS) : Option fR := (fbn (fgi T l1 1 2) (fun v0 => F8_49  l0 l1 l2 v0 s0 s1 T))
theorem G8_45 {z : Option mm_O} {T : fS} {r : fR}  (l0 : Nat) (l1 : Nat) (xl2 : Int32) (l2 : Nat) (hl2 : xl2 = nI l2) (xs0 : Int32) (s0 : Nat) (hs0 : xs0 = nI s0) (xs1 : Int32) (s1 : Nat) (hs1 : xs1 = nI s1) (h : F8_45  l0 l1 l2 s0 s1 T = some r) : mm_L 8 45 [.ref l0, .ref l1, .int xl2] [.int xs0, .int xs1] (toS z T) = some (tR z r) := by
  unfold F8_45 at h
  refine Eq.trans (e8_45 ..) ?_
  exact (fb_n (fun _ q => fgi_ok q) h (fun v0 h2 => G8_49  _ _ _ _ hl2 _ _ rfl _ _ hs0 _ _ hs1 h2))
noncomputable def F8_38  (l0 : Nat) (l1 : Nat) (l2 : Nat) (s0 : Nat) (s1 : Nat) (T : fS) : Option fR := (fbn (fgi T l0 1 2) (fun v0 => F8_45  l0 l1 (iA s1 s0) v0 (iA s1 s0) T))
theorem G8_38 {z : Option mm_O} {T : fS} {r : fR}  (l0 : Nat) (l1 : Nat) (xl2 : Int32) (l2 : Nat) (hl2 : xl2 = nI l2) (xs0 : Int32) (s0 : Nat) (hs0 : xs0 = nI s0) (xs1 : Int32) (s1 : Nat) (hs1 : xs1 = nI s1) (h : F8_38  l0 l1 l2 s0 s1 T = some r) : mm_L 8 38 [.ref l0, .ref l1, .int xl2] [.int xs0, .int xs1] (toS z T) = some (tR z r) := by
  unfold F8_38 at h
  refine Eq.trans (e8_38 ..) ?_
  exact (fb_n (fun _ q => fgi_ok q) h (fun v0 h2 => G8_45  _ _ _ _ (iA_ok hs1 hs0) _ _ rfl _ _ (iA_ok hs1 hs0) h2))
noncomputable def F8_33  (l0 : Nat) (l1 : Nat) (l2 : Nat) (s0 : Nat) (T : fS) : Option fR := (F8_38  l0 l1 l2 0 s0 T)
theorem G8_33 {z : Option mm_O} {T : fS} {r : fR}  (l0 : Nat) (l1 : Nat) (xl2 : Int32) (l2 : Nat) (hl2 : xl2 = nI l2) (xs0 : Int32) (s0 : Nat) (hs0 : xs0 = nI s0) (h : F8_33  l0 l1 l2 s0 T = some r) : mm_L 8 33 [.ref l0, .ref l1, .int xl2] [.int xs0] (toS z T) = some (tR z r) := by
  unfold F8_33 at h
  refine Eq.trans (e8_33 ..) ?_
  exact (G8_38  _ _ _ _ hl2 _ _ (rfl : (0 : Int32) = nI 0) _ _ hs0 h)
noncomputable def F8_37  (l0 : Nat) (l1 : Nat) (l2 : Nat) (s0 : Nat) (T : fS) : Option fR := (F8_38  l0 l1 l2 1 s0 T)
theorem G8_37 {z : Option mm_O} {T : fS} {r : fR}  (l0 : Nat) (l1 : Nat) (xl2 : Int32) (l2 : Nat) (hl2 : xl2 = nI l2) (xs0 : Int32) (s0 : Nat) (hs0 : xs0 = nI s0) (h : F8_37  l0 l1 l2 s0 T = some r) : mm_L 8 37 [.ref l0, .ref l1, .int xl2] [.int xs0] (toS z T) = some (tR z r) := by
  unfold F8_37 at h
  refine Eq.trans (e8_37 ..) ?_
  exact (G8_38  _ _ _ _ hl2 _ _ (rfl : (1 : Int32) = nI 1) _ _ hs0 h)
noncomputable def F8_30  (l0 : Nat) (l1 : Nat) (l2 : Nat) (s0 : Nat) (s1 : Nat) (s2 : Nat) (T : fS) : Option fR := (fif (ieq s1 s0) (F8_33  l0 l1 l2 s2 T) (F8_37  l0 l1 l2 s2 T))
theorem G8_30 {z : Option mm_O} {T : fS} {r : fR}  (l0 : Nat) (l1 : Nat) (xl2 : Int32) (l2 : Nat) (hl2 : xl2 = nI l2) (xs0 : Int32) (s0 : Nat) (hs0 : xs0 = nI s0) (xs1 : Int32) (s1 : Nat) (hs1 : xs1 = nI s1) (xs2 : Int32) (s2 : Nat) (hs2 : xs2 = nI s2) (h : F8_30  l0 l1 l2 s0 s1 s2 T = some r) : mm_L 8 30 [.ref l0, .ref l1, .int xl2] [.int xs0, .int xs1, .int xs2] (toS z T) = some (tR z r) := by
  unfold F8_30 at h
  refine Eq.trans (e8_30 ..) ?_
  exact (fb_if (cj_eq hs1 hs0) h (fun h1 => (G8_33  _ _ _ _ hl2 _ _ hs2 h1)) (fun h1 => (G8_37  _ _ _ _ hl2 _ _ hs2 h1)))
noncomputable def F8_26  (l0 : Nat) (l1 : Nat) (l2 : Nat) (s0 : Nat) (s1 : Nat) (T : fS) : Option fR := (fbn (fgi T l1 1 1) (fun v0 => F8_30  l0 l1 l2 v0 s0 s1 T))
theorem G8_26 {z : Option mm_O} {T : fS} {r : fR}  (l0 : Nat) (l1 : Nat) (xl2 : Int32) (l2 : Nat) (hl2 : xl2 = nI l2) (xs0 : Int32) (s0 : Nat) (hs0 : xs0 = nI s0) (xs1 : Int32) (s1 : Nat) (hs1 : xs1 = nI s1) (h : F8_26  l0 l1 l2 s0 s1 T = some r) : mm_L 8 26 [.ref l0, .ref l1, .int xl2] [.int xs0, .int xs1] (toS z T) = some (tR z r) := by
  unfold F8_26 at h
  refine Eq.trans (e8_26 ..) ?_
  exact (fb_n (fun _ q => fgi_ok q) h (fun v0 h2 => G8_30  _ _ _ _ hl2 _ _ rfl _ _ hs0 _ _ hs1 h2))
noncomputable def F8_19  (l0 : Nat) (l1 : Nat) (l2 : Nat) (s0 : Nat) (s1 : Nat) (T : fS) : Option fR := (fbn (fgi T l0 1 1) (fun v0 => F8_26  l0 l1 (iA s1 s0) v0 (iA s1 s0) T))
theorem G8_19 {z : Option mm_O} {T : fS} {r : fR}  (l0 : Nat) (l1 : Nat) (xl2 : Int32) (l2 : Nat) (hl2 : xl2 = nI l2) (xs0 : Int32) (s0 : Nat) (hs0 : xs0 = nI s0) (xs1 : Int32) (s1 : Nat) (hs1 : xs1 = nI s1) (h : F8_19  l0 l1 l2 s0 s1 T = some r) : mm_L 8 19 [.ref l0, .ref l1, .int xl2] [.int xs0, .int xs1] (toS z T) = some (tR z r) := by
  unfold F8_19 at h
  refine Eq.trans (e8_19 ..) ?_
  exact (fb_n (fun _ q => fgi_ok q) h (fun v0 h2 => G8_26  _ _ _ _ (iA_ok hs1 hs0) _ _ rfl _ _ (iA_ok hs1 hs0) h2))
noncomputable def F8_14  (l0 : Nat) (l1 : Nat) (l2 : Nat) (s0 : Nat) (T : fS) : Option fR := (F8_19  l0 l1 l2 0 s0 T)
theorem G8_14 {z : Option mm_O} {T : fS} {r : fR}  (l0 : Nat) (l1 : Nat) (xl2 : Int32) (l2 : Nat) (hl2 : xl2 = nI l2) (xs0 : Int32) (s0 : Nat) (hs0 : xs0 = nI s0) (h : F8_14  l0 l1 l2 s0 T = some r) : mm_L 8 14 [.ref l0, .ref l1, .int xl2] [.int xs0] (toS z T) = some (tR z r) := by
  unfold F8_14 at h
  refine Eq.trans (e8_14 ..) ?_
  exact (G8_19  _ _ _ _ hl2 _ _ (rfl : (0 : Int32) = nI 0) _ _ hs0 h)
noncomputable def F8_18  (l0 : Nat) (l1 : Nat) (l2 : Nat) (s0 : Nat) (T : fS) : Option fR := (F8_19  l0 l1 l2 1 s0 T)
theorem G8_18 {z : Option mm_O} {T : fS} {r : fR}  (l0 : Nat) (l1 : Nat) (xl2 : Int32) (l2 : Nat) (hl2 : xl2 = nI l2) (xs0 : Int32) (s0 : Nat) (hs0 : xs0 = nI s0) (h : F8_18  l0 l1 l2 s0 T = some r) : mm_L 8 18 [.ref l0, .ref l1, .int xl2] [.int xs0] (toS z T) = some (tR z r) := by
  unfold F8_18 at h
  refine Eq.trans (e8_18 ..) ?_
  exact (G8_19  _ _ _ _ hl2 _ _ (rfl : (1 : Int32) = nI 1) _ _ hs0 h)
noncomputable def F8_11  (l0 : Nat) (l1 : Nat) (l2 : Nat) (s0 : Nat) (s1 : Nat) (s2 : Nat) (T : fS) : Option fR := (fif (ieq s1 s0) (F8_14  l0 l1 l2 s2 T) (F8_18  l0 l1 l2 s2 T))
theorem G8_11 {z : Option mm_O} {T : fS} {r : fR}  (l0 : Nat) (l1 : Nat) (xl2 : Int32) (l2 : Nat) (hl2 : xl2 = nI l2) (xs0 : Int32) (s0 : Nat) (hs0 : xs0 = nI s0) (xs1 : Int32) (s1 : Nat) (hs1 : xs1 = nI s1) (xs2 : Int32) (s2 : Nat) (hs2 : xs2 = nI s2) (h : F8_11  l0 l1 l2 s0 s1 s2 T = some r) : mm_L 8 11 [.ref l0, .ref l1, .int xl2] [.int xs0, .int xs1, .int xs2] (toS z T) = some (tR z r) := by
  unfold F8_11 at h
  refine Eq.trans (e8_11 ..) ?_
  exact (fb_if (cj_eq hs1 hs0) h (fun h1 => (G8_14  _ _ _ _ hl2 _ _ hs2 h1)) (fun h1 => (G8_18  _ _ _ _ hl2 _ _ hs2 h1)))
noncomputable def F8_7  (l0 : Nat) (l1 : Nat) (l2 : Nat) (s0 : Nat) (s1 : Nat) (T : fS) : Option fR := (fbn (fgi T l1 1 0) (fun v0 => F8_11  l0 l1 l2 v0 s0 s1 T))
theorem G8_7 {z : Option mm_O} {T : fS} {r : fR}  (l0 : Nat) (l1 : Nat) (xl2 : Int32) (l2 : Nat) (hl2 : xl2 = nI l2) (xs0 : Int32) (s0 : Nat) (hs0 : xs0 = nI s0) (xs1 : Int32) (s1 : Nat) (hs1 : xs1 = nI s1) (h : F8_7  l0 l1 l2 s0 s1 T = some r) : mm_L 8 7 [.ref l0, .ref l1, .int xl2] [.int xs0, .int xs1] (toS z T) = some (tR z r) := by
  unfold F8_7 at h
  refine Eq.trans (e8_7 ..) ?_
  exact (fb_n (fun _ q => fgi_ok q) h (fun v0 h2 => G8_11  _ _ _ _ hl2 _ _ rfl _ _ hs0 _ _ hs1 h2))
noncomputable def F8_0  (l0 : Nat) (l1 : Nat) (T : fS) : Option fR := (fbn (fgi T l0 1 0) (fun v0 => F8_7  l0 l1 0 v0 0 T))
theorem G8_0 {z : Option mm_O} {T : fS} {r : fR}  (l0 : Nat) (l1 : Nat) (ul2 : Value) (h : F8_0  l0 l1 T = some r) : mm_L 8 0 [.ref l0, .ref l1, ul2] [] (toS z T) = some (tR z r) := by
  unfold F8_0 at h
  refine Eq.trans (e8_0 ..) ?_
  exact (fb_n (fun _ q => fgi_ok q) h (fun v0 h2 => G8_7  _ _ _ _ (rfl : (0 : Int32) = nI 0) _ _ rfl _ _ (rfl : (0 : Int32) = nI 0) h2))
theorem GM8 {z : Option mm_O} {T : fS} {r : fR} (l0 : Nat) (l1 : Nat) (h : F8_0 l0 l1 T = some r) : mm_M 8 [.ref l0, .ref l1] (toS z T) = some (tR z r) := Eq.trans (M_8 ..) (G8_0 l0 l1 _ h)
-- 10: HandArchive$Hands.goes
noncomputable def F10_16  (l0 : Nat) (s0 : Nat) (T : fS) : Option fR := (fif (Bool.rec (motive := fun _ => Bool) (ieq s0 1) true (ieq s0 0)) (some ((.inl (some (.inl s0)), T) : fR)) (none : Option fR))
theorem G10_16 {z : Option mm_O} {T : fS} {r : fR}  (l0 : Nat) (xs0 : Int32) (s0 : Nat) (hs0 : xs0 = nI s0) (h : F10_16  l0 s0 T = some r) : mm_L 10 16 [.ref l0] [.int xs0] (toS z T) = some (tR z r) := by
  unfold F10_16 at h
  refine Eq.trans (e10_16 ..) ?_
  exact (fb_if (cj_01 hs0) h (fun h1 => (fr_i hs0 h1)) (fun h1 => (fr_n h1)))
noncomputable def F10_11  (l0 : Nat) (T : fS) : Option fR := (F10_16  l0 1 T)
theorem G10_11 {z : Option mm_O} {T : fS} {r : fR}  (l0 : Nat) (h : F10_11  l0 T = some r) : mm_L 10 11 [.ref l0] [] (toS z T) = some (tR z r) := by
  unfold F10_11 at h
  refine Eq.trans (e10_11 ..) ?_
  exact (G10_16  _ _ _ (rfl : (1 : Int32) = nI 1) h)
noncomputable def F10_15  (l0 : Nat) (T : fS) : Option fR := (F10_16  l0 0 T)
theorem G10_15 {z : Option mm_O} {T : fS} {r : fR}  (l0 : Nat) (h : F10_15  l0 T = some r) : mm_L 10 15 [.ref l0] [] (toS z T) = some (tR z r) := by
  unfold F10_15 at h
  refine Eq.trans (e10_15 ..) ?_
  exact (G10_16  _ _ _ (rfl : (0 : Int32) = nI 0) h)
noncomputable def F10_8  (l0 : Nat) (s0 : Nat) (s1 : Nat) (T : fS) : Option fR := (fif (ieq s1 s0) (F10_15  l0 T) (F10_11  l0 T))
theorem G10_8 {z : Option mm_O} {T : fS} {r : fR}  (l0 : Nat) (xs0 : Int32) (s0 : Nat) (hs0 : xs0 = nI s0) (xs1 : Int32) (s1 : Nat) (hs1 : xs1 = nI s1) (h : F10_8  l0 s0 s1 T = some r) : mm_L 10 8 [.ref l0] [.int xs0, .int xs1] (toS z T) = some (tR z r) := by
  unfold F10_8 at h
  refine Eq.trans (e10_8 ..) ?_
  exact (fb_if (cj_eq hs1 hs0) h (fun h1 => (G10_15  _ h1)) (fun h1 => (G10_11  _ h1)))
noncomputable def F10_4  (l0 : Nat) (s0 : Nat) (T : fS) : Option fR := (fbn (fgi T l0 1 2) (fun v0 => F10_8  l0 v0 s0 T))
theorem G10_4 {z : Option mm_O} {T : fS} {r : fR}  (l0 : Nat) (xs0 : Int32) (s0 : Nat) (hs0 : xs0 = nI s0) (h : F10_4  l0 s0 T = some r) : mm_L 10 4 [.ref l0] [.int xs0] (toS z T) = some (tR z r) := by
  unfold F10_4 at h
  refine Eq.trans (e10_4 ..) ?_
  exact (fb_n (fun _ q => fgi_ok q) h (fun v0 h2 => G10_8  _ _ _ rfl _ _ hs0 h2))
noncomputable def F10_0  (l0 : Nat) (T : fS) : Option fR := (fbn (fgi T l0 1 1) (fun v0 => F10_4  l0 v0 T))
theorem G10_0 {z : Option mm_O} {T : fS} {r : fR}  (l0 : Nat) (h : F10_0  l0 T = some r) : mm_L 10 0 [.ref l0] [] (toS z T) = some (tR z r) := by
  unfold F10_0 at h
  refine Eq.trans (e10_0 ..) ?_
  exact (fb_n (fun _ q => fgi_ok q) h (fun v0 h2 => G10_4  _ _ _ rfl h2))
theorem GM10 {z : Option mm_O} {T : fS} {r : fR} (l0 : Nat) (h : F10_0 l0 T = some r) : mm_M 10 [.ref l0] (toS z T) = some (tR z r) := Eq.trans (M_10 ..) (G10_0 l0 h)
-- 13: HandArchive$Item.isPointing
noncomputable def F13_29  (l0 : Nat) (s0 : Nat) (T : fS) : Option fR := (fif (Bool.rec (motive := fun _ => Bool) (ieq s0 1) true (ieq s0 0)) (some ((.inl (some (.inl s0)), T) : fR)) (none : Option fR))
theorem G13_29 {z : Option mm_O} {T : fS} {r : fR}  (l0 : Nat) (xs0 : Int32) (s0 : Nat) (hs0 : xs0 = nI s0) (h : F13_29  l0 s0 T = some r) : mm_L 13 29 [.ref l0] [.int xs0] (toS z T) = some (tR z r) := by
  unfold F13_29 at h
  refine Eq.trans (e13_29 ..) ?_
  exact (fb_if (cj_01 hs0) h (fun h1 => (fr_i hs0 h1)) (fun h1 => (fr_n h1)))
noncomputable def F13_24  (l0 : Nat) (T : fS) : Option fR := (F13_29  l0 1 T)
theorem G13_24 {z : Option mm_O} {T : fS} {r : fR}  (l0 : Nat) (h : F13_24  l0 T = some r) : mm_L 13 24 [.ref l0] [] (toS z T) = some (tR z r) := by
  unfold F13_24 at h
  refine Eq.trans (e13_24 ..) ?_
  exact (G13_29  _ _ _ (rfl : (1 : Int32) = nI 1) h)
noncomputable def F13_28  (l0 : Nat) (T : fS) : Option fR := (F13_29  l0 0 T)
theorem G13_28 {z : Option mm_O} {T : fS} {r : fR}  (l0 : Nat) (h : F13_28  l0 T = some r) : mm_L 13 28 [.ref l0] [] (toS z T) = some (tR z r) := by
  unfold F13_28 at h
  refine Eq.trans (e13_28 ..) ?_
  exact (G13_29  _ _ _ (rfl : (0 : Int32) = nI 0) h)
noncomputable def F13_20  (l0 : Nat) (s0 : Nat) (T : fS) : Option fR := (fif (ieq s0 3) (F13_24  l0 T) (F13_28  l0 T))
theorem G13_20 {z : Option mm_O} {T : fS} {r : fR}  (l0 : Nat) (xs0 : Int32) (s0 : Nat) (hs0 : xs0 = nI s0) (h : F13_20  l0 s0 T = some r) : mm_L 13 20 [.ref l0] [.int xs0] (toS z T) = some (tR z r) := by
  unfold F13_20 at h
  refine Eq.trans (e13_20 ..) ?_
  exact (fb_if (cj_eq hs0 (rfl : (3 : Int32) = nI 3)) h (fun h1 => (G13_24  _ h1)) (fun h1 => (G13_28  _ h1)))
noncomputable def F13_16  (l0 : Nat) (T : fS) : Option fR := (fbn (fgi T l0 2 0) (fun v0 => F13_20  l0 v0 T))
theorem G13_16 {z : Option mm_O} {T : fS} {r : fR}  (l0 : Nat) (h : F13_16  l0 T = some r) : mm_L 13 16 [.ref l0] [] (toS z T) = some (tR z r) := by
  unfold F13_16 at h
  refine Eq.trans (e13_16 ..) ?_
  exact (fb_n (fun _ q => fgi_ok q) h (fun v0 h2 => G13_20  _ _ _ rfl h2))
noncomputable def F13_12  (l0 : Nat) (s0 : Nat) (T : fS) : Option fR := (fif (ieq s0 2) (F13_24  l0 T) (F13_16  l0 T))
theorem G13_12 {z : Option mm_O} {T : fS} {r : fR}  (l0 : Nat) (xs0 : Int32) (s0 : Nat) (hs0 : xs0 = nI s0) (h : F13_12  l0 s0 T = some r) : mm_L 13 12 [.ref l0] [.int xs0] (toS z T) = some (tR z r) := by
  unfold F13_12 at h
  refine Eq.trans (e13_12 ..) ?_
  exact (fb_if (cj_eq hs0 (rfl : (2 : Int32) = nI 2)) h (fun h1 => (G13_24  _ h1)) (fun h1 => (G13_16  _ h1)))
noncomputable def F13_8  (l0 : Nat) (T : fS) : Option fR := (fbn (fgi T l0 2 0) (fun v0 => F13_12  l0 v0 T))
theorem G13_8 {z : Option mm_O} {T : fS} {r : fR}  (l0 : Nat) (h : F13_8  l0 T = some r) : mm_L 13 8 [.ref l0] [] (toS z T) = some (tR z r) := by
  unfold F13_8 at h
  refine Eq.trans (e13_8 ..) ?_
  exact (fb_n (fun _ q => fgi_ok q) h (fun v0 h2 => G13_12  _ _ _ rfl h2))
noncomputable def F13_4  (l0 : Nat) (s0 : Nat) (T : fS) : Option fR := (fif (ieq s0 1) (F13_24  l0 T) (F13_8  l0 T))
theorem G13_4 {z : Option mm_O} {T : fS} {r : fR}  (l0 : Nat) (xs0 : Int32) (s0 : Nat) (hs0 : xs0 = nI s0) (h : F13_4  l0 s0 T = some r) : mm_L 13 4 [.ref l0] [.int xs0] (toS z T) = some (tR z r) := by
  unfold F13_4 at h
  refine Eq.trans (e13_4 ..) ?_
  exact (fb_if (cj_eq hs0 (rfl : (1 : Int32) = nI 1)) h (fun h1 => (G13_24  _ h1)) (fun h1 => (G13_8  _ h1)))
noncomputable def F13_0  (l0 : Nat) (T : fS) : Option fR := (fbn (fgi T l0 2 0) (fun v0 => F13_4  l0 v0 T))
theorem G13_0 {z : Option mm_O} {T : fS} {r : fR}  (l0 : Nat) (h : F13_0  l0 T = some r) : mm_L 13 0 [.ref l0] [] (toS z T) = some (tR z r) := by
  unfold F13_0 at h
  refine Eq.trans (e13_0 ..) ?_
  exact (fb_n (fun _ q => fgi_ok q) h (fun v0 h2 => G13_4  _ _ _ rfl h2))
theorem GM13 {z : Option mm_O} {T : fS} {r : fR} (l0 : Nat) (h : F13_0 l0 T = some r) : mm_M 13 [.ref l0] (toS z T) = some (tR z r) := Eq.trans (M_13 ..) (G13_0 l0 h)
-- 14: HandArchive$Item.isOfSign
noncomputable def F14_20  (l0 : Nat) (s0 : Nat) (T : fS) : Option fR := (fif (Bool.rec (motive := fun _ => Bool) (ieq s0 1) true (ieq s0 0)) (some ((.inl (some (.inl s0)), T) : fR)) (none : Option fR))
theorem G14_20 {z : Option mm_O} {T : fS} {r : fR}  (l0 : Nat) (xs0 : Int32) (s0 : Nat) (hs0 : xs0 = nI s0) (h : F14_20  l0 s0 T = some r) : mm_L 14 20 [.ref l0] [.int xs0] (toS z T) = some (tR z r) := by
  unfold F14_20 at h
  refine Eq.trans (e14_20 ..) ?_
  exact (fb_if (cj_01 hs0) h (fun h1 => (fr_i hs0 h1)) (fun h1 => (fr_n h1)))
noncomputable def F14_15  (l0 : Nat) (T : fS) : Option fR := (F14_20  l0 1 T)
theorem G14_15 {z : Option mm_O} {T : fS} {r : fR}  (l0 : Nat) (h : F14_15  l0 T = some r) : mm_L 14 15 [.ref l0] [] (toS z T) = some (tR z r) := by
  unfold F14_15 at h
  refine Eq.trans (e14_15 ..) ?_
  exact (G14_20  _ _ _ (rfl : (1 : Int32) = nI 1) h)
noncomputable def F14_19  (l0 : Nat) (T : fS) : Option fR := (F14_20  l0 0 T)
theorem G14_19 {z : Option mm_O} {T : fS} {r : fR}  (l0 : Nat) (h : F14_19  l0 T = some r) : mm_L 14 19 [.ref l0] [] (toS z T) = some (tR z r) := by
  unfold F14_19 at h
  refine Eq.trans (e14_19 ..) ?_
  exact (G14_20  _ _ _ (rfl : (0 : Int32) = nI 0) h)
noncomputable def F14_11  (l0 : Nat) (s0 : Nat) (T : fS) : Option fR := (fif (ieq s0 4) (F14_15  l0 T) (F14_19  l0 T))
theorem G14_11 {z : Option mm_O} {T : fS} {r : fR}  (l0 : Nat) (xs0 : Int32) (s0 : Nat) (hs0 : xs0 = nI s0) (h : F14_11  l0 s0 T = some r) : mm_L 14 11 [.ref l0] [.int xs0] (toS z T) = some (tR z r) := by
  unfold F14_11 at h
  refine Eq.trans (e14_11 ..) ?_
  exact (fb_if (cj_eq hs0 (rfl : (4 : Int32) = nI 4)) h (fun h1 => (G14_15  _ h1)) (fun h1 => (G14_19  _ h1)))
noncomputable def F14_7  (l0 : Nat) (T : fS) : Option fR := (fbn (fgi T l0 2 0) (fun v0 => F14_11  l0 v0 T))
theorem G14_7 {z : Option mm_O} {T : fS} {r : fR}  (l0 : Nat) (h : F14_7  l0 T = some r) : mm_L 14 7 [.ref l0] [] (toS z T) = some (tR z r) := by
  unfold F14_7 at h
  refine Eq.trans (e14_7 ..) ?_
  exact (fb_n (fun _ q => fgi_ok q) h (fun v0 h2 => G14_11  _ _ _ rfl h2))
noncomputable def F14_4  (l0 : Nat) (s0 : Nat) (T : fS) : Option fR := (fif (ieq s0 0) (F14_15  l0 T) (F14_7  l0 T))
theorem G14_4 {z : Option mm_O} {T : fS} {r : fR}  (l0 : Nat) (xs0 : Int32) (s0 : Nat) (hs0 : xs0 = nI s0) (h : F14_4  l0 s0 T = some r) : mm_L 14 4 [.ref l0] [.int xs0] (toS z T) = some (tR z r) := by
  unfold F14_4 at h
  refine Eq.trans (e14_4 ..) ?_
  exact (fb_if (cj_eq hs0 (rfl : (0 : Int32) = nI 0)) h (fun h1 => (G14_15  _ h1)) (fun h1 => (G14_7  _ h1)))
noncomputable def F14_0  (l0 : Nat) (T : fS) : Option fR := (fbn (fgi T l0 2 0) (fun v0 => F14_4  l0 v0 T))
theorem G14_0 {z : Option mm_O} {T : fS} {r : fR}  (l0 : Nat) (h : F14_0  l0 T = some r) : mm_L 14 0 [.ref l0] [] (toS z T) = some (tR z r) := by
  unfold F14_0 at h
  refine Eq.trans (e14_0 ..) ?_
  exact (fb_n (fun _ q => fgi_ok q) h (fun v0 h2 => G14_4  _ _ _ rfl h2))
theorem GM14 {z : Option mm_O} {T : fS} {r : fR} (l0 : Nat) (h : F14_0 l0 T = some r) : mm_M 14 [.ref l0] (toS z T) = some (tR z r) := Eq.trans (M_14 ..) (G14_0 l0 h)
-- 16: HandArchive$Mark.isOf
noncomputable def F16_21  (l0 : Nat) (l1 : Nat) (l2 : Nat) (s0 : Nat) (T : fS) : Option fR := (fif (Bool.rec (motive := fun _ => Bool) (ieq s0 1) true (ieq s0 0)) (some ((.inl (some (.inl s0)), T) : fR)) (none : Option fR))
theorem G16_21 {z : Option mm_O} {T : fS} {r : fR}  (l0 : Nat) (xl1 : Int32) (l1 : Nat) (hl1 : xl1 = nI l1) (xl2 : Int32) (l2 : Nat) (hl2 : xl2 = nI l2) (xs0 : Int32) (s0 : Nat) (hs0 : xs0 = nI s0) (h : F16_21  l0 l1 l2 s0 T = some r) : mm_L 16 21 [.ref l0, .int xl1, .int xl2] [.int xs0] (toS z T) = some (tR z r) := by
  unfold F16_21 at h
  refine Eq.trans (e16_21 ..) ?_
  exact (fb_if (cj_01 hs0) h (fun h1 => (fr_i hs0 h1)) (fun h1 => (fr_n h1)))
noncomputable def F16_16  (l0 : Nat) (l1 : Nat) (l2 : Nat) (T : fS) : Option fR := (F16_21  l0 l1 l2 1 T)
theorem G16_16 {z : Option mm_O} {T : fS} {r : fR}  (l0 : Nat) (xl1 : Int32) (l1 : Nat) (hl1 : xl1 = nI l1) (xl2 : Int32) (l2 : Nat) (hl2 : xl2 = nI l2) (h : F16_16  l0 l1 l2 T = some r) : mm_L 16 16 [.ref l0, .int xl1, .int xl2] [] (toS z T) = some (tR z r) := by
  unfold F16_16 at h
  refine Eq.trans (e16_16 ..) ?_
  exact (G16_21  _ _ _ hl1 _ _ hl2 _ _ (rfl : (1 : Int32) = nI 1) h)
noncomputable def F16_20  (l0 : Nat) (l1 : Nat) (l2 : Nat) (T : fS) : Option fR := (F16_21  l0 l1 l2 0 T)
theorem G16_20 {z : Option mm_O} {T : fS} {r : fR}  (l0 : Nat) (xl1 : Int32) (l1 : Nat) (hl1 : xl1 = nI l1) (xl2 : Int32) (l2 : Nat) (hl2 : xl2 = nI l2) (h : F16_20  l0 l1 l2 T = some r) : mm_L 16 20 [.ref l0, .int xl1, .int xl2] [] (toS z T) = some (tR z r) := by
  unfold F16_20 at h
  refine Eq.trans (e16_20 ..) ?_
  exact (G16_21  _ _ _ hl1 _ _ hl2 _ _ (rfl : (0 : Int32) = nI 0) h)
noncomputable def F16_12  (l0 : Nat) (l1 : Nat) (l2 : Nat) (s0 : Nat) (T : fS) : Option fR := (fif (ieq s0 l2) (F16_16  l0 l1 l2 T) (F16_20  l0 l1 l2 T))
theorem G16_12 {z : Option mm_O} {T : fS} {r : fR}  (l0 : Nat) (xl1 : Int32) (l1 : Nat) (hl1 : xl1 = nI l1) (xl2 : Int32) (l2 : Nat) (hl2 : xl2 = nI l2) (xs0 : Int32) (s0 : Nat) (hs0 : xs0 = nI s0) (h : F16_12  l0 l1 l2 s0 T = some r) : mm_L 16 12 [.ref l0, .int xl1, .int xl2] [.int xs0] (toS z T) = some (tR z r) := by
  unfold F16_12 at h
  refine Eq.trans (e16_12 ..) ?_
  exact (fb_if (cj_eq hs0 hl2) h (fun h1 => (G16_16  _ _ _ hl1 _ _ hl2 h1)) (fun h1 => (G16_20  _ _ _ hl1 _ _ hl2 h1)))
noncomputable def F16_8  (l0 : Nat) (l1 : Nat) (l2 : Nat) (T : fS) : Option fR := (fbn (fgi T l0 3 1) (fun v0 => F16_12  l0 l1 l2 v0 T))
theorem G16_8 {z : Option mm_O} {T : fS} {r : fR}  (l0 : Nat) (xl1 : Int32) (l1 : Nat) (hl1 : xl1 = nI l1) (xl2 : Int32) (l2 : Nat) (hl2 : xl2 = nI l2) (h : F16_8  l0 l1 l2 T = some r) : mm_L 16 8 [.ref l0, .int xl1, .int xl2] [] (toS z T) = some (tR z r) := by
  unfold F16_8 at h
  refine Eq.trans (e16_8 ..) ?_
  exact (fb_n (fun _ q => fgi_ok q) h (fun v0 h2 => G16_12  _ _ _ hl1 _ _ hl2 _ _ rfl h2))
noncomputable def F16_4  (l0 : Nat) (l1 : Nat) (l2 : Nat) (s0 : Nat) (T : fS) : Option fR := (fif (ieq s0 l1) (F16_8  l0 l1 l2 T) (F16_20  l0 l1 l2 T))
theorem G16_4 {z : Option mm_O} {T : fS} {r : fR}  (l0 : Nat) (xl1 : Int32) (l1 : Nat) (hl1 : xl1 = nI l1) (xl2 : Int32) (l2 : Nat) (hl2 : xl2 = nI l2) (xs0 : Int32) (s0 : Nat) (hs0 : xs0 = nI s0) (h : F16_4  l0 l1 l2 s0 T = some r) : mm_L 16 4 [.ref l0, .int xl1, .int xl2] [.int xs0] (toS z T) = some (tR z r) := by
  unfold F16_4 at h
  refine Eq.trans (e16_4 ..) ?_
  exact (fb_if (cj_eq hs0 hl1) h (fun h1 => (G16_8  _ _ _ hl1 _ _ hl2 h1)) (fun h1 => (G16_20  _ _ _ hl1 _ _ hl2 h1)))
noncomputable def F16_0  (l0 : Nat) (l1 : Nat) (l2 : Nat) (T : fS) : Option fR := (fbn (fgi T l0 3 0) (fun v0 => F16_4  l0 l1 l2 v0 T))
theorem G16_0 {z : Option mm_O} {T : fS} {r : fR}  (l0 : Nat) (xl1 : Int32) (l1 : Nat) (hl1 : xl1 = nI l1) (xl2 : Int32) (l2 : Nat) (hl2 : xl2 = nI l2) (h : F16_0  l0 l1 l2 T = some r) : mm_L 16 0 [.ref l0, .int xl1, .int xl2] [] (toS z T) = some (tR z r) := by
  unfold F16_0 at h
  refine Eq.trans (e16_0 ..) ?_
  exact (fb_n (fun _ q => fgi_ok q) h (fun v0 h2 => G16_4  _ _ _ hl1 _ _ hl2 _ _ rfl h2))
theorem GM16 {z : Option mm_O} {T : fS} {r : fR} (l0 : Nat) (xl1 : Int32) (l1 : Nat) (hl1 : xl1 = nI l1) (xl2 : Int32) (l2 : Nat) (hl2 : xl2 = nI l2) (h : F16_0 l0 l1 l2 T = some r) : mm_M 16 [.ref l0, .int xl1, .int xl2] (toS z T) = some (tR z r) := Eq.trans (M_16 ..) (G16_0 l0 xl1 l1 hl1 xl2 l2 hl2 h)
-- 56: HandArchive.locusAt
noncomputable def F56_19  (l0 : Nat) (l1 : Nat) (T : fS) : Option fR := (some ((.inl (some (.inl l1)), T) : fR))
theorem G56_19 {z : Option mm_O} {T : fS} {r : fR}  (xl0 : Int32) (l0 : Nat) (hl0 : xl0 = nI l0) (xl1 : Int32) (l1 : Nat) (hl1 : xl1 = nI l1) (h : F56_19  l0 l1 T = some r) : mm_L 56 19 [.int xl0, .int xl1] [] (toS z T) = some (tR z r) := by
  unfold F56_19 at h
  refine Eq.trans (e56_19 ..) ?_
  exact (fr_i hl1 h)
noncomputable def F56_21 (k2 : Nat → Nat → fS → Option fR) (l0 : Nat) (l1 : Nat) (T : fS) : Option fR := (k2 l0 (iA l1 1) T)
theorem G56_21 {z : Option mm_O} {T : fS} {r : fR} (k2 : Nat → Nat → fS → Option fR) (hk2 : ∀ (xl0 : Int32) (l0 : Nat) (hl0 : xl0 = nI l0) (xl1 : Int32) (l1 : Nat) (hl1 : xl1 = nI l1) (T : fS) (r : fR), k2 l0 l1 T = some r → mm_L 56 2 [.int xl0, .int xl1] [] (toS z T) = some (tR z r)) (xl0 : Int32) (l0 : Nat) (hl0 : xl0 = nI l0) (xl1 : Int32) (l1 : Nat) (hl1 : xl1 = nI l1) (h : F56_21 k2 l0 l1 T = some r) : mm_L 56 21 [.int xl0, .int xl1] [] (toS z T) = some (tR z r) := by
  unfold F56_21 at h
  refine Eq.trans (e56_21 ..) ?_
  exact (hk2 _ _ hl0 _ _ (iA_ok hl1 (rfl : (1 : Int32) = nI 1)) _ _ h)
noncomputable def F56_15 (k2 : Nat → Nat → fS → Option fR) (l0 : Nat) (l1 : Nat) (s0 : Nat) (T : fS) : Option fR := (fif (ieq s0 l0) (F56_19  l0 l1 T) (F56_21 k2 l0 l1 T))
theorem G56_15 {z : Option mm_O} {T : fS} {r : fR} (k2 : Nat → Nat → fS → Option fR) (hk2 : ∀ (xl0 : Int32) (l0 : Nat) (hl0 : xl0 = nI l0) (xl1 : Int32) (l1 : Nat) (hl1 : xl1 = nI l1) (T : fS) (r : fR), k2 l0 l1 T = some r → mm_L 56 2 [.int xl0, .int xl1] [] (toS z T) = some (tR z r)) (xl0 : Int32) (l0 : Nat) (hl0 : xl0 = nI l0) (xl1 : Int32) (l1 : Nat) (hl1 : xl1 = nI l1) (xs0 : Int32) (s0 : Nat) (hs0 : xs0 = nI s0) (h : F56_15 k2 l0 l1 s0 T = some r) : mm_L 56 15 [.int xl0, .int xl1] [.int xs0] (toS z T) = some (tR z r) := by
  unfold F56_15 at h
  refine Eq.trans (e56_15 ..) ?_
  exact (fb_if (cj_eq hs0 hl0) h (fun h1 => (G56_19  _ _ hl0 _ _ hl1 h1)) (fun h1 => (G56_21 k2 hk2 _ _ hl0 _ _ hl1 h1)))
noncomputable def F56_10 (k2 : Nat → Nat → fS → Option fR) (l0 : Nat) (l1 : Nat) (T : fS) : Option fR := (fbn (fal T 1 l1 false) (fun v0 => F56_15 k2 l0 l1 v0 T))
theorem G56_10 {z : Option mm_O} {T : fS} {r : fR} (k2 : Nat → Nat → fS → Option fR) (hk2 : ∀ (xl0 : Int32) (l0 : Nat) (hl0 : xl0 = nI l0) (xl1 : Int32) (l1 : Nat) (hl1 : xl1 = nI l1) (T : fS) (r : fR), k2 l0 l1 T = some r → mm_L 56 2 [.int xl0, .int xl1] [] (toS z T) = some (tR z r)) (xl0 : Int32) (l0 : Nat) (hl0 : xl0 = nI l0) (xl1 : Int32) (l1 : Nat) (hl1 : xl1 = nI l1) (h : F56_10 k2 l0 l1 T = some r) : mm_L 56 10 [.int xl0, .int xl1] [] (toS z T) = some (tR z r) := by
  unfold F56_10 at h
  refine Eq.trans (e56_10 ..) ?_
  exact (fb_n (fun _ q => by rw [hl1]; exact fal_ok q) h (fun v0 h2 => G56_15 k2 hk2 _ _ hl0 _ _ hl1 _ _ rfl h2))
noncomputable def F56_27  (l0 : Nat) (l1 : Nat) (T : fS) : Option fR := (some ((.inl (some (.inl 4294967295)), T) : fR))
theorem G56_27 {z : Option mm_O} {T : fS} {r : fR}  (xl0 : Int32) (l0 : Nat) (hl0 : xl0 = nI l0) (xl1 : Int32) (l1 : Nat) (hl1 : xl1 = nI l1) (h : F56_27  l0 l1 T = some r) : mm_L 56 27 [.int xl0, .int xl1] [] (toS z T) = some (tR z r) := by
  unfold F56_27 at h
  refine Eq.trans (e56_27 ..) ?_
  exact (fr_i (by decide : (-1 : Int32) = nI 4294967295) h)
noncomputable def F56_7 (k2 : Nat → Nat → fS → Option fR) (l0 : Nat) (l1 : Nat) (s0 : Nat) (s1 : Nat) (T : fS) : Option fR := (fif (ile s0 s1) (F56_27  l0 l1 T) (F56_10 k2 l0 l1 T))
theorem G56_7 {z : Option mm_O} {T : fS} {r : fR} (k2 : Nat → Nat → fS → Option fR) (hk2 : ∀ (xl0 : Int32) (l0 : Nat) (hl0 : xl0 = nI l0) (xl1 : Int32) (l1 : Nat) (hl1 : xl1 = nI l1) (T : fS) (r : fR), k2 l0 l1 T = some r → mm_L 56 2 [.int xl0, .int xl1] [] (toS z T) = some (tR z r)) (xl0 : Int32) (l0 : Nat) (hl0 : xl0 = nI l0) (xl1 : Int32) (l1 : Nat) (hl1 : xl1 = nI l1) (xs0 : Int32) (s0 : Nat) (hs0 : xs0 = nI s0) (xs1 : Int32) (s1 : Nat) (hs1 : xs1 = nI s1) (h : F56_7 k2 l0 l1 s0 s1 T = some r) : mm_L 56 7 [.int xl0, .int xl1] [.int xs0, .int xs1] (toS z T) = some (tR z r) := by
  unfold F56_7 at h
  refine Eq.trans (e56_7 ..) ?_
  exact (fb_if (cj_le hs0 hs1) h (fun h1 => (G56_27  _ _ hl0 _ _ hl1 h1)) (fun h1 => (G56_10 k2 hk2 _ _ hl0 _ _ hl1 h1)))
noncomputable def F56_2 (k2 : Nat → Nat → fS → Option fR) (l0 : Nat) (l1 : Nat) (T : fS) : Option fR := (fbn (fln T 1) (fun v0 => F56_7 k2 l0 l1 v0 l1 T))
theorem G56_2 {z : Option mm_O} {T : fS} {r : fR} (k2 : Nat → Nat → fS → Option fR) (hk2 : ∀ (xl0 : Int32) (l0 : Nat) (hl0 : xl0 = nI l0) (xl1 : Int32) (l1 : Nat) (hl1 : xl1 = nI l1) (T : fS) (r : fR), k2 l0 l1 T = some r → mm_L 56 2 [.int xl0, .int xl1] [] (toS z T) = some (tR z r)) (xl0 : Int32) (l0 : Nat) (hl0 : xl0 = nI l0) (xl1 : Int32) (l1 : Nat) (hl1 : xl1 = nI l1) (h : F56_2 k2 l0 l1 T = some r) : mm_L 56 2 [.int xl0, .int xl1] [] (toS z T) = some (tR z r) := by
  unfold F56_2 at h
  refine Eq.trans (e56_2 ..) ?_
  exact (fb_n (fun _ q => fln_ok q) h (fun v0 h2 => G56_7 k2 hk2 _ _ hl0 _ _ hl1 _ _ rfl _ _ hl1 h2))
noncomputable def H56_2  (n : Nat) : Nat → Nat → fS → Option fR := Nat.rec (motive := fun _ => Nat → Nat → fS → Option fR) (fun _ _ _ => none) (fun _ ih => F56_2 ih) n
theorem HG56_2 {z : Option mm_O}  : ∀ (n : Nat) (xl0 : Int32) (l0 : Nat) (hl0 : xl0 = nI l0) (xl1 : Int32) (l1 : Nat) (hl1 : xl1 = nI l1) {T : fS} {r : fR}, H56_2  n l0 l1 T = some r → mm_L 56 2 [.int xl0, .int xl1] [] (toS z T) = some (tR z r) := by
  intro n
  induction n with
  | zero =>
    intro xl0 l0 hl0 xl1 l1 hl1 T r h
    exact fr_n h
  | succ n ih =>
    intro xl0 l0 hl0 xl1 l1 hl1 T r h
    exact G56_2 (H56_2  n) (fun xl0 l0 hl0 xl1 l1 hl1 T r h => ih xl0 l0 hl0 xl1 l1 hl1 h) xl0 l0 hl0 xl1 l1 hl1 h
noncomputable def F56_0  (l0 : Nat) (T : fS) : Option fR := (H56_2  300 l0 0 T)
theorem G56_0 {z : Option mm_O} {T : fS} {r : fR}  (xl0 : Int32) (l0 : Nat) (hl0 : xl0 = nI l0) (ul1 : Value) (h : F56_0  l0 T = some r) : mm_L 56 0 [.int xl0, ul1] [] (toS z T) = some (tR z r) := by
  unfold F56_0 at h
  refine Eq.trans (e56_0 ..) ?_
  exact (HG56_2  300 _ _ hl0 _ _ (rfl : (0 : Int32) = nI 0) h)
theorem GM56 {z : Option mm_O} {T : fS} {r : fR} (xl0 : Int32) (l0 : Nat) (hl0 : xl0 = nI l0) (h : F56_0 l0 T = some r) : mm_M 56 [.int xl0] (toS z T) = some (tR z r) := Eq.trans (M_56 ..) (G56_0 xl0 l0 hl0 _ h)
-- 93: HandArchive.countTicksAlike
noncomputable def F93_50 (k4 : Nat → Nat → Nat → fS → Option fR) (l0 : Nat) (l1 : Nat) (l2 : Nat) (T : fS) : Option fR := (k4 l0 l1 (iA l2 1) T)
theorem G93_50 {z : Option mm_O} {T : fS} {r : fR} (k4 : Nat → Nat → Nat → fS → Option fR) (hk4 : ∀ (l0 : Nat) (xl1 : Int32) (l1 : Nat) (hl1 : xl1 = nI l1) (xl2 : Int32) (l2 : Nat) (hl2 : xl2 = nI l2) (T : fS) (r : fR), k4 l0 l1 l2 T = some r → mm_L 93 4 [.ref l0, .int xl1, .int xl2] [] (toS z T) = some (tR z r)) (l0 : Nat) (xl1 : Int32) (l1 : Nat) (hl1 : xl1 = nI l1) (xl2 : Int32) (l2 : Nat) (hl2 : xl2 = nI l2) (h : F93_50 k4 l0 l1 l2 T = some r) : mm_L 93 50 [.ref l0, .int xl1, .int xl2] [] (toS z T) = some (tR z r) := by
  unfold F93_50 at h
  refine Eq.trans (e93_50 ..) ?_
  exact (hk4 _ _ _ hl1 _ _ (iA_ok hl2 (rfl : (1 : Int32) = nI 1)) _ _ h)
noncomputable def F93_47 (k4 : Nat → Nat → Nat → fS → Option fR) (l0 : Nat) (l1 : Nat) (l2 : Nat) (T : fS) : Option fR := (F93_50 k4 l0 (iA l1 1) l2 T)
theorem G93_47 {z : Option mm_O} {T : fS} {r : fR} (k4 : Nat → Nat → Nat → fS → Option fR) (hk4 : ∀ (l0 : Nat) (xl1 : Int32) (l1 : Nat) (hl1 : xl1 = nI l1) (xl2 : Int32) (l2 : Nat) (hl2 : xl2 = nI l2) (T : fS) (r : fR), k4 l0 l1 l2 T = some r → mm_L 93 4 [.ref l0, .int xl1, .int xl2] [] (toS z T) = some (tR z r)) (l0 : Nat) (xl1 : Int32) (l1 : Nat) (hl1 : xl1 = nI l1) (xl2 : Int32) (l2 : Nat) (hl2 : xl2 = nI l2) (h : F93_47 k4 l0 l1 l2 T = some r) : mm_L 93 47 [.ref l0, .int xl1, .int xl2] [] (toS z T) = some (tR z r) := by
  unfold F93_47 at h
  refine Eq.trans (e93_47 ..) ?_
  exact (G93_50 k4 hk4 _ _ _ (iA_ok hl1 (rfl : (1 : Int32) = nI 1)) _ _ hl2 h)
noncomputable def F93_44 (k4 : Nat → Nat → Nat → fS → Option fR) (l0 : Nat) (l1 : Nat) (l2 : Nat) (s0 : Nat) (s1 : Nat) (T : fS) : Option fR := (fif (ieq s1 s0) (F93_47 k4 l0 l1 l2 T) (F93_50 k4 l0 l1 l2 T))
theorem G93_44 {z : Option mm_O} {T : fS} {r : fR} (k4 : Nat → Nat → Nat → fS → Option fR) (hk4 : ∀ (l0 : Nat) (xl1 : Int32) (l1 : Nat) (hl1 : xl1 = nI l1) (xl2 : Int32) (l2 : Nat) (hl2 : xl2 = nI l2) (T : fS) (r : fR), k4 l0 l1 l2 T = some r → mm_L 93 4 [.ref l0, .int xl1, .int xl2] [] (toS z T) = some (tR z r)) (l0 : Nat) (xl1 : Int32) (l1 : Nat) (hl1 : xl1 = nI l1) (xl2 : Int32) (l2 : Nat) (hl2 : xl2 = nI l2) (xs0 : Int32) (s0 : Nat) (hs0 : xs0 = nI s0) (xs1 : Int32) (s1 : Nat) (hs1 : xs1 = nI s1) (h : F93_44 k4 l0 l1 l2 s0 s1 T = some r) : mm_L 93 44 [.ref l0, .int xl1, .int xl2] [.int xs0, .int xs1] (toS z T) = some (tR z r) := by
  unfold F93_44 at h
  refine Eq.trans (e93_44 ..) ?_
  exact (fb_if (cj_eq hs1 hs0) h (fun h1 => (G93_47 k4 hk4 _ _ _ hl1 _ _ hl2 h1)) (fun h1 => (G93_50 k4 hk4 _ _ _ hl1 _ _ hl2 h1)))
noncomputable def F93_42 (k4 : Nat → Nat → Nat → fS → Option fR) (l0 : Nat) (l1 : Nat) (l2 : Nat) (s0 : Nat) (s1 : Nat) (T : fS) : Option fR := (fbn (fal T s0 l2 false) (fun v0 => F93_44 k4 l0 l1 l2 v0 s1 T))
theorem G93_42 {z : Option mm_O} {T : fS} {r : fR} (k4 : Nat → Nat → Nat → fS → Option fR) (hk4 : ∀ (l0 : Nat) (xl1 : Int32) (l1 : Nat) (hl1 : xl1 = nI l1) (xl2 : Int32) (l2 : Nat) (hl2 : xl2 = nI l2) (T : fS) (r : fR), k4 l0 l1 l2 T = some r → mm_L 93 4 [.ref l0, .int xl1, .int xl2] [] (toS z T) = some (tR z r)) (l0 : Nat) (xl1 : Int32) (l1 : Nat) (hl1 : xl1 = nI l1) (xl2 : Int32) (l2 : Nat) (hl2 : xl2 = nI l2) (s0 : Nat) (xs1 : Int32) (s1 : Nat) (hs1 : xs1 = nI s1) (h : F93_42 k4 l0 l1 l2 s0 s1 T = some r) : mm_L 93 42 [.ref l0, .int xl1, .int xl2] [.ref s0, .int xs1] (toS z T) = some (tR z r) := by
  unfold F93_42 at h
  refine Eq.trans (e93_42 ..) ?_
  exact (fb_n (fun _ q => by rw [hl2]; exact fal_ok q) h (fun v0 h2 => G93_44 k4 hk4 _ _ _ hl1 _ _ hl2 _ _ rfl _ _ hs1 h2))
noncomputable def F93_38 (k4 : Nat → Nat → Nat → fS → Option fR) (l0 : Nat) (l1 : Nat) (l2 : Nat) (s0 : Nat) (T : fS) : Option fR := (fbv (fgr T l0 6 7) (fun v0 => F93_42 k4 l0 l1 l2 v0 s0 T) ((none : Option fR)))
theorem G93_38 {z : Option mm_O} {T : fS} {r : fR} (k4 : Nat → Nat → Nat → fS → Option fR) (hk4 : ∀ (l0 : Nat) (xl1 : Int32) (l1 : Nat) (hl1 : xl1 = nI l1) (xl2 : Int32) (l2 : Nat) (hl2 : xl2 = nI l2) (T : fS) (r : fR), k4 l0 l1 l2 T = some r → mm_L 93 4 [.ref l0, .int xl1, .int xl2] [] (toS z T) = some (tR z r)) (l0 : Nat) (xl1 : Int32) (l1 : Nat) (hl1 : xl1 = nI l1) (xl2 : Int32) (l2 : Nat) (hl2 : xl2 = nI l2) (xs0 : Int32) (s0 : Nat) (hs0 : xs0 = nI s0) (h : F93_38 k4 l0 l1 l2 s0 T = some r) : mm_L 93 38 [.ref l0, .int xl1, .int xl2] [.int xs0] (toS z T) = some (tR z r) := by
  unfold F93_38 at h
  refine Eq.trans (e93_38 ..) ?_
  exact (fb_v (fun _ q => fgr_ok q) h (fun v0 h2 => G93_42 k4 hk4 _ _ _ hl1 _ _ hl2 _ _ _ hs0 h2) (fun h2 => fr_n h2))
noncomputable def F93_36 (k4 : Nat → Nat → Nat → fS → Option fR) (l0 : Nat) (l1 : Nat) (l2 : Nat) (s0 : Nat) (T : fS) : Option fR := (fbn (fal T s0 l2 false) (fun v0 => F93_38 k4 l0 l1 l2 v0 T))
theorem G93_36 {z : Option mm_O} {T : fS} {r : fR} (k4 : Nat → Nat → Nat → fS → Option fR) (hk4 : ∀ (l0 : Nat) (xl1 : Int32) (l1 : Nat) (hl1 : xl1 = nI l1) (xl2 : Int32) (l2 : Nat) (hl2 : xl2 = nI l2) (T : fS) (r : fR), k4 l0 l1 l2 T = some r → mm_L 93 4 [.ref l0, .int xl1, .int xl2] [] (toS z T) = some (tR z r)) (l0 : Nat) (xl1 : Int32) (l1 : Nat) (hl1 : xl1 = nI l1) (xl2 : Int32) (l2 : Nat) (hl2 : xl2 = nI l2) (s0 : Nat) (h : F93_36 k4 l0 l1 l2 s0 T = some r) : mm_L 93 36 [.ref l0, .int xl1, .int xl2] [.ref s0] (toS z T) = some (tR z r) := by
  unfold F93_36 at h
  refine Eq.trans (e93_36 ..) ?_
  exact (fb_n (fun _ q => by rw [hl2]; exact fal_ok q) h (fun v0 h2 => G93_38 k4 hk4 _ _ _ hl1 _ _ hl2 _ _ rfl h2))
noncomputable def F93_32 (k4 : Nat → Nat → Nat → fS → Option fR) (l0 : Nat) (l1 : Nat) (l2 : Nat) (T : fS) : Option fR := (fbv (fgr T l0 6 6) (fun v0 => F93_36 k4 l0 l1 l2 v0 T) ((none : Option fR)))
theorem G93_32 {z : Option mm_O} {T : fS} {r : fR} (k4 : Nat → Nat → Nat → fS → Option fR) (hk4 : ∀ (l0 : Nat) (xl1 : Int32) (l1 : Nat) (hl1 : xl1 = nI l1) (xl2 : Int32) (l2 : Nat) (hl2 : xl2 = nI l2) (T : fS) (r : fR), k4 l0 l1 l2 T = some r → mm_L 93 4 [.ref l0, .int xl1, .int xl2] [] (toS z T) = some (tR z r)) (l0 : Nat) (xl1 : Int32) (l1 : Nat) (hl1 : xl1 = nI l1) (xl2 : Int32) (l2 : Nat) (hl2 : xl2 = nI l2) (h : F93_32 k4 l0 l1 l2 T = some r) : mm_L 93 32 [.ref l0, .int xl1, .int xl2] [] (toS z T) = some (tR z r) := by
  unfold F93_32 at h
  refine Eq.trans (e93_32 ..) ?_
  exact (fb_v (fun _ q => fgr_ok q) h (fun v0 h2 => G93_36 k4 hk4 _ _ _ hl1 _ _ hl2 _ h2) (fun h2 => fr_n h2))
noncomputable def F93_28 (k4 : Nat → Nat → Nat → fS → Option fR) (l0 : Nat) (l1 : Nat) (l2 : Nat) (s0 : Nat) (T : fS) : Option fR := (fif (ieq s0 4294967295) (F93_50 k4 l0 l1 l2 T) (F93_32 k4 l0 l1 l2 T))
theorem G93_28 {z : Option mm_O} {T : fS} {r : fR} (k4 : Nat → Nat → Nat → fS → Option fR) (hk4 : ∀ (l0 : Nat) (xl1 : Int32) (l1 : Nat) (hl1 : xl1 = nI l1) (xl2 : Int32) (l2 : Nat) (hl2 : xl2 = nI l2) (T : fS) (r : fR), k4 l0 l1 l2 T = some r → mm_L 93 4 [.ref l0, .int xl1, .int xl2] [] (toS z T) = some (tR z r)) (l0 : Nat) (xl1 : Int32) (l1 : Nat) (hl1 : xl1 = nI l1) (xl2 : Int32) (l2 : Nat) (hl2 : xl2 = nI l2) (xs0 : Int32) (s0 : Nat) (hs0 : xs0 = nI s0) (h : F93_28 k4 l0 l1 l2 s0 T = some r) : mm_L 93 28 [.ref l0, .int xl1, .int xl2] [.int xs0] (toS z T) = some (tR z r) := by
  unfold F93_28 at h
  refine Eq.trans (e93_28 ..) ?_
  exact (fb_if (cj_eq hs0 (by decide : (-1 : Int32) = nI 4294967295)) h (fun h1 => (G93_50 k4 hk4 _ _ _ hl1 _ _ hl2 h1)) (fun h1 => (G93_32 k4 hk4 _ _ _ hl1 _ _ hl2 h1)))
noncomputable def F93_26 (k4 : Nat → Nat → Nat → fS → Option fR) (l0 : Nat) (l1 : Nat) (l2 : Nat) (s0 : Nat) (T : fS) : Option fR := (fbn (fal T s0 l2 false) (fun v0 => F93_28 k4 l0 l1 l2 v0 T))
theorem G93_26 {z : Option mm_O} {T : fS} {r : fR} (k4 : Nat → Nat → Nat → fS → Option fR) (hk4 : ∀ (l0 : Nat) (xl1 : Int32) (l1 : Nat) (hl1 : xl1 = nI l1) (xl2 : Int32) (l2 : Nat) (hl2 : xl2 = nI l2) (T : fS) (r : fR), k4 l0 l1 l2 T = some r → mm_L 93 4 [.ref l0, .int xl1, .int xl2] [] (toS z T) = some (tR z r)) (l0 : Nat) (xl1 : Int32) (l1 : Nat) (hl1 : xl1 = nI l1) (xl2 : Int32) (l2 : Nat) (hl2 : xl2 = nI l2) (s0 : Nat) (h : F93_26 k4 l0 l1 l2 s0 T = some r) : mm_L 93 26 [.ref l0, .int xl1, .int xl2] [.ref s0] (toS z T) = some (tR z r) := by
  unfold F93_26 at h
  refine Eq.trans (e93_26 ..) ?_
  exact (fb_n (fun _ q => by rw [hl2]; exact fal_ok q) h (fun v0 h2 => G93_28 k4 hk4 _ _ _ hl1 _ _ hl2 _ _ rfl h2))
noncomputable def F93_22 (k4 : Nat → Nat → Nat → fS → Option fR) (l0 : Nat) (l1 : Nat) (l2 : Nat) (T : fS) : Option fR := (fbv (fgr T l0 6 6) (fun v0 => F93_26 k4 l0 l1 l2 v0 T) ((none : Option fR)))
theorem G93_22 {z : Option mm_O} {T : fS} {r : fR} (k4 : Nat → Nat → Nat → fS → Option fR) (hk4 : ∀ (l0 : Nat) (xl1 : Int32) (l1 : Nat) (hl1 : xl1 = nI l1) (xl2 : Int32) (l2 : Nat) (hl2 : xl2 = nI l2) (T : fS) (r : fR), k4 l0 l1 l2 T = some r → mm_L 93 4 [.ref l0, .int xl1, .int xl2] [] (toS z T) = some (tR z r)) (l0 : Nat) (xl1 : Int32) (l1 : Nat) (hl1 : xl1 = nI l1) (xl2 : Int32) (l2 : Nat) (hl2 : xl2 = nI l2) (h : F93_22 k4 l0 l1 l2 T = some r) : mm_L 93 22 [.ref l0, .int xl1, .int xl2] [] (toS z T) = some (tR z r) := by
  unfold F93_22 at h
  refine Eq.trans (e93_22 ..) ?_
  exact (fb_v (fun _ q => fgr_ok q) h (fun v0 h2 => G93_26 k4 hk4 _ _ _ hl1 _ _ hl2 _ h2) (fun h2 => fr_n h2))
noncomputable def F93_56  (l0 : Nat) (l1 : Nat) (l2 : Nat) (T : fS) : Option fR := (some ((.inl (some (.inl l1)), T) : fR))
theorem G93_56 {z : Option mm_O} {T : fS} {r : fR}  (l0 : Nat) (xl1 : Int32) (l1 : Nat) (hl1 : xl1 = nI l1) (xl2 : Int32) (l2 : Nat) (hl2 : xl2 = nI l2) (h : F93_56  l0 l1 l2 T = some r) : mm_L 93 56 [.ref l0, .int xl1, .int xl2] [] (toS z T) = some (tR z r) := by
  unfold F93_56 at h
  refine Eq.trans (e93_56 ..) ?_
  exact (fr_i hl1 h)
noncomputable def F93_19 (k4 : Nat → Nat → Nat → fS → Option fR) (l0 : Nat) (l1 : Nat) (l2 : Nat) (s0 : Nat) (s1 : Nat) (T : fS) : Option fR := (fif (ile s0 s1) (F93_56  l0 l1 l2 T) (F93_22 k4 l0 l1 l2 T))
theorem G93_19 {z : Option mm_O} {T : fS} {r : fR} (k4 : Nat → Nat → Nat → fS → Option fR) (hk4 : ∀ (l0 : Nat) (xl1 : Int32) (l1 : Nat) (hl1 : xl1 = nI l1) (xl2 : Int32) (l2 : Nat) (hl2 : xl2 = nI l2) (T : fS) (r : fR), k4 l0 l1 l2 T = some r → mm_L 93 4 [.ref l0, .int xl1, .int xl2] [] (toS z T) = some (tR z r)) (l0 : Nat) (xl1 : Int32) (l1 : Nat) (hl1 : xl1 = nI l1) (xl2 : Int32) (l2 : Nat) (hl2 : xl2 = nI l2) (xs0 : Int32) (s0 : Nat) (hs0 : xs0 = nI s0) (xs1 : Int32) (s1 : Nat) (hs1 : xs1 = nI s1) (h : F93_19 k4 l0 l1 l2 s0 s1 T = some r) : mm_L 93 19 [.ref l0, .int xl1, .int xl2] [.int xs0, .int xs1] (toS z T) = some (tR z r) := by
  unfold F93_19 at h
  refine Eq.trans (e93_19 ..) ?_
  exact (fb_if (cj_le hs0 hs1) h (fun h1 => (G93_56  _ _ _ hl1 _ _ hl2 h1)) (fun h1 => (G93_22 k4 hk4 _ _ _ hl1 _ _ hl2 h1)))
noncomputable def F93_18 (k4 : Nat → Nat → Nat → fS → Option fR) (l0 : Nat) (l1 : Nat) (l2 : Nat) (s0 : Nat) (s1 : Nat) (T : fS) : Option fR := (fbn (fln T s0) (fun v0 => F93_19 k4 l0 l1 l2 v0 s1 T))
theorem G93_18 {z : Option mm_O} {T : fS} {r : fR} (k4 : Nat → Nat → Nat → fS → Option fR) (hk4 : ∀ (l0 : Nat) (xl1 : Int32) (l1 : Nat) (hl1 : xl1 = nI l1) (xl2 : Int32) (l2 : Nat) (hl2 : xl2 = nI l2) (T : fS) (r : fR), k4 l0 l1 l2 T = some r → mm_L 93 4 [.ref l0, .int xl1, .int xl2] [] (toS z T) = some (tR z r)) (l0 : Nat) (xl1 : Int32) (l1 : Nat) (hl1 : xl1 = nI l1) (xl2 : Int32) (l2 : Nat) (hl2 : xl2 = nI l2) (s0 : Nat) (xs1 : Int32) (s1 : Nat) (hs1 : xs1 = nI s1) (h : F93_18 k4 l0 l1 l2 s0 s1 T = some r) : mm_L 93 18 [.ref l0, .int xl1, .int xl2] [.ref s0, .int xs1] (toS z T) = some (tR z r) := by
  unfold F93_18 at h
  refine Eq.trans (e93_18 ..) ?_
  exact (fb_n (fun _ q => fln_ok q) h (fun v0 h2 => G93_19 k4 hk4 _ _ _ hl1 _ _ hl2 _ _ rfl _ _ hs1 h2))
noncomputable def F93_13 (k4 : Nat → Nat → Nat → fS → Option fR) (l0 : Nat) (l1 : Nat) (l2 : Nat) (T : fS) : Option fR := (fbv (fgr T l0 6 7) (fun v0 => F93_18 k4 l0 l1 l2 v0 l2 T) ((none : Option fR)))
theorem G93_13 {z : Option mm_O} {T : fS} {r : fR} (k4 : Nat → Nat → Nat → fS → Option fR) (hk4 : ∀ (l0 : Nat) (xl1 : Int32) (l1 : Nat) (hl1 : xl1 = nI l1) (xl2 : Int32) (l2 : Nat) (hl2 : xl2 = nI l2) (T : fS) (r : fR), k4 l0 l1 l2 T = some r → mm_L 93 4 [.ref l0, .int xl1, .int xl2] [] (toS z T) = some (tR z r)) (l0 : Nat) (xl1 : Int32) (l1 : Nat) (hl1 : xl1 = nI l1) (xl2 : Int32) (l2 : Nat) (hl2 : xl2 = nI l2) (h : F93_13 k4 l0 l1 l2 T = some r) : mm_L 93 13 [.ref l0, .int xl1, .int xl2] [] (toS z T) = some (tR z r) := by
  unfold F93_13 at h
  refine Eq.trans (e93_13 ..) ?_
  exact (fb_v (fun _ q => fgr_ok q) h (fun v0 h2 => G93_18 k4 hk4 _ _ _ hl1 _ _ hl2 _ _ _ hl2 h2) (fun h2 => fr_n h2))
noncomputable def F93_10 (k4 : Nat → Nat → Nat → fS → Option fR) (l0 : Nat) (l1 : Nat) (l2 : Nat) (s0 : Nat) (s1 : Nat) (T : fS) : Option fR := (fif (ile s0 s1) (F93_56  l0 l1 l2 T) (F93_13 k4 l0 l1 l2 T))
theorem G93_10 {z : Option mm_O} {T : fS} {r : fR} (k4 : Nat → Nat → Nat → fS → Option fR) (hk4 : ∀ (l0 : Nat) (xl1 : Int32) (l1 : Nat) (hl1 : xl1 = nI l1) (xl2 : Int32) (l2 : Nat) (hl2 : xl2 = nI l2) (T : fS) (r : fR), k4 l0 l1 l2 T = some r → mm_L 93 4 [.ref l0, .int xl1, .int xl2] [] (toS z T) = some (tR z r)) (l0 : Nat) (xl1 : Int32) (l1 : Nat) (hl1 : xl1 = nI l1) (xl2 : Int32) (l2 : Nat) (hl2 : xl2 = nI l2) (xs0 : Int32) (s0 : Nat) (hs0 : xs0 = nI s0) (xs1 : Int32) (s1 : Nat) (hs1 : xs1 = nI s1) (h : F93_10 k4 l0 l1 l2 s0 s1 T = some r) : mm_L 93 10 [.ref l0, .int xl1, .int xl2] [.int xs0, .int xs1] (toS z T) = some (tR z r) := by
  unfold F93_10 at h
  refine Eq.trans (e93_10 ..) ?_
  exact (fb_if (cj_le hs0 hs1) h (fun h1 => (G93_56  _ _ _ hl1 _ _ hl2 h1)) (fun h1 => (G93_13 k4 hk4 _ _ _ hl1 _ _ hl2 h1)))
noncomputable def F93_9 (k4 : Nat → Nat → Nat → fS → Option fR) (l0 : Nat) (l1 : Nat) (l2 : Nat) (s0 : Nat) (s1 : Nat) (T : fS) : Option fR := (fbn (fln T s0) (fun v0 => F93_10 k4 l0 l1 l2 v0 s1 T))
theorem G93_9 {z : Option mm_O} {T : fS} {r : fR} (k4 : Nat → Nat → Nat → fS → Option fR) (hk4 : ∀ (l0 : Nat) (xl1 : Int32) (l1 : Nat) (hl1 : xl1 = nI l1) (xl2 : Int32) (l2 : Nat) (hl2 : xl2 = nI l2) (T : fS) (r : fR), k4 l0 l1 l2 T = some r → mm_L 93 4 [.ref l0, .int xl1, .int xl2] [] (toS z T) = some (tR z r)) (l0 : Nat) (xl1 : Int32) (l1 : Nat) (hl1 : xl1 = nI l1) (xl2 : Int32) (l2 : Nat) (hl2 : xl2 = nI l2) (s0 : Nat) (xs1 : Int32) (s1 : Nat) (hs1 : xs1 = nI s1) (h : F93_9 k4 l0 l1 l2 s0 s1 T = some r) : mm_L 93 9 [.ref l0, .int xl1, .int xl2] [.ref s0, .int xs1] (toS z T) = some (tR z r) := by
  unfold F93_9 at h
  refine Eq.trans (e93_9 ..) ?_
  exact (fb_n (fun _ q => fln_ok q) h (fun v0 h2 => G93_10 k4 hk4 _ _ _ hl1 _ _ hl2 _ _ rfl _ _ hs1 h2))
noncomputable def F93_4 (k4 : Nat → Nat → Nat → fS → Option fR) (l0 : Nat) (l1 : Nat) (l2 : Nat) (T : fS) : Option fR := (fbv (fgr T l0 6 6) (fun v0 => F93_9 k4 l0 l1 l2 v0 l2 T) ((none : Option fR)))
theorem G93_4 {z : Option mm_O} {T : fS} {r : fR} (k4 : Nat → Nat → Nat → fS → Option fR) (hk4 : ∀ (l0 : Nat) (xl1 : Int32) (l1 : Nat) (hl1 : xl1 = nI l1) (xl2 : Int32) (l2 : Nat) (hl2 : xl2 = nI l2) (T : fS) (r : fR), k4 l0 l1 l2 T = some r → mm_L 93 4 [.ref l0, .int xl1, .int xl2] [] (toS z T) = some (tR z r)) (l0 : Nat) (xl1 : Int32) (l1 : Nat) (hl1 : xl1 = nI l1) (xl2 : Int32) (l2 : Nat) (hl2 : xl2 = nI l2) (h : F93_4 k4 l0 l1 l2 T = some r) : mm_L 93 4 [.ref l0, .int xl1, .int xl2] [] (toS z T) = some (tR z r) := by
  unfold F93_4 at h
  refine Eq.trans (e93_4 ..) ?_
  exact (fb_v (fun _ q => fgr_ok q) h (fun v0 h2 => G93_9 k4 hk4 _ _ _ hl1 _ _ hl2 _ _ _ hl2 h2) (fun h2 => fr_n h2))
noncomputable def H93_4  (n : Nat) : Nat → Nat → Nat → fS → Option fR := Nat.rec (motive := fun _ => Nat → Nat → Nat → fS → Option fR) (fun _ _ _ _ => none) (fun _ ih => F93_4 ih) n
theorem HG93_4 {z : Option mm_O}  : ∀ (n : Nat) (l0 : Nat) (xl1 : Int32) (l1 : Nat) (hl1 : xl1 = nI l1) (xl2 : Int32) (l2 : Nat) (hl2 : xl2 = nI l2) {T : fS} {r : fR}, H93_4  n l0 l1 l2 T = some r → mm_L 93 4 [.ref l0, .int xl1, .int xl2] [] (toS z T) = some (tR z r) := by
  intro n
  induction n with
  | zero =>
    intro l0 xl1 l1 hl1 xl2 l2 hl2 T r h
    exact fr_n h
  | succ n ih =>
    intro l0 xl1 l1 hl1 xl2 l2 hl2 T r h
    exact G93_4 (H93_4  n) (fun l0 xl1 l1 hl1 xl2 l2 hl2 T r h => ih l0 xl1 l1 hl1 xl2 l2 hl2 h) l0 xl1 l1 hl1 xl2 l2 hl2 h
noncomputable def F93_0  (l0 : Nat) (T : fS) : Option fR := (H93_4  300 l0 0 0 T)
theorem G93_0 {z : Option mm_O} {T : fS} {r : fR}  (l0 : Nat) (ul1 : Value) (ul2 : Value) (h : F93_0  l0 T = some r) : mm_L 93 0 [.ref l0, ul1, ul2] [] (toS z T) = some (tR z r) := by
  unfold F93_0 at h
  refine Eq.trans (e93_0 ..) ?_
  exact (HG93_4  300 _ _ _ (rfl : (0 : Int32) = nI 0) _ _ (rfl : (0 : Int32) = nI 0) h)
theorem GM93 {z : Option mm_O} {T : fS} {r : fR} (l0 : Nat) (h : F93_0 l0 T = some r) : mm_M 93 [.ref l0] (toS z T) = some (tR z r) := Eq.trans (M_93 ..) (G93_0 l0 _ _ h)
-- 94: HandArchive.countTicksWithValue
noncomputable def F94_45 (k4 : Nat → Nat → Nat → fS → Option fR) (l0 : Nat) (l1 : Nat) (l2 : Nat) (T : fS) : Option fR := (k4 l0 l1 (iA l2 1) T)
theorem G94_45 {z : Option mm_O} {T : fS} {r : fR} (k4 : Nat → Nat → Nat → fS → Option fR) (hk4 : ∀ (l0 : Nat) (xl1 : Int32) (l1 : Nat) (hl1 : xl1 = nI l1) (xl2 : Int32) (l2 : Nat) (hl2 : xl2 = nI l2) (T : fS) (r : fR), k4 l0 l1 l2 T = some r → mm_L 94 4 [.ref l0, .int xl1, .int xl2] [] (toS z T) = some (tR z r)) (l0 : Nat) (xl1 : Int32) (l1 : Nat) (hl1 : xl1 = nI l1) (xl2 : Int32) (l2 : Nat) (hl2 : xl2 = nI l2) (h : F94_45 k4 l0 l1 l2 T = some r) : mm_L 94 45 [.ref l0, .int xl1, .int xl2] [] (toS z T) = some (tR z r) := by
  unfold F94_45 at h
  refine Eq.trans (e94_45 ..) ?_
  exact (hk4 _ _ _ hl1 _ _ (iA_ok hl2 (rfl : (1 : Int32) = nI 1)) _ _ h)
noncomputable def F94_42 (k4 : Nat → Nat → Nat → fS → Option fR) (l0 : Nat) (l1 : Nat) (l2 : Nat) (T : fS) : Option fR := (F94_45 k4 l0 (iA l1 1) l2 T)
theorem G94_42 {z : Option mm_O} {T : fS} {r : fR} (k4 : Nat → Nat → Nat → fS → Option fR) (hk4 : ∀ (l0 : Nat) (xl1 : Int32) (l1 : Nat) (hl1 : xl1 = nI l1) (xl2 : Int32) (l2 : Nat) (hl2 : xl2 = nI l2) (T : fS) (r : fR), k4 l0 l1 l2 T = some r → mm_L 94 4 [.ref l0, .int xl1, .int xl2] [] (toS z T) = some (tR z r)) (l0 : Nat) (xl1 : Int32) (l1 : Nat) (hl1 : xl1 = nI l1) (xl2 : Int32) (l2 : Nat) (hl2 : xl2 = nI l2) (h : F94_42 k4 l0 l1 l2 T = some r) : mm_L 94 42 [.ref l0, .int xl1, .int xl2] [] (toS z T) = some (tR z r) := by
  unfold F94_42 at h
  refine Eq.trans (e94_42 ..) ?_
  exact (G94_45 k4 hk4 _ _ _ (iA_ok hl1 (rfl : (1 : Int32) = nI 1)) _ _ hl2 h)
noncomputable def F94_38 (k4 : Nat → Nat → Nat → fS → Option fR) (l0 : Nat) (l1 : Nat) (l2 : Nat) (s0 : Nat) (T : fS) : Option fR := (fif (ieq s0 4294967295) (F94_45 k4 l0 l1 l2 T) (F94_42 k4 l0 l1 l2 T))
theorem G94_38 {z : Option mm_O} {T : fS} {r : fR} (k4 : Nat → Nat → Nat → fS → Option fR) (hk4 : ∀ (l0 : Nat) (xl1 : Int32) (l1 : Nat) (hl1 : xl1 = nI l1) (xl2 : Int32) (l2 : Nat) (hl2 : xl2 = nI l2) (T : fS) (r : fR), k4 l0 l1 l2 T = some r → mm_L 94 4 [.ref l0, .int xl1, .int xl2] [] (toS z T) = some (tR z r)) (l0 : Nat) (xl1 : Int32) (l1 : Nat) (hl1 : xl1 = nI l1) (xl2 : Int32) (l2 : Nat) (hl2 : xl2 = nI l2) (xs0 : Int32) (s0 : Nat) (hs0 : xs0 = nI s0) (h : F94_38 k4 l0 l1 l2 s0 T = some r) : mm_L 94 38 [.ref l0, .int xl1, .int xl2] [.int xs0] (toS z T) = some (tR z r) := by
  unfold F94_38 at h
  refine Eq.trans (e94_38 ..) ?_
  exact (fb_if (cj_eq hs0 (by decide : (-1 : Int32) = nI 4294967295)) h (fun h1 => (G94_45 k4 hk4 _ _ _ hl1 _ _ hl2 h1)) (fun h1 => (G94_42 k4 hk4 _ _ _ hl1 _ _ hl2 h1)))
noncomputable def F94_36 (k4 : Nat → Nat → Nat → fS → Option fR) (l0 : Nat) (l1 : Nat) (l2 : Nat) (s0 : Nat) (T : fS) : Option fR := (fbn (fal T s0 l2 false) (fun v0 => F94_38 k4 l0 l1 l2 v0 T))
theorem G94_36 {z : Option mm_O} {T : fS} {r : fR} (k4 : Nat → Nat → Nat → fS → Option fR) (hk4 : ∀ (l0 : Nat) (xl1 : Int32) (l1 : Nat) (hl1 : xl1 = nI l1) (xl2 : Int32) (l2 : Nat) (hl2 : xl2 = nI l2) (T : fS) (r : fR), k4 l0 l1 l2 T = some r → mm_L 94 4 [.ref l0, .int xl1, .int xl2] [] (toS z T) = some (tR z r)) (l0 : Nat) (xl1 : Int32) (l1 : Nat) (hl1 : xl1 = nI l1) (xl2 : Int32) (l2 : Nat) (hl2 : xl2 = nI l2) (s0 : Nat) (h : F94_36 k4 l0 l1 l2 s0 T = some r) : mm_L 94 36 [.ref l0, .int xl1, .int xl2] [.ref s0] (toS z T) = some (tR z r) := by
  unfold F94_36 at h
  refine Eq.trans (e94_36 ..) ?_
  exact (fb_n (fun _ q => by rw [hl2]; exact fal_ok q) h (fun v0 h2 => G94_38 k4 hk4 _ _ _ hl1 _ _ hl2 _ _ rfl h2))
noncomputable def F94_32 (k4 : Nat → Nat → Nat → fS → Option fR) (l0 : Nat) (l1 : Nat) (l2 : Nat) (T : fS) : Option fR := (fbv (fgr T l0 6 7) (fun v0 => F94_36 k4 l0 l1 l2 v0 T) ((none : Option fR)))
theorem G94_32 {z : Option mm_O} {T : fS} {r : fR} (k4 : Nat → Nat → Nat → fS → Option fR) (hk4 : ∀ (l0 : Nat) (xl1 : Int32) (l1 : Nat) (hl1 : xl1 = nI l1) (xl2 : Int32) (l2 : Nat) (hl2 : xl2 = nI l2) (T : fS) (r : fR), k4 l0 l1 l2 T = some r → mm_L 94 4 [.ref l0, .int xl1, .int xl2] [] (toS z T) = some (tR z r)) (l0 : Nat) (xl1 : Int32) (l1 : Nat) (hl1 : xl1 = nI l1) (xl2 : Int32) (l2 : Nat) (hl2 : xl2 = nI l2) (h : F94_32 k4 l0 l1 l2 T = some r) : mm_L 94 32 [.ref l0, .int xl1, .int xl2] [] (toS z T) = some (tR z r) := by
  unfold F94_32 at h
  refine Eq.trans (e94_32 ..) ?_
  exact (fb_v (fun _ q => fgr_ok q) h (fun v0 h2 => G94_36 k4 hk4 _ _ _ hl1 _ _ hl2 _ h2) (fun h2 => fr_n h2))
noncomputable def F94_28 (k4 : Nat → Nat → Nat → fS → Option fR) (l0 : Nat) (l1 : Nat) (l2 : Nat) (s0 : Nat) (T : fS) : Option fR := (fif (ieq s0 4294967295) (F94_32 k4 l0 l1 l2 T) (F94_42 k4 l0 l1 l2 T))
theorem G94_28 {z : Option mm_O} {T : fS} {r : fR} (k4 : Nat → Nat → Nat → fS → Option fR) (hk4 : ∀ (l0 : Nat) (xl1 : Int32) (l1 : Nat) (hl1 : xl1 = nI l1) (xl2 : Int32) (l2 : Nat) (hl2 : xl2 = nI l2) (T : fS) (r : fR), k4 l0 l1 l2 T = some r → mm_L 94 4 [.ref l0, .int xl1, .int xl2] [] (toS z T) = some (tR z r)) (l0 : Nat) (xl1 : Int32) (l1 : Nat) (hl1 : xl1 = nI l1) (xl2 : Int32) (l2 : Nat) (hl2 : xl2 = nI l2) (xs0 : Int32) (s0 : Nat) (hs0 : xs0 = nI s0) (h : F94_28 k4 l0 l1 l2 s0 T = some r) : mm_L 94 28 [.ref l0, .int xl1, .int xl2] [.int xs0] (toS z T) = some (tR z r) := by
  unfold F94_28 at h
  refine Eq.trans (e94_28 ..) ?_
  exact (fb_if (cj_eq hs0 (by decide : (-1 : Int32) = nI 4294967295)) h (fun h1 => (G94_32 k4 hk4 _ _ _ hl1 _ _ hl2 h1)) (fun h1 => (G94_42 k4 hk4 _ _ _ hl1 _ _ hl2 h1)))
noncomputable def F94_26 (k4 : Nat → Nat → Nat → fS → Option fR) (l0 : Nat) (l1 : Nat) (l2 : Nat) (s0 : Nat) (T : fS) : Option fR := (fbn (fal T s0 l2 false) (fun v0 => F94_28 k4 l0 l1 l2 v0 T))
theorem G94_26 {z : Option mm_O} {T : fS} {r : fR} (k4 : Nat → Nat → Nat → fS → Option fR) (hk4 : ∀ (l0 : Nat) (xl1 : Int32) (l1 : Nat) (hl1 : xl1 = nI l1) (xl2 : Int32) (l2 : Nat) (hl2 : xl2 = nI l2) (T : fS) (r : fR), k4 l0 l1 l2 T = some r → mm_L 94 4 [.ref l0, .int xl1, .int xl2] [] (toS z T) = some (tR z r)) (l0 : Nat) (xl1 : Int32) (l1 : Nat) (hl1 : xl1 = nI l1) (xl2 : Int32) (l2 : Nat) (hl2 : xl2 = nI l2) (s0 : Nat) (h : F94_26 k4 l0 l1 l2 s0 T = some r) : mm_L 94 26 [.ref l0, .int xl1, .int xl2] [.ref s0] (toS z T) = some (tR z r) := by
  unfold F94_26 at h
  refine Eq.trans (e94_26 ..) ?_
  exact (fb_n (fun _ q => by rw [hl2]; exact fal_ok q) h (fun v0 h2 => G94_28 k4 hk4 _ _ _ hl1 _ _ hl2 _ _ rfl h2))
noncomputable def F94_22 (k4 : Nat → Nat → Nat → fS → Option fR) (l0 : Nat) (l1 : Nat) (l2 : Nat) (T : fS) : Option fR := (fbv (fgr T l0 6 6) (fun v0 => F94_26 k4 l0 l1 l2 v0 T) ((none : Option fR)))
theorem G94_22 {z : Option mm_O} {T : fS} {r : fR} (k4 : Nat → Nat → Nat → fS → Option fR) (hk4 : ∀ (l0 : Nat) (xl1 : Int32) (l1 : Nat) (hl1 : xl1 = nI l1) (xl2 : Int32) (l2 : Nat) (hl2 : xl2 = nI l2) (T : fS) (r : fR), k4 l0 l1 l2 T = some r → mm_L 94 4 [.ref l0, .int xl1, .int xl2] [] (toS z T) = some (tR z r)) (l0 : Nat) (xl1 : Int32) (l1 : Nat) (hl1 : xl1 = nI l1) (xl2 : Int32) (l2 : Nat) (hl2 : xl2 = nI l2) (h : F94_22 k4 l0 l1 l2 T = some r) : mm_L 94 22 [.ref l0, .int xl1, .int xl2] [] (toS z T) = some (tR z r) := by
  unfold F94_22 at h
  refine Eq.trans (e94_22 ..) ?_
  exact (fb_v (fun _ q => fgr_ok q) h (fun v0 h2 => G94_26 k4 hk4 _ _ _ hl1 _ _ hl2 _ h2) (fun h2 => fr_n h2))
noncomputable def F94_51  (l0 : Nat) (l1 : Nat) (l2 : Nat) (T : fS) : Option fR := (some ((.inl (some (.inl l1)), T) : fR))
theorem G94_51 {z : Option mm_O} {T : fS} {r : fR}  (l0 : Nat) (xl1 : Int32) (l1 : Nat) (hl1 : xl1 = nI l1) (xl2 : Int32) (l2 : Nat) (hl2 : xl2 = nI l2) (h : F94_51  l0 l1 l2 T = some r) : mm_L 94 51 [.ref l0, .int xl1, .int xl2] [] (toS z T) = some (tR z r) := by
  unfold F94_51 at h
  refine Eq.trans (e94_51 ..) ?_
  exact (fr_i hl1 h)
noncomputable def F94_19 (k4 : Nat → Nat → Nat → fS → Option fR) (l0 : Nat) (l1 : Nat) (l2 : Nat) (s0 : Nat) (s1 : Nat) (T : fS) : Option fR := (fif (ile s0 s1) (F94_51  l0 l1 l2 T) (F94_22 k4 l0 l1 l2 T))
theorem G94_19 {z : Option mm_O} {T : fS} {r : fR} (k4 : Nat → Nat → Nat → fS → Option fR) (hk4 : ∀ (l0 : Nat) (xl1 : Int32) (l1 : Nat) (hl1 : xl1 = nI l1) (xl2 : Int32) (l2 : Nat) (hl2 : xl2 = nI l2) (T : fS) (r : fR), k4 l0 l1 l2 T = some r → mm_L 94 4 [.ref l0, .int xl1, .int xl2] [] (toS z T) = some (tR z r)) (l0 : Nat) (xl1 : Int32) (l1 : Nat) (hl1 : xl1 = nI l1) (xl2 : Int32) (l2 : Nat) (hl2 : xl2 = nI l2) (xs0 : Int32) (s0 : Nat) (hs0 : xs0 = nI s0) (xs1 : Int32) (s1 : Nat) (hs1 : xs1 = nI s1) (h : F94_19 k4 l0 l1 l2 s0 s1 T = some r) : mm_L 94 19 [.ref l0, .int xl1, .int xl2] [.int xs0, .int xs1] (toS z T) = some (tR z r) := by
  unfold F94_19 at h
  refine Eq.trans (e94_19 ..) ?_
  exact (fb_if (cj_le hs0 hs1) h (fun h1 => (G94_51  _ _ _ hl1 _ _ hl2 h1)) (fun h1 => (G94_22 k4 hk4 _ _ _ hl1 _ _ hl2 h1)))
noncomputable def F94_18 (k4 : Nat → Nat → Nat → fS → Option fR) (l0 : Nat) (l1 : Nat) (l2 : Nat) (s0 : Nat) (s1 : Nat) (T : fS) : Option fR := (fbn (fln T s0) (fun v0 => F94_19 k4 l0 l1 l2 v0 s1 T))
theorem G94_18 {z : Option mm_O} {T : fS} {r : fR} (k4 : Nat → Nat → Nat → fS → Option fR) (hk4 : ∀ (l0 : Nat) (xl1 : Int32) (l1 : Nat) (hl1 : xl1 = nI l1) (xl2 : Int32) (l2 : Nat) (hl2 : xl2 = nI l2) (T : fS) (r : fR), k4 l0 l1 l2 T = some r → mm_L 94 4 [.ref l0, .int xl1, .int xl2] [] (toS z T) = some (tR z r)) (l0 : Nat) (xl1 : Int32) (l1 : Nat) (hl1 : xl1 = nI l1) (xl2 : Int32) (l2 : Nat) (hl2 : xl2 = nI l2) (s0 : Nat) (xs1 : Int32) (s1 : Nat) (hs1 : xs1 = nI s1) (h : F94_18 k4 l0 l1 l2 s0 s1 T = some r) : mm_L 94 18 [.ref l0, .int xl1, .int xl2] [.ref s0, .int xs1] (toS z T) = some (tR z r) := by
  unfold F94_18 at h
  refine Eq.trans (e94_18 ..) ?_
  exact (fb_n (fun _ q => fln_ok q) h (fun v0 h2 => G94_19 k4 hk4 _ _ _ hl1 _ _ hl2 _ _ rfl _ _ hs1 h2))
noncomputable def F94_13 (k4 : Nat → Nat → Nat → fS → Option fR) (l0 : Nat) (l1 : Nat) (l2 : Nat) (T : fS) : Option fR := (fbv (fgr T l0 6 7) (fun v0 => F94_18 k4 l0 l1 l2 v0 l2 T) ((none : Option fR)))
theorem G94_13 {z : Option mm_O} {T : fS} {r : fR} (k4 : Nat → Nat → Nat → fS → Option fR) (hk4 : ∀ (l0 : Nat) (xl1 : Int32) (l1 : Nat) (hl1 : xl1 = nI l1) (xl2 : Int32) (l2 : Nat) (hl2 : xl2 = nI l2) (T : fS) (r : fR), k4 l0 l1 l2 T = some r → mm_L 94 4 [.ref l0, .int xl1, .int xl2] [] (toS z T) = some (tR z r)) (l0 : Nat) (xl1 : Int32) (l1 : Nat) (hl1 : xl1 = nI l1) (xl2 : Int32) (l2 : Nat) (hl2 : xl2 = nI l2) (h : F94_13 k4 l0 l1 l2 T = some r) : mm_L 94 13 [.ref l0, .int xl1, .int xl2] [] (toS z T) = some (tR z r) := by
  unfold F94_13 at h
  refine Eq.trans (e94_13 ..) ?_
  exact (fb_v (fun _ q => fgr_ok q) h (fun v0 h2 => G94_18 k4 hk4 _ _ _ hl1 _ _ hl2 _ _ _ hl2 h2) (fun h2 => fr_n h2))
noncomputable def F94_10 (k4 : Nat → Nat → Nat → fS → Option fR) (l0 : Nat) (l1 : Nat) (l2 : Nat) (s0 : Nat) (s1 : Nat) (T : fS) : Option fR := (fif (ile s0 s1) (F94_51  l0 l1 l2 T) (F94_13 k4 l0 l1 l2 T))
theorem G94_10 {z : Option mm_O} {T : fS} {r : fR} (k4 : Nat → Nat → Nat → fS → Option fR) (hk4 : ∀ (l0 : Nat) (xl1 : Int32) (l1 : Nat) (hl1 : xl1 = nI l1) (xl2 : Int32) (l2 : Nat) (hl2 : xl2 = nI l2) (T : fS) (r : fR), k4 l0 l1 l2 T = some r → mm_L 94 4 [.ref l0, .int xl1, .int xl2] [] (toS z T) = some (tR z r)) (l0 : Nat) (xl1 : Int32) (l1 : Nat) (hl1 : xl1 = nI l1) (xl2 : Int32) (l2 : Nat) (hl2 : xl2 = nI l2) (xs0 : Int32) (s0 : Nat) (hs0 : xs0 = nI s0) (xs1 : Int32) (s1 : Nat) (hs1 : xs1 = nI s1) (h : F94_10 k4 l0 l1 l2 s0 s1 T = some r) : mm_L 94 10 [.ref l0, .int xl1, .int xl2] [.int xs0, .int xs1] (toS z T) = some (tR z r) := by
  unfold F94_10 at h
  refine Eq.trans (e94_10 ..) ?_
  exact (fb_if (cj_le hs0 hs1) h (fun h1 => (G94_51  _ _ _ hl1 _ _ hl2 h1)) (fun h1 => (G94_13 k4 hk4 _ _ _ hl1 _ _ hl2 h1)))
noncomputable def F94_9 (k4 : Nat → Nat → Nat → fS → Option fR) (l0 : Nat) (l1 : Nat) (l2 : Nat) (s0 : Nat) (s1 : Nat) (T : fS) : Option fR := (fbn (fln T s0) (fun v0 => F94_10 k4 l0 l1 l2 v0 s1 T))
theorem G94_9 {z : Option mm_O} {T : fS} {r : fR} (k4 : Nat → Nat → Nat → fS → Option fR) (hk4 : ∀ (l0 : Nat) (xl1 : Int32) (l1 : Nat) (hl1 : xl1 = nI l1) (xl2 : Int32) (l2 : Nat) (hl2 : xl2 = nI l2) (T : fS) (r : fR), k4 l0 l1 l2 T = some r → mm_L 94 4 [.ref l0, .int xl1, .int xl2] [] (toS z T) = some (tR z r)) (l0 : Nat) (xl1 : Int32) (l1 : Nat) (hl1 : xl1 = nI l1) (xl2 : Int32) (l2 : Nat) (hl2 : xl2 = nI l2) (s0 : Nat) (xs1 : Int32) (s1 : Nat) (hs1 : xs1 = nI s1) (h : F94_9 k4 l0 l1 l2 s0 s1 T = some r) : mm_L 94 9 [.ref l0, .int xl1, .int xl2] [.ref s0, .int xs1] (toS z T) = some (tR z r) := by
  unfold F94_9 at h
  refine Eq.trans (e94_9 ..) ?_
  exact (fb_n (fun _ q => fln_ok q) h (fun v0 h2 => G94_10 k4 hk4 _ _ _ hl1 _ _ hl2 _ _ rfl _ _ hs1 h2))
noncomputable def F94_4 (k4 : Nat → Nat → Nat → fS → Option fR) (l0 : Nat) (l1 : Nat) (l2 : Nat) (T : fS) : Option fR := (fbv (fgr T l0 6 6) (fun v0 => F94_9 k4 l0 l1 l2 v0 l2 T) ((none : Option fR)))
theorem G94_4 {z : Option mm_O} {T : fS} {r : fR} (k4 : Nat → Nat → Nat → fS → Option fR) (hk4 : ∀ (l0 : Nat) (xl1 : Int32) (l1 : Nat) (hl1 : xl1 = nI l1) (xl2 : Int32) (l2 : Nat) (hl2 : xl2 = nI l2) (T : fS) (r : fR), k4 l0 l1 l2 T = some r → mm_L 94 4 [.ref l0, .int xl1, .int xl2] [] (toS z T) = some (tR z r)) (l0 : Nat) (xl1 : Int32) (l1 : Nat) (hl1 : xl1 = nI l1) (xl2 : Int32) (l2 : Nat) (hl2 : xl2 = nI l2) (h : F94_4 k4 l0 l1 l2 T = some r) : mm_L 94 4 [.ref l0, .int xl1, .int xl2] [] (toS z T) = some (tR z r) := by
  unfold F94_4 at h
  refine Eq.trans (e94_4 ..) ?_
  exact (fb_v (fun _ q => fgr_ok q) h (fun v0 h2 => G94_9 k4 hk4 _ _ _ hl1 _ _ hl2 _ _ _ hl2 h2) (fun h2 => fr_n h2))
noncomputable def H94_4  (n : Nat) : Nat → Nat → Nat → fS → Option fR := Nat.rec (motive := fun _ => Nat → Nat → Nat → fS → Option fR) (fun _ _ _ _ => none) (fun _ ih => F94_4 ih) n
theorem HG94_4 {z : Option mm_O}  : ∀ (n : Nat) (l0 : Nat) (xl1 : Int32) (l1 : Nat) (hl1 : xl1 = nI l1) (xl2 : Int32) (l2 : Nat) (hl2 : xl2 = nI l2) {T : fS} {r : fR}, H94_4  n l0 l1 l2 T = some r → mm_L 94 4 [.ref l0, .int xl1, .int xl2] [] (toS z T) = some (tR z r) := by
  intro n
  induction n with
  | zero =>
    intro l0 xl1 l1 hl1 xl2 l2 hl2 T r h
    exact fr_n h
  | succ n ih =>
    intro l0 xl1 l1 hl1 xl2 l2 hl2 T r h
    exact G94_4 (H94_4  n) (fun l0 xl1 l1 hl1 xl2 l2 hl2 T r h => ih l0 xl1 l1 hl1 xl2 l2 hl2 h) l0 xl1 l1 hl1 xl2 l2 hl2 h
noncomputable def F94_0  (l0 : Nat) (T : fS) : Option fR := (H94_4  300 l0 0 0 T)
theorem G94_0 {z : Option mm_O} {T : fS} {r : fR}  (l0 : Nat) (ul1 : Value) (ul2 : Value) (h : F94_0  l0 T = some r) : mm_L 94 0 [.ref l0, ul1, ul2] [] (toS z T) = some (tR z r) := by
  unfold F94_0 at h
  refine Eq.trans (e94_0 ..) ?_
  exact (HG94_4  300 _ _ _ (rfl : (0 : Int32) = nI 0) _ _ (rfl : (0 : Int32) = nI 0) h)
theorem GM94 {z : Option mm_O} {T : fS} {r : fR} (l0 : Nat) (h : F94_0 l0 T = some r) : mm_M 94 [.ref l0] (toS z T) = some (tR z r) := Eq.trans (M_94 ..) (G94_0 l0 _ _ h)
-- 101: HandArchive.isBelow
noncomputable def F101_14  (l0 : Nat) (l1 : Nat) (s0 : Nat) (T : fS) : Option fR := (fif (Bool.rec (motive := fun _ => Bool) (ieq s0 1) true (ieq s0 0)) (some ((.inl (some (.inl s0)), T) : fR)) (none : Option fR))
theorem G101_14 {z : Option mm_O} {T : fS} {r : fR}  (xl0 : Int32) (l0 : Nat) (hl0 : xl0 = nI l0) (xl1 : Int32) (l1 : Nat) (hl1 : xl1 = nI l1) (xs0 : Int32) (s0 : Nat) (hs0 : xs0 = nI s0) (h : F101_14  l0 l1 s0 T = some r) : mm_L 101 14 [.int xl0, .int xl1] [.int xs0] (toS z T) = some (tR z r) := by
  unfold F101_14 at h
  refine Eq.trans (e101_14 ..) ?_
  exact (fb_if (cj_01 hs0) h (fun h1 => (fr_i hs0 h1)) (fun h1 => (fr_n h1)))
noncomputable def F101_9  (l0 : Nat) (l1 : Nat) (T : fS) : Option fR := (F101_14  l0 l1 1 T)
theorem G101_9 {z : Option mm_O} {T : fS} {r : fR}  (xl0 : Int32) (l0 : Nat) (hl0 : xl0 = nI l0) (xl1 : Int32) (l1 : Nat) (hl1 : xl1 = nI l1) (h : F101_9  l0 l1 T = some r) : mm_L 101 9 [.int xl0, .int xl1] [] (toS z T) = some (tR z r) := by
  unfold F101_9 at h
  refine Eq.trans (e101_9 ..) ?_
  exact (G101_14  _ _ hl0 _ _ hl1 _ _ (rfl : (1 : Int32) = nI 1) h)
noncomputable def F101_13  (l0 : Nat) (l1 : Nat) (T : fS) : Option fR := (F101_14  l0 l1 0 T)
theorem G101_13 {z : Option mm_O} {T : fS} {r : fR}  (xl0 : Int32) (l0 : Nat) (hl0 : xl0 = nI l0) (xl1 : Int32) (l1 : Nat) (hl1 : xl1 = nI l1) (h : F101_13  l0 l1 T = some r) : mm_L 101 13 [.int xl0, .int xl1] [] (toS z T) = some (tR z r) := by
  unfold F101_13 at h
  refine Eq.trans (e101_13 ..) ?_
  exact (G101_14  _ _ hl0 _ _ hl1 _ _ (rfl : (0 : Int32) = nI 0) h)
noncomputable def F101_4  (l0 : Nat) (l1 : Nat) (T : fS) : Option fR := (fif (ile l1 l0) (F101_13  l0 l1 T) (F101_9  l0 l1 T))
theorem G101_4 {z : Option mm_O} {T : fS} {r : fR}  (xl0 : Int32) (l0 : Nat) (hl0 : xl0 = nI l0) (xl1 : Int32) (l1 : Nat) (hl1 : xl1 = nI l1) (h : F101_4  l0 l1 T = some r) : mm_L 101 4 [.int xl0, .int xl1] [] (toS z T) = some (tR z r) := by
  unfold F101_4 at h
  refine Eq.trans (e101_4 ..) ?_
  exact (fb_if (cj_le hl1 hl0) h (fun h1 => (G101_13  _ _ hl0 _ _ hl1 h1)) (fun h1 => (G101_9  _ _ hl0 _ _ hl1 h1)))
noncomputable def F101_0  (l0 : Nat) (l1 : Nat) (T : fS) : Option fR := (fif (ilt l0 0) (F101_13  l0 l1 T) (F101_4  l0 l1 T))
theorem G101_0 {z : Option mm_O} {T : fS} {r : fR}  (xl0 : Int32) (l0 : Nat) (hl0 : xl0 = nI l0) (xl1 : Int32) (l1 : Nat) (hl1 : xl1 = nI l1) (h : F101_0  l0 l1 T = some r) : mm_L 101 0 [.int xl0, .int xl1] [] (toS z T) = some (tR z r) := by
  unfold F101_0 at h
  refine Eq.trans (e101_0 ..) ?_
  exact (fb_if (cj_lt hl0 (rfl : (0 : Int32) = nI 0)) h (fun h1 => (G101_13  _ _ hl0 _ _ hl1 h1)) (fun h1 => (G101_4  _ _ hl0 _ _ hl1 h1)))
theorem GM101 {z : Option mm_O} {T : fS} {r : fR} (xl0 : Int32) (l0 : Nat) (hl0 : xl0 = nI l0) (xl1 : Int32) (l1 : Nat) (hl1 : xl1 = nI l1) (h : F101_0 l0 l1 T = some r) : mm_M 101 [.int xl0, .int xl1] (toS z T) = some (tR z r) := Eq.trans (M_101 ..) (G101_0 xl0 l0 hl0 xl1 l1 hl1 h)
-- 102: HandArchive.rowOf
noncomputable def F102_0  (l0 : Nat) (T : fS) : Option fR := (some ((.inl (some (.inl (iF2 (fun x y => x / y) l0 3))), T) : fR))
theorem G102_0 {z : Option mm_O} {T : fS} {r : fR}  (xl0 : Int32) (l0 : Nat) (hl0 : xl0 = nI l0) (h : F102_0  l0 T = some r) : mm_L 102 0 [.int xl0] [] (toS z T) = some (tR z r) := by
  unfold F102_0 at h
  refine Eq.trans (e102_0 ..) ?_
  exact (fr_i (iF2_ok (f := (fun x y => x / y)) hl0 (rfl : (3 : Int32) = nI 3)) h)
theorem GM102 {z : Option mm_O} {T : fS} {r : fR} (xl0 : Int32) (l0 : Nat) (hl0 : xl0 = nI l0) (h : F102_0 l0 T = some r) : mm_M 102 [.int xl0] (toS z T) = some (tR z r) := Eq.trans (M_102 ..) (G102_0 xl0 l0 hl0 h)
-- 103: HandArchive.columnOf
noncomputable def F103_0  (l0 : Nat) (T : fS) : Option fR := (some ((.inl (some (.inl (iS l0 (iM (iF2 (fun x y => x / y) l0 3) 3)))), T) : fR))
theorem G103_0 {z : Option mm_O} {T : fS} {r : fR}  (xl0 : Int32) (l0 : Nat) (hl0 : xl0 = nI l0) (h : F103_0  l0 T = some r) : mm_L 103 0 [.int xl0] [] (toS z T) = some (tR z r) := by
  unfold F103_0 at h
  refine Eq.trans (e103_0 ..) ?_
  exact (fr_i (iS_ok hl0 (iM_ok (iF2_ok (f := (fun x y => x / y)) hl0 (rfl : (3 : Int32) = nI 3)) (rfl : (3 : Int32) = nI 3))) h)
theorem GM103 {z : Option mm_O} {T : fS} {r : fR} (xl0 : Int32) (l0 : Nat) (hl0 : xl0 = nI l0) (h : F103_0 l0 T = some r) : mm_M 103 [.int xl0] (toS z T) = some (tR z r) := Eq.trans (M_103 ..) (G103_0 xl0 l0 hl0 h)
-- 105: HandArchive.direction
noncomputable def F105_5  (l0 : Nat) (l1 : Nat) (T : fS) : Option fR := (some ((.inl (some (.inl 0)), T) : fR))
theorem G105_5 {z : Option mm_O} {T : fS} {r : fR}  (xl0 : Int32) (l0 : Nat) (hl0 : xl0 = nI l0) (xl1 : Int32) (l1 : Nat) (hl1 : xl1 = nI l1) (h : F105_5  l0 l1 T = some r) : mm_L 105 5 [.int xl0, .int xl1] [] (toS z T) = some (tR z r) := by
  unfold F105_5 at h
  refine Eq.trans (e105_5 ..) ?_
  exact (fr_i (rfl : (0 : Int32) = nI 0) h)
noncomputable def F105_17  (l0 : Nat) (l1 : Nat) (s0 : Nat) (T : fS) : Option fR := (some ((.inl (some (.inl s0)), T) : fR))
theorem G105_17 {z : Option mm_O} {T : fS} {r : fR}  (xl0 : Int32) (l0 : Nat) (hl0 : xl0 = nI l0) (xl1 : Int32) (l1 : Nat) (hl1 : xl1 = nI l1) (xs0 : Int32) (s0 : Nat) (hs0 : xs0 = nI s0) (h : F105_17  l0 l1 s0 T = some r) : mm_L 105 17 [.int xl0, .int xl1] [.int xs0] (toS z T) = some (tR z r) := by
  unfold F105_17 at h
  refine Eq.trans (e105_17 ..) ?_
  exact (fr_i hs0 h)
noncomputable def F105_12  (l0 : Nat) (l1 : Nat) (T : fS) : Option fR := (F105_17  l0 l1 1 T)
theorem G105_12 {z : Option mm_O} {T : fS} {r : fR}  (xl0 : Int32) (l0 : Nat) (hl0 : xl0 = nI l0) (xl1 : Int32) (l1 : Nat) (hl1 : xl1 = nI l1) (h : F105_12  l0 l1 T = some r) : mm_L 105 12 [.int xl0, .int xl1] [] (toS z T) = some (tR z r) := by
  unfold F105_12 at h
  refine Eq.trans (e105_12 ..) ?_
  exact (G105_17  _ _ hl0 _ _ hl1 _ _ (rfl : (1 : Int32) = nI 1) h)
noncomputable def F105_16  (l0 : Nat) (l1 : Nat) (T : fS) : Option fR := (F105_17  l0 l1 4294967295 T)
theorem G105_16 {z : Option mm_O} {T : fS} {r : fR}  (xl0 : Int32) (l0 : Nat) (hl0 : xl0 = nI l0) (xl1 : Int32) (l1 : Nat) (hl1 : xl1 = nI l1) (h : F105_16  l0 l1 T = some r) : mm_L 105 16 [.int xl0, .int xl1] [] (toS z T) = some (tR z r) := by
  unfold F105_16 at h
  refine Eq.trans (e105_16 ..) ?_
  exact (G105_17  _ _ hl0 _ _ hl1 _ _ (by decide : (-1 : Int32) = nI 4294967295) h)
noncomputable def F105_7  (l0 : Nat) (l1 : Nat) (T : fS) : Option fR := (fif (ile l1 l0) (F105_16  l0 l1 T) (F105_12  l0 l1 T))
theorem G105_7 {z : Option mm_O} {T : fS} {r : fR}  (xl0 : Int32) (l0 : Nat) (hl0 : xl0 = nI l0) (xl1 : Int32) (l1 : Nat) (hl1 : xl1 = nI l1) (h : F105_7  l0 l1 T = some r) : mm_L 105 7 [.int xl0, .int xl1] [] (toS z T) = some (tR z r) := by
  unfold F105_7 at h
  refine Eq.trans (e105_7 ..) ?_
  exact (fb_if (cj_le hl1 hl0) h (fun h1 => (G105_16  _ _ hl0 _ _ hl1 h1)) (fun h1 => (G105_12  _ _ hl0 _ _ hl1 h1)))
noncomputable def F105_0  (l0 : Nat) (l1 : Nat) (T : fS) : Option fR := (fif (ieq l1 l0) (F105_5  l0 l1 T) (F105_7  l0 l1 T))
theorem G105_0 {z : Option mm_O} {T : fS} {r : fR}  (xl0 : Int32) (l0 : Nat) (hl0 : xl0 = nI l0) (xl1 : Int32) (l1 : Nat) (hl1 : xl1 = nI l1) (h : F105_0  l0 l1 T = some r) : mm_L 105 0 [.int xl0, .int xl1] [] (toS z T) = some (tR z r) := by
  unfold F105_0 at h
  refine Eq.trans (e105_0 ..) ?_
  exact (fb_if (cj_eq hl1 hl0) h (fun h1 => (G105_5  _ _ hl0 _ _ hl1 h1)) (fun h1 => (G105_7  _ _ hl0 _ _ hl1 h1)))
theorem GM105 {z : Option mm_O} {T : fS} {r : fR} (xl0 : Int32) (l0 : Nat) (hl0 : xl0 = nI l0) (xl1 : Int32) (l1 : Nat) (hl1 : xl1 = nI l1) (h : F105_0 l0 l1 T = some r) : mm_M 105 [.int xl0, .int xl1] (toS z T) = some (tR z r) := Eq.trans (M_105 ..) (G105_0 xl0 l0 hl0 xl1 l1 hl1 h)
