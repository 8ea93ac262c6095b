-- 112: HandArchiveLaw.faces
noncomputable def F112_248  (l0 : Nat) (T : fS) : Option fR := (some ((.inl (some (.inl 0)), T) : fR))
theorem G112_248 {z : Option mm_O} {T : fS} {r : fR}  (l0 : Nat) (h : F112_248  l0 T = some r) : mm_L 112 248 [.ref l0] [] (toS z T) = some (tR z r) := by
  unfold F112_248 at h
  refine Eq.trans (e112_248 ..) ?_
  exact (fb_pos (by decide) (fr_i (rfl : (0 : Int32) = nI 0) h))
noncomputable def F112_634  (l0 : Nat) (T : fS) : Option fR := (some ((.inl (some (.inl 0)), T) : fR))
theorem G112_634 {z : Option mm_O} {T : fS} {r : fR}  (l0 : Nat) (h : F112_634  l0 T = some r) : mm_L 112 634 [.ref l0] [] (toS z T) = some (tR z r) := by
  unfold F112_634 at h
  refine Eq.trans (e112_634 ..) ?_
  exact (fb_pos (by decide) (fr_i (rfl : (0 : Int32) = nI 0) h))
noncomputable def F112_782  (l0 : Nat) (s0 : Nat) (T : fS) : Option fR := (fif (Bool.rec (motive := fun _ => Bool) (ieq s0 1) true (ieq s0 0)) (some ((.inl (some (.inl s0)), T) : fR)) (none : Option fR))
theorem G112_782 {z : Option mm_O} {T : fS} {r : fR}  (l0 : Nat) (xs0 : Int32) (s0 : Nat) (hs0 : xs0 = nI s0) (h : F112_782  l0 s0 T = some r) : mm_L 112 782 [.ref l0] [.int xs0] (toS z T) = some (tR z r) := by
  unfold F112_782 at h
  refine Eq.trans (e112_782 ..) ?_
  exact (fb_if (cj_01 hs0) h (fun h1 => (fr_i hs0 h1)) (fun h1 => (fr_n h1)))
noncomputable def F112_777  (l0 : Nat) (T : fS) : Option fR := (F112_782  l0 1 T)
theorem G112_777 {z : Option mm_O} {T : fS} {r : fR}  (l0 : Nat) (h : F112_777  l0 T = some r) : mm_L 112 777 [.ref l0] [] (toS z T) = some (tR z r) := by
  unfold F112_777 at h
  refine Eq.trans (e112_777 ..) ?_
  exact (G112_782  _ _ _ (rfl : (1 : Int32) = nI 1) h)
noncomputable def F112_781  (l0 : Nat) (T : fS) : Option fR := (F112_782  l0 0 T)
theorem G112_781 {z : Option mm_O} {T : fS} {r : fR}  (l0 : Nat) (h : F112_781  l0 T = some r) : mm_L 112 781 [.ref l0] [] (toS z T) = some (tR z r) := by
  unfold F112_781 at h
  refine Eq.trans (e112_781 ..) ?_
  exact (G112_782  _ _ _ (rfl : (0 : Int32) = nI 0) h)
noncomputable def F112_773  (l0 : Nat) (s0 : Nat) (T : fS) : Option fR := (fif (ieq s0 2) (F112_777  l0 T) (F112_781  l0 T))
theorem G112_773 {z : Option mm_O} {T : fS} {r : fR}  (l0 : Nat) (xs0 : Int32) (s0 : Nat) (hs0 : xs0 = nI s0) (h : F112_773  l0 s0 T = some r) : mm_L 112 773 [.ref l0] [.int xs0] (toS z T) = some (tR z r) := by
  unfold F112_773 at h
  refine Eq.trans (e112_773 ..) ?_
  exact (fb_if (cj_eq hs0 (rfl : (2 : Int32) = nI 2)) h (fun h1 => (G112_777  _ h1)) (fun h1 => (G112_781  _ h1)))
noncomputable def F112_767  (l0 : Nat) (T : fS) : Option fR := (fKi true (fif (fch T l0 6) (F68_0 l0 0 0 T) none) (fun v0 T1 => F112_773  l0 v0 T1))
theorem G112_767 {z : Option mm_O} {T : fS} {r : fR}  (l0 : Nat) (h : F112_767  l0 T = some r) : mm_L 112 767 [.ref l0] [] (toS z T) = some (tR z r) := by
  unfold F112_767 at h
  refine Eq.trans (e112_767 ..) ?_
  exact (fb_K0i (fun _ q => fb_mo (y := 68) ow_68 q (fun q => GM68 _ _ _ (rfl : (0 : Int32) = nI 0) _ _ (rfl : (0 : Int32) = nI 0) q)) h (fun v0 T1 h2 => G112_773  _ _ _ rfl h2))
noncomputable def F112_763  (l0 : Nat) (s0 : Nat) (T : fS) : Option fR := (fif (ieq s0 1) (F112_767  l0 T) (F112_781  l0 T))
theorem G112_763 {z : Option mm_O} {T : fS} {r : fR}  (l0 : Nat) (xs0 : Int32) (s0 : Nat) (hs0 : xs0 = nI s0) (h : F112_763  l0 s0 T = some r) : mm_L 112 763 [.ref l0] [.int xs0] (toS z T) = some (tR z r) := by
  unfold F112_763 at h
  refine Eq.trans (e112_763 ..) ?_
  exact (fb_if (cj_eq hs0 (rfl : (1 : Int32) = nI 1)) h (fun h1 => (G112_767  _ h1)) (fun h1 => (G112_781  _ h1)))
noncomputable def F112_756  (l0 : Nat) (T : fS) : Option fR := (fKi true (fif (fch T l0 6) (F38_0 l0 0 0 1 T) none) (fun v0 T1 => F112_763  l0 v0 T1))
theorem G112_756 {z : Option mm_O} {T : fS} {r : fR}  (l0 : Nat) (h : F112_756  l0 T = some r) : mm_L 112 756 [.ref l0] [] (toS z T) = some (tR z r) := by
  unfold F112_756 at h
  refine Eq.trans (e112_756 ..) ?_
  exact (fb_K0i (fun _ q => fb_mo (y := 38) ow_38 q (fun q => GM38 _ _ _ (rfl : (0 : Int32) = nI 0) _ _ (rfl : (0 : Int32) = nI 0) _ _ (rfl : (1 : Int32) = nI 1) q)) h (fun v0 T1 h2 => G112_763  _ _ _ rfl h2))
noncomputable def F112_752  (l0 : Nat) (s0 : Nat) (T : fS) : Option fR := (fif (ieq s0 4294967295) (F112_756  l0 T) (F112_781  l0 T))
theorem G112_752 {z : Option mm_O} {T : fS} {r : fR}  (l0 : Nat) (xs0 : Int32) (s0 : Nat) (hs0 : xs0 = nI s0) (h : F112_752  l0 s0 T = some r) : mm_L 112 752 [.ref l0] [.int xs0] (toS z T) = some (tR z r) := by
  unfold F112_752 at h
  refine Eq.trans (e112_752 ..) ?_
  exact (fb_if (cj_eq hs0 (by decide : (-1 : Int32) = nI 4294967295)) h (fun h1 => (G112_756  _ h1)) (fun h1 => (G112_781  _ h1)))
noncomputable def F112_746  (l0 : Nat) (T : fS) : Option fR := (fKi true (fif (fch T l0 6) (F39_0 l0 0 0 T) none) (fun v0 T1 => F112_752  l0 v0 T1))
theorem G112_746 {z : Option mm_O} {T : fS} {r : fR}  (l0 : Nat) (h : F112_746  l0 T = some r) : mm_L 112 746 [.ref l0] [] (toS z T) = some (tR z r) := by
  unfold F112_746 at h
  refine Eq.trans (e112_746 ..) ?_
  exact (fb_K0i (fun _ q => fb_mo (y := 39) ow_39 q (fun q => GM39 _ _ _ (rfl : (0 : Int32) = nI 0) _ _ (rfl : (0 : Int32) = nI 0) q)) h (fun v0 T1 h2 => G112_752  _ _ _ rfl h2))
noncomputable def F112_743  (l0 : Nat) (s0 : Nat) (T : fS) : Option fR := (fif (ieq s0 0) (F112_746  l0 T) (F112_781  l0 T))
theorem G112_743 {z : Option mm_O} {T : fS} {r : fR}  (l0 : Nat) (xs0 : Int32) (s0 : Nat) (hs0 : xs0 = nI s0) (h : F112_743  l0 s0 T = some r) : mm_L 112 743 [.ref l0] [.int xs0] (toS z T) = some (tR z r) := by
  unfold F112_743 at h
  refine Eq.trans (e112_743 ..) ?_
  exact (fb_if (cj_eq hs0 (rfl : (0 : Int32) = nI 0)) h (fun h1 => (G112_746  _ h1)) (fun h1 => (G112_781  _ h1)))
noncomputable def F112_737  (l0 : Nat) (T : fS) : Option fR := (fKi true (fif (fch T l0 6) (F70_0 l0 1 1 T) none) (fun v0 T1 => F112_743  l0 v0 T1))
theorem G112_737 {z : Option mm_O} {T : fS} {r : fR}  (l0 : Nat) (h : F112_737  l0 T = some r) : mm_L 112 737 [.ref l0] [] (toS z T) = some (tR z r) := by
  unfold F112_737 at h
  refine Eq.trans (e112_737 ..) ?_
  exact (fb_K0i (fun _ q => fb_mo (y := 70) ow_70 q (fun q => GM70 _ _ _ (rfl : (1 : Int32) = nI 1) _ _ (rfl : (1 : Int32) = nI 1) q)) h (fun v0 T1 h2 => G112_743  _ _ _ rfl h2))
noncomputable def F112_734  (l0 : Nat) (s0 : Nat) (T : fS) : Option fR := (fif (ieq s0 0) (F112_737  l0 T) (F112_781  l0 T))
theorem G112_734 {z : Option mm_O} {T : fS} {r : fR}  (l0 : Nat) (xs0 : Int32) (s0 : Nat) (hs0 : xs0 = nI s0) (h : F112_734  l0 s0 T = some r) : mm_L 112 734 [.ref l0] [.int xs0] (toS z T) = some (tR z r) := by
  unfold F112_734 at h
  refine Eq.trans (e112_734 ..) ?_
  exact (fb_if (cj_eq hs0 (rfl : (0 : Int32) = nI 0)) h (fun h1 => (G112_737  _ h1)) (fun h1 => (G112_781  _ h1)))
noncomputable def F112_728  (l0 : Nat) (T : fS) : Option fR := (fKi true (fif (fch T l0 6) (F68_0 l0 1 1 T) none) (fun v0 T1 => F112_734  l0 v0 T1))
theorem G112_728 {z : Option mm_O} {T : fS} {r : fR}  (l0 : Nat) (h : F112_728  l0 T = some r) : mm_L 112 728 [.ref l0] [] (toS z T) = some (tR z r) := by
  unfold F112_728 at h
  refine Eq.trans (e112_728 ..) ?_
  exact (fb_K0i (fun _ q => fb_mo (y := 68) ow_68 q (fun q => GM68 _ _ _ (rfl : (1 : Int32) = nI 1) _ _ (rfl : (1 : Int32) = nI 1) q)) h (fun v0 T1 h2 => G112_734  _ _ _ rfl h2))
noncomputable def F112_725  (l0 : Nat) (s0 : Nat) (T : fS) : Option fR := (fif (ieq s0 0) (F112_781  l0 T) (F112_728  l0 T))
theorem G112_725 {z : Option mm_O} {T : fS} {r : fR}  (l0 : Nat) (xs0 : Int32) (s0 : Nat) (hs0 : xs0 = nI s0) (h : F112_725  l0 s0 T = some r) : mm_L 112 725 [.ref l0] [.int xs0] (toS z T) = some (tR z r) := by
  unfold F112_725 at h
  refine Eq.trans (e112_725 ..) ?_
  exact (fb_if (cj_eq hs0 (rfl : (0 : Int32) = nI 0)) h (fun h1 => (G112_781  _ h1)) (fun h1 => (G112_728  _ h1)))
noncomputable def F112_719  (l0 : Nat) (T : fS) : Option fR := (fKi true (fif (fch T l0 6) (F58_0 l0 5 0 T) none) (fun v0 T1 => F112_725  l0 v0 T1))
theorem G112_719 {z : Option mm_O} {T : fS} {r : fR}  (l0 : Nat) (h : F112_719  l0 T = some r) : mm_L 112 719 [.ref l0] [] (toS z T) = some (tR z r) := by
  unfold F112_719 at h
  refine Eq.trans (e112_719 ..) ?_
  exact (fb_K0i (fun _ q => fb_mo (y := 58) ow_58 q (fun q => GM58 _ _ _ (rfl : (5 : Int32) = nI 5) _ _ (rfl : (0 : Int32) = nI 0) q)) h (fun v0 T1 h2 => G112_725  _ _ _ rfl h2))
noncomputable def F112_715  (l0 : Nat) (s0 : Nat) (T : fS) : Option fR := (fif (ieq s0 4294967295) (F112_719  l0 T) (F112_781  l0 T))
theorem G112_715 {z : Option mm_O} {T : fS} {r : fR}  (l0 : Nat) (xs0 : Int32) (s0 : Nat) (hs0 : xs0 = nI s0) (h : F112_715  l0 s0 T = some r) : mm_L 112 715 [.ref l0] [.int xs0] (toS z T) = some (tR z r) := by
  unfold F112_715 at h
  refine Eq.trans (e112_715 ..) ?_
  exact (fb_if (cj_eq hs0 (by decide : (-1 : Int32) = nI 4294967295)) h (fun h1 => (G112_719  _ h1)) (fun h1 => (G112_781  _ h1)))
noncomputable def F112_709  (l0 : Nat) (T : fS) : Option fR := (fKi true (fif (fch T l0 6) (F70_0 l0 1 0 T) none) (fun v0 T1 => F112_715  l0 v0 T1))
theorem G112_709 {z : Option mm_O} {T : fS} {r : fR}  (l0 : Nat) (h : F112_709  l0 T = some r) : mm_L 112 709 [.ref l0] [] (toS z T) = some (tR z r) := by
  unfold F112_709 at h
  refine Eq.trans (e112_709 ..) ?_
  exact (fb_K0i (fun _ q => fb_mo (y := 70) ow_70 q (fun q => GM70 _ _ _ (rfl : (1 : Int32) = nI 1) _ _ (rfl : (0 : Int32) = nI 0) q)) h (fun v0 T1 h2 => G112_715  _ _ _ rfl h2))
noncomputable def F112_705  (l0 : Nat) (s0 : Nat) (T : fS) : Option fR := (fif (ieq s0 1) (F112_709  l0 T) (F112_781  l0 T))
theorem G112_705 {z : Option mm_O} {T : fS} {r : fR}  (l0 : Nat) (xs0 : Int32) (s0 : Nat) (hs0 : xs0 = nI s0) (h : F112_705  l0 s0 T = some r) : mm_L 112 705 [.ref l0] [.int xs0] (toS z T) = some (tR z r) := by
  unfold F112_705 at h
  refine Eq.trans (e112_705 ..) ?_
  exact (fb_if (cj_eq hs0 (rfl : (1 : Int32) = nI 1)) h (fun h1 => (G112_709  _ h1)) (fun h1 => (G112_781  _ h1)))
noncomputable def F112_699  (l0 : Nat) (T : fS) : Option fR := (fKi true (fif (fch T l0 6) (F68_0 l0 1 3 T) none) (fun v0 T1 => F112_705  l0 v0 T1))
theorem G112_699 {z : Option mm_O} {T : fS} {r : fR}  (l0 : Nat) (h : F112_699  l0 T = some r) : mm_L 112 699 [.ref l0] [] (toS z T) = some (tR z r) := by
  unfold F112_699 at h
  refine Eq.trans (e112_699 ..) ?_
  exact (fb_K0i (fun _ q => fb_mo (y := 68) ow_68 q (fun q => GM68 _ _ _ (rfl : (1 : Int32) = nI 1) _ _ (rfl : (3 : Int32) = nI 3) q)) h (fun v0 T1 h2 => G112_705  _ _ _ rfl h2))
noncomputable def F112_696  (l0 : Nat) (s0 : Nat) (T : fS) : Option fR := (fif (ieq s0 0) (F112_699  l0 T) (F112_781  l0 T))
theorem G112_696 {z : Option mm_O} {T : fS} {r : fR}  (l0 : Nat) (xs0 : Int32) (s0 : Nat) (hs0 : xs0 = nI s0) (h : F112_696  l0 s0 T = some r) : mm_L 112 696 [.ref l0] [.int xs0] (toS z T) = some (tR z r) := by
  unfold F112_696 at h
  refine Eq.trans (e112_696 ..) ?_
  exact (fb_if (cj_eq hs0 (rfl : (0 : Int32) = nI 0)) h (fun h1 => (G112_699  _ h1)) (fun h1 => (G112_781  _ h1)))
noncomputable def F112_690  (l0 : Nat) (T : fS) : Option fR := (fKi true (fif (fch T l0 6) (F68_0 l0 1 2 T) none) (fun v0 T1 => F112_696  l0 v0 T1))
theorem G112_690 {z : Option mm_O} {T : fS} {r : fR}  (l0 : Nat) (h : F112_690  l0 T = some r) : mm_L 112 690 [.ref l0] [] (toS z T) = some (tR z r) := by
  unfold F112_690 at h
  refine Eq.trans (e112_690 ..) ?_
  exact (fb_K0i (fun _ q => fb_mo (y := 68) ow_68 q (fun q => GM68 _ _ _ (rfl : (1 : Int32) = nI 1) _ _ (rfl : (2 : Int32) = nI 2) q)) h (fun v0 T1 h2 => G112_696  _ _ _ rfl h2))
noncomputable def F112_685  (l0 : Nat) (s0 : Nat) (T : fS) : Option fR := (fif (ieq s0 8) (F112_690  l0 T) (F112_781  l0 T))
theorem G112_685 {z : Option mm_O} {T : fS} {r : fR}  (l0 : Nat) (xs0 : Int32) (s0 : Nat) (hs0 : xs0 = nI s0) (h : F112_685  l0 s0 T = some r) : mm_L 112 685 [.ref l0] [.int xs0] (toS z T) = some (tR z r) := by
  unfold F112_685 at h
  refine Eq.trans (e112_685 ..) ?_
  exact (fb_if (cj_eq hs0 (rfl : (8 : Int32) = nI 8)) h (fun h1 => (G112_690  _ h1)) (fun h1 => (G112_781  _ h1)))
noncomputable def F112_679  (l0 : Nat) (T : fS) : Option fR := (fKi true (fif (fch T l0 6) (F68_0 l0 1 1 T) none) (fun v0 T1 => F112_685  l0 v0 T1))
theorem G112_679 {z : Option mm_O} {T : fS} {r : fR}  (l0 : Nat) (h : F112_679  l0 T = some r) : mm_L 112 679 [.ref l0] [] (toS z T) = some (tR z r) := by
  unfold F112_679 at h
  refine Eq.trans (e112_679 ..) ?_
  exact (fb_K0i (fun _ q => fb_mo (y := 68) ow_68 q (fun q => GM68 _ _ _ (rfl : (1 : Int32) = nI 1) _ _ (rfl : (1 : Int32) = nI 1) q)) h (fun v0 T1 h2 => G112_685  _ _ _ rfl h2))
noncomputable def F112_675  (l0 : Nat) (s0 : Nat) (T : fS) : Option fR := (fif (ieq s0 2) (F112_679  l0 T) (F112_781  l0 T))
theorem G112_675 {z : Option mm_O} {T : fS} {r : fR}  (l0 : Nat) (xs0 : Int32) (s0 : Nat) (hs0 : xs0 = nI s0) (h : F112_675  l0 s0 T = some r) : mm_L 112 675 [.ref l0] [.int xs0] (toS z T) = some (tR z r) := by
  unfold F112_675 at h
  refine Eq.trans (e112_675 ..) ?_
  exact (fb_if (cj_eq hs0 (rfl : (2 : Int32) = nI 2)) h (fun h1 => (G112_679  _ h1)) (fun h1 => (G112_781  _ h1)))
noncomputable def F112_667  (l0 : Nat) (T : fS) : Option fR := (fKi true (fif (fch T l0 6) (F36_0 l0 0 0 0 0 T) none) (fun v0 T1 => F112_675  l0 v0 T1))
theorem G112_667 {z : Option mm_O} {T : fS} {r : fR}  (l0 : Nat) (h : F112_667  l0 T = some r) : mm_L 112 667 [.ref l0] [] (toS z T) = some (tR z r) := by
  unfold F112_667 at h
  refine Eq.trans (e112_667 ..) ?_
  exact (fb_K0i (fun _ q => fb_mo (y := 36) ow_36 q (fun q => GM36 _ _ _ (rfl : (0 : Int32) = nI 0) _ _ (rfl : (0 : Int32) = nI 0) _ _ (rfl : (0 : Int32) = nI 0) _ _ (rfl : (0 : Int32) = nI 0) q)) h (fun v0 T1 h2 => G112_675  _ _ _ rfl h2))
noncomputable def F112_663  (l0 : Nat) (s0 : Nat) (T : fS) : Option fR := (fif (ieq s0 1) (F112_667  l0 T) (F112_781  l0 T))
theorem G112_663 {z : Option mm_O} {T : fS} {r : fR}  (l0 : Nat) (xs0 : Int32) (s0 : Nat) (hs0 : xs0 = nI s0) (h : F112_663  l0 s0 T = some r) : mm_L 112 663 [.ref l0] [.int xs0] (toS z T) = some (tR z r) := by
  unfold F112_663 at h
  refine Eq.trans (e112_663 ..) ?_
  exact (fb_if (cj_eq hs0 (rfl : (1 : Int32) = nI 1)) h (fun h1 => (G112_667  _ h1)) (fun h1 => (G112_781  _ h1)))
noncomputable def F112_655  (l0 : Nat) (T : fS) : Option fR := (fKi true (fif (fch T l0 6) (F36_0 l0 1 1 3 0 T) none) (fun v0 T1 => F112_663  l0 v0 T1))
theorem G112_655 {z : Option mm_O} {T : fS} {r : fR}  (l0 : Nat) (h : F112_655  l0 T = some r) : mm_L 112 655 [.ref l0] [] (toS z T) = some (tR z r) := by
  unfold F112_655 at h
  refine Eq.trans (e112_655 ..) ?_
  exact (fb_K0i (fun _ q => fb_mo (y := 36) ow_36 q (fun q => GM36 _ _ _ (rfl : (1 : Int32) = nI 1) _ _ (rfl : (1 : Int32) = nI 1) _ _ (rfl : (3 : Int32) = nI 3) _ _ (rfl : (0 : Int32) = nI 0) q)) h (fun v0 T1 h2 => G112_663  _ _ _ rfl h2))
noncomputable def F112_651  (l0 : Nat) (s0 : Nat) (T : fS) : Option fR := (fif (ieq s0 4294967295) (F112_655  l0 T) (F112_781  l0 T))
theorem G112_651 {z : Option mm_O} {T : fS} {r : fR}  (l0 : Nat) (xs0 : Int32) (s0 : Nat) (hs0 : xs0 = nI s0) (h : F112_651  l0 s0 T = some r) : mm_L 112 651 [.ref l0] [.int xs0] (toS z T) = some (tR z r) := by
  unfold F112_651 at h
  refine Eq.trans (e112_651 ..) ?_
  exact (fb_if (cj_eq hs0 (by decide : (-1 : Int32) = nI 4294967295)) h (fun h1 => (G112_655  _ h1)) (fun h1 => (G112_781  _ h1)))
noncomputable def F112_645  (l0 : Nat) (T : fS) : Option fR := (fKi true (fif (fch T l0 6) (F69_0 l0 0 0 T) none) (fun v0 T1 => F112_651  l0 v0 T1))
theorem G112_645 {z : Option mm_O} {T : fS} {r : fR}  (l0 : Nat) (h : F112_645  l0 T = some r) : mm_L 112 645 [.ref l0] [] (toS z T) = some (tR z r) := by
  unfold F112_645 at h
  refine Eq.trans (e112_645 ..) ?_
  exact (fb_K0i (fun _ q => fb_mo (y := 69) ow_69 q (fun q => GM69 _ _ _ (rfl : (0 : Int32) = nI 0) _ _ (rfl : (0 : Int32) = nI 0) q)) h (fun v0 T1 h2 => G112_651  _ _ _ rfl h2))
noncomputable def F112_640  (l0 : Nat) (s0 : Nat) (T : fS) : Option fR := (fif (ieq s0 7) (F112_645  l0 T) (F112_781  l0 T))
theorem G112_640 {z : Option mm_O} {T : fS} {r : fR}  (l0 : Nat) (xs0 : Int32) (s0 : Nat) (hs0 : xs0 = nI s0) (h : F112_640  l0 s0 T = some r) : mm_L 112 640 [.ref l0] [.int xs0] (toS z T) = some (tR z r) := by
  unfold F112_640 at h
  refine Eq.trans (e112_640 ..) ?_
  exact (fb_if (cj_eq hs0 (rfl : (7 : Int32) = nI 7)) h (fun h1 => (G112_645  _ h1)) (fun h1 => (G112_781  _ h1)))
noncomputable def F112_636  (l0 : Nat) (T : fS) : Option fR := (fKi true (fif (fch T l0 6) (F37_0 l0  T) none) (fun v0 T1 => F112_640  l0 v0 T1))
theorem G112_636 {z : Option mm_O} {T : fS} {r : fR}  (l0 : Nat) (h : F112_636  l0 T = some r) : mm_L 112 636 [.ref l0] [] (toS z T) = some (tR z r) := by
  unfold F112_636 at h
  refine Eq.trans (e112_636 ..) ?_
  exact (fb_K0i (fun _ q => fb_mo (y := 37) ow_37 q (fun q => GM37 _  q)) h (fun v0 T1 h2 => G112_640  _ _ _ rfl h2))
noncomputable def F112_631  (l0 : Nat) (s0 : Nat) (T : fS) : Option fR := (fif (ieq s0 0) (F112_634  l0 T) (F112_636  l0 T))
theorem G112_631 {z : Option mm_O} {T : fS} {r : fR}  (l0 : Nat) (xs0 : Int32) (s0 : Nat) (hs0 : xs0 = nI s0) (h : F112_631  l0 s0 T = some r) : mm_L 112 631 [.ref l0] [.int xs0] (toS z T) = some (tR z r) := by
  unfold F112_631 at h
  refine Eq.trans (e112_631 ..) ?_
  exact (fb_if (cj_eq hs0 (rfl : (0 : Int32) = nI 0)) h (fun h1 => (G112_634  _ h1)) (fun h1 => (G112_636  _ h1)))
noncomputable def F112_621  (l0 : Nat) (T : fS) : Option fR := (fKi true (F110_0 l0 4 7 6 0 T) (fun v0 T1 => F112_631  l0 v0 T1))
theorem G112_621 {z : Option mm_O} {T : fS} {r : fR}  (l0 : Nat) (h : F112_621  l0 T = some r) : mm_L 112 621 [.ref l0] [] (toS z T) = some (tR z r) := by
  unfold F112_621 at h
  refine Eq.trans (e112_621 ..) ?_
  exact (fb_K0i (fun _ q => GM110 _ _ _ (rfl : (4 : Int32) = nI 4) _ _ (rfl : (7 : Int32) = nI 7) _ _ (rfl : (6 : Int32) = nI 6) _ _ (rfl : (0 : Int32) = nI 0) q) h (fun v0 T1 h2 => G112_631  _ _ _ rfl h2))
noncomputable def F112_616  (l0 : Nat) (s0 : Nat) (T : fS) : Option fR := (fif (ieq s0 4294967223) (F112_621  l0 T) (F112_634  l0 T))
theorem G112_616 {z : Option mm_O} {T : fS} {r : fR}  (l0 : Nat) (xs0 : Int32) (s0 : Nat) (hs0 : xs0 = nI s0) (h : F112_616  l0 s0 T = some r) : mm_L 112 616 [.ref l0] [.int xs0] (toS z T) = some (tR z r) := by
  unfold F112_616 at h
  refine Eq.trans (e112_616 ..) ?_
  exact (fb_if (cj_eq hs0 (by decide : (-73 : Int32) = nI 4294967223)) h (fun h1 => (G112_621  _ h1)) (fun h1 => (G112_634  _ h1)))
noncomputable def F112_606  (l0 : Nat) (T : fS) : Option fR := (fKi true (F106_0 l0 7 0 0 0 0 T) (fun v0 T1 => F112_616  l0 v0 T1))
theorem G112_606 {z : Option mm_O} {T : fS} {r : fR}  (l0 : Nat) (h : F112_606  l0 T = some r) : mm_L 112 606 [.ref l0] [] (toS z T) = some (tR z r) := by
  unfold F112_606 at h
  refine Eq.trans (e112_606 ..) ?_
  exact (fb_K0i (fun _ q => GM106 _ _ _ (rfl : (7 : Int32) = nI 7) _ _ (rfl : (0 : Int32) = nI 0) _ _ (rfl : (0 : Int32) = nI 0) _ _ (rfl : (0 : Int32) = nI 0) _ _ (rfl : (0 : Int32) = nI 0) q) h (fun v0 T1 h2 => G112_616  _ _ _ rfl h2))
noncomputable def F112_602  (l0 : Nat) (s0 : Nat) (T : fS) : Option fR := (fif (ieq s0 5) (F112_606  l0 T) (F112_634  l0 T))
theorem G112_602 {z : Option mm_O} {T : fS} {r : fR}  (l0 : Nat) (xs0 : Int32) (s0 : Nat) (hs0 : xs0 = nI s0) (h : F112_602  l0 s0 T = some r) : mm_L 112 602 [.ref l0] [.int xs0] (toS z T) = some (tR z r) := by
  unfold F112_602 at h
  refine Eq.trans (e112_602 ..) ?_
  exact (fb_if (cj_eq hs0 (rfl : (5 : Int32) = nI 5)) h (fun h1 => (G112_606  _ h1)) (fun h1 => (G112_634  _ h1)))
noncomputable def F112_597  (l0 : Nat) (T : fS) : Option fR := (fKi true (fif (fch T l0 6) (F57_0 l0 3 T) none) (fun v0 T1 => F112_602  l0 v0 T1))
theorem G112_597 {z : Option mm_O} {T : fS} {r : fR}  (l0 : Nat) (h : F112_597  l0 T = some r) : mm_L 112 597 [.ref l0] [] (toS z T) = some (tR z r) := by
  unfold F112_597 at h
  refine Eq.trans (e112_597 ..) ?_
  exact (fb_K0i (fun _ q => fb_mo (y := 57) ow_57 q (fun q => GM57 _ _ _ (rfl : (3 : Int32) = nI 3) q)) h (fun v0 T1 h2 => G112_602  _ _ _ rfl h2))
noncomputable def F112_593  (l0 : Nat) (s0 : Nat) (T : fS) : Option fR := (fif (ieq s0 5) (F112_597  l0 T) (F112_634  l0 T))
theorem G112_593 {z : Option mm_O} {T : fS} {r : fR}  (l0 : Nat) (xs0 : Int32) (s0 : Nat) (hs0 : xs0 = nI s0) (h : F112_593  l0 s0 T = some r) : mm_L 112 593 [.ref l0] [.int xs0] (toS z T) = some (tR z r) := by
  unfold F112_593 at h
  refine Eq.trans (e112_593 ..) ?_
  exact (fb_if (cj_eq hs0 (rfl : (5 : Int32) = nI 5)) h (fun h1 => (G112_597  _ h1)) (fun h1 => (G112_634  _ h1)))
noncomputable def F112_587  (l0 : Nat) (T : fS) : Option fR := (fKi true (fif (fch T l0 6) (F68_0 l0 1 0 T) none) (fun v0 T1 => F112_593  l0 v0 T1))
theorem G112_587 {z : Option mm_O} {T : fS} {r : fR}  (l0 : Nat) (h : F112_587  l0 T = some r) : mm_L 112 587 [.ref l0] [] (toS z T) = some (tR z r) := by
  unfold F112_587 at h
  refine Eq.trans (e112_587 ..) ?_
  exact (fb_K0i (fun _ q => fb_mo (y := 68) ow_68 q (fun q => GM68 _ _ _ (rfl : (1 : Int32) = nI 1) _ _ (rfl : (0 : Int32) = nI 0) q)) h (fun v0 T1 h2 => G112_593  _ _ _ rfl h2))
noncomputable def F112_583  (l0 : Nat) (s0 : Nat) (T : fS) : Option fR := (fif (ieq s0 4) (F112_587  l0 T) (F112_634  l0 T))
theorem G112_583 {z : Option mm_O} {T : fS} {r : fR}  (l0 : Nat) (xs0 : Int32) (s0 : Nat) (hs0 : xs0 = nI s0) (h : F112_583  l0 s0 T = some r) : mm_L 112 583 [.ref l0] [.int xs0] (toS z T) = some (tR z r) := by
  unfold F112_583 at h
  refine Eq.trans (e112_583 ..) ?_
  exact (fb_if (cj_eq hs0 (rfl : (4 : Int32) = nI 4)) h (fun h1 => (G112_587  _ h1)) (fun h1 => (G112_634  _ h1)))
noncomputable def F112_578  (l0 : Nat) (T : fS) : Option fR := (fKi true (fif (fch T l0 6) (F57_0 l0 1 T) none) (fun v0 T1 => F112_583  l0 v0 T1))
theorem G112_578 {z : Option mm_O} {T : fS} {r : fR}  (l0 : Nat) (h : F112_578  l0 T = some r) : mm_L 112 578 [.ref l0] [] (toS z T) = some (tR z r) := by
  unfold F112_578 at h
  refine Eq.trans (e112_578 ..) ?_
  exact (fb_K0i (fun _ q => fb_mo (y := 57) ow_57 q (fun q => GM57 _ _ _ (rfl : (1 : Int32) = nI 1) q)) h (fun v0 T1 h2 => G112_583  _ _ _ rfl h2))
noncomputable def F112_573  (l0 : Nat) (s0 : Nat) (T : fS) : Option fR := (fif (ieq s0 13) (F112_578  l0 T) (F112_634  l0 T))
theorem G112_573 {z : Option mm_O} {T : fS} {r : fR}  (l0 : Nat) (xs0 : Int32) (s0 : Nat) (hs0 : xs0 = nI s0) (h : F112_573  l0 s0 T = some r) : mm_L 112 573 [.ref l0] [.int xs0] (toS z T) = some (tR z r) := by
  unfold F112_573 at h
  refine Eq.trans (e112_573 ..) ?_
  exact (fb_if (cj_eq hs0 (rfl : (13 : Int32) = nI 13)) h (fun h1 => (G112_578  _ h1)) (fun h1 => (G112_634  _ h1)))
noncomputable def F112_567  (l0 : Nat) (T : fS) : Option fR := (fKi true (fif (fch T l0 6) (F70_0 l0 5 1 T) none) (fun v0 T1 => F112_573  l0 v0 T1))
theorem G112_567 {z : Option mm_O} {T : fS} {r : fR}  (l0 : Nat) (h : F112_567  l0 T = some r) : mm_L 112 567 [.ref l0] [] (toS z T) = some (tR z r) := by
  unfold F112_567 at h
  refine Eq.trans (e112_567 ..) ?_
  exact (fb_K0i (fun _ q => fb_mo (y := 70) ow_70 q (fun q => GM70 _ _ _ (rfl : (5 : Int32) = nI 5) _ _ (rfl : (1 : Int32) = nI 1) q)) h (fun v0 T1 h2 => G112_573  _ _ _ rfl h2))
noncomputable def F112_563  (l0 : Nat) (s0 : Nat) (T : fS) : Option fR := (fif (ieq s0 4294967295) (F112_567  l0 T) (F112_634  l0 T))
theorem G112_563 {z : Option mm_O} {T : fS} {r : fR}  (l0 : Nat) (xs0 : Int32) (s0 : Nat) (hs0 : xs0 = nI s0) (h : F112_563  l0 s0 T = some r) : mm_L 112 563 [.ref l0] [.int xs0] (toS z T) = some (tR z r) := by
  unfold F112_563 at h
  refine Eq.trans (e112_563 ..) ?_
  exact (fb_if (cj_eq hs0 (by decide : (-1 : Int32) = nI 4294967295)) h (fun h1 => (G112_567  _ h1)) (fun h1 => (G112_634  _ h1)))
noncomputable def F112_556  (l0 : Nat) (T : fS) : Option fR := (fKi true (fif (fch T l0 6) (F70_0 l0 6 0 T) none) (fun v0 T1 => F112_563  l0 v0 T1))
theorem G112_556 {z : Option mm_O} {T : fS} {r : fR}  (l0 : Nat) (h : F112_556  l0 T = some r) : mm_L 112 556 [.ref l0] [] (toS z T) = some (tR z r) := by
  unfold F112_556 at h
  refine Eq.trans (e112_556 ..) ?_
  exact (fb_K0i (fun _ q => fb_mo (y := 70) ow_70 q (fun q => GM70 _ _ _ (rfl : (6 : Int32) = nI 6) _ _ (rfl : (0 : Int32) = nI 0) q)) h (fun v0 T1 h2 => G112_563  _ _ _ rfl h2))
noncomputable def F112_552  (l0 : Nat) (s0 : Nat) (T : fS) : Option fR := (fif (ieq s0 4) (F112_556  l0 T) (F112_634  l0 T))
theorem G112_552 {z : Option mm_O} {T : fS} {r : fR}  (l0 : Nat) (xs0 : Int32) (s0 : Nat) (hs0 : xs0 = nI s0) (h : F112_552  l0 s0 T = some r) : mm_L 112 552 [.ref l0] [.int xs0] (toS z T) = some (tR z r) := by
  unfold F112_552 at h
  refine Eq.trans (e112_552 ..) ?_
  exact (fb_if (cj_eq hs0 (rfl : (4 : Int32) = nI 4)) h (fun h1 => (G112_556  _ h1)) (fun h1 => (G112_634  _ h1)))
noncomputable def F112_546  (l0 : Nat) (T : fS) : Option fR := (fKi true (fif (fch T l0 6) (F68_0 l0 5 2 T) none) (fun v0 T1 => F112_552  l0 v0 T1))
theorem G112_546 {z : Option mm_O} {T : fS} {r : fR}  (l0 : Nat) (h : F112_546  l0 T = some r) : mm_L 112 546 [.ref l0] [] (toS z T) = some (tR z r) := by
  unfold F112_546 at h
  refine Eq.trans (e112_546 ..) ?_
  exact (fb_K0i (fun _ q => fb_mo (y := 68) ow_68 q (fun q => GM68 _ _ _ (rfl : (5 : Int32) = nI 5) _ _ (rfl : (2 : Int32) = nI 2) q)) h (fun v0 T1 h2 => G112_552  _ _ _ rfl h2))
noncomputable def F112_542  (l0 : Nat) (s0 : Nat) (T : fS) : Option fR := (fif (ieq s0 5) (F112_546  l0 T) (F112_634  l0 T))
theorem G112_542 {z : Option mm_O} {T : fS} {r : fR}  (l0 : Nat) (xs0 : Int32) (s0 : Nat) (hs0 : xs0 = nI s0) (h : F112_542  l0 s0 T = some r) : mm_L 112 542 [.ref l0] [.int xs0] (toS z T) = some (tR z r) := by
  unfold F112_542 at h
  refine Eq.trans (e112_542 ..) ?_
  exact (fb_if (cj_eq hs0 (rfl : (5 : Int32) = nI 5)) h (fun h1 => (G112_546  _ h1)) (fun h1 => (G112_634  _ h1)))
noncomputable def F112_535  (l0 : Nat) (T : fS) : Option fR := (fKi true (fif (fch T l0 6) (F68_0 l0 6 2 T) none) (fun v0 T1 => F112_542  l0 v0 T1))
theorem G112_535 {z : Option mm_O} {T : fS} {r : fR}  (l0 : Nat) (h : F112_535  l0 T = some r) : mm_L 112 535 [.ref l0] [] (toS z T) = some (tR z r) := by
  unfold F112_535 at h
  refine Eq.trans (e112_535 ..) ?_
  exact (fb_K0i (fun _ q => fb_mo (y := 68) ow_68 q (fun q => GM68 _ _ _ (rfl : (6 : Int32) = nI 6) _ _ (rfl : (2 : Int32) = nI 2) q)) h (fun v0 T1 h2 => G112_542  _ _ _ rfl h2))
noncomputable def F112_531  (l0 : Nat) (s0 : Nat) (T : fS) : Option fR := (fif (ieq s0 3) (F112_535  l0 T) (F112_634  l0 T))
theorem G112_531 {z : Option mm_O} {T : fS} {r : fR}  (l0 : Nat) (xs0 : Int32) (s0 : Nat) (hs0 : xs0 = nI s0) (h : F112_531  l0 s0 T = some r) : mm_L 112 531 [.ref l0] [.int xs0] (toS z T) = some (tR z r) := by
  unfold F112_531 at h
  refine Eq.trans (e112_531 ..) ?_
  exact (fb_if (cj_eq hs0 (rfl : (3 : Int32) = nI 3)) h (fun h1 => (G112_535  _ h1)) (fun h1 => (G112_634  _ h1)))
noncomputable def F112_526  (l0 : Nat) (T : fS) : Option fR := (fKi true (fif (fch T l0 6) (F57_0 l0 4 T) none) (fun v0 T1 => F112_531  l0 v0 T1))
theorem G112_526 {z : Option mm_O} {T : fS} {r : fR}  (l0 : Nat) (h : F112_526  l0 T = some r) : mm_L 112 526 [.ref l0] [] (toS z T) = some (tR z r) := by
  unfold F112_526 at h
  refine Eq.trans (e112_526 ..) ?_
  exact (fb_K0i (fun _ q => fb_mo (y := 57) ow_57 q (fun q => GM57 _ _ _ (rfl : (4 : Int32) = nI 4) q)) h (fun v0 T1 h2 => G112_531  _ _ _ rfl h2))
noncomputable def F112_521  (l0 : Nat) (s0 : Nat) (s1 : Nat) (T : fS) : Option fR := (fif (ieq (iS s1 s0) 5) (F112_526  l0 T) (F112_634  l0 T))
theorem G112_521 {z : Option mm_O} {T : fS} {r : fR}  (l0 : Nat) (xs0 : Int32) (s0 : Nat) (hs0 : xs0 = nI s0) (xs1 : Int32) (s1 : Nat) (hs1 : xs1 = nI s1) (h : F112_521  l0 s0 s1 T = some r) : mm_L 112 521 [.ref l0] [.int xs0, .int xs1] (toS z T) = some (tR z r) := by
  unfold F112_521 at h
  refine Eq.trans (e112_521 ..) ?_
  exact (fb_if (cj_eq (iS_ok hs1 hs0) (rfl : (5 : Int32) = nI 5)) h (fun h1 => (G112_526  _ h1)) (fun h1 => (G112_634  _ h1)))
noncomputable def F112_514  (l0 : Nat) (s0 : Nat) (T : fS) : Option fR := (fKi true (fif (fch T l0 6) (F68_0 l0 4 7 T) none) (fun v0 T1 => F112_521  l0 v0 s0 T1))
theorem G112_514 {z : Option mm_O} {T : fS} {r : fR}  (l0 : Nat) (xs0 : Int32) (s0 : Nat) (hs0 : xs0 = nI s0) (h : F112_514  l0 s0 T = some r) : mm_L 112 514 [.ref l0] [.int xs0] (toS z T) = some (tR z r) := by
  unfold F112_514 at h
  refine Eq.trans (e112_514 ..) ?_
  exact (fb_K0i (fun _ q => fb_mo (y := 68) ow_68 q (fun q => GM68 _ _ _ (rfl : (4 : Int32) = nI 4) _ _ (rfl : (7 : Int32) = nI 7) q)) h (fun v0 T1 h2 => G112_521  _ _ _ rfl _ _ hs0 h2))
noncomputable def F112_507  (l0 : Nat) (T : fS) : Option fR := (fKi true (fif (fch T l0 6) (F68_0 l0 4 8 T) none) (fun v0 T1 => F112_514  l0 v0 T1))
theorem G112_507 {z : Option mm_O} {T : fS} {r : fR}  (l0 : Nat) (h : F112_507  l0 T = some r) : mm_L 112 507 [.ref l0] [] (toS z T) = some (tR z r) := by
  unfold F112_507 at h
  refine Eq.trans (e112_507 ..) ?_
  exact (fb_K0i (fun _ q => fb_mo (y := 68) ow_68 q (fun q => GM68 _ _ _ (rfl : (4 : Int32) = nI 4) _ _ (rfl : (8 : Int32) = nI 8) q)) h (fun v0 T1 h2 => G112_514  _ _ _ rfl h2))
noncomputable def F112_504  (l0 : Nat) (s0 : Nat) (T : fS) : Option fR := (fif (ieq s0 0) (F112_507  l0 T) (F112_634  l0 T))
theorem G112_504 {z : Option mm_O} {T : fS} {r : fR}  (l0 : Nat) (xs0 : Int32) (s0 : Nat) (hs0 : xs0 = nI s0) (h : F112_504  l0 s0 T = some r) : mm_L 112 504 [.ref l0] [.int xs0] (toS z T) = some (tR z r) := by
  unfold F112_504 at h
  refine Eq.trans (e112_504 ..) ?_
  exact (fb_if (cj_eq hs0 (rfl : (0 : Int32) = nI 0)) h (fun h1 => (G112_507  _ h1)) (fun h1 => (G112_634  _ h1)))
noncomputable def F112_498  (l0 : Nat) (T : fS) : Option fR := (fKi true (fif (fch T l0 6) (F68_0 l0 4 4 T) none) (fun v0 T1 => F112_504  l0 v0 T1))
theorem G112_498 {z : Option mm_O} {T : fS} {r : fR}  (l0 : Nat) (h : F112_498  l0 T = some r) : mm_L 112 498 [.ref l0] [] (toS z T) = some (tR z r) := by
  unfold F112_498 at h
  refine Eq.trans (e112_498 ..) ?_
  exact (fb_K0i (fun _ q => fb_mo (y := 68) ow_68 q (fun q => GM68 _ _ _ (rfl : (4 : Int32) = nI 4) _ _ (rfl : (4 : Int32) = nI 4) q)) h (fun v0 T1 h2 => G112_504  _ _ _ rfl h2))
noncomputable def F112_494  (l0 : Nat) (s0 : Nat) (T : fS) : Option fR := (fif (ieq s0 2) (F112_498  l0 T) (F112_634  l0 T))
theorem G112_494 {z : Option mm_O} {T : fS} {r : fR}  (l0 : Nat) (xs0 : Int32) (s0 : Nat) (hs0 : xs0 = nI s0) (h : F112_494  l0 s0 T = some r) : mm_L 112 494 [.ref l0] [.int xs0] (toS z T) = some (tR z r) := by
  unfold F112_494 at h
  refine Eq.trans (e112_494 ..) ?_
  exact (fb_if (cj_eq hs0 (rfl : (2 : Int32) = nI 2)) h (fun h1 => (G112_498  _ h1)) (fun h1 => (G112_634  _ h1)))
noncomputable def F112_488  (l0 : Nat) (T : fS) : Option fR := (fKi true (fif (fch T l0 6) (F68_0 l0 4 3 T) none) (fun v0 T1 => F112_494  l0 v0 T1))
theorem G112_488 {z : Option mm_O} {T : fS} {r : fR}  (l0 : Nat) (h : F112_488  l0 T = some r) : mm_L 112 488 [.ref l0] [] (toS z T) = some (tR z r) := by
  unfold F112_488 at h
  refine Eq.trans (e112_488 ..) ?_
  exact (fb_K0i (fun _ q => fb_mo (y := 68) ow_68 q (fun q => GM68 _ _ _ (rfl : (4 : Int32) = nI 4) _ _ (rfl : (3 : Int32) = nI 3) q)) h (fun v0 T1 h2 => G112_494  _ _ _ rfl h2))
noncomputable def F112_484  (l0 : Nat) (s0 : Nat) (T : fS) : Option fR := (fif (ieq s0 2) (F112_488  l0 T) (F112_634  l0 T))
theorem G112_484 {z : Option mm_O} {T : fS} {r : fR}  (l0 : Nat) (xs0 : Int32) (s0 : Nat) (hs0 : xs0 = nI s0) (h : F112_484  l0 s0 T = some r) : mm_L 112 484 [.ref l0] [.int xs0] (toS z T) = some (tR z r) := by
  unfold F112_484 at h
  refine Eq.trans (e112_484 ..) ?_
  exact (fb_if (cj_eq hs0 (rfl : (2 : Int32) = nI 2)) h (fun h1 => (G112_488  _ h1)) (fun h1 => (G112_634  _ h1)))
noncomputable def F112_479  (l0 : Nat) (T : fS) : Option fR := (fKi true (fif (fch T l0 6) (F57_0 l0 2 T) none) (fun v0 T1 => F112_484  l0 v0 T1))
theorem G112_479 {z : Option mm_O} {T : fS} {r : fR}  (l0 : Nat) (h : F112_479  l0 T = some r) : mm_L 112 479 [.ref l0] [] (toS z T) = some (tR z r) := by
  unfold F112_479 at h
  refine Eq.trans (e112_479 ..) ?_
  exact (fb_K0i (fun _ q => fb_mo (y := 57) ow_57 q (fun q => GM57 _ _ _ (rfl : (2 : Int32) = nI 2) q)) h (fun v0 T1 h2 => G112_484  _ _ _ rfl h2))
noncomputable def F112_475  (l0 : Nat) (s0 : Nat) (T : fS) : Option fR := (fif (ieq s0 2) (F112_479  l0 T) (F112_634  l0 T))
theorem G112_475 {z : Option mm_O} {T : fS} {r : fR}  (l0 : Nat) (xs0 : Int32) (s0 : Nat) (hs0 : xs0 = nI s0) (h : F112_475  l0 s0 T = some r) : mm_L 112 475 [.ref l0] [.int xs0] (toS z T) = some (tR z r) := by
  unfold F112_475 at h
  refine Eq.trans (e112_475 ..) ?_
  exact (fb_if (cj_eq hs0 (rfl : (2 : Int32) = nI 2)) h (fun h1 => (G112_479  _ h1)) (fun h1 => (G112_634  _ h1)))
noncomputable def F112_469  (l0 : Nat) (T : fS) : Option fR := (fKi true (fif (fch T l0 6) (F70_0 l0 1 0 T) none) (fun v0 T1 => F112_475  l0 v0 T1))
theorem G112_469 {z : Option mm_O} {T : fS} {r : fR}  (l0 : Nat) (h : F112_469  l0 T = some r) : mm_L 112 469 [.ref l0] [] (toS z T) = some (tR z r) := by
  unfold F112_469 at h
  refine Eq.trans (e112_469 ..) ?_
  exact (fb_K0i (fun _ q => fb_mo (y := 70) ow_70 q (fun q => GM70 _ _ _ (rfl : (1 : Int32) = nI 1) _ _ (rfl : (0 : Int32) = nI 0) q)) h (fun v0 T1 h2 => G112_475  _ _ _ rfl h2))
noncomputable def F112_465  (l0 : Nat) (s0 : Nat) (T : fS) : Option fR := (fif (ieq s0 4294967295) (F112_469  l0 T) (F112_634  l0 T))
theorem G112_465 {z : Option mm_O} {T : fS} {r : fR}  (l0 : Nat) (xs0 : Int32) (s0 : Nat) (hs0 : xs0 = nI s0) (h : F112_465  l0 s0 T = some r) : mm_L 112 465 [.ref l0] [.int xs0] (toS z T) = some (tR z r) := by
  unfold F112_465 at h
  refine Eq.trans (e112_465 ..) ?_
  exact (fb_if (cj_eq hs0 (by decide : (-1 : Int32) = nI 4294967295)) h (fun h1 => (G112_469  _ h1)) (fun h1 => (G112_634  _ h1)))
noncomputable def F112_459  (l0 : Nat) (T : fS) : Option fR := (fKi true (fif (fch T l0 6) (F70_0 l0 2 0 T) none) (fun v0 T1 => F112_465  l0 v0 T1))
theorem G112_459 {z : Option mm_O} {T : fS} {r : fR}  (l0 : Nat) (h : F112_459  l0 T = some r) : mm_L 112 459 [.ref l0] [] (toS z T) = some (tR z r) := by
  unfold F112_459 at h
  refine Eq.trans (e112_459 ..) ?_
  exact (fb_K0i (fun _ q => fb_mo (y := 70) ow_70 q (fun q => GM70 _ _ _ (rfl : (2 : Int32) = nI 2) _ _ (rfl : (0 : Int32) = nI 0) q)) h (fun v0 T1 h2 => G112_465  _ _ _ rfl h2))
noncomputable def F112_455  (l0 : Nat) (s0 : Nat) (T : fS) : Option fR := (fif (ieq s0 5) (F112_459  l0 T) (F112_634  l0 T))
theorem G112_455 {z : Option mm_O} {T : fS} {r : fR}  (l0 : Nat) (xs0 : Int32) (s0 : Nat) (hs0 : xs0 = nI s0) (h : F112_455  l0 s0 T = some r) : mm_L 112 455 [.ref l0] [.int xs0] (toS z T) = some (tR z r) := by
  unfold F112_455 at h
  refine Eq.trans (e112_455 ..) ?_
  exact (fb_if (cj_eq hs0 (rfl : (5 : Int32) = nI 5)) h (fun h1 => (G112_459  _ h1)) (fun h1 => (G112_634  _ h1)))
noncomputable def F112_449  (l0 : Nat) (T : fS) : Option fR := (fKi true (fif (fch T l0 6) (F68_0 l0 4 0 T) none) (fun v0 T1 => F112_455  l0 v0 T1))
theorem G112_449 {z : Option mm_O} {T : fS} {r : fR}  (l0 : Nat) (h : F112_449  l0 T = some r) : mm_L 112 449 [.ref l0] [] (toS z T) = some (tR z r) := by
  unfold F112_449 at h
  refine Eq.trans (e112_449 ..) ?_
  exact (fb_K0i (fun _ q => fb_mo (y := 68) ow_68 q (fun q => GM68 _ _ _ (rfl : (4 : Int32) = nI 4) _ _ (rfl : (0 : Int32) = nI 0) q)) h (fun v0 T1 h2 => G112_455  _ _ _ rfl h2))
noncomputable def F112_445  (l0 : Nat) (s0 : Nat) (T : fS) : Option fR := (fif (ieq s0 5) (F112_449  l0 T) (F112_634  l0 T))
theorem G112_445 {z : Option mm_O} {T : fS} {r : fR}  (l0 : Nat) (xs0 : Int32) (s0 : Nat) (hs0 : xs0 = nI s0) (h : F112_445  l0 s0 T = some r) : mm_L 112 445 [.ref l0] [.int xs0] (toS z T) = some (tR z r) := by
  unfold F112_445 at h
  refine Eq.trans (e112_445 ..) ?_
  exact (fb_if (cj_eq hs0 (rfl : (5 : Int32) = nI 5)) h (fun h1 => (G112_449  _ h1)) (fun h1 => (G112_634  _ h1)))
noncomputable def F112_439  (l0 : Nat) (T : fS) : Option fR := (fKi true (fif (fch T l0 6) (F68_0 l0 2 0 T) none) (fun v0 T1 => F112_445  l0 v0 T1))
theorem G112_439 {z : Option mm_O} {T : fS} {r : fR}  (l0 : Nat) (h : F112_439  l0 T = some r) : mm_L 112 439 [.ref l0] [] (toS z T) = some (tR z r) := by
  unfold F112_439 at h
  refine Eq.trans (e112_439 ..) ?_
  exact (fb_K0i (fun _ q => fb_mo (y := 68) ow_68 q (fun q => GM68 _ _ _ (rfl : (2 : Int32) = nI 2) _ _ (rfl : (0 : Int32) = nI 0) q)) h (fun v0 T1 h2 => G112_445  _ _ _ rfl h2))
noncomputable def F112_435  (l0 : Nat) (s0 : Nat) (T : fS) : Option fR := (fif (ieq s0 1) (F112_439  l0 T) (F112_634  l0 T))
theorem G112_435 {z : Option mm_O} {T : fS} {r : fR}  (l0 : Nat) (xs0 : Int32) (s0 : Nat) (hs0 : xs0 = nI s0) (h : F112_435  l0 s0 T = some r) : mm_L 112 435 [.ref l0] [.int xs0] (toS z T) = some (tR z r) := by
  unfold F112_435 at h
  refine Eq.trans (e112_435 ..) ?_
  exact (fb_if (cj_eq hs0 (rfl : (1 : Int32) = nI 1)) h (fun h1 => (G112_439  _ h1)) (fun h1 => (G112_634  _ h1)))
noncomputable def F112_429  (l0 : Nat) (T : fS) : Option fR := (fKi true (fif (fch T l0 6) (F68_0 l0 1 0 T) none) (fun v0 T1 => F112_435  l0 v0 T1))
theorem G112_429 {z : Option mm_O} {T : fS} {r : fR}  (l0 : Nat) (h : F112_429  l0 T = some r) : mm_L 112 429 [.ref l0] [] (toS z T) = some (tR z r) := by
  unfold F112_429 at h
  refine Eq.trans (e112_429 ..) ?_
  exact (fb_K0i (fun _ q => fb_mo (y := 68) ow_68 q (fun q => GM68 _ _ _ (rfl : (1 : Int32) = nI 1) _ _ (rfl : (0 : Int32) = nI 0) q)) h (fun v0 T1 h2 => G112_435  _ _ _ rfl h2))
noncomputable def F112_425  (l0 : Nat) (s0 : Nat) (T : fS) : Option fR := (fif (ieq s0 1) (F112_429  l0 T) (F112_634  l0 T))
theorem G112_425 {z : Option mm_O} {T : fS} {r : fR}  (l0 : Nat) (xs0 : Int32) (s0 : Nat) (hs0 : xs0 = nI s0) (h : F112_425  l0 s0 T = some r) : mm_L 112 425 [.ref l0] [.int xs0] (toS z T) = some (tR z r) := by
  unfold F112_425 at h
  refine Eq.trans (e112_425 ..) ?_
  exact (fb_if (cj_eq hs0 (rfl : (1 : Int32) = nI 1)) h (fun h1 => (G112_429  _ h1)) (fun h1 => (G112_634  _ h1)))
noncomputable def F112_420  (l0 : Nat) (T : fS) : Option fR := (fKi true (fif (fch T l0 6) (F57_0 l0 1 T) none) (fun v0 T1 => F112_425  l0 v0 T1))
theorem G112_420 {z : Option mm_O} {T : fS} {r : fR}  (l0 : Nat) (h : F112_420  l0 T = some r) : mm_L 112 420 [.ref l0] [] (toS z T) = some (tR z r) := by
  unfold F112_420 at h
  refine Eq.trans (e112_420 ..) ?_
  exact (fb_K0i (fun _ q => fb_mo (y := 57) ow_57 q (fun q => GM57 _ _ _ (rfl : (1 : Int32) = nI 1) q)) h (fun v0 T1 h2 => G112_425  _ _ _ rfl h2))
noncomputable def F112_417  (l0 : Nat) (s0 : Nat) (T : fS) : Option fR := (fif (ieq s0 0) (F112_420  l0 T) (F112_634  l0 T))
theorem G112_417 {z : Option mm_O} {T : fS} {r : fR}  (l0 : Nat) (xs0 : Int32) (s0 : Nat) (hs0 : xs0 = nI s0) (h : F112_417  l0 s0 T = some r) : mm_L 112 417 [.ref l0] [.int xs0] (toS z T) = some (tR z r) := by
  unfold F112_417 at h
  refine Eq.trans (e112_417 ..) ?_
  exact (fb_if (cj_eq hs0 (rfl : (0 : Int32) = nI 0)) h (fun h1 => (G112_420  _ h1)) (fun h1 => (G112_634  _ h1)))
noncomputable def F112_411  (l0 : Nat) (T : fS) : Option fR := (fKi true (fif (fch T l0 6) (F68_0 l0 3 5 T) none) (fun v0 T1 => F112_417  l0 v0 T1))
theorem G112_411 {z : Option mm_O} {T : fS} {r : fR}  (l0 : Nat) (h : F112_411  l0 T = some r) : mm_L 112 411 [.ref l0] [] (toS z T) = some (tR z r) := by
  unfold F112_411 at h
  refine Eq.trans (e112_411 ..) ?_
  exact (fb_K0i (fun _ q => fb_mo (y := 68) ow_68 q (fun q => GM68 _ _ _ (rfl : (3 : Int32) = nI 3) _ _ (rfl : (5 : Int32) = nI 5) q)) h (fun v0 T1 h2 => G112_417  _ _ _ rfl h2))
noncomputable def F112_408  (l0 : Nat) (s0 : Nat) (T : fS) : Option fR := (fif (ieq s0 0) (F112_411  l0 T) (F112_634  l0 T))
theorem G112_408 {z : Option mm_O} {T : fS} {r : fR}  (l0 : Nat) (xs0 : Int32) (s0 : Nat) (hs0 : xs0 = nI s0) (h : F112_408  l0 s0 T = some r) : mm_L 112 408 [.ref l0] [.int xs0] (toS z T) = some (tR z r) := by
  unfold F112_408 at h
  refine Eq.trans (e112_408 ..) ?_
  exact (fb_if (cj_eq hs0 (rfl : (0 : Int32) = nI 0)) h (fun h1 => (G112_411  _ h1)) (fun h1 => (G112_634  _ h1)))
noncomputable def F112_402  (l0 : Nat) (T : fS) : Option fR := (fKi true (fif (fch T l0 6) (F58_0 l0 0 1 T) none) (fun v0 T1 => F112_408  l0 v0 T1))
theorem G112_402 {z : Option mm_O} {T : fS} {r : fR}  (l0 : Nat) (h : F112_402  l0 T = some r) : mm_L 112 402 [.ref l0] [] (toS z T) = some (tR z r) := by
  unfold F112_402 at h
  refine Eq.trans (e112_402 ..) ?_
  exact (fb_K0i (fun _ q => fb_mo (y := 58) ow_58 q (fun q => GM58 _ _ _ (rfl : (0 : Int32) = nI 0) _ _ (rfl : (1 : Int32) = nI 1) q)) h (fun v0 T1 h2 => G112_408  _ _ _ rfl h2))
noncomputable def F112_398  (l0 : Nat) (s0 : Nat) (T : fS) : Option fR := (fif (ieq s0 1) (F112_402  l0 T) (F112_634  l0 T))
theorem G112_398 {z : Option mm_O} {T : fS} {r : fR}  (l0 : Nat) (xs0 : Int32) (s0 : Nat) (hs0 : xs0 = nI s0) (h : F112_398  l0 s0 T = some r) : mm_L 112 398 [.ref l0] [.int xs0] (toS z T) = some (tR z r) := by
  unfold F112_398 at h
  refine Eq.trans (e112_398 ..) ?_
  exact (fb_if (cj_eq hs0 (rfl : (1 : Int32) = nI 1)) h (fun h1 => (G112_402  _ h1)) (fun h1 => (G112_634  _ h1)))
noncomputable def F112_392  (l0 : Nat) (T : fS) : Option fR := (fKi true (fif (fch T l0 6) (F68_0 l0 3 5 T) none) (fun v0 T1 => F112_398  l0 v0 T1))
theorem G112_392 {z : Option mm_O} {T : fS} {r : fR}  (l0 : Nat) (h : F112_392  l0 T = some r) : mm_L 112 392 [.ref l0] [] (toS z T) = some (tR z r) := by
  unfold F112_392 at h
  refine Eq.trans (e112_392 ..) ?_
  exact (fb_K0i (fun _ q => fb_mo (y := 68) ow_68 q (fun q => GM68 _ _ _ (rfl : (3 : Int32) = nI 3) _ _ (rfl : (5 : Int32) = nI 5) q)) h (fun v0 T1 h2 => G112_398  _ _ _ rfl h2))
noncomputable def F112_389  (l0 : Nat) (s0 : Nat) (T : fS) : Option fR := (fif (ieq s0 0) (F112_634  l0 T) (F112_392  l0 T))
theorem G112_389 {z : Option mm_O} {T : fS} {r : fR}  (l0 : Nat) (xs0 : Int32) (s0 : Nat) (hs0 : xs0 = nI s0) (h : F112_389  l0 s0 T = some r) : mm_L 112 389 [.ref l0] [.int xs0] (toS z T) = some (tR z r) := by
  unfold F112_389 at h
  refine Eq.trans (e112_389 ..) ?_
  exact (fb_if (cj_eq hs0 (rfl : (0 : Int32) = nI 0)) h (fun h1 => (G112_634  _ h1)) (fun h1 => (G112_392  _ h1)))
noncomputable def F112_383  (l0 : Nat) (T : fS) : Option fR := (fKi true (fif (fch T l0 6) (F58_0 l0 0 1 T) none) (fun v0 T1 => F112_389  l0 v0 T1))
theorem G112_383 {z : Option mm_O} {T : fS} {r : fR}  (l0 : Nat) (h : F112_383  l0 T = some r) : mm_L 112 383 [.ref l0] [] (toS z T) = some (tR z r) := by
  unfold F112_383 at h
  refine Eq.trans (e112_383 ..) ?_
  exact (fb_K0i (fun _ q => fb_mo (y := 58) ow_58 q (fun q => GM58 _ _ _ (rfl : (0 : Int32) = nI 0) _ _ (rfl : (1 : Int32) = nI 1) q)) h (fun v0 T1 h2 => G112_389  _ _ _ rfl h2))
noncomputable def F112_380  (l0 : Nat) (s0 : Nat) (T : fS) : Option fR := (fif (ieq s0 0) (F112_383  l0 T) (F112_634  l0 T))
theorem G112_380 {z : Option mm_O} {T : fS} {r : fR}  (l0 : Nat) (xs0 : Int32) (s0 : Nat) (hs0 : xs0 = nI s0) (h : F112_380  l0 s0 T = some r) : mm_L 112 380 [.ref l0] [.int xs0] (toS z T) = some (tR z r) := by
  unfold F112_380 at h
  refine Eq.trans (e112_380 ..) ?_
  exact (fb_if (cj_eq hs0 (rfl : (0 : Int32) = nI 0)) h (fun h1 => (G112_383  _ h1)) (fun h1 => (G112_634  _ h1)))
noncomputable def F112_374  (l0 : Nat) (T : fS) : Option fR := (fKi true (fif (fch T l0 6) (F68_0 l0 3 5 T) none) (fun v0 T1 => F112_380  l0 v0 T1))
theorem G112_374 {z : Option mm_O} {T : fS} {r : fR}  (l0 : Nat) (h : F112_374  l0 T = some r) : mm_L 112 374 [.ref l0] [] (toS z T) = some (tR z r) := by
  unfold F112_374 at h
  refine Eq.trans (e112_374 ..) ?_
  exact (fb_K0i (fun _ q => fb_mo (y := 68) ow_68 q (fun q => GM68 _ _ _ (rfl : (3 : Int32) = nI 3) _ _ (rfl : (5 : Int32) = nI 5) q)) h (fun v0 T1 h2 => G112_380  _ _ _ rfl h2))
noncomputable def F112_371  (l0 : Nat) (s0 : Nat) (T : fS) : Option fR := (fif (ieq s0 0) (F112_374  l0 T) (F112_634  l0 T))
theorem G112_371 {z : Option mm_O} {T : fS} {r : fR}  (l0 : Nat) (xs0 : Int32) (s0 : Nat) (hs0 : xs0 = nI s0) (h : F112_371  l0 s0 T = some r) : mm_L 112 371 [.ref l0] [.int xs0] (toS z T) = some (tR z r) := by
  unfold F112_371 at h
  refine Eq.trans (e112_371 ..) ?_
  exact (fb_if (cj_eq hs0 (rfl : (0 : Int32) = nI 0)) h (fun h1 => (G112_374  _ h1)) (fun h1 => (G112_634  _ h1)))
noncomputable def F112_366  (l0 : Nat) (T : fS) : Option fR := (fKi true (fif (fch T l0 6) (F57_0 l0 0 T) none) (fun v0 T1 => F112_371  l0 v0 T1))
theorem G112_366 {z : Option mm_O} {T : fS} {r : fR}  (l0 : Nat) (h : F112_366  l0 T = some r) : mm_L 112 366 [.ref l0] [] (toS z T) = some (tR z r) := by
  unfold F112_366 at h
  refine Eq.trans (e112_366 ..) ?_
  exact (fb_K0i (fun _ q => fb_mo (y := 57) ow_57 q (fun q => GM57 _ _ _ (rfl : (0 : Int32) = nI 0) q)) h (fun v0 T1 h2 => G112_371  _ _ _ rfl h2))
noncomputable def F112_361  (l0 : Nat) (s0 : Nat) (T : fS) : Option fR := (fif (ieq s0 13) (F112_366  l0 T) (F112_634  l0 T))
theorem G112_361 {z : Option mm_O} {T : fS} {r : fR}  (l0 : Nat) (xs0 : Int32) (s0 : Nat) (hs0 : xs0 = nI s0) (h : F112_361  l0 s0 T = some r) : mm_L 112 361 [.ref l0] [.int xs0] (toS z T) = some (tR z r) := by
  unfold F112_361 at h
  refine Eq.trans (e112_361 ..) ?_
  exact (fb_if (cj_eq hs0 (rfl : (13 : Int32) = nI 13)) h (fun h1 => (G112_366  _ h1)) (fun h1 => (G112_634  _ h1)))
noncomputable def F112_355  (l0 : Nat) (T : fS) : Option fR := (fKi true (fif (fch T l0 6) (F70_0 l0 5 1 T) none) (fun v0 T1 => F112_361  l0 v0 T1))
theorem G112_355 {z : Option mm_O} {T : fS} {r : fR}  (l0 : Nat) (h : F112_355  l0 T = some r) : mm_L 112 355 [.ref l0] [] (toS z T) = some (tR z r) := by
  unfold F112_355 at h
  refine Eq.trans (e112_355 ..) ?_
  exact (fb_K0i (fun _ q => fb_mo (y := 70) ow_70 q (fun q => GM70 _ _ _ (rfl : (5 : Int32) = nI 5) _ _ (rfl : (1 : Int32) = nI 1) q)) h (fun v0 T1 h2 => G112_361  _ _ _ rfl h2))
noncomputable def F112_351  (l0 : Nat) (s0 : Nat) (T : fS) : Option fR := (fif (ieq s0 5) (F112_355  l0 T) (F112_634  l0 T))
theorem G112_351 {z : Option mm_O} {T : fS} {r : fR}  (l0 : Nat) (xs0 : Int32) (s0 : Nat) (hs0 : xs0 = nI s0) (h : F112_351  l0 s0 T = some r) : mm_L 112 351 [.ref l0] [.int xs0] (toS z T) = some (tR z r) := by
  unfold F112_351 at h
  refine Eq.trans (e112_351 ..) ?_
  exact (fb_if (cj_eq hs0 (rfl : (5 : Int32) = nI 5)) h (fun h1 => (G112_355  _ h1)) (fun h1 => (G112_634  _ h1)))
noncomputable def F112_345  (l0 : Nat) (T : fS) : Option fR := (fKi true (fif (fch T l0 6) (F70_0 l0 5 0 T) none) (fun v0 T1 => F112_351  l0 v0 T1))
theorem G112_345 {z : Option mm_O} {T : fS} {r : fR}  (l0 : Nat) (h : F112_345  l0 T = some r) : mm_L 112 345 [.ref l0] [] (toS z T) = some (tR z r) := by
  unfold F112_345 at h
  refine Eq.trans (e112_345 ..) ?_
  exact (fb_K0i (fun _ q => fb_mo (y := 70) ow_70 q (fun q => GM70 _ _ _ (rfl : (5 : Int32) = nI 5) _ _ (rfl : (0 : Int32) = nI 0) q)) h (fun v0 T1 h2 => G112_351  _ _ _ rfl h2))
noncomputable def F112_341  (l0 : Nat) (s0 : Nat) (T : fS) : Option fR := (fif (ieq s0 2) (F112_345  l0 T) (F112_634  l0 T))
theorem G112_341 {z : Option mm_O} {T : fS} {r : fR}  (l0 : Nat) (xs0 : Int32) (s0 : Nat) (hs0 : xs0 = nI s0) (h : F112_341  l0 s0 T = some r) : mm_L 112 341 [.ref l0] [.int xs0] (toS z T) = some (tR z r) := by
  unfold F112_341 at h
  refine Eq.trans (e112_341 ..) ?_
  exact (fb_if (cj_eq hs0 (rfl : (2 : Int32) = nI 2)) h (fun h1 => (G112_345  _ h1)) (fun h1 => (G112_634  _ h1)))
noncomputable def F112_335  (l0 : Nat) (T : fS) : Option fR := (fKi true (fif (fch T l0 6) (F70_0 l0 4 0 T) none) (fun v0 T1 => F112_341  l0 v0 T1))
theorem G112_335 {z : Option mm_O} {T : fS} {r : fR}  (l0 : Nat) (h : F112_335  l0 T = some r) : mm_L 112 335 [.ref l0] [] (toS z T) = some (tR z r) := by
  unfold F112_335 at h
  refine Eq.trans (e112_335 ..) ?_
  exact (fb_K0i (fun _ q => fb_mo (y := 70) ow_70 q (fun q => GM70 _ _ _ (rfl : (4 : Int32) = nI 4) _ _ (rfl : (0 : Int32) = nI 0) q)) h (fun v0 T1 h2 => G112_341  _ _ _ rfl h2))
noncomputable def F112_332  (l0 : Nat) (s0 : Nat) (T : fS) : Option fR := (fif (ieq s0 0) (F112_335  l0 T) (F112_634  l0 T))
theorem G112_332 {z : Option mm_O} {T : fS} {r : fR}  (l0 : Nat) (xs0 : Int32) (s0 : Nat) (hs0 : xs0 = nI s0) (h : F112_332  l0 s0 T = some r) : mm_L 112 332 [.ref l0] [.int xs0] (toS z T) = some (tR z r) := by
  unfold F112_332 at h
  refine Eq.trans (e112_332 ..) ?_
  exact (fb_if (cj_eq hs0 (rfl : (0 : Int32) = nI 0)) h (fun h1 => (G112_335  _ h1)) (fun h1 => (G112_634  _ h1)))
noncomputable def F112_326  (l0 : Nat) (T : fS) : Option fR := (fKi true (fif (fch T l0 6) (F70_0 l0 3 2 T) none) (fun v0 T1 => F112_332  l0 v0 T1))
theorem G112_326 {z : Option mm_O} {T : fS} {r : fR}  (l0 : Nat) (h : F112_326  l0 T = some r) : mm_L 112 326 [.ref l0] [] (toS z T) = some (tR z r) := by
  unfold F112_326 at h
  refine Eq.trans (e112_326 ..) ?_
  exact (fb_K0i (fun _ q => fb_mo (y := 70) ow_70 q (fun q => GM70 _ _ _ (rfl : (3 : Int32) = nI 3) _ _ (rfl : (2 : Int32) = nI 2) q)) h (fun v0 T1 h2 => G112_332  _ _ _ rfl h2))
noncomputable def F112_322  (l0 : Nat) (s0 : Nat) (T : fS) : Option fR := (fif (ieq s0 4294967295) (F112_326  l0 T) (F112_634  l0 T))
theorem G112_322 {z : Option mm_O} {T : fS} {r : fR}  (l0 : Nat) (xs0 : Int32) (s0 : Nat) (hs0 : xs0 = nI s0) (h : F112_322  l0 s0 T = some r) : mm_L 112 322 [.ref l0] [.int xs0] (toS z T) = some (tR z r) := by
  unfold F112_322 at h
  refine Eq.trans (e112_322 ..) ?_
  exact (fb_if (cj_eq hs0 (by decide : (-1 : Int32) = nI 4294967295)) h (fun h1 => (G112_326  _ h1)) (fun h1 => (G112_634  _ h1)))
noncomputable def F112_316  (l0 : Nat) (T : fS) : Option fR := (fKi true (fif (fch T l0 6) (F70_0 l0 3 1 T) none) (fun v0 T1 => F112_322  l0 v0 T1))
theorem G112_316 {z : Option mm_O} {T : fS} {r : fR}  (l0 : Nat) (h : F112_316  l0 T = some r) : mm_L 112 316 [.ref l0] [] (toS z T) = some (tR z r) := by
  unfold F112_316 at h
  refine Eq.trans (e112_316 ..) ?_
  exact (fb_K0i (fun _ q => fb_mo (y := 70) ow_70 q (fun q => GM70 _ _ _ (rfl : (3 : Int32) = nI 3) _ _ (rfl : (1 : Int32) = nI 1) q)) h (fun v0 T1 h2 => G112_322  _ _ _ rfl h2))
noncomputable def F112_312  (l0 : Nat) (s0 : Nat) (T : fS) : Option fR := (fif (ieq s0 4294967295) (F112_316  l0 T) (F112_634  l0 T))
theorem G112_312 {z : Option mm_O} {T : fS} {r : fR}  (l0 : Nat) (xs0 : Int32) (s0 : Nat) (hs0 : xs0 = nI s0) (h : F112_312  l0 s0 T = some r) : mm_L 112 312 [.ref l0] [.int xs0] (toS z T) = some (tR z r) := by
  unfold F112_312 at h
  refine Eq.trans (e112_312 ..) ?_
  exact (fb_if (cj_eq hs0 (by decide : (-1 : Int32) = nI 4294967295)) h (fun h1 => (G112_316  _ h1)) (fun h1 => (G112_634  _ h1)))
noncomputable def F112_306  (l0 : Nat) (T : fS) : Option fR := (fKi true (fif (fch T l0 6) (F70_0 l0 3 0 T) none) (fun v0 T1 => F112_312  l0 v0 T1))
theorem G112_306 {z : Option mm_O} {T : fS} {r : fR}  (l0 : Nat) (h : F112_306  l0 T = some r) : mm_L 112 306 [.ref l0] [] (toS z T) = some (tR z r) := by
  unfold F112_306 at h
  refine Eq.trans (e112_306 ..) ?_
  exact (fb_K0i (fun _ q => fb_mo (y := 70) ow_70 q (fun q => GM70 _ _ _ (rfl : (3 : Int32) = nI 3) _ _ (rfl : (0 : Int32) = nI 0) q)) h (fun v0 T1 h2 => G112_312  _ _ _ rfl h2))
noncomputable def F112_303  (l0 : Nat) (s0 : Nat) (T : fS) : Option fR := (fif (ieq s0 0) (F112_306  l0 T) (F112_634  l0 T))
theorem G112_303 {z : Option mm_O} {T : fS} {r : fR}  (l0 : Nat) (xs0 : Int32) (s0 : Nat) (hs0 : xs0 = nI s0) (h : F112_303  l0 s0 T = some r) : mm_L 112 303 [.ref l0] [.int xs0] (toS z T) = some (tR z r) := by
  unfold F112_303 at h
  refine Eq.trans (e112_303 ..) ?_
  exact (fb_if (cj_eq hs0 (rfl : (0 : Int32) = nI 0)) h (fun h1 => (G112_306  _ h1)) (fun h1 => (G112_634  _ h1)))
noncomputable def F112_297  (l0 : Nat) (T : fS) : Option fR := (fKi true (fif (fch T l0 6) (F70_0 l0 1 2 T) none) (fun v0 T1 => F112_303  l0 v0 T1))
theorem G112_297 {z : Option mm_O} {T : fS} {r : fR}  (l0 : Nat) (h : F112_297  l0 T = some r) : mm_L 112 297 [.ref l0] [] (toS z T) = some (tR z r) := by
  unfold F112_297 at h
  refine Eq.trans (e112_297 ..) ?_
  exact (fb_K0i (fun _ q => fb_mo (y := 70) ow_70 q (fun q => GM70 _ _ _ (rfl : (1 : Int32) = nI 1) _ _ (rfl : (2 : Int32) = nI 2) q)) h (fun v0 T1 h2 => G112_303  _ _ _ rfl h2))
noncomputable def F112_294  (l0 : Nat) (s0 : Nat) (T : fS) : Option fR := (fif (ieq s0 0) (F112_297  l0 T) (F112_634  l0 T))
theorem G112_294 {z : Option mm_O} {T : fS} {r : fR}  (l0 : Nat) (xs0 : Int32) (s0 : Nat) (hs0 : xs0 = nI s0) (h : F112_294  l0 s0 T = some r) : mm_L 112 294 [.ref l0] [.int xs0] (toS z T) = some (tR z r) := by
  unfold F112_294 at h
  refine Eq.trans (e112_294 ..) ?_
  exact (fb_if (cj_eq hs0 (rfl : (0 : Int32) = nI 0)) h (fun h1 => (G112_297  _ h1)) (fun h1 => (G112_634  _ h1)))
noncomputable def F112_288  (l0 : Nat) (T : fS) : Option fR := (fKi true (fif (fch T l0 6) (F70_0 l0 1 1 T) none) (fun v0 T1 => F112_294  l0 v0 T1))
theorem G112_288 {z : Option mm_O} {T : fS} {r : fR}  (l0 : Nat) (h : F112_288  l0 T = some r) : mm_L 112 288 [.ref l0] [] (toS z T) = some (tR z r) := by
  unfold F112_288 at h
  refine Eq.trans (e112_288 ..) ?_
  exact (fb_K0i (fun _ q => fb_mo (y := 70) ow_70 q (fun q => GM70 _ _ _ (rfl : (1 : Int32) = nI 1) _ _ (rfl : (1 : Int32) = nI 1) q)) h (fun v0 T1 h2 => G112_294  _ _ _ rfl h2))
noncomputable def F112_284  (l0 : Nat) (s0 : Nat) (T : fS) : Option fR := (fif (ieq s0 2) (F112_288  l0 T) (F112_634  l0 T))
theorem G112_284 {z : Option mm_O} {T : fS} {r : fR}  (l0 : Nat) (xs0 : Int32) (s0 : Nat) (hs0 : xs0 = nI s0) (h : F112_284  l0 s0 T = some r) : mm_L 112 284 [.ref l0] [.int xs0] (toS z T) = some (tR z r) := by
  unfold F112_284 at h
  refine Eq.trans (e112_284 ..) ?_
  exact (fb_if (cj_eq hs0 (rfl : (2 : Int32) = nI 2)) h (fun h1 => (G112_288  _ h1)) (fun h1 => (G112_634  _ h1)))
noncomputable def F112_278  (l0 : Nat) (T : fS) : Option fR := (fKi true (fif (fch T l0 6) (F70_0 l0 1 0 T) none) (fun v0 T1 => F112_284  l0 v0 T1))
theorem G112_278 {z : Option mm_O} {T : fS} {r : fR}  (l0 : Nat) (h : F112_278  l0 T = some r) : mm_L 112 278 [.ref l0] [] (toS z T) = some (tR z r) := by
  unfold F112_278 at h
  refine Eq.trans (e112_278 ..) ?_
  exact (fb_K0i (fun _ q => fb_mo (y := 70) ow_70 q (fun q => GM70 _ _ _ (rfl : (1 : Int32) = nI 1) _ _ (rfl : (0 : Int32) = nI 0) q)) h (fun v0 T1 h2 => G112_284  _ _ _ rfl h2))
noncomputable def F112_274  (l0 : Nat) (s0 : Nat) (T : fS) : Option fR := (fif (ieq s0 1) (F112_278  l0 T) (F112_634  l0 T))
theorem G112_274 {z : Option mm_O} {T : fS} {r : fR}  (l0 : Nat) (xs0 : Int32) (s0 : Nat) (hs0 : xs0 = nI s0) (h : F112_274  l0 s0 T = some r) : mm_L 112 274 [.ref l0] [.int xs0] (toS z T) = some (tR z r) := by
  unfold F112_274 at h
  refine Eq.trans (e112_274 ..) ?_
  exact (fb_if (cj_eq hs0 (rfl : (1 : Int32) = nI 1)) h (fun h1 => (G112_278  _ h1)) (fun h1 => (G112_634  _ h1)))
noncomputable def F112_268  (l0 : Nat) (T : fS) : Option fR := (fKi true (fif (fch T l0 6) (F70_0 l0 0 2 T) none) (fun v0 T1 => F112_274  l0 v0 T1))
theorem G112_268 {z : Option mm_O} {T : fS} {r : fR}  (l0 : Nat) (h : F112_268  l0 T = some r) : mm_L 112 268 [.ref l0] [] (toS z T) = some (tR z r) := by
  unfold F112_268 at h
  refine Eq.trans (e112_268 ..) ?_
  exact (fb_K0i (fun _ q => fb_mo (y := 70) ow_70 q (fun q => GM70 _ _ _ (rfl : (0 : Int32) = nI 0) _ _ (rfl : (2 : Int32) = nI 2) q)) h (fun v0 T1 h2 => G112_274  _ _ _ rfl h2))
noncomputable def F112_265  (l0 : Nat) (s0 : Nat) (T : fS) : Option fR := (fif (ieq s0 0) (F112_268  l0 T) (F112_634  l0 T))
theorem G112_265 {z : Option mm_O} {T : fS} {r : fR}  (l0 : Nat) (xs0 : Int32) (s0 : Nat) (hs0 : xs0 = nI s0) (h : F112_265  l0 s0 T = some r) : mm_L 112 265 [.ref l0] [.int xs0] (toS z T) = some (tR z r) := by
  unfold F112_265 at h
  refine Eq.trans (e112_265 ..) ?_
  exact (fb_if (cj_eq hs0 (rfl : (0 : Int32) = nI 0)) h (fun h1 => (G112_268  _ h1)) (fun h1 => (G112_634  _ h1)))
noncomputable def F112_259  (l0 : Nat) (T : fS) : Option fR := (fKi true (fif (fch T l0 6) (F70_0 l0 0 1 T) none) (fun v0 T1 => F112_265  l0 v0 T1))
theorem G112_259 {z : Option mm_O} {T : fS} {r : fR}  (l0 : Nat) (h : F112_259  l0 T = some r) : mm_L 112 259 [.ref l0] [] (toS z T) = some (tR z r) := by
  unfold F112_259 at h
  refine Eq.trans (e112_259 ..) ?_
  exact (fb_K0i (fun _ q => fb_mo (y := 70) ow_70 q (fun q => GM70 _ _ _ (rfl : (0 : Int32) = nI 0) _ _ (rfl : (1 : Int32) = nI 1) q)) h (fun v0 T1 h2 => G112_265  _ _ _ rfl h2))
noncomputable def F112_256  (l0 : Nat) (s0 : Nat) (T : fS) : Option fR := (fif (ieq s0 0) (F112_259  l0 T) (F112_634  l0 T))
theorem G112_256 {z : Option mm_O} {T : fS} {r : fR}  (l0 : Nat) (xs0 : Int32) (s0 : Nat) (hs0 : xs0 = nI s0) (h : F112_256  l0 s0 T = some r) : mm_L 112 256 [.ref l0] [.int xs0] (toS z T) = some (tR z r) := by
  unfold F112_256 at h
  refine Eq.trans (e112_256 ..) ?_
  exact (fb_if (cj_eq hs0 (rfl : (0 : Int32) = nI 0)) h (fun h1 => (G112_259  _ h1)) (fun h1 => (G112_634  _ h1)))
noncomputable def F112_250  (l0 : Nat) (T : fS) : Option fR := (fKi true (fif (fch T l0 6) (F70_0 l0 0 0 T) none) (fun v0 T1 => F112_256  l0 v0 T1))
theorem G112_250 {z : Option mm_O} {T : fS} {r : fR}  (l0 : Nat) (h : F112_250  l0 T = some r) : mm_L 112 250 [.ref l0] [] (toS z T) = some (tR z r) := by
  unfold F112_250 at h
  refine Eq.trans (e112_250 ..) ?_
  exact (fb_K0i (fun _ q => fb_mo (y := 70) ow_70 q (fun q => GM70 _ _ _ (rfl : (0 : Int32) = nI 0) _ _ (rfl : (0 : Int32) = nI 0) q)) h (fun v0 T1 h2 => G112_256  _ _ _ rfl h2))
noncomputable def F112_244  (l0 : Nat) (s0 : Nat) (T : fS) : Option fR := (fif (ieq s0 3) (F112_250  l0 T) (F112_248  l0 T))
theorem G112_244 {z : Option mm_O} {T : fS} {r : fR}  (l0 : Nat) (xs0 : Int32) (s0 : Nat) (hs0 : xs0 = nI s0) (h : F112_244  l0 s0 T = some r) : mm_L 112 244 [.ref l0] [.int xs0] (toS z T) = some (tR z r) := by
  unfold F112_244 at h
  refine Eq.trans (e112_244 ..) ?_
  exact (fb_if (cj_eq hs0 (rfl : (3 : Int32) = nI 3)) h (fun h1 => (G112_250  _ h1)) (fun h1 => (G112_248  _ h1)))
noncomputable def F112_236  (l0 : Nat) (T : fS) : Option fR := (fKi true (fif (fch T l0 6) (F69_0 l0 38 6 T) none) (fun v0 T1 => F112_244  l0 v0 T1))
theorem G112_236 {z : Option mm_O} {T : fS} {r : fR}  (l0 : Nat) (h : F112_236  l0 T = some r) : mm_L 112 236 [.ref l0] [] (toS z T) = some (tR z r) := by
  unfold F112_236 at h
  refine Eq.trans (e112_236 ..) ?_
  exact (fb_K0i (fun _ q => fb_mo (y := 69) ow_69 q (fun q => GM69 _ _ _ (rfl : (38 : Int32) = nI 38) _ _ (rfl : (6 : Int32) = nI 6) q)) h (fun v0 T1 h2 => G112_244  _ _ _ rfl h2))
noncomputable def F112_232  (l0 : Nat) (s0 : Nat) (T : fS) : Option fR := (fif (ieq s0 4) (F112_236  l0 T) (F112_248  l0 T))
theorem G112_232 {z : Option mm_O} {T : fS} {r : fR}  (l0 : Nat) (xs0 : Int32) (s0 : Nat) (hs0 : xs0 = nI s0) (h : F112_232  l0 s0 T = some r) : mm_L 112 232 [.ref l0] [.int xs0] (toS z T) = some (tR z r) := by
  unfold F112_232 at h
  refine Eq.trans (e112_232 ..) ?_
  exact (fb_if (cj_eq hs0 (rfl : (4 : Int32) = nI 4)) h (fun h1 => (G112_236  _ h1)) (fun h1 => (G112_248  _ h1)))
noncomputable def F112_223  (l0 : Nat) (T : fS) : Option fR := (fKi true (fif (fch T l0 6) (F38_0 l0 3 6 6 T) none) (fun v0 T1 => F112_232  l0 v0 T1))
theorem G112_223 {z : Option mm_O} {T : fS} {r : fR}  (l0 : Nat) (h : F112_223  l0 T = some r) : mm_L 112 223 [.ref l0] [] (toS z T) = some (tR z r) := by
  unfold F112_223 at h
  refine Eq.trans (e112_223 ..) ?_
  exact (fb_K0i (fun _ q => fb_mo (y := 38) ow_38 q (fun q => GM38 _ _ _ (rfl : (3 : Int32) = nI 3) _ _ (rfl : (6 : Int32) = nI 6) _ _ (rfl : (6 : Int32) = nI 6) q)) h (fun v0 T1 h2 => G112_232  _ _ _ rfl h2))
noncomputable def F112_219  (l0 : Nat) (s0 : Nat) (T : fS) : Option fR := (fif (ieq s0 4294967295) (F112_223  l0 T) (F112_248  l0 T))
theorem G112_219 {z : Option mm_O} {T : fS} {r : fR}  (l0 : Nat) (xs0 : Int32) (s0 : Nat) (hs0 : xs0 = nI s0) (h : F112_219  l0 s0 T = some r) : mm_L 112 219 [.ref l0] [.int xs0] (toS z T) = some (tR z r) := by
  unfold F112_219 at h
  refine Eq.trans (e112_219 ..) ?_
  exact (fb_if (cj_eq hs0 (by decide : (-1 : Int32) = nI 4294967295)) h (fun h1 => (G112_223  _ h1)) (fun h1 => (G112_248  _ h1)))
noncomputable def F112_211  (l0 : Nat) (T : fS) : Option fR := (fKi true (fif (fch T l0 6) (F69_0 l0 38 6 T) none) (fun v0 T1 => F112_219  l0 v0 T1))
theorem G112_211 {z : Option mm_O} {T : fS} {r : fR}  (l0 : Nat) (h : F112_211  l0 T = some r) : mm_L 112 211 [.ref l0] [] (toS z T) = some (tR z r) := by
  unfold F112_211 at h
  refine Eq.trans (e112_211 ..) ?_
  exact (fb_K0i (fun _ q => fb_mo (y := 69) ow_69 q (fun q => GM69 _ _ _ (rfl : (38 : Int32) = nI 38) _ _ (rfl : (6 : Int32) = nI 6) q)) h (fun v0 T1 h2 => G112_219  _ _ _ rfl h2))
noncomputable def F112_207  (l0 : Nat) (s0 : Nat) (T : fS) : Option fR := (fif (ieq s0 4294967295) (F112_211  l0 T) (F112_248  l0 T))
theorem G112_207 {z : Option mm_O} {T : fS} {r : fR}  (l0 : Nat) (xs0 : Int32) (s0 : Nat) (hs0 : xs0 = nI s0) (h : F112_207  l0 s0 T = some r) : mm_L 112 207 [.ref l0] [.int xs0] (toS z T) = some (tR z r) := by
  unfold F112_207 at h
  refine Eq.trans (e112_207 ..) ?_
  exact (fb_if (cj_eq hs0 (by decide : (-1 : Int32) = nI 4294967295)) h (fun h1 => (G112_211  _ h1)) (fun h1 => (G112_248  _ h1)))
noncomputable def F112_200  (l0 : Nat) (T : fS) : Option fR := (fKi true (fif (fch T l0 6) (F69_0 l0 33 4 T) none) (fun v0 T1 => F112_207  l0 v0 T1))
theorem G112_200 {z : Option mm_O} {T : fS} {r : fR}  (l0 : Nat) (h : F112_200  l0 T = some r) : mm_L 112 200 [.ref l0] [] (toS z T) = some (tR z r) := by
  unfold F112_200 at h
  refine Eq.trans (e112_200 ..) ?_
  exact (fb_K0i (fun _ q => fb_mo (y := 69) ow_69 q (fun q => GM69 _ _ _ (rfl : (33 : Int32) = nI 33) _ _ (rfl : (4 : Int32) = nI 4) q)) h (fun v0 T1 h2 => G112_207  _ _ _ rfl h2))
noncomputable def F112_196  (l0 : Nat) (s0 : Nat) (T : fS) : Option fR := (fif (ieq s0 4294967295) (F112_200  l0 T) (F112_248  l0 T))
theorem G112_196 {z : Option mm_O} {T : fS} {r : fR}  (l0 : Nat) (xs0 : Int32) (s0 : Nat) (hs0 : xs0 = nI s0) (h : F112_196  l0 s0 T = some r) : mm_L 112 196 [.ref l0] [.int xs0] (toS z T) = some (tR z r) := by
  unfold F112_196 at h
  refine Eq.trans (e112_196 ..) ?_
  exact (fb_if (cj_eq hs0 (by decide : (-1 : Int32) = nI 4294967295)) h (fun h1 => (G112_200  _ h1)) (fun h1 => (G112_248  _ h1)))
noncomputable def F112_189  (l0 : Nat) (T : fS) : Option fR := (fKi true (fif (fch T l0 6) (F69_0 l0 7 5 T) none) (fun v0 T1 => F112_196  l0 v0 T1))
theorem G112_189 {z : Option mm_O} {T : fS} {r : fR}  (l0 : Nat) (h : F112_189  l0 T = some r) : mm_L 112 189 [.ref l0] [] (toS z T) = some (tR z r) := by
  unfold F112_189 at h
  refine Eq.trans (e112_189 ..) ?_
  exact (fb_K0i (fun _ q => fb_mo (y := 69) ow_69 q (fun q => GM69 _ _ _ (rfl : (7 : Int32) = nI 7) _ _ (rfl : (5 : Int32) = nI 5) q)) h (fun v0 T1 h2 => G112_196  _ _ _ rfl h2))
noncomputable def F112_185  (l0 : Nat) (s0 : Nat) (T : fS) : Option fR := (fif (ieq s0 1) (F112_189  l0 T) (F112_248  l0 T))
theorem G112_185 {z : Option mm_O} {T : fS} {r : fR}  (l0 : Nat) (xs0 : Int32) (s0 : Nat) (hs0 : xs0 = nI s0) (h : F112_185  l0 s0 T = some r) : mm_L 112 185 [.ref l0] [.int xs0] (toS z T) = some (tR z r) := by
  unfold F112_185 at h
  refine Eq.trans (e112_185 ..) ?_
  exact (fb_if (cj_eq hs0 (rfl : (1 : Int32) = nI 1)) h (fun h1 => (G112_189  _ h1)) (fun h1 => (G112_248  _ h1)))
noncomputable def F112_178  (l0 : Nat) (T : fS) : Option fR := (fKi true (fif (fch T l0 6) (F69_0 l0 27 4 T) none) (fun v0 T1 => F112_185  l0 v0 T1))
theorem G112_178 {z : Option mm_O} {T : fS} {r : fR}  (l0 : Nat) (h : F112_178  l0 T = some r) : mm_L 112 178 [.ref l0] [] (toS z T) = some (tR z r) := by
  unfold F112_178 at h
  refine Eq.trans (e112_178 ..) ?_
  exact (fb_K0i (fun _ q => fb_mo (y := 69) ow_69 q (fun q => GM69 _ _ _ (rfl : (27 : Int32) = nI 27) _ _ (rfl : (4 : Int32) = nI 4) q)) h (fun v0 T1 h2 => G112_185  _ _ _ rfl h2))
noncomputable def F112_175  (l0 : Nat) (s0 : Nat) (T : fS) : Option fR := (fif (ieq s0 0) (F112_178  l0 T) (F112_248  l0 T))
theorem G112_175 {z : Option mm_O} {T : fS} {r : fR}  (l0 : Nat) (xs0 : Int32) (s0 : Nat) (hs0 : xs0 = nI s0) (h : F112_175  l0 s0 T = some r) : mm_L 112 175 [.ref l0] [.int xs0] (toS z T) = some (tR z r) := by
  unfold F112_175 at h
  refine Eq.trans (e112_175 ..) ?_
  exact (fb_if (cj_eq hs0 (rfl : (0 : Int32) = nI 0)) h (fun h1 => (G112_178  _ h1)) (fun h1 => (G112_248  _ h1)))
noncomputable def F112_168  (l0 : Nat) (T : fS) : Option fR := (fKi true (fif (fch T l0 6) (F69_0 l0 8 4 T) none) (fun v0 T1 => F112_175  l0 v0 T1))
theorem G112_168 {z : Option mm_O} {T : fS} {r : fR}  (l0 : Nat) (h : F112_168  l0 T = some r) : mm_L 112 168 [.ref l0] [] (toS z T) = some (tR z r) := by
  unfold F112_168 at h
  refine Eq.trans (e112_168 ..) ?_
  exact (fb_K0i (fun _ q => fb_mo (y := 69) ow_69 q (fun q => GM69 _ _ _ (rfl : (8 : Int32) = nI 8) _ _ (rfl : (4 : Int32) = nI 4) q)) h (fun v0 T1 h2 => G112_175  _ _ _ rfl h2))
noncomputable def F112_163  (l0 : Nat) (s0 : Nat) (T : fS) : Option fR := (fif (ieq s0 4294967224) (F112_168  l0 T) (F112_248  l0 T))
theorem G112_163 {z : Option mm_O} {T : fS} {r : fR}  (l0 : Nat) (xs0 : Int32) (s0 : Nat) (hs0 : xs0 = nI s0) (h : F112_163  l0 s0 T = some r) : mm_L 112 163 [.ref l0] [.int xs0] (toS z T) = some (tR z r) := by
  unfold F112_163 at h
  refine Eq.trans (e112_163 ..) ?_
  exact (fb_if (cj_eq hs0 (by decide : (-72 : Int32) = nI 4294967224)) h (fun h1 => (G112_168  _ h1)) (fun h1 => (G112_248  _ h1)))
noncomputable def F112_154  (l0 : Nat) (T : fS) : Option fR := (fKi true (F106_0 l0 4 3 3 2 0 T) (fun v0 T1 => F112_163  l0 v0 T1))
theorem G112_154 {z : Option mm_O} {T : fS} {r : fR}  (l0 : Nat) (h : F112_154  l0 T = some r) : mm_L 112 154 [.ref l0] [] (toS z T) = some (tR z r) := by
  unfold F112_154 at h
  refine Eq.trans (e112_154 ..) ?_
  exact (fb_K0i (fun _ q => GM106 _ _ _ (rfl : (4 : Int32) = nI 4) _ _ (rfl : (3 : Int32) = nI 3) _ _ (rfl : (3 : Int32) = nI 3) _ _ (rfl : (2 : Int32) = nI 2) _ _ (rfl : (0 : Int32) = nI 0) q) h (fun v0 T1 h2 => G112_163  _ _ _ rfl h2))
noncomputable def F112_150  (l0 : Nat) (s0 : Nat) (T : fS) : Option fR := (fif (ieq s0 4294967295) (F112_154  l0 T) (F112_248  l0 T))
theorem G112_150 {z : Option mm_O} {T : fS} {r : fR}  (l0 : Nat) (xs0 : Int32) (s0 : Nat) (hs0 : xs0 = nI s0) (h : F112_150  l0 s0 T = some r) : mm_L 112 150 [.ref l0] [.int xs0] (toS z T) = some (tR z r) := by
  unfold F112_150 at h
  refine Eq.trans (e112_150 ..) ?_
  exact (fb_if (cj_eq hs0 (by decide : (-1 : Int32) = nI 4294967295)) h (fun h1 => (G112_154  _ h1)) (fun h1 => (G112_248  _ h1)))
noncomputable def F112_144  (l0 : Nat) (T : fS) : Option fR := (fKi true (fif (fch T l0 6) (F39_0 l0 0 1 T) none) (fun v0 T1 => F112_150  l0 v0 T1))
theorem G112_144 {z : Option mm_O} {T : fS} {r : fR}  (l0 : Nat) (h : F112_144  l0 T = some r) : mm_L 112 144 [.ref l0] [] (toS z T) = some (tR z r) := by
  unfold F112_144 at h
  refine Eq.trans (e112_144 ..) ?_
  exact (fb_K0i (fun _ q => fb_mo (y := 39) ow_39 q (fun q => GM39 _ _ _ (rfl : (0 : Int32) = nI 0) _ _ (rfl : (1 : Int32) = nI 1) q)) h (fun v0 T1 h2 => G112_150  _ _ _ rfl h2))
noncomputable def F112_140  (l0 : Nat) (s0 : Nat) (T : fS) : Option fR := (fif (ieq s0 2) (F112_144  l0 T) (F112_248  l0 T))
theorem G112_140 {z : Option mm_O} {T : fS} {r : fR}  (l0 : Nat) (xs0 : Int32) (s0 : Nat) (hs0 : xs0 = nI s0) (h : F112_140  l0 s0 T = some r) : mm_L 112 140 [.ref l0] [.int xs0] (toS z T) = some (tR z r) := by
  unfold F112_140 at h
  refine Eq.trans (e112_140 ..) ?_
  exact (fb_if (cj_eq hs0 (rfl : (2 : Int32) = nI 2)) h (fun h1 => (G112_144  _ h1)) (fun h1 => (G112_248  _ h1)))
noncomputable def F112_134  (l0 : Nat) (T : fS) : Option fR := (fKi true (fif (fch T l0 6) (F39_0 l0 5 1 T) none) (fun v0 T1 => F112_140  l0 v0 T1))
theorem G112_134 {z : Option mm_O} {T : fS} {r : fR}  (l0 : Nat) (h : F112_134  l0 T = some r) : mm_L 112 134 [.ref l0] [] (toS z T) = some (tR z r) := by
  unfold F112_134 at h
  refine Eq.trans (e112_134 ..) ?_
  exact (fb_K0i (fun _ q => fb_mo (y := 39) ow_39 q (fun q => GM39 _ _ _ (rfl : (5 : Int32) = nI 5) _ _ (rfl : (1 : Int32) = nI 1) q)) h (fun v0 T1 h2 => G112_140  _ _ _ rfl h2))
noncomputable def F112_130  (l0 : Nat) (s0 : Nat) (T : fS) : Option fR := (fif (ieq s0 3) (F112_134  l0 T) (F112_248  l0 T))
theorem G112_130 {z : Option mm_O} {T : fS} {r : fR}  (l0 : Nat) (xs0 : Int32) (s0 : Nat) (hs0 : xs0 = nI s0) (h : F112_130  l0 s0 T = some r) : mm_L 112 130 [.ref l0] [.int xs0] (toS z T) = some (tR z r) := by
  unfold F112_130 at h
  refine Eq.trans (e112_130 ..) ?_
  exact (fb_if (cj_eq hs0 (rfl : (3 : Int32) = nI 3)) h (fun h1 => (G112_134  _ h1)) (fun h1 => (G112_248  _ h1)))
noncomputable def F112_122  (l0 : Nat) (T : fS) : Option fR := (fKi true (fif (fch T l0 6) (F38_0 l0 2 1 6 T) none) (fun v0 T1 => F112_130  l0 v0 T1))
theorem G112_122 {z : Option mm_O} {T : fS} {r : fR}  (l0 : Nat) (h : F112_122  l0 T = some r) : mm_L 112 122 [.ref l0] [] (toS z T) = some (tR z r) := by
  unfold F112_122 at h
  refine Eq.trans (e112_122 ..) ?_
  exact (fb_K0i (fun _ q => fb_mo (y := 38) ow_38 q (fun q => GM38 _ _ _ (rfl : (2 : Int32) = nI 2) _ _ (rfl : (1 : Int32) = nI 1) _ _ (rfl : (6 : Int32) = nI 6) q)) h (fun v0 T1 h2 => G112_130  _ _ _ rfl h2))
noncomputable def F112_117  (l0 : Nat) (s0 : Nat) (T : fS) : Option fR := (fif (ieq s0 4294967223) (F112_122  l0 T) (F112_248  l0 T))
theorem G112_117 {z : Option mm_O} {T : fS} {r : fR}  (l0 : Nat) (xs0 : Int32) (s0 : Nat) (hs0 : xs0 = nI s0) (h : F112_117  l0 s0 T = some r) : mm_L 112 117 [.ref l0] [.int xs0] (toS z T) = some (tR z r) := by
  unfold F112_117 at h
  refine Eq.trans (e112_117 ..) ?_
  exact (fb_if (cj_eq hs0 (by decide : (-73 : Int32) = nI 4294967223)) h (fun h1 => (G112_122  _ h1)) (fun h1 => (G112_248  _ h1)))
noncomputable def F112_108  (l0 : Nat) (T : fS) : Option fR := (fKi true (F106_0 l0 4 1 0 1 0 T) (fun v0 T1 => F112_117  l0 v0 T1))
theorem G112_108 {z : Option mm_O} {T : fS} {r : fR}  (l0 : Nat) (h : F112_108  l0 T = some r) : mm_L 112 108 [.ref l0] [] (toS z T) = some (tR z r) := by
  unfold F112_108 at h
  refine Eq.trans (e112_108 ..) ?_
  exact (fb_K0i (fun _ q => GM106 _ _ _ (rfl : (4 : Int32) = nI 4) _ _ (rfl : (1 : Int32) = nI 1) _ _ (rfl : (0 : Int32) = nI 0) _ _ (rfl : (1 : Int32) = nI 1) _ _ (rfl : (0 : Int32) = nI 0) q) h (fun v0 T1 h2 => G112_117  _ _ _ rfl h2))
noncomputable def F112_104  (l0 : Nat) (s0 : Nat) (T : fS) : Option fR := (fif (ieq s0 4294967295) (F112_108  l0 T) (F112_248  l0 T))
theorem G112_104 {z : Option mm_O} {T : fS} {r : fR}  (l0 : Nat) (xs0 : Int32) (s0 : Nat) (hs0 : xs0 = nI s0) (h : F112_104  l0 s0 T = some r) : mm_L 112 104 [.ref l0] [.int xs0] (toS z T) = some (tR z r) := by
  unfold F112_104 at h
  refine Eq.trans (e112_104 ..) ?_
  exact (fb_if (cj_eq hs0 (by decide : (-1 : Int32) = nI 4294967295)) h (fun h1 => (G112_108  _ h1)) (fun h1 => (G112_248  _ h1)))
noncomputable def F112_98  (l0 : Nat) (T : fS) : Option fR := (fKi true (fif (fch T l0 6) (F39_0 l0 5 0 T) none) (fun v0 T1 => F112_104  l0 v0 T1))
theorem G112_98 {z : Option mm_O} {T : fS} {r : fR}  (l0 : Nat) (h : F112_98  l0 T = some r) : mm_L 112 98 [.ref l0] [] (toS z T) = some (tR z r) := by
  unfold F112_98 at h
  refine Eq.trans (e112_98 ..) ?_
  exact (fb_K0i (fun _ q => fb_mo (y := 39) ow_39 q (fun q => GM39 _ _ _ (rfl : (5 : Int32) = nI 5) _ _ (rfl : (0 : Int32) = nI 0) q)) h (fun v0 T1 h2 => G112_104  _ _ _ rfl h2))
noncomputable def F112_94  (l0 : Nat) (s0 : Nat) (T : fS) : Option fR := (fif (ieq s0 1) (F112_98  l0 T) (F112_248  l0 T))
theorem G112_94 {z : Option mm_O} {T : fS} {r : fR}  (l0 : Nat) (xs0 : Int32) (s0 : Nat) (hs0 : xs0 = nI s0) (h : F112_94  l0 s0 T = some r) : mm_L 112 94 [.ref l0] [.int xs0] (toS z T) = some (tR z r) := by
  unfold F112_94 at h
  refine Eq.trans (e112_94 ..) ?_
  exact (fb_if (cj_eq hs0 (rfl : (1 : Int32) = nI 1)) h (fun h1 => (G112_98  _ h1)) (fun h1 => (G112_248  _ h1)))
noncomputable def F112_88  (l0 : Nat) (T : fS) : Option fR := (fKi true (fif (fch T l0 6) (F39_0 l0 4 0 T) none) (fun v0 T1 => F112_94  l0 v0 T1))
theorem G112_88 {z : Option mm_O} {T : fS} {r : fR}  (l0 : Nat) (h : F112_88  l0 T = some r) : mm_L 112 88 [.ref l0] [] (toS z T) = some (tR z r) := by
  unfold F112_88 at h
  refine Eq.trans (e112_88 ..) ?_
  exact (fb_K0i (fun _ q => fb_mo (y := 39) ow_39 q (fun q => GM39 _ _ _ (rfl : (4 : Int32) = nI 4) _ _ (rfl : (0 : Int32) = nI 0) q)) h (fun v0 T1 h2 => G112_94  _ _ _ rfl h2))
noncomputable def F112_84  (l0 : Nat) (s0 : Nat) (T : fS) : Option fR := (fif (ieq s0 1) (F112_88  l0 T) (F112_248  l0 T))
theorem G112_84 {z : Option mm_O} {T : fS} {r : fR}  (l0 : Nat) (xs0 : Int32) (s0 : Nat) (hs0 : xs0 = nI s0) (h : F112_84  l0 s0 T = some r) : mm_L 112 84 [.ref l0] [.int xs0] (toS z T) = some (tR z r) := by
  unfold F112_84 at h
  refine Eq.trans (e112_84 ..) ?_
  exact (fb_if (cj_eq hs0 (rfl : (1 : Int32) = nI 1)) h (fun h1 => (G112_88  _ h1)) (fun h1 => (G112_248  _ h1)))
noncomputable def F112_78  (l0 : Nat) (T : fS) : Option fR := (fKi true (fif (fch T l0 6) (F39_0 l0 2 0 T) none) (fun v0 T1 => F112_84  l0 v0 T1))
theorem G112_78 {z : Option mm_O} {T : fS} {r : fR}  (l0 : Nat) (h : F112_78  l0 T = some r) : mm_L 112 78 [.ref l0] [] (toS z T) = some (tR z r) := by
  unfold F112_78 at h
  refine Eq.trans (e112_78 ..) ?_
  exact (fb_K0i (fun _ q => fb_mo (y := 39) ow_39 q (fun q => GM39 _ _ _ (rfl : (2 : Int32) = nI 2) _ _ (rfl : (0 : Int32) = nI 0) q)) h (fun v0 T1 h2 => G112_84  _ _ _ rfl h2))
noncomputable def F112_75  (l0 : Nat) (s0 : Nat) (T : fS) : Option fR := (fif (ieq s0 0) (F112_78  l0 T) (F112_248  l0 T))
theorem G112_75 {z : Option mm_O} {T : fS} {r : fR}  (l0 : Nat) (xs0 : Int32) (s0 : Nat) (hs0 : xs0 = nI s0) (h : F112_75  l0 s0 T = some r) : mm_L 112 75 [.ref l0] [.int xs0] (toS z T) = some (tR z r) := by
  unfold F112_75 at h
  refine Eq.trans (e112_75 ..) ?_
  exact (fb_if (cj_eq hs0 (rfl : (0 : Int32) = nI 0)) h (fun h1 => (G112_78  _ h1)) (fun h1 => (G112_248  _ h1)))
noncomputable def F112_69  (l0 : Nat) (T : fS) : Option fR := (fKi true (fif (fch T l0 6) (F39_0 l0 1 0 T) none) (fun v0 T1 => F112_75  l0 v0 T1))
theorem G112_69 {z : Option mm_O} {T : fS} {r : fR}  (l0 : Nat) (h : F112_69  l0 T = some r) : mm_L 112 69 [.ref l0] [] (toS z T) = some (tR z r) := by
  unfold F112_69 at h
  refine Eq.trans (e112_69 ..) ?_
  exact (fb_K0i (fun _ q => fb_mo (y := 39) ow_39 q (fun q => GM39 _ _ _ (rfl : (1 : Int32) = nI 1) _ _ (rfl : (0 : Int32) = nI 0) q)) h (fun v0 T1 h2 => G112_75  _ _ _ rfl h2))
noncomputable def F112_65  (l0 : Nat) (s0 : Nat) (T : fS) : Option fR := (fif (ieq s0 2) (F112_69  l0 T) (F112_248  l0 T))
theorem G112_65 {z : Option mm_O} {T : fS} {r : fR}  (l0 : Nat) (xs0 : Int32) (s0 : Nat) (hs0 : xs0 = nI s0) (h : F112_65  l0 s0 T = some r) : mm_L 112 65 [.ref l0] [.int xs0] (toS z T) = some (tR z r) := by
  unfold F112_65 at h
  refine Eq.trans (e112_65 ..) ?_
  exact (fb_if (cj_eq hs0 (rfl : (2 : Int32) = nI 2)) h (fun h1 => (G112_69  _ h1)) (fun h1 => (G112_248  _ h1)))
noncomputable def F112_58  (l0 : Nat) (T : fS) : Option fR := (fKi true (fif (fch T l0 6) (F38_0 l0 1 2 3 T) none) (fun v0 T1 => F112_65  l0 v0 T1))
theorem G112_58 {z : Option mm_O} {T : fS} {r : fR}  (l0 : Nat) (h : F112_58  l0 T = some r) : mm_L 112 58 [.ref l0] [] (toS z T) = some (tR z r) := by
  unfold F112_58 at h
  refine Eq.trans (e112_58 ..) ?_
  exact (fb_K0i (fun _ q => fb_mo (y := 38) ow_38 q (fun q => GM38 _ _ _ (rfl : (1 : Int32) = nI 1) _ _ (rfl : (2 : Int32) = nI 2) _ _ (rfl : (3 : Int32) = nI 3) q)) h (fun v0 T1 h2 => G112_65  _ _ _ rfl h2))
noncomputable def F112_54  (l0 : Nat) (s0 : Nat) (T : fS) : Option fR := (fif (ieq s0 4294967295) (F112_58  l0 T) (F112_248  l0 T))
theorem G112_54 {z : Option mm_O} {T : fS} {r : fR}  (l0 : Nat) (xs0 : Int32) (s0 : Nat) (hs0 : xs0 = nI s0) (h : F112_54  l0 s0 T = some r) : mm_L 112 54 [.ref l0] [.int xs0] (toS z T) = some (tR z r) := by
  unfold F112_54 at h
  refine Eq.trans (e112_54 ..) ?_
  exact (fb_if (cj_eq hs0 (by decide : (-1 : Int32) = nI 4294967295)) h (fun h1 => (G112_58  _ h1)) (fun h1 => (G112_248  _ h1)))
noncomputable def F112_48  (l0 : Nat) (T : fS) : Option fR := (fKi true (fif (fch T l0 6) (F39_0 l0 4 0 T) none) (fun v0 T1 => F112_54  l0 v0 T1))
theorem G112_48 {z : Option mm_O} {T : fS} {r : fR}  (l0 : Nat) (h : F112_48  l0 T = some r) : mm_L 112 48 [.ref l0] [] (toS z T) = some (tR z r) := by
  unfold F112_48 at h
  refine Eq.trans (e112_48 ..) ?_
  exact (fb_K0i (fun _ q => fb_mo (y := 39) ow_39 q (fun q => GM39 _ _ _ (rfl : (4 : Int32) = nI 4) _ _ (rfl : (0 : Int32) = nI 0) q)) h (fun v0 T1 h2 => G112_54  _ _ _ rfl h2))
noncomputable def F112_44  (l0 : Nat) (s0 : Nat) (T : fS) : Option fR := (fif (ieq s0 4294967295) (F112_48  l0 T) (F112_248  l0 T))
theorem G112_44 {z : Option mm_O} {T : fS} {r : fR}  (l0 : Nat) (xs0 : Int32) (s0 : Nat) (hs0 : xs0 = nI s0) (h : F112_44  l0 s0 T = some r) : mm_L 112 44 [.ref l0] [.int xs0] (toS z T) = some (tR z r) := by
  unfold F112_44 at h
  refine Eq.trans (e112_44 ..) ?_
  exact (fb_if (cj_eq hs0 (by decide : (-1 : Int32) = nI 4294967295)) h (fun h1 => (G112_48  _ h1)) (fun h1 => (G112_248  _ h1)))
noncomputable def F112_38  (l0 : Nat) (T : fS) : Option fR := (fKi true (fif (fch T l0 6) (F39_0 l0 3 0 T) none) (fun v0 T1 => F112_44  l0 v0 T1))
theorem G112_38 {z : Option mm_O} {T : fS} {r : fR}  (l0 : Nat) (h : F112_38  l0 T = some r) : mm_L 112 38 [.ref l0] [] (toS z T) = some (tR z r) := by
  unfold F112_38 at h
  refine Eq.trans (e112_38 ..) ?_
  exact (fb_K0i (fun _ q => fb_mo (y := 39) ow_39 q (fun q => GM39 _ _ _ (rfl : (3 : Int32) = nI 3) _ _ (rfl : (0 : Int32) = nI 0) q)) h (fun v0 T1 h2 => G112_44  _ _ _ rfl h2))
noncomputable def F112_35  (l0 : Nat) (s0 : Nat) (T : fS) : Option fR := (fif (ieq s0 0) (F112_38  l0 T) (F112_248  l0 T))
theorem G112_35 {z : Option mm_O} {T : fS} {r : fR}  (l0 : Nat) (xs0 : Int32) (s0 : Nat) (hs0 : xs0 = nI s0) (h : F112_35  l0 s0 T = some r) : mm_L 112 35 [.ref l0] [.int xs0] (toS z T) = some (tR z r) := by
  unfold F112_35 at h
  refine Eq.trans (e112_35 ..) ?_
  exact (fb_if (cj_eq hs0 (rfl : (0 : Int32) = nI 0)) h (fun h1 => (G112_38  _ h1)) (fun h1 => (G112_248  _ h1)))
noncomputable def F112_29  (l0 : Nat) (T : fS) : Option fR := (fKi true (fif (fch T l0 6) (F39_0 l0 2 0 T) none) (fun v0 T1 => F112_35  l0 v0 T1))
theorem G112_29 {z : Option mm_O} {T : fS} {r : fR}  (l0 : Nat) (h : F112_29  l0 T = some r) : mm_L 112 29 [.ref l0] [] (toS z T) = some (tR z r) := by
  unfold F112_29 at h
  refine Eq.trans (e112_29 ..) ?_
  exact (fb_K0i (fun _ q => fb_mo (y := 39) ow_39 q (fun q => GM39 _ _ _ (rfl : (2 : Int32) = nI 2) _ _ (rfl : (0 : Int32) = nI 0) q)) h (fun v0 T1 h2 => G112_35  _ _ _ rfl h2))
noncomputable def F112_26  (l0 : Nat) (s0 : Nat) (T : fS) : Option fR := (fif (ieq s0 0) (F112_29  l0 T) (F112_248  l0 T))
theorem G112_26 {z : Option mm_O} {T : fS} {r : fR}  (l0 : Nat) (xs0 : Int32) (s0 : Nat) (hs0 : xs0 = nI s0) (h : F112_26  l0 s0 T = some r) : mm_L 112 26 [.ref l0] [.int xs0] (toS z T) = some (tR z r) := by
  unfold F112_26 at h
  refine Eq.trans (e112_26 ..) ?_
  exact (fb_if (cj_eq hs0 (rfl : (0 : Int32) = nI 0)) h (fun h1 => (G112_29  _ h1)) (fun h1 => (G112_248  _ h1)))
noncomputable def F112_20  (l0 : Nat) (T : fS) : Option fR := (fKi true (fif (fch T l0 6) (F39_0 l0 1 0 T) none) (fun v0 T1 => F112_26  l0 v0 T1))
theorem G112_20 {z : Option mm_O} {T : fS} {r : fR}  (l0 : Nat) (h : F112_20  l0 T = some r) : mm_L 112 20 [.ref l0] [] (toS z T) = some (tR z r) := by
  unfold F112_20 at h
  refine Eq.trans (e112_20 ..) ?_
  exact (fb_K0i (fun _ q => fb_mo (y := 39) ow_39 q (fun q => GM39 _ _ _ (rfl : (1 : Int32) = nI 1) _ _ (rfl : (0 : Int32) = nI 0) q)) h (fun v0 T1 h2 => G112_26  _ _ _ rfl h2))
noncomputable def F112_17  (l0 : Nat) (s0 : Nat) (T : fS) : Option fR := (fif (ieq s0 0) (F112_20  l0 T) (F112_248  l0 T))
theorem G112_17 {z : Option mm_O} {T : fS} {r : fR}  (l0 : Nat) (xs0 : Int32) (s0 : Nat) (hs0 : xs0 = nI s0) (h : F112_17  l0 s0 T = some r) : mm_L 112 17 [.ref l0] [.int xs0] (toS z T) = some (tR z r) := by
  unfold F112_17 at h
  refine Eq.trans (e112_17 ..) ?_
  exact (fb_if (cj_eq hs0 (rfl : (0 : Int32) = nI 0)) h (fun h1 => (G112_20  _ h1)) (fun h1 => (G112_248  _ h1)))
noncomputable def F112_11  (l0 : Nat) (T : fS) : Option fR := (fKi true (fif (fch T l0 6) (F39_0 l0 0 0 T) none) (fun v0 T1 => F112_17  l0 v0 T1))
theorem G112_11 {z : Option mm_O} {T : fS} {r : fR}  (l0 : Nat) (h : F112_11  l0 T = some r) : mm_L 112 11 [.ref l0] [] (toS z T) = some (tR z r) := by
  unfold F112_11 at h
  refine Eq.trans (e112_11 ..) ?_
  exact (fb_K0i (fun _ q => fb_mo (y := 39) ow_39 q (fun q => GM39 _ _ _ (rfl : (0 : Int32) = nI 0) _ _ (rfl : (0 : Int32) = nI 0) q)) h (fun v0 T1 h2 => G112_17  _ _ _ rfl h2))
noncomputable def F112_7  (l0 : Nat) (s0 : Nat) (T : fS) : Option fR := (fif (ieq s0 1) (F112_11  l0 T) (F112_248  l0 T))
theorem G112_7 {z : Option mm_O} {T : fS} {r : fR}  (l0 : Nat) (xs0 : Int32) (s0 : Nat) (hs0 : xs0 = nI s0) (h : F112_7  l0 s0 T = some r) : mm_L 112 7 [.ref l0] [.int xs0] (toS z T) = some (tR z r) := by
  unfold F112_7 at h
  refine Eq.trans (e112_7 ..) ?_
  exact (fb_if (cj_eq hs0 (rfl : (1 : Int32) = nI 1)) h (fun h1 => (G112_11  _ h1)) (fun h1 => (G112_248  _ h1)))
noncomputable def F112_0  (l0 : Nat) (T : fS) : Option fR := (fKi true (fif (fch T l0 6) (F38_0 l0 0 0 0 T) none) (fun v0 T1 => F112_7  l0 v0 T1))
theorem G112_0 {z : Option mm_O} {T : fS} {r : fR}  (l0 : Nat) (h : F112_0  l0 T = some r) : mm_L 112 0 [.ref l0] [] (toS z T) = some (tR z r) := by
  unfold F112_0 at h
  refine Eq.trans (e112_0 ..) ?_
  exact (fb_K0i (fun _ q => fb_mo (y := 38) ow_38 q (fun q => GM38 _ _ _ (rfl : (0 : Int32) = nI 0) _ _ (rfl : (0 : Int32) = nI 0) _ _ (rfl : (0 : Int32) = nI 0) q)) h (fun v0 T1 h2 => G112_7  _ _ _ rfl h2))
theorem GM112 {z : Option mm_O} {T : fS} {r : fR} (l0 : Nat) (h : F112_0 l0 T = some r) : mm_M 112 [.ref l0] (toS z T) = some (tR z r) := Eq.trans (M_112 ..) (G112_0 l0 h)
-- 113: HandArchiveLaw.rules
noncomputable def F113_48  (l0 : Nat) (l1 : Nat) (T : fS) : Option fR := (some ((.inl (some (.inl 0)), T) : fR))
theorem G113_48 {z : Option mm_O} {T : fS} {r : fR}  (l0 : Nat) (xl1 : Int32) (l1 : Nat) (hl1 : xl1 = nI l1) (h : F113_48  l0 l1 T = some r) : mm_L 113 48 [.ref l0, .int xl1] [] (toS z T) = some (tR z r) := by
  unfold F113_48 at h
  refine Eq.trans (e113_48 ..) ?_
  exact (fb_pos (by decide) (fr_i (rfl : (0 : Int32) = nI 0) h))
noncomputable def F113_50 (k10 : Nat → Nat → fS → Option fR) (l0 : Nat) (l1 : Nat) (T : fS) : Option fR := (k10 l0 (iA l1 1) T)
theorem G113_50 {z : Option mm_O} {T : fS} {r : fR} (k10 : Nat → Nat → fS → Option fR) (hk10 : ∀ (l0 : Nat) (xl1 : Int32) (l1 : Nat) (hl1 : xl1 = nI l1) (T : fS) (r : fR), k10 l0 l1 T = some r → mm_L 113 10 [.ref l0, .int xl1] [] (toS z T) = some (tR z r)) (l0 : Nat) (xl1 : Int32) (l1 : Nat) (hl1 : xl1 = nI l1) (h : F113_50 k10 l0 l1 T = some r) : mm_L 113 50 [.ref l0, .int xl1] [] (toS z T) = some (tR z r) := by
  unfold F113_50 at h
  refine Eq.trans (e113_50 ..) ?_
  exact (hk10 _ _ _ (iA_ok hl1 (rfl : (1 : Int32) = nI 1)) _ _ h)
noncomputable def F113_45 (k10 : Nat → Nat → fS → Option fR) (l0 : Nat) (l1 : Nat) (s0 : Nat) (s1 : Nat) (T : fS) : Option fR := (fif (ieq s1 s0) (F113_50 k10 l0 l1 T) (F113_48  l0 l1 T))
theorem G113_45 {z : Option mm_O} {T : fS} {r : fR} (k10 : Nat → Nat → fS → Option fR) (hk10 : ∀ (l0 : Nat) (xl1 : Int32) (l1 : Nat) (hl1 : xl1 = nI l1) (T : fS) (r : fR), k10 l0 l1 T = some r → mm_L 113 10 [.ref l0, .int xl1] [] (toS z T) = some (tR z r)) (l0 : Nat) (xl1 : Int32) (l1 : Nat) (hl1 : xl1 = nI l1) (xs0 : Int32) (s0 : Nat) (hs0 : xs0 = nI s0) (xs1 : Int32) (s1 : Nat) (hs1 : xs1 = nI s1) (h : F113_45 k10 l0 l1 s0 s1 T = some r) : mm_L 113 45 [.ref l0, .int xl1] [.int xs0, .int xs1] (toS z T) = some (tR z r) := by
  unfold F113_45 at h
  refine Eq.trans (e113_45 ..) ?_
  exact (fb_if (cj_eq hs1 hs0) h (fun h1 => (G113_50 k10 hk10 _ _ _ hl1 h1)) (fun h1 => (G113_48  _ _ _ hl1 h1)))
noncomputable def F113_39 (k10 : Nat → Nat → fS → Option fR) (l0 : Nat) (l1 : Nat) (s0 : Nat) (T : fS) : Option fR := (F113_45 k10 l0 l1 l1 s0 T)
theorem G113_39 {z : Option mm_O} {T : fS} {r : fR} (k10 : Nat → Nat → fS → Option fR) (hk10 : ∀ (l0 : Nat) (xl1 : Int32) (l1 : Nat) (hl1 : xl1 = nI l1) (T : fS) (r : fR), k10 l0 l1 T = some r → mm_L 113 10 [.ref l0, .int xl1] [] (toS z T) = some (tR z r)) (l0 : Nat) (xl1 : Int32) (l1 : Nat) (hl1 : xl1 = nI l1) (xs0 : Int32) (s0 : Nat) (hs0 : xs0 = nI s0) (h : F113_39 k10 l0 l1 s0 T = some r) : mm_L 113 39 [.ref l0, .int xl1] [.int xs0] (toS z T) = some (tR z r) := by
  unfold F113_39 at h
  refine Eq.trans (e113_39 ..) ?_
  exact (G113_45 k10 hk10 _ _ _ hl1 _ _ hl1 _ _ hs0 h)
noncomputable def F113_43 (k10 : Nat → Nat → fS → Option fR) (l0 : Nat) (l1 : Nat) (s0 : Nat) (T : fS) : Option fR := (F113_45 k10 l0 l1 4294967223 s0 T)
theorem G113_43 {z : Option mm_O} {T : fS} {r : fR} (k10 : Nat → Nat → fS → Option fR) (hk10 : ∀ (l0 : Nat) (xl1 : Int32) (l1 : Nat) (hl1 : xl1 = nI l1) (T : fS) (r : fR), k10 l0 l1 T = some r → mm_L 113 10 [.ref l0, .int xl1] [] (toS z T) = some (tR z r)) (l0 : Nat) (xl1 : Int32) (l1 : Nat) (hl1 : xl1 = nI l1) (xs0 : Int32) (s0 : Nat) (hs0 : xs0 = nI s0) (h : F113_43 k10 l0 l1 s0 T = some r) : mm_L 113 43 [.ref l0, .int xl1] [.int xs0] (toS z T) = some (tR z r) := by
  unfold F113_43 at h
  refine Eq.trans (e113_43 ..) ?_
  exact (G113_45 k10 hk10 _ _ _ hl1 _ _ (by decide : (-73 : Int32) = nI 4294967223) _ _ hs0 h)
noncomputable def F113_33 (k10 : Nat → Nat → fS → Option fR) (l0 : Nat) (l1 : Nat) (s0 : Nat) (T : fS) : Option fR := (fif (ile 30 l1) (F113_43 k10 l0 l1 s0 T) (F113_39 k10 l0 l1 s0 T))
theorem G113_33 {z : Option mm_O} {T : fS} {r : fR} (k10 : Nat → Nat → fS → Option fR) (hk10 : ∀ (l0 : Nat) (xl1 : Int32) (l1 : Nat) (hl1 : xl1 = nI l1) (T : fS) (r : fR), k10 l0 l1 T = some r → mm_L 113 10 [.ref l0, .int xl1] [] (toS z T) = some (tR z r)) (l0 : Nat) (xl1 : Int32) (l1 : Nat) (hl1 : xl1 = nI l1) (xs0 : Int32) (s0 : Nat) (hs0 : xs0 = nI s0) (h : F113_33 k10 l0 l1 s0 T = some r) : mm_L 113 33 [.ref l0, .int xl1] [.int xs0] (toS z T) = some (tR z r) := by
  unfold F113_33 at h
  refine Eq.trans (e113_33 ..) ?_
  exact (fb_if (cj_le (rfl : (30 : Int32) = nI 30) hl1) h (fun h1 => (G113_43 k10 hk10 _ _ _ hl1 _ _ hs0 h1)) (fun h1 => (G113_39 k10 hk10 _ _ _ hl1 _ _ hs0 h1)))
noncomputable def F113_16 (k10 : Nat → Nat → fS → Option fR) (l0 : Nat) (l1 : Nat) (T : fS) : Option fR := (fKi true (F107_0 l0 (iS l1 (iM (iF2 (fun x y => x / y) l1 8) 8)) (iF2 (fun x y => x / y) l1 8) 4 0 0 1 0 T) (fun v0 T1 => F113_33 k10 l0 l1 v0 T1))
theorem G113_16 {z : Option mm_O} {T : fS} {r : fR} (k10 : Nat → Nat → fS → Option fR) (hk10 : ∀ (l0 : Nat) (xl1 : Int32) (l1 : Nat) (hl1 : xl1 = nI l1) (T : fS) (r : fR), k10 l0 l1 T = some r → mm_L 113 10 [.ref l0, .int xl1] [] (toS z T) = some (tR z r)) (l0 : Nat) (xl1 : Int32) (l1 : Nat) (hl1 : xl1 = nI l1) (h : F113_16 k10 l0 l1 T = some r) : mm_L 113 16 [.ref l0, .int xl1] [] (toS z T) = some (tR z r) := by
  unfold F113_16 at h
  refine Eq.trans (e113_16 ..) ?_
  exact (fb_K0i (fun _ q => GM107 _ _ _ (iS_ok hl1 (iM_ok (iF2_ok (f := (fun x y => x / y)) hl1 (rfl : (8 : Int32) = nI 8)) (rfl : (8 : Int32) = nI 8))) _ _ (iF2_ok (f := (fun x y => x / y)) hl1 (rfl : (8 : Int32) = nI 8)) _ _ (rfl : (4 : Int32) = nI 4) _ _ (rfl : (0 : Int32) = nI 0) _ _ (rfl : (0 : Int32) = nI 0) _ _ (rfl : (1 : Int32) = nI 1) _ _ (rfl : (0 : Int32) = nI 0) q) h (fun v0 T1 h2 => G113_33 k10 hk10 _ _ _ hl1 _ _ rfl h2))
noncomputable def F113_64  (l0 : Nat) (l1 : Nat) (T : fS) : Option fR := (some ((.inl (some (.inl 0)), T) : fR))
theorem G113_64 {z : Option mm_O} {T : fS} {r : fR}  (l0 : Nat) (xl1 : Int32) (l1 : Nat) (hl1 : xl1 = nI l1) (h : F113_64  l0 l1 T = some r) : mm_L 113 64 [.ref l0, .int xl1] [] (toS z T) = some (tR z r) := by
  unfold F113_64 at h
  refine Eq.trans (e113_64 ..) ?_
  exact (fb_pos (by decide) (fr_i (rfl : (0 : Int32) = nI 0) h))
noncomputable def F113_112  (l0 : Nat) (l1 : Nat) (T : fS) : Option fR := (some ((.inl (some (.inl 0)), T) : fR))
theorem G113_112 {z : Option mm_O} {T : fS} {r : fR}  (l0 : Nat) (xl1 : Int32) (l1 : Nat) (hl1 : xl1 = nI l1) (h : F113_112  l0 l1 T = some r) : mm_L 113 112 [.ref l0, .int xl1] [] (toS z T) = some (tR z r) := by
  unfold F113_112 at h
  refine Eq.trans (e113_112 ..) ?_
  exact (fb_pos (by decide) (fr_i (rfl : (0 : Int32) = nI 0) h))
noncomputable def F113_114 (k68 : Nat → Nat → fS → Option fR) (l0 : Nat) (l1 : Nat) (T : fS) : Option fR := (k68 l0 (iA l1 1) T)
theorem G113_114 {z : Option mm_O} {T : fS} {r : fR} (k68 : Nat → Nat → fS → Option fR) (hk68 : ∀ (l0 : Nat) (xl1 : Int32) (l1 : Nat) (hl1 : xl1 = nI l1) (T : fS) (r : fR), k68 l0 l1 T = some r → mm_L 113 68 [.ref l0, .int xl1] [] (toS z T) = some (tR z r)) (l0 : Nat) (xl1 : Int32) (l1 : Nat) (hl1 : xl1 = nI l1) (h : F113_114 k68 l0 l1 T = some r) : mm_L 113 114 [.ref l0, .int xl1] [] (toS z T) = some (tR z r) := by
  unfold F113_114 at h
  refine Eq.trans (e113_114 ..) ?_
  exact (hk68 _ _ _ (iA_ok hl1 (rfl : (1 : Int32) = nI 1)) _ _ h)
noncomputable def F113_109 (k68 : Nat → Nat → fS → Option fR) (l0 : Nat) (l1 : Nat) (s0 : Nat) (s1 : Nat) (T : fS) : Option fR := (fif (ieq s1 s0) (F113_114 k68 l0 l1 T) (F113_112  l0 l1 T))
theorem G113_109 {z : Option mm_O} {T : fS} {r : fR} (k68 : Nat → Nat → fS → Option fR) (hk68 : ∀ (l0 : Nat) (xl1 : Int32) (l1 : Nat) (hl1 : xl1 = nI l1) (T : fS) (r : fR), k68 l0 l1 T = some r → mm_L 113 68 [.ref l0, .int xl1] [] (toS z T) = some (tR z r)) (l0 : Nat) (xl1 : Int32) (l1 : Nat) (hl1 : xl1 = nI l1) (xs0 : Int32) (s0 : Nat) (hs0 : xs0 = nI s0) (xs1 : Int32) (s1 : Nat) (hs1 : xs1 = nI s1) (h : F113_109 k68 l0 l1 s0 s1 T = some r) : mm_L 113 109 [.ref l0, .int xl1] [.int xs0, .int xs1] (toS z T) = some (tR z r) := by
  unfold F113_109 at h
  refine Eq.trans (e113_109 ..) ?_
  exact (fb_if (cj_eq hs1 hs0) h (fun h1 => (G113_114 k68 hk68 _ _ _ hl1 h1)) (fun h1 => (G113_112  _ _ _ hl1 h1)))
noncomputable def F113_101 (k68 : Nat → Nat → fS → Option fR) (l0 : Nat) (l1 : Nat) (s0 : Nat) (T : fS) : Option fR := (F113_109 k68 l0 l1 (iA l1 1) s0 T)
theorem G113_101 {z : Option mm_O} {T : fS} {r : fR} (k68 : Nat → Nat → fS → Option fR) (hk68 : ∀ (l0 : Nat) (xl1 : Int32) (l1 : Nat) (hl1 : xl1 = nI l1) (T : fS) (r : fR), k68 l0 l1 T = some r → mm_L 113 68 [.ref l0, .int xl1] [] (toS z T) = some (tR z r)) (l0 : Nat) (xl1 : Int32) (l1 : Nat) (hl1 : xl1 = nI l1) (xs0 : Int32) (s0 : Nat) (hs0 : xs0 = nI s0) (h : F113_101 k68 l0 l1 s0 T = some r) : mm_L 113 101 [.ref l0, .int xl1] [.int xs0] (toS z T) = some (tR z r) := by
  unfold F113_101 at h
  refine Eq.trans (e113_101 ..) ?_
  exact (G113_109 k68 hk68 _ _ _ hl1 _ _ (iA_ok hl1 (rfl : (1 : Int32) = nI 1)) _ _ hs0 h)
noncomputable def F113_107 (k68 : Nat → Nat → fS → Option fR) (l0 : Nat) (l1 : Nat) (s0 : Nat) (T : fS) : Option fR := (F113_109 k68 l0 l1 4294967223 s0 T)
theorem G113_107 {z : Option mm_O} {T : fS} {r : fR} (k68 : Nat → Nat → fS → Option fR) (hk68 : ∀ (l0 : Nat) (xl1 : Int32) (l1 : Nat) (hl1 : xl1 = nI l1) (T : fS) (r : fR), k68 l0 l1 T = some r → mm_L 113 68 [.ref l0, .int xl1] [] (toS z T) = some (tR z r)) (l0 : Nat) (xl1 : Int32) (l1 : Nat) (hl1 : xl1 = nI l1) (xs0 : Int32) (s0 : Nat) (hs0 : xs0 = nI s0) (h : F113_107 k68 l0 l1 s0 T = some r) : mm_L 113 107 [.ref l0, .int xl1] [.int xs0] (toS z T) = some (tR z r) := by
  unfold F113_107 at h
  refine Eq.trans (e113_107 ..) ?_
  exact (G113_109 k68 hk68 _ _ _ hl1 _ _ (by decide : (-73 : Int32) = nI 4294967223) _ _ hs0 h)
noncomputable def F113_95 (k68 : Nat → Nat → fS → Option fR) (l0 : Nat) (l1 : Nat) (s0 : Nat) (T : fS) : Option fR := (fif (ile 14 l1) (F113_107 k68 l0 l1 s0 T) (F113_101 k68 l0 l1 s0 T))
theorem G113_95 {z : Option mm_O} {T : fS} {r : fR} (k68 : Nat → Nat → fS → Option fR) (hk68 : ∀ (l0 : Nat) (xl1 : Int32) (l1 : Nat) (hl1 : xl1 = nI l1) (T : fS) (r : fR), k68 l0 l1 T = some r → mm_L 113 68 [.ref l0, .int xl1] [] (toS z T) = some (tR z r)) (l0 : Nat) (xl1 : Int32) (l1 : Nat) (hl1 : xl1 = nI l1) (xs0 : Int32) (s0 : Nat) (hs0 : xs0 = nI s0) (h : F113_95 k68 l0 l1 s0 T = some r) : mm_L 113 95 [.ref l0, .int xl1] [.int xs0] (toS z T) = some (tR z r) := by
  unfold F113_95 at h
  refine Eq.trans (e113_95 ..) ?_
  exact (fb_if (cj_le (rfl : (14 : Int32) = nI 14) hl1) h (fun h1 => (G113_107 k68 hk68 _ _ _ hl1 _ _ hs0 h1)) (fun h1 => (G113_101 k68 hk68 _ _ _ hl1 _ _ hs0 h1)))
noncomputable def F113_88 (k68 : Nat → Nat → fS → Option fR) (l0 : Nat) (l1 : Nat) (s0 : Nat) (s1 : Nat) (s2 : Nat) (T : fS) : Option fR := (fKi true (F106_0 s2 s1 s0 8 0 0 T) (fun v0 T1 => F113_95 k68 l0 l1 v0 T1))
theorem G113_88 {z : Option mm_O} {T : fS} {r : fR} (k68 : Nat → Nat → fS → Option fR) (hk68 : ∀ (l0 : Nat) (xl1 : Int32) (l1 : Nat) (hl1 : xl1 = nI l1) (T : fS) (r : fR), k68 l0 l1 T = some r → mm_L 113 68 [.ref l0, .int xl1] [] (toS z T) = some (tR z r)) (l0 : Nat) (xl1 : Int32) (l1 : Nat) (hl1 : xl1 = nI l1) (xs0 : Int32) (s0 : Nat) (hs0 : xs0 = nI s0) (xs1 : Int32) (s1 : Nat) (hs1 : xs1 = nI s1) (s2 : Nat) (h : F113_88 k68 l0 l1 s0 s1 s2 T = some r) : mm_L 113 88 [.ref l0, .int xl1] [.int xs0, .int xs1, .ref s2] (toS z T) = some (tR z r) := by
  unfold F113_88 at h
  refine Eq.trans (e113_88 ..) ?_
  exact (fb_K0i (fun _ q => GM106 _ _ _ hs1 _ _ hs0 _ _ (rfl : (8 : Int32) = nI 8) _ _ (rfl : (0 : Int32) = nI 0) _ _ (rfl : (0 : Int32) = nI 0) q) h (fun v0 T1 h2 => G113_95 k68 hk68 _ _ _ hl1 _ _ rfl h2))
noncomputable def F113_83 (k68 : Nat → Nat → fS → Option fR) (l0 : Nat) (l1 : Nat) (s0 : Nat) (s1 : Nat) (T : fS) : Option fR := (F113_88 k68 l0 l1 0 s0 s1 T)
theorem G113_83 {z : Option mm_O} {T : fS} {r : fR} (k68 : Nat → Nat → fS → Option fR) (hk68 : ∀ (l0 : Nat) (xl1 : Int32) (l1 : Nat) (hl1 : xl1 = nI l1) (T : fS) (r : fR), k68 l0 l1 T = some r → mm_L 113 68 [.ref l0, .int xl1] [] (toS z T) = some (tR z r)) (l0 : Nat) (xl1 : Int32) (l1 : Nat) (hl1 : xl1 = nI l1) (xs0 : Int32) (s0 : Nat) (hs0 : xs0 = nI s0) (s1 : Nat) (h : F113_83 k68 l0 l1 s0 s1 T = some r) : mm_L 113 83 [.ref l0, .int xl1] [.int xs0, .ref s1] (toS z T) = some (tR z r) := by
  unfold F113_83 at h
  refine Eq.trans (e113_83 ..) ?_
  exact (G113_88 k68 hk68 _ _ _ hl1 _ _ (rfl : (0 : Int32) = nI 0) _ _ hs0 _ h)
noncomputable def F113_87 (k68 : Nat → Nat → fS → Option fR) (l0 : Nat) (l1 : Nat) (s0 : Nat) (s1 : Nat) (T : fS) : Option fR := (F113_88 k68 l0 l1 5 s0 s1 T)
theorem G113_87 {z : Option mm_O} {T : fS} {r : fR} (k68 : Nat → Nat → fS → Option fR) (hk68 : ∀ (l0 : Nat) (xl1 : Int32) (l1 : Nat) (hl1 : xl1 = nI l1) (T : fS) (r : fR), k68 l0 l1 T = some r → mm_L 113 68 [.ref l0, .int xl1] [] (toS z T) = some (tR z r)) (l0 : Nat) (xl1 : Int32) (l1 : Nat) (hl1 : xl1 = nI l1) (xs0 : Int32) (s0 : Nat) (hs0 : xs0 = nI s0) (s1 : Nat) (h : F113_87 k68 l0 l1 s0 s1 T = some r) : mm_L 113 87 [.ref l0, .int xl1] [.int xs0, .ref s1] (toS z T) = some (tR z r) := by
  unfold F113_87 at h
  refine Eq.trans (e113_87 ..) ?_
  exact (G113_88 k68 hk68 _ _ _ hl1 _ _ (rfl : (5 : Int32) = nI 5) _ _ hs0 _ h)
noncomputable def F113_74 (k68 : Nat → Nat → fS → Option fR) (l0 : Nat) (l1 : Nat) (T : fS) : Option fR := (fif (ieq (iS l1 (iM (iF2 (fun x y => x / y) l1 3) 3)) 2) (F113_83 k68 l0 l1 3 l0 T) (F113_87 k68 l0 l1 3 l0 T))
theorem G113_74 {z : Option mm_O} {T : fS} {r : fR} (k68 : Nat → Nat → fS → Option fR) (hk68 : ∀ (l0 : Nat) (xl1 : Int32) (l1 : Nat) (hl1 : xl1 = nI l1) (T : fS) (r : fR), k68 l0 l1 T = some r → mm_L 113 68 [.ref l0, .int xl1] [] (toS z T) = some (tR z r)) (l0 : Nat) (xl1 : Int32) (l1 : Nat) (hl1 : xl1 = nI l1) (h : F113_74 k68 l0 l1 T = some r) : mm_L 113 74 [.ref l0, .int xl1] [] (toS z T) = some (tR z r) := by
  unfold F113_74 at h
  refine Eq.trans (e113_74 ..) ?_
  exact (fb_if (cj_eq (iS_ok hl1 (iM_ok (iF2_ok (f := (fun x y => x / y)) hl1 (rfl : (3 : Int32) = nI 3)) (rfl : (3 : Int32) = nI 3))) (rfl : (2 : Int32) = nI 2)) h (fun h1 => (G113_83 k68 hk68 _ _ _ hl1 _ _ (rfl : (3 : Int32) = nI 3) _ h1)) (fun h1 => (G113_87 k68 hk68 _ _ _ hl1 _ _ (rfl : (3 : Int32) = nI 3) _ h1)))
noncomputable def F113_235  (l0 : Nat) (l1 : Nat) (T : fS) : Option fR := (some ((.inl (some (.inl 0)), T) : fR))
theorem G113_235 {z : Option mm_O} {T : fS} {r : fR}  (l0 : Nat) (xl1 : Int32) (l1 : Nat) (hl1 : xl1 = nI l1) (h : F113_235  l0 l1 T = some r) : mm_L 113 235 [.ref l0, .int xl1] [] (toS z T) = some (tR z r) := by
  unfold F113_235 at h
  refine Eq.trans (e113_235 ..) ?_
  exact (fb_pos (by decide) (fr_i (rfl : (0 : Int32) = nI 0) h))
noncomputable def F113_329  (l0 : Nat) (l1 : Nat) (T : fS) : Option fR := (some ((.inl (some (.inl 0)), T) : fR))
theorem G113_329 {z : Option mm_O} {T : fS} {r : fR}  (l0 : Nat) (xl1 : Int32) (l1 : Nat) (hl1 : xl1 = nI l1) (h : F113_329  l0 l1 T = some r) : mm_L 113 329 [.ref l0, .int xl1] [] (toS z T) = some (tR z r) := by
  unfold F113_329 at h
  refine Eq.trans (e113_329 ..) ?_
  exact (fb_pos (by decide) (fr_i (rfl : (0 : Int32) = nI 0) h))
noncomputable def F113_331 (k239 : Nat → Nat → fS → Option fR) (l0 : Nat) (l1 : Nat) (T : fS) : Option fR := (k239 l0 (iA l1 1) T)
theorem G113_331 {z : Option mm_O} {T : fS} {r : fR} (k239 : Nat → Nat → fS → Option fR) (hk239 : ∀ (l0 : Nat) (xl1 : Int32) (l1 : Nat) (hl1 : xl1 = nI l1) (T : fS) (r : fR), k239 l0 l1 T = some r → mm_L 113 239 [.ref l0, .int xl1] [] (toS z T) = some (tR z r)) (l0 : Nat) (xl1 : Int32) (l1 : Nat) (hl1 : xl1 = nI l1) (h : F113_331 k239 l0 l1 T = some r) : mm_L 113 331 [.ref l0, .int xl1] [] (toS z T) = some (tR z r) := by
  unfold F113_331 at h
  refine Eq.trans (e113_331 ..) ?_
  exact (hk239 _ _ _ (iA_ok hl1 (rfl : (1 : Int32) = nI 1)) _ _ h)
noncomputable def F113_325 (k239 : Nat → Nat → fS → Option fR) (l0 : Nat) (l1 : Nat) (s0 : Nat) (T : fS) : Option fR := (fif (ieq s0 3) (F113_331 k239 l0 l1 T) (F113_329  l0 l1 T))
theorem G113_325 {z : Option mm_O} {T : fS} {r : fR} (k239 : Nat → Nat → fS → Option fR) (hk239 : ∀ (l0 : Nat) (xl1 : Int32) (l1 : Nat) (hl1 : xl1 = nI l1) (T : fS) (r : fR), k239 l0 l1 T = some r → mm_L 113 239 [.ref l0, .int xl1] [] (toS z T) = some (tR z r)) (l0 : Nat) (xl1 : Int32) (l1 : Nat) (hl1 : xl1 = nI l1) (xs0 : Int32) (s0 : Nat) (hs0 : xs0 = nI s0) (h : F113_325 k239 l0 l1 s0 T = some r) : mm_L 113 325 [.ref l0, .int xl1] [.int xs0] (toS z T) = some (tR z r) := by
  unfold F113_325 at h
  refine Eq.trans (e113_325 ..) ?_
  exact (fb_if (cj_eq hs0 (rfl : (3 : Int32) = nI 3)) h (fun h1 => (G113_331 k239 hk239 _ _ _ hl1 h1)) (fun h1 => (G113_329  _ _ _ hl1 h1)))
noncomputable def F113_318 (k239 : Nat → Nat → fS → Option fR) (l0 : Nat) (l1 : Nat) (T : fS) : Option fR := (fKi true (fif (fch T l0 6) (F68_0 l0 0 8 T) none) (fun v0 T1 => F113_325 k239 l0 l1 v0 T1))
theorem G113_318 {z : Option mm_O} {T : fS} {r : fR} (k239 : Nat → Nat → fS → Option fR) (hk239 : ∀ (l0 : Nat) (xl1 : Int32) (l1 : Nat) (hl1 : xl1 = nI l1) (T : fS) (r : fR), k239 l0 l1 T = some r → mm_L 113 239 [.ref l0, .int xl1] [] (toS z T) = some (tR z r)) (l0 : Nat) (xl1 : Int32) (l1 : Nat) (hl1 : xl1 = nI l1) (h : F113_318 k239 l0 l1 T = some r) : mm_L 113 318 [.ref l0, .int xl1] [] (toS z T) = some (tR z r) := by
  unfold F113_318 at h
  refine Eq.trans (e113_318 ..) ?_
  exact (fb_K0i (fun _ q => fb_mo (y := 68) ow_68 q (fun q => GM68 _ _ _ (rfl : (0 : Int32) = nI 0) _ _ (rfl : (8 : Int32) = nI 8) q)) h (fun v0 T1 h2 => G113_325 k239 hk239 _ _ _ hl1 _ _ rfl h2))
noncomputable def F113_309 (k239 : Nat → Nat → fS → Option fR) (l0 : Nat) (l1 : Nat) (s0 : Nat) (T : fS) : Option fR := (fif (ieq s0 (iF2 (fun x y => x / y) (iM 3 l1) 8)) (F113_318 k239 l0 l1 T) (F113_329  l0 l1 T))
theorem G113_309 {z : Option mm_O} {T : fS} {r : fR} (k239 : Nat → Nat → fS → Option fR) (hk239 : ∀ (l0 : Nat) (xl1 : Int32) (l1 : Nat) (hl1 : xl1 = nI l1) (T : fS) (r : fR), k239 l0 l1 T = some r → mm_L 113 239 [.ref l0, .int xl1] [] (toS z T) = some (tR z r)) (l0 : Nat) (xl1 : Int32) (l1 : Nat) (hl1 : xl1 = nI l1) (xs0 : Int32) (s0 : Nat) (hs0 : xs0 = nI s0) (h : F113_309 k239 l0 l1 s0 T = some r) : mm_L 113 309 [.ref l0, .int xl1] [.int xs0] (toS z T) = some (tR z r) := by
  unfold F113_309 at h
  refine Eq.trans (e113_309 ..) ?_
  exact (fb_if (cj_eq hs0 (iF2_ok (f := (fun x y => x / y)) (iM_ok (rfl : (3 : Int32) = nI 3) hl1) (rfl : (8 : Int32) = nI 8))) h (fun h1 => (G113_318 k239 hk239 _ _ _ hl1 h1)) (fun h1 => (G113_329  _ _ _ hl1 h1)))
noncomputable def F113_303 (k239 : Nat → Nat → fS → Option fR) (l0 : Nat) (l1 : Nat) (T : fS) : Option fR := (fKi true (fif (fch T l0 6) (F68_0 l0 0 3 T) none) (fun v0 T1 => F113_309 k239 l0 l1 v0 T1))
theorem G113_303 {z : Option mm_O} {T : fS} {r : fR} (k239 : Nat → Nat → fS → Option fR) (hk239 : ∀ (l0 : Nat) (xl1 : Int32) (l1 : Nat) (hl1 : xl1 = nI l1) (T : fS) (r : fR), k239 l0 l1 T = some r → mm_L 113 239 [.ref l0, .int xl1] [] (toS z T) = some (tR z r)) (l0 : Nat) (xl1 : Int32) (l1 : Nat) (hl1 : xl1 = nI l1) (h : F113_303 k239 l0 l1 T = some r) : mm_L 113 303 [.ref l0, .int xl1] [] (toS z T) = some (tR z r) := by
  unfold F113_303 at h
  refine Eq.trans (e113_303 ..) ?_
  exact (fb_K0i (fun _ q => fb_mo (y := 68) ow_68 q (fun q => GM68 _ _ _ (rfl : (0 : Int32) = nI 0) _ _ (rfl : (3 : Int32) = nI 3) q)) h (fun v0 T1 h2 => G113_309 k239 hk239 _ _ _ hl1 _ _ rfl h2))
noncomputable def F113_294 (k239 : Nat → Nat → fS → Option fR) (l0 : Nat) (l1 : Nat) (s0 : Nat) (T : fS) : Option fR := (fif (ieq s0 (iS (iM 3 l1) (iM (iF2 (fun x y => x / y) (iM 3 l1) 8) 8))) (F113_303 k239 l0 l1 T) (F113_329  l0 l1 T))
theorem G113_294 {z : Option mm_O} {T : fS} {r : fR} (k239 : Nat → Nat → fS → Option fR) (hk239 : ∀ (l0 : Nat) (xl1 : Int32) (l1 : Nat) (hl1 : xl1 = nI l1) (T : fS) (r : fR), k239 l0 l1 T = some r → mm_L 113 239 [.ref l0, .int xl1] [] (toS z T) = some (tR z r)) (l0 : Nat) (xl1 : Int32) (l1 : Nat) (hl1 : xl1 = nI l1) (xs0 : Int32) (s0 : Nat) (hs0 : xs0 = nI s0) (h : F113_294 k239 l0 l1 s0 T = some r) : mm_L 113 294 [.ref l0, .int xl1] [.int xs0] (toS z T) = some (tR z r) := by
  unfold F113_294 at h
  refine Eq.trans (e113_294 ..) ?_
  exact (fb_if (cj_eq hs0 (iS_ok (iM_ok (rfl : (3 : Int32) = nI 3) hl1) (iM_ok (iF2_ok (f := (fun x y => x / y)) (iM_ok (rfl : (3 : Int32) = nI 3) hl1) (rfl : (8 : Int32) = nI 8)) (rfl : (8 : Int32) = nI 8)))) h (fun h1 => (G113_303 k239 hk239 _ _ _ hl1 h1)) (fun h1 => (G113_329  _ _ _ hl1 h1)))
noncomputable def F113_288 (k239 : Nat → Nat → fS → Option fR) (l0 : Nat) (l1 : Nat) (T : fS) : Option fR := (fKi true (fif (fch T l0 6) (F68_0 l0 0 0 T) none) (fun v0 T1 => F113_294 k239 l0 l1 v0 T1))
theorem G113_288 {z : Option mm_O} {T : fS} {r : fR} (k239 : Nat → Nat → fS → Option fR) (hk239 : ∀ (l0 : Nat) (xl1 : Int32) (l1 : Nat) (hl1 : xl1 = nI l1) (T : fS) (r : fR), k239 l0 l1 T = some r → mm_L 113 239 [.ref l0, .int xl1] [] (toS z T) = some (tR z r)) (l0 : Nat) (xl1 : Int32) (l1 : Nat) (hl1 : xl1 = nI l1) (h : F113_288 k239 l0 l1 T = some r) : mm_L 113 288 [.ref l0, .int xl1] [] (toS z T) = some (tR z r) := by
  unfold F113_288 at h
  refine Eq.trans (e113_288 ..) ?_
  exact (fb_K0i (fun _ q => fb_mo (y := 68) ow_68 q (fun q => GM68 _ _ _ (rfl : (0 : Int32) = nI 0) _ _ (rfl : (0 : Int32) = nI 0) q)) h (fun v0 T1 h2 => G113_294 k239 hk239 _ _ _ hl1 _ _ rfl h2))
noncomputable def F113_282 (k239 : Nat → Nat → fS → Option fR) (l0 : Nat) (l1 : Nat) (s0 : Nat) (T : fS) : Option fR := (fif (ieq s0 (iM 3 l1)) (F113_288 k239 l0 l1 T) (F113_329  l0 l1 T))
theorem G113_282 {z : Option mm_O} {T : fS} {r : fR} (k239 : Nat → Nat → fS → Option fR) (hk239 : ∀ (l0 : Nat) (xl1 : Int32) (l1 : Nat) (hl1 : xl1 = nI l1) (T : fS) (r : fR), k239 l0 l1 T = some r → mm_L 113 239 [.ref l0, .int xl1] [] (toS z T) = some (tR z r)) (l0 : Nat) (xl1 : Int32) (l1 : Nat) (hl1 : xl1 = nI l1) (xs0 : Int32) (s0 : Nat) (hs0 : xs0 = nI s0) (h : F113_282 k239 l0 l1 s0 T = some r) : mm_L 113 282 [.ref l0, .int xl1] [.int xs0] (toS z T) = some (tR z r) := by
  unfold F113_282 at h
  refine Eq.trans (e113_282 ..) ?_
  exact (fb_if (cj_eq hs0 (iM_ok (rfl : (3 : Int32) = nI 3) hl1)) h (fun h1 => (G113_288 k239 hk239 _ _ _ hl1 h1)) (fun h1 => (G113_329  _ _ _ hl1 h1)))
noncomputable def F113_276 (k239 : Nat → Nat → fS → Option fR) (l0 : Nat) (l1 : Nat) (T : fS) : Option fR := (fKi true (fif (fch T l0 6) (F70_0 l0 0 1 T) none) (fun v0 T1 => F113_282 k239 l0 l1 v0 T1))
theorem G113_276 {z : Option mm_O} {T : fS} {r : fR} (k239 : Nat → Nat → fS → Option fR) (hk239 : ∀ (l0 : Nat) (xl1 : Int32) (l1 : Nat) (hl1 : xl1 = nI l1) (T : fS) (r : fR), k239 l0 l1 T = some r → mm_L 113 239 [.ref l0, .int xl1] [] (toS z T) = some (tR z r)) (l0 : Nat) (xl1 : Int32) (l1 : Nat) (hl1 : xl1 = nI l1) (h : F113_276 k239 l0 l1 T = some r) : mm_L 113 276 [.ref l0, .int xl1] [] (toS z T) = some (tR z r) := by
  unfold F113_276 at h
  refine Eq.trans (e113_276 ..) ?_
  exact (fb_K0i (fun _ q => fb_mo (y := 70) ow_70 q (fun q => GM70 _ _ _ (rfl : (0 : Int32) = nI 0) _ _ (rfl : (1 : Int32) = nI 1) q)) h (fun v0 T1 h2 => G113_282 k239 hk239 _ _ _ hl1 _ _ rfl h2))
noncomputable def F113_272 (k239 : Nat → Nat → fS → Option fR) (l0 : Nat) (l1 : Nat) (s0 : Nat) (T : fS) : Option fR := (fif (ieq s0 5) (F113_276 k239 l0 l1 T) (F113_329  l0 l1 T))
theorem G113_272 {z : Option mm_O} {T : fS} {r : fR} (k239 : Nat → Nat → fS → Option fR) (hk239 : ∀ (l0 : Nat) (xl1 : Int32) (l1 : Nat) (hl1 : xl1 = nI l1) (T : fS) (r : fR), k239 l0 l1 T = some r → mm_L 113 239 [.ref l0, .int xl1] [] (toS z T) = some (tR z r)) (l0 : Nat) (xl1 : Int32) (l1 : Nat) (hl1 : xl1 = nI l1) (xs0 : Int32) (s0 : Nat) (hs0 : xs0 = nI s0) (h : F113_272 k239 l0 l1 s0 T = some r) : mm_L 113 272 [.ref l0, .int xl1] [.int xs0] (toS z T) = some (tR z r) := by
  unfold F113_272 at h
  refine Eq.trans (e113_272 ..) ?_
  exact (fb_if (cj_eq hs0 (rfl : (5 : Int32) = nI 5)) h (fun h1 => (G113_276 k239 hk239 _ _ _ hl1 h1)) (fun h1 => (G113_329  _ _ _ hl1 h1)))
noncomputable def F113_266 (k239 : Nat → Nat → fS → Option fR) (l0 : Nat) (l1 : Nat) (T : fS) : Option fR := (fKi true (fif (fch T l0 6) (F70_0 l0 0 0 T) none) (fun v0 T1 => F113_272 k239 l0 l1 v0 T1))
theorem G113_266 {z : Option mm_O} {T : fS} {r : fR} (k239 : Nat → Nat → fS → Option fR) (hk239 : ∀ (l0 : Nat) (xl1 : Int32) (l1 : Nat) (hl1 : xl1 = nI l1) (T : fS) (r : fR), k239 l0 l1 T = some r → mm_L 113 239 [.ref l0, .int xl1] [] (toS z T) = some (tR z r)) (l0 : Nat) (xl1 : Int32) (l1 : Nat) (hl1 : xl1 = nI l1) (h : F113_266 k239 l0 l1 T = some r) : mm_L 113 266 [.ref l0, .int xl1] [] (toS z T) = some (tR z r) := by
  unfold F113_266 at h
  refine Eq.trans (e113_266 ..) ?_
  exact (fb_K0i (fun _ q => fb_mo (y := 70) ow_70 q (fun q => GM70 _ _ _ (rfl : (0 : Int32) = nI 0) _ _ (rfl : (0 : Int32) = nI 0) q)) h (fun v0 T1 h2 => G113_272 k239 hk239 _ _ _ hl1 _ _ rfl h2))
noncomputable def F113_262 (k239 : Nat → Nat → fS → Option fR) (l0 : Nat) (l1 : Nat) (s0 : Nat) (T : fS) : Option fR := (fif (ieq s0 1) (F113_266 k239 l0 l1 T) (F113_329  l0 l1 T))
theorem G113_262 {z : Option mm_O} {T : fS} {r : fR} (k239 : Nat → Nat → fS → Option fR) (hk239 : ∀ (l0 : Nat) (xl1 : Int32) (l1 : Nat) (hl1 : xl1 = nI l1) (T : fS) (r : fR), k239 l0 l1 T = some r → mm_L 113 239 [.ref l0, .int xl1] [] (toS z T) = some (tR z r)) (l0 : Nat) (xl1 : Int32) (l1 : Nat) (hl1 : xl1 = nI l1) (xs0 : Int32) (s0 : Nat) (hs0 : xs0 = nI s0) (h : F113_262 k239 l0 l1 s0 T = some r) : mm_L 113 262 [.ref l0, .int xl1] [.int xs0] (toS z T) = some (tR z r) := by
  unfold F113_262 at h
  refine Eq.trans (e113_262 ..) ?_
  exact (fb_if (cj_eq hs0 (rfl : (1 : Int32) = nI 1)) h (fun h1 => (G113_266 k239 hk239 _ _ _ hl1 h1)) (fun h1 => (G113_329  _ _ _ hl1 h1)))
noncomputable def F113_252 (k239 : Nat → Nat → fS → Option fR) (l0 : Nat) (l1 : Nat) (T : fS) : Option fR := (fKi true (fif (fch T l0 6) (F36_0 l0 5 (iM 3 l1) 0 0 T) none) (fun v0 T1 => F113_262 k239 l0 l1 v0 T1))
theorem G113_252 {z : Option mm_O} {T : fS} {r : fR} (k239 : Nat → Nat → fS → Option fR) (hk239 : ∀ (l0 : Nat) (xl1 : Int32) (l1 : Nat) (hl1 : xl1 = nI l1) (T : fS) (r : fR), k239 l0 l1 T = some r → mm_L 113 239 [.ref l0, .int xl1] [] (toS z T) = some (tR z r)) (l0 : Nat) (xl1 : Int32) (l1 : Nat) (hl1 : xl1 = nI l1) (h : F113_252 k239 l0 l1 T = some r) : mm_L 113 252 [.ref l0, .int xl1] [] (toS z T) = some (tR z r) := by
  unfold F113_252 at h
  refine Eq.trans (e113_252 ..) ?_
  exact (fb_K0i (fun _ q => fb_mo (y := 36) ow_36 q (fun q => GM36 _ _ _ (rfl : (5 : Int32) = nI 5) _ _ (iM_ok (rfl : (3 : Int32) = nI 3) hl1) _ _ (rfl : (0 : Int32) = nI 0) _ _ (rfl : (0 : Int32) = nI 0) q)) h (fun v0 T1 h2 => G113_262 k239 hk239 _ _ _ hl1 _ _ rfl h2))
noncomputable def F113_249 (k239 : Nat → Nat → fS → Option fR) (l0 : Nat) (l1 : Nat) (s0 : Nat) (T : fS) : Option fR := (fif (ilt s0 0) (F113_329  l0 l1 T) (F113_252 k239 l0 l1 T))
theorem G113_249 {z : Option mm_O} {T : fS} {r : fR} (k239 : Nat → Nat → fS → Option fR) (hk239 : ∀ (l0 : Nat) (xl1 : Int32) (l1 : Nat) (hl1 : xl1 = nI l1) (T : fS) (r : fR), k239 l0 l1 T = some r → mm_L 113 239 [.ref l0, .int xl1] [] (toS z T) = some (tR z r)) (l0 : Nat) (xl1 : Int32) (l1 : Nat) (hl1 : xl1 = nI l1) (xs0 : Int32) (s0 : Nat) (hs0 : xs0 = nI s0) (h : F113_249 k239 l0 l1 s0 T = some r) : mm_L 113 249 [.ref l0, .int xl1] [.int xs0] (toS z T) = some (tR z r) := by
  unfold F113_249 at h
  refine Eq.trans (e113_249 ..) ?_
  exact (fb_if (cj_lt hs0 (rfl : (0 : Int32) = nI 0)) h (fun h1 => (G113_329  _ _ _ hl1 h1)) (fun h1 => (G113_252 k239 hk239 _ _ _ hl1 h1)))
noncomputable def F113_245 (k239 : Nat → Nat → fS → Option fR) (l0 : Nat) (l1 : Nat) (T : fS) : Option fR := (fKi true (fif (fch T l0 6) (F37_0 l0  T) none) (fun v0 T1 => F113_249 k239 l0 l1 v0 T1))
theorem G113_245 {z : Option mm_O} {T : fS} {r : fR} (k239 : Nat → Nat → fS → Option fR) (hk239 : ∀ (l0 : Nat) (xl1 : Int32) (l1 : Nat) (hl1 : xl1 = nI l1) (T : fS) (r : fR), k239 l0 l1 T = some r → mm_L 113 239 [.ref l0, .int xl1] [] (toS z T) = some (tR z r)) (l0 : Nat) (xl1 : Int32) (l1 : Nat) (hl1 : xl1 = nI l1) (h : F113_245 k239 l0 l1 T = some r) : mm_L 113 245 [.ref l0, .int xl1] [] (toS z T) = some (tR z r) := by
  unfold F113_245 at h
  refine Eq.trans (e113_245 ..) ?_
  exact (fb_K0i (fun _ q => fb_mo (y := 37) ow_37 q (fun q => GM37 _  q)) h (fun v0 T1 h2 => G113_249 k239 hk239 _ _ _ hl1 _ _ rfl h2))
noncomputable def F113_359  (l0 : Nat) (l1 : Nat) (T : fS) : Option fR := (some ((.inl (some (.inl 0)), T) : fR))
theorem G113_359 {z : Option mm_O} {T : fS} {r : fR}  (l0 : Nat) (xl1 : Int32) (l1 : Nat) (hl1 : xl1 = nI l1) (h : F113_359  l0 l1 T = some r) : mm_L 113 359 [.ref l0, .int xl1] [] (toS z T) = some (tR z r) := by
  unfold F113_359 at h
  refine Eq.trans (e113_359 ..) ?_
  exact (fb_pos (by decide) (fr_i (rfl : (0 : Int32) = nI 0) h))
noncomputable def F113_361 (k339 : Nat → Nat → fS → Option fR) (l0 : Nat) (l1 : Nat) (T : fS) : Option fR := (k339 l0 (iA l1 1) T)
theorem G113_361 {z : Option mm_O} {T : fS} {r : fR} (k339 : Nat → Nat → fS → Option fR) (hk339 : ∀ (l0 : Nat) (xl1 : Int32) (l1 : Nat) (hl1 : xl1 = nI l1) (T : fS) (r : fR), k339 l0 l1 T = some r → mm_L 113 339 [.ref l0, .int xl1] [] (toS z T) = some (tR z r)) (l0 : Nat) (xl1 : Int32) (l1 : Nat) (hl1 : xl1 = nI l1) (h : F113_361 k339 l0 l1 T = some r) : mm_L 113 361 [.ref l0, .int xl1] [] (toS z T) = some (tR z r) := by
  unfold F113_361 at h
  refine Eq.trans (e113_361 ..) ?_
  exact (hk339 _ _ _ (iA_ok hl1 (rfl : (1 : Int32) = nI 1)) _ _ h)
noncomputable def F113_353 (k339 : Nat → Nat → fS → Option fR) (l0 : Nat) (l1 : Nat) (s0 : Nat) (T : fS) : Option fR := (fif (ieq s0 (iA l1 1)) (F113_361 k339 l0 l1 T) (F113_359  l0 l1 T))
theorem G113_353 {z : Option mm_O} {T : fS} {r : fR} (k339 : Nat → Nat → fS → Option fR) (hk339 : ∀ (l0 : Nat) (xl1 : Int32) (l1 : Nat) (hl1 : xl1 = nI l1) (T : fS) (r : fR), k339 l0 l1 T = some r → mm_L 113 339 [.ref l0, .int xl1] [] (toS z T) = some (tR z r)) (l0 : Nat) (xl1 : Int32) (l1 : Nat) (hl1 : xl1 = nI l1) (xs0 : Int32) (s0 : Nat) (hs0 : xs0 = nI s0) (h : F113_353 k339 l0 l1 s0 T = some r) : mm_L 113 353 [.ref l0, .int xl1] [.int xs0] (toS z T) = some (tR z r) := by
  unfold F113_353 at h
  refine Eq.trans (e113_353 ..) ?_
  exact (fb_if (cj_eq hs0 (iA_ok hl1 (rfl : (1 : Int32) = nI 1))) h (fun h1 => (G113_361 k339 hk339 _ _ _ hl1 h1)) (fun h1 => (G113_359  _ _ _ hl1 h1)))
noncomputable def F113_345 (k339 : Nat → Nat → fS → Option fR) (l0 : Nat) (l1 : Nat) (T : fS) : Option fR := (fKi true (fif (fch T l0 6) (F36_0 l0 5 3 0 0 T) none) (fun v0 T1 => F113_353 k339 l0 l1 v0 T1))
theorem G113_345 {z : Option mm_O} {T : fS} {r : fR} (k339 : Nat → Nat → fS → Option fR) (hk339 : ∀ (l0 : Nat) (xl1 : Int32) (l1 : Nat) (hl1 : xl1 = nI l1) (T : fS) (r : fR), k339 l0 l1 T = some r → mm_L 113 339 [.ref l0, .int xl1] [] (toS z T) = some (tR z r)) (l0 : Nat) (xl1 : Int32) (l1 : Nat) (hl1 : xl1 = nI l1) (h : F113_345 k339 l0 l1 T = some r) : mm_L 113 345 [.ref l0, .int xl1] [] (toS z T) = some (tR z r) := by
  unfold F113_345 at h
  refine Eq.trans (e113_345 ..) ?_
  exact (fb_K0i (fun _ q => fb_mo (y := 36) ow_36 q (fun q => GM36 _ _ _ (rfl : (5 : Int32) = nI 5) _ _ (rfl : (3 : Int32) = nI 3) _ _ (rfl : (0 : Int32) = nI 0) _ _ (rfl : (0 : Int32) = nI 0) q)) h (fun v0 T1 h2 => G113_353 k339 hk339 _ _ _ hl1 _ _ rfl h2))
noncomputable def F113_414  (l0 : Nat) (l1 : Nat) (T : fS) : Option fR := (some ((.inl (some (.inl 0)), T) : fR))
theorem G113_414 {z : Option mm_O} {T : fS} {r : fR}  (l0 : Nat) (xl1 : Int32) (l1 : Nat) (hl1 : xl1 = nI l1) (h : F113_414  l0 l1 T = some r) : mm_L 113 414 [.ref l0, .int xl1] [] (toS z T) = some (tR z r) := by
  unfold F113_414 at h
  refine Eq.trans (e113_414 ..) ?_
  exact (fb_pos (by decide) (fr_i (rfl : (0 : Int32) = nI 0) h))
noncomputable def F113_416 (k369 : Nat → Nat → fS → Option fR) (l0 : Nat) (l1 : Nat) (T : fS) : Option fR := (k369 l0 (iA l1 1) T)
theorem G113_416 {z : Option mm_O} {T : fS} {r : fR} (k369 : Nat → Nat → fS → Option fR) (hk369 : ∀ (l0 : Nat) (xl1 : Int32) (l1 : Nat) (hl1 : xl1 = nI l1) (T : fS) (r : fR), k369 l0 l1 T = some r → mm_L 113 369 [.ref l0, .int xl1] [] (toS z T) = some (tR z r)) (l0 : Nat) (xl1 : Int32) (l1 : Nat) (hl1 : xl1 = nI l1) (h : F113_416 k369 l0 l1 T = some r) : mm_L 113 416 [.ref l0, .int xl1] [] (toS z T) = some (tR z r) := by
  unfold F113_416 at h
  refine Eq.trans (e113_416 ..) ?_
  exact (hk369 _ _ _ (iA_ok hl1 (rfl : (1 : Int32) = nI 1)) _ _ h)
noncomputable def F113_411 (k369 : Nat → Nat → fS → Option fR) (l0 : Nat) (l1 : Nat) (s0 : Nat) (s1 : Nat) (T : fS) : Option fR := (fif (ieq s1 s0) (F113_416 k369 l0 l1 T) (F113_414  l0 l1 T))
theorem G113_411 {z : Option mm_O} {T : fS} {r : fR} (k369 : Nat → Nat → fS → Option fR) (hk369 : ∀ (l0 : Nat) (xl1 : Int32) (l1 : Nat) (hl1 : xl1 = nI l1) (T : fS) (r : fR), k369 l0 l1 T = some r → mm_L 113 369 [.ref l0, .int xl1] [] (toS z T) = some (tR z r)) (l0 : Nat) (xl1 : Int32) (l1 : Nat) (hl1 : xl1 = nI l1) (xs0 : Int32) (s0 : Nat) (hs0 : xs0 = nI s0) (xs1 : Int32) (s1 : Nat) (hs1 : xs1 = nI s1) (h : F113_411 k369 l0 l1 s0 s1 T = some r) : mm_L 113 411 [.ref l0, .int xl1] [.int xs0, .int xs1] (toS z T) = some (tR z r) := by
  unfold F113_411 at h
  refine Eq.trans (e113_411 ..) ?_
  exact (fb_if (cj_eq hs1 hs0) h (fun h1 => (G113_416 k369 hk369 _ _ _ hl1 h1)) (fun h1 => (G113_414  _ _ _ hl1 h1)))
noncomputable def F113_403 (k369 : Nat → Nat → fS → Option fR) (l0 : Nat) (l1 : Nat) (s0 : Nat) (T : fS) : Option fR := (F113_411 k369 l0 l1 (iA l1 1) s0 T)
theorem G113_403 {z : Option mm_O} {T : fS} {r : fR} (k369 : Nat → Nat → fS → Option fR) (hk369 : ∀ (l0 : Nat) (xl1 : Int32) (l1 : Nat) (hl1 : xl1 = nI l1) (T : fS) (r : fR), k369 l0 l1 T = some r → mm_L 113 369 [.ref l0, .int xl1] [] (toS z T) = some (tR z r)) (l0 : Nat) (xl1 : Int32) (l1 : Nat) (hl1 : xl1 = nI l1) (xs0 : Int32) (s0 : Nat) (hs0 : xs0 = nI s0) (h : F113_403 k369 l0 l1 s0 T = some r) : mm_L 113 403 [.ref l0, .int xl1] [.int xs0] (toS z T) = some (tR z r) := by
  unfold F113_403 at h
  refine Eq.trans (e113_403 ..) ?_
  exact (G113_411 k369 hk369 _ _ _ hl1 _ _ (iA_ok hl1 (rfl : (1 : Int32) = nI 1)) _ _ hs0 h)
noncomputable def F113_409 (k369 : Nat → Nat → fS → Option fR) (l0 : Nat) (l1 : Nat) (s0 : Nat) (T : fS) : Option fR := (F113_411 k369 l0 l1 4294967223 s0 T)
theorem G113_409 {z : Option mm_O} {T : fS} {r : fR} (k369 : Nat → Nat → fS → Option fR) (hk369 : ∀ (l0 : Nat) (xl1 : Int32) (l1 : Nat) (hl1 : xl1 = nI l1) (T : fS) (r : fR), k369 l0 l1 T = some r → mm_L 113 369 [.ref l0, .int xl1] [] (toS z T) = some (tR z r)) (l0 : Nat) (xl1 : Int32) (l1 : Nat) (hl1 : xl1 = nI l1) (xs0 : Int32) (s0 : Nat) (hs0 : xs0 = nI s0) (h : F113_409 k369 l0 l1 s0 T = some r) : mm_L 113 409 [.ref l0, .int xl1] [.int xs0] (toS z T) = some (tR z r) := by
  unfold F113_409 at h
  refine Eq.trans (e113_409 ..) ?_
  exact (G113_411 k369 hk369 _ _ _ hl1 _ _ (by decide : (-73 : Int32) = nI 4294967223) _ _ hs0 h)
noncomputable def F113_397 (k369 : Nat → Nat → fS → Option fR) (l0 : Nat) (l1 : Nat) (s0 : Nat) (T : fS) : Option fR := (fif (ile 8 l1) (F113_409 k369 l0 l1 s0 T) (F113_403 k369 l0 l1 s0 T))
theorem G113_397 {z : Option mm_O} {T : fS} {r : fR} (k369 : Nat → Nat → fS → Option fR) (hk369 : ∀ (l0 : Nat) (xl1 : Int32) (l1 : Nat) (hl1 : xl1 = nI l1) (T : fS) (r : fR), k369 l0 l1 T = some r → mm_L 113 369 [.ref l0, .int xl1] [] (toS z T) = some (tR z r)) (l0 : Nat) (xl1 : Int32) (l1 : Nat) (hl1 : xl1 = nI l1) (xs0 : Int32) (s0 : Nat) (hs0 : xs0 = nI s0) (h : F113_397 k369 l0 l1 s0 T = some r) : mm_L 113 397 [.ref l0, .int xl1] [.int xs0] (toS z T) = some (tR z r) := by
  unfold F113_397 at h
  refine Eq.trans (e113_397 ..) ?_
  exact (fb_if (cj_le (rfl : (8 : Int32) = nI 8) hl1) h (fun h1 => (G113_409 k369 hk369 _ _ _ hl1 _ _ hs0 h1)) (fun h1 => (G113_403 k369 hk369 _ _ _ hl1 _ _ hs0 h1)))
noncomputable def F113_391 (k369 : Nat → Nat → fS → Option fR) (l0 : Nat) (l1 : Nat) (s0 : Nat) (s1 : Nat) (s2 : Nat) (T : fS) : Option fR := (fKi true (F106_0 s2 s1 s0 l1 l1 0 T) (fun v0 T1 => F113_397 k369 l0 l1 v0 T1))
theorem G113_391 {z : Option mm_O} {T : fS} {r : fR} (k369 : Nat → Nat → fS → Option fR) (hk369 : ∀ (l0 : Nat) (xl1 : Int32) (l1 : Nat) (hl1 : xl1 = nI l1) (T : fS) (r : fR), k369 l0 l1 T = some r → mm_L 113 369 [.ref l0, .int xl1] [] (toS z T) = some (tR z r)) (l0 : Nat) (xl1 : Int32) (l1 : Nat) (hl1 : xl1 = nI l1) (xs0 : Int32) (s0 : Nat) (hs0 : xs0 = nI s0) (xs1 : Int32) (s1 : Nat) (hs1 : xs1 = nI s1) (s2 : Nat) (h : F113_391 k369 l0 l1 s0 s1 s2 T = some r) : mm_L 113 391 [.ref l0, .int xl1] [.int xs0, .int xs1, .ref s2] (toS z T) = some (tR z r) := by
  unfold F113_391 at h
  refine Eq.trans (e113_391 ..) ?_
  exact (fb_K0i (fun _ q => GM106 _ _ _ hs1 _ _ hs0 _ _ hl1 _ _ hl1 _ _ (rfl : (0 : Int32) = nI 0) q) h (fun v0 T1 h2 => G113_397 k369 hk369 _ _ _ hl1 _ _ rfl h2))
noncomputable def F113_384 (k369 : Nat → Nat → fS → Option fR) (l0 : Nat) (l1 : Nat) (s0 : Nat) (s1 : Nat) (T : fS) : Option fR := (F113_391 k369 l0 l1 2 s0 s1 T)
theorem G113_384 {z : Option mm_O} {T : fS} {r : fR} (k369 : Nat → Nat → fS → Option fR) (hk369 : ∀ (l0 : Nat) (xl1 : Int32) (l1 : Nat) (hl1 : xl1 = nI l1) (T : fS) (r : fR), k369 l0 l1 T = some r → mm_L 113 369 [.ref l0, .int xl1] [] (toS z T) = some (tR z r)) (l0 : Nat) (xl1 : Int32) (l1 : Nat) (hl1 : xl1 = nI l1) (xs0 : Int32) (s0 : Nat) (hs0 : xs0 = nI s0) (s1 : Nat) (h : F113_384 k369 l0 l1 s0 s1 T = some r) : mm_L 113 384 [.ref l0, .int xl1] [.int xs0, .ref s1] (toS z T) = some (tR z r) := by
  unfold F113_384 at h
  refine Eq.trans (e113_384 ..) ?_
  exact (G113_391 k369 hk369 _ _ _ hl1 _ _ (rfl : (2 : Int32) = nI 2) _ _ hs0 _ h)
noncomputable def F113_388 (k369 : Nat → Nat → fS → Option fR) (l0 : Nat) (l1 : Nat) (s0 : Nat) (s1 : Nat) (T : fS) : Option fR := (F113_391 k369 l0 l1 (iS l1 (iM (iF2 (fun x y => x / y) l1 4) 4)) s0 s1 T)
theorem G113_388 {z : Option mm_O} {T : fS} {r : fR} (k369 : Nat → Nat → fS → Option fR) (hk369 : ∀ (l0 : Nat) (xl1 : Int32) (l1 : Nat) (hl1 : xl1 = nI l1) (T : fS) (r : fR), k369 l0 l1 T = some r → mm_L 113 369 [.ref l0, .int xl1] [] (toS z T) = some (tR z r)) (l0 : Nat) (xl1 : Int32) (l1 : Nat) (hl1 : xl1 = nI l1) (xs0 : Int32) (s0 : Nat) (hs0 : xs0 = nI s0) (s1 : Nat) (h : F113_388 k369 l0 l1 s0 s1 T = some r) : mm_L 113 388 [.ref l0, .int xl1] [.int xs0, .ref s1] (toS z T) = some (tR z r) := by
  unfold F113_388 at h
  refine Eq.trans (e113_388 ..) ?_
  exact (G113_391 k369 hk369 _ _ _ hl1 _ _ (iS_ok hl1 (iM_ok (iF2_ok (f := (fun x y => x / y)) hl1 (rfl : (4 : Int32) = nI 4)) (rfl : (4 : Int32) = nI 4))) _ _ hs0 _ h)
noncomputable def F113_375 (k369 : Nat → Nat → fS → Option fR) (l0 : Nat) (l1 : Nat) (T : fS) : Option fR := (fif (ieq (iS l1 (iM (iF2 (fun x y => x / y) l1 4) 4)) 1) (F113_384 k369 l0 l1 4 l0 T) (F113_388 k369 l0 l1 4 l0 T))
theorem G113_375 {z : Option mm_O} {T : fS} {r : fR} (k369 : Nat → Nat → fS → Option fR) (hk369 : ∀ (l0 : Nat) (xl1 : Int32) (l1 : Nat) (hl1 : xl1 = nI l1) (T : fS) (r : fR), k369 l0 l1 T = some r → mm_L 113 369 [.ref l0, .int xl1] [] (toS z T) = some (tR z r)) (l0 : Nat) (xl1 : Int32) (l1 : Nat) (hl1 : xl1 = nI l1) (h : F113_375 k369 l0 l1 T = some r) : mm_L 113 375 [.ref l0, .int xl1] [] (toS z T) = some (tR z r) := by
  unfold F113_375 at h
  refine Eq.trans (e113_375 ..) ?_
  exact (fb_if (cj_eq (iS_ok hl1 (iM_ok (iF2_ok (f := (fun x y => x / y)) hl1 (rfl : (4 : Int32) = nI 4)) (rfl : (4 : Int32) = nI 4))) (rfl : (1 : Int32) = nI 1)) h (fun h1 => (G113_384 k369 hk369 _ _ _ hl1 _ _ (rfl : (4 : Int32) = nI 4) _ h1)) (fun h1 => (G113_388 k369 hk369 _ _ _ hl1 _ _ (rfl : (4 : Int32) = nI 4) _ h1)))
noncomputable def F113_432  (l0 : Nat) (l1 : Nat) (s0 : Nat) (T : fS) : Option fR := (fif (Bool.rec (motive := fun _ => Bool) (ieq s0 1) true (ieq s0 0)) (some ((.inl (some (.inl s0)), T) : fR)) (none : Option fR))
theorem G113_432 {z : Option mm_O} {T : fS} {r : fR}  (l0 : Nat) (xl1 : Int32) (l1 : Nat) (hl1 : xl1 = nI l1) (xs0 : Int32) (s0 : Nat) (hs0 : xs0 = nI s0) (h : F113_432  l0 l1 s0 T = some r) : mm_L 113 432 [.ref l0, .int xl1] [.int xs0] (toS z T) = some (tR z r) := by
  unfold F113_432 at h
  refine Eq.trans (e113_432 ..) ?_
  exact (fb_if (cj_01 hs0) h (fun h1 => (fr_i hs0 h1)) (fun h1 => (fr_n h1)))
noncomputable def F113_422  (l0 : Nat) (l1 : Nat) (T : fS) : Option fR := (fKi true (F110_0 l0 30 14 1 0 T) (fun v0 T1 => F113_432  l0 l1 v0 T1))
theorem G113_422 {z : Option mm_O} {T : fS} {r : fR}  (l0 : Nat) (xl1 : Int32) (l1 : Nat) (hl1 : xl1 = nI l1) (h : F113_422  l0 l1 T = some r) : mm_L 113 422 [.ref l0, .int xl1] [] (toS z T) = some (tR z r) := by
  unfold F113_422 at h
  refine Eq.trans (e113_422 ..) ?_
  exact (fb_K0i (fun _ q => GM110 _ _ _ (rfl : (30 : Int32) = nI 30) _ _ (rfl : (14 : Int32) = nI 14) _ _ (rfl : (1 : Int32) = nI 1) _ _ (rfl : (0 : Int32) = nI 0) q) h (fun v0 T1 h2 => G113_432  _ _ _ hl1 _ _ rfl h2))
noncomputable def F113_369 (k369 : Nat → Nat → fS → Option fR) (l0 : Nat) (l1 : Nat) (T : fS) : Option fR := (fif (ile 9 l1) (F113_422  l0 l1 T) (F113_375 k369 l0 l1 T))
theorem G113_369 {z : Option mm_O} {T : fS} {r : fR} (k369 : Nat → Nat → fS → Option fR) (hk369 : ∀ (l0 : Nat) (xl1 : Int32) (l1 : Nat) (hl1 : xl1 = nI l1) (T : fS) (r : fR), k369 l0 l1 T = some r → mm_L 113 369 [.ref l0, .int xl1] [] (toS z T) = some (tR z r)) (l0 : Nat) (xl1 : Int32) (l1 : Nat) (hl1 : xl1 = nI l1) (h : F113_369 k369 l0 l1 T = some r) : mm_L 113 369 [.ref l0, .int xl1] [] (toS z T) = some (tR z r) := by
  unfold F113_369 at h
  refine Eq.trans (e113_369 ..) ?_
  exact (fb_if (cj_le (rfl : (9 : Int32) = nI 9) hl1) h (fun h1 => (G113_422  _ _ _ hl1 h1)) (fun h1 => (G113_375 k369 hk369 _ _ _ hl1 h1)))
noncomputable def H113_369  (n : Nat) : Nat → Nat → fS → Option fR := Nat.rec (motive := fun _ => Nat → Nat → fS → Option fR) (fun _ _ _ => none) (fun _ ih => F113_369 ih) n
theorem HG113_369 {z : Option mm_O}  : ∀ (n : Nat) (l0 : Nat) (xl1 : Int32) (l1 : Nat) (hl1 : xl1 = nI l1) {T : fS} {r : fR}, H113_369  n l0 l1 T = some r → mm_L 113 369 [.ref l0, .int xl1] [] (toS z T) = some (tR z r) := by
  intro n
  induction n with
  | zero =>
    intro l0 xl1 l1 hl1 T r h
    exact fr_n h
  | succ n ih =>
    intro l0 xl1 l1 hl1 T r h
    exact G113_369 (H113_369  n) (fun l0 xl1 l1 hl1 T r h => ih l0 xl1 l1 hl1 h) l0 xl1 l1 hl1 h
noncomputable def F113_367  (l0 : Nat) (l1 : Nat) (T : fS) : Option fR := (H113_369  300 l0 0 T)
theorem G113_367 {z : Option mm_O} {T : fS} {r : fR}  (l0 : Nat) (xl1 : Int32) (l1 : Nat) (hl1 : xl1 = nI l1) (h : F113_367  l0 l1 T = some r) : mm_L 113 367 [.ref l0, .int xl1] [] (toS z T) = some (tR z r) := by
  unfold F113_367 at h
  refine Eq.trans (e113_367 ..) ?_
  exact (HG113_369  300 _ _ _ (rfl : (0 : Int32) = nI 0) h)
noncomputable def F113_339 (k339 : Nat → Nat → fS → Option fR) (l0 : Nat) (l1 : Nat) (T : fS) : Option fR := (fif (ile 14 l1) (F113_367  l0 l1 T) (F113_345 k339 l0 l1 T))
theorem G113_339 {z : Option mm_O} {T : fS} {r : fR} (k339 : Nat → Nat → fS → Option fR) (hk339 : ∀ (l0 : Nat) (xl1 : Int32) (l1 : Nat) (hl1 : xl1 = nI l1) (T : fS) (r : fR), k339 l0 l1 T = some r → mm_L 113 339 [.ref l0, .int xl1] [] (toS z T) = some (tR z r)) (l0 : Nat) (xl1 : Int32) (l1 : Nat) (hl1 : xl1 = nI l1) (h : F113_339 k339 l0 l1 T = some r) : mm_L 113 339 [.ref l0, .int xl1] [] (toS z T) = some (tR z r) := by
  unfold F113_339 at h
  refine Eq.trans (e113_339 ..) ?_
  exact (fb_if (cj_le (rfl : (14 : Int32) = nI 14) hl1) h (fun h1 => (G113_367  _ _ _ hl1 h1)) (fun h1 => (G113_345 k339 hk339 _ _ _ hl1 h1)))
noncomputable def H113_339  (n : Nat) : Nat → Nat → fS → Option fR := Nat.rec (motive := fun _ => Nat → Nat → fS → Option fR) (fun _ _ _ => none) (fun _ ih => F113_339 ih) n
theorem HG113_339 {z : Option mm_O}  : ∀ (n : Nat) (l0 : Nat) (xl1 : Int32) (l1 : Nat) (hl1 : xl1 = nI l1) {T : fS} {r : fR}, H113_339  n l0 l1 T = some r → mm_L 113 339 [.ref l0, .int xl1] [] (toS z T) = some (tR z r) := by
  intro n
  induction n with
  | zero =>
    intro l0 xl1 l1 hl1 T r h
    exact fr_n h
  | succ n ih =>
    intro l0 xl1 l1 hl1 T r h
    exact G113_339 (H113_339  n) (fun l0 xl1 l1 hl1 T r h => ih l0 xl1 l1 hl1 h) l0 xl1 l1 hl1 h
noncomputable def F113_337  (l0 : Nat) (l1 : Nat) (T : fS) : Option fR := (H113_339  300 l0 1 T)
theorem G113_337 {z : Option mm_O} {T : fS} {r : fR}  (l0 : Nat) (xl1 : Int32) (l1 : Nat) (hl1 : xl1 = nI l1) (h : F113_337  l0 l1 T = some r) : mm_L 113 337 [.ref l0, .int xl1] [] (toS z T) = some (tR z r) := by
  unfold F113_337 at h
  refine Eq.trans (e113_337 ..) ?_
  exact (HG113_339  300 _ _ _ (rfl : (1 : Int32) = nI 1) h)
noncomputable def F113_239 (k239 : Nat → Nat → fS → Option fR) (l0 : Nat) (l1 : Nat) (T : fS) : Option fR := (fif (ile 9 l1) (F113_337  l0 l1 T) (F113_245 k239 l0 l1 T))
theorem G113_239 {z : Option mm_O} {T : fS} {r : fR} (k239 : Nat → Nat → fS → Option fR) (hk239 : ∀ (l0 : Nat) (xl1 : Int32) (l1 : Nat) (hl1 : xl1 = nI l1) (T : fS) (r : fR), k239 l0 l1 T = some r → mm_L 113 239 [.ref l0, .int xl1] [] (toS z T) = some (tR z r)) (l0 : Nat) (xl1 : Int32) (l1 : Nat) (hl1 : xl1 = nI l1) (h : F113_239 k239 l0 l1 T = some r) : mm_L 113 239 [.ref l0, .int xl1] [] (toS z T) = some (tR z r) := by
  unfold F113_239 at h
  refine Eq.trans (e113_239 ..) ?_
  exact (fb_if (cj_le (rfl : (9 : Int32) = nI 9) hl1) h (fun h1 => (G113_337  _ _ _ hl1 h1)) (fun h1 => (G113_245 k239 hk239 _ _ _ hl1 h1)))
noncomputable def H113_239  (n : Nat) : Nat → Nat → fS → Option fR := Nat.rec (motive := fun _ => Nat → Nat → fS → Option fR) (fun _ _ _ => none) (fun _ ih => F113_239 ih) n
theorem HG113_239 {z : Option mm_O}  : ∀ (n : Nat) (l0 : Nat) (xl1 : Int32) (l1 : Nat) (hl1 : xl1 = nI l1) {T : fS} {r : fR}, H113_239  n l0 l1 T = some r → mm_L 113 239 [.ref l0, .int xl1] [] (toS z T) = some (tR z r) := by
  intro n
  induction n with
  | zero =>
    intro l0 xl1 l1 hl1 T r h
    exact fr_n h
  | succ n ih =>
    intro l0 xl1 l1 hl1 T r h
    exact G113_239 (H113_239  n) (fun l0 xl1 l1 hl1 T r h => ih l0 xl1 l1 hl1 h) l0 xl1 l1 hl1 h
noncomputable def F113_237  (l0 : Nat) (l1 : Nat) (T : fS) : Option fR := (H113_239  300 l0 0 T)
theorem G113_237 {z : Option mm_O} {T : fS} {r : fR}  (l0 : Nat) (xl1 : Int32) (l1 : Nat) (hl1 : xl1 = nI l1) (h : F113_237  l0 l1 T = some r) : mm_L 113 237 [.ref l0, .int xl1] [] (toS z T) = some (tR z r) := by
  unfold F113_237 at h
  refine Eq.trans (e113_237 ..) ?_
  exact (HG113_239  300 _ _ _ (rfl : (0 : Int32) = nI 0) h)
noncomputable def F113_231  (l0 : Nat) (l1 : Nat) (s0 : Nat) (T : fS) : Option fR := (fif (ieq s0 1) (F113_237  l0 l1 T) (F113_235  l0 l1 T))
theorem G113_231 {z : Option mm_O} {T : fS} {r : fR}  (l0 : Nat) (xl1 : Int32) (l1 : Nat) (hl1 : xl1 = nI l1) (xs0 : Int32) (s0 : Nat) (hs0 : xs0 = nI s0) (h : F113_231  l0 l1 s0 T = some r) : mm_L 113 231 [.ref l0, .int xl1] [.int xs0] (toS z T) = some (tR z r) := by
  unfold F113_231 at h
  refine Eq.trans (e113_231 ..) ?_
  exact (fb_if (cj_eq hs0 (rfl : (1 : Int32) = nI 1)) h (fun h1 => (G113_237  _ _ _ hl1 h1)) (fun h1 => (G113_235  _ _ _ hl1 h1)))
noncomputable def F113_225  (l0 : Nat) (l1 : Nat) (T : fS) : Option fR := (fKi true (fif (fch T l0 6) (F70_0 l0 1 2 T) none) (fun v0 T1 => F113_231  l0 l1 v0 T1))
theorem G113_225 {z : Option mm_O} {T : fS} {r : fR}  (l0 : Nat) (xl1 : Int32) (l1 : Nat) (hl1 : xl1 = nI l1) (h : F113_225  l0 l1 T = some r) : mm_L 113 225 [.ref l0, .int xl1] [] (toS z T) = some (tR z r) := by
  unfold F113_225 at h
  refine Eq.trans (e113_225 ..) ?_
  exact (fb_K0i (fun _ q => fb_mo (y := 70) ow_70 q (fun q => GM70 _ _ _ (rfl : (1 : Int32) = nI 1) _ _ (rfl : (2 : Int32) = nI 2) q)) h (fun v0 T1 h2 => G113_231  _ _ _ hl1 _ _ rfl h2))
noncomputable def F113_220  (l0 : Nat) (l1 : Nat) (s0 : Nat) (T : fS) : Option fR := (fif (ieq s0 8) (F113_225  l0 l1 T) (F113_235  l0 l1 T))
theorem G113_220 {z : Option mm_O} {T : fS} {r : fR}  (l0 : Nat) (xl1 : Int32) (l1 : Nat) (hl1 : xl1 = nI l1) (xs0 : Int32) (s0 : Nat) (hs0 : xs0 = nI s0) (h : F113_220  l0 l1 s0 T = some r) : mm_L 113 220 [.ref l0, .int xl1] [.int xs0] (toS z T) = some (tR z r) := by
  unfold F113_220 at h
  refine Eq.trans (e113_220 ..) ?_
  exact (fb_if (cj_eq hs0 (rfl : (8 : Int32) = nI 8)) h (fun h1 => (G113_225  _ _ _ hl1 h1)) (fun h1 => (G113_235  _ _ _ hl1 h1)))
noncomputable def F113_214  (l0 : Nat) (l1 : Nat) (T : fS) : Option fR := (fKi true (fif (fch T l0 6) (F70_0 l0 1 1 T) none) (fun v0 T1 => F113_220  l0 l1 v0 T1))
theorem G113_214 {z : Option mm_O} {T : fS} {r : fR}  (l0 : Nat) (xl1 : Int32) (l1 : Nat) (hl1 : xl1 = nI l1) (h : F113_214  l0 l1 T = some r) : mm_L 113 214 [.ref l0, .int xl1] [] (toS z T) = some (tR z r) := by
  unfold F113_214 at h
  refine Eq.trans (e113_214 ..) ?_
  exact (fb_K0i (fun _ q => fb_mo (y := 70) ow_70 q (fun q => GM70 _ _ _ (rfl : (1 : Int32) = nI 1) _ _ (rfl : (1 : Int32) = nI 1) q)) h (fun v0 T1 h2 => G113_220  _ _ _ hl1 _ _ rfl h2))
noncomputable def F113_210  (l0 : Nat) (l1 : Nat) (s0 : Nat) (T : fS) : Option fR := (fif (ieq s0 1) (F113_214  l0 l1 T) (F113_235  l0 l1 T))
theorem G113_210 {z : Option mm_O} {T : fS} {r : fR}  (l0 : Nat) (xl1 : Int32) (l1 : Nat) (hl1 : xl1 = nI l1) (xs0 : Int32) (s0 : Nat) (hs0 : xs0 = nI s0) (h : F113_210  l0 l1 s0 T = some r) : mm_L 113 210 [.ref l0, .int xl1] [.int xs0] (toS z T) = some (tR z r) := by
  unfold F113_210 at h
  refine Eq.trans (e113_210 ..) ?_
  exact (fb_if (cj_eq hs0 (rfl : (1 : Int32) = nI 1)) h (fun h1 => (G113_214  _ _ _ hl1 h1)) (fun h1 => (G113_235  _ _ _ hl1 h1)))
noncomputable def F113_204  (l0 : Nat) (l1 : Nat) (T : fS) : Option fR := (fKi true (fif (fch T l0 6) (F68_0 l0 1 5 T) none) (fun v0 T1 => F113_210  l0 l1 v0 T1))
theorem G113_204 {z : Option mm_O} {T : fS} {r : fR}  (l0 : Nat) (xl1 : Int32) (l1 : Nat) (hl1 : xl1 = nI l1) (h : F113_204  l0 l1 T = some r) : mm_L 113 204 [.ref l0, .int xl1] [] (toS z T) = some (tR z r) := by
  unfold F113_204 at h
  refine Eq.trans (e113_204 ..) ?_
  exact (fb_K0i (fun _ q => fb_mo (y := 68) ow_68 q (fun q => GM68 _ _ _ (rfl : (1 : Int32) = nI 1) _ _ (rfl : (5 : Int32) = nI 5) q)) h (fun v0 T1 h2 => G113_210  _ _ _ hl1 _ _ rfl h2))
noncomputable def F113_200  (l0 : Nat) (l1 : Nat) (s0 : Nat) (T : fS) : Option fR := (fif (ieq s0 1) (F113_204  l0 l1 T) (F113_235  l0 l1 T))
theorem G113_200 {z : Option mm_O} {T : fS} {r : fR}  (l0 : Nat) (xl1 : Int32) (l1 : Nat) (hl1 : xl1 = nI l1) (xs0 : Int32) (s0 : Nat) (hs0 : xs0 = nI s0) (h : F113_200  l0 l1 s0 T = some r) : mm_L 113 200 [.ref l0, .int xl1] [.int xs0] (toS z T) = some (tR z r) := by
  unfold F113_200 at h
  refine Eq.trans (e113_200 ..) ?_
  exact (fb_if (cj_eq hs0 (rfl : (1 : Int32) = nI 1)) h (fun h1 => (G113_204  _ _ _ hl1 h1)) (fun h1 => (G113_235  _ _ _ hl1 h1)))
noncomputable def F113_194  (l0 : Nat) (l1 : Nat) (T : fS) : Option fR := (fKi true (fif (fch T l0 6) (F68_0 l0 0 5 T) none) (fun v0 T1 => F113_200  l0 l1 v0 T1))
theorem G113_194 {z : Option mm_O} {T : fS} {r : fR}  (l0 : Nat) (xl1 : Int32) (l1 : Nat) (hl1 : xl1 = nI l1) (h : F113_194  l0 l1 T = some r) : mm_L 113 194 [.ref l0, .int xl1] [] (toS z T) = some (tR z r) := by
  unfold F113_194 at h
  refine Eq.trans (e113_194 ..) ?_
  exact (fb_K0i (fun _ q => fb_mo (y := 68) ow_68 q (fun q => GM68 _ _ _ (rfl : (0 : Int32) = nI 0) _ _ (rfl : (5 : Int32) = nI 5) q)) h (fun v0 T1 h2 => G113_200  _ _ _ hl1 _ _ rfl h2))
noncomputable def F113_190  (l0 : Nat) (l1 : Nat) (s0 : Nat) (T : fS) : Option fR := (fif (ieq s0 2) (F113_194  l0 l1 T) (F113_235  l0 l1 T))
theorem G113_190 {z : Option mm_O} {T : fS} {r : fR}  (l0 : Nat) (xl1 : Int32) (l1 : Nat) (hl1 : xl1 = nI l1) (xs0 : Int32) (s0 : Nat) (hs0 : xs0 = nI s0) (h : F113_190  l0 l1 s0 T = some r) : mm_L 113 190 [.ref l0, .int xl1] [.int xs0] (toS z T) = some (tR z r) := by
  unfold F113_190 at h
  refine Eq.trans (e113_190 ..) ?_
  exact (fb_if (cj_eq hs0 (rfl : (2 : Int32) = nI 2)) h (fun h1 => (G113_194  _ _ _ hl1 h1)) (fun h1 => (G113_235  _ _ _ hl1 h1)))
noncomputable def F113_181  (l0 : Nat) (l1 : Nat) (T : fS) : Option fR := (fKi true (fif (fch T l0 6) (F36_0 l0 0 8 0 0 T) none) (fun v0 T1 => F113_190  l0 l1 v0 T1))
theorem G113_181 {z : Option mm_O} {T : fS} {r : fR}  (l0 : Nat) (xl1 : Int32) (l1 : Nat) (hl1 : xl1 = nI l1) (h : F113_181  l0 l1 T = some r) : mm_L 113 181 [.ref l0, .int xl1] [] (toS z T) = some (tR z r) := by
  unfold F113_181 at h
  refine Eq.trans (e113_181 ..) ?_
  exact (fb_K0i (fun _ q => fb_mo (y := 36) ow_36 q (fun q => GM36 _ _ _ (rfl : (0 : Int32) = nI 0) _ _ (rfl : (8 : Int32) = nI 8) _ _ (rfl : (0 : Int32) = nI 0) _ _ (rfl : (0 : Int32) = nI 0) q)) h (fun v0 T1 h2 => G113_190  _ _ _ hl1 _ _ rfl h2))
noncomputable def F113_177  (l0 : Nat) (l1 : Nat) (s0 : Nat) (T : fS) : Option fR := (fif (ieq s0 1) (F113_181  l0 l1 T) (F113_235  l0 l1 T))
theorem G113_177 {z : Option mm_O} {T : fS} {r : fR}  (l0 : Nat) (xl1 : Int32) (l1 : Nat) (hl1 : xl1 = nI l1) (xs0 : Int32) (s0 : Nat) (hs0 : xs0 = nI s0) (h : F113_177  l0 l1 s0 T = some r) : mm_L 113 177 [.ref l0, .int xl1] [.int xs0] (toS z T) = some (tR z r) := by
  unfold F113_177 at h
  refine Eq.trans (e113_177 ..) ?_
  exact (fb_if (cj_eq hs0 (rfl : (1 : Int32) = nI 1)) h (fun h1 => (G113_181  _ _ _ hl1 h1)) (fun h1 => (G113_235  _ _ _ hl1 h1)))
noncomputable def F113_168  (l0 : Nat) (l1 : Nat) (T : fS) : Option fR := (fKi true (fif (fch T l0 6) (F36_0 l0 0 8 0 0 T) none) (fun v0 T1 => F113_177  l0 l1 v0 T1))
theorem G113_168 {z : Option mm_O} {T : fS} {r : fR}  (l0 : Nat) (xl1 : Int32) (l1 : Nat) (hl1 : xl1 = nI l1) (h : F113_168  l0 l1 T = some r) : mm_L 113 168 [.ref l0, .int xl1] [] (toS z T) = some (tR z r) := by
  unfold F113_168 at h
  refine Eq.trans (e113_168 ..) ?_
  exact (fb_K0i (fun _ q => fb_mo (y := 36) ow_36 q (fun q => GM36 _ _ _ (rfl : (0 : Int32) = nI 0) _ _ (rfl : (8 : Int32) = nI 8) _ _ (rfl : (0 : Int32) = nI 0) _ _ (rfl : (0 : Int32) = nI 0) q)) h (fun v0 T1 h2 => G113_177  _ _ _ hl1 _ _ rfl h2))
noncomputable def F113_163  (l0 : Nat) (l1 : Nat) (s0 : Nat) (T : fS) : Option fR := (fif (ieq s0 14) (F113_168  l0 l1 T) (F113_235  l0 l1 T))
theorem G113_163 {z : Option mm_O} {T : fS} {r : fR}  (l0 : Nat) (xl1 : Int32) (l1 : Nat) (hl1 : xl1 = nI l1) (xs0 : Int32) (s0 : Nat) (hs0 : xs0 = nI s0) (h : F113_163  l0 l1 s0 T = some r) : mm_L 113 163 [.ref l0, .int xl1] [.int xs0] (toS z T) = some (tR z r) := by
  unfold F113_163 at h
  refine Eq.trans (e113_163 ..) ?_
  exact (fb_if (cj_eq hs0 (rfl : (14 : Int32) = nI 14)) h (fun h1 => (G113_168  _ _ _ hl1 h1)) (fun h1 => (G113_235  _ _ _ hl1 h1)))
noncomputable def F113_159  (l0 : Nat) (l1 : Nat) (T : fS) : Option fR := (fKi true (fif (fch T l0 6) (F37_0 l0  T) none) (fun v0 T1 => F113_163  l0 l1 v0 T1))
theorem G113_159 {z : Option mm_O} {T : fS} {r : fR}  (l0 : Nat) (xl1 : Int32) (l1 : Nat) (hl1 : xl1 = nI l1) (h : F113_159  l0 l1 T = some r) : mm_L 113 159 [.ref l0, .int xl1] [] (toS z T) = some (tR z r) := by
  unfold F113_159 at h
  refine Eq.trans (e113_159 ..) ?_
  exact (fb_K0i (fun _ q => fb_mo (y := 37) ow_37 q (fun q => GM37 _  q)) h (fun v0 T1 h2 => G113_163  _ _ _ hl1 _ _ rfl h2))
noncomputable def F113_154  (l0 : Nat) (l1 : Nat) (s0 : Nat) (T : fS) : Option fR := (fif (ieq s0 8) (F113_159  l0 l1 T) (F113_235  l0 l1 T))
theorem G113_154 {z : Option mm_O} {T : fS} {r : fR}  (l0 : Nat) (xl1 : Int32) (l1 : Nat) (hl1 : xl1 = nI l1) (xs0 : Int32) (s0 : Nat) (hs0 : xs0 = nI s0) (h : F113_154  l0 l1 s0 T = some r) : mm_L 113 154 [.ref l0, .int xl1] [.int xs0] (toS z T) = some (tR z r) := by
  unfold F113_154 at h
  refine Eq.trans (e113_154 ..) ?_
  exact (fb_if (cj_eq hs0 (rfl : (8 : Int32) = nI 8)) h (fun h1 => (G113_159  _ _ _ hl1 h1)) (fun h1 => (G113_235  _ _ _ hl1 h1)))
noncomputable def F113_148  (l0 : Nat) (l1 : Nat) (T : fS) : Option fR := (fKi true (fif (fch T l0 6) (F70_0 l0 0 1 T) none) (fun v0 T1 => F113_154  l0 l1 v0 T1))
theorem G113_148 {z : Option mm_O} {T : fS} {r : fR}  (l0 : Nat) (xl1 : Int32) (l1 : Nat) (hl1 : xl1 = nI l1) (h : F113_148  l0 l1 T = some r) : mm_L 113 148 [.ref l0, .int xl1] [] (toS z T) = some (tR z r) := by
  unfold F113_148 at h
  refine Eq.trans (e113_148 ..) ?_
  exact (fb_K0i (fun _ q => fb_mo (y := 70) ow_70 q (fun q => GM70 _ _ _ (rfl : (0 : Int32) = nI 0) _ _ (rfl : (1 : Int32) = nI 1) q)) h (fun v0 T1 h2 => G113_154  _ _ _ hl1 _ _ rfl h2))
noncomputable def F113_144  (l0 : Nat) (l1 : Nat) (s0 : Nat) (T : fS) : Option fR := (fif (ieq s0 4294967295) (F113_148  l0 l1 T) (F113_235  l0 l1 T))
theorem G113_144 {z : Option mm_O} {T : fS} {r : fR}  (l0 : Nat) (xl1 : Int32) (l1 : Nat) (hl1 : xl1 = nI l1) (xs0 : Int32) (s0 : Nat) (hs0 : xs0 = nI s0) (h : F113_144  l0 l1 s0 T = some r) : mm_L 113 144 [.ref l0, .int xl1] [.int xs0] (toS z T) = some (tR z r) := by
  unfold F113_144 at h
  refine Eq.trans (e113_144 ..) ?_
  exact (fb_if (cj_eq hs0 (by decide : (-1 : Int32) = nI 4294967295)) h (fun h1 => (G113_148  _ _ _ hl1 h1)) (fun h1 => (G113_235  _ _ _ hl1 h1)))
noncomputable def F113_138  (l0 : Nat) (l1 : Nat) (T : fS) : Option fR := (fKi true (fif (fch T l0 6) (F70_0 l0 2 0 T) none) (fun v0 T1 => F113_144  l0 l1 v0 T1))
theorem G113_138 {z : Option mm_O} {T : fS} {r : fR}  (l0 : Nat) (xl1 : Int32) (l1 : Nat) (hl1 : xl1 = nI l1) (h : F113_138  l0 l1 T = some r) : mm_L 113 138 [.ref l0, .int xl1] [] (toS z T) = some (tR z r) := by
  unfold F113_138 at h
  refine Eq.trans (e113_138 ..) ?_
  exact (fb_K0i (fun _ q => fb_mo (y := 70) ow_70 q (fun q => GM70 _ _ _ (rfl : (2 : Int32) = nI 2) _ _ (rfl : (0 : Int32) = nI 0) q)) h (fun v0 T1 h2 => G113_144  _ _ _ hl1 _ _ rfl h2))
noncomputable def F113_135  (l0 : Nat) (l1 : Nat) (s0 : Nat) (T : fS) : Option fR := (fif (ieq s0 0) (F113_138  l0 l1 T) (F113_235  l0 l1 T))
theorem G113_135 {z : Option mm_O} {T : fS} {r : fR}  (l0 : Nat) (xl1 : Int32) (l1 : Nat) (hl1 : xl1 = nI l1) (xs0 : Int32) (s0 : Nat) (hs0 : xs0 = nI s0) (h : F113_135  l0 l1 s0 T = some r) : mm_L 113 135 [.ref l0, .int xl1] [.int xs0] (toS z T) = some (tR z r) := by
  unfold F113_135 at h
  refine Eq.trans (e113_135 ..) ?_
  exact (fb_if (cj_eq hs0 (rfl : (0 : Int32) = nI 0)) h (fun h1 => (G113_138  _ _ _ hl1 h1)) (fun h1 => (G113_235  _ _ _ hl1 h1)))
noncomputable def F113_129  (l0 : Nat) (l1 : Nat) (T : fS) : Option fR := (fKi true (fif (fch T l0 6) (F68_0 l0 5 5 T) none) (fun v0 T1 => F113_135  l0 l1 v0 T1))
theorem G113_129 {z : Option mm_O} {T : fS} {r : fR}  (l0 : Nat) (xl1 : Int32) (l1 : Nat) (hl1 : xl1 = nI l1) (h : F113_129  l0 l1 T = some r) : mm_L 113 129 [.ref l0, .int xl1] [] (toS z T) = some (tR z r) := by
  unfold F113_129 at h
  refine Eq.trans (e113_129 ..) ?_
  exact (fb_K0i (fun _ q => fb_mo (y := 68) ow_68 q (fun q => GM68 _ _ _ (rfl : (5 : Int32) = nI 5) _ _ (rfl : (5 : Int32) = nI 5) q)) h (fun v0 T1 h2 => G113_135  _ _ _ hl1 _ _ rfl h2))
noncomputable def F113_126  (l0 : Nat) (l1 : Nat) (s0 : Nat) (T : fS) : Option fR := (fif (ieq s0 0) (F113_129  l0 l1 T) (F113_235  l0 l1 T))
theorem G113_126 {z : Option mm_O} {T : fS} {r : fR}  (l0 : Nat) (xl1 : Int32) (l1 : Nat) (hl1 : xl1 = nI l1) (xs0 : Int32) (s0 : Nat) (hs0 : xs0 = nI s0) (h : F113_126  l0 l1 s0 T = some r) : mm_L 113 126 [.ref l0, .int xl1] [.int xs0] (toS z T) = some (tR z r) := by
  unfold F113_126 at h
  refine Eq.trans (e113_126 ..) ?_
  exact (fb_if (cj_eq hs0 (rfl : (0 : Int32) = nI 0)) h (fun h1 => (G113_129  _ _ _ hl1 h1)) (fun h1 => (G113_235  _ _ _ hl1 h1)))
noncomputable def F113_120  (l0 : Nat) (l1 : Nat) (T : fS) : Option fR := (fKi true (fif (fch T l0 6) (F68_0 l0 2 5 T) none) (fun v0 T1 => F113_126  l0 l1 v0 T1))
theorem G113_120 {z : Option mm_O} {T : fS} {r : fR}  (l0 : Nat) (xl1 : Int32) (l1 : Nat) (hl1 : xl1 = nI l1) (h : F113_120  l0 l1 T = some r) : mm_L 113 120 [.ref l0, .int xl1] [] (toS z T) = some (tR z r) := by
  unfold F113_120 at h
  refine Eq.trans (e113_120 ..) ?_
  exact (fb_K0i (fun _ q => fb_mo (y := 68) ow_68 q (fun q => GM68 _ _ _ (rfl : (2 : Int32) = nI 2) _ _ (rfl : (5 : Int32) = nI 5) q)) h (fun v0 T1 h2 => G113_126  _ _ _ hl1 _ _ rfl h2))
noncomputable def F113_68 (k68 : Nat → Nat → fS → Option fR) (l0 : Nat) (l1 : Nat) (T : fS) : Option fR := (fif (ile 15 l1) (F113_120  l0 l1 T) (F113_74 k68 l0 l1 T))
theorem G113_68 {z : Option mm_O} {T : fS} {r : fR} (k68 : Nat → Nat → fS → Option fR) (hk68 : ∀ (l0 : Nat) (xl1 : Int32) (l1 : Nat) (hl1 : xl1 = nI l1) (T : fS) (r : fR), k68 l0 l1 T = some r → mm_L 113 68 [.ref l0, .int xl1] [] (toS z T) = some (tR z r)) (l0 : Nat) (xl1 : Int32) (l1 : Nat) (hl1 : xl1 = nI l1) (h : F113_68 k68 l0 l1 T = some r) : mm_L 113 68 [.ref l0, .int xl1] [] (toS z T) = some (tR z r) := by
  unfold F113_68 at h
  refine Eq.trans (e113_68 ..) ?_
  exact (fb_if (cj_le (rfl : (15 : Int32) = nI 15) hl1) h (fun h1 => (G113_120  _ _ _ hl1 h1)) (fun h1 => (G113_74 k68 hk68 _ _ _ hl1 h1)))
noncomputable def H113_68  (n : Nat) : Nat → Nat → fS → Option fR := Nat.rec (motive := fun _ => Nat → Nat → fS → Option fR) (fun _ _ _ => none) (fun _ ih => F113_68 ih) n
theorem HG113_68 {z : Option mm_O}  : ∀ (n : Nat) (l0 : Nat) (xl1 : Int32) (l1 : Nat) (hl1 : xl1 = nI l1) {T : fS} {r : fR}, H113_68  n l0 l1 T = some r → mm_L 113 68 [.ref l0, .int xl1] [] (toS z T) = some (tR z r) := by
  intro n
  induction n with
  | zero =>
    intro l0 xl1 l1 hl1 T r h
    exact fr_n h
  | succ n ih =>
    intro l0 xl1 l1 hl1 T r h
    exact G113_68 (H113_68  n) (fun l0 xl1 l1 hl1 T r h => ih l0 xl1 l1 hl1 h) l0 xl1 l1 hl1 h
noncomputable def F113_66  (l0 : Nat) (l1 : Nat) (T : fS) : Option fR := (H113_68  300 l0 0 T)
theorem G113_66 {z : Option mm_O} {T : fS} {r : fR}  (l0 : Nat) (xl1 : Int32) (l1 : Nat) (hl1 : xl1 = nI l1) (h : F113_66  l0 l1 T = some r) : mm_L 113 66 [.ref l0, .int xl1] [] (toS z T) = some (tR z r) := by
  unfold F113_66 at h
  refine Eq.trans (e113_66 ..) ?_
  exact (HG113_68  300 _ _ _ (rfl : (0 : Int32) = nI 0) h)
noncomputable def F113_61  (l0 : Nat) (l1 : Nat) (s0 : Nat) (T : fS) : Option fR := (fif (ieq s0 0) (F113_66  l0 l1 T) (F113_64  l0 l1 T))
theorem G113_61 {z : Option mm_O} {T : fS} {r : fR}  (l0 : Nat) (xl1 : Int32) (l1 : Nat) (hl1 : xl1 = nI l1) (xs0 : Int32) (s0 : Nat) (hs0 : xs0 = nI s0) (h : F113_61  l0 l1 s0 T = some r) : mm_L 113 61 [.ref l0, .int xl1] [.int xs0] (toS z T) = some (tR z r) := by
  unfold F113_61 at h
  refine Eq.trans (e113_61 ..) ?_
  exact (fb_if (cj_eq hs0 (rfl : (0 : Int32) = nI 0)) h (fun h1 => (G113_66  _ _ _ hl1 h1)) (fun h1 => (G113_64  _ _ _ hl1 h1)))
noncomputable def F113_56  (l0 : Nat) (l1 : Nat) (T : fS) : Option fR := (fKi true (fif (fch T l0 6) (F57_0 l0 0 T) none) (fun v0 T1 => F113_61  l0 l1 v0 T1))
theorem G113_56 {z : Option mm_O} {T : fS} {r : fR}  (l0 : Nat) (xl1 : Int32) (l1 : Nat) (hl1 : xl1 = nI l1) (h : F113_56  l0 l1 T = some r) : mm_L 113 56 [.ref l0, .int xl1] [] (toS z T) = some (tR z r) := by
  unfold F113_56 at h
  refine Eq.trans (e113_56 ..) ?_
  exact (fb_K0i (fun _ q => fb_mo (y := 57) ow_57 q (fun q => GM57 _ _ _ (rfl : (0 : Int32) = nI 0) q)) h (fun v0 T1 h2 => G113_61  _ _ _ hl1 _ _ rfl h2))
noncomputable def F113_10 (k10 : Nat → Nat → fS → Option fR) (l0 : Nat) (l1 : Nat) (T : fS) : Option fR := (fif (ile 31 l1) (F113_56  l0 l1 T) (F113_16 k10 l0 l1 T))
theorem G113_10 {z : Option mm_O} {T : fS} {r : fR} (k10 : Nat → Nat → fS → Option fR) (hk10 : ∀ (l0 : Nat) (xl1 : Int32) (l1 : Nat) (hl1 : xl1 = nI l1) (T : fS) (r : fR), k10 l0 l1 T = some r → mm_L 113 10 [.ref l0, .int xl1] [] (toS z T) = some (tR z r)) (l0 : Nat) (xl1 : Int32) (l1 : Nat) (hl1 : xl1 = nI l1) (h : F113_10 k10 l0 l1 T = some r) : mm_L 113 10 [.ref l0, .int xl1] [] (toS z T) = some (tR z r) := by
  unfold F113_10 at h
  refine Eq.trans (e113_10 ..) ?_
  exact (fb_if (cj_le (rfl : (31 : Int32) = nI 31) hl1) h (fun h1 => (G113_56  _ _ _ hl1 h1)) (fun h1 => (G113_16 k10 hk10 _ _ _ hl1 h1)))
noncomputable def H113_10  (n : Nat) : Nat → Nat → fS → Option fR := Nat.rec (motive := fun _ => Nat → Nat → fS → Option fR) (fun _ _ _ => none) (fun _ ih => F113_10 ih) n
theorem HG113_10 {z : Option mm_O}  : ∀ (n : Nat) (l0 : Nat) (xl1 : Int32) (l1 : Nat) (hl1 : xl1 = nI l1) {T : fS} {r : fR}, H113_10  n l0 l1 T = some r → mm_L 113 10 [.ref l0, .int xl1] [] (toS z T) = some (tR z r) := by
  intro n
  induction n with
  | zero =>
    intro l0 xl1 l1 hl1 T r h
    exact fr_n h
  | succ n ih =>
    intro l0 xl1 l1 hl1 T r h
    exact G113_10 (H113_10  n) (fun l0 xl1 l1 hl1 T r h => ih l0 xl1 l1 hl1 h) l0 xl1 l1 hl1 h
noncomputable def F113_7  (s0 : Nat) (T : fS) : Option fR := (H113_10  300 s0 0 T)
theorem G113_7 {z : Option mm_O} {T : fS} {r : fR}  (ul0 : Value) (ul1 : Value) (s0 : Nat) (h : F113_7  s0 T = some r) : mm_L 113 7 [ul0, ul1] [.ref s0] (toS z T) = some (tR z r) := by
  unfold F113_7 at h
  refine Eq.trans (e113_7 ..) ?_
  exact (HG113_10  300 _ _ _ (rfl : (0 : Int32) = nI 0) h)
noncomputable def F113_0   (T : fS) : Option fR := (fgd T (fKv false (fif (fch (fnw T (.inl (6, [.inr none, .inr none, .inr none, .inr none, .inr none, .inr none, .inr none, .inr none]) : fO) 8) T.2.1 6) (F23_0 T.2.1  (fnw T (.inl (6, [.inr none, .inr none, .inr none, .inr none, .inr none, .inr none, .inr none, .inr none]) : fO) 8)) none) (fun T1 => F113_7  T.2.1 T1)))
theorem G113_0 {z : Option mm_O} {T : fS} {r : fR}  (ul0 : Value) (ul1 : Value) (h : F113_0   T = some r) : mm_L 113 0 [ul0, ul1] [] (toS z T) = some (tR z r) := by
  unfold F113_0 at h
  refine Eq.trans (e113_0 ..) ?_
  have hg0 := fgd_in h
  replace h := hg0.2
  rw [show mm_new (toS z T) (.inl (6, [.null, .null, .null, .null, .null, .null, .null, .null])) 8 = toS z (fnw T (.inl (6, [.inr none, .inr none, .inr none, .inr none, .inr none, .inr none, .inr none, .inr none]) : fO) 8) from fnw_ok (o := (.inl (6, [.inr none, .inr none, .inr none, .inr none, .inr none, .inr none, .inr none, .inr none]) : fO)) hg0.1]
  exact (fb_K2v (fun _ q => fb_mo (y := 23) ow_23 q (fun q => GM23 _  q)) h (fun T1 h2 => G113_7  _ _ _ h2))
theorem GM113 {z : Option mm_O} {T : fS} {r : fR}  (h : F113_0  T = some r) : mm_M 113 [] (toS z T) = some (tR z r) := Eq.trans (M_113 ..) (G113_0 _ _ h)
