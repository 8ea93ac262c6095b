-- 114: HandArchiveLaw.clips
noncomputable def F114_258  (l0 : Nat) (T : fS) : Option fR := (some ((.inl (some (.inl 0)), T) : fR))
theorem G114_258 {z : Option mm_O} {T : fS} {r : fR}  (l0 : Nat) (ul1 : Value) (h : F114_258  l0 T = some r) : mm_L 114 258 [.ref l0, ul1] [] (toS z T) = some (tR z r) := by
  unfold F114_258 at h
  refine Eq.trans (e114_258 ..) ?_
  exact (fb_pos (by decide) (fr_i (rfl : (0 : Int32) = nI 0) h))
noncomputable def F114_628  (l0 : Nat) (T : fS) : Option fR := (some ((.inl (some (.inl 0)), T) : fR))
theorem G114_628 {z : Option mm_O} {T : fS} {r : fR}  (l0 : Nat) (ul1 : Value) (h : F114_628  l0 T = some r) : mm_L 114 628 [.ref l0, ul1] [] (toS z T) = some (tR z r) := by
  unfold F114_628 at h
  refine Eq.trans (e114_628 ..) ?_
  exact (fb_pos (by decide) (fr_i (rfl : (0 : Int32) = nI 0) h))
noncomputable def F114_675  (l0 : Nat) (l1 : Nat) (T : fS) : Option fR := (some ((.inl (some (.inl 0)), T) : fR))
theorem G114_675 {z : Option mm_O} {T : fS} {r : fR}  (l0 : Nat) (xl1 : Int32) (l1 : Nat) (hl1 : xl1 = nI l1) (h : F114_675  l0 l1 T = some r) : mm_L 114 675 [.ref l0, .int xl1] [] (toS z T) = some (tR z r) := by
  unfold F114_675 at h
  refine Eq.trans (e114_675 ..) ?_
  exact (fb_pos (by decide) (fr_i (rfl : (0 : Int32) = nI 0) h))
noncomputable def F114_677 (k632 : Nat → Nat → fS → Option fR) (l0 : Nat) (l1 : Nat) (T : fS) : Option fR := (k632 l0 (iA l1 1) T)
theorem G114_677 {z : Option mm_O} {T : fS} {r : fR} (k632 : Nat → Nat → fS → Option fR) (hk632 : ∀ (l0 : Nat) (xl1 : Int32) (l1 : Nat) (hl1 : xl1 = nI l1) (T : fS) (r : fR), k632 l0 l1 T = some r → mm_L 114 632 [.ref l0, .int xl1] [] (toS z T) = some (tR z r)) (l0 : Nat) (xl1 : Int32) (l1 : Nat) (hl1 : xl1 = nI l1) (h : F114_677 k632 l0 l1 T = some r) : mm_L 114 677 [.ref l0, .int xl1] [] (toS z T) = some (tR z r) := by
  unfold F114_677 at h
  refine Eq.trans (e114_677 ..) ?_
  exact (hk632 _ _ _ (iA_ok hl1 (rfl : (1 : Int32) = nI 1)) _ _ h)
noncomputable def F114_672 (k632 : Nat → Nat → fS → Option fR) (l0 : Nat) (l1 : Nat) (s0 : Nat) (s1 : Nat) (T : fS) : Option fR := (fif (ieq s1 s0) (F114_677 k632 l0 l1 T) (F114_675  l0 l1 T))
theorem G114_672 {z : Option mm_O} {T : fS} {r : fR} (k632 : Nat → Nat → fS → Option fR) (hk632 : ∀ (l0 : Nat) (xl1 : Int32) (l1 : Nat) (hl1 : xl1 = nI l1) (T : fS) (r : fR), k632 l0 l1 T = some r → mm_L 114 632 [.ref l0, .int xl1] [] (toS z T) = some (tR z r)) (l0 : Nat) (xl1 : Int32) (l1 : Nat) (hl1 : xl1 = nI l1) (xs0 : Int32) (s0 : Nat) (hs0 : xs0 = nI s0) (xs1 : Int32) (s1 : Nat) (hs1 : xs1 = nI s1) (h : F114_672 k632 l0 l1 s0 s1 T = some r) : mm_L 114 672 [.ref l0, .int xl1] [.int xs0, .int xs1] (toS z T) = some (tR z r) := by
  unfold F114_672 at h
  refine Eq.trans (e114_672 ..) ?_
  exact (fb_if (cj_eq hs1 hs0) h (fun h1 => (G114_677 k632 hk632 _ _ _ hl1 h1)) (fun h1 => (G114_675  _ _ _ hl1 h1)))
noncomputable def F114_664 (k632 : Nat → Nat → fS → Option fR) (l0 : Nat) (l1 : Nat) (s0 : Nat) (T : fS) : Option fR := (F114_672 k632 l0 l1 (iA l1 1) s0 T)
theorem G114_664 {z : Option mm_O} {T : fS} {r : fR} (k632 : Nat → Nat → fS → Option fR) (hk632 : ∀ (l0 : Nat) (xl1 : Int32) (l1 : Nat) (hl1 : xl1 = nI l1) (T : fS) (r : fR), k632 l0 l1 T = some r → mm_L 114 632 [.ref l0, .int xl1] [] (toS z T) = some (tR z r)) (l0 : Nat) (xl1 : Int32) (l1 : Nat) (hl1 : xl1 = nI l1) (xs0 : Int32) (s0 : Nat) (hs0 : xs0 = nI s0) (h : F114_664 k632 l0 l1 s0 T = some r) : mm_L 114 664 [.ref l0, .int xl1] [.int xs0] (toS z T) = some (tR z r) := by
  unfold F114_664 at h
  refine Eq.trans (e114_664 ..) ?_
  exact (G114_672 k632 hk632 _ _ _ hl1 _ _ (iA_ok hl1 (rfl : (1 : Int32) = nI 1)) _ _ hs0 h)
noncomputable def F114_670 (k632 : Nat → Nat → fS → Option fR) (l0 : Nat) (l1 : Nat) (s0 : Nat) (T : fS) : Option fR := (F114_672 k632 l0 l1 4294967223 s0 T)
theorem G114_670 {z : Option mm_O} {T : fS} {r : fR} (k632 : Nat → Nat → fS → Option fR) (hk632 : ∀ (l0 : Nat) (xl1 : Int32) (l1 : Nat) (hl1 : xl1 = nI l1) (T : fS) (r : fR), k632 l0 l1 T = some r → mm_L 114 632 [.ref l0, .int xl1] [] (toS z T) = some (tR z r)) (l0 : Nat) (xl1 : Int32) (l1 : Nat) (hl1 : xl1 = nI l1) (xs0 : Int32) (s0 : Nat) (hs0 : xs0 = nI s0) (h : F114_670 k632 l0 l1 s0 T = some r) : mm_L 114 670 [.ref l0, .int xl1] [.int xs0] (toS z T) = some (tR z r) := by
  unfold F114_670 at h
  refine Eq.trans (e114_670 ..) ?_
  exact (G114_672 k632 hk632 _ _ _ hl1 _ _ (by decide : (-73 : Int32) = nI 4294967223) _ _ hs0 h)
noncomputable def F114_658 (k632 : Nat → Nat → fS → Option fR) (l0 : Nat) (l1 : Nat) (s0 : Nat) (T : fS) : Option fR := (fif (ile 10 l1) (F114_670 k632 l0 l1 s0 T) (F114_664 k632 l0 l1 s0 T))
theorem G114_658 {z : Option mm_O} {T : fS} {r : fR} (k632 : Nat → Nat → fS → Option fR) (hk632 : ∀ (l0 : Nat) (xl1 : Int32) (l1 : Nat) (hl1 : xl1 = nI l1) (T : fS) (r : fR), k632 l0 l1 T = some r → mm_L 114 632 [.ref l0, .int xl1] [] (toS z T) = some (tR z r)) (l0 : Nat) (xl1 : Int32) (l1 : Nat) (hl1 : xl1 = nI l1) (xs0 : Int32) (s0 : Nat) (hs0 : xs0 = nI s0) (h : F114_658 k632 l0 l1 s0 T = some r) : mm_L 114 658 [.ref l0, .int xl1] [.int xs0] (toS z T) = some (tR z r) := by
  unfold F114_658 at h
  refine Eq.trans (e114_658 ..) ?_
  exact (fb_if (cj_le (rfl : (10 : Int32) = nI 10) hl1) h (fun h1 => (G114_670 k632 hk632 _ _ _ hl1 _ _ hs0 h1)) (fun h1 => (G114_664 k632 hk632 _ _ _ hl1 _ _ hs0 h1)))
noncomputable def F114_638 (k632 : Nat → Nat → fS → Option fR) (l0 : Nat) (l1 : Nat) (T : fS) : Option fR := (fKi true (F108_0 l0 7 1 2 (iM 2 l1) (iA (iM 2 l1) 1) (iS l1 (iM (iF2 (fun x y => x / y) l1 10) 10)) T) (fun v0 T1 => F114_658 k632 l0 l1 v0 T1))
theorem G114_638 {z : Option mm_O} {T : fS} {r : fR} (k632 : Nat → Nat → fS → Option fR) (hk632 : ∀ (l0 : Nat) (xl1 : Int32) (l1 : Nat) (hl1 : xl1 = nI l1) (T : fS) (r : fR), k632 l0 l1 T = some r → mm_L 114 632 [.ref l0, .int xl1] [] (toS z T) = some (tR z r)) (l0 : Nat) (xl1 : Int32) (l1 : Nat) (hl1 : xl1 = nI l1) (h : F114_638 k632 l0 l1 T = some r) : mm_L 114 638 [.ref l0, .int xl1] [] (toS z T) = some (tR z r) := by
  unfold F114_638 at h
  refine Eq.trans (e114_638 ..) ?_
  exact (fb_K0i (fun _ q => GM108 _ _ _ (rfl : (7 : Int32) = nI 7) _ _ (rfl : (1 : Int32) = nI 1) _ _ (rfl : (2 : Int32) = nI 2) _ _ (iM_ok (rfl : (2 : Int32) = nI 2) hl1) _ _ (iA_ok (iM_ok (rfl : (2 : Int32) = nI 2) hl1) (rfl : (1 : Int32) = nI 1)) _ _ (iS_ok hl1 (iM_ok (iF2_ok (f := (fun x y => x / y)) hl1 (rfl : (10 : Int32) = nI 10)) (rfl : (10 : Int32) = nI 10))) q) h (fun v0 T1 h2 => G114_658 k632 hk632 _ _ _ hl1 _ _ rfl h2))
noncomputable def F114_720  (l0 : Nat) (l1 : Nat) (T : fS) : Option fR := (some ((.inl (some (.inl 0)), T) : fR))
theorem G114_720 {z : Option mm_O} {T : fS} {r : fR}  (l0 : Nat) (xl1 : Int32) (l1 : Nat) (hl1 : xl1 = nI l1) (h : F114_720  l0 l1 T = some r) : mm_L 114 720 [.ref l0, .int xl1] [] (toS z T) = some (tR z r) := by
  unfold F114_720 at h
  refine Eq.trans (e114_720 ..) ?_
  exact (fb_pos (by decide) (fr_i (rfl : (0 : Int32) = nI 0) h))
noncomputable def F114_722 (k686 : Nat → Nat → fS → Option fR) (l0 : Nat) (l1 : Nat) (T : fS) : Option fR := (k686 l0 (iA l1 1) T)
theorem G114_722 {z : Option mm_O} {T : fS} {r : fR} (k686 : Nat → Nat → fS → Option fR) (hk686 : ∀ (l0 : Nat) (xl1 : Int32) (l1 : Nat) (hl1 : xl1 = nI l1) (T : fS) (r : fR), k686 l0 l1 T = some r → mm_L 114 686 [.ref l0, .int xl1] [] (toS z T) = some (tR z r)) (l0 : Nat) (xl1 : Int32) (l1 : Nat) (hl1 : xl1 = nI l1) (h : F114_722 k686 l0 l1 T = some r) : mm_L 114 722 [.ref l0, .int xl1] [] (toS z T) = some (tR z r) := by
  unfold F114_722 at h
  refine Eq.trans (e114_722 ..) ?_
  exact (hk686 _ _ _ (iA_ok hl1 (rfl : (1 : Int32) = nI 1)) _ _ h)
noncomputable def F114_717 (k686 : Nat → Nat → fS → Option fR) (l0 : Nat) (l1 : Nat) (s0 : Nat) (s1 : Nat) (T : fS) : Option fR := (fif (ieq s1 s0) (F114_722 k686 l0 l1 T) (F114_720  l0 l1 T))
theorem G114_717 {z : Option mm_O} {T : fS} {r : fR} (k686 : Nat → Nat → fS → Option fR) (hk686 : ∀ (l0 : Nat) (xl1 : Int32) (l1 : Nat) (hl1 : xl1 = nI l1) (T : fS) (r : fR), k686 l0 l1 T = some r → mm_L 114 686 [.ref l0, .int xl1] [] (toS z T) = some (tR z r)) (l0 : Nat) (xl1 : Int32) (l1 : Nat) (hl1 : xl1 = nI l1) (xs0 : Int32) (s0 : Nat) (hs0 : xs0 = nI s0) (xs1 : Int32) (s1 : Nat) (hs1 : xs1 = nI s1) (h : F114_717 k686 l0 l1 s0 s1 T = some r) : mm_L 114 717 [.ref l0, .int xl1] [.int xs0, .int xs1] (toS z T) = some (tR z r) := by
  unfold F114_717 at h
  refine Eq.trans (e114_717 ..) ?_
  exact (fb_if (cj_eq hs1 hs0) h (fun h1 => (G114_722 k686 hk686 _ _ _ hl1 h1)) (fun h1 => (G114_720  _ _ _ hl1 h1)))
noncomputable def F114_711 (k686 : Nat → Nat → fS → Option fR) (l0 : Nat) (l1 : Nat) (s0 : Nat) (T : fS) : Option fR := (F114_717 k686 l0 l1 l1 s0 T)
theorem G114_711 {z : Option mm_O} {T : fS} {r : fR} (k686 : Nat → Nat → fS → Option fR) (hk686 : ∀ (l0 : Nat) (xl1 : Int32) (l1 : Nat) (hl1 : xl1 = nI l1) (T : fS) (r : fR), k686 l0 l1 T = some r → mm_L 114 686 [.ref l0, .int xl1] [] (toS z T) = some (tR z r)) (l0 : Nat) (xl1 : Int32) (l1 : Nat) (hl1 : xl1 = nI l1) (xs0 : Int32) (s0 : Nat) (hs0 : xs0 = nI s0) (h : F114_711 k686 l0 l1 s0 T = some r) : mm_L 114 711 [.ref l0, .int xl1] [.int xs0] (toS z T) = some (tR z r) := by
  unfold F114_711 at h
  refine Eq.trans (e114_711 ..) ?_
  exact (G114_717 k686 hk686 _ _ _ hl1 _ _ hl1 _ _ hs0 h)
noncomputable def F114_715 (k686 : Nat → Nat → fS → Option fR) (l0 : Nat) (l1 : Nat) (s0 : Nat) (T : fS) : Option fR := (F114_717 k686 l0 l1 4294967223 s0 T)
theorem G114_715 {z : Option mm_O} {T : fS} {r : fR} (k686 : Nat → Nat → fS → Option fR) (hk686 : ∀ (l0 : Nat) (xl1 : Int32) (l1 : Nat) (hl1 : xl1 = nI l1) (T : fS) (r : fR), k686 l0 l1 T = some r → mm_L 114 686 [.ref l0, .int xl1] [] (toS z T) = some (tR z r)) (l0 : Nat) (xl1 : Int32) (l1 : Nat) (hl1 : xl1 = nI l1) (xs0 : Int32) (s0 : Nat) (hs0 : xs0 = nI s0) (h : F114_715 k686 l0 l1 s0 T = some r) : mm_L 114 715 [.ref l0, .int xl1] [.int xs0] (toS z T) = some (tR z r) := by
  unfold F114_715 at h
  refine Eq.trans (e114_715 ..) ?_
  exact (G114_717 k686 hk686 _ _ _ hl1 _ _ (by decide : (-73 : Int32) = nI 4294967223) _ _ hs0 h)
noncomputable def F114_705 (k686 : Nat → Nat → fS → Option fR) (l0 : Nat) (l1 : Nat) (s0 : Nat) (T : fS) : Option fR := (fif (ile 24 l1) (F114_715 k686 l0 l1 s0 T) (F114_711 k686 l0 l1 s0 T))
theorem G114_705 {z : Option mm_O} {T : fS} {r : fR} (k686 : Nat → Nat → fS → Option fR) (hk686 : ∀ (l0 : Nat) (xl1 : Int32) (l1 : Nat) (hl1 : xl1 = nI l1) (T : fS) (r : fR), k686 l0 l1 T = some r → mm_L 114 686 [.ref l0, .int xl1] [] (toS z T) = some (tR z r)) (l0 : Nat) (xl1 : Int32) (l1 : Nat) (hl1 : xl1 = nI l1) (xs0 : Int32) (s0 : Nat) (hs0 : xs0 = nI s0) (h : F114_705 k686 l0 l1 s0 T = some r) : mm_L 114 705 [.ref l0, .int xl1] [.int xs0] (toS z T) = some (tR z r) := by
  unfold F114_705 at h
  refine Eq.trans (e114_705 ..) ?_
  exact (fb_if (cj_le (rfl : (24 : Int32) = nI 24) hl1) h (fun h1 => (G114_715 k686 hk686 _ _ _ hl1 _ _ hs0 h1)) (fun h1 => (G114_711 k686 hk686 _ _ _ hl1 _ _ hs0 h1)))
noncomputable def F114_692 (k686 : Nat → Nat → fS → Option fR) (l0 : Nat) (l1 : Nat) (T : fS) : Option fR := (fKi true (F106_0 l0 12 (iS l1 (iM (iF2 (fun x y => x / y) l1 6) 6)) 0 0 0 T) (fun v0 T1 => F114_705 k686 l0 l1 v0 T1))
theorem G114_692 {z : Option mm_O} {T : fS} {r : fR} (k686 : Nat → Nat → fS → Option fR) (hk686 : ∀ (l0 : Nat) (xl1 : Int32) (l1 : Nat) (hl1 : xl1 = nI l1) (T : fS) (r : fR), k686 l0 l1 T = some r → mm_L 114 686 [.ref l0, .int xl1] [] (toS z T) = some (tR z r)) (l0 : Nat) (xl1 : Int32) (l1 : Nat) (hl1 : xl1 = nI l1) (h : F114_692 k686 l0 l1 T = some r) : mm_L 114 692 [.ref l0, .int xl1] [] (toS z T) = some (tR z r) := by
  unfold F114_692 at h
  refine Eq.trans (e114_692 ..) ?_
  exact (fb_K0i (fun _ q => GM106 _ _ _ (rfl : (12 : Int32) = nI 12) _ _ (iS_ok hl1 (iM_ok (iF2_ok (f := (fun x y => x / y)) hl1 (rfl : (6 : Int32) = nI 6)) (rfl : (6 : Int32) = nI 6))) _ _ (rfl : (0 : Int32) = nI 0) _ _ (rfl : (0 : Int32) = nI 0) _ _ (rfl : (0 : Int32) = nI 0) q) h (fun v0 T1 h2 => G114_705 k686 hk686 _ _ _ hl1 _ _ rfl h2))
noncomputable def F114_761  (l0 : Nat) (l1 : Nat) (s0 : Nat) (T : fS) : Option fR := (fif (Bool.rec (motive := fun _ => Bool) (ieq s0 1) true (ieq s0 0)) (some ((.inl (some (.inl s0)), T) : fR)) (none : Option fR))
theorem G114_761 {z : Option mm_O} {T : fS} {r : fR}  (l0 : Nat) (xl1 : Int32) (l1 : Nat) (hl1 : xl1 = nI l1) (xs0 : Int32) (s0 : Nat) (hs0 : xs0 = nI s0) (h : F114_761  l0 l1 s0 T = some r) : mm_L 114 761 [.ref l0, .int xl1] [.int xs0] (toS z T) = some (tR z r) := by
  unfold F114_761 at h
  refine Eq.trans (e114_761 ..) ?_
  exact (fb_if (cj_01 hs0) h (fun h1 => (fr_i hs0 h1)) (fun h1 => (fr_n h1)))
noncomputable def F114_756  (l0 : Nat) (l1 : Nat) (T : fS) : Option fR := (F114_761  l0 l1 1 T)
theorem G114_756 {z : Option mm_O} {T : fS} {r : fR}  (l0 : Nat) (xl1 : Int32) (l1 : Nat) (hl1 : xl1 = nI l1) (h : F114_756  l0 l1 T = some r) : mm_L 114 756 [.ref l0, .int xl1] [] (toS z T) = some (tR z r) := by
  unfold F114_756 at h
  refine Eq.trans (e114_756 ..) ?_
  exact (G114_761  _ _ _ hl1 _ _ (rfl : (1 : Int32) = nI 1) h)
noncomputable def F114_760  (l0 : Nat) (l1 : Nat) (T : fS) : Option fR := (F114_761  l0 l1 0 T)
theorem G114_760 {z : Option mm_O} {T : fS} {r : fR}  (l0 : Nat) (xl1 : Int32) (l1 : Nat) (hl1 : xl1 = nI l1) (h : F114_760  l0 l1 T = some r) : mm_L 114 760 [.ref l0, .int xl1] [] (toS z T) = some (tR z r) := by
  unfold F114_760 at h
  refine Eq.trans (e114_760 ..) ?_
  exact (G114_761  _ _ _ hl1 _ _ (rfl : (0 : Int32) = nI 0) h)
noncomputable def F114_753  (l0 : Nat) (l1 : Nat) (s0 : Nat) (T : fS) : Option fR := (fif (ieq s0 0) (F114_760  l0 l1 T) (F114_756  l0 l1 T))
theorem G114_753 {z : Option mm_O} {T : fS} {r : fR}  (l0 : Nat) (xl1 : Int32) (l1 : Nat) (hl1 : xl1 = nI l1) (xs0 : Int32) (s0 : Nat) (hs0 : xs0 = nI s0) (h : F114_753  l0 l1 s0 T = some r) : mm_L 114 753 [.ref l0, .int xl1] [.int xs0] (toS z T) = some (tR z r) := by
  unfold F114_753 at h
  refine Eq.trans (e114_753 ..) ?_
  exact (fb_if (cj_eq hs0 (rfl : (0 : Int32) = nI 0)) h (fun h1 => (G114_760  _ _ _ hl1 h1)) (fun h1 => (G114_756  _ _ _ hl1 h1)))
noncomputable def F114_744  (l0 : Nat) (l1 : Nat) (T : fS) : Option fR := (fKi true (F110_0 l0 0 0 0 24 T) (fun v0 T1 => F114_753  l0 l1 v0 T1))
theorem G114_744 {z : Option mm_O} {T : fS} {r : fR}  (l0 : Nat) (xl1 : Int32) (l1 : Nat) (hl1 : xl1 = nI l1) (h : F114_744  l0 l1 T = some r) : mm_L 114 744 [.ref l0, .int xl1] [] (toS z T) = some (tR z r) := by
  unfold F114_744 at h
  refine Eq.trans (e114_744 ..) ?_
  exact (fb_K0i (fun _ q => GM110 _ _ _ (rfl : (0 : Int32) = nI 0) _ _ (rfl : (0 : Int32) = nI 0) _ _ (rfl : (0 : Int32) = nI 0) _ _ (rfl : (24 : Int32) = nI 24) q) h (fun v0 T1 h2 => G114_753  _ _ _ hl1 _ _ rfl h2))
noncomputable def F114_739  (l0 : Nat) (l1 : Nat) (s0 : Nat) (T : fS) : Option fR := (fif (ieq s0 4294967223) (F114_744  l0 l1 T) (F114_760  l0 l1 T))
theorem G114_739 {z : Option mm_O} {T : fS} {r : fR}  (l0 : Nat) (xl1 : Int32) (l1 : Nat) (hl1 : xl1 = nI l1) (xs0 : Int32) (s0 : Nat) (hs0 : xs0 = nI s0) (h : F114_739  l0 l1 s0 T = some r) : mm_L 114 739 [.ref l0, .int xl1] [.int xs0] (toS z T) = some (tR z r) := by
  unfold F114_739 at h
  refine Eq.trans (e114_739 ..) ?_
  exact (fb_if (cj_eq hs0 (by decide : (-73 : Int32) = nI 4294967223)) h (fun h1 => (G114_744  _ _ _ hl1 h1)) (fun h1 => (G114_760  _ _ _ hl1 h1)))
noncomputable def F114_728  (l0 : Nat) (l1 : Nat) (T : fS) : Option fR := (fKi true (F106_0 l0 13 0 8 4294967295 0 T) (fun v0 T1 => F114_739  l0 l1 v0 T1))
theorem G114_728 {z : Option mm_O} {T : fS} {r : fR}  (l0 : Nat) (xl1 : Int32) (l1 : Nat) (hl1 : xl1 = nI l1) (h : F114_728  l0 l1 T = some r) : mm_L 114 728 [.ref l0, .int xl1] [] (toS z T) = some (tR z r) := by
  unfold F114_728 at h
  refine Eq.trans (e114_728 ..) ?_
  exact (fb_K0i (fun _ q => GM106 _ _ _ (rfl : (13 : Int32) = nI 13) _ _ (rfl : (0 : Int32) = nI 0) _ _ (rfl : (8 : Int32) = nI 8) _ _ (by decide : (-1 : Int32) = nI 4294967295) _ _ (rfl : (0 : Int32) = nI 0) q) h (fun v0 T1 h2 => G114_739  _ _ _ hl1 _ _ rfl h2))
noncomputable def F114_686 (k686 : Nat → Nat → fS → Option fR) (l0 : Nat) (l1 : Nat) (T : fS) : Option fR := (fif (ile 25 l1) (F114_728  l0 l1 T) (F114_692 k686 l0 l1 T))
theorem G114_686 {z : Option mm_O} {T : fS} {r : fR} (k686 : Nat → Nat → fS → Option fR) (hk686 : ∀ (l0 : Nat) (xl1 : Int32) (l1 : Nat) (hl1 : xl1 = nI l1) (T : fS) (r : fR), k686 l0 l1 T = some r → mm_L 114 686 [.ref l0, .int xl1] [] (toS z T) = some (tR z r)) (l0 : Nat) (xl1 : Int32) (l1 : Nat) (hl1 : xl1 = nI l1) (h : F114_686 k686 l0 l1 T = some r) : mm_L 114 686 [.ref l0, .int xl1] [] (toS z T) = some (tR z r) := by
  unfold F114_686 at h
  refine Eq.trans (e114_686 ..) ?_
  exact (fb_if (cj_le (rfl : (25 : Int32) = nI 25) hl1) h (fun h1 => (G114_728  _ _ _ hl1 h1)) (fun h1 => (G114_692 k686 hk686 _ _ _ hl1 h1)))
noncomputable def H114_686  (n : Nat) : Nat → Nat → fS → Option fR := Nat.rec (motive := fun _ => Nat → Nat → fS → Option fR) (fun _ _ _ => none) (fun _ ih => F114_686 ih) n
theorem HG114_686 {z : Option mm_O}  : ∀ (n : Nat) (l0 : Nat) (xl1 : Int32) (l1 : Nat) (hl1 : xl1 = nI l1) {T : fS} {r : fR}, H114_686  n l0 l1 T = some r → mm_L 114 686 [.ref l0, .int xl1] [] (toS z T) = some (tR z r) := by
  intro n
  induction n with
  | zero =>
    intro l0 xl1 l1 hl1 T r h
    exact fr_n h
  | succ n ih =>
    intro l0 xl1 l1 hl1 T r h
    exact G114_686 (H114_686  n) (fun l0 xl1 l1 hl1 T r h => ih l0 xl1 l1 hl1 h) l0 xl1 l1 hl1 h
noncomputable def F114_683  (l0 : Nat) (l1 : Nat) (T : fS) : Option fR := (H114_686  300 l0 8 T)
theorem G114_683 {z : Option mm_O} {T : fS} {r : fR}  (l0 : Nat) (xl1 : Int32) (l1 : Nat) (hl1 : xl1 = nI l1) (h : F114_683  l0 l1 T = some r) : mm_L 114 683 [.ref l0, .int xl1] [] (toS z T) = some (tR z r) := by
  unfold F114_683 at h
  refine Eq.trans (e114_683 ..) ?_
  exact (HG114_686  300 _ _ _ (rfl : (8 : Int32) = nI 8) h)
noncomputable def F114_632 (k632 : Nat → Nat → fS → Option fR) (l0 : Nat) (l1 : Nat) (T : fS) : Option fR := (fif (ile 11 l1) (F114_683  l0 l1 T) (F114_638 k632 l0 l1 T))
theorem G114_632 {z : Option mm_O} {T : fS} {r : fR} (k632 : Nat → Nat → fS → Option fR) (hk632 : ∀ (l0 : Nat) (xl1 : Int32) (l1 : Nat) (hl1 : xl1 = nI l1) (T : fS) (r : fR), k632 l0 l1 T = some r → mm_L 114 632 [.ref l0, .int xl1] [] (toS z T) = some (tR z r)) (l0 : Nat) (xl1 : Int32) (l1 : Nat) (hl1 : xl1 = nI l1) (h : F114_632 k632 l0 l1 T = some r) : mm_L 114 632 [.ref l0, .int xl1] [] (toS z T) = some (tR z r) := by
  unfold F114_632 at h
  refine Eq.trans (e114_632 ..) ?_
  exact (fb_if (cj_le (rfl : (11 : Int32) = nI 11) hl1) h (fun h1 => (G114_683  _ _ _ hl1 h1)) (fun h1 => (G114_638 k632 hk632 _ _ _ hl1 h1)))
noncomputable def H114_632  (n : Nat) : Nat → Nat → fS → Option fR := Nat.rec (motive := fun _ => Nat → Nat → fS → Option fR) (fun _ _ _ => none) (fun _ ih => F114_632 ih) n
theorem HG114_632 {z : Option mm_O}  : ∀ (n : Nat) (l0 : Nat) (xl1 : Int32) (l1 : Nat) (hl1 : xl1 = nI l1) {T : fS} {r : fR}, H114_632  n l0 l1 T = some r → mm_L 114 632 [.ref l0, .int xl1] [] (toS z T) = some (tR z r) := by
  intro n
  induction n with
  | zero =>
    intro l0 xl1 l1 hl1 T r h
    exact fr_n h
  | succ n ih =>
    intro l0 xl1 l1 hl1 T r h
    exact G114_632 (H114_632  n) (fun l0 xl1 l1 hl1 T r h => ih l0 xl1 l1 hl1 h) l0 xl1 l1 hl1 h
noncomputable def F114_630  (l0 : Nat) (T : fS) : Option fR := (H114_632  300 l0 0 T)
theorem G114_630 {z : Option mm_O} {T : fS} {r : fR}  (l0 : Nat) (ul1 : Value) (h : F114_630  l0 T = some r) : mm_L 114 630 [.ref l0, ul1] [] (toS z T) = some (tR z r) := by
  unfold F114_630 at h
  refine Eq.trans (e114_630 ..) ?_
  exact (HG114_632  300 _ _ _ (rfl : (0 : Int32) = nI 0) h)
noncomputable def F114_622  (l0 : Nat) (s0 : Nat) (T : fS) : Option fR := (fif (ieq s0 200) (F114_630  l0 T) (F114_628  l0 T))
theorem G114_622 {z : Option mm_O} {T : fS} {r : fR}  (l0 : Nat) (ul1 : Value) (xs0 : Int32) (s0 : Nat) (hs0 : xs0 = nI s0) (h : F114_622  l0 s0 T = some r) : mm_L 114 622 [.ref l0, ul1] [.int xs0] (toS z T) = some (tR z r) := by
  unfold F114_622 at h
  refine Eq.trans (e114_622 ..) ?_
  exact (fb_if (cj_eq hs0 (rfl : (200 : Int32) = nI 200)) h (fun h1 => (G114_630  _ _ h1)) (fun h1 => (G114_628  _ _ h1)))
noncomputable def F114_612  (l0 : Nat) (T : fS) : Option fR := (fKi true (F109_0 l0 6 2 2 3 0 T) (fun v0 T1 => F114_622  l0 v0 T1))
theorem G114_612 {z : Option mm_O} {T : fS} {r : fR}  (l0 : Nat) (ul1 : Value) (h : F114_612  l0 T = some r) : mm_L 114 612 [.ref l0, ul1] [] (toS z T) = some (tR z r) := by
  unfold F114_612 at h
  refine Eq.trans (e114_612 ..) ?_
  exact (fb_K0i (fun _ q => GM109 _ _ _ (rfl : (6 : Int32) = nI 6) _ _ (rfl : (2 : Int32) = nI 2) _ _ (rfl : (2 : Int32) = nI 2) _ _ (rfl : (3 : Int32) = nI 3) _ _ (rfl : (0 : Int32) = nI 0) q) h (fun v0 T1 h2 => G114_622  _ _ _ _ rfl h2))
noncomputable def F114_608  (l0 : Nat) (s0 : Nat) (T : fS) : Option fR := (fif (ieq s0 2) (F114_612  l0 T) (F114_628  l0 T))
theorem G114_608 {z : Option mm_O} {T : fS} {r : fR}  (l0 : Nat) (ul1 : Value) (xs0 : Int32) (s0 : Nat) (hs0 : xs0 = nI s0) (h : F114_608  l0 s0 T = some r) : mm_L 114 608 [.ref l0, ul1] [.int xs0] (toS z T) = some (tR z r) := by
  unfold F114_608 at h
  refine Eq.trans (e114_608 ..) ?_
  exact (fb_if (cj_eq hs0 (rfl : (2 : Int32) = nI 2)) h (fun h1 => (G114_612  _ _ h1)) (fun h1 => (G114_628  _ _ h1)))
noncomputable def F114_595  (l0 : Nat) (T : fS) : Option fR := (fKi true (F108_0 l0 6 2 3 0 199 0 T) (fun v0 T1 => F114_608  l0 v0 T1))
theorem G114_595 {z : Option mm_O} {T : fS} {r : fR}  (l0 : Nat) (ul1 : Value) (h : F114_595  l0 T = some r) : mm_L 114 595 [.ref l0, ul1] [] (toS z T) = some (tR z r) := by
  unfold F114_595 at h
  refine Eq.trans (e114_595 ..) ?_
  exact (fb_K0i (fun _ q => GM108 _ _ _ (rfl : (6 : Int32) = nI 6) _ _ (rfl : (2 : Int32) = nI 2) _ _ (rfl : (3 : Int32) = nI 3) _ _ (rfl : (0 : Int32) = nI 0) _ _ (rfl : (199 : Int32) = nI 199) _ _ (rfl : (0 : Int32) = nI 0) q) h (fun v0 T1 h2 => G114_608  _ _ _ _ rfl h2))
noncomputable def F114_591  (l0 : Nat) (s0 : Nat) (T : fS) : Option fR := (fif (ieq s0 1) (F114_595  l0 T) (F114_628  l0 T))
theorem G114_591 {z : Option mm_O} {T : fS} {r : fR}  (l0 : Nat) (ul1 : Value) (xs0 : Int32) (s0 : Nat) (hs0 : xs0 = nI s0) (h : F114_591  l0 s0 T = some r) : mm_L 114 591 [.ref l0, ul1] [.int xs0] (toS z T) = some (tR z r) := by
  unfold F114_591 at h
  refine Eq.trans (e114_591 ..) ?_
  exact (fb_if (cj_eq hs0 (rfl : (1 : Int32) = nI 1)) h (fun h1 => (G114_595  _ _ h1)) (fun h1 => (G114_628  _ _ h1)))
noncomputable def F114_575  (l0 : Nat) (T : fS) : Option fR := (fKi true (F108_0 l0 6 2 3 199 200 9 T) (fun v0 T1 => F114_591  l0 v0 T1))
theorem G114_575 {z : Option mm_O} {T : fS} {r : fR}  (l0 : Nat) (ul1 : Value) (h : F114_575  l0 T = some r) : mm_L 114 575 [.ref l0, ul1] [] (toS z T) = some (tR z r) := by
  unfold F114_575 at h
  refine Eq.trans (e114_575 ..) ?_
  exact (fb_K0i (fun _ q => GM108 _ _ _ (rfl : (6 : Int32) = nI 6) _ _ (rfl : (2 : Int32) = nI 2) _ _ (rfl : (3 : Int32) = nI 3) _ _ (rfl : (199 : Int32) = nI 199) _ _ (rfl : (200 : Int32) = nI 200) _ _ (rfl : (9 : Int32) = nI 9) q) h (fun v0 T1 h2 => G114_591  _ _ _ _ rfl h2))
noncomputable def F114_572  (l0 : Nat) (s0 : Nat) (T : fS) : Option fR := (fif (ieq s0 0) (F114_575  l0 T) (F114_628  l0 T))
theorem G114_572 {z : Option mm_O} {T : fS} {r : fR}  (l0 : Nat) (ul1 : Value) (xs0 : Int32) (s0 : Nat) (hs0 : xs0 = nI s0) (h : F114_572  l0 s0 T = some r) : mm_L 114 572 [.ref l0, ul1] [.int xs0] (toS z T) = some (tR z r) := by
  unfold F114_572 at h
  refine Eq.trans (e114_572 ..) ?_
  exact (fb_if (cj_eq hs0 (rfl : (0 : Int32) = nI 0)) h (fun h1 => (G114_575  _ _ h1)) (fun h1 => (G114_628  _ _ h1)))
noncomputable def F114_562  (l0 : Nat) (T : fS) : Option fR := (fKi true (F109_0 l0 7 0 1 0 1 T) (fun v0 T1 => F114_572  l0 v0 T1))
theorem G114_562 {z : Option mm_O} {T : fS} {r : fR}  (l0 : Nat) (ul1 : Value) (h : F114_562  l0 T = some r) : mm_L 114 562 [.ref l0, ul1] [] (toS z T) = some (tR z r) := by
  unfold F114_562 at h
  refine Eq.trans (e114_562 ..) ?_
  exact (fb_K0i (fun _ q => GM109 _ _ _ (rfl : (7 : Int32) = nI 7) _ _ (rfl : (0 : Int32) = nI 0) _ _ (rfl : (1 : Int32) = nI 1) _ _ (rfl : (0 : Int32) = nI 0) _ _ (rfl : (1 : Int32) = nI 1) q) h (fun v0 T1 h2 => G114_572  _ _ _ _ rfl h2))
noncomputable def F114_557  (l0 : Nat) (s0 : Nat) (T : fS) : Option fR := (fif (ieq s0 4294967224) (F114_562  l0 T) (F114_628  l0 T))
theorem G114_557 {z : Option mm_O} {T : fS} {r : fR}  (l0 : Nat) (ul1 : Value) (xs0 : Int32) (s0 : Nat) (hs0 : xs0 = nI s0) (h : F114_557  l0 s0 T = some r) : mm_L 114 557 [.ref l0, ul1] [.int xs0] (toS z T) = some (tR z r) := by
  unfold F114_557 at h
  refine Eq.trans (e114_557 ..) ?_
  exact (fb_if (cj_eq hs0 (by decide : (-72 : Int32) = nI 4294967224)) h (fun h1 => (G114_562  _ _ h1)) (fun h1 => (G114_628  _ _ h1)))
noncomputable def F114_547  (l0 : Nat) (T : fS) : Option fR := (fKi true (F109_0 l0 6 0 1 0 3 T) (fun v0 T1 => F114_557  l0 v0 T1))
theorem G114_547 {z : Option mm_O} {T : fS} {r : fR}  (l0 : Nat) (ul1 : Value) (h : F114_547  l0 T = some r) : mm_L 114 547 [.ref l0, ul1] [] (toS z T) = some (tR z r) := by
  unfold F114_547 at h
  refine Eq.trans (e114_547 ..) ?_
  exact (fb_K0i (fun _ q => GM109 _ _ _ (rfl : (6 : Int32) = nI 6) _ _ (rfl : (0 : Int32) = nI 0) _ _ (rfl : (1 : Int32) = nI 1) _ _ (rfl : (0 : Int32) = nI 0) _ _ (rfl : (3 : Int32) = nI 3) q) h (fun v0 T1 h2 => G114_557  _ _ _ _ rfl h2))
noncomputable def F114_544  (l0 : Nat) (s0 : Nat) (T : fS) : Option fR := (fif (ieq s0 0) (F114_547  l0 T) (F114_628  l0 T))
theorem G114_544 {z : Option mm_O} {T : fS} {r : fR}  (l0 : Nat) (ul1 : Value) (xs0 : Int32) (s0 : Nat) (hs0 : xs0 = nI s0) (h : F114_544  l0 s0 T = some r) : mm_L 114 544 [.ref l0, ul1] [.int xs0] (toS z T) = some (tR z r) := by
  unfold F114_544 at h
  refine Eq.trans (e114_544 ..) ?_
  exact (fb_if (cj_eq hs0 (rfl : (0 : Int32) = nI 0)) h (fun h1 => (G114_547  _ _ h1)) (fun h1 => (G114_628  _ _ h1)))
noncomputable def F114_534  (l0 : Nat) (T : fS) : Option fR := (fKi true (F109_0 l0 6 0 2 0 0 T) (fun v0 T1 => F114_544  l0 v0 T1))
theorem G114_534 {z : Option mm_O} {T : fS} {r : fR}  (l0 : Nat) (ul1 : Value) (h : F114_534  l0 T = some r) : mm_L 114 534 [.ref l0, ul1] [] (toS z T) = some (tR z r) := by
  unfold F114_534 at h
  refine Eq.trans (e114_534 ..) ?_
  exact (fb_K0i (fun _ q => GM109 _ _ _ (rfl : (6 : Int32) = nI 6) _ _ (rfl : (0 : Int32) = nI 0) _ _ (rfl : (2 : Int32) = nI 2) _ _ (rfl : (0 : Int32) = nI 0) _ _ (rfl : (0 : Int32) = nI 0) q) h (fun v0 T1 h2 => G114_544  _ _ _ _ rfl h2))
noncomputable def F114_529  (l0 : Nat) (s0 : Nat) (T : fS) : Option fR := (fif (ieq s0 14) (F114_534  l0 T) (F114_628  l0 T))
theorem G114_529 {z : Option mm_O} {T : fS} {r : fR}  (l0 : Nat) (ul1 : Value) (xs0 : Int32) (s0 : Nat) (hs0 : xs0 = nI s0) (h : F114_529  l0 s0 T = some r) : mm_L 114 529 [.ref l0, ul1] [.int xs0] (toS z T) = some (tR z r) := by
  unfold F114_529 at h
  refine Eq.trans (e114_529 ..) ?_
  exact (fb_if (cj_eq hs0 (rfl : (14 : Int32) = nI 14)) h (fun h1 => (G114_534  _ _ h1)) (fun h1 => (G114_628  _ _ h1)))
noncomputable def F114_519  (l0 : Nat) (T : fS) : Option fR := (fKi true (F109_0 l0 6 0 2 0 1 T) (fun v0 T1 => F114_529  l0 v0 T1))
theorem G114_519 {z : Option mm_O} {T : fS} {r : fR}  (l0 : Nat) (ul1 : Value) (h : F114_519  l0 T = some r) : mm_L 114 519 [.ref l0, ul1] [] (toS z T) = some (tR z r) := by
  unfold F114_519 at h
  refine Eq.trans (e114_519 ..) ?_
  exact (fb_K0i (fun _ q => GM109 _ _ _ (rfl : (6 : Int32) = nI 6) _ _ (rfl : (0 : Int32) = nI 0) _ _ (rfl : (2 : Int32) = nI 2) _ _ (rfl : (0 : Int32) = nI 0) _ _ (rfl : (1 : Int32) = nI 1) q) h (fun v0 T1 h2 => G114_529  _ _ _ _ rfl h2))
noncomputable def F114_515  (l0 : Nat) (s0 : Nat) (T : fS) : Option fR := (fif (ieq s0 2) (F114_519  l0 T) (F114_628  l0 T))
theorem G114_515 {z : Option mm_O} {T : fS} {r : fR}  (l0 : Nat) (ul1 : Value) (xs0 : Int32) (s0 : Nat) (hs0 : xs0 = nI s0) (h : F114_515  l0 s0 T = some r) : mm_L 114 515 [.ref l0, ul1] [.int xs0] (toS z T) = some (tR z r) := by
  unfold F114_515 at h
  refine Eq.trans (e114_515 ..) ?_
  exact (fb_if (cj_eq hs0 (rfl : (2 : Int32) = nI 2)) h (fun h1 => (G114_519  _ _ h1)) (fun h1 => (G114_628  _ _ h1)))
noncomputable def F114_505  (l0 : Nat) (T : fS) : Option fR := (fKi true (F109_0 l0 6 0 0 0 2 T) (fun v0 T1 => F114_515  l0 v0 T1))
theorem G114_505 {z : Option mm_O} {T : fS} {r : fR}  (l0 : Nat) (ul1 : Value) (h : F114_505  l0 T = some r) : mm_L 114 505 [.ref l0, ul1] [] (toS z T) = some (tR z r) := by
  unfold F114_505 at h
  refine Eq.trans (e114_505 ..) ?_
  exact (fb_K0i (fun _ q => GM109 _ _ _ (rfl : (6 : Int32) = nI 6) _ _ (rfl : (0 : Int32) = nI 0) _ _ (rfl : (0 : Int32) = nI 0) _ _ (rfl : (0 : Int32) = nI 0) _ _ (rfl : (2 : Int32) = nI 2) q) h (fun v0 T1 h2 => G114_515  _ _ _ _ rfl h2))
noncomputable def F114_501  (l0 : Nat) (s0 : Nat) (T : fS) : Option fR := (fif (ieq s0 1) (F114_505  l0 T) (F114_628  l0 T))
theorem G114_501 {z : Option mm_O} {T : fS} {r : fR}  (l0 : Nat) (ul1 : Value) (xs0 : Int32) (s0 : Nat) (hs0 : xs0 = nI s0) (h : F114_501  l0 s0 T = some r) : mm_L 114 501 [.ref l0, ul1] [.int xs0] (toS z T) = some (tR z r) := by
  unfold F114_501 at h
  refine Eq.trans (e114_501 ..) ?_
  exact (fb_if (cj_eq hs0 (rfl : (1 : Int32) = nI 1)) h (fun h1 => (G114_505  _ _ h1)) (fun h1 => (G114_628  _ _ h1)))
noncomputable def F114_491  (l0 : Nat) (T : fS) : Option fR := (fKi true (F109_0 l0 6 1 0 0 2 T) (fun v0 T1 => F114_501  l0 v0 T1))
theorem G114_491 {z : Option mm_O} {T : fS} {r : fR}  (l0 : Nat) (ul1 : Value) (h : F114_491  l0 T = some r) : mm_L 114 491 [.ref l0, ul1] [] (toS z T) = some (tR z r) := by
  unfold F114_491 at h
  refine Eq.trans (e114_491 ..) ?_
  exact (fb_K0i (fun _ q => GM109 _ _ _ (rfl : (6 : Int32) = nI 6) _ _ (rfl : (1 : Int32) = nI 1) _ _ (rfl : (0 : Int32) = nI 0) _ _ (rfl : (0 : Int32) = nI 0) _ _ (rfl : (2 : Int32) = nI 2) q) h (fun v0 T1 h2 => G114_501  _ _ _ _ rfl h2))
noncomputable def F114_487  (l0 : Nat) (s0 : Nat) (T : fS) : Option fR := (fif (ieq s0 1) (F114_491  l0 T) (F114_628  l0 T))
theorem G114_487 {z : Option mm_O} {T : fS} {r : fR}  (l0 : Nat) (ul1 : Value) (xs0 : Int32) (s0 : Nat) (hs0 : xs0 = nI s0) (h : F114_487  l0 s0 T = some r) : mm_L 114 487 [.ref l0, ul1] [.int xs0] (toS z T) = some (tR z r) := by
  unfold F114_487 at h
  refine Eq.trans (e114_487 ..) ?_
  exact (fb_if (cj_eq hs0 (rfl : (1 : Int32) = nI 1)) h (fun h1 => (G114_491  _ _ h1)) (fun h1 => (G114_628  _ _ h1)))
noncomputable def F114_477  (l0 : Nat) (T : fS) : Option fR := (fKi true (F109_0 l0 6 0 1 0 2 T) (fun v0 T1 => F114_487  l0 v0 T1))
theorem G114_477 {z : Option mm_O} {T : fS} {r : fR}  (l0 : Nat) (ul1 : Value) (h : F114_477  l0 T = some r) : mm_L 114 477 [.ref l0, ul1] [] (toS z T) = some (tR z r) := by
  unfold F114_477 at h
  refine Eq.trans (e114_477 ..) ?_
  exact (fb_K0i (fun _ q => GM109 _ _ _ (rfl : (6 : Int32) = nI 6) _ _ (rfl : (0 : Int32) = nI 0) _ _ (rfl : (1 : Int32) = nI 1) _ _ (rfl : (0 : Int32) = nI 0) _ _ (rfl : (2 : Int32) = nI 2) q) h (fun v0 T1 h2 => G114_487  _ _ _ _ rfl h2))
noncomputable def F114_472  (l0 : Nat) (s0 : Nat) (T : fS) : Option fR := (fif (ieq s0 14) (F114_477  l0 T) (F114_628  l0 T))
theorem G114_472 {z : Option mm_O} {T : fS} {r : fR}  (l0 : Nat) (ul1 : Value) (xs0 : Int32) (s0 : Nat) (hs0 : xs0 = nI s0) (h : F114_472  l0 s0 T = some r) : mm_L 114 472 [.ref l0, ul1] [.int xs0] (toS z T) = some (tR z r) := by
  unfold F114_472 at h
  refine Eq.trans (e114_472 ..) ?_
  exact (fb_if (cj_eq hs0 (rfl : (14 : Int32) = nI 14)) h (fun h1 => (G114_477  _ _ h1)) (fun h1 => (G114_628  _ _ h1)))
noncomputable def F114_462  (l0 : Nat) (T : fS) : Option fR := (fKi true (F109_0 l0 6 0 1 0 1 T) (fun v0 T1 => F114_472  l0 v0 T1))
theorem G114_462 {z : Option mm_O} {T : fS} {r : fR}  (l0 : Nat) (ul1 : Value) (h : F114_462  l0 T = some r) : mm_L 114 462 [.ref l0, ul1] [] (toS z T) = some (tR z r) := by
  unfold F114_462 at h
  refine Eq.trans (e114_462 ..) ?_
  exact (fb_K0i (fun _ q => GM109 _ _ _ (rfl : (6 : Int32) = nI 6) _ _ (rfl : (0 : Int32) = nI 0) _ _ (rfl : (1 : Int32) = nI 1) _ _ (rfl : (0 : Int32) = nI 0) _ _ (rfl : (1 : Int32) = nI 1) q) h (fun v0 T1 h2 => G114_472  _ _ _ _ rfl h2))
noncomputable def F114_457  (l0 : Nat) (s0 : Nat) (T : fS) : Option fR := (fif (ieq s0 6) (F114_462  l0 T) (F114_628  l0 T))
theorem G114_457 {z : Option mm_O} {T : fS} {r : fR}  (l0 : Nat) (ul1 : Value) (xs0 : Int32) (s0 : Nat) (hs0 : xs0 = nI s0) (h : F114_457  l0 s0 T = some r) : mm_L 114 457 [.ref l0, ul1] [.int xs0] (toS z T) = some (tR z r) := by
  unfold F114_457 at h
  refine Eq.trans (e114_457 ..) ?_
  exact (fb_if (cj_eq hs0 (rfl : (6 : Int32) = nI 6)) h (fun h1 => (G114_462  _ _ h1)) (fun h1 => (G114_628  _ _ h1)))
noncomputable def F114_447  (l0 : Nat) (T : fS) : Option fR := (fKi true (F109_0 l0 6 0 1 0 0 T) (fun v0 T1 => F114_457  l0 v0 T1))
theorem G114_447 {z : Option mm_O} {T : fS} {r : fR}  (l0 : Nat) (ul1 : Value) (h : F114_447  l0 T = some r) : mm_L 114 447 [.ref l0, ul1] [] (toS z T) = some (tR z r) := by
  unfold F114_447 at h
  refine Eq.trans (e114_447 ..) ?_
  exact (fb_K0i (fun _ q => GM109 _ _ _ (rfl : (6 : Int32) = nI 6) _ _ (rfl : (0 : Int32) = nI 0) _ _ (rfl : (1 : Int32) = nI 1) _ _ (rfl : (0 : Int32) = nI 0) _ _ (rfl : (0 : Int32) = nI 0) q) h (fun v0 T1 h2 => G114_457  _ _ _ _ rfl h2))
noncomputable def F114_442  (l0 : Nat) (s0 : Nat) (T : fS) : Option fR := (fif (ieq s0 4294967225) (F114_447  l0 T) (F114_628  l0 T))
theorem G114_442 {z : Option mm_O} {T : fS} {r : fR}  (l0 : Nat) (ul1 : Value) (xs0 : Int32) (s0 : Nat) (hs0 : xs0 = nI s0) (h : F114_442  l0 s0 T = some r) : mm_L 114 442 [.ref l0, ul1] [.int xs0] (toS z T) = some (tR z r) := by
  unfold F114_442 at h
  refine Eq.trans (e114_442 ..) ?_
  exact (fb_if (cj_eq hs0 (by decide : (-71 : Int32) = nI 4294967225)) h (fun h1 => (G114_447  _ _ h1)) (fun h1 => (G114_628  _ _ h1)))
noncomputable def F114_432  (l0 : Nat) (T : fS) : Option fR := (fKi true (F108_0 l0 0 0 0 0 1 0 T) (fun v0 T1 => F114_442  l0 v0 T1))
theorem G114_432 {z : Option mm_O} {T : fS} {r : fR}  (l0 : Nat) (ul1 : Value) (h : F114_432  l0 T = some r) : mm_L 114 432 [.ref l0, ul1] [] (toS z T) = some (tR z r) := by
  unfold F114_432 at h
  refine Eq.trans (e114_432 ..) ?_
  exact (fb_K0i (fun _ q => GM108 _ _ _ (rfl : (0 : Int32) = nI 0) _ _ (rfl : (0 : Int32) = nI 0) _ _ (rfl : (0 : Int32) = nI 0) _ _ (rfl : (0 : Int32) = nI 0) _ _ (rfl : (1 : Int32) = nI 1) _ _ (rfl : (0 : Int32) = nI 0) q) h (fun v0 T1 h2 => G114_442  _ _ _ _ rfl h2))
noncomputable def F114_427  (l0 : Nat) (s0 : Nat) (T : fS) : Option fR := (fif (ieq s0 4294967224) (F114_432  l0 T) (F114_628  l0 T))
theorem G114_427 {z : Option mm_O} {T : fS} {r : fR}  (l0 : Nat) (ul1 : Value) (xs0 : Int32) (s0 : Nat) (hs0 : xs0 = nI s0) (h : F114_427  l0 s0 T = some r) : mm_L 114 427 [.ref l0, ul1] [.int xs0] (toS z T) = some (tR z r) := by
  unfold F114_427 at h
  refine Eq.trans (e114_427 ..) ?_
  exact (fb_if (cj_eq hs0 (by decide : (-72 : Int32) = nI 4294967224)) h (fun h1 => (G114_432  _ _ h1)) (fun h1 => (G114_628  _ _ h1)))
noncomputable def F114_415  (l0 : Nat) (T : fS) : Option fR := (fKi true (F108_0 l0 6 0 0 0 3 10 T) (fun v0 T1 => F114_427  l0 v0 T1))
theorem G114_415 {z : Option mm_O} {T : fS} {r : fR}  (l0 : Nat) (ul1 : Value) (h : F114_415  l0 T = some r) : mm_L 114 415 [.ref l0, ul1] [] (toS z T) = some (tR z r) := by
  unfold F114_415 at h
  refine Eq.trans (e114_415 ..) ?_
  exact (fb_K0i (fun _ q => GM108 _ _ _ (rfl : (6 : Int32) = nI 6) _ _ (rfl : (0 : Int32) = nI 0) _ _ (rfl : (0 : Int32) = nI 0) _ _ (rfl : (0 : Int32) = nI 0) _ _ (rfl : (3 : Int32) = nI 3) _ _ (rfl : (10 : Int32) = nI 10) q) h (fun v0 T1 h2 => G114_427  _ _ _ _ rfl h2))
noncomputable def F114_410  (l0 : Nat) (s0 : Nat) (T : fS) : Option fR := (fif (ieq s0 4294967224) (F114_415  l0 T) (F114_628  l0 T))
theorem G114_410 {z : Option mm_O} {T : fS} {r : fR}  (l0 : Nat) (ul1 : Value) (xs0 : Int32) (s0 : Nat) (hs0 : xs0 = nI s0) (h : F114_410  l0 s0 T = some r) : mm_L 114 410 [.ref l0, ul1] [.int xs0] (toS z T) = some (tR z r) := by
  unfold F114_410 at h
  refine Eq.trans (e114_410 ..) ?_
  exact (fb_if (cj_eq hs0 (by decide : (-72 : Int32) = nI 4294967224)) h (fun h1 => (G114_415  _ _ h1)) (fun h1 => (G114_628  _ _ h1)))
noncomputable def F114_399  (l0 : Nat) (T : fS) : Option fR := (fKi true (F108_0 l0 6 0 0 4294967295 3 0 T) (fun v0 T1 => F114_410  l0 v0 T1))
theorem G114_399 {z : Option mm_O} {T : fS} {r : fR}  (l0 : Nat) (ul1 : Value) (h : F114_399  l0 T = some r) : mm_L 114 399 [.ref l0, ul1] [] (toS z T) = some (tR z r) := by
  unfold F114_399 at h
  refine Eq.trans (e114_399 ..) ?_
  exact (fb_K0i (fun _ q => GM108 _ _ _ (rfl : (6 : Int32) = nI 6) _ _ (rfl : (0 : Int32) = nI 0) _ _ (rfl : (0 : Int32) = nI 0) _ _ (by decide : (-1 : Int32) = nI 4294967295) _ _ (rfl : (3 : Int32) = nI 3) _ _ (rfl : (0 : Int32) = nI 0) q) h (fun v0 T1 h2 => G114_410  _ _ _ _ rfl h2))
noncomputable def F114_394  (l0 : Nat) (s0 : Nat) (T : fS) : Option fR := (fif (ieq s0 4294967224) (F114_399  l0 T) (F114_628  l0 T))
theorem G114_394 {z : Option mm_O} {T : fS} {r : fR}  (l0 : Nat) (ul1 : Value) (xs0 : Int32) (s0 : Nat) (hs0 : xs0 = nI s0) (h : F114_394  l0 s0 T = some r) : mm_L 114 394 [.ref l0, ul1] [.int xs0] (toS z T) = some (tR z r) := by
  unfold F114_394 at h
  refine Eq.trans (e114_394 ..) ?_
  exact (fb_if (cj_eq hs0 (by decide : (-72 : Int32) = nI 4294967224)) h (fun h1 => (G114_399  _ _ h1)) (fun h1 => (G114_628  _ _ h1)))
noncomputable def F114_379  (l0 : Nat) (T : fS) : Option fR := (fKi true (F108_0 l0 6 0 0 199 201 0 T) (fun v0 T1 => F114_394  l0 v0 T1))
theorem G114_379 {z : Option mm_O} {T : fS} {r : fR}  (l0 : Nat) (ul1 : Value) (h : F114_379  l0 T = some r) : mm_L 114 379 [.ref l0, ul1] [] (toS z T) = some (tR z r) := by
  unfold F114_379 at h
  refine Eq.trans (e114_379 ..) ?_
  exact (fb_K0i (fun _ q => GM108 _ _ _ (rfl : (6 : Int32) = nI 6) _ _ (rfl : (0 : Int32) = nI 0) _ _ (rfl : (0 : Int32) = nI 0) _ _ (rfl : (199 : Int32) = nI 199) _ _ (rfl : (201 : Int32) = nI 201) _ _ (rfl : (0 : Int32) = nI 0) q) h (fun v0 T1 h2 => G114_394  _ _ _ _ rfl h2))
noncomputable def F114_374  (l0 : Nat) (s0 : Nat) (T : fS) : Option fR := (fif (ieq s0 4294967224) (F114_379  l0 T) (F114_628  l0 T))
theorem G114_374 {z : Option mm_O} {T : fS} {r : fR}  (l0 : Nat) (ul1 : Value) (xs0 : Int32) (s0 : Nat) (hs0 : xs0 = nI s0) (h : F114_374  l0 s0 T = some r) : mm_L 114 374 [.ref l0, ul1] [.int xs0] (toS z T) = some (tR z r) := by
  unfold F114_374 at h
  refine Eq.trans (e114_374 ..) ?_
  exact (fb_if (cj_eq hs0 (by decide : (-72 : Int32) = nI 4294967224)) h (fun h1 => (G114_379  _ _ h1)) (fun h1 => (G114_628  _ _ h1)))
noncomputable def F114_362  (l0 : Nat) (T : fS) : Option fR := (fKi true (F108_0 l0 6 0 0 6 5 0 T) (fun v0 T1 => F114_374  l0 v0 T1))
theorem G114_362 {z : Option mm_O} {T : fS} {r : fR}  (l0 : Nat) (ul1 : Value) (h : F114_362  l0 T = some r) : mm_L 114 362 [.ref l0, ul1] [] (toS z T) = some (tR z r) := by
  unfold F114_362 at h
  refine Eq.trans (e114_362 ..) ?_
  exact (fb_K0i (fun _ q => GM108 _ _ _ (rfl : (6 : Int32) = nI 6) _ _ (rfl : (0 : Int32) = nI 0) _ _ (rfl : (0 : Int32) = nI 0) _ _ (rfl : (6 : Int32) = nI 6) _ _ (rfl : (5 : Int32) = nI 5) _ _ (rfl : (0 : Int32) = nI 0) q) h (fun v0 T1 h2 => G114_374  _ _ _ _ rfl h2))
noncomputable def F114_357  (l0 : Nat) (s0 : Nat) (T : fS) : Option fR := (fif (ieq s0 4294967224) (F114_362  l0 T) (F114_628  l0 T))
theorem G114_357 {z : Option mm_O} {T : fS} {r : fR}  (l0 : Nat) (ul1 : Value) (xs0 : Int32) (s0 : Nat) (hs0 : xs0 = nI s0) (h : F114_357  l0 s0 T = some r) : mm_L 114 357 [.ref l0, ul1] [.int xs0] (toS z T) = some (tR z r) := by
  unfold F114_357 at h
  refine Eq.trans (e114_357 ..) ?_
  exact (fb_if (cj_eq hs0 (by decide : (-72 : Int32) = nI 4294967224)) h (fun h1 => (G114_362  _ _ h1)) (fun h1 => (G114_628  _ _ h1)))
noncomputable def F114_346  (l0 : Nat) (T : fS) : Option fR := (fKi true (F108_0 l0 6 0 0 5 5 0 T) (fun v0 T1 => F114_357  l0 v0 T1))
theorem G114_346 {z : Option mm_O} {T : fS} {r : fR}  (l0 : Nat) (ul1 : Value) (h : F114_346  l0 T = some r) : mm_L 114 346 [.ref l0, ul1] [] (toS z T) = some (tR z r) := by
  unfold F114_346 at h
  refine Eq.trans (e114_346 ..) ?_
  exact (fb_K0i (fun _ q => GM108 _ _ _ (rfl : (6 : Int32) = nI 6) _ _ (rfl : (0 : Int32) = nI 0) _ _ (rfl : (0 : Int32) = nI 0) _ _ (rfl : (5 : Int32) = nI 5) _ _ (rfl : (5 : Int32) = nI 5) _ _ (rfl : (0 : Int32) = nI 0) q) h (fun v0 T1 h2 => G114_357  _ _ _ _ rfl h2))
noncomputable def F114_342  (l0 : Nat) (s0 : Nat) (T : fS) : Option fR := (fif (ieq s0 1) (F114_346  l0 T) (F114_628  l0 T))
theorem G114_342 {z : Option mm_O} {T : fS} {r : fR}  (l0 : Nat) (ul1 : Value) (xs0 : Int32) (s0 : Nat) (hs0 : xs0 = nI s0) (h : F114_342  l0 s0 T = some r) : mm_L 114 342 [.ref l0, ul1] [.int xs0] (toS z T) = some (tR z r) := by
  unfold F114_342 at h
  refine Eq.trans (e114_342 ..) ?_
  exact (fb_if (cj_eq hs0 (rfl : (1 : Int32) = nI 1)) h (fun h1 => (G114_346  _ _ h1)) (fun h1 => (G114_628  _ _ h1)))
noncomputable def F114_329  (l0 : Nat) (T : fS) : Option fR := (fKi true (F108_0 l0 6 0 1 15 16 0 T) (fun v0 T1 => F114_342  l0 v0 T1))
theorem G114_329 {z : Option mm_O} {T : fS} {r : fR}  (l0 : Nat) (ul1 : Value) (h : F114_329  l0 T = some r) : mm_L 114 329 [.ref l0, ul1] [] (toS z T) = some (tR z r) := by
  unfold F114_329 at h
  refine Eq.trans (e114_329 ..) ?_
  exact (fb_K0i (fun _ q => GM108 _ _ _ (rfl : (6 : Int32) = nI 6) _ _ (rfl : (0 : Int32) = nI 0) _ _ (rfl : (1 : Int32) = nI 1) _ _ (rfl : (15 : Int32) = nI 15) _ _ (rfl : (16 : Int32) = nI 16) _ _ (rfl : (0 : Int32) = nI 0) q) h (fun v0 T1 h2 => G114_342  _ _ _ _ rfl h2))
noncomputable def F114_325  (l0 : Nat) (s0 : Nat) (T : fS) : Option fR := (fif (ieq s0 1) (F114_329  l0 T) (F114_628  l0 T))
theorem G114_325 {z : Option mm_O} {T : fS} {r : fR}  (l0 : Nat) (ul1 : Value) (xs0 : Int32) (s0 : Nat) (hs0 : xs0 = nI s0) (h : F114_325  l0 s0 T = some r) : mm_L 114 325 [.ref l0, ul1] [.int xs0] (toS z T) = some (tR z r) := by
  unfold F114_325 at h
  refine Eq.trans (e114_325 ..) ?_
  exact (fb_if (cj_eq hs0 (rfl : (1 : Int32) = nI 1)) h (fun h1 => (G114_329  _ _ h1)) (fun h1 => (G114_628  _ _ h1)))
noncomputable def F114_312  (l0 : Nat) (T : fS) : Option fR := (fKi true (F108_0 l0 6 1 0 14 22 3 T) (fun v0 T1 => F114_325  l0 v0 T1))
theorem G114_312 {z : Option mm_O} {T : fS} {r : fR}  (l0 : Nat) (ul1 : Value) (h : F114_312  l0 T = some r) : mm_L 114 312 [.ref l0, ul1] [] (toS z T) = some (tR z r) := by
  unfold F114_312 at h
  refine Eq.trans (e114_312 ..) ?_
  exact (fb_K0i (fun _ q => GM108 _ _ _ (rfl : (6 : Int32) = nI 6) _ _ (rfl : (1 : Int32) = nI 1) _ _ (rfl : (0 : Int32) = nI 0) _ _ (rfl : (14 : Int32) = nI 14) _ _ (rfl : (22 : Int32) = nI 22) _ _ (rfl : (3 : Int32) = nI 3) q) h (fun v0 T1 h2 => G114_325  _ _ _ _ rfl h2))
noncomputable def F114_308  (l0 : Nat) (s0 : Nat) (T : fS) : Option fR := (fif (ieq s0 2) (F114_312  l0 T) (F114_628  l0 T))
theorem G114_308 {z : Option mm_O} {T : fS} {r : fR}  (l0 : Nat) (ul1 : Value) (xs0 : Int32) (s0 : Nat) (hs0 : xs0 = nI s0) (h : F114_308  l0 s0 T = some r) : mm_L 114 308 [.ref l0, ul1] [.int xs0] (toS z T) = some (tR z r) := by
  unfold F114_308 at h
  refine Eq.trans (e114_308 ..) ?_
  exact (fb_if (cj_eq hs0 (rfl : (2 : Int32) = nI 2)) h (fun h1 => (G114_312  _ _ h1)) (fun h1 => (G114_628  _ _ h1)))
noncomputable def F114_295  (l0 : Nat) (T : fS) : Option fR := (fKi true (F108_0 l0 6 0 0 20 24 4 T) (fun v0 T1 => F114_308  l0 v0 T1))
theorem G114_295 {z : Option mm_O} {T : fS} {r : fR}  (l0 : Nat) (ul1 : Value) (h : F114_295  l0 T = some r) : mm_L 114 295 [.ref l0, ul1] [] (toS z T) = some (tR z r) := by
  unfold F114_295 at h
  refine Eq.trans (e114_295 ..) ?_
  exact (fb_K0i (fun _ q => GM108 _ _ _ (rfl : (6 : Int32) = nI 6) _ _ (rfl : (0 : Int32) = nI 0) _ _ (rfl : (0 : Int32) = nI 0) _ _ (rfl : (20 : Int32) = nI 20) _ _ (rfl : (24 : Int32) = nI 24) _ _ (rfl : (4 : Int32) = nI 4) q) h (fun v0 T1 h2 => G114_308  _ _ _ _ rfl h2))
noncomputable def F114_290  (l0 : Nat) (s0 : Nat) (T : fS) : Option fR := (fif (ieq s0 4294967223) (F114_295  l0 T) (F114_628  l0 T))
theorem G114_290 {z : Option mm_O} {T : fS} {r : fR}  (l0 : Nat) (ul1 : Value) (xs0 : Int32) (s0 : Nat) (hs0 : xs0 = nI s0) (h : F114_290  l0 s0 T = some r) : mm_L 114 290 [.ref l0, ul1] [.int xs0] (toS z T) = some (tR z r) := by
  unfold F114_290 at h
  refine Eq.trans (e114_290 ..) ?_
  exact (fb_if (cj_eq hs0 (by decide : (-73 : Int32) = nI 4294967223)) h (fun h1 => (G114_295  _ _ h1)) (fun h1 => (G114_628  _ _ h1)))
noncomputable def F114_277  (l0 : Nat) (T : fS) : Option fR := (fKi true (F108_0 l0 6 0 0 15 16 3 T) (fun v0 T1 => F114_290  l0 v0 T1))
theorem G114_277 {z : Option mm_O} {T : fS} {r : fR}  (l0 : Nat) (ul1 : Value) (h : F114_277  l0 T = some r) : mm_L 114 277 [.ref l0, ul1] [] (toS z T) = some (tR z r) := by
  unfold F114_277 at h
  refine Eq.trans (e114_277 ..) ?_
  exact (fb_K0i (fun _ q => GM108 _ _ _ (rfl : (6 : Int32) = nI 6) _ _ (rfl : (0 : Int32) = nI 0) _ _ (rfl : (0 : Int32) = nI 0) _ _ (rfl : (15 : Int32) = nI 15) _ _ (rfl : (16 : Int32) = nI 16) _ _ (rfl : (3 : Int32) = nI 3) q) h (fun v0 T1 h2 => G114_290  _ _ _ _ rfl h2))
noncomputable def F114_273  (l0 : Nat) (s0 : Nat) (T : fS) : Option fR := (fif (ieq s0 1) (F114_277  l0 T) (F114_628  l0 T))
theorem G114_273 {z : Option mm_O} {T : fS} {r : fR}  (l0 : Nat) (ul1 : Value) (xs0 : Int32) (s0 : Nat) (hs0 : xs0 = nI s0) (h : F114_273  l0 s0 T = some r) : mm_L 114 273 [.ref l0, ul1] [.int xs0] (toS z T) = some (tR z r) := by
  unfold F114_273 at h
  refine Eq.trans (e114_273 ..) ?_
  exact (fb_if (cj_eq hs0 (rfl : (1 : Int32) = nI 1)) h (fun h1 => (G114_277  _ _ h1)) (fun h1 => (G114_628  _ _ h1)))
noncomputable def F114_260  (l0 : Nat) (T : fS) : Option fR := (fKi true (F108_0 l0 6 0 0 10 20 3 T) (fun v0 T1 => F114_273  l0 v0 T1))
theorem G114_260 {z : Option mm_O} {T : fS} {r : fR}  (l0 : Nat) (ul1 : Value) (h : F114_260  l0 T = some r) : mm_L 114 260 [.ref l0, ul1] [] (toS z T) = some (tR z r) := by
  unfold F114_260 at h
  refine Eq.trans (e114_260 ..) ?_
  exact (fb_K0i (fun _ q => GM108 _ _ _ (rfl : (6 : Int32) = nI 6) _ _ (rfl : (0 : Int32) = nI 0) _ _ (rfl : (0 : Int32) = nI 0) _ _ (rfl : (10 : Int32) = nI 10) _ _ (rfl : (20 : Int32) = nI 20) _ _ (rfl : (3 : Int32) = nI 3) q) h (fun v0 T1 h2 => G114_273  _ _ _ _ rfl h2))
noncomputable def F114_255  (l0 : Nat) (s0 : Nat) (T : fS) : Option fR := (fif (ieq s0 0) (F114_260  l0 T) (F114_258  l0 T))
theorem G114_255 {z : Option mm_O} {T : fS} {r : fR}  (l0 : Nat) (ul1 : Value) (xs0 : Int32) (s0 : Nat) (hs0 : xs0 = nI s0) (h : F114_255  l0 s0 T = some r) : mm_L 114 255 [.ref l0, ul1] [.int xs0] (toS z T) = some (tR z r) := by
  unfold F114_255 at h
  refine Eq.trans (e114_255 ..) ?_
  exact (fb_if (cj_eq hs0 (rfl : (0 : Int32) = nI 0)) h (fun h1 => (G114_260  _ _ h1)) (fun h1 => (G114_258  _ _ h1)))
noncomputable def F114_250  (l0 : Nat) (T : fS) : Option fR := (fKi true (fif (fch T l0 6) (F88_0 l0 0 T) none) (fun v0 T1 => F114_255  l0 v0 T1))
theorem G114_250 {z : Option mm_O} {T : fS} {r : fR}  (l0 : Nat) (ul1 : Value) (h : F114_250  l0 T = some r) : mm_L 114 250 [.ref l0, ul1] [] (toS z T) = some (tR z r) := by
  unfold F114_250 at h
  refine Eq.trans (e114_250 ..) ?_
  exact (fb_K0i (fun _ q => fb_mo (y := 88) ow_88 q (fun q => GM88 _ _ _ (rfl : (0 : Int32) = nI 0) q)) h (fun v0 T1 h2 => G114_255  _ _ _ _ rfl h2))
noncomputable def F114_246  (l0 : Nat) (s0 : Nat) (T : fS) : Option fR := (fif (ieq s0 2) (F114_250  l0 T) (F114_258  l0 T))
theorem G114_246 {z : Option mm_O} {T : fS} {r : fR}  (l0 : Nat) (ul1 : Value) (xs0 : Int32) (s0 : Nat) (hs0 : xs0 = nI s0) (h : F114_246  l0 s0 T = some r) : mm_L 114 246 [.ref l0, ul1] [.int xs0] (toS z T) = some (tR z r) := by
  unfold F114_246 at h
  refine Eq.trans (e114_246 ..) ?_
  exact (fb_if (cj_eq hs0 (rfl : (2 : Int32) = nI 2)) h (fun h1 => (G114_250  _ _ h1)) (fun h1 => (G114_258  _ _ h1)))
noncomputable def F114_241  (l0 : Nat) (T : fS) : Option fR := (fKi true (fif (fch T l0 6) (F87_0 l0 0 T) none) (fun v0 T1 => F114_246  l0 v0 T1))
theorem G114_241 {z : Option mm_O} {T : fS} {r : fR}  (l0 : Nat) (ul1 : Value) (h : F114_241  l0 T = some r) : mm_L 114 241 [.ref l0, ul1] [] (toS z T) = some (tR z r) := by
  unfold F114_241 at h
  refine Eq.trans (e114_241 ..) ?_
  exact (fb_K0i (fun _ q => fb_mo (y := 87) ow_87 q (fun q => GM87 _ _ _ (rfl : (0 : Int32) = nI 0) q)) h (fun v0 T1 h2 => G114_246  _ _ _ _ rfl h2))
noncomputable def F114_236  (l0 : Nat) (s0 : Nat) (T : fS) : Option fR := (fif (ieq s0 7) (F114_241  l0 T) (F114_258  l0 T))
theorem G114_236 {z : Option mm_O} {T : fS} {r : fR}  (l0 : Nat) (ul1 : Value) (xs0 : Int32) (s0 : Nat) (hs0 : xs0 = nI s0) (h : F114_236  l0 s0 T = some r) : mm_L 114 236 [.ref l0, ul1] [.int xs0] (toS z T) = some (tR z r) := by
  unfold F114_236 at h
  refine Eq.trans (e114_236 ..) ?_
  exact (fb_if (cj_eq hs0 (rfl : (7 : Int32) = nI 7)) h (fun h1 => (G114_241  _ _ h1)) (fun h1 => (G114_258  _ _ h1)))
noncomputable def F114_228  (l0 : Nat) (T : fS) : Option fR := (fKi true (fif (fch T l0 6) (F85_0 l0 1 6 4294967295 T) none) (fun v0 T1 => F114_236  l0 v0 T1))
theorem G114_228 {z : Option mm_O} {T : fS} {r : fR}  (l0 : Nat) (ul1 : Value) (h : F114_228  l0 T = some r) : mm_L 114 228 [.ref l0, ul1] [] (toS z T) = some (tR z r) := by
  unfold F114_228 at h
  refine Eq.trans (e114_228 ..) ?_
  exact (fb_K0i (fun _ q => fb_mo (y := 85) ow_85 q (fun q => GM85 _ _ _ (rfl : (1 : Int32) = nI 1) _ _ (rfl : (6 : Int32) = nI 6) _ _ (by decide : (-1 : Int32) = nI 4294967295) q)) h (fun v0 T1 h2 => G114_236  _ _ _ _ rfl h2))
noncomputable def F114_223  (l0 : Nat) (s0 : Nat) (T : fS) : Option fR := (fif (ieq s0 6) (F114_228  l0 T) (F114_258  l0 T))
theorem G114_223 {z : Option mm_O} {T : fS} {r : fR}  (l0 : Nat) (ul1 : Value) (xs0 : Int32) (s0 : Nat) (hs0 : xs0 = nI s0) (h : F114_223  l0 s0 T = some r) : mm_L 114 223 [.ref l0, ul1] [.int xs0] (toS z T) = some (tR z r) := by
  unfold F114_223 at h
  refine Eq.trans (e114_223 ..) ?_
  exact (fb_if (cj_eq hs0 (rfl : (6 : Int32) = nI 6)) h (fun h1 => (G114_228  _ _ h1)) (fun h1 => (G114_258  _ _ h1)))
noncomputable def F114_218  (l0 : Nat) (T : fS) : Option fR := (fKi true (fif (fch T l0 6) (F84_0 l0 1 T) none) (fun v0 T1 => F114_223  l0 v0 T1))
theorem G114_218 {z : Option mm_O} {T : fS} {r : fR}  (l0 : Nat) (ul1 : Value) (h : F114_218  l0 T = some r) : mm_L 114 218 [.ref l0, ul1] [] (toS z T) = some (tR z r) := by
  unfold F114_218 at h
  refine Eq.trans (e114_218 ..) ?_
  exact (fb_K0i (fun _ q => fb_mo (y := 84) ow_84 q (fun q => GM84 _ _ _ (rfl : (1 : Int32) = nI 1) q)) h (fun v0 T1 h2 => G114_223  _ _ _ _ rfl h2))
noncomputable def F114_215  (l0 : Nat) (s0 : Nat) (T : fS) : Option fR := (fif (ieq s0 0) (F114_218  l0 T) (F114_258  l0 T))
theorem G114_215 {z : Option mm_O} {T : fS} {r : fR}  (l0 : Nat) (ul1 : Value) (xs0 : Int32) (s0 : Nat) (hs0 : xs0 = nI s0) (h : F114_215  l0 s0 T = some r) : mm_L 114 215 [.ref l0, ul1] [.int xs0] (toS z T) = some (tR z r) := by
  unfold F114_215 at h
  refine Eq.trans (e114_215 ..) ?_
  exact (fb_if (cj_eq hs0 (rfl : (0 : Int32) = nI 0)) h (fun h1 => (G114_218  _ _ h1)) (fun h1 => (G114_258  _ _ h1)))
noncomputable def F114_208  (l0 : Nat) (T : fS) : Option fR := (fKi true (fif (fch T l0 6) (F86_0 l0 1 1 1 T) none) (fun v0 T1 => F114_215  l0 v0 T1))
theorem G114_208 {z : Option mm_O} {T : fS} {r : fR}  (l0 : Nat) (ul1 : Value) (h : F114_208  l0 T = some r) : mm_L 114 208 [.ref l0, ul1] [] (toS z T) = some (tR z r) := by
  unfold F114_208 at h
  refine Eq.trans (e114_208 ..) ?_
  exact (fb_K0i (fun _ q => fb_mo (y := 86) ow_86 q (fun q => GM86 _ _ _ (rfl : (1 : Int32) = nI 1) _ _ (rfl : (1 : Int32) = nI 1) _ _ (rfl : (1 : Int32) = nI 1) q)) h (fun v0 T1 h2 => G114_215  _ _ _ _ rfl h2))
noncomputable def F114_205  (l0 : Nat) (s0 : Nat) (T : fS) : Option fR := (fif (ieq s0 0) (F114_208  l0 T) (F114_258  l0 T))
theorem G114_205 {z : Option mm_O} {T : fS} {r : fR}  (l0 : Nat) (ul1 : Value) (xs0 : Int32) (s0 : Nat) (hs0 : xs0 = nI s0) (h : F114_205  l0 s0 T = some r) : mm_L 114 205 [.ref l0, ul1] [.int xs0] (toS z T) = some (tR z r) := by
  unfold F114_205 at h
  refine Eq.trans (e114_205 ..) ?_
  exact (fb_if (cj_eq hs0 (rfl : (0 : Int32) = nI 0)) h (fun h1 => (G114_208  _ _ h1)) (fun h1 => (G114_258  _ _ h1)))
noncomputable def F114_200  (l0 : Nat) (T : fS) : Option fR := (fKi true (fif (fch T l0 6) (F87_0 l0 1 T) none) (fun v0 T1 => F114_205  l0 v0 T1))
theorem G114_200 {z : Option mm_O} {T : fS} {r : fR}  (l0 : Nat) (ul1 : Value) (h : F114_200  l0 T = some r) : mm_L 114 200 [.ref l0, ul1] [] (toS z T) = some (tR z r) := by
  unfold F114_200 at h
  refine Eq.trans (e114_200 ..) ?_
  exact (fb_K0i (fun _ q => fb_mo (y := 87) ow_87 q (fun q => GM87 _ _ _ (rfl : (1 : Int32) = nI 1) q)) h (fun v0 T1 h2 => G114_205  _ _ _ _ rfl h2))
noncomputable def F114_195  (l0 : Nat) (s0 : Nat) (T : fS) : Option fR := (fif (ieq s0 4294967225) (F114_200  l0 T) (F114_258  l0 T))
theorem G114_195 {z : Option mm_O} {T : fS} {r : fR}  (l0 : Nat) (ul1 : Value) (xs0 : Int32) (s0 : Nat) (hs0 : xs0 = nI s0) (h : F114_195  l0 s0 T = some r) : mm_L 114 195 [.ref l0, ul1] [.int xs0] (toS z T) = some (tR z r) := by
  unfold F114_195 at h
  refine Eq.trans (e114_195 ..) ?_
  exact (fb_if (cj_eq hs0 (by decide : (-71 : Int32) = nI 4294967225)) h (fun h1 => (G114_200  _ _ h1)) (fun h1 => (G114_258  _ _ h1)))
noncomputable def F114_185  (l0 : Nat) (T : fS) : Option fR := (fKi true (F106_0 l0 13 0 0 1 0 T) (fun v0 T1 => F114_195  l0 v0 T1))
theorem G114_185 {z : Option mm_O} {T : fS} {r : fR}  (l0 : Nat) (ul1 : Value) (h : F114_185  l0 T = some r) : mm_L 114 185 [.ref l0, ul1] [] (toS z T) = some (tR z r) := by
  unfold F114_185 at h
  refine Eq.trans (e114_185 ..) ?_
  exact (fb_K0i (fun _ q => GM106 _ _ _ (rfl : (13 : Int32) = nI 13) _ _ (rfl : (0 : Int32) = nI 0) _ _ (rfl : (0 : Int32) = nI 0) _ _ (rfl : (1 : Int32) = nI 1) _ _ (rfl : (0 : Int32) = nI 0) q) h (fun v0 T1 h2 => G114_195  _ _ _ _ rfl h2))
noncomputable def F114_180  (l0 : Nat) (s0 : Nat) (T : fS) : Option fR := (fif (ieq s0 4294967225) (F114_185  l0 T) (F114_258  l0 T))
theorem G114_180 {z : Option mm_O} {T : fS} {r : fR}  (l0 : Nat) (ul1 : Value) (xs0 : Int32) (s0 : Nat) (hs0 : xs0 = nI s0) (h : F114_180  l0 s0 T = some r) : mm_L 114 180 [.ref l0, ul1] [.int xs0] (toS z T) = some (tR z r) := by
  unfold F114_180 at h
  refine Eq.trans (e114_180 ..) ?_
  exact (fb_if (cj_eq hs0 (by decide : (-71 : Int32) = nI 4294967225)) h (fun h1 => (G114_185  _ _ h1)) (fun h1 => (G114_258  _ _ h1)))
noncomputable def F114_170  (l0 : Nat) (T : fS) : Option fR := (fKi true (F106_0 l0 13 0 1 4294967295 0 T) (fun v0 T1 => F114_180  l0 v0 T1))
theorem G114_170 {z : Option mm_O} {T : fS} {r : fR}  (l0 : Nat) (ul1 : Value) (h : F114_170  l0 T = some r) : mm_L 114 170 [.ref l0, ul1] [] (toS z T) = some (tR z r) := by
  unfold F114_170 at h
  refine Eq.trans (e114_170 ..) ?_
  exact (fb_K0i (fun _ q => GM106 _ _ _ (rfl : (13 : Int32) = nI 13) _ _ (rfl : (0 : Int32) = nI 0) _ _ (rfl : (1 : Int32) = nI 1) _ _ (by decide : (-1 : Int32) = nI 4294967295) _ _ (rfl : (0 : Int32) = nI 0) q) h (fun v0 T1 h2 => G114_180  _ _ _ _ rfl h2))
noncomputable def F114_167  (l0 : Nat) (s0 : Nat) (T : fS) : Option fR := (fif (ieq s0 0) (F114_170  l0 T) (F114_258  l0 T))
theorem G114_167 {z : Option mm_O} {T : fS} {r : fR}  (l0 : Nat) (ul1 : Value) (xs0 : Int32) (s0 : Nat) (hs0 : xs0 = nI s0) (h : F114_167  l0 s0 T = some r) : mm_L 114 167 [.ref l0, ul1] [.int xs0] (toS z T) = some (tR z r) := by
  unfold F114_167 at h
  refine Eq.trans (e114_167 ..) ?_
  exact (fb_if (cj_eq hs0 (rfl : (0 : Int32) = nI 0)) h (fun h1 => (G114_170  _ _ h1)) (fun h1 => (G114_258  _ _ h1)))
noncomputable def F114_162  (l0 : Nat) (T : fS) : Option fR := (fKi true (fif (fch T l0 6) (F88_0 l0 5 T) none) (fun v0 T1 => F114_167  l0 v0 T1))
theorem G114_162 {z : Option mm_O} {T : fS} {r : fR}  (l0 : Nat) (ul1 : Value) (h : F114_162  l0 T = some r) : mm_L 114 162 [.ref l0, ul1] [] (toS z T) = some (tR z r) := by
  unfold F114_162 at h
  refine Eq.trans (e114_162 ..) ?_
  exact (fb_K0i (fun _ q => fb_mo (y := 88) ow_88 q (fun q => GM88 _ _ _ (rfl : (5 : Int32) = nI 5) q)) h (fun v0 T1 h2 => G114_167  _ _ _ _ rfl h2))
noncomputable def F114_159  (l0 : Nat) (s0 : Nat) (T : fS) : Option fR := (fif (ieq s0 0) (F114_162  l0 T) (F114_258  l0 T))
theorem G114_159 {z : Option mm_O} {T : fS} {r : fR}  (l0 : Nat) (ul1 : Value) (xs0 : Int32) (s0 : Nat) (hs0 : xs0 = nI s0) (h : F114_159  l0 s0 T = some r) : mm_L 114 159 [.ref l0, ul1] [.int xs0] (toS z T) = some (tR z r) := by
  unfold F114_159 at h
  refine Eq.trans (e114_159 ..) ?_
  exact (fb_if (cj_eq hs0 (rfl : (0 : Int32) = nI 0)) h (fun h1 => (G114_162  _ _ h1)) (fun h1 => (G114_258  _ _ h1)))
noncomputable def F114_154  (l0 : Nat) (T : fS) : Option fR := (fKi true (fif (fch T l0 6) (F88_0 l0 1 T) none) (fun v0 T1 => F114_159  l0 v0 T1))
theorem G114_154 {z : Option mm_O} {T : fS} {r : fR}  (l0 : Nat) (ul1 : Value) (h : F114_154  l0 T = some r) : mm_L 114 154 [.ref l0, ul1] [] (toS z T) = some (tR z r) := by
  unfold F114_154 at h
  refine Eq.trans (e114_154 ..) ?_
  exact (fb_K0i (fun _ q => fb_mo (y := 88) ow_88 q (fun q => GM88 _ _ _ (rfl : (1 : Int32) = nI 1) q)) h (fun v0 T1 h2 => G114_159  _ _ _ _ rfl h2))
noncomputable def F114_150  (l0 : Nat) (s0 : Nat) (T : fS) : Option fR := (fif (ieq s0 3) (F114_154  l0 T) (F114_258  l0 T))
theorem G114_150 {z : Option mm_O} {T : fS} {r : fR}  (l0 : Nat) (ul1 : Value) (xs0 : Int32) (s0 : Nat) (hs0 : xs0 = nI s0) (h : F114_150  l0 s0 T = some r) : mm_L 114 150 [.ref l0, ul1] [.int xs0] (toS z T) = some (tR z r) := by
  unfold F114_150 at h
  refine Eq.trans (e114_150 ..) ?_
  exact (fb_if (cj_eq hs0 (rfl : (3 : Int32) = nI 3)) h (fun h1 => (G114_154  _ _ h1)) (fun h1 => (G114_258  _ _ h1)))
noncomputable def F114_145  (l0 : Nat) (T : fS) : Option fR := (fKi true (fif (fch T l0 6) (F87_0 l0 1 T) none) (fun v0 T1 => F114_150  l0 v0 T1))
theorem G114_145 {z : Option mm_O} {T : fS} {r : fR}  (l0 : Nat) (ul1 : Value) (h : F114_145  l0 T = some r) : mm_L 114 145 [.ref l0, ul1] [] (toS z T) = some (tR z r) := by
  unfold F114_145 at h
  refine Eq.trans (e114_145 ..) ?_
  exact (fb_K0i (fun _ q => fb_mo (y := 87) ow_87 q (fun q => GM87 _ _ _ (rfl : (1 : Int32) = nI 1) q)) h (fun v0 T1 h2 => G114_150  _ _ _ _ rfl h2))
noncomputable def F114_141  (l0 : Nat) (s0 : Nat) (T : fS) : Option fR := (fif (ieq s0 3) (F114_145  l0 T) (F114_258  l0 T))
theorem G114_141 {z : Option mm_O} {T : fS} {r : fR}  (l0 : Nat) (ul1 : Value) (xs0 : Int32) (s0 : Nat) (hs0 : xs0 = nI s0) (h : F114_141  l0 s0 T = some r) : mm_L 114 141 [.ref l0, ul1] [.int xs0] (toS z T) = some (tR z r) := by
  unfold F114_141 at h
  refine Eq.trans (e114_141 ..) ?_
  exact (fb_if (cj_eq hs0 (rfl : (3 : Int32) = nI 3)) h (fun h1 => (G114_145  _ _ h1)) (fun h1 => (G114_258  _ _ h1)))
noncomputable def F114_136  (l0 : Nat) (T : fS) : Option fR := (fKi true (fif (fch T l0 6) (F88_0 l0 5 T) none) (fun v0 T1 => F114_141  l0 v0 T1))
theorem G114_136 {z : Option mm_O} {T : fS} {r : fR}  (l0 : Nat) (ul1 : Value) (h : F114_136  l0 T = some r) : mm_L 114 136 [.ref l0, ul1] [] (toS z T) = some (tR z r) := by
  unfold F114_136 at h
  refine Eq.trans (e114_136 ..) ?_
  exact (fb_K0i (fun _ q => fb_mo (y := 88) ow_88 q (fun q => GM88 _ _ _ (rfl : (5 : Int32) = nI 5) q)) h (fun v0 T1 h2 => G114_141  _ _ _ _ rfl h2))
noncomputable def F114_132  (l0 : Nat) (s0 : Nat) (T : fS) : Option fR := (fif (ieq s0 5) (F114_136  l0 T) (F114_258  l0 T))
theorem G114_132 {z : Option mm_O} {T : fS} {r : fR}  (l0 : Nat) (ul1 : Value) (xs0 : Int32) (s0 : Nat) (hs0 : xs0 = nI s0) (h : F114_132  l0 s0 T = some r) : mm_L 114 132 [.ref l0, ul1] [.int xs0] (toS z T) = some (tR z r) := by
  unfold F114_132 at h
  refine Eq.trans (e114_132 ..) ?_
  exact (fb_if (cj_eq hs0 (rfl : (5 : Int32) = nI 5)) h (fun h1 => (G114_136  _ _ h1)) (fun h1 => (G114_258  _ _ h1)))
noncomputable def F114_125  (l0 : Nat) (T : fS) : Option fR := (fKi true (fif (fch T l0 6) (F85_0 l0 0 4 4 T) none) (fun v0 T1 => F114_132  l0 v0 T1))
theorem G114_125 {z : Option mm_O} {T : fS} {r : fR}  (l0 : Nat) (ul1 : Value) (h : F114_125  l0 T = some r) : mm_L 114 125 [.ref l0, ul1] [] (toS z T) = some (tR z r) := by
  unfold F114_125 at h
  refine Eq.trans (e114_125 ..) ?_
  exact (fb_K0i (fun _ q => fb_mo (y := 85) ow_85 q (fun q => GM85 _ _ _ (rfl : (0 : Int32) = nI 0) _ _ (rfl : (4 : Int32) = nI 4) _ _ (rfl : (4 : Int32) = nI 4) q)) h (fun v0 T1 h2 => G114_132  _ _ _ _ rfl h2))
noncomputable def F114_121  (l0 : Nat) (s0 : Nat) (T : fS) : Option fR := (fif (ieq s0 4) (F114_125  l0 T) (F114_258  l0 T))
theorem G114_121 {z : Option mm_O} {T : fS} {r : fR}  (l0 : Nat) (ul1 : Value) (xs0 : Int32) (s0 : Nat) (hs0 : xs0 = nI s0) (h : F114_121  l0 s0 T = some r) : mm_L 114 121 [.ref l0, ul1] [.int xs0] (toS z T) = some (tR z r) := by
  unfold F114_121 at h
  refine Eq.trans (e114_121 ..) ?_
  exact (fb_if (cj_eq hs0 (rfl : (4 : Int32) = nI 4)) h (fun h1 => (G114_125  _ _ h1)) (fun h1 => (G114_258  _ _ h1)))
noncomputable def F114_114  (l0 : Nat) (T : fS) : Option fR := (fKi true (fif (fch T l0 6) (F85_0 l0 2 1 0 T) none) (fun v0 T1 => F114_121  l0 v0 T1))
theorem G114_114 {z : Option mm_O} {T : fS} {r : fR}  (l0 : Nat) (ul1 : Value) (h : F114_114  l0 T = some r) : mm_L 114 114 [.ref l0, ul1] [] (toS z T) = some (tR z r) := by
  unfold F114_114 at h
  refine Eq.trans (e114_114 ..) ?_
  exact (fb_K0i (fun _ q => fb_mo (y := 85) ow_85 q (fun q => GM85 _ _ _ (rfl : (2 : Int32) = nI 2) _ _ (rfl : (1 : Int32) = nI 1) _ _ (rfl : (0 : Int32) = nI 0) q)) h (fun v0 T1 h2 => G114_121  _ _ _ _ rfl h2))
noncomputable def F114_109  (l0 : Nat) (s0 : Nat) (T : fS) : Option fR := (fif (ieq s0 4294967223) (F114_114  l0 T) (F114_258  l0 T))
theorem G114_109 {z : Option mm_O} {T : fS} {r : fR}  (l0 : Nat) (ul1 : Value) (xs0 : Int32) (s0 : Nat) (hs0 : xs0 = nI s0) (h : F114_109  l0 s0 T = some r) : mm_L 114 109 [.ref l0, ul1] [.int xs0] (toS z T) = some (tR z r) := by
  unfold F114_109 at h
  refine Eq.trans (e114_109 ..) ?_
  exact (fb_if (cj_eq hs0 (by decide : (-73 : Int32) = nI 4294967223)) h (fun h1 => (G114_114  _ _ h1)) (fun h1 => (G114_258  _ _ h1)))
noncomputable def F114_99  (l0 : Nat) (T : fS) : Option fR := (fKi true (F106_0 l0 13 1 0 1 0 T) (fun v0 T1 => F114_109  l0 v0 T1))
theorem G114_99 {z : Option mm_O} {T : fS} {r : fR}  (l0 : Nat) (ul1 : Value) (h : F114_99  l0 T = some r) : mm_L 114 99 [.ref l0, ul1] [] (toS z T) = some (tR z r) := by
  unfold F114_99 at h
  refine Eq.trans (e114_99 ..) ?_
  exact (fb_K0i (fun _ q => GM106 _ _ _ (rfl : (13 : Int32) = nI 13) _ _ (rfl : (1 : Int32) = nI 1) _ _ (rfl : (0 : Int32) = nI 0) _ _ (rfl : (1 : Int32) = nI 1) _ _ (rfl : (0 : Int32) = nI 0) q) h (fun v0 T1 h2 => G114_109  _ _ _ _ rfl h2))
noncomputable def F114_94  (l0 : Nat) (s0 : Nat) (T : fS) : Option fR := (fif (ieq s0 4294967223) (F114_99  l0 T) (F114_258  l0 T))
theorem G114_94 {z : Option mm_O} {T : fS} {r : fR}  (l0 : Nat) (ul1 : Value) (xs0 : Int32) (s0 : Nat) (hs0 : xs0 = nI s0) (h : F114_94  l0 s0 T = some r) : mm_L 114 94 [.ref l0, ul1] [.int xs0] (toS z T) = some (tR z r) := by
  unfold F114_94 at h
  refine Eq.trans (e114_94 ..) ?_
  exact (fb_if (cj_eq hs0 (by decide : (-73 : Int32) = nI 4294967223)) h (fun h1 => (G114_99  _ _ h1)) (fun h1 => (G114_258  _ _ h1)))
noncomputable def F114_84  (l0 : Nat) (T : fS) : Option fR := (fKi true (F106_0 l0 13 1 1 4294967295 0 T) (fun v0 T1 => F114_94  l0 v0 T1))
theorem G114_84 {z : Option mm_O} {T : fS} {r : fR}  (l0 : Nat) (ul1 : Value) (h : F114_84  l0 T = some r) : mm_L 114 84 [.ref l0, ul1] [] (toS z T) = some (tR z r) := by
  unfold F114_84 at h
  refine Eq.trans (e114_84 ..) ?_
  exact (fb_K0i (fun _ q => GM106 _ _ _ (rfl : (13 : Int32) = nI 13) _ _ (rfl : (1 : Int32) = nI 1) _ _ (rfl : (1 : Int32) = nI 1) _ _ (by decide : (-1 : Int32) = nI 4294967295) _ _ (rfl : (0 : Int32) = nI 0) q) h (fun v0 T1 h2 => G114_94  _ _ _ _ rfl h2))
noncomputable def F114_81  (l0 : Nat) (s0 : Nat) (T : fS) : Option fR := (fif (ieq s0 0) (F114_84  l0 T) (F114_258  l0 T))
theorem G114_81 {z : Option mm_O} {T : fS} {r : fR}  (l0 : Nat) (ul1 : Value) (xs0 : Int32) (s0 : Nat) (hs0 : xs0 = nI s0) (h : F114_81  l0 s0 T = some r) : mm_L 114 81 [.ref l0, ul1] [.int xs0] (toS z T) = some (tR z r) := by
  unfold F114_81 at h
  refine Eq.trans (e114_81 ..) ?_
  exact (fb_if (cj_eq hs0 (rfl : (0 : Int32) = nI 0)) h (fun h1 => (G114_84  _ _ h1)) (fun h1 => (G114_258  _ _ h1)))
noncomputable def F114_76  (l0 : Nat) (T : fS) : Option fR := (fKi true (fif (fch T l0 6) (F88_0 l0 3 T) none) (fun v0 T1 => F114_81  l0 v0 T1))
theorem G114_76 {z : Option mm_O} {T : fS} {r : fR}  (l0 : Nat) (ul1 : Value) (h : F114_76  l0 T = some r) : mm_L 114 76 [.ref l0, ul1] [] (toS z T) = some (tR z r) := by
  unfold F114_76 at h
  refine Eq.trans (e114_76 ..) ?_
  exact (fb_K0i (fun _ q => fb_mo (y := 88) ow_88 q (fun q => GM88 _ _ _ (rfl : (3 : Int32) = nI 3) q)) h (fun v0 T1 h2 => G114_81  _ _ _ _ rfl h2))
noncomputable def F114_72  (l0 : Nat) (s0 : Nat) (T : fS) : Option fR := (fif (ieq s0 1) (F114_76  l0 T) (F114_258  l0 T))
theorem G114_72 {z : Option mm_O} {T : fS} {r : fR}  (l0 : Nat) (ul1 : Value) (xs0 : Int32) (s0 : Nat) (hs0 : xs0 = nI s0) (h : F114_72  l0 s0 T = some r) : mm_L 114 72 [.ref l0, ul1] [.int xs0] (toS z T) = some (tR z r) := by
  unfold F114_72 at h
  refine Eq.trans (e114_72 ..) ?_
  exact (fb_if (cj_eq hs0 (rfl : (1 : Int32) = nI 1)) h (fun h1 => (G114_76  _ _ h1)) (fun h1 => (G114_258  _ _ h1)))
noncomputable def F114_65  (l0 : Nat) (T : fS) : Option fR := (fKi true (fif (fch T l0 6) (F86_0 l0 1 1 0 T) none) (fun v0 T1 => F114_72  l0 v0 T1))
theorem G114_65 {z : Option mm_O} {T : fS} {r : fR}  (l0 : Nat) (ul1 : Value) (h : F114_65  l0 T = some r) : mm_L 114 65 [.ref l0, ul1] [] (toS z T) = some (tR z r) := by
  unfold F114_65 at h
  refine Eq.trans (e114_65 ..) ?_
  exact (fb_K0i (fun _ q => fb_mo (y := 86) ow_86 q (fun q => GM86 _ _ _ (rfl : (1 : Int32) = nI 1) _ _ (rfl : (1 : Int32) = nI 1) _ _ (rfl : (0 : Int32) = nI 0) q)) h (fun v0 T1 h2 => G114_72  _ _ _ _ rfl h2))
noncomputable def F114_61  (l0 : Nat) (s0 : Nat) (T : fS) : Option fR := (fif (ieq s0 1) (F114_65  l0 T) (F114_258  l0 T))
theorem G114_61 {z : Option mm_O} {T : fS} {r : fR}  (l0 : Nat) (ul1 : Value) (xs0 : Int32) (s0 : Nat) (hs0 : xs0 = nI s0) (h : F114_61  l0 s0 T = some r) : mm_L 114 61 [.ref l0, ul1] [.int xs0] (toS z T) = some (tR z r) := by
  unfold F114_61 at h
  refine Eq.trans (e114_61 ..) ?_
  exact (fb_if (cj_eq hs0 (rfl : (1 : Int32) = nI 1)) h (fun h1 => (G114_65  _ _ h1)) (fun h1 => (G114_258  _ _ h1)))
noncomputable def F114_56  (l0 : Nat) (T : fS) : Option fR := (fKi true (fif (fch T l0 6) (F88_0 l0 2 T) none) (fun v0 T1 => F114_61  l0 v0 T1))
theorem G114_56 {z : Option mm_O} {T : fS} {r : fR}  (l0 : Nat) (ul1 : Value) (h : F114_56  l0 T = some r) : mm_L 114 56 [.ref l0, ul1] [] (toS z T) = some (tR z r) := by
  unfold F114_56 at h
  refine Eq.trans (e114_56 ..) ?_
  exact (fb_K0i (fun _ q => fb_mo (y := 88) ow_88 q (fun q => GM88 _ _ _ (rfl : (2 : Int32) = nI 2) q)) h (fun v0 T1 h2 => G114_61  _ _ _ _ rfl h2))
noncomputable def F114_52  (l0 : Nat) (s0 : Nat) (T : fS) : Option fR := (fif (ieq s0 3) (F114_56  l0 T) (F114_258  l0 T))
theorem G114_52 {z : Option mm_O} {T : fS} {r : fR}  (l0 : Nat) (ul1 : Value) (xs0 : Int32) (s0 : Nat) (hs0 : xs0 = nI s0) (h : F114_52  l0 s0 T = some r) : mm_L 114 52 [.ref l0, ul1] [.int xs0] (toS z T) = some (tR z r) := by
  unfold F114_52 at h
  refine Eq.trans (e114_52 ..) ?_
  exact (fb_if (cj_eq hs0 (rfl : (3 : Int32) = nI 3)) h (fun h1 => (G114_56  _ _ h1)) (fun h1 => (G114_258  _ _ h1)))
noncomputable def F114_47  (l0 : Nat) (T : fS) : Option fR := (fKi true (fif (fch T l0 6) (F88_0 l0 3 T) none) (fun v0 T1 => F114_52  l0 v0 T1))
theorem G114_47 {z : Option mm_O} {T : fS} {r : fR}  (l0 : Nat) (ul1 : Value) (h : F114_47  l0 T = some r) : mm_L 114 47 [.ref l0, ul1] [] (toS z T) = some (tR z r) := by
  unfold F114_47 at h
  refine Eq.trans (e114_47 ..) ?_
  exact (fb_K0i (fun _ q => fb_mo (y := 88) ow_88 q (fun q => GM88 _ _ _ (rfl : (3 : Int32) = nI 3) q)) h (fun v0 T1 h2 => G114_52  _ _ _ _ rfl h2))
noncomputable def F114_43  (l0 : Nat) (s0 : Nat) (T : fS) : Option fR := (fif (ieq s0 3) (F114_47  l0 T) (F114_258  l0 T))
theorem G114_43 {z : Option mm_O} {T : fS} {r : fR}  (l0 : Nat) (ul1 : Value) (xs0 : Int32) (s0 : Nat) (hs0 : xs0 = nI s0) (h : F114_43  l0 s0 T = some r) : mm_L 114 43 [.ref l0, ul1] [.int xs0] (toS z T) = some (tR z r) := by
  unfold F114_43 at h
  refine Eq.trans (e114_43 ..) ?_
  exact (fb_if (cj_eq hs0 (rfl : (3 : Int32) = nI 3)) h (fun h1 => (G114_47  _ _ h1)) (fun h1 => (G114_258  _ _ h1)))
noncomputable def F114_36  (l0 : Nat) (T : fS) : Option fR := (fKi true (fif (fch T l0 6) (F85_0 l0 1 2 1 T) none) (fun v0 T1 => F114_43  l0 v0 T1))
theorem G114_36 {z : Option mm_O} {T : fS} {r : fR}  (l0 : Nat) (ul1 : Value) (h : F114_36  l0 T = some r) : mm_L 114 36 [.ref l0, ul1] [] (toS z T) = some (tR z r) := by
  unfold F114_36 at h
  refine Eq.trans (e114_36 ..) ?_
  exact (fb_K0i (fun _ q => fb_mo (y := 85) ow_85 q (fun q => GM85 _ _ _ (rfl : (1 : Int32) = nI 1) _ _ (rfl : (2 : Int32) = nI 2) _ _ (rfl : (1 : Int32) = nI 1) q)) h (fun v0 T1 h2 => G114_43  _ _ _ _ rfl h2))
noncomputable def F114_32  (l0 : Nat) (s0 : Nat) (T : fS) : Option fR := (fif (ieq s0 2) (F114_36  l0 T) (F114_258  l0 T))
theorem G114_32 {z : Option mm_O} {T : fS} {r : fR}  (l0 : Nat) (ul1 : Value) (xs0 : Int32) (s0 : Nat) (hs0 : xs0 = nI s0) (h : F114_32  l0 s0 T = some r) : mm_L 114 32 [.ref l0, ul1] [.int xs0] (toS z T) = some (tR z r) := by
  unfold F114_32 at h
  refine Eq.trans (e114_32 ..) ?_
  exact (fb_if (cj_eq hs0 (rfl : (2 : Int32) = nI 2)) h (fun h1 => (G114_36  _ _ h1)) (fun h1 => (G114_258  _ _ h1)))
noncomputable def F114_25  (l0 : Nat) (T : fS) : Option fR := (fKi true (fif (fch T l0 6) (F85_0 l0 0 0 4294967295 T) none) (fun v0 T1 => F114_32  l0 v0 T1))
theorem G114_25 {z : Option mm_O} {T : fS} {r : fR}  (l0 : Nat) (ul1 : Value) (h : F114_25  l0 T = some r) : mm_L 114 25 [.ref l0, ul1] [] (toS z T) = some (tR z r) := by
  unfold F114_25 at h
  refine Eq.trans (e114_25 ..) ?_
  exact (fb_K0i (fun _ q => fb_mo (y := 85) ow_85 q (fun q => GM85 _ _ _ (rfl : (0 : Int32) = nI 0) _ _ (rfl : (0 : Int32) = nI 0) _ _ (by decide : (-1 : Int32) = nI 4294967295) q)) h (fun v0 T1 h2 => G114_32  _ _ _ _ rfl h2))
noncomputable def F114_21  (l0 : Nat) (s0 : Nat) (T : fS) : Option fR := (fif (ieq s0 1) (F114_25  l0 T) (F114_258  l0 T))
theorem G114_21 {z : Option mm_O} {T : fS} {r : fR}  (l0 : Nat) (ul1 : Value) (xs0 : Int32) (s0 : Nat) (hs0 : xs0 = nI s0) (h : F114_21  l0 s0 T = some r) : mm_L 114 21 [.ref l0, ul1] [.int xs0] (toS z T) = some (tR z r) := by
  unfold F114_21 at h
  refine Eq.trans (e114_21 ..) ?_
  exact (fb_if (cj_eq hs0 (rfl : (1 : Int32) = nI 1)) h (fun h1 => (G114_25  _ _ h1)) (fun h1 => (G114_258  _ _ h1)))
noncomputable def F114_16  (l0 : Nat) (T : fS) : Option fR := (fKi true (fif (fch T l0 6) (F84_0 l0 1 T) none) (fun v0 T1 => F114_21  l0 v0 T1))
theorem G114_16 {z : Option mm_O} {T : fS} {r : fR}  (l0 : Nat) (ul1 : Value) (h : F114_16  l0 T = some r) : mm_L 114 16 [.ref l0, ul1] [] (toS z T) = some (tR z r) := by
  unfold F114_16 at h
  refine Eq.trans (e114_16 ..) ?_
  exact (fb_K0i (fun _ q => fb_mo (y := 84) ow_84 q (fun q => GM84 _ _ _ (rfl : (1 : Int32) = nI 1) q)) h (fun v0 T1 h2 => G114_21  _ _ _ _ rfl h2))
noncomputable def F114_13  (l0 : Nat) (s0 : Nat) (T : fS) : Option fR := (fif (ieq s0 0) (F114_16  l0 T) (F114_258  l0 T))
theorem G114_13 {z : Option mm_O} {T : fS} {r : fR}  (l0 : Nat) (ul1 : Value) (xs0 : Int32) (s0 : Nat) (hs0 : xs0 = nI s0) (h : F114_13  l0 s0 T = some r) : mm_L 114 13 [.ref l0, ul1] [.int xs0] (toS z T) = some (tR z r) := by
  unfold F114_13 at h
  refine Eq.trans (e114_13 ..) ?_
  exact (fb_if (cj_eq hs0 (rfl : (0 : Int32) = nI 0)) h (fun h1 => (G114_16  _ _ h1)) (fun h1 => (G114_258  _ _ h1)))
noncomputable def F114_7  (s0 : Nat) (T : fS) : Option fR := (fKi true (fif (fch T s0 6) (F84_0 s0 0 T) none) (fun v0 T1 => F114_13  s0 v0 T1))
theorem G114_7 {z : Option mm_O} {T : fS} {r : fR}  (ul0 : Value) (ul1 : Value) (s0 : Nat) (h : F114_7  s0 T = some r) : mm_L 114 7 [ul0, ul1] [.ref s0] (toS z T) = some (tR z r) := by
  unfold F114_7 at h
  refine Eq.trans (e114_7 ..) ?_
  exact (fb_K0i (fun _ q => fb_mo (y := 84) ow_84 q (fun q => GM84 _ _ _ (rfl : (0 : Int32) = nI 0) q)) h (fun v0 T1 h2 => G114_13  _ _ _ _ rfl h2))
noncomputable def F114_0   (T : fS) : Option fR := (fgd T (fKv false (fif (fch (fnw T (.inl (6, [.inr none, .inr none, .inr none, .inr none, .inr none, .inr none, .inr none, .inr none]) : fO) 8) T.2.1 6) (F23_0 T.2.1  (fnw T (.inl (6, [.inr none, .inr none, .inr none, .inr none, .inr none, .inr none, .inr none, .inr none]) : fO) 8)) none) (fun T1 => F114_7  T.2.1 T1)))
theorem G114_0 {z : Option mm_O} {T : fS} {r : fR}  (ul0 : Value) (ul1 : Value) (h : F114_0   T = some r) : mm_L 114 0 [ul0, ul1] [] (toS z T) = some (tR z r) := by
  unfold F114_0 at h
  refine Eq.trans (e114_0 ..) ?_
  have hg0 := fgd_in h
  replace h := hg0.2
  rw [show mm_new (toS z T) (.inl (6, [.null, .null, .null, .null, .null, .null, .null, .null])) 8 = toS z (fnw T (.inl (6, [.inr none, .inr none, .inr none, .inr none, .inr none, .inr none, .inr none, .inr none]) : fO) 8) from fnw_ok (o := (.inl (6, [.inr none, .inr none, .inr none, .inr none, .inr none, .inr none, .inr none, .inr none]) : fO)) hg0.1]
  exact (fb_K2v (fun _ q => fb_mo (y := 23) ow_23 q (fun q => GM23 _  q)) h (fun T1 h2 => G114_7  _ _ _ h2))
theorem GM114 {z : Option mm_O} {T : fS} {r : fR}  (h : F114_0  T = some r) : mm_M 114 [] (toS z T) = some (tR z r) := Eq.trans (M_114 ..) (G114_0 _ _ h)
-- 111: HandArchiveLaw.says
noncomputable def F111_334  (l0 : Nat) (T : fS) : Option fR := (some ((.inl (some (.inl 0)), T) : fR))
theorem G111_334 {z : Option mm_O} {T : fS} {r : fR}  (l0 : Nat) (ul1 : Value) (ul2 : Value) (ul3 : Value) (h : F111_334  l0 T = some r) : mm_L 111 334 [.ref l0, ul1, ul2, ul3] [] (toS z T) = some (tR z r) := by
  unfold F111_334 at h
  refine Eq.trans (e111_334 ..) ?_
  exact (fb_pos (by decide) (fr_i (rfl : (0 : Int32) = nI 0) h))
noncomputable def F111_549  (l0 : Nat) (T : fS) : Option fR := (some ((.inl (some (.inl 0)), T) : fR))
theorem G111_549 {z : Option mm_O} {T : fS} {r : fR}  (l0 : Nat) (ul1 : Value) (ul2 : Value) (ul3 : Value) (h : F111_549  l0 T = some r) : mm_L 111 549 [.ref l0, ul1, ul2, ul3] [] (toS z T) = some (tR z r) := by
  unfold F111_549 at h
  refine Eq.trans (e111_549 ..) ?_
  exact (fb_pos (by decide) (fr_i (rfl : (0 : Int32) = nI 0) h))
noncomputable def F111_581 (k563 : Nat → Nat → Nat → Nat → fS → Option fR) (l0 : Nat) (l1 : Nat) (l2 : Nat) (l3 : Nat) (T : fS) : Option fR := (k563 l0 l1 l2 (iA l3 1) T)
theorem G111_581 {z : Option mm_O} {T : fS} {r : fR} (k563 : Nat → Nat → Nat → Nat → fS → Option fR) (hk563 : ∀ (l0 : Nat) (l1 : Nat) (l2 : Nat) (xl3 : Int32) (l3 : Nat) (hl3 : xl3 = nI l3) (T : fS) (r : fR), k563 l0 l1 l2 l3 T = some r → mm_L 111 563 [.ref l0, .ref l1, .ref l2, .int xl3] [] (toS z T) = some (tR z r)) (l0 : Nat) (l1 : Nat) (l2 : Nat) (xl3 : Int32) (l3 : Nat) (hl3 : xl3 = nI l3) (h : F111_581 k563 l0 l1 l2 l3 T = some r) : mm_L 111 581 [.ref l0, .ref l1, .ref l2, .int xl3] [] (toS z T) = some (tR z r) := by
  unfold F111_581 at h
  refine Eq.trans (e111_581 ..) ?_
  exact (hk563 _ _ _ _ _ (iA_ok hl3 (rfl : (1 : Int32) = nI 1)) _ _ h)
noncomputable def F111_580 (k563 : Nat → Nat → Nat → Nat → fS → Option fR) (l0 : Nat) (l1 : Nat) (l2 : Nat) (l3 : Nat) (s0 : Nat) (s1 : Nat) (s2 : Nat) (T : fS) : Option fR := (fbs (fas T s2 s1 0 s0) (fun T1 => F111_581 k563 l0 l1 l2 l3 T1))
theorem G111_580 {z : Option mm_O} {T : fS} {r : fR} (k563 : Nat → Nat → Nat → Nat → fS → Option fR) (hk563 : ∀ (l0 : Nat) (l1 : Nat) (l2 : Nat) (xl3 : Int32) (l3 : Nat) (hl3 : xl3 = nI l3) (T : fS) (r : fR), k563 l0 l1 l2 l3 T = some r → mm_L 111 563 [.ref l0, .ref l1, .ref l2, .int xl3] [] (toS z T) = some (tR z r)) (l0 : Nat) (l1 : Nat) (l2 : Nat) (xl3 : Int32) (l3 : Nat) (hl3 : xl3 = nI l3) (xs0 : Int32) (s0 : Nat) (hs0 : xs0 = nI s0) (xs1 : Int32) (s1 : Nat) (hs1 : xs1 = nI s1) (s2 : Nat) (h : F111_580 k563 l0 l1 l2 l3 s0 s1 s2 T = some r) : mm_L 111 580 [.ref l0, .ref l1, .ref l2, .int xl3] [.int xs0, .int xs1, .ref s2] (toS z T) = some (tR z r) := by
  unfold F111_580 at h
  refine Eq.trans (e111_580 ..) ?_
  exact (fb_s (fun _ q => (fun q => by rw [show (xs1 : Int32) = nI s1 from hs1, show (xs0 : Int32) = nI s0 from hs0]; exact fas_ok q) q) h (fun T1 h2 => G111_581 k563 hk563 _ _ _ _ _ hl3 h2))
noncomputable def F111_569 (k563 : Nat → Nat → Nat → Nat → fS → Option fR) (l0 : Nat) (l1 : Nat) (l2 : Nat) (l3 : Nat) (T : fS) : Option fR := (fKi true (fif (fch T l0 6) (F68_0 l0 (iS l3 1) 8 T) none) (fun v0 T1 => F111_580 k563 l0 l1 l2 l3 v0 l3 l1 T1))
theorem G111_569 {z : Option mm_O} {T : fS} {r : fR} (k563 : Nat → Nat → Nat → Nat → fS → Option fR) (hk563 : ∀ (l0 : Nat) (l1 : Nat) (l2 : Nat) (xl3 : Int32) (l3 : Nat) (hl3 : xl3 = nI l3) (T : fS) (r : fR), k563 l0 l1 l2 l3 T = some r → mm_L 111 563 [.ref l0, .ref l1, .ref l2, .int xl3] [] (toS z T) = some (tR z r)) (l0 : Nat) (l1 : Nat) (l2 : Nat) (xl3 : Int32) (l3 : Nat) (hl3 : xl3 = nI l3) (h : F111_569 k563 l0 l1 l2 l3 T = some r) : mm_L 111 569 [.ref l0, .ref l1, .ref l2, .int xl3] [] (toS z T) = some (tR z r) := by
  unfold F111_569 at h
  refine Eq.trans (e111_569 ..) ?_
  exact (fb_K0i (fun _ q => fb_mo (y := 68) ow_68 q (fun q => GM68 _ _ _ (iS_ok hl3 (rfl : (1 : Int32) = nI 1)) _ _ (rfl : (8 : Int32) = nI 8) q)) h (fun v0 T1 h2 => G111_580 k563 hk563 _ _ _ _ _ hl3 _ _ rfl _ _ hl3 _ h2))
noncomputable def F111_605 (k589 : Nat → Nat → Nat → Nat → fS → Option fR) (l0 : Nat) (l1 : Nat) (l2 : Nat) (l3 : Nat) (T : fS) : Option fR := (k589 l0 l1 l2 (iA l3 1) T)
theorem G111_605 {z : Option mm_O} {T : fS} {r : fR} (k589 : Nat → Nat → Nat → Nat → fS → Option fR) (hk589 : ∀ (l0 : Nat) (l1 : Nat) (l2 : Nat) (xl3 : Int32) (l3 : Nat) (hl3 : xl3 = nI l3) (T : fS) (r : fR), k589 l0 l1 l2 l3 T = some r → mm_L 111 589 [.ref l0, .ref l1, .ref l2, .int xl3] [] (toS z T) = some (tR z r)) (l0 : Nat) (l1 : Nat) (l2 : Nat) (xl3 : Int32) (l3 : Nat) (hl3 : xl3 = nI l3) (h : F111_605 k589 l0 l1 l2 l3 T = some r) : mm_L 111 605 [.ref l0, .ref l1, .ref l2, .int xl3] [] (toS z T) = some (tR z r) := by
  unfold F111_605 at h
  refine Eq.trans (e111_605 ..) ?_
  exact (hk589 _ _ _ _ _ (iA_ok hl3 (rfl : (1 : Int32) = nI 1)) _ _ h)
noncomputable def F111_604 (k589 : Nat → Nat → Nat → Nat → fS → Option fR) (l0 : Nat) (l1 : Nat) (l2 : Nat) (l3 : Nat) (s0 : Nat) (s1 : Nat) (s2 : Nat) (T : fS) : Option fR := (fbs (fas T s2 s1 0 s0) (fun T1 => F111_605 k589 l0 l1 l2 l3 T1))
theorem G111_604 {z : Option mm_O} {T : fS} {r : fR} (k589 : Nat → Nat → Nat → Nat → fS → Option fR) (hk589 : ∀ (l0 : Nat) (l1 : Nat) (l2 : Nat) (xl3 : Int32) (l3 : Nat) (hl3 : xl3 = nI l3) (T : fS) (r : fR), k589 l0 l1 l2 l3 T = some r → mm_L 111 589 [.ref l0, .ref l1, .ref l2, .int xl3] [] (toS z T) = some (tR z r)) (l0 : Nat) (l1 : Nat) (l2 : Nat) (xl3 : Int32) (l3 : Nat) (hl3 : xl3 = nI l3) (xs0 : Int32) (s0 : Nat) (hs0 : xs0 = nI s0) (xs1 : Int32) (s1 : Nat) (hs1 : xs1 = nI s1) (s2 : Nat) (h : F111_604 k589 l0 l1 l2 l3 s0 s1 s2 T = some r) : mm_L 111 604 [.ref l0, .ref l1, .ref l2, .int xl3] [.int xs0, .int xs1, .ref s2] (toS z T) = some (tR z r) := by
  unfold F111_604 at h
  refine Eq.trans (e111_604 ..) ?_
  exact (fb_s (fun _ q => (fun q => by rw [show (xs1 : Int32) = nI s1 from hs1, show (xs0 : Int32) = nI s0 from hs0]; exact fas_ok q) q) h (fun T1 h2 => G111_605 k589 hk589 _ _ _ _ _ hl3 h2))
noncomputable def F111_595 (k589 : Nat → Nat → Nat → Nat → fS → Option fR) (l0 : Nat) (l1 : Nat) (l2 : Nat) (l3 : Nat) (T : fS) : Option fR := (fKi true (fif (fch T l0 6) (F68_0 l0 l3 7 T) none) (fun v0 T1 => F111_604 k589 l0 l1 l2 l3 v0 l3 l2 T1))
theorem G111_595 {z : Option mm_O} {T : fS} {r : fR} (k589 : Nat → Nat → Nat → Nat → fS → Option fR) (hk589 : ∀ (l0 : Nat) (l1 : Nat) (l2 : Nat) (xl3 : Int32) (l3 : Nat) (hl3 : xl3 = nI l3) (T : fS) (r : fR), k589 l0 l1 l2 l3 T = some r → mm_L 111 589 [.ref l0, .ref l1, .ref l2, .int xl3] [] (toS z T) = some (tR z r)) (l0 : Nat) (l1 : Nat) (l2 : Nat) (xl3 : Int32) (l3 : Nat) (hl3 : xl3 = nI l3) (h : F111_595 k589 l0 l1 l2 l3 T = some r) : mm_L 111 595 [.ref l0, .ref l1, .ref l2, .int xl3] [] (toS z T) = some (tR z r) := by
  unfold F111_595 at h
  refine Eq.trans (e111_595 ..) ?_
  exact (fb_K0i (fun _ q => fb_mo (y := 68) ow_68 q (fun q => GM68 _ _ _ hl3 _ _ (rfl : (7 : Int32) = nI 7) q)) h (fun v0 T1 h2 => G111_604 k589 hk589 _ _ _ _ _ hl3 _ _ rfl _ _ hl3 _ h2))
noncomputable def F111_1056  (l0 : Nat) (l1 : Nat) (l2 : Nat) (l3 : Nat) (T : fS) : Option fR := (some ((.inl (some (.inl 0)), T) : fR))
theorem G111_1056 {z : Option mm_O} {T : fS} {r : fR}  (l0 : Nat) (l1 : Nat) (l2 : Nat) (xl3 : Int32) (l3 : Nat) (hl3 : xl3 = nI l3) (h : F111_1056  l0 l1 l2 l3 T = some r) : mm_L 111 1056 [.ref l0, .ref l1, .ref l2, .int xl3] [] (toS z T) = some (tR z r) := by
  unfold F111_1056 at h
  refine Eq.trans (e111_1056 ..) ?_
  exact (fb_pos (by decide) (fr_i (rfl : (0 : Int32) = nI 0) h))
noncomputable def F111_1088  (l0 : Nat) (l1 : Nat) (l2 : Nat) (l3 : Nat) (T : fS) : Option fR := (some ((.inl (some (.inl 0)), T) : fR))
theorem G111_1088 {z : Option mm_O} {T : fS} {r : fR}  (l0 : Nat) (l1 : Nat) (l2 : Nat) (xl3 : Int32) (l3 : Nat) (hl3 : xl3 = nI l3) (h : F111_1088  l0 l1 l2 l3 T = some r) : mm_L 111 1088 [.ref l0, .ref l1, .ref l2, .int xl3] [] (toS z T) = some (tR z r) := by
  unfold F111_1088 at h
  refine Eq.trans (e111_1088 ..) ?_
  exact (fb_pos (by decide) (fr_i (rfl : (0 : Int32) = nI 0) h))
noncomputable def F111_1090 (k1060 : Nat → Nat → Nat → Nat → fS → Option fR) (l0 : Nat) (l1 : Nat) (l2 : Nat) (l3 : Nat) (T : fS) : Option fR := (k1060 l0 l1 l2 (iA l3 1) T)
theorem G111_1090 {z : Option mm_O} {T : fS} {r : fR} (k1060 : Nat → Nat → Nat → Nat → fS → Option fR) (hk1060 : ∀ (l0 : Nat) (l1 : Nat) (l2 : Nat) (xl3 : Int32) (l3 : Nat) (hl3 : xl3 = nI l3) (T : fS) (r : fR), k1060 l0 l1 l2 l3 T = some r → mm_L 111 1060 [.ref l0, .ref l1, .ref l2, .int xl3] [] (toS z T) = some (tR z r)) (l0 : Nat) (l1 : Nat) (l2 : Nat) (xl3 : Int32) (l3 : Nat) (hl3 : xl3 = nI l3) (h : F111_1090 k1060 l0 l1 l2 l3 T = some r) : mm_L 111 1090 [.ref l0, .ref l1, .ref l2, .int xl3] [] (toS z T) = some (tR z r) := by
  unfold F111_1090 at h
  refine Eq.trans (e111_1090 ..) ?_
  exact (hk1060 _ _ _ _ _ (iA_ok hl3 (rfl : (1 : Int32) = nI 1)) _ _ h)
noncomputable def F111_1084 (k1060 : Nat → Nat → Nat → Nat → fS → Option fR) (l0 : Nat) (l1 : Nat) (l2 : Nat) (l3 : Nat) (s0 : Nat) (T : fS) : Option fR := (fif (ieq s0 4294967295) (F111_1090 k1060 l0 l1 l2 l3 T) (F111_1088  l0 l1 l2 l3 T))
theorem G111_1084 {z : Option mm_O} {T : fS} {r : fR} (k1060 : Nat → Nat → Nat → Nat → fS → Option fR) (hk1060 : ∀ (l0 : Nat) (l1 : Nat) (l2 : Nat) (xl3 : Int32) (l3 : Nat) (hl3 : xl3 = nI l3) (T : fS) (r : fR), k1060 l0 l1 l2 l3 T = some r → mm_L 111 1060 [.ref l0, .ref l1, .ref l2, .int xl3] [] (toS z T) = some (tR z r)) (l0 : Nat) (l1 : Nat) (l2 : Nat) (xl3 : Int32) (l3 : Nat) (hl3 : xl3 = nI l3) (xs0 : Int32) (s0 : Nat) (hs0 : xs0 = nI s0) (h : F111_1084 k1060 l0 l1 l2 l3 s0 T = some r) : mm_L 111 1084 [.ref l0, .ref l1, .ref l2, .int xl3] [.int xs0] (toS z T) = some (tR z r) := by
  unfold F111_1084 at h
  refine Eq.trans (e111_1084 ..) ?_
  exact (fb_if (cj_eq hs0 (by decide : (-1 : Int32) = nI 4294967295)) h (fun h1 => (G111_1090 k1060 hk1060 _ _ _ _ _ hl3 h1)) (fun h1 => (G111_1088  _ _ _ _ _ hl3 h1)))
noncomputable def F111_1077 (k1060 : Nat → Nat → Nat → Nat → fS → Option fR) (l0 : Nat) (l1 : Nat) (l2 : Nat) (l3 : Nat) (T : fS) : Option fR := (fKi true (fif (fch T l0 6) (F69_0 l0 2147483647 l3 T) none) (fun v0 T1 => F111_1084 k1060 l0 l1 l2 l3 v0 T1))
theorem G111_1077 {z : Option mm_O} {T : fS} {r : fR} (k1060 : Nat → Nat → Nat → Nat → fS → Option fR) (hk1060 : ∀ (l0 : Nat) (l1 : Nat) (l2 : Nat) (xl3 : Int32) (l3 : Nat) (hl3 : xl3 = nI l3) (T : fS) (r : fR), k1060 l0 l1 l2 l3 T = some r → mm_L 111 1060 [.ref l0, .ref l1, .ref l2, .int xl3] [] (toS z T) = some (tR z r)) (l0 : Nat) (l1 : Nat) (l2 : Nat) (xl3 : Int32) (l3 : Nat) (hl3 : xl3 = nI l3) (h : F111_1077 k1060 l0 l1 l2 l3 T = some r) : mm_L 111 1077 [.ref l0, .ref l1, .ref l2, .int xl3] [] (toS z T) = some (tR z r) := by
  unfold F111_1077 at h
  refine Eq.trans (e111_1077 ..) ?_
  exact (fb_K0i (fun _ q => fb_mo (y := 69) ow_69 q (fun q => GM69 _ _ _ (rfl : (2147483647 : Int32) = nI 2147483647) _ _ hl3 q)) h (fun v0 T1 h2 => G111_1084 k1060 hk1060 _ _ _ _ _ hl3 _ _ rfl h2))
noncomputable def F111_1073 (k1060 : Nat → Nat → Nat → Nat → fS → Option fR) (l0 : Nat) (l1 : Nat) (l2 : Nat) (l3 : Nat) (s0 : Nat) (T : fS) : Option fR := (fif (ieq s0 4294967295) (F111_1077 k1060 l0 l1 l2 l3 T) (F111_1088  l0 l1 l2 l3 T))
theorem G111_1073 {z : Option mm_O} {T : fS} {r : fR} (k1060 : Nat → Nat → Nat → Nat → fS → Option fR) (hk1060 : ∀ (l0 : Nat) (l1 : Nat) (l2 : Nat) (xl3 : Int32) (l3 : Nat) (hl3 : xl3 = nI l3) (T : fS) (r : fR), k1060 l0 l1 l2 l3 T = some r → mm_L 111 1060 [.ref l0, .ref l1, .ref l2, .int xl3] [] (toS z T) = some (tR z r)) (l0 : Nat) (l1 : Nat) (l2 : Nat) (xl3 : Int32) (l3 : Nat) (hl3 : xl3 = nI l3) (xs0 : Int32) (s0 : Nat) (hs0 : xs0 = nI s0) (h : F111_1073 k1060 l0 l1 l2 l3 s0 T = some r) : mm_L 111 1073 [.ref l0, .ref l1, .ref l2, .int xl3] [.int xs0] (toS z T) = some (tR z r) := by
  unfold F111_1073 at h
  refine Eq.trans (e111_1073 ..) ?_
  exact (fb_if (cj_eq hs0 (by decide : (-1 : Int32) = nI 4294967295)) h (fun h1 => (G111_1077 k1060 hk1060 _ _ _ _ _ hl3 h1)) (fun h1 => (G111_1088  _ _ _ _ _ hl3 h1)))
noncomputable def F111_1066 (k1060 : Nat → Nat → Nat → Nat → fS → Option fR) (l0 : Nat) (l1 : Nat) (l2 : Nat) (l3 : Nat) (T : fS) : Option fR := (fKi true (fif (fch T l0 6) (F69_0 l0 39 l3 T) none) (fun v0 T1 => F111_1073 k1060 l0 l1 l2 l3 v0 T1))
theorem G111_1066 {z : Option mm_O} {T : fS} {r : fR} (k1060 : Nat → Nat → Nat → Nat → fS → Option fR) (hk1060 : ∀ (l0 : Nat) (l1 : Nat) (l2 : Nat) (xl3 : Int32) (l3 : Nat) (hl3 : xl3 = nI l3) (T : fS) (r : fR), k1060 l0 l1 l2 l3 T = some r → mm_L 111 1060 [.ref l0, .ref l1, .ref l2, .int xl3] [] (toS z T) = some (tR z r)) (l0 : Nat) (l1 : Nat) (l2 : Nat) (xl3 : Int32) (l3 : Nat) (hl3 : xl3 = nI l3) (h : F111_1066 k1060 l0 l1 l2 l3 T = some r) : mm_L 111 1066 [.ref l0, .ref l1, .ref l2, .int xl3] [] (toS z T) = some (tR z r) := by
  unfold F111_1066 at h
  refine Eq.trans (e111_1066 ..) ?_
  exact (fb_K0i (fun _ q => fb_mo (y := 69) ow_69 q (fun q => GM69 _ _ _ (rfl : (39 : Int32) = nI 39) _ _ hl3 q)) h (fun v0 T1 h2 => G111_1073 k1060 hk1060 _ _ _ _ _ hl3 _ _ rfl h2))
noncomputable def F111_1120  (l0 : Nat) (l1 : Nat) (l2 : Nat) (l3 : Nat) (s0 : Nat) (T : fS) : Option fR := (fif (Bool.rec (motive := fun _ => Bool) (ieq s0 1) true (ieq s0 0)) (some ((.inl (some (.inl s0)), T) : fR)) (none : Option fR))
theorem G111_1120 {z : Option mm_O} {T : fS} {r : fR}  (l0 : Nat) (l1 : Nat) (l2 : Nat) (xl3 : Int32) (l3 : Nat) (hl3 : xl3 = nI l3) (xs0 : Int32) (s0 : Nat) (hs0 : xs0 = nI s0) (h : F111_1120  l0 l1 l2 l3 s0 T = some r) : mm_L 111 1120 [.ref l0, .ref l1, .ref l2, .int xl3] [.int xs0] (toS z T) = some (tR z r) := by
  unfold F111_1120 at h
  refine Eq.trans (e111_1120 ..) ?_
  exact (fb_if (cj_01 hs0) h (fun h1 => (fr_i hs0 h1)) (fun h1 => (fr_n h1)))
noncomputable def F111_1115  (l0 : Nat) (l1 : Nat) (l2 : Nat) (l3 : Nat) (T : fS) : Option fR := (F111_1120  l0 l1 l2 l3 1 T)
theorem G111_1115 {z : Option mm_O} {T : fS} {r : fR}  (l0 : Nat) (l1 : Nat) (l2 : Nat) (xl3 : Int32) (l3 : Nat) (hl3 : xl3 = nI l3) (h : F111_1115  l0 l1 l2 l3 T = some r) : mm_L 111 1115 [.ref l0, .ref l1, .ref l2, .int xl3] [] (toS z T) = some (tR z r) := by
  unfold F111_1115 at h
  refine Eq.trans (e111_1115 ..) ?_
  exact (G111_1120  _ _ _ _ _ hl3 _ _ (rfl : (1 : Int32) = nI 1) h)
noncomputable def F111_1119  (l0 : Nat) (l1 : Nat) (l2 : Nat) (l3 : Nat) (T : fS) : Option fR := (F111_1120  l0 l1 l2 l3 0 T)
theorem G111_1119 {z : Option mm_O} {T : fS} {r : fR}  (l0 : Nat) (l1 : Nat) (l2 : Nat) (xl3 : Int32) (l3 : Nat) (hl3 : xl3 = nI l3) (h : F111_1119  l0 l1 l2 l3 T = some r) : mm_L 111 1119 [.ref l0, .ref l1, .ref l2, .int xl3] [] (toS z T) = some (tR z r) := by
  unfold F111_1119 at h
  refine Eq.trans (e111_1119 ..) ?_
  exact (G111_1120  _ _ _ _ _ hl3 _ _ (rfl : (0 : Int32) = nI 0) h)
noncomputable def F111_1112  (l0 : Nat) (l1 : Nat) (l2 : Nat) (l3 : Nat) (s0 : Nat) (T : fS) : Option fR := (fif (ieq s0 0) (F111_1119  l0 l1 l2 l3 T) (F111_1115  l0 l1 l2 l3 T))
theorem G111_1112 {z : Option mm_O} {T : fS} {r : fR}  (l0 : Nat) (l1 : Nat) (l2 : Nat) (xl3 : Int32) (l3 : Nat) (hl3 : xl3 = nI l3) (xs0 : Int32) (s0 : Nat) (hs0 : xs0 = nI s0) (h : F111_1112  l0 l1 l2 l3 s0 T = some r) : mm_L 111 1112 [.ref l0, .ref l1, .ref l2, .int xl3] [.int xs0] (toS z T) = some (tR z r) := by
  unfold F111_1112 at h
  refine Eq.trans (e111_1112 ..) ?_
  exact (fb_if (cj_eq hs0 (rfl : (0 : Int32) = nI 0)) h (fun h1 => (G111_1119  _ _ _ _ _ hl3 h1)) (fun h1 => (G111_1115  _ _ _ _ _ hl3 h1)))
noncomputable def F111_1109  (l0 : Nat) (l1 : Nat) (l2 : Nat) (l3 : Nat) (T : fS) : Option fR := (fKi true (F114_0  T) (fun v0 T1 => F111_1112  l0 l1 l2 l3 v0 T1))
theorem G111_1109 {z : Option mm_O} {T : fS} {r : fR}  (l0 : Nat) (l1 : Nat) (l2 : Nat) (xl3 : Int32) (l3 : Nat) (hl3 : xl3 = nI l3) (h : F111_1109  l0 l1 l2 l3 T = some r) : mm_L 111 1109 [.ref l0, .ref l1, .ref l2, .int xl3] [] (toS z T) = some (tR z r) := by
  unfold F111_1109 at h
  refine Eq.trans (e111_1109 ..) ?_
  exact (fb_K0i (fun _ q => GM114  q) h (fun v0 T1 h2 => G111_1112  _ _ _ _ _ hl3 _ _ rfl h2))
noncomputable def F111_1106  (l0 : Nat) (l1 : Nat) (l2 : Nat) (l3 : Nat) (s0 : Nat) (T : fS) : Option fR := (fif (ieq s0 0) (F111_1119  l0 l1 l2 l3 T) (F111_1109  l0 l1 l2 l3 T))
theorem G111_1106 {z : Option mm_O} {T : fS} {r : fR}  (l0 : Nat) (l1 : Nat) (l2 : Nat) (xl3 : Int32) (l3 : Nat) (hl3 : xl3 = nI l3) (xs0 : Int32) (s0 : Nat) (hs0 : xs0 = nI s0) (h : F111_1106  l0 l1 l2 l3 s0 T = some r) : mm_L 111 1106 [.ref l0, .ref l1, .ref l2, .int xl3] [.int xs0] (toS z T) = some (tR z r) := by
  unfold F111_1106 at h
  refine Eq.trans (e111_1106 ..) ?_
  exact (fb_if (cj_eq hs0 (rfl : (0 : Int32) = nI 0)) h (fun h1 => (G111_1119  _ _ _ _ _ hl3 h1)) (fun h1 => (G111_1109  _ _ _ _ _ hl3 h1)))
noncomputable def F111_1103  (l0 : Nat) (l1 : Nat) (l2 : Nat) (l3 : Nat) (T : fS) : Option fR := (fKi true (F113_0  T) (fun v0 T1 => F111_1106  l0 l1 l2 l3 v0 T1))
theorem G111_1103 {z : Option mm_O} {T : fS} {r : fR}  (l0 : Nat) (l1 : Nat) (l2 : Nat) (xl3 : Int32) (l3 : Nat) (hl3 : xl3 = nI l3) (h : F111_1103  l0 l1 l2 l3 T = some r) : mm_L 111 1103 [.ref l0, .ref l1, .ref l2, .int xl3] [] (toS z T) = some (tR z r) := by
  unfold F111_1103 at h
  refine Eq.trans (e111_1103 ..) ?_
  exact (fb_K0i (fun _ q => GM113  q) h (fun v0 T1 h2 => G111_1106  _ _ _ _ _ hl3 _ _ rfl h2))
noncomputable def F111_1100  (l0 : Nat) (l1 : Nat) (l2 : Nat) (l3 : Nat) (s0 : Nat) (T : fS) : Option fR := (fif (ieq s0 0) (F111_1119  l0 l1 l2 l3 T) (F111_1103  l0 l1 l2 l3 T))
theorem G111_1100 {z : Option mm_O} {T : fS} {r : fR}  (l0 : Nat) (l1 : Nat) (l2 : Nat) (xl3 : Int32) (l3 : Nat) (hl3 : xl3 = nI l3) (xs0 : Int32) (s0 : Nat) (hs0 : xs0 = nI s0) (h : F111_1100  l0 l1 l2 l3 s0 T = some r) : mm_L 111 1100 [.ref l0, .ref l1, .ref l2, .int xl3] [.int xs0] (toS z T) = some (tR z r) := by
  unfold F111_1100 at h
  refine Eq.trans (e111_1100 ..) ?_
  exact (fb_if (cj_eq hs0 (rfl : (0 : Int32) = nI 0)) h (fun h1 => (G111_1119  _ _ _ _ _ hl3 h1)) (fun h1 => (G111_1103  _ _ _ _ _ hl3 h1)))
noncomputable def F111_1096  (l0 : Nat) (l1 : Nat) (l2 : Nat) (l3 : Nat) (T : fS) : Option fR := (fKi true (F112_0 l0 T) (fun v0 T1 => F111_1100  l0 l1 l2 l3 v0 T1))
theorem G111_1096 {z : Option mm_O} {T : fS} {r : fR}  (l0 : Nat) (l1 : Nat) (l2 : Nat) (xl3 : Int32) (l3 : Nat) (hl3 : xl3 = nI l3) (h : F111_1096  l0 l1 l2 l3 T = some r) : mm_L 111 1096 [.ref l0, .ref l1, .ref l2, .int xl3] [] (toS z T) = some (tR z r) := by
  unfold F111_1096 at h
  refine Eq.trans (e111_1096 ..) ?_
  exact (fb_K0i (fun _ q => GM112 _ q) h (fun v0 T1 h2 => G111_1100  _ _ _ _ _ hl3 _ _ rfl h2))
noncomputable def F111_1060 (k1060 : Nat → Nat → Nat → Nat → fS → Option fR) (l0 : Nat) (l1 : Nat) (l2 : Nat) (l3 : Nat) (T : fS) : Option fR := (fif (ile 8 l3) (F111_1096  l0 l1 l2 l3 T) (F111_1066 k1060 l0 l1 l2 l3 T))
theorem G111_1060 {z : Option mm_O} {T : fS} {r : fR} (k1060 : Nat → Nat → Nat → Nat → fS → Option fR) (hk1060 : ∀ (l0 : Nat) (l1 : Nat) (l2 : Nat) (xl3 : Int32) (l3 : Nat) (hl3 : xl3 = nI l3) (T : fS) (r : fR), k1060 l0 l1 l2 l3 T = some r → mm_L 111 1060 [.ref l0, .ref l1, .ref l2, .int xl3] [] (toS z T) = some (tR z r)) (l0 : Nat) (l1 : Nat) (l2 : Nat) (xl3 : Int32) (l3 : Nat) (hl3 : xl3 = nI l3) (h : F111_1060 k1060 l0 l1 l2 l3 T = some r) : mm_L 111 1060 [.ref l0, .ref l1, .ref l2, .int xl3] [] (toS z T) = some (tR z r) := by
  unfold F111_1060 at h
  refine Eq.trans (e111_1060 ..) ?_
  exact (fb_if (cj_le (rfl : (8 : Int32) = nI 8) hl3) h (fun h1 => (G111_1096  _ _ _ _ _ hl3 h1)) (fun h1 => (G111_1066 k1060 hk1060 _ _ _ _ _ hl3 h1)))
noncomputable def H111_1060  (n : Nat) : Nat → Nat → Nat → Nat → fS → Option fR := Nat.rec (motive := fun _ => Nat → Nat → Nat → Nat → fS → Option fR) (fun _ _ _ _ _ => none) (fun _ ih => F111_1060 ih) n
theorem HG111_1060 {z : Option mm_O}  : ∀ (n : Nat) (l0 : Nat) (l1 : Nat) (l2 : Nat) (xl3 : Int32) (l3 : Nat) (hl3 : xl3 = nI l3) {T : fS} {r : fR}, H111_1060  n l0 l1 l2 l3 T = some r → mm_L 111 1060 [.ref l0, .ref l1, .ref l2, .int xl3] [] (toS z T) = some (tR z r) := by
  intro n
  induction n with
  | zero =>
    intro l0 l1 l2 xl3 l3 hl3 T r h
    exact fr_n h
  | succ n ih =>
    intro l0 l1 l2 xl3 l3 hl3 T r h
    exact G111_1060 (H111_1060  n) (fun l0 l1 l2 xl3 l3 hl3 T r h => ih l0 l1 l2 xl3 l3 hl3 h) l0 l1 l2 xl3 l3 hl3 h
noncomputable def F111_1058  (l0 : Nat) (l1 : Nat) (l2 : Nat) (l3 : Nat) (T : fS) : Option fR := (H111_1060  300 l0 l1 l2 0 T)
theorem G111_1058 {z : Option mm_O} {T : fS} {r : fR}  (l0 : Nat) (l1 : Nat) (l2 : Nat) (xl3 : Int32) (l3 : Nat) (hl3 : xl3 = nI l3) (h : F111_1058  l0 l1 l2 l3 T = some r) : mm_L 111 1058 [.ref l0, .ref l1, .ref l2, .int xl3] [] (toS z T) = some (tR z r) := by
  unfold F111_1058 at h
  refine Eq.trans (e111_1058 ..) ?_
  exact (HG111_1060  300 _ _ _ _ _ (rfl : (0 : Int32) = nI 0) h)
noncomputable def F111_1051  (l0 : Nat) (l1 : Nat) (l2 : Nat) (l3 : Nat) (s0 : Nat) (T : fS) : Option fR := (fif (ieq s0 6) (F111_1058  l0 l1 l2 l3 T) (F111_1056  l0 l1 l2 l3 T))
theorem G111_1051 {z : Option mm_O} {T : fS} {r : fR}  (l0 : Nat) (l1 : Nat) (l2 : Nat) (xl3 : Int32) (l3 : Nat) (hl3 : xl3 = nI l3) (xs0 : Int32) (s0 : Nat) (hs0 : xs0 = nI s0) (h : F111_1051  l0 l1 l2 l3 s0 T = some r) : mm_L 111 1051 [.ref l0, .ref l1, .ref l2, .int xl3] [.int xs0] (toS z T) = some (tR z r) := by
  unfold F111_1051 at h
  refine Eq.trans (e111_1051 ..) ?_
  exact (fb_if (cj_eq hs0 (rfl : (6 : Int32) = nI 6)) h (fun h1 => (G111_1058  _ _ _ _ _ hl3 h1)) (fun h1 => (G111_1056  _ _ _ _ _ hl3 h1)))
noncomputable def F111_1043  (l0 : Nat) (l1 : Nat) (l2 : Nat) (l3 : Nat) (T : fS) : Option fR := (fKi true (fif (fch T l0 6) (F69_0 l0 38 7 T) none) (fun v0 T1 => F111_1051  l0 l1 l2 l3 v0 T1))
theorem G111_1043 {z : Option mm_O} {T : fS} {r : fR}  (l0 : Nat) (l1 : Nat) (l2 : Nat) (xl3 : Int32) (l3 : Nat) (hl3 : xl3 = nI l3) (h : F111_1043  l0 l1 l2 l3 T = some r) : mm_L 111 1043 [.ref l0, .ref l1, .ref l2, .int xl3] [] (toS z T) = some (tR z r) := by
  unfold F111_1043 at h
  refine Eq.trans (e111_1043 ..) ?_
  exact (fb_K0i (fun _ q => fb_mo (y := 69) ow_69 q (fun q => GM69 _ _ _ (rfl : (38 : Int32) = nI 38) _ _ (rfl : (7 : Int32) = nI 7) q)) h (fun v0 T1 h2 => G111_1051  _ _ _ _ _ hl3 _ _ rfl h2))
noncomputable def F111_1040  (l0 : Nat) (l1 : Nat) (l2 : Nat) (l3 : Nat) (s0 : Nat) (T : fS) : Option fR := (fif (ieq s0 0) (F111_1043  l0 l1 l2 l3 T) (F111_1056  l0 l1 l2 l3 T))
theorem G111_1040 {z : Option mm_O} {T : fS} {r : fR}  (l0 : Nat) (l1 : Nat) (l2 : Nat) (xl3 : Int32) (l3 : Nat) (hl3 : xl3 = nI l3) (xs0 : Int32) (s0 : Nat) (hs0 : xs0 = nI s0) (h : F111_1040  l0 l1 l2 l3 s0 T = some r) : mm_L 111 1040 [.ref l0, .ref l1, .ref l2, .int xl3] [.int xs0] (toS z T) = some (tR z r) := by
  unfold F111_1040 at h
  refine Eq.trans (e111_1040 ..) ?_
  exact (fb_if (cj_eq hs0 (rfl : (0 : Int32) = nI 0)) h (fun h1 => (G111_1043  _ _ _ _ _ hl3 h1)) (fun h1 => (G111_1056  _ _ _ _ _ hl3 h1)))
noncomputable def F111_1033  (l0 : Nat) (l1 : Nat) (l2 : Nat) (l3 : Nat) (T : fS) : Option fR := (fKi true (fif (fch T l0 6) (F69_0 l0 19 3 T) none) (fun v0 T1 => F111_1040  l0 l1 l2 l3 v0 T1))
theorem G111_1033 {z : Option mm_O} {T : fS} {r : fR}  (l0 : Nat) (l1 : Nat) (l2 : Nat) (xl3 : Int32) (l3 : Nat) (hl3 : xl3 = nI l3) (h : F111_1033  l0 l1 l2 l3 T = some r) : mm_L 111 1033 [.ref l0, .ref l1, .ref l2, .int xl3] [] (toS z T) = some (tR z r) := by
  unfold F111_1033 at h
  refine Eq.trans (e111_1033 ..) ?_
  exact (fb_K0i (fun _ q => fb_mo (y := 69) ow_69 q (fun q => GM69 _ _ _ (rfl : (19 : Int32) = nI 19) _ _ (rfl : (3 : Int32) = nI 3) q)) h (fun v0 T1 h2 => G111_1040  _ _ _ _ _ hl3 _ _ rfl h2))
noncomputable def F111_1029  (l0 : Nat) (l1 : Nat) (l2 : Nat) (l3 : Nat) (s0 : Nat) (T : fS) : Option fR := (fif (ieq s0 5) (F111_1033  l0 l1 l2 l3 T) (F111_1056  l0 l1 l2 l3 T))
theorem G111_1029 {z : Option mm_O} {T : fS} {r : fR}  (l0 : Nat) (l1 : Nat) (l2 : Nat) (xl3 : Int32) (l3 : Nat) (hl3 : xl3 = nI l3) (xs0 : Int32) (s0 : Nat) (hs0 : xs0 = nI s0) (h : F111_1029  l0 l1 l2 l3 s0 T = some r) : mm_L 111 1029 [.ref l0, .ref l1, .ref l2, .int xl3] [.int xs0] (toS z T) = some (tR z r) := by
  unfold F111_1029 at h
  refine Eq.trans (e111_1029 ..) ?_
  exact (fb_if (cj_eq hs0 (rfl : (5 : Int32) = nI 5)) h (fun h1 => (G111_1033  _ _ _ _ _ hl3 h1)) (fun h1 => (G111_1056  _ _ _ _ _ hl3 h1)))
noncomputable def F111_1022  (l0 : Nat) (l1 : Nat) (l2 : Nat) (l3 : Nat) (T : fS) : Option fR := (fKi true (fif (fch T l0 6) (F69_0 l0 26 1 T) none) (fun v0 T1 => F111_1029  l0 l1 l2 l3 v0 T1))
theorem G111_1022 {z : Option mm_O} {T : fS} {r : fR}  (l0 : Nat) (l1 : Nat) (l2 : Nat) (xl3 : Int32) (l3 : Nat) (hl3 : xl3 = nI l3) (h : F111_1022  l0 l1 l2 l3 T = some r) : mm_L 111 1022 [.ref l0, .ref l1, .ref l2, .int xl3] [] (toS z T) = some (tR z r) := by
  unfold F111_1022 at h
  refine Eq.trans (e111_1022 ..) ?_
  exact (fb_K0i (fun _ q => fb_mo (y := 69) ow_69 q (fun q => GM69 _ _ _ (rfl : (26 : Int32) = nI 26) _ _ (rfl : (1 : Int32) = nI 1) q)) h (fun v0 T1 h2 => G111_1029  _ _ _ _ _ hl3 _ _ rfl h2))
noncomputable def F111_1018  (l0 : Nat) (l1 : Nat) (l2 : Nat) (l3 : Nat) (s0 : Nat) (T : fS) : Option fR := (fif (ieq s0 5) (F111_1022  l0 l1 l2 l3 T) (F111_1056  l0 l1 l2 l3 T))
theorem G111_1018 {z : Option mm_O} {T : fS} {r : fR}  (l0 : Nat) (l1 : Nat) (l2 : Nat) (xl3 : Int32) (l3 : Nat) (hl3 : xl3 = nI l3) (xs0 : Int32) (s0 : Nat) (hs0 : xs0 = nI s0) (h : F111_1018  l0 l1 l2 l3 s0 T = some r) : mm_L 111 1018 [.ref l0, .ref l1, .ref l2, .int xl3] [.int xs0] (toS z T) = some (tR z r) := by
  unfold F111_1018 at h
  refine Eq.trans (e111_1018 ..) ?_
  exact (fb_if (cj_eq hs0 (rfl : (5 : Int32) = nI 5)) h (fun h1 => (G111_1022  _ _ _ _ _ hl3 h1)) (fun h1 => (G111_1056  _ _ _ _ _ hl3 h1)))
noncomputable def F111_1011  (l0 : Nat) (l1 : Nat) (l2 : Nat) (l3 : Nat) (T : fS) : Option fR := (fKi true (fif (fch T l0 6) (F69_0 l0 24 1 T) none) (fun v0 T1 => F111_1018  l0 l1 l2 l3 v0 T1))
theorem G111_1011 {z : Option mm_O} {T : fS} {r : fR}  (l0 : Nat) (l1 : Nat) (l2 : Nat) (xl3 : Int32) (l3 : Nat) (hl3 : xl3 = nI l3) (h : F111_1011  l0 l1 l2 l3 T = some r) : mm_L 111 1011 [.ref l0, .ref l1, .ref l2, .int xl3] [] (toS z T) = some (tR z r) := by
  unfold F111_1011 at h
  refine Eq.trans (e111_1011 ..) ?_
  exact (fb_K0i (fun _ q => fb_mo (y := 69) ow_69 q (fun q => GM69 _ _ _ (rfl : (24 : Int32) = nI 24) _ _ (rfl : (1 : Int32) = nI 1) q)) h (fun v0 T1 h2 => G111_1018  _ _ _ _ _ hl3 _ _ rfl h2))
noncomputable def F111_1007  (l0 : Nat) (l1 : Nat) (l2 : Nat) (l3 : Nat) (s0 : Nat) (T : fS) : Option fR := (fif (ieq s0 1) (F111_1011  l0 l1 l2 l3 T) (F111_1056  l0 l1 l2 l3 T))
theorem G111_1007 {z : Option mm_O} {T : fS} {r : fR}  (l0 : Nat) (l1 : Nat) (l2 : Nat) (xl3 : Int32) (l3 : Nat) (hl3 : xl3 = nI l3) (xs0 : Int32) (s0 : Nat) (hs0 : xs0 = nI s0) (h : F111_1007  l0 l1 l2 l3 s0 T = some r) : mm_L 111 1007 [.ref l0, .ref l1, .ref l2, .int xl3] [.int xs0] (toS z T) = some (tR z r) := by
  unfold F111_1007 at h
  refine Eq.trans (e111_1007 ..) ?_
  exact (fb_if (cj_eq hs0 (rfl : (1 : Int32) = nI 1)) h (fun h1 => (G111_1011  _ _ _ _ _ hl3 h1)) (fun h1 => (G111_1056  _ _ _ _ _ hl3 h1)))
noncomputable def F111_1000  (l0 : Nat) (l1 : Nat) (l2 : Nat) (l3 : Nat) (T : fS) : Option fR := (fKi true (fif (fch T l0 6) (F69_0 l0 23 3 T) none) (fun v0 T1 => F111_1007  l0 l1 l2 l3 v0 T1))
theorem G111_1000 {z : Option mm_O} {T : fS} {r : fR}  (l0 : Nat) (l1 : Nat) (l2 : Nat) (xl3 : Int32) (l3 : Nat) (hl3 : xl3 = nI l3) (h : F111_1000  l0 l1 l2 l3 T = some r) : mm_L 111 1000 [.ref l0, .ref l1, .ref l2, .int xl3] [] (toS z T) = some (tR z r) := by
  unfold F111_1000 at h
  refine Eq.trans (e111_1000 ..) ?_
  exact (fb_K0i (fun _ q => fb_mo (y := 69) ow_69 q (fun q => GM69 _ _ _ (rfl : (23 : Int32) = nI 23) _ _ (rfl : (3 : Int32) = nI 3) q)) h (fun v0 T1 h2 => G111_1007  _ _ _ _ _ hl3 _ _ rfl h2))
noncomputable def F111_996  (l0 : Nat) (l1 : Nat) (l2 : Nat) (l3 : Nat) (s0 : Nat) (T : fS) : Option fR := (fif (ieq s0 2) (F111_1000  l0 l1 l2 l3 T) (F111_1056  l0 l1 l2 l3 T))
theorem G111_996 {z : Option mm_O} {T : fS} {r : fR}  (l0 : Nat) (l1 : Nat) (l2 : Nat) (xl3 : Int32) (l3 : Nat) (hl3 : xl3 = nI l3) (xs0 : Int32) (s0 : Nat) (hs0 : xs0 = nI s0) (h : F111_996  l0 l1 l2 l3 s0 T = some r) : mm_L 111 996 [.ref l0, .ref l1, .ref l2, .int xl3] [.int xs0] (toS z T) = some (tR z r) := by
  unfold F111_996 at h
  refine Eq.trans (e111_996 ..) ?_
  exact (fb_if (cj_eq hs0 (rfl : (2 : Int32) = nI 2)) h (fun h1 => (G111_1000  _ _ _ _ _ hl3 h1)) (fun h1 => (G111_1056  _ _ _ _ _ hl3 h1)))
noncomputable def F111_989  (l0 : Nat) (l1 : Nat) (l2 : Nat) (l3 : Nat) (T : fS) : Option fR := (fKi true (fif (fch T l0 6) (F69_0 l0 23 2 T) none) (fun v0 T1 => F111_996  l0 l1 l2 l3 v0 T1))
theorem G111_989 {z : Option mm_O} {T : fS} {r : fR}  (l0 : Nat) (l1 : Nat) (l2 : Nat) (xl3 : Int32) (l3 : Nat) (hl3 : xl3 = nI l3) (h : F111_989  l0 l1 l2 l3 T = some r) : mm_L 111 989 [.ref l0, .ref l1, .ref l2, .int xl3] [] (toS z T) = some (tR z r) := by
  unfold F111_989 at h
  refine Eq.trans (e111_989 ..) ?_
  exact (fb_K0i (fun _ q => fb_mo (y := 69) ow_69 q (fun q => GM69 _ _ _ (rfl : (23 : Int32) = nI 23) _ _ (rfl : (2 : Int32) = nI 2) q)) h (fun v0 T1 h2 => G111_996  _ _ _ _ _ hl3 _ _ rfl h2))
noncomputable def F111_985  (l0 : Nat) (l1 : Nat) (l2 : Nat) (l3 : Nat) (s0 : Nat) (T : fS) : Option fR := (fif (ieq s0 4) (F111_989  l0 l1 l2 l3 T) (F111_1056  l0 l1 l2 l3 T))
theorem G111_985 {z : Option mm_O} {T : fS} {r : fR}  (l0 : Nat) (l1 : Nat) (l2 : Nat) (xl3 : Int32) (l3 : Nat) (hl3 : xl3 = nI l3) (xs0 : Int32) (s0 : Nat) (hs0 : xs0 = nI s0) (h : F111_985  l0 l1 l2 l3 s0 T = some r) : mm_L 111 985 [.ref l0, .ref l1, .ref l2, .int xl3] [.int xs0] (toS z T) = some (tR z r) := by
  unfold F111_985 at h
  refine Eq.trans (e111_985 ..) ?_
  exact (fb_if (cj_eq hs0 (rfl : (4 : Int32) = nI 4)) h (fun h1 => (G111_989  _ _ _ _ _ hl3 h1)) (fun h1 => (G111_1056  _ _ _ _ _ hl3 h1)))
noncomputable def F111_978  (l0 : Nat) (l1 : Nat) (l2 : Nat) (l3 : Nat) (T : fS) : Option fR := (fKi true (fif (fch T l0 6) (F69_0 l0 23 1 T) none) (fun v0 T1 => F111_985  l0 l1 l2 l3 v0 T1))
theorem G111_978 {z : Option mm_O} {T : fS} {r : fR}  (l0 : Nat) (l1 : Nat) (l2 : Nat) (xl3 : Int32) (l3 : Nat) (hl3 : xl3 = nI l3) (h : F111_978  l0 l1 l2 l3 T = some r) : mm_L 111 978 [.ref l0, .ref l1, .ref l2, .int xl3] [] (toS z T) = some (tR z r) := by
  unfold F111_978 at h
  refine Eq.trans (e111_978 ..) ?_
  exact (fb_K0i (fun _ q => fb_mo (y := 69) ow_69 q (fun q => GM69 _ _ _ (rfl : (23 : Int32) = nI 23) _ _ (rfl : (1 : Int32) = nI 1) q)) h (fun v0 T1 h2 => G111_985  _ _ _ _ _ hl3 _ _ rfl h2))
noncomputable def F111_975  (l0 : Nat) (l1 : Nat) (l2 : Nat) (l3 : Nat) (s0 : Nat) (T : fS) : Option fR := (fif (ieq s0 0) (F111_978  l0 l1 l2 l3 T) (F111_1056  l0 l1 l2 l3 T))
theorem G111_975 {z : Option mm_O} {T : fS} {r : fR}  (l0 : Nat) (l1 : Nat) (l2 : Nat) (xl3 : Int32) (l3 : Nat) (hl3 : xl3 = nI l3) (xs0 : Int32) (s0 : Nat) (hs0 : xs0 = nI s0) (h : F111_975  l0 l1 l2 l3 s0 T = some r) : mm_L 111 975 [.ref l0, .ref l1, .ref l2, .int xl3] [.int xs0] (toS z T) = some (tR z r) := by
  unfold F111_975 at h
  refine Eq.trans (e111_975 ..) ?_
  exact (fb_if (cj_eq hs0 (rfl : (0 : Int32) = nI 0)) h (fun h1 => (G111_978  _ _ _ _ _ hl3 h1)) (fun h1 => (G111_1056  _ _ _ _ _ hl3 h1)))
noncomputable def F111_968  (l0 : Nat) (l1 : Nat) (l2 : Nat) (l3 : Nat) (T : fS) : Option fR := (fKi true (fif (fch T l0 6) (F69_0 l0 22 2 T) none) (fun v0 T1 => F111_975  l0 l1 l2 l3 v0 T1))
theorem G111_968 {z : Option mm_O} {T : fS} {r : fR}  (l0 : Nat) (l1 : Nat) (l2 : Nat) (xl3 : Int32) (l3 : Nat) (hl3 : xl3 = nI l3) (h : F111_968  l0 l1 l2 l3 T = some r) : mm_L 111 968 [.ref l0, .ref l1, .ref l2, .int xl3] [] (toS z T) = some (tR z r) := by
  unfold F111_968 at h
  refine Eq.trans (e111_968 ..) ?_
  exact (fb_K0i (fun _ q => fb_mo (y := 69) ow_69 q (fun q => GM69 _ _ _ (rfl : (22 : Int32) = nI 22) _ _ (rfl : (2 : Int32) = nI 2) q)) h (fun v0 T1 h2 => G111_975  _ _ _ _ _ hl3 _ _ rfl h2))
noncomputable def F111_964  (l0 : Nat) (l1 : Nat) (l2 : Nat) (l3 : Nat) (s0 : Nat) (T : fS) : Option fR := (fif (ieq s0 3) (F111_968  l0 l1 l2 l3 T) (F111_1056  l0 l1 l2 l3 T))
theorem G111_964 {z : Option mm_O} {T : fS} {r : fR}  (l0 : Nat) (l1 : Nat) (l2 : Nat) (xl3 : Int32) (l3 : Nat) (hl3 : xl3 = nI l3) (xs0 : Int32) (s0 : Nat) (hs0 : xs0 = nI s0) (h : F111_964  l0 l1 l2 l3 s0 T = some r) : mm_L 111 964 [.ref l0, .ref l1, .ref l2, .int xl3] [.int xs0] (toS z T) = some (tR z r) := by
  unfold F111_964 at h
  refine Eq.trans (e111_964 ..) ?_
  exact (fb_if (cj_eq hs0 (rfl : (3 : Int32) = nI 3)) h (fun h1 => (G111_968  _ _ _ _ _ hl3 h1)) (fun h1 => (G111_1056  _ _ _ _ _ hl3 h1)))
noncomputable def F111_957  (l0 : Nat) (l1 : Nat) (l2 : Nat) (l3 : Nat) (T : fS) : Option fR := (fKi true (fif (fch T l0 6) (F69_0 l0 22 1 T) none) (fun v0 T1 => F111_964  l0 l1 l2 l3 v0 T1))
theorem G111_957 {z : Option mm_O} {T : fS} {r : fR}  (l0 : Nat) (l1 : Nat) (l2 : Nat) (xl3 : Int32) (l3 : Nat) (hl3 : xl3 = nI l3) (h : F111_957  l0 l1 l2 l3 T = some r) : mm_L 111 957 [.ref l0, .ref l1, .ref l2, .int xl3] [] (toS z T) = some (tR z r) := by
  unfold F111_957 at h
  refine Eq.trans (e111_957 ..) ?_
  exact (fb_K0i (fun _ q => fb_mo (y := 69) ow_69 q (fun q => GM69 _ _ _ (rfl : (22 : Int32) = nI 22) _ _ (rfl : (1 : Int32) = nI 1) q)) h (fun v0 T1 h2 => G111_964  _ _ _ _ _ hl3 _ _ rfl h2))
noncomputable def F111_953  (l0 : Nat) (l1 : Nat) (l2 : Nat) (l3 : Nat) (s0 : Nat) (T : fS) : Option fR := (fif (ieq s0 3) (F111_957  l0 l1 l2 l3 T) (F111_1056  l0 l1 l2 l3 T))
theorem G111_953 {z : Option mm_O} {T : fS} {r : fR}  (l0 : Nat) (l1 : Nat) (l2 : Nat) (xl3 : Int32) (l3 : Nat) (hl3 : xl3 = nI l3) (xs0 : Int32) (s0 : Nat) (hs0 : xs0 = nI s0) (h : F111_953  l0 l1 l2 l3 s0 T = some r) : mm_L 111 953 [.ref l0, .ref l1, .ref l2, .int xl3] [.int xs0] (toS z T) = some (tR z r) := by
  unfold F111_953 at h
  refine Eq.trans (e111_953 ..) ?_
  exact (fb_if (cj_eq hs0 (rfl : (3 : Int32) = nI 3)) h (fun h1 => (G111_957  _ _ _ _ _ hl3 h1)) (fun h1 => (G111_1056  _ _ _ _ _ hl3 h1)))
noncomputable def F111_946  (l0 : Nat) (l1 : Nat) (l2 : Nat) (l3 : Nat) (T : fS) : Option fR := (fKi true (fif (fch T l0 6) (F69_0 l0 11 1 T) none) (fun v0 T1 => F111_953  l0 l1 l2 l3 v0 T1))
theorem G111_946 {z : Option mm_O} {T : fS} {r : fR}  (l0 : Nat) (l1 : Nat) (l2 : Nat) (xl3 : Int32) (l3 : Nat) (hl3 : xl3 = nI l3) (h : F111_946  l0 l1 l2 l3 T = some r) : mm_L 111 946 [.ref l0, .ref l1, .ref l2, .int xl3] [] (toS z T) = some (tR z r) := by
  unfold F111_946 at h
  refine Eq.trans (e111_946 ..) ?_
  exact (fb_K0i (fun _ q => fb_mo (y := 69) ow_69 q (fun q => GM69 _ _ _ (rfl : (11 : Int32) = nI 11) _ _ (rfl : (1 : Int32) = nI 1) q)) h (fun v0 T1 h2 => G111_953  _ _ _ _ _ hl3 _ _ rfl h2))
noncomputable def F111_943  (l0 : Nat) (l1 : Nat) (l2 : Nat) (l3 : Nat) (s0 : Nat) (T : fS) : Option fR := (fif (ieq s0 0) (F111_946  l0 l1 l2 l3 T) (F111_1056  l0 l1 l2 l3 T))
theorem G111_943 {z : Option mm_O} {T : fS} {r : fR}  (l0 : Nat) (l1 : Nat) (l2 : Nat) (xl3 : Int32) (l3 : Nat) (hl3 : xl3 = nI l3) (xs0 : Int32) (s0 : Nat) (hs0 : xs0 = nI s0) (h : F111_943  l0 l1 l2 l3 s0 T = some r) : mm_L 111 943 [.ref l0, .ref l1, .ref l2, .int xl3] [.int xs0] (toS z T) = some (tR z r) := by
  unfold F111_943 at h
  refine Eq.trans (e111_943 ..) ?_
  exact (fb_if (cj_eq hs0 (rfl : (0 : Int32) = nI 0)) h (fun h1 => (G111_946  _ _ _ _ _ hl3 h1)) (fun h1 => (G111_1056  _ _ _ _ _ hl3 h1)))
noncomputable def F111_936  (l0 : Nat) (l1 : Nat) (l2 : Nat) (l3 : Nat) (T : fS) : Option fR := (fKi true (fif (fch T l0 6) (F69_0 l0 8 3 T) none) (fun v0 T1 => F111_943  l0 l1 l2 l3 v0 T1))
theorem G111_936 {z : Option mm_O} {T : fS} {r : fR}  (l0 : Nat) (l1 : Nat) (l2 : Nat) (xl3 : Int32) (l3 : Nat) (hl3 : xl3 = nI l3) (h : F111_936  l0 l1 l2 l3 T = some r) : mm_L 111 936 [.ref l0, .ref l1, .ref l2, .int xl3] [] (toS z T) = some (tR z r) := by
  unfold F111_936 at h
  refine Eq.trans (e111_936 ..) ?_
  exact (fb_K0i (fun _ q => fb_mo (y := 69) ow_69 q (fun q => GM69 _ _ _ (rfl : (8 : Int32) = nI 8) _ _ (rfl : (3 : Int32) = nI 3) q)) h (fun v0 T1 h2 => G111_943  _ _ _ _ _ hl3 _ _ rfl h2))
noncomputable def F111_932  (l0 : Nat) (l1 : Nat) (l2 : Nat) (l3 : Nat) (s0 : Nat) (T : fS) : Option fR := (fif (ieq s0 1) (F111_936  l0 l1 l2 l3 T) (F111_1056  l0 l1 l2 l3 T))
theorem G111_932 {z : Option mm_O} {T : fS} {r : fR}  (l0 : Nat) (l1 : Nat) (l2 : Nat) (xl3 : Int32) (l3 : Nat) (hl3 : xl3 = nI l3) (xs0 : Int32) (s0 : Nat) (hs0 : xs0 = nI s0) (h : F111_932  l0 l1 l2 l3 s0 T = some r) : mm_L 111 932 [.ref l0, .ref l1, .ref l2, .int xl3] [.int xs0] (toS z T) = some (tR z r) := by
  unfold F111_932 at h
  refine Eq.trans (e111_932 ..) ?_
  exact (fb_if (cj_eq hs0 (rfl : (1 : Int32) = nI 1)) h (fun h1 => (G111_936  _ _ _ _ _ hl3 h1)) (fun h1 => (G111_1056  _ _ _ _ _ hl3 h1)))
noncomputable def F111_924  (l0 : Nat) (l1 : Nat) (l2 : Nat) (l3 : Nat) (T : fS) : Option fR := (fKi true (fif (fch T l0 6) (F69_0 l0 8 7 T) none) (fun v0 T1 => F111_932  l0 l1 l2 l3 v0 T1))
theorem G111_924 {z : Option mm_O} {T : fS} {r : fR}  (l0 : Nat) (l1 : Nat) (l2 : Nat) (xl3 : Int32) (l3 : Nat) (hl3 : xl3 = nI l3) (h : F111_924  l0 l1 l2 l3 T = some r) : mm_L 111 924 [.ref l0, .ref l1, .ref l2, .int xl3] [] (toS z T) = some (tR z r) := by
  unfold F111_924 at h
  refine Eq.trans (e111_924 ..) ?_
  exact (fb_K0i (fun _ q => fb_mo (y := 69) ow_69 q (fun q => GM69 _ _ _ (rfl : (8 : Int32) = nI 8) _ _ (rfl : (7 : Int32) = nI 7) q)) h (fun v0 T1 h2 => G111_932  _ _ _ _ _ hl3 _ _ rfl h2))
noncomputable def F111_921  (l0 : Nat) (l1 : Nat) (l2 : Nat) (l3 : Nat) (s0 : Nat) (T : fS) : Option fR := (fif (ieq s0 0) (F111_924  l0 l1 l2 l3 T) (F111_1056  l0 l1 l2 l3 T))
theorem G111_921 {z : Option mm_O} {T : fS} {r : fR}  (l0 : Nat) (l1 : Nat) (l2 : Nat) (xl3 : Int32) (l3 : Nat) (hl3 : xl3 = nI l3) (xs0 : Int32) (s0 : Nat) (hs0 : xs0 = nI s0) (h : F111_921  l0 l1 l2 l3 s0 T = some r) : mm_L 111 921 [.ref l0, .ref l1, .ref l2, .int xl3] [.int xs0] (toS z T) = some (tR z r) := by
  unfold F111_921 at h
  refine Eq.trans (e111_921 ..) ?_
  exact (fb_if (cj_eq hs0 (rfl : (0 : Int32) = nI 0)) h (fun h1 => (G111_924  _ _ _ _ _ hl3 h1)) (fun h1 => (G111_1056  _ _ _ _ _ hl3 h1)))
noncomputable def F111_914  (l0 : Nat) (l1 : Nat) (l2 : Nat) (l3 : Nat) (T : fS) : Option fR := (fKi true (fif (fch T l0 6) (F69_0 l0 8 2 T) none) (fun v0 T1 => F111_921  l0 l1 l2 l3 v0 T1))
theorem G111_914 {z : Option mm_O} {T : fS} {r : fR}  (l0 : Nat) (l1 : Nat) (l2 : Nat) (xl3 : Int32) (l3 : Nat) (hl3 : xl3 = nI l3) (h : F111_914  l0 l1 l2 l3 T = some r) : mm_L 111 914 [.ref l0, .ref l1, .ref l2, .int xl3] [] (toS z T) = some (tR z r) := by
  unfold F111_914 at h
  refine Eq.trans (e111_914 ..) ?_
  exact (fb_K0i (fun _ q => fb_mo (y := 69) ow_69 q (fun q => GM69 _ _ _ (rfl : (8 : Int32) = nI 8) _ _ (rfl : (2 : Int32) = nI 2) q)) h (fun v0 T1 h2 => G111_921  _ _ _ _ _ hl3 _ _ rfl h2))
noncomputable def F111_910  (l0 : Nat) (l1 : Nat) (l2 : Nat) (l3 : Nat) (s0 : Nat) (T : fS) : Option fR := (fif (ieq s0 1) (F111_914  l0 l1 l2 l3 T) (F111_1056  l0 l1 l2 l3 T))
theorem G111_910 {z : Option mm_O} {T : fS} {r : fR}  (l0 : Nat) (l1 : Nat) (l2 : Nat) (xl3 : Int32) (l3 : Nat) (hl3 : xl3 = nI l3) (xs0 : Int32) (s0 : Nat) (hs0 : xs0 = nI s0) (h : F111_910  l0 l1 l2 l3 s0 T = some r) : mm_L 111 910 [.ref l0, .ref l1, .ref l2, .int xl3] [.int xs0] (toS z T) = some (tR z r) := by
  unfold F111_910 at h
  refine Eq.trans (e111_910 ..) ?_
  exact (fb_if (cj_eq hs0 (rfl : (1 : Int32) = nI 1)) h (fun h1 => (G111_914  _ _ _ _ _ hl3 h1)) (fun h1 => (G111_1056  _ _ _ _ _ hl3 h1)))
noncomputable def F111_903  (l0 : Nat) (l1 : Nat) (l2 : Nat) (l3 : Nat) (T : fS) : Option fR := (fKi true (fif (fch T l0 6) (F69_0 l0 8 0 T) none) (fun v0 T1 => F111_910  l0 l1 l2 l3 v0 T1))
theorem G111_903 {z : Option mm_O} {T : fS} {r : fR}  (l0 : Nat) (l1 : Nat) (l2 : Nat) (xl3 : Int32) (l3 : Nat) (hl3 : xl3 = nI l3) (h : F111_903  l0 l1 l2 l3 T = some r) : mm_L 111 903 [.ref l0, .ref l1, .ref l2, .int xl3] [] (toS z T) = some (tR z r) := by
  unfold F111_903 at h
  refine Eq.trans (e111_903 ..) ?_
  exact (fb_K0i (fun _ q => fb_mo (y := 69) ow_69 q (fun q => GM69 _ _ _ (rfl : (8 : Int32) = nI 8) _ _ (rfl : (0 : Int32) = nI 0) q)) h (fun v0 T1 h2 => G111_910  _ _ _ _ _ hl3 _ _ rfl h2))
noncomputable def F111_899  (l0 : Nat) (l1 : Nat) (l2 : Nat) (l3 : Nat) (s0 : Nat) (T : fS) : Option fR := (fif (ieq s0 3) (F111_903  l0 l1 l2 l3 T) (F111_1056  l0 l1 l2 l3 T))
theorem G111_899 {z : Option mm_O} {T : fS} {r : fR}  (l0 : Nat) (l1 : Nat) (l2 : Nat) (xl3 : Int32) (l3 : Nat) (hl3 : xl3 = nI l3) (xs0 : Int32) (s0 : Nat) (hs0 : xs0 = nI s0) (h : F111_899  l0 l1 l2 l3 s0 T = some r) : mm_L 111 899 [.ref l0, .ref l1, .ref l2, .int xl3] [.int xs0] (toS z T) = some (tR z r) := by
  unfold F111_899 at h
  refine Eq.trans (e111_899 ..) ?_
  exact (fb_if (cj_eq hs0 (rfl : (3 : Int32) = nI 3)) h (fun h1 => (G111_903  _ _ _ _ _ hl3 h1)) (fun h1 => (G111_1056  _ _ _ _ _ hl3 h1)))
noncomputable def F111_892  (l0 : Nat) (l1 : Nat) (l2 : Nat) (l3 : Nat) (T : fS) : Option fR := (fKi true (fif (fch T l0 6) (F69_0 l0 10 1 T) none) (fun v0 T1 => F111_899  l0 l1 l2 l3 v0 T1))
theorem G111_892 {z : Option mm_O} {T : fS} {r : fR}  (l0 : Nat) (l1 : Nat) (l2 : Nat) (xl3 : Int32) (l3 : Nat) (hl3 : xl3 = nI l3) (h : F111_892  l0 l1 l2 l3 T = some r) : mm_L 111 892 [.ref l0, .ref l1, .ref l2, .int xl3] [] (toS z T) = some (tR z r) := by
  unfold F111_892 at h
  refine Eq.trans (e111_892 ..) ?_
  exact (fb_K0i (fun _ q => fb_mo (y := 69) ow_69 q (fun q => GM69 _ _ _ (rfl : (10 : Int32) = nI 10) _ _ (rfl : (1 : Int32) = nI 1) q)) h (fun v0 T1 h2 => G111_899  _ _ _ _ _ hl3 _ _ rfl h2))
noncomputable def F111_887  (l0 : Nat) (l1 : Nat) (l2 : Nat) (l3 : Nat) (s0 : Nat) (T : fS) : Option fR := (fif (ieq s0 6) (F111_892  l0 l1 l2 l3 T) (F111_1056  l0 l1 l2 l3 T))
theorem G111_887 {z : Option mm_O} {T : fS} {r : fR}  (l0 : Nat) (l1 : Nat) (l2 : Nat) (xl3 : Int32) (l3 : Nat) (hl3 : xl3 = nI l3) (xs0 : Int32) (s0 : Nat) (hs0 : xs0 = nI s0) (h : F111_887  l0 l1 l2 l3 s0 T = some r) : mm_L 111 887 [.ref l0, .ref l1, .ref l2, .int xl3] [.int xs0] (toS z T) = some (tR z r) := by
  unfold F111_887 at h
  refine Eq.trans (e111_887 ..) ?_
  exact (fb_if (cj_eq hs0 (rfl : (6 : Int32) = nI 6)) h (fun h1 => (G111_892  _ _ _ _ _ hl3 h1)) (fun h1 => (G111_1056  _ _ _ _ _ hl3 h1)))
noncomputable def F111_880  (l0 : Nat) (l1 : Nat) (l2 : Nat) (l3 : Nat) (T : fS) : Option fR := (fKi true (fif (fch T l0 6) (F69_0 l0 9 1 T) none) (fun v0 T1 => F111_887  l0 l1 l2 l3 v0 T1))
theorem G111_880 {z : Option mm_O} {T : fS} {r : fR}  (l0 : Nat) (l1 : Nat) (l2 : Nat) (xl3 : Int32) (l3 : Nat) (hl3 : xl3 = nI l3) (h : F111_880  l0 l1 l2 l3 T = some r) : mm_L 111 880 [.ref l0, .ref l1, .ref l2, .int xl3] [] (toS z T) = some (tR z r) := by
  unfold F111_880 at h
  refine Eq.trans (e111_880 ..) ?_
  exact (fb_K0i (fun _ q => fb_mo (y := 69) ow_69 q (fun q => GM69 _ _ _ (rfl : (9 : Int32) = nI 9) _ _ (rfl : (1 : Int32) = nI 1) q)) h (fun v0 T1 h2 => G111_887  _ _ _ _ _ hl3 _ _ rfl h2))
noncomputable def F111_875  (l0 : Nat) (l1 : Nat) (l2 : Nat) (l3 : Nat) (s0 : Nat) (T : fS) : Option fR := (fif (ieq s0 7) (F111_880  l0 l1 l2 l3 T) (F111_1056  l0 l1 l2 l3 T))
theorem G111_875 {z : Option mm_O} {T : fS} {r : fR}  (l0 : Nat) (l1 : Nat) (l2 : Nat) (xl3 : Int32) (l3 : Nat) (hl3 : xl3 = nI l3) (xs0 : Int32) (s0 : Nat) (hs0 : xs0 = nI s0) (h : F111_875  l0 l1 l2 l3 s0 T = some r) : mm_L 111 875 [.ref l0, .ref l1, .ref l2, .int xl3] [.int xs0] (toS z T) = some (tR z r) := by
  unfold F111_875 at h
  refine Eq.trans (e111_875 ..) ?_
  exact (fb_if (cj_eq hs0 (rfl : (7 : Int32) = nI 7)) h (fun h1 => (G111_880  _ _ _ _ _ hl3 h1)) (fun h1 => (G111_1056  _ _ _ _ _ hl3 h1)))
noncomputable def F111_868  (l0 : Nat) (l1 : Nat) (l2 : Nat) (l3 : Nat) (T : fS) : Option fR := (fKi true (fif (fch T l0 6) (F69_0 l0 8 1 T) none) (fun v0 T1 => F111_875  l0 l1 l2 l3 v0 T1))
theorem G111_868 {z : Option mm_O} {T : fS} {r : fR}  (l0 : Nat) (l1 : Nat) (l2 : Nat) (xl3 : Int32) (l3 : Nat) (hl3 : xl3 = nI l3) (h : F111_868  l0 l1 l2 l3 T = some r) : mm_L 111 868 [.ref l0, .ref l1, .ref l2, .int xl3] [] (toS z T) = some (tR z r) := by
  unfold F111_868 at h
  refine Eq.trans (e111_868 ..) ?_
  exact (fb_K0i (fun _ q => fb_mo (y := 69) ow_69 q (fun q => GM69 _ _ _ (rfl : (8 : Int32) = nI 8) _ _ (rfl : (1 : Int32) = nI 1) q)) h (fun v0 T1 h2 => G111_875  _ _ _ _ _ hl3 _ _ rfl h2))
noncomputable def F111_864  (l0 : Nat) (l1 : Nat) (l2 : Nat) (l3 : Nat) (s0 : Nat) (T : fS) : Option fR := (fif (ieq s0 1) (F111_868  l0 l1 l2 l3 T) (F111_1056  l0 l1 l2 l3 T))
theorem G111_864 {z : Option mm_O} {T : fS} {r : fR}  (l0 : Nat) (l1 : Nat) (l2 : Nat) (xl3 : Int32) (l3 : Nat) (hl3 : xl3 = nI l3) (xs0 : Int32) (s0 : Nat) (hs0 : xs0 = nI s0) (h : F111_864  l0 l1 l2 l3 s0 T = some r) : mm_L 111 864 [.ref l0, .ref l1, .ref l2, .int xl3] [.int xs0] (toS z T) = some (tR z r) := by
  unfold F111_864 at h
  refine Eq.trans (e111_864 ..) ?_
  exact (fb_if (cj_eq hs0 (rfl : (1 : Int32) = nI 1)) h (fun h1 => (G111_868  _ _ _ _ _ hl3 h1)) (fun h1 => (G111_1056  _ _ _ _ _ hl3 h1)))
noncomputable def F111_857  (l0 : Nat) (l1 : Nat) (l2 : Nat) (l3 : Nat) (T : fS) : Option fR := (fKi true (fif (fch T l0 6) (F69_0 l0 7 2 T) none) (fun v0 T1 => F111_864  l0 l1 l2 l3 v0 T1))
theorem G111_857 {z : Option mm_O} {T : fS} {r : fR}  (l0 : Nat) (l1 : Nat) (l2 : Nat) (xl3 : Int32) (l3 : Nat) (hl3 : xl3 = nI l3) (h : F111_857  l0 l1 l2 l3 T = some r) : mm_L 111 857 [.ref l0, .ref l1, .ref l2, .int xl3] [] (toS z T) = some (tR z r) := by
  unfold F111_857 at h
  refine Eq.trans (e111_857 ..) ?_
  exact (fb_K0i (fun _ q => fb_mo (y := 69) ow_69 q (fun q => GM69 _ _ _ (rfl : (7 : Int32) = nI 7) _ _ (rfl : (2 : Int32) = nI 2) q)) h (fun v0 T1 h2 => G111_864  _ _ _ _ _ hl3 _ _ rfl h2))
noncomputable def F111_853  (l0 : Nat) (l1 : Nat) (l2 : Nat) (l3 : Nat) (s0 : Nat) (T : fS) : Option fR := (fif (ieq s0 2) (F111_857  l0 l1 l2 l3 T) (F111_1056  l0 l1 l2 l3 T))
theorem G111_853 {z : Option mm_O} {T : fS} {r : fR}  (l0 : Nat) (l1 : Nat) (l2 : Nat) (xl3 : Int32) (l3 : Nat) (hl3 : xl3 = nI l3) (xs0 : Int32) (s0 : Nat) (hs0 : xs0 = nI s0) (h : F111_853  l0 l1 l2 l3 s0 T = some r) : mm_L 111 853 [.ref l0, .ref l1, .ref l2, .int xl3] [.int xs0] (toS z T) = some (tR z r) := by
  unfold F111_853 at h
  refine Eq.trans (e111_853 ..) ?_
  exact (fb_if (cj_eq hs0 (rfl : (2 : Int32) = nI 2)) h (fun h1 => (G111_857  _ _ _ _ _ hl3 h1)) (fun h1 => (G111_1056  _ _ _ _ _ hl3 h1)))
noncomputable def F111_846  (l0 : Nat) (l1 : Nat) (l2 : Nat) (l3 : Nat) (T : fS) : Option fR := (fKi true (fif (fch T l0 6) (F69_0 l0 7 0 T) none) (fun v0 T1 => F111_853  l0 l1 l2 l3 v0 T1))
theorem G111_846 {z : Option mm_O} {T : fS} {r : fR}  (l0 : Nat) (l1 : Nat) (l2 : Nat) (xl3 : Int32) (l3 : Nat) (hl3 : xl3 = nI l3) (h : F111_846  l0 l1 l2 l3 T = some r) : mm_L 111 846 [.ref l0, .ref l1, .ref l2, .int xl3] [] (toS z T) = some (tR z r) := by
  unfold F111_846 at h
  refine Eq.trans (e111_846 ..) ?_
  exact (fb_K0i (fun _ q => fb_mo (y := 69) ow_69 q (fun q => GM69 _ _ _ (rfl : (7 : Int32) = nI 7) _ _ (rfl : (0 : Int32) = nI 0) q)) h (fun v0 T1 h2 => G111_853  _ _ _ _ _ hl3 _ _ rfl h2))
noncomputable def F111_841  (l0 : Nat) (l1 : Nat) (l2 : Nat) (l3 : Nat) (s0 : Nat) (T : fS) : Option fR := (fif (ieq s0 8) (F111_846  l0 l1 l2 l3 T) (F111_1056  l0 l1 l2 l3 T))
theorem G111_841 {z : Option mm_O} {T : fS} {r : fR}  (l0 : Nat) (l1 : Nat) (l2 : Nat) (xl3 : Int32) (l3 : Nat) (hl3 : xl3 = nI l3) (xs0 : Int32) (s0 : Nat) (hs0 : xs0 = nI s0) (h : F111_841  l0 l1 l2 l3 s0 T = some r) : mm_L 111 841 [.ref l0, .ref l1, .ref l2, .int xl3] [.int xs0] (toS z T) = some (tR z r) := by
  unfold F111_841 at h
  refine Eq.trans (e111_841 ..) ?_
  exact (fb_if (cj_eq hs0 (rfl : (8 : Int32) = nI 8)) h (fun h1 => (G111_846  _ _ _ _ _ hl3 h1)) (fun h1 => (G111_1056  _ _ _ _ _ hl3 h1)))
noncomputable def F111_834  (l0 : Nat) (l1 : Nat) (l2 : Nat) (l3 : Nat) (T : fS) : Option fR := (fKi true (fif (fch T l0 6) (F69_0 l0 7 1 T) none) (fun v0 T1 => F111_841  l0 l1 l2 l3 v0 T1))
theorem G111_834 {z : Option mm_O} {T : fS} {r : fR}  (l0 : Nat) (l1 : Nat) (l2 : Nat) (xl3 : Int32) (l3 : Nat) (hl3 : xl3 = nI l3) (h : F111_834  l0 l1 l2 l3 T = some r) : mm_L 111 834 [.ref l0, .ref l1, .ref l2, .int xl3] [] (toS z T) = some (tR z r) := by
  unfold F111_834 at h
  refine Eq.trans (e111_834 ..) ?_
  exact (fb_K0i (fun _ q => fb_mo (y := 69) ow_69 q (fun q => GM69 _ _ _ (rfl : (7 : Int32) = nI 7) _ _ (rfl : (1 : Int32) = nI 1) q)) h (fun v0 T1 h2 => G111_841  _ _ _ _ _ hl3 _ _ rfl h2))
noncomputable def F111_829  (l0 : Nat) (l1 : Nat) (l2 : Nat) (l3 : Nat) (s0 : Nat) (T : fS) : Option fR := (fif (ieq s0 8) (F111_834  l0 l1 l2 l3 T) (F111_1056  l0 l1 l2 l3 T))
theorem G111_829 {z : Option mm_O} {T : fS} {r : fR}  (l0 : Nat) (l1 : Nat) (l2 : Nat) (xl3 : Int32) (l3 : Nat) (hl3 : xl3 = nI l3) (xs0 : Int32) (s0 : Nat) (hs0 : xs0 = nI s0) (h : F111_829  l0 l1 l2 l3 s0 T = some r) : mm_L 111 829 [.ref l0, .ref l1, .ref l2, .int xl3] [.int xs0] (toS z T) = some (tR z r) := by
  unfold F111_829 at h
  refine Eq.trans (e111_829 ..) ?_
  exact (fb_if (cj_eq hs0 (rfl : (8 : Int32) = nI 8)) h (fun h1 => (G111_834  _ _ _ _ _ hl3 h1)) (fun h1 => (G111_1056  _ _ _ _ _ hl3 h1)))
noncomputable def F111_823  (l0 : Nat) (l1 : Nat) (l2 : Nat) (l3 : Nat) (T : fS) : Option fR := (fKi true (fif (fch T l0 6) (F69_0 l0 5 1 T) none) (fun v0 T1 => F111_829  l0 l1 l2 l3 v0 T1))
theorem G111_823 {z : Option mm_O} {T : fS} {r : fR}  (l0 : Nat) (l1 : Nat) (l2 : Nat) (xl3 : Int32) (l3 : Nat) (hl3 : xl3 = nI l3) (h : F111_823  l0 l1 l2 l3 T = some r) : mm_L 111 823 [.ref l0, .ref l1, .ref l2, .int xl3] [] (toS z T) = some (tR z r) := by
  unfold F111_823 at h
  refine Eq.trans (e111_823 ..) ?_
  exact (fb_K0i (fun _ q => fb_mo (y := 69) ow_69 q (fun q => GM69 _ _ _ (rfl : (5 : Int32) = nI 5) _ _ (rfl : (1 : Int32) = nI 1) q)) h (fun v0 T1 h2 => G111_829  _ _ _ _ _ hl3 _ _ rfl h2))
noncomputable def F111_819  (l0 : Nat) (l1 : Nat) (l2 : Nat) (l3 : Nat) (s0 : Nat) (T : fS) : Option fR := (fif (ieq s0 5) (F111_823  l0 l1 l2 l3 T) (F111_1056  l0 l1 l2 l3 T))
theorem G111_819 {z : Option mm_O} {T : fS} {r : fR}  (l0 : Nat) (l1 : Nat) (l2 : Nat) (xl3 : Int32) (l3 : Nat) (hl3 : xl3 = nI l3) (xs0 : Int32) (s0 : Nat) (hs0 : xs0 = nI s0) (h : F111_819  l0 l1 l2 l3 s0 T = some r) : mm_L 111 819 [.ref l0, .ref l1, .ref l2, .int xl3] [.int xs0] (toS z T) = some (tR z r) := by
  unfold F111_819 at h
  refine Eq.trans (e111_819 ..) ?_
  exact (fb_if (cj_eq hs0 (rfl : (5 : Int32) = nI 5)) h (fun h1 => (G111_823  _ _ _ _ _ hl3 h1)) (fun h1 => (G111_1056  _ _ _ _ _ hl3 h1)))
noncomputable def F111_813  (l0 : Nat) (l1 : Nat) (l2 : Nat) (l3 : Nat) (T : fS) : Option fR := (fKi true (fif (fch T l0 6) (F69_0 l0 4 1 T) none) (fun v0 T1 => F111_819  l0 l1 l2 l3 v0 T1))
theorem G111_813 {z : Option mm_O} {T : fS} {r : fR}  (l0 : Nat) (l1 : Nat) (l2 : Nat) (xl3 : Int32) (l3 : Nat) (hl3 : xl3 = nI l3) (h : F111_813  l0 l1 l2 l3 T = some r) : mm_L 111 813 [.ref l0, .ref l1, .ref l2, .int xl3] [] (toS z T) = some (tR z r) := by
  unfold F111_813 at h
  refine Eq.trans (e111_813 ..) ?_
  exact (fb_K0i (fun _ q => fb_mo (y := 69) ow_69 q (fun q => GM69 _ _ _ (rfl : (4 : Int32) = nI 4) _ _ (rfl : (1 : Int32) = nI 1) q)) h (fun v0 T1 h2 => G111_819  _ _ _ _ _ hl3 _ _ rfl h2))
noncomputable def F111_809  (l0 : Nat) (l1 : Nat) (l2 : Nat) (l3 : Nat) (s0 : Nat) (T : fS) : Option fR := (fif (ieq s0 2) (F111_813  l0 l1 l2 l3 T) (F111_1056  l0 l1 l2 l3 T))
theorem G111_809 {z : Option mm_O} {T : fS} {r : fR}  (l0 : Nat) (l1 : Nat) (l2 : Nat) (xl3 : Int32) (l3 : Nat) (hl3 : xl3 = nI l3) (xs0 : Int32) (s0 : Nat) (hs0 : xs0 = nI s0) (h : F111_809  l0 l1 l2 l3 s0 T = some r) : mm_L 111 809 [.ref l0, .ref l1, .ref l2, .int xl3] [.int xs0] (toS z T) = some (tR z r) := by
  unfold F111_809 at h
  refine Eq.trans (e111_809 ..) ?_
  exact (fb_if (cj_eq hs0 (rfl : (2 : Int32) = nI 2)) h (fun h1 => (G111_813  _ _ _ _ _ hl3 h1)) (fun h1 => (G111_1056  _ _ _ _ _ hl3 h1)))
noncomputable def F111_803  (l0 : Nat) (l1 : Nat) (l2 : Nat) (l3 : Nat) (T : fS) : Option fR := (fKi true (fif (fch T l0 6) (F69_0 l0 3 1 T) none) (fun v0 T1 => F111_809  l0 l1 l2 l3 v0 T1))
theorem G111_803 {z : Option mm_O} {T : fS} {r : fR}  (l0 : Nat) (l1 : Nat) (l2 : Nat) (xl3 : Int32) (l3 : Nat) (hl3 : xl3 = nI l3) (h : F111_803  l0 l1 l2 l3 T = some r) : mm_L 111 803 [.ref l0, .ref l1, .ref l2, .int xl3] [] (toS z T) = some (tR z r) := by
  unfold F111_803 at h
  refine Eq.trans (e111_803 ..) ?_
  exact (fb_K0i (fun _ q => fb_mo (y := 69) ow_69 q (fun q => GM69 _ _ _ (rfl : (3 : Int32) = nI 3) _ _ (rfl : (1 : Int32) = nI 1) q)) h (fun v0 T1 h2 => G111_809  _ _ _ _ _ hl3 _ _ rfl h2))
noncomputable def F111_799  (l0 : Nat) (l1 : Nat) (l2 : Nat) (l3 : Nat) (s0 : Nat) (T : fS) : Option fR := (fif (ieq s0 1) (F111_803  l0 l1 l2 l3 T) (F111_1056  l0 l1 l2 l3 T))
theorem G111_799 {z : Option mm_O} {T : fS} {r : fR}  (l0 : Nat) (l1 : Nat) (l2 : Nat) (xl3 : Int32) (l3 : Nat) (hl3 : xl3 = nI l3) (xs0 : Int32) (s0 : Nat) (hs0 : xs0 = nI s0) (h : F111_799  l0 l1 l2 l3 s0 T = some r) : mm_L 111 799 [.ref l0, .ref l1, .ref l2, .int xl3] [.int xs0] (toS z T) = some (tR z r) := by
  unfold F111_799 at h
  refine Eq.trans (e111_799 ..) ?_
  exact (fb_if (cj_eq hs0 (rfl : (1 : Int32) = nI 1)) h (fun h1 => (G111_803  _ _ _ _ _ hl3 h1)) (fun h1 => (G111_1056  _ _ _ _ _ hl3 h1)))
noncomputable def F111_793  (l0 : Nat) (l1 : Nat) (l2 : Nat) (l3 : Nat) (T : fS) : Option fR := (fKi true (fif (fch T l0 6) (F69_0 l0 2 1 T) none) (fun v0 T1 => F111_799  l0 l1 l2 l3 v0 T1))
theorem G111_793 {z : Option mm_O} {T : fS} {r : fR}  (l0 : Nat) (l1 : Nat) (l2 : Nat) (xl3 : Int32) (l3 : Nat) (hl3 : xl3 = nI l3) (h : F111_793  l0 l1 l2 l3 T = some r) : mm_L 111 793 [.ref l0, .ref l1, .ref l2, .int xl3] [] (toS z T) = some (tR z r) := by
  unfold F111_793 at h
  refine Eq.trans (e111_793 ..) ?_
  exact (fb_K0i (fun _ q => fb_mo (y := 69) ow_69 q (fun q => GM69 _ _ _ (rfl : (2 : Int32) = nI 2) _ _ (rfl : (1 : Int32) = nI 1) q)) h (fun v0 T1 h2 => G111_799  _ _ _ _ _ hl3 _ _ rfl h2))
noncomputable def F111_790  (l0 : Nat) (l1 : Nat) (l2 : Nat) (l3 : Nat) (s0 : Nat) (T : fS) : Option fR := (fif (ieq s0 0) (F111_793  l0 l1 l2 l3 T) (F111_1056  l0 l1 l2 l3 T))
theorem G111_790 {z : Option mm_O} {T : fS} {r : fR}  (l0 : Nat) (l1 : Nat) (l2 : Nat) (xl3 : Int32) (l3 : Nat) (hl3 : xl3 = nI l3) (xs0 : Int32) (s0 : Nat) (hs0 : xs0 = nI s0) (h : F111_790  l0 l1 l2 l3 s0 T = some r) : mm_L 111 790 [.ref l0, .ref l1, .ref l2, .int xl3] [.int xs0] (toS z T) = some (tR z r) := by
  unfold F111_790 at h
  refine Eq.trans (e111_790 ..) ?_
  exact (fb_if (cj_eq hs0 (rfl : (0 : Int32) = nI 0)) h (fun h1 => (G111_793  _ _ _ _ _ hl3 h1)) (fun h1 => (G111_1056  _ _ _ _ _ hl3 h1)))
noncomputable def F111_784  (l0 : Nat) (l1 : Nat) (l2 : Nat) (l3 : Nat) (T : fS) : Option fR := (fKi true (fif (fch T l0 6) (F69_0 l0 1 1 T) none) (fun v0 T1 => F111_790  l0 l1 l2 l3 v0 T1))
theorem G111_784 {z : Option mm_O} {T : fS} {r : fR}  (l0 : Nat) (l1 : Nat) (l2 : Nat) (xl3 : Int32) (l3 : Nat) (hl3 : xl3 = nI l3) (h : F111_784  l0 l1 l2 l3 T = some r) : mm_L 111 784 [.ref l0, .ref l1, .ref l2, .int xl3] [] (toS z T) = some (tR z r) := by
  unfold F111_784 at h
  refine Eq.trans (e111_784 ..) ?_
  exact (fb_K0i (fun _ q => fb_mo (y := 69) ow_69 q (fun q => GM69 _ _ _ (rfl : (1 : Int32) = nI 1) _ _ (rfl : (1 : Int32) = nI 1) q)) h (fun v0 T1 h2 => G111_790  _ _ _ _ _ hl3 _ _ rfl h2))
noncomputable def F111_781  (l0 : Nat) (l1 : Nat) (l2 : Nat) (l3 : Nat) (s0 : Nat) (T : fS) : Option fR := (fif (ieq s0 0) (F111_784  l0 l1 l2 l3 T) (F111_1056  l0 l1 l2 l3 T))
theorem G111_781 {z : Option mm_O} {T : fS} {r : fR}  (l0 : Nat) (l1 : Nat) (l2 : Nat) (xl3 : Int32) (l3 : Nat) (hl3 : xl3 = nI l3) (xs0 : Int32) (s0 : Nat) (hs0 : xs0 = nI s0) (h : F111_781  l0 l1 l2 l3 s0 T = some r) : mm_L 111 781 [.ref l0, .ref l1, .ref l2, .int xl3] [.int xs0] (toS z T) = some (tR z r) := by
  unfold F111_781 at h
  refine Eq.trans (e111_781 ..) ?_
  exact (fb_if (cj_eq hs0 (rfl : (0 : Int32) = nI 0)) h (fun h1 => (G111_784  _ _ _ _ _ hl3 h1)) (fun h1 => (G111_1056  _ _ _ _ _ hl3 h1)))
noncomputable def F111_775  (l0 : Nat) (l1 : Nat) (l2 : Nat) (l3 : Nat) (T : fS) : Option fR := (fKi true (fif (fch T l0 6) (F69_0 l0 0 1 T) none) (fun v0 T1 => F111_781  l0 l1 l2 l3 v0 T1))
theorem G111_775 {z : Option mm_O} {T : fS} {r : fR}  (l0 : Nat) (l1 : Nat) (l2 : Nat) (xl3 : Int32) (l3 : Nat) (hl3 : xl3 = nI l3) (h : F111_775  l0 l1 l2 l3 T = some r) : mm_L 111 775 [.ref l0, .ref l1, .ref l2, .int xl3] [] (toS z T) = some (tR z r) := by
  unfold F111_775 at h
  refine Eq.trans (e111_775 ..) ?_
  exact (fb_K0i (fun _ q => fb_mo (y := 69) ow_69 q (fun q => GM69 _ _ _ (rfl : (0 : Int32) = nI 0) _ _ (rfl : (1 : Int32) = nI 1) q)) h (fun v0 T1 h2 => G111_781  _ _ _ _ _ hl3 _ _ rfl h2))
noncomputable def F111_771  (l0 : Nat) (l1 : Nat) (l2 : Nat) (l3 : Nat) (s0 : Nat) (T : fS) : Option fR := (fif (ieq s0 2) (F111_775  l0 l1 l2 l3 T) (F111_1056  l0 l1 l2 l3 T))
theorem G111_771 {z : Option mm_O} {T : fS} {r : fR}  (l0 : Nat) (l1 : Nat) (l2 : Nat) (xl3 : Int32) (l3 : Nat) (hl3 : xl3 = nI l3) (xs0 : Int32) (s0 : Nat) (hs0 : xs0 = nI s0) (h : F111_771  l0 l1 l2 l3 s0 T = some r) : mm_L 111 771 [.ref l0, .ref l1, .ref l2, .int xl3] [.int xs0] (toS z T) = some (tR z r) := by
  unfold F111_771 at h
  refine Eq.trans (e111_771 ..) ?_
  exact (fb_if (cj_eq hs0 (rfl : (2 : Int32) = nI 2)) h (fun h1 => (G111_775  _ _ _ _ _ hl3 h1)) (fun h1 => (G111_1056  _ _ _ _ _ hl3 h1)))
noncomputable def F111_765  (l0 : Nat) (l1 : Nat) (l2 : Nat) (l3 : Nat) (T : fS) : Option fR := (fKi true (fif (fch T l0 6) (F68_0 l0 3 4 T) none) (fun v0 T1 => F111_771  l0 l1 l2 l3 v0 T1))
theorem G111_765 {z : Option mm_O} {T : fS} {r : fR}  (l0 : Nat) (l1 : Nat) (l2 : Nat) (xl3 : Int32) (l3 : Nat) (hl3 : xl3 = nI l3) (h : F111_765  l0 l1 l2 l3 T = some r) : mm_L 111 765 [.ref l0, .ref l1, .ref l2, .int xl3] [] (toS z T) = some (tR z r) := by
  unfold F111_765 at h
  refine Eq.trans (e111_765 ..) ?_
  exact (fb_K0i (fun _ q => fb_mo (y := 68) ow_68 q (fun q => GM68 _ _ _ (rfl : (3 : Int32) = nI 3) _ _ (rfl : (4 : Int32) = nI 4) q)) h (fun v0 T1 h2 => G111_771  _ _ _ _ _ hl3 _ _ rfl h2))
noncomputable def F111_761  (l0 : Nat) (l1 : Nat) (l2 : Nat) (l3 : Nat) (s0 : Nat) (T : fS) : Option fR := (fif (ieq s0 1) (F111_765  l0 l1 l2 l3 T) (F111_1056  l0 l1 l2 l3 T))
theorem G111_761 {z : Option mm_O} {T : fS} {r : fR}  (l0 : Nat) (l1 : Nat) (l2 : Nat) (xl3 : Int32) (l3 : Nat) (hl3 : xl3 = nI l3) (xs0 : Int32) (s0 : Nat) (hs0 : xs0 = nI s0) (h : F111_761  l0 l1 l2 l3 s0 T = some r) : mm_L 111 761 [.ref l0, .ref l1, .ref l2, .int xl3] [.int xs0] (toS z T) = some (tR z r) := by
  unfold F111_761 at h
  refine Eq.trans (e111_761 ..) ?_
  exact (fb_if (cj_eq hs0 (rfl : (1 : Int32) = nI 1)) h (fun h1 => (G111_765  _ _ _ _ _ hl3 h1)) (fun h1 => (G111_1056  _ _ _ _ _ hl3 h1)))
noncomputable def F111_755  (l0 : Nat) (l1 : Nat) (l2 : Nat) (l3 : Nat) (T : fS) : Option fR := (fKi true (fif (fch T l0 6) (F68_0 l0 3 5 T) none) (fun v0 T1 => F111_761  l0 l1 l2 l3 v0 T1))
theorem G111_755 {z : Option mm_O} {T : fS} {r : fR}  (l0 : Nat) (l1 : Nat) (l2 : Nat) (xl3 : Int32) (l3 : Nat) (hl3 : xl3 = nI l3) (h : F111_755  l0 l1 l2 l3 T = some r) : mm_L 111 755 [.ref l0, .ref l1, .ref l2, .int xl3] [] (toS z T) = some (tR z r) := by
  unfold F111_755 at h
  refine Eq.trans (e111_755 ..) ?_
  exact (fb_K0i (fun _ q => fb_mo (y := 68) ow_68 q (fun q => GM68 _ _ _ (rfl : (3 : Int32) = nI 3) _ _ (rfl : (5 : Int32) = nI 5) q)) h (fun v0 T1 h2 => G111_761  _ _ _ _ _ hl3 _ _ rfl h2))
noncomputable def F111_751  (l0 : Nat) (l1 : Nat) (l2 : Nat) (l3 : Nat) (s0 : Nat) (T : fS) : Option fR := (fif (ieq s0 5) (F111_755  l0 l1 l2 l3 T) (F111_1056  l0 l1 l2 l3 T))
theorem G111_751 {z : Option mm_O} {T : fS} {r : fR}  (l0 : Nat) (l1 : Nat) (l2 : Nat) (xl3 : Int32) (l3 : Nat) (hl3 : xl3 = nI l3) (xs0 : Int32) (s0 : Nat) (hs0 : xs0 = nI s0) (h : F111_751  l0 l1 l2 l3 s0 T = some r) : mm_L 111 751 [.ref l0, .ref l1, .ref l2, .int xl3] [.int xs0] (toS z T) = some (tR z r) := by
  unfold F111_751 at h
  refine Eq.trans (e111_751 ..) ?_
  exact (fb_if (cj_eq hs0 (rfl : (5 : Int32) = nI 5)) h (fun h1 => (G111_755  _ _ _ _ _ hl3 h1)) (fun h1 => (G111_1056  _ _ _ _ _ hl3 h1)))
noncomputable def F111_745  (l0 : Nat) (l1 : Nat) (l2 : Nat) (l3 : Nat) (T : fS) : Option fR := (fKi true (fif (fch T l0 6) (F68_0 l0 3 2 T) none) (fun v0 T1 => F111_751  l0 l1 l2 l3 v0 T1))
theorem G111_745 {z : Option mm_O} {T : fS} {r : fR}  (l0 : Nat) (l1 : Nat) (l2 : Nat) (xl3 : Int32) (l3 : Nat) (hl3 : xl3 = nI l3) (h : F111_745  l0 l1 l2 l3 T = some r) : mm_L 111 745 [.ref l0, .ref l1, .ref l2, .int xl3] [] (toS z T) = some (tR z r) := by
  unfold F111_745 at h
  refine Eq.trans (e111_745 ..) ?_
  exact (fb_K0i (fun _ q => fb_mo (y := 68) ow_68 q (fun q => GM68 _ _ _ (rfl : (3 : Int32) = nI 3) _ _ (rfl : (2 : Int32) = nI 2) q)) h (fun v0 T1 h2 => G111_751  _ _ _ _ _ hl3 _ _ rfl h2))
noncomputable def F111_741  (l0 : Nat) (l1 : Nat) (l2 : Nat) (l3 : Nat) (s0 : Nat) (T : fS) : Option fR := (fif (ieq s0 3) (F111_745  l0 l1 l2 l3 T) (F111_1056  l0 l1 l2 l3 T))
theorem G111_741 {z : Option mm_O} {T : fS} {r : fR}  (l0 : Nat) (l1 : Nat) (l2 : Nat) (xl3 : Int32) (l3 : Nat) (hl3 : xl3 = nI l3) (xs0 : Int32) (s0 : Nat) (hs0 : xs0 = nI s0) (h : F111_741  l0 l1 l2 l3 s0 T = some r) : mm_L 111 741 [.ref l0, .ref l1, .ref l2, .int xl3] [.int xs0] (toS z T) = some (tR z r) := by
  unfold F111_741 at h
  refine Eq.trans (e111_741 ..) ?_
  exact (fb_if (cj_eq hs0 (rfl : (3 : Int32) = nI 3)) h (fun h1 => (G111_745  _ _ _ _ _ hl3 h1)) (fun h1 => (G111_1056  _ _ _ _ _ hl3 h1)))
noncomputable def F111_735  (l0 : Nat) (l1 : Nat) (l2 : Nat) (l3 : Nat) (T : fS) : Option fR := (fKi true (fif (fch T l0 6) (F68_0 l0 3 1 T) none) (fun v0 T1 => F111_741  l0 l1 l2 l3 v0 T1))
theorem G111_735 {z : Option mm_O} {T : fS} {r : fR}  (l0 : Nat) (l1 : Nat) (l2 : Nat) (xl3 : Int32) (l3 : Nat) (hl3 : xl3 = nI l3) (h : F111_735  l0 l1 l2 l3 T = some r) : mm_L 111 735 [.ref l0, .ref l1, .ref l2, .int xl3] [] (toS z T) = some (tR z r) := by
  unfold F111_735 at h
  refine Eq.trans (e111_735 ..) ?_
  exact (fb_K0i (fun _ q => fb_mo (y := 68) ow_68 q (fun q => GM68 _ _ _ (rfl : (3 : Int32) = nI 3) _ _ (rfl : (1 : Int32) = nI 1) q)) h (fun v0 T1 h2 => G111_741  _ _ _ _ _ hl3 _ _ rfl h2))
noncomputable def F111_730  (l0 : Nat) (l1 : Nat) (l2 : Nat) (l3 : Nat) (s0 : Nat) (T : fS) : Option fR := (fif (ieq s0 36) (F111_735  l0 l1 l2 l3 T) (F111_1056  l0 l1 l2 l3 T))
theorem G111_730 {z : Option mm_O} {T : fS} {r : fR}  (l0 : Nat) (l1 : Nat) (l2 : Nat) (xl3 : Int32) (l3 : Nat) (hl3 : xl3 = nI l3) (xs0 : Int32) (s0 : Nat) (hs0 : xs0 = nI s0) (h : F111_730  l0 l1 l2 l3 s0 T = some r) : mm_L 111 730 [.ref l0, .ref l1, .ref l2, .int xl3] [.int xs0] (toS z T) = some (tR z r) := by
  unfold F111_730 at h
  refine Eq.trans (e111_730 ..) ?_
  exact (fb_if (cj_eq hs0 (rfl : (36 : Int32) = nI 36)) h (fun h1 => (G111_735  _ _ _ _ _ hl3 h1)) (fun h1 => (G111_1056  _ _ _ _ _ hl3 h1)))
noncomputable def F111_722  (l0 : Nat) (l1 : Nat) (l2 : Nat) (l3 : Nat) (T : fS) : Option fR := (fKi true (fif (fch T l0 6) (F68_0 l0 6 6 T) none) (fun v0 T1 => F111_730  l0 l1 l2 l3 v0 T1))
theorem G111_722 {z : Option mm_O} {T : fS} {r : fR}  (l0 : Nat) (l1 : Nat) (l2 : Nat) (xl3 : Int32) (l3 : Nat) (hl3 : xl3 = nI l3) (h : F111_722  l0 l1 l2 l3 T = some r) : mm_L 111 722 [.ref l0, .ref l1, .ref l2, .int xl3] [] (toS z T) = some (tR z r) := by
  unfold F111_722 at h
  refine Eq.trans (e111_722 ..) ?_
  exact (fb_K0i (fun _ q => fb_mo (y := 68) ow_68 q (fun q => GM68 _ _ _ (rfl : (6 : Int32) = nI 6) _ _ (rfl : (6 : Int32) = nI 6) q)) h (fun v0 T1 h2 => G111_730  _ _ _ _ _ hl3 _ _ rfl h2))
noncomputable def F111_717  (l0 : Nat) (l1 : Nat) (l2 : Nat) (l3 : Nat) (s0 : Nat) (T : fS) : Option fR := (fif (ieq s0 39) (F111_722  l0 l1 l2 l3 T) (F111_1056  l0 l1 l2 l3 T))
theorem G111_717 {z : Option mm_O} {T : fS} {r : fR}  (l0 : Nat) (l1 : Nat) (l2 : Nat) (xl3 : Int32) (l3 : Nat) (hl3 : xl3 = nI l3) (xs0 : Int32) (s0 : Nat) (hs0 : xs0 = nI s0) (h : F111_717  l0 l1 l2 l3 s0 T = some r) : mm_L 111 717 [.ref l0, .ref l1, .ref l2, .int xl3] [.int xs0] (toS z T) = some (tR z r) := by
  unfold F111_717 at h
  refine Eq.trans (e111_717 ..) ?_
  exact (fb_if (cj_eq hs0 (rfl : (39 : Int32) = nI 39)) h (fun h1 => (G111_722  _ _ _ _ _ hl3 h1)) (fun h1 => (G111_1056  _ _ _ _ _ hl3 h1)))
noncomputable def F111_709  (l0 : Nat) (l1 : Nat) (l2 : Nat) (l3 : Nat) (T : fS) : Option fR := (fKi true (fif (fch T l0 6) (F68_0 l0 6 8 T) none) (fun v0 T1 => F111_717  l0 l1 l2 l3 v0 T1))
theorem G111_709 {z : Option mm_O} {T : fS} {r : fR}  (l0 : Nat) (l1 : Nat) (l2 : Nat) (xl3 : Int32) (l3 : Nat) (hl3 : xl3 = nI l3) (h : F111_709  l0 l1 l2 l3 T = some r) : mm_L 111 709 [.ref l0, .ref l1, .ref l2, .int xl3] [] (toS z T) = some (tR z r) := by
  unfold F111_709 at h
  refine Eq.trans (e111_709 ..) ?_
  exact (fb_K0i (fun _ q => fb_mo (y := 68) ow_68 q (fun q => GM68 _ _ _ (rfl : (6 : Int32) = nI 6) _ _ (rfl : (8 : Int32) = nI 8) q)) h (fun v0 T1 h2 => G111_717  _ _ _ _ _ hl3 _ _ rfl h2))
noncomputable def F111_704  (l0 : Nat) (l1 : Nat) (l2 : Nat) (l3 : Nat) (s0 : Nat) (T : fS) : Option fR := (fif (ieq s0 36) (F111_709  l0 l1 l2 l3 T) (F111_1056  l0 l1 l2 l3 T))
theorem G111_704 {z : Option mm_O} {T : fS} {r : fR}  (l0 : Nat) (l1 : Nat) (l2 : Nat) (xl3 : Int32) (l3 : Nat) (hl3 : xl3 = nI l3) (xs0 : Int32) (s0 : Nat) (hs0 : xs0 = nI s0) (h : F111_704  l0 l1 l2 l3 s0 T = some r) : mm_L 111 704 [.ref l0, .ref l1, .ref l2, .int xl3] [.int xs0] (toS z T) = some (tR z r) := by
  unfold F111_704 at h
  refine Eq.trans (e111_704 ..) ?_
  exact (fb_if (cj_eq hs0 (rfl : (36 : Int32) = nI 36)) h (fun h1 => (G111_709  _ _ _ _ _ hl3 h1)) (fun h1 => (G111_1056  _ _ _ _ _ hl3 h1)))
noncomputable def F111_700  (l0 : Nat) (l1 : Nat) (l2 : Nat) (l3 : Nat) (T : fS) : Option fR := (fbn (fal T l2 6 false) (fun v0 => F111_704  l0 l1 l2 l3 v0 T))
theorem G111_700 {z : Option mm_O} {T : fS} {r : fR}  (l0 : Nat) (l1 : Nat) (l2 : Nat) (xl3 : Int32) (l3 : Nat) (hl3 : xl3 = nI l3) (h : F111_700  l0 l1 l2 l3 T = some r) : mm_L 111 700 [.ref l0, .ref l1, .ref l2, .int xl3] [] (toS z T) = some (tR z r) := by
  unfold F111_700 at h
  refine Eq.trans (e111_700 ..) ?_
  exact (fb_n (fun _ q => by rw [(rfl : (6 : Int32) = nI 6)]; exact fal_ok q) h (fun v0 h2 => G111_704  _ _ _ _ _ hl3 _ _ rfl h2))
noncomputable def F111_695  (l0 : Nat) (l1 : Nat) (l2 : Nat) (l3 : Nat) (s0 : Nat) (T : fS) : Option fR := (fif (ieq s0 36) (F111_700  l0 l1 l2 l3 T) (F111_1056  l0 l1 l2 l3 T))
theorem G111_695 {z : Option mm_O} {T : fS} {r : fR}  (l0 : Nat) (l1 : Nat) (l2 : Nat) (xl3 : Int32) (l3 : Nat) (hl3 : xl3 = nI l3) (xs0 : Int32) (s0 : Nat) (hs0 : xs0 = nI s0) (h : F111_695  l0 l1 l2 l3 s0 T = some r) : mm_L 111 695 [.ref l0, .ref l1, .ref l2, .int xl3] [.int xs0] (toS z T) = some (tR z r) := by
  unfold F111_695 at h
  refine Eq.trans (e111_695 ..) ?_
  exact (fb_if (cj_eq hs0 (rfl : (36 : Int32) = nI 36)) h (fun h1 => (G111_700  _ _ _ _ _ hl3 h1)) (fun h1 => (G111_1056  _ _ _ _ _ hl3 h1)))
noncomputable def F111_691  (l0 : Nat) (l1 : Nat) (l2 : Nat) (l3 : Nat) (T : fS) : Option fR := (fbn (fal T l1 6 false) (fun v0 => F111_695  l0 l1 l2 l3 v0 T))
theorem G111_691 {z : Option mm_O} {T : fS} {r : fR}  (l0 : Nat) (l1 : Nat) (l2 : Nat) (xl3 : Int32) (l3 : Nat) (hl3 : xl3 = nI l3) (h : F111_691  l0 l1 l2 l3 T = some r) : mm_L 111 691 [.ref l0, .ref l1, .ref l2, .int xl3] [] (toS z T) = some (tR z r) := by
  unfold F111_691 at h
  refine Eq.trans (e111_691 ..) ?_
  exact (fb_n (fun _ q => by rw [(rfl : (6 : Int32) = nI 6)]; exact fal_ok q) h (fun v0 h2 => G111_695  _ _ _ _ _ hl3 _ _ rfl h2))
noncomputable def F111_686  (l0 : Nat) (l1 : Nat) (l2 : Nat) (l3 : Nat) (s0 : Nat) (T : fS) : Option fR := (fif (ieq s0 33) (F111_691  l0 l1 l2 l3 T) (F111_1056  l0 l1 l2 l3 T))
theorem G111_686 {z : Option mm_O} {T : fS} {r : fR}  (l0 : Nat) (l1 : Nat) (l2 : Nat) (xl3 : Int32) (l3 : Nat) (hl3 : xl3 = nI l3) (xs0 : Int32) (s0 : Nat) (hs0 : xs0 = nI s0) (h : F111_686  l0 l1 l2 l3 s0 T = some r) : mm_L 111 686 [.ref l0, .ref l1, .ref l2, .int xl3] [.int xs0] (toS z T) = some (tR z r) := by
  unfold F111_686 at h
  refine Eq.trans (e111_686 ..) ?_
  exact (fb_if (cj_eq hs0 (rfl : (33 : Int32) = nI 33)) h (fun h1 => (G111_691  _ _ _ _ _ hl3 h1)) (fun h1 => (G111_1056  _ _ _ _ _ hl3 h1)))
noncomputable def F111_683  (l0 : Nat) (l1 : Nat) (l2 : Nat) (l3 : Nat) (T : fS) : Option fR := (fbn (fal T l2 5 false) (fun v0 => F111_686  l0 l1 l2 l3 v0 T))
theorem G111_683 {z : Option mm_O} {T : fS} {r : fR}  (l0 : Nat) (l1 : Nat) (l2 : Nat) (xl3 : Int32) (l3 : Nat) (hl3 : xl3 = nI l3) (h : F111_683  l0 l1 l2 l3 T = some r) : mm_L 111 683 [.ref l0, .ref l1, .ref l2, .int xl3] [] (toS z T) = some (tR z r) := by
  unfold F111_683 at h
  refine Eq.trans (e111_683 ..) ?_
  exact (fb_n (fun _ q => by rw [(rfl : (5 : Int32) = nI 5)]; exact fal_ok q) h (fun v0 h2 => G111_686  _ _ _ _ _ hl3 _ _ rfl h2))
noncomputable def F111_678  (l0 : Nat) (l1 : Nat) (l2 : Nat) (l3 : Nat) (s0 : Nat) (T : fS) : Option fR := (fif (ieq s0 32) (F111_683  l0 l1 l2 l3 T) (F111_1056  l0 l1 l2 l3 T))
theorem G111_678 {z : Option mm_O} {T : fS} {r : fR}  (l0 : Nat) (l1 : Nat) (l2 : Nat) (xl3 : Int32) (l3 : Nat) (hl3 : xl3 = nI l3) (xs0 : Int32) (s0 : Nat) (hs0 : xs0 = nI s0) (h : F111_678  l0 l1 l2 l3 s0 T = some r) : mm_L 111 678 [.ref l0, .ref l1, .ref l2, .int xl3] [.int xs0] (toS z T) = some (tR z r) := by
  unfold F111_678 at h
  refine Eq.trans (e111_678 ..) ?_
  exact (fb_if (cj_eq hs0 (rfl : (32 : Int32) = nI 32)) h (fun h1 => (G111_683  _ _ _ _ _ hl3 h1)) (fun h1 => (G111_1056  _ _ _ _ _ hl3 h1)))
noncomputable def F111_675  (l0 : Nat) (l1 : Nat) (l2 : Nat) (l3 : Nat) (T : fS) : Option fR := (fbn (fal T l1 5 false) (fun v0 => F111_678  l0 l1 l2 l3 v0 T))
theorem G111_675 {z : Option mm_O} {T : fS} {r : fR}  (l0 : Nat) (l1 : Nat) (l2 : Nat) (xl3 : Int32) (l3 : Nat) (hl3 : xl3 = nI l3) (h : F111_675  l0 l1 l2 l3 T = some r) : mm_L 111 675 [.ref l0, .ref l1, .ref l2, .int xl3] [] (toS z T) = some (tR z r) := by
  unfold F111_675 at h
  refine Eq.trans (e111_675 ..) ?_
  exact (fb_n (fun _ q => by rw [(rfl : (5 : Int32) = nI 5)]; exact fal_ok q) h (fun v0 h2 => G111_678  _ _ _ _ _ hl3 _ _ rfl h2))
noncomputable def F111_670  (l0 : Nat) (l1 : Nat) (l2 : Nat) (l3 : Nat) (s0 : Nat) (T : fS) : Option fR := (fif (ieq s0 29) (F111_675  l0 l1 l2 l3 T) (F111_1056  l0 l1 l2 l3 T))
theorem G111_670 {z : Option mm_O} {T : fS} {r : fR}  (l0 : Nat) (l1 : Nat) (l2 : Nat) (xl3 : Int32) (l3 : Nat) (hl3 : xl3 = nI l3) (xs0 : Int32) (s0 : Nat) (hs0 : xs0 = nI s0) (h : F111_670  l0 l1 l2 l3 s0 T = some r) : mm_L 111 670 [.ref l0, .ref l1, .ref l2, .int xl3] [.int xs0] (toS z T) = some (tR z r) := by
  unfold F111_670 at h
  refine Eq.trans (e111_670 ..) ?_
  exact (fb_if (cj_eq hs0 (rfl : (29 : Int32) = nI 29)) h (fun h1 => (G111_675  _ _ _ _ _ hl3 h1)) (fun h1 => (G111_1056  _ _ _ _ _ hl3 h1)))
noncomputable def F111_667  (l0 : Nat) (l1 : Nat) (l2 : Nat) (l3 : Nat) (T : fS) : Option fR := (fbn (fal T l2 4 false) (fun v0 => F111_670  l0 l1 l2 l3 v0 T))
theorem G111_667 {z : Option mm_O} {T : fS} {r : fR}  (l0 : Nat) (l1 : Nat) (l2 : Nat) (xl3 : Int32) (l3 : Nat) (hl3 : xl3 = nI l3) (h : F111_667  l0 l1 l2 l3 T = some r) : mm_L 111 667 [.ref l0, .ref l1, .ref l2, .int xl3] [] (toS z T) = some (tR z r) := by
  unfold F111_667 at h
  refine Eq.trans (e111_667 ..) ?_
  exact (fb_n (fun _ q => by rw [(rfl : (4 : Int32) = nI 4)]; exact fal_ok q) h (fun v0 h2 => G111_670  _ _ _ _ _ hl3 _ _ rfl h2))
noncomputable def F111_662  (l0 : Nat) (l1 : Nat) (l2 : Nat) (l3 : Nat) (s0 : Nat) (T : fS) : Option fR := (fif (ieq s0 27) (F111_667  l0 l1 l2 l3 T) (F111_1056  l0 l1 l2 l3 T))
theorem G111_662 {z : Option mm_O} {T : fS} {r : fR}  (l0 : Nat) (l1 : Nat) (l2 : Nat) (xl3 : Int32) (l3 : Nat) (hl3 : xl3 = nI l3) (xs0 : Int32) (s0 : Nat) (hs0 : xs0 = nI s0) (h : F111_662  l0 l1 l2 l3 s0 T = some r) : mm_L 111 662 [.ref l0, .ref l1, .ref l2, .int xl3] [.int xs0] (toS z T) = some (tR z r) := by
  unfold F111_662 at h
  refine Eq.trans (e111_662 ..) ?_
  exact (fb_if (cj_eq hs0 (rfl : (27 : Int32) = nI 27)) h (fun h1 => (G111_667  _ _ _ _ _ hl3 h1)) (fun h1 => (G111_1056  _ _ _ _ _ hl3 h1)))
noncomputable def F111_659  (l0 : Nat) (l1 : Nat) (l2 : Nat) (l3 : Nat) (T : fS) : Option fR := (fbn (fal T l1 4 false) (fun v0 => F111_662  l0 l1 l2 l3 v0 T))
theorem G111_659 {z : Option mm_O} {T : fS} {r : fR}  (l0 : Nat) (l1 : Nat) (l2 : Nat) (xl3 : Int32) (l3 : Nat) (hl3 : xl3 = nI l3) (h : F111_659  l0 l1 l2 l3 T = some r) : mm_L 111 659 [.ref l0, .ref l1, .ref l2, .int xl3] [] (toS z T) = some (tR z r) := by
  unfold F111_659 at h
  refine Eq.trans (e111_659 ..) ?_
  exact (fb_n (fun _ q => by rw [(rfl : (4 : Int32) = nI 4)]; exact fal_ok q) h (fun v0 h2 => G111_662  _ _ _ _ _ hl3 _ _ rfl h2))
noncomputable def F111_654  (l0 : Nat) (l1 : Nat) (l2 : Nat) (l3 : Nat) (s0 : Nat) (T : fS) : Option fR := (fif (ieq s0 21) (F111_659  l0 l1 l2 l3 T) (F111_1056  l0 l1 l2 l3 T))
theorem G111_654 {z : Option mm_O} {T : fS} {r : fR}  (l0 : Nat) (l1 : Nat) (l2 : Nat) (xl3 : Int32) (l3 : Nat) (hl3 : xl3 = nI l3) (xs0 : Int32) (s0 : Nat) (hs0 : xs0 = nI s0) (h : F111_654  l0 l1 l2 l3 s0 T = some r) : mm_L 111 654 [.ref l0, .ref l1, .ref l2, .int xl3] [.int xs0] (toS z T) = some (tR z r) := by
  unfold F111_654 at h
  refine Eq.trans (e111_654 ..) ?_
  exact (fb_if (cj_eq hs0 (rfl : (21 : Int32) = nI 21)) h (fun h1 => (G111_659  _ _ _ _ _ hl3 h1)) (fun h1 => (G111_1056  _ _ _ _ _ hl3 h1)))
noncomputable def F111_651  (l0 : Nat) (l1 : Nat) (l2 : Nat) (l3 : Nat) (T : fS) : Option fR := (fbn (fal T l2 3 false) (fun v0 => F111_654  l0 l1 l2 l3 v0 T))
theorem G111_651 {z : Option mm_O} {T : fS} {r : fR}  (l0 : Nat) (l1 : Nat) (l2 : Nat) (xl3 : Int32) (l3 : Nat) (hl3 : xl3 = nI l3) (h : F111_651  l0 l1 l2 l3 T = some r) : mm_L 111 651 [.ref l0, .ref l1, .ref l2, .int xl3] [] (toS z T) = some (tR z r) := by
  unfold F111_651 at h
  refine Eq.trans (e111_651 ..) ?_
  exact (fb_n (fun _ q => by rw [(rfl : (3 : Int32) = nI 3)]; exact fal_ok q) h (fun v0 h2 => G111_654  _ _ _ _ _ hl3 _ _ rfl h2))
noncomputable def F111_646  (l0 : Nat) (l1 : Nat) (l2 : Nat) (l3 : Nat) (s0 : Nat) (T : fS) : Option fR := (fif (ieq s0 19) (F111_651  l0 l1 l2 l3 T) (F111_1056  l0 l1 l2 l3 T))
theorem G111_646 {z : Option mm_O} {T : fS} {r : fR}  (l0 : Nat) (l1 : Nat) (l2 : Nat) (xl3 : Int32) (l3 : Nat) (hl3 : xl3 = nI l3) (xs0 : Int32) (s0 : Nat) (hs0 : xs0 = nI s0) (h : F111_646  l0 l1 l2 l3 s0 T = some r) : mm_L 111 646 [.ref l0, .ref l1, .ref l2, .int xl3] [.int xs0] (toS z T) = some (tR z r) := by
  unfold F111_646 at h
  refine Eq.trans (e111_646 ..) ?_
  exact (fb_if (cj_eq hs0 (rfl : (19 : Int32) = nI 19)) h (fun h1 => (G111_651  _ _ _ _ _ hl3 h1)) (fun h1 => (G111_1056  _ _ _ _ _ hl3 h1)))
noncomputable def F111_643  (l0 : Nat) (l1 : Nat) (l2 : Nat) (l3 : Nat) (T : fS) : Option fR := (fbn (fal T l1 3 false) (fun v0 => F111_646  l0 l1 l2 l3 v0 T))
theorem G111_643 {z : Option mm_O} {T : fS} {r : fR}  (l0 : Nat) (l1 : Nat) (l2 : Nat) (xl3 : Int32) (l3 : Nat) (hl3 : xl3 = nI l3) (h : F111_643  l0 l1 l2 l3 T = some r) : mm_L 111 643 [.ref l0, .ref l1, .ref l2, .int xl3] [] (toS z T) = some (tR z r) := by
  unfold F111_643 at h
  refine Eq.trans (e111_643 ..) ?_
  exact (fb_n (fun _ q => by rw [(rfl : (3 : Int32) = nI 3)]; exact fal_ok q) h (fun v0 h2 => G111_646  _ _ _ _ _ hl3 _ _ rfl h2))
noncomputable def F111_638  (l0 : Nat) (l1 : Nat) (l2 : Nat) (l3 : Nat) (s0 : Nat) (T : fS) : Option fR := (fif (ieq s0 16) (F111_643  l0 l1 l2 l3 T) (F111_1056  l0 l1 l2 l3 T))
theorem G111_638 {z : Option mm_O} {T : fS} {r : fR}  (l0 : Nat) (l1 : Nat) (l2 : Nat) (xl3 : Int32) (l3 : Nat) (hl3 : xl3 = nI l3) (xs0 : Int32) (s0 : Nat) (hs0 : xs0 = nI s0) (h : F111_638  l0 l1 l2 l3 s0 T = some r) : mm_L 111 638 [.ref l0, .ref l1, .ref l2, .int xl3] [.int xs0] (toS z T) = some (tR z r) := by
  unfold F111_638 at h
  refine Eq.trans (e111_638 ..) ?_
  exact (fb_if (cj_eq hs0 (rfl : (16 : Int32) = nI 16)) h (fun h1 => (G111_643  _ _ _ _ _ hl3 h1)) (fun h1 => (G111_1056  _ _ _ _ _ hl3 h1)))
noncomputable def F111_635  (l0 : Nat) (l1 : Nat) (l2 : Nat) (l3 : Nat) (T : fS) : Option fR := (fbn (fal T l2 2 false) (fun v0 => F111_638  l0 l1 l2 l3 v0 T))
theorem G111_635 {z : Option mm_O} {T : fS} {r : fR}  (l0 : Nat) (l1 : Nat) (l2 : Nat) (xl3 : Int32) (l3 : Nat) (hl3 : xl3 = nI l3) (h : F111_635  l0 l1 l2 l3 T = some r) : mm_L 111 635 [.ref l0, .ref l1, .ref l2, .int xl3] [] (toS z T) = some (tR z r) := by
  unfold F111_635 at h
  refine Eq.trans (e111_635 ..) ?_
  exact (fb_n (fun _ q => by rw [(rfl : (2 : Int32) = nI 2)]; exact fal_ok q) h (fun v0 h2 => G111_638  _ _ _ _ _ hl3 _ _ rfl h2))
noncomputable def F111_630  (l0 : Nat) (l1 : Nat) (l2 : Nat) (l3 : Nat) (s0 : Nat) (T : fS) : Option fR := (fif (ieq s0 14) (F111_635  l0 l1 l2 l3 T) (F111_1056  l0 l1 l2 l3 T))
theorem G111_630 {z : Option mm_O} {T : fS} {r : fR}  (l0 : Nat) (l1 : Nat) (l2 : Nat) (xl3 : Int32) (l3 : Nat) (hl3 : xl3 = nI l3) (xs0 : Int32) (s0 : Nat) (hs0 : xs0 = nI s0) (h : F111_630  l0 l1 l2 l3 s0 T = some r) : mm_L 111 630 [.ref l0, .ref l1, .ref l2, .int xl3] [.int xs0] (toS z T) = some (tR z r) := by
  unfold F111_630 at h
  refine Eq.trans (e111_630 ..) ?_
  exact (fb_if (cj_eq hs0 (rfl : (14 : Int32) = nI 14)) h (fun h1 => (G111_635  _ _ _ _ _ hl3 h1)) (fun h1 => (G111_1056  _ _ _ _ _ hl3 h1)))
noncomputable def F111_627  (l0 : Nat) (l1 : Nat) (l2 : Nat) (l3 : Nat) (T : fS) : Option fR := (fbn (fal T l1 2 false) (fun v0 => F111_630  l0 l1 l2 l3 v0 T))
theorem G111_627 {z : Option mm_O} {T : fS} {r : fR}  (l0 : Nat) (l1 : Nat) (l2 : Nat) (xl3 : Int32) (l3 : Nat) (hl3 : xl3 = nI l3) (h : F111_627  l0 l1 l2 l3 T = some r) : mm_L 111 627 [.ref l0, .ref l1, .ref l2, .int xl3] [] (toS z T) = some (tR z r) := by
  unfold F111_627 at h
  refine Eq.trans (e111_627 ..) ?_
  exact (fb_n (fun _ q => by rw [(rfl : (2 : Int32) = nI 2)]; exact fal_ok q) h (fun v0 h2 => G111_630  _ _ _ _ _ hl3 _ _ rfl h2))
noncomputable def F111_622  (l0 : Nat) (l1 : Nat) (l2 : Nat) (l3 : Nat) (s0 : Nat) (T : fS) : Option fR := (fif (ieq s0 11) (F111_627  l0 l1 l2 l3 T) (F111_1056  l0 l1 l2 l3 T))
theorem G111_622 {z : Option mm_O} {T : fS} {r : fR}  (l0 : Nat) (l1 : Nat) (l2 : Nat) (xl3 : Int32) (l3 : Nat) (hl3 : xl3 = nI l3) (xs0 : Int32) (s0 : Nat) (hs0 : xs0 = nI s0) (h : F111_622  l0 l1 l2 l3 s0 T = some r) : mm_L 111 622 [.ref l0, .ref l1, .ref l2, .int xl3] [.int xs0] (toS z T) = some (tR z r) := by
  unfold F111_622 at h
  refine Eq.trans (e111_622 ..) ?_
  exact (fb_if (cj_eq hs0 (rfl : (11 : Int32) = nI 11)) h (fun h1 => (G111_627  _ _ _ _ _ hl3 h1)) (fun h1 => (G111_1056  _ _ _ _ _ hl3 h1)))
noncomputable def F111_619  (l0 : Nat) (l1 : Nat) (l2 : Nat) (l3 : Nat) (T : fS) : Option fR := (fbn (fal T l2 1 false) (fun v0 => F111_622  l0 l1 l2 l3 v0 T))
theorem G111_619 {z : Option mm_O} {T : fS} {r : fR}  (l0 : Nat) (l1 : Nat) (l2 : Nat) (xl3 : Int32) (l3 : Nat) (hl3 : xl3 = nI l3) (h : F111_619  l0 l1 l2 l3 T = some r) : mm_L 111 619 [.ref l0, .ref l1, .ref l2, .int xl3] [] (toS z T) = some (tR z r) := by
  unfold F111_619 at h
  refine Eq.trans (e111_619 ..) ?_
  exact (fb_n (fun _ q => by rw [(rfl : (1 : Int32) = nI 1)]; exact fal_ok q) h (fun v0 h2 => G111_622  _ _ _ _ _ hl3 _ _ rfl h2))
noncomputable def F111_614  (l0 : Nat) (l1 : Nat) (l2 : Nat) (l3 : Nat) (s0 : Nat) (T : fS) : Option fR := (fif (ieq s0 8) (F111_619  l0 l1 l2 l3 T) (F111_1056  l0 l1 l2 l3 T))
theorem G111_614 {z : Option mm_O} {T : fS} {r : fR}  (l0 : Nat) (l1 : Nat) (l2 : Nat) (xl3 : Int32) (l3 : Nat) (hl3 : xl3 = nI l3) (xs0 : Int32) (s0 : Nat) (hs0 : xs0 = nI s0) (h : F111_614  l0 l1 l2 l3 s0 T = some r) : mm_L 111 614 [.ref l0, .ref l1, .ref l2, .int xl3] [.int xs0] (toS z T) = some (tR z r) := by
  unfold F111_614 at h
  refine Eq.trans (e111_614 ..) ?_
  exact (fb_if (cj_eq hs0 (rfl : (8 : Int32) = nI 8)) h (fun h1 => (G111_619  _ _ _ _ _ hl3 h1)) (fun h1 => (G111_1056  _ _ _ _ _ hl3 h1)))
noncomputable def F111_611  (l0 : Nat) (l1 : Nat) (l2 : Nat) (l3 : Nat) (T : fS) : Option fR := (fbn (fal T l1 1 false) (fun v0 => F111_614  l0 l1 l2 l3 v0 T))
theorem G111_611 {z : Option mm_O} {T : fS} {r : fR}  (l0 : Nat) (l1 : Nat) (l2 : Nat) (xl3 : Int32) (l3 : Nat) (hl3 : xl3 = nI l3) (h : F111_611  l0 l1 l2 l3 T = some r) : mm_L 111 611 [.ref l0, .ref l1, .ref l2, .int xl3] [] (toS z T) = some (tR z r) := by
  unfold F111_611 at h
  refine Eq.trans (e111_611 ..) ?_
  exact (fb_n (fun _ q => by rw [(rfl : (1 : Int32) = nI 1)]; exact fal_ok q) h (fun v0 h2 => G111_614  _ _ _ _ _ hl3 _ _ rfl h2))
noncomputable def F111_589 (k589 : Nat → Nat → Nat → Nat → fS → Option fR) (l0 : Nat) (l1 : Nat) (l2 : Nat) (l3 : Nat) (T : fS) : Option fR := (fif (ile 7 l3) (F111_611  l0 l1 l2 l3 T) (F111_595 k589 l0 l1 l2 l3 T))
theorem G111_589 {z : Option mm_O} {T : fS} {r : fR} (k589 : Nat → Nat → Nat → Nat → fS → Option fR) (hk589 : ∀ (l0 : Nat) (l1 : Nat) (l2 : Nat) (xl3 : Int32) (l3 : Nat) (hl3 : xl3 = nI l3) (T : fS) (r : fR), k589 l0 l1 l2 l3 T = some r → mm_L 111 589 [.ref l0, .ref l1, .ref l2, .int xl3] [] (toS z T) = some (tR z r)) (l0 : Nat) (l1 : Nat) (l2 : Nat) (xl3 : Int32) (l3 : Nat) (hl3 : xl3 = nI l3) (h : F111_589 k589 l0 l1 l2 l3 T = some r) : mm_L 111 589 [.ref l0, .ref l1, .ref l2, .int xl3] [] (toS z T) = some (tR z r) := by
  unfold F111_589 at h
  refine Eq.trans (e111_589 ..) ?_
  exact (fb_if (cj_le (rfl : (7 : Int32) = nI 7) hl3) h (fun h1 => (G111_611  _ _ _ _ _ hl3 h1)) (fun h1 => (G111_595 k589 hk589 _ _ _ _ _ hl3 h1)))
noncomputable def H111_589  (n : Nat) : Nat → Nat → Nat → Nat → fS → Option fR := Nat.rec (motive := fun _ => Nat → Nat → Nat → Nat → fS → Option fR) (fun _ _ _ _ _ => none) (fun _ ih => F111_589 ih) n
theorem HG111_589 {z : Option mm_O}  : ∀ (n : Nat) (l0 : Nat) (l1 : Nat) (l2 : Nat) (xl3 : Int32) (l3 : Nat) (hl3 : xl3 = nI l3) {T : fS} {r : fR}, H111_589  n l0 l1 l2 l3 T = some r → mm_L 111 589 [.ref l0, .ref l1, .ref l2, .int xl3] [] (toS z T) = some (tR z r) := by
  intro n
  induction n with
  | zero =>
    intro l0 l1 l2 xl3 l3 hl3 T r h
    exact fr_n h
  | succ n ih =>
    intro l0 l1 l2 xl3 l3 hl3 T r h
    exact G111_589 (H111_589  n) (fun l0 l1 l2 xl3 l3 hl3 T r h => ih l0 l1 l2 xl3 l3 hl3 h) l0 l1 l2 xl3 l3 hl3 h
noncomputable def F111_587  (l0 : Nat) (l1 : Nat) (l2 : Nat) (l3 : Nat) (T : fS) : Option fR := (H111_589  300 l0 l1 l2 0 T)
theorem G111_587 {z : Option mm_O} {T : fS} {r : fR}  (l0 : Nat) (l1 : Nat) (l2 : Nat) (xl3 : Int32) (l3 : Nat) (hl3 : xl3 = nI l3) (h : F111_587  l0 l1 l2 l3 T = some r) : mm_L 111 587 [.ref l0, .ref l1, .ref l2, .int xl3] [] (toS z T) = some (tR z r) := by
  unfold F111_587 at h
  refine Eq.trans (e111_587 ..) ?_
  exact (HG111_589  300 _ _ _ _ _ (rfl : (0 : Int32) = nI 0) h)
noncomputable def F111_563 (k563 : Nat → Nat → Nat → Nat → fS → Option fR) (l0 : Nat) (l1 : Nat) (l2 : Nat) (l3 : Nat) (T : fS) : Option fR := (fif (ile 7 l3) (F111_587  l0 l1 l2 l3 T) (F111_569 k563 l0 l1 l2 l3 T))
theorem G111_563 {z : Option mm_O} {T : fS} {r : fR} (k563 : Nat → Nat → Nat → Nat → fS → Option fR) (hk563 : ∀ (l0 : Nat) (l1 : Nat) (l2 : Nat) (xl3 : Int32) (l3 : Nat) (hl3 : xl3 = nI l3) (T : fS) (r : fR), k563 l0 l1 l2 l3 T = some r → mm_L 111 563 [.ref l0, .ref l1, .ref l2, .int xl3] [] (toS z T) = some (tR z r)) (l0 : Nat) (l1 : Nat) (l2 : Nat) (xl3 : Int32) (l3 : Nat) (hl3 : xl3 = nI l3) (h : F111_563 k563 l0 l1 l2 l3 T = some r) : mm_L 111 563 [.ref l0, .ref l1, .ref l2, .int xl3] [] (toS z T) = some (tR z r) := by
  unfold F111_563 at h
  refine Eq.trans (e111_563 ..) ?_
  exact (fb_if (cj_le (rfl : (7 : Int32) = nI 7) hl3) h (fun h1 => (G111_587  _ _ _ _ _ hl3 h1)) (fun h1 => (G111_569 k563 hk563 _ _ _ _ _ hl3 h1)))
noncomputable def H111_563  (n : Nat) : Nat → Nat → Nat → Nat → fS → Option fR := Nat.rec (motive := fun _ => Nat → Nat → Nat → Nat → fS → Option fR) (fun _ _ _ _ _ => none) (fun _ ih => F111_563 ih) n
theorem HG111_563 {z : Option mm_O}  : ∀ (n : Nat) (l0 : Nat) (l1 : Nat) (l2 : Nat) (xl3 : Int32) (l3 : Nat) (hl3 : xl3 = nI l3) {T : fS} {r : fR}, H111_563  n l0 l1 l2 l3 T = some r → mm_L 111 563 [.ref l0, .ref l1, .ref l2, .int xl3] [] (toS z T) = some (tR z r) := by
  intro n
  induction n with
  | zero =>
    intro l0 l1 l2 xl3 l3 hl3 T r h
    exact fr_n h
  | succ n ih =>
    intro l0 l1 l2 xl3 l3 hl3 T r h
    exact G111_563 (H111_563  n) (fun l0 l1 l2 xl3 l3 hl3 T r h => ih l0 l1 l2 xl3 l3 hl3 h) l0 l1 l2 xl3 l3 hl3 h
noncomputable def F111_551  (l0 : Nat) (T : fS) : Option fR := (fgd T (fgd (fnw T (.inr (.inl (0, 7, tqz 0 8)) : fO) 7) (H111_563  300 l0 T.2.1 (fnw T (.inr (.inl (0, 7, tqz 0 8)) : fO) 7).2.1 1 (fnw (fnw T (.inr (.inl (0, 7, tqz 0 8)) : fO) 7) (.inr (.inl (0, 7, tqz 0 8)) : fO) 7))))
theorem G111_551 {z : Option mm_O} {T : fS} {r : fR}  (l0 : Nat) (ul1 : Value) (ul2 : Value) (ul3 : Value) (h : F111_551  l0 T = some r) : mm_L 111 551 [.ref l0, ul1, ul2, ul3] [] (toS z T) = some (tR z r) := by
  unfold F111_551 at h
  refine Eq.trans (e111_551 ..) ?_
  have hg0 := fgd_in h
  replace h := hg0.2
  rw [show mm_new (toS z T) (.inr (.inl (0, 7, fun _ => 0))) 7 = toS z (fnw T (.inr (.inl (0, 7, tqz 0 8)) : fO) 7) from by rw [← toA_0]; exact fnw_ok (o := (.inr (.inl (0, 7, tqz 0 8)) : fO)) hg0.1]
  have hg1 := fgd_in h
  replace h := hg1.2
  rw [show mm_new (toS z (fnw T (.inr (.inl (0, 7, tqz 0 8)) : fO) 7)) (.inr (.inl (0, 7, fun _ => 0))) 7 = toS z (fnw (fnw T (.inr (.inl (0, 7, tqz 0 8)) : fO) 7) (.inr (.inl (0, 7, tqz 0 8)) : fO) 7) from by rw [← toA_0]; exact fnw_ok (o := (.inr (.inl (0, 7, tqz 0 8)) : fO)) hg1.1]
  exact (HG111_563  300 _ _ _ _ _ (rfl : (1 : Int32) = nI 1) h)
noncomputable def F111_545  (l0 : Nat) (s0 : Nat) (T : fS) : Option fR := (fif (ieq s0 2) (F111_551  l0 T) (F111_549  l0 T))
theorem G111_545 {z : Option mm_O} {T : fS} {r : fR}  (l0 : Nat) (ul1 : Value) (ul2 : Value) (ul3 : Value) (xs0 : Int32) (s0 : Nat) (hs0 : xs0 = nI s0) (h : F111_545  l0 s0 T = some r) : mm_L 111 545 [.ref l0, ul1, ul2, ul3] [.int xs0] (toS z T) = some (tR z r) := by
  unfold F111_545 at h
  refine Eq.trans (e111_545 ..) ?_
  exact (fb_if (cj_eq hs0 (rfl : (2 : Int32) = nI 2)) h (fun h1 => (G111_551  _ _ _ _ h1)) (fun h1 => (G111_549  _ _ _ _ h1)))
noncomputable def F111_538  (l0 : Nat) (T : fS) : Option fR := (fKi true (fif (fch T l0 6) (F40_0 l0 6 1 T) none) (fun v0 T1 => F111_545  l0 v0 T1))
theorem G111_538 {z : Option mm_O} {T : fS} {r : fR}  (l0 : Nat) (ul1 : Value) (ul2 : Value) (ul3 : Value) (h : F111_538  l0 T = some r) : mm_L 111 538 [.ref l0, ul1, ul2, ul3] [] (toS z T) = some (tR z r) := by
  unfold F111_538 at h
  refine Eq.trans (e111_538 ..) ?_
  exact (fb_K0i (fun _ q => fb_mo (y := 40) ow_40 q (fun q => GM40 _ _ _ (rfl : (6 : Int32) = nI 6) _ _ (rfl : (1 : Int32) = nI 1) q)) h (fun v0 T1 h2 => G111_545  _ _ _ _ _ _ rfl h2))
noncomputable def F111_534  (l0 : Nat) (s0 : Nat) (T : fS) : Option fR := (fif (ieq s0 4294967295) (F111_538  l0 T) (F111_549  l0 T))
theorem G111_534 {z : Option mm_O} {T : fS} {r : fR}  (l0 : Nat) (ul1 : Value) (ul2 : Value) (ul3 : Value) (xs0 : Int32) (s0 : Nat) (hs0 : xs0 = nI s0) (h : F111_534  l0 s0 T = some r) : mm_L 111 534 [.ref l0, ul1, ul2, ul3] [.int xs0] (toS z T) = some (tR z r) := by
  unfold F111_534 at h
  refine Eq.trans (e111_534 ..) ?_
  exact (fb_if (cj_eq hs0 (by decide : (-1 : Int32) = nI 4294967295)) h (fun h1 => (G111_538  _ _ _ _ h1)) (fun h1 => (G111_549  _ _ _ _ h1)))
noncomputable def F111_528  (l0 : Nat) (T : fS) : Option fR := (fKi true (fif (fch T l0 6) (F40_0 l0 4 0 T) none) (fun v0 T1 => F111_534  l0 v0 T1))
theorem G111_528 {z : Option mm_O} {T : fS} {r : fR}  (l0 : Nat) (ul1 : Value) (ul2 : Value) (ul3 : Value) (h : F111_528  l0 T = some r) : mm_L 111 528 [.ref l0, ul1, ul2, ul3] [] (toS z T) = some (tR z r) := by
  unfold F111_528 at h
  refine Eq.trans (e111_528 ..) ?_
  exact (fb_K0i (fun _ q => fb_mo (y := 40) ow_40 q (fun q => GM40 _ _ _ (rfl : (4 : Int32) = nI 4) _ _ (rfl : (0 : Int32) = nI 0) q)) h (fun v0 T1 h2 => G111_534  _ _ _ _ _ _ rfl h2))
noncomputable def F111_523  (l0 : Nat) (s0 : Nat) (T : fS) : Option fR := (fif (ieq s0 7) (F111_528  l0 T) (F111_549  l0 T))
theorem G111_523 {z : Option mm_O} {T : fS} {r : fR}  (l0 : Nat) (ul1 : Value) (ul2 : Value) (ul3 : Value) (xs0 : Int32) (s0 : Nat) (hs0 : xs0 = nI s0) (h : F111_523  l0 s0 T = some r) : mm_L 111 523 [.ref l0, ul1, ul2, ul3] [.int xs0] (toS z T) = some (tR z r) := by
  unfold F111_523 at h
  refine Eq.trans (e111_523 ..) ?_
  exact (fb_if (cj_eq hs0 (rfl : (7 : Int32) = nI 7)) h (fun h1 => (G111_528  _ _ _ _ h1)) (fun h1 => (G111_549  _ _ _ _ h1)))
noncomputable def F111_517  (l0 : Nat) (T : fS) : Option fR := (fKi true (fif (fch T l0 6) (F40_0 l0 3 0 T) none) (fun v0 T1 => F111_523  l0 v0 T1))
theorem G111_517 {z : Option mm_O} {T : fS} {r : fR}  (l0 : Nat) (ul1 : Value) (ul2 : Value) (ul3 : Value) (h : F111_517  l0 T = some r) : mm_L 111 517 [.ref l0, ul1, ul2, ul3] [] (toS z T) = some (tR z r) := by
  unfold F111_517 at h
  refine Eq.trans (e111_517 ..) ?_
  exact (fb_K0i (fun _ q => fb_mo (y := 40) ow_40 q (fun q => GM40 _ _ _ (rfl : (3 : Int32) = nI 3) _ _ (rfl : (0 : Int32) = nI 0) q)) h (fun v0 T1 h2 => G111_523  _ _ _ _ _ _ rfl h2))
noncomputable def F111_512  (l0 : Nat) (s0 : Nat) (T : fS) : Option fR := (fif (ieq s0 7) (F111_517  l0 T) (F111_549  l0 T))
theorem G111_512 {z : Option mm_O} {T : fS} {r : fR}  (l0 : Nat) (ul1 : Value) (ul2 : Value) (ul3 : Value) (xs0 : Int32) (s0 : Nat) (hs0 : xs0 = nI s0) (h : F111_512  l0 s0 T = some r) : mm_L 111 512 [.ref l0, ul1, ul2, ul3] [.int xs0] (toS z T) = some (tR z r) := by
  unfold F111_512 at h
  refine Eq.trans (e111_512 ..) ?_
  exact (fb_if (cj_eq hs0 (rfl : (7 : Int32) = nI 7)) h (fun h1 => (G111_517  _ _ _ _ h1)) (fun h1 => (G111_549  _ _ _ _ h1)))
noncomputable def F111_506  (l0 : Nat) (T : fS) : Option fR := (fKi true (fif (fch T l0 6) (F40_0 l0 1 0 T) none) (fun v0 T1 => F111_512  l0 v0 T1))
theorem G111_506 {z : Option mm_O} {T : fS} {r : fR}  (l0 : Nat) (ul1 : Value) (ul2 : Value) (ul3 : Value) (h : F111_506  l0 T = some r) : mm_L 111 506 [.ref l0, ul1, ul2, ul3] [] (toS z T) = some (tR z r) := by
  unfold F111_506 at h
  refine Eq.trans (e111_506 ..) ?_
  exact (fb_K0i (fun _ q => fb_mo (y := 40) ow_40 q (fun q => GM40 _ _ _ (rfl : (1 : Int32) = nI 1) _ _ (rfl : (0 : Int32) = nI 0) q)) h (fun v0 T1 h2 => G111_512  _ _ _ _ _ _ rfl h2))
noncomputable def F111_502  (l0 : Nat) (s0 : Nat) (T : fS) : Option fR := (fif (ieq s0 4294967295) (F111_506  l0 T) (F111_549  l0 T))
theorem G111_502 {z : Option mm_O} {T : fS} {r : fR}  (l0 : Nat) (ul1 : Value) (ul2 : Value) (ul3 : Value) (xs0 : Int32) (s0 : Nat) (hs0 : xs0 = nI s0) (h : F111_502  l0 s0 T = some r) : mm_L 111 502 [.ref l0, ul1, ul2, ul3] [.int xs0] (toS z T) = some (tR z r) := by
  unfold F111_502 at h
  refine Eq.trans (e111_502 ..) ?_
  exact (fb_if (cj_eq hs0 (by decide : (-1 : Int32) = nI 4294967295)) h (fun h1 => (G111_506  _ _ _ _ h1)) (fun h1 => (G111_549  _ _ _ _ h1)))
noncomputable def F111_496  (l0 : Nat) (T : fS) : Option fR := (fKi true (fif (fch T l0 6) (F40_0 l0 0 0 T) none) (fun v0 T1 => F111_502  l0 v0 T1))
theorem G111_496 {z : Option mm_O} {T : fS} {r : fR}  (l0 : Nat) (ul1 : Value) (ul2 : Value) (ul3 : Value) (h : F111_496  l0 T = some r) : mm_L 111 496 [.ref l0, ul1, ul2, ul3] [] (toS z T) = some (tR z r) := by
  unfold F111_496 at h
  refine Eq.trans (e111_496 ..) ?_
  exact (fb_K0i (fun _ q => fb_mo (y := 40) ow_40 q (fun q => GM40 _ _ _ (rfl : (0 : Int32) = nI 0) _ _ (rfl : (0 : Int32) = nI 0) q)) h (fun v0 T1 h2 => G111_502  _ _ _ _ _ _ rfl h2))
noncomputable def F111_491  (l0 : Nat) (s0 : Nat) (T : fS) : Option fR := (fif (ieq s0 7) (F111_496  l0 T) (F111_549  l0 T))
theorem G111_491 {z : Option mm_O} {T : fS} {r : fR}  (l0 : Nat) (ul1 : Value) (ul2 : Value) (ul3 : Value) (xs0 : Int32) (s0 : Nat) (hs0 : xs0 = nI s0) (h : F111_491  l0 s0 T = some r) : mm_L 111 491 [.ref l0, ul1, ul2, ul3] [.int xs0] (toS z T) = some (tR z r) := by
  unfold F111_491 at h
  refine Eq.trans (e111_491 ..) ?_
  exact (fb_if (cj_eq hs0 (rfl : (7 : Int32) = nI 7)) h (fun h1 => (G111_496  _ _ _ _ h1)) (fun h1 => (G111_549  _ _ _ _ h1)))
noncomputable def F111_482  (l0 : Nat) (T : fS) : Option fR := (fKi true (fif (fch T l0 6) (F36_0 l0 5 13 0 0 T) none) (fun v0 T1 => F111_491  l0 v0 T1))
theorem G111_482 {z : Option mm_O} {T : fS} {r : fR}  (l0 : Nat) (ul1 : Value) (ul2 : Value) (ul3 : Value) (h : F111_482  l0 T = some r) : mm_L 111 482 [.ref l0, ul1, ul2, ul3] [] (toS z T) = some (tR z r) := by
  unfold F111_482 at h
  refine Eq.trans (e111_482 ..) ?_
  exact (fb_K0i (fun _ q => fb_mo (y := 36) ow_36 q (fun q => GM36 _ _ _ (rfl : (5 : Int32) = nI 5) _ _ (rfl : (13 : Int32) = nI 13) _ _ (rfl : (0 : Int32) = nI 0) _ _ (rfl : (0 : Int32) = nI 0) q)) h (fun v0 T1 h2 => G111_491  _ _ _ _ _ _ rfl h2))
noncomputable def F111_477  (l0 : Nat) (s0 : Nat) (T : fS) : Option fR := (fif (ieq s0 6) (F111_482  l0 T) (F111_549  l0 T))
theorem G111_477 {z : Option mm_O} {T : fS} {r : fR}  (l0 : Nat) (ul1 : Value) (ul2 : Value) (ul3 : Value) (xs0 : Int32) (s0 : Nat) (hs0 : xs0 = nI s0) (h : F111_477  l0 s0 T = some r) : mm_L 111 477 [.ref l0, ul1, ul2, ul3] [.int xs0] (toS z T) = some (tR z r) := by
  unfold F111_477 at h
  refine Eq.trans (e111_477 ..) ?_
  exact (fb_if (cj_eq hs0 (rfl : (6 : Int32) = nI 6)) h (fun h1 => (G111_482  _ _ _ _ h1)) (fun h1 => (G111_549  _ _ _ _ h1)))
noncomputable def F111_468  (l0 : Nat) (T : fS) : Option fR := (fKi true (fif (fch T l0 6) (F36_0 l0 5 13 0 0 T) none) (fun v0 T1 => F111_477  l0 v0 T1))
theorem G111_468 {z : Option mm_O} {T : fS} {r : fR}  (l0 : Nat) (ul1 : Value) (ul2 : Value) (ul3 : Value) (h : F111_468  l0 T = some r) : mm_L 111 468 [.ref l0, ul1, ul2, ul3] [] (toS z T) = some (tR z r) := by
  unfold F111_468 at h
  refine Eq.trans (e111_468 ..) ?_
  exact (fb_K0i (fun _ q => fb_mo (y := 36) ow_36 q (fun q => GM36 _ _ _ (rfl : (5 : Int32) = nI 5) _ _ (rfl : (13 : Int32) = nI 13) _ _ (rfl : (0 : Int32) = nI 0) _ _ (rfl : (0 : Int32) = nI 0) q)) h (fun v0 T1 h2 => G111_477  _ _ _ _ _ _ rfl h2))
noncomputable def F111_464  (l0 : Nat) (s0 : Nat) (T : fS) : Option fR := (fif (ieq s0 5) (F111_468  l0 T) (F111_549  l0 T))
theorem G111_464 {z : Option mm_O} {T : fS} {r : fR}  (l0 : Nat) (ul1 : Value) (ul2 : Value) (ul3 : Value) (xs0 : Int32) (s0 : Nat) (hs0 : xs0 = nI s0) (h : F111_464  l0 s0 T = some r) : mm_L 111 464 [.ref l0, ul1, ul2, ul3] [.int xs0] (toS z T) = some (tR z r) := by
  unfold F111_464 at h
  refine Eq.trans (e111_464 ..) ?_
  exact (fb_if (cj_eq hs0 (rfl : (5 : Int32) = nI 5)) h (fun h1 => (G111_468  _ _ _ _ h1)) (fun h1 => (G111_549  _ _ _ _ h1)))
noncomputable def F111_456  (l0 : Nat) (T : fS) : Option fR := (fKi true (fif (fch T l0 6) (F36_0 l0 3 0 0 0 T) none) (fun v0 T1 => F111_464  l0 v0 T1))
theorem G111_456 {z : Option mm_O} {T : fS} {r : fR}  (l0 : Nat) (ul1 : Value) (ul2 : Value) (ul3 : Value) (h : F111_456  l0 T = some r) : mm_L 111 456 [.ref l0, ul1, ul2, ul3] [] (toS z T) = some (tR z r) := by
  unfold F111_456 at h
  refine Eq.trans (e111_456 ..) ?_
  exact (fb_K0i (fun _ q => fb_mo (y := 36) ow_36 q (fun q => GM36 _ _ _ (rfl : (3 : Int32) = nI 3) _ _ (rfl : (0 : Int32) = nI 0) _ _ (rfl : (0 : Int32) = nI 0) _ _ (rfl : (0 : Int32) = nI 0) q)) h (fun v0 T1 h2 => G111_464  _ _ _ _ _ _ rfl h2))
noncomputable def F111_451  (l0 : Nat) (s0 : Nat) (T : fS) : Option fR := (fif (ieq s0 4294967223) (F111_456  l0 T) (F111_549  l0 T))
theorem G111_451 {z : Option mm_O} {T : fS} {r : fR}  (l0 : Nat) (ul1 : Value) (ul2 : Value) (ul3 : Value) (xs0 : Int32) (s0 : Nat) (hs0 : xs0 = nI s0) (h : F111_451  l0 s0 T = some r) : mm_L 111 451 [.ref l0, ul1, ul2, ul3] [.int xs0] (toS z T) = some (tR z r) := by
  unfold F111_451 at h
  refine Eq.trans (e111_451 ..) ?_
  exact (fb_if (cj_eq hs0 (by decide : (-73 : Int32) = nI 4294967223)) h (fun h1 => (G111_456  _ _ _ _ h1)) (fun h1 => (G111_549  _ _ _ _ h1)))
noncomputable def F111_442  (l0 : Nat) (T : fS) : Option fR := (fKi true (F106_0 l0 3 4 1 0 2 T) (fun v0 T1 => F111_451  l0 v0 T1))
theorem G111_442 {z : Option mm_O} {T : fS} {r : fR}  (l0 : Nat) (ul1 : Value) (ul2 : Value) (ul3 : Value) (h : F111_442  l0 T = some r) : mm_L 111 442 [.ref l0, ul1, ul2, ul3] [] (toS z T) = some (tR z r) := by
  unfold F111_442 at h
  refine Eq.trans (e111_442 ..) ?_
  exact (fb_K0i (fun _ q => GM106 _ _ _ (rfl : (3 : Int32) = nI 3) _ _ (rfl : (4 : Int32) = nI 4) _ _ (rfl : (1 : Int32) = nI 1) _ _ (rfl : (0 : Int32) = nI 0) _ _ (rfl : (2 : Int32) = nI 2) q) h (fun v0 T1 h2 => G111_451  _ _ _ _ _ _ rfl h2))
noncomputable def F111_437  (l0 : Nat) (s0 : Nat) (T : fS) : Option fR := (fif (ieq s0 4294967224) (F111_442  l0 T) (F111_549  l0 T))
theorem G111_437 {z : Option mm_O} {T : fS} {r : fR}  (l0 : Nat) (ul1 : Value) (ul2 : Value) (ul3 : Value) (xs0 : Int32) (s0 : Nat) (hs0 : xs0 = nI s0) (h : F111_437  l0 s0 T = some r) : mm_L 111 437 [.ref l0, ul1, ul2, ul3] [.int xs0] (toS z T) = some (tR z r) := by
  unfold F111_437 at h
  refine Eq.trans (e111_437 ..) ?_
  exact (fb_if (cj_eq hs0 (by decide : (-72 : Int32) = nI 4294967224)) h (fun h1 => (G111_442  _ _ _ _ h1)) (fun h1 => (G111_549  _ _ _ _ h1)))
noncomputable def F111_428  (l0 : Nat) (T : fS) : Option fR := (fKi true (F106_0 l0 3 4 1 0 0 T) (fun v0 T1 => F111_437  l0 v0 T1))
theorem G111_428 {z : Option mm_O} {T : fS} {r : fR}  (l0 : Nat) (ul1 : Value) (ul2 : Value) (ul3 : Value) (h : F111_428  l0 T = some r) : mm_L 111 428 [.ref l0, ul1, ul2, ul3] [] (toS z T) = some (tR z r) := by
  unfold F111_428 at h
  refine Eq.trans (e111_428 ..) ?_
  exact (fb_K0i (fun _ q => GM106 _ _ _ (rfl : (3 : Int32) = nI 3) _ _ (rfl : (4 : Int32) = nI 4) _ _ (rfl : (1 : Int32) = nI 1) _ _ (rfl : (0 : Int32) = nI 0) _ _ (rfl : (0 : Int32) = nI 0) q) h (fun v0 T1 h2 => G111_437  _ _ _ _ _ _ rfl h2))
noncomputable def F111_424  (l0 : Nat) (s0 : Nat) (T : fS) : Option fR := (fif (ieq s0 4) (F111_428  l0 T) (F111_549  l0 T))
theorem G111_424 {z : Option mm_O} {T : fS} {r : fR}  (l0 : Nat) (ul1 : Value) (ul2 : Value) (ul3 : Value) (xs0 : Int32) (s0 : Nat) (hs0 : xs0 = nI s0) (h : F111_424  l0 s0 T = some r) : mm_L 111 424 [.ref l0, ul1, ul2, ul3] [.int xs0] (toS z T) = some (tR z r) := by
  unfold F111_424 at h
  refine Eq.trans (e111_424 ..) ?_
  exact (fb_if (cj_eq hs0 (rfl : (4 : Int32) = nI 4)) h (fun h1 => (G111_428  _ _ _ _ h1)) (fun h1 => (G111_549  _ _ _ _ h1)))
noncomputable def F111_416  (l0 : Nat) (T : fS) : Option fR := (fKi true (fif (fch T l0 6) (F36_0 l0 4 1 0 1 T) none) (fun v0 T1 => F111_424  l0 v0 T1))
theorem G111_416 {z : Option mm_O} {T : fS} {r : fR}  (l0 : Nat) (ul1 : Value) (ul2 : Value) (ul3 : Value) (h : F111_416  l0 T = some r) : mm_L 111 416 [.ref l0, ul1, ul2, ul3] [] (toS z T) = some (tR z r) := by
  unfold F111_416 at h
  refine Eq.trans (e111_416 ..) ?_
  exact (fb_K0i (fun _ q => fb_mo (y := 36) ow_36 q (fun q => GM36 _ _ _ (rfl : (4 : Int32) = nI 4) _ _ (rfl : (1 : Int32) = nI 1) _ _ (rfl : (0 : Int32) = nI 0) _ _ (rfl : (1 : Int32) = nI 1) q)) h (fun v0 T1 h2 => G111_424  _ _ _ _ _ _ rfl h2))
noncomputable def F111_412  (l0 : Nat) (s0 : Nat) (T : fS) : Option fR := (fif (ieq s0 3) (F111_416  l0 T) (F111_549  l0 T))
theorem G111_412 {z : Option mm_O} {T : fS} {r : fR}  (l0 : Nat) (ul1 : Value) (ul2 : Value) (ul3 : Value) (xs0 : Int32) (s0 : Nat) (hs0 : xs0 = nI s0) (h : F111_412  l0 s0 T = some r) : mm_L 111 412 [.ref l0, ul1, ul2, ul3] [.int xs0] (toS z T) = some (tR z r) := by
  unfold F111_412 at h
  refine Eq.trans (e111_412 ..) ?_
  exact (fb_if (cj_eq hs0 (rfl : (3 : Int32) = nI 3)) h (fun h1 => (G111_416  _ _ _ _ h1)) (fun h1 => (G111_549  _ _ _ _ h1)))
noncomputable def F111_404  (l0 : Nat) (T : fS) : Option fR := (fKi true (fif (fch T l0 6) (F36_0 l0 1 1 2 0 T) none) (fun v0 T1 => F111_412  l0 v0 T1))
theorem G111_404 {z : Option mm_O} {T : fS} {r : fR}  (l0 : Nat) (ul1 : Value) (ul2 : Value) (ul3 : Value) (h : F111_404  l0 T = some r) : mm_L 111 404 [.ref l0, ul1, ul2, ul3] [] (toS z T) = some (tR z r) := by
  unfold F111_404 at h
  refine Eq.trans (e111_404 ..) ?_
  exact (fb_K0i (fun _ q => fb_mo (y := 36) ow_36 q (fun q => GM36 _ _ _ (rfl : (1 : Int32) = nI 1) _ _ (rfl : (1 : Int32) = nI 1) _ _ (rfl : (2 : Int32) = nI 2) _ _ (rfl : (0 : Int32) = nI 0) q)) h (fun v0 T1 h2 => G111_412  _ _ _ _ _ _ rfl h2))
noncomputable def F111_399  (l0 : Nat) (s0 : Nat) (T : fS) : Option fR := (fif (ieq s0 4294967223) (F111_404  l0 T) (F111_549  l0 T))
theorem G111_399 {z : Option mm_O} {T : fS} {r : fR}  (l0 : Nat) (ul1 : Value) (ul2 : Value) (ul3 : Value) (xs0 : Int32) (s0 : Nat) (hs0 : xs0 = nI s0) (h : F111_399  l0 s0 T = some r) : mm_L 111 399 [.ref l0, ul1, ul2, ul3] [.int xs0] (toS z T) = some (tR z r) := by
  unfold F111_399 at h
  refine Eq.trans (e111_399 ..) ?_
  exact (fb_if (cj_eq hs0 (by decide : (-73 : Int32) = nI 4294967223)) h (fun h1 => (G111_404  _ _ _ _ h1)) (fun h1 => (G111_549  _ _ _ _ h1)))
noncomputable def F111_390  (l0 : Nat) (T : fS) : Option fR := (fKi true (F106_0 l0 3 1 0 3 0 T) (fun v0 T1 => F111_399  l0 v0 T1))
theorem G111_390 {z : Option mm_O} {T : fS} {r : fR}  (l0 : Nat) (ul1 : Value) (ul2 : Value) (ul3 : Value) (h : F111_390  l0 T = some r) : mm_L 111 390 [.ref l0, ul1, ul2, ul3] [] (toS z T) = some (tR z r) := by
  unfold F111_390 at h
  refine Eq.trans (e111_390 ..) ?_
  exact (fb_K0i (fun _ q => GM106 _ _ _ (rfl : (3 : Int32) = nI 3) _ _ (rfl : (1 : Int32) = nI 1) _ _ (rfl : (0 : Int32) = nI 0) _ _ (rfl : (3 : Int32) = nI 3) _ _ (rfl : (0 : Int32) = nI 0) q) h (fun v0 T1 h2 => G111_399  _ _ _ _ _ _ rfl h2))
noncomputable def F111_385  (l0 : Nat) (s0 : Nat) (T : fS) : Option fR := (fif (ieq s0 4294967223) (F111_390  l0 T) (F111_549  l0 T))
theorem G111_385 {z : Option mm_O} {T : fS} {r : fR}  (l0 : Nat) (ul1 : Value) (ul2 : Value) (ul3 : Value) (xs0 : Int32) (s0 : Nat) (hs0 : xs0 = nI s0) (h : F111_385  l0 s0 T = some r) : mm_L 111 385 [.ref l0, ul1, ul2, ul3] [.int xs0] (toS z T) = some (tR z r) := by
  unfold F111_385 at h
  refine Eq.trans (e111_385 ..) ?_
  exact (fb_if (cj_eq hs0 (by decide : (-73 : Int32) = nI 4294967223)) h (fun h1 => (G111_390  _ _ _ _ h1)) (fun h1 => (G111_549  _ _ _ _ h1)))
noncomputable def F111_375  (l0 : Nat) (T : fS) : Option fR := (fKi true (F106_0 l0 3 1 1 7 0 T) (fun v0 T1 => F111_385  l0 v0 T1))
theorem G111_375 {z : Option mm_O} {T : fS} {r : fR}  (l0 : Nat) (ul1 : Value) (ul2 : Value) (ul3 : Value) (h : F111_375  l0 T = some r) : mm_L 111 375 [.ref l0, ul1, ul2, ul3] [] (toS z T) = some (tR z r) := by
  unfold F111_375 at h
  refine Eq.trans (e111_375 ..) ?_
  exact (fb_K0i (fun _ q => GM106 _ _ _ (rfl : (3 : Int32) = nI 3) _ _ (rfl : (1 : Int32) = nI 1) _ _ (rfl : (1 : Int32) = nI 1) _ _ (rfl : (7 : Int32) = nI 7) _ _ (rfl : (0 : Int32) = nI 0) q) h (fun v0 T1 h2 => G111_385  _ _ _ _ _ _ rfl h2))
noncomputable def F111_371  (l0 : Nat) (s0 : Nat) (T : fS) : Option fR := (fif (ieq s0 2) (F111_375  l0 T) (F111_549  l0 T))
theorem G111_371 {z : Option mm_O} {T : fS} {r : fR}  (l0 : Nat) (ul1 : Value) (ul2 : Value) (ul3 : Value) (xs0 : Int32) (s0 : Nat) (hs0 : xs0 = nI s0) (h : F111_371  l0 s0 T = some r) : mm_L 111 371 [.ref l0, ul1, ul2, ul3] [.int xs0] (toS z T) = some (tR z r) := by
  unfold F111_371 at h
  refine Eq.trans (e111_371 ..) ?_
  exact (fb_if (cj_eq hs0 (rfl : (2 : Int32) = nI 2)) h (fun h1 => (G111_375  _ _ _ _ h1)) (fun h1 => (G111_549  _ _ _ _ h1)))
noncomputable def F111_362  (l0 : Nat) (T : fS) : Option fR := (fKi true (fif (fch T l0 6) (F36_0 l0 1 0 7 0 T) none) (fun v0 T1 => F111_371  l0 v0 T1))
theorem G111_362 {z : Option mm_O} {T : fS} {r : fR}  (l0 : Nat) (ul1 : Value) (ul2 : Value) (ul3 : Value) (h : F111_362  l0 T = some r) : mm_L 111 362 [.ref l0, ul1, ul2, ul3] [] (toS z T) = some (tR z r) := by
  unfold F111_362 at h
  refine Eq.trans (e111_362 ..) ?_
  exact (fb_K0i (fun _ q => fb_mo (y := 36) ow_36 q (fun q => GM36 _ _ _ (rfl : (1 : Int32) = nI 1) _ _ (rfl : (0 : Int32) = nI 0) _ _ (rfl : (7 : Int32) = nI 7) _ _ (rfl : (0 : Int32) = nI 0) q)) h (fun v0 T1 h2 => G111_371  _ _ _ _ _ _ rfl h2))
noncomputable def F111_357  (l0 : Nat) (s0 : Nat) (T : fS) : Option fR := (fif (ieq s0 4294967223) (F111_362  l0 T) (F111_549  l0 T))
theorem G111_357 {z : Option mm_O} {T : fS} {r : fR}  (l0 : Nat) (ul1 : Value) (ul2 : Value) (ul3 : Value) (xs0 : Int32) (s0 : Nat) (hs0 : xs0 = nI s0) (h : F111_357  l0 s0 T = some r) : mm_L 111 357 [.ref l0, ul1, ul2, ul3] [.int xs0] (toS z T) = some (tR z r) := by
  unfold F111_357 at h
  refine Eq.trans (e111_357 ..) ?_
  exact (fb_if (cj_eq hs0 (by decide : (-73 : Int32) = nI 4294967223)) h (fun h1 => (G111_362  _ _ _ _ h1)) (fun h1 => (G111_549  _ _ _ _ h1)))
noncomputable def F111_348  (l0 : Nat) (T : fS) : Option fR := (fKi true (F106_0 l0 3 2 0 0 0 T) (fun v0 T1 => F111_357  l0 v0 T1))
theorem G111_348 {z : Option mm_O} {T : fS} {r : fR}  (l0 : Nat) (ul1 : Value) (ul2 : Value) (ul3 : Value) (h : F111_348  l0 T = some r) : mm_L 111 348 [.ref l0, ul1, ul2, ul3] [] (toS z T) = some (tR z r) := by
  unfold F111_348 at h
  refine Eq.trans (e111_348 ..) ?_
  exact (fb_K0i (fun _ q => GM106 _ _ _ (rfl : (3 : Int32) = nI 3) _ _ (rfl : (2 : Int32) = nI 2) _ _ (rfl : (0 : Int32) = nI 0) _ _ (rfl : (0 : Int32) = nI 0) _ _ (rfl : (0 : Int32) = nI 0) q) h (fun v0 T1 h2 => G111_357  _ _ _ _ _ _ rfl h2))
noncomputable def F111_344  (l0 : Nat) (s0 : Nat) (T : fS) : Option fR := (fif (ieq s0 1) (F111_348  l0 T) (F111_549  l0 T))
theorem G111_344 {z : Option mm_O} {T : fS} {r : fR}  (l0 : Nat) (ul1 : Value) (ul2 : Value) (ul3 : Value) (xs0 : Int32) (s0 : Nat) (hs0 : xs0 = nI s0) (h : F111_344  l0 s0 T = some r) : mm_L 111 344 [.ref l0, ul1, ul2, ul3] [.int xs0] (toS z T) = some (tR z r) := by
  unfold F111_344 at h
  refine Eq.trans (e111_344 ..) ?_
  exact (fb_if (cj_eq hs0 (rfl : (1 : Int32) = nI 1)) h (fun h1 => (G111_348  _ _ _ _ h1)) (fun h1 => (G111_549  _ _ _ _ h1)))
noncomputable def F111_336  (l0 : Nat) (T : fS) : Option fR := (fKi true (fif (fch T l0 6) (F36_0 l0 0 0 0 0 T) none) (fun v0 T1 => F111_344  l0 v0 T1))
theorem G111_336 {z : Option mm_O} {T : fS} {r : fR}  (l0 : Nat) (ul1 : Value) (ul2 : Value) (ul3 : Value) (h : F111_336  l0 T = some r) : mm_L 111 336 [.ref l0, ul1, ul2, ul3] [] (toS z T) = some (tR z r) := by
  unfold F111_336 at h
  refine Eq.trans (e111_336 ..) ?_
  exact (fb_K0i (fun _ q => fb_mo (y := 36) ow_36 q (fun q => GM36 _ _ _ (rfl : (0 : Int32) = nI 0) _ _ (rfl : (0 : Int32) = nI 0) _ _ (rfl : (0 : Int32) = nI 0) _ _ (rfl : (0 : Int32) = nI 0) q)) h (fun v0 T1 h2 => G111_344  _ _ _ _ _ _ rfl h2))
noncomputable def F111_331  (l0 : Nat) (s0 : Nat) (T : fS) : Option fR := (fif (ieq s0 0) (F111_336  l0 T) (F111_334  l0 T))
theorem G111_331 {z : Option mm_O} {T : fS} {r : fR}  (l0 : Nat) (ul1 : Value) (ul2 : Value) (ul3 : Value) (xs0 : Int32) (s0 : Nat) (hs0 : xs0 = nI s0) (h : F111_331  l0 s0 T = some r) : mm_L 111 331 [.ref l0, ul1, ul2, ul3] [.int xs0] (toS z T) = some (tR z r) := by
  unfold F111_331 at h
  refine Eq.trans (e111_331 ..) ?_
  exact (fb_if (cj_eq hs0 (rfl : (0 : Int32) = nI 0)) h (fun h1 => (G111_336  _ _ _ _ h1)) (fun h1 => (G111_334  _ _ _ _ h1)))
noncomputable def F111_325  (l0 : Nat) (T : fS) : Option fR := (fKi true (fif (fch T l0 6) (F27_0 l0 0 0 T) none) (fun v0 T1 => F111_331  l0 v0 T1))
theorem G111_325 {z : Option mm_O} {T : fS} {r : fR}  (l0 : Nat) (ul1 : Value) (ul2 : Value) (ul3 : Value) (h : F111_325  l0 T = some r) : mm_L 111 325 [.ref l0, ul1, ul2, ul3] [] (toS z T) = some (tR z r) := by
  unfold F111_325 at h
  refine Eq.trans (e111_325 ..) ?_
  exact (fb_K0i (fun _ q => fb_mo (y := 27) ow_27 q (fun q => GM27 _ _ _ (rfl : (0 : Int32) = nI 0) _ _ (rfl : (0 : Int32) = nI 0) q)) h (fun v0 T1 h2 => G111_331  _ _ _ _ _ _ rfl h2))
noncomputable def F111_322  (l0 : Nat) (s0 : Nat) (T : fS) : Option fR := (fif (ieq s0 0) (F111_325  l0 T) (F111_334  l0 T))
theorem G111_322 {z : Option mm_O} {T : fS} {r : fR}  (l0 : Nat) (ul1 : Value) (ul2 : Value) (ul3 : Value) (xs0 : Int32) (s0 : Nat) (hs0 : xs0 = nI s0) (h : F111_322  l0 s0 T = some r) : mm_L 111 322 [.ref l0, ul1, ul2, ul3] [.int xs0] (toS z T) = some (tR z r) := by
  unfold F111_322 at h
  refine Eq.trans (e111_322 ..) ?_
  exact (fb_if (cj_eq hs0 (rfl : (0 : Int32) = nI 0)) h (fun h1 => (G111_325  _ _ _ _ h1)) (fun h1 => (G111_334  _ _ _ _ h1)))
noncomputable def F111_316  (l0 : Nat) (T : fS) : Option fR := (fKi true (fif (fch T l0 6) (F27_0 l0 0 1 T) none) (fun v0 T1 => F111_322  l0 v0 T1))
theorem G111_316 {z : Option mm_O} {T : fS} {r : fR}  (l0 : Nat) (ul1 : Value) (ul2 : Value) (ul3 : Value) (h : F111_316  l0 T = some r) : mm_L 111 316 [.ref l0, ul1, ul2, ul3] [] (toS z T) = some (tR z r) := by
  unfold F111_316 at h
  refine Eq.trans (e111_316 ..) ?_
  exact (fb_K0i (fun _ q => fb_mo (y := 27) ow_27 q (fun q => GM27 _ _ _ (rfl : (0 : Int32) = nI 0) _ _ (rfl : (1 : Int32) = nI 1) q)) h (fun v0 T1 h2 => G111_322  _ _ _ _ _ _ rfl h2))
noncomputable def F111_312  (l0 : Nat) (s0 : Nat) (T : fS) : Option fR := (fif (ieq s0 2) (F111_316  l0 T) (F111_334  l0 T))
theorem G111_312 {z : Option mm_O} {T : fS} {r : fR}  (l0 : Nat) (ul1 : Value) (ul2 : Value) (ul3 : Value) (xs0 : Int32) (s0 : Nat) (hs0 : xs0 = nI s0) (h : F111_312  l0 s0 T = some r) : mm_L 111 312 [.ref l0, ul1, ul2, ul3] [.int xs0] (toS z T) = some (tR z r) := by
  unfold F111_312 at h
  refine Eq.trans (e111_312 ..) ?_
  exact (fb_if (cj_eq hs0 (rfl : (2 : Int32) = nI 2)) h (fun h1 => (G111_316  _ _ _ _ h1)) (fun h1 => (G111_334  _ _ _ _ h1)))
noncomputable def F111_306  (l0 : Nat) (T : fS) : Option fR := (fKi true (fif (fch T l0 6) (F27_0 l0 1 0 T) none) (fun v0 T1 => F111_312  l0 v0 T1))
theorem G111_306 {z : Option mm_O} {T : fS} {r : fR}  (l0 : Nat) (ul1 : Value) (ul2 : Value) (ul3 : Value) (h : F111_306  l0 T = some r) : mm_L 111 306 [.ref l0, ul1, ul2, ul3] [] (toS z T) = some (tR z r) := by
  unfold F111_306 at h
  refine Eq.trans (e111_306 ..) ?_
  exact (fb_K0i (fun _ q => fb_mo (y := 27) ow_27 q (fun q => GM27 _ _ _ (rfl : (1 : Int32) = nI 1) _ _ (rfl : (0 : Int32) = nI 0) q)) h (fun v0 T1 h2 => G111_312  _ _ _ _ _ _ rfl h2))
noncomputable def F111_302  (l0 : Nat) (s0 : Nat) (T : fS) : Option fR := (fif (ieq s0 4) (F111_306  l0 T) (F111_334  l0 T))
theorem G111_302 {z : Option mm_O} {T : fS} {r : fR}  (l0 : Nat) (ul1 : Value) (ul2 : Value) (ul3 : Value) (xs0 : Int32) (s0 : Nat) (hs0 : xs0 = nI s0) (h : F111_302  l0 s0 T = some r) : mm_L 111 302 [.ref l0, ul1, ul2, ul3] [.int xs0] (toS z T) = some (tR z r) := by
  unfold F111_302 at h
  refine Eq.trans (e111_302 ..) ?_
  exact (fb_if (cj_eq hs0 (rfl : (4 : Int32) = nI 4)) h (fun h1 => (G111_306  _ _ _ _ h1)) (fun h1 => (G111_334  _ _ _ _ h1)))
noncomputable def F111_296  (l0 : Nat) (T : fS) : Option fR := (fKi true (fif (fch T l0 6) (F26_0 l0 1 2 T) none) (fun v0 T1 => F111_302  l0 v0 T1))
theorem G111_296 {z : Option mm_O} {T : fS} {r : fR}  (l0 : Nat) (ul1 : Value) (ul2 : Value) (ul3 : Value) (h : F111_296  l0 T = some r) : mm_L 111 296 [.ref l0, ul1, ul2, ul3] [] (toS z T) = some (tR z r) := by
  unfold F111_296 at h
  refine Eq.trans (e111_296 ..) ?_
  exact (fb_K0i (fun _ q => fb_mo (y := 26) ow_26 q (fun q => GM26 _ _ _ (rfl : (1 : Int32) = nI 1) _ _ (rfl : (2 : Int32) = nI 2) q)) h (fun v0 T1 h2 => G111_302  _ _ _ _ _ _ rfl h2))
noncomputable def F111_290  (l0 : Nat) (s0 : Nat) (T : fS) : Option fR := (fif (ieq s0 248) (F111_296  l0 T) (F111_334  l0 T))
theorem G111_290 {z : Option mm_O} {T : fS} {r : fR}  (l0 : Nat) (ul1 : Value) (ul2 : Value) (ul3 : Value) (xs0 : Int32) (s0 : Nat) (hs0 : xs0 = nI s0) (h : F111_290  l0 s0 T = some r) : mm_L 111 290 [.ref l0, ul1, ul2, ul3] [.int xs0] (toS z T) = some (tR z r) := by
  unfold F111_290 at h
  refine Eq.trans (e111_290 ..) ?_
  exact (fb_if (cj_eq hs0 (rfl : (248 : Int32) = nI 248)) h (fun h1 => (G111_296  _ _ _ _ h1)) (fun h1 => (G111_334  _ _ _ _ h1)))
noncomputable def F111_284  (l0 : Nat) (T : fS) : Option fR := (fKi true (fif (fch T l0 6) (F26_0 l0 3 1 T) none) (fun v0 T1 => F111_290  l0 v0 T1))
theorem G111_284 {z : Option mm_O} {T : fS} {r : fR}  (l0 : Nat) (ul1 : Value) (ul2 : Value) (ul3 : Value) (h : F111_284  l0 T = some r) : mm_L 111 284 [.ref l0, ul1, ul2, ul3] [] (toS z T) = some (tR z r) := by
  unfold F111_284 at h
  refine Eq.trans (e111_284 ..) ?_
  exact (fb_K0i (fun _ q => fb_mo (y := 26) ow_26 q (fun q => GM26 _ _ _ (rfl : (3 : Int32) = nI 3) _ _ (rfl : (1 : Int32) = nI 1) q)) h (fun v0 T1 h2 => G111_290  _ _ _ _ _ _ rfl h2))
noncomputable def F111_278  (l0 : Nat) (s0 : Nat) (T : fS) : Option fR := (fif (ieq s0 247) (F111_284  l0 T) (F111_334  l0 T))
theorem G111_278 {z : Option mm_O} {T : fS} {r : fR}  (l0 : Nat) (ul1 : Value) (ul2 : Value) (ul3 : Value) (xs0 : Int32) (s0 : Nat) (hs0 : xs0 = nI s0) (h : F111_278  l0 s0 T = some r) : mm_L 111 278 [.ref l0, ul1, ul2, ul3] [.int xs0] (toS z T) = some (tR z r) := by
  unfold F111_278 at h
  refine Eq.trans (e111_278 ..) ?_
  exact (fb_if (cj_eq hs0 (rfl : (247 : Int32) = nI 247)) h (fun h1 => (G111_284  _ _ _ _ h1)) (fun h1 => (G111_334  _ _ _ _ h1)))
noncomputable def F111_272  (l0 : Nat) (T : fS) : Option fR := (fKi true (fif (fch T l0 6) (F26_0 l0 1 1 T) none) (fun v0 T1 => F111_278  l0 v0 T1))
theorem G111_272 {z : Option mm_O} {T : fS} {r : fR}  (l0 : Nat) (ul1 : Value) (ul2 : Value) (ul3 : Value) (h : F111_272  l0 T = some r) : mm_L 111 272 [.ref l0, ul1, ul2, ul3] [] (toS z T) = some (tR z r) := by
  unfold F111_272 at h
  refine Eq.trans (e111_272 ..) ?_
  exact (fb_K0i (fun _ q => fb_mo (y := 26) ow_26 q (fun q => GM26 _ _ _ (rfl : (1 : Int32) = nI 1) _ _ (rfl : (1 : Int32) = nI 1) q)) h (fun v0 T1 h2 => G111_278  _ _ _ _ _ _ rfl h2))
noncomputable def F111_266  (l0 : Nat) (s0 : Nat) (T : fS) : Option fR := (fif (ieq s0 445) (F111_272  l0 T) (F111_334  l0 T))
theorem G111_266 {z : Option mm_O} {T : fS} {r : fR}  (l0 : Nat) (ul1 : Value) (ul2 : Value) (ul3 : Value) (xs0 : Int32) (s0 : Nat) (hs0 : xs0 = nI s0) (h : F111_266  l0 s0 T = some r) : mm_L 111 266 [.ref l0, ul1, ul2, ul3] [.int xs0] (toS z T) = some (tR z r) := by
  unfold F111_266 at h
  refine Eq.trans (e111_266 ..) ?_
  exact (fb_if (cj_eq hs0 (rfl : (445 : Int32) = nI 445)) h (fun h1 => (G111_272  _ _ _ _ h1)) (fun h1 => (G111_334  _ _ _ _ h1)))
noncomputable def F111_260  (l0 : Nat) (T : fS) : Option fR := (fKi true (fif (fch T l0 6) (F26_0 l0 1 0 T) none) (fun v0 T1 => F111_266  l0 v0 T1))
theorem G111_260 {z : Option mm_O} {T : fS} {r : fR}  (l0 : Nat) (ul1 : Value) (ul2 : Value) (ul3 : Value) (h : F111_260  l0 T = some r) : mm_L 111 260 [.ref l0, ul1, ul2, ul3] [] (toS z T) = some (tR z r) := by
  unfold F111_260 at h
  refine Eq.trans (e111_260 ..) ?_
  exact (fb_K0i (fun _ q => fb_mo (y := 26) ow_26 q (fun q => GM26 _ _ _ (rfl : (1 : Int32) = nI 1) _ _ (rfl : (0 : Int32) = nI 0) q)) h (fun v0 T1 h2 => G111_266  _ _ _ _ _ _ rfl h2))
noncomputable def F111_255  (l0 : Nat) (s0 : Nat) (T : fS) : Option fR := (fif (ieq s0 17) (F111_260  l0 T) (F111_334  l0 T))
theorem G111_255 {z : Option mm_O} {T : fS} {r : fR}  (l0 : Nat) (ul1 : Value) (ul2 : Value) (ul3 : Value) (xs0 : Int32) (s0 : Nat) (hs0 : xs0 = nI s0) (h : F111_255  l0 s0 T = some r) : mm_L 111 255 [.ref l0, ul1, ul2, ul3] [.int xs0] (toS z T) = some (tR z r) := by
  unfold F111_255 at h
  refine Eq.trans (e111_255 ..) ?_
  exact (fb_if (cj_eq hs0 (rfl : (17 : Int32) = nI 17)) h (fun h1 => (G111_260  _ _ _ _ h1)) (fun h1 => (G111_334  _ _ _ _ h1)))
noncomputable def F111_249  (l0 : Nat) (T : fS) : Option fR := (fKi true (fif (fch T l0 6) (F26_0 l0 0 2 T) none) (fun v0 T1 => F111_255  l0 v0 T1))
theorem G111_249 {z : Option mm_O} {T : fS} {r : fR}  (l0 : Nat) (ul1 : Value) (ul2 : Value) (ul3 : Value) (h : F111_249  l0 T = some r) : mm_L 111 249 [.ref l0, ul1, ul2, ul3] [] (toS z T) = some (tR z r) := by
  unfold F111_249 at h
  refine Eq.trans (e111_249 ..) ?_
  exact (fb_K0i (fun _ q => fb_mo (y := 26) ow_26 q (fun q => GM26 _ _ _ (rfl : (0 : Int32) = nI 0) _ _ (rfl : (2 : Int32) = nI 2) q)) h (fun v0 T1 h2 => G111_255  _ _ _ _ _ _ rfl h2))
noncomputable def F111_244  (l0 : Nat) (s0 : Nat) (T : fS) : Option fR := (fif (ieq s0 111) (F111_249  l0 T) (F111_334  l0 T))
theorem G111_244 {z : Option mm_O} {T : fS} {r : fR}  (l0 : Nat) (ul1 : Value) (ul2 : Value) (ul3 : Value) (xs0 : Int32) (s0 : Nat) (hs0 : xs0 = nI s0) (h : F111_244  l0 s0 T = some r) : mm_L 111 244 [.ref l0, ul1, ul2, ul3] [.int xs0] (toS z T) = some (tR z r) := by
  unfold F111_244 at h
  refine Eq.trans (e111_244 ..) ?_
  exact (fb_if (cj_eq hs0 (rfl : (111 : Int32) = nI 111)) h (fun h1 => (G111_249  _ _ _ _ h1)) (fun h1 => (G111_334  _ _ _ _ h1)))
noncomputable def F111_238  (l0 : Nat) (T : fS) : Option fR := (fKi true (fif (fch T l0 6) (F26_0 l0 0 1 T) none) (fun v0 T1 => F111_244  l0 v0 T1))
theorem G111_238 {z : Option mm_O} {T : fS} {r : fR}  (l0 : Nat) (ul1 : Value) (ul2 : Value) (ul3 : Value) (h : F111_238  l0 T = some r) : mm_L 111 238 [.ref l0, ul1, ul2, ul3] [] (toS z T) = some (tR z r) := by
  unfold F111_238 at h
  refine Eq.trans (e111_238 ..) ?_
  exact (fb_K0i (fun _ q => fb_mo (y := 26) ow_26 q (fun q => GM26 _ _ _ (rfl : (0 : Int32) = nI 0) _ _ (rfl : (1 : Int32) = nI 1) q)) h (fun v0 T1 h2 => G111_244  _ _ _ _ _ _ rfl h2))
noncomputable def F111_232  (l0 : Nat) (s0 : Nat) (T : fS) : Option fR := (fif (ieq s0 170) (F111_238  l0 T) (F111_334  l0 T))
theorem G111_232 {z : Option mm_O} {T : fS} {r : fR}  (l0 : Nat) (ul1 : Value) (ul2 : Value) (ul3 : Value) (xs0 : Int32) (s0 : Nat) (hs0 : xs0 = nI s0) (h : F111_232  l0 s0 T = some r) : mm_L 111 232 [.ref l0, ul1, ul2, ul3] [.int xs0] (toS z T) = some (tR z r) := by
  unfold F111_232 at h
  refine Eq.trans (e111_232 ..) ?_
  exact (fb_if (cj_eq hs0 (rfl : (170 : Int32) = nI 170)) h (fun h1 => (G111_238  _ _ _ _ h1)) (fun h1 => (G111_334  _ _ _ _ h1)))
noncomputable def F111_226  (l0 : Nat) (T : fS) : Option fR := (fKi true (fif (fch T l0 6) (F26_0 l0 0 0 T) none) (fun v0 T1 => F111_232  l0 v0 T1))
theorem G111_226 {z : Option mm_O} {T : fS} {r : fR}  (l0 : Nat) (ul1 : Value) (ul2 : Value) (ul3 : Value) (h : F111_226  l0 T = some r) : mm_L 111 226 [.ref l0, ul1, ul2, ul3] [] (toS z T) = some (tR z r) := by
  unfold F111_226 at h
  refine Eq.trans (e111_226 ..) ?_
  exact (fb_K0i (fun _ q => fb_mo (y := 26) ow_26 q (fun q => GM26 _ _ _ (rfl : (0 : Int32) = nI 0) _ _ (rfl : (0 : Int32) = nI 0) q)) h (fun v0 T1 h2 => G111_232  _ _ _ _ _ _ rfl h2))
noncomputable def F111_223  (l0 : Nat) (s0 : Nat) (T : fS) : Option fR := (fif (ieq s0 0) (F111_226  l0 T) (F111_334  l0 T))
theorem G111_223 {z : Option mm_O} {T : fS} {r : fR}  (l0 : Nat) (ul1 : Value) (ul2 : Value) (ul3 : Value) (xs0 : Int32) (s0 : Nat) (hs0 : xs0 = nI s0) (h : F111_223  l0 s0 T = some r) : mm_L 111 223 [.ref l0, ul1, ul2, ul3] [.int xs0] (toS z T) = some (tR z r) := by
  unfold F111_223 at h
  refine Eq.trans (e111_223 ..) ?_
  exact (fb_if (cj_eq hs0 (rfl : (0 : Int32) = nI 0)) h (fun h1 => (G111_226  _ _ _ _ h1)) (fun h1 => (G111_334  _ _ _ _ h1)))
noncomputable def F111_217  (l0 : Nat) (T : fS) : Option fR := (fKi true (fif (fch T l0 6) (F25_0 l0 2 1 T) none) (fun v0 T1 => F111_223  l0 v0 T1))
theorem G111_217 {z : Option mm_O} {T : fS} {r : fR}  (l0 : Nat) (ul1 : Value) (ul2 : Value) (ul3 : Value) (h : F111_217  l0 T = some r) : mm_L 111 217 [.ref l0, ul1, ul2, ul3] [] (toS z T) = some (tR z r) := by
  unfold F111_217 at h
  refine Eq.trans (e111_217 ..) ?_
  exact (fb_K0i (fun _ q => fb_mo (y := 25) ow_25 q (fun q => GM25 _ _ _ (rfl : (2 : Int32) = nI 2) _ _ (rfl : (1 : Int32) = nI 1) q)) h (fun v0 T1 h2 => G111_223  _ _ _ _ _ _ rfl h2))
noncomputable def F111_213  (l0 : Nat) (s0 : Nat) (T : fS) : Option fR := (fif (ieq s0 3) (F111_217  l0 T) (F111_334  l0 T))
theorem G111_213 {z : Option mm_O} {T : fS} {r : fR}  (l0 : Nat) (ul1 : Value) (ul2 : Value) (ul3 : Value) (xs0 : Int32) (s0 : Nat) (hs0 : xs0 = nI s0) (h : F111_213  l0 s0 T = some r) : mm_L 111 213 [.ref l0, ul1, ul2, ul3] [.int xs0] (toS z T) = some (tR z r) := by
  unfold F111_213 at h
  refine Eq.trans (e111_213 ..) ?_
  exact (fb_if (cj_eq hs0 (rfl : (3 : Int32) = nI 3)) h (fun h1 => (G111_217  _ _ _ _ h1)) (fun h1 => (G111_334  _ _ _ _ h1)))
noncomputable def F111_207  (l0 : Nat) (T : fS) : Option fR := (fKi true (fif (fch T l0 6) (F25_0 l0 2 0 T) none) (fun v0 T1 => F111_213  l0 v0 T1))
theorem G111_207 {z : Option mm_O} {T : fS} {r : fR}  (l0 : Nat) (ul1 : Value) (ul2 : Value) (ul3 : Value) (h : F111_207  l0 T = some r) : mm_L 111 207 [.ref l0, ul1, ul2, ul3] [] (toS z T) = some (tR z r) := by
  unfold F111_207 at h
  refine Eq.trans (e111_207 ..) ?_
  exact (fb_K0i (fun _ q => fb_mo (y := 25) ow_25 q (fun q => GM25 _ _ _ (rfl : (2 : Int32) = nI 2) _ _ (rfl : (0 : Int32) = nI 0) q)) h (fun v0 T1 h2 => G111_213  _ _ _ _ _ _ rfl h2))
noncomputable def F111_203  (l0 : Nat) (s0 : Nat) (T : fS) : Option fR := (fif (ieq s0 1) (F111_207  l0 T) (F111_334  l0 T))
theorem G111_203 {z : Option mm_O} {T : fS} {r : fR}  (l0 : Nat) (ul1 : Value) (ul2 : Value) (ul3 : Value) (xs0 : Int32) (s0 : Nat) (hs0 : xs0 = nI s0) (h : F111_203  l0 s0 T = some r) : mm_L 111 203 [.ref l0, ul1, ul2, ul3] [.int xs0] (toS z T) = some (tR z r) := by
  unfold F111_203 at h
  refine Eq.trans (e111_203 ..) ?_
  exact (fb_if (cj_eq hs0 (rfl : (1 : Int32) = nI 1)) h (fun h1 => (G111_207  _ _ _ _ h1)) (fun h1 => (G111_334  _ _ _ _ h1)))
noncomputable def F111_197  (l0 : Nat) (T : fS) : Option fR := (fKi true (fif (fch T l0 6) (F25_0 l0 1 1 T) none) (fun v0 T1 => F111_203  l0 v0 T1))
theorem G111_197 {z : Option mm_O} {T : fS} {r : fR}  (l0 : Nat) (ul1 : Value) (ul2 : Value) (ul3 : Value) (h : F111_197  l0 T = some r) : mm_L 111 197 [.ref l0, ul1, ul2, ul3] [] (toS z T) = some (tR z r) := by
  unfold F111_197 at h
  refine Eq.trans (e111_197 ..) ?_
  exact (fb_K0i (fun _ q => fb_mo (y := 25) ow_25 q (fun q => GM25 _ _ _ (rfl : (1 : Int32) = nI 1) _ _ (rfl : (1 : Int32) = nI 1) q)) h (fun v0 T1 h2 => G111_203  _ _ _ _ _ _ rfl h2))
noncomputable def F111_193  (l0 : Nat) (s0 : Nat) (T : fS) : Option fR := (fif (ieq s0 2) (F111_197  l0 T) (F111_334  l0 T))
theorem G111_193 {z : Option mm_O} {T : fS} {r : fR}  (l0 : Nat) (ul1 : Value) (ul2 : Value) (ul3 : Value) (xs0 : Int32) (s0 : Nat) (hs0 : xs0 = nI s0) (h : F111_193  l0 s0 T = some r) : mm_L 111 193 [.ref l0, ul1, ul2, ul3] [.int xs0] (toS z T) = some (tR z r) := by
  unfold F111_193 at h
  refine Eq.trans (e111_193 ..) ?_
  exact (fb_if (cj_eq hs0 (rfl : (2 : Int32) = nI 2)) h (fun h1 => (G111_197  _ _ _ _ h1)) (fun h1 => (G111_334  _ _ _ _ h1)))
noncomputable def F111_187  (l0 : Nat) (T : fS) : Option fR := (fKi true (fif (fch T l0 6) (F25_0 l0 1 0 T) none) (fun v0 T1 => F111_193  l0 v0 T1))
theorem G111_187 {z : Option mm_O} {T : fS} {r : fR}  (l0 : Nat) (ul1 : Value) (ul2 : Value) (ul3 : Value) (h : F111_187  l0 T = some r) : mm_L 111 187 [.ref l0, ul1, ul2, ul3] [] (toS z T) = some (tR z r) := by
  unfold F111_187 at h
  refine Eq.trans (e111_187 ..) ?_
  exact (fb_K0i (fun _ q => fb_mo (y := 25) ow_25 q (fun q => GM25 _ _ _ (rfl : (1 : Int32) = nI 1) _ _ (rfl : (0 : Int32) = nI 0) q)) h (fun v0 T1 h2 => G111_193  _ _ _ _ _ _ rfl h2))
noncomputable def F111_182  (l0 : Nat) (s0 : Nat) (T : fS) : Option fR := (fif (ieq s0 6) (F111_187  l0 T) (F111_334  l0 T))
theorem G111_182 {z : Option mm_O} {T : fS} {r : fR}  (l0 : Nat) (ul1 : Value) (ul2 : Value) (ul3 : Value) (xs0 : Int32) (s0 : Nat) (hs0 : xs0 = nI s0) (h : F111_182  l0 s0 T = some r) : mm_L 111 182 [.ref l0, ul1, ul2, ul3] [.int xs0] (toS z T) = some (tR z r) := by
  unfold F111_182 at h
  refine Eq.trans (e111_182 ..) ?_
  exact (fb_if (cj_eq hs0 (rfl : (6 : Int32) = nI 6)) h (fun h1 => (G111_187  _ _ _ _ h1)) (fun h1 => (G111_334  _ _ _ _ h1)))
noncomputable def F111_176  (l0 : Nat) (T : fS) : Option fR := (fKi true (fif (fch T l0 6) (F25_0 l0 0 1 T) none) (fun v0 T1 => F111_182  l0 v0 T1))
theorem G111_176 {z : Option mm_O} {T : fS} {r : fR}  (l0 : Nat) (ul1 : Value) (ul2 : Value) (ul3 : Value) (h : F111_176  l0 T = some r) : mm_L 111 176 [.ref l0, ul1, ul2, ul3] [] (toS z T) = some (tR z r) := by
  unfold F111_176 at h
  refine Eq.trans (e111_176 ..) ?_
  exact (fb_K0i (fun _ q => fb_mo (y := 25) ow_25 q (fun q => GM25 _ _ _ (rfl : (0 : Int32) = nI 0) _ _ (rfl : (1 : Int32) = nI 1) q)) h (fun v0 T1 h2 => G111_182  _ _ _ _ _ _ rfl h2))
noncomputable def F111_172  (l0 : Nat) (s0 : Nat) (T : fS) : Option fR := (fif (ieq s0 1) (F111_176  l0 T) (F111_334  l0 T))
theorem G111_172 {z : Option mm_O} {T : fS} {r : fR}  (l0 : Nat) (ul1 : Value) (ul2 : Value) (ul3 : Value) (xs0 : Int32) (s0 : Nat) (hs0 : xs0 = nI s0) (h : F111_172  l0 s0 T = some r) : mm_L 111 172 [.ref l0, ul1, ul2, ul3] [.int xs0] (toS z T) = some (tR z r) := by
  unfold F111_172 at h
  refine Eq.trans (e111_172 ..) ?_
  exact (fb_if (cj_eq hs0 (rfl : (1 : Int32) = nI 1)) h (fun h1 => (G111_176  _ _ _ _ h1)) (fun h1 => (G111_334  _ _ _ _ h1)))
noncomputable def F111_166  (l0 : Nat) (T : fS) : Option fR := (fKi true (fif (fch T l0 6) (F25_0 l0 0 0 T) none) (fun v0 T1 => F111_172  l0 v0 T1))
theorem G111_166 {z : Option mm_O} {T : fS} {r : fR}  (l0 : Nat) (ul1 : Value) (ul2 : Value) (ul3 : Value) (h : F111_166  l0 T = some r) : mm_L 111 166 [.ref l0, ul1, ul2, ul3] [] (toS z T) = some (tR z r) := by
  unfold F111_166 at h
  refine Eq.trans (e111_166 ..) ?_
  exact (fb_K0i (fun _ q => fb_mo (y := 25) ow_25 q (fun q => GM25 _ _ _ (rfl : (0 : Int32) = nI 0) _ _ (rfl : (0 : Int32) = nI 0) q)) h (fun v0 T1 h2 => G111_172  _ _ _ _ _ _ rfl h2))
noncomputable def F111_161  (l0 : Nat) (s0 : Nat) (T : fS) : Option fR := (fif (ieq s0 4294967223) (F111_166  l0 T) (F111_334  l0 T))
theorem G111_161 {z : Option mm_O} {T : fS} {r : fR}  (l0 : Nat) (ul1 : Value) (ul2 : Value) (ul3 : Value) (xs0 : Int32) (s0 : Nat) (hs0 : xs0 = nI s0) (h : F111_161  l0 s0 T = some r) : mm_L 111 161 [.ref l0, ul1, ul2, ul3] [.int xs0] (toS z T) = some (tR z r) := by
  unfold F111_161 at h
  refine Eq.trans (e111_161 ..) ?_
  exact (fb_if (cj_eq hs0 (by decide : (-73 : Int32) = nI 4294967223)) h (fun h1 => (G111_166  _ _ _ _ h1)) (fun h1 => (G111_334  _ _ _ _ h1)))
noncomputable def F111_150  (l0 : Nat) (T : fS) : Option fR := (fKi true (F107_0 l0 5 4 4 0 2 2 5 T) (fun v0 T1 => F111_161  l0 v0 T1))
theorem G111_150 {z : Option mm_O} {T : fS} {r : fR}  (l0 : Nat) (ul1 : Value) (ul2 : Value) (ul3 : Value) (h : F111_150  l0 T = some r) : mm_L 111 150 [.ref l0, ul1, ul2, ul3] [] (toS z T) = some (tR z r) := by
  unfold F111_150 at h
  refine Eq.trans (e111_150 ..) ?_
  exact (fb_K0i (fun _ q => GM107 _ _ _ (rfl : (5 : Int32) = nI 5) _ _ (rfl : (4 : Int32) = nI 4) _ _ (rfl : (4 : Int32) = nI 4) _ _ (rfl : (0 : Int32) = nI 0) _ _ (rfl : (2 : Int32) = nI 2) _ _ (rfl : (2 : Int32) = nI 2) _ _ (rfl : (5 : Int32) = nI 5) q) h (fun v0 T1 h2 => G111_161  _ _ _ _ _ _ rfl h2))
noncomputable def F111_145  (l0 : Nat) (s0 : Nat) (T : fS) : Option fR := (fif (ieq s0 4294967223) (F111_150  l0 T) (F111_334  l0 T))
theorem G111_145 {z : Option mm_O} {T : fS} {r : fR}  (l0 : Nat) (ul1 : Value) (ul2 : Value) (ul3 : Value) (xs0 : Int32) (s0 : Nat) (hs0 : xs0 = nI s0) (h : F111_145  l0 s0 T = some r) : mm_L 111 145 [.ref l0, ul1, ul2, ul3] [.int xs0] (toS z T) = some (tR z r) := by
  unfold F111_145 at h
  refine Eq.trans (e111_145 ..) ?_
  exact (fb_if (cj_eq hs0 (by decide : (-73 : Int32) = nI 4294967223)) h (fun h1 => (G111_150  _ _ _ _ h1)) (fun h1 => (G111_334  _ _ _ _ h1)))
noncomputable def F111_133  (l0 : Nat) (T : fS) : Option fR := (fKi true (F107_0 l0 2 0 8 1 1 0 3 T) (fun v0 T1 => F111_145  l0 v0 T1))
theorem G111_133 {z : Option mm_O} {T : fS} {r : fR}  (l0 : Nat) (ul1 : Value) (ul2 : Value) (ul3 : Value) (h : F111_133  l0 T = some r) : mm_L 111 133 [.ref l0, ul1, ul2, ul3] [] (toS z T) = some (tR z r) := by
  unfold F111_133 at h
  refine Eq.trans (e111_133 ..) ?_
  exact (fb_K0i (fun _ q => GM107 _ _ _ (rfl : (2 : Int32) = nI 2) _ _ (rfl : (0 : Int32) = nI 0) _ _ (rfl : (8 : Int32) = nI 8) _ _ (rfl : (1 : Int32) = nI 1) _ _ (rfl : (1 : Int32) = nI 1) _ _ (rfl : (0 : Int32) = nI 0) _ _ (rfl : (3 : Int32) = nI 3) q) h (fun v0 T1 h2 => G111_145  _ _ _ _ _ _ rfl h2))
noncomputable def F111_128  (l0 : Nat) (s0 : Nat) (T : fS) : Option fR := (fif (ieq s0 4294967224) (F111_133  l0 T) (F111_334  l0 T))
theorem G111_128 {z : Option mm_O} {T : fS} {r : fR}  (l0 : Nat) (ul1 : Value) (ul2 : Value) (ul3 : Value) (xs0 : Int32) (s0 : Nat) (hs0 : xs0 = nI s0) (h : F111_128  l0 s0 T = some r) : mm_L 111 128 [.ref l0, ul1, ul2, ul3] [.int xs0] (toS z T) = some (tR z r) := by
  unfold F111_128 at h
  refine Eq.trans (e111_128 ..) ?_
  exact (fb_if (cj_eq hs0 (by decide : (-72 : Int32) = nI 4294967224)) h (fun h1 => (G111_133  _ _ _ _ h1)) (fun h1 => (G111_334  _ _ _ _ h1)))
noncomputable def F111_117  (l0 : Nat) (T : fS) : Option fR := (fKi true (F107_0 l0 5 4 4 0 2 2 4 T) (fun v0 T1 => F111_128  l0 v0 T1))
theorem G111_117 {z : Option mm_O} {T : fS} {r : fR}  (l0 : Nat) (ul1 : Value) (ul2 : Value) (ul3 : Value) (h : F111_117  l0 T = some r) : mm_L 111 117 [.ref l0, ul1, ul2, ul3] [] (toS z T) = some (tR z r) := by
  unfold F111_117 at h
  refine Eq.trans (e111_117 ..) ?_
  exact (fb_K0i (fun _ q => GM107 _ _ _ (rfl : (5 : Int32) = nI 5) _ _ (rfl : (4 : Int32) = nI 4) _ _ (rfl : (4 : Int32) = nI 4) _ _ (rfl : (0 : Int32) = nI 0) _ _ (rfl : (2 : Int32) = nI 2) _ _ (rfl : (2 : Int32) = nI 2) _ _ (rfl : (4 : Int32) = nI 4) q) h (fun v0 T1 h2 => G111_128  _ _ _ _ _ _ rfl h2))
noncomputable def F111_113  (l0 : Nat) (s0 : Nat) (T : fS) : Option fR := (fif (ieq s0 3) (F111_117  l0 T) (F111_334  l0 T))
theorem G111_113 {z : Option mm_O} {T : fS} {r : fR}  (l0 : Nat) (ul1 : Value) (ul2 : Value) (ul3 : Value) (xs0 : Int32) (s0 : Nat) (hs0 : xs0 = nI s0) (h : F111_113  l0 s0 T = some r) : mm_L 111 113 [.ref l0, ul1, ul2, ul3] [.int xs0] (toS z T) = some (tR z r) := by
  unfold F111_113 at h
  refine Eq.trans (e111_113 ..) ?_
  exact (fb_if (cj_eq hs0 (rfl : (3 : Int32) = nI 3)) h (fun h1 => (G111_117  _ _ _ _ h1)) (fun h1 => (G111_334  _ _ _ _ h1)))
noncomputable def F111_102  (l0 : Nat) (T : fS) : Option fR := (fKi true (fif (fch T l0 6) (F24_0 l0 5 4 4 0 2 2 3 T) none) (fun v0 T1 => F111_113  l0 v0 T1))
theorem G111_102 {z : Option mm_O} {T : fS} {r : fR}  (l0 : Nat) (ul1 : Value) (ul2 : Value) (ul3 : Value) (h : F111_102  l0 T = some r) : mm_L 111 102 [.ref l0, ul1, ul2, ul3] [] (toS z T) = some (tR z r) := by
  unfold F111_102 at h
  refine Eq.trans (e111_102 ..) ?_
  exact (fb_K0i (fun _ q => fb_mo (y := 24) ow_24 q (fun q => GM24 _ _ _ (rfl : (5 : Int32) = nI 5) _ _ (rfl : (4 : Int32) = nI 4) _ _ (rfl : (4 : Int32) = nI 4) _ _ (rfl : (0 : Int32) = nI 0) _ _ (rfl : (2 : Int32) = nI 2) _ _ (rfl : (2 : Int32) = nI 2) _ _ (rfl : (3 : Int32) = nI 3) q)) h (fun v0 T1 h2 => G111_113  _ _ _ _ _ _ rfl h2))
noncomputable def F111_98  (l0 : Nat) (s0 : Nat) (T : fS) : Option fR := (fif (ieq s0 2) (F111_102  l0 T) (F111_334  l0 T))
theorem G111_98 {z : Option mm_O} {T : fS} {r : fR}  (l0 : Nat) (ul1 : Value) (ul2 : Value) (ul3 : Value) (xs0 : Int32) (s0 : Nat) (hs0 : xs0 = nI s0) (h : F111_98  l0 s0 T = some r) : mm_L 111 98 [.ref l0, ul1, ul2, ul3] [.int xs0] (toS z T) = some (tR z r) := by
  unfold F111_98 at h
  refine Eq.trans (e111_98 ..) ?_
  exact (fb_if (cj_eq hs0 (rfl : (2 : Int32) = nI 2)) h (fun h1 => (G111_102  _ _ _ _ h1)) (fun h1 => (G111_334  _ _ _ _ h1)))
noncomputable def F111_87  (l0 : Nat) (T : fS) : Option fR := (fKi true (fif (fch T l0 6) (F24_0 l0 5 4 4 0 2 2 5 T) none) (fun v0 T1 => F111_98  l0 v0 T1))
theorem G111_87 {z : Option mm_O} {T : fS} {r : fR}  (l0 : Nat) (ul1 : Value) (ul2 : Value) (ul3 : Value) (h : F111_87  l0 T = some r) : mm_L 111 87 [.ref l0, ul1, ul2, ul3] [] (toS z T) = some (tR z r) := by
  unfold F111_87 at h
  refine Eq.trans (e111_87 ..) ?_
  exact (fb_K0i (fun _ q => fb_mo (y := 24) ow_24 q (fun q => GM24 _ _ _ (rfl : (5 : Int32) = nI 5) _ _ (rfl : (4 : Int32) = nI 4) _ _ (rfl : (4 : Int32) = nI 4) _ _ (rfl : (0 : Int32) = nI 0) _ _ (rfl : (2 : Int32) = nI 2) _ _ (rfl : (2 : Int32) = nI 2) _ _ (rfl : (5 : Int32) = nI 5) q)) h (fun v0 T1 h2 => G111_98  _ _ _ _ _ _ rfl h2))
noncomputable def F111_83  (l0 : Nat) (s0 : Nat) (T : fS) : Option fR := (fif (ieq s0 1) (F111_87  l0 T) (F111_334  l0 T))
theorem G111_83 {z : Option mm_O} {T : fS} {r : fR}  (l0 : Nat) (ul1 : Value) (ul2 : Value) (ul3 : Value) (xs0 : Int32) (s0 : Nat) (hs0 : xs0 = nI s0) (h : F111_83  l0 s0 T = some r) : mm_L 111 83 [.ref l0, ul1, ul2, ul3] [.int xs0] (toS z T) = some (tR z r) := by
  unfold F111_83 at h
  refine Eq.trans (e111_83 ..) ?_
  exact (fb_if (cj_eq hs0 (rfl : (1 : Int32) = nI 1)) h (fun h1 => (G111_87  _ _ _ _ h1)) (fun h1 => (G111_334  _ _ _ _ h1)))
noncomputable def F111_72  (l0 : Nat) (T : fS) : Option fR := (fKi true (fif (fch T l0 6) (F24_0 l0 5 4 4 0 2 1 0 T) none) (fun v0 T1 => F111_83  l0 v0 T1))
theorem G111_72 {z : Option mm_O} {T : fS} {r : fR}  (l0 : Nat) (ul1 : Value) (ul2 : Value) (ul3 : Value) (h : F111_72  l0 T = some r) : mm_L 111 72 [.ref l0, ul1, ul2, ul3] [] (toS z T) = some (tR z r) := by
  unfold F111_72 at h
  refine Eq.trans (e111_72 ..) ?_
  exact (fb_K0i (fun _ q => fb_mo (y := 24) ow_24 q (fun q => GM24 _ _ _ (rfl : (5 : Int32) = nI 5) _ _ (rfl : (4 : Int32) = nI 4) _ _ (rfl : (4 : Int32) = nI 4) _ _ (rfl : (0 : Int32) = nI 0) _ _ (rfl : (2 : Int32) = nI 2) _ _ (rfl : (1 : Int32) = nI 1) _ _ (rfl : (0 : Int32) = nI 0) q)) h (fun v0 T1 h2 => G111_83  _ _ _ _ _ _ rfl h2))
noncomputable def F111_68  (l0 : Nat) (s0 : Nat) (T : fS) : Option fR := (fif (ieq s0 4294967295) (F111_72  l0 T) (F111_334  l0 T))
theorem G111_68 {z : Option mm_O} {T : fS} {r : fR}  (l0 : Nat) (ul1 : Value) (ul2 : Value) (ul3 : Value) (xs0 : Int32) (s0 : Nat) (hs0 : xs0 = nI s0) (h : F111_68  l0 s0 T = some r) : mm_L 111 68 [.ref l0, ul1, ul2, ul3] [.int xs0] (toS z T) = some (tR z r) := by
  unfold F111_68 at h
  refine Eq.trans (e111_68 ..) ?_
  exact (fb_if (cj_eq hs0 (by decide : (-1 : Int32) = nI 4294967295)) h (fun h1 => (G111_72  _ _ _ _ h1)) (fun h1 => (G111_334  _ _ _ _ h1)))
noncomputable def F111_62  (l0 : Nat) (T : fS) : Option fR := (fKi true (fif (fch T l0 6) (F25_0 l0 0 1 T) none) (fun v0 T1 => F111_68  l0 v0 T1))
theorem G111_62 {z : Option mm_O} {T : fS} {r : fR}  (l0 : Nat) (ul1 : Value) (ul2 : Value) (ul3 : Value) (h : F111_62  l0 T = some r) : mm_L 111 62 [.ref l0, ul1, ul2, ul3] [] (toS z T) = some (tR z r) := by
  unfold F111_62 at h
  refine Eq.trans (e111_62 ..) ?_
  exact (fb_K0i (fun _ q => fb_mo (y := 25) ow_25 q (fun q => GM25 _ _ _ (rfl : (0 : Int32) = nI 0) _ _ (rfl : (1 : Int32) = nI 1) q)) h (fun v0 T1 h2 => G111_68  _ _ _ _ _ _ rfl h2))
noncomputable def F111_58  (l0 : Nat) (s0 : Nat) (T : fS) : Option fR := (fif (ieq s0 4294967295) (F111_62  l0 T) (F111_334  l0 T))
theorem G111_58 {z : Option mm_O} {T : fS} {r : fR}  (l0 : Nat) (ul1 : Value) (ul2 : Value) (ul3 : Value) (xs0 : Int32) (s0 : Nat) (hs0 : xs0 = nI s0) (h : F111_58  l0 s0 T = some r) : mm_L 111 58 [.ref l0, ul1, ul2, ul3] [.int xs0] (toS z T) = some (tR z r) := by
  unfold F111_58 at h
  refine Eq.trans (e111_58 ..) ?_
  exact (fb_if (cj_eq hs0 (by decide : (-1 : Int32) = nI 4294967295)) h (fun h1 => (G111_62  _ _ _ _ h1)) (fun h1 => (G111_334  _ _ _ _ h1)))
noncomputable def F111_52  (l0 : Nat) (T : fS) : Option fR := (fKi true (fif (fch T l0 6) (F25_0 l0 0 0 T) none) (fun v0 T1 => F111_58  l0 v0 T1))
theorem G111_52 {z : Option mm_O} {T : fS} {r : fR}  (l0 : Nat) (ul1 : Value) (ul2 : Value) (ul3 : Value) (h : F111_52  l0 T = some r) : mm_L 111 52 [.ref l0, ul1, ul2, ul3] [] (toS z T) = some (tR z r) := by
  unfold F111_52 at h
  refine Eq.trans (e111_52 ..) ?_
  exact (fb_K0i (fun _ q => fb_mo (y := 25) ow_25 q (fun q => GM25 _ _ _ (rfl : (0 : Int32) = nI 0) _ _ (rfl : (0 : Int32) = nI 0) q)) h (fun v0 T1 h2 => G111_58  _ _ _ _ _ _ rfl h2))
noncomputable def F111_49  (l0 : Nat) (s0 : Nat) (T : fS) : Option fR := (fif (ieq s0 0) (F111_52  l0 T) (F111_334  l0 T))
theorem G111_49 {z : Option mm_O} {T : fS} {r : fR}  (l0 : Nat) (ul1 : Value) (ul2 : Value) (ul3 : Value) (xs0 : Int32) (s0 : Nat) (hs0 : xs0 = nI s0) (h : F111_49  l0 s0 T = some r) : mm_L 111 49 [.ref l0, ul1, ul2, ul3] [.int xs0] (toS z T) = some (tR z r) := by
  unfold F111_49 at h
  refine Eq.trans (e111_49 ..) ?_
  exact (fb_if (cj_eq hs0 (rfl : (0 : Int32) = nI 0)) h (fun h1 => (G111_52  _ _ _ _ h1)) (fun h1 => (G111_334  _ _ _ _ h1)))
noncomputable def F111_36  (l0 : Nat) (T : fS) : Option fR := (fKi true (fif (fch T l0 6) (F24_0 l0 2 0 8 1 1 0 9 T) none) (fun v0 T1 => F111_49  l0 v0 T1))
theorem G111_36 {z : Option mm_O} {T : fS} {r : fR}  (l0 : Nat) (ul1 : Value) (ul2 : Value) (ul3 : Value) (h : F111_36  l0 T = some r) : mm_L 111 36 [.ref l0, ul1, ul2, ul3] [] (toS z T) = some (tR z r) := by
  unfold F111_36 at h
  refine Eq.trans (e111_36 ..) ?_
  exact (fb_K0i (fun _ q => fb_mo (y := 24) ow_24 q (fun q => GM24 _ _ _ (rfl : (2 : Int32) = nI 2) _ _ (rfl : (0 : Int32) = nI 0) _ _ (rfl : (8 : Int32) = nI 8) _ _ (rfl : (1 : Int32) = nI 1) _ _ (rfl : (1 : Int32) = nI 1) _ _ (rfl : (0 : Int32) = nI 0) _ _ (rfl : (9 : Int32) = nI 9) q)) h (fun v0 T1 h2 => G111_49  _ _ _ _ _ _ rfl h2))
noncomputable def F111_33  (l0 : Nat) (s0 : Nat) (T : fS) : Option fR := (fif (ieq s0 0) (F111_36  l0 T) (F111_334  l0 T))
theorem G111_33 {z : Option mm_O} {T : fS} {r : fR}  (l0 : Nat) (ul1 : Value) (ul2 : Value) (ul3 : Value) (xs0 : Int32) (s0 : Nat) (hs0 : xs0 = nI s0) (h : F111_33  l0 s0 T = some r) : mm_L 111 33 [.ref l0, ul1, ul2, ul3] [.int xs0] (toS z T) = some (tR z r) := by
  unfold F111_33 at h
  refine Eq.trans (e111_33 ..) ?_
  exact (fb_if (cj_eq hs0 (rfl : (0 : Int32) = nI 0)) h (fun h1 => (G111_36  _ _ _ _ h1)) (fun h1 => (G111_334  _ _ _ _ h1)))
noncomputable def F111_29  (l0 : Nat) (T : fS) : Option fR := (fKi true (fif (fch T l0 6) (F37_0 l0  T) none) (fun v0 T1 => F111_33  l0 v0 T1))
theorem G111_29 {z : Option mm_O} {T : fS} {r : fR}  (l0 : Nat) (ul1 : Value) (ul2 : Value) (ul3 : Value) (h : F111_29  l0 T = some r) : mm_L 111 29 [.ref l0, ul1, ul2, ul3] [] (toS z T) = some (tR z r) := by
  unfold F111_29 at h
  refine Eq.trans (e111_29 ..) ?_
  exact (fb_K0i (fun _ q => fb_mo (y := 37) ow_37 q (fun q => GM37 _  q)) h (fun v0 T1 h2 => G111_33  _ _ _ _ _ _ rfl h2))
noncomputable def F111_25  (l0 : Nat) (s0 : Nat) (T : fS) : Option fR := (fif (ieq s0 4294967295) (F111_29  l0 T) (F111_334  l0 T))
theorem G111_25 {z : Option mm_O} {T : fS} {r : fR}  (l0 : Nat) (ul1 : Value) (ul2 : Value) (ul3 : Value) (xs0 : Int32) (s0 : Nat) (hs0 : xs0 = nI s0) (h : F111_25  l0 s0 T = some r) : mm_L 111 25 [.ref l0, ul1, ul2, ul3] [.int xs0] (toS z T) = some (tR z r) := by
  unfold F111_25 at h
  refine Eq.trans (e111_25 ..) ?_
  exact (fb_if (cj_eq hs0 (by decide : (-1 : Int32) = nI 4294967295)) h (fun h1 => (G111_29  _ _ _ _ h1)) (fun h1 => (G111_334  _ _ _ _ h1)))
noncomputable def F111_19  (l0 : Nat) (T : fS) : Option fR := (fKi true (fif (fch T l0 6) (F69_0 l0 0 0 T) none) (fun v0 T1 => F111_25  l0 v0 T1))
theorem G111_19 {z : Option mm_O} {T : fS} {r : fR}  (l0 : Nat) (ul1 : Value) (ul2 : Value) (ul3 : Value) (h : F111_19  l0 T = some r) : mm_L 111 19 [.ref l0, ul1, ul2, ul3] [] (toS z T) = some (tR z r) := by
  unfold F111_19 at h
  refine Eq.trans (e111_19 ..) ?_
  exact (fb_K0i (fun _ q => fb_mo (y := 69) ow_69 q (fun q => GM69 _ _ _ (rfl : (0 : Int32) = nI 0) _ _ (rfl : (0 : Int32) = nI 0) q)) h (fun v0 T1 h2 => G111_25  _ _ _ _ _ _ rfl h2))
noncomputable def F111_16  (l0 : Nat) (s0 : Nat) (T : fS) : Option fR := (fif (ieq s0 0) (F111_334  l0 T) (F111_19  l0 T))
theorem G111_16 {z : Option mm_O} {T : fS} {r : fR}  (l0 : Nat) (ul1 : Value) (ul2 : Value) (ul3 : Value) (xs0 : Int32) (s0 : Nat) (hs0 : xs0 = nI s0) (h : F111_16  l0 s0 T = some r) : mm_L 111 16 [.ref l0, ul1, ul2, ul3] [.int xs0] (toS z T) = some (tR z r) := by
  unfold F111_16 at h
  refine Eq.trans (e111_16 ..) ?_
  exact (fb_if (cj_eq hs0 (rfl : (0 : Int32) = nI 0)) h (fun h1 => (G111_334  _ _ _ _ h1)) (fun h1 => (G111_19  _ _ _ _ h1)))
noncomputable def F111_7  (s0 : Nat) (T : fS) : Option fR := (fKi true (F110_0 s0 0 0 0 0 T) (fun v0 T1 => F111_16  s0 v0 T1))
theorem G111_7 {z : Option mm_O} {T : fS} {r : fR}  (ul0 : Value) (ul1 : Value) (ul2 : Value) (ul3 : Value) (s0 : Nat) (h : F111_7  s0 T = some r) : mm_L 111 7 [ul0, ul1, ul2, ul3] [.ref s0] (toS z T) = some (tR z r) := by
  unfold F111_7 at h
  refine Eq.trans (e111_7 ..) ?_
  exact (fb_K0i (fun _ q => GM110 _ _ _ (rfl : (0 : Int32) = nI 0) _ _ (rfl : (0 : Int32) = nI 0) _ _ (rfl : (0 : Int32) = nI 0) _ _ (rfl : (0 : Int32) = nI 0) q) h (fun v0 T1 h2 => G111_16  _ _ _ _ _ _ rfl h2))
noncomputable def F111_0   (T : fS) : Option fR := (fgd T (fKv false (fif (fch (fnw T (.inl (6, [.inr none, .inr none, .inr none, .inr none, .inr none, .inr none, .inr none, .inr none]) : fO) 8) T.2.1 6) (F23_0 T.2.1  (fnw T (.inl (6, [.inr none, .inr none, .inr none, .inr none, .inr none, .inr none, .inr none, .inr none]) : fO) 8)) none) (fun T1 => F111_7  T.2.1 T1)))
theorem G111_0 {z : Option mm_O} {T : fS} {r : fR}  (ul0 : Value) (ul1 : Value) (ul2 : Value) (ul3 : Value) (h : F111_0   T = some r) : mm_L 111 0 [ul0, ul1, ul2, ul3] [] (toS z T) = some (tR z r) := by
  unfold F111_0 at h
  refine Eq.trans (e111_0 ..) ?_
  have hg0 := fgd_in h
  replace h := hg0.2
  rw [show mm_new (toS z T) (.inl (6, [.null, .null, .null, .null, .null, .null, .null, .null])) 8 = toS z (fnw T (.inl (6, [.inr none, .inr none, .inr none, .inr none, .inr none, .inr none, .inr none, .inr none]) : fO) 8) from fnw_ok (o := (.inl (6, [.inr none, .inr none, .inr none, .inr none, .inr none, .inr none, .inr none, .inr none]) : fO)) hg0.1]
  exact (fb_K2v (fun _ q => fb_mo (y := 23) ow_23 q (fun q => GM23 _  q)) h (fun T1 h2 => G111_7  _ _ _ _ _ h2))
theorem GM111 {z : Option mm_O} {T : fS} {r : fR}  (h : F111_0  T = some r) : mm_M 111 [] (toS z T) = some (tR z r) := Eq.trans (M_111 ..) (G111_0 _ _ _ _ h)
