-- 6: HandArchive$Hands.<init>
noncomputable def F6_53  (l0 : Nat) (l1 : Nat) (l2 : Nat) (l3 : Nat) (l4 : Nat) (l5 : Nat) (l6 : Nat) (l7 : Nat) (T : fS) : Option fR := (some ((.inl none, T) : fR))
theorem G6_53 {z : Option mm_O} {T : fS} {r : fR}  (l0 : Nat) (xl1 : Int32) (l1 : Nat) (hl1 : xl1 = nI l1) (xl2 : Int32) (l2 : Nat) (hl2 : xl2 = nI l2) (xl3 : Int32) (l3 : Nat) (hl3 : xl3 = nI l3) (xl4 : Int32) (l4 : Nat) (hl4 : xl4 = nI l4) (xl5 : Int32) (l5 : Nat) (hl5 : xl5 = nI l5) (xl6 : Int32) (l6 : Nat) (hl6 : xl6 = nI l6) (xl7 : Int32) (l7 : Nat) (hl7 : xl7 = nI l7) (h : F6_53  l0 l1 l2 l3 l4 l5 l6 l7 T = some r) : mm_L 6 53 [.ref l0, .int xl1, .int xl2, .int xl3, .int xl4, .int xl5, .int xl6, .int xl7] [] (toS z T) = some (tR z r) := by
  unfold F6_53 at h
  refine Eq.trans (e6_53 ..) ?_
  exact (fr_v h)
noncomputable def F6_50  (l0 : Nat) (l1 : Nat) (l2 : Nat) (l3 : Nat) (l4 : Nat) (l5 : Nat) (l6 : Nat) (l7 : Nat) (s0 : Nat) (s1 : Nat) (T : fS) : Option fR := (fbs (fsf T s1 1 6 (.inl s0)) (fun T1 => F6_53  l0 l1 l2 l3 l4 l5 l6 l7 T1))
theorem G6_50 {z : Option mm_O} {T : fS} {r : fR}  (l0 : Nat) (xl1 : Int32) (l1 : Nat) (hl1 : xl1 = nI l1) (xl2 : Int32) (l2 : Nat) (hl2 : xl2 = nI l2) (xl3 : Int32) (l3 : Nat) (hl3 : xl3 = nI l3) (xl4 : Int32) (l4 : Nat) (hl4 : xl4 = nI l4) (xl5 : Int32) (l5 : Nat) (hl5 : xl5 = nI l5) (xl6 : Int32) (l6 : Nat) (hl6 : xl6 = nI l6) (xl7 : Int32) (l7 : Nat) (hl7 : xl7 = nI l7) (xs0 : Int32) (s0 : Nat) (hs0 : xs0 = nI s0) (s1 : Nat) (h : F6_50  l0 l1 l2 l3 l4 l5 l6 l7 s0 s1 T = some r) : mm_L 6 50 [.ref l0, .int xl1, .int xl2, .int xl3, .int xl4, .int xl5, .int xl6, .int xl7] [.int xs0, .ref s1] (toS z T) = some (tR z r) := by
  unfold F6_50 at h
  refine Eq.trans (e6_50 ..) ?_
  exact (fb_s (fun _ q => (fun q => by rw [hs0]; exact fsf_ok (v := .inl s0) q) q) h (fun T1 h2 => G6_53  _ _ _ hl1 _ _ hl2 _ _ hl3 _ _ hl4 _ _ hl5 _ _ hl6 _ _ hl7 h2))
noncomputable def F6_44  (l0 : Nat) (l1 : Nat) (l2 : Nat) (l3 : Nat) (l4 : Nat) (l5 : Nat) (l6 : Nat) (l7 : Nat) (s0 : Nat) (T : fS) : Option fR := (F6_50  l0 l1 l2 l3 l4 l5 l6 l7 l7 s0 T)
theorem G6_44 {z : Option mm_O} {T : fS} {r : fR}  (l0 : Nat) (xl1 : Int32) (l1 : Nat) (hl1 : xl1 = nI l1) (xl2 : Int32) (l2 : Nat) (hl2 : xl2 = nI l2) (xl3 : Int32) (l3 : Nat) (hl3 : xl3 = nI l3) (xl4 : Int32) (l4 : Nat) (hl4 : xl4 = nI l4) (xl5 : Int32) (l5 : Nat) (hl5 : xl5 = nI l5) (xl6 : Int32) (l6 : Nat) (hl6 : xl6 = nI l6) (xl7 : Int32) (l7 : Nat) (hl7 : xl7 = nI l7) (s0 : Nat) (h : F6_44  l0 l1 l2 l3 l4 l5 l6 l7 s0 T = some r) : mm_L 6 44 [.ref l0, .int xl1, .int xl2, .int xl3, .int xl4, .int xl5, .int xl6, .int xl7] [.ref s0] (toS z T) = some (tR z r) := by
  unfold F6_44 at h
  refine Eq.trans (e6_44 ..) ?_
  exact (G6_50  _ _ _ hl1 _ _ hl2 _ _ hl3 _ _ hl4 _ _ hl5 _ _ hl6 _ _ hl7 _ _ hl7 _ h)
noncomputable def F6_49  (l0 : Nat) (l1 : Nat) (l2 : Nat) (l3 : Nat) (l4 : Nat) (l5 : Nat) (l6 : Nat) (l7 : Nat) (s0 : Nat) (T : fS) : Option fR := (F6_50  l0 l1 l2 l3 l4 l5 l6 l7 4294967295 s0 T)
theorem G6_49 {z : Option mm_O} {T : fS} {r : fR}  (l0 : Nat) (xl1 : Int32) (l1 : Nat) (hl1 : xl1 = nI l1) (xl2 : Int32) (l2 : Nat) (hl2 : xl2 = nI l2) (xl3 : Int32) (l3 : Nat) (hl3 : xl3 = nI l3) (xl4 : Int32) (l4 : Nat) (hl4 : xl4 = nI l4) (xl5 : Int32) (l5 : Nat) (hl5 : xl5 = nI l5) (xl6 : Int32) (l6 : Nat) (hl6 : xl6 = nI l6) (xl7 : Int32) (l7 : Nat) (hl7 : xl7 = nI l7) (s0 : Nat) (h : F6_49  l0 l1 l2 l3 l4 l5 l6 l7 s0 T = some r) : mm_L 6 49 [.ref l0, .int xl1, .int xl2, .int xl3, .int xl4, .int xl5, .int xl6, .int xl7] [.ref s0] (toS z T) = some (tR z r) := by
  unfold F6_49 at h
  refine Eq.trans (e6_49 ..) ?_
  exact (G6_50  _ _ _ hl1 _ _ hl2 _ _ hl3 _ _ hl4 _ _ hl5 _ _ hl6 _ _ hl7 _ _ (by decide : (-1 : Int32) = nI 4294967295) _ h)
noncomputable def F6_37  (l0 : Nat) (l1 : Nat) (l2 : Nat) (l3 : Nat) (l4 : Nat) (l5 : Nat) (l6 : Nat) (l7 : Nat) (T : fS) : Option fR := (fif (ieq l6 2) (F6_44  l0 l1 l2 l3 l4 l5 l6 l7 l0 T) (F6_49  l0 l1 l2 l3 l4 l5 l6 l7 l0 T))
theorem G6_37 {z : Option mm_O} {T : fS} {r : fR}  (l0 : Nat) (xl1 : Int32) (l1 : Nat) (hl1 : xl1 = nI l1) (xl2 : Int32) (l2 : Nat) (hl2 : xl2 = nI l2) (xl3 : Int32) (l3 : Nat) (hl3 : xl3 = nI l3) (xl4 : Int32) (l4 : Nat) (hl4 : xl4 = nI l4) (xl5 : Int32) (l5 : Nat) (hl5 : xl5 = nI l5) (xl6 : Int32) (l6 : Nat) (hl6 : xl6 = nI l6) (xl7 : Int32) (l7 : Nat) (hl7 : xl7 = nI l7) (h : F6_37  l0 l1 l2 l3 l4 l5 l6 l7 T = some r) : mm_L 6 37 [.ref l0, .int xl1, .int xl2, .int xl3, .int xl4, .int xl5, .int xl6, .int xl7] [] (toS z T) = some (tR z r) := by
  unfold F6_37 at h
  refine Eq.trans (e6_37 ..) ?_
  exact (fb_if (cj_eq hl6 (rfl : (2 : Int32) = nI 2)) h (fun h1 => (G6_44  _ _ _ hl1 _ _ hl2 _ _ hl3 _ _ hl4 _ _ hl5 _ _ hl6 _ _ hl7 _ h1)) (fun h1 => (G6_49  _ _ _ hl1 _ _ hl2 _ _ hl3 _ _ hl4 _ _ hl5 _ _ hl6 _ _ hl7 _ h1)))
noncomputable def F6_31  (l0 : Nat) (l1 : Nat) (l2 : Nat) (l3 : Nat) (l4 : Nat) (l5 : Nat) (l6 : Nat) (l7 : Nat) (T : fS) : Option fR := (fbs (fsf T l0 1 5 (.inl l6)) (fun T1 => F6_37  l0 l1 l2 l3 l4 l5 l6 l7 T1))
theorem G6_31 {z : Option mm_O} {T : fS} {r : fR}  (l0 : Nat) (xl1 : Int32) (l1 : Nat) (hl1 : xl1 = nI l1) (xl2 : Int32) (l2 : Nat) (hl2 : xl2 = nI l2) (xl3 : Int32) (l3 : Nat) (hl3 : xl3 = nI l3) (xl4 : Int32) (l4 : Nat) (hl4 : xl4 = nI l4) (xl5 : Int32) (l5 : Nat) (hl5 : xl5 = nI l5) (xl6 : Int32) (l6 : Nat) (hl6 : xl6 = nI l6) (xl7 : Int32) (l7 : Nat) (hl7 : xl7 = nI l7) (h : F6_31  l0 l1 l2 l3 l4 l5 l6 l7 T = some r) : mm_L 6 31 [.ref l0, .int xl1, .int xl2, .int xl3, .int xl4, .int xl5, .int xl6, .int xl7] [] (toS z T) = some (tR z r) := by
  unfold F6_31 at h
  refine Eq.trans (e6_31 ..) ?_
  exact (fb_s (fun _ q => (fun q => by rw [hl6]; exact fsf_ok (v := .inl l6) q) q) h (fun T1 h2 => G6_37  _ _ _ hl1 _ _ hl2 _ _ hl3 _ _ hl4 _ _ hl5 _ _ hl6 _ _ hl7 h2))
noncomputable def F6_25  (l0 : Nat) (l1 : Nat) (l2 : Nat) (l3 : Nat) (l4 : Nat) (l5 : Nat) (l6 : Nat) (l7 : Nat) (T : fS) : Option fR := (fbs (fsf T l0 1 4 (.inl l5)) (fun T1 => F6_31  l0 l1 l2 l3 l4 l5 l6 l7 T1))
theorem G6_25 {z : Option mm_O} {T : fS} {r : fR}  (l0 : Nat) (xl1 : Int32) (l1 : Nat) (hl1 : xl1 = nI l1) (xl2 : Int32) (l2 : Nat) (hl2 : xl2 = nI l2) (xl3 : Int32) (l3 : Nat) (hl3 : xl3 = nI l3) (xl4 : Int32) (l4 : Nat) (hl4 : xl4 = nI l4) (xl5 : Int32) (l5 : Nat) (hl5 : xl5 = nI l5) (xl6 : Int32) (l6 : Nat) (hl6 : xl6 = nI l6) (xl7 : Int32) (l7 : Nat) (hl7 : xl7 = nI l7) (h : F6_25  l0 l1 l2 l3 l4 l5 l6 l7 T = some r) : mm_L 6 25 [.ref l0, .int xl1, .int xl2, .int xl3, .int xl4, .int xl5, .int xl6, .int xl7] [] (toS z T) = some (tR z r) := by
  unfold F6_25 at h
  refine Eq.trans (e6_25 ..) ?_
  exact (fb_s (fun _ q => (fun q => by rw [hl5]; exact fsf_ok (v := .inl l5) q) q) h (fun T1 h2 => G6_31  _ _ _ hl1 _ _ hl2 _ _ hl3 _ _ hl4 _ _ hl5 _ _ hl6 _ _ hl7 h2))
noncomputable def F6_19  (l0 : Nat) (l1 : Nat) (l2 : Nat) (l3 : Nat) (l4 : Nat) (l5 : Nat) (l6 : Nat) (l7 : Nat) (T : fS) : Option fR := (fbs (fsf T l0 1 3 (.inl l4)) (fun T1 => F6_25  l0 l1 l2 l3 l4 l5 l6 l7 T1))
theorem G6_19 {z : Option mm_O} {T : fS} {r : fR}  (l0 : Nat) (xl1 : Int32) (l1 : Nat) (hl1 : xl1 = nI l1) (xl2 : Int32) (l2 : Nat) (hl2 : xl2 = nI l2) (xl3 : Int32) (l3 : Nat) (hl3 : xl3 = nI l3) (xl4 : Int32) (l4 : Nat) (hl4 : xl4 = nI l4) (xl5 : Int32) (l5 : Nat) (hl5 : xl5 = nI l5) (xl6 : Int32) (l6 : Nat) (hl6 : xl6 = nI l6) (xl7 : Int32) (l7 : Nat) (hl7 : xl7 = nI l7) (h : F6_19  l0 l1 l2 l3 l4 l5 l6 l7 T = some r) : mm_L 6 19 [.ref l0, .int xl1, .int xl2, .int xl3, .int xl4, .int xl5, .int xl6, .int xl7] [] (toS z T) = some (tR z r) := by
  unfold F6_19 at h
  refine Eq.trans (e6_19 ..) ?_
  exact (fb_s (fun _ q => (fun q => by rw [hl4]; exact fsf_ok (v := .inl l4) q) q) h (fun T1 h2 => G6_25  _ _ _ hl1 _ _ hl2 _ _ hl3 _ _ hl4 _ _ hl5 _ _ hl6 _ _ hl7 h2))
noncomputable def F6_14  (l0 : Nat) (l1 : Nat) (l2 : Nat) (l3 : Nat) (l4 : Nat) (l5 : Nat) (l6 : Nat) (l7 : Nat) (T : fS) : Option fR := (fbs (fsf T l0 1 2 (.inl l3)) (fun T1 => F6_19  l0 l1 l2 l3 l4 l5 l6 l7 T1))
theorem G6_14 {z : Option mm_O} {T : fS} {r : fR}  (l0 : Nat) (xl1 : Int32) (l1 : Nat) (hl1 : xl1 = nI l1) (xl2 : Int32) (l2 : Nat) (hl2 : xl2 = nI l2) (xl3 : Int32) (l3 : Nat) (hl3 : xl3 = nI l3) (xl4 : Int32) (l4 : Nat) (hl4 : xl4 = nI l4) (xl5 : Int32) (l5 : Nat) (hl5 : xl5 = nI l5) (xl6 : Int32) (l6 : Nat) (hl6 : xl6 = nI l6) (xl7 : Int32) (l7 : Nat) (hl7 : xl7 = nI l7) (h : F6_14  l0 l1 l2 l3 l4 l5 l6 l7 T = some r) : mm_L 6 14 [.ref l0, .int xl1, .int xl2, .int xl3, .int xl4, .int xl5, .int xl6, .int xl7] [] (toS z T) = some (tR z r) := by
  unfold F6_14 at h
  refine Eq.trans (e6_14 ..) ?_
  exact (fb_s (fun _ q => (fun q => by rw [hl3]; exact fsf_ok (v := .inl l3) q) q) h (fun T1 h2 => G6_19  _ _ _ hl1 _ _ hl2 _ _ hl3 _ _ hl4 _ _ hl5 _ _ hl6 _ _ hl7 h2))
noncomputable def F6_9  (l0 : Nat) (l1 : Nat) (l2 : Nat) (l3 : Nat) (l4 : Nat) (l5 : Nat) (l6 : Nat) (l7 : Nat) (T : fS) : Option fR := (fbs (fsf T l0 1 1 (.inl l2)) (fun T1 => F6_14  l0 l1 l2 l3 l4 l5 l6 l7 T1))
theorem G6_9 {z : Option mm_O} {T : fS} {r : fR}  (l0 : Nat) (xl1 : Int32) (l1 : Nat) (hl1 : xl1 = nI l1) (xl2 : Int32) (l2 : Nat) (hl2 : xl2 = nI l2) (xl3 : Int32) (l3 : Nat) (hl3 : xl3 = nI l3) (xl4 : Int32) (l4 : Nat) (hl4 : xl4 = nI l4) (xl5 : Int32) (l5 : Nat) (hl5 : xl5 = nI l5) (xl6 : Int32) (l6 : Nat) (hl6 : xl6 = nI l6) (xl7 : Int32) (l7 : Nat) (hl7 : xl7 = nI l7) (h : F6_9  l0 l1 l2 l3 l4 l5 l6 l7 T = some r) : mm_L 6 9 [.ref l0, .int xl1, .int xl2, .int xl3, .int xl4, .int xl5, .int xl6, .int xl7] [] (toS z T) = some (tR z r) := by
  unfold F6_9 at h
  refine Eq.trans (e6_9 ..) ?_
  exact (fb_s (fun _ q => (fun q => by rw [hl2]; exact fsf_ok (v := .inl l2) q) q) h (fun T1 h2 => G6_14  _ _ _ hl1 _ _ hl2 _ _ hl3 _ _ hl4 _ _ hl5 _ _ hl6 _ _ hl7 h2))
noncomputable def F6_0  (l0 : Nat) (l1 : Nat) (l2 : Nat) (l3 : Nat) (l4 : Nat) (l5 : Nat) (l6 : Nat) (l7 : Nat) (T : fS) : Option fR := (fbs (fsf T l0 1 0 (.inl l1)) (fun T1 => F6_9  l0 l1 l2 l3 l4 l5 l6 l7 T1))
theorem G6_0 {z : Option mm_O} {T : fS} {r : fR}  (l0 : Nat) (xl1 : Int32) (l1 : Nat) (hl1 : xl1 = nI l1) (xl2 : Int32) (l2 : Nat) (hl2 : xl2 = nI l2) (xl3 : Int32) (l3 : Nat) (hl3 : xl3 = nI l3) (xl4 : Int32) (l4 : Nat) (hl4 : xl4 = nI l4) (xl5 : Int32) (l5 : Nat) (hl5 : xl5 = nI l5) (xl6 : Int32) (l6 : Nat) (hl6 : xl6 = nI l6) (xl7 : Int32) (l7 : Nat) (hl7 : xl7 = nI l7) (h : F6_0  l0 l1 l2 l3 l4 l5 l6 l7 T = some r) : mm_L 6 0 [.ref l0, .int xl1, .int xl2, .int xl3, .int xl4, .int xl5, .int xl6, .int xl7] [] (toS z T) = some (tR z r) := by
  unfold F6_0 at h
  refine Eq.trans (e6_0 ..) ?_
  exact (fb_s (fun _ q => (fun q => by rw [hl1]; exact fsf_ok (v := .inl l1) q) q) h (fun T1 h2 => G6_9  _ _ _ hl1 _ _ hl2 _ _ hl3 _ _ hl4 _ _ hl5 _ _ hl6 _ _ hl7 h2))
theorem GM6 {z : Option mm_O} {T : fS} {r : fR} (l0 : Nat) (xl1 : Int32) (l1 : Nat) (hl1 : xl1 = nI l1) (xl2 : Int32) (l2 : Nat) (hl2 : xl2 = nI l2) (xl3 : Int32) (l3 : Nat) (hl3 : xl3 = nI l3) (xl4 : Int32) (l4 : Nat) (hl4 : xl4 = nI l4) (xl5 : Int32) (l5 : Nat) (hl5 : xl5 = nI l5) (xl6 : Int32) (l6 : Nat) (hl6 : xl6 = nI l6) (xl7 : Int32) (l7 : Nat) (hl7 : xl7 = nI l7) (h : F6_0 l0 l1 l2 l3 l4 l5 l6 l7 T = some r) : mm_M 6 [.ref l0, .int xl1, .int xl2, .int xl3, .int xl4, .int xl5, .int xl6, .int xl7] (toS z T) = some (tR z r) := Eq.trans (M_6 ..) (G6_0 l0 xl1 l1 hl1 xl2 l2 hl2 xl3 l3 hl3 xl4 l4 hl4 xl5 l5 hl5 xl6 l6 hl6 xl7 l7 hl7 h)
-- 9: HandArchive$Hands.isJustLike
noncomputable def F9_24  (l0 : Nat) (l1 : Nat) (s0 : Nat) (T : fS) : Option fR := (fif (Bool.rec (motive := fun _ => Bool) (ieq s0 1) true (ieq s0 0)) (some ((.inl (some (.inl s0)), T) : fR)) (none : Option fR))
theorem G9_24 {z : Option mm_O} {T : fS} {r : fR}  (l0 : Nat) (l1 : Nat) (xs0 : Int32) (s0 : Nat) (hs0 : xs0 = nI s0) (h : F9_24  l0 l1 s0 T = some r) : mm_L 9 24 [.ref l0, .ref l1] [.int xs0] (toS z T) = some (tR z r) := by
  unfold F9_24 at h
  refine Eq.trans (e9_24 ..) ?_
  exact (fb_if (cj_01 hs0) h (fun h1 => (fr_i hs0 h1)) (fun h1 => (fr_n h1)))
noncomputable def F9_19  (l0 : Nat) (l1 : Nat) (T : fS) : Option fR := (F9_24  l0 l1 1 T)
theorem G9_19 {z : Option mm_O} {T : fS} {r : fR}  (l0 : Nat) (l1 : Nat) (h : F9_19  l0 l1 T = some r) : mm_L 9 19 [.ref l0, .ref l1] [] (toS z T) = some (tR z r) := by
  unfold F9_19 at h
  refine Eq.trans (e9_19 ..) ?_
  exact (G9_24  _ _ _ _ (rfl : (1 : Int32) = nI 1) h)
noncomputable def F9_23  (l0 : Nat) (l1 : Nat) (T : fS) : Option fR := (F9_24  l0 l1 0 T)
theorem G9_23 {z : Option mm_O} {T : fS} {r : fR}  (l0 : Nat) (l1 : Nat) (h : F9_23  l0 l1 T = some r) : mm_L 9 23 [.ref l0, .ref l1] [] (toS z T) = some (tR z r) := by
  unfold F9_23 at h
  refine Eq.trans (e9_23 ..) ?_
  exact (G9_24  _ _ _ _ (rfl : (0 : Int32) = nI 0) h)
noncomputable def F9_16  (l0 : Nat) (l1 : Nat) (s0 : Nat) (s1 : Nat) (T : fS) : Option fR := (fif (ieq s1 s0) (F9_19  l0 l1 T) (F9_23  l0 l1 T))
theorem G9_16 {z : Option mm_O} {T : fS} {r : fR}  (l0 : Nat) (l1 : Nat) (xs0 : Int32) (s0 : Nat) (hs0 : xs0 = nI s0) (xs1 : Int32) (s1 : Nat) (hs1 : xs1 = nI s1) (h : F9_16  l0 l1 s0 s1 T = some r) : mm_L 9 16 [.ref l0, .ref l1] [.int xs0, .int xs1] (toS z T) = some (tR z r) := by
  unfold F9_16 at h
  refine Eq.trans (e9_16 ..) ?_
  exact (fb_if (cj_eq hs1 hs0) h (fun h1 => (G9_19  _ _ h1)) (fun h1 => (G9_23  _ _ h1)))
noncomputable def F9_12  (l0 : Nat) (l1 : Nat) (s0 : Nat) (T : fS) : Option fR := (fbn (fgi T l1 1 6) (fun v0 => F9_16  l0 l1 v0 s0 T))
theorem G9_12 {z : Option mm_O} {T : fS} {r : fR}  (l0 : Nat) (l1 : Nat) (xs0 : Int32) (s0 : Nat) (hs0 : xs0 = nI s0) (h : F9_12  l0 l1 s0 T = some r) : mm_L 9 12 [.ref l0, .ref l1] [.int xs0] (toS z T) = some (tR z r) := by
  unfold F9_12 at h
  refine Eq.trans (e9_12 ..) ?_
  exact (fb_n (fun _ q => fgi_ok q) h (fun v0 h2 => G9_16  _ _ _ _ rfl _ _ hs0 h2))
noncomputable def F9_8  (l0 : Nat) (l1 : Nat) (T : fS) : Option fR := (fbn (fgi T l0 1 6) (fun v0 => F9_12  l0 l1 v0 T))
theorem G9_8 {z : Option mm_O} {T : fS} {r : fR}  (l0 : Nat) (l1 : Nat) (h : F9_8  l0 l1 T = some r) : mm_L 9 8 [.ref l0, .ref l1] [] (toS z T) = some (tR z r) := by
  unfold F9_8 at h
  refine Eq.trans (e9_8 ..) ?_
  exact (fb_n (fun _ q => fgi_ok q) h (fun v0 h2 => G9_12  _ _ _ _ rfl h2))
noncomputable def F9_5  (l0 : Nat) (l1 : Nat) (s0 : Nat) (T : fS) : Option fR := (fif (ieq s0 0) (F9_8  l0 l1 T) (F9_23  l0 l1 T))
theorem G9_5 {z : Option mm_O} {T : fS} {r : fR}  (l0 : Nat) (l1 : Nat) (xs0 : Int32) (s0 : Nat) (hs0 : xs0 = nI s0) (h : F9_5  l0 l1 s0 T = some r) : mm_L 9 5 [.ref l0, .ref l1] [.int xs0] (toS z T) = some (tR z r) := by
  unfold F9_5 at h
  refine Eq.trans (e9_5 ..) ?_
  exact (fb_if (cj_eq hs0 (rfl : (0 : Int32) = nI 0)) h (fun h1 => (G9_8  _ _ h1)) (fun h1 => (G9_23  _ _ h1)))
noncomputable def F9_0  (l0 : Nat) (l1 : Nat) (T : fS) : Option fR := (fKi true (fif (fch T l0 1) (F8_0 l0 l1 T) none) (fun v0 T1 => F9_5  l0 l1 v0 T1))
theorem G9_0 {z : Option mm_O} {T : fS} {r : fR}  (l0 : Nat) (l1 : Nat) (h : F9_0  l0 l1 T = some r) : mm_L 9 0 [.ref l0, .ref l1] [] (toS z T) = some (tR z r) := by
  unfold F9_0 at h
  refine Eq.trans (e9_0 ..) ?_
  exact (fb_K0i (fun _ q => fb_mo (y := 8) ow_8 q (fun q => GM8 _ _ q)) h (fun v0 T1 h2 => G9_5  _ _ _ _ rfl h2))
theorem GM9 {z : Option mm_O} {T : fS} {r : fR} (l0 : Nat) (l1 : Nat) (h : F9_0 l0 l1 T = some r) : mm_M 9 [.ref l0, .ref l1] (toS z T) = some (tR z r) := Eq.trans (M_9 ..) (G9_0 l0 l1 h)
-- 11: HandArchive$Hands.isStill
noncomputable def F11_23  (l0 : Nat) (s0 : Nat) (T : fS) : Option fR := (fif (Bool.rec (motive := fun _ => Bool) (ieq s0 1) true (ieq s0 0)) (some ((.inl (some (.inl s0)), T) : fR)) (none : Option fR))
theorem G11_23 {z : Option mm_O} {T : fS} {r : fR}  (l0 : Nat) (xs0 : Int32) (s0 : Nat) (hs0 : xs0 = nI s0) (h : F11_23  l0 s0 T = some r) : mm_L 11 23 [.ref l0] [.int xs0] (toS z T) = some (tR z r) := by
  unfold F11_23 at h
  refine Eq.trans (e11_23 ..) ?_
  exact (fb_if (cj_01 hs0) h (fun h1 => (fr_i hs0 h1)) (fun h1 => (fr_n h1)))
noncomputable def F11_18  (l0 : Nat) (T : fS) : Option fR := (F11_23  l0 1 T)
theorem G11_18 {z : Option mm_O} {T : fS} {r : fR}  (l0 : Nat) (h : F11_18  l0 T = some r) : mm_L 11 18 [.ref l0] [] (toS z T) = some (tR z r) := by
  unfold F11_18 at h
  refine Eq.trans (e11_18 ..) ?_
  exact (G11_23  _ _ _ (rfl : (1 : Int32) = nI 1) h)
noncomputable def F11_22  (l0 : Nat) (T : fS) : Option fR := (F11_23  l0 0 T)
theorem G11_22 {z : Option mm_O} {T : fS} {r : fR}  (l0 : Nat) (h : F11_22  l0 T = some r) : mm_L 11 22 [.ref l0] [] (toS z T) = some (tR z r) := by
  unfold F11_22 at h
  refine Eq.trans (e11_22 ..) ?_
  exact (G11_23  _ _ _ (rfl : (0 : Int32) = nI 0) h)
noncomputable def F11_15  (l0 : Nat) (s0 : Nat) (s1 : Nat) (T : fS) : Option fR := (fif (ieq s1 s0) (F11_18  l0 T) (F11_22  l0 T))
theorem G11_15 {z : Option mm_O} {T : fS} {r : fR}  (l0 : Nat) (xs0 : Int32) (s0 : Nat) (hs0 : xs0 = nI s0) (xs1 : Int32) (s1 : Nat) (hs1 : xs1 = nI s1) (h : F11_15  l0 s0 s1 T = some r) : mm_L 11 15 [.ref l0] [.int xs0, .int xs1] (toS z T) = some (tR z r) := by
  unfold F11_15 at h
  refine Eq.trans (e11_15 ..) ?_
  exact (fb_if (cj_eq hs1 hs0) h (fun h1 => (G11_18  _ h1)) (fun h1 => (G11_22  _ h1)))
noncomputable def F11_11  (l0 : Nat) (s0 : Nat) (T : fS) : Option fR := (fbn (fgi T l0 1 4) (fun v0 => F11_15  l0 v0 s0 T))
theorem G11_11 {z : Option mm_O} {T : fS} {r : fR}  (l0 : Nat) (xs0 : Int32) (s0 : Nat) (hs0 : xs0 = nI s0) (h : F11_11  l0 s0 T = some r) : mm_L 11 11 [.ref l0] [.int xs0] (toS z T) = some (tR z r) := by
  unfold F11_11 at h
  refine Eq.trans (e11_11 ..) ?_
  exact (fb_n (fun _ q => fgi_ok q) h (fun v0 h2 => G11_15  _ _ _ rfl _ _ hs0 h2))
noncomputable def F11_7  (l0 : Nat) (T : fS) : Option fR := (fbn (fgi T l0 1 3) (fun v0 => F11_11  l0 v0 T))
theorem G11_7 {z : Option mm_O} {T : fS} {r : fR}  (l0 : Nat) (h : F11_7  l0 T = some r) : mm_L 11 7 [.ref l0] [] (toS z T) = some (tR z r) := by
  unfold F11_7 at h
  refine Eq.trans (e11_7 ..) ?_
  exact (fb_n (fun _ q => fgi_ok q) h (fun v0 h2 => G11_11  _ _ _ rfl h2))
noncomputable def F11_4  (l0 : Nat) (s0 : Nat) (T : fS) : Option fR := (fif (ieq s0 0) (F11_7  l0 T) (F11_22  l0 T))
theorem G11_4 {z : Option mm_O} {T : fS} {r : fR}  (l0 : Nat) (xs0 : Int32) (s0 : Nat) (hs0 : xs0 = nI s0) (h : F11_4  l0 s0 T = some r) : mm_L 11 4 [.ref l0] [.int xs0] (toS z T) = some (tR z r) := by
  unfold F11_4 at h
  refine Eq.trans (e11_4 ..) ?_
  exact (fb_if (cj_eq hs0 (rfl : (0 : Int32) = nI 0)) h (fun h1 => (G11_7  _ h1)) (fun h1 => (G11_22  _ h1)))
noncomputable def F11_0  (l0 : Nat) (T : fS) : Option fR := (fKi true (fif (fch T l0 1) (F10_0 l0  T) none) (fun v0 T1 => F11_4  l0 v0 T1))
theorem G11_0 {z : Option mm_O} {T : fS} {r : fR}  (l0 : Nat) (h : F11_0  l0 T = some r) : mm_L 11 0 [.ref l0] [] (toS z T) = some (tR z r) := by
  unfold F11_0 at h
  refine Eq.trans (e11_0 ..) ?_
  exact (fb_K0i (fun _ q => fb_mo (y := 10) ow_10 q (fun q => GM10 _  q)) h (fun v0 T1 h2 => G11_4  _ _ _ rfl h2))
theorem GM11 {z : Option mm_O} {T : fS} {r : fR} (l0 : Nat) (h : F11_0 l0 T = some r) : mm_M 11 [.ref l0] (toS z T) = some (tR z r) := Eq.trans (M_11 ..) (G11_0 l0 h)
-- 15: HandArchive$Mark.<init>
noncomputable def F15_31  (l0 : Nat) (l1 : Nat) (l2 : Nat) (l3 : Nat) (l4 : Nat) (l5 : Nat) (T : fS) : Option fR := (some ((.inl none, T) : fR))
theorem G15_31 {z : Option mm_O} {T : fS} {r : fR}  (l0 : Nat) (xl1 : Int32) (l1 : Nat) (hl1 : xl1 = nI l1) (xl2 : Int32) (l2 : Nat) (hl2 : xl2 = nI l2) (xl3 : Int32) (l3 : Nat) (hl3 : xl3 = nI l3) (xl4 : Int32) (l4 : Nat) (hl4 : xl4 = nI l4) (xl5 : Int32) (l5 : Nat) (hl5 : xl5 = nI l5) (h : F15_31  l0 l1 l2 l3 l4 l5 T = some r) : mm_L 15 31 [.ref l0, .int xl1, .int xl2, .int xl3, .int xl4, .int xl5] [] (toS z T) = some (tR z r) := by
  unfold F15_31 at h
  refine Eq.trans (e15_31 ..) ?_
  exact (fr_v h)
noncomputable def F15_25  (l0 : Nat) (l1 : Nat) (l2 : Nat) (l3 : Nat) (l4 : Nat) (l5 : Nat) (T : fS) : Option fR := (fbs (fsf T l0 3 4 (.inl l5)) (fun T1 => F15_31  l0 l1 l2 l3 l4 l5 T1))
theorem G15_25 {z : Option mm_O} {T : fS} {r : fR}  (l0 : Nat) (xl1 : Int32) (l1 : Nat) (hl1 : xl1 = nI l1) (xl2 : Int32) (l2 : Nat) (hl2 : xl2 = nI l2) (xl3 : Int32) (l3 : Nat) (hl3 : xl3 = nI l3) (xl4 : Int32) (l4 : Nat) (hl4 : xl4 = nI l4) (xl5 : Int32) (l5 : Nat) (hl5 : xl5 = nI l5) (h : F15_25  l0 l1 l2 l3 l4 l5 T = some r) : mm_L 15 25 [.ref l0, .int xl1, .int xl2, .int xl3, .int xl4, .int xl5] [] (toS z T) = some (tR z r) := by
  unfold F15_25 at h
  refine Eq.trans (e15_25 ..) ?_
  exact (fb_s (fun _ q => (fun q => by rw [hl5]; exact fsf_ok (v := .inl l5) q) q) h (fun T1 h2 => G15_31  _ _ _ hl1 _ _ hl2 _ _ hl3 _ _ hl4 _ _ hl5 h2))
noncomputable def F15_19  (l0 : Nat) (l1 : Nat) (l2 : Nat) (l3 : Nat) (l4 : Nat) (l5 : Nat) (T : fS) : Option fR := (fbs (fsf T l0 3 3 (.inl l4)) (fun T1 => F15_25  l0 l1 l2 l3 l4 l5 T1))
theorem G15_19 {z : Option mm_O} {T : fS} {r : fR}  (l0 : Nat) (xl1 : Int32) (l1 : Nat) (hl1 : xl1 = nI l1) (xl2 : Int32) (l2 : Nat) (hl2 : xl2 = nI l2) (xl3 : Int32) (l3 : Nat) (hl3 : xl3 = nI l3) (xl4 : Int32) (l4 : Nat) (hl4 : xl4 = nI l4) (xl5 : Int32) (l5 : Nat) (hl5 : xl5 = nI l5) (h : F15_19  l0 l1 l2 l3 l4 l5 T = some r) : mm_L 15 19 [.ref l0, .int xl1, .int xl2, .int xl3, .int xl4, .int xl5] [] (toS z T) = some (tR z r) := by
  unfold F15_19 at h
  refine Eq.trans (e15_19 ..) ?_
  exact (fb_s (fun _ q => (fun q => by rw [hl4]; exact fsf_ok (v := .inl l4) q) q) h (fun T1 h2 => G15_25  _ _ _ hl1 _ _ hl2 _ _ hl3 _ _ hl4 _ _ hl5 h2))
noncomputable def F15_14  (l0 : Nat) (l1 : Nat) (l2 : Nat) (l3 : Nat) (l4 : Nat) (l5 : Nat) (T : fS) : Option fR := (fbs (fsf T l0 3 2 (.inl l3)) (fun T1 => F15_19  l0 l1 l2 l3 l4 l5 T1))
theorem G15_14 {z : Option mm_O} {T : fS} {r : fR}  (l0 : Nat) (xl1 : Int32) (l1 : Nat) (hl1 : xl1 = nI l1) (xl2 : Int32) (l2 : Nat) (hl2 : xl2 = nI l2) (xl3 : Int32) (l3 : Nat) (hl3 : xl3 = nI l3) (xl4 : Int32) (l4 : Nat) (hl4 : xl4 = nI l4) (xl5 : Int32) (l5 : Nat) (hl5 : xl5 = nI l5) (h : F15_14  l0 l1 l2 l3 l4 l5 T = some r) : mm_L 15 14 [.ref l0, .int xl1, .int xl2, .int xl3, .int xl4, .int xl5] [] (toS z T) = some (tR z r) := by
  unfold F15_14 at h
  refine Eq.trans (e15_14 ..) ?_
  exact (fb_s (fun _ q => (fun q => by rw [hl3]; exact fsf_ok (v := .inl l3) q) q) h (fun T1 h2 => G15_19  _ _ _ hl1 _ _ hl2 _ _ hl3 _ _ hl4 _ _ hl5 h2))
noncomputable def F15_9  (l0 : Nat) (l1 : Nat) (l2 : Nat) (l3 : Nat) (l4 : Nat) (l5 : Nat) (T : fS) : Option fR := (fbs (fsf T l0 3 1 (.inl l2)) (fun T1 => F15_14  l0 l1 l2 l3 l4 l5 T1))
theorem G15_9 {z : Option mm_O} {T : fS} {r : fR}  (l0 : Nat) (xl1 : Int32) (l1 : Nat) (hl1 : xl1 = nI l1) (xl2 : Int32) (l2 : Nat) (hl2 : xl2 = nI l2) (xl3 : Int32) (l3 : Nat) (hl3 : xl3 = nI l3) (xl4 : Int32) (l4 : Nat) (hl4 : xl4 = nI l4) (xl5 : Int32) (l5 : Nat) (hl5 : xl5 = nI l5) (h : F15_9  l0 l1 l2 l3 l4 l5 T = some r) : mm_L 15 9 [.ref l0, .int xl1, .int xl2, .int xl3, .int xl4, .int xl5] [] (toS z T) = some (tR z r) := by
  unfold F15_9 at h
  refine Eq.trans (e15_9 ..) ?_
  exact (fb_s (fun _ q => (fun q => by rw [hl2]; exact fsf_ok (v := .inl l2) q) q) h (fun T1 h2 => G15_14  _ _ _ hl1 _ _ hl2 _ _ hl3 _ _ hl4 _ _ hl5 h2))
noncomputable def F15_0  (l0 : Nat) (l1 : Nat) (l2 : Nat) (l3 : Nat) (l4 : Nat) (l5 : Nat) (T : fS) : Option fR := (fbs (fsf T l0 3 0 (.inl l1)) (fun T1 => F15_9  l0 l1 l2 l3 l4 l5 T1))
theorem G15_0 {z : Option mm_O} {T : fS} {r : fR}  (l0 : Nat) (xl1 : Int32) (l1 : Nat) (hl1 : xl1 = nI l1) (xl2 : Int32) (l2 : Nat) (hl2 : xl2 = nI l2) (xl3 : Int32) (l3 : Nat) (hl3 : xl3 = nI l3) (xl4 : Int32) (l4 : Nat) (hl4 : xl4 = nI l4) (xl5 : Int32) (l5 : Nat) (hl5 : xl5 = nI l5) (h : F15_0  l0 l1 l2 l3 l4 l5 T = some r) : mm_L 15 0 [.ref l0, .int xl1, .int xl2, .int xl3, .int xl4, .int xl5] [] (toS z T) = some (tR z r) := by
  unfold F15_0 at h
  refine Eq.trans (e15_0 ..) ?_
  exact (fb_s (fun _ q => (fun q => by rw [hl1]; exact fsf_ok (v := .inl l1) q) q) h (fun T1 h2 => G15_9  _ _ _ hl1 _ _ hl2 _ _ hl3 _ _ hl4 _ _ hl5 h2))
theorem GM15 {z : Option mm_O} {T : fS} {r : fR} (l0 : Nat) (xl1 : Int32) (l1 : Nat) (hl1 : xl1 = nI l1) (xl2 : Int32) (l2 : Nat) (hl2 : xl2 = nI l2) (xl3 : Int32) (l3 : Nat) (hl3 : xl3 = nI l3) (xl4 : Int32) (l4 : Nat) (hl4 : xl4 = nI l4) (xl5 : Int32) (l5 : Nat) (hl5 : xl5 = nI l5) (h : F15_0 l0 l1 l2 l3 l4 l5 T = some r) : mm_M 15 [.ref l0, .int xl1, .int xl2, .int xl3, .int xl4, .int xl5] (toS z T) = some (tR z r) := Eq.trans (M_15 ..) (G15_0 l0 xl1 l1 hl1 xl2 l2 hl2 xl3 l3 hl3 xl4 l4 hl4 xl5 l5 hl5 h)
-- 17: HandArchive$Mark.writeValue
noncomputable def F17_29 (k5 : Nat → Nat → Nat → fS → Option fR) (l0 : Nat) (l1 : Nat) (l2 : Nat) (T : fS) : Option fR := (k5 l0 l1 (iA l2 1) T)
theorem G17_29 {z : Option mm_O} {T : fS} {r : fR} (k5 : Nat → Nat → Nat → fS → Option fR) (hk5 : ∀ (l0 : Nat) (l1 : Nat) (xl2 : Int32) (l2 : Nat) (hl2 : xl2 = nI l2) (T : fS) (r : fR), k5 l0 l1 l2 T = some r → mm_L 17 5 [.ref l0, .ref l1, .int xl2] [] (toS z T) = some (tR z r)) (l0 : Nat) (l1 : Nat) (xl2 : Int32) (l2 : Nat) (hl2 : xl2 = nI l2) (h : F17_29 k5 l0 l1 l2 T = some r) : mm_L 17 29 [.ref l0, .ref l1, .int xl2] [] (toS z T) = some (tR z r) := by
  unfold F17_29 at h
  refine Eq.trans (e17_29 ..) ?_
  exact (hk5 _ _ _ _ (iA_ok hl2 (rfl : (1 : Int32) = nI 1)) _ _ h)
noncomputable def F17_28 (k5 : Nat → Nat → Nat → fS → Option fR) (l0 : Nat) (l1 : Nat) (l2 : Nat) (s0 : Nat) (s1 : Nat) (s2 : Nat) (T : fS) : Option fR := (fbs (fas T s2 s1 0 s0) (fun T1 => F17_29 k5 l0 l1 l2 T1))
theorem G17_28 {z : Option mm_O} {T : fS} {r : fR} (k5 : Nat → Nat → Nat → fS → Option fR) (hk5 : ∀ (l0 : Nat) (l1 : Nat) (xl2 : Int32) (l2 : Nat) (hl2 : xl2 = nI l2) (T : fS) (r : fR), k5 l0 l1 l2 T = some r → mm_L 17 5 [.ref l0, .ref l1, .int xl2] [] (toS z T) = some (tR z r)) (l0 : Nat) (l1 : Nat) (xl2 : Int32) (l2 : Nat) (hl2 : xl2 = nI l2) (xs0 : Int32) (s0 : Nat) (hs0 : xs0 = nI s0) (xs1 : Int32) (s1 : Nat) (hs1 : xs1 = nI s1) (s2 : Nat) (h : F17_28 k5 l0 l1 l2 s0 s1 s2 T = some r) : mm_L 17 28 [.ref l0, .ref l1, .int xl2] [.int xs0, .int xs1, .ref s2] (toS z T) = some (tR z r) := by
  unfold F17_28 at h
  refine Eq.trans (e17_28 ..) ?_
  exact (fb_s (fun _ q => (fun q => by rw [show (xs1 : Int32) = nI s1 from hs1, show (xs0 : Int32) = nI s0 from hs0]; exact fas_ok q) q) h (fun T1 h2 => G17_29 k5 hk5 _ _ _ _ hl2 h2))
noncomputable def F17_22 (k5 : Nat → Nat → Nat → fS → Option fR) (l0 : Nat) (l1 : Nat) (l2 : Nat) (T : fS) : Option fR := (fbn (fgi T l0 3 4) (fun v0 => F17_28 k5 l0 l1 l2 v0 l2 l1 T))
theorem G17_22 {z : Option mm_O} {T : fS} {r : fR} (k5 : Nat → Nat → Nat → fS → Option fR) (hk5 : ∀ (l0 : Nat) (l1 : Nat) (xl2 : Int32) (l2 : Nat) (hl2 : xl2 = nI l2) (T : fS) (r : fR), k5 l0 l1 l2 T = some r → mm_L 17 5 [.ref l0, .ref l1, .int xl2] [] (toS z T) = some (tR z r)) (l0 : Nat) (l1 : Nat) (xl2 : Int32) (l2 : Nat) (hl2 : xl2 = nI l2) (h : F17_22 k5 l0 l1 l2 T = some r) : mm_L 17 22 [.ref l0, .ref l1, .int xl2] [] (toS z T) = some (tR z r) := by
  unfold F17_22 at h
  refine Eq.trans (e17_22 ..) ?_
  exact (fb_n (fun _ q => fgi_ok q) h (fun v0 h2 => G17_28 k5 hk5 _ _ _ _ hl2 _ _ rfl _ _ hl2 _ h2))
noncomputable def F17_35  (l0 : Nat) (l1 : Nat) (l2 : Nat) (T : fS) : Option fR := (some ((.inl none, T) : fR))
theorem G17_35 {z : Option mm_O} {T : fS} {r : fR}  (l0 : Nat) (l1 : Nat) (xl2 : Int32) (l2 : Nat) (hl2 : xl2 = nI l2) (h : F17_35  l0 l1 l2 T = some r) : mm_L 17 35 [.ref l0, .ref l1, .int xl2] [] (toS z T) = some (tR z r) := by
  unfold F17_35 at h
  refine Eq.trans (e17_35 ..) ?_
  exact (fr_v h)
noncomputable def F17_19 (k5 : Nat → Nat → Nat → fS → Option fR) (l0 : Nat) (l1 : Nat) (l2 : Nat) (s0 : Nat) (T : fS) : Option fR := (fif (ieq s0 0) (F17_35  l0 l1 l2 T) (F17_22 k5 l0 l1 l2 T))
theorem G17_19 {z : Option mm_O} {T : fS} {r : fR} (k5 : Nat → Nat → Nat → fS → Option fR) (hk5 : ∀ (l0 : Nat) (l1 : Nat) (xl2 : Int32) (l2 : Nat) (hl2 : xl2 = nI l2) (T : fS) (r : fR), k5 l0 l1 l2 T = some r → mm_L 17 5 [.ref l0, .ref l1, .int xl2] [] (toS z T) = some (tR z r)) (l0 : Nat) (l1 : Nat) (xl2 : Int32) (l2 : Nat) (hl2 : xl2 = nI l2) (xs0 : Int32) (s0 : Nat) (hs0 : xs0 = nI s0) (h : F17_19 k5 l0 l1 l2 s0 T = some r) : mm_L 17 19 [.ref l0, .ref l1, .int xl2] [.int xs0] (toS z T) = some (tR z r) := by
  unfold F17_19 at h
  refine Eq.trans (e17_19 ..) ?_
  exact (fb_if (cj_eq hs0 (rfl : (0 : Int32) = nI 0)) h (fun h1 => (G17_35  _ _ _ _ hl2 h1)) (fun h1 => (G17_22 k5 hk5 _ _ _ _ hl2 h1)))
noncomputable def F17_16 (k5 : Nat → Nat → Nat → fS → Option fR) (l0 : Nat) (l1 : Nat) (l2 : Nat) (s0 : Nat) (s1 : Nat) (T : fS) : Option fR := (fKi false (F101_0 s1 s0 T) (fun v0 T1 => F17_19 k5 l0 l1 l2 v0 T1))
theorem G17_16 {z : Option mm_O} {T : fS} {r : fR} (k5 : Nat → Nat → Nat → fS → Option fR) (hk5 : ∀ (l0 : Nat) (l1 : Nat) (xl2 : Int32) (l2 : Nat) (hl2 : xl2 = nI l2) (T : fS) (r : fR), k5 l0 l1 l2 T = some r → mm_L 17 5 [.ref l0, .ref l1, .int xl2] [] (toS z T) = some (tR z r)) (l0 : Nat) (l1 : Nat) (xl2 : Int32) (l2 : Nat) (hl2 : xl2 = nI l2) (xs0 : Int32) (s0 : Nat) (hs0 : xs0 = nI s0) (xs1 : Int32) (s1 : Nat) (hs1 : xs1 = nI s1) (h : F17_16 k5 l0 l1 l2 s0 s1 T = some r) : mm_L 17 16 [.ref l0, .ref l1, .int xl2] [.int xs0, .int xs1] (toS z T) = some (tR z r) := by
  unfold F17_16 at h
  refine Eq.trans (e17_16 ..) ?_
  exact (fb_K2i (fun _ q => GM101 _ _ hs1 _ _ hs0 q) h (fun v0 T1 h2 => G17_19 k5 hk5 _ _ _ _ hl2 _ _ rfl h2))
noncomputable def F17_13 (k5 : Nat → Nat → Nat → fS → Option fR) (l0 : Nat) (l1 : Nat) (l2 : Nat) (T : fS) : Option fR := (fbn (fln T l1) (fun v0 => F17_16 k5 l0 l1 l2 v0 l2 T))
theorem G17_13 {z : Option mm_O} {T : fS} {r : fR} (k5 : Nat → Nat → Nat → fS → Option fR) (hk5 : ∀ (l0 : Nat) (l1 : Nat) (xl2 : Int32) (l2 : Nat) (hl2 : xl2 = nI l2) (T : fS) (r : fR), k5 l0 l1 l2 T = some r → mm_L 17 5 [.ref l0, .ref l1, .int xl2] [] (toS z T) = some (tR z r)) (l0 : Nat) (l1 : Nat) (xl2 : Int32) (l2 : Nat) (hl2 : xl2 = nI l2) (h : F17_13 k5 l0 l1 l2 T = some r) : mm_L 17 13 [.ref l0, .ref l1, .int xl2] [] (toS z T) = some (tR z r) := by
  unfold F17_13 at h
  refine Eq.trans (e17_13 ..) ?_
  exact (fb_n (fun _ q => fln_ok q) h (fun v0 h2 => G17_16 k5 hk5 _ _ _ _ hl2 _ _ rfl _ _ hl2 h2))
noncomputable def F17_10 (k5 : Nat → Nat → Nat → fS → Option fR) (l0 : Nat) (l1 : Nat) (l2 : Nat) (s0 : Nat) (s1 : Nat) (T : fS) : Option fR := (fif (ile s0 s1) (F17_35  l0 l1 l2 T) (F17_13 k5 l0 l1 l2 T))
theorem G17_10 {z : Option mm_O} {T : fS} {r : fR} (k5 : Nat → Nat → Nat → fS → Option fR) (hk5 : ∀ (l0 : Nat) (l1 : Nat) (xl2 : Int32) (l2 : Nat) (hl2 : xl2 = nI l2) (T : fS) (r : fR), k5 l0 l1 l2 T = some r → mm_L 17 5 [.ref l0, .ref l1, .int xl2] [] (toS z T) = some (tR z r)) (l0 : Nat) (l1 : Nat) (xl2 : Int32) (l2 : Nat) (hl2 : xl2 = nI l2) (xs0 : Int32) (s0 : Nat) (hs0 : xs0 = nI s0) (xs1 : Int32) (s1 : Nat) (hs1 : xs1 = nI s1) (h : F17_10 k5 l0 l1 l2 s0 s1 T = some r) : mm_L 17 10 [.ref l0, .ref l1, .int xl2] [.int xs0, .int xs1] (toS z T) = some (tR z r) := by
  unfold F17_10 at h
  refine Eq.trans (e17_10 ..) ?_
  exact (fb_if (cj_le hs0 hs1) h (fun h1 => (G17_35  _ _ _ _ hl2 h1)) (fun h1 => (G17_13 k5 hk5 _ _ _ _ hl2 h1)))
noncomputable def F17_5 (k5 : Nat → Nat → Nat → fS → Option fR) (l0 : Nat) (l1 : Nat) (l2 : Nat) (T : fS) : Option fR := (fbn (fgi T l0 3 3) (fun v0 => F17_10 k5 l0 l1 l2 v0 l2 T))
theorem G17_5 {z : Option mm_O} {T : fS} {r : fR} (k5 : Nat → Nat → Nat → fS → Option fR) (hk5 : ∀ (l0 : Nat) (l1 : Nat) (xl2 : Int32) (l2 : Nat) (hl2 : xl2 = nI l2) (T : fS) (r : fR), k5 l0 l1 l2 T = some r → mm_L 17 5 [.ref l0, .ref l1, .int xl2] [] (toS z T) = some (tR z r)) (l0 : Nat) (l1 : Nat) (xl2 : Int32) (l2 : Nat) (hl2 : xl2 = nI l2) (h : F17_5 k5 l0 l1 l2 T = some r) : mm_L 17 5 [.ref l0, .ref l1, .int xl2] [] (toS z T) = some (tR z r) := by
  unfold F17_5 at h
  refine Eq.trans (e17_5 ..) ?_
  exact (fb_n (fun _ q => fgi_ok q) h (fun v0 h2 => G17_10 k5 hk5 _ _ _ _ hl2 _ _ rfl _ _ hl2 h2))
noncomputable def H17_5  (n : Nat) : Nat → Nat → Nat → fS → Option fR := Nat.rec (motive := fun _ => Nat → Nat → Nat → fS → Option fR) (fun _ _ _ _ => none) (fun _ ih => F17_5 ih) n
theorem HG17_5 {z : Option mm_O}  : ∀ (n : Nat) (l0 : Nat) (l1 : Nat) (xl2 : Int32) (l2 : Nat) (hl2 : xl2 = nI l2) {T : fS} {r : fR}, H17_5  n l0 l1 l2 T = some r → mm_L 17 5 [.ref l0, .ref l1, .int xl2] [] (toS z T) = some (tR z r) := by
  intro n
  induction n with
  | zero =>
    intro l0 l1 xl2 l2 hl2 T r h
    exact fr_n h
  | succ n ih =>
    intro l0 l1 xl2 l2 hl2 T r h
    exact G17_5 (H17_5  n) (fun l0 l1 xl2 l2 hl2 T r h => ih l0 l1 xl2 l2 hl2 h) l0 l1 xl2 l2 hl2 h
noncomputable def F17_4  (l0 : Nat) (l1 : Nat) (s0 : Nat) (T : fS) : Option fR := (H17_5  300 l0 l1 s0 T)
theorem G17_4 {z : Option mm_O} {T : fS} {r : fR}  (l0 : Nat) (l1 : Nat) (ul2 : Value) (xs0 : Int32) (s0 : Nat) (hs0 : xs0 = nI s0) (h : F17_4  l0 l1 s0 T = some r) : mm_L 17 4 [.ref l0, .ref l1, ul2] [.int xs0] (toS z T) = some (tR z r) := by
  unfold F17_4 at h
  refine Eq.trans (e17_4 ..) ?_
  exact (HG17_5  300 _ _ _ _ hs0 h)
noncomputable def F17_0  (l0 : Nat) (l1 : Nat) (T : fS) : Option fR := (fbn (fgi T l0 3 2) (fun v0 => F17_4  l0 l1 v0 T))
theorem G17_0 {z : Option mm_O} {T : fS} {r : fR}  (l0 : Nat) (l1 : Nat) (ul2 : Value) (h : F17_0  l0 l1 T = some r) : mm_L 17 0 [.ref l0, .ref l1, ul2] [] (toS z T) = some (tR z r) := by
  unfold F17_0 at h
  refine Eq.trans (e17_0 ..) ?_
  exact (fb_n (fun _ q => fgi_ok q) h (fun v0 h2 => G17_4  _ _ _ _ _ rfl h2))
theorem GM17 {z : Option mm_O} {T : fS} {r : fR} (l0 : Nat) (l1 : Nat) (h : F17_0 l0 l1 T = some r) : mm_M 17 [.ref l0, .ref l1] (toS z T) = some (tR z r) := Eq.trans (M_17 ..) (G17_0 l0 l1 _ h)
-- 18: HandArchive$Mark.countTicksIn
noncomputable def F18_37 (k7 : Nat → Nat → Nat → Nat → fS → Option fR) (l0 : Nat) (l1 : Nat) (l2 : Nat) (l3 : Nat) (T : fS) : Option fR := (k7 l0 l1 l2 (iA l3 1) T)
theorem G18_37 {z : Option mm_O} {T : fS} {r : fR} (k7 : Nat → Nat → Nat → Nat → fS → Option fR) (hk7 : ∀ (l0 : Nat) (l1 : Nat) (xl2 : Int32) (l2 : Nat) (hl2 : xl2 = nI l2) (xl3 : Int32) (l3 : Nat) (hl3 : xl3 = nI l3) (T : fS) (r : fR), k7 l0 l1 l2 l3 T = some r → mm_L 18 7 [.ref l0, .ref l1, .int xl2, .int xl3] [] (toS z T) = some (tR z r)) (l0 : Nat) (l1 : Nat) (xl2 : Int32) (l2 : Nat) (hl2 : xl2 = nI l2) (xl3 : Int32) (l3 : Nat) (hl3 : xl3 = nI l3) (h : F18_37 k7 l0 l1 l2 l3 T = some r) : mm_L 18 37 [.ref l0, .ref l1, .int xl2, .int xl3] [] (toS z T) = some (tR z r) := by
  unfold F18_37 at h
  refine Eq.trans (e18_37 ..) ?_
  exact (hk7 _ _ _ _ hl2 _ _ (iA_ok hl3 (rfl : (1 : Int32) = nI 1)) _ _ h)
noncomputable def F18_34 (k7 : Nat → Nat → Nat → Nat → fS → Option fR) (l0 : Nat) (l1 : Nat) (l2 : Nat) (l3 : Nat) (T : fS) : Option fR := (F18_37 k7 l0 l1 (iA l2 1) l3 T)
theorem G18_34 {z : Option mm_O} {T : fS} {r : fR} (k7 : Nat → Nat → Nat → Nat → fS → Option fR) (hk7 : ∀ (l0 : Nat) (l1 : Nat) (xl2 : Int32) (l2 : Nat) (hl2 : xl2 = nI l2) (xl3 : Int32) (l3 : Nat) (hl3 : xl3 = nI l3) (T : fS) (r : fR), k7 l0 l1 l2 l3 T = some r → mm_L 18 7 [.ref l0, .ref l1, .int xl2, .int xl3] [] (toS z T) = some (tR z r)) (l0 : Nat) (l1 : Nat) (xl2 : Int32) (l2 : Nat) (hl2 : xl2 = nI l2) (xl3 : Int32) (l3 : Nat) (hl3 : xl3 = nI l3) (h : F18_34 k7 l0 l1 l2 l3 T = some r) : mm_L 18 34 [.ref l0, .ref l1, .int xl2, .int xl3] [] (toS z T) = some (tR z r) := by
  unfold F18_34 at h
  refine Eq.trans (e18_34 ..) ?_
  exact (G18_37 k7 hk7 _ _ _ _ (iA_ok hl2 (rfl : (1 : Int32) = nI 1)) _ _ hl3 h)
noncomputable def F18_31 (k7 : Nat → Nat → Nat → Nat → fS → Option fR) (l0 : Nat) (l1 : Nat) (l2 : Nat) (l3 : Nat) (s0 : Nat) (s1 : Nat) (T : fS) : Option fR := (fif (ieq s1 s0) (F18_34 k7 l0 l1 l2 l3 T) (F18_37 k7 l0 l1 l2 l3 T))
theorem G18_31 {z : Option mm_O} {T : fS} {r : fR} (k7 : Nat → Nat → Nat → Nat → fS → Option fR) (hk7 : ∀ (l0 : Nat) (l1 : Nat) (xl2 : Int32) (l2 : Nat) (hl2 : xl2 = nI l2) (xl3 : Int32) (l3 : Nat) (hl3 : xl3 = nI l3) (T : fS) (r : fR), k7 l0 l1 l2 l3 T = some r → mm_L 18 7 [.ref l0, .ref l1, .int xl2, .int xl3] [] (toS z T) = some (tR z r)) (l0 : Nat) (l1 : Nat) (xl2 : Int32) (l2 : Nat) (hl2 : xl2 = nI l2) (xl3 : Int32) (l3 : Nat) (hl3 : xl3 = nI l3) (xs0 : Int32) (s0 : Nat) (hs0 : xs0 = nI s0) (xs1 : Int32) (s1 : Nat) (hs1 : xs1 = nI s1) (h : F18_31 k7 l0 l1 l2 l3 s0 s1 T = some r) : mm_L 18 31 [.ref l0, .ref l1, .int xl2, .int xl3] [.int xs0, .int xs1] (toS z T) = some (tR z r) := by
  unfold F18_31 at h
  refine Eq.trans (e18_31 ..) ?_
  exact (fb_if (cj_eq hs1 hs0) h (fun h1 => (G18_34 k7 hk7 _ _ _ _ hl2 _ _ hl3 h1)) (fun h1 => (G18_37 k7 hk7 _ _ _ _ hl2 _ _ hl3 h1)))
noncomputable def F18_27 (k7 : Nat → Nat → Nat → Nat → fS → Option fR) (l0 : Nat) (l1 : Nat) (l2 : Nat) (l3 : Nat) (s0 : Nat) (T : fS) : Option fR := (fbn (fgi T l0 3 4) (fun v0 => F18_31 k7 l0 l1 l2 l3 v0 s0 T))
theorem G18_27 {z : Option mm_O} {T : fS} {r : fR} (k7 : Nat → Nat → Nat → Nat → fS → Option fR) (hk7 : ∀ (l0 : Nat) (l1 : Nat) (xl2 : Int32) (l2 : Nat) (hl2 : xl2 = nI l2) (xl3 : Int32) (l3 : Nat) (hl3 : xl3 = nI l3) (T : fS) (r : fR), k7 l0 l1 l2 l3 T = some r → mm_L 18 7 [.ref l0, .ref l1, .int xl2, .int xl3] [] (toS z T) = some (tR z r)) (l0 : Nat) (l1 : Nat) (xl2 : Int32) (l2 : Nat) (hl2 : xl2 = nI l2) (xl3 : Int32) (l3 : Nat) (hl3 : xl3 = nI l3) (xs0 : Int32) (s0 : Nat) (hs0 : xs0 = nI s0) (h : F18_27 k7 l0 l1 l2 l3 s0 T = some r) : mm_L 18 27 [.ref l0, .ref l1, .int xl2, .int xl3] [.int xs0] (toS z T) = some (tR z r) := by
  unfold F18_27 at h
  refine Eq.trans (e18_27 ..) ?_
  exact (fb_n (fun _ q => fgi_ok q) h (fun v0 h2 => G18_31 k7 hk7 _ _ _ _ hl2 _ _ hl3 _ _ rfl _ _ hs0 h2))
noncomputable def F18_24 (k7 : Nat → Nat → Nat → Nat → fS → Option fR) (l0 : Nat) (l1 : Nat) (l2 : Nat) (l3 : Nat) (T : fS) : Option fR := (fbn (fal T l1 l3 false) (fun v0 => F18_27 k7 l0 l1 l2 l3 v0 T))
theorem G18_24 {z : Option mm_O} {T : fS} {r : fR} (k7 : Nat → Nat → Nat → Nat → fS → Option fR) (hk7 : ∀ (l0 : Nat) (l1 : Nat) (xl2 : Int32) (l2 : Nat) (hl2 : xl2 = nI l2) (xl3 : Int32) (l3 : Nat) (hl3 : xl3 = nI l3) (T : fS) (r : fR), k7 l0 l1 l2 l3 T = some r → mm_L 18 7 [.ref l0, .ref l1, .int xl2, .int xl3] [] (toS z T) = some (tR z r)) (l0 : Nat) (l1 : Nat) (xl2 : Int32) (l2 : Nat) (hl2 : xl2 = nI l2) (xl3 : Int32) (l3 : Nat) (hl3 : xl3 = nI l3) (h : F18_24 k7 l0 l1 l2 l3 T = some r) : mm_L 18 24 [.ref l0, .ref l1, .int xl2, .int xl3] [] (toS z T) = some (tR z r) := by
  unfold F18_24 at h
  refine Eq.trans (e18_24 ..) ?_
  exact (fb_n (fun _ q => by rw [hl3]; exact fal_ok q) h (fun v0 h2 => G18_27 k7 hk7 _ _ _ _ hl2 _ _ hl3 _ _ rfl h2))
noncomputable def F18_43  (l0 : Nat) (l1 : Nat) (l2 : Nat) (l3 : Nat) (T : fS) : Option fR := (some ((.inl (some (.inl l2)), T) : fR))
theorem G18_43 {z : Option mm_O} {T : fS} {r : fR}  (l0 : Nat) (l1 : Nat) (xl2 : Int32) (l2 : Nat) (hl2 : xl2 = nI l2) (xl3 : Int32) (l3 : Nat) (hl3 : xl3 = nI l3) (h : F18_43  l0 l1 l2 l3 T = some r) : mm_L 18 43 [.ref l0, .ref l1, .int xl2, .int xl3] [] (toS z T) = some (tR z r) := by
  unfold F18_43 at h
  refine Eq.trans (e18_43 ..) ?_
  exact (fr_i hl2 h)
noncomputable def F18_21 (k7 : Nat → Nat → Nat → Nat → fS → Option fR) (l0 : Nat) (l1 : Nat) (l2 : Nat) (l3 : Nat) (s0 : Nat) (T : fS) : Option fR := (fif (ieq s0 0) (F18_43  l0 l1 l2 l3 T) (F18_24 k7 l0 l1 l2 l3 T))
theorem G18_21 {z : Option mm_O} {T : fS} {r : fR} (k7 : Nat → Nat → Nat → Nat → fS → Option fR) (hk7 : ∀ (l0 : Nat) (l1 : Nat) (xl2 : Int32) (l2 : Nat) (hl2 : xl2 = nI l2) (xl3 : Int32) (l3 : Nat) (hl3 : xl3 = nI l3) (T : fS) (r : fR), k7 l0 l1 l2 l3 T = some r → mm_L 18 7 [.ref l0, .ref l1, .int xl2, .int xl3] [] (toS z T) = some (tR z r)) (l0 : Nat) (l1 : Nat) (xl2 : Int32) (l2 : Nat) (hl2 : xl2 = nI l2) (xl3 : Int32) (l3 : Nat) (hl3 : xl3 = nI l3) (xs0 : Int32) (s0 : Nat) (hs0 : xs0 = nI s0) (h : F18_21 k7 l0 l1 l2 l3 s0 T = some r) : mm_L 18 21 [.ref l0, .ref l1, .int xl2, .int xl3] [.int xs0] (toS z T) = some (tR z r) := by
  unfold F18_21 at h
  refine Eq.trans (e18_21 ..) ?_
  exact (fb_if (cj_eq hs0 (rfl : (0 : Int32) = nI 0)) h (fun h1 => (G18_43  _ _ _ _ hl2 _ _ hl3 h1)) (fun h1 => (G18_24 k7 hk7 _ _ _ _ hl2 _ _ hl3 h1)))
noncomputable def F18_18 (k7 : Nat → Nat → Nat → Nat → fS → Option fR) (l0 : Nat) (l1 : Nat) (l2 : Nat) (l3 : Nat) (s0 : Nat) (s1 : Nat) (T : fS) : Option fR := (fKi false (F101_0 s1 s0 T) (fun v0 T1 => F18_21 k7 l0 l1 l2 l3 v0 T1))
theorem G18_18 {z : Option mm_O} {T : fS} {r : fR} (k7 : Nat → Nat → Nat → Nat → fS → Option fR) (hk7 : ∀ (l0 : Nat) (l1 : Nat) (xl2 : Int32) (l2 : Nat) (hl2 : xl2 = nI l2) (xl3 : Int32) (l3 : Nat) (hl3 : xl3 = nI l3) (T : fS) (r : fR), k7 l0 l1 l2 l3 T = some r → mm_L 18 7 [.ref l0, .ref l1, .int xl2, .int xl3] [] (toS z T) = some (tR z r)) (l0 : Nat) (l1 : Nat) (xl2 : Int32) (l2 : Nat) (hl2 : xl2 = nI l2) (xl3 : Int32) (l3 : Nat) (hl3 : xl3 = nI l3) (xs0 : Int32) (s0 : Nat) (hs0 : xs0 = nI s0) (xs1 : Int32) (s1 : Nat) (hs1 : xs1 = nI s1) (h : F18_18 k7 l0 l1 l2 l3 s0 s1 T = some r) : mm_L 18 18 [.ref l0, .ref l1, .int xl2, .int xl3] [.int xs0, .int xs1] (toS z T) = some (tR z r) := by
  unfold F18_18 at h
  refine Eq.trans (e18_18 ..) ?_
  exact (fb_K2i (fun _ q => GM101 _ _ hs1 _ _ hs0 q) h (fun v0 T1 h2 => G18_21 k7 hk7 _ _ _ _ hl2 _ _ hl3 _ _ rfl h2))
noncomputable def F18_15 (k7 : Nat → Nat → Nat → Nat → fS → Option fR) (l0 : Nat) (l1 : Nat) (l2 : Nat) (l3 : Nat) (T : fS) : Option fR := (fbn (fln T l1) (fun v0 => F18_18 k7 l0 l1 l2 l3 v0 l3 T))
theorem G18_15 {z : Option mm_O} {T : fS} {r : fR} (k7 : Nat → Nat → Nat → Nat → fS → Option fR) (hk7 : ∀ (l0 : Nat) (l1 : Nat) (xl2 : Int32) (l2 : Nat) (hl2 : xl2 = nI l2) (xl3 : Int32) (l3 : Nat) (hl3 : xl3 = nI l3) (T : fS) (r : fR), k7 l0 l1 l2 l3 T = some r → mm_L 18 7 [.ref l0, .ref l1, .int xl2, .int xl3] [] (toS z T) = some (tR z r)) (l0 : Nat) (l1 : Nat) (xl2 : Int32) (l2 : Nat) (hl2 : xl2 = nI l2) (xl3 : Int32) (l3 : Nat) (hl3 : xl3 = nI l3) (h : F18_15 k7 l0 l1 l2 l3 T = some r) : mm_L 18 15 [.ref l0, .ref l1, .int xl2, .int xl3] [] (toS z T) = some (tR z r) := by
  unfold F18_15 at h
  refine Eq.trans (e18_15 ..) ?_
  exact (fb_n (fun _ q => fln_ok q) h (fun v0 h2 => G18_18 k7 hk7 _ _ _ _ hl2 _ _ hl3 _ _ rfl _ _ hl3 h2))
noncomputable def F18_12 (k7 : Nat → Nat → Nat → Nat → fS → Option fR) (l0 : Nat) (l1 : Nat) (l2 : Nat) (l3 : Nat) (s0 : Nat) (s1 : Nat) (T : fS) : Option fR := (fif (ile s0 s1) (F18_43  l0 l1 l2 l3 T) (F18_15 k7 l0 l1 l2 l3 T))
theorem G18_12 {z : Option mm_O} {T : fS} {r : fR} (k7 : Nat → Nat → Nat → Nat → fS → Option fR) (hk7 : ∀ (l0 : Nat) (l1 : Nat) (xl2 : Int32) (l2 : Nat) (hl2 : xl2 = nI l2) (xl3 : Int32) (l3 : Nat) (hl3 : xl3 = nI l3) (T : fS) (r : fR), k7 l0 l1 l2 l3 T = some r → mm_L 18 7 [.ref l0, .ref l1, .int xl2, .int xl3] [] (toS z T) = some (tR z r)) (l0 : Nat) (l1 : Nat) (xl2 : Int32) (l2 : Nat) (hl2 : xl2 = nI l2) (xl3 : Int32) (l3 : Nat) (hl3 : xl3 = nI l3) (xs0 : Int32) (s0 : Nat) (hs0 : xs0 = nI s0) (xs1 : Int32) (s1 : Nat) (hs1 : xs1 = nI s1) (h : F18_12 k7 l0 l1 l2 l3 s0 s1 T = some r) : mm_L 18 12 [.ref l0, .ref l1, .int xl2, .int xl3] [.int xs0, .int xs1] (toS z T) = some (tR z r) := by
  unfold F18_12 at h
  refine Eq.trans (e18_12 ..) ?_
  exact (fb_if (cj_le hs0 hs1) h (fun h1 => (G18_43  _ _ _ _ hl2 _ _ hl3 h1)) (fun h1 => (G18_15 k7 hk7 _ _ _ _ hl2 _ _ hl3 h1)))
noncomputable def F18_7 (k7 : Nat → Nat → Nat → Nat → fS → Option fR) (l0 : Nat) (l1 : Nat) (l2 : Nat) (l3 : Nat) (T : fS) : Option fR := (fbn (fgi T l0 3 3) (fun v0 => F18_12 k7 l0 l1 l2 l3 v0 l3 T))
theorem G18_7 {z : Option mm_O} {T : fS} {r : fR} (k7 : Nat → Nat → Nat → Nat → fS → Option fR) (hk7 : ∀ (l0 : Nat) (l1 : Nat) (xl2 : Int32) (l2 : Nat) (hl2 : xl2 = nI l2) (xl3 : Int32) (l3 : Nat) (hl3 : xl3 = nI l3) (T : fS) (r : fR), k7 l0 l1 l2 l3 T = some r → mm_L 18 7 [.ref l0, .ref l1, .int xl2, .int xl3] [] (toS z T) = some (tR z r)) (l0 : Nat) (l1 : Nat) (xl2 : Int32) (l2 : Nat) (hl2 : xl2 = nI l2) (xl3 : Int32) (l3 : Nat) (hl3 : xl3 = nI l3) (h : F18_7 k7 l0 l1 l2 l3 T = some r) : mm_L 18 7 [.ref l0, .ref l1, .int xl2, .int xl3] [] (toS z T) = some (tR z r) := by
  unfold F18_7 at h
  refine Eq.trans (e18_7 ..) ?_
  exact (fb_n (fun _ q => fgi_ok q) h (fun v0 h2 => G18_12 k7 hk7 _ _ _ _ hl2 _ _ hl3 _ _ rfl _ _ hl3 h2))
noncomputable def H18_7  (n : Nat) : Nat → Nat → Nat → Nat → fS → Option fR := Nat.rec (motive := fun _ => Nat → Nat → Nat → Nat → fS → Option fR) (fun _ _ _ _ _ => none) (fun _ ih => F18_7 ih) n
theorem HG18_7 {z : Option mm_O}  : ∀ (n : Nat) (l0 : Nat) (l1 : Nat) (xl2 : Int32) (l2 : Nat) (hl2 : xl2 = nI l2) (xl3 : Int32) (l3 : Nat) (hl3 : xl3 = nI l3) {T : fS} {r : fR}, H18_7  n l0 l1 l2 l3 T = some r → mm_L 18 7 [.ref l0, .ref l1, .int xl2, .int xl3] [] (toS z T) = some (tR z r) := by
  intro n
  induction n with
  | zero =>
    intro l0 l1 xl2 l2 hl2 xl3 l3 hl3 T r h
    exact fr_n h
  | succ n ih =>
    intro l0 l1 xl2 l2 hl2 xl3 l3 hl3 T r h
    exact G18_7 (H18_7  n) (fun l0 l1 xl2 l2 hl2 xl3 l3 hl3 T r h => ih l0 l1 xl2 l2 hl2 xl3 l3 hl3 h) l0 l1 xl2 l2 hl2 xl3 l3 hl3 h
noncomputable def F18_6  (l0 : Nat) (l1 : Nat) (l2 : Nat) (s0 : Nat) (T : fS) : Option fR := (H18_7  300 l0 l1 l2 s0 T)
theorem G18_6 {z : Option mm_O} {T : fS} {r : fR}  (l0 : Nat) (l1 : Nat) (xl2 : Int32) (l2 : Nat) (hl2 : xl2 = nI l2) (ul3 : Value) (xs0 : Int32) (s0 : Nat) (hs0 : xs0 = nI s0) (h : F18_6  l0 l1 l2 s0 T = some r) : mm_L 18 6 [.ref l0, .ref l1, .int xl2, ul3] [.int xs0] (toS z T) = some (tR z r) := by
  unfold F18_6 at h
  refine Eq.trans (e18_6 ..) ?_
  exact (HG18_7  300 _ _ _ _ hl2 _ _ hs0 h)
noncomputable def F18_0  (l0 : Nat) (l1 : Nat) (T : fS) : Option fR := (fbn (fgi T l0 3 2) (fun v0 => F18_6  l0 l1 0 v0 T))
theorem G18_0 {z : Option mm_O} {T : fS} {r : fR}  (l0 : Nat) (l1 : Nat) (ul2 : Value) (ul3 : Value) (h : F18_0  l0 l1 T = some r) : mm_L 18 0 [.ref l0, .ref l1, ul2, ul3] [] (toS z T) = some (tR z r) := by
  unfold F18_0 at h
  refine Eq.trans (e18_0 ..) ?_
  exact (fb_n (fun _ q => fgi_ok q) h (fun v0 h2 => G18_6  _ _ _ _ (rfl : (0 : Int32) = nI 0) _ _ _ rfl h2))
theorem GM18 {z : Option mm_O} {T : fS} {r : fR} (l0 : Nat) (l1 : Nat) (h : F18_0 l0 l1 T = some r) : mm_M 18 [.ref l0, .ref l1] (toS z T) = some (tR z r) := Eq.trans (M_18 ..) (G18_0 l0 l1 _ _ h)
-- 19: HandArchive$Rule.<init>
noncomputable def F19_17  (l0 : Nat) (l1 : Nat) (T : fS) : Option fR := (some ((.inl none, T) : fR))
theorem G19_17 {z : Option mm_O} {T : fS} {r : fR}  (l0 : Nat) (xl1 : Int32) (l1 : Nat) (hl1 : xl1 = nI l1) (h : F19_17  l0 l1 T = some r) : mm_L 19 17 [.ref l0, .int xl1] [] (toS z T) = some (tR z r) := by
  unfold F19_17 at h
  refine Eq.trans (e19_17 ..) ?_
  exact (fr_v h)
noncomputable def F19_9  (l0 : Nat) (l1 : Nat) (T : fS) : Option fR := (fgd T (fbs (fsf (fnw T (.inr (.inl (1, 30, tqz 0 8)) : fO) 30) l0 4 1 (.inr (some T.2.1))) (fun T1 => F19_17  l0 l1 T1)))
theorem G19_9 {z : Option mm_O} {T : fS} {r : fR}  (l0 : Nat) (xl1 : Int32) (l1 : Nat) (hl1 : xl1 = nI l1) (h : F19_9  l0 l1 T = some r) : mm_L 19 9 [.ref l0, .int xl1] [] (toS z T) = some (tR z r) := by
  unfold F19_9 at h
  refine Eq.trans (e19_9 ..) ?_
  have hg0 := fgd_in h
  replace h := hg0.2
  rw [show mm_new (toS z T) (.inr (.inl (1, 30, fun _ => 0))) 30 = toS z (fnw T (.inr (.inl (1, 30, tqz 0 8)) : fO) 30) from by rw [← toA_0]; exact fnw_ok (o := (.inr (.inl (1, 30, tqz 0 8)) : fO)) hg0.1]
  exact (fb_s (fun _ q => fsf_ok (v := (.inr (some T.2.1))) q) h (fun T1 h2 => G19_17  _ _ _ hl1 h2))
noncomputable def F19_0  (l0 : Nat) (l1 : Nat) (T : fS) : Option fR := (fbs (fsf T l0 4 0 (.inl l1)) (fun T1 => F19_9  l0 l1 T1))
theorem G19_0 {z : Option mm_O} {T : fS} {r : fR}  (l0 : Nat) (xl1 : Int32) (l1 : Nat) (hl1 : xl1 = nI l1) (h : F19_0  l0 l1 T = some r) : mm_L 19 0 [.ref l0, .int xl1] [] (toS z T) = some (tR z r) := by
  unfold F19_0 at h
  refine Eq.trans (e19_0 ..) ?_
  exact (fb_s (fun _ q => (fun q => by rw [hl1]; exact fsf_ok (v := .inl l1) q) q) h (fun T1 h2 => G19_9  _ _ _ hl1 h2))
theorem GM19 {z : Option mm_O} {T : fS} {r : fR} (l0 : Nat) (xl1 : Int32) (l1 : Nat) (hl1 : xl1 = nI l1) (h : F19_0 l0 l1 T = some r) : mm_M 19 [.ref l0, .int xl1] (toS z T) = some (tR z r) := Eq.trans (M_19 ..) (G19_0 l0 xl1 l1 hl1 h)
-- 20: HandArchive$Rule.hasException
noncomputable def F20_26  (l0 : Nat) (l1 : Nat) (s0 : Nat) (T : fS) : Option fR := (fif (Bool.rec (motive := fun _ => Bool) (ieq s0 1) true (ieq s0 0)) (some ((.inl (some (.inl s0)), T) : fR)) (none : Option fR))
theorem G20_26 {z : Option mm_O} {T : fS} {r : fR}  (l0 : Nat) (xl1 : Int32) (l1 : Nat) (hl1 : xl1 = nI l1) (xs0 : Int32) (s0 : Nat) (hs0 : xs0 = nI s0) (h : F20_26  l0 l1 s0 T = some r) : mm_L 20 26 [.ref l0, .int xl1] [.int xs0] (toS z T) = some (tR z r) := by
  unfold F20_26 at h
  refine Eq.trans (e20_26 ..) ?_
  exact (fb_if (cj_01 hs0) h (fun h1 => (fr_i hs0 h1)) (fun h1 => (fr_n h1)))
noncomputable def F20_21  (l0 : Nat) (l1 : Nat) (T : fS) : Option fR := (F20_26  l0 l1 1 T)
theorem G20_21 {z : Option mm_O} {T : fS} {r : fR}  (l0 : Nat) (xl1 : Int32) (l1 : Nat) (hl1 : xl1 = nI l1) (h : F20_21  l0 l1 T = some r) : mm_L 20 21 [.ref l0, .int xl1] [] (toS z T) = some (tR z r) := by
  unfold F20_21 at h
  refine Eq.trans (e20_21 ..) ?_
  exact (G20_26  _ _ _ hl1 _ _ (rfl : (1 : Int32) = nI 1) h)
noncomputable def F20_25  (l0 : Nat) (l1 : Nat) (T : fS) : Option fR := (F20_26  l0 l1 0 T)
theorem G20_25 {z : Option mm_O} {T : fS} {r : fR}  (l0 : Nat) (xl1 : Int32) (l1 : Nat) (hl1 : xl1 = nI l1) (h : F20_25  l0 l1 T = some r) : mm_L 20 25 [.ref l0, .int xl1] [] (toS z T) = some (tR z r) := by
  unfold F20_25 at h
  refine Eq.trans (e20_25 ..) ?_
  exact (G20_26  _ _ _ hl1 _ _ (rfl : (0 : Int32) = nI 0) h)
noncomputable def F20_18  (l0 : Nat) (l1 : Nat) (s0 : Nat) (T : fS) : Option fR := (fif (ieq s0 0) (F20_25  l0 l1 T) (F20_21  l0 l1 T))
theorem G20_18 {z : Option mm_O} {T : fS} {r : fR}  (l0 : Nat) (xl1 : Int32) (l1 : Nat) (hl1 : xl1 = nI l1) (xs0 : Int32) (s0 : Nat) (hs0 : xs0 = nI s0) (h : F20_18  l0 l1 s0 T = some r) : mm_L 20 18 [.ref l0, .int xl1] [.int xs0] (toS z T) = some (tR z r) := by
  unfold F20_18 at h
  refine Eq.trans (e20_18 ..) ?_
  exact (fb_if (cj_eq hs0 (rfl : (0 : Int32) = nI 0)) h (fun h1 => (G20_25  _ _ _ hl1 h1)) (fun h1 => (G20_21  _ _ _ hl1 h1)))
noncomputable def F20_16  (l0 : Nat) (l1 : Nat) (s0 : Nat) (T : fS) : Option fR := (fbn (fal T s0 l1 true) (fun v0 => F20_18  l0 l1 v0 T))
theorem G20_16 {z : Option mm_O} {T : fS} {r : fR}  (l0 : Nat) (xl1 : Int32) (l1 : Nat) (hl1 : xl1 = nI l1) (s0 : Nat) (h : F20_16  l0 l1 s0 T = some r) : mm_L 20 16 [.ref l0, .int xl1] [.ref s0] (toS z T) = some (tR z r) := by
  unfold F20_16 at h
  refine Eq.trans (e20_16 ..) ?_
  exact (fb_n (fun _ q => by rw [hl1]; exact fal_ok q) h (fun v0 h2 => G20_18  _ _ _ hl1 _ _ rfl h2))
noncomputable def F20_12  (l0 : Nat) (l1 : Nat) (T : fS) : Option fR := (fbv (fgr T l0 4 1) (fun v0 => F20_16  l0 l1 v0 T) ((none : Option fR)))
theorem G20_12 {z : Option mm_O} {T : fS} {r : fR}  (l0 : Nat) (xl1 : Int32) (l1 : Nat) (hl1 : xl1 = nI l1) (h : F20_12  l0 l1 T = some r) : mm_L 20 12 [.ref l0, .int xl1] [] (toS z T) = some (tR z r) := by
  unfold F20_12 at h
  refine Eq.trans (e20_12 ..) ?_
  exact (fb_v (fun _ q => fgr_ok q) h (fun v0 h2 => G20_16  _ _ _ hl1 _ h2) (fun h2 => fr_n h2))
noncomputable def F20_9  (l0 : Nat) (l1 : Nat) (s0 : Nat) (T : fS) : Option fR := (fif (ieq s0 0) (F20_25  l0 l1 T) (F20_12  l0 l1 T))
theorem G20_9 {z : Option mm_O} {T : fS} {r : fR}  (l0 : Nat) (xl1 : Int32) (l1 : Nat) (hl1 : xl1 = nI l1) (xs0 : Int32) (s0 : Nat) (hs0 : xs0 = nI s0) (h : F20_9  l0 l1 s0 T = some r) : mm_L 20 9 [.ref l0, .int xl1] [.int xs0] (toS z T) = some (tR z r) := by
  unfold F20_9 at h
  refine Eq.trans (e20_9 ..) ?_
  exact (fb_if (cj_eq hs0 (rfl : (0 : Int32) = nI 0)) h (fun h1 => (G20_25  _ _ _ hl1 h1)) (fun h1 => (G20_12  _ _ _ hl1 h1)))
noncomputable def F20_6  (l0 : Nat) (l1 : Nat) (s0 : Nat) (s1 : Nat) (T : fS) : Option fR := (fKi false (F101_0 s1 s0 T) (fun v0 T1 => F20_9  l0 l1 v0 T1))
theorem G20_6 {z : Option mm_O} {T : fS} {r : fR}  (l0 : Nat) (xl1 : Int32) (l1 : Nat) (hl1 : xl1 = nI l1) (xs0 : Int32) (s0 : Nat) (hs0 : xs0 = nI s0) (xs1 : Int32) (s1 : Nat) (hs1 : xs1 = nI s1) (h : F20_6  l0 l1 s0 s1 T = some r) : mm_L 20 6 [.ref l0, .int xl1] [.int xs0, .int xs1] (toS z T) = some (tR z r) := by
  unfold F20_6 at h
  refine Eq.trans (e20_6 ..) ?_
  exact (fb_K2i (fun _ q => GM101 _ _ hs1 _ _ hs0 q) h (fun v0 T1 h2 => G20_9  _ _ _ hl1 _ _ rfl h2))
noncomputable def F20_5  (l0 : Nat) (l1 : Nat) (s0 : Nat) (s1 : Nat) (T : fS) : Option fR := (fbn (fln T s0) (fun v0 => F20_6  l0 l1 v0 s1 T))
theorem G20_5 {z : Option mm_O} {T : fS} {r : fR}  (l0 : Nat) (xl1 : Int32) (l1 : Nat) (hl1 : xl1 = nI l1) (s0 : Nat) (xs1 : Int32) (s1 : Nat) (hs1 : xs1 = nI s1) (h : F20_5  l0 l1 s0 s1 T = some r) : mm_L 20 5 [.ref l0, .int xl1] [.ref s0, .int xs1] (toS z T) = some (tR z r) := by
  unfold F20_5 at h
  refine Eq.trans (e20_5 ..) ?_
  exact (fb_n (fun _ q => fln_ok q) h (fun v0 h2 => G20_6  _ _ _ hl1 _ _ rfl _ _ hs1 h2))
noncomputable def F20_0  (l0 : Nat) (l1 : Nat) (T : fS) : Option fR := (fbv (fgr T l0 4 1) (fun v0 => F20_5  l0 l1 v0 l1 T) ((none : Option fR)))
theorem G20_0 {z : Option mm_O} {T : fS} {r : fR}  (l0 : Nat) (xl1 : Int32) (l1 : Nat) (hl1 : xl1 = nI l1) (h : F20_0  l0 l1 T = some r) : mm_L 20 0 [.ref l0, .int xl1] [] (toS z T) = some (tR z r) := by
  unfold F20_0 at h
  refine Eq.trans (e20_0 ..) ?_
  exact (fb_v (fun _ q => fgr_ok q) h (fun v0 h2 => G20_5  _ _ _ hl1 _ _ _ hl1 h2) (fun h2 => fr_n h2))
theorem GM20 {z : Option mm_O} {T : fS} {r : fR} (l0 : Nat) (xl1 : Int32) (l1 : Nat) (hl1 : xl1 = nI l1) (h : F20_0 l0 l1 T = some r) : mm_M 20 [.ref l0, .int xl1] (toS z T) = some (tR z r) := Eq.trans (M_20 ..) (G20_0 l0 xl1 l1 hl1 h)
-- 22: HandArchive$Span.<init>
noncomputable def F22_19  (l0 : Nat) (l1 : Nat) (l2 : Nat) (l3 : Nat) (T : fS) : Option fR := (some ((.inl none, T) : fR))
theorem G22_19 {z : Option mm_O} {T : fS} {r : fR}  (l0 : Nat) (xl1 : Int32) (l1 : Nat) (hl1 : xl1 = nI l1) (xl2 : Int32) (l2 : Nat) (hl2 : xl2 = nI l2) (xl3 : Int32) (l3 : Nat) (hl3 : xl3 = nI l3) (h : F22_19  l0 l1 l2 l3 T = some r) : mm_L 22 19 [.ref l0, .int xl1, .int xl2, .int xl3] [] (toS z T) = some (tR z r) := by
  unfold F22_19 at h
  refine Eq.trans (e22_19 ..) ?_
  exact (fr_v h)
noncomputable def F22_14  (l0 : Nat) (l1 : Nat) (l2 : Nat) (l3 : Nat) (T : fS) : Option fR := (fbs (fsf T l0 5 2 (.inl l3)) (fun T1 => F22_19  l0 l1 l2 l3 T1))
theorem G22_14 {z : Option mm_O} {T : fS} {r : fR}  (l0 : Nat) (xl1 : Int32) (l1 : Nat) (hl1 : xl1 = nI l1) (xl2 : Int32) (l2 : Nat) (hl2 : xl2 = nI l2) (xl3 : Int32) (l3 : Nat) (hl3 : xl3 = nI l3) (h : F22_14  l0 l1 l2 l3 T = some r) : mm_L 22 14 [.ref l0, .int xl1, .int xl2, .int xl3] [] (toS z T) = some (tR z r) := by
  unfold F22_14 at h
  refine Eq.trans (e22_14 ..) ?_
  exact (fb_s (fun _ q => (fun q => by rw [hl3]; exact fsf_ok (v := .inl l3) q) q) h (fun T1 h2 => G22_19  _ _ _ hl1 _ _ hl2 _ _ hl3 h2))
noncomputable def F22_9  (l0 : Nat) (l1 : Nat) (l2 : Nat) (l3 : Nat) (T : fS) : Option fR := (fbs (fsf T l0 5 1 (.inl l2)) (fun T1 => F22_14  l0 l1 l2 l3 T1))
theorem G22_9 {z : Option mm_O} {T : fS} {r : fR}  (l0 : Nat) (xl1 : Int32) (l1 : Nat) (hl1 : xl1 = nI l1) (xl2 : Int32) (l2 : Nat) (hl2 : xl2 = nI l2) (xl3 : Int32) (l3 : Nat) (hl3 : xl3 = nI l3) (h : F22_9  l0 l1 l2 l3 T = some r) : mm_L 22 9 [.ref l0, .int xl1, .int xl2, .int xl3] [] (toS z T) = some (tR z r) := by
  unfold F22_9 at h
  refine Eq.trans (e22_9 ..) ?_
  exact (fb_s (fun _ q => (fun q => by rw [hl2]; exact fsf_ok (v := .inl l2) q) q) h (fun T1 h2 => G22_14  _ _ _ hl1 _ _ hl2 _ _ hl3 h2))
noncomputable def F22_0  (l0 : Nat) (l1 : Nat) (l2 : Nat) (l3 : Nat) (T : fS) : Option fR := (fbs (fsf T l0 5 0 (.inl l1)) (fun T1 => F22_9  l0 l1 l2 l3 T1))
theorem G22_0 {z : Option mm_O} {T : fS} {r : fR}  (l0 : Nat) (xl1 : Int32) (l1 : Nat) (hl1 : xl1 = nI l1) (xl2 : Int32) (l2 : Nat) (hl2 : xl2 = nI l2) (xl3 : Int32) (l3 : Nat) (hl3 : xl3 = nI l3) (h : F22_0  l0 l1 l2 l3 T = some r) : mm_L 22 0 [.ref l0, .int xl1, .int xl2, .int xl3] [] (toS z T) = some (tR z r) := by
  unfold F22_0 at h
  refine Eq.trans (e22_0 ..) ?_
  exact (fb_s (fun _ q => (fun q => by rw [hl1]; exact fsf_ok (v := .inl l1) q) q) h (fun T1 h2 => G22_9  _ _ _ hl1 _ _ hl2 _ _ hl3 h2))
theorem GM22 {z : Option mm_O} {T : fS} {r : fR} (l0 : Nat) (xl1 : Int32) (l1 : Nat) (hl1 : xl1 = nI l1) (xl2 : Int32) (l2 : Nat) (hl2 : xl2 = nI l2) (xl3 : Int32) (l3 : Nat) (hl3 : xl3 = nI l3) (h : F22_0 l0 l1 l2 l3 T = some r) : mm_M 22 [.ref l0, .int xl1, .int xl2, .int xl3] (toS z T) = some (tR z r) := Eq.trans (M_22 ..) (G22_0 l0 xl1 l1 hl1 xl2 l2 hl2 xl3 l3 hl3 h)
-- 29: HandArchive.numberBy
noncomputable def F29_47  (l0 : Nat) (l1 : Nat) (s0 : Nat) (s1 : Nat) (T : fS) : Option fR := (some ((.inl (some (.inl (iA s1 s0))), T) : fR))
theorem G29_47 {z : Option mm_O} {T : fS} {r : fR}  (xl0 : Int32) (l0 : Nat) (hl0 : xl0 = nI l0) (l1 : Nat) (ul2 : Value) (ul3 : Value) (ul4 : Value) (xs0 : Int32) (s0 : Nat) (hs0 : xs0 = nI s0) (xs1 : Int32) (s1 : Nat) (hs1 : xs1 = nI s1) (h : F29_47  l0 l1 s0 s1 T = some r) : mm_L 29 47 [.int xl0, .ref l1, ul2, ul3, ul4] [.int xs0, .int xs1] (toS z T) = some (tR z r) := by
  unfold F29_47 at h
  refine Eq.trans (e29_47 ..) ?_
  exact (fr_i (iA_ok hs1 hs0) h)
noncomputable def F29_41  (l0 : Nat) (l1 : Nat) (s0 : Nat) (s1 : Nat) (s2 : Nat) (T : fS) : Option fR := (fbn (fgi T l1 1 2) (fun v0 => F29_47  l0 l1 v0 (iA s2 (iM s1 s0)) T))
theorem G29_41 {z : Option mm_O} {T : fS} {r : fR}  (xl0 : Int32) (l0 : Nat) (hl0 : xl0 = nI l0) (l1 : Nat) (ul2 : Value) (ul3 : Value) (ul4 : Value) (xs0 : Int32) (s0 : Nat) (hs0 : xs0 = nI s0) (xs1 : Int32) (s1 : Nat) (hs1 : xs1 = nI s1) (xs2 : Int32) (s2 : Nat) (hs2 : xs2 = nI s2) (h : F29_41  l0 l1 s0 s1 s2 T = some r) : mm_L 29 41 [.int xl0, .ref l1, ul2, ul3, ul4] [.int xs0, .int xs1, .int xs2] (toS z T) = some (tR z r) := by
  unfold F29_41 at h
  refine Eq.trans (e29_41 ..) ?_
  exact (fb_n (fun _ q => fgi_ok q) h (fun v0 h2 => G29_47  _ _ hl0 _ _ _ _ _ _ rfl _ _ (iA_ok hs2 (iM_ok hs1 hs0)) h2))
noncomputable def F29_34  (l0 : Nat) (l1 : Nat) (s0 : Nat) (s1 : Nat) (T : fS) : Option fR := (fbn (fgi T l1 1 1) (fun v0 => F29_41  l0 l1 v0 9 (iM s1 s0) T))
theorem G29_34 {z : Option mm_O} {T : fS} {r : fR}  (xl0 : Int32) (l0 : Nat) (hl0 : xl0 = nI l0) (l1 : Nat) (ul2 : Value) (ul3 : Value) (ul4 : Value) (xs0 : Int32) (s0 : Nat) (hs0 : xs0 = nI s0) (xs1 : Int32) (s1 : Nat) (hs1 : xs1 = nI s1) (h : F29_34  l0 l1 s0 s1 T = some r) : mm_L 29 34 [.int xl0, .ref l1, ul2, ul3, ul4] [.int xs0, .int xs1] (toS z T) = some (tR z r) := by
  unfold F29_34 at h
  refine Eq.trans (e29_34 ..) ?_
  exact (fb_n (fun _ q => fgi_ok q) h (fun v0 h2 => G29_41  _ _ hl0 _ _ _ _ _ _ rfl _ _ (rfl : (9 : Int32) = nI 9) _ _ (iM_ok hs1 hs0) h2))
noncomputable def F29_28  (l0 : Nat) (l1 : Nat) (T : fS) : Option fR := (fbn (fgi T l1 1 0) (fun v0 => F29_34  l0 l1 v0 81 T))
theorem G29_28 {z : Option mm_O} {T : fS} {r : fR}  (xl0 : Int32) (l0 : Nat) (hl0 : xl0 = nI l0) (l1 : Nat) (ul2 : Value) (ul3 : Value) (ul4 : Value) (h : F29_28  l0 l1 T = some r) : mm_L 29 28 [.int xl0, .ref l1, ul2, ul3, ul4] [] (toS z T) = some (tR z r) := by
  unfold F29_28 at h
  refine Eq.trans (e29_28 ..) ?_
  exact (fb_n (fun _ q => fgi_ok q) h (fun v0 h2 => G29_34  _ _ hl0 _ _ _ _ _ _ rfl _ _ (rfl : (81 : Int32) = nI 81) h2))
noncomputable def F29_75  (l0 : Nat) (l1 : Nat) (s0 : Nat) (s1 : Nat) (T : fS) : Option fR := (some ((.inl (some (.inl (iA s1 s0))), T) : fR))
theorem G29_75 {z : Option mm_O} {T : fS} {r : fR}  (xl0 : Int32) (l0 : Nat) (hl0 : xl0 = nI l0) (l1 : Nat) (ul2 : Value) (ul3 : Value) (ul4 : Value) (xs0 : Int32) (s0 : Nat) (hs0 : xs0 = nI s0) (xs1 : Int32) (s1 : Nat) (hs1 : xs1 = nI s1) (h : F29_75  l0 l1 s0 s1 T = some r) : mm_L 29 75 [.int xl0, .ref l1, ul2, ul3, ul4] [.int xs0, .int xs1] (toS z T) = some (tR z r) := by
  unfold F29_75 at h
  refine Eq.trans (e29_75 ..) ?_
  exact (fr_i (iA_ok hs1 hs0) h)
noncomputable def F29_69  (l0 : Nat) (l1 : Nat) (s0 : Nat) (s1 : Nat) (s2 : Nat) (T : fS) : Option fR := (fbn (fgi T l1 1 5) (fun v0 => F29_75  l0 l1 v0 (iA s2 (iM s1 s0)) T))
theorem G29_69 {z : Option mm_O} {T : fS} {r : fR}  (xl0 : Int32) (l0 : Nat) (hl0 : xl0 = nI l0) (l1 : Nat) (ul2 : Value) (ul3 : Value) (ul4 : Value) (xs0 : Int32) (s0 : Nat) (hs0 : xs0 = nI s0) (xs1 : Int32) (s1 : Nat) (hs1 : xs1 = nI s1) (xs2 : Int32) (s2 : Nat) (hs2 : xs2 = nI s2) (h : F29_69  l0 l1 s0 s1 s2 T = some r) : mm_L 29 69 [.int xl0, .ref l1, ul2, ul3, ul4] [.int xs0, .int xs1, .int xs2] (toS z T) = some (tR z r) := by
  unfold F29_69 at h
  refine Eq.trans (e29_69 ..) ?_
  exact (fb_n (fun _ q => fgi_ok q) h (fun v0 h2 => G29_75  _ _ hl0 _ _ _ _ _ _ rfl _ _ (iA_ok hs2 (iM_ok hs1 hs0)) h2))
noncomputable def F29_62  (l0 : Nat) (l1 : Nat) (s0 : Nat) (s1 : Nat) (s2 : Nat) (T : fS) : Option fR := (fbn (fgi T l1 1 4) (fun v0 => F29_69  l0 l1 v0 3 (iA s2 (iM s1 s0)) T))
theorem G29_62 {z : Option mm_O} {T : fS} {r : fR}  (xl0 : Int32) (l0 : Nat) (hl0 : xl0 = nI l0) (l1 : Nat) (ul2 : Value) (ul3 : Value) (ul4 : Value) (xs0 : Int32) (s0 : Nat) (hs0 : xs0 = nI s0) (xs1 : Int32) (s1 : Nat) (hs1 : xs1 = nI s1) (xs2 : Int32) (s2 : Nat) (hs2 : xs2 = nI s2) (h : F29_62  l0 l1 s0 s1 s2 T = some r) : mm_L 29 62 [.int xl0, .ref l1, ul2, ul3, ul4] [.int xs0, .int xs1, .int xs2] (toS z T) = some (tR z r) := by
  unfold F29_62 at h
  refine Eq.trans (e29_62 ..) ?_
  exact (fb_n (fun _ q => fgi_ok q) h (fun v0 h2 => G29_69  _ _ hl0 _ _ _ _ _ _ rfl _ _ (rfl : (3 : Int32) = nI 3) _ _ (iA_ok hs2 (iM_ok hs1 hs0)) h2))
noncomputable def F29_55  (l0 : Nat) (l1 : Nat) (s0 : Nat) (s1 : Nat) (T : fS) : Option fR := (fbn (fgi T l1 1 3) (fun v0 => F29_62  l0 l1 v0 12 (iM s1 s0) T))
theorem G29_55 {z : Option mm_O} {T : fS} {r : fR}  (xl0 : Int32) (l0 : Nat) (hl0 : xl0 = nI l0) (l1 : Nat) (ul2 : Value) (ul3 : Value) (ul4 : Value) (xs0 : Int32) (s0 : Nat) (hs0 : xs0 = nI s0) (xs1 : Int32) (s1 : Nat) (hs1 : xs1 = nI s1) (h : F29_55  l0 l1 s0 s1 T = some r) : mm_L 29 55 [.int xl0, .ref l1, ul2, ul3, ul4] [.int xs0, .int xs1] (toS z T) = some (tR z r) := by
  unfold F29_55 at h
  refine Eq.trans (e29_55 ..) ?_
  exact (fb_n (fun _ q => fgi_ok q) h (fun v0 h2 => G29_62  _ _ hl0 _ _ _ _ _ _ rfl _ _ (rfl : (12 : Int32) = nI 12) _ _ (iM_ok hs1 hs0) h2))
noncomputable def F29_49  (l0 : Nat) (l1 : Nat) (T : fS) : Option fR := (fbn (fgi T l1 1 0) (fun v0 => F29_55  l0 l1 v0 48 T))
theorem G29_49 {z : Option mm_O} {T : fS} {r : fR}  (xl0 : Int32) (l0 : Nat) (hl0 : xl0 = nI l0) (l1 : Nat) (ul2 : Value) (ul3 : Value) (ul4 : Value) (h : F29_49  l0 l1 T = some r) : mm_L 29 49 [.int xl0, .ref l1, ul2, ul3, ul4] [] (toS z T) = some (tR z r) := by
  unfold F29_49 at h
  refine Eq.trans (e29_49 ..) ?_
  exact (fb_n (fun _ q => fgi_ok q) h (fun v0 h2 => G29_55  _ _ hl0 _ _ _ _ _ _ rfl _ _ (rfl : (48 : Int32) = nI 48) h2))
noncomputable def F29_129  (l0 : Nat) (l1 : Nat) (l2 : Nat) (l3 : Nat) (s0 : Nat) (T : fS) : Option fR := (some ((.inl (some (.inl (iA (iA l2 (iM 3 l3)) (iA s0 1)))), T) : fR))
theorem G29_129 {z : Option mm_O} {T : fS} {r : fR}  (xl0 : Int32) (l0 : Nat) (hl0 : xl0 = nI l0) (l1 : Nat) (xl2 : Int32) (l2 : Nat) (hl2 : xl2 = nI l2) (xl3 : Int32) (l3 : Nat) (hl3 : xl3 = nI l3) (ul4 : Value) (xs0 : Int32) (s0 : Nat) (hs0 : xs0 = nI s0) (h : F29_129  l0 l1 l2 l3 s0 T = some r) : mm_L 29 129 [.int xl0, .ref l1, .int xl2, .int xl3, ul4] [.int xs0] (toS z T) = some (tR z r) := by
  unfold F29_129 at h
  refine Eq.trans (e29_129 ..) ?_
  exact (fr_i (iA_ok (iA_ok hl2 (iM_ok (rfl : (3 : Int32) = nI 3) hl3)) (iA_ok hs0 (rfl : (1 : Int32) = nI 1))) h)
noncomputable def F29_126  (l0 : Nat) (l1 : Nat) (l2 : Nat) (l3 : Nat) (s0 : Nat) (s1 : Nat) (T : fS) : Option fR := (fKi true (F105_0 s1 s0 T) (fun v0 T1 => F29_129  l0 l1 l2 l3 v0 T1))
theorem G29_126 {z : Option mm_O} {T : fS} {r : fR}  (xl0 : Int32) (l0 : Nat) (hl0 : xl0 = nI l0) (l1 : Nat) (xl2 : Int32) (l2 : Nat) (hl2 : xl2 = nI l2) (xl3 : Int32) (l3 : Nat) (hl3 : xl3 = nI l3) (ul4 : Value) (xs0 : Int32) (s0 : Nat) (hs0 : xs0 = nI s0) (xs1 : Int32) (s1 : Nat) (hs1 : xs1 = nI s1) (h : F29_126  l0 l1 l2 l3 s0 s1 T = some r) : mm_L 29 126 [.int xl0, .ref l1, .int xl2, .int xl3, ul4] [.int xs0, .int xs1] (toS z T) = some (tR z r) := by
  unfold F29_126 at h
  refine Eq.trans (e29_126 ..) ?_
  exact (fb_K0i (fun _ q => GM105 _ _ hs1 _ _ hs0 q) h (fun v0 T1 h2 => G29_129  _ _ hl0 _ _ _ hl2 _ _ hl3 _ _ _ rfl h2))
noncomputable def F29_123  (l0 : Nat) (l1 : Nat) (l2 : Nat) (l3 : Nat) (s0 : Nat) (s1 : Nat) (T : fS) : Option fR := (fKi true (F103_0 s0 T) (fun v0 T1 => F29_126  l0 l1 l2 l3 v0 s1 T1))
theorem G29_123 {z : Option mm_O} {T : fS} {r : fR}  (xl0 : Int32) (l0 : Nat) (hl0 : xl0 = nI l0) (l1 : Nat) (xl2 : Int32) (l2 : Nat) (hl2 : xl2 = nI l2) (xl3 : Int32) (l3 : Nat) (hl3 : xl3 = nI l3) (ul4 : Value) (xs0 : Int32) (s0 : Nat) (hs0 : xs0 = nI s0) (xs1 : Int32) (s1 : Nat) (hs1 : xs1 = nI s1) (h : F29_123  l0 l1 l2 l3 s0 s1 T = some r) : mm_L 29 123 [.int xl0, .ref l1, .int xl2, .int xl3, ul4] [.int xs0, .int xs1] (toS z T) = some (tR z r) := by
  unfold F29_123 at h
  refine Eq.trans (e29_123 ..) ?_
  exact (fb_K0i (fun _ q => GM103 _ _ hs0 q) h (fun v0 T1 h2 => G29_126  _ _ hl0 _ _ _ hl2 _ _ hl3 _ _ _ rfl _ _ hs1 h2))
noncomputable def F29_119  (l0 : Nat) (l1 : Nat) (l2 : Nat) (l3 : Nat) (s0 : Nat) (T : fS) : Option fR := (fbn (fgi T l1 1 2) (fun v0 => F29_123  l0 l1 l2 l3 v0 s0 T))
theorem G29_119 {z : Option mm_O} {T : fS} {r : fR}  (xl0 : Int32) (l0 : Nat) (hl0 : xl0 = nI l0) (l1 : Nat) (xl2 : Int32) (l2 : Nat) (hl2 : xl2 = nI l2) (xl3 : Int32) (l3 : Nat) (hl3 : xl3 = nI l3) (ul4 : Value) (xs0 : Int32) (s0 : Nat) (hs0 : xs0 = nI s0) (h : F29_119  l0 l1 l2 l3 s0 T = some r) : mm_L 29 119 [.int xl0, .ref l1, .int xl2, .int xl3, ul4] [.int xs0] (toS z T) = some (tR z r) := by
  unfold F29_119 at h
  refine Eq.trans (e29_119 ..) ?_
  exact (fb_n (fun _ q => fgi_ok q) h (fun v0 h2 => G29_123  _ _ hl0 _ _ _ hl2 _ _ hl3 _ _ _ rfl _ _ hs0 h2))
noncomputable def F29_116  (l0 : Nat) (l1 : Nat) (l2 : Nat) (l3 : Nat) (s0 : Nat) (T : fS) : Option fR := (fKi true (F103_0 s0 T) (fun v0 T1 => F29_119  l0 l1 l2 l3 v0 T1))
theorem G29_116 {z : Option mm_O} {T : fS} {r : fR}  (xl0 : Int32) (l0 : Nat) (hl0 : xl0 = nI l0) (l1 : Nat) (xl2 : Int32) (l2 : Nat) (hl2 : xl2 = nI l2) (xl3 : Int32) (l3 : Nat) (hl3 : xl3 = nI l3) (ul4 : Value) (xs0 : Int32) (s0 : Nat) (hs0 : xs0 = nI s0) (h : F29_116  l0 l1 l2 l3 s0 T = some r) : mm_L 29 116 [.int xl0, .ref l1, .int xl2, .int xl3, ul4] [.int xs0] (toS z T) = some (tR z r) := by
  unfold F29_116 at h
  refine Eq.trans (e29_116 ..) ?_
  exact (fb_K0i (fun _ q => GM103 _ _ hs0 q) h (fun v0 T1 h2 => G29_119  _ _ hl0 _ _ _ hl2 _ _ hl3 _ _ _ rfl h2))
noncomputable def F29_109  (l0 : Nat) (l1 : Nat) (l2 : Nat) (s0 : Nat) (T : fS) : Option fR := (fbn (fgi T l1 1 1) (fun v0 => F29_116  l0 l1 l2 (iA s0 1) v0 T))
theorem G29_109 {z : Option mm_O} {T : fS} {r : fR}  (xl0 : Int32) (l0 : Nat) (hl0 : xl0 = nI l0) (l1 : Nat) (xl2 : Int32) (l2 : Nat) (hl2 : xl2 = nI l2) (ul3 : Value) (ul4 : Value) (xs0 : Int32) (s0 : Nat) (hs0 : xs0 = nI s0) (h : F29_109  l0 l1 l2 s0 T = some r) : mm_L 29 109 [.int xl0, .ref l1, .int xl2, ul3, ul4] [.int xs0] (toS z T) = some (tR z r) := by
  unfold F29_109 at h
  refine Eq.trans (e29_109 ..) ?_
  exact (fb_n (fun _ q => fgi_ok q) h (fun v0 h2 => G29_116  _ _ hl0 _ _ _ hl2 _ _ (iA_ok hs0 (rfl : (1 : Int32) = nI 1)) _ _ _ rfl h2))
noncomputable def F29_106  (l0 : Nat) (l1 : Nat) (l2 : Nat) (s0 : Nat) (s1 : Nat) (T : fS) : Option fR := (fKi true (F105_0 s1 s0 T) (fun v0 T1 => F29_109  l0 l1 l2 v0 T1))
theorem G29_106 {z : Option mm_O} {T : fS} {r : fR}  (xl0 : Int32) (l0 : Nat) (hl0 : xl0 = nI l0) (l1 : Nat) (xl2 : Int32) (l2 : Nat) (hl2 : xl2 = nI l2) (ul3 : Value) (ul4 : Value) (xs0 : Int32) (s0 : Nat) (hs0 : xs0 = nI s0) (xs1 : Int32) (s1 : Nat) (hs1 : xs1 = nI s1) (h : F29_106  l0 l1 l2 s0 s1 T = some r) : mm_L 29 106 [.int xl0, .ref l1, .int xl2, ul3, ul4] [.int xs0, .int xs1] (toS z T) = some (tR z r) := by
  unfold F29_106 at h
  refine Eq.trans (e29_106 ..) ?_
  exact (fb_K0i (fun _ q => GM105 _ _ hs1 _ _ hs0 q) h (fun v0 T1 h2 => G29_109  _ _ hl0 _ _ _ hl2 _ _ _ _ rfl h2))
noncomputable def F29_103  (l0 : Nat) (l1 : Nat) (l2 : Nat) (s0 : Nat) (s1 : Nat) (T : fS) : Option fR := (fKi true (F102_0 s0 T) (fun v0 T1 => F29_106  l0 l1 l2 v0 s1 T1))
theorem G29_103 {z : Option mm_O} {T : fS} {r : fR}  (xl0 : Int32) (l0 : Nat) (hl0 : xl0 = nI l0) (l1 : Nat) (xl2 : Int32) (l2 : Nat) (hl2 : xl2 = nI l2) (ul3 : Value) (ul4 : Value) (xs0 : Int32) (s0 : Nat) (hs0 : xs0 = nI s0) (xs1 : Int32) (s1 : Nat) (hs1 : xs1 = nI s1) (h : F29_103  l0 l1 l2 s0 s1 T = some r) : mm_L 29 103 [.int xl0, .ref l1, .int xl2, ul3, ul4] [.int xs0, .int xs1] (toS z T) = some (tR z r) := by
  unfold F29_103 at h
  refine Eq.trans (e29_103 ..) ?_
  exact (fb_K0i (fun _ q => GM102 _ _ hs0 q) h (fun v0 T1 h2 => G29_106  _ _ hl0 _ _ _ hl2 _ _ _ _ rfl _ _ hs1 h2))
noncomputable def F29_99  (l0 : Nat) (l1 : Nat) (l2 : Nat) (s0 : Nat) (T : fS) : Option fR := (fbn (fgi T l1 1 2) (fun v0 => F29_103  l0 l1 l2 v0 s0 T))
theorem G29_99 {z : Option mm_O} {T : fS} {r : fR}  (xl0 : Int32) (l0 : Nat) (hl0 : xl0 = nI l0) (l1 : Nat) (xl2 : Int32) (l2 : Nat) (hl2 : xl2 = nI l2) (ul3 : Value) (ul4 : Value) (xs0 : Int32) (s0 : Nat) (hs0 : xs0 = nI s0) (h : F29_99  l0 l1 l2 s0 T = some r) : mm_L 29 99 [.int xl0, .ref l1, .int xl2, ul3, ul4] [.int xs0] (toS z T) = some (tR z r) := by
  unfold F29_99 at h
  refine Eq.trans (e29_99 ..) ?_
  exact (fb_n (fun _ q => fgi_ok q) h (fun v0 h2 => G29_103  _ _ hl0 _ _ _ hl2 _ _ _ _ rfl _ _ hs0 h2))
noncomputable def F29_96  (l0 : Nat) (l1 : Nat) (l2 : Nat) (s0 : Nat) (T : fS) : Option fR := (fKi true (F102_0 s0 T) (fun v0 T1 => F29_99  l0 l1 l2 v0 T1))
theorem G29_96 {z : Option mm_O} {T : fS} {r : fR}  (xl0 : Int32) (l0 : Nat) (hl0 : xl0 = nI l0) (l1 : Nat) (xl2 : Int32) (l2 : Nat) (hl2 : xl2 = nI l2) (ul3 : Value) (ul4 : Value) (xs0 : Int32) (s0 : Nat) (hs0 : xs0 = nI s0) (h : F29_96  l0 l1 l2 s0 T = some r) : mm_L 29 96 [.int xl0, .ref l1, .int xl2, ul3, ul4] [.int xs0] (toS z T) = some (tR z r) := by
  unfold F29_96 at h
  refine Eq.trans (e29_96 ..) ?_
  exact (fb_K0i (fun _ q => GM102 _ _ hs0 q) h (fun v0 T1 h2 => G29_99  _ _ hl0 _ _ _ hl2 _ _ _ _ rfl h2))
noncomputable def F29_91  (l0 : Nat) (l1 : Nat) (s0 : Nat) (T : fS) : Option fR := (fbn (fgi T l1 1 1) (fun v0 => F29_96  l0 l1 s0 v0 T))
theorem G29_91 {z : Option mm_O} {T : fS} {r : fR}  (xl0 : Int32) (l0 : Nat) (hl0 : xl0 = nI l0) (l1 : Nat) (ul2 : Value) (ul3 : Value) (ul4 : Value) (xs0 : Int32) (s0 : Nat) (hs0 : xs0 = nI s0) (h : F29_91  l0 l1 s0 T = some r) : mm_L 29 91 [.int xl0, .ref l1, ul2, ul3, ul4] [.int xs0] (toS z T) = some (tR z r) := by
  unfold F29_91 at h
  refine Eq.trans (e29_91 ..) ?_
  exact (fb_n (fun _ q => fgi_ok q) h (fun v0 h2 => G29_96  _ _ hl0 _ _ _ hs0 _ _ _ _ rfl h2))
noncomputable def F29_85  (l0 : Nat) (l1 : Nat) (T : fS) : Option fR := (F29_91  l0 l1 9 T)
theorem G29_85 {z : Option mm_O} {T : fS} {r : fR}  (xl0 : Int32) (l0 : Nat) (hl0 : xl0 = nI l0) (l1 : Nat) (ul2 : Value) (ul3 : Value) (ul4 : Value) (h : F29_85  l0 l1 T = some r) : mm_L 29 85 [.int xl0, .ref l1, ul2, ul3, ul4] [] (toS z T) = some (tR z r) := by
  unfold F29_85 at h
  refine Eq.trans (e29_85 ..) ?_
  exact (G29_91  _ _ hl0 _ _ _ _ _ _ (rfl : (9 : Int32) = nI 9) h)
noncomputable def F29_90  (l0 : Nat) (l1 : Nat) (T : fS) : Option fR := (F29_91  l0 l1 0 T)
theorem G29_90 {z : Option mm_O} {T : fS} {r : fR}  (xl0 : Int32) (l0 : Nat) (hl0 : xl0 = nI l0) (l1 : Nat) (ul2 : Value) (ul3 : Value) (ul4 : Value) (h : F29_90  l0 l1 T = some r) : mm_L 29 90 [.int xl0, .ref l1, ul2, ul3, ul4] [] (toS z T) = some (tR z r) := by
  unfold F29_90 at h
  refine Eq.trans (e29_90 ..) ?_
  exact (G29_91  _ _ hl0 _ _ _ _ _ _ (rfl : (0 : Int32) = nI 0) h)
noncomputable def F29_81  (l0 : Nat) (l1 : Nat) (s0 : Nat) (T : fS) : Option fR := (fif (ile 4 s0) (F29_90  l0 l1 T) (F29_85  l0 l1 T))
theorem G29_81 {z : Option mm_O} {T : fS} {r : fR}  (xl0 : Int32) (l0 : Nat) (hl0 : xl0 = nI l0) (l1 : Nat) (ul2 : Value) (ul3 : Value) (ul4 : Value) (xs0 : Int32) (s0 : Nat) (hs0 : xs0 = nI s0) (h : F29_81  l0 l1 s0 T = some r) : mm_L 29 81 [.int xl0, .ref l1, ul2, ul3, ul4] [.int xs0] (toS z T) = some (tR z r) := by
  unfold F29_81 at h
  refine Eq.trans (e29_81 ..) ?_
  exact (fb_if (cj_le (rfl : (4 : Int32) = nI 4) hs0) h (fun h1 => (G29_90  _ _ hl0 _ _ _ _ h1)) (fun h1 => (G29_85  _ _ hl0 _ _ _ _ h1)))
noncomputable def F29_77  (l0 : Nat) (l1 : Nat) (T : fS) : Option fR := (fbn (fgi T l1 1 0) (fun v0 => F29_81  l0 l1 v0 T))
theorem G29_77 {z : Option mm_O} {T : fS} {r : fR}  (xl0 : Int32) (l0 : Nat) (hl0 : xl0 = nI l0) (l1 : Nat) (ul2 : Value) (ul3 : Value) (ul4 : Value) (h : F29_77  l0 l1 T = some r) : mm_L 29 77 [.int xl0, .ref l1, ul2, ul3, ul4] [] (toS z T) = some (tR z r) := by
  unfold F29_77 at h
  refine Eq.trans (e29_77 ..) ?_
  exact (fb_n (fun _ q => fgi_ok q) h (fun v0 h2 => G29_81  _ _ hl0 _ _ _ _ _ _ rfl h2))
noncomputable def F29_0  (l0 : Nat) (l1 : Nat) (T : fS) : Option fR := (fif (ieq l0 0) (F29_28  l0 l1 T) (fif (ieq l0 1) (F29_49  l0 l1 T) (F29_77  l0 l1 T)))
theorem G29_0 {z : Option mm_O} {T : fS} {r : fR}  (xl0 : Int32) (l0 : Nat) (hl0 : xl0 = nI l0) (l1 : Nat) (ul2 : Value) (ul3 : Value) (ul4 : Value) (h : F29_0  l0 l1 T = some r) : mm_L 29 0 [.int xl0, .ref l1, ul2, ul3, ul4] [] (toS z T) = some (tR z r) := by
  unfold F29_0 at h
  refine Eq.trans (e29_0 ..) ?_
  exact (fb_if (cj_eq hl0 (rfl : (0 : Int32) = nI 0)) h (fun h1 => (G29_28  _ _ hl0 _ _ _ _ h1)) (fun h1 => (fb_if (cj_eq hl0 (rfl : (1 : Int32) = nI 1)) h1 (fun h1 => (G29_49  _ _ hl0 _ _ _ _ h1)) (fun h1 => (G29_77  _ _ hl0 _ _ _ _ h1)))))
theorem GM29 {z : Option mm_O} {T : fS} {r : fR} (xl0 : Int32) (l0 : Nat) (hl0 : xl0 = nI l0) (l1 : Nat) (h : F29_0 l0 l1 T = some r) : mm_M 29 [.int xl0, .ref l1] (toS z T) = some (tR z r) := Eq.trans (M_29 ..) (G29_0 xl0 l0 hl0 l1 _ _ _ h)
-- 30: HandArchive.isPossibleBase
noncomputable def F30_18  (l0 : Nat) (l1 : Nat) (s0 : Nat) (T : fS) : Option fR := (fif (Bool.rec (motive := fun _ => Bool) (ieq s0 1) true (ieq s0 0)) (some ((.inl (some (.inl s0)), T) : fR)) (none : Option fR))
theorem G30_18 {z : Option mm_O} {T : fS} {r : fR}  (xl0 : Int32) (l0 : Nat) (hl0 : xl0 = nI l0) (xl1 : Int32) (l1 : Nat) (hl1 : xl1 = nI l1) (xs0 : Int32) (s0 : Nat) (hs0 : xs0 = nI s0) (h : F30_18  l0 l1 s0 T = some r) : mm_L 30 18 [.int xl0, .int xl1] [.int xs0] (toS z T) = some (tR z r) := by
  unfold F30_18 at h
  refine Eq.trans (e30_18 ..) ?_
  exact (fb_if (cj_01 hs0) h (fun h1 => (fr_i hs0 h1)) (fun h1 => (fr_n h1)))
noncomputable def F30_13  (l0 : Nat) (l1 : Nat) (T : fS) : Option fR := (F30_18  l0 l1 1 T)
theorem G30_13 {z : Option mm_O} {T : fS} {r : fR}  (xl0 : Int32) (l0 : Nat) (hl0 : xl0 = nI l0) (xl1 : Int32) (l1 : Nat) (hl1 : xl1 = nI l1) (h : F30_13  l0 l1 T = some r) : mm_L 30 13 [.int xl0, .int xl1] [] (toS z T) = some (tR z r) := by
  unfold F30_13 at h
  refine Eq.trans (e30_13 ..) ?_
  exact (G30_18  _ _ hl0 _ _ hl1 _ _ (rfl : (1 : Int32) = nI 1) h)
noncomputable def F30_17  (l0 : Nat) (l1 : Nat) (T : fS) : Option fR := (F30_18  l0 l1 0 T)
theorem G30_17 {z : Option mm_O} {T : fS} {r : fR}  (xl0 : Int32) (l0 : Nat) (hl0 : xl0 = nI l0) (xl1 : Int32) (l1 : Nat) (hl1 : xl1 = nI l1) (h : F30_17  l0 l1 T = some r) : mm_L 30 17 [.int xl0, .int xl1] [] (toS z T) = some (tR z r) := by
  unfold F30_17 at h
  refine Eq.trans (e30_17 ..) ?_
  exact (G30_18  _ _ hl0 _ _ hl1 _ _ (rfl : (0 : Int32) = nI 0) h)
noncomputable def F30_10  (l0 : Nat) (l1 : Nat) (s0 : Nat) (T : fS) : Option fR := (fif (ieq s0 0) (F30_17  l0 l1 T) (F30_13  l0 l1 T))
theorem G30_10 {z : Option mm_O} {T : fS} {r : fR}  (xl0 : Int32) (l0 : Nat) (hl0 : xl0 = nI l0) (xl1 : Int32) (l1 : Nat) (hl1 : xl1 = nI l1) (xs0 : Int32) (s0 : Nat) (hs0 : xs0 = nI s0) (h : F30_10  l0 l1 s0 T = some r) : mm_L 30 10 [.int xl0, .int xl1] [.int xs0] (toS z T) = some (tR z r) := by
  unfold F30_10 at h
  refine Eq.trans (e30_10 ..) ?_
  exact (fb_if (cj_eq hs0 (rfl : (0 : Int32) = nI 0)) h (fun h1 => (G30_17  _ _ hl0 _ _ hl1 h1)) (fun h1 => (G30_13  _ _ hl0 _ _ hl1 h1)))
noncomputable def F30_5  (l0 : Nat) (l1 : Nat) (T : fS) : Option fR := (fKi false (F101_0 l1 4 T) (fun v0 T1 => F30_10  l0 l1 v0 T1))
theorem G30_5 {z : Option mm_O} {T : fS} {r : fR}  (xl0 : Int32) (l0 : Nat) (hl0 : xl0 = nI l0) (xl1 : Int32) (l1 : Nat) (hl1 : xl1 = nI l1) (h : F30_5  l0 l1 T = some r) : mm_L 30 5 [.int xl0, .int xl1] [] (toS z T) = some (tR z r) := by
  unfold F30_5 at h
  refine Eq.trans (e30_5 ..) ?_
  exact (fb_K2i (fun _ q => GM101 _ _ hl1 _ _ (rfl : (4 : Int32) = nI 4) q) h (fun v0 T1 h2 => G30_10  _ _ hl0 _ _ hl1 _ _ rfl h2))
noncomputable def F30_0  (l0 : Nat) (l1 : Nat) (T : fS) : Option fR := (fif (ieq l1 l0) (F30_13  l0 l1 T) (F30_5  l0 l1 T))
theorem G30_0 {z : Option mm_O} {T : fS} {r : fR}  (xl0 : Int32) (l0 : Nat) (hl0 : xl0 = nI l0) (xl1 : Int32) (l1 : Nat) (hl1 : xl1 = nI l1) (h : F30_0  l0 l1 T = some r) : mm_L 30 0 [.int xl0, .int xl1] [] (toS z T) = some (tR z r) := by
  unfold F30_0 at h
  refine Eq.trans (e30_0 ..) ?_
  exact (fb_if (cj_eq hl1 hl0) h (fun h1 => (G30_13  _ _ hl0 _ _ hl1 h1)) (fun h1 => (G30_5  _ _ hl0 _ _ hl1 h1)))
theorem GM30 {z : Option mm_O} {T : fS} {r : fR} (xl0 : Int32) (l0 : Nat) (hl0 : xl0 = nI l0) (xl1 : Int32) (l1 : Nat) (hl1 : xl1 = nI l1) (h : F30_0 l0 l1 T = some r) : mm_M 30 [.int xl0, .int xl1] (toS z T) = some (tR z r) := Eq.trans (M_30 ..) (G30_0 xl0 l0 hl0 xl1 l1 hl1 h)
-- 33: HandArchive.isSign
noncomputable def F33_11  (l0 : Nat) (l1 : Nat) (s0 : Nat) (T : fS) : Option fR := (fif (Bool.rec (motive := fun _ => Bool) (ieq s0 1) true (ieq s0 0)) (some ((.inl (some (.inl s0)), T) : fR)) (none : Option fR))
theorem G33_11 {z : Option mm_O} {T : fS} {r : fR}  (l0 : Nat) (xl1 : Int32) (l1 : Nat) (hl1 : xl1 = nI l1) (xs0 : Int32) (s0 : Nat) (hs0 : xs0 = nI s0) (h : F33_11  l0 l1 s0 T = some r) : mm_L 33 11 [.ref l0, .int xl1] [.int xs0] (toS z T) = some (tR z r) := by
  unfold F33_11 at h
  refine Eq.trans (e33_11 ..) ?_
  exact (fb_if (cj_01 hs0) h (fun h1 => (fr_i hs0 h1)) (fun h1 => (fr_n h1)))
noncomputable def F33_8  (l0 : Nat) (l1 : Nat) (s0 : Nat) (s1 : Nat) (T : fS) : Option fR := (fKi false (F101_0 s1 s0 T) (fun v0 T1 => F33_11  l0 l1 v0 T1))
theorem G33_8 {z : Option mm_O} {T : fS} {r : fR}  (l0 : Nat) (xl1 : Int32) (l1 : Nat) (hl1 : xl1 = nI l1) (xs0 : Int32) (s0 : Nat) (hs0 : xs0 = nI s0) (xs1 : Int32) (s1 : Nat) (hs1 : xs1 = nI s1) (h : F33_8  l0 l1 s0 s1 T = some r) : mm_L 33 8 [.ref l0, .int xl1] [.int xs0, .int xs1] (toS z T) = some (tR z r) := by
  unfold F33_8 at h
  refine Eq.trans (e33_8 ..) ?_
  exact (fb_K2i (fun _ q => GM101 _ _ hs1 _ _ hs0 q) h (fun v0 T1 h2 => G33_11  _ _ _ hl1 _ _ rfl h2))
noncomputable def F33_5  (l0 : Nat) (l1 : Nat) (s0 : Nat) (s1 : Nat) (T : fS) : Option fR := (fbn (flz T s0) (fun v0 => F33_8  l0 l1 v0 s1 T))
theorem G33_5 {z : Option mm_O} {T : fS} {r : fR}  (l0 : Nat) (xl1 : Int32) (l1 : Nat) (hl1 : xl1 = nI l1) (s0 : Nat) (xs1 : Int32) (s1 : Nat) (hs1 : xs1 = nI s1) (h : F33_5  l0 l1 s0 s1 T = some r) : mm_L 33 5 [.ref l0, .int xl1] [.ref s0, .int xs1] (toS z T) = some (tR z r) := by
  unfold F33_5 at h
  refine Eq.trans (e33_5 ..) ?_
  exact (fb_n (fun _ q => flz_ok q) h (fun v0 h2 => G33_8  _ _ _ hl1 _ _ rfl _ _ hs1 h2))
noncomputable def F33_0  (l0 : Nat) (l1 : Nat) (T : fS) : Option fR := (fbv (fgr T l0 6 0) (fun v0 => F33_5  l0 l1 v0 l1 T) ((none : Option fR)))
theorem G33_0 {z : Option mm_O} {T : fS} {r : fR}  (l0 : Nat) (xl1 : Int32) (l1 : Nat) (hl1 : xl1 = nI l1) (h : F33_0  l0 l1 T = some r) : mm_L 33 0 [.ref l0, .int xl1] [] (toS z T) = some (tR z r) := by
  unfold F33_0 at h
  refine Eq.trans (e33_0 ..) ?_
  exact (fb_v (fun _ q => fgr_ok q) h (fun v0 h2 => G33_5  _ _ _ hl1 _ _ _ hl1 h2) (fun h2 => fr_n h2))
theorem GM33 {z : Option mm_O} {T : fS} {r : fR} (l0 : Nat) (xl1 : Int32) (l1 : Nat) (hl1 : xl1 = nI l1) (h : F33_0 l0 l1 T = some r) : mm_M 33 [.ref l0, .int xl1] (toS z T) = some (tR z r) := Eq.trans (M_33 ..) (G33_0 l0 xl1 l1 hl1 h)
-- 37: HandArchive.clear
noncomputable def F37_22  (l0 : Nat) (l1 : Nat) (T : fS) : Option fR := (some ((.inl (some (.inl l1)), T) : fR))
theorem G37_22 {z : Option mm_O} {T : fS} {r : fR}  (l0 : Nat) (xl1 : Int32) (l1 : Nat) (hl1 : xl1 = nI l1) (h : F37_22  l0 l1 T = some r) : mm_L 37 22 [.ref l0, .int xl1] [] (toS z T) = some (tR z r) := by
  unfold F37_22 at h
  refine Eq.trans (e37_22 ..) ?_
  exact (fr_i hl1 h)
noncomputable def F37_19  (l0 : Nat) (l1 : Nat) (s0 : Nat) (T : fS) : Option fR := (fbs (fcl T s0) (fun T1 => F37_22  l0 l1 T1))
theorem G37_19 {z : Option mm_O} {T : fS} {r : fR}  (l0 : Nat) (xl1 : Int32) (l1 : Nat) (hl1 : xl1 = nI l1) (s0 : Nat) (h : F37_19  l0 l1 s0 T = some r) : mm_L 37 19 [.ref l0, .int xl1] [.ref s0] (toS z T) = some (tR z r) := by
  unfold F37_19 at h
  refine Eq.trans (e37_19 ..) ?_
  exact (fb_s (fun _ q => fcl_ok q) h (fun T1 h2 => G37_22  _ _ _ hl1 h2))
noncomputable def F37_15  (l0 : Nat) (l1 : Nat) (T : fS) : Option fR := (fbv (fgr T l0 6 2) (fun v0 => F37_19  l0 l1 v0 T) ((none : Option fR)))
theorem G37_15 {z : Option mm_O} {T : fS} {r : fR}  (l0 : Nat) (xl1 : Int32) (l1 : Nat) (hl1 : xl1 = nI l1) (h : F37_15  l0 l1 T = some r) : mm_L 37 15 [.ref l0, .int xl1] [] (toS z T) = some (tR z r) := by
  unfold F37_15 at h
  refine Eq.trans (e37_15 ..) ?_
  exact (fb_v (fun _ q => fgr_ok q) h (fun v0 h2 => G37_19  _ _ _ hl1 _ h2) (fun h2 => fr_n h2))
noncomputable def F37_12  (l0 : Nat) (l1 : Nat) (s0 : Nat) (T : fS) : Option fR := (fbs (fcl T s0) (fun T1 => F37_15  l0 l1 T1))
theorem G37_12 {z : Option mm_O} {T : fS} {r : fR}  (l0 : Nat) (xl1 : Int32) (l1 : Nat) (hl1 : xl1 = nI l1) (s0 : Nat) (h : F37_12  l0 l1 s0 T = some r) : mm_L 37 12 [.ref l0, .int xl1] [.ref s0] (toS z T) = some (tR z r) := by
  unfold F37_12 at h
  refine Eq.trans (e37_12 ..) ?_
  exact (fb_s (fun _ q => fcl_ok q) h (fun T1 h2 => G37_15  _ _ _ hl1 h2))
noncomputable def F37_7  (l0 : Nat) (s0 : Nat) (T : fS) : Option fR := (fbv (fgr T l0 6 1) (fun v0 => F37_12  l0 s0 v0 T) ((none : Option fR)))
theorem G37_7 {z : Option mm_O} {T : fS} {r : fR}  (l0 : Nat) (ul1 : Value) (xs0 : Int32) (s0 : Nat) (hs0 : xs0 = nI s0) (h : F37_7  l0 s0 T = some r) : mm_L 37 7 [.ref l0, ul1] [.int xs0] (toS z T) = some (tR z r) := by
  unfold F37_7 at h
  refine Eq.trans (e37_7 ..) ?_
  exact (fb_v (fun _ q => fgr_ok q) h (fun v0 h2 => G37_12  _ _ _ hs0 _ h2) (fun h2 => fr_n h2))
noncomputable def F37_4  (l0 : Nat) (s0 : Nat) (T : fS) : Option fR := (fbn (flz T s0) (fun v0 => F37_7  l0 v0 T))
theorem G37_4 {z : Option mm_O} {T : fS} {r : fR}  (l0 : Nat) (ul1 : Value) (s0 : Nat) (h : F37_4  l0 s0 T = some r) : mm_L 37 4 [.ref l0, ul1] [.ref s0] (toS z T) = some (tR z r) := by
  unfold F37_4 at h
  refine Eq.trans (e37_4 ..) ?_
  exact (fb_n (fun _ q => flz_ok q) h (fun v0 h2 => G37_7  _ _ _ _ rfl h2))
noncomputable def F37_0  (l0 : Nat) (T : fS) : Option fR := (fbv (fgr T l0 6 1) (fun v0 => F37_4  l0 v0 T) ((none : Option fR)))
theorem G37_0 {z : Option mm_O} {T : fS} {r : fR}  (l0 : Nat) (ul1 : Value) (h : F37_0  l0 T = some r) : mm_L 37 0 [.ref l0, ul1] [] (toS z T) = some (tR z r) := by
  unfold F37_0 at h
  refine Eq.trans (e37_0 ..) ?_
  exact (fb_v (fun _ q => fgr_ok q) h (fun v0 h2 => G37_4  _ _ _ h2) (fun h2 => fr_n h2))
theorem GM37 {z : Option mm_O} {T : fS} {r : fR} (l0 : Nat) (h : F37_0 l0 T = some r) : mm_M 37 [.ref l0] (toS z T) = some (tR z r) := Eq.trans (M_37 ..) (G37_0 l0 _ h)
-- 42: HandArchive.isPossibleItem
noncomputable def F42_40  (l0 : Nat) (l1 : Nat) (l2 : Nat) (l3 : Nat) (T : fS) : Option fR := (some ((.inl (some (.inl 1)), T) : fR))
theorem G42_40 {z : Option mm_O} {T : fS} {r : fR}  (xl0 : Int32) (l0 : Nat) (hl0 : xl0 = nI l0) (xl1 : Int32) (l1 : Nat) (hl1 : xl1 = nI l1) (xl2 : Int32) (l2 : Nat) (hl2 : xl2 = nI l2) (xl3 : Int32) (l3 : Nat) (hl3 : xl3 = nI l3) (h : F42_40  l0 l1 l2 l3 T = some r) : mm_L 42 40 [.int xl0, .int xl1, .int xl2, .int xl3] [] (toS z T) = some (tR z r) := by
  unfold F42_40 at h
  refine Eq.trans (e42_40 ..) ?_
  exact (fb_pos (by decide) (fr_i (rfl : (1 : Int32) = nI 1) h))
noncomputable def F42_48  (l0 : Nat) (l1 : Nat) (l2 : Nat) (l3 : Nat) (s0 : Nat) (T : fS) : Option fR := (fif (Bool.rec (motive := fun _ => Bool) (ieq s0 1) true (ieq s0 0)) (some ((.inl (some (.inl s0)), T) : fR)) (none : Option fR))
theorem G42_48 {z : Option mm_O} {T : fS} {r : fR}  (xl0 : Int32) (l0 : Nat) (hl0 : xl0 = nI l0) (xl1 : Int32) (l1 : Nat) (hl1 : xl1 = nI l1) (xl2 : Int32) (l2 : Nat) (hl2 : xl2 = nI l2) (xl3 : Int32) (l3 : Nat) (hl3 : xl3 = nI l3) (xs0 : Int32) (s0 : Nat) (hs0 : xs0 = nI s0) (h : F42_48  l0 l1 l2 l3 s0 T = some r) : mm_L 42 48 [.int xl0, .int xl1, .int xl2, .int xl3] [.int xs0] (toS z T) = some (tR z r) := by
  unfold F42_48 at h
  refine Eq.trans (e42_48 ..) ?_
  exact (fb_if (cj_01 hs0) h (fun h1 => (fr_i hs0 h1)) (fun h1 => (fr_n h1)))
noncomputable def F42_42  (l0 : Nat) (l1 : Nat) (l2 : Nat) (l3 : Nat) (T : fS) : Option fR := (fKi false (F101_0 l2 10 T) (fun v0 T1 => F42_48  l0 l1 l2 l3 v0 T1))
theorem G42_42 {z : Option mm_O} {T : fS} {r : fR}  (xl0 : Int32) (l0 : Nat) (hl0 : xl0 = nI l0) (xl1 : Int32) (l1 : Nat) (hl1 : xl1 = nI l1) (xl2 : Int32) (l2 : Nat) (hl2 : xl2 = nI l2) (xl3 : Int32) (l3 : Nat) (hl3 : xl3 = nI l3) (h : F42_42  l0 l1 l2 l3 T = some r) : mm_L 42 42 [.int xl0, .int xl1, .int xl2, .int xl3] [] (toS z T) = some (tR z r) := by
  unfold F42_42 at h
  refine Eq.trans (e42_42 ..) ?_
  exact (fb_K2i (fun _ q => GM101 _ _ hl2 _ _ (rfl : (10 : Int32) = nI 10) q) h (fun v0 T1 h2 => G42_48  _ _ hl0 _ _ hl1 _ _ hl2 _ _ hl3 _ _ rfl h2))
noncomputable def F42_59  (l0 : Nat) (l1 : Nat) (l2 : Nat) (l3 : Nat) (s0 : Nat) (T : fS) : Option fR := (fif (Bool.rec (motive := fun _ => Bool) (ieq s0 1) true (ieq s0 0)) (some ((.inl (some (.inl s0)), T) : fR)) (none : Option fR))
theorem G42_59 {z : Option mm_O} {T : fS} {r : fR}  (xl0 : Int32) (l0 : Nat) (hl0 : xl0 = nI l0) (xl1 : Int32) (l1 : Nat) (hl1 : xl1 = nI l1) (xl2 : Int32) (l2 : Nat) (hl2 : xl2 = nI l2) (xl3 : Int32) (l3 : Nat) (hl3 : xl3 = nI l3) (xs0 : Int32) (s0 : Nat) (hs0 : xs0 = nI s0) (h : F42_59  l0 l1 l2 l3 s0 T = some r) : mm_L 42 59 [.int xl0, .int xl1, .int xl2, .int xl3] [.int xs0] (toS z T) = some (tR z r) := by
  unfold F42_59 at h
  refine Eq.trans (e42_59 ..) ?_
  exact (fb_if (cj_01 hs0) h (fun h1 => (fr_i hs0 h1)) (fun h1 => (fr_n h1)))
noncomputable def F42_54  (l0 : Nat) (l1 : Nat) (l2 : Nat) (l3 : Nat) (T : fS) : Option fR := (F42_59  l0 l1 l2 l3 1 T)
theorem G42_54 {z : Option mm_O} {T : fS} {r : fR}  (xl0 : Int32) (l0 : Nat) (hl0 : xl0 = nI l0) (xl1 : Int32) (l1 : Nat) (hl1 : xl1 = nI l1) (xl2 : Int32) (l2 : Nat) (hl2 : xl2 = nI l2) (xl3 : Int32) (l3 : Nat) (hl3 : xl3 = nI l3) (h : F42_54  l0 l1 l2 l3 T = some r) : mm_L 42 54 [.int xl0, .int xl1, .int xl2, .int xl3] [] (toS z T) = some (tR z r) := by
  unfold F42_54 at h
  refine Eq.trans (e42_54 ..) ?_
  exact (G42_59  _ _ hl0 _ _ hl1 _ _ hl2 _ _ hl3 _ _ (rfl : (1 : Int32) = nI 1) h)
noncomputable def F42_58  (l0 : Nat) (l1 : Nat) (l2 : Nat) (l3 : Nat) (T : fS) : Option fR := (F42_59  l0 l1 l2 l3 0 T)
theorem G42_58 {z : Option mm_O} {T : fS} {r : fR}  (xl0 : Int32) (l0 : Nat) (hl0 : xl0 = nI l0) (xl1 : Int32) (l1 : Nat) (hl1 : xl1 = nI l1) (xl2 : Int32) (l2 : Nat) (hl2 : xl2 = nI l2) (xl3 : Int32) (l3 : Nat) (hl3 : xl3 = nI l3) (h : F42_58  l0 l1 l2 l3 T = some r) : mm_L 42 58 [.int xl0, .int xl1, .int xl2, .int xl3] [] (toS z T) = some (tR z r) := by
  unfold F42_58 at h
  refine Eq.trans (e42_58 ..) ?_
  exact (G42_59  _ _ hl0 _ _ hl1 _ _ hl2 _ _ hl3 _ _ (rfl : (0 : Int32) = nI 0) h)
noncomputable def F42_49  (l0 : Nat) (l1 : Nat) (l2 : Nat) (l3 : Nat) (T : fS) : Option fR := (fif (ieq l2 l3) (F42_58  l0 l1 l2 l3 T) (F42_54  l0 l1 l2 l3 T))
theorem G42_49 {z : Option mm_O} {T : fS} {r : fR}  (xl0 : Int32) (l0 : Nat) (hl0 : xl0 = nI l0) (xl1 : Int32) (l1 : Nat) (hl1 : xl1 = nI l1) (xl2 : Int32) (l2 : Nat) (hl2 : xl2 = nI l2) (xl3 : Int32) (l3 : Nat) (hl3 : xl3 = nI l3) (h : F42_49  l0 l1 l2 l3 T = some r) : mm_L 42 49 [.int xl0, .int xl1, .int xl2, .int xl3] [] (toS z T) = some (tR z r) := by
  unfold F42_49 at h
  refine Eq.trans (e42_49 ..) ?_
  exact (fb_if (cj_eq hl2 hl3) h (fun h1 => (G42_58  _ _ hl0 _ _ hl1 _ _ hl2 _ _ hl3 h1)) (fun h1 => (G42_54  _ _ hl0 _ _ hl1 _ _ hl2 _ _ hl3 h1)))
noncomputable def F42_66  (l0 : Nat) (l1 : Nat) (l2 : Nat) (l3 : Nat) (s0 : Nat) (T : fS) : Option fR := (fif (Bool.rec (motive := fun _ => Bool) (ieq s0 1) true (ieq s0 0)) (some ((.inl (some (.inl s0)), T) : fR)) (none : Option fR))
theorem G42_66 {z : Option mm_O} {T : fS} {r : fR}  (xl0 : Int32) (l0 : Nat) (hl0 : xl0 = nI l0) (xl1 : Int32) (l1 : Nat) (hl1 : xl1 = nI l1) (xl2 : Int32) (l2 : Nat) (hl2 : xl2 = nI l2) (xl3 : Int32) (l3 : Nat) (hl3 : xl3 = nI l3) (xs0 : Int32) (s0 : Nat) (hs0 : xs0 = nI s0) (h : F42_66  l0 l1 l2 l3 s0 T = some r) : mm_L 42 66 [.int xl0, .int xl1, .int xl2, .int xl3] [.int xs0] (toS z T) = some (tR z r) := by
  unfold F42_66 at h
  refine Eq.trans (e42_66 ..) ?_
  exact (fb_if (cj_01 hs0) h (fun h1 => (fr_i hs0 h1)) (fun h1 => (fr_n h1)))
noncomputable def F42_60  (l0 : Nat) (l1 : Nat) (l2 : Nat) (l3 : Nat) (T : fS) : Option fR := (fKi false (F101_0 l1 26 T) (fun v0 T1 => F42_66  l0 l1 l2 l3 v0 T1))
theorem G42_60 {z : Option mm_O} {T : fS} {r : fR}  (xl0 : Int32) (l0 : Nat) (hl0 : xl0 = nI l0) (xl1 : Int32) (l1 : Nat) (hl1 : xl1 = nI l1) (xl2 : Int32) (l2 : Nat) (hl2 : xl2 = nI l2) (xl3 : Int32) (l3 : Nat) (hl3 : xl3 = nI l3) (h : F42_60  l0 l1 l2 l3 T = some r) : mm_L 42 60 [.int xl0, .int xl1, .int xl2, .int xl3] [] (toS z T) = some (tR z r) := by
  unfold F42_60 at h
  refine Eq.trans (e42_60 ..) ?_
  exact (fb_K2i (fun _ q => GM101 _ _ hl1 _ _ (rfl : (26 : Int32) = nI 26) q) h (fun v0 T1 h2 => G42_66  _ _ hl0 _ _ hl1 _ _ hl2 _ _ hl3 _ _ rfl h2))
noncomputable def F42_67  (l0 : Nat) (l1 : Nat) (l2 : Nat) (l3 : Nat) (T : fS) : Option fR := (some ((.inl (some (.inl 0)), T) : fR))
theorem G42_67 {z : Option mm_O} {T : fS} {r : fR}  (xl0 : Int32) (l0 : Nat) (hl0 : xl0 = nI l0) (xl1 : Int32) (l1 : Nat) (hl1 : xl1 = nI l1) (xl2 : Int32) (l2 : Nat) (hl2 : xl2 = nI l2) (xl3 : Int32) (l3 : Nat) (hl3 : xl3 = nI l3) (h : F42_67  l0 l1 l2 l3 T = some r) : mm_L 42 67 [.int xl0, .int xl1, .int xl2, .int xl3] [] (toS z T) = some (tR z r) := by
  unfold F42_67 at h
  refine Eq.trans (e42_67 ..) ?_
  exact (fb_pos (by decide) (fr_i (rfl : (0 : Int32) = nI 0) h))
noncomputable def F42_0  (l0 : Nat) (l1 : Nat) (l2 : Nat) (l3 : Nat) (T : fS) : Option fR := (fif (ieq l0 0) (F42_40  l0 l1 l2 l3 T) (fif (ieq l0 1) (F42_42  l0 l1 l2 l3 T) (fif (ieq l0 2) (F42_40  l0 l1 l2 l3 T) (fif (ieq l0 3) (F42_40  l0 l1 l2 l3 T) (fif (ieq l0 4) (F42_49  l0 l1 l2 l3 T) (fif (ieq l0 5) (F42_60  l0 l1 l2 l3 T) (F42_67  l0 l1 l2 l3 T)))))))
theorem G42_0 {z : Option mm_O} {T : fS} {r : fR}  (xl0 : Int32) (l0 : Nat) (hl0 : xl0 = nI l0) (xl1 : Int32) (l1 : Nat) (hl1 : xl1 = nI l1) (xl2 : Int32) (l2 : Nat) (hl2 : xl2 = nI l2) (xl3 : Int32) (l3 : Nat) (hl3 : xl3 = nI l3) (h : F42_0  l0 l1 l2 l3 T = some r) : mm_L 42 0 [.int xl0, .int xl1, .int xl2, .int xl3] [] (toS z T) = some (tR z r) := by
  unfold F42_0 at h
  refine Eq.trans (e42_0 ..) ?_
  exact (fb_if (cj_eq hl0 (rfl : (0 : Int32) = nI 0)) h (fun h1 => (G42_40  _ _ hl0 _ _ hl1 _ _ hl2 _ _ hl3 h1)) (fun h1 => (fb_if (cj_eq hl0 (rfl : (1 : Int32) = nI 1)) h1 (fun h1 => (G42_42  _ _ hl0 _ _ hl1 _ _ hl2 _ _ hl3 h1)) (fun h1 => (fb_if (cj_eq hl0 (rfl : (2 : Int32) = nI 2)) h1 (fun h1 => (G42_40  _ _ hl0 _ _ hl1 _ _ hl2 _ _ hl3 h1)) (fun h1 => (fb_if (cj_eq hl0 (rfl : (3 : Int32) = nI 3)) h1 (fun h1 => (G42_40  _ _ hl0 _ _ hl1 _ _ hl2 _ _ hl3 h1)) (fun h1 => (fb_if (cj_eq hl0 (rfl : (4 : Int32) = nI 4)) h1 (fun h1 => (G42_49  _ _ hl0 _ _ hl1 _ _ hl2 _ _ hl3 h1)) (fun h1 => (fb_if (cj_eq hl0 (rfl : (5 : Int32) = nI 5)) h1 (fun h1 => (G42_60  _ _ hl0 _ _ hl1 _ _ hl2 _ _ hl3 h1)) (fun h1 => (G42_67  _ _ hl0 _ _ hl1 _ _ hl2 _ _ hl3 h1)))))))))))))
theorem GM42 {z : Option mm_O} {T : fS} {r : fR} (xl0 : Int32) (l0 : Nat) (hl0 : xl0 = nI l0) (xl1 : Int32) (l1 : Nat) (hl1 : xl1 = nI l1) (xl2 : Int32) (l2 : Nat) (hl2 : xl2 = nI l2) (xl3 : Int32) (l3 : Nat) (hl3 : xl3 = nI l3) (h : F42_0 l0 l1 l2 l3 T = some r) : mm_M 42 [.int xl0, .int xl1, .int xl2, .int xl3] (toS z T) = some (tR z r) := Eq.trans (M_42 ..) (G42_0 xl0 l0 hl0 xl1 l1 hl1 xl2 l2 hl2 xl3 l3 hl3 h)
-- 54: HandArchive.isLocus
noncomputable def F54_8  (l0 : Nat) (s0 : Nat) (T : fS) : Option fR := (fif (Bool.rec (motive := fun _ => Bool) (ieq s0 1) true (ieq s0 0)) (some ((.inl (some (.inl s0)), T) : fR)) (none : Option fR))
theorem G54_8 {z : Option mm_O} {T : fS} {r : fR}  (xl0 : Int32) (l0 : Nat) (hl0 : xl0 = nI l0) (xs0 : Int32) (s0 : Nat) (hs0 : xs0 = nI s0) (h : F54_8  l0 s0 T = some r) : mm_L 54 8 [.int xl0] [.int xs0] (toS z T) = some (tR z r) := by
  unfold F54_8 at h
  refine Eq.trans (e54_8 ..) ?_
  exact (fb_if (cj_01 hs0) h (fun h1 => (fr_i hs0 h1)) (fun h1 => (fr_n h1)))
noncomputable def F54_5  (l0 : Nat) (s0 : Nat) (s1 : Nat) (T : fS) : Option fR := (fKi false (F101_0 s1 s0 T) (fun v0 T1 => F54_8  l0 v0 T1))
theorem G54_5 {z : Option mm_O} {T : fS} {r : fR}  (xl0 : Int32) (l0 : Nat) (hl0 : xl0 = nI l0) (xs0 : Int32) (s0 : Nat) (hs0 : xs0 = nI s0) (xs1 : Int32) (s1 : Nat) (hs1 : xs1 = nI s1) (h : F54_5  l0 s0 s1 T = some r) : mm_L 54 5 [.int xl0] [.int xs0, .int xs1] (toS z T) = some (tR z r) := by
  unfold F54_5 at h
  refine Eq.trans (e54_5 ..) ?_
  exact (fb_K2i (fun _ q => GM101 _ _ hs1 _ _ hs0 q) h (fun v0 T1 h2 => G54_8  _ _ hl0 _ _ rfl h2))
noncomputable def F54_0  (l0 : Nat) (T : fS) : Option fR := (fbn (fln T 1) (fun v0 => F54_5  l0 v0 l0 T))
theorem G54_0 {z : Option mm_O} {T : fS} {r : fR}  (xl0 : Int32) (l0 : Nat) (hl0 : xl0 = nI l0) (h : F54_0  l0 T = some r) : mm_L 54 0 [.int xl0] [] (toS z T) = some (tR z r) := by
  unfold F54_0 at h
  refine Eq.trans (e54_0 ..) ?_
  exact (fb_n (fun _ q => fln_ok q) h (fun v0 h2 => G54_5  _ _ hl0 _ _ rfl _ _ hl0 h2))
theorem GM54 {z : Option mm_O} {T : fS} {r : fR} (xl0 : Int32) (l0 : Nat) (hl0 : xl0 = nI l0) (h : F54_0 l0 T = some r) : mm_M 54 [.int xl0] (toS z T) = some (tR z r) := Eq.trans (M_54 ..) (G54_0 xl0 l0 hl0 h)
-- 67: HandArchive.hasItemAhead
noncomputable def F67_13  (l0 : Nat) (l1 : Nat) (s0 : Nat) (T : fS) : Option fR := (fif (Bool.rec (motive := fun _ => Bool) (ieq s0 1) true (ieq s0 0)) (some ((.inl (some (.inl s0)), T) : fR)) (none : Option fR))
theorem G67_13 {z : Option mm_O} {T : fS} {r : fR}  (l0 : Nat) (xl1 : Int32) (l1 : Nat) (hl1 : xl1 = nI l1) (xs0 : Int32) (s0 : Nat) (hs0 : xs0 = nI s0) (h : F67_13  l0 l1 s0 T = some r) : mm_L 67 13 [.ref l0, .int xl1] [.int xs0] (toS z T) = some (tR z r) := by
  unfold F67_13 at h
  refine Eq.trans (e67_13 ..) ?_
  exact (fb_if (cj_01 hs0) h (fun h1 => (fr_i hs0 h1)) (fun h1 => (fr_n h1)))
noncomputable def F67_10  (l0 : Nat) (l1 : Nat) (s0 : Nat) (s1 : Nat) (T : fS) : Option fR := (fKi false (F101_0 s1 s0 T) (fun v0 T1 => F67_13  l0 l1 v0 T1))
theorem G67_10 {z : Option mm_O} {T : fS} {r : fR}  (l0 : Nat) (xl1 : Int32) (l1 : Nat) (hl1 : xl1 = nI l1) (xs0 : Int32) (s0 : Nat) (hs0 : xs0 = nI s0) (xs1 : Int32) (s1 : Nat) (hs1 : xs1 = nI s1) (h : F67_10  l0 l1 s0 s1 T = some r) : mm_L 67 10 [.ref l0, .int xl1] [.int xs0, .int xs1] (toS z T) = some (tR z r) := by
  unfold F67_10 at h
  refine Eq.trans (e67_10 ..) ?_
  exact (fb_K2i (fun _ q => GM101 _ _ hs1 _ _ hs0 q) h (fun v0 T1 h2 => G67_13  _ _ _ hl1 _ _ rfl h2))
noncomputable def F67_7  (l0 : Nat) (l1 : Nat) (s0 : Nat) (s1 : Nat) (T : fS) : Option fR := (fbn (flz T s0) (fun v0 => F67_10  l0 l1 v0 s1 T))
theorem G67_7 {z : Option mm_O} {T : fS} {r : fR}  (l0 : Nat) (xl1 : Int32) (l1 : Nat) (hl1 : xl1 = nI l1) (s0 : Nat) (xs1 : Int32) (s1 : Nat) (hs1 : xs1 = nI s1) (h : F67_7  l0 l1 s0 s1 T = some r) : mm_L 67 7 [.ref l0, .int xl1] [.ref s0, .int xs1] (toS z T) = some (tR z r) := by
  unfold F67_7 at h
  refine Eq.trans (e67_7 ..) ?_
  exact (fb_n (fun _ q => flz_ok q) h (fun v0 h2 => G67_10  _ _ _ hl1 _ _ rfl _ _ hs1 h2))
noncomputable def F67_0  (l0 : Nat) (l1 : Nat) (T : fS) : Option fR := (fbv (fgr T l0 6 1) (fun v0 => F67_7  l0 l1 v0 (iS l1 1) T) ((none : Option fR)))
theorem G67_0 {z : Option mm_O} {T : fS} {r : fR}  (l0 : Nat) (xl1 : Int32) (l1 : Nat) (hl1 : xl1 = nI l1) (h : F67_0  l0 l1 T = some r) : mm_L 67 0 [.ref l0, .int xl1] [] (toS z T) = some (tR z r) := by
  unfold F67_0 at h
  refine Eq.trans (e67_0 ..) ?_
  exact (fb_v (fun _ q => fgr_ok q) h (fun v0 h2 => G67_7  _ _ _ hl1 _ _ _ (iS_ok hl1 (rfl : (1 : Int32) = nI 1)) h2) (fun h2 => fr_n h2))
theorem GM67 {z : Option mm_O} {T : fS} {r : fR} (l0 : Nat) (xl1 : Int32) (l1 : Nat) (hl1 : xl1 = nI l1) (h : F67_0 l0 l1 T = some r) : mm_M 67 [.ref l0, .int xl1] (toS z T) = some (tR z r) := Eq.trans (M_67 ..) (G67_0 l0 xl1 l1 hl1 h)
-- 12: HandArchive$Item.<init>
noncomputable def F12_71  (l0 : Nat) (l1 : Nat) (l2 : Nat) (l3 : Nat) (l4 : Nat) (T : fS) : Option fR := (some ((.inl none, T) : fR))
theorem G12_71 {z : Option mm_O} {T : fS} {r : fR}  (l0 : Nat) (xl1 : Int32) (l1 : Nat) (hl1 : xl1 = nI l1) (xl2 : Int32) (l2 : Nat) (hl2 : xl2 = nI l2) (xl3 : Int32) (l3 : Nat) (hl3 : xl3 = nI l3) (l4 : Nat) (h : F12_71  l0 l1 l2 l3 l4 T = some r) : mm_L 12 71 [.ref l0, .int xl1, .int xl2, .int xl3, .ref l4] [] (toS z T) = some (tR z r) := by
  unfold F12_71 at h
  refine Eq.trans (e12_71 ..) ?_
  exact (fr_v h)
noncomputable def F12_68  (l0 : Nat) (l1 : Nat) (l2 : Nat) (l3 : Nat) (l4 : Nat) (s0 : Nat) (s1 : Nat) (T : fS) : Option fR := (fbs (fsf T s1 2 4 (.inr (some s0))) (fun T1 => F12_71  l0 l1 l2 l3 l4 T1))
theorem G12_68 {z : Option mm_O} {T : fS} {r : fR}  (l0 : Nat) (xl1 : Int32) (l1 : Nat) (hl1 : xl1 = nI l1) (xl2 : Int32) (l2 : Nat) (hl2 : xl2 = nI l2) (xl3 : Int32) (l3 : Nat) (hl3 : xl3 = nI l3) (l4 : Nat) (s0 : Nat) (s1 : Nat) (h : F12_68  l0 l1 l2 l3 l4 s0 s1 T = some r) : mm_L 12 68 [.ref l0, .int xl1, .int xl2, .int xl3, .ref l4] [.ref s0, .ref s1] (toS z T) = some (tR z r) := by
  unfold F12_68 at h
  refine Eq.trans (e12_68 ..) ?_
  exact (fb_s (fun _ q => fsf_ok (v := (.inr (some s0))) q) h (fun T1 h2 => G12_71  _ _ _ hl1 _ _ hl2 _ _ hl3 _ h2))
noncomputable def F12_65  (l0 : Nat) (l1 : Nat) (l2 : Nat) (l3 : Nat) (l4 : Nat) (s0 : Nat) (s1 : Nat) (s2 : Nat) (s3 : Nat) (s4 : Nat) (s5 : Nat) (s6 : Nat) (s7 : Nat) (s8 : Nat) (s9 : Nat) (T : fS) : Option fR := (fKv false (fif (fch T s7 1) (F6_0 s7 s6 s5 s4 s3 s2 s1 s0 T) none) (fun T1 => F12_68  l0 l1 l2 l3 l4 s8 s9 T1))
theorem G12_65 {z : Option mm_O} {T : fS} {r : fR}  (l0 : Nat) (xl1 : Int32) (l1 : Nat) (hl1 : xl1 = nI l1) (xl2 : Int32) (l2 : Nat) (hl2 : xl2 = nI l2) (xl3 : Int32) (l3 : Nat) (hl3 : xl3 = nI l3) (l4 : Nat) (xs0 : Int32) (s0 : Nat) (hs0 : xs0 = nI s0) (xs1 : Int32) (s1 : Nat) (hs1 : xs1 = nI s1) (xs2 : Int32) (s2 : Nat) (hs2 : xs2 = nI s2) (xs3 : Int32) (s3 : Nat) (hs3 : xs3 = nI s3) (xs4 : Int32) (s4 : Nat) (hs4 : xs4 = nI s4) (xs5 : Int32) (s5 : Nat) (hs5 : xs5 = nI s5) (xs6 : Int32) (s6 : Nat) (hs6 : xs6 = nI s6) (s7 : Nat) (s8 : Nat) (s9 : Nat) (h : F12_65  l0 l1 l2 l3 l4 s0 s1 s2 s3 s4 s5 s6 s7 s8 s9 T = some r) : mm_L 12 65 [.ref l0, .int xl1, .int xl2, .int xl3, .ref l4] [.int xs0, .int xs1, .int xs2, .int xs3, .int xs4, .int xs5, .int xs6, .ref s7, .ref s8, .ref s9] (toS z T) = some (tR z r) := by
  unfold F12_65 at h
  refine Eq.trans (e12_65 ..) ?_
  exact (fb_K2v (fun _ q => fb_mo (y := 6) ow_6 q (fun q => GM6 _ _ _ hs6 _ _ hs5 _ _ hs4 _ _ hs3 _ _ hs2 _ _ hs1 _ _ hs0 q)) h (fun T1 h2 => G12_68  _ _ _ hl1 _ _ hl2 _ _ hl3 _ _ _ h2))
noncomputable def F12_60  (l0 : Nat) (l1 : Nat) (l2 : Nat) (l3 : Nat) (l4 : Nat) (s0 : Nat) (s1 : Nat) (s2 : Nat) (s3 : Nat) (s4 : Nat) (s5 : Nat) (s6 : Nat) (s7 : Nat) (s8 : Nat) (T : fS) : Option fR := (fbn (fgi T l4 1 6) (fun v0 => F12_65  l0 l1 l2 l3 l4 v0 s0 s1 s2 s3 s4 s5 s6 s7 s8 T))
theorem G12_60 {z : Option mm_O} {T : fS} {r : fR}  (l0 : Nat) (xl1 : Int32) (l1 : Nat) (hl1 : xl1 = nI l1) (xl2 : Int32) (l2 : Nat) (hl2 : xl2 = nI l2) (xl3 : Int32) (l3 : Nat) (hl3 : xl3 = nI l3) (l4 : Nat) (xs0 : Int32) (s0 : Nat) (hs0 : xs0 = nI s0) (xs1 : Int32) (s1 : Nat) (hs1 : xs1 = nI s1) (xs2 : Int32) (s2 : Nat) (hs2 : xs2 = nI s2) (xs3 : Int32) (s3 : Nat) (hs3 : xs3 = nI s3) (xs4 : Int32) (s4 : Nat) (hs4 : xs4 = nI s4) (xs5 : Int32) (s5 : Nat) (hs5 : xs5 = nI s5) (s6 : Nat) (s7 : Nat) (s8 : Nat) (h : F12_60  l0 l1 l2 l3 l4 s0 s1 s2 s3 s4 s5 s6 s7 s8 T = some r) : mm_L 12 60 [.ref l0, .int xl1, .int xl2, .int xl3, .ref l4] [.int xs0, .int xs1, .int xs2, .int xs3, .int xs4, .int xs5, .ref s6, .ref s7, .ref s8] (toS z T) = some (tR z r) := by
  unfold F12_60 at h
  refine Eq.trans (e12_60 ..) ?_
  exact (fb_n (fun _ q => fgi_ok q) h (fun v0 h2 => G12_65  _ _ _ hl1 _ _ hl2 _ _ hl3 _ _ _ rfl _ _ hs0 _ _ hs1 _ _ hs2 _ _ hs3 _ _ hs4 _ _ hs5 _ _ _ h2))
noncomputable def F12_55  (l0 : Nat) (l1 : Nat) (l2 : Nat) (l3 : Nat) (l4 : Nat) (s0 : Nat) (s1 : Nat) (s2 : Nat) (s3 : Nat) (s4 : Nat) (s5 : Nat) (s6 : Nat) (s7 : Nat) (T : fS) : Option fR := (fbn (fgi T l4 1 5) (fun v0 => F12_60  l0 l1 l2 l3 l4 v0 s0 s1 s2 s3 s4 s5 s6 s7 T))
theorem G12_55 {z : Option mm_O} {T : fS} {r : fR}  (l0 : Nat) (xl1 : Int32) (l1 : Nat) (hl1 : xl1 = nI l1) (xl2 : Int32) (l2 : Nat) (hl2 : xl2 = nI l2) (xl3 : Int32) (l3 : Nat) (hl3 : xl3 = nI l3) (l4 : Nat) (xs0 : Int32) (s0 : Nat) (hs0 : xs0 = nI s0) (xs1 : Int32) (s1 : Nat) (hs1 : xs1 = nI s1) (xs2 : Int32) (s2 : Nat) (hs2 : xs2 = nI s2) (xs3 : Int32) (s3 : Nat) (hs3 : xs3 = nI s3) (xs4 : Int32) (s4 : Nat) (hs4 : xs4 = nI s4) (s5 : Nat) (s6 : Nat) (s7 : Nat) (h : F12_55  l0 l1 l2 l3 l4 s0 s1 s2 s3 s4 s5 s6 s7 T = some r) : mm_L 12 55 [.ref l0, .int xl1, .int xl2, .int xl3, .ref l4] [.int xs0, .int xs1, .int xs2, .int xs3, .int xs4, .ref s5, .ref s6, .ref s7] (toS z T) = some (tR z r) := by
  unfold F12_55 at h
  refine Eq.trans (e12_55 ..) ?_
  exact (fb_n (fun _ q => fgi_ok q) h (fun v0 h2 => G12_60  _ _ _ hl1 _ _ hl2 _ _ hl3 _ _ _ rfl _ _ hs0 _ _ hs1 _ _ hs2 _ _ hs3 _ _ hs4 _ _ _ h2))
noncomputable def F12_50  (l0 : Nat) (l1 : Nat) (l2 : Nat) (l3 : Nat) (l4 : Nat) (s0 : Nat) (s1 : Nat) (s2 : Nat) (s3 : Nat) (s4 : Nat) (s5 : Nat) (s6 : Nat) (T : fS) : Option fR := (fbn (fgi T l4 1 4) (fun v0 => F12_55  l0 l1 l2 l3 l4 v0 s0 s1 s2 s3 s4 s5 s6 T))
theorem G12_50 {z : Option mm_O} {T : fS} {r : fR}  (l0 : Nat) (xl1 : Int32) (l1 : Nat) (hl1 : xl1 = nI l1) (xl2 : Int32) (l2 : Nat) (hl2 : xl2 = nI l2) (xl3 : Int32) (l3 : Nat) (hl3 : xl3 = nI l3) (l4 : Nat) (xs0 : Int32) (s0 : Nat) (hs0 : xs0 = nI s0) (xs1 : Int32) (s1 : Nat) (hs1 : xs1 = nI s1) (xs2 : Int32) (s2 : Nat) (hs2 : xs2 = nI s2) (xs3 : Int32) (s3 : Nat) (hs3 : xs3 = nI s3) (s4 : Nat) (s5 : Nat) (s6 : Nat) (h : F12_50  l0 l1 l2 l3 l4 s0 s1 s2 s3 s4 s5 s6 T = some r) : mm_L 12 50 [.ref l0, .int xl1, .int xl2, .int xl3, .ref l4] [.int xs0, .int xs1, .int xs2, .int xs3, .ref s4, .ref s5, .ref s6] (toS z T) = some (tR z r) := by
  unfold F12_50 at h
  refine Eq.trans (e12_50 ..) ?_
  exact (fb_n (fun _ q => fgi_ok q) h (fun v0 h2 => G12_55  _ _ _ hl1 _ _ hl2 _ _ hl3 _ _ _ rfl _ _ hs0 _ _ hs1 _ _ hs2 _ _ hs3 _ _ _ h2))
noncomputable def F12_45  (l0 : Nat) (l1 : Nat) (l2 : Nat) (l3 : Nat) (l4 : Nat) (s0 : Nat) (s1 : Nat) (s2 : Nat) (s3 : Nat) (s4 : Nat) (s5 : Nat) (T : fS) : Option fR := (fbn (fgi T l4 1 3) (fun v0 => F12_50  l0 l1 l2 l3 l4 v0 s0 s1 s2 s3 s4 s5 T))
theorem G12_45 {z : Option mm_O} {T : fS} {r : fR}  (l0 : Nat) (xl1 : Int32) (l1 : Nat) (hl1 : xl1 = nI l1) (xl2 : Int32) (l2 : Nat) (hl2 : xl2 = nI l2) (xl3 : Int32) (l3 : Nat) (hl3 : xl3 = nI l3) (l4 : Nat) (xs0 : Int32) (s0 : Nat) (hs0 : xs0 = nI s0) (xs1 : Int32) (s1 : Nat) (hs1 : xs1 = nI s1) (xs2 : Int32) (s2 : Nat) (hs2 : xs2 = nI s2) (s3 : Nat) (s4 : Nat) (s5 : Nat) (h : F12_45  l0 l1 l2 l3 l4 s0 s1 s2 s3 s4 s5 T = some r) : mm_L 12 45 [.ref l0, .int xl1, .int xl2, .int xl3, .ref l4] [.int xs0, .int xs1, .int xs2, .ref s3, .ref s4, .ref s5] (toS z T) = some (tR z r) := by
  unfold F12_45 at h
  refine Eq.trans (e12_45 ..) ?_
  exact (fb_n (fun _ q => fgi_ok q) h (fun v0 h2 => G12_50  _ _ _ hl1 _ _ hl2 _ _ hl3 _ _ _ rfl _ _ hs0 _ _ hs1 _ _ hs2 _ _ _ h2))
noncomputable def F12_40  (l0 : Nat) (l1 : Nat) (l2 : Nat) (l3 : Nat) (l4 : Nat) (s0 : Nat) (s1 : Nat) (s2 : Nat) (s3 : Nat) (s4 : Nat) (T : fS) : Option fR := (fbn (fgi T l4 1 2) (fun v0 => F12_45  l0 l1 l2 l3 l4 v0 s0 s1 s2 s3 s4 T))
theorem G12_40 {z : Option mm_O} {T : fS} {r : fR}  (l0 : Nat) (xl1 : Int32) (l1 : Nat) (hl1 : xl1 = nI l1) (xl2 : Int32) (l2 : Nat) (hl2 : xl2 = nI l2) (xl3 : Int32) (l3 : Nat) (hl3 : xl3 = nI l3) (l4 : Nat) (xs0 : Int32) (s0 : Nat) (hs0 : xs0 = nI s0) (xs1 : Int32) (s1 : Nat) (hs1 : xs1 = nI s1) (s2 : Nat) (s3 : Nat) (s4 : Nat) (h : F12_40  l0 l1 l2 l3 l4 s0 s1 s2 s3 s4 T = some r) : mm_L 12 40 [.ref l0, .int xl1, .int xl2, .int xl3, .ref l4] [.int xs0, .int xs1, .ref s2, .ref s3, .ref s4] (toS z T) = some (tR z r) := by
  unfold F12_40 at h
  refine Eq.trans (e12_40 ..) ?_
  exact (fb_n (fun _ q => fgi_ok q) h (fun v0 h2 => G12_45  _ _ _ hl1 _ _ hl2 _ _ hl3 _ _ _ rfl _ _ hs0 _ _ hs1 _ _ _ h2))
noncomputable def F12_35  (l0 : Nat) (l1 : Nat) (l2 : Nat) (l3 : Nat) (l4 : Nat) (s0 : Nat) (s1 : Nat) (s2 : Nat) (s3 : Nat) (T : fS) : Option fR := (fbn (fgi T l4 1 1) (fun v0 => F12_40  l0 l1 l2 l3 l4 v0 s0 s1 s2 s3 T))
theorem G12_35 {z : Option mm_O} {T : fS} {r : fR}  (l0 : Nat) (xl1 : Int32) (l1 : Nat) (hl1 : xl1 = nI l1) (xl2 : Int32) (l2 : Nat) (hl2 : xl2 = nI l2) (xl3 : Int32) (l3 : Nat) (hl3 : xl3 = nI l3) (l4 : Nat) (xs0 : Int32) (s0 : Nat) (hs0 : xs0 = nI s0) (s1 : Nat) (s2 : Nat) (s3 : Nat) (h : F12_35  l0 l1 l2 l3 l4 s0 s1 s2 s3 T = some r) : mm_L 12 35 [.ref l0, .int xl1, .int xl2, .int xl3, .ref l4] [.int xs0, .ref s1, .ref s2, .ref s3] (toS z T) = some (tR z r) := by
  unfold F12_35 at h
  refine Eq.trans (e12_35 ..) ?_
  exact (fb_n (fun _ q => fgi_ok q) h (fun v0 h2 => G12_40  _ _ _ hl1 _ _ hl2 _ _ hl3 _ _ _ rfl _ _ hs0 _ _ _ h2))
noncomputable def F12_25  (l0 : Nat) (l1 : Nat) (l2 : Nat) (l3 : Nat) (l4 : Nat) (T : fS) : Option fR := (fgd T (fbn (fgi (fnw T (.inl (1, [.inl 0, .inl 0, .inl 0, .inl 0, .inl 0, .inl 0, .inl 0]) : fO) 7) l4 1 0) (fun v0 => F12_35  l0 l1 l2 l3 l4 v0 T.2.1 T.2.1 l0 (fnw T (.inl (1, [.inl 0, .inl 0, .inl 0, .inl 0, .inl 0, .inl 0, .inl 0]) : fO) 7))))
theorem G12_25 {z : Option mm_O} {T : fS} {r : fR}  (l0 : Nat) (xl1 : Int32) (l1 : Nat) (hl1 : xl1 = nI l1) (xl2 : Int32) (l2 : Nat) (hl2 : xl2 = nI l2) (xl3 : Int32) (l3 : Nat) (hl3 : xl3 = nI l3) (l4 : Nat) (h : F12_25  l0 l1 l2 l3 l4 T = some r) : mm_L 12 25 [.ref l0, .int xl1, .int xl2, .int xl3, .ref l4] [] (toS z T) = some (tR z r) := by
  unfold F12_25 at h
  refine Eq.trans (e12_25 ..) ?_
  have hg0 := fgd_in h
  replace h := hg0.2
  rw [show mm_new (toS z T) (.inl (1, [.int 0, .int 0, .int 0, .int 0, .int 0, .int 0, .int 0])) 7 = toS z (fnw T (.inl (1, [.inl 0, .inl 0, .inl 0, .inl 0, .inl 0, .inl 0, .inl 0]) : fO) 7) from fnw_ok (o := (.inl (1, [.inl 0, .inl 0, .inl 0, .inl 0, .inl 0, .inl 0, .inl 0]) : fO)) hg0.1]
  exact (fb_n (fun _ q => fgi_ok q) h (fun v0 h2 => G12_35  _ _ _ hl1 _ _ hl2 _ _ hl3 _ _ _ rfl _ _ _ h2))
noncomputable def F12_19  (l0 : Nat) (l1 : Nat) (l2 : Nat) (l3 : Nat) (l4 : Nat) (T : fS) : Option fR := (fbs (fsf T l0 2 3 (.inr (some l4))) (fun T1 => F12_25  l0 l1 l2 l3 l4 T1))
theorem G12_19 {z : Option mm_O} {T : fS} {r : fR}  (l0 : Nat) (xl1 : Int32) (l1 : Nat) (hl1 : xl1 = nI l1) (xl2 : Int32) (l2 : Nat) (hl2 : xl2 = nI l2) (xl3 : Int32) (l3 : Nat) (hl3 : xl3 = nI l3) (l4 : Nat) (h : F12_19  l0 l1 l2 l3 l4 T = some r) : mm_L 12 19 [.ref l0, .int xl1, .int xl2, .int xl3, .ref l4] [] (toS z T) = some (tR z r) := by
  unfold F12_19 at h
  refine Eq.trans (e12_19 ..) ?_
  exact (fb_s (fun _ q => fsf_ok (v := (.inr (some l4))) q) h (fun T1 h2 => G12_25  _ _ _ hl1 _ _ hl2 _ _ hl3 _ h2))
noncomputable def F12_14  (l0 : Nat) (l1 : Nat) (l2 : Nat) (l3 : Nat) (l4 : Nat) (T : fS) : Option fR := (fbs (fsf T l0 2 2 (.inl l3)) (fun T1 => F12_19  l0 l1 l2 l3 l4 T1))
theorem G12_14 {z : Option mm_O} {T : fS} {r : fR}  (l0 : Nat) (xl1 : Int32) (l1 : Nat) (hl1 : xl1 = nI l1) (xl2 : Int32) (l2 : Nat) (hl2 : xl2 = nI l2) (xl3 : Int32) (l3 : Nat) (hl3 : xl3 = nI l3) (l4 : Nat) (h : F12_14  l0 l1 l2 l3 l4 T = some r) : mm_L 12 14 [.ref l0, .int xl1, .int xl2, .int xl3, .ref l4] [] (toS z T) = some (tR z r) := by
  unfold F12_14 at h
  refine Eq.trans (e12_14 ..) ?_
  exact (fb_s (fun _ q => (fun q => by rw [hl3]; exact fsf_ok (v := .inl l3) q) q) h (fun T1 h2 => G12_19  _ _ _ hl1 _ _ hl2 _ _ hl3 _ h2))
noncomputable def F12_9  (l0 : Nat) (l1 : Nat) (l2 : Nat) (l3 : Nat) (l4 : Nat) (T : fS) : Option fR := (fbs (fsf T l0 2 1 (.inl l2)) (fun T1 => F12_14  l0 l1 l2 l3 l4 T1))
theorem G12_9 {z : Option mm_O} {T : fS} {r : fR}  (l0 : Nat) (xl1 : Int32) (l1 : Nat) (hl1 : xl1 = nI l1) (xl2 : Int32) (l2 : Nat) (hl2 : xl2 = nI l2) (xl3 : Int32) (l3 : Nat) (hl3 : xl3 = nI l3) (l4 : Nat) (h : F12_9  l0 l1 l2 l3 l4 T = some r) : mm_L 12 9 [.ref l0, .int xl1, .int xl2, .int xl3, .ref l4] [] (toS z T) = some (tR z r) := by
  unfold F12_9 at h
  refine Eq.trans (e12_9 ..) ?_
  exact (fb_s (fun _ q => (fun q => by rw [hl2]; exact fsf_ok (v := .inl l2) q) q) h (fun T1 h2 => G12_14  _ _ _ hl1 _ _ hl2 _ _ hl3 _ h2))
noncomputable def F12_0  (l0 : Nat) (l1 : Nat) (l2 : Nat) (l3 : Nat) (l4 : Nat) (T : fS) : Option fR := (fbs (fsf T l0 2 0 (.inl l1)) (fun T1 => F12_9  l0 l1 l2 l3 l4 T1))
theorem G12_0 {z : Option mm_O} {T : fS} {r : fR}  (l0 : Nat) (xl1 : Int32) (l1 : Nat) (hl1 : xl1 = nI l1) (xl2 : Int32) (l2 : Nat) (hl2 : xl2 = nI l2) (xl3 : Int32) (l3 : Nat) (hl3 : xl3 = nI l3) (l4 : Nat) (h : F12_0  l0 l1 l2 l3 l4 T = some r) : mm_L 12 0 [.ref l0, .int xl1, .int xl2, .int xl3, .ref l4] [] (toS z T) = some (tR z r) := by
  unfold F12_0 at h
  refine Eq.trans (e12_0 ..) ?_
  exact (fb_s (fun _ q => (fun q => by rw [hl1]; exact fsf_ok (v := .inl l1) q) q) h (fun T1 h2 => G12_9  _ _ _ hl1 _ _ hl2 _ _ hl3 _ h2))
theorem GM12 {z : Option mm_O} {T : fS} {r : fR} (l0 : Nat) (xl1 : Int32) (l1 : Nat) (hl1 : xl1 = nI l1) (xl2 : Int32) (l2 : Nat) (hl2 : xl2 = nI l2) (xl3 : Int32) (l3 : Nat) (hl3 : xl3 = nI l3) (l4 : Nat) (h : F12_0 l0 l1 l2 l3 l4 T = some r) : mm_M 12 [.ref l0, .int xl1, .int xl2, .int xl3, .ref l4] (toS z T) = some (tR z r) := Eq.trans (M_12 ..) (G12_0 l0 xl1 l1 hl1 xl2 l2 hl2 xl3 l3 hl3 l4 h)
