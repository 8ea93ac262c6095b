-- 45: HandArchive.referentNow
noncomputable def F45_14  (l0 : Nat) (l1 : Nat) (s0 : Nat) (T : fS) : Option fR := (some ((.inl (some (.inl s0)), T) : fR))
theorem G45_14 {z : Option mm_O} {T : fS} {r : fR}  (l0 : Nat) (xl1 : Int32) (l1 : Nat) (hl1 : xl1 = nI l1) (xs0 : Int32) (s0 : Nat) (hs0 : xs0 = nI s0) (h : F45_14  l0 l1 s0 T = some r) : mm_L 45 14 [.ref l0, .int xl1] [.int xs0] (toS z T) = some (tR z r) := by
  unfold F45_14 at h
  refine Eq.trans (e45_14 ..) ?_
  exact (fr_i hs0 h)
noncomputable def F45_8  (l0 : Nat) (l1 : Nat) (s0 : Nat) (s1 : Nat) (T : fS) : Option fR := (fKi true (fif (fch T s1 6) (F46_0 s1 (iS s0 1) l1 T) none) (fun v0 T1 => F45_14  l0 l1 v0 T1))
theorem G45_8 {z : Option mm_O} {T : fS} {r : fR}  (l0 : Nat) (xl1 : Int32) (l1 : Nat) (hl1 : xl1 = nI l1) (xs0 : Int32) (s0 : Nat) (hs0 : xs0 = nI s0) (s1 : Nat) (h : F45_8  l0 l1 s0 s1 T = some r) : mm_L 45 8 [.ref l0, .int xl1] [.int xs0, .ref s1] (toS z T) = some (tR z r) := by
  unfold F45_8 at h
  refine Eq.trans (e45_8 ..) ?_
  exact (fb_K0i (fun _ q => fb_mo (y := 46) ow_46 q (fun q => GM46 _ _ _ (iS_ok hs0 (rfl : (1 : Int32) = nI 1)) _ _ hl1 q)) h (fun v0 T1 h2 => G45_14  _ _ _ hl1 _ _ rfl h2))
noncomputable def F45_5  (l0 : Nat) (l1 : Nat) (s0 : Nat) (s1 : Nat) (T : fS) : Option fR := (fbn (flz T s0) (fun v0 => F45_8  l0 l1 v0 s1 T))
theorem G45_5 {z : Option mm_O} {T : fS} {r : fR}  (l0 : Nat) (xl1 : Int32) (l1 : Nat) (hl1 : xl1 = nI l1) (s0 : Nat) (s1 : Nat) (h : F45_5  l0 l1 s0 s1 T = some r) : mm_L 45 5 [.ref l0, .int xl1] [.ref s0, .ref s1] (toS z T) = some (tR z r) := by
  unfold F45_5 at h
  refine Eq.trans (e45_5 ..) ?_
  exact (fb_n (fun _ q => flz_ok q) h (fun v0 h2 => G45_8  _ _ _ hl1 _ _ rfl _ h2))
noncomputable def F45_0  (l0 : Nat) (l1 : Nat) (T : fS) : Option fR := (fbv (fgr T l0 6 1) (fun v0 => F45_5  l0 l1 v0 l0 T) ((none : Option fR)))
theorem G45_0 {z : Option mm_O} {T : fS} {r : fR}  (l0 : Nat) (xl1 : Int32) (l1 : Nat) (hl1 : xl1 = nI l1) (h : F45_0  l0 l1 T = some r) : mm_L 45 0 [.ref l0, .int xl1] [] (toS z T) = some (tR z r) := by
  unfold F45_0 at h
  refine Eq.trans (e45_0 ..) ?_
  exact (fb_v (fun _ q => fgr_ok q) h (fun v0 h2 => G45_5  _ _ _ hl1 _ _ h2) (fun h2 => fr_n h2))
theorem GM45 {z : Option mm_O} {T : fS} {r : fR} (l0 : Nat) (xl1 : Int32) (l1 : Nat) (hl1 : xl1 = nI l1) (h : F45_0 l0 l1 T = some r) : mm_M 45 [.ref l0, .int xl1] (toS z T) = some (tR z r) := Eq.trans (M_45 ..) (G45_0 l0 xl1 l1 hl1 h)
-- 50: HandArchive.faceShown
noncomputable def F50_31  (l0 : Nat) (l1 : Nat) (l2 : Nat) (l3 : Nat) (l4 : Nat) (T : fS) : Option fR := (some ((.inl (some (.inl l4)), T) : fR))
theorem G50_31 {z : Option mm_O} {T : fS} {r : fR}  (l0 : Nat) (xl1 : Int32) (l1 : Nat) (hl1 : xl1 = nI l1) (xl2 : Int32) (l2 : Nat) (hl2 : xl2 = nI l2) (xl3 : Int32) (l3 : Nat) (hl3 : xl3 = nI l3) (xl4 : Int32) (l4 : Nat) (hl4 : xl4 = nI l4) (h : F50_31  l0 l1 l2 l3 l4 T = some r) : mm_L 50 31 [.ref l0, .int xl1, .int xl2, .int xl3, .int xl4] [] (toS z T) = some (tR z r) := by
  unfold F50_31 at h
  refine Eq.trans (e50_31 ..) ?_
  exact (fr_i hl4 h)
noncomputable def F50_51  (l0 : Nat) (l1 : Nat) (l2 : Nat) (l3 : Nat) (l4 : Nat) (T : fS) : Option fR := (some ((.inl (some (.inl 4294967295)), T) : fR))
theorem G50_51 {z : Option mm_O} {T : fS} {r : fR}  (l0 : Nat) (xl1 : Int32) (l1 : Nat) (hl1 : xl1 = nI l1) (xl2 : Int32) (l2 : Nat) (hl2 : xl2 = nI l2) (xl3 : Int32) (l3 : Nat) (hl3 : xl3 = nI l3) (xl4 : Int32) (l4 : Nat) (hl4 : xl4 = nI l4) (h : F50_51  l0 l1 l2 l3 l4 T = some r) : mm_L 50 51 [.ref l0, .int xl1, .int xl2, .int xl3, .int xl4] [] (toS z T) = some (tR z r) := by
  unfold F50_51 at h
  refine Eq.trans (e50_51 ..) ?_
  exact (fr_i (by decide : (-1 : Int32) = nI 4294967295) h)
noncomputable def F50_53 (k2 : Nat → Nat → Nat → Nat → fS → Option fR) (l0 : Nat) (l1 : Nat) (l2 : Nat) (l3 : Nat) (l4 : Nat) (T : fS) : Option fR := (k2 l0 l1 l2 (iA l3 4294967295) T)
theorem G50_53 {z : Option mm_O} {T : fS} {r : fR} (k2 : Nat → Nat → Nat → Nat → fS → Option fR) (hk2 : ∀ (l0 : Nat) (xl1 : Int32) (l1 : Nat) (hl1 : xl1 = nI l1) (xl2 : Int32) (l2 : Nat) (hl2 : xl2 = nI l2) (xl3 : Int32) (l3 : Nat) (hl3 : xl3 = nI l3) (ul4 : Value) (T : fS) (r : fR), k2 l0 l1 l2 l3 T = some r → mm_L 50 2 [.ref l0, .int xl1, .int xl2, .int xl3, ul4] [] (toS z T) = some (tR z r)) (l0 : Nat) (xl1 : Int32) (l1 : Nat) (hl1 : xl1 = nI l1) (xl2 : Int32) (l2 : Nat) (hl2 : xl2 = nI l2) (xl3 : Int32) (l3 : Nat) (hl3 : xl3 = nI l3) (xl4 : Int32) (l4 : Nat) (hl4 : xl4 = nI l4) (h : F50_53 k2 l0 l1 l2 l3 l4 T = some r) : mm_L 50 53 [.ref l0, .int xl1, .int xl2, .int xl3, .int xl4] [] (toS z T) = some (tR z r) := by
  unfold F50_53 at h
  refine Eq.trans (e50_53 ..) ?_
  exact (hk2 _ _ _ hl1 _ _ hl2 _ _ (iA_ok hl3 (by decide : (-1 : Int32) = nI 4294967295)) _ _ _ h)
noncomputable def F50_48 (k2 : Nat → Nat → Nat → Nat → fS → Option fR) (l0 : Nat) (l1 : Nat) (l2 : Nat) (l3 : Nat) (l4 : Nat) (s0 : Nat) (T : fS) : Option fR := (fif (ieq s0 0) (F50_51  l0 l1 l2 l3 l4 T) (F50_53 k2 l0 l1 l2 l3 l4 T))
theorem G50_48 {z : Option mm_O} {T : fS} {r : fR} (k2 : Nat → Nat → Nat → Nat → fS → Option fR) (hk2 : ∀ (l0 : Nat) (xl1 : Int32) (l1 : Nat) (hl1 : xl1 = nI l1) (xl2 : Int32) (l2 : Nat) (hl2 : xl2 = nI l2) (xl3 : Int32) (l3 : Nat) (hl3 : xl3 = nI l3) (ul4 : Value) (T : fS) (r : fR), k2 l0 l1 l2 l3 T = some r → mm_L 50 2 [.ref l0, .int xl1, .int xl2, .int xl3, ul4] [] (toS z T) = some (tR z r)) (l0 : Nat) (xl1 : Int32) (l1 : Nat) (hl1 : xl1 = nI l1) (xl2 : Int32) (l2 : Nat) (hl2 : xl2 = nI l2) (xl3 : Int32) (l3 : Nat) (hl3 : xl3 = nI l3) (xl4 : Int32) (l4 : Nat) (hl4 : xl4 = nI l4) (xs0 : Int32) (s0 : Nat) (hs0 : xs0 = nI s0) (h : F50_48 k2 l0 l1 l2 l3 l4 s0 T = some r) : mm_L 50 48 [.ref l0, .int xl1, .int xl2, .int xl3, .int xl4] [.int xs0] (toS z T) = some (tR z r) := by
  unfold F50_48 at h
  refine Eq.trans (e50_48 ..) ?_
  exact (fb_if (cj_eq hs0 (rfl : (0 : Int32) = nI 0)) h (fun h1 => (G50_51  _ _ _ hl1 _ _ hl2 _ _ hl3 _ _ hl4 h1)) (fun h1 => (G50_53 k2 hk2 _ _ _ hl1 _ _ hl2 _ _ hl3 _ _ hl4 h1)))
noncomputable def F50_45 (k2 : Nat → Nat → Nat → Nat → fS → Option fR) (l0 : Nat) (l1 : Nat) (l2 : Nat) (l3 : Nat) (l4 : Nat) (s0 : Nat) (T : fS) : Option fR := (fKi true (fif (fch T s0 2) (F13_0 s0  T) none) (fun v0 T1 => F50_48 k2 l0 l1 l2 l3 l4 v0 T1))
theorem G50_45 {z : Option mm_O} {T : fS} {r : fR} (k2 : Nat → Nat → Nat → Nat → fS → Option fR) (hk2 : ∀ (l0 : Nat) (xl1 : Int32) (l1 : Nat) (hl1 : xl1 = nI l1) (xl2 : Int32) (l2 : Nat) (hl2 : xl2 = nI l2) (xl3 : Int32) (l3 : Nat) (hl3 : xl3 = nI l3) (ul4 : Value) (T : fS) (r : fR), k2 l0 l1 l2 l3 T = some r → mm_L 50 2 [.ref l0, .int xl1, .int xl2, .int xl3, ul4] [] (toS z T) = some (tR z r)) (l0 : Nat) (xl1 : Int32) (l1 : Nat) (hl1 : xl1 = nI l1) (xl2 : Int32) (l2 : Nat) (hl2 : xl2 = nI l2) (xl3 : Int32) (l3 : Nat) (hl3 : xl3 = nI l3) (xl4 : Int32) (l4 : Nat) (hl4 : xl4 = nI l4) (s0 : Nat) (h : F50_45 k2 l0 l1 l2 l3 l4 s0 T = some r) : mm_L 50 45 [.ref l0, .int xl1, .int xl2, .int xl3, .int xl4] [.ref s0] (toS z T) = some (tR z r) := by
  unfold F50_45 at h
  refine Eq.trans (e50_45 ..) ?_
  exact (fb_K0i (fun _ q => fb_mo (y := 13) ow_13 q (fun q => GM13 _  q)) h (fun v0 T1 h2 => G50_48 k2 hk2 _ _ _ hl1 _ _ hl2 _ _ hl3 _ _ hl4 _ _ rfl h2))
noncomputable def F50_42 (k2 : Nat → Nat → Nat → Nat → fS → Option fR) (l0 : Nat) (l1 : Nat) (l2 : Nat) (l3 : Nat) (l4 : Nat) (s0 : Nat) (T : fS) : Option fR := (fif (fch T s0 2) (F50_45 k2 l0 l1 l2 l3 l4 s0 T) none)
theorem G50_42 {z : Option mm_O} {T : fS} {r : fR} (k2 : Nat → Nat → Nat → Nat → fS → Option fR) (hk2 : ∀ (l0 : Nat) (xl1 : Int32) (l1 : Nat) (hl1 : xl1 = nI l1) (xl2 : Int32) (l2 : Nat) (hl2 : xl2 = nI l2) (xl3 : Int32) (l3 : Nat) (hl3 : xl3 = nI l3) (ul4 : Value) (T : fS) (r : fR), k2 l0 l1 l2 l3 T = some r → mm_L 50 2 [.ref l0, .int xl1, .int xl2, .int xl3, ul4] [] (toS z T) = some (tR z r)) (l0 : Nat) (xl1 : Int32) (l1 : Nat) (hl1 : xl1 = nI l1) (xl2 : Int32) (l2 : Nat) (hl2 : xl2 = nI l2) (xl3 : Int32) (l3 : Nat) (hl3 : xl3 = nI l3) (xl4 : Int32) (l4 : Nat) (hl4 : xl4 = nI l4) (s0 : Nat) (h : F50_42 k2 l0 l1 l2 l3 l4 s0 T = some r) : mm_L 50 42 [.ref l0, .int xl1, .int xl2, .int xl3, .int xl4] [.ref s0] (toS z T) = some (tR z r) := by
  unfold F50_42 at h
  refine Eq.trans (e50_42 ..) ?_
  exact (fb_c h (fun h2 => G50_45 k2 hk2 _ _ _ hl1 _ _ hl2 _ _ hl3 _ _ hl4 _ h2))
noncomputable def F50_38 (k2 : Nat → Nat → Nat → Nat → fS → Option fR) (l0 : Nat) (l1 : Nat) (l2 : Nat) (l3 : Nat) (l4 : Nat) (s0 : Nat) (T : fS) : Option fR := (fbn (flg T s0 l3) (fun v0 => F50_42 k2 l0 l1 l2 l3 l4 v0 T))
theorem G50_38 {z : Option mm_O} {T : fS} {r : fR} (k2 : Nat → Nat → Nat → Nat → fS → Option fR) (hk2 : ∀ (l0 : Nat) (xl1 : Int32) (l1 : Nat) (hl1 : xl1 = nI l1) (xl2 : Int32) (l2 : Nat) (hl2 : xl2 = nI l2) (xl3 : Int32) (l3 : Nat) (hl3 : xl3 = nI l3) (ul4 : Value) (T : fS) (r : fR), k2 l0 l1 l2 l3 T = some r → mm_L 50 2 [.ref l0, .int xl1, .int xl2, .int xl3, ul4] [] (toS z T) = some (tR z r)) (l0 : Nat) (xl1 : Int32) (l1 : Nat) (hl1 : xl1 = nI l1) (xl2 : Int32) (l2 : Nat) (hl2 : xl2 = nI l2) (xl3 : Int32) (l3 : Nat) (hl3 : xl3 = nI l3) (xl4 : Int32) (l4 : Nat) (hl4 : xl4 = nI l4) (s0 : Nat) (h : F50_38 k2 l0 l1 l2 l3 l4 s0 T = some r) : mm_L 50 38 [.ref l0, .int xl1, .int xl2, .int xl3, .int xl4] [.ref s0] (toS z T) = some (tR z r) := by
  unfold F50_38 at h
  refine Eq.trans (e50_38 ..) ?_
  exact (fb_g (fun _ q => by rw [hl3]; exact flg_ok q) h (fun v0 h2 => G50_42 k2 hk2 _ _ _ hl1 _ _ hl2 _ _ hl3 _ _ hl4 _ h2))
noncomputable def F50_34 (k2 : Nat → Nat → Nat → Nat → fS → Option fR) (l0 : Nat) (l1 : Nat) (l2 : Nat) (l3 : Nat) (l4 : Nat) (T : fS) : Option fR := (fbv (fgr T l0 6 1) (fun v0 => F50_38 k2 l0 l1 l2 l3 l4 v0 T) ((none : Option fR)))
theorem G50_34 {z : Option mm_O} {T : fS} {r : fR} (k2 : Nat → Nat → Nat → Nat → fS → Option fR) (hk2 : ∀ (l0 : Nat) (xl1 : Int32) (l1 : Nat) (hl1 : xl1 = nI l1) (xl2 : Int32) (l2 : Nat) (hl2 : xl2 = nI l2) (xl3 : Int32) (l3 : Nat) (hl3 : xl3 = nI l3) (ul4 : Value) (T : fS) (r : fR), k2 l0 l1 l2 l3 T = some r → mm_L 50 2 [.ref l0, .int xl1, .int xl2, .int xl3, ul4] [] (toS z T) = some (tR z r)) (l0 : Nat) (xl1 : Int32) (l1 : Nat) (hl1 : xl1 = nI l1) (xl2 : Int32) (l2 : Nat) (hl2 : xl2 = nI l2) (xl3 : Int32) (l3 : Nat) (hl3 : xl3 = nI l3) (xl4 : Int32) (l4 : Nat) (hl4 : xl4 = nI l4) (h : F50_34 k2 l0 l1 l2 l3 l4 T = some r) : mm_L 50 34 [.ref l0, .int xl1, .int xl2, .int xl3, .int xl4] [] (toS z T) = some (tR z r) := by
  unfold F50_34 at h
  refine Eq.trans (e50_34 ..) ?_
  exact (fb_v (fun _ q => fgr_ok q) h (fun v0 h2 => G50_38 k2 hk2 _ _ _ hl1 _ _ hl2 _ _ hl3 _ _ hl4 _ h2) (fun h2 => fr_n h2))
noncomputable def F50_23 (k2 : Nat → Nat → Nat → Nat → fS → Option fR) (l0 : Nat) (l1 : Nat) (l2 : Nat) (l3 : Nat) (s0 : Nat) (T : fS) : Option fR := (fif (ieq s0 4294967295) (F50_34 k2 l0 l1 l2 l3 s0 T) (F50_31  l0 l1 l2 l3 s0 T))
theorem G50_23 {z : Option mm_O} {T : fS} {r : fR} (k2 : Nat → Nat → Nat → Nat → fS → Option fR) (hk2 : ∀ (l0 : Nat) (xl1 : Int32) (l1 : Nat) (hl1 : xl1 = nI l1) (xl2 : Int32) (l2 : Nat) (hl2 : xl2 = nI l2) (xl3 : Int32) (l3 : Nat) (hl3 : xl3 = nI l3) (ul4 : Value) (T : fS) (r : fR), k2 l0 l1 l2 l3 T = some r → mm_L 50 2 [.ref l0, .int xl1, .int xl2, .int xl3, ul4] [] (toS z T) = some (tR z r)) (l0 : Nat) (xl1 : Int32) (l1 : Nat) (hl1 : xl1 = nI l1) (xl2 : Int32) (l2 : Nat) (hl2 : xl2 = nI l2) (xl3 : Int32) (l3 : Nat) (hl3 : xl3 = nI l3) (ul4 : Value) (xs0 : Int32) (s0 : Nat) (hs0 : xs0 = nI s0) (h : F50_23 k2 l0 l1 l2 l3 s0 T = some r) : mm_L 50 23 [.ref l0, .int xl1, .int xl2, .int xl3, ul4] [.int xs0] (toS z T) = some (tR z r) := by
  unfold F50_23 at h
  refine Eq.trans (e50_23 ..) ?_
  exact (fb_if (cj_eq hs0 (by decide : (-1 : Int32) = nI 4294967295)) h (fun h1 => (G50_34 k2 hk2 _ _ _ hl1 _ _ hl2 _ _ hl3 _ _ hs0 h1)) (fun h1 => (G50_31  _ _ _ hl1 _ _ hl2 _ _ hl3 _ _ hs0 h1)))
noncomputable def F50_17 (k2 : Nat → Nat → Nat → Nat → fS → Option fR) (l0 : Nat) (l1 : Nat) (l2 : Nat) (l3 : Nat) (T : fS) : Option fR := (fKi true (fif (fch T l0 6) (F51_0 l0 l3 l2 T) none) (fun v0 T1 => F50_23 k2 l0 l1 l2 l3 v0 T1))
theorem G50_17 {z : Option mm_O} {T : fS} {r : fR} (k2 : Nat → Nat → Nat → Nat → fS → Option fR) (hk2 : ∀ (l0 : Nat) (xl1 : Int32) (l1 : Nat) (hl1 : xl1 = nI l1) (xl2 : Int32) (l2 : Nat) (hl2 : xl2 = nI l2) (xl3 : Int32) (l3 : Nat) (hl3 : xl3 = nI l3) (ul4 : Value) (T : fS) (r : fR), k2 l0 l1 l2 l3 T = some r → mm_L 50 2 [.ref l0, .int xl1, .int xl2, .int xl3, ul4] [] (toS z T) = some (tR z r)) (l0 : Nat) (xl1 : Int32) (l1 : Nat) (hl1 : xl1 = nI l1) (xl2 : Int32) (l2 : Nat) (hl2 : xl2 = nI l2) (xl3 : Int32) (l3 : Nat) (hl3 : xl3 = nI l3) (ul4 : Value) (h : F50_17 k2 l0 l1 l2 l3 T = some r) : mm_L 50 17 [.ref l0, .int xl1, .int xl2, .int xl3, ul4] [] (toS z T) = some (tR z r) := by
  unfold F50_17 at h
  refine Eq.trans (e50_17 ..) ?_
  exact (fb_K0i (fun _ q => fb_mo (y := 51) ow_51 q (fun q => GM51 _ _ _ hl3 _ _ hl2 q)) h (fun v0 T1 h2 => G50_23 k2 hk2 _ _ _ hl1 _ _ hl2 _ _ hl3 _ _ _ rfl h2))
noncomputable def F50_59  (l0 : Nat) (l1 : Nat) (l2 : Nat) (l3 : Nat) (T : fS) : Option fR := (some ((.inl (some (.inl 4294967295)), T) : fR))
theorem G50_59 {z : Option mm_O} {T : fS} {r : fR}  (l0 : Nat) (xl1 : Int32) (l1 : Nat) (hl1 : xl1 = nI l1) (xl2 : Int32) (l2 : Nat) (hl2 : xl2 = nI l2) (xl3 : Int32) (l3 : Nat) (hl3 : xl3 = nI l3) (ul4 : Value) (h : F50_59  l0 l1 l2 l3 T = some r) : mm_L 50 59 [.ref l0, .int xl1, .int xl2, .int xl3, ul4] [] (toS z T) = some (tR z r) := by
  unfold F50_59 at h
  refine Eq.trans (e50_59 ..) ?_
  exact (fr_i (by decide : (-1 : Int32) = nI 4294967295) h)
noncomputable def F50_14 (k2 : Nat → Nat → Nat → Nat → fS → Option fR) (l0 : Nat) (l1 : Nat) (l2 : Nat) (l3 : Nat) (s0 : Nat) (s1 : Nat) (T : fS) : Option fR := (fif (ile s0 s1) (F50_59  l0 l1 l2 l3 T) (F50_17 k2 l0 l1 l2 l3 T))
theorem G50_14 {z : Option mm_O} {T : fS} {r : fR} (k2 : Nat → Nat → Nat → Nat → fS → Option fR) (hk2 : ∀ (l0 : Nat) (xl1 : Int32) (l1 : Nat) (hl1 : xl1 = nI l1) (xl2 : Int32) (l2 : Nat) (hl2 : xl2 = nI l2) (xl3 : Int32) (l3 : Nat) (hl3 : xl3 = nI l3) (ul4 : Value) (T : fS) (r : fR), k2 l0 l1 l2 l3 T = some r → mm_L 50 2 [.ref l0, .int xl1, .int xl2, .int xl3, ul4] [] (toS z T) = some (tR z r)) (l0 : Nat) (xl1 : Int32) (l1 : Nat) (hl1 : xl1 = nI l1) (xl2 : Int32) (l2 : Nat) (hl2 : xl2 = nI l2) (xl3 : Int32) (l3 : Nat) (hl3 : xl3 = nI l3) (ul4 : Value) (xs0 : Int32) (s0 : Nat) (hs0 : xs0 = nI s0) (xs1 : Int32) (s1 : Nat) (hs1 : xs1 = nI s1) (h : F50_14 k2 l0 l1 l2 l3 s0 s1 T = some r) : mm_L 50 14 [.ref l0, .int xl1, .int xl2, .int xl3, ul4] [.int xs0, .int xs1] (toS z T) = some (tR z r) := by
  unfold F50_14 at h
  refine Eq.trans (e50_14 ..) ?_
  exact (fb_if (cj_le hs0 hs1) h (fun h1 => (G50_59  _ _ _ hl1 _ _ hl2 _ _ hl3 _ h1)) (fun h1 => (G50_17 k2 hk2 _ _ _ hl1 _ _ hl2 _ _ hl3 _ h1)))
noncomputable def F50_11 (k2 : Nat → Nat → Nat → Nat → fS → Option fR) (l0 : Nat) (l1 : Nat) (l2 : Nat) (l3 : Nat) (s0 : Nat) (s1 : Nat) (T : fS) : Option fR := (fbn (flz T s0) (fun v0 => F50_14 k2 l0 l1 l2 l3 v0 s1 T))
theorem G50_11 {z : Option mm_O} {T : fS} {r : fR} (k2 : Nat → Nat → Nat → Nat → fS → Option fR) (hk2 : ∀ (l0 : Nat) (xl1 : Int32) (l1 : Nat) (hl1 : xl1 = nI l1) (xl2 : Int32) (l2 : Nat) (hl2 : xl2 = nI l2) (xl3 : Int32) (l3 : Nat) (hl3 : xl3 = nI l3) (ul4 : Value) (T : fS) (r : fR), k2 l0 l1 l2 l3 T = some r → mm_L 50 2 [.ref l0, .int xl1, .int xl2, .int xl3, ul4] [] (toS z T) = some (tR z r)) (l0 : Nat) (xl1 : Int32) (l1 : Nat) (hl1 : xl1 = nI l1) (xl2 : Int32) (l2 : Nat) (hl2 : xl2 = nI l2) (xl3 : Int32) (l3 : Nat) (hl3 : xl3 = nI l3) (ul4 : Value) (s0 : Nat) (xs1 : Int32) (s1 : Nat) (hs1 : xs1 = nI s1) (h : F50_11 k2 l0 l1 l2 l3 s0 s1 T = some r) : mm_L 50 11 [.ref l0, .int xl1, .int xl2, .int xl3, ul4] [.ref s0, .int xs1] (toS z T) = some (tR z r) := by
  unfold F50_11 at h
  refine Eq.trans (e50_11 ..) ?_
  exact (fb_n (fun _ q => flz_ok q) h (fun v0 h2 => G50_14 k2 hk2 _ _ _ hl1 _ _ hl2 _ _ hl3 _ _ _ rfl _ _ hs1 h2))
noncomputable def F50_6 (k2 : Nat → Nat → Nat → Nat → fS → Option fR) (l0 : Nat) (l1 : Nat) (l2 : Nat) (l3 : Nat) (T : fS) : Option fR := (fbv (fgr T l0 6 1) (fun v0 => F50_11 k2 l0 l1 l2 l3 v0 l3 T) ((none : Option fR)))
theorem G50_6 {z : Option mm_O} {T : fS} {r : fR} (k2 : Nat → Nat → Nat → Nat → fS → Option fR) (hk2 : ∀ (l0 : Nat) (xl1 : Int32) (l1 : Nat) (hl1 : xl1 = nI l1) (xl2 : Int32) (l2 : Nat) (hl2 : xl2 = nI l2) (xl3 : Int32) (l3 : Nat) (hl3 : xl3 = nI l3) (ul4 : Value) (T : fS) (r : fR), k2 l0 l1 l2 l3 T = some r → mm_L 50 2 [.ref l0, .int xl1, .int xl2, .int xl3, ul4] [] (toS z T) = some (tR z r)) (l0 : Nat) (xl1 : Int32) (l1 : Nat) (hl1 : xl1 = nI l1) (xl2 : Int32) (l2 : Nat) (hl2 : xl2 = nI l2) (xl3 : Int32) (l3 : Nat) (hl3 : xl3 = nI l3) (ul4 : Value) (h : F50_6 k2 l0 l1 l2 l3 T = some r) : mm_L 50 6 [.ref l0, .int xl1, .int xl2, .int xl3, ul4] [] (toS z T) = some (tR z r) := by
  unfold F50_6 at h
  refine Eq.trans (e50_6 ..) ?_
  exact (fb_v (fun _ q => fgr_ok q) h (fun v0 h2 => G50_11 k2 hk2 _ _ _ hl1 _ _ hl2 _ _ hl3 _ _ _ _ hl3 h2) (fun h2 => fr_n h2))
noncomputable def F50_2 (k2 : Nat → Nat → Nat → Nat → fS → Option fR) (l0 : Nat) (l1 : Nat) (l2 : Nat) (l3 : Nat) (T : fS) : Option fR := (fif (ilt l3 0) (F50_59  l0 l1 l2 l3 T) (F50_6 k2 l0 l1 l2 l3 T))
theorem G50_2 {z : Option mm_O} {T : fS} {r : fR} (k2 : Nat → Nat → Nat → Nat → fS → Option fR) (hk2 : ∀ (l0 : Nat) (xl1 : Int32) (l1 : Nat) (hl1 : xl1 = nI l1) (xl2 : Int32) (l2 : Nat) (hl2 : xl2 = nI l2) (xl3 : Int32) (l3 : Nat) (hl3 : xl3 = nI l3) (ul4 : Value) (T : fS) (r : fR), k2 l0 l1 l2 l3 T = some r → mm_L 50 2 [.ref l0, .int xl1, .int xl2, .int xl3, ul4] [] (toS z T) = some (tR z r)) (l0 : Nat) (xl1 : Int32) (l1 : Nat) (hl1 : xl1 = nI l1) (xl2 : Int32) (l2 : Nat) (hl2 : xl2 = nI l2) (xl3 : Int32) (l3 : Nat) (hl3 : xl3 = nI l3) (ul4 : Value) (h : F50_2 k2 l0 l1 l2 l3 T = some r) : mm_L 50 2 [.ref l0, .int xl1, .int xl2, .int xl3, ul4] [] (toS z T) = some (tR z r) := by
  unfold F50_2 at h
  refine Eq.trans (e50_2 ..) ?_
  exact (fb_if (cj_lt hl3 (rfl : (0 : Int32) = nI 0)) h (fun h1 => (G50_59  _ _ _ hl1 _ _ hl2 _ _ hl3 _ h1)) (fun h1 => (G50_6 k2 hk2 _ _ _ hl1 _ _ hl2 _ _ hl3 _ h1)))
noncomputable def H50_2  (n : Nat) : Nat → Nat → Nat → Nat → fS → Option fR := Nat.rec (motive := fun _ => Nat → Nat → Nat → Nat → fS → Option fR) (fun _ _ _ _ _ => none) (fun _ ih => F50_2 ih) n
theorem HG50_2 {z : Option mm_O}  : ∀ (n : Nat) (l0 : Nat) (xl1 : Int32) (l1 : Nat) (hl1 : xl1 = nI l1) (xl2 : Int32) (l2 : Nat) (hl2 : xl2 = nI l2) (xl3 : Int32) (l3 : Nat) (hl3 : xl3 = nI l3) (ul4 : Value) {T : fS} {r : fR}, H50_2  n l0 l1 l2 l3 T = some r → mm_L 50 2 [.ref l0, .int xl1, .int xl2, .int xl3, ul4] [] (toS z T) = some (tR z r) := by
  intro n
  induction n with
  | zero =>
    intro l0 xl1 l1 hl1 xl2 l2 hl2 xl3 l3 hl3 ul4 T r h
    exact fr_n h
  | succ n ih =>
    intro l0 xl1 l1 hl1 xl2 l2 hl2 xl3 l3 hl3 ul4 T r h
    exact G50_2 (H50_2  n) (fun l0 xl1 l1 hl1 xl2 l2 hl2 xl3 l3 hl3 ul4 T r h => ih l0 xl1 l1 hl1 xl2 l2 hl2 xl3 l3 hl3 ul4 h) l0 xl1 l1 hl1 xl2 l2 hl2 xl3 l3 hl3 ul4 h
noncomputable def F50_0  (l0 : Nat) (l1 : Nat) (l2 : Nat) (T : fS) : Option fR := (H50_2  300 l0 l1 l2 l1 T)
theorem G50_0 {z : Option mm_O} {T : fS} {r : fR}  (l0 : Nat) (xl1 : Int32) (l1 : Nat) (hl1 : xl1 = nI l1) (xl2 : Int32) (l2 : Nat) (hl2 : xl2 = nI l2) (ul3 : Value) (ul4 : Value) (h : F50_0  l0 l1 l2 T = some r) : mm_L 50 0 [.ref l0, .int xl1, .int xl2, ul3, ul4] [] (toS z T) = some (tR z r) := by
  unfold F50_0 at h
  refine Eq.trans (e50_0 ..) ?_
  exact (HG50_2  300 _ _ _ hl1 _ _ hl2 _ _ hl1 _ h)
theorem GM50 {z : Option mm_O} {T : fS} {r : fR} (l0 : Nat) (xl1 : Int32) (l1 : Nat) (hl1 : xl1 = nI l1) (xl2 : Int32) (l2 : Nat) (hl2 : xl2 = nI l2) (h : F50_0 l0 l1 l2 T = some r) : mm_M 50 [.ref l0, .int xl1, .int xl2] (toS z T) = some (tR z r) := Eq.trans (M_50 ..) (G50_0 l0 xl1 l1 hl1 xl2 l2 hl2 _ _ h)
-- 61: HandArchive.dropMirrored
noncomputable def F61_39  (l0 : Nat) (l1 : Nat) (l2 : Nat) (T : fS) : Option fR := (some ((.inl none, T) : fR))
theorem G61_39 {z : Option mm_O} {T : fS} {r : fR}  (l0 : Nat) (xl1 : Int32) (l1 : Nat) (hl1 : xl1 = nI l1) (l2 : Nat) (h : F61_39  l0 l1 l2 T = some r) : mm_L 61 39 [.ref l0, .int xl1, .ref l2] [] (toS z T) = some (tR z r) := by
  unfold F61_39 at h
  refine Eq.trans (e61_39 ..) ?_
  exact (fr_v h)
noncomputable def F61_35  (l0 : Nat) (l1 : Nat) (l2 : Nat) (s0 : Nat) (T : fS) : Option fR := (fbs (fsf T s0 1 5 (.inl 0)) (fun T1 => F61_39  l0 l1 l2 T1))
theorem G61_35 {z : Option mm_O} {T : fS} {r : fR}  (l0 : Nat) (xl1 : Int32) (l1 : Nat) (hl1 : xl1 = nI l1) (l2 : Nat) (s0 : Nat) (h : F61_35  l0 l1 l2 s0 T = some r) : mm_L 61 35 [.ref l0, .int xl1, .ref l2] [.ref s0] (toS z T) = some (tR z r) := by
  unfold F61_35 at h
  refine Eq.trans (e61_35 ..) ?_
  exact (fb_s (fun _ q => (fun q => by rw [(rfl : (0 : Int32) = nI 0)]; exact fsf_ok (v := .inl 0) q) q) h (fun T1 h2 => G61_39  _ _ _ hl1 _ h2))
noncomputable def F61_31  (l0 : Nat) (l1 : Nat) (l2 : Nat) (T : fS) : Option fR := (fbv (fgr T l2 2 4) (fun v0 => F61_35  l0 l1 l2 v0 T) ((none : Option fR)))
theorem G61_31 {z : Option mm_O} {T : fS} {r : fR}  (l0 : Nat) (xl1 : Int32) (l1 : Nat) (hl1 : xl1 = nI l1) (l2 : Nat) (h : F61_31  l0 l1 l2 T = some r) : mm_L 61 31 [.ref l0, .int xl1, .ref l2] [] (toS z T) = some (tR z r) := by
  unfold F61_31 at h
  refine Eq.trans (e61_31 ..) ?_
  exact (fb_v (fun _ q => fgr_ok q) h (fun v0 h2 => G61_35  _ _ _ hl1 _ _ h2) (fun h2 => fr_n h2))
noncomputable def F61_28  (l0 : Nat) (l1 : Nat) (l2 : Nat) (s0 : Nat) (T : fS) : Option fR := (fif (ieq s0 0) (F61_39  l0 l1 l2 T) (F61_31  l0 l1 l2 T))
theorem G61_28 {z : Option mm_O} {T : fS} {r : fR}  (l0 : Nat) (xl1 : Int32) (l1 : Nat) (hl1 : xl1 = nI l1) (l2 : Nat) (xs0 : Int32) (s0 : Nat) (hs0 : xs0 = nI s0) (h : F61_28  l0 l1 l2 s0 T = some r) : mm_L 61 28 [.ref l0, .int xl1, .ref l2] [.int xs0] (toS z T) = some (tR z r) := by
  unfold F61_28 at h
  refine Eq.trans (e61_28 ..) ?_
  exact (fb_if (cj_eq hs0 (rfl : (0 : Int32) = nI 0)) h (fun h1 => (G61_39  _ _ _ hl1 _ h1)) (fun h1 => (G61_31  _ _ _ hl1 _ h1)))
noncomputable def F61_21  (l0 : Nat) (l1 : Nat) (l2 : Nat) (T : fS) : Option fR := (fKi true (fif (fch T l0 6) (F62_0 l0 (iA l1 1) T) none) (fun v0 T1 => F61_28  l0 l1 l2 v0 T1))
theorem G61_21 {z : Option mm_O} {T : fS} {r : fR}  (l0 : Nat) (xl1 : Int32) (l1 : Nat) (hl1 : xl1 = nI l1) (l2 : Nat) (h : F61_21  l0 l1 l2 T = some r) : mm_L 61 21 [.ref l0, .int xl1, .ref l2] [] (toS z T) = some (tR z r) := by
  unfold F61_21 at h
  refine Eq.trans (e61_21 ..) ?_
  exact (fb_K0i (fun _ q => fb_mo (y := 62) ow_62 q (fun q => GM62 _ _ _ (iA_ok hl1 (rfl : (1 : Int32) = nI 1)) q)) h (fun v0 T1 h2 => G61_28  _ _ _ hl1 _ _ _ rfl h2))
noncomputable def F61_18  (l0 : Nat) (l1 : Nat) (l2 : Nat) (s0 : Nat) (T : fS) : Option fR := (fif (ieq s0 0) (F61_39  l0 l1 l2 T) (F61_21  l0 l1 l2 T))
theorem G61_18 {z : Option mm_O} {T : fS} {r : fR}  (l0 : Nat) (xl1 : Int32) (l1 : Nat) (hl1 : xl1 = nI l1) (l2 : Nat) (xs0 : Int32) (s0 : Nat) (hs0 : xs0 = nI s0) (h : F61_18  l0 l1 l2 s0 T = some r) : mm_L 61 18 [.ref l0, .int xl1, .ref l2] [.int xs0] (toS z T) = some (tR z r) := by
  unfold F61_18 at h
  refine Eq.trans (e61_18 ..) ?_
  exact (fb_if (cj_eq hs0 (rfl : (0 : Int32) = nI 0)) h (fun h1 => (G61_39  _ _ _ hl1 _ h1)) (fun h1 => (G61_21  _ _ _ hl1 _ h1)))
noncomputable def F61_11  (l0 : Nat) (l1 : Nat) (l2 : Nat) (T : fS) : Option fR := (fKi true (fif (fch T l0 6) (F62_0 l0 (iS l1 1) T) none) (fun v0 T1 => F61_18  l0 l1 l2 v0 T1))
theorem G61_11 {z : Option mm_O} {T : fS} {r : fR}  (l0 : Nat) (xl1 : Int32) (l1 : Nat) (hl1 : xl1 = nI l1) (l2 : Nat) (h : F61_11  l0 l1 l2 T = some r) : mm_L 61 11 [.ref l0, .int xl1, .ref l2] [] (toS z T) = some (tR z r) := by
  unfold F61_11 at h
  refine Eq.trans (e61_11 ..) ?_
  exact (fb_K0i (fun _ q => fb_mo (y := 62) ow_62 q (fun q => GM62 _ _ _ (iS_ok hl1 (rfl : (1 : Int32) = nI 1)) q)) h (fun v0 T1 h2 => G61_18  _ _ _ hl1 _ _ _ rfl h2))
noncomputable def F61_7  (l0 : Nat) (l1 : Nat) (l2 : Nat) (s0 : Nat) (T : fS) : Option fR := (fif (ieq s0 1) (F61_11  l0 l1 l2 T) (F61_39  l0 l1 l2 T))
theorem G61_7 {z : Option mm_O} {T : fS} {r : fR}  (l0 : Nat) (xl1 : Int32) (l1 : Nat) (hl1 : xl1 = nI l1) (l2 : Nat) (xs0 : Int32) (s0 : Nat) (hs0 : xs0 = nI s0) (h : F61_7  l0 l1 l2 s0 T = some r) : mm_L 61 7 [.ref l0, .int xl1, .ref l2] [.int xs0] (toS z T) = some (tR z r) := by
  unfold F61_7 at h
  refine Eq.trans (e61_7 ..) ?_
  exact (fb_if (cj_eq hs0 (rfl : (1 : Int32) = nI 1)) h (fun h1 => (G61_11  _ _ _ hl1 _ h1)) (fun h1 => (G61_39  _ _ _ hl1 _ h1)))
noncomputable def F61_4  (l0 : Nat) (l1 : Nat) (l2 : Nat) (s0 : Nat) (T : fS) : Option fR := (fbn (fgi T s0 1 5) (fun v0 => F61_7  l0 l1 l2 v0 T))
theorem G61_4 {z : Option mm_O} {T : fS} {r : fR}  (l0 : Nat) (xl1 : Int32) (l1 : Nat) (hl1 : xl1 = nI l1) (l2 : Nat) (s0 : Nat) (h : F61_4  l0 l1 l2 s0 T = some r) : mm_L 61 4 [.ref l0, .int xl1, .ref l2] [.ref s0] (toS z T) = some (tR z r) := by
  unfold F61_4 at h
  refine Eq.trans (e61_4 ..) ?_
  exact (fb_n (fun _ q => fgi_ok q) h (fun v0 h2 => G61_7  _ _ _ hl1 _ _ _ rfl h2))
noncomputable def F61_0  (l0 : Nat) (l1 : Nat) (l2 : Nat) (T : fS) : Option fR := (fbv (fgr T l2 2 4) (fun v0 => F61_4  l0 l1 l2 v0 T) ((none : Option fR)))
theorem G61_0 {z : Option mm_O} {T : fS} {r : fR}  (l0 : Nat) (xl1 : Int32) (l1 : Nat) (hl1 : xl1 = nI l1) (l2 : Nat) (h : F61_0  l0 l1 l2 T = some r) : mm_L 61 0 [.ref l0, .int xl1, .ref l2] [] (toS z T) = some (tR z r) := by
  unfold F61_0 at h
  refine Eq.trans (e61_0 ..) ?_
  exact (fb_v (fun _ q => fgr_ok q) h (fun v0 h2 => G61_4  _ _ _ hl1 _ _ h2) (fun h2 => fr_n h2))
theorem GM61 {z : Option mm_O} {T : fS} {r : fR} (l0 : Nat) (xl1 : Int32) (l1 : Nat) (hl1 : xl1 = nI l1) (l2 : Nat) (h : F61_0 l0 l1 l2 T = some r) : mm_M 61 [.ref l0, .int xl1, .ref l2] (toS z T) = some (tR z r) := Eq.trans (M_61 ..) (G61_0 l0 xl1 l1 hl1 l2 h)
-- 80: HandArchive.kindReadBack
noncomputable def F80_18  (l0 : Nat) (l1 : Nat) (T : fS) : Option fR := (some ((.inl (some (.inl 2)), T) : fR))
theorem G80_18 {z : Option mm_O} {T : fS} {r : fR}  (l0 : Nat) (l1 : Nat) (h : F80_18  l0 l1 T = some r) : mm_L 80 18 [.ref l0, .ref l1] [] (toS z T) = some (tR z r) := by
  unfold F80_18 at h
  refine Eq.trans (e80_18 ..) ?_
  exact (fr_i (rfl : (2 : Int32) = nI 2) h)
noncomputable def F80_31  (l0 : Nat) (l1 : Nat) (T : fS) : Option fR := (some ((.inl (some (.inl 5)), T) : fR))
theorem G80_31 {z : Option mm_O} {T : fS} {r : fR}  (l0 : Nat) (l1 : Nat) (h : F80_31  l0 l1 T = some r) : mm_L 80 31 [.ref l0, .ref l1] [] (toS z T) = some (tR z r) := by
  unfold F80_31 at h
  refine Eq.trans (e80_31 ..) ?_
  exact (fr_i (rfl : (5 : Int32) = nI 5) h)
noncomputable def F80_50  (l0 : Nat) (l1 : Nat) (s0 : Nat) (T : fS) : Option fR := (some ((.inl (some (.inl s0)), T) : fR))
theorem G80_50 {z : Option mm_O} {T : fS} {r : fR}  (l0 : Nat) (l1 : Nat) (xs0 : Int32) (s0 : Nat) (hs0 : xs0 = nI s0) (h : F80_50  l0 l1 s0 T = some r) : mm_L 80 50 [.ref l0, .ref l1] [.int xs0] (toS z T) = some (tR z r) := by
  unfold F80_50 at h
  refine Eq.trans (e80_50 ..) ?_
  exact (fr_i hs0 h)
noncomputable def F80_45  (l0 : Nat) (l1 : Nat) (T : fS) : Option fR := (F80_50  l0 l1 0 T)
theorem G80_45 {z : Option mm_O} {T : fS} {r : fR}  (l0 : Nat) (l1 : Nat) (h : F80_45  l0 l1 T = some r) : mm_L 80 45 [.ref l0, .ref l1] [] (toS z T) = some (tR z r) := by
  unfold F80_45 at h
  refine Eq.trans (e80_45 ..) ?_
  exact (G80_50  _ _ _ _ (rfl : (0 : Int32) = nI 0) h)
noncomputable def F80_49  (l0 : Nat) (l1 : Nat) (T : fS) : Option fR := (F80_50  l0 l1 4294967295 T)
theorem G80_49 {z : Option mm_O} {T : fS} {r : fR}  (l0 : Nat) (l1 : Nat) (h : F80_49  l0 l1 T = some r) : mm_L 80 49 [.ref l0, .ref l1] [] (toS z T) = some (tR z r) := by
  unfold F80_49 at h
  refine Eq.trans (e80_49 ..) ?_
  exact (G80_50  _ _ _ _ (by decide : (-1 : Int32) = nI 4294967295) h)
noncomputable def F80_41  (l0 : Nat) (l1 : Nat) (s0 : Nat) (T : fS) : Option fR := (fif (ieq s0 4294967295) (F80_49  l0 l1 T) (F80_45  l0 l1 T))
theorem G80_41 {z : Option mm_O} {T : fS} {r : fR}  (l0 : Nat) (l1 : Nat) (xs0 : Int32) (s0 : Nat) (hs0 : xs0 = nI s0) (h : F80_41  l0 l1 s0 T = some r) : mm_L 80 41 [.ref l0, .ref l1] [.int xs0] (toS z T) = some (tR z r) := by
  unfold F80_41 at h
  refine Eq.trans (e80_41 ..) ?_
  exact (fb_if (cj_eq hs0 (by decide : (-1 : Int32) = nI 4294967295)) h (fun h1 => (G80_49  _ _ h1)) (fun h1 => (G80_45  _ _ h1)))
noncomputable def F80_38  (l0 : Nat) (l1 : Nat) (s0 : Nat) (s1 : Nat) (T : fS) : Option fR := (fKi true (fif (fch T s1 6) (F31_0 s1 s0 T) none) (fun v0 T1 => F80_41  l0 l1 v0 T1))
theorem G80_38 {z : Option mm_O} {T : fS} {r : fR}  (l0 : Nat) (l1 : Nat) (s0 : Nat) (s1 : Nat) (h : F80_38  l0 l1 s0 s1 T = some r) : mm_L 80 38 [.ref l0, .ref l1] [.ref s0, .ref s1] (toS z T) = some (tR z r) := by
  unfold F80_38 at h
  refine Eq.trans (e80_38 ..) ?_
  exact (fb_K0i (fun _ q => fb_mo (y := 31) ow_31 q (fun q => GM31 _ _ q)) h (fun v0 T1 h2 => G80_41  _ _ _ _ rfl h2))
noncomputable def F80_33  (l0 : Nat) (l1 : Nat) (T : fS) : Option fR := (fbv (fgr T l1 2 4) (fun v0 => F80_38  l0 l1 v0 l0 T) ((none : Option fR)))
theorem G80_33 {z : Option mm_O} {T : fS} {r : fR}  (l0 : Nat) (l1 : Nat) (h : F80_33  l0 l1 T = some r) : mm_L 80 33 [.ref l0, .ref l1] [] (toS z T) = some (tR z r) := by
  unfold F80_33 at h
  refine Eq.trans (e80_33 ..) ?_
  exact (fb_v (fun _ q => fgr_ok q) h (fun v0 h2 => G80_38  _ _ _ _ h2) (fun h2 => fr_n h2))
noncomputable def F80_27  (l0 : Nat) (l1 : Nat) (s0 : Nat) (T : fS) : Option fR := (fif (ieq s0 4294967295) (F80_33  l0 l1 T) (F80_31  l0 l1 T))
theorem G80_27 {z : Option mm_O} {T : fS} {r : fR}  (l0 : Nat) (l1 : Nat) (xs0 : Int32) (s0 : Nat) (hs0 : xs0 = nI s0) (h : F80_27  l0 l1 s0 T = some r) : mm_L 80 27 [.ref l0, .ref l1] [.int xs0] (toS z T) = some (tR z r) := by
  unfold F80_27 at h
  refine Eq.trans (e80_27 ..) ?_
  exact (fb_if (cj_eq hs0 (by decide : (-1 : Int32) = nI 4294967295)) h (fun h1 => (G80_33  _ _ h1)) (fun h1 => (G80_31  _ _ h1)))
noncomputable def F80_24  (l0 : Nat) (l1 : Nat) (s0 : Nat) (T : fS) : Option fR := (fKi true (F83_0 s0 T) (fun v0 T1 => F80_27  l0 l1 v0 T1))
theorem G80_24 {z : Option mm_O} {T : fS} {r : fR}  (l0 : Nat) (l1 : Nat) (s0 : Nat) (h : F80_24  l0 l1 s0 T = some r) : mm_L 80 24 [.ref l0, .ref l1] [.ref s0] (toS z T) = some (tR z r) := by
  unfold F80_24 at h
  refine Eq.trans (e80_24 ..) ?_
  exact (fb_K0i (fun _ q => GM83 _ q) h (fun v0 T1 h2 => G80_27  _ _ _ _ rfl h2))
noncomputable def F80_20  (l0 : Nat) (l1 : Nat) (T : fS) : Option fR := (fbv (fgr T l1 2 4) (fun v0 => F80_24  l0 l1 v0 T) ((none : Option fR)))
theorem G80_20 {z : Option mm_O} {T : fS} {r : fR}  (l0 : Nat) (l1 : Nat) (h : F80_20  l0 l1 T = some r) : mm_L 80 20 [.ref l0, .ref l1] [] (toS z T) = some (tR z r) := by
  unfold F80_20 at h
  refine Eq.trans (e80_20 ..) ?_
  exact (fb_v (fun _ q => fgr_ok q) h (fun v0 h2 => G80_24  _ _ _ h2) (fun h2 => fr_n h2))
noncomputable def F80_14  (l0 : Nat) (l1 : Nat) (s0 : Nat) (T : fS) : Option fR := (fif (ieq s0 4294967295) (F80_20  l0 l1 T) (F80_18  l0 l1 T))
theorem G80_14 {z : Option mm_O} {T : fS} {r : fR}  (l0 : Nat) (l1 : Nat) (xs0 : Int32) (s0 : Nat) (hs0 : xs0 = nI s0) (h : F80_14  l0 l1 s0 T = some r) : mm_L 80 14 [.ref l0, .ref l1] [.int xs0] (toS z T) = some (tR z r) := by
  unfold F80_14 at h
  refine Eq.trans (e80_14 ..) ?_
  exact (fb_if (cj_eq hs0 (by decide : (-1 : Int32) = nI 4294967295)) h (fun h1 => (G80_20  _ _ h1)) (fun h1 => (G80_18  _ _ h1)))
noncomputable def F80_11  (l0 : Nat) (l1 : Nat) (s0 : Nat) (T : fS) : Option fR := (fKi true (F82_0 s0 T) (fun v0 T1 => F80_14  l0 l1 v0 T1))
theorem G80_11 {z : Option mm_O} {T : fS} {r : fR}  (l0 : Nat) (l1 : Nat) (s0 : Nat) (h : F80_11  l0 l1 s0 T = some r) : mm_L 80 11 [.ref l0, .ref l1] [.ref s0] (toS z T) = some (tR z r) := by
  unfold F80_11 at h
  refine Eq.trans (e80_11 ..) ?_
  exact (fb_K0i (fun _ q => GM82 _ q) h (fun v0 T1 h2 => G80_14  _ _ _ _ rfl h2))
noncomputable def F80_7  (l0 : Nat) (l1 : Nat) (T : fS) : Option fR := (fbv (fgr T l1 2 4) (fun v0 => F80_11  l0 l1 v0 T) ((none : Option fR)))
theorem G80_7 {z : Option mm_O} {T : fS} {r : fR}  (l0 : Nat) (l1 : Nat) (h : F80_7  l0 l1 T = some r) : mm_L 80 7 [.ref l0, .ref l1] [] (toS z T) = some (tR z r) := by
  unfold F80_7 at h
  refine Eq.trans (e80_7 ..) ?_
  exact (fb_v (fun _ q => fgr_ok q) h (fun v0 h2 => G80_11  _ _ _ h2) (fun h2 => fr_n h2))
noncomputable def F80_4  (l0 : Nat) (l1 : Nat) (s0 : Nat) (T : fS) : Option fR := (fif (ieq s0 0) (F80_7  l0 l1 T) (F80_33  l0 l1 T))
theorem G80_4 {z : Option mm_O} {T : fS} {r : fR}  (l0 : Nat) (l1 : Nat) (xs0 : Int32) (s0 : Nat) (hs0 : xs0 = nI s0) (h : F80_4  l0 l1 s0 T = some r) : mm_L 80 4 [.ref l0, .ref l1] [.int xs0] (toS z T) = some (tR z r) := by
  unfold F80_4 at h
  refine Eq.trans (e80_4 ..) ?_
  exact (fb_if (cj_eq hs0 (rfl : (0 : Int32) = nI 0)) h (fun h1 => (G80_7  _ _ h1)) (fun h1 => (G80_33  _ _ h1)))
noncomputable def F80_0  (l0 : Nat) (l1 : Nat) (T : fS) : Option fR := (fKi true (fif (fch T l1 2) (F14_0 l1  T) none) (fun v0 T1 => F80_4  l0 l1 v0 T1))
theorem G80_0 {z : Option mm_O} {T : fS} {r : fR}  (l0 : Nat) (l1 : Nat) (h : F80_0  l0 l1 T = some r) : mm_L 80 0 [.ref l0, .ref l1] [] (toS z T) = some (tR z r) := by
  unfold F80_0 at h
  refine Eq.trans (e80_0 ..) ?_
  exact (fb_K0i (fun _ q => fb_mo (y := 14) ow_14 q (fun q => GM14 _  q)) h (fun v0 T1 h2 => G80_4  _ _ _ _ rfl h2))
theorem GM80 {z : Option mm_O} {T : fS} {r : fR} (l0 : Nat) (l1 : Nat) (h : F80_0 l0 l1 T = some r) : mm_M 80 [.ref l0, .ref l1] (toS z T) = some (tR z r) := Eq.trans (M_80 ..) (G80_0 l0 l1 h)
-- 81: HandArchive.numberReadBack
noncomputable def F81_41  (l0 : Nat) (l1 : Nat) (l2 : Nat) (s0 : Nat) (T : fS) : Option fR := (some ((.inl (some (.inl s0)), T) : fR))
theorem G81_41 {z : Option mm_O} {T : fS} {r : fR}  (l0 : Nat) (xl1 : Int32) (l1 : Nat) (hl1 : xl1 = nI l1) (l2 : Nat) (xs0 : Int32) (s0 : Nat) (hs0 : xs0 = nI s0) (h : F81_41  l0 l1 l2 s0 T = some r) : mm_L 81 41 [.ref l0, .int xl1, .ref l2] [.int xs0] (toS z T) = some (tR z r) := by
  unfold F81_41 at h
  refine Eq.trans (e81_41 ..) ?_
  exact (fr_i hs0 h)
noncomputable def F81_36  (l0 : Nat) (l1 : Nat) (l2 : Nat) (T : fS) : Option fR := (fKi true (fif (fch T l0 6) (F31_0 l0 l2 T) none) (fun v0 T1 => F81_41  l0 l1 l2 v0 T1))
theorem G81_36 {z : Option mm_O} {T : fS} {r : fR}  (l0 : Nat) (xl1 : Int32) (l1 : Nat) (hl1 : xl1 = nI l1) (l2 : Nat) (h : F81_36  l0 l1 l2 T = some r) : mm_L 81 36 [.ref l0, .int xl1, .ref l2] [] (toS z T) = some (tR z r) := by
  unfold F81_36 at h
  refine Eq.trans (e81_36 ..) ?_
  exact (fb_K0i (fun _ q => fb_mo (y := 31) ow_31 q (fun q => GM31 _ _ q)) h (fun v0 T1 h2 => G81_41  _ _ _ hl1 _ _ _ rfl h2))
noncomputable def F81_46  (l0 : Nat) (l1 : Nat) (l2 : Nat) (s0 : Nat) (T : fS) : Option fR := (some ((.inl (some (.inl s0)), T) : fR))
theorem G81_46 {z : Option mm_O} {T : fS} {r : fR}  (l0 : Nat) (xl1 : Int32) (l1 : Nat) (hl1 : xl1 = nI l1) (l2 : Nat) (xs0 : Int32) (s0 : Nat) (hs0 : xs0 = nI s0) (h : F81_46  l0 l1 l2 s0 T = some r) : mm_L 81 46 [.ref l0, .int xl1, .ref l2] [.int xs0] (toS z T) = some (tR z r) := by
  unfold F81_46 at h
  refine Eq.trans (e81_46 ..) ?_
  exact (fr_i hs0 h)
noncomputable def F81_42  (l0 : Nat) (l1 : Nat) (l2 : Nat) (T : fS) : Option fR := (fKi true (F82_0 l2 T) (fun v0 T1 => F81_46  l0 l1 l2 v0 T1))
theorem G81_42 {z : Option mm_O} {T : fS} {r : fR}  (l0 : Nat) (xl1 : Int32) (l1 : Nat) (hl1 : xl1 = nI l1) (l2 : Nat) (h : F81_42  l0 l1 l2 T = some r) : mm_L 81 42 [.ref l0, .int xl1, .ref l2] [] (toS z T) = some (tR z r) := by
  unfold F81_42 at h
  refine Eq.trans (e81_42 ..) ?_
  exact (fb_K0i (fun _ q => GM82 _ q) h (fun v0 T1 h2 => G81_46  _ _ _ hl1 _ _ _ rfl h2))
noncomputable def F81_51  (l0 : Nat) (l1 : Nat) (l2 : Nat) (s0 : Nat) (T : fS) : Option fR := (some ((.inl (some (.inl s0)), T) : fR))
theorem G81_51 {z : Option mm_O} {T : fS} {r : fR}  (l0 : Nat) (xl1 : Int32) (l1 : Nat) (hl1 : xl1 = nI l1) (l2 : Nat) (xs0 : Int32) (s0 : Nat) (hs0 : xs0 = nI s0) (h : F81_51  l0 l1 l2 s0 T = some r) : mm_L 81 51 [.ref l0, .int xl1, .ref l2] [.int xs0] (toS z T) = some (tR z r) := by
  unfold F81_51 at h
  refine Eq.trans (e81_51 ..) ?_
  exact (fr_i hs0 h)
noncomputable def F81_47  (l0 : Nat) (l1 : Nat) (l2 : Nat) (T : fS) : Option fR := (fKi true (F83_0 l2 T) (fun v0 T1 => F81_51  l0 l1 l2 v0 T1))
theorem G81_47 {z : Option mm_O} {T : fS} {r : fR}  (l0 : Nat) (xl1 : Int32) (l1 : Nat) (hl1 : xl1 = nI l1) (l2 : Nat) (h : F81_47  l0 l1 l2 T = some r) : mm_L 81 47 [.ref l0, .int xl1, .ref l2] [] (toS z T) = some (tR z r) := by
  unfold F81_47 at h
  refine Eq.trans (e81_47 ..) ?_
  exact (fb_K0i (fun _ q => GM83 _ q) h (fun v0 T1 h2 => G81_51  _ _ _ hl1 _ _ _ rfl h2))
noncomputable def F81_52  (l0 : Nat) (l1 : Nat) (l2 : Nat) (T : fS) : Option fR := (some ((.inl (some (.inl 4294967295)), T) : fR))
theorem G81_52 {z : Option mm_O} {T : fS} {r : fR}  (l0 : Nat) (xl1 : Int32) (l1 : Nat) (hl1 : xl1 = nI l1) (l2 : Nat) (h : F81_52  l0 l1 l2 T = some r) : mm_L 81 52 [.ref l0, .int xl1, .ref l2] [] (toS z T) = some (tR z r) := by
  unfold F81_52 at h
  refine Eq.trans (e81_52 ..) ?_
  exact (fr_i (by decide : (-1 : Int32) = nI 4294967295) h)
noncomputable def F81_0  (l0 : Nat) (l1 : Nat) (l2 : Nat) (T : fS) : Option fR := (fif (ieq l1 0) (F81_36  l0 l1 l2 T) (fif (ieq l1 2) (F81_42  l0 l1 l2 T) (fif (ieq l1 5) (F81_47  l0 l1 l2 T) (F81_52  l0 l1 l2 T))))
theorem G81_0 {z : Option mm_O} {T : fS} {r : fR}  (l0 : Nat) (xl1 : Int32) (l1 : Nat) (hl1 : xl1 = nI l1) (l2 : Nat) (h : F81_0  l0 l1 l2 T = some r) : mm_L 81 0 [.ref l0, .int xl1, .ref l2] [] (toS z T) = some (tR z r) := by
  unfold F81_0 at h
  refine Eq.trans (e81_0 ..) ?_
  exact (fb_if (cj_eq hl1 (rfl : (0 : Int32) = nI 0)) h (fun h1 => (G81_36  _ _ _ hl1 _ h1)) (fun h1 => (fb_if (cj_eq hl1 (rfl : (2 : Int32) = nI 2)) h1 (fun h1 => (G81_42  _ _ _ hl1 _ h1)) (fun h1 => (fb_if (cj_eq hl1 (rfl : (5 : Int32) = nI 5)) h1 (fun h1 => (G81_47  _ _ _ hl1 _ h1)) (fun h1 => (G81_52  _ _ _ hl1 _ h1)))))))
theorem GM81 {z : Option mm_O} {T : fS} {r : fR} (l0 : Nat) (xl1 : Int32) (l1 : Nat) (hl1 : xl1 = nI l1) (l2 : Nat) (h : F81_0 l0 l1 l2 T = some r) : mm_M 81 [.ref l0, .int xl1, .ref l2] (toS z T) = some (tR z r) := Eq.trans (M_81 ..) (G81_0 l0 xl1 l1 hl1 l2 h)
-- 44: HandArchive.isReferentPlaced
noncomputable def F44_19  (l0 : Nat) (l1 : Nat) (l2 : Nat) (T : fS) : Option fR := (some ((.inl (some (.inl 1)), T) : fR))
theorem G44_19 {z : Option mm_O} {T : fS} {r : fR}  (l0 : Nat) (xl1 : Int32) (l1 : Nat) (hl1 : xl1 = nI l1) (xl2 : Int32) (l2 : Nat) (hl2 : xl2 = nI l2) (h : F44_19  l0 l1 l2 T = some r) : mm_L 44 19 [.ref l0, .int xl1, .int xl2] [] (toS z T) = some (tR z r) := by
  unfold F44_19 at h
  refine Eq.trans (e44_19 ..) ?_
  exact (fb_pos (by decide) (fr_i (rfl : (1 : Int32) = nI 1) h))
noncomputable def F44_21 (k2 : Nat → Nat → Nat → fS → Option fR) (l0 : Nat) (l1 : Nat) (l2 : Nat) (T : fS) : Option fR := (k2 l0 l1 (iA l2 1) T)
theorem G44_21 {z : Option mm_O} {T : fS} {r : fR} (k2 : Nat → Nat → Nat → fS → Option fR) (hk2 : ∀ (l0 : Nat) (xl1 : Int32) (l1 : Nat) (hl1 : xl1 = nI l1) (xl2 : Int32) (l2 : Nat) (hl2 : xl2 = nI l2) (T : fS) (r : fR), k2 l0 l1 l2 T = some r → mm_L 44 2 [.ref l0, .int xl1, .int xl2] [] (toS z T) = some (tR z r)) (l0 : Nat) (xl1 : Int32) (l1 : Nat) (hl1 : xl1 = nI l1) (xl2 : Int32) (l2 : Nat) (hl2 : xl2 = nI l2) (h : F44_21 k2 l0 l1 l2 T = some r) : mm_L 44 21 [.ref l0, .int xl1, .int xl2] [] (toS z T) = some (tR z r) := by
  unfold F44_21 at h
  refine Eq.trans (e44_21 ..) ?_
  exact (hk2 _ _ _ hl1 _ _ (iA_ok hl2 (rfl : (1 : Int32) = nI 1)) _ _ h)
noncomputable def F44_15 (k2 : Nat → Nat → Nat → fS → Option fR) (l0 : Nat) (l1 : Nat) (l2 : Nat) (s0 : Nat) (T : fS) : Option fR := (fif (ieq s0 l1) (F44_19  l0 l1 l2 T) (F44_21 k2 l0 l1 l2 T))
theorem G44_15 {z : Option mm_O} {T : fS} {r : fR} (k2 : Nat → Nat → Nat → fS → Option fR) (hk2 : ∀ (l0 : Nat) (xl1 : Int32) (l1 : Nat) (hl1 : xl1 = nI l1) (xl2 : Int32) (l2 : Nat) (hl2 : xl2 = nI l2) (T : fS) (r : fR), k2 l0 l1 l2 T = some r → mm_L 44 2 [.ref l0, .int xl1, .int xl2] [] (toS z T) = some (tR z r)) (l0 : Nat) (xl1 : Int32) (l1 : Nat) (hl1 : xl1 = nI l1) (xl2 : Int32) (l2 : Nat) (hl2 : xl2 = nI l2) (xs0 : Int32) (s0 : Nat) (hs0 : xs0 = nI s0) (h : F44_15 k2 l0 l1 l2 s0 T = some r) : mm_L 44 15 [.ref l0, .int xl1, .int xl2] [.int xs0] (toS z T) = some (tR z r) := by
  unfold F44_15 at h
  refine Eq.trans (e44_15 ..) ?_
  exact (fb_if (cj_eq hs0 hl1) h (fun h1 => (G44_19  _ _ _ hl1 _ _ hl2 h1)) (fun h1 => (G44_21 k2 hk2 _ _ _ hl1 _ _ hl2 h1)))
noncomputable def F44_10 (k2 : Nat → Nat → Nat → fS → Option fR) (l0 : Nat) (l1 : Nat) (l2 : Nat) (T : fS) : Option fR := (fKi true (fif (fch T l0 6) (F45_0 l0 l2 T) none) (fun v0 T1 => F44_15 k2 l0 l1 l2 v0 T1))
theorem G44_10 {z : Option mm_O} {T : fS} {r : fR} (k2 : Nat → Nat → Nat → fS → Option fR) (hk2 : ∀ (l0 : Nat) (xl1 : Int32) (l1 : Nat) (hl1 : xl1 = nI l1) (xl2 : Int32) (l2 : Nat) (hl2 : xl2 = nI l2) (T : fS) (r : fR), k2 l0 l1 l2 T = some r → mm_L 44 2 [.ref l0, .int xl1, .int xl2] [] (toS z T) = some (tR z r)) (l0 : Nat) (xl1 : Int32) (l1 : Nat) (hl1 : xl1 = nI l1) (xl2 : Int32) (l2 : Nat) (hl2 : xl2 = nI l2) (h : F44_10 k2 l0 l1 l2 T = some r) : mm_L 44 10 [.ref l0, .int xl1, .int xl2] [] (toS z T) = some (tR z r) := by
  unfold F44_10 at h
  refine Eq.trans (e44_10 ..) ?_
  exact (fb_K0i (fun _ q => fb_mo (y := 45) ow_45 q (fun q => GM45 _ _ _ hl2 q)) h (fun v0 T1 h2 => G44_15 k2 hk2 _ _ _ hl1 _ _ hl2 _ _ rfl h2))
noncomputable def F44_27  (l0 : Nat) (l1 : Nat) (l2 : Nat) (T : fS) : Option fR := (some ((.inl (some (.inl 0)), T) : fR))
theorem G44_27 {z : Option mm_O} {T : fS} {r : fR}  (l0 : Nat) (xl1 : Int32) (l1 : Nat) (hl1 : xl1 = nI l1) (xl2 : Int32) (l2 : Nat) (hl2 : xl2 = nI l2) (h : F44_27  l0 l1 l2 T = some r) : mm_L 44 27 [.ref l0, .int xl1, .int xl2] [] (toS z T) = some (tR z r) := by
  unfold F44_27 at h
  refine Eq.trans (e44_27 ..) ?_
  exact (fb_pos (by decide) (fr_i (rfl : (0 : Int32) = nI 0) h))
noncomputable def F44_7 (k2 : Nat → Nat → Nat → fS → Option fR) (l0 : Nat) (l1 : Nat) (l2 : Nat) (s0 : Nat) (s1 : Nat) (T : fS) : Option fR := (fif (ile s0 s1) (F44_27  l0 l1 l2 T) (F44_10 k2 l0 l1 l2 T))
theorem G44_7 {z : Option mm_O} {T : fS} {r : fR} (k2 : Nat → Nat → Nat → fS → Option fR) (hk2 : ∀ (l0 : Nat) (xl1 : Int32) (l1 : Nat) (hl1 : xl1 = nI l1) (xl2 : Int32) (l2 : Nat) (hl2 : xl2 = nI l2) (T : fS) (r : fR), k2 l0 l1 l2 T = some r → mm_L 44 2 [.ref l0, .int xl1, .int xl2] [] (toS z T) = some (tR z r)) (l0 : Nat) (xl1 : Int32) (l1 : Nat) (hl1 : xl1 = nI l1) (xl2 : Int32) (l2 : Nat) (hl2 : xl2 = nI l2) (xs0 : Int32) (s0 : Nat) (hs0 : xs0 = nI s0) (xs1 : Int32) (s1 : Nat) (hs1 : xs1 = nI s1) (h : F44_7 k2 l0 l1 l2 s0 s1 T = some r) : mm_L 44 7 [.ref l0, .int xl1, .int xl2] [.int xs0, .int xs1] (toS z T) = some (tR z r) := by
  unfold F44_7 at h
  refine Eq.trans (e44_7 ..) ?_
  exact (fb_if (cj_le hs0 hs1) h (fun h1 => (G44_27  _ _ _ hl1 _ _ hl2 h1)) (fun h1 => (G44_10 k2 hk2 _ _ _ hl1 _ _ hl2 h1)))
noncomputable def F44_2 (k2 : Nat → Nat → Nat → fS → Option fR) (l0 : Nat) (l1 : Nat) (l2 : Nat) (T : fS) : Option fR := (fbn (fln T 1) (fun v0 => F44_7 k2 l0 l1 l2 v0 l2 T))
theorem G44_2 {z : Option mm_O} {T : fS} {r : fR} (k2 : Nat → Nat → Nat → fS → Option fR) (hk2 : ∀ (l0 : Nat) (xl1 : Int32) (l1 : Nat) (hl1 : xl1 = nI l1) (xl2 : Int32) (l2 : Nat) (hl2 : xl2 = nI l2) (T : fS) (r : fR), k2 l0 l1 l2 T = some r → mm_L 44 2 [.ref l0, .int xl1, .int xl2] [] (toS z T) = some (tR z r)) (l0 : Nat) (xl1 : Int32) (l1 : Nat) (hl1 : xl1 = nI l1) (xl2 : Int32) (l2 : Nat) (hl2 : xl2 = nI l2) (h : F44_2 k2 l0 l1 l2 T = some r) : mm_L 44 2 [.ref l0, .int xl1, .int xl2] [] (toS z T) = some (tR z r) := by
  unfold F44_2 at h
  refine Eq.trans (e44_2 ..) ?_
  exact (fb_n (fun _ q => fln_ok q) h (fun v0 h2 => G44_7 k2 hk2 _ _ _ hl1 _ _ hl2 _ _ rfl _ _ hl2 h2))
noncomputable def H44_2  (n : Nat) : Nat → Nat → Nat → fS → Option fR := Nat.rec (motive := fun _ => Nat → Nat → Nat → fS → Option fR) (fun _ _ _ _ => none) (fun _ ih => F44_2 ih) n
theorem HG44_2 {z : Option mm_O}  : ∀ (n : Nat) (l0 : Nat) (xl1 : Int32) (l1 : Nat) (hl1 : xl1 = nI l1) (xl2 : Int32) (l2 : Nat) (hl2 : xl2 = nI l2) {T : fS} {r : fR}, H44_2  n l0 l1 l2 T = some r → mm_L 44 2 [.ref l0, .int xl1, .int xl2] [] (toS z T) = some (tR z r) := by
  intro n
  induction n with
  | zero =>
    intro l0 xl1 l1 hl1 xl2 l2 hl2 T r h
    exact fr_n h
  | succ n ih =>
    intro l0 xl1 l1 hl1 xl2 l2 hl2 T r h
    exact G44_2 (H44_2  n) (fun l0 xl1 l1 hl1 xl2 l2 hl2 T r h => ih l0 xl1 l1 hl1 xl2 l2 hl2 h) l0 xl1 l1 hl1 xl2 l2 hl2 h
noncomputable def F44_0  (l0 : Nat) (l1 : Nat) (T : fS) : Option fR := (H44_2  300 l0 l1 0 T)
theorem G44_0 {z : Option mm_O} {T : fS} {r : fR}  (l0 : Nat) (xl1 : Int32) (l1 : Nat) (hl1 : xl1 = nI l1) (ul2 : Value) (h : F44_0  l0 l1 T = some r) : mm_L 44 0 [.ref l0, .int xl1, ul2] [] (toS z T) = some (tR z r) := by
  unfold F44_0 at h
  refine Eq.trans (e44_0 ..) ?_
  exact (HG44_2  300 _ _ _ hl1 _ _ (rfl : (0 : Int32) = nI 0) h)
theorem GM44 {z : Option mm_O} {T : fS} {r : fR} (l0 : Nat) (xl1 : Int32) (l1 : Nat) (hl1 : xl1 = nI l1) (h : F44_0 l0 l1 T = some r) : mm_M 44 [.ref l0, .int xl1] (toS z T) = some (tR z r) := Eq.trans (M_44 ..) (G44_0 l0 xl1 l1 hl1 _ h)
-- 60: HandArchive.applyRule
noncomputable def F60_129 (k2 : Nat → Nat → Nat → fS → Option fR) (l0 : Nat) (l1 : Nat) (l2 : Nat) (l3 : Nat) (T : fS) : Option fR := (k2 l0 l1 (iA l2 1) T)
theorem G60_129 {z : Option mm_O} {T : fS} {r : fR} (k2 : Nat → Nat → Nat → fS → Option fR) (hk2 : ∀ (l0 : Nat) (l1 : Nat) (xl2 : Int32) (l2 : Nat) (hl2 : xl2 = nI l2) (ul3 : Value) (T : fS) (r : fR), k2 l0 l1 l2 T = some r → mm_L 60 2 [.ref l0, .ref l1, .int xl2, ul3] [] (toS z T) = some (tR z r)) (l0 : Nat) (l1 : Nat) (xl2 : Int32) (l2 : Nat) (hl2 : xl2 = nI l2) (l3 : Nat) (h : F60_129 k2 l0 l1 l2 l3 T = some r) : mm_L 60 129 [.ref l0, .ref l1, .int xl2, .ref l3] [] (toS z T) = some (tR z r) := by
  unfold F60_129 at h
  refine Eq.trans (e60_129 ..) ?_
  exact (hk2 _ _ _ _ (iA_ok hl2 (rfl : (1 : Int32) = nI 1)) _ _ _ h)
noncomputable def F60_43 (k2 : Nat → Nat → Nat → fS → Option fR) (l0 : Nat) (l1 : Nat) (l2 : Nat) (l3 : Nat) (T : fS) : Option fR := (F60_129 k2 l0 l1 l2 l3 T)
theorem G60_43 {z : Option mm_O} {T : fS} {r : fR} (k2 : Nat → Nat → Nat → fS → Option fR) (hk2 : ∀ (l0 : Nat) (l1 : Nat) (xl2 : Int32) (l2 : Nat) (hl2 : xl2 = nI l2) (ul3 : Value) (T : fS) (r : fR), k2 l0 l1 l2 T = some r → mm_L 60 2 [.ref l0, .ref l1, .int xl2, ul3] [] (toS z T) = some (tR z r)) (l0 : Nat) (l1 : Nat) (xl2 : Int32) (l2 : Nat) (hl2 : xl2 = nI l2) (l3 : Nat) (h : F60_43 k2 l0 l1 l2 l3 T = some r) : mm_L 60 43 [.ref l0, .ref l1, .int xl2, .ref l3] [] (toS z T) = some (tR z r) := by
  unfold F60_43 at h
  refine Eq.trans (e60_43 ..) ?_
  exact (G60_129 k2 hk2 _ _ _ _ hl2 _ h)
noncomputable def F60_90 (k2 : Nat → Nat → Nat → fS → Option fR) (l0 : Nat) (l1 : Nat) (l2 : Nat) (l3 : Nat) (T : fS) : Option fR := (F60_129 k2 l0 l1 l2 l3 T)
theorem G60_90 {z : Option mm_O} {T : fS} {r : fR} (k2 : Nat → Nat → Nat → fS → Option fR) (hk2 : ∀ (l0 : Nat) (l1 : Nat) (xl2 : Int32) (l2 : Nat) (hl2 : xl2 = nI l2) (ul3 : Value) (T : fS) (r : fR), k2 l0 l1 l2 T = some r → mm_L 60 2 [.ref l0, .ref l1, .int xl2, ul3] [] (toS z T) = some (tR z r)) (l0 : Nat) (l1 : Nat) (xl2 : Int32) (l2 : Nat) (hl2 : xl2 = nI l2) (l3 : Nat) (h : F60_90 k2 l0 l1 l2 l3 T = some r) : mm_L 60 90 [.ref l0, .ref l1, .int xl2, .ref l3] [] (toS z T) = some (tR z r) := by
  unfold F60_90 at h
  refine Eq.trans (e60_90 ..) ?_
  exact (G60_129 k2 hk2 _ _ _ _ hl2 _ h)
noncomputable def F60_84 (k2 : Nat → Nat → Nat → fS → Option fR) (l0 : Nat) (l1 : Nat) (l2 : Nat) (l3 : Nat) (T : fS) : Option fR := (fKv true (fif (fch T l0 6) (F61_0 l0 l2 l3 T) none) (fun T1 => F60_90 k2 l0 l1 l2 l3 T1))
theorem G60_84 {z : Option mm_O} {T : fS} {r : fR} (k2 : Nat → Nat → Nat → fS → Option fR) (hk2 : ∀ (l0 : Nat) (l1 : Nat) (xl2 : Int32) (l2 : Nat) (hl2 : xl2 = nI l2) (ul3 : Value) (T : fS) (r : fR), k2 l0 l1 l2 T = some r → mm_L 60 2 [.ref l0, .ref l1, .int xl2, ul3] [] (toS z T) = some (tR z r)) (l0 : Nat) (l1 : Nat) (xl2 : Int32) (l2 : Nat) (hl2 : xl2 = nI l2) (l3 : Nat) (h : F60_84 k2 l0 l1 l2 l3 T = some r) : mm_L 60 84 [.ref l0, .ref l1, .int xl2, .ref l3] [] (toS z T) = some (tR z r) := by
  unfold F60_84 at h
  refine Eq.trans (e60_84 ..) ?_
  exact (fb_K0v (fun _ q => fb_mo (y := 61) ow_61 q (fun q => GM61 _ _ _ hl2 _ q)) h (fun T1 h2 => G60_90 k2 hk2 _ _ _ _ hl2 _ h2))
noncomputable def F60_99 (k2 : Nat → Nat → Nat → fS → Option fR) (l0 : Nat) (l1 : Nat) (l2 : Nat) (l3 : Nat) (T : fS) : Option fR := (F60_129 k2 l0 l1 l2 l3 T)
theorem G60_99 {z : Option mm_O} {T : fS} {r : fR} (k2 : Nat → Nat → Nat → fS → Option fR) (hk2 : ∀ (l0 : Nat) (l1 : Nat) (xl2 : Int32) (l2 : Nat) (hl2 : xl2 = nI l2) (ul3 : Value) (T : fS) (r : fR), k2 l0 l1 l2 T = some r → mm_L 60 2 [.ref l0, .ref l1, .int xl2, ul3] [] (toS z T) = some (tR z r)) (l0 : Nat) (l1 : Nat) (xl2 : Int32) (l2 : Nat) (hl2 : xl2 = nI l2) (l3 : Nat) (h : F60_99 k2 l0 l1 l2 l3 T = some r) : mm_L 60 99 [.ref l0, .ref l1, .int xl2, .ref l3] [] (toS z T) = some (tR z r) := by
  unfold F60_99 at h
  refine Eq.trans (e60_99 ..) ?_
  exact (G60_129 k2 hk2 _ _ _ _ hl2 _ h)
noncomputable def F60_93 (k2 : Nat → Nat → Nat → fS → Option fR) (l0 : Nat) (l1 : Nat) (l2 : Nat) (l3 : Nat) (T : fS) : Option fR := (fKv true (fif (fch T l0 6) (F63_0 l0 l2 l3 T) none) (fun T1 => F60_99 k2 l0 l1 l2 l3 T1))
theorem G60_93 {z : Option mm_O} {T : fS} {r : fR} (k2 : Nat → Nat → Nat → fS → Option fR) (hk2 : ∀ (l0 : Nat) (l1 : Nat) (xl2 : Int32) (l2 : Nat) (hl2 : xl2 = nI l2) (ul3 : Value) (T : fS) (r : fR), k2 l0 l1 l2 T = some r → mm_L 60 2 [.ref l0, .ref l1, .int xl2, ul3] [] (toS z T) = some (tR z r)) (l0 : Nat) (l1 : Nat) (xl2 : Int32) (l2 : Nat) (hl2 : xl2 = nI l2) (l3 : Nat) (h : F60_93 k2 l0 l1 l2 l3 T = some r) : mm_L 60 93 [.ref l0, .ref l1, .int xl2, .ref l3] [] (toS z T) = some (tR z r) := by
  unfold F60_93 at h
  refine Eq.trans (e60_93 ..) ?_
  exact (fb_K0v (fun _ q => fb_mo (y := 63) ow_63 q (fun q => GM63 _ _ _ hl2 _ q)) h (fun T1 h2 => G60_99 k2 hk2 _ _ _ _ hl2 _ h2))
noncomputable def F60_108 (k2 : Nat → Nat → Nat → fS → Option fR) (l0 : Nat) (l1 : Nat) (l2 : Nat) (l3 : Nat) (T : fS) : Option fR := (F60_129 k2 l0 l1 l2 l3 T)
theorem G60_108 {z : Option mm_O} {T : fS} {r : fR} (k2 : Nat → Nat → Nat → fS → Option fR) (hk2 : ∀ (l0 : Nat) (l1 : Nat) (xl2 : Int32) (l2 : Nat) (hl2 : xl2 = nI l2) (ul3 : Value) (T : fS) (r : fR), k2 l0 l1 l2 T = some r → mm_L 60 2 [.ref l0, .ref l1, .int xl2, ul3] [] (toS z T) = some (tR z r)) (l0 : Nat) (l1 : Nat) (xl2 : Int32) (l2 : Nat) (hl2 : xl2 = nI l2) (l3 : Nat) (h : F60_108 k2 l0 l1 l2 l3 T = some r) : mm_L 60 108 [.ref l0, .ref l1, .int xl2, .ref l3] [] (toS z T) = some (tR z r) := by
  unfold F60_108 at h
  refine Eq.trans (e60_108 ..) ?_
  exact (G60_129 k2 hk2 _ _ _ _ hl2 _ h)
noncomputable def F60_102 (k2 : Nat → Nat → Nat → fS → Option fR) (l0 : Nat) (l1 : Nat) (l2 : Nat) (l3 : Nat) (T : fS) : Option fR := (fKv true (fif (fch T l0 6) (F64_0 l0 l2 l3 T) none) (fun T1 => F60_108 k2 l0 l1 l2 l3 T1))
theorem G60_102 {z : Option mm_O} {T : fS} {r : fR} (k2 : Nat → Nat → Nat → fS → Option fR) (hk2 : ∀ (l0 : Nat) (l1 : Nat) (xl2 : Int32) (l2 : Nat) (hl2 : xl2 = nI l2) (ul3 : Value) (T : fS) (r : fR), k2 l0 l1 l2 T = some r → mm_L 60 2 [.ref l0, .ref l1, .int xl2, ul3] [] (toS z T) = some (tR z r)) (l0 : Nat) (l1 : Nat) (xl2 : Int32) (l2 : Nat) (hl2 : xl2 = nI l2) (l3 : Nat) (h : F60_102 k2 l0 l1 l2 l3 T = some r) : mm_L 60 102 [.ref l0, .ref l1, .int xl2, .ref l3] [] (toS z T) = some (tR z r) := by
  unfold F60_102 at h
  refine Eq.trans (e60_102 ..) ?_
  exact (fb_K0v (fun _ q => fb_mo (y := 64) ow_64 q (fun q => GM64 _ _ _ hl2 _ q)) h (fun T1 h2 => G60_108 k2 hk2 _ _ _ _ hl2 _ h2))
noncomputable def F60_117 (k2 : Nat → Nat → Nat → fS → Option fR) (l0 : Nat) (l1 : Nat) (l2 : Nat) (l3 : Nat) (T : fS) : Option fR := (F60_129 k2 l0 l1 l2 l3 T)
theorem G60_117 {z : Option mm_O} {T : fS} {r : fR} (k2 : Nat → Nat → Nat → fS → Option fR) (hk2 : ∀ (l0 : Nat) (l1 : Nat) (xl2 : Int32) (l2 : Nat) (hl2 : xl2 = nI l2) (ul3 : Value) (T : fS) (r : fR), k2 l0 l1 l2 T = some r → mm_L 60 2 [.ref l0, .ref l1, .int xl2, ul3] [] (toS z T) = some (tR z r)) (l0 : Nat) (l1 : Nat) (xl2 : Int32) (l2 : Nat) (hl2 : xl2 = nI l2) (l3 : Nat) (h : F60_117 k2 l0 l1 l2 l3 T = some r) : mm_L 60 117 [.ref l0, .ref l1, .int xl2, .ref l3] [] (toS z T) = some (tR z r) := by
  unfold F60_117 at h
  refine Eq.trans (e60_117 ..) ?_
  exact (G60_129 k2 hk2 _ _ _ _ hl2 _ h)
noncomputable def F60_111 (k2 : Nat → Nat → Nat → fS → Option fR) (l0 : Nat) (l1 : Nat) (l2 : Nat) (l3 : Nat) (T : fS) : Option fR := (fKv true (fif (fch T l0 6) (F65_0 l0 l2 l3 T) none) (fun T1 => F60_117 k2 l0 l1 l2 l3 T1))
theorem G60_111 {z : Option mm_O} {T : fS} {r : fR} (k2 : Nat → Nat → Nat → fS → Option fR) (hk2 : ∀ (l0 : Nat) (l1 : Nat) (xl2 : Int32) (l2 : Nat) (hl2 : xl2 = nI l2) (ul3 : Value) (T : fS) (r : fR), k2 l0 l1 l2 T = some r → mm_L 60 2 [.ref l0, .ref l1, .int xl2, ul3] [] (toS z T) = some (tR z r)) (l0 : Nat) (l1 : Nat) (xl2 : Int32) (l2 : Nat) (hl2 : xl2 = nI l2) (l3 : Nat) (h : F60_111 k2 l0 l1 l2 l3 T = some r) : mm_L 60 111 [.ref l0, .ref l1, .int xl2, .ref l3] [] (toS z T) = some (tR z r) := by
  unfold F60_111 at h
  refine Eq.trans (e60_111 ..) ?_
  exact (fb_K0v (fun _ q => fb_mo (y := 65) ow_65 q (fun q => GM65 _ _ _ hl2 _ q)) h (fun T1 h2 => G60_117 k2 hk2 _ _ _ _ hl2 _ h2))
noncomputable def F60_126 (k2 : Nat → Nat → Nat → fS → Option fR) (l0 : Nat) (l1 : Nat) (l2 : Nat) (l3 : Nat) (T : fS) : Option fR := (F60_129 k2 l0 l1 l2 l3 T)
theorem G60_126 {z : Option mm_O} {T : fS} {r : fR} (k2 : Nat → Nat → Nat → fS → Option fR) (hk2 : ∀ (l0 : Nat) (l1 : Nat) (xl2 : Int32) (l2 : Nat) (hl2 : xl2 = nI l2) (ul3 : Value) (T : fS) (r : fR), k2 l0 l1 l2 T = some r → mm_L 60 2 [.ref l0, .ref l1, .int xl2, ul3] [] (toS z T) = some (tR z r)) (l0 : Nat) (l1 : Nat) (xl2 : Int32) (l2 : Nat) (hl2 : xl2 = nI l2) (l3 : Nat) (h : F60_126 k2 l0 l1 l2 l3 T = some r) : mm_L 60 126 [.ref l0, .ref l1, .int xl2, .ref l3] [] (toS z T) = some (tR z r) := by
  unfold F60_126 at h
  refine Eq.trans (e60_126 ..) ?_
  exact (G60_129 k2 hk2 _ _ _ _ hl2 _ h)
noncomputable def F60_120 (k2 : Nat → Nat → Nat → fS → Option fR) (l0 : Nat) (l1 : Nat) (l2 : Nat) (l3 : Nat) (T : fS) : Option fR := (fKv true (fif (fch T l0 6) (F66_0 l0 l2 l3 T) none) (fun T1 => F60_126 k2 l0 l1 l2 l3 T1))
theorem G60_120 {z : Option mm_O} {T : fS} {r : fR} (k2 : Nat → Nat → Nat → fS → Option fR) (hk2 : ∀ (l0 : Nat) (l1 : Nat) (xl2 : Int32) (l2 : Nat) (hl2 : xl2 = nI l2) (ul3 : Value) (T : fS) (r : fR), k2 l0 l1 l2 T = some r → mm_L 60 2 [.ref l0, .ref l1, .int xl2, ul3] [] (toS z T) = some (tR z r)) (l0 : Nat) (l1 : Nat) (xl2 : Int32) (l2 : Nat) (hl2 : xl2 = nI l2) (l3 : Nat) (h : F60_120 k2 l0 l1 l2 l3 T = some r) : mm_L 60 120 [.ref l0, .ref l1, .int xl2, .ref l3] [] (toS z T) = some (tR z r) := by
  unfold F60_120 at h
  refine Eq.trans (e60_120 ..) ?_
  exact (fb_K0v (fun _ q => fb_mo (y := 66) ow_66 q (fun q => GM66 _ _ _ hl2 _ q)) h (fun T1 h2 => G60_126 k2 hk2 _ _ _ _ hl2 _ h2))
noncomputable def F60_50 (k2 : Nat → Nat → Nat → fS → Option fR) (l0 : Nat) (l1 : Nat) (l2 : Nat) (l3 : Nat) (s0 : Nat) (T : fS) : Option fR := (fif (ieq s0 0) (F60_84 k2 l0 l1 l2 l3 T) (fif (ieq s0 1) (F60_93 k2 l0 l1 l2 l3 T) (fif (ieq s0 2) (F60_102 k2 l0 l1 l2 l3 T) (fif (ieq s0 3) (F60_111 k2 l0 l1 l2 l3 T) (fif (ieq s0 4) (F60_120 k2 l0 l1 l2 l3 T) (F60_129 k2 l0 l1 l2 l3 T))))))
theorem G60_50 {z : Option mm_O} {T : fS} {r : fR} (k2 : Nat → Nat → Nat → fS → Option fR) (hk2 : ∀ (l0 : Nat) (l1 : Nat) (xl2 : Int32) (l2 : Nat) (hl2 : xl2 = nI l2) (ul3 : Value) (T : fS) (r : fR), k2 l0 l1 l2 T = some r → mm_L 60 2 [.ref l0, .ref l1, .int xl2, ul3] [] (toS z T) = some (tR z r)) (l0 : Nat) (l1 : Nat) (xl2 : Int32) (l2 : Nat) (hl2 : xl2 = nI l2) (l3 : Nat) (xs0 : Int32) (s0 : Nat) (hs0 : xs0 = nI s0) (h : F60_50 k2 l0 l1 l2 l3 s0 T = some r) : mm_L 60 50 [.ref l0, .ref l1, .int xl2, .ref l3] [.int xs0] (toS z T) = some (tR z r) := by
  unfold F60_50 at h
  refine Eq.trans (e60_50 ..) ?_
  exact (fb_if (cj_eq hs0 (rfl : (0 : Int32) = nI 0)) h (fun h1 => (G60_84 k2 hk2 _ _ _ _ hl2 _ h1)) (fun h1 => (fb_if (cj_eq hs0 (rfl : (1 : Int32) = nI 1)) h1 (fun h1 => (G60_93 k2 hk2 _ _ _ _ hl2 _ h1)) (fun h1 => (fb_if (cj_eq hs0 (rfl : (2 : Int32) = nI 2)) h1 (fun h1 => (G60_102 k2 hk2 _ _ _ _ hl2 _ h1)) (fun h1 => (fb_if (cj_eq hs0 (rfl : (3 : Int32) = nI 3)) h1 (fun h1 => (G60_111 k2 hk2 _ _ _ _ hl2 _ h1)) (fun h1 => (fb_if (cj_eq hs0 (rfl : (4 : Int32) = nI 4)) h1 (fun h1 => (G60_120 k2 hk2 _ _ _ _ hl2 _ h1)) (fun h1 => (G60_129 k2 hk2 _ _ _ _ hl2 _ h1)))))))))))
noncomputable def F60_46 (k2 : Nat → Nat → Nat → fS → Option fR) (l0 : Nat) (l1 : Nat) (l2 : Nat) (l3 : Nat) (T : fS) : Option fR := (fbn (fgi T l1 4 0) (fun v0 => F60_50 k2 l0 l1 l2 l3 v0 T))
theorem G60_46 {z : Option mm_O} {T : fS} {r : fR} (k2 : Nat → Nat → Nat → fS → Option fR) (hk2 : ∀ (l0 : Nat) (l1 : Nat) (xl2 : Int32) (l2 : Nat) (hl2 : xl2 = nI l2) (ul3 : Value) (T : fS) (r : fR), k2 l0 l1 l2 T = some r → mm_L 60 2 [.ref l0, .ref l1, .int xl2, ul3] [] (toS z T) = some (tR z r)) (l0 : Nat) (l1 : Nat) (xl2 : Int32) (l2 : Nat) (hl2 : xl2 = nI l2) (l3 : Nat) (h : F60_46 k2 l0 l1 l2 l3 T = some r) : mm_L 60 46 [.ref l0, .ref l1, .int xl2, .ref l3] [] (toS z T) = some (tR z r) := by
  unfold F60_46 at h
  refine Eq.trans (e60_46 ..) ?_
  exact (fb_n (fun _ q => fgi_ok q) h (fun v0 h2 => G60_50 k2 hk2 _ _ _ _ hl2 _ _ _ rfl h2))
noncomputable def F60_40 (k2 : Nat → Nat → Nat → fS → Option fR) (l0 : Nat) (l1 : Nat) (l2 : Nat) (l3 : Nat) (s0 : Nat) (T : fS) : Option fR := (fif (ieq s0 0) (F60_46 k2 l0 l1 l2 l3 T) (F60_43 k2 l0 l1 l2 l3 T))
theorem G60_40 {z : Option mm_O} {T : fS} {r : fR} (k2 : Nat → Nat → Nat → fS → Option fR) (hk2 : ∀ (l0 : Nat) (l1 : Nat) (xl2 : Int32) (l2 : Nat) (hl2 : xl2 = nI l2) (ul3 : Value) (T : fS) (r : fR), k2 l0 l1 l2 T = some r → mm_L 60 2 [.ref l0, .ref l1, .int xl2, ul3] [] (toS z T) = some (tR z r)) (l0 : Nat) (l1 : Nat) (xl2 : Int32) (l2 : Nat) (hl2 : xl2 = nI l2) (l3 : Nat) (xs0 : Int32) (s0 : Nat) (hs0 : xs0 = nI s0) (h : F60_40 k2 l0 l1 l2 l3 s0 T = some r) : mm_L 60 40 [.ref l0, .ref l1, .int xl2, .ref l3] [.int xs0] (toS z T) = some (tR z r) := by
  unfold F60_40 at h
  refine Eq.trans (e60_40 ..) ?_
  exact (fb_if (cj_eq hs0 (rfl : (0 : Int32) = nI 0)) h (fun h1 => (G60_46 k2 hk2 _ _ _ _ hl2 _ h1)) (fun h1 => (G60_43 k2 hk2 _ _ _ _ hl2 _ h1)))
noncomputable def F60_37 (k2 : Nat → Nat → Nat → fS → Option fR) (l0 : Nat) (l1 : Nat) (l2 : Nat) (l3 : Nat) (s0 : Nat) (s1 : Nat) (T : fS) : Option fR := (fKi true (fif (fch T s1 4) (F20_0 s1 s0 T) none) (fun v0 T1 => F60_40 k2 l0 l1 l2 l3 v0 T1))
theorem G60_37 {z : Option mm_O} {T : fS} {r : fR} (k2 : Nat → Nat → Nat → fS → Option fR) (hk2 : ∀ (l0 : Nat) (l1 : Nat) (xl2 : Int32) (l2 : Nat) (hl2 : xl2 = nI l2) (ul3 : Value) (T : fS) (r : fR), k2 l0 l1 l2 T = some r → mm_L 60 2 [.ref l0, .ref l1, .int xl2, ul3] [] (toS z T) = some (tR z r)) (l0 : Nat) (l1 : Nat) (xl2 : Int32) (l2 : Nat) (hl2 : xl2 = nI l2) (l3 : Nat) (xs0 : Int32) (s0 : Nat) (hs0 : xs0 = nI s0) (s1 : Nat) (h : F60_37 k2 l0 l1 l2 l3 s0 s1 T = some r) : mm_L 60 37 [.ref l0, .ref l1, .int xl2, .ref l3] [.int xs0, .ref s1] (toS z T) = some (tR z r) := by
  unfold F60_37 at h
  refine Eq.trans (e60_37 ..) ?_
  exact (fb_K0i (fun _ q => fb_mo (y := 20) ow_20 q (fun q => GM20 _ _ _ hs0 q)) h (fun v0 T1 h2 => G60_40 k2 hk2 _ _ _ _ hl2 _ _ _ rfl h2))
noncomputable def F60_32 (k2 : Nat → Nat → Nat → fS → Option fR) (l0 : Nat) (l1 : Nat) (l2 : Nat) (l3 : Nat) (T : fS) : Option fR := (fbn (fgi T l3 2 1) (fun v0 => F60_37 k2 l0 l1 l2 l3 v0 l1 T))
theorem G60_32 {z : Option mm_O} {T : fS} {r : fR} (k2 : Nat → Nat → Nat → fS → Option fR) (hk2 : ∀ (l0 : Nat) (l1 : Nat) (xl2 : Int32) (l2 : Nat) (hl2 : xl2 = nI l2) (ul3 : Value) (T : fS) (r : fR), k2 l0 l1 l2 T = some r → mm_L 60 2 [.ref l0, .ref l1, .int xl2, ul3] [] (toS z T) = some (tR z r)) (l0 : Nat) (l1 : Nat) (xl2 : Int32) (l2 : Nat) (hl2 : xl2 = nI l2) (l3 : Nat) (h : F60_32 k2 l0 l1 l2 l3 T = some r) : mm_L 60 32 [.ref l0, .ref l1, .int xl2, .ref l3] [] (toS z T) = some (tR z r) := by
  unfold F60_32 at h
  refine Eq.trans (e60_32 ..) ?_
  exact (fb_n (fun _ q => fgi_ok q) h (fun v0 h2 => G60_37 k2 hk2 _ _ _ _ hl2 _ _ _ rfl _ h2))
noncomputable def F60_29 (k2 : Nat → Nat → Nat → fS → Option fR) (l0 : Nat) (l1 : Nat) (l2 : Nat) (l3 : Nat) (s0 : Nat) (T : fS) : Option fR := (fif (ieq s0 0) (F60_46 k2 l0 l1 l2 l3 T) (F60_32 k2 l0 l1 l2 l3 T))
theorem G60_29 {z : Option mm_O} {T : fS} {r : fR} (k2 : Nat → Nat → Nat → fS → Option fR) (hk2 : ∀ (l0 : Nat) (l1 : Nat) (xl2 : Int32) (l2 : Nat) (hl2 : xl2 = nI l2) (ul3 : Value) (T : fS) (r : fR), k2 l0 l1 l2 T = some r → mm_L 60 2 [.ref l0, .ref l1, .int xl2, ul3] [] (toS z T) = some (tR z r)) (l0 : Nat) (l1 : Nat) (xl2 : Int32) (l2 : Nat) (hl2 : xl2 = nI l2) (l3 : Nat) (xs0 : Int32) (s0 : Nat) (hs0 : xs0 = nI s0) (h : F60_29 k2 l0 l1 l2 l3 s0 T = some r) : mm_L 60 29 [.ref l0, .ref l1, .int xl2, .ref l3] [.int xs0] (toS z T) = some (tR z r) := by
  unfold F60_29 at h
  refine Eq.trans (e60_29 ..) ?_
  exact (fb_if (cj_eq hs0 (rfl : (0 : Int32) = nI 0)) h (fun h1 => (G60_46 k2 hk2 _ _ _ _ hl2 _ h1)) (fun h1 => (G60_32 k2 hk2 _ _ _ _ hl2 _ h1)))
noncomputable def F60_24 (k2 : Nat → Nat → Nat → fS → Option fR) (l0 : Nat) (l1 : Nat) (l2 : Nat) (s0 : Nat) (T : fS) : Option fR := (fKi true (fif (fch T s0 2) (F14_0 s0  T) none) (fun v0 T1 => F60_29 k2 l0 l1 l2 s0 v0 T1))
theorem G60_24 {z : Option mm_O} {T : fS} {r : fR} (k2 : Nat → Nat → Nat → fS → Option fR) (hk2 : ∀ (l0 : Nat) (l1 : Nat) (xl2 : Int32) (l2 : Nat) (hl2 : xl2 = nI l2) (ul3 : Value) (T : fS) (r : fR), k2 l0 l1 l2 T = some r → mm_L 60 2 [.ref l0, .ref l1, .int xl2, ul3] [] (toS z T) = some (tR z r)) (l0 : Nat) (l1 : Nat) (xl2 : Int32) (l2 : Nat) (hl2 : xl2 = nI l2) (ul3 : Value) (s0 : Nat) (h : F60_24 k2 l0 l1 l2 s0 T = some r) : mm_L 60 24 [.ref l0, .ref l1, .int xl2, ul3] [.ref s0] (toS z T) = some (tR z r) := by
  unfold F60_24 at h
  refine Eq.trans (e60_24 ..) ?_
  exact (fb_K0i (fun _ q => fb_mo (y := 14) ow_14 q (fun q => GM14 _  q)) h (fun v0 T1 h2 => G60_29 k2 hk2 _ _ _ _ hl2 _ _ _ rfl h2))
noncomputable def F60_21 (k2 : Nat → Nat → Nat → fS → Option fR) (l0 : Nat) (l1 : Nat) (l2 : Nat) (s0 : Nat) (T : fS) : Option fR := (fif (fch T s0 2) (F60_24 k2 l0 l1 l2 s0 T) none)
theorem G60_21 {z : Option mm_O} {T : fS} {r : fR} (k2 : Nat → Nat → Nat → fS → Option fR) (hk2 : ∀ (l0 : Nat) (l1 : Nat) (xl2 : Int32) (l2 : Nat) (hl2 : xl2 = nI l2) (ul3 : Value) (T : fS) (r : fR), k2 l0 l1 l2 T = some r → mm_L 60 2 [.ref l0, .ref l1, .int xl2, ul3] [] (toS z T) = some (tR z r)) (l0 : Nat) (l1 : Nat) (xl2 : Int32) (l2 : Nat) (hl2 : xl2 = nI l2) (ul3 : Value) (s0 : Nat) (h : F60_21 k2 l0 l1 l2 s0 T = some r) : mm_L 60 21 [.ref l0, .ref l1, .int xl2, ul3] [.ref s0] (toS z T) = some (tR z r) := by
  unfold F60_21 at h
  refine Eq.trans (e60_21 ..) ?_
  exact (fb_c h (fun h2 => G60_24 k2 hk2 _ _ _ _ hl2 _ _ h2))
noncomputable def F60_17 (k2 : Nat → Nat → Nat → fS → Option fR) (l0 : Nat) (l1 : Nat) (l2 : Nat) (s0 : Nat) (T : fS) : Option fR := (fbn (flg T s0 l2) (fun v0 => F60_21 k2 l0 l1 l2 v0 T))
theorem G60_17 {z : Option mm_O} {T : fS} {r : fR} (k2 : Nat → Nat → Nat → fS → Option fR) (hk2 : ∀ (l0 : Nat) (l1 : Nat) (xl2 : Int32) (l2 : Nat) (hl2 : xl2 = nI l2) (ul3 : Value) (T : fS) (r : fR), k2 l0 l1 l2 T = some r → mm_L 60 2 [.ref l0, .ref l1, .int xl2, ul3] [] (toS z T) = some (tR z r)) (l0 : Nat) (l1 : Nat) (xl2 : Int32) (l2 : Nat) (hl2 : xl2 = nI l2) (ul3 : Value) (s0 : Nat) (h : F60_17 k2 l0 l1 l2 s0 T = some r) : mm_L 60 17 [.ref l0, .ref l1, .int xl2, ul3] [.ref s0] (toS z T) = some (tR z r) := by
  unfold F60_17 at h
  refine Eq.trans (e60_17 ..) ?_
  exact (fb_g (fun _ q => by rw [hl2]; exact flg_ok q) h (fun v0 h2 => G60_21 k2 hk2 _ _ _ _ hl2 _ _ h2))
noncomputable def F60_13 (k2 : Nat → Nat → Nat → fS → Option fR) (l0 : Nat) (l1 : Nat) (l2 : Nat) (T : fS) : Option fR := (fbv (fgr T l0 6 1) (fun v0 => F60_17 k2 l0 l1 l2 v0 T) ((none : Option fR)))
theorem G60_13 {z : Option mm_O} {T : fS} {r : fR} (k2 : Nat → Nat → Nat → fS → Option fR) (hk2 : ∀ (l0 : Nat) (l1 : Nat) (xl2 : Int32) (l2 : Nat) (hl2 : xl2 = nI l2) (ul3 : Value) (T : fS) (r : fR), k2 l0 l1 l2 T = some r → mm_L 60 2 [.ref l0, .ref l1, .int xl2, ul3] [] (toS z T) = some (tR z r)) (l0 : Nat) (l1 : Nat) (xl2 : Int32) (l2 : Nat) (hl2 : xl2 = nI l2) (ul3 : Value) (h : F60_13 k2 l0 l1 l2 T = some r) : mm_L 60 13 [.ref l0, .ref l1, .int xl2, ul3] [] (toS z T) = some (tR z r) := by
  unfold F60_13 at h
  refine Eq.trans (e60_13 ..) ?_
  exact (fb_v (fun _ q => fgr_ok q) h (fun v0 h2 => G60_17 k2 hk2 _ _ _ _ hl2 _ _ h2) (fun h2 => fr_n h2))
noncomputable def F60_135  (l0 : Nat) (l1 : Nat) (l2 : Nat) (T : fS) : Option fR := (some ((.inl none, T) : fR))
theorem G60_135 {z : Option mm_O} {T : fS} {r : fR}  (l0 : Nat) (l1 : Nat) (xl2 : Int32) (l2 : Nat) (hl2 : xl2 = nI l2) (ul3 : Value) (h : F60_135  l0 l1 l2 T = some r) : mm_L 60 135 [.ref l0, .ref l1, .int xl2, ul3] [] (toS z T) = some (tR z r) := by
  unfold F60_135 at h
  refine Eq.trans (e60_135 ..) ?_
  exact (fr_v h)
noncomputable def F60_10 (k2 : Nat → Nat → Nat → fS → Option fR) (l0 : Nat) (l1 : Nat) (l2 : Nat) (s0 : Nat) (s1 : Nat) (T : fS) : Option fR := (fif (ile s0 s1) (F60_135  l0 l1 l2 T) (F60_13 k2 l0 l1 l2 T))
theorem G60_10 {z : Option mm_O} {T : fS} {r : fR} (k2 : Nat → Nat → Nat → fS → Option fR) (hk2 : ∀ (l0 : Nat) (l1 : Nat) (xl2 : Int32) (l2 : Nat) (hl2 : xl2 = nI l2) (ul3 : Value) (T : fS) (r : fR), k2 l0 l1 l2 T = some r → mm_L 60 2 [.ref l0, .ref l1, .int xl2, ul3] [] (toS z T) = some (tR z r)) (l0 : Nat) (l1 : Nat) (xl2 : Int32) (l2 : Nat) (hl2 : xl2 = nI l2) (ul3 : Value) (xs0 : Int32) (s0 : Nat) (hs0 : xs0 = nI s0) (xs1 : Int32) (s1 : Nat) (hs1 : xs1 = nI s1) (h : F60_10 k2 l0 l1 l2 s0 s1 T = some r) : mm_L 60 10 [.ref l0, .ref l1, .int xl2, ul3] [.int xs0, .int xs1] (toS z T) = some (tR z r) := by
  unfold F60_10 at h
  refine Eq.trans (e60_10 ..) ?_
  exact (fb_if (cj_le hs0 hs1) h (fun h1 => (G60_135  _ _ _ _ hl2 _ h1)) (fun h1 => (G60_13 k2 hk2 _ _ _ _ hl2 _ h1)))
noncomputable def F60_7 (k2 : Nat → Nat → Nat → fS → Option fR) (l0 : Nat) (l1 : Nat) (l2 : Nat) (s0 : Nat) (s1 : Nat) (T : fS) : Option fR := (fbn (flz T s0) (fun v0 => F60_10 k2 l0 l1 l2 v0 s1 T))
theorem G60_7 {z : Option mm_O} {T : fS} {r : fR} (k2 : Nat → Nat → Nat → fS → Option fR) (hk2 : ∀ (l0 : Nat) (l1 : Nat) (xl2 : Int32) (l2 : Nat) (hl2 : xl2 = nI l2) (ul3 : Value) (T : fS) (r : fR), k2 l0 l1 l2 T = some r → mm_L 60 2 [.ref l0, .ref l1, .int xl2, ul3] [] (toS z T) = some (tR z r)) (l0 : Nat) (l1 : Nat) (xl2 : Int32) (l2 : Nat) (hl2 : xl2 = nI l2) (ul3 : Value) (s0 : Nat) (xs1 : Int32) (s1 : Nat) (hs1 : xs1 = nI s1) (h : F60_7 k2 l0 l1 l2 s0 s1 T = some r) : mm_L 60 7 [.ref l0, .ref l1, .int xl2, ul3] [.ref s0, .int xs1] (toS z T) = some (tR z r) := by
  unfold F60_7 at h
  refine Eq.trans (e60_7 ..) ?_
  exact (fb_n (fun _ q => flz_ok q) h (fun v0 h2 => G60_10 k2 hk2 _ _ _ _ hl2 _ _ _ rfl _ _ hs1 h2))
noncomputable def F60_2 (k2 : Nat → Nat → Nat → fS → Option fR) (l0 : Nat) (l1 : Nat) (l2 : Nat) (T : fS) : Option fR := (fbv (fgr T l0 6 1) (fun v0 => F60_7 k2 l0 l1 l2 v0 l2 T) ((none : Option fR)))
theorem G60_2 {z : Option mm_O} {T : fS} {r : fR} (k2 : Nat → Nat → Nat → fS → Option fR) (hk2 : ∀ (l0 : Nat) (l1 : Nat) (xl2 : Int32) (l2 : Nat) (hl2 : xl2 = nI l2) (ul3 : Value) (T : fS) (r : fR), k2 l0 l1 l2 T = some r → mm_L 60 2 [.ref l0, .ref l1, .int xl2, ul3] [] (toS z T) = some (tR z r)) (l0 : Nat) (l1 : Nat) (xl2 : Int32) (l2 : Nat) (hl2 : xl2 = nI l2) (ul3 : Value) (h : F60_2 k2 l0 l1 l2 T = some r) : mm_L 60 2 [.ref l0, .ref l1, .int xl2, ul3] [] (toS z T) = some (tR z r) := by
  unfold F60_2 at h
  refine Eq.trans (e60_2 ..) ?_
  exact (fb_v (fun _ q => fgr_ok q) h (fun v0 h2 => G60_7 k2 hk2 _ _ _ _ hl2 _ _ _ _ hl2 h2) (fun h2 => fr_n h2))
noncomputable def H60_2  (n : Nat) : Nat → Nat → Nat → fS → Option fR := Nat.rec (motive := fun _ => Nat → Nat → Nat → fS → Option fR) (fun _ _ _ _ => none) (fun _ ih => F60_2 ih) n
theorem HG60_2 {z : Option mm_O}  : ∀ (n : Nat) (l0 : Nat) (l1 : Nat) (xl2 : Int32) (l2 : Nat) (hl2 : xl2 = nI l2) (ul3 : Value) {T : fS} {r : fR}, H60_2  n l0 l1 l2 T = some r → mm_L 60 2 [.ref l0, .ref l1, .int xl2, ul3] [] (toS z T) = some (tR z r) := by
  intro n
  induction n with
  | zero =>
    intro l0 l1 xl2 l2 hl2 ul3 T r h
    exact fr_n h
  | succ n ih =>
    intro l0 l1 xl2 l2 hl2 ul3 T r h
    exact G60_2 (H60_2  n) (fun l0 l1 xl2 l2 hl2 ul3 T r h => ih l0 l1 xl2 l2 hl2 ul3 h) l0 l1 xl2 l2 hl2 ul3 h
noncomputable def F60_0  (l0 : Nat) (l1 : Nat) (T : fS) : Option fR := (H60_2  300 l0 l1 0 T)
theorem G60_0 {z : Option mm_O} {T : fS} {r : fR}  (l0 : Nat) (l1 : Nat) (ul2 : Value) (ul3 : Value) (h : F60_0  l0 l1 T = some r) : mm_L 60 0 [.ref l0, .ref l1, ul2, ul3] [] (toS z T) = some (tR z r) := by
  unfold F60_0 at h
  refine Eq.trans (e60_0 ..) ?_
  exact (HG60_2  300 _ _ _ _ (rfl : (0 : Int32) = nI 0) _ h)
theorem GM60 {z : Option mm_O} {T : fS} {r : fR} (l0 : Nat) (l1 : Nat) (h : F60_0 l0 l1 T = some r) : mm_M 60 [.ref l0, .ref l1] (toS z T) = some (tR z r) := Eq.trans (M_60 ..) (G60_0 l0 l1 _ _ h)
-- 34: HandArchive.requireSign
noncomputable def F34_8  (l0 : Nat) (l1 : Nat) (T : fS) : Option fR := (some ((.inr 2, fbm T 1 6) : fR))
theorem G34_8 {z : Option mm_O} {T : fS} {r : fR}  (l0 : Nat) (xl1 : Int32) (l1 : Nat) (hl1 : xl1 = nI l1) (h : F34_8  l0 l1 T = some r) : mm_L 34 8 [.ref l0, .int xl1] [] (toS z T) = some (tR z r) := by
  unfold F34_8 at h
  refine Eq.trans (e34_8 ..) ?_
  exact (fr_x h)
noncomputable def F34_18  (l0 : Nat) (l1 : Nat) (T : fS) : Option fR := (some ((.inl none, T) : fR))
theorem G34_18 {z : Option mm_O} {T : fS} {r : fR}  (l0 : Nat) (xl1 : Int32) (l1 : Nat) (hl1 : xl1 = nI l1) (h : F34_18  l0 l1 T = some r) : mm_L 34 18 [.ref l0, .int xl1] [] (toS z T) = some (tR z r) := by
  unfold F34_18 at h
  refine Eq.trans (e34_18 ..) ?_
  exact (fr_v h)
noncomputable def F34_5  (l0 : Nat) (l1 : Nat) (s0 : Nat) (T : fS) : Option fR := (fif (ieq s0 0) (F34_8  l0 l1 T) (F34_18  l0 l1 T))
theorem G34_5 {z : Option mm_O} {T : fS} {r : fR}  (l0 : Nat) (xl1 : Int32) (l1 : Nat) (hl1 : xl1 = nI l1) (xs0 : Int32) (s0 : Nat) (hs0 : xs0 = nI s0) (h : F34_5  l0 l1 s0 T = some r) : mm_L 34 5 [.ref l0, .int xl1] [.int xs0] (toS z T) = some (tR z r) := by
  unfold F34_5 at h
  refine Eq.trans (e34_5 ..) ?_
  exact (fb_if (cj_eq hs0 (rfl : (0 : Int32) = nI 0)) h (fun h1 => (G34_8  _ _ _ hl1 h1)) (fun h1 => (G34_18  _ _ _ hl1 h1)))
noncomputable def F34_0  (l0 : Nat) (l1 : Nat) (T : fS) : Option fR := (fKi true (fif (fch T l0 6) (F33_0 l0 l1 T) none) (fun v0 T1 => F34_5  l0 l1 v0 T1))
theorem G34_0 {z : Option mm_O} {T : fS} {r : fR}  (l0 : Nat) (xl1 : Int32) (l1 : Nat) (hl1 : xl1 = nI l1) (h : F34_0  l0 l1 T = some r) : mm_L 34 0 [.ref l0, .int xl1] [] (toS z T) = some (tR z r) := by
  unfold F34_0 at h
  refine Eq.trans (e34_0 ..) ?_
  exact (fb_K0i (fun _ q => fb_mo (y := 33) ow_33 q (fun q => GM33 _ _ _ hl1 q)) h (fun v0 T1 h2 => G34_5  _ _ _ hl1 _ _ rfl h2))
theorem GM34 {z : Option mm_O} {T : fS} {r : fR} (l0 : Nat) (xl1 : Int32) (l1 : Nat) (hl1 : xl1 = nI l1) (h : F34_0 l0 l1 T = some r) : mm_M 34 [.ref l0, .int xl1] (toS z T) = some (tR z r) := Eq.trans (M_34 ..) (G34_0 l0 xl1 l1 hl1 h)
-- 35: HandArchive.requireSchool
noncomputable def F35_8  (l0 : Nat) (T : fS) : Option fR := (some ((.inr 0, fbm T 1 6) : fR))
theorem G35_8 {z : Option mm_O} {T : fS} {r : fR}  (xl0 : Int32) (l0 : Nat) (hl0 : xl0 = nI l0) (h : F35_8  l0 T = some r) : mm_L 35 8 [.int xl0] [] (toS z T) = some (tR z r) := by
  unfold F35_8 at h
  refine Eq.trans (e35_8 ..) ?_
  exact (fr_x h)
noncomputable def F35_18  (l0 : Nat) (T : fS) : Option fR := (some ((.inl none, T) : fR))
theorem G35_18 {z : Option mm_O} {T : fS} {r : fR}  (xl0 : Int32) (l0 : Nat) (hl0 : xl0 = nI l0) (h : F35_18  l0 T = some r) : mm_L 35 18 [.int xl0] [] (toS z T) = some (tR z r) := by
  unfold F35_18 at h
  refine Eq.trans (e35_18 ..) ?_
  exact (fr_v h)
noncomputable def F35_5  (l0 : Nat) (s0 : Nat) (T : fS) : Option fR := (fif (ieq s0 0) (F35_8  l0 T) (F35_18  l0 T))
theorem G35_5 {z : Option mm_O} {T : fS} {r : fR}  (xl0 : Int32) (l0 : Nat) (hl0 : xl0 = nI l0) (xs0 : Int32) (s0 : Nat) (hs0 : xs0 = nI s0) (h : F35_5  l0 s0 T = some r) : mm_L 35 5 [.int xl0] [.int xs0] (toS z T) = some (tR z r) := by
  unfold F35_5 at h
  refine Eq.trans (e35_5 ..) ?_
  exact (fb_if (cj_eq hs0 (rfl : (0 : Int32) = nI 0)) h (fun h1 => (G35_8  _ _ hl0 h1)) (fun h1 => (G35_18  _ _ hl0 h1)))
noncomputable def F35_0  (l0 : Nat) (T : fS) : Option fR := (fKi false (F101_0 l0 3 T) (fun v0 T1 => F35_5  l0 v0 T1))
theorem G35_0 {z : Option mm_O} {T : fS} {r : fR}  (xl0 : Int32) (l0 : Nat) (hl0 : xl0 = nI l0) (h : F35_0  l0 T = some r) : mm_L 35 0 [.int xl0] [] (toS z T) = some (tR z r) := by
  unfold F35_0 at h
  refine Eq.trans (e35_0 ..) ?_
  exact (fb_K2i (fun _ q => GM101 _ _ hl0 _ _ (rfl : (3 : Int32) = nI 3) q) h (fun v0 T1 h2 => G35_5  _ _ hl0 _ _ rfl h2))
theorem GM35 {z : Option mm_O} {T : fS} {r : fR} (xl0 : Int32) (l0 : Nat) (hl0 : xl0 = nI l0) (h : F35_0 l0 T = some r) : mm_M 35 [.int xl0] (toS z T) = some (tR z r) := Eq.trans (M_35 ..) (G35_0 xl0 l0 hl0 h)
-- 43: HandArchive.lociStandAsTheyShould
noncomputable def F43_54  (l0 : Nat) (l1 : Nat) (l2 : Nat) (l3 : Nat) (l4 : Nat) (s0 : Nat) (T : fS) : Option fR := (fif (Bool.rec (motive := fun _ => Bool) (ieq s0 1) true (ieq s0 0)) (some ((.inl (some (.inl s0)), T) : fR)) (none : Option fR))
theorem G43_54 {z : Option mm_O} {T : fS} {r : fR}  (l0 : Nat) (xl1 : Int32) (l1 : Nat) (hl1 : xl1 = nI l1) (xl2 : Int32) (l2 : Nat) (hl2 : xl2 = nI l2) (xl3 : Int32) (l3 : Nat) (hl3 : xl3 = nI l3) (xl4 : Int32) (l4 : Nat) (hl4 : xl4 = nI l4) (xs0 : Int32) (s0 : Nat) (hs0 : xs0 = nI s0) (h : F43_54  l0 l1 l2 l3 l4 s0 T = some r) : mm_L 43 54 [.ref l0, .int xl1, .int xl2, .int xl3, .int xl4] [.int xs0] (toS z T) = some (tR z r) := by
  unfold F43_54 at h
  refine Eq.trans (e43_54 ..) ?_
  exact (fb_if (cj_01 hs0) h (fun h1 => (fr_i hs0 h1)) (fun h1 => (fr_n h1)))
noncomputable def F43_49  (l0 : Nat) (l1 : Nat) (l2 : Nat) (l3 : Nat) (l4 : Nat) (T : fS) : Option fR := (F43_54  l0 l1 l2 l3 l4 1 T)
theorem G43_49 {z : Option mm_O} {T : fS} {r : fR}  (l0 : Nat) (xl1 : Int32) (l1 : Nat) (hl1 : xl1 = nI l1) (xl2 : Int32) (l2 : Nat) (hl2 : xl2 = nI l2) (xl3 : Int32) (l3 : Nat) (hl3 : xl3 = nI l3) (xl4 : Int32) (l4 : Nat) (hl4 : xl4 = nI l4) (h : F43_49  l0 l1 l2 l3 l4 T = some r) : mm_L 43 49 [.ref l0, .int xl1, .int xl2, .int xl3, .int xl4] [] (toS z T) = some (tR z r) := by
  unfold F43_49 at h
  refine Eq.trans (e43_49 ..) ?_
  exact (G43_54  _ _ _ hl1 _ _ hl2 _ _ hl3 _ _ hl4 _ _ (rfl : (1 : Int32) = nI 1) h)
noncomputable def F43_53  (l0 : Nat) (l1 : Nat) (l2 : Nat) (l3 : Nat) (l4 : Nat) (T : fS) : Option fR := (F43_54  l0 l1 l2 l3 l4 0 T)
theorem G43_53 {z : Option mm_O} {T : fS} {r : fR}  (l0 : Nat) (xl1 : Int32) (l1 : Nat) (hl1 : xl1 = nI l1) (xl2 : Int32) (l2 : Nat) (hl2 : xl2 = nI l2) (xl3 : Int32) (l3 : Nat) (hl3 : xl3 = nI l3) (xl4 : Int32) (l4 : Nat) (hl4 : xl4 = nI l4) (h : F43_53  l0 l1 l2 l3 l4 T = some r) : mm_L 43 53 [.ref l0, .int xl1, .int xl2, .int xl3, .int xl4] [] (toS z T) = some (tR z r) := by
  unfold F43_53 at h
  refine Eq.trans (e43_53 ..) ?_
  exact (G43_54  _ _ _ hl1 _ _ hl2 _ _ hl3 _ _ hl4 _ _ (rfl : (0 : Int32) = nI 0) h)
noncomputable def F43_46  (l0 : Nat) (l1 : Nat) (l2 : Nat) (l3 : Nat) (l4 : Nat) (s0 : Nat) (T : fS) : Option fR := (fif (ieq s0 0) (F43_49  l0 l1 l2 l3 l4 T) (F43_53  l0 l1 l2 l3 l4 T))
theorem G43_46 {z : Option mm_O} {T : fS} {r : fR}  (l0 : Nat) (xl1 : Int32) (l1 : Nat) (hl1 : xl1 = nI l1) (xl2 : Int32) (l2 : Nat) (hl2 : xl2 = nI l2) (xl3 : Int32) (l3 : Nat) (hl3 : xl3 = nI l3) (xl4 : Int32) (l4 : Nat) (hl4 : xl4 = nI l4) (xs0 : Int32) (s0 : Nat) (hs0 : xs0 = nI s0) (h : F43_46  l0 l1 l2 l3 l4 s0 T = some r) : mm_L 43 46 [.ref l0, .int xl1, .int xl2, .int xl3, .int xl4] [.int xs0] (toS z T) = some (tR z r) := by
  unfold F43_46 at h
  refine Eq.trans (e43_46 ..) ?_
  exact (fb_if (cj_eq hs0 (rfl : (0 : Int32) = nI 0)) h (fun h1 => (G43_49  _ _ _ hl1 _ _ hl2 _ _ hl3 _ _ hl4 h1)) (fun h1 => (G43_53  _ _ _ hl1 _ _ hl2 _ _ hl3 _ _ hl4 h1)))
noncomputable def F43_41  (l0 : Nat) (l1 : Nat) (l2 : Nat) (l3 : Nat) (l4 : Nat) (T : fS) : Option fR := (fKi true (fif (fch T l0 6) (F44_0 l0 l3 T) none) (fun v0 T1 => F43_46  l0 l1 l2 l3 l4 v0 T1))
theorem G43_41 {z : Option mm_O} {T : fS} {r : fR}  (l0 : Nat) (xl1 : Int32) (l1 : Nat) (hl1 : xl1 = nI l1) (xl2 : Int32) (l2 : Nat) (hl2 : xl2 = nI l2) (xl3 : Int32) (l3 : Nat) (hl3 : xl3 = nI l3) (xl4 : Int32) (l4 : Nat) (hl4 : xl4 = nI l4) (h : F43_41  l0 l1 l2 l3 l4 T = some r) : mm_L 43 41 [.ref l0, .int xl1, .int xl2, .int xl3, .int xl4] [] (toS z T) = some (tR z r) := by
  unfold F43_41 at h
  refine Eq.trans (e43_41 ..) ?_
  exact (fb_K0i (fun _ q => fb_mo (y := 44) ow_44 q (fun q => GM44 _ _ _ hl3 q)) h (fun v0 T1 h2 => G43_46  _ _ _ hl1 _ _ hl2 _ _ hl3 _ _ hl4 _ _ rfl h2))
noncomputable def F43_37  (l0 : Nat) (l1 : Nat) (l2 : Nat) (l3 : Nat) (l4 : Nat) (s0 : Nat) (T : fS) : Option fR := (fif (ieq s0 4294967295) (F43_41  l0 l1 l2 l3 l4 T) (F43_53  l0 l1 l2 l3 l4 T))
theorem G43_37 {z : Option mm_O} {T : fS} {r : fR}  (l0 : Nat) (xl1 : Int32) (l1 : Nat) (hl1 : xl1 = nI l1) (xl2 : Int32) (l2 : Nat) (hl2 : xl2 = nI l2) (xl3 : Int32) (l3 : Nat) (hl3 : xl3 = nI l3) (xl4 : Int32) (l4 : Nat) (hl4 : xl4 = nI l4) (xs0 : Int32) (s0 : Nat) (hs0 : xs0 = nI s0) (h : F43_37  l0 l1 l2 l3 l4 s0 T = some r) : mm_L 43 37 [.ref l0, .int xl1, .int xl2, .int xl3, .int xl4] [.int xs0] (toS z T) = some (tR z r) := by
  unfold F43_37 at h
  refine Eq.trans (e43_37 ..) ?_
  exact (fb_if (cj_eq hs0 (by decide : (-1 : Int32) = nI 4294967295)) h (fun h1 => (G43_41  _ _ _ hl1 _ _ hl2 _ _ hl3 _ _ hl4 h1)) (fun h1 => (G43_53  _ _ _ hl1 _ _ hl2 _ _ hl3 _ _ hl4 h1)))
noncomputable def F43_32  (l0 : Nat) (l1 : Nat) (l2 : Nat) (l3 : Nat) (l4 : Nat) (T : fS) : Option fR := (fKi true (fif (fch T l0 6) (F45_0 l0 l2 T) none) (fun v0 T1 => F43_37  l0 l1 l2 l3 l4 v0 T1))
theorem G43_32 {z : Option mm_O} {T : fS} {r : fR}  (l0 : Nat) (xl1 : Int32) (l1 : Nat) (hl1 : xl1 = nI l1) (xl2 : Int32) (l2 : Nat) (hl2 : xl2 = nI l2) (xl3 : Int32) (l3 : Nat) (hl3 : xl3 = nI l3) (xl4 : Int32) (l4 : Nat) (hl4 : xl4 = nI l4) (h : F43_32  l0 l1 l2 l3 l4 T = some r) : mm_L 43 32 [.ref l0, .int xl1, .int xl2, .int xl3, .int xl4] [] (toS z T) = some (tR z r) := by
  unfold F43_32 at h
  refine Eq.trans (e43_32 ..) ?_
  exact (fb_K0i (fun _ q => fb_mo (y := 45) ow_45 q (fun q => GM45 _ _ _ hl2 q)) h (fun v0 T1 h2 => G43_37  _ _ _ hl1 _ _ hl2 _ _ hl3 _ _ hl4 _ _ rfl h2))
noncomputable def F43_69  (l0 : Nat) (l1 : Nat) (l2 : Nat) (l3 : Nat) (l4 : Nat) (s0 : Nat) (T : fS) : Option fR := (fif (Bool.rec (motive := fun _ => Bool) (ieq s0 1) true (ieq s0 0)) (some ((.inl (some (.inl s0)), T) : fR)) (none : Option fR))
theorem G43_69 {z : Option mm_O} {T : fS} {r : fR}  (l0 : Nat) (xl1 : Int32) (l1 : Nat) (hl1 : xl1 = nI l1) (xl2 : Int32) (l2 : Nat) (hl2 : xl2 = nI l2) (xl3 : Int32) (l3 : Nat) (hl3 : xl3 = nI l3) (xl4 : Int32) (l4 : Nat) (hl4 : xl4 = nI l4) (xs0 : Int32) (s0 : Nat) (hs0 : xs0 = nI s0) (h : F43_69  l0 l1 l2 l3 l4 s0 T = some r) : mm_L 43 69 [.ref l0, .int xl1, .int xl2, .int xl3, .int xl4] [.int xs0] (toS z T) = some (tR z r) := by
  unfold F43_69 at h
  refine Eq.trans (e43_69 ..) ?_
  exact (fb_if (cj_01 hs0) h (fun h1 => (fr_i hs0 h1)) (fun h1 => (fr_n h1)))
noncomputable def F43_64  (l0 : Nat) (l1 : Nat) (l2 : Nat) (l3 : Nat) (l4 : Nat) (T : fS) : Option fR := (F43_69  l0 l1 l2 l3 l4 1 T)
theorem G43_64 {z : Option mm_O} {T : fS} {r : fR}  (l0 : Nat) (xl1 : Int32) (l1 : Nat) (hl1 : xl1 = nI l1) (xl2 : Int32) (l2 : Nat) (hl2 : xl2 = nI l2) (xl3 : Int32) (l3 : Nat) (hl3 : xl3 = nI l3) (xl4 : Int32) (l4 : Nat) (hl4 : xl4 = nI l4) (h : F43_64  l0 l1 l2 l3 l4 T = some r) : mm_L 43 64 [.ref l0, .int xl1, .int xl2, .int xl3, .int xl4] [] (toS z T) = some (tR z r) := by
  unfold F43_64 at h
  refine Eq.trans (e43_64 ..) ?_
  exact (G43_69  _ _ _ hl1 _ _ hl2 _ _ hl3 _ _ hl4 _ _ (rfl : (1 : Int32) = nI 1) h)
noncomputable def F43_68  (l0 : Nat) (l1 : Nat) (l2 : Nat) (l3 : Nat) (l4 : Nat) (T : fS) : Option fR := (F43_69  l0 l1 l2 l3 l4 0 T)
theorem G43_68 {z : Option mm_O} {T : fS} {r : fR}  (l0 : Nat) (xl1 : Int32) (l1 : Nat) (hl1 : xl1 = nI l1) (xl2 : Int32) (l2 : Nat) (hl2 : xl2 = nI l2) (xl3 : Int32) (l3 : Nat) (hl3 : xl3 = nI l3) (xl4 : Int32) (l4 : Nat) (hl4 : xl4 = nI l4) (h : F43_68  l0 l1 l2 l3 l4 T = some r) : mm_L 43 68 [.ref l0, .int xl1, .int xl2, .int xl3, .int xl4] [] (toS z T) = some (tR z r) := by
  unfold F43_68 at h
  refine Eq.trans (e43_68 ..) ?_
  exact (G43_69  _ _ _ hl1 _ _ hl2 _ _ hl3 _ _ hl4 _ _ (rfl : (0 : Int32) = nI 0) h)
noncomputable def F43_60  (l0 : Nat) (l1 : Nat) (l2 : Nat) (l3 : Nat) (l4 : Nat) (s0 : Nat) (T : fS) : Option fR := (fif (ieq s0 4294967295) (F43_68  l0 l1 l2 l3 l4 T) (F43_64  l0 l1 l2 l3 l4 T))
theorem G43_60 {z : Option mm_O} {T : fS} {r : fR}  (l0 : Nat) (xl1 : Int32) (l1 : Nat) (hl1 : xl1 = nI l1) (xl2 : Int32) (l2 : Nat) (hl2 : xl2 = nI l2) (xl3 : Int32) (l3 : Nat) (hl3 : xl3 = nI l3) (xl4 : Int32) (l4 : Nat) (hl4 : xl4 = nI l4) (xs0 : Int32) (s0 : Nat) (hs0 : xs0 = nI s0) (h : F43_60  l0 l1 l2 l3 l4 s0 T = some r) : mm_L 43 60 [.ref l0, .int xl1, .int xl2, .int xl3, .int xl4] [.int xs0] (toS z T) = some (tR z r) := by
  unfold F43_60 at h
  refine Eq.trans (e43_60 ..) ?_
  exact (fb_if (cj_eq hs0 (by decide : (-1 : Int32) = nI 4294967295)) h (fun h1 => (G43_68  _ _ _ hl1 _ _ hl2 _ _ hl3 _ _ hl4 h1)) (fun h1 => (G43_64  _ _ _ hl1 _ _ hl2 _ _ hl3 _ _ hl4 h1)))
noncomputable def F43_55  (l0 : Nat) (l1 : Nat) (l2 : Nat) (l3 : Nat) (l4 : Nat) (T : fS) : Option fR := (fKi true (fif (fch T l0 6) (F45_0 l0 l2 T) none) (fun v0 T1 => F43_60  l0 l1 l2 l3 l4 v0 T1))
theorem G43_55 {z : Option mm_O} {T : fS} {r : fR}  (l0 : Nat) (xl1 : Int32) (l1 : Nat) (hl1 : xl1 = nI l1) (xl2 : Int32) (l2 : Nat) (hl2 : xl2 = nI l2) (xl3 : Int32) (l3 : Nat) (hl3 : xl3 = nI l3) (xl4 : Int32) (l4 : Nat) (hl4 : xl4 = nI l4) (h : F43_55  l0 l1 l2 l3 l4 T = some r) : mm_L 43 55 [.ref l0, .int xl1, .int xl2, .int xl3, .int xl4] [] (toS z T) = some (tR z r) := by
  unfold F43_55 at h
  refine Eq.trans (e43_55 ..) ?_
  exact (fb_K0i (fun _ q => fb_mo (y := 45) ow_45 q (fun q => GM45 _ _ _ hl2 q)) h (fun v0 T1 h2 => G43_60  _ _ _ hl1 _ _ hl2 _ _ hl3 _ _ hl4 _ _ rfl h2))
noncomputable def F43_94  (l0 : Nat) (l1 : Nat) (l2 : Nat) (l3 : Nat) (l4 : Nat) (s0 : Nat) (T : fS) : Option fR := (fif (Bool.rec (motive := fun _ => Bool) (ieq s0 1) true (ieq s0 0)) (some ((.inl (some (.inl s0)), T) : fR)) (none : Option fR))
theorem G43_94 {z : Option mm_O} {T : fS} {r : fR}  (l0 : Nat) (xl1 : Int32) (l1 : Nat) (hl1 : xl1 = nI l1) (xl2 : Int32) (l2 : Nat) (hl2 : xl2 = nI l2) (xl3 : Int32) (l3 : Nat) (hl3 : xl3 = nI l3) (xl4 : Int32) (l4 : Nat) (hl4 : xl4 = nI l4) (xs0 : Int32) (s0 : Nat) (hs0 : xs0 = nI s0) (h : F43_94  l0 l1 l2 l3 l4 s0 T = some r) : mm_L 43 94 [.ref l0, .int xl1, .int xl2, .int xl3, .int xl4] [.int xs0] (toS z T) = some (tR z r) := by
  unfold F43_94 at h
  refine Eq.trans (e43_94 ..) ?_
  exact (fb_if (cj_01 hs0) h (fun h1 => (fr_i hs0 h1)) (fun h1 => (fr_n h1)))
noncomputable def F43_89  (l0 : Nat) (l1 : Nat) (l2 : Nat) (l3 : Nat) (l4 : Nat) (T : fS) : Option fR := (F43_94  l0 l1 l2 l3 l4 1 T)
theorem G43_89 {z : Option mm_O} {T : fS} {r : fR}  (l0 : Nat) (xl1 : Int32) (l1 : Nat) (hl1 : xl1 = nI l1) (xl2 : Int32) (l2 : Nat) (hl2 : xl2 = nI l2) (xl3 : Int32) (l3 : Nat) (hl3 : xl3 = nI l3) (xl4 : Int32) (l4 : Nat) (hl4 : xl4 = nI l4) (h : F43_89  l0 l1 l2 l3 l4 T = some r) : mm_L 43 89 [.ref l0, .int xl1, .int xl2, .int xl3, .int xl4] [] (toS z T) = some (tR z r) := by
  unfold F43_89 at h
  refine Eq.trans (e43_89 ..) ?_
  exact (G43_94  _ _ _ hl1 _ _ hl2 _ _ hl3 _ _ hl4 _ _ (rfl : (1 : Int32) = nI 1) h)
noncomputable def F43_93  (l0 : Nat) (l1 : Nat) (l2 : Nat) (l3 : Nat) (l4 : Nat) (T : fS) : Option fR := (F43_94  l0 l1 l2 l3 l4 0 T)
theorem G43_93 {z : Option mm_O} {T : fS} {r : fR}  (l0 : Nat) (xl1 : Int32) (l1 : Nat) (hl1 : xl1 = nI l1) (xl2 : Int32) (l2 : Nat) (hl2 : xl2 = nI l2) (xl3 : Int32) (l3 : Nat) (hl3 : xl3 = nI l3) (xl4 : Int32) (l4 : Nat) (hl4 : xl4 = nI l4) (h : F43_93  l0 l1 l2 l3 l4 T = some r) : mm_L 43 93 [.ref l0, .int xl1, .int xl2, .int xl3, .int xl4] [] (toS z T) = some (tR z r) := by
  unfold F43_93 at h
  refine Eq.trans (e43_93 ..) ?_
  exact (G43_94  _ _ _ hl1 _ _ hl2 _ _ hl3 _ _ hl4 _ _ (rfl : (0 : Int32) = nI 0) h)
noncomputable def F43_85  (l0 : Nat) (l1 : Nat) (l2 : Nat) (l3 : Nat) (l4 : Nat) (s0 : Nat) (T : fS) : Option fR := (fif (ieq s0 4294967295) (F43_93  l0 l1 l2 l3 l4 T) (F43_89  l0 l1 l2 l3 l4 T))
theorem G43_85 {z : Option mm_O} {T : fS} {r : fR}  (l0 : Nat) (xl1 : Int32) (l1 : Nat) (hl1 : xl1 = nI l1) (xl2 : Int32) (l2 : Nat) (hl2 : xl2 = nI l2) (xl3 : Int32) (l3 : Nat) (hl3 : xl3 = nI l3) (xl4 : Int32) (l4 : Nat) (hl4 : xl4 = nI l4) (xs0 : Int32) (s0 : Nat) (hs0 : xs0 = nI s0) (h : F43_85  l0 l1 l2 l3 l4 s0 T = some r) : mm_L 43 85 [.ref l0, .int xl1, .int xl2, .int xl3, .int xl4] [.int xs0] (toS z T) = some (tR z r) := by
  unfold F43_85 at h
  refine Eq.trans (e43_85 ..) ?_
  exact (fb_if (cj_eq hs0 (by decide : (-1 : Int32) = nI 4294967295)) h (fun h1 => (G43_93  _ _ _ hl1 _ _ hl2 _ _ hl3 _ _ hl4 h1)) (fun h1 => (G43_89  _ _ _ hl1 _ _ hl2 _ _ hl3 _ _ hl4 h1)))
noncomputable def F43_79  (l0 : Nat) (l1 : Nat) (l2 : Nat) (l3 : Nat) (l4 : Nat) (T : fS) : Option fR := (fKi true (fif (fch T l0 6) (F45_0 l0 l4 T) none) (fun v0 T1 => F43_85  l0 l1 l2 l3 l4 v0 T1))
theorem G43_79 {z : Option mm_O} {T : fS} {r : fR}  (l0 : Nat) (xl1 : Int32) (l1 : Nat) (hl1 : xl1 = nI l1) (xl2 : Int32) (l2 : Nat) (hl2 : xl2 = nI l2) (xl3 : Int32) (l3 : Nat) (hl3 : xl3 = nI l3) (xl4 : Int32) (l4 : Nat) (hl4 : xl4 = nI l4) (h : F43_79  l0 l1 l2 l3 l4 T = some r) : mm_L 43 79 [.ref l0, .int xl1, .int xl2, .int xl3, .int xl4] [] (toS z T) = some (tR z r) := by
  unfold F43_79 at h
  refine Eq.trans (e43_79 ..) ?_
  exact (fb_K0i (fun _ q => fb_mo (y := 45) ow_45 q (fun q => GM45 _ _ _ hl4 q)) h (fun v0 T1 h2 => G43_85  _ _ _ hl1 _ _ hl2 _ _ hl3 _ _ hl4 _ _ rfl h2))
noncomputable def F43_75  (l0 : Nat) (l1 : Nat) (l2 : Nat) (l3 : Nat) (l4 : Nat) (s0 : Nat) (T : fS) : Option fR := (fif (ieq s0 4294967295) (F43_93  l0 l1 l2 l3 l4 T) (F43_79  l0 l1 l2 l3 l4 T))
theorem G43_75 {z : Option mm_O} {T : fS} {r : fR}  (l0 : Nat) (xl1 : Int32) (l1 : Nat) (hl1 : xl1 = nI l1) (xl2 : Int32) (l2 : Nat) (hl2 : xl2 = nI l2) (xl3 : Int32) (l3 : Nat) (hl3 : xl3 = nI l3) (xl4 : Int32) (l4 : Nat) (hl4 : xl4 = nI l4) (xs0 : Int32) (s0 : Nat) (hs0 : xs0 = nI s0) (h : F43_75  l0 l1 l2 l3 l4 s0 T = some r) : mm_L 43 75 [.ref l0, .int xl1, .int xl2, .int xl3, .int xl4] [.int xs0] (toS z T) = some (tR z r) := by
  unfold F43_75 at h
  refine Eq.trans (e43_75 ..) ?_
  exact (fb_if (cj_eq hs0 (by decide : (-1 : Int32) = nI 4294967295)) h (fun h1 => (G43_93  _ _ _ hl1 _ _ hl2 _ _ hl3 _ _ hl4 h1)) (fun h1 => (G43_79  _ _ _ hl1 _ _ hl2 _ _ hl3 _ _ hl4 h1)))
noncomputable def F43_70  (l0 : Nat) (l1 : Nat) (l2 : Nat) (l3 : Nat) (l4 : Nat) (T : fS) : Option fR := (fKi true (fif (fch T l0 6) (F45_0 l0 l3 T) none) (fun v0 T1 => F43_75  l0 l1 l2 l3 l4 v0 T1))
theorem G43_70 {z : Option mm_O} {T : fS} {r : fR}  (l0 : Nat) (xl1 : Int32) (l1 : Nat) (hl1 : xl1 = nI l1) (xl2 : Int32) (l2 : Nat) (hl2 : xl2 = nI l2) (xl3 : Int32) (l3 : Nat) (hl3 : xl3 = nI l3) (xl4 : Int32) (l4 : Nat) (hl4 : xl4 = nI l4) (h : F43_70  l0 l1 l2 l3 l4 T = some r) : mm_L 43 70 [.ref l0, .int xl1, .int xl2, .int xl3, .int xl4] [] (toS z T) = some (tR z r) := by
  unfold F43_70 at h
  refine Eq.trans (e43_70 ..) ?_
  exact (fb_K0i (fun _ q => fb_mo (y := 45) ow_45 q (fun q => GM45 _ _ _ hl3 q)) h (fun v0 T1 h2 => G43_75  _ _ _ hl1 _ _ hl2 _ _ hl3 _ _ hl4 _ _ rfl h2))
noncomputable def F43_95  (l0 : Nat) (l1 : Nat) (l2 : Nat) (l3 : Nat) (l4 : Nat) (T : fS) : Option fR := (some ((.inl (some (.inl 1)), T) : fR))
theorem G43_95 {z : Option mm_O} {T : fS} {r : fR}  (l0 : Nat) (xl1 : Int32) (l1 : Nat) (hl1 : xl1 = nI l1) (xl2 : Int32) (l2 : Nat) (hl2 : xl2 = nI l2) (xl3 : Int32) (l3 : Nat) (hl3 : xl3 = nI l3) (xl4 : Int32) (l4 : Nat) (hl4 : xl4 = nI l4) (h : F43_95  l0 l1 l2 l3 l4 T = some r) : mm_L 43 95 [.ref l0, .int xl1, .int xl2, .int xl3, .int xl4] [] (toS z T) = some (tR z r) := by
  unfold F43_95 at h
  refine Eq.trans (e43_95 ..) ?_
  exact (fb_pos (by decide) (fr_i (rfl : (1 : Int32) = nI 1) h))
noncomputable def F43_0  (l0 : Nat) (l1 : Nat) (l2 : Nat) (l3 : Nat) (l4 : Nat) (T : fS) : Option fR := (fif (ieq l1 1) (F43_32  l0 l1 l2 l3 l4 T) (fif (ieq l1 2) (F43_55  l0 l1 l2 l3 l4 T) (fif (ieq l1 3) (F43_55  l0 l1 l2 l3 l4 T) (fif (ieq l1 4) (F43_70  l0 l1 l2 l3 l4 T) (F43_95  l0 l1 l2 l3 l4 T)))))
theorem G43_0 {z : Option mm_O} {T : fS} {r : fR}  (l0 : Nat) (xl1 : Int32) (l1 : Nat) (hl1 : xl1 = nI l1) (xl2 : Int32) (l2 : Nat) (hl2 : xl2 = nI l2) (xl3 : Int32) (l3 : Nat) (hl3 : xl3 = nI l3) (xl4 : Int32) (l4 : Nat) (hl4 : xl4 = nI l4) (h : F43_0  l0 l1 l2 l3 l4 T = some r) : mm_L 43 0 [.ref l0, .int xl1, .int xl2, .int xl3, .int xl4] [] (toS z T) = some (tR z r) := by
  unfold F43_0 at h
  refine Eq.trans (e43_0 ..) ?_
  exact (fb_if (cj_eq hl1 (rfl : (1 : Int32) = nI 1)) h (fun h1 => (G43_32  _ _ _ hl1 _ _ hl2 _ _ hl3 _ _ hl4 h1)) (fun h1 => (fb_if (cj_eq hl1 (rfl : (2 : Int32) = nI 2)) h1 (fun h1 => (G43_55  _ _ _ hl1 _ _ hl2 _ _ hl3 _ _ hl4 h1)) (fun h1 => (fb_if (cj_eq hl1 (rfl : (3 : Int32) = nI 3)) h1 (fun h1 => (G43_55  _ _ _ hl1 _ _ hl2 _ _ hl3 _ _ hl4 h1)) (fun h1 => (fb_if (cj_eq hl1 (rfl : (4 : Int32) = nI 4)) h1 (fun h1 => (G43_70  _ _ _ hl1 _ _ hl2 _ _ hl3 _ _ hl4 h1)) (fun h1 => (G43_95  _ _ _ hl1 _ _ hl2 _ _ hl3 _ _ hl4 h1)))))))))
theorem GM43 {z : Option mm_O} {T : fS} {r : fR} (l0 : Nat) (xl1 : Int32) (l1 : Nat) (hl1 : xl1 = nI l1) (xl2 : Int32) (l2 : Nat) (hl2 : xl2 = nI l2) (xl3 : Int32) (l3 : Nat) (hl3 : xl3 = nI l3) (xl4 : Int32) (l4 : Nat) (hl4 : xl4 = nI l4) (h : F43_0 l0 l1 l2 l3 l4 T = some r) : mm_M 43 [.ref l0, .int xl1, .int xl2, .int xl3, .int xl4] (toS z T) = some (tR z r) := Eq.trans (M_43 ..) (G43_0 l0 xl1 l1 hl1 xl2 l2 hl2 xl3 l3 hl3 xl4 l4 hl4 h)
-- 53: HandArchive.requireItem
noncomputable def F53_14  (l0 : Nat) (l1 : Nat) (T : fS) : Option fR := (some ((.inr 2, fbm T 1 6) : fR))
theorem G53_14 {z : Option mm_O} {T : fS} {r : fR}  (l0 : Nat) (xl1 : Int32) (l1 : Nat) (hl1 : xl1 = nI l1) (h : F53_14  l0 l1 T = some r) : mm_L 53 14 [.ref l0, .int xl1] [] (toS z T) = some (tR z r) := by
  unfold F53_14 at h
  refine Eq.trans (e53_14 ..) ?_
  exact (fr_x h)
noncomputable def F53_24  (l0 : Nat) (l1 : Nat) (T : fS) : Option fR := (some ((.inl none, T) : fR))
theorem G53_24 {z : Option mm_O} {T : fS} {r : fR}  (l0 : Nat) (xl1 : Int32) (l1 : Nat) (hl1 : xl1 = nI l1) (h : F53_24  l0 l1 T = some r) : mm_L 53 24 [.ref l0, .int xl1] [] (toS z T) = some (tR z r) := by
  unfold F53_24 at h
  refine Eq.trans (e53_24 ..) ?_
  exact (fr_v h)
noncomputable def F53_11  (l0 : Nat) (l1 : Nat) (s0 : Nat) (T : fS) : Option fR := (fif (ieq s0 0) (F53_14  l0 l1 T) (F53_24  l0 l1 T))
theorem G53_11 {z : Option mm_O} {T : fS} {r : fR}  (l0 : Nat) (xl1 : Int32) (l1 : Nat) (hl1 : xl1 = nI l1) (xs0 : Int32) (s0 : Nat) (hs0 : xs0 = nI s0) (h : F53_11  l0 l1 s0 T = some r) : mm_L 53 11 [.ref l0, .int xl1] [.int xs0] (toS z T) = some (tR z r) := by
  unfold F53_11 at h
  refine Eq.trans (e53_11 ..) ?_
  exact (fb_if (cj_eq hs0 (rfl : (0 : Int32) = nI 0)) h (fun h1 => (G53_14  _ _ _ hl1 h1)) (fun h1 => (G53_24  _ _ _ hl1 h1)))
noncomputable def F53_8  (l0 : Nat) (l1 : Nat) (s0 : Nat) (s1 : Nat) (T : fS) : Option fR := (fKi false (F101_0 s1 s0 T) (fun v0 T1 => F53_11  l0 l1 v0 T1))
theorem G53_8 {z : Option mm_O} {T : fS} {r : fR}  (l0 : Nat) (xl1 : Int32) (l1 : Nat) (hl1 : xl1 = nI l1) (xs0 : Int32) (s0 : Nat) (hs0 : xs0 = nI s0) (xs1 : Int32) (s1 : Nat) (hs1 : xs1 = nI s1) (h : F53_8  l0 l1 s0 s1 T = some r) : mm_L 53 8 [.ref l0, .int xl1] [.int xs0, .int xs1] (toS z T) = some (tR z r) := by
  unfold F53_8 at h
  refine Eq.trans (e53_8 ..) ?_
  exact (fb_K2i (fun _ q => GM101 _ _ hs1 _ _ hs0 q) h (fun v0 T1 h2 => G53_11  _ _ _ hl1 _ _ rfl h2))
noncomputable def F53_5  (l0 : Nat) (l1 : Nat) (s0 : Nat) (s1 : Nat) (T : fS) : Option fR := (fbn (flz T s0) (fun v0 => F53_8  l0 l1 v0 s1 T))
theorem G53_5 {z : Option mm_O} {T : fS} {r : fR}  (l0 : Nat) (xl1 : Int32) (l1 : Nat) (hl1 : xl1 = nI l1) (s0 : Nat) (xs1 : Int32) (s1 : Nat) (hs1 : xs1 = nI s1) (h : F53_5  l0 l1 s0 s1 T = some r) : mm_L 53 5 [.ref l0, .int xl1] [.ref s0, .int xs1] (toS z T) = some (tR z r) := by
  unfold F53_5 at h
  refine Eq.trans (e53_5 ..) ?_
  exact (fb_n (fun _ q => flz_ok q) h (fun v0 h2 => G53_8  _ _ _ hl1 _ _ rfl _ _ hs1 h2))
noncomputable def F53_0  (l0 : Nat) (l1 : Nat) (T : fS) : Option fR := (fbv (fgr T l0 6 1) (fun v0 => F53_5  l0 l1 v0 l1 T) ((none : Option fR)))
theorem G53_0 {z : Option mm_O} {T : fS} {r : fR}  (l0 : Nat) (xl1 : Int32) (l1 : Nat) (hl1 : xl1 = nI l1) (h : F53_0  l0 l1 T = some r) : mm_L 53 0 [.ref l0, .int xl1] [] (toS z T) = some (tR z r) := by
  unfold F53_0 at h
  refine Eq.trans (e53_0 ..) ?_
  exact (fb_v (fun _ q => fgr_ok q) h (fun v0 h2 => G53_5  _ _ _ hl1 _ _ _ hl1 h2) (fun h2 => fr_n h2))
theorem GM53 {z : Option mm_O} {T : fS} {r : fR} (l0 : Nat) (xl1 : Int32) (l1 : Nat) (hl1 : xl1 = nI l1) (h : F53_0 l0 l1 T = some r) : mm_M 53 [.ref l0, .int xl1] (toS z T) = some (tR z r) := Eq.trans (M_53 ..) (G53_0 l0 xl1 l1 hl1 h)
-- 59: HandArchive.applyRules
noncomputable def F59_36 (k2 : Nat → Nat → fS → Option fR) (l0 : Nat) (l1 : Nat) (l2 : Nat) (T : fS) : Option fR := (k2 l0 (iA l1 1) T)
theorem G59_36 {z : Option mm_O} {T : fS} {r : fR} (k2 : Nat → Nat → fS → Option fR) (hk2 : ∀ (l0 : Nat) (xl1 : Int32) (l1 : Nat) (hl1 : xl1 = nI l1) (ul2 : Value) (T : fS) (r : fR), k2 l0 l1 T = some r → mm_L 59 2 [.ref l0, .int xl1, ul2] [] (toS z T) = some (tR z r)) (l0 : Nat) (xl1 : Int32) (l1 : Nat) (hl1 : xl1 = nI l1) (l2 : Nat) (h : F59_36 k2 l0 l1 l2 T = some r) : mm_L 59 36 [.ref l0, .int xl1, .ref l2] [] (toS z T) = some (tR z r) := by
  unfold F59_36 at h
  refine Eq.trans (e59_36 ..) ?_
  exact (hk2 _ _ _ (iA_ok hl1 (rfl : (1 : Int32) = nI 1)) _ _ _ h)
noncomputable def F59_33 (k2 : Nat → Nat → fS → Option fR) (l0 : Nat) (l1 : Nat) (l2 : Nat) (s0 : Nat) (s1 : Nat) (T : fS) : Option fR := (fKv true (fif (fch T s1 1) (F7_0 s1 s0 T) none) (fun T1 => F59_36 k2 l0 l1 l2 T1))
theorem G59_33 {z : Option mm_O} {T : fS} {r : fR} (k2 : Nat → Nat → fS → Option fR) (hk2 : ∀ (l0 : Nat) (xl1 : Int32) (l1 : Nat) (hl1 : xl1 = nI l1) (ul2 : Value) (T : fS) (r : fR), k2 l0 l1 T = some r → mm_L 59 2 [.ref l0, .int xl1, ul2] [] (toS z T) = some (tR z r)) (l0 : Nat) (xl1 : Int32) (l1 : Nat) (hl1 : xl1 = nI l1) (l2 : Nat) (s0 : Nat) (s1 : Nat) (h : F59_33 k2 l0 l1 l2 s0 s1 T = some r) : mm_L 59 33 [.ref l0, .int xl1, .ref l2] [.ref s0, .ref s1] (toS z T) = some (tR z r) := by
  unfold F59_33 at h
  refine Eq.trans (e59_33 ..) ?_
  exact (fb_K0v (fun _ q => fb_mo (y := 7) ow_7 q (fun q => GM7 _ _ q)) h (fun T1 h2 => G59_36 k2 hk2 _ _ _ hl1 _ h2))
noncomputable def F59_29 (k2 : Nat → Nat → fS → Option fR) (l0 : Nat) (l1 : Nat) (l2 : Nat) (s0 : Nat) (T : fS) : Option fR := (fbv (fgr T l2 2 3) (fun v0 => F59_33 k2 l0 l1 l2 v0 s0 T) ((none : Option fR)))
theorem G59_29 {z : Option mm_O} {T : fS} {r : fR} (k2 : Nat → Nat → fS → Option fR) (hk2 : ∀ (l0 : Nat) (xl1 : Int32) (l1 : Nat) (hl1 : xl1 = nI l1) (ul2 : Value) (T : fS) (r : fR), k2 l0 l1 T = some r → mm_L 59 2 [.ref l0, .int xl1, ul2] [] (toS z T) = some (tR z r)) (l0 : Nat) (xl1 : Int32) (l1 : Nat) (hl1 : xl1 = nI l1) (l2 : Nat) (s0 : Nat) (h : F59_29 k2 l0 l1 l2 s0 T = some r) : mm_L 59 29 [.ref l0, .int xl1, .ref l2] [.ref s0] (toS z T) = some (tR z r) := by
  unfold F59_29 at h
  refine Eq.trans (e59_29 ..) ?_
  exact (fb_v (fun _ q => fgr_ok q) h (fun v0 h2 => G59_33 k2 hk2 _ _ _ hl1 _ _ _ h2) (fun h2 => fr_n h2))
noncomputable def F59_24 (k2 : Nat → Nat → fS → Option fR) (l0 : Nat) (l1 : Nat) (s0 : Nat) (T : fS) : Option fR := (fbv (fgr T s0 2 4) (fun v0 => F59_29 k2 l0 l1 s0 v0 T) ((none : Option fR)))
theorem G59_24 {z : Option mm_O} {T : fS} {r : fR} (k2 : Nat → Nat → fS → Option fR) (hk2 : ∀ (l0 : Nat) (xl1 : Int32) (l1 : Nat) (hl1 : xl1 = nI l1) (ul2 : Value) (T : fS) (r : fR), k2 l0 l1 T = some r → mm_L 59 2 [.ref l0, .int xl1, ul2] [] (toS z T) = some (tR z r)) (l0 : Nat) (xl1 : Int32) (l1 : Nat) (hl1 : xl1 = nI l1) (ul2 : Value) (s0 : Nat) (h : F59_24 k2 l0 l1 s0 T = some r) : mm_L 59 24 [.ref l0, .int xl1, ul2] [.ref s0] (toS z T) = some (tR z r) := by
  unfold F59_24 at h
  refine Eq.trans (e59_24 ..) ?_
  exact (fb_v (fun _ q => fgr_ok q) h (fun v0 h2 => G59_29 k2 hk2 _ _ _ hl1 _ _ h2) (fun h2 => fr_n h2))
noncomputable def F59_21 (k2 : Nat → Nat → fS → Option fR) (l0 : Nat) (l1 : Nat) (s0 : Nat) (T : fS) : Option fR := (fif (fch T s0 2) (F59_24 k2 l0 l1 s0 T) none)
theorem G59_21 {z : Option mm_O} {T : fS} {r : fR} (k2 : Nat → Nat → fS → Option fR) (hk2 : ∀ (l0 : Nat) (xl1 : Int32) (l1 : Nat) (hl1 : xl1 = nI l1) (ul2 : Value) (T : fS) (r : fR), k2 l0 l1 T = some r → mm_L 59 2 [.ref l0, .int xl1, ul2] [] (toS z T) = some (tR z r)) (l0 : Nat) (xl1 : Int32) (l1 : Nat) (hl1 : xl1 = nI l1) (ul2 : Value) (s0 : Nat) (h : F59_21 k2 l0 l1 s0 T = some r) : mm_L 59 21 [.ref l0, .int xl1, ul2] [.ref s0] (toS z T) = some (tR z r) := by
  unfold F59_21 at h
  refine Eq.trans (e59_21 ..) ?_
  exact (fb_c h (fun h2 => G59_24 k2 hk2 _ _ _ hl1 _ _ h2))
noncomputable def F59_17 (k2 : Nat → Nat → fS → Option fR) (l0 : Nat) (l1 : Nat) (s0 : Nat) (T : fS) : Option fR := (fbn (flg T s0 l1) (fun v0 => F59_21 k2 l0 l1 v0 T))
theorem G59_17 {z : Option mm_O} {T : fS} {r : fR} (k2 : Nat → Nat → fS → Option fR) (hk2 : ∀ (l0 : Nat) (xl1 : Int32) (l1 : Nat) (hl1 : xl1 = nI l1) (ul2 : Value) (T : fS) (r : fR), k2 l0 l1 T = some r → mm_L 59 2 [.ref l0, .int xl1, ul2] [] (toS z T) = some (tR z r)) (l0 : Nat) (xl1 : Int32) (l1 : Nat) (hl1 : xl1 = nI l1) (ul2 : Value) (s0 : Nat) (h : F59_17 k2 l0 l1 s0 T = some r) : mm_L 59 17 [.ref l0, .int xl1, ul2] [.ref s0] (toS z T) = some (tR z r) := by
  unfold F59_17 at h
  refine Eq.trans (e59_17 ..) ?_
  exact (fb_g (fun _ q => by rw [hl1]; exact flg_ok q) h (fun v0 h2 => G59_21 k2 hk2 _ _ _ hl1 _ _ h2))
noncomputable def F59_13 (k2 : Nat → Nat → fS → Option fR) (l0 : Nat) (l1 : Nat) (T : fS) : Option fR := (fbv (fgr T l0 6 1) (fun v0 => F59_17 k2 l0 l1 v0 T) ((none : Option fR)))
theorem G59_13 {z : Option mm_O} {T : fS} {r : fR} (k2 : Nat → Nat → fS → Option fR) (hk2 : ∀ (l0 : Nat) (xl1 : Int32) (l1 : Nat) (hl1 : xl1 = nI l1) (ul2 : Value) (T : fS) (r : fR), k2 l0 l1 T = some r → mm_L 59 2 [.ref l0, .int xl1, ul2] [] (toS z T) = some (tR z r)) (l0 : Nat) (xl1 : Int32) (l1 : Nat) (hl1 : xl1 = nI l1) (ul2 : Value) (h : F59_13 k2 l0 l1 T = some r) : mm_L 59 13 [.ref l0, .int xl1, ul2] [] (toS z T) = some (tR z r) := by
  unfold F59_13 at h
  refine Eq.trans (e59_13 ..) ?_
  exact (fb_v (fun _ q => fgr_ok q) h (fun v0 h2 => G59_17 k2 hk2 _ _ _ hl1 _ _ h2) (fun h2 => fr_n h2))
noncomputable def F59_70 (k44 : Nat → Nat → fS → Option fR) (l0 : Nat) (l1 : Nat) (T : fS) : Option fR := (k44 l0 (iA l1 1) T)
theorem G59_70 {z : Option mm_O} {T : fS} {r : fR} (k44 : Nat → Nat → fS → Option fR) (hk44 : ∀ (l0 : Nat) (xl1 : Int32) (l1 : Nat) (hl1 : xl1 = nI l1) (ul2 : Value) (T : fS) (r : fR), k44 l0 l1 T = some r → mm_L 59 44 [.ref l0, .int xl1, ul2] [] (toS z T) = some (tR z r)) (l0 : Nat) (xl1 : Int32) (l1 : Nat) (hl1 : xl1 = nI l1) (ul2 : Value) (h : F59_70 k44 l0 l1 T = some r) : mm_L 59 70 [.ref l0, .int xl1, ul2] [] (toS z T) = some (tR z r) := by
  unfold F59_70 at h
  refine Eq.trans (e59_70 ..) ?_
  exact (hk44 _ _ _ (iA_ok hl1 (rfl : (1 : Int32) = nI 1)) _ _ _ h)
noncomputable def F59_67 (k44 : Nat → Nat → fS → Option fR) (l0 : Nat) (l1 : Nat) (s0 : Nat) (s1 : Nat) (T : fS) : Option fR := (fKv true (fif (fch T s1 6) (F60_0 s1 s0 T) none) (fun T1 => F59_70 k44 l0 l1 T1))
theorem G59_67 {z : Option mm_O} {T : fS} {r : fR} (k44 : Nat → Nat → fS → Option fR) (hk44 : ∀ (l0 : Nat) (xl1 : Int32) (l1 : Nat) (hl1 : xl1 = nI l1) (ul2 : Value) (T : fS) (r : fR), k44 l0 l1 T = some r → mm_L 59 44 [.ref l0, .int xl1, ul2] [] (toS z T) = some (tR z r)) (l0 : Nat) (xl1 : Int32) (l1 : Nat) (hl1 : xl1 = nI l1) (ul2 : Value) (s0 : Nat) (s1 : Nat) (h : F59_67 k44 l0 l1 s0 s1 T = some r) : mm_L 59 67 [.ref l0, .int xl1, ul2] [.ref s0, .ref s1] (toS z T) = some (tR z r) := by
  unfold F59_67 at h
  refine Eq.trans (e59_67 ..) ?_
  exact (fb_K0v (fun _ q => fb_mo (y := 60) ow_60 q (fun q => GM60 _ _ q)) h (fun T1 h2 => G59_70 k44 hk44 _ _ _ hl1 _ h2))
noncomputable def F59_64 (k44 : Nat → Nat → fS → Option fR) (l0 : Nat) (l1 : Nat) (s0 : Nat) (s1 : Nat) (T : fS) : Option fR := (fif (fch T s0 4) (F59_67 k44 l0 l1 s0 s1 T) none)
theorem G59_64 {z : Option mm_O} {T : fS} {r : fR} (k44 : Nat → Nat → fS → Option fR) (hk44 : ∀ (l0 : Nat) (xl1 : Int32) (l1 : Nat) (hl1 : xl1 = nI l1) (ul2 : Value) (T : fS) (r : fR), k44 l0 l1 T = some r → mm_L 59 44 [.ref l0, .int xl1, ul2] [] (toS z T) = some (tR z r)) (l0 : Nat) (xl1 : Int32) (l1 : Nat) (hl1 : xl1 = nI l1) (ul2 : Value) (s0 : Nat) (s1 : Nat) (h : F59_64 k44 l0 l1 s0 s1 T = some r) : mm_L 59 64 [.ref l0, .int xl1, ul2] [.ref s0, .ref s1] (toS z T) = some (tR z r) := by
  unfold F59_64 at h
  refine Eq.trans (e59_64 ..) ?_
  exact (fb_c h (fun h2 => G59_67 k44 hk44 _ _ _ hl1 _ _ _ h2))
noncomputable def F59_60 (k44 : Nat → Nat → fS → Option fR) (l0 : Nat) (l1 : Nat) (s0 : Nat) (s1 : Nat) (T : fS) : Option fR := (fbn (flg T s0 l1) (fun v0 => F59_64 k44 l0 l1 v0 s1 T))
theorem G59_60 {z : Option mm_O} {T : fS} {r : fR} (k44 : Nat → Nat → fS → Option fR) (hk44 : ∀ (l0 : Nat) (xl1 : Int32) (l1 : Nat) (hl1 : xl1 = nI l1) (ul2 : Value) (T : fS) (r : fR), k44 l0 l1 T = some r → mm_L 59 44 [.ref l0, .int xl1, ul2] [] (toS z T) = some (tR z r)) (l0 : Nat) (xl1 : Int32) (l1 : Nat) (hl1 : xl1 = nI l1) (ul2 : Value) (s0 : Nat) (s1 : Nat) (h : F59_60 k44 l0 l1 s0 s1 T = some r) : mm_L 59 60 [.ref l0, .int xl1, ul2] [.ref s0, .ref s1] (toS z T) = some (tR z r) := by
  unfold F59_60 at h
  refine Eq.trans (e59_60 ..) ?_
  exact (fb_g (fun _ q => by rw [hl1]; exact flg_ok q) h (fun v0 h2 => G59_64 k44 hk44 _ _ _ hl1 _ _ _ h2))
noncomputable def F59_55 (k44 : Nat → Nat → fS → Option fR) (l0 : Nat) (l1 : Nat) (T : fS) : Option fR := (fbv (fgr T l0 6 3) (fun v0 => F59_60 k44 l0 l1 v0 l0 T) ((none : Option fR)))
theorem G59_55 {z : Option mm_O} {T : fS} {r : fR} (k44 : Nat → Nat → fS → Option fR) (hk44 : ∀ (l0 : Nat) (xl1 : Int32) (l1 : Nat) (hl1 : xl1 = nI l1) (ul2 : Value) (T : fS) (r : fR), k44 l0 l1 T = some r → mm_L 59 44 [.ref l0, .int xl1, ul2] [] (toS z T) = some (tR z r)) (l0 : Nat) (xl1 : Int32) (l1 : Nat) (hl1 : xl1 = nI l1) (ul2 : Value) (h : F59_55 k44 l0 l1 T = some r) : mm_L 59 55 [.ref l0, .int xl1, ul2] [] (toS z T) = some (tR z r) := by
  unfold F59_55 at h
  refine Eq.trans (e59_55 ..) ?_
  exact (fb_v (fun _ q => fgr_ok q) h (fun v0 h2 => G59_60 k44 hk44 _ _ _ hl1 _ _ _ h2) (fun h2 => fr_n h2))
noncomputable def F59_76  (l0 : Nat) (l1 : Nat) (T : fS) : Option fR := (some ((.inl none, T) : fR))
theorem G59_76 {z : Option mm_O} {T : fS} {r : fR}  (l0 : Nat) (xl1 : Int32) (l1 : Nat) (hl1 : xl1 = nI l1) (ul2 : Value) (h : F59_76  l0 l1 T = some r) : mm_L 59 76 [.ref l0, .int xl1, ul2] [] (toS z T) = some (tR z r) := by
  unfold F59_76 at h
  refine Eq.trans (e59_76 ..) ?_
  exact (fr_v h)
noncomputable def F59_52 (k44 : Nat → Nat → fS → Option fR) (l0 : Nat) (l1 : Nat) (s0 : Nat) (s1 : Nat) (T : fS) : Option fR := (fif (ile s0 s1) (F59_76  l0 l1 T) (F59_55 k44 l0 l1 T))
theorem G59_52 {z : Option mm_O} {T : fS} {r : fR} (k44 : Nat → Nat → fS → Option fR) (hk44 : ∀ (l0 : Nat) (xl1 : Int32) (l1 : Nat) (hl1 : xl1 = nI l1) (ul2 : Value) (T : fS) (r : fR), k44 l0 l1 T = some r → mm_L 59 44 [.ref l0, .int xl1, ul2] [] (toS z T) = some (tR z r)) (l0 : Nat) (xl1 : Int32) (l1 : Nat) (hl1 : xl1 = nI l1) (ul2 : Value) (xs0 : Int32) (s0 : Nat) (hs0 : xs0 = nI s0) (xs1 : Int32) (s1 : Nat) (hs1 : xs1 = nI s1) (h : F59_52 k44 l0 l1 s0 s1 T = some r) : mm_L 59 52 [.ref l0, .int xl1, ul2] [.int xs0, .int xs1] (toS z T) = some (tR z r) := by
  unfold F59_52 at h
  refine Eq.trans (e59_52 ..) ?_
  exact (fb_if (cj_le hs0 hs1) h (fun h1 => (G59_76  _ _ _ hl1 _ h1)) (fun h1 => (G59_55 k44 hk44 _ _ _ hl1 _ h1)))
noncomputable def F59_49 (k44 : Nat → Nat → fS → Option fR) (l0 : Nat) (l1 : Nat) (s0 : Nat) (s1 : Nat) (T : fS) : Option fR := (fbn (flz T s0) (fun v0 => F59_52 k44 l0 l1 v0 s1 T))
theorem G59_49 {z : Option mm_O} {T : fS} {r : fR} (k44 : Nat → Nat → fS → Option fR) (hk44 : ∀ (l0 : Nat) (xl1 : Int32) (l1 : Nat) (hl1 : xl1 = nI l1) (ul2 : Value) (T : fS) (r : fR), k44 l0 l1 T = some r → mm_L 59 44 [.ref l0, .int xl1, ul2] [] (toS z T) = some (tR z r)) (l0 : Nat) (xl1 : Int32) (l1 : Nat) (hl1 : xl1 = nI l1) (ul2 : Value) (s0 : Nat) (xs1 : Int32) (s1 : Nat) (hs1 : xs1 = nI s1) (h : F59_49 k44 l0 l1 s0 s1 T = some r) : mm_L 59 49 [.ref l0, .int xl1, ul2] [.ref s0, .int xs1] (toS z T) = some (tR z r) := by
  unfold F59_49 at h
  refine Eq.trans (e59_49 ..) ?_
  exact (fb_n (fun _ q => flz_ok q) h (fun v0 h2 => G59_52 k44 hk44 _ _ _ hl1 _ _ _ rfl _ _ hs1 h2))
noncomputable def F59_44 (k44 : Nat → Nat → fS → Option fR) (l0 : Nat) (l1 : Nat) (T : fS) : Option fR := (fbv (fgr T l0 6 3) (fun v0 => F59_49 k44 l0 l1 v0 l1 T) ((none : Option fR)))
theorem G59_44 {z : Option mm_O} {T : fS} {r : fR} (k44 : Nat → Nat → fS → Option fR) (hk44 : ∀ (l0 : Nat) (xl1 : Int32) (l1 : Nat) (hl1 : xl1 = nI l1) (ul2 : Value) (T : fS) (r : fR), k44 l0 l1 T = some r → mm_L 59 44 [.ref l0, .int xl1, ul2] [] (toS z T) = some (tR z r)) (l0 : Nat) (xl1 : Int32) (l1 : Nat) (hl1 : xl1 = nI l1) (ul2 : Value) (h : F59_44 k44 l0 l1 T = some r) : mm_L 59 44 [.ref l0, .int xl1, ul2] [] (toS z T) = some (tR z r) := by
  unfold F59_44 at h
  refine Eq.trans (e59_44 ..) ?_
  exact (fb_v (fun _ q => fgr_ok q) h (fun v0 h2 => G59_49 k44 hk44 _ _ _ hl1 _ _ _ _ hl1 h2) (fun h2 => fr_n h2))
noncomputable def H59_44  (n : Nat) : Nat → Nat → fS → Option fR := Nat.rec (motive := fun _ => Nat → Nat → fS → Option fR) (fun _ _ _ => none) (fun _ ih => F59_44 ih) n
theorem HG59_44 {z : Option mm_O}  : ∀ (n : Nat) (l0 : Nat) (xl1 : Int32) (l1 : Nat) (hl1 : xl1 = nI l1) (ul2 : Value) {T : fS} {r : fR}, H59_44  n l0 l1 T = some r → mm_L 59 44 [.ref l0, .int xl1, ul2] [] (toS z T) = some (tR z r) := by
  intro n
  induction n with
  | zero =>
    intro l0 xl1 l1 hl1 ul2 T r h
    exact fr_n h
  | succ n ih =>
    intro l0 xl1 l1 hl1 ul2 T r h
    exact G59_44 (H59_44  n) (fun l0 xl1 l1 hl1 ul2 T r h => ih l0 xl1 l1 hl1 ul2 h) l0 xl1 l1 hl1 ul2 h
noncomputable def F59_42  (l0 : Nat) (l1 : Nat) (T : fS) : Option fR := (H59_44  300 l0 0 T)
theorem G59_42 {z : Option mm_O} {T : fS} {r : fR}  (l0 : Nat) (xl1 : Int32) (l1 : Nat) (hl1 : xl1 = nI l1) (ul2 : Value) (h : F59_42  l0 l1 T = some r) : mm_L 59 42 [.ref l0, .int xl1, ul2] [] (toS z T) = some (tR z r) := by
  unfold F59_42 at h
  refine Eq.trans (e59_42 ..) ?_
  exact (HG59_44  300 _ _ _ (rfl : (0 : Int32) = nI 0) _ h)
noncomputable def F59_10 (k2 : Nat → Nat → fS → Option fR) (l0 : Nat) (l1 : Nat) (s0 : Nat) (s1 : Nat) (T : fS) : Option fR := (fif (ile s0 s1) (F59_42  l0 l1 T) (F59_13 k2 l0 l1 T))
theorem G59_10 {z : Option mm_O} {T : fS} {r : fR} (k2 : Nat → Nat → fS → Option fR) (hk2 : ∀ (l0 : Nat) (xl1 : Int32) (l1 : Nat) (hl1 : xl1 = nI l1) (ul2 : Value) (T : fS) (r : fR), k2 l0 l1 T = some r → mm_L 59 2 [.ref l0, .int xl1, ul2] [] (toS z T) = some (tR z r)) (l0 : Nat) (xl1 : Int32) (l1 : Nat) (hl1 : xl1 = nI l1) (ul2 : Value) (xs0 : Int32) (s0 : Nat) (hs0 : xs0 = nI s0) (xs1 : Int32) (s1 : Nat) (hs1 : xs1 = nI s1) (h : F59_10 k2 l0 l1 s0 s1 T = some r) : mm_L 59 10 [.ref l0, .int xl1, ul2] [.int xs0, .int xs1] (toS z T) = some (tR z r) := by
  unfold F59_10 at h
  refine Eq.trans (e59_10 ..) ?_
  exact (fb_if (cj_le hs0 hs1) h (fun h1 => (G59_42  _ _ _ hl1 _ h1)) (fun h1 => (G59_13 k2 hk2 _ _ _ hl1 _ h1)))
noncomputable def F59_7 (k2 : Nat → Nat → fS → Option fR) (l0 : Nat) (l1 : Nat) (s0 : Nat) (s1 : Nat) (T : fS) : Option fR := (fbn (flz T s0) (fun v0 => F59_10 k2 l0 l1 v0 s1 T))
theorem G59_7 {z : Option mm_O} {T : fS} {r : fR} (k2 : Nat → Nat → fS → Option fR) (hk2 : ∀ (l0 : Nat) (xl1 : Int32) (l1 : Nat) (hl1 : xl1 = nI l1) (ul2 : Value) (T : fS) (r : fR), k2 l0 l1 T = some r → mm_L 59 2 [.ref l0, .int xl1, ul2] [] (toS z T) = some (tR z r)) (l0 : Nat) (xl1 : Int32) (l1 : Nat) (hl1 : xl1 = nI l1) (ul2 : Value) (s0 : Nat) (xs1 : Int32) (s1 : Nat) (hs1 : xs1 = nI s1) (h : F59_7 k2 l0 l1 s0 s1 T = some r) : mm_L 59 7 [.ref l0, .int xl1, ul2] [.ref s0, .int xs1] (toS z T) = some (tR z r) := by
  unfold F59_7 at h
  refine Eq.trans (e59_7 ..) ?_
  exact (fb_n (fun _ q => flz_ok q) h (fun v0 h2 => G59_10 k2 hk2 _ _ _ hl1 _ _ _ rfl _ _ hs1 h2))
noncomputable def F59_2 (k2 : Nat → Nat → fS → Option fR) (l0 : Nat) (l1 : Nat) (T : fS) : Option fR := (fbv (fgr T l0 6 1) (fun v0 => F59_7 k2 l0 l1 v0 l1 T) ((none : Option fR)))
theorem G59_2 {z : Option mm_O} {T : fS} {r : fR} (k2 : Nat → Nat → fS → Option fR) (hk2 : ∀ (l0 : Nat) (xl1 : Int32) (l1 : Nat) (hl1 : xl1 = nI l1) (ul2 : Value) (T : fS) (r : fR), k2 l0 l1 T = some r → mm_L 59 2 [.ref l0, .int xl1, ul2] [] (toS z T) = some (tR z r)) (l0 : Nat) (xl1 : Int32) (l1 : Nat) (hl1 : xl1 = nI l1) (ul2 : Value) (h : F59_2 k2 l0 l1 T = some r) : mm_L 59 2 [.ref l0, .int xl1, ul2] [] (toS z T) = some (tR z r) := by
  unfold F59_2 at h
  refine Eq.trans (e59_2 ..) ?_
  exact (fb_v (fun _ q => fgr_ok q) h (fun v0 h2 => G59_7 k2 hk2 _ _ _ hl1 _ _ _ _ hl1 h2) (fun h2 => fr_n h2))
noncomputable def H59_2  (n : Nat) : Nat → Nat → fS → Option fR := Nat.rec (motive := fun _ => Nat → Nat → fS → Option fR) (fun _ _ _ => none) (fun _ ih => F59_2 ih) n
theorem HG59_2 {z : Option mm_O}  : ∀ (n : Nat) (l0 : Nat) (xl1 : Int32) (l1 : Nat) (hl1 : xl1 = nI l1) (ul2 : Value) {T : fS} {r : fR}, H59_2  n l0 l1 T = some r → mm_L 59 2 [.ref l0, .int xl1, ul2] [] (toS z T) = some (tR z r) := by
  intro n
  induction n with
  | zero =>
    intro l0 xl1 l1 hl1 ul2 T r h
    exact fr_n h
  | succ n ih =>
    intro l0 xl1 l1 hl1 ul2 T r h
    exact G59_2 (H59_2  n) (fun l0 xl1 l1 hl1 ul2 T r h => ih l0 xl1 l1 hl1 ul2 h) l0 xl1 l1 hl1 ul2 h
noncomputable def F59_0  (l0 : Nat) (T : fS) : Option fR := (H59_2  300 l0 0 T)
theorem G59_0 {z : Option mm_O} {T : fS} {r : fR}  (l0 : Nat) (ul1 : Value) (ul2 : Value) (h : F59_0  l0 T = some r) : mm_L 59 0 [.ref l0, ul1, ul2] [] (toS z T) = some (tR z r) := by
  unfold F59_0 at h
  refine Eq.trans (e59_0 ..) ?_
  exact (HG59_2  300 _ _ _ (rfl : (0 : Int32) = nI 0) _ h)
theorem GM59 {z : Option mm_O} {T : fS} {r : fR} (l0 : Nat) (h : F59_0 l0 T = some r) : mm_M 59 [.ref l0] (toS z T) = some (tR z r) := Eq.trans (M_59 ..) (G59_0 l0 _ _ h)
-- 88: HandArchive.persons
noncomputable def F88_14  (l0 : Nat) (l1 : Nat) (T : fS) : Option fR := (some ((.inr 2, fbm T 1 6) : fR))
theorem G88_14 {z : Option mm_O} {T : fS} {r : fR}  (l0 : Nat) (xl1 : Int32) (l1 : Nat) (hl1 : xl1 = nI l1) (ul2 : Value) (h : F88_14  l0 l1 T = some r) : mm_L 88 14 [.ref l0, .int xl1, ul2] [] (toS z T) = some (tR z r) := by
  unfold F88_14 at h
  refine Eq.trans (e88_14 ..) ?_
  exact (fr_x h)
noncomputable def F88_52  (l0 : Nat) (l1 : Nat) (l2 : Nat) (s0 : Nat) (T : fS) : Option fR := (some ((.inl (some (.inl s0)), T) : fR))
theorem G88_52 {z : Option mm_O} {T : fS} {r : fR}  (l0 : Nat) (xl1 : Int32) (l1 : Nat) (hl1 : xl1 = nI l1) (l2 : Nat) (xs0 : Int32) (s0 : Nat) (hs0 : xs0 = nI s0) (h : F88_52  l0 l1 l2 s0 T = some r) : mm_L 88 52 [.ref l0, .int xl1, .ref l2] [.int xs0] (toS z T) = some (tR z r) := by
  unfold F88_52 at h
  refine Eq.trans (e88_52 ..) ?_
  exact (fr_i hs0 h)
noncomputable def F88_44  (l0 : Nat) (l1 : Nat) (l2 : Nat) (T : fS) : Option fR := (F88_52  l0 l1 l2 0 T)
theorem G88_44 {z : Option mm_O} {T : fS} {r : fR}  (l0 : Nat) (xl1 : Int32) (l1 : Nat) (hl1 : xl1 = nI l1) (l2 : Nat) (h : F88_44  l0 l1 l2 T = some r) : mm_L 88 44 [.ref l0, .int xl1, .ref l2] [] (toS z T) = some (tR z r) := by
  unfold F88_44 at h
  refine Eq.trans (e88_44 ..) ?_
  exact (G88_52  _ _ _ hl1 _ _ _ (rfl : (0 : Int32) = nI 0) h)
noncomputable def F88_48  (l0 : Nat) (l1 : Nat) (l2 : Nat) (T : fS) : Option fR := (fbn (fgi T l2 0 0) (fun v0 => F88_52  l0 l1 l2 v0 T))
theorem G88_48 {z : Option mm_O} {T : fS} {r : fR}  (l0 : Nat) (xl1 : Int32) (l1 : Nat) (hl1 : xl1 = nI l1) (l2 : Nat) (h : F88_48  l0 l1 l2 T = some r) : mm_L 88 48 [.ref l0, .int xl1, .ref l2] [] (toS z T) = some (tR z r) := by
  unfold F88_48 at h
  refine Eq.trans (e88_48 ..) ?_
  exact (fb_n (fun _ q => fgi_ok q) h (fun v0 h2 => G88_52  _ _ _ hl1 _ _ _ rfl h2))
noncomputable def F88_41  (l0 : Nat) (l1 : Nat) (l2 : Nat) (s0 : Nat) (T : fS) : Option fR := (fif (ieq s0 0) (F88_48  l0 l1 l2 T) (F88_44  l0 l1 l2 T))
theorem G88_41 {z : Option mm_O} {T : fS} {r : fR}  (l0 : Nat) (xl1 : Int32) (l1 : Nat) (hl1 : xl1 = nI l1) (l2 : Nat) (xs0 : Int32) (s0 : Nat) (hs0 : xs0 = nI s0) (h : F88_41  l0 l1 l2 s0 T = some r) : mm_L 88 41 [.ref l0, .int xl1, .ref l2] [.int xs0] (toS z T) = some (tR z r) := by
  unfold F88_41 at h
  refine Eq.trans (e88_41 ..) ?_
  exact (fb_if (cj_eq hs0 (rfl : (0 : Int32) = nI 0)) h (fun h1 => (G88_48  _ _ _ hl1 _ h1)) (fun h1 => (G88_44  _ _ _ hl1 _ h1)))
noncomputable def F88_36  (l0 : Nat) (l1 : Nat) (s0 : Nat) (T : fS) : Option fR := (fbn (fgi T s0 0 5) (fun v0 => F88_41  l0 l1 s0 v0 T))
theorem G88_36 {z : Option mm_O} {T : fS} {r : fR}  (l0 : Nat) (xl1 : Int32) (l1 : Nat) (hl1 : xl1 = nI l1) (ul2 : Value) (s0 : Nat) (h : F88_36  l0 l1 s0 T = some r) : mm_L 88 36 [.ref l0, .int xl1, ul2] [.ref s0] (toS z T) = some (tR z r) := by
  unfold F88_36 at h
  refine Eq.trans (e88_36 ..) ?_
  exact (fb_n (fun _ q => fgi_ok q) h (fun v0 h2 => G88_41  _ _ _ hl1 _ _ _ rfl h2))
noncomputable def F88_33  (l0 : Nat) (l1 : Nat) (s0 : Nat) (T : fS) : Option fR := (fif (fch T s0 0) (F88_36  l0 l1 s0 T) none)
theorem G88_33 {z : Option mm_O} {T : fS} {r : fR}  (l0 : Nat) (xl1 : Int32) (l1 : Nat) (hl1 : xl1 = nI l1) (ul2 : Value) (s0 : Nat) (h : F88_33  l0 l1 s0 T = some r) : mm_L 88 33 [.ref l0, .int xl1, ul2] [.ref s0] (toS z T) = some (tR z r) := by
  unfold F88_33 at h
  refine Eq.trans (e88_33 ..) ?_
  exact (fb_c h (fun h2 => G88_36  _ _ _ hl1 _ _ h2))
noncomputable def F88_29  (l0 : Nat) (l1 : Nat) (s0 : Nat) (T : fS) : Option fR := (fbn (flg T s0 l1) (fun v0 => F88_33  l0 l1 v0 T))
theorem G88_29 {z : Option mm_O} {T : fS} {r : fR}  (l0 : Nat) (xl1 : Int32) (l1 : Nat) (hl1 : xl1 = nI l1) (ul2 : Value) (s0 : Nat) (h : F88_29  l0 l1 s0 T = some r) : mm_L 88 29 [.ref l0, .int xl1, ul2] [.ref s0] (toS z T) = some (tR z r) := by
  unfold F88_29 at h
  refine Eq.trans (e88_29 ..) ?_
  exact (fb_g (fun _ q => by rw [hl1]; exact flg_ok q) h (fun v0 h2 => G88_33  _ _ _ hl1 _ _ h2))
noncomputable def F88_25  (l0 : Nat) (l1 : Nat) (T : fS) : Option fR := (fbv (fgr T l0 6 4) (fun v0 => F88_29  l0 l1 v0 T) ((none : Option fR)))
theorem G88_25 {z : Option mm_O} {T : fS} {r : fR}  (l0 : Nat) (xl1 : Int32) (l1 : Nat) (hl1 : xl1 = nI l1) (ul2 : Value) (h : F88_25  l0 l1 T = some r) : mm_L 88 25 [.ref l0, .int xl1, ul2] [] (toS z T) = some (tR z r) := by
  unfold F88_25 at h
  refine Eq.trans (e88_25 ..) ?_
  exact (fb_v (fun _ q => fgr_ok q) h (fun v0 h2 => G88_29  _ _ _ hl1 _ _ h2) (fun h2 => fr_n h2))
noncomputable def F88_11  (l0 : Nat) (l1 : Nat) (s0 : Nat) (T : fS) : Option fR := (fif (ieq s0 0) (F88_14  l0 l1 T) (F88_25  l0 l1 T))
theorem G88_11 {z : Option mm_O} {T : fS} {r : fR}  (l0 : Nat) (xl1 : Int32) (l1 : Nat) (hl1 : xl1 = nI l1) (ul2 : Value) (xs0 : Int32) (s0 : Nat) (hs0 : xs0 = nI s0) (h : F88_11  l0 l1 s0 T = some r) : mm_L 88 11 [.ref l0, .int xl1, ul2] [.int xs0] (toS z T) = some (tR z r) := by
  unfold F88_11 at h
  refine Eq.trans (e88_11 ..) ?_
  exact (fb_if (cj_eq hs0 (rfl : (0 : Int32) = nI 0)) h (fun h1 => (G88_14  _ _ _ hl1 _ h1)) (fun h1 => (G88_25  _ _ _ hl1 _ h1)))
noncomputable def F88_8  (l0 : Nat) (l1 : Nat) (s0 : Nat) (s1 : Nat) (T : fS) : Option fR := (fKi false (F101_0 s1 s0 T) (fun v0 T1 => F88_11  l0 l1 v0 T1))
theorem G88_8 {z : Option mm_O} {T : fS} {r : fR}  (l0 : Nat) (xl1 : Int32) (l1 : Nat) (hl1 : xl1 = nI l1) (ul2 : Value) (xs0 : Int32) (s0 : Nat) (hs0 : xs0 = nI s0) (xs1 : Int32) (s1 : Nat) (hs1 : xs1 = nI s1) (h : F88_8  l0 l1 s0 s1 T = some r) : mm_L 88 8 [.ref l0, .int xl1, ul2] [.int xs0, .int xs1] (toS z T) = some (tR z r) := by
  unfold F88_8 at h
  refine Eq.trans (e88_8 ..) ?_
  exact (fb_K2i (fun _ q => GM101 _ _ hs1 _ _ hs0 q) h (fun v0 T1 h2 => G88_11  _ _ _ hl1 _ _ _ rfl h2))
noncomputable def F88_5  (l0 : Nat) (l1 : Nat) (s0 : Nat) (s1 : Nat) (T : fS) : Option fR := (fbn (flz T s0) (fun v0 => F88_8  l0 l1 v0 s1 T))
theorem G88_5 {z : Option mm_O} {T : fS} {r : fR}  (l0 : Nat) (xl1 : Int32) (l1 : Nat) (hl1 : xl1 = nI l1) (ul2 : Value) (s0 : Nat) (xs1 : Int32) (s1 : Nat) (hs1 : xs1 = nI s1) (h : F88_5  l0 l1 s0 s1 T = some r) : mm_L 88 5 [.ref l0, .int xl1, ul2] [.ref s0, .int xs1] (toS z T) = some (tR z r) := by
  unfold F88_5 at h
  refine Eq.trans (e88_5 ..) ?_
  exact (fb_n (fun _ q => flz_ok q) h (fun v0 h2 => G88_8  _ _ _ hl1 _ _ _ rfl _ _ hs1 h2))
noncomputable def F88_0  (l0 : Nat) (l1 : Nat) (T : fS) : Option fR := (fbv (fgr T l0 6 4) (fun v0 => F88_5  l0 l1 v0 l1 T) ((none : Option fR)))
theorem G88_0 {z : Option mm_O} {T : fS} {r : fR}  (l0 : Nat) (xl1 : Int32) (l1 : Nat) (hl1 : xl1 = nI l1) (ul2 : Value) (h : F88_0  l0 l1 T = some r) : mm_L 88 0 [.ref l0, .int xl1, ul2] [] (toS z T) = some (tR z r) := by
  unfold F88_0 at h
  refine Eq.trans (e88_0 ..) ?_
  exact (fb_v (fun _ q => fgr_ok q) h (fun v0 h2 => G88_5  _ _ _ hl1 _ _ _ _ hl1 h2) (fun h2 => fr_n h2))
theorem GM88 {z : Option mm_O} {T : fS} {r : fR} (l0 : Nat) (xl1 : Int32) (l1 : Nat) (hl1 : xl1 = nI l1) (h : F88_0 l0 l1 T = some r) : mm_M 88 [.ref l0, .int xl1] (toS z T) = some (tR z r) := Eq.trans (M_88 ..) (G88_0 l0 xl1 l1 hl1 _ h)
