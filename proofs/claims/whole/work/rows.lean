section
-- ===== PART A: goes FIRST, ahead of the names: the tables' words, and 'selects' of the private methods out of them =====
/-- a private method of a class that the tables say can be made, by its rows of tables_1 -/
def lw_okq (q : MethodName × Nat) : Prop := (q.1.cls ≠ "java/lang/invoke/MethodHandle" ∧ q.1.cls ≠ "java/lang/invoke/VarHandle") ∧ Cond.instantiable q.1.cls q.2 ∈ tables_1 ∧ Cond.privateMethod q.1 ∈ tables_1 ∧ Cond.instanceMethod q.1 ∈ tables_1
theorem lw_p0 : lw_okq (⟨"java/lang/Throwable", "fillInStackTrace", "(I)Ljava/lang/Throwable;"⟩, 6) := ⟨⟨by decide +kernel, by decide +kernel⟩, List.mem_of_getElem? (i := 147) (by decide +kernel), List.mem_of_getElem? (i := 145) (by decide +kernel), List.mem_of_getElem? (i := 146) (by decide +kernel)⟩
theorem lw_p1 : lw_okq (⟨"HandArchive", "firstSignJustLike", "(LHandArchive$Hands;)I"⟩, 8) := ⟨⟨by decide +kernel, by decide +kernel⟩, List.mem_of_getElem? (i := 25) (by decide +kernel), List.mem_of_getElem? (i := 239) (by decide +kernel), List.mem_of_getElem? (i := 240) (by decide +kernel)⟩
theorem lw_p2 : lw_okq (⟨"java/util/ArrayList", "add", "(Ljava/lang/Object;[Ljava/lang/Object;I)V"⟩, 3) := ⟨⟨by decide +kernel, by decide +kernel⟩, List.mem_of_getElem? (i := 33) (by decide +kernel), List.mem_of_getElem? (i := 270) (by decide +kernel), List.mem_of_getElem? (i := 271) (by decide +kernel)⟩
theorem lw_p3 : lw_okq (⟨"java/util/ArrayList", "grow", "()[Ljava/lang/Object;"⟩, 3) := ⟨⟨by decide +kernel, by decide +kernel⟩, List.mem_of_getElem? (i := 33) (by decide +kernel), List.mem_of_getElem? (i := 274) (by decide +kernel), List.mem_of_getElem? (i := 275) (by decide +kernel)⟩
theorem lw_p4 : lw_okq (⟨"java/util/ArrayList", "grow", "(I)[Ljava/lang/Object;"⟩, 3) := ⟨⟨by decide +kernel, by decide +kernel⟩, List.mem_of_getElem? (i := 33) (by decide +kernel), List.mem_of_getElem? (i := 278) (by decide +kernel), List.mem_of_getElem? (i := 279) (by decide +kernel)⟩
theorem lw_p5 : lw_okq (⟨"HandArchive", "requireSign", "(I)V"⟩, 8) := ⟨⟨by decide +kernel, by decide +kernel⟩, List.mem_of_getElem? (i := 25) (by decide +kernel), List.mem_of_getElem? (i := 333) (by decide +kernel), List.mem_of_getElem? (i := 334) (by decide +kernel)⟩
theorem lw_p6 : lw_okq (⟨"HandArchive", "isSign", "(I)Z"⟩, 8) := ⟨⟨by decide +kernel, by decide +kernel⟩, List.mem_of_getElem? (i := 25) (by decide +kernel), List.mem_of_getElem? (i := 337) (by decide +kernel), List.mem_of_getElem? (i := 338) (by decide +kernel)⟩
theorem lw_p7 : lw_okq (⟨"HandArchive", "tellsApart", "(III)Z"⟩, 8) := ⟨⟨by decide +kernel, by decide +kernel⟩, List.mem_of_getElem? (i := 25) (by decide +kernel), List.mem_of_getElem? (i := 389) (by decide +kernel), List.mem_of_getElem? (i := 390) (by decide +kernel)⟩
theorem lw_p8 : lw_okq (⟨"HandArchive", "hasSignAndLoci", "(IIII)Z"⟩, 8) := ⟨⟨by decide +kernel, by decide +kernel⟩, List.mem_of_getElem? (i := 25) (by decide +kernel), List.mem_of_getElem? (i := 400) (by decide +kernel), List.mem_of_getElem? (i := 401) (by decide +kernel)⟩
theorem lw_p9 : lw_okq (⟨"HandArchive", "lociStandAsTheyShould", "(IIII)Z"⟩, 8) := ⟨⟨by decide +kernel, by decide +kernel⟩, List.mem_of_getElem? (i := 25) (by decide +kernel), List.mem_of_getElem? (i := 415) (by decide +kernel), List.mem_of_getElem? (i := 416) (by decide +kernel)⟩
theorem lw_p10 : lw_okq (⟨"HandArchive", "referentNow", "(I)I"⟩, 8) := ⟨⟨by decide +kernel, by decide +kernel⟩, List.mem_of_getElem? (i := 25) (by decide +kernel), List.mem_of_getElem? (i := 419) (by decide +kernel), List.mem_of_getElem? (i := 420) (by decide +kernel)⟩
theorem lw_p11 : lw_okq (⟨"HandArchive", "referentBehind", "(II)I"⟩, 8) := ⟨⟨by decide +kernel, by decide +kernel⟩, List.mem_of_getElem? (i := 25) (by decide +kernel), List.mem_of_getElem? (i := 423) (by decide +kernel), List.mem_of_getElem? (i := 424) (by decide +kernel)⟩
theorem lw_p12 : lw_okq (⟨"HandArchive", "isReferentPlaced", "(I)Z"⟩, 8) := ⟨⟨by decide +kernel, by decide +kernel⟩, List.mem_of_getElem? (i := 25) (by decide +kernel), List.mem_of_getElem? (i := 428) (by decide +kernel), List.mem_of_getElem? (i := 429) (by decide +kernel)⟩
theorem lw_p13 : lw_okq (⟨"HandArchive", "handsTold", "(IIII)LHandArchive$Hands;"⟩, 8) := ⟨⟨by decide +kernel, by decide +kernel⟩, List.mem_of_getElem? (i := 25) (by decide +kernel), List.mem_of_getElem? (i := 434) (by decide +kernel), List.mem_of_getElem? (i := 435) (by decide +kernel)⟩
theorem lw_p14 : lw_okq (⟨"HandArchive", "requireItem", "(I)V"⟩, 8) := ⟨⟨by decide +kernel, by decide +kernel⟩, List.mem_of_getElem? (i := 25) (by decide +kernel), List.mem_of_getElem? (i := 487) (by decide +kernel), List.mem_of_getElem? (i := 488) (by decide +kernel)⟩
theorem lw_p15 : lw_okq (⟨"HandArchive", "isArticulatorBusy", "(III)Z"⟩, 8) := ⟨⟨by decide +kernel, by decide +kernel⟩, List.mem_of_getElem? (i := 25) (by decide +kernel), List.mem_of_getElem? (i := 498) (by decide +kernel), List.mem_of_getElem? (i := 499) (by decide +kernel)⟩
def lw_privs_1 : List (MethodName × Nat) := [(⟨"java/lang/Throwable", "fillInStackTrace", "(I)Ljava/lang/Throwable;"⟩, 6), (⟨"HandArchive", "firstSignJustLike", "(LHandArchive$Hands;)I"⟩, 8), (⟨"java/util/ArrayList", "add", "(Ljava/lang/Object;[Ljava/lang/Object;I)V"⟩, 3), (⟨"java/util/ArrayList", "grow", "()[Ljava/lang/Object;"⟩, 3), (⟨"java/util/ArrayList", "grow", "(I)[Ljava/lang/Object;"⟩, 3), (⟨"HandArchive", "requireSign", "(I)V"⟩, 8), (⟨"HandArchive", "isSign", "(I)Z"⟩, 8), (⟨"HandArchive", "tellsApart", "(III)Z"⟩, 8), (⟨"HandArchive", "hasSignAndLoci", "(IIII)Z"⟩, 8), (⟨"HandArchive", "lociStandAsTheyShould", "(IIII)Z"⟩, 8), (⟨"HandArchive", "referentNow", "(I)I"⟩, 8), (⟨"HandArchive", "referentBehind", "(II)I"⟩, 8), (⟨"HandArchive", "isReferentPlaced", "(I)Z"⟩, 8), (⟨"HandArchive", "handsTold", "(IIII)LHandArchive$Hands;"⟩, 8), (⟨"HandArchive", "requireItem", "(I)V"⟩, 8), (⟨"HandArchive", "isArticulatorBusy", "(III)Z"⟩, 8)]
theorem lw_r1 : ∀ q ∈ lw_privs_1, lw_okq q := List.forall_mem_cons.mpr ⟨lw_p0, List.forall_mem_cons.mpr ⟨lw_p1, List.forall_mem_cons.mpr ⟨lw_p2, List.forall_mem_cons.mpr ⟨lw_p3, List.forall_mem_cons.mpr ⟨lw_p4, List.forall_mem_cons.mpr ⟨lw_p5, List.forall_mem_cons.mpr ⟨lw_p6, List.forall_mem_cons.mpr ⟨lw_p7, List.forall_mem_cons.mpr ⟨lw_p8, List.forall_mem_cons.mpr ⟨lw_p9, List.forall_mem_cons.mpr ⟨lw_p10, List.forall_mem_cons.mpr ⟨lw_p11, List.forall_mem_cons.mpr ⟨lw_p12, List.forall_mem_cons.mpr ⟨lw_p13, List.forall_mem_cons.mpr ⟨lw_p14, List.forall_mem_cons.mpr ⟨lw_p15, fun _ h => absurd h List.not_mem_nil⟩⟩⟩⟩⟩⟩⟩⟩⟩⟩⟩⟩⟩⟩⟩⟩
theorem lw_p16 : lw_okq (⟨"HandArchive", "faceShown", "(II)I"⟩, 8) := ⟨⟨by decide +kernel, by decide +kernel⟩, List.mem_of_getElem? (i := 25) (by decide +kernel), List.mem_of_getElem? (i := 530) (by decide +kernel), List.mem_of_getElem? (i := 531) (by decide +kernel)⟩
theorem lw_p17 : lw_okq (⟨"HandArchive", "faceOver", "(II)I"⟩, 8) := ⟨⟨by decide +kernel, by decide +kernel⟩, List.mem_of_getElem? (i := 25) (by decide +kernel), List.mem_of_getElem? (i := 534) (by decide +kernel), List.mem_of_getElem? (i := 535) (by decide +kernel)⟩
theorem lw_p18 : lw_okq (⟨"HandArchive", "signAll", "()V"⟩, 8) := ⟨⟨by decide +kernel, by decide +kernel⟩, List.mem_of_getElem? (i := 25) (by decide +kernel), List.mem_of_getElem? (i := 598) (by decide +kernel), List.mem_of_getElem? (i := 599) (by decide +kernel)⟩
theorem lw_p19 : lw_okq (⟨"HandArchive", "applyRules", "()V"⟩, 8) := ⟨⟨by decide +kernel, by decide +kernel⟩, List.mem_of_getElem? (i := 25) (by decide +kernel), List.mem_of_getElem? (i := 602) (by decide +kernel), List.mem_of_getElem? (i := 603) (by decide +kernel)⟩
theorem lw_p20 : lw_okq (⟨"HandArchive", "applyRule", "(LHandArchive$Rule;)V"⟩, 8) := ⟨⟨by decide +kernel, by decide +kernel⟩, List.mem_of_getElem? (i := 25) (by decide +kernel), List.mem_of_getElem? (i := 610) (by decide +kernel), List.mem_of_getElem? (i := 611) (by decide +kernel)⟩
theorem lw_p21 : lw_okq (⟨"HandArchive", "dropMirrored", "(ILHandArchive$Item;)V"⟩, 8) := ⟨⟨by decide +kernel, by decide +kernel⟩, List.mem_of_getElem? (i := 25) (by decide +kernel), List.mem_of_getElem? (i := 619) (by decide +kernel), List.mem_of_getElem? (i := 620) (by decide +kernel)⟩
theorem lw_p22 : lw_okq (⟨"HandArchive", "hasNoSecond", "(I)Z"⟩, 8) := ⟨⟨by decide +kernel, by decide +kernel⟩, List.mem_of_getElem? (i := 25) (by decide +kernel), List.mem_of_getElem? (i := 623) (by decide +kernel), List.mem_of_getElem? (i := 624) (by decide +kernel)⟩
theorem lw_p23 : lw_okq (⟨"HandArchive", "likenShape", "(ILHandArchive$Item;)V"⟩, 8) := ⟨⟨by decide +kernel, by decide +kernel⟩, List.mem_of_getElem? (i := 25) (by decide +kernel), List.mem_of_getElem? (i := 627) (by decide +kernel), List.mem_of_getElem? (i := 628) (by decide +kernel)⟩
theorem lw_p24 : lw_okq (⟨"HandArchive", "easeTurn", "(ILHandArchive$Item;)V"⟩, 8) := ⟨⟨by decide +kernel, by decide +kernel⟩, List.mem_of_getElem? (i := 25) (by decide +kernel), List.mem_of_getElem? (i := 631) (by decide +kernel), List.mem_of_getElem? (i := 632) (by decide +kernel)⟩
theorem lw_p25 : lw_okq (⟨"HandArchive", "hasItemAhead", "(I)Z"⟩, 8) := ⟨⟨by decide +kernel, by decide +kernel⟩, List.mem_of_getElem? (i := 25) (by decide +kernel), List.mem_of_getElem? (i := 635) (by decide +kernel), List.mem_of_getElem? (i := 636) (by decide +kernel)⟩
theorem lw_p26 : lw_okq (⟨"HandArchive", "swapEnds", "(ILHandArchive$Item;)V"⟩, 8) := ⟨⟨by decide +kernel, by decide +kernel⟩, List.mem_of_getElem? (i := 25) (by decide +kernel), List.mem_of_getElem? (i := 642) (by decide +kernel), List.mem_of_getElem? (i := 643) (by decide +kernel)⟩
theorem lw_p27 : lw_okq (⟨"HandArchive", "slideLetter", "(ILHandArchive$Item;)V"⟩, 8) := ⟨⟨by decide +kernel, by decide +kernel⟩, List.mem_of_getElem? (i := 25) (by decide +kernel), List.mem_of_getElem? (i := 653) (by decide +kernel), List.mem_of_getElem? (i := 654) (by decide +kernel)⟩
theorem lw_p28 : lw_okq (⟨"HandArchive", "itemAtTick", "(I)I"⟩, 8) := ⟨⟨by decide +kernel, by decide +kernel⟩, List.mem_of_getElem? (i := 25) (by decide +kernel), List.mem_of_getElem? (i := 671) (by decide +kernel), List.mem_of_getElem? (i := 672) (by decide +kernel)⟩
theorem lw_p29 : lw_okq (⟨"HandArchive", "placeInPassing", "(II)I"⟩, 8) := ⟨⟨by decide +kernel, by decide +kernel⟩, List.mem_of_getElem? (i := 25) (by decide +kernel), List.mem_of_getElem? (i := 675) (by decide +kernel), List.mem_of_getElem? (i := 676) (by decide +kernel)⟩
theorem lw_p30 : lw_okq (⟨"HandArchive", "kindReadBack", "(LHandArchive$Item;)I"⟩, 8) := ⟨⟨by decide +kernel, by decide +kernel⟩, List.mem_of_getElem? (i := 25) (by decide +kernel), List.mem_of_getElem? (i := 699) (by decide +kernel), List.mem_of_getElem? (i := 700) (by decide +kernel)⟩
theorem lw_p31 : lw_okq (⟨"HandArchive", "numberReadBack", "(ILHandArchive$Hands;)I"⟩, 8) := ⟨⟨by decide +kernel, by decide +kernel⟩, List.mem_of_getElem? (i := 25) (by decide +kernel), List.mem_of_getElem? (i := 717) (by decide +kernel), List.mem_of_getElem? (i := 718) (by decide +kernel)⟩
def lw_privs_2 : List (MethodName × Nat) := [(⟨"HandArchive", "faceShown", "(II)I"⟩, 8), (⟨"HandArchive", "faceOver", "(II)I"⟩, 8), (⟨"HandArchive", "signAll", "()V"⟩, 8), (⟨"HandArchive", "applyRules", "()V"⟩, 8), (⟨"HandArchive", "applyRule", "(LHandArchive$Rule;)V"⟩, 8), (⟨"HandArchive", "dropMirrored", "(ILHandArchive$Item;)V"⟩, 8), (⟨"HandArchive", "hasNoSecond", "(I)Z"⟩, 8), (⟨"HandArchive", "likenShape", "(ILHandArchive$Item;)V"⟩, 8), (⟨"HandArchive", "easeTurn", "(ILHandArchive$Item;)V"⟩, 8), (⟨"HandArchive", "hasItemAhead", "(I)Z"⟩, 8), (⟨"HandArchive", "swapEnds", "(ILHandArchive$Item;)V"⟩, 8), (⟨"HandArchive", "slideLetter", "(ILHandArchive$Item;)V"⟩, 8), (⟨"HandArchive", "itemAtTick", "(I)I"⟩, 8), (⟨"HandArchive", "placeInPassing", "(II)I"⟩, 8), (⟨"HandArchive", "kindReadBack", "(LHandArchive$Item;)I"⟩, 8), (⟨"HandArchive", "numberReadBack", "(ILHandArchive$Hands;)I"⟩, 8)]
theorem lw_r2 : ∀ q ∈ lw_privs_2, lw_okq q := List.forall_mem_cons.mpr ⟨lw_p16, List.forall_mem_cons.mpr ⟨lw_p17, List.forall_mem_cons.mpr ⟨lw_p18, List.forall_mem_cons.mpr ⟨lw_p19, List.forall_mem_cons.mpr ⟨lw_p20, List.forall_mem_cons.mpr ⟨lw_p21, List.forall_mem_cons.mpr ⟨lw_p22, List.forall_mem_cons.mpr ⟨lw_p23, List.forall_mem_cons.mpr ⟨lw_p24, List.forall_mem_cons.mpr ⟨lw_p25, List.forall_mem_cons.mpr ⟨lw_p26, List.forall_mem_cons.mpr ⟨lw_p27, List.forall_mem_cons.mpr ⟨lw_p28, List.forall_mem_cons.mpr ⟨lw_p29, List.forall_mem_cons.mpr ⟨lw_p30, List.forall_mem_cons.mpr ⟨lw_p31, fun _ h => absurd h List.not_mem_nil⟩⟩⟩⟩⟩⟩⟩⟩⟩⟩⟩⟩⟩⟩⟩⟩
theorem lw_p32 : lw_okq (⟨"HandArchive", "countSignsJustLike", "(LHandArchive$Hands;)I"⟩, 8) := ⟨⟨by decide +kernel, by decide +kernel⟩, List.mem_of_getElem? (i := 25) (by decide +kernel), List.mem_of_getElem? (i := 721) (by decide +kernel), List.mem_of_getElem? (i := 722) (by decide +kernel)⟩
theorem lw_p33 : lw_okq (⟨"HandArchive", "keepClip", "(LHandArchive$Clip;)I"⟩, 8) := ⟨⟨by decide +kernel, by decide +kernel⟩, List.mem_of_getElem? (i := 25) (by decide +kernel), List.mem_of_getElem? (i := 768) (by decide +kernel), List.mem_of_getElem? (i := 769) (by decide +kernel)⟩
theorem lw_p34 : lw_okq (⟨"HandArchive", "requireClip", "(I)V"⟩, 8) := ⟨⟨by decide +kernel, by decide +kernel⟩, List.mem_of_getElem? (i := 25) (by decide +kernel), List.mem_of_getElem? (i := 779) (by decide +kernel), List.mem_of_getElem? (i := 780) (by decide +kernel)⟩
theorem lw_p35 : lw_okq (⟨"HandArchive", "letGo", "(II)I"⟩, 8) := ⟨⟨by decide +kernel, by decide +kernel⟩, List.mem_of_getElem? (i := 25) (by decide +kernel), List.mem_of_getElem? (i := 796) (by decide +kernel), List.mem_of_getElem? (i := 797) (by decide +kernel)⟩
theorem lw_p36 : lw_okq (⟨"HandArchive", "countTicksAlike", "()I"⟩, 8) := ⟨⟨by decide +kernel, by decide +kernel⟩, List.mem_of_getElem? (i := 25) (by decide +kernel), List.mem_of_getElem? (i := 898) (by decide +kernel), List.mem_of_getElem? (i := 899) (by decide +kernel)⟩
theorem lw_p37 : lw_okq (⟨"HandArchive", "countTicksWithValue", "()I"⟩, 8) := ⟨⟨by decide +kernel, by decide +kernel⟩, List.mem_of_getElem? (i := 25) (by decide +kernel), List.mem_of_getElem? (i := 902) (by decide +kernel), List.mem_of_getElem? (i := 903) (by decide +kernel)⟩
theorem lw_p38 : lw_okq (⟨"HandArchive", "countMarksShared", "(LHandArchive$Clip;II)I"⟩, 8) := ⟨⟨by decide +kernel, by decide +kernel⟩, List.mem_of_getElem? (i := 25) (by decide +kernel), List.mem_of_getElem? (i := 906) (by decide +kernel), List.mem_of_getElem? (i := 907) (by decide +kernel)⟩
theorem lw_p39 : lw_okq (⟨"HandArchiveModel", "areAlike", "(II)Z"⟩, 28) := ⟨⟨by decide +kernel, by decide +kernel⟩, List.mem_of_getElem? (i := 915) (by decide +kernel), List.mem_of_getElem? (i := 1018) (by decide +kernel), List.mem_of_getElem? (i := 1019) (by decide +kernel)⟩
theorem lw_p40 : lw_okq (⟨"HandArchiveModel", "isSign", "(I)Z"⟩, 28) := ⟨⟨by decide +kernel, by decide +kernel⟩, List.mem_of_getElem? (i := 915) (by decide +kernel), List.mem_of_getElem? (i := 1026) (by decide +kernel), List.mem_of_getElem? (i := 1027) (by decide +kernel)⟩
theorem lw_p41 : lw_okq (⟨"HandArchiveModel", "unlike", "(II)I"⟩, 28) := ⟨⟨by decide +kernel, by decide +kernel⟩, List.mem_of_getElem? (i := 915) (by decide +kernel), List.mem_of_getElem? (i := 1030) (by decide +kernel), List.mem_of_getElem? (i := 1031) (by decide +kernel)⟩
theorem lw_p42 : lw_okq (⟨"HandArchiveModel", "writes", "(II)I"⟩, 28) := ⟨⟨by decide +kernel, by decide +kernel⟩, List.mem_of_getElem? (i := 915) (by decide +kernel), List.mem_of_getElem? (i := 1038) (by decide +kernel), List.mem_of_getElem? (i := 1039) (by decide +kernel)⟩
theorem lw_p43 : lw_okq (⟨"HandArchiveModel", "itemThrown", "(IIII)I"⟩, 28) := ⟨⟨by decide +kernel, by decide +kernel⟩, List.mem_of_getElem? (i := 915) (by decide +kernel), List.mem_of_getElem? (i := 1053) (by decide +kernel), List.mem_of_getElem? (i := 1054) (by decide +kernel)⟩
theorem lw_p44 : lw_okq (⟨"HandArchiveModel", "isFor", "(I)Z"⟩, 28) := ⟨⟨by decide +kernel, by decide +kernel⟩, List.mem_of_getElem? (i := 915) (by decide +kernel), List.mem_of_getElem? (i := 1060) (by decide +kernel), List.mem_of_getElem? (i := 1061) (by decide +kernel)⟩
theorem lw_p45 : lw_okq (⟨"HandArchiveModel", "isItem", "(I)Z"⟩, 28) := ⟨⟨by decide +kernel, by decide +kernel⟩, List.mem_of_getElem? (i := 915) (by decide +kernel), List.mem_of_getElem? (i := 1072) (by decide +kernel), List.mem_of_getElem? (i := 1073) (by decide +kernel)⟩
theorem lw_p46 : lw_okq (⟨"HandArchiveModel", "shownAt", "(II)I"⟩, 28) := ⟨⟨by decide +kernel, by decide +kernel⟩, List.mem_of_getElem? (i := 915) (by decide +kernel), List.mem_of_getElem? (i := 1083) (by decide +kernel), List.mem_of_getElem? (i := 1084) (by decide +kernel)⟩
theorem lw_p47 : lw_okq (⟨"HandArchiveModel", "over", "(II)I"⟩, 28) := ⟨⟨by decide +kernel, by decide +kernel⟩, List.mem_of_getElem? (i := 915) (by decide +kernel), List.mem_of_getElem? (i := 1087) (by decide +kernel), List.mem_of_getElem? (i := 1088) (by decide +kernel)⟩
def lw_privs_3 : List (MethodName × Nat) := [(⟨"HandArchive", "countSignsJustLike", "(LHandArchive$Hands;)I"⟩, 8), (⟨"HandArchive", "keepClip", "(LHandArchive$Clip;)I"⟩, 8), (⟨"HandArchive", "requireClip", "(I)V"⟩, 8), (⟨"HandArchive", "letGo", "(II)I"⟩, 8), (⟨"HandArchive", "countTicksAlike", "()I"⟩, 8), (⟨"HandArchive", "countTicksWithValue", "()I"⟩, 8), (⟨"HandArchive", "countMarksShared", "(LHandArchive$Clip;II)I"⟩, 8), (⟨"HandArchiveModel", "areAlike", "(II)Z"⟩, 28), (⟨"HandArchiveModel", "isSign", "(I)Z"⟩, 28), (⟨"HandArchiveModel", "unlike", "(II)I"⟩, 28), (⟨"HandArchiveModel", "writes", "(II)I"⟩, 28), (⟨"HandArchiveModel", "itemThrown", "(IIII)I"⟩, 28), (⟨"HandArchiveModel", "isFor", "(I)Z"⟩, 28), (⟨"HandArchiveModel", "isItem", "(I)Z"⟩, 28), (⟨"HandArchiveModel", "shownAt", "(II)I"⟩, 28), (⟨"HandArchiveModel", "over", "(II)I"⟩, 28)]
theorem lw_r3 : ∀ q ∈ lw_privs_3, lw_okq q := List.forall_mem_cons.mpr ⟨lw_p32, List.forall_mem_cons.mpr ⟨lw_p33, List.forall_mem_cons.mpr ⟨lw_p34, List.forall_mem_cons.mpr ⟨lw_p35, List.forall_mem_cons.mpr ⟨lw_p36, List.forall_mem_cons.mpr ⟨lw_p37, List.forall_mem_cons.mpr ⟨lw_p38, List.forall_mem_cons.mpr ⟨lw_p39, List.forall_mem_cons.mpr ⟨lw_p40, List.forall_mem_cons.mpr ⟨lw_p41, List.forall_mem_cons.mpr ⟨lw_p42, List.forall_mem_cons.mpr ⟨lw_p43, List.forall_mem_cons.mpr ⟨lw_p44, List.forall_mem_cons.mpr ⟨lw_p45, List.forall_mem_cons.mpr ⟨lw_p46, List.forall_mem_cons.mpr ⟨lw_p47, fun _ h => absurd h List.not_mem_nil⟩⟩⟩⟩⟩⟩⟩⟩⟩⟩⟩⟩⟩⟩⟩⟩
theorem lw_p48 : lw_okq (⟨"HandArchiveModel", "isPointing", "(I)Z"⟩, 28) := ⟨⟨by decide +kernel, by decide +kernel⟩, List.mem_of_getElem? (i := 915) (by decide +kernel), List.mem_of_getElem? (i := 1091) (by decide +kernel), List.mem_of_getElem? (i := 1092) (by decide +kernel)⟩
theorem lw_p49 : lw_okq (⟨"HandArchiveModel", "rulesGo", "()V"⟩, 28) := ⟨⟨by decide +kernel, by decide +kernel⟩, List.mem_of_getElem? (i := 915) (by decide +kernel), List.mem_of_getElem? (i := 1111) (by decide +kernel), List.mem_of_getElem? (i := 1112) (by decide +kernel)⟩
theorem lw_p50 : lw_okq (⟨"HandArchiveModel", "begins", "(I)V"⟩, 28) := ⟨⟨by decide +kernel, by decide +kernel⟩, List.mem_of_getElem? (i := 915) (by decide +kernel), List.mem_of_getElem? (i := 1115) (by decide +kernel), List.mem_of_getElem? (i := 1116) (by decide +kernel)⟩
theorem lw_p51 : lw_okq (⟨"HandArchiveModel", "gives", "(III)V"⟩, 28) := ⟨⟨by decide +kernel, by decide +kernel⟩, List.mem_of_getElem? (i := 915) (by decide +kernel), List.mem_of_getElem? (i := 1119) (by decide +kernel), List.mem_of_getElem? (i := 1120) (by decide +kernel)⟩
theorem lw_p52 : lw_okq (⟨"HandArchiveModel", "isExcepted", "(II)Z"⟩, 28) := ⟨⟨by decide +kernel, by decide +kernel⟩, List.mem_of_getElem? (i := 915) (by decide +kernel), List.mem_of_getElem? (i := 1126) (by decide +kernel), List.mem_of_getElem? (i := 1127) (by decide +kernel)⟩
theorem lw_p53 : lw_okq (⟨"HandArchiveModel", "changes", "(II)V"⟩, 28) := ⟨⟨by decide +kernel, by decide +kernel⟩, List.mem_of_getElem? (i := 915) (by decide +kernel), List.mem_of_getElem? (i := 1130) (by decide +kernel), List.mem_of_getElem? (i := 1131) (by decide +kernel)⟩
theorem lw_p54 : lw_okq (⟨"HandArchiveModel", "hand", "(II)I"⟩, 28) := ⟨⟨by decide +kernel, by decide +kernel⟩, List.mem_of_getElem? (i := 915) (by decide +kernel), List.mem_of_getElem? (i := 1134) (by decide +kernel), List.mem_of_getElem? (i := 1135) (by decide +kernel)⟩
theorem lw_p55 : lw_okq (⟨"HandArchiveModel", "isBare", "(I)Z"⟩, 28) := ⟨⟨by decide +kernel, by decide +kernel⟩, List.mem_of_getElem? (i := 915) (by decide +kernel), List.mem_of_getElem? (i := 1138) (by decide +kernel), List.mem_of_getElem? (i := 1139) (by decide +kernel)⟩
theorem lw_p56 : lw_okq (⟨"HandArchiveModel", "beginning", "(I)I"⟩, 28) := ⟨⟨by decide +kernel, by decide +kernel⟩, List.mem_of_getElem? (i := 915) (by decide +kernel), List.mem_of_getElem? (i := 1148) (by decide +kernel), List.mem_of_getElem? (i := 1149) (by decide +kernel)⟩
theorem lw_p57 : lw_okq (⟨"HandArchiveModel", "passes", "(I)I"⟩, 28) := ⟨⟨by decide +kernel, by decide +kernel⟩, List.mem_of_getElem? (i := 915) (by decide +kernel), List.mem_of_getElem? (i := 1152) (by decide +kernel), List.mem_of_getElem? (i := 1153) (by decide +kernel)⟩
theorem lw_p58 : lw_okq (⟨"HandArchiveModel", "takes", "(I)I"⟩, 28) := ⟨⟨by decide +kernel, by decide +kernel⟩, List.mem_of_getElem? (i := 915) (by decide +kernel), List.mem_of_getElem? (i := 1159) (by decide +kernel), List.mem_of_getElem? (i := 1160) (by decide +kernel)⟩
theorem lw_p59 : lw_okq (⟨"HandArchiveModel", "moves", "(I)Z"⟩, 28) := ⟨⟨by decide +kernel, by decide +kernel⟩, List.mem_of_getElem? (i := 915) (by decide +kernel), List.mem_of_getElem? (i := 1163) (by decide +kernel), List.mem_of_getElem? (i := 1164) (by decide +kernel)⟩
theorem lw_p60 : lw_okq (⟨"HandArchiveModel", "read", "(I)I"⟩, 28) := ⟨⟨by decide +kernel, by decide +kernel⟩, List.mem_of_getElem? (i := 915) (by decide +kernel), List.mem_of_getElem? (i := 1178) (by decide +kernel), List.mem_of_getElem? (i := 1179) (by decide +kernel)⟩
theorem lw_p61 : lw_okq (⟨"HandArchiveModel", "isJust", "(II)Z"⟩, 28) := ⟨⟨by decide +kernel, by decide +kernel⟩, List.mem_of_getElem? (i := 915) (by decide +kernel), List.mem_of_getElem? (i := 1182) (by decide +kernel), List.mem_of_getElem? (i := 1183) (by decide +kernel)⟩
theorem lw_p62 : lw_okq (⟨"HandArchiveModel", "adds", "(IIII)I"⟩, 28) := ⟨⟨by decide +kernel, by decide +kernel⟩, List.mem_of_getElem? (i := 915) (by decide +kernel), List.mem_of_getElem? (i := 1190) (by decide +kernel), List.mem_of_getElem? (i := 1191) (by decide +kernel)⟩
theorem lw_p63 : lw_okq (⟨"HandArchiveModel", "isClip", "(I)Z"⟩, 28) := ⟨⟨by decide +kernel, by decide +kernel⟩, List.mem_of_getElem? (i := 915) (by decide +kernel), List.mem_of_getElem? (i := 1198) (by decide +kernel), List.mem_of_getElem? (i := 1199) (by decide +kernel)⟩
def lw_privs_4 : List (MethodName × Nat) := [(⟨"HandArchiveModel", "isPointing", "(I)Z"⟩, 28), (⟨"HandArchiveModel", "rulesGo", "()V"⟩, 28), (⟨"HandArchiveModel", "begins", "(I)V"⟩, 28), (⟨"HandArchiveModel", "gives", "(III)V"⟩, 28), (⟨"HandArchiveModel", "isExcepted", "(II)Z"⟩, 28), (⟨"HandArchiveModel", "changes", "(II)V"⟩, 28), (⟨"HandArchiveModel", "hand", "(II)I"⟩, 28), (⟨"HandArchiveModel", "isBare", "(I)Z"⟩, 28), (⟨"HandArchiveModel", "beginning", "(I)I"⟩, 28), (⟨"HandArchiveModel", "passes", "(I)I"⟩, 28), (⟨"HandArchiveModel", "takes", "(I)I"⟩, 28), (⟨"HandArchiveModel", "moves", "(I)Z"⟩, 28), (⟨"HandArchiveModel", "read", "(I)I"⟩, 28), (⟨"HandArchiveModel", "isJust", "(II)Z"⟩, 28), (⟨"HandArchiveModel", "adds", "(IIII)I"⟩, 28), (⟨"HandArchiveModel", "isClip", "(I)Z"⟩, 28)]
theorem lw_r4 : ∀ q ∈ lw_privs_4, lw_okq q := List.forall_mem_cons.mpr ⟨lw_p48, List.forall_mem_cons.mpr ⟨lw_p49, List.forall_mem_cons.mpr ⟨lw_p50, List.forall_mem_cons.mpr ⟨lw_p51, List.forall_mem_cons.mpr ⟨lw_p52, List.forall_mem_cons.mpr ⟨lw_p53, List.forall_mem_cons.mpr ⟨lw_p54, List.forall_mem_cons.mpr ⟨lw_p55, List.forall_mem_cons.mpr ⟨lw_p56, List.forall_mem_cons.mpr ⟨lw_p57, List.forall_mem_cons.mpr ⟨lw_p58, List.forall_mem_cons.mpr ⟨lw_p59, List.forall_mem_cons.mpr ⟨lw_p60, List.forall_mem_cons.mpr ⟨lw_p61, List.forall_mem_cons.mpr ⟨lw_p62, List.forall_mem_cons.mpr ⟨lw_p63, fun _ h => absurd h List.not_mem_nil⟩⟩⟩⟩⟩⟩⟩⟩⟩⟩⟩⟩⟩⟩⟩⟩
theorem lw_p64 : lw_okq (⟨"HandArchiveModel", "comesFrom", "(I)I"⟩, 28) := ⟨⟨by decide +kernel, by decide +kernel⟩, List.mem_of_getElem? (i := 915) (by decide +kernel), List.mem_of_getElem? (i := 1202) (by decide +kernel), List.mem_of_getElem? (i := 1203) (by decide +kernel)⟩
theorem lw_p65 : lw_okq (⟨"HandArchiveModel", "goes", "(II)I"⟩, 28) := ⟨⟨by decide +kernel, by decide +kernel⟩, List.mem_of_getElem? (i := 915) (by decide +kernel), List.mem_of_getElem? (i := 1210) (by decide +kernel), List.mem_of_getElem? (i := 1211) (by decide +kernel)⟩
def lw_privs_5 : List (MethodName × Nat) := [(⟨"HandArchiveModel", "comesFrom", "(I)I"⟩, 28), (⟨"HandArchiveModel", "goes", "(II)I"⟩, 28)]
theorem lw_r5 : ∀ q ∈ lw_privs_5, lw_okq q := List.forall_mem_cons.mpr ⟨lw_p64, List.forall_mem_cons.mpr ⟨lw_p65, fun _ h => absurd h List.not_mem_nil⟩⟩
def lw_privs : List (MethodName × Nat) := lw_privs_1 ++ (lw_privs_2 ++ (lw_privs_3 ++ (lw_privs_4 ++ (lw_privs_5))))
def lw_tbl : List Cond := k2_sels lw_privs ++ tables_1
theorem lw_privs_ok : ∀ q ∈ lw_privs, lw_okq q := by
  show ∀ q ∈ lw_privs_1 ++ (lw_privs_2 ++ (lw_privs_3 ++ (lw_privs_4 ++ (lw_privs_5)))), lw_okq q
  exact List.forall_mem_append.mpr ⟨lw_r1, List.forall_mem_append.mpr ⟨lw_r2, List.forall_mem_append.mpr ⟨lw_r3, List.forall_mem_append.mpr ⟨lw_r4, lw_r5⟩⟩⟩⟩

/-! ===== BEGIN words of one list among another's, by their places ===== -/
theorem goodIn_r {big : List Cond} (ws : List Cond) (ps : List Nat) (hp : ws = ps.filterMap (fun i => big[i]?)) (h : ws.all goodWord = true) : GoodIn big ws := by
  intro w hw
  have h1 := List.all_eq_true.mp h w hw
  rw [hp] at hw
  obtain ⟨i, -, hi⟩ := List.mem_filterMap.mp hw
  have hm : w ∈ big := by first | exact List.mem_of_getElem? hi | exact List.getElem?_mem hi
  exact ⟨hm, good_of_word h1⟩
theorem goodIn_app {big a b : List Cond} (ha : GoodIn big a) (hb : GoodIn big b) : GoodIn big (a ++ b) := fun w h => (List.mem_append.mp h).elim (ha w) (hb w)
theorem goodIn_ca {big a b : List Cond} {c : Cond} (ha : GoodIn big (c :: a)) (hb : GoodIn big b) : GoodIn big (c :: (a ++ b)) := fun w h => (List.mem_cons.mp h).elim (fun e => ha w (List.mem_cons.mpr (Or.inl e))) (fun h => (List.mem_append.mp h).elim (fun h => ha w (List.mem_cons.mpr (Or.inr h))) (hb w))
theorem goodIn_sub {big ws : List Cond} (hm : ∀ w ∈ ws, w ∈ big) (h : ws.all goodWord = true) : GoodIn big ws := fun w hw => ⟨hm w hw, good_of_word (List.all_eq_true.mp h w hw)⟩
/-! ===== END ===== -/

/-! ===== BEGIN exceptions that leave a method, and their catching by the caller (launches without stack traces) ===== -/
section VXA
/-! The laws vx_back, vx_callV, vx_callS, vx_callSW, vx_throw0, vx_throwS follow proofs of the library, with one case more: JvmDerived/Free/Laws.lean (Back.of_free), Shelf42/LK1.lean (callV, callS), Shelf/KitTraced.lean (throwNew0V, throwNewS). -/
/-- where a method has thrown q: the class by its name, the cell, what was written, the world -/
def vx_T (XC : String → State → State → Prop) (st : State) (q : Addr) (t : State) (mc ms : Nat) (free : Addr → Prop) : Prop :=
  ∃ (E : String) (ce : Cell) (L : List Loc), XC E st t ∧ t.heap[q]? = some ce ∧ ce.vm = .none ∧ st.vm.findClass E = some ce.cls ∧ st.WarmedH t.vm ∧ st.sameButNew ({ t with vm := st.vm } : State) L mc ms ∧ ∀ z ∈ L, free z.base
def vx_Q (Qc : Array Value → State → Outcome → State → Prop) (XC : String → State → State → Prop) (mc ms : Nat) (free : Addr → Prop) : Array Value → State → Outcome → State → Prop := fun a st o t =>
  (Qc a st o t ∧ ∃ L, FrameEnd st o t L mc ms ∧ ∀ q ∈ L, free q.base) ∨ ∃ q, o = .threw q ∧ vx_T XC st q t mc ms free
/-- a callee that returns or throws -/
def vx_Met (l : Launch) (y : MethodName) (ws : List Cond) (rm : Room) (Pc : Array Value → State → Prop) (Qc : Array Value → State → Outcome → State → Prop) (XC : String → State → State → Prop) (mc ms : Nat) (free : Addr → Prop) : Prop :=
  MetFree l y (headSpec ws rm) Pc (fun _ _ _ _ _ => True) (vx_Q Qc XC mc ms free)
def vx_Post (XC : String → State → State → Prop) (mc ms : Nat) (free : Addr → Prop) : Pt → Array Value → Addr → Pt → Prop := fun A a q B =>
  ∃ (g : JFrame) (mk : MethodId) (t : State) (L : List Loc) (E : String) (ce : Cell), B.U.heap = t.heap ∧ B.U.vm = t.vm ∧ XC E (A.U.calling g mk a) t ∧ t.heap[q]? = some ce ∧ ce.vm = .none ∧ A.U.vm.findClass E = some ce.cls ∧ B.locs = A.locs ++ L ∧ (∀ z ∈ L, free z.base) ∧ B.cells = A.cells + mc ∧ B.slots = A.slots + ms
def vx_Back (l : Launch) (R : Room) (p : Program) (e : Env) (below : List Frame) (s : State) (sargs : Array Value) (y : MethodName) (len W9 : Nat)
    (Pre : Pt → Array Value → Prop) (Post : Pt → Array Value → Option Value → Pt → Prop) (PostX : Pt → Array Value → Addr → Pt → Prop) : Prop :=
  ∀ (m : MethodId) (meth : Method) (c : Code) (A : Pt) (g : JFrame) (ig : Instr) (mk : MethodId) (a : Array Value),
    Stand p l e R s m sargs below meth c A.U A.locs A.cells A.slots → g.method = m → g.locals.size = c.maxLocals → decode c.code g.pc = .ok (ig, len) →
    2 * g.monitorRoom + (g.stack.map fun v => v.category).sum ≤ W9 → A.U.methodNamed? y = some mk → Pre A a →
    (∃ (v : Option Value) (B : Pt), Stand p l e R s m sargs below meth c B.U B.locs B.cells B.slots ∧ Post A a v B ∧
      Steps p.tables e below (doInvoke e (A.U.setTop g) [] mk a).1 (B.U.setTop { g with pc := g.pc + len, stack := v.toList ++ g.stack })) ∨
    (∃ (q : Addr) (B : Pt), Stand p l e R s m sargs below meth c B.U B.locs B.cells B.slots ∧ PostX A a q B ∧
      Steps p.tables e below (doInvoke e (A.U.setTop g) [] mk a).1 ((B.U.setTop g).pushFrame (.throwing q)))
section Payer
variable {l : Launch} {R : Room} {p : Program} {e : Env} {below : List Frame} {s : State} {sargs : Array Value} {y : MethodName} {len W9 : Nat}
theorem vx_back {ws : List Cond} {rm : Room} {Pc : Array Value → State → Prop} {Qc : Array Value → State → Outcome → State → Prop} {XC : String → State → State → Prop} {mc ms : Nat} {free : Addr → Prop} {bytes : ByteArray} {maxL : Nat} {ret : Option FieldType}
    (hM : vx_Met l y ws rm Pc Qc XC mc ms free) (hblind : FrameBlind Pc) (hrc : rm.cells = mc) (hrs : rm.slots = ms)
    (hframes : rm.frames + 1 ≤ R.frames) (hlocals : W9 + (maxL + 11) + rm.locals ≤ R.locals)
    (hws : ∀ w ∈ ws, ∀ a' U, s.WarmedH U.vm → w.before a' U = true) (hcode : Cond.code y bytes maxL ret ∈ ws) (hinit : ∀ a' U, s.WarmedH U.vm → (Cond.initialized y.cls).before a' U = true) :
    vx_Back l R p e below s sargs y len W9 (PreOf R mc ms Pc) (PostOf Qc mc ms free) (vx_Post XC mc ms free) := by
  intro m meth c A g ig mk a X hg hsize hdg hW hn hp
  have h1 : (headSpec ws rm).pre.before a A.U = true := atoms_intro fun w hw => hws w hw _ _ X.warmed
  have h2 : (Cond.code y bytes maxL ret).before a A.U = true := hws _ hcode _ _ X.warmed
  have h3 : (Cond.initialized y.cls).before a A.U = true := hinit _ _ X.warmed
  have h4 : A.cells + (headSpec ws rm).room.cells ≤ R.cells := by rw [show (headSpec ws rm).room.cells = mc from hrc]; exact hp.1
  have h5 : A.slots + (headSpec ws rm).room.slots ≤ R.slots := by rw [show (headSpec ws rm).room.slots = ms from hrs]; exact hp.2.1
  have hPc : Pc a (A.U.calling g mk a) := hblind _ _ _ _ hp.2.2
  obtain ⟨U, Ls, c0, s0⟩ := A
  dsimp only [Pt.U, Pt.locs, Pt.cells, Pt.slots] at h1 h2 h3 h4 h5 X hn hPc ⊢
  obtain ⟨methY, cY, hmY, hcY, -, hlY, -, -, -, -⟩ := Cond.code_spec hn h2
  obtain ⟨kY, hkY, -⟩ := className_of_methodNamed hn
  have hinitY : kY.init = .initialized := Cond.initialized_spec (findClass_of_methodNamed hn) hkY h3
  have h : At U g.method c below := by rw [hg]; exact X.here
  have hlocals9 : W9 + (maxL + 11) + (headSpec ws rm).room.locals ≤ R.locals := hlocals
  have happ : (headSpec ws rm).appliesLoose y e.platform (U.calling g mk a) = true :=
    Spec.appliesLoose_calling (g := g) h hdg hn hkY hinitY
      (X.room_calling (g := g) (R' := (headSpec ws rm).room) hsize hmY hcY hframes (by rw [hlY]; omega) h4 h5) h1
  obtain ⟨mid, hmid⟩ := h.above
  have hfr : (U.setTop g).frames = (.java g :: mid) ++ below := by rw [State.frames_setTop' g h.top, hmid]; rfl
  obtain ⟨o, s₂, hsteps, -, hend, hq⟩ := Steps.callFree hM p X.admits X.cas X.clock (acts := []) hfr happ hPc trivial
  have hq' : vx_Q Qc XC mc ms free a (U.calling g mk a) o s₂ := hq
  rw [State.frames_setTop' g h.top] at hend
  obtain ⟨g₀, hg0⟩ := Option.isSome_iff_exists.mp h.top
  obtain ⟨r, hr⟩ := State.topJava?_eq_some.mp hg0
  have hr' : (({ U with heap := s₂.heap, slotsUsed := s₂.slotsUsed } : State).setVm s₂.vm).frames = .java g₀ :: r := hr
  rcases hq' with ⟨hqc, L, hfe, hL⟩ | ⟨q, rfl, E, ce, L, hx, hce, hcv, hcl, hW₂, hsm, hL⟩
  · obtain ⟨⟨v, rfl⟩, hW₂, e2, q2, q3, q4, q5, q6⟩ := id hfe
    have e3 : s₂ = ({ (U.calling g mk a).setFrames s₂.frames with heap := s₂.heap, slotsUsed := s₂.slotsUsed } : State).setVm s₂.vm := by
      have : s₂ = ({ s₂ with vm := (U.calling g mk a).vm } : State).setVm s₂.vm := rfl
      rw [e2] at this
      exact this
    obtain ⟨c₂, i₂, len₂, hc₂, hd₂, hf₂⟩ := hend
    have hW' : U.WarmedH s₂.vm := hW₂
    have hcc : c₂ = c := by
      have h1 : s₂.code? g.method = U.code? g.method := by
        rw [State.code?_eq, State.code?_eq, hW'.alike.method?]
      exact Option.some.inj (hc₂.symm.trans (h1.trans h.code))
    subst hcc
    have hlen : len₂ = len := by rw [hdg] at hd₂; cases hd₂; rfl
    subst hlen
    have hs₂ : s₂ = (({ U with heap := s₂.heap, slotsUsed := s₂.slotsUsed } : State).setVm s₂.vm).setTop { g with pc := g.pc + len₂, stack := v.toList ++ g.stack } := by
      refine e3.trans ?_
      rw [hf₂, State.calling_eq h.top, State.setFrames_setFrames, State.setTop_of_frames _ hr', hr]
      rfl
    have hsame : U.sameButNew ({ U with heap := s₂.heap, slotsUsed := s₂.slotsUsed } : State) L mc ms := by
      refine ⟨?_, q2, q3, q4, q5, q6⟩
      obtain ⟨t, ht, -⟩ := State.frames_cons hr
      show ({ U with heap := s₂.heap, slotsUsed := s₂.slotsUsed } : State) = { U.setFrames U.frames with heap := s₂.heap, slotsUsed := s₂.slotsUsed }
      rw [State.setFrames_self ht]
    subst hg
    refine Or.inl ⟨v, ⟨(({ U with heap := s₂.heap, slotsUsed := s₂.slotsUsed } : State).setVm s₂.vm), Ls ++ L, c0 + mc, s0 + ms⟩,
      ⟨X.admits, X.cas, X.clock, X.frames, X.room, X.hears, X.method, X.code, (X.here.setHeapUsed s₂.heap s₂.slotsUsed).setVm hW'.alike, X.tail, State.WarmedH.trans X.warmed hW', X.limits, X.bytes, X.same.trans (hsame.setVm s.vm)⟩,
      ⟨g, mk, s₂, L, rfl, rfl, hqc, rfl, hL, rfl, rfl⟩, ?_⟩
    show Steps p.tables e below _ ((({ U with heap := s₂.heap, slotsUsed := s₂.slotsUsed } : State).setVm s₂.vm).setTop { g with pc := g.pc + len₂, stack := v.toList ++ g.stack })
    rw [← hs₂]
    exact hsteps
  · obtain ⟨e2, q2, q3, q4, q5, q6⟩ := id hsm
    have e3 : s₂ = ({ (U.calling g mk a).setFrames s₂.frames with heap := s₂.heap, slotsUsed := s₂.slotsUsed } : State).setVm s₂.vm := by
      have : s₂ = ({ s₂ with vm := (U.calling g mk a).vm } : State).setVm s₂.vm := rfl
      rw [e2] at this
      exact this
    have hf₂ : s₂.frames = .throwing q :: .java g :: U.frames.tail := hend
    have hW' : U.WarmedH s₂.vm := hW₂
    have hs₂ : s₂ = ((({ U with heap := s₂.heap, slotsUsed := s₂.slotsUsed } : State).setVm s₂.vm).setTop g).pushFrame (.throwing q) := by
      refine e3.trans ?_
      rw [hf₂, State.calling_eq h.top, State.setFrames_setFrames, State.pushFrame, State.frames_setTop _ hr', State.setTop_of_frames _ hr', State.setFrames_setFrames, hr]
      rfl
    have hsame : U.sameButNew ({ U with heap := s₂.heap, slotsUsed := s₂.slotsUsed } : State) L mc ms := by
      refine ⟨?_, q2, q3, q4, q5, q6⟩
      obtain ⟨t, ht, -⟩ := State.frames_cons hr
      show ({ U with heap := s₂.heap, slotsUsed := s₂.slotsUsed } : State) = { U.setFrames U.frames with heap := s₂.heap, slotsUsed := s₂.slotsUsed }
      rw [State.setFrames_self ht]
    subst hg
    refine Or.inr ⟨q, ⟨(({ U with heap := s₂.heap, slotsUsed := s₂.slotsUsed } : State).setVm s₂.vm), Ls ++ L, c0 + mc, s0 + ms⟩,
      ⟨X.admits, X.cas, X.clock, X.frames, X.room, X.hears, X.method, X.code, (X.here.setHeapUsed s₂.heap s₂.slotsUsed).setVm hW'.alike, X.tail, State.WarmedH.trans X.warmed hW', X.limits, X.bytes, X.same.trans (hsame.setVm s.vm)⟩,
      ⟨g, mk, s₂, L, E, ce, rfl, rfl, hx, hce, hcv, hcl, rfl, hL, rfl, rfl⟩, ?_⟩
    show Steps p.tables e below _ (((({ U with heap := s₂.heap, slotsUsed := s₂.slotsUsed } : State).setVm s₂.vm).setTop g).pushFrame (.throwing q))
    rw [← hs₂]
    exact hsteps
end Payer
section Calls
variable {p : Program} {l : Launch} {e : Env} {R : Room} {s : State} {m : MethodId} {args : Array Value} {below : List Frame} {meth : Method} {c : Code} {T : State} {locs : List Loc} {cells slots : Nat}
theorem vx_callV (X : Stand p l e R s m args below meth c T locs cells slots) (hexec : p.tables.exec = Jvm.exec) {own C : String} {index : Nat} {y : MethodName} {bytes : ByteArray} {maxL : Nat} {ret : Option FieldType}
    (hown : s.vm.findClass own = some m.cls) (hlink : (Cond.methodLink own index y).before args s = true) (hinst : (Cond.instanceMethod y).before args s = true) (hsel : (Cond.selects C y y).before args s = true)
    (hcode : (Cond.code y bytes maxL ret).before args s = true) (hy : y.cls ≠ "java/lang/invoke/MethodHandle" ∧ y.cls ≠ "java/lang/invoke/VarHandle")
    {W9 : Nat} {Pre : Pt → Array Value → Prop} {Post : Pt → Array Value → Option Value → Pt → Prop} {PostX : Pt → Array Value → Addr → Pt → Prop} (hK : vx_Back l R p e below s args y 3 W9 Pre Post PostX)
    {b : Addr} {cellB : Cell} (hcell : T.heap[b]? = some cellB) (hobj : cellB.vm.isStatics = false) (hcls : s.vm.findClass C = some cellB.cls)
    {g : JFrame} (hg : g.method = m) (hsize : g.locals.size = c.maxLocals) {argsL rest : List Value} (hlen : ∀ sig, parseMethodDescriptor y.desc = some sig → argsL.length = sig.parameters.length)
    (hstack : g.stack = argsL.reverse ++ .ref b :: rest) (hW : 2 * g.monitorRoom + (rest.map fun v => v.category).sum ≤ W9) (hdg : decode c.code g.pc = .ok (.invokevirtual index, 3))
    (hpre : ∀ vm₁, s.WarmedH vm₁ → Pre ⟨T.setVm vm₁, locs, cells, slots⟩ (Value.ref b :: argsL).toArray) :
    (∃ (v : Option Value) (vm₁ : Vm) (B : Pt), s.WarmedH vm₁ ∧ Stand p l e R s m args below meth c B.U B.locs B.cells B.slots ∧ Post ⟨T.setVm vm₁, locs, cells, slots⟩ (Value.ref b :: argsL).toArray v B ∧
      ∀ target, Steps p.tables e below (B.U.setTop { g with pc := g.pc + 3, stack := v.toList ++ rest }) target → Steps p.tables e below (T.setTop g) target) ∨
    (∃ (q : Addr) (vm₁ : Vm) (B : Pt), s.WarmedH vm₁ ∧ Stand p l e R s m args below meth c B.U B.locs B.cells B.slots ∧ PostX ⟨T.setVm vm₁, locs, cells, slots⟩ (Value.ref b :: argsL).toArray q B ∧
      Steps p.tables e below (T.setTop g) ((B.U.setTop { g with stack := rest }).pushFrame (.throwing q))) := by
  obtain ⟨mk, methM, hnamed, hmethM, hstM, habM⟩ := Cond.instanceMethod_spec hinst
  obtain ⟨methM', cM, hmethM', -, -, -, -, -, -, hsigM⟩ := Cond.code_spec hnamed hcode
  cases hmethM.symm.trans hmethM'
  obtain ⟨c2, r2, m2, q1, q2, q3, q4, kP, hkP, hkPi⟩ := Cond.selects_spec hsel
  cases hcls.symm.trans q1
  cases (State.methodFound?_of_named hnamed hy).symm.trans q2
  cases hnamed.symm.trans q3
  have hselP : selectMethod e.platform s.vm cellB.cls mk = .method mk := by rw [Launch.admits_selectMethod X.admits]; exact q4
  obtain ⟨vm₁, X₁, hstep₁⟩ := X.invokevirtual hexec hown hlink hnamed hmethM hstM hkP hkPi hy (a := b) (cell := cellB) hcell
    (fun z h => by rw [h] at hobj; cases hobj) hselP hmethM habM hkP hkPi (g := g) hg (argsL := argsL) (rest := rest) (hlen _ hsigM) hstack hdg
  rcases hK m meth c ⟨T.setVm vm₁, locs, cells, slots⟩ { g with stack := rest } (.invokevirtual index) mk (Value.ref b :: argsL).toArray X₁ hg hsize hdg hW (X₁.named hnamed) (hpre vm₁ X₁.warmed) with ⟨v, B, X', hpost, hsteps⟩ | ⟨q, B, X', hpost, hsteps⟩
  · exact Or.inl ⟨v, vm₁, B, X₁.warmed, X', hpost, fun target h => hstep₁ _ fun acts => by rw [doInvoke_state]; exact hsteps.trans h⟩
  · exact Or.inr ⟨q, vm₁, B, X₁.warmed, X', hpost, hstep₁ _ fun acts => by rw [doInvoke_state]; exact hsteps⟩
theorem vx_callS (X : Stand p l e R s m args below meth c T locs cells slots) (hexec : p.tables.exec = Jvm.exec) {own : String} {index : Nat} {y : MethodName} {bytes : ByteArray} {maxL : Nat} {ret : Option FieldType}
    (hown : s.vm.findClass own = some m.cls) (hlink : (Cond.methodLink own index y).before args s = true) (hstat : (Cond.static y).before args s = true) (hinit : (Cond.initialized y.cls).before args s = true)
    (hcode : (Cond.code y bytes maxL ret).before args s = true) (hy : y.cls ≠ "java/lang/invoke/MethodHandle" ∧ y.cls ≠ "java/lang/invoke/VarHandle")
    {W9 : Nat} {Pre : Pt → Array Value → Prop} {Post : Pt → Array Value → Option Value → Pt → Prop} {PostX : Pt → Array Value → Addr → Pt → Prop} (hK : vx_Back l R p e below s args y 3 W9 Pre Post PostX)
    {g : JFrame} (hg : g.method = m) (hsize : g.locals.size = c.maxLocals) {argsL rest : List Value} (hlen : ∀ sig, parseMethodDescriptor y.desc = some sig → argsL.length = sig.parameters.length)
    (hstack : g.stack = argsL.reverse ++ rest) (hW : 2 * g.monitorRoom + (rest.map fun v => v.category).sum ≤ W9) (hdg : decode c.code g.pc = .ok (.invokestatic index, 3))
    (hpre : ∀ vm₁, s.WarmedH vm₁ → Pre ⟨T.setVm vm₁, locs, cells, slots⟩ argsL.toArray) :
    (∃ (v : Option Value) (vm₁ : Vm) (B : Pt), s.WarmedH vm₁ ∧ Stand p l e R s m args below meth c B.U B.locs B.cells B.slots ∧ Post ⟨T.setVm vm₁, locs, cells, slots⟩ argsL.toArray v B ∧
      ∀ target, Steps p.tables e below (B.U.setTop { g with pc := g.pc + 3, stack := v.toList ++ rest }) target → Steps p.tables e below (T.setTop g) target) ∨
    (∃ (q : Addr) (vm₁ : Vm) (B : Pt), s.WarmedH vm₁ ∧ Stand p l e R s m args below meth c B.U B.locs B.cells B.slots ∧ PostX ⟨T.setVm vm₁, locs, cells, slots⟩ argsL.toArray q B ∧
      Steps p.tables e below (T.setTop g) ((B.U.setTop { g with stack := rest }).pushFrame (.throwing q))) := by
  obtain ⟨mk, hnamed⟩ := Cond.code_named hcode
  obtain ⟨methM, cM, hmethM, -, -, -, -, -, -, hsigM⟩ := Cond.code_spec hnamed hcode
  have hstatic : methM.isStatic = true := Cond.static_spec hnamed hmethM hstat
  obtain ⟨kP, hkP, -⟩ := className_of_methodNamed hnamed
  have hinitP : kP.init = .initialized := Cond.initialized_spec (findClass_of_methodNamed hnamed) hkP hinit
  obtain ⟨vm₁, X₁, hstep₁⟩ := X.invokestatic hexec hown hlink hnamed hmethM hstatic hkP hinitP hy (g := g) hg (argsL := argsL) (rest := rest) (hlen _ hsigM) hstack hdg
  rcases hK m meth c ⟨T.setVm vm₁, locs, cells, slots⟩ { g with stack := rest } (.invokestatic index) mk argsL.toArray X₁ hg hsize hdg hW (X₁.named hnamed) (hpre vm₁ X₁.warmed) with ⟨v, B, X', hpost, hsteps⟩ | ⟨q, B, X', hpost, hsteps⟩
  · exact Or.inl ⟨v, vm₁, B, X₁.warmed, X', hpost, fun target h => hstep₁ _ fun acts => by rw [doInvoke_state]; exact hsteps.trans h⟩
  · exact Or.inr ⟨q, vm₁, B, X₁.warmed, X', hpost, hstep₁ _ fun acts => by rw [doInvoke_state]; exact hsteps⟩
end Calls
theorem vx_cls {s : State} {T : State} {vm₁ : Vm} {E : String} {k : ClassId} (hW : s.WarmedH vm₁) (h : (T.setVm vm₁).vm.findClass E = some k) : s.vm.findClass E = some k := by
  have h1 : vm₁.findClass E = some k := h
  rw [hW.alike.findClass] at h1
  exact h1
/-- the method's frame g, with q thrown over it -/
def vx_W (p : Program) (l : Launch) (e : Env) (R : Room) (s : State) (m : MethodId) (args : Array Value) (below : List Frame) (meth : Method) (c : Code) (H : Heap) (locs : List Loc) (cells slots : Nat) (Q : State → Prop) (g : JFrame) (q : Addr) : Prop :=
  ∀ T : State, T.heap = H → Stand p l e R s m args below meth c T locs cells slots → ∃ t, Steps p.tables e below ((T.setTop g).pushFrame (.throwing q)) t ∧ Q t
def vx_Run (p : Program) (l : Launch) (e : Env) (R : Room) (s : State) (m : MethodId) (args : Array Value) (below : List Frame) (meth : Method) (c : Code) (H : Heap) (locs : List Loc) (cells slots mc ms : Nat) (g : JFrame) (rest : List Value) (Qa : State → Outcome → State → Prop) (XC : String → State → State → Prop) (free : Addr → Prop) : Prop :=
  ∀ T : State, T.heap = H → Stand p l e R s m args below meth c T locs cells slots →
    (∃ (v : Option Value) (st₀ t T' : State) (L : List Loc), st₀.heap = H ∧ Stand p l e R s m args below meth c T' (locs ++ L) (cells + mc) (slots + ms) ∧ (∀ q ∈ L, free q.base) ∧ T'.heap = t.heap ∧ T'.vm = t.vm ∧ Qa st₀ (.returned v) t ∧
      Goes p e below T g T' { g with pc := g.pc + 3, stack := v.toList ++ rest }) ∨
    (∃ (q : Addr) (st₀ t T' : State) (L : List Loc) (E : String) (ce : Cell), st₀.heap = H ∧ Stand p l e R s m args below meth c T' (locs ++ L) (cells + mc) (slots + ms) ∧ (∀ z ∈ L, free z.base) ∧ T'.heap = t.heap ∧ T'.vm = t.vm ∧ XC E st₀ t ∧ t.heap[q]? = some ce ∧ ce.vm = .none ∧ s.vm.findClass E = some ce.cls ∧
      Steps p.tables e below (T.setTop g) ((T'.setTop { g with stack := rest }).pushFrame (.throwing q)))
def vx_X {S : Type} (px : S → Prop) (B : String → S → State → Prop) (A : Nat → Prop) : String → State → State → Prop := fun E st t => ∃ u : S, px u ∧ B E u t ∧ va_F A st t
section Runs
variable {p : Program} {l : Launch} {e : Env} {R : Room} {s : State} {m : MethodId} {args : Array Value} {below : List Frame} {meth : Method} {c : Code} {H : Heap} {locs : List Loc} {cells slots : Nat}
variable {y : MethodName} {bytes cc : ByteArray} {maxL nL mc ms n index : Nat} {ret : Option FieldType} {ws : List Cond} {rm : Room} {Pc : Array Value → State → Prop} {Qc : Array Value → State → Outcome → State → Prop} {XC : String → State → State → Prop} {free : Addr → Prop} {Ts : List Cond} {own C : String} {b : Addr} {As rest : List Value} {g : JFrame}
theorem vx_callBack (cb : CallB R s args own index y bytes maxL ret ws rm mc ms n) (hM : vx_Met l y ws rm Pc Qc XC mc ms free) (hbl : FrameBlind Pc) : vx_Back l R p e below s args y 3 8 (PreOf R mc ms Pc) (PostOf Qc mc ms free) (vx_Post XC mc ms free) := by
  obtain ⟨hrc, hrs, hfr, hlo, hws, hcw, -, hini, -⟩ := cb
  exact vx_back (bytes := bytes) (maxL := maxL) (ret := ret) hM hbl hrc hrs hfr hlo hws hcw (fun a' U hW => word_at hW (Or.inl (by first | rfl | simp [Cond.onTables, Cond.keeps, Cond.steady])) hini)
theorem vx_runV (S : CallFix p m c cc nL s args Ts own) (hM : vx_Met l y ws rm Pc Qc XC mc ms free) (cw : CallW R s args own C index y bytes maxL ret ws rm mc ms n) (hp : PreV s H C b Pc As)
    (hg : g.method = m) (hn : As.length = n) (hsize : g.locals.size = nL) (hstack : g.stack = As.reverse ++ .ref b :: rest) (hW : 2 * g.monitorRoom + (rest.map fun v => v.category).sum ≤ 8) (hdg : decode cc g.pc = .ok (.invokevirtual index, 3)) (hf : cells + mc ≤ R.cells ∧ slots + ms ≤ R.slots) :
    vx_Run p l e R s m args below meth c H locs cells slots mc ms g rest (Qc (Value.ref b :: As).toArray) XC free := by
  have hK : vx_Back l R p e below s args y 3 8 (PreOf R mc ms Pc) (PostOf Qc mc ms free) (vx_Post XC mc ms free) := vx_callBack cw.1 hM hp.1
  obtain ⟨⟨-, -, -, -, -, -, hcode, -, hy, hlen, hl⟩, hin, hse⟩ := cw
  obtain ⟨hx, hb, hml, ho, -⟩ := S
  obtain ⟨-, ⟨cellB, hcB, hoB, hclB⟩, hPc⟩ := hp
  intro T hT X
  rcases vx_callV X hx (C := C) (bytes := bytes) (maxL := maxL) (ret := ret) ho hl hin hse hcode hy hK (by rw [hT]; exact hcB) hoB hclB hg (hsize.trans hml.symm) (argsL := As) (rest := rest) (fun sig h => hn.trans (hlen sig h)) hstack hW (by rw [hb]; exact hdg)
    (fun vm₁ hW₁ => ⟨hf.1, hf.2, hPc (T.setVm vm₁) hT hW₁⟩) with ⟨v, vm₁, ⟨U', l2, c2, s2⟩, hW₁, X', ⟨g', mk, t, L, e1, e2, hq, h1, hL, h2, h3⟩, st⟩ | ⟨q, vm₁, ⟨U', l2, c2, s2⟩, hW₁, X', ⟨g', mk, t, L, E, ce, e1, e2, hq, hce, hcv, hcl, h1, hL, h2, h3⟩, st⟩
  · dsimp only [Pt.U, Pt.locs, Pt.cells, Pt.slots] at X' e1 e2 h1 h2 h3 st
    subst h1; subst h2; subst h3
    exact Or.inl ⟨v, (T.setVm vm₁).calling g' mk (Value.ref b :: As).toArray, t, U', L, hT, X', hL, e1, e2, hq, st⟩
  · dsimp only [Pt.U, Pt.locs, Pt.cells, Pt.slots] at X' e1 e2 h1 h2 h3 st hcl
    subst h1; subst h2; subst h3
    exact Or.inr ⟨q, (T.setVm vm₁).calling g' mk (Value.ref b :: As).toArray, t, U', L, E, ce, hT, X', hL, e1, e2, hq, hce, hcv, vx_cls hW₁ hcl, st⟩
theorem vx_runS (S : CallFix p m c cc nL s args Ts own) (hM : vx_Met l y ws rm Pc Qc XC mc ms free) (cw : CallB R s args own index y bytes maxL ret ws rm mc ms n ∧ (Cond.static y).before args s = true) (hp : PreS s H Pc As)
    (hg : g.method = m) (hn : As.length = n) (hsize : g.locals.size = nL) (hstack : g.stack = As.reverse ++ rest) (hW : 2 * g.monitorRoom + (rest.map fun v => v.category).sum ≤ 8) (hdg : decode cc g.pc = .ok (.invokestatic index, 3)) (hf : cells + mc ≤ R.cells ∧ slots + ms ≤ R.slots) :
    vx_Run p l e R s m args below meth c H locs cells slots mc ms g rest (Qc As.toArray) XC free := by
  have hK : vx_Back l R p e below s args y 3 8 (PreOf R mc ms Pc) (PostOf Qc mc ms free) (vx_Post XC mc ms free) := vx_callBack cw.1 hM hp.1
  obtain ⟨⟨-, -, -, -, -, -, hcode, hini, hy, hlen, hl⟩, hstt⟩ := cw
  obtain ⟨hx, hb, hml, ho, -⟩ := S
  intro T hT X
  rcases vx_callS X hx (bytes := bytes) (maxL := maxL) (ret := ret) ho hl hstt hini hcode hy hK hg (hsize.trans hml.symm) (argsL := As) (rest := rest) (fun sig h => hn.trans (hlen sig h)) hstack hW (by rw [hb]; exact hdg)
    (fun vm₁ hW₁ => ⟨hf.1, hf.2, hp.2 (T.setVm vm₁) hT hW₁⟩) with ⟨v, vm₁, ⟨U', l2, c2, s2⟩, hW₁, X', ⟨g', mk, t, L, e1, e2, hq, h1, hL, h2, h3⟩, st⟩ | ⟨q, vm₁, ⟨U', l2, c2, s2⟩, hW₁, X', ⟨g', mk, t, L, E, ce, e1, e2, hq, hce, hcv, hcl, h1, hL, h2, h3⟩, st⟩
  · dsimp only [Pt.U, Pt.locs, Pt.cells, Pt.slots] at X' e1 e2 h1 h2 h3 st
    subst h1; subst h2; subst h3
    exact Or.inl ⟨v, (T.setVm vm₁).calling g' mk As.toArray, t, U', L, hT, X', hL, e1, e2, hq, st⟩
  · dsimp only [Pt.U, Pt.locs, Pt.cells, Pt.slots] at X' e1 e2 h1 h2 h3 st hcl
    subst h1; subst h2; subst h3
    exact Or.inr ⟨q, (T.setVm vm₁).calling g' mk As.toArray, t, U', L, E, ce, hT, X', hL, e1, e2, hq, hce, hcv, vx_cls hW₁ hcl, st⟩
end Runs
section Rows
variable {p : Program} {l : Launch} {e : Env} {R : Room} {s : State} {m : MethodId} {args : Array Value} {below : List Frame} {meth : Method} {c : Code} {H : Heap} {locs : List Loc} {cells slots : Nat} {Q : State → Prop}
variable {mc ms : Nat} {free : Addr → Prop} {A0 A1 : Nat → Prop} {H0 : Heap} {a : Array Value} {pc : Nat} {ls : Array Slot} {st0 rest : List Value}
theorem vx_keep {st₀ t T' : State} {L : List Loc} (h0 : st₀.heap = H) (e1 : T'.heap = t.heap) (hS : va_S A0 H0 H locs) (hA : ∀ q, q < H.size → A1 q → A0 q) (hf : ∀ q, free q → A0 q) (hL : ∀ q ∈ L, free q.base) (hF : va_F A1 st₀ t) :
    H.size ≤ T'.heap.size ∧ (∀ q : Nat, q < H.size → ¬ A1 q → T'.heap[q]? = H[q]?) ∧ va_S A0 H0 T'.heap (locs ++ L) := by
  obtain ⟨hz, hk⟩ := hF
  rw [h0] at hz hk
  exact ⟨by rw [e1]; exact hz, fun q h1 h2 => by rw [e1]; exact hk q h1 h2,
    ⟨Nat.le_trans hS.1 (by rw [e1]; exact hz), fun q h1 h2 => by rw [e1, hk q (Nat.lt_of_lt_of_le h1 hS.1) (fun z => h2 (hA q (Nat.lt_of_lt_of_le h1 hS.1) z))]; exact hS.2.1 q h1 h2, fun q hq => by
      rcases List.mem_append.mp hq with h | h
      · exact hS.2.2 q h
      · exact hf _ (hL q h)⟩⟩
theorem vx_calli {S SX : Type} {post : Int32 → S → Prop} {px : SX → Prop} {B : S → State → Prop} {BX : String → SX → State → Prop} {AX : Nat → Prop} (hr : vx_Run p l e R s m args below meth c H locs cells slots mc ms (F0 m pc ls st0) rest (va_Qi post B A1 a) (vx_X px BX AX) free) (hS : va_S A0 H0 H locs) (hA : ∀ q, q < H.size → A1 q → A0 q) (hf : ∀ q, free q → A0 q) (hAX : ∀ q, q < H.size → AX q → A0 q)
    (kx : ∀ (E : String) (ce : Cell) (q9 : Addr) (u : SX) (t : State) (H1 : Heap) (locs1 : List Loc), t.heap = H1 → s.vm.Alike t.vm → px u → BX E u t → H.size ≤ H1.size → (∀ q : Nat, q < H.size → ¬ AX q → H1[q]? = H[q]?) → va_S A0 H0 H1 locs1 → H1[q9]? = some ce → ce.vm = .none → s.vm.findClass E = some ce.cls → vx_W p l e R s m args below meth c H1 locs1 (cells + mc) (slots + ms) Q (F0 m pc ls rest) q9)
    (kk : ∀ (r : Int32) (u : S) (t : State) (H1 : Heap) (locs1 : List Loc), t.heap = H1 → s.vm.Alike t.vm → post r u → B u t → H.size ≤ H1.size → (∀ q : Nat, q < H.size → ¬ A1 q → H1[q]? = H[q]?) → va_S A0 H0 H1 locs1 → W p l e R s m args below meth c H1 locs1 (cells + mc) (slots + ms) Q (F0 m (pc + 3) ls (.int r :: rest))) : W p l e R s m args below meth c H locs cells slots Q (F0 m pc ls st0) := by
  intro T hT X
  rcases hr T hT X with ⟨v, st₀, t, T', L, h0, X', hL, e1, e2, ⟨⟨r, u, hv, hp, hb⟩, hF⟩, st⟩ | ⟨q, st₀, t, T', L, E, ce, h0, X', hL, e1, e2, ⟨u, hp, hb, hF⟩, hce, hcv, hcl, st⟩
  · cases hv
    obtain ⟨k1, k2, k3⟩ := vx_keep h0 e1 hS hA hf hL hF
    obtain ⟨t2, a1, b1⟩ := kk r u t T'.heap (locs ++ L) e1.symm (by rw [← e2]; exact X'.warmed.alike) hp hb k1 k2 k3 T' rfl X'
    exact ⟨t2, st t2 a1, b1⟩
  · obtain ⟨k1, k2, k3⟩ := vx_keep h0 e1 hS hAX hf hL hF
    obtain ⟨t2, a1, b1⟩ := kx E ce q u t T'.heap (locs ++ L) e1.symm (by rw [← e2]; exact X'.warmed.alike) hp hb k1 k2 k3 (by rw [e1]; exact hce) hcv hcl T' rfl X'
    exact ⟨t2, st.trans a1, b1⟩
theorem vx_calll {S SX : Type} {post : Int64 → S → Prop} {px : SX → Prop} {B : S → State → Prop} {BX : String → SX → State → Prop} {AX : Nat → Prop} (hr : vx_Run p l e R s m args below meth c H locs cells slots mc ms (F0 m pc ls st0) rest (va_Ql post B A1 a) (vx_X px BX AX) free) (hS : va_S A0 H0 H locs) (hA : ∀ q, q < H.size → A1 q → A0 q) (hf : ∀ q, free q → A0 q) (hAX : ∀ q, q < H.size → AX q → A0 q)
    (kx : ∀ (E : String) (ce : Cell) (q9 : Addr) (u : SX) (t : State) (H1 : Heap) (locs1 : List Loc), t.heap = H1 → s.vm.Alike t.vm → px u → BX E u t → H.size ≤ H1.size → (∀ q : Nat, q < H.size → ¬ AX q → H1[q]? = H[q]?) → va_S A0 H0 H1 locs1 → H1[q9]? = some ce → ce.vm = .none → s.vm.findClass E = some ce.cls → vx_W p l e R s m args below meth c H1 locs1 (cells + mc) (slots + ms) Q (F0 m pc ls rest) q9)
    (kk : ∀ (r : Int64) (u : S) (t : State) (H1 : Heap) (locs1 : List Loc), t.heap = H1 → s.vm.Alike t.vm → post r u → B u t → H.size ≤ H1.size → (∀ q : Nat, q < H.size → ¬ A1 q → H1[q]? = H[q]?) → va_S A0 H0 H1 locs1 → W p l e R s m args below meth c H1 locs1 (cells + mc) (slots + ms) Q (F0 m (pc + 3) ls (.long r :: rest))) : W p l e R s m args below meth c H locs cells slots Q (F0 m pc ls st0) := by
  intro T hT X
  rcases hr T hT X with ⟨v, st₀, t, T', L, h0, X', hL, e1, e2, ⟨⟨r, u, hv, hp, hb⟩, hF⟩, st⟩ | ⟨q, st₀, t, T', L, E, ce, h0, X', hL, e1, e2, ⟨u, hp, hb, hF⟩, hce, hcv, hcl, st⟩
  · cases hv
    obtain ⟨k1, k2, k3⟩ := vx_keep h0 e1 hS hA hf hL hF
    obtain ⟨t2, a1, b1⟩ := kk r u t T'.heap (locs ++ L) e1.symm (by rw [← e2]; exact X'.warmed.alike) hp hb k1 k2 k3 T' rfl X'
    exact ⟨t2, st t2 a1, b1⟩
  · obtain ⟨k1, k2, k3⟩ := vx_keep h0 e1 hS hAX hf hL hF
    obtain ⟨t2, a1, b1⟩ := kx E ce q u t T'.heap (locs ++ L) e1.symm (by rw [← e2]; exact X'.warmed.alike) hp hb k1 k2 k3 (by rw [e1]; exact hce) hcv hcl T' rfl X'
    exact ⟨t2, st.trans a1, b1⟩
theorem vx_callf {S SX : Type} {post : UInt32 → S → Prop} {px : SX → Prop} {B : S → State → Prop} {BX : String → SX → State → Prop} {AX : Nat → Prop} (hr : vx_Run p l e R s m args below meth c H locs cells slots mc ms (F0 m pc ls st0) rest (va_Qf post B A1 a) (vx_X px BX AX) free) (hS : va_S A0 H0 H locs) (hA : ∀ q, q < H.size → A1 q → A0 q) (hf : ∀ q, free q → A0 q) (hAX : ∀ q, q < H.size → AX q → A0 q)
    (kx : ∀ (E : String) (ce : Cell) (q9 : Addr) (u : SX) (t : State) (H1 : Heap) (locs1 : List Loc), t.heap = H1 → s.vm.Alike t.vm → px u → BX E u t → H.size ≤ H1.size → (∀ q : Nat, q < H.size → ¬ AX q → H1[q]? = H[q]?) → va_S A0 H0 H1 locs1 → H1[q9]? = some ce → ce.vm = .none → s.vm.findClass E = some ce.cls → vx_W p l e R s m args below meth c H1 locs1 (cells + mc) (slots + ms) Q (F0 m pc ls rest) q9)
    (kk : ∀ (r : UInt32) (u : S) (t : State) (H1 : Heap) (locs1 : List Loc), t.heap = H1 → s.vm.Alike t.vm → post r u → B u t → H.size ≤ H1.size → (∀ q : Nat, q < H.size → ¬ A1 q → H1[q]? = H[q]?) → va_S A0 H0 H1 locs1 → W p l e R s m args below meth c H1 locs1 (cells + mc) (slots + ms) Q (F0 m (pc + 3) ls (.float r :: rest))) : W p l e R s m args below meth c H locs cells slots Q (F0 m pc ls st0) := by
  intro T hT X
  rcases hr T hT X with ⟨v, st₀, t, T', L, h0, X', hL, e1, e2, ⟨⟨r, u, hv, hp, hb⟩, hF⟩, st⟩ | ⟨q, st₀, t, T', L, E, ce, h0, X', hL, e1, e2, ⟨u, hp, hb, hF⟩, hce, hcv, hcl, st⟩
  · cases hv
    obtain ⟨k1, k2, k3⟩ := vx_keep h0 e1 hS hA hf hL hF
    obtain ⟨t2, a1, b1⟩ := kk r u t T'.heap (locs ++ L) e1.symm (by rw [← e2]; exact X'.warmed.alike) hp hb k1 k2 k3 T' rfl X'
    exact ⟨t2, st t2 a1, b1⟩
  · obtain ⟨k1, k2, k3⟩ := vx_keep h0 e1 hS hAX hf hL hF
    obtain ⟨t2, a1, b1⟩ := kx E ce q u t T'.heap (locs ++ L) e1.symm (by rw [← e2]; exact X'.warmed.alike) hp hb k1 k2 k3 (by rw [e1]; exact hce) hcv hcl T' rfl X'
    exact ⟨t2, st.trans a1, b1⟩
theorem vx_calld {S SX : Type} {post : UInt64 → S → Prop} {px : SX → Prop} {B : S → State → Prop} {BX : String → SX → State → Prop} {AX : Nat → Prop} (hr : vx_Run p l e R s m args below meth c H locs cells slots mc ms (F0 m pc ls st0) rest (va_Qd post B A1 a) (vx_X px BX AX) free) (hS : va_S A0 H0 H locs) (hA : ∀ q, q < H.size → A1 q → A0 q) (hf : ∀ q, free q → A0 q) (hAX : ∀ q, q < H.size → AX q → A0 q)
    (kx : ∀ (E : String) (ce : Cell) (q9 : Addr) (u : SX) (t : State) (H1 : Heap) (locs1 : List Loc), t.heap = H1 → s.vm.Alike t.vm → px u → BX E u t → H.size ≤ H1.size → (∀ q : Nat, q < H.size → ¬ AX q → H1[q]? = H[q]?) → va_S A0 H0 H1 locs1 → H1[q9]? = some ce → ce.vm = .none → s.vm.findClass E = some ce.cls → vx_W p l e R s m args below meth c H1 locs1 (cells + mc) (slots + ms) Q (F0 m pc ls rest) q9)
    (kk : ∀ (r : UInt64) (u : S) (t : State) (H1 : Heap) (locs1 : List Loc), t.heap = H1 → s.vm.Alike t.vm → post r u → B u t → H.size ≤ H1.size → (∀ q : Nat, q < H.size → ¬ A1 q → H1[q]? = H[q]?) → va_S A0 H0 H1 locs1 → W p l e R s m args below meth c H1 locs1 (cells + mc) (slots + ms) Q (F0 m (pc + 3) ls (.double r :: rest))) : W p l e R s m args below meth c H locs cells slots Q (F0 m pc ls st0) := by
  intro T hT X
  rcases hr T hT X with ⟨v, st₀, t, T', L, h0, X', hL, e1, e2, ⟨⟨r, u, hv, hp, hb⟩, hF⟩, st⟩ | ⟨q, st₀, t, T', L, E, ce, h0, X', hL, e1, e2, ⟨u, hp, hb, hF⟩, hce, hcv, hcl, st⟩
  · cases hv
    obtain ⟨k1, k2, k3⟩ := vx_keep h0 e1 hS hA hf hL hF
    obtain ⟨t2, a1, b1⟩ := kk r u t T'.heap (locs ++ L) e1.symm (by rw [← e2]; exact X'.warmed.alike) hp hb k1 k2 k3 T' rfl X'
    exact ⟨t2, st t2 a1, b1⟩
  · obtain ⟨k1, k2, k3⟩ := vx_keep h0 e1 hS hAX hf hL hF
    obtain ⟨t2, a1, b1⟩ := kx E ce q u t T'.heap (locs ++ L) e1.symm (by rw [← e2]; exact X'.warmed.alike) hp hb k1 k2 k3 (by rw [e1]; exact hce) hcv hcl T' rfl X'
    exact ⟨t2, st.trans a1, b1⟩
theorem vx_callv {S SX : Type} {post : S → Prop} {px : SX → Prop} {B : S → State → Prop} {BX : String → SX → State → Prop} {AX : Nat → Prop} (hr : vx_Run p l e R s m args below meth c H locs cells slots mc ms (F0 m pc ls st0) rest (va_Qv post B A1 a) (vx_X px BX AX) free) (hS : va_S A0 H0 H locs) (hA : ∀ q, q < H.size → A1 q → A0 q) (hf : ∀ q, free q → A0 q) (hAX : ∀ q, q < H.size → AX q → A0 q)
    (kx : ∀ (E : String) (ce : Cell) (q9 : Addr) (u : SX) (t : State) (H1 : Heap) (locs1 : List Loc), t.heap = H1 → s.vm.Alike t.vm → px u → BX E u t → H.size ≤ H1.size → (∀ q : Nat, q < H.size → ¬ AX q → H1[q]? = H[q]?) → va_S A0 H0 H1 locs1 → H1[q9]? = some ce → ce.vm = .none → s.vm.findClass E = some ce.cls → vx_W p l e R s m args below meth c H1 locs1 (cells + mc) (slots + ms) Q (F0 m pc ls rest) q9)
    (kk : ∀ (u : S) (t : State) (H1 : Heap) (locs1 : List Loc), t.heap = H1 → s.vm.Alike t.vm → post u → B u t → H.size ≤ H1.size → (∀ q : Nat, q < H.size → ¬ A1 q → H1[q]? = H[q]?) → va_S A0 H0 H1 locs1 → W p l e R s m args below meth c H1 locs1 (cells + mc) (slots + ms) Q (F0 m (pc + 3) ls (rest))) : W p l e R s m args below meth c H locs cells slots Q (F0 m pc ls st0) := by
  intro T hT X
  rcases hr T hT X with ⟨v, st₀, t, T', L, h0, X', hL, e1, e2, ⟨⟨u, hv, hp, hb⟩, hF⟩, st⟩ | ⟨q, st₀, t, T', L, E, ce, h0, X', hL, e1, e2, ⟨u, hp, hb, hF⟩, hce, hcv, hcl, st⟩
  · cases hv
    obtain ⟨k1, k2, k3⟩ := vx_keep h0 e1 hS hA hf hL hF
    obtain ⟨t2, a1, b1⟩ := kk u t T'.heap (locs ++ L) e1.symm (by rw [← e2]; exact X'.warmed.alike) hp hb k1 k2 k3 T' rfl X'
    exact ⟨t2, st t2 a1, b1⟩
  · obtain ⟨k1, k2, k3⟩ := vx_keep h0 e1 hS hAX hf hL hF
    obtain ⟨t2, a1, b1⟩ := kx E ce q u t T'.heap (locs ++ L) e1.symm (by rw [← e2]; exact X'.warmed.alike) hp hb k1 k2 k3 (by rw [e1]; exact hce) hcv hcl T' rfl X'
    exact ⟨t2, st.trans a1, b1⟩
/-- caught by the row x of this method's table; the rows ahead don't take it -/
theorem vx_catch {own name : String} {E : String} {ce : Cell} {q : Addr} (hown : s.vm.findClass own = some m.cls) (pre : List ExceptionTableEntry) (x : ExceptionTableEntry) (suf : List ExceptionTableEntry) (hsplit : c.exceptionTable.toList = pre ++ x :: suf)
    (hpass : ∀ z ∈ pre, covers z pc = false ∨ (z.catchType ≠ 0 ∧ ∃ nm : String, (Cond.classLink own z.catchType nm).before args s = true ∧ va_Nc E nm s)) (hx : covers x pc = true) (h0 : x.catchType ≠ 0)
    (hlink : (Cond.classLink own x.catchType name).before args s = true) (hcast : (Cond.castable E name).before args s = true) (hcell : H[q]? = some ce) (hv : ce.vm = .none) (hcl : s.vm.findClass E = some ce.cls)
    (kk : W p l e R s m args below meth c H locs cells slots Q (F0 m x.handlerPc ls [.ref q])) : vx_W p l e R s m args below meth c H locs cells slots Q (F0 m pc ls rest) q := by
  intro T hT X
  have hpl : e.platform.magicAccessors = ({} : Platform).magicAccessors := by rw [X.admits.platform]
  obtain ⟨c3, c4, hc3, hc4, hasg⟩ := Cond.castable_spec hcast
  cases Option.some.inj (hc3.symm.trans hcl)
  obtain ⟨c5, hc5, hcl5⟩ := Cond.classLink_spec hown hlink e.platform hpl
  cases Option.some.inj (hc4.symm.trans hc5)
  obtain ⟨vm', X', st⟩ := X.thenCaughtThrough q (g := F0 m pc ls rest) rfl (Steps.refl _) (by rw [hT]; exact hcell) (by rw [hv]; rfl) (by obtain ⟨k9, h9, -⟩ := Vm.findClass_spec hcl; exact ⟨k9, h9⟩) pre x suf hsplit
    (fun z hz => by
      rcases hpass z hz with h | ⟨hz0, nm, hl1, hn1⟩
      · exact Or.inl h
      · obtain ⟨c6, hc6, hcl6⟩ := Cond.classLink_spec hown hl1 e.platform hpl
        obtain ⟨a8, b8, h1, h2, h3⟩ := hn1
        cases Option.some.inj (h1.symm.trans hcl)
        cases Option.some.inj (h2.symm.trans hc6)
        exact Or.inr ⟨hz0, _, hcl6, h3⟩) hx (Or.inr ⟨h0, c4, hcl5, hasg⟩)
  obtain ⟨t, a1, b1⟩ := kk (T.setVm vm') hT X'
  exact ⟨t, st.trans a1, b1⟩
end Rows
section Ends
variable {p : Program} {l : Launch} {e : Env} {R : Room} {s : State} {m : MethodId} {args : Array Value} {below : List Frame} {meth : Method} {c : Code} {H : Heap} {locs : List Loc} {cells slots : Nat} {Q : State → Prop}
variable {mc ms : Nat} {free : Addr → Prop} {A0 A1 : Nat → Prop} {H0 : Heap} {a : Array Value} {ls : Array Slot} {st0 rest : List Value}
variable {Qc : Array Value → State → Outcome → State → Prop} {XC : String → State → State → Prop}
/-- what a body that may throw owes at its end -/
def vx_MQ (below : List Frame) (Qc : Array Value → State → Outcome → State → Prop) (XC : String → State → State → Prop) (a : Array Value) (s : State) (mc ms : Nat) (free : Addr → Prop) : State → Prop := fun t =>
  ∃ o, t.status = .running ∧ Ended t below o ∧ vx_Q Qc XC mc ms free a s o t
theorem vx_ret {g : JFrame} {mc ms : Nat} (k : W p l e R s m args below meth c H locs cells slots (MQ below Qc args s mc ms free) g) : W p l e R s m args below meth c H locs cells slots (vx_MQ below Qc XC args s mc ms free) g := by
  intro T hT X
  obtain ⟨t, a1, o, b1, b2, b3, b4⟩ := k T hT X
  exact ⟨t, a1, o, b1, b2, Or.inl ⟨b3, b4⟩⟩
/-- not caught here: it goes on to the caller -/
theorem vx_widen {g : JFrame} {q : Addr} {k n : Nat} (h1 : cells ≤ k) (h2 : slots ≤ n) (kk : vx_W p l e R s m args below meth c H locs k n Q g q) : vx_W p l e R s m args below meth c H locs cells slots Q g q := fun T hT X => kk T hT (stand_widen X h1 h2)
theorem vx_out {pc : Nat} {E : String} {ce : Cell} {q : Addr} {mc ms : Nat} (hout : ∀ x ∈ c.exceptionTable.toList, covers x pc = false) (hlocks : meth.locks = false) (hcell : H[q]? = some ce) (hv : ce.vm = .none) (hcl : s.vm.findClass E = some ce.cls)
    (hx : ∀ t : State, t.heap = H → s.vm.Alike t.vm → XC E s t) (hf : ∀ z ∈ locs, free z.base) (hc : cells ≤ mc) (hs : slots ≤ ms) :
    vx_W p l e R s m args below meth c H locs cells slots (vx_MQ below Qc XC args s mc ms free) (F0 m pc ls rest) q := by
  intro T hT X
  obtain ⟨st1, hrun, hend, hW, hsm⟩ := X.leaveThrown q (g := F0 m pc ls rest) rfl rfl rfl hout hlocks
  have hcell9 : (T.setFrames (.throwing q :: below)).heap[q]? = some ce := by
    show T.heap[q]? = some ce
    rw [hT]; exact hcell
  exact ⟨_, st1, .threw q, hrun, hend, Or.inr ⟨q, rfl, E, ce, locs, hx _ hT hW.alike, hcell9, hv, hcl, hW, hsm.mono hc hs, hf⟩⟩
theorem vx_frame {U : State} {k n : Nat} (h : s.sameButNew ({ U with vm := s.vm } : State) locs k n) : s.heap.size ≤ U.heap.size ∧ ∀ q : Nat, q < s.heap.size → (∀ z ∈ locs, z.base ≠ q) → U.heap[q]? = s.heap[q]? := by
  obtain ⟨-, h2, -, -, -, h6⟩ := h
  refine ⟨h2, fun q hq hz => ?_⟩
  obtain ⟨c9, e1, e2, e3, e4⟩ := h6 q _ (Array.getElem?_eq_getElem hq)
  have hs : c9.slots = (s.heap[q]).slots := Array.ext_getElem? fun i => e4 i fun hm => hz _ hm rfl
  have h9 : c9 = s.heap[q] := by
    rw [hs] at e2
    exact e2
  have e5 : U.heap[q]? = some c9 := e1
  rw [e5, h9, Array.getElem?_eq_getElem hq]
/-- the words of a throw but the four that speak of the heap -/
def vx_no (w : Cond) : Bool := decide (w ≠ .isRef (.static Bundle.tN "UNASSIGNED_STACK" Bundle.steD)) && decide (w ≠ .isRef (.static Bundle.tN "SUPPRESSED_SENTINEL" Bundle.listD)) && decide (w ≠ .laysStatic Bundle.tN "UNASSIGNED_STACK" Bundle.steD) && decide (w ≠ .laysStatic Bundle.tN "SUPPRESSED_SENTINEL" Bundle.listD)
def vx_at0 (own : String) (ic : Nat) (X : String) (names : List String) : List Cond := (Bundle.ownAtoms0 own ic X names).filter vx_no
def vx_atS (own : String) (ic : Nat) (X : String) (names : List String) : List Cond := (Bundle.ownAtoms own ic X names).filter vx_no
/-- a word that the tables alone decide, or a good one -/
def vx_ot (w : Cond) : Bool := w.onTables || goodWord w
theorem vx_ot_at {args a' : Array Value} {s U : State} {w : Cond} (hW : s.WarmedH U.vm) (hvm : s.vm = U.vm) (hg : vx_ot w = true) (h : w.before args s = true) : w.before a' U = true := by
  simp only [vx_ot, Bool.or_eq_true] at hg
  rcases hg with hg | hg
  · exact va_tabs hg hvm h
  · exact word_at hW (good_of_word hg) h
/-- a list's words: the good ones out of the method's own list, the others by premises of their own -/
theorem vx_hat {args : Array Value} {s : State} {L B : List Cond} (h1 : ∀ w ∈ L.filter goodWord, w.before args s = true) (h2 : ∀ w ∈ L.filter (fun w => !goodWord w), w ∈ B) (h3 : ∀ w ∈ B, w.before args s = true) : ∀ w ∈ L, w.before args s = true := by
  intro w hw
  by_cases g : goodWord w = true
  · exact h1 w (List.mem_filter.mpr ⟨hw, g⟩)
  · refine h3 w (h2 w (List.mem_filter.mpr ⟨hw, ?_⟩))
    show (!goodWord w) = true
    cases hgw : goodWord w
    · rfl
    · exact absurd hgw g
theorem vx_c {args : Array Value} {s : State} {w : Cond} {B : List Cond} (h : w.before args s = true) (t : ∀ w ∈ B, w.before args s = true) : ∀ w' ∈ w :: B, w'.before args s = true := fun w' h' => (List.mem_cons.mp h').elim (fun e => by rw [e]; exact h) (t w')
theorem vx_n {args : Array Value} {s : State} : ∀ w ∈ ([] : List Cond), w.before args s = true := fun _ h => nomatch h
theorem vx_own {args : Array Value} {s : State} {L : List Cond} (h1 : ∀ w ∈ L.filter vx_no, w.before args s = true)
    (hU : (Cond.isRef (.static Bundle.tN "UNASSIGNED_STACK" Bundle.steD)).before args s = true) (hN : (Cond.isRef (.static Bundle.tN "SUPPRESSED_SENTINEL" Bundle.listD)).before args s = true)
    (lU : (Cond.laysStatic Bundle.tN "UNASSIGNED_STACK" Bundle.steD).before args s = true) (lN : (Cond.laysStatic Bundle.tN "SUPPRESSED_SENTINEL" Bundle.listD).before args s = true) : ∀ w ∈ L, w.before args s = true := by
  intro w hw
  by_cases e1 : w = .isRef (.static Bundle.tN "UNASSIGNED_STACK" Bundle.steD)
  · rw [e1]; exact hU
  · by_cases e2 : w = .isRef (.static Bundle.tN "SUPPRESSED_SENTINEL" Bundle.listD)
    · rw [e2]; exact hN
    · by_cases e3 : w = .laysStatic Bundle.tN "UNASSIGNED_STACK" Bundle.steD
      · rw [e3]; exact lU
      · by_cases e4 : w = .laysStatic Bundle.tN "SUPPRESSED_SENTINEL" Bundle.listD
        · rw [e4]; exact lN
        · exact h1 w (List.mem_filter.mpr ⟨hw, by unfold vx_no; rw [decide_eq_true e1, decide_eq_true e2, decide_eq_true e3, decide_eq_true e4]; rfl⟩)
/-- where a static field lies, its class's statics cell in H -/
def vx_L (C n d : String) (A : Nat → Prop) (U : State) (H : Heap) : Prop := ∃ (c : ClassId) (k : Class) (i : Nat) (f : Field) (a : Nat) (cell : Cell), U.vm.findClass C = some c ∧ U.fieldFound? C n d = some (c, k, i, f) ∧ f.isStatic = true ∧ k.statics = some a ∧ H[a]? = some cell ∧ cell.vm.isStatics = true ∧ cell.cls = c ∧ f.slot < cell.slots.size ∧ k.staticTypes[f.slot]? = some f.type ∧ ¬ A a
theorem vx_L.moved {C n d : String} {A : Nat → Prop} {u U : State} {H : Heap} (hvm : u.vm.Alike U.vm) (h : vx_L C n d A u H) : vx_L C n d A U H := by
  obtain ⟨c, k, i, f, a, cell, h1, h2, h3, h4, h5, h6, h7, h8, h9, h10⟩ := h
  obtain ⟨k', hi', he⟩ := State.fieldFound?_setVm hvm h2
  exact ⟨c, k', i, f, a, cell, by rw [hvm.findClass]; exact h1, hi', h3, by rw [he]; exact h4, h5, h6, h7, h8, by rw [he]; exact h9, h10⟩
theorem vx_L.kept {C n d : String} {A : Nat → Prop} {U : State} {H H1 : Heap} (h : vx_L C n d A U H) (hq : ∀ a : Nat, a < H.size → ¬ A a → H1[a]? = H[a]?) : vx_L C n d A U H1 := by
  obtain ⟨c, k, i, f, a, cell, h1, h2, h3, h4, h5, h6, h7, h8, h9, h10⟩ := h
  exact ⟨c, k, i, f, a, cell, h1, h2, h3, h4, by rw [hq a (Array.getElem?_eq_some_iff.mp h5).1 h10]; exact h5, h6, h7, h8, h9, h10⟩
theorem vx_L.narrow {C n d : String} {A B : Nat → Prop} {U : State} {H : Heap} (h : vx_L C n d A U H) (hAB : ∀ q, B q → A q) : vx_L C n d B U H := by
  obtain ⟨c, k, i, f, a, cell, h1, h2, h3, h4, h5, h6, h7, h8, h9, h10⟩ := h
  exact ⟨c, k, i, f, a, cell, h1, h2, h3, h4, h5, h6, h7, h8, h9, fun z => h10 (hAB _ z)⟩
theorem vx_L.word {C n d : String} {A : Nat → Prop} {s : State} {args : Array Value} (h : vx_L C n d A s s.heap) : (Cond.laysStatic C n d).before args s = true := by
  obtain ⟨c, k, i, f, a, cell, h1, h2, h3, h4, h5, h6, h7, h8, h9, -⟩ := h
  show (Cond.laysStatic C n d).holds args s none s [] = true
  exact Cond.laysStatic_of h1 h2 h3 h4 h5 h6 h7 h8 h9
/-- .. and what it holds: null or some reference -/
def vx_Zq (C n d : String) (A : Nat → Prop) (U : State) (H : Heap) : Prop := va_Zq C n d A U H ∧ vx_L C n d A U H
theorem vx_Zq.moved {C n d : String} {A : Nat → Prop} {u U : State} {H : Heap} (hvm : u.vm.Alike U.vm) (h : vx_Zq C n d A u H) : vx_Zq C n d A U H := ⟨va_Zq.moved hvm h.1, vx_L.moved hvm h.2⟩
theorem vx_Zq.kept {C n d : String} {A : Nat → Prop} {U : State} {H H1 : Heap} (h : vx_Zq C n d A U H) (hq : ∀ a : Nat, a < H.size → ¬ A a → H1[a]? = H[a]?) : vx_Zq C n d A U H1 := ⟨va_Zq.kept h.1 hq, vx_L.kept h.2 hq⟩
theorem vx_Zq.narrow {C n d : String} {A B : Nat → Prop} {U : State} {H : Heap} (h : vx_Zq C n d A U H) (hAB : ∀ q, B q → A q) : vx_Zq C n d B U H := ⟨va_Zq.narrow h.1 hAB, vx_L.narrow h.2 hAB⟩
theorem vx_Zqof {args : Array Value} {s : State} {C n d : String} {A : Nat → Prop} (hl : (Cond.laysStatic C n d).before args s = true) (hini : (Cond.initialized C).before args s = true) (h : (Cond.isRef (.static C n d)).before args s = true) (hA : ∀ a : Nat, a < s.heap.size → ¬ A a) : vx_Zq C n d A s s.heap := by
  refine ⟨va_Zqof hl hini h hA, ?_⟩
  obtain ⟨c, k, i, f, a, cell, h1, h2, h3, h4, h5, h6, h7, h8, h9⟩ := Cond.laysStatic_spec hl
  exact ⟨c, k, i, f, a, cell, h1, h2, h3, h4, h5, h6, h7, h8, h9, hA a (Array.getElem?_eq_some_iff.mp h5).1⟩
theorem vx_isRef {C n d : String} {v : Value} {A : Nat → Prop} {s : State} {args : Array Value} (h : va_Z C n d v A s s.heap) (hv : v.isRef = true) : (Cond.isRef (.static C n d)).before args s = true := by
  obtain ⟨cf, kf, fi, f, a, cell, h1, h2, h3, h4, h5, h6, h7, -⟩ := h
  have he : (Term.static C n d).eval args s none [] s = some v := by
    simp [Term.eval, State.fieldNamed?, h1, h2, h4, h5, h6, h7]
  simp only [Cond.before, Cond.holds, Cond.value, he]
  cases v <;> simp_all [Value.isRef]
theorem vx_isRefq {C n d : String} {A : Nat → Prop} {s : State} {args : Array Value} (h : va_Zq C n d A s s.heap) : (Cond.isRef (.static C n d)).before args s = true := by
  rcases h with h | ⟨t, h⟩
  · exact vx_isRef h rfl
  · exact vx_isRef h rfl
/-- the same frame, seen from here: as if the method were called anew in this heap -/
theorem vx_rebase {T : State} (X : Stand p l e R s m args below meth c T locs cells slots) {R' : Room} (hf : R'.frames ≤ R.frames) (hl : R'.locals ≤ R.locals) (hc : cells + R'.cells ≤ R.cells) (hs : slots + R'.slots ≤ R.slots) :
    Stand p l e R' ((T.setVm s.vm).setFrames (.invoking m args :: below)) m args below meth c T [] 0 0 := by
  have htop : (T.setVm s.vm).topJava?.isSome := X.here.top
  have hF : ((T.setVm s.vm).setFrames (.invoking m args :: below)).frames = .invoking m args :: below := State.frames_setFrames _ (State.cur_lt_of_top htop)
  obtain ⟨g₀, hg0⟩ := Option.isSome_iff_exists.mp htop
  obtain ⟨r, hr⟩ := State.topJava?_eq_some.mp hg0
  have hl9 : e.platform.stackLimits (T.setVm s.vm).me = e.platform.stackLimits s.me := X.limits
  have hb9 : (T.setVm s.vm).me.stackBytes = s.me.stackBytes := X.bytes
  refine ⟨X.admits, X.cas, X.clock, hF, ?_, X.hears, X.method, X.code, X.here, X.tail, X.warmed, ?_, ?_, ?_⟩
  · have h := X.room
    have hU : ((T.setVm s.vm).setFrames (.invoking m args :: below)).localsInUse = s.localsInUse := by
      rw [State.localsInUse_invoking hF (meth := meth) (c := c) X.method X.code, State.localsInUse_invoking X.frames X.method X.code]
    simp only [State.hasRoom, Bool.and_eq_true, decide_eq_true_eq] at h ⊢
    obtain ⟨⟨⟨⟨h1, h2, h3, h4, h5, h6⟩, h7⟩, h8⟩, h9⟩ := h
    rw [X.frames, List.length_cons] at h2 h3
    have q1 := X.heapSize
    have q2 := X.used
    simp only [hF, hU, List.length_cons, State.stackLimits_setFrames, State.stackBytes_setFrames, hl9, hb9]
    refine ⟨⟨⟨⟨by omega, by omega, by omega, by omega, by omega, h6⟩, ?_⟩, ?_⟩, X.book⟩
    · show T.heap.size + R'.cells ≤ e.platform.maxCells
      omega
    · show T.slotsUsed + R'.slots ≤ e.platform.maxSlots
      omega
  · rw [State.stackLimits_setFrames]; rfl
  · rw [State.stackBytes_setFrames]; rfl
  · refine ⟨?_, Nat.le_refl _, Nat.le_refl _, ?_, ?_, fun a c9 h9 => ⟨c9, h9, rfl, rfl, fun _ _ => rfl⟩⟩
    · obtain ⟨t, ht, -⟩ := State.frames_cons hr
      show T.setVm s.vm = { ((T.setVm s.vm).setFrames (.invoking m args :: below)).setFrames (T.setVm s.vm).frames with heap := T.heap, slotsUsed := T.slotsUsed }
      rw [State.setFrames_setFrames, State.setFrames_self ht]
      rfl
    · show T.slotsUsed = T.slotsUsed + ((T.heap.toList.drop T.heap.size).map (·.slots.size)).sum
      rw [List.drop_eq_nil_of_le (Nat.le_of_eq Array.length_toList)]
      rfl
    · show ((T.heap.toList.drop T.heap.size).map (·.slots.size)).sum ≤ 0
      rw [List.drop_eq_nil_of_le (Nat.le_of_eq Array.length_toList)]
      exact Nat.le_refl _
/-- 'throw new E()': new; dup; invokespecial; athrow -/
theorem vx_throw0 {cc : ByteArray} {pc : Nat} (hexec : p.tables.exec = Jvm.exec) (hb : c.code = cc) (hl : l.stackTraces = false) {own cls : String} {names : List String} {ik ic mc ms : Nat} {A : Nat → Prop}
    (hown : s.vm.findClass own = some m.cls) (hcls : Bundle.fit cls = true) (hnames : ∀ n ∈ names, Bundle.fit n = true)
    (hk : (Cond.classLink own ik cls).before args s = true) (hini : (Cond.initialized cls).before args s = true) (hat : ∀ w ∈ vx_at0 own ic cls names, w.before args s = true)
    (hgood : ∀ w ∈ Cond.classLink own ik cls :: Cond.initialized cls :: vx_at0 own ic cls names, vx_ot w = true)
    (hU : vx_Zq Bundle.tN "UNASSIGNED_STACK" Bundle.steD A s s.heap) (hN : vx_Zq Bundle.tN "SUPPRESSED_SENTINEL" Bundle.listD A s s.heap) (hS : va_S A s.heap H locs) (hsize : ls.size = c.maxLocals)
    (d0 : decode cc pc = .ok (.new ik, 3)) (d3 : decode cc (pc + 3) = .ok (.dup, 1)) (d4 : decode cc (pc + 4) = .ok (.invokespecial ic, 3)) (d7 : decode cc (pc + 7) = .ok (.athrow, 1))
    (hout : ∀ x ∈ c.exceptionTable.toList, covers x (pc + 7) = false)
    (hRframes : names.length + 3 < R.frames) (hRlocals : (rest.map fun v => v.category).sum + (13 * (names.length + 1) + 42) ≤ R.locals) (hRcells : cells + 1 ≤ R.cells) (hRslots : slots + 6 ≤ R.slots) (hlocks : meth.locks = false)
    (hx : ∀ t : State, s.vm.Alike t.vm → H.size ≤ t.heap.size → (∀ q : Nat, q < H.size → t.heap[q]? = H[q]?) → XC cls s t)
    (hf : ∀ z ∈ locs, free z.base) (hc : cells + 1 ≤ mc) (hs : slots + 6 ≤ ms) :
    W p l e R s m args below meth c H locs cells slots (vx_MQ below Qc XC args s mc ms free) (F0 m pc ls rest) := by
  intro T hT X
  have htr : e.platform.stackTraces = false := (show e.platform.stackTraces = l.stackTraces by rw [X.admits.platform]).trans hl
  have Y := vx_rebase X (R' := { frames := R.frames, locals := R.locals, cells := 1, slots := 6 }) (Nat.le_refl _) (Nat.le_refl _) hRcells hRslots
  obtain ⟨s', hA⟩ : ∃ z, z = (T.setVm s.vm).setFrames (.invoking m args :: below) := ⟨_, rfl⟩
  rw [← hA] at Y
  have hvm : s'.vm = s.vm := by rw [hA]; rfl
  have hhp : s'.heap = H := by rw [hA]; exact hT
  have hW0 : s.WarmedH s'.vm := by rw [hvm]; exact State.WarmedH.refl s
  have hat' : ∀ w ∈ vx_at0 own ic cls names, w.before args s' = true := fun w hw => vx_ot_at hW0 hvm.symm (hgood w (List.mem_cons_of_mem _ (List.mem_cons_of_mem _ hw))) (hat w hw)
  have hk' : (Cond.classLink own ik cls).before args s' = true := vx_ot_at hW0 hvm.symm (hgood _ List.mem_cons_self) hk
  have hini' : (Cond.initialized cls).before args s' = true := vx_ot_at hW0 hvm.symm (hgood _ (List.mem_cons_of_mem _ List.mem_cons_self)) hini
  have hU' : vx_Zq Bundle.tN "UNASSIGNED_STACK" Bundle.steD A s' s'.heap := by rw [hhp]; exact vx_Zq.moved hW0.alike (hU.kept hS.2.1)
  have hN' : vx_Zq Bundle.tN "SUPPRESSED_SENTINEL" Bundle.listD A s' s'.heap := by rw [hhp]; exact vx_Zq.moved hW0.alike (hN.kept hS.2.1)
  have h : ∀ w ∈ Bundle.ownAtoms0 own ic cls names, w.before args s' = true := vx_own hat' (vx_isRefq hU'.1) (vx_isRefq hN'.1) hU'.2.word hN'.2.word
  have hown' : s'.vm.findClass own = some m.cls := by rw [hvm]; exact hown
  have hins : (Cond.instantiable cls 6).before args s' = true := h _ (by simp [Bundle.ownAtoms0])
  obtain ⟨vm₁, cX, kX, hfX, hkX, -, -, X₁, st1⟩ := Y.newCold hexec (own := own) (C := cls) (index := ik) (n := 6) hown' hk' hins hini'
    (g := F0 m pc ls rest) rfl (by rw [hb]; exact d0) (Nat.le_refl _) (Nat.le_refl _)
  generalize hT1 : (T.setVm vm₁).pushCell { cls := cX, slots := kX.instanceTypes.map defaultValue, vm := .none } = T1 at X₁ st1
  have hcat : (Value.ref T.heap.size).category = 1 := rfl
  have hcellA : T1.heap[T.heap.size]? = some (freshCell cX kX) := by rw [← hT1]; exact State.heap_pushCell_size _ _
  have d3' : decode c.code (pc + 3) = .ok (.dup, 1) := by rw [hb]; exact d3
  obtain ⟨U, hsteps, hrun, hend, hW, hsame, ce, hce, hO⟩ := X₁.ctorThrow0 hexec htr (own := own) (cls := cls) (names := names) (ic := ic) hown' hcls hnames h (fun x hx => nomatch hx) hfX hkX hcellA (by rw [hhp, hT]; exact Nat.le_refl _)
    (g := { method := m, pc := pc + 4, locals := ls, stack := .ref T.heap.size :: .ref T.heap.size :: rest, locked := none }) rfl hsize rfl rfl (rest := rest) rfl
    (by rw [hb]; exact d4) (by rw [hb]; exact d7) hout hRframes (by simp only [List.map_cons, List.sum_cons, hcat]; omega) hlocks
  obtain ⟨f1, f2⟩ := vx_frame hsame
  rw [hhp] at f1 f2
  have hWs : s.WarmedH U.vm := State.WarmedH.trans hW0 hW
  have hcl : s.vm.findClass cls = some ce.cls := by
    have h9 := hO.cls
    rw [hvm] at h9
    exact h9
  have hall : s.sameButNew ({ U with vm := s.vm } : State) locs mc ms := by
    subst hA
    obtain ⟨e1, e2⟩ := hsame
    rw [State.setFrames_setFrames] at e1
    have h2 : (T.setVm s.vm).sameButNew ({ U with vm := s.vm } : State) [] (0 + 1) (0 + 6) := ⟨e1, e2⟩
    have h3 := X.same.trans h2
    rw [List.append_nil] at h3
    exact h3.mono hc hs
  refine ⟨U, ?_, .threw T.heap.size, hrun, hend, Or.inr ⟨T.heap.size, rfl, cls, ce, locs, hx U hWs.alike f1 (fun q hq => f2 q hq (fun z hz => nomatch hz)), hce, hO.vm, hcl, hWs, hall, hf⟩⟩
  refine st1 _ ?_
  show Steps p.tables e below (T1.setTop { method := m, pc := pc + 3, locals := ls, stack := .ref T.heap.size :: rest, locked := none }) _
  jvm_step X₁.here [X₁.here.top, hexec, d3', Value.category]
  exact hsteps
/-- 'throw new E("text")': new; dup; ldc; invokespecial; athrow -/
theorem vx_throwS {cc : ByteArray} {pc : Nat} (hexec : p.tables.exec = Jvm.exec) (hb : c.code = cc) (hl : l.stackTraces = false) {own cls text : String} {names : List String} {ik is ic mc ms sa : Nat} {A : Nat → Prop}
    (hown : s.vm.findClass own = some m.cls) (hcls : Bundle.fit cls = true) (hnames : ∀ n ∈ names, Bundle.fit n = true)
    (hk : (Cond.classLink own ik cls).before args s = true) (hini : (Cond.initialized cls).before args s = true) (hstr : vk_R own is text sa s) (hat : ∀ w ∈ vx_atS own ic cls names, w.before args s = true)
    (hgood : ∀ w ∈ Cond.classLink own ik cls :: Cond.initialized cls :: vx_atS own ic cls names, vx_ot w = true)
    (hU : vx_Zq Bundle.tN "UNASSIGNED_STACK" Bundle.steD A s s.heap) (hN : vx_Zq Bundle.tN "SUPPRESSED_SENTINEL" Bundle.listD A s s.heap) (hS : va_S A s.heap H locs) (hsize : ls.size = c.maxLocals)
    (d0 : decode cc pc = .ok (.new ik, 3)) (d3 : decode cc (pc + 3) = .ok (.dup, 1)) (d4 : decode cc (pc + 4) = .ok (.ldc is, 2)) (d6 : decode cc (pc + 6) = .ok (.invokespecial ic, 3)) (d9 : decode cc (pc + 9) = .ok (.athrow, 1))
    (hout : ∀ x ∈ c.exceptionTable.toList, covers x (pc + 9) = false)
    (hRframes : names.length + 3 < R.frames) (hRlocals : (rest.map fun v => v.category).sum + (13 * (names.length + 1) + 43) ≤ R.locals) (hRcells : cells + 1 ≤ R.cells) (hRslots : slots + 6 ≤ R.slots) (hlocks : meth.locks = false)
    (hx : ∀ t : State, s.vm.Alike t.vm → H.size ≤ t.heap.size → (∀ q : Nat, q < H.size → t.heap[q]? = H[q]?) → XC cls s t)
    (hf : ∀ z ∈ locs, free z.base) (hc : cells + 1 ≤ mc) (hs : slots + 6 ≤ ms) :
    W p l e R s m args below meth c H locs cells slots (vx_MQ below Qc XC args s mc ms free) (F0 m pc ls rest) := by
  intro T hT X
  have htr : e.platform.stackTraces = false := (show e.platform.stackTraces = l.stackTraces by rw [X.admits.platform]).trans hl
  have Y := vx_rebase X (R' := { frames := R.frames, locals := R.locals, cells := 1, slots := 6 }) (Nat.le_refl _) (Nat.le_refl _) hRcells hRslots
  obtain ⟨s', hA⟩ : ∃ z, z = (T.setVm s.vm).setFrames (.invoking m args :: below) := ⟨_, rfl⟩
  rw [← hA] at Y
  have hvm : s'.vm = s.vm := by rw [hA]; rfl
  have hhp : s'.heap = H := by rw [hA]; exact hT
  have hW0 : s.WarmedH s'.vm := by rw [hvm]; exact State.WarmedH.refl s
  have hat' : ∀ w ∈ vx_atS own ic cls names, w.before args s' = true := fun w hw => vx_ot_at hW0 hvm.symm (hgood w (List.mem_cons_of_mem _ (List.mem_cons_of_mem _ hw))) (hat w hw)
  have hk' : (Cond.classLink own ik cls).before args s' = true := vx_ot_at hW0 hvm.symm (hgood _ List.mem_cons_self) hk
  have hini' : (Cond.initialized cls).before args s' = true := vx_ot_at hW0 hvm.symm (hgood _ (List.mem_cons_of_mem _ List.mem_cons_self)) hini
  have hU' : vx_Zq Bundle.tN "UNASSIGNED_STACK" Bundle.steD A s' s'.heap := by rw [hhp]; exact vx_Zq.moved hW0.alike (hU.kept hS.2.1)
  have hN' : vx_Zq Bundle.tN "SUPPRESSED_SENTINEL" Bundle.listD A s' s'.heap := by rw [hhp]; exact vx_Zq.moved hW0.alike (hN.kept hS.2.1)
  have h : ∀ w ∈ Bundle.ownAtoms own ic cls names, w.before args s' = true := vx_own hat' (vx_isRefq hU'.1) (vx_isRefq hN'.1) hU'.2.word hN'.2.word
  have hown' : s'.vm.findClass own = some m.cls := by rw [hvm]; exact hown
  have hins : (Cond.instantiable cls 6).before args s' = true := h _ (by simp [Bundle.ownAtoms])
  obtain ⟨vm₁, cX, kX, hfX, hkX, -, -, X₁, st1⟩ := Y.newCold hexec (own := own) (C := cls) (index := ik) (n := 6) hown' hk' hins hini'
    (g := F0 m pc ls rest) rfl (by rw [hb]; exact d0) (Nat.le_refl _) (Nat.le_refl _)
  generalize hT1 : (T.setVm vm₁).pushCell { cls := cX, slots := kX.instanceTypes.map defaultValue, vm := .none } = T1 at X₁ st1
  have hcat : (Value.ref T.heap.size).category = 1 := rfl
  have hcellA : T1.heap[T.heap.size]? = some (freshCell cX kX) := by rw [← hT1]; exact State.heap_pushCell_size _ _
  have d3' : decode c.code (pc + 3) = .ok (.dup, 1) := by rw [hb]; exact d3
  have d4' : decode c.code (pc + 4) = .ok (.ldc is, 2) := by rw [hb]; exact d4
  have hstr' : vk_R own is text sa s' := vk_R.warm hW0 hstr
  obtain ⟨U, hsteps, hrun, hend, hW, hsame, ce, hce, hO⟩ := X₁.ctorThrowS hexec htr (own := own) (cls := cls) (names := names) (ic := ic) hown' hcls hnames h (fun x hx => nomatch hx) hfX hkX hcellA (by rw [hhp, hT]; exact Nat.le_refl _) (msg := .ref sa) rfl
    (g := { method := m, pc := pc + 6, locals := ls, stack := .ref sa :: .ref T.heap.size :: .ref T.heap.size :: rest, locked := none }) rfl hsize rfl rfl (rest := rest) rfl
    (by rw [hb]; exact d6) (by rw [hb]; exact d9) hout hRframes (by simp only [List.map_cons, List.sum_cons, hcat]; omega) hlocks
  obtain ⟨f1, f2⟩ := vx_frame hsame
  rw [hhp] at f1 f2
  have hWs : s.WarmedH U.vm := State.WarmedH.trans hW0 hW
  have hcl : s.vm.findClass cls = some ce.cls := by
    have h9 := hO.cls
    rw [hvm] at h9
    exact h9
  have hall : s.sameButNew ({ U with vm := s.vm } : State) locs mc ms := by
    subst hA
    obtain ⟨e1, e2⟩ := hsame
    rw [State.setFrames_setFrames] at e1
    have h2 : (T.setVm s.vm).sameButNew ({ U with vm := s.vm } : State) [] (0 + 1) (0 + 6) := ⟨e1, e2⟩
    have h3 := X.same.trans h2
    rw [List.append_nil] at h3
    exact h3.mono hc hs
  refine ⟨U, ?_, .threw T.heap.size, hrun, hend, Or.inr ⟨T.heap.size, rfl, cls, ce, locs, hx U hWs.alike f1 (fun q hq => f2 q hq (fun z hz => nomatch hz)), hce, hO.vm, hcl, hWs, hall, hf⟩⟩
  refine st1 _ ?_
  show Steps p.tables e below (T1.setTop { method := m, pc := pc + 3, locals := ls, stack := .ref T.heap.size :: rest, locked := none }) _
  jvm_step X₁.here [X₁.here.top, hexec, d3', Value.category]
  exact X₁.ldcString hexec (own := own) (text := text) (index := is) (a := sa) hown' hstr'.1 hstr'.2
    (g := { method := m, pc := pc + 4, locals := ls, stack := .ref T.heap.size :: .ref T.heap.size :: rest, locked := none }) rfl d4' _ hsteps
/-- 'throw new E("text")', the text by a wide index -/
theorem vx_throwSW {cc : ByteArray} {pc : Nat} (hexec : p.tables.exec = Jvm.exec) (hb : c.code = cc) (hl : l.stackTraces = false) {own cls text : String} {names : List String} {ik is ic mc ms sa : Nat} {A : Nat → Prop}
    (hown : s.vm.findClass own = some m.cls) (hcls : Bundle.fit cls = true) (hnames : ∀ n ∈ names, Bundle.fit n = true)
    (hk : (Cond.classLink own ik cls).before args s = true) (hini : (Cond.initialized cls).before args s = true) (hstr : vk_R own is text sa s) (hat : ∀ w ∈ vx_atS own ic cls names, w.before args s = true)
    (hgood : ∀ w ∈ Cond.classLink own ik cls :: Cond.initialized cls :: vx_atS own ic cls names, vx_ot w = true)
    (hU : vx_Zq Bundle.tN "UNASSIGNED_STACK" Bundle.steD A s s.heap) (hN : vx_Zq Bundle.tN "SUPPRESSED_SENTINEL" Bundle.listD A s s.heap) (hS : va_S A s.heap H locs) (hsize : ls.size = c.maxLocals)
    (d0 : decode cc pc = .ok (.new ik, 3)) (d3 : decode cc (pc + 3) = .ok (.dup, 1)) (d4 : decode cc (pc + 4) = .ok (.ldc_w is, 3)) (d7 : decode cc (pc + 7) = .ok (.invokespecial ic, 3)) (d10 : decode cc (pc + 10) = .ok (.athrow, 1))
    (hout : ∀ x ∈ c.exceptionTable.toList, covers x (pc + 10) = false)
    (hRframes : names.length + 3 < R.frames) (hRlocals : (rest.map fun v => v.category).sum + (13 * (names.length + 1) + 43) ≤ R.locals) (hRcells : cells + 1 ≤ R.cells) (hRslots : slots + 6 ≤ R.slots) (hlocks : meth.locks = false)
    (hx : ∀ t : State, s.vm.Alike t.vm → H.size ≤ t.heap.size → (∀ q : Nat, q < H.size → t.heap[q]? = H[q]?) → XC cls s t)
    (hf : ∀ z ∈ locs, free z.base) (hc : cells + 1 ≤ mc) (hs : slots + 6 ≤ ms) :
    W p l e R s m args below meth c H locs cells slots (vx_MQ below Qc XC args s mc ms free) (F0 m pc ls rest) := by
  intro T hT X
  have htr : e.platform.stackTraces = false := (show e.platform.stackTraces = l.stackTraces by rw [X.admits.platform]).trans hl
  have Y := vx_rebase X (R' := { frames := R.frames, locals := R.locals, cells := 1, slots := 6 }) (Nat.le_refl _) (Nat.le_refl _) hRcells hRslots
  obtain ⟨s', hA⟩ : ∃ z, z = (T.setVm s.vm).setFrames (.invoking m args :: below) := ⟨_, rfl⟩
  rw [← hA] at Y
  have hvm : s'.vm = s.vm := by rw [hA]; rfl
  have hhp : s'.heap = H := by rw [hA]; exact hT
  have hW0 : s.WarmedH s'.vm := by rw [hvm]; exact State.WarmedH.refl s
  have hat' : ∀ w ∈ vx_atS own ic cls names, w.before args s' = true := fun w hw => vx_ot_at hW0 hvm.symm (hgood w (List.mem_cons_of_mem _ (List.mem_cons_of_mem _ hw))) (hat w hw)
  have hk' : (Cond.classLink own ik cls).before args s' = true := vx_ot_at hW0 hvm.symm (hgood _ List.mem_cons_self) hk
  have hini' : (Cond.initialized cls).before args s' = true := vx_ot_at hW0 hvm.symm (hgood _ (List.mem_cons_of_mem _ List.mem_cons_self)) hini
  have hU' : vx_Zq Bundle.tN "UNASSIGNED_STACK" Bundle.steD A s' s'.heap := by rw [hhp]; exact vx_Zq.moved hW0.alike (hU.kept hS.2.1)
  have hN' : vx_Zq Bundle.tN "SUPPRESSED_SENTINEL" Bundle.listD A s' s'.heap := by rw [hhp]; exact vx_Zq.moved hW0.alike (hN.kept hS.2.1)
  have h : ∀ w ∈ Bundle.ownAtoms own ic cls names, w.before args s' = true := vx_own hat' (vx_isRefq hU'.1) (vx_isRefq hN'.1) hU'.2.word hN'.2.word
  have hown' : s'.vm.findClass own = some m.cls := by rw [hvm]; exact hown
  have hins : (Cond.instantiable cls 6).before args s' = true := h _ (by simp [Bundle.ownAtoms])
  obtain ⟨vm₁, cX, kX, hfX, hkX, -, -, X₁, st1⟩ := Y.newCold hexec (own := own) (C := cls) (index := ik) (n := 6) hown' hk' hins hini'
    (g := F0 m pc ls rest) rfl (by rw [hb]; exact d0) (Nat.le_refl _) (Nat.le_refl _)
  generalize hT1 : (T.setVm vm₁).pushCell { cls := cX, slots := kX.instanceTypes.map defaultValue, vm := .none } = T1 at X₁ st1
  have hcat : (Value.ref T.heap.size).category = 1 := rfl
  have hcellA : T1.heap[T.heap.size]? = some (freshCell cX kX) := by rw [← hT1]; exact State.heap_pushCell_size _ _
  have d3' : decode c.code (pc + 3) = .ok (.dup, 1) := by rw [hb]; exact d3
  have d4' : decode c.code (pc + 4) = .ok (.ldc_w is, 3) := by rw [hb]; exact d4
  have hstr' : vk_R own is text sa s' := vk_R.warm hW0 hstr
  obtain ⟨U, hsteps, hrun, hend, hW, hsame, ce, hce, hO⟩ := X₁.ctorThrowS hexec htr (own := own) (cls := cls) (names := names) (ic := ic) hown' hcls hnames h (fun x hx => nomatch hx) hfX hkX hcellA (by rw [hhp, hT]; exact Nat.le_refl _) (msg := .ref sa) rfl
    (g := { method := m, pc := pc + 7, locals := ls, stack := .ref sa :: .ref T.heap.size :: .ref T.heap.size :: rest, locked := none }) rfl hsize rfl rfl (rest := rest) rfl
    (by rw [hb]; exact d7) (by rw [hb]; exact d10) hout hRframes (by simp only [List.map_cons, List.sum_cons, hcat]; omega) hlocks
  obtain ⟨f1, f2⟩ := vx_frame hsame
  rw [hhp] at f1 f2
  have hWs : s.WarmedH U.vm := State.WarmedH.trans hW0 hW
  have hcl : s.vm.findClass cls = some ce.cls := by
    have h9 := hO.cls
    rw [hvm] at h9
    exact h9
  have hall : s.sameButNew ({ U with vm := s.vm } : State) locs mc ms := by
    subst hA
    obtain ⟨e1, e2⟩ := hsame
    rw [State.setFrames_setFrames] at e1
    have h2 : (T.setVm s.vm).sameButNew ({ U with vm := s.vm } : State) [] (0 + 1) (0 + 6) := ⟨e1, e2⟩
    have h3 := X.same.trans h2
    rw [List.append_nil] at h3
    exact h3.mono hc hs
  refine ⟨U, ?_, .threw T.heap.size, hrun, hend, Or.inr ⟨T.heap.size, rfl, cls, ce, locs, hx U hWs.alike f1 (fun q hq => f2 q hq (fun z hz => nomatch hz)), hce, hO.vm, hcl, hWs, hall, hf⟩⟩
  refine st1 _ ?_
  show Steps p.tables e below (T1.setTop { method := m, pc := pc + 3, locals := ls, stack := .ref T.heap.size :: rest, locked := none }) _
  jvm_step X₁.here [X₁.here.top, hexec, d3', Value.category]
  exact X₁.ldcStringW hexec (own := own) (text := text) (index := is) (a := sa) hown' hstr'.1 hstr'.2
    (g := { method := m, pc := pc + 4, locals := ls, stack := .ref T.heap.size :: .ref T.heap.size :: rest, locked := none }) rfl d4' _ hsteps
end Ends
section Bodies
variable {l : Launch}
theorem vx_ofW {y : MethodName} {ws ws' : List Cond} {rm : Room} {Pc : Array Value → State → Prop} {Qc : Array Value → State → Outcome → State → Prop} {XC : String → State → State → Prop} {mc ms : Nat} {free : Addr → Prop} {cc : ByteArray} {maxL : Nat} {ret : Option FieldType}
    (hy : plainName y.cls = true) (hw : ws = Cond.code y cc maxL ret :: ws')
    (body : ∀ p e s m args below meth c s₁, BodyLoose p l y (headSpec ws rm) cc maxL ret e s m args below meth c s₁ → c.maxLocals = maxL → (∀ x ∈ c.exceptionTable.toList, False) → Pc args s →
      W p l e (headSpec ws rm).room s m args below meth c s.heap [] 0 0 (vx_MQ below Qc XC args s mc ms free) (entryFrame m args maxL)) : vx_Met l y ws rm Pc Qc XC mc ms free := by
  refine MetFree.of_bodyS (code := cc) (maxLocals := maxL) (ret := ret) hy ?_ ?_
  · intro args s m h hn
    obtain ⟨meth, c, h1, h2, h3, h4, h5, h6, -, -⟩ := Cond.code_spec hn (atoms_spec (ws := ws) h _ (by rw [hw]; exact List.mem_cons_self))
    exact ⟨meth, c, h1, h2, h3, h4, h5, h6⟩
  · intro p e s m args below meth c s₁ B hml hP _
    have hh0 : s₁.heap = s.heap := by rw [B.state]; rfl
    have ht : ∀ x ∈ c.exceptionTable.toList, False := by
      obtain ⟨meth9, c9, h1, h2, -, -, -, -, h7, -⟩ := Cond.code_spec B.named (atoms_spec (ws := ws) B.pre _ (by rw [hw]; exact List.mem_cons_self))
      cases Option.some.inj (h1.symm.trans B.method)
      cases Option.some.inj (h2.symm.trans (Stand.of_body B).code)
      intro x hx
      rw [Array.isEmpty_iff.mp h7] at hx
      cases hx
    obtain ⟨t, a1, o, b1, b2, b3⟩ := body p e s m args below meth c s₁ B hml ht hP s₁ hh0 (Stand.of_body B)
    exact ⟨t, o, a1, b1, b2, b3⟩
/-- the table of a body with handlers -/
theorem vx_table {p : Program} {x y : MethodName} {S : Spec} {cc bytes : ByteArray} {maxL maxL' : Nat} {ret ret' : Option FieldType} {e : Env} {s s₁ : State} {m : MethodId} {args : Array Value} {below : List Frame} {meth : Method} {c : Code} {hh : List (Nat × Nat × Nat × Nat)}
    (B : BodyLoose p l y S cc maxL ret e s m args below meth c s₁) (h : (Cond.codeWith y bytes maxL' ret' hh).before args s = true) : c.exceptionTable.toList = tableOf hh := by
  obtain ⟨m9, meth9, c9, hn9, h1, h2, -, -, h6, -⟩ := Cond.codeWith_spec h
  cases Option.some.inj (hn9.symm.trans B.named)
  cases Option.some.inj (h1.symm.trans B.method)
  cases Option.some.inj (h2.symm.trans (Stand.of_body B).code)
  rw [← h6, table_eq]
end Bodies
end VXA
/-! ===== END ===== -/
/-! ===== BEGIN a static call of a method with an exception table ===== -/
section VXS
variable {p : Program} {l : Launch} {e : Env} {R : Room} {s : State} {m : MethodId} {args : Array Value} {below : List Frame} {meth : Method} {c : Code} {T : State} {H : Heap} {locs : List Loc} {cells slots : Nat}
abbrev vx_CSW (R : Room) (s : State) (args : Array Value) (own : String) (index : Nat) (y : MethodName) (bytes : ByteArray) (maxL : Nat) (ret : Option FieldType) (hh : List (Nat × Nat × Nat × Nat)) (ws : List Cond) (rm : Room) (mc ms n : Nat) : Prop :=
  (rm.cells = mc ∧ rm.slots = ms ∧ rm.frames + 1 ≤ R.frames ∧ 8 + (maxL + 11) + rm.locals ≤ R.locals ∧ (∀ w ∈ ws, ∀ (a' : Array Value) (U : State), s.WarmedH U.vm → w.before a' U = true) ∧ Cond.codeWith y bytes maxL ret hh ∈ ws) ∧
  (Cond.codeWith y bytes maxL ret hh).before args s = true ∧ (Cond.initialized y.cls).before args s = true ∧ (y.cls ≠ "java/lang/invoke/MethodHandle" ∧ y.cls ≠ "java/lang/invoke/VarHandle") ∧
  (∀ sig, parseMethodDescriptor y.desc = some sig → n = sig.parameters.length) ∧ (Cond.methodLink own index y).before args s = true ∧ (Cond.static y).before args s = true
theorem vx_cwSW {own : String} {index maxL mc ms : Nat} {y : MethodName} {bytes : ByteArray} {ret : Option FieldType} {hh : List (Nat × Nat × Nat × Nat)} {Ts ws ws' : List Cond} {rm : Room} (n : Nat) (ht : ∀ w ∈ Ts, w.before args s = true) (hT : GoodIn Ts (va_wsS own index y ws)) (hw : ws = Cond.codeWith y bytes maxL ret hh :: ws') (hrc : rm.cells = mc) (hrs : rm.slots = ms)
    (hd : y.cls ≠ "java/lang/invoke/MethodHandle" ∧ y.cls ≠ "java/lang/invoke/VarHandle" ∧ (parseMethodDescriptor y.desc).map (fun d => d.parameters.length) = some n) (hR : rm.frames + 1 ≤ R.frames ∧ 8 + (maxL + 11) + rm.locals ≤ R.locals) :
    vx_CSW R s args own index y bytes maxL ret hh ws rm mc ms n := by
  have ok : ∀ w ∈ va_wsS own index y ws, w.before args s = true := fun w h => ht w (hT w h).1
  have hG : GoodIn Ts ws := fun w h => hT w (by unfold va_wsS; exact List.mem_append_right _ h)
  have hc : Cond.codeWith y bytes maxL ret hh ∈ ws := by rw [hw]; exact List.mem_cons_self
  refine ⟨⟨hrc, hrs, hR.1, hR.2, pay_in ht hG, hc⟩, ht _ (hG _ hc).1, ok _ (by simp [va_wsS]), ⟨hd.1, hd.2.1⟩, fun sig h => ?_, ok _ (by simp [va_wsS]), ok _ (by simp [va_wsS])⟩
  have h2 := hd.2.2
  rw [h] at h2
  exact (Option.some.inj h2).symm
theorem vx_callSW (X : Stand p l e R s m args below meth c T locs cells slots) (hexec : p.tables.exec = Jvm.exec) {own : String} {index : Nat} {y : MethodName} {bytes : ByteArray} {maxL : Nat} {ret : Option FieldType} {hh : List (Nat × Nat × Nat × Nat)}
    (hown : s.vm.findClass own = some m.cls) (hlink : (Cond.methodLink own index y).before args s = true) (hstat : (Cond.static y).before args s = true) (hinit : (Cond.initialized y.cls).before args s = true)
    (hcode : (Cond.codeWith y bytes maxL ret hh).before args s = true) (hy : y.cls ≠ "java/lang/invoke/MethodHandle" ∧ y.cls ≠ "java/lang/invoke/VarHandle")
    {W9 : Nat} {Pre : Pt → Array Value → Prop} {Post : Pt → Array Value → Option Value → Pt → Prop} (hK : Back l R p e below s args y 3 W9 Pre Post)
    {g : JFrame} (hg : g.method = m) (hsize : g.locals.size = c.maxLocals) {argsL rest : List Value} (hlen : ∀ sig, parseMethodDescriptor y.desc = some sig → argsL.length = sig.parameters.length)
    (hstack : g.stack = argsL.reverse ++ rest) (hW : 2 * g.monitorRoom + (rest.map fun v => v.category).sum ≤ W9) (hdg : decode c.code g.pc = .ok (.invokestatic index, 3))
    (hpre : ∀ vm₁, s.WarmedH vm₁ → Pre ⟨T.setVm vm₁, locs, cells, slots⟩ argsL.toArray) :
    ∃ (v : Option Value) (vm₁ : Vm) (B : Pt), s.WarmedH vm₁ ∧ Stand p l e R s m args below meth c B.U B.locs B.cells B.slots ∧ Post ⟨T.setVm vm₁, locs, cells, slots⟩ argsL.toArray v B ∧
      ∀ target, Steps p.tables e below (B.U.setTop { g with pc := g.pc + 3, stack := v.toList ++ rest }) target → Steps p.tables e below (T.setTop g) target := by
  obtain ⟨mk, methM, cM, hnamed, hmethM, -, -, -, -, -, -, hsigM⟩ := Cond.codeWith_spec hcode
  have hstatic : methM.isStatic = true := Cond.static_spec hnamed hmethM hstat
  obtain ⟨kP, hkP, -⟩ := className_of_methodNamed hnamed
  have hinitP : kP.init = .initialized := Cond.initialized_spec (findClass_of_methodNamed hnamed) hkP hinit
  obtain ⟨vm₁, X₁, hstep₁⟩ := X.invokestatic hexec hown hlink hnamed hmethM hstatic hkP hinitP hy (g := g) hg (argsL := argsL) (rest := rest) (hlen _ hsigM) hstack hdg
  obtain ⟨v, B, X', hpost, hsteps⟩ := hK m meth c ⟨T.setVm vm₁, locs, cells, slots⟩ { g with stack := rest } (.invokestatic index) mk argsL.toArray X₁ hg hsize hdg hW (X₁.named hnamed) (hpre vm₁ X₁.warmed)
  exact ⟨v, vm₁, B, X₁.warmed, X', hpost, fun target h => hstep₁ _ fun acts => by rw [doInvoke_state]; exact hsteps.trans h⟩
theorem vx_runSW {y : MethodName} {bytes cc : ByteArray} {maxL nL mc ms n index : Nat} {ret : Option FieldType} {hh : List (Nat × Nat × Nat × Nat)} {ws : List Cond} {rm : Room} {Pc : Array Value → State → Prop} {Qc : Array Value → State → Outcome → State → Prop} {free : Addr → Prop} {Ts : List Cond} {own : String} {As rest : List Value} {g : JFrame}
    (S : CallFix p m c cc nL s args Ts own) (hM : Met l y ws rm Pc Qc mc ms free) (cw : vx_CSW R s args own index y bytes maxL ret hh ws rm mc ms n) (hp : PreS s H Pc As)
    (hg : g.method = m) (hn : As.length = n) (hsize : g.locals.size = nL) (hstack : g.stack = As.reverse ++ rest) (hW : 2 * g.monitorRoom + (rest.map fun v => v.category).sum ≤ 8) (hdg : decode cc g.pc = .ok (.invokestatic index, 3)) (hf : cells + mc ≤ R.cells ∧ slots + ms ≤ R.slots) :
    va_Run p l e R s m args below meth c H locs cells slots mc ms g rest (Qc As.toArray) (free) := by
  obtain ⟨⟨hrc, hrs, hfr, hlo, hws, hcw⟩, hcode, hini, hy, hlen, hl, hstt⟩ := cw
  have hK : Back l R p e below s args y 3 8 (PreOf R mc ms Pc) (PostOf Qc mc ms free) := va_backW (hh := hh) (bytes := bytes) (maxL := maxL) (ret := ret) hM hp.1 hrc hrs hfr hlo hws hcw (fun a' U hW => word_at hW (Or.inl (by first | rfl | simp [Cond.onTables, Cond.keeps, Cond.steady])) hini)
  obtain ⟨hx, hb, hml, ho, -⟩ := S
  intro T hT X
  obtain ⟨v, vm₁, ⟨U', l2, c2, s2⟩, hW₁, X', ⟨g', mk, t, L, e1, e2, hq, h1, hL, h2, h3⟩, st⟩ := vx_callSW X hx (hh := hh) (bytes := bytes) (maxL := maxL) (ret := ret) ho hl hstt hini hcode hy hK hg (hsize.trans hml.symm) (argsL := As) (rest := rest) (fun sig h => hn.trans (hlen sig h)) hstack hW (by rw [hb]; exact hdg)
    (fun vm₁ hW₁ => ⟨hf.1, hf.2, hp.2 (T.setVm vm₁) hT hW₁⟩)
  dsimp only [Pt.U, Pt.locs, Pt.cells, Pt.slots] at X' e1 e2 h1 h2 h3 st
  subst h1; subst h2; subst h3
  exact ⟨v, (T.setVm vm₁).calling g' mk As.toArray, t, U', L, hT, X', hL, e1, e2, hq, st⟩
/-- not caught here, past rows that name other classes: it goes on to the caller -/
theorem vx_outP {p : Program} {l : Launch} {e : Env} {R : Room} {s : State} {m : MethodId} {args : Array Value} {below : List Frame} {meth : Method} {c : Code} {H : Heap} {locs : List Loc} {cells slots : Nat} {free : Addr → Prop} {ls : Array Slot} {rest : List Value} {Qc : Array Value → State → Outcome → State → Prop} {XC : String → State → State → Prop}
    {pc : Nat} {own E : String} {ce : Cell} {q : Addr} {mc ms : Nat} (hown : s.vm.findClass own = some m.cls) (hlocks : meth.locks = false)
    (hpass : ∀ z ∈ c.exceptionTable.toList, covers z pc = false ∨ (z.catchType ≠ 0 ∧ ∃ nm : String, (Cond.classLink own z.catchType nm).before args s = true ∧ va_Nc E nm s)) (hcell : H[q]? = some ce) (hv : ce.vm = .none) (hcl : s.vm.findClass E = some ce.cls)
    (hx : ∀ t : State, t.heap = H → s.vm.Alike t.vm → XC E s t) (hf : ∀ z ∈ locs, free z.base) (hc : cells ≤ mc) (hs : slots ≤ ms) :
    vx_W p l e R s m args below meth c H locs cells slots (vx_MQ below Qc XC args s mc ms free) (F0 m pc ls rest) q := by
  intro T hT X
  have hpl : e.platform.magicAccessors = ({} : Platform).magicAccessors := by rw [X.admits.platform]
  obtain ⟨vm', hW', X', st⟩ := X.outThrough hlocks q (g := F0 m pc ls rest) rfl rfl rfl (cell := ce) (by rw [hT]; exact hcell) (by rw [hv]; rfl)
    (by obtain ⟨k9, h9, -⟩ := Vm.findClass_spec hcl; exact ⟨k9, h9⟩) (fun z hz => by
      rcases hpass z hz with h | ⟨hz0, nm, hl1, hn1⟩
      · exact Or.inl h
      · obtain ⟨c6, hc6, hcl6⟩ := Cond.classLink_spec hown hl1 e.platform hpl
        obtain ⟨a8, b8, h1, h2, h3⟩ := hn1
        cases Option.some.inj (h1.symm.trans hcl)
        cases Option.some.inj (h2.symm.trans hc6)
        exact Or.inr ⟨hz0, _, hcl6, h3⟩)
  obtain ⟨g₀, hfr⟩ := X'.frames_eq
  have hcell9 : ((T.setVm vm').setFrames (.throwing q :: below)).heap[q]? = some ce := by
    show T.heap[q]? = some ce
    rw [hT]; exact hcell
  have hend : Ended ((T.setVm vm').setFrames (.throwing q :: below)) below (.threw q) := State.frames_setFrames _ (State.cur_lt_of_frames hfr)
  refine ⟨(T.setVm vm').setFrames (.throwing q :: below), ?_, .threw q, X'.here.running, hend, Or.inr ⟨q, rfl, E, ce, locs, hx _ hT (X'.ends _).1.alike, hcell9, hv, hcl, (X'.ends _).1, (X'.ends _).2.mono hc hs, hf⟩⟩
  rw [X.pushThrowing_eq]
  exact st
/-- a thing of a world lies in the heap -/
theorem vx_lt {D : va_G} {cl : List vw_C} {ws : va_W} {H1 : Heap} (h : va_P D cl ws H1) {k : Nat} {q : Nat × va_E} (hk : ws[k]? = some q) : q.1 < H1.size := (h k q hk).lt
end VXS
/-! ===== END ===== -/
/-! ===== BEGIN methods with a table of their own: called by a name, returning or throwing ===== -/
section VXH
/-! vx_backW, vx_callVX, vx_callSX, vx_callVW, vx_runVW, vx_runVX, vx_runSX, vx_ofWH follow the same proofs as their sisters above (Free/Laws.lean, Shelf42/LK1.lean); vx_outP calls Shelf42/NT130.lean (outThrough). -/
section
variable {l : Launch} {R : Room} {p : Program} {e : Env} {below : List Frame} {s : State} {sargs : Array Value} {y : MethodName} {len W9 : Nat}
theorem vx_backW {ws : List Cond} {rm : Room} {Pc : Array Value → State → Prop} {Qc : Array Value → State → Outcome → State → Prop} {XC : String → State → State → Prop} {mc ms : Nat} {free : Addr → Prop} {bytes : ByteArray} {maxL : Nat} {ret : Option FieldType} {hh : List (Nat × Nat × Nat × Nat)}
    (hM : vx_Met l y ws rm Pc Qc XC mc ms free) (hblind : FrameBlind Pc) (hrc : rm.cells = mc) (hrs : rm.slots = ms)
    (hframes : rm.frames + 1 ≤ R.frames) (hlocals : W9 + (maxL + 11) + rm.locals ≤ R.locals)
    (hws : ∀ w ∈ ws, ∀ a' U, s.WarmedH U.vm → w.before a' U = true) (hcode : Cond.codeWith y bytes maxL ret hh ∈ ws) (hinit : ∀ a' U, s.WarmedH U.vm → (Cond.initialized y.cls).before a' U = true) :
    vx_Back l R p e below s sargs y len W9 (PreOf R mc ms Pc) (PostOf Qc mc ms free) (vx_Post XC mc ms free) := by
  intro m meth c A g ig mk a X hg hsize hdg hW hn hp
  have h1 : (headSpec ws rm).pre.before a A.U = true := atoms_intro fun w hw => hws w hw _ _ X.warmed
  have h2 : (Cond.codeWith y bytes maxL ret hh).before a A.U = true := hws _ hcode _ _ X.warmed
  have h3 : (Cond.initialized y.cls).before a A.U = true := hinit _ _ X.warmed
  have h4 : A.cells + (headSpec ws rm).room.cells ≤ R.cells := by rw [show (headSpec ws rm).room.cells = mc from hrc]; exact hp.1
  have h5 : A.slots + (headSpec ws rm).room.slots ≤ R.slots := by rw [show (headSpec ws rm).room.slots = ms from hrs]; exact hp.2.1
  have hPc : Pc a (A.U.calling g mk a) := hblind _ _ _ _ hp.2.2
  obtain ⟨U, Ls, c0, s0⟩ := A
  dsimp only [Pt.U, Pt.locs, Pt.cells, Pt.slots] at h1 h2 h3 h4 h5 X hn hPc ⊢
  obtain ⟨m9, methY, cY, hn9, hmY, hcY, -, hlY, -⟩ := Cond.codeWith_spec h2
  cases Option.some.inj (hn9.symm.trans hn)
  obtain ⟨kY, hkY, -⟩ := className_of_methodNamed hn
  have hinitY : kY.init = .initialized := Cond.initialized_spec (findClass_of_methodNamed hn) hkY h3
  have h : At U g.method c below := by rw [hg]; exact X.here
  have hlocals9 : W9 + (maxL + 11) + (headSpec ws rm).room.locals ≤ R.locals := hlocals
  have happ : (headSpec ws rm).appliesLoose y e.platform (U.calling g mk a) = true :=
    Spec.appliesLoose_calling (g := g) h hdg hn hkY hinitY
      (X.room_calling (g := g) (R' := (headSpec ws rm).room) hsize hmY hcY hframes (by rw [hlY]; omega) h4 h5) h1
  obtain ⟨mid, hmid⟩ := h.above
  have hfr : (U.setTop g).frames = (.java g :: mid) ++ below := by rw [State.frames_setTop' g h.top, hmid]; rfl
  obtain ⟨o, s₂, hsteps, -, hend, hq⟩ := Steps.callFree hM p X.admits X.cas X.clock (acts := []) hfr happ hPc trivial
  have hq' : vx_Q Qc XC mc ms free a (U.calling g mk a) o s₂ := hq
  rw [State.frames_setTop' g h.top] at hend
  obtain ⟨g₀, hg0⟩ := Option.isSome_iff_exists.mp h.top
  obtain ⟨r, hr⟩ := State.topJava?_eq_some.mp hg0
  have hr' : (({ U with heap := s₂.heap, slotsUsed := s₂.slotsUsed } : State).setVm s₂.vm).frames = .java g₀ :: r := hr
  rcases hq' with ⟨hqc, L, hfe, hL⟩ | ⟨q, rfl, E, ce, L, hx, hce, hcv, hcl, hW₂, hsm, hL⟩
  · obtain ⟨⟨v, rfl⟩, hW₂, e2, q2, q3, q4, q5, q6⟩ := id hfe
    have e3 : s₂ = ({ (U.calling g mk a).setFrames s₂.frames with heap := s₂.heap, slotsUsed := s₂.slotsUsed } : State).setVm s₂.vm := by
      have : s₂ = ({ s₂ with vm := (U.calling g mk a).vm } : State).setVm s₂.vm := rfl
      rw [e2] at this
      exact this
    obtain ⟨c₂, i₂, len₂, hc₂, hd₂, hf₂⟩ := hend
    have hW' : U.WarmedH s₂.vm := hW₂
    have hcc : c₂ = c := by
      have h1 : s₂.code? g.method = U.code? g.method := by
        rw [State.code?_eq, State.code?_eq, hW'.alike.method?]
      exact Option.some.inj (hc₂.symm.trans (h1.trans h.code))
    subst hcc
    have hlen : len₂ = len := by rw [hdg] at hd₂; cases hd₂; rfl
    subst hlen
    have hs₂ : s₂ = (({ U with heap := s₂.heap, slotsUsed := s₂.slotsUsed } : State).setVm s₂.vm).setTop { g with pc := g.pc + len₂, stack := v.toList ++ g.stack } := by
      refine e3.trans ?_
      rw [hf₂, State.calling_eq h.top, State.setFrames_setFrames, State.setTop_of_frames _ hr', hr]
      rfl
    have hsame : U.sameButNew ({ U with heap := s₂.heap, slotsUsed := s₂.slotsUsed } : State) L mc ms := by
      refine ⟨?_, q2, q3, q4, q5, q6⟩
      obtain ⟨t, ht, -⟩ := State.frames_cons hr
      show ({ U with heap := s₂.heap, slotsUsed := s₂.slotsUsed } : State) = { U.setFrames U.frames with heap := s₂.heap, slotsUsed := s₂.slotsUsed }
      rw [State.setFrames_self ht]
    subst hg
    refine Or.inl ⟨v, ⟨(({ U with heap := s₂.heap, slotsUsed := s₂.slotsUsed } : State).setVm s₂.vm), Ls ++ L, c0 + mc, s0 + ms⟩,
      ⟨X.admits, X.cas, X.clock, X.frames, X.room, X.hears, X.method, X.code, (X.here.setHeapUsed s₂.heap s₂.slotsUsed).setVm hW'.alike, X.tail, State.WarmedH.trans X.warmed hW', X.limits, X.bytes, X.same.trans (hsame.setVm s.vm)⟩,
      ⟨g, mk, s₂, L, rfl, rfl, hqc, rfl, hL, rfl, rfl⟩, ?_⟩
    show Steps p.tables e below _ ((({ U with heap := s₂.heap, slotsUsed := s₂.slotsUsed } : State).setVm s₂.vm).setTop { g with pc := g.pc + len₂, stack := v.toList ++ g.stack })
    rw [← hs₂]
    exact hsteps
  · obtain ⟨e2, q2, q3, q4, q5, q6⟩ := id hsm
    have e3 : s₂ = ({ (U.calling g mk a).setFrames s₂.frames with heap := s₂.heap, slotsUsed := s₂.slotsUsed } : State).setVm s₂.vm := by
      have : s₂ = ({ s₂ with vm := (U.calling g mk a).vm } : State).setVm s₂.vm := rfl
      rw [e2] at this
      exact this
    have hf₂ : s₂.frames = .throwing q :: .java g :: U.frames.tail := hend
    have hW' : U.WarmedH s₂.vm := hW₂
    have hs₂ : s₂ = ((({ U with heap := s₂.heap, slotsUsed := s₂.slotsUsed } : State).setVm s₂.vm).setTop g).pushFrame (.throwing q) := by
      refine e3.trans ?_
      rw [hf₂, State.calling_eq h.top, State.setFrames_setFrames, State.pushFrame, State.frames_setTop _ hr', State.setTop_of_frames _ hr', State.setFrames_setFrames, hr]
      rfl
    have hsame : U.sameButNew ({ U with heap := s₂.heap, slotsUsed := s₂.slotsUsed } : State) L mc ms := by
      refine ⟨?_, q2, q3, q4, q5, q6⟩
      obtain ⟨t, ht, -⟩ := State.frames_cons hr
      show ({ U with heap := s₂.heap, slotsUsed := s₂.slotsUsed } : State) = { U.setFrames U.frames with heap := s₂.heap, slotsUsed := s₂.slotsUsed }
      rw [State.setFrames_self ht]
    subst hg
    refine Or.inr ⟨q, ⟨(({ U with heap := s₂.heap, slotsUsed := s₂.slotsUsed } : State).setVm s₂.vm), Ls ++ L, c0 + mc, s0 + ms⟩,
      ⟨X.admits, X.cas, X.clock, X.frames, X.room, X.hears, X.method, X.code, (X.here.setHeapUsed s₂.heap s₂.slotsUsed).setVm hW'.alike, X.tail, State.WarmedH.trans X.warmed hW', X.limits, X.bytes, X.same.trans (hsame.setVm s.vm)⟩,
      ⟨g, mk, s₂, L, E, ce, rfl, rfl, hx, hce, hcv, hcl, rfl, hL, rfl, rfl⟩, ?_⟩
    show Steps p.tables e below _ (((({ U with heap := s₂.heap, slotsUsed := s₂.slotsUsed } : State).setVm s₂.vm).setTop g).pushFrame (.throwing q))
    rw [← hs₂]
    exact hsteps
end
variable {p : Program} {l : Launch} {e : Env} {R : Room} {s : State} {m : MethodId} {args : Array Value} {below : List Frame} {meth : Method} {c : Code} {T : State} {H : Heap} {locs : List Loc} {cells slots : Nat}
theorem vx_callVX (X : Stand p l e R s m args below meth c T locs cells slots) (hexec : p.tables.exec = Jvm.exec) {own C : String} {index : Nat} {y : MethodName} {bytes : ByteArray} {maxL : Nat} {ret : Option FieldType} {hh : List (Nat × Nat × Nat × Nat)}
    (hown : s.vm.findClass own = some m.cls) (hlink : (Cond.methodLink own index y).before args s = true) (hinst : (Cond.instanceMethod y).before args s = true) (hsel : (Cond.selects C y y).before args s = true)
    (hcode : (Cond.codeWith y bytes maxL ret hh).before args s = true) (hy : y.cls ≠ "java/lang/invoke/MethodHandle" ∧ y.cls ≠ "java/lang/invoke/VarHandle")
    {W9 : Nat} {Pre : Pt → Array Value → Prop} {Post : Pt → Array Value → Option Value → Pt → Prop} {PostX : Pt → Array Value → Addr → Pt → Prop} (hK : vx_Back l R p e below s args y 3 W9 Pre Post PostX)
    {b : Addr} {cellB : Cell} (hcell : T.heap[b]? = some cellB) (hobj : cellB.vm.isStatics = false) (hcls : s.vm.findClass C = some cellB.cls)
    {g : JFrame} (hg : g.method = m) (hsize : g.locals.size = c.maxLocals) {argsL rest : List Value} (hlen : ∀ sig, parseMethodDescriptor y.desc = some sig → argsL.length = sig.parameters.length)
    (hstack : g.stack = argsL.reverse ++ .ref b :: rest) (hW : 2 * g.monitorRoom + (rest.map fun v => v.category).sum ≤ W9) (hdg : decode c.code g.pc = .ok (.invokevirtual index, 3))
    (hpre : ∀ vm₁, s.WarmedH vm₁ → Pre ⟨T.setVm vm₁, locs, cells, slots⟩ (Value.ref b :: argsL).toArray) :
    (∃ (v : Option Value) (vm₁ : Vm) (B : Pt), s.WarmedH vm₁ ∧ Stand p l e R s m args below meth c B.U B.locs B.cells B.slots ∧ Post ⟨T.setVm vm₁, locs, cells, slots⟩ (Value.ref b :: argsL).toArray v B ∧
      ∀ target, Steps p.tables e below (B.U.setTop { g with pc := g.pc + 3, stack := v.toList ++ rest }) target → Steps p.tables e below (T.setTop g) target) ∨
    (∃ (q : Addr) (vm₁ : Vm) (B : Pt), s.WarmedH vm₁ ∧ Stand p l e R s m args below meth c B.U B.locs B.cells B.slots ∧ PostX ⟨T.setVm vm₁, locs, cells, slots⟩ (Value.ref b :: argsL).toArray q B ∧
      Steps p.tables e below (T.setTop g) ((B.U.setTop { g with stack := rest }).pushFrame (.throwing q))) := by
  obtain ⟨mk, methM, hnamed, hmethM, hstM, habM⟩ := Cond.instanceMethod_spec hinst
  obtain ⟨m8, methM', cM, hn8, hmethM', -, -, -, -, -, -, hsigM⟩ := Cond.codeWith_spec hcode
  cases Option.some.inj (hn8.symm.trans hnamed)
  cases hmethM.symm.trans hmethM'
  obtain ⟨c2, r2, m2, q1, q2, q3, q4, kP, hkP, hkPi⟩ := Cond.selects_spec hsel
  cases hcls.symm.trans q1
  cases (State.methodFound?_of_named hnamed hy).symm.trans q2
  cases hnamed.symm.trans q3
  have hselP : selectMethod e.platform s.vm cellB.cls mk = .method mk := by rw [Launch.admits_selectMethod X.admits]; exact q4
  obtain ⟨vm₁, X₁, hstep₁⟩ := X.invokevirtual hexec hown hlink hnamed hmethM hstM hkP hkPi hy (a := b) (cell := cellB) hcell
    (fun z h => by rw [h] at hobj; cases hobj) hselP hmethM habM hkP hkPi (g := g) hg (argsL := argsL) (rest := rest) (hlen _ hsigM) hstack hdg
  rcases hK m meth c ⟨T.setVm vm₁, locs, cells, slots⟩ { g with stack := rest } (.invokevirtual index) mk (Value.ref b :: argsL).toArray X₁ hg hsize hdg hW (X₁.named hnamed) (hpre vm₁ X₁.warmed) with ⟨v, B, X', hpost, hsteps⟩ | ⟨q, B, X', hpost, hsteps⟩
  · exact Or.inl ⟨v, vm₁, B, X₁.warmed, X', hpost, fun target h => hstep₁ _ fun acts => by rw [doInvoke_state]; exact hsteps.trans h⟩
  · exact Or.inr ⟨q, vm₁, B, X₁.warmed, X', hpost, hstep₁ _ fun acts => by rw [doInvoke_state]; exact hsteps⟩
theorem vx_callSX (X : Stand p l e R s m args below meth c T locs cells slots) (hexec : p.tables.exec = Jvm.exec) {own : String} {index : Nat} {y : MethodName} {bytes : ByteArray} {maxL : Nat} {ret : Option FieldType} {hh : List (Nat × Nat × Nat × Nat)}
    (hown : s.vm.findClass own = some m.cls) (hlink : (Cond.methodLink own index y).before args s = true) (hstat : (Cond.static y).before args s = true) (hinit : (Cond.initialized y.cls).before args s = true)
    (hcode : (Cond.codeWith y bytes maxL ret hh).before args s = true) (hy : y.cls ≠ "java/lang/invoke/MethodHandle" ∧ y.cls ≠ "java/lang/invoke/VarHandle")
    {W9 : Nat} {Pre : Pt → Array Value → Prop} {Post : Pt → Array Value → Option Value → Pt → Prop} {PostX : Pt → Array Value → Addr → Pt → Prop} (hK : vx_Back l R p e below s args y 3 W9 Pre Post PostX)
    {g : JFrame} (hg : g.method = m) (hsize : g.locals.size = c.maxLocals) {argsL rest : List Value} (hlen : ∀ sig, parseMethodDescriptor y.desc = some sig → argsL.length = sig.parameters.length)
    (hstack : g.stack = argsL.reverse ++ rest) (hW : 2 * g.monitorRoom + (rest.map fun v => v.category).sum ≤ W9) (hdg : decode c.code g.pc = .ok (.invokestatic index, 3))
    (hpre : ∀ vm₁, s.WarmedH vm₁ → Pre ⟨T.setVm vm₁, locs, cells, slots⟩ argsL.toArray) :
    (∃ (v : Option Value) (vm₁ : Vm) (B : Pt), s.WarmedH vm₁ ∧ Stand p l e R s m args below meth c B.U B.locs B.cells B.slots ∧ Post ⟨T.setVm vm₁, locs, cells, slots⟩ argsL.toArray v B ∧
      ∀ target, Steps p.tables e below (B.U.setTop { g with pc := g.pc + 3, stack := v.toList ++ rest }) target → Steps p.tables e below (T.setTop g) target) ∨
    (∃ (q : Addr) (vm₁ : Vm) (B : Pt), s.WarmedH vm₁ ∧ Stand p l e R s m args below meth c B.U B.locs B.cells B.slots ∧ PostX ⟨T.setVm vm₁, locs, cells, slots⟩ argsL.toArray q B ∧
      Steps p.tables e below (T.setTop g) ((B.U.setTop { g with stack := rest }).pushFrame (.throwing q))) := by
  obtain ⟨mk, methM, cM, hnamed, hmethM, -, -, -, -, -, -, hsigM⟩ := Cond.codeWith_spec hcode
  have hstatic : methM.isStatic = true := Cond.static_spec hnamed hmethM hstat
  obtain ⟨kP, hkP, -⟩ := className_of_methodNamed hnamed
  have hinitP : kP.init = .initialized := Cond.initialized_spec (findClass_of_methodNamed hnamed) hkP hinit
  obtain ⟨vm₁, X₁, hstep₁⟩ := X.invokestatic hexec hown hlink hnamed hmethM hstatic hkP hinitP hy (g := g) hg (argsL := argsL) (rest := rest) (hlen _ hsigM) hstack hdg
  rcases hK m meth c ⟨T.setVm vm₁, locs, cells, slots⟩ { g with stack := rest } (.invokestatic index) mk argsL.toArray X₁ hg hsize hdg hW (X₁.named hnamed) (hpre vm₁ X₁.warmed) with ⟨v, B, X', hpost, hsteps⟩ | ⟨q, B, X', hpost, hsteps⟩
  · exact Or.inl ⟨v, vm₁, B, X₁.warmed, X', hpost, fun target h => hstep₁ _ fun acts => by rw [doInvoke_state]; exact hsteps.trans h⟩
  · exact Or.inr ⟨q, vm₁, B, X₁.warmed, X', hpost, hstep₁ _ fun acts => by rw [doInvoke_state]; exact hsteps⟩
theorem vx_callVW (X : Stand p l e R s m args below meth c T locs cells slots) (hexec : p.tables.exec = Jvm.exec) {own C : String} {index : Nat} {y : MethodName} {bytes : ByteArray} {maxL : Nat} {ret : Option FieldType} {hh : List (Nat × Nat × Nat × Nat)}
    (hown : s.vm.findClass own = some m.cls) (hlink : (Cond.methodLink own index y).before args s = true) (hinst : (Cond.instanceMethod y).before args s = true) (hsel : (Cond.selects C y y).before args s = true)
    (hcode : (Cond.codeWith y bytes maxL ret hh).before args s = true) (hy : y.cls ≠ "java/lang/invoke/MethodHandle" ∧ y.cls ≠ "java/lang/invoke/VarHandle")
    {W9 : Nat} {Pre : Pt → Array Value → Prop} {Post : Pt → Array Value → Option Value → Pt → Prop} (hK : Back l R p e below s args y 3 W9 Pre Post)
    {b : Addr} {cellB : Cell} (hcell : T.heap[b]? = some cellB) (hobj : cellB.vm.isStatics = false) (hcls : s.vm.findClass C = some cellB.cls)
    {g : JFrame} (hg : g.method = m) (hsize : g.locals.size = c.maxLocals) {argsL rest : List Value} (hlen : ∀ sig, parseMethodDescriptor y.desc = some sig → argsL.length = sig.parameters.length)
    (hstack : g.stack = argsL.reverse ++ .ref b :: rest) (hW : 2 * g.monitorRoom + (rest.map fun v => v.category).sum ≤ W9) (hdg : decode c.code g.pc = .ok (.invokevirtual index, 3))
    (hpre : ∀ vm₁, s.WarmedH vm₁ → Pre ⟨T.setVm vm₁, locs, cells, slots⟩ (Value.ref b :: argsL).toArray) :
    ∃ (v : Option Value) (vm₁ : Vm) (B : Pt), s.WarmedH vm₁ ∧ Stand p l e R s m args below meth c B.U B.locs B.cells B.slots ∧ Post ⟨T.setVm vm₁, locs, cells, slots⟩ (Value.ref b :: argsL).toArray v B ∧
      ∀ target, Steps p.tables e below (B.U.setTop { g with pc := g.pc + 3, stack := v.toList ++ rest }) target → Steps p.tables e below (T.setTop g) target := by
  obtain ⟨mk, methM, hnamed, hmethM, hstM, habM⟩ := Cond.instanceMethod_spec hinst
  obtain ⟨m8, methM', cM, hn8, hmethM', -, -, -, -, -, -, hsigM⟩ := Cond.codeWith_spec hcode
  cases Option.some.inj (hn8.symm.trans hnamed)
  cases hmethM.symm.trans hmethM'
  obtain ⟨c2, r2, m2, q1, q2, q3, q4, kP, hkP, hkPi⟩ := Cond.selects_spec hsel
  cases hcls.symm.trans q1
  cases (State.methodFound?_of_named hnamed hy).symm.trans q2
  cases hnamed.symm.trans q3
  have hselP : selectMethod e.platform s.vm cellB.cls mk = .method mk := by rw [Launch.admits_selectMethod X.admits]; exact q4
  obtain ⟨vm₁, X₁, hstep₁⟩ := X.invokevirtual hexec hown hlink hnamed hmethM hstM hkP hkPi hy (a := b) (cell := cellB) hcell
    (fun z h => by rw [h] at hobj; cases hobj) hselP hmethM habM hkP hkPi (g := g) hg (argsL := argsL) (rest := rest) (hlen _ hsigM) hstack hdg
  obtain ⟨v, B, X', hpost, hsteps⟩ := hK m meth c ⟨T.setVm vm₁, locs, cells, slots⟩ { g with stack := rest } (.invokevirtual index) mk (Value.ref b :: argsL).toArray X₁ hg hsize hdg hW (X₁.named hnamed) (hpre vm₁ X₁.warmed)
  exact ⟨v, vm₁, B, X₁.warmed, X', hpost, fun target h => hstep₁ _ fun acts => by rw [doInvoke_state]; exact hsteps.trans h⟩
abbrev vx_CVW (R : Room) (s : State) (args : Array Value) (own C : String) (index : Nat) (y : MethodName) (bytes : ByteArray) (maxL : Nat) (ret : Option FieldType) (hh : List (Nat × Nat × Nat × Nat)) (ws : List Cond) (rm : Room) (mc ms n : Nat) : Prop :=
  (rm.cells = mc ∧ rm.slots = ms ∧ rm.frames + 1 ≤ R.frames ∧ 8 + (maxL + 11) + rm.locals ≤ R.locals ∧ (∀ w ∈ ws, ∀ (a' : Array Value) (U : State), s.WarmedH U.vm → w.before a' U = true) ∧ Cond.codeWith y bytes maxL ret hh ∈ ws) ∧
  (Cond.codeWith y bytes maxL ret hh).before args s = true ∧ (Cond.initialized y.cls).before args s = true ∧ (y.cls ≠ "java/lang/invoke/MethodHandle" ∧ y.cls ≠ "java/lang/invoke/VarHandle") ∧
  (∀ sig, parseMethodDescriptor y.desc = some sig → n = sig.parameters.length) ∧ (Cond.methodLink own index y).before args s = true ∧ (Cond.instanceMethod y).before args s = true ∧ (Cond.selects C y y).before args s = true
theorem vx_cwVW {own C : String} {index maxL mc ms : Nat} {y : MethodName} {bytes : ByteArray} {ret : Option FieldType} {hh : List (Nat × Nat × Nat × Nat)} {Ts ws ws' : List Cond} {rm : Room} (n : Nat) (ht : ∀ w ∈ Ts, w.before args s = true) (hT : GoodIn Ts (wsV own index C y ws)) (hw : ws = Cond.codeWith y bytes maxL ret hh :: ws') (hrc : rm.cells = mc) (hrs : rm.slots = ms)
    (hd : y.cls = C ∧ y.cls ≠ "java/lang/invoke/MethodHandle" ∧ y.cls ≠ "java/lang/invoke/VarHandle" ∧ (parseMethodDescriptor y.desc).map (fun d => d.parameters.length) = some n) (hR : rm.frames + 1 ≤ R.frames ∧ 8 + (maxL + 11) + rm.locals ≤ R.locals) :
    vx_CVW R s args own C index y bytes maxL ret hh ws rm mc ms n := by
  obtain ⟨hC, hd⟩ := hd
  subst hC
  have ok : ∀ w ∈ wsV own index y.cls y ws, w.before args s = true := fun w h => ht w (hT w h).1
  have hG : GoodIn Ts ws := fun w h => hT w (by unfold wsV; exact List.mem_append_right _ h)
  have hc : Cond.codeWith y bytes maxL ret hh ∈ ws := by rw [hw]; exact List.mem_cons_self
  refine ⟨⟨hrc, hrs, hR.1, hR.2, pay_in ht hG, hc⟩, ht _ (hG _ hc).1, ok _ (by simp [wsV]), ⟨hd.1, hd.2.1⟩, fun sig h => ?_, ok _ (by simp [wsV]), ok _ (by simp [wsV]), ok _ (by simp [wsV])⟩
  have h2 := hd.2.2
  rw [h] at h2
  exact (Option.some.inj h2).symm
theorem vx_runVW {y : MethodName} {bytes cc : ByteArray} {maxL nL mc ms n index : Nat} {ret : Option FieldType} {hh : List (Nat × Nat × Nat × Nat)} {ws : List Cond} {rm : Room} {Pc : Array Value → State → Prop} {Qc : Array Value → State → Outcome → State → Prop} {free : Addr → Prop} {Ts : List Cond} {own C : String} {b : Addr} {As rest : List Value} {g : JFrame}
    (S : CallFix p m c cc nL s args Ts own) (hM : Met l y ws rm Pc Qc mc ms free) (cw : vx_CVW R s args own C index y bytes maxL ret hh ws rm mc ms n) (hp : PreV s H C b Pc As)
    (hg : g.method = m) (hn : As.length = n) (hsize : g.locals.size = nL) (hstack : g.stack = As.reverse ++ .ref b :: rest) (hW : 2 * g.monitorRoom + (rest.map fun v => v.category).sum ≤ 8) (hdg : decode cc g.pc = .ok (.invokevirtual index, 3)) (hf : cells + mc ≤ R.cells ∧ slots + ms ≤ R.slots) :
    va_Run p l e R s m args below meth c H locs cells slots mc ms g rest (Qc (Value.ref b :: As).toArray) free := by
  obtain ⟨⟨hrc, hrs, hfr, hlo, hws, hcw⟩, hcode, hini, hy, hlen, hl, hin, hse⟩ := cw
  have hK : Back l R p e below s args y 3 8 (PreOf R mc ms Pc) (PostOf Qc mc ms free) := va_backW (hh := hh) (bytes := bytes) (maxL := maxL) (ret := ret) hM hp.1 hrc hrs hfr hlo hws hcw (fun a' U hW => word_at hW (Or.inl (by first | rfl | simp [Cond.onTables, Cond.keeps, Cond.steady])) hini)
  obtain ⟨hx, hb, hml, ho, -⟩ := S
  obtain ⟨-, ⟨cellB, hcB, hoB, hclB⟩, hPc⟩ := hp
  intro T hT X
  obtain ⟨v, vm₁, ⟨U', l2, c2, s2⟩, hW₁, X', ⟨g', mk, t, L, e1, e2, hq, h1, hL, h2, h3⟩, st⟩ := vx_callVW X hx (C := C) (hh := hh) (bytes := bytes) (maxL := maxL) (ret := ret) ho hl hin hse hcode hy hK (by rw [hT]; exact hcB) hoB hclB hg (hsize.trans hml.symm) (argsL := As) (rest := rest) (fun sig h => hn.trans (hlen sig h)) hstack hW (by rw [hb]; exact hdg)
    (fun vm₁ hW₁ => ⟨hf.1, hf.2, hPc (T.setVm vm₁) hT hW₁⟩)
  dsimp only [Pt.U, Pt.locs, Pt.cells, Pt.slots] at X' e1 e2 h1 h2 h3 st
  subst h1; subst h2; subst h3
  exact ⟨v, (T.setVm vm₁).calling g' mk (Value.ref b :: As).toArray, t, U', L, hT, X', hL, e1, e2, hq, st⟩
section
variable {y : MethodName} {bytes cc : ByteArray} {maxL nL mc ms n index : Nat} {ret : Option FieldType} {ws : List Cond} {rm : Room} {Pc : Array Value → State → Prop} {Qc : Array Value → State → Outcome → State → Prop} {XC : String → State → State → Prop} {free : Addr → Prop} {Ts : List Cond} {own C : String} {b : Addr} {As rest : List Value} {g : JFrame}
theorem vx_runVX {hh : List (Nat × Nat × Nat × Nat)} (S : CallFix p m c cc nL s args Ts own) (hM : vx_Met l y ws rm Pc Qc XC mc ms free) (cw : vx_CVW R s args own C index y bytes maxL ret hh ws rm mc ms n) (hp : PreV s H C b Pc As)
    (hg : g.method = m) (hn : As.length = n) (hsize : g.locals.size = nL) (hstack : g.stack = As.reverse ++ .ref b :: rest) (hW : 2 * g.monitorRoom + (rest.map fun v => v.category).sum ≤ 8) (hdg : decode cc g.pc = .ok (.invokevirtual index, 3)) (hf : cells + mc ≤ R.cells ∧ slots + ms ≤ R.slots) :
    vx_Run p l e R s m args below meth c H locs cells slots mc ms g rest (Qc (Value.ref b :: As).toArray) XC free := by
  obtain ⟨⟨hrc, hrs, hfr, hlo, hws, hcw⟩, hcode, hini, hy, hlen, hl, hin, hse⟩ := cw
  have hK : vx_Back l R p e below s args y 3 8 (PreOf R mc ms Pc) (PostOf Qc mc ms free) (vx_Post XC mc ms free) := vx_backW (hh := hh) (bytes := bytes) (maxL := maxL) (ret := ret) hM hp.1 hrc hrs hfr hlo hws hcw (fun a' U hW => word_at hW (Or.inl (by first | rfl | simp [Cond.onTables, Cond.keeps, Cond.steady])) hini)
  obtain ⟨hx, hb, hml, ho, -⟩ := S
  obtain ⟨-, ⟨cellB, hcB, hoB, hclB⟩, hPc⟩ := hp
  intro T hT X
  rcases vx_callVX X hx (C := C) (hh := hh) (bytes := bytes) (maxL := maxL) (ret := ret) ho hl hin hse hcode hy hK (by rw [hT]; exact hcB) hoB hclB hg (hsize.trans hml.symm) (argsL := As) (rest := rest) (fun sig h => hn.trans (hlen sig h)) hstack hW (by rw [hb]; exact hdg)
    (fun vm₁ hW₁ => ⟨hf.1, hf.2, hPc (T.setVm vm₁) hT hW₁⟩) with ⟨v, vm₁, ⟨U', l2, c2, s2⟩, hW₁, X', ⟨g', mk, t, L, e1, e2, hq, h1, hL, h2, h3⟩, st⟩ | ⟨q, vm₁, ⟨U', l2, c2, s2⟩, hW₁, X', ⟨g', mk, t, L, E, ce, e1, e2, hq, hce, hcv, hcl, h1, hL, h2, h3⟩, st⟩
  · dsimp only [Pt.U, Pt.locs, Pt.cells, Pt.slots] at X' e1 e2 h1 h2 h3 st
    subst h1; subst h2; subst h3
    exact Or.inl ⟨v, (T.setVm vm₁).calling g' mk (Value.ref b :: As).toArray, t, U', L, hT, X', hL, e1, e2, hq, st⟩
  · dsimp only [Pt.U, Pt.locs, Pt.cells, Pt.slots] at X' e1 e2 h1 h2 h3 st hcl
    subst h1; subst h2; subst h3
    exact Or.inr ⟨q, (T.setVm vm₁).calling g' mk (Value.ref b :: As).toArray, t, U', L, E, ce, hT, X', hL, e1, e2, hq, hce, hcv, vx_cls hW₁ hcl, st⟩
theorem vx_runSX {hh : List (Nat × Nat × Nat × Nat)} (S : CallFix p m c cc nL s args Ts own) (hM : vx_Met l y ws rm Pc Qc XC mc ms free) (cw : vx_CSW R s args own index y bytes maxL ret hh ws rm mc ms n) (hp : PreS s H Pc As)
    (hg : g.method = m) (hn : As.length = n) (hsize : g.locals.size = nL) (hstack : g.stack = As.reverse ++ rest) (hW : 2 * g.monitorRoom + (rest.map fun v => v.category).sum ≤ 8) (hdg : decode cc g.pc = .ok (.invokestatic index, 3)) (hf : cells + mc ≤ R.cells ∧ slots + ms ≤ R.slots) :
    vx_Run p l e R s m args below meth c H locs cells slots mc ms g rest (Qc As.toArray) XC free := by
  obtain ⟨⟨hrc, hrs, hfr, hlo, hws, hcw⟩, hcode, hini, hy, hlen, hl, hstt⟩ := cw
  have hK : vx_Back l R p e below s args y 3 8 (PreOf R mc ms Pc) (PostOf Qc mc ms free) (vx_Post XC mc ms free) := vx_backW (hh := hh) (bytes := bytes) (maxL := maxL) (ret := ret) hM hp.1 hrc hrs hfr hlo hws hcw (fun a' U hW => word_at hW (Or.inl (by first | rfl | simp [Cond.onTables, Cond.keeps, Cond.steady])) hini)
  obtain ⟨hx, hb, hml, ho, -⟩ := S
  intro T hT X
  rcases vx_callSX X hx (hh := hh) (bytes := bytes) (maxL := maxL) (ret := ret) ho hl hstt hini hcode hy hK hg (hsize.trans hml.symm) (argsL := As) (rest := rest) (fun sig h => hn.trans (hlen sig h)) hstack hW (by rw [hb]; exact hdg)
    (fun vm₁ hW₁ => ⟨hf.1, hf.2, hp.2 (T.setVm vm₁) hT hW₁⟩) with ⟨v, vm₁, ⟨U', l2, c2, s2⟩, hW₁, X', ⟨g', mk, t, L, e1, e2, hq, h1, hL, h2, h3⟩, st⟩ | ⟨q, vm₁, ⟨U', l2, c2, s2⟩, hW₁, X', ⟨g', mk, t, L, E, ce, e1, e2, hq, hce, hcv, hcl, h1, hL, h2, h3⟩, st⟩
  · dsimp only [Pt.U, Pt.locs, Pt.cells, Pt.slots] at X' e1 e2 h1 h2 h3 st
    subst h1; subst h2; subst h3
    exact Or.inl ⟨v, (T.setVm vm₁).calling g' mk As.toArray, t, U', L, hT, X', hL, e1, e2, hq, st⟩
  · dsimp only [Pt.U, Pt.locs, Pt.cells, Pt.slots] at X' e1 e2 h1 h2 h3 st hcl
    subst h1; subst h2; subst h3
    exact Or.inr ⟨q, (T.setVm vm₁).calling g' mk As.toArray, t, U', L, E, ce, hT, X', hL, e1, e2, hq, hce, hcv, vx_cls hW₁ hcl, st⟩
end
end VXH
theorem vx_ofWH {l : Launch} {y : MethodName} {ws ws' : List Cond} {rm : Room} {Pc : Array Value → State → Prop} {Qc : Array Value → State → Outcome → State → Prop} {XC : String → State → State → Prop} {mc ms : Nat} {free : Addr → Prop} {cc : ByteArray} {maxL : Nat} {ret : Option FieldType} {hh : List (Nat × Nat × Nat × Nat)}
    (hy : plainName y.cls = true) (hw : ws = Cond.codeWith y cc maxL ret hh :: ws')
    (body : ∀ p e s m args below meth c s₁, BodyLoose p l y (headSpec ws rm) cc maxL ret e s m args below meth c s₁ → c.maxLocals = maxL → Pc args s →
      W p l e (headSpec ws rm).room s m args below meth c s.heap [] 0 0 (vx_MQ below Qc XC args s mc ms free) (entryFrame m args maxL)) : vx_Met l y ws rm Pc Qc XC mc ms free := by
  refine MetFree.of_bodyS (code := cc) (maxLocals := maxL) (ret := ret) hy ?_ ?_
  · intro args s m h hn
    obtain ⟨m9, meth, c, hn9, h1, h2, h3, h4, -, h5, h6, -⟩ := Cond.codeWith_spec (atoms_spec (ws := ws) h _ (by rw [hw]; exact List.mem_cons_self))
    cases hn.symm.trans hn9
    exact ⟨meth, c, h1, h2, h3, h4, h5, h6⟩
  · intro p e s m args below meth c s₁ B hml hP _
    have hh0 : s₁.heap = s.heap := by rw [B.state]; rfl
    obtain ⟨t, a1, o, b1, b2, b3⟩ := body p e s m args below meth c s₁ B hml hP s₁ hh0 (Stand.of_body B)
    exact ⟨t, o, a1, b1, b2, b3⟩
/-! ===== END ===== -/
end
section
def RX0 : String := "HandArchive$Clip"
def TX0 : u_T := fun k => match k with
  | 0 => ("HandArchive$Clip", "persons", "I", true)
  | 1 => ("HandArchive$Clip", "purpose", "I", true)
  | 2 => ("HandArchive$Clip", "one", "LHandArchive$Clip;", true)
  | 3 => ("HandArchive$Clip", "other", "LHandArchive$Clip;", true)
  | 4 => ("HandArchive$Clip", "marks", "Ljava/util/ArrayList;", true)
  | _ => ("HandArchive$Clip", "isGone", "Z", false)
def tyX0 : Nat → FieldType := fun k => match k with
  | 0 => .int
  | 1 => .int
  | 2 => .object "HandArchive$Clip"
  | 3 => .object "HandArchive$Clip"
  | 4 => .object "java/util/ArrayList"
  | _ => .boolean
theorem nmX0 : ∀ a, a < 6 → ∀ b, b < 6 → a ≠ b → (TX0 a).2.1 ≠ (TX0 b).2.1 := by decide +kernel
theorem tyX0_ok : ∀ k, k < 6 → parseFieldDescriptor (TX0 k).2.2.1 = some (tyX0 k) := by decide +kernel
abbrev cX0_init : ByteArray := prog_2_method_1_code
def yX0_init : MethodName := ⟨RX0, "<init>", "(IILHandArchive$Clip;LHandArchive$Clip;)V"⟩
abbrev cX0_comesFrom : ByteArray := prog_2_method_2_code
def yX0_comesFrom : MethodName := ⟨RX0, "comesFrom", "(I)Z"⟩
abbrev cX0_isMadeOfGone : ByteArray := prog_2_method_3_code
def yX0_isMadeOfGone : MethodName := ⟨RX0, "isMadeOfGone", "()Z"⟩
abbrev cX0_countMarks : ByteArray := prog_2_method_4_code
def yX0_countMarks : MethodName := ⟨RX0, "countMarks", "(II)I"⟩
abbrev cX0_hasMarkWithin : ByteArray := prog_2_method_5_code
def yX0_hasMarkWithin : MethodName := ⟨RX0, "hasMarkWithin", "(IIII)Z"⟩
abbrev cX0_writeValues : ByteArray := prog_2_method_6_code
def yX0_writeValues : MethodName := ⟨RX0, "writeValues", "(II[I)V"⟩
def RX1 : String := "HandArchive$Hands"
def TX1 : u_T := fun k => match k with
  | 0 => ("HandArchive$Hands", "shape", "I", false)
  | 1 => ("HandArchive$Hands", "from", "I", false)
  | 2 => ("HandArchive$Hands", "to", "I", false)
  | 3 => ("HandArchive$Hands", "begin", "I", false)
  | 4 => ("HandArchive$Hands", "end", "I", false)
  | 5 => ("HandArchive$Hands", "second", "I", false)
  | _ => ("HandArchive$Hands", "base", "I", false)
def tyX1 : Nat → FieldType := fun k => match k with
  | 0 => .int
  | 1 => .int
  | 2 => .int
  | 3 => .int
  | 4 => .int
  | 5 => .int
  | _ => .int
theorem nmX1 : ∀ a, a < 7 → ∀ b, b < 7 → a ≠ b → (TX1 a).2.1 ≠ (TX1 b).2.1 := by decide +kernel
theorem tyX1_ok : ∀ k, k < 7 → parseFieldDescriptor (TX1 k).2.2.1 = some (tyX1 k) := by decide +kernel
abbrev cX1_init : ByteArray := prog_3_method_1_code
def yX1_init : MethodName := ⟨RX1, "<init>", "(IIIIIII)V"⟩
abbrev cX1_become : ByteArray := prog_3_method_2_code
def yX1_become : MethodName := ⟨RX1, "become", "(LHandArchive$Hands;)V"⟩
abbrev cX1_countUnlike : ByteArray := prog_3_method_3_code
def yX1_countUnlike : MethodName := ⟨RX1, "countUnlike", "(LHandArchive$Hands;)I"⟩
abbrev cX1_isJustLike : ByteArray := prog_3_method_4_code
def yX1_isJustLike : MethodName := ⟨RX1, "isJustLike", "(LHandArchive$Hands;)Z"⟩
abbrev cX1_goes : ByteArray := prog_3_method_5_code
def yX1_goes : MethodName := ⟨RX1, "goes", "()Z"⟩
abbrev cX1_isStill : ByteArray := prog_3_method_6_code
def yX1_isStill : MethodName := ⟨RX1, "isStill", "()Z"⟩
def RX2 : String := "HandArchive$Item"
def TX2 : u_T := fun k => match k with
  | 0 => ("HandArchive$Item", "kind", "I", true)
  | 1 => ("HandArchive$Item", "one", "I", true)
  | 2 => ("HandArchive$Item", "referent", "I", true)
  | 3 => ("HandArchive$Item", "told", "LHandArchive$Hands;", true)
  | 4 => ("HandArchive$Item", "left", "LHandArchive$Hands;", true)
  | 5 => ("HandArchive$Item", "passingTick", "I", false)
  | 6 => ("HandArchive$Item", "beginTick", "I", false)
  | _ => ("HandArchive$Item", "behindTick", "I", false)
def tyX2 : Nat → FieldType := fun k => match k with
  | 0 => .int
  | 1 => .int
  | 2 => .int
  | 3 => .object "HandArchive$Hands"
  | 4 => .object "HandArchive$Hands"
  | 5 => .int
  | 6 => .int
  | _ => .int
theorem nmX2 : ∀ a, a < 8 → ∀ b, b < 8 → a ≠ b → (TX2 a).2.1 ≠ (TX2 b).2.1 := by decide +kernel
theorem tyX2_ok : ∀ k, k < 8 → parseFieldDescriptor (TX2 k).2.2.1 = some (tyX2 k) := by decide +kernel
abbrev cX2_init : ByteArray := prog_4_method_1_code
def yX2_init : MethodName := ⟨RX2, "<init>", "(IIILHandArchive$Hands;)V"⟩
abbrev cX2_isPointing : ByteArray := prog_4_method_2_code
def yX2_isPointing : MethodName := ⟨RX2, "isPointing", "()Z"⟩
abbrev cX2_isOfSign : ByteArray := prog_4_method_3_code
def yX2_isOfSign : MethodName := ⟨RX2, "isOfSign", "()Z"⟩
def RX3 : String := "HandArchive$Mark"
def TX3 : u_T := fun k => match k with
  | 0 => ("HandArchive$Mark", "coder", "I", true)
  | 1 => ("HandArchive$Mark", "tier", "I", true)
  | 2 => ("HandArchive$Mark", "from", "I", true)
  | 3 => ("HandArchive$Mark", "to", "I", true)
  | _ => ("HandArchive$Mark", "value", "I", true)
def tyX3 : Nat → FieldType := fun k => match k with
  | 0 => .int
  | 1 => .int
  | 2 => .int
  | 3 => .int
  | _ => .int
theorem nmX3 : ∀ a, a < 5 → ∀ b, b < 5 → a ≠ b → (TX3 a).2.1 ≠ (TX3 b).2.1 := by decide +kernel
theorem tyX3_ok : ∀ k, k < 5 → parseFieldDescriptor (TX3 k).2.2.1 = some (tyX3 k) := by decide +kernel
abbrev cX3_init : ByteArray := prog_5_method_1_code
def yX3_init : MethodName := ⟨RX3, "<init>", "(IIIII)V"⟩
abbrev cX3_isOf : ByteArray := prog_5_method_2_code
def yX3_isOf : MethodName := ⟨RX3, "isOf", "(II)Z"⟩
abbrev cX3_writeValue : ByteArray := prog_5_method_3_code
def yX3_writeValue : MethodName := ⟨RX3, "writeValue", "([I)V"⟩
abbrev cX3_countTicksIn : ByteArray := prog_5_method_4_code
def yX3_countTicksIn : MethodName := ⟨RX3, "countTicksIn", "([I)I"⟩
def RX4 : String := "HandArchive$Rule"
def TX4 : u_T := fun k => match k with
  | 0 => ("HandArchive$Rule", "kind", "I", true)
  | _ => ("HandArchive$Rule", "exceptions", "[Z", true)
def tyX4 : Nat → FieldType := fun k => match k with
  | 0 => .int
  | _ => .array .boolean
theorem nmX4 : ∀ a, a < 2 → ∀ b, b < 2 → a ≠ b → (TX4 a).2.1 ≠ (TX4 b).2.1 := by decide +kernel
theorem tyX4_ok : ∀ k, k < 2 → parseFieldDescriptor (TX4 k).2.2.1 = some (tyX4 k) := by decide +kernel
abbrev cX4_init : ByteArray := prog_6_method_1_code
def yX4_init : MethodName := ⟨RX4, "<init>", "(I)V"⟩
abbrev cX4_hasException : ByteArray := prog_6_method_2_code
def yX4_hasException : MethodName := ⟨RX4, "hasException", "(I)Z"⟩
abbrev cX4_toggleException : ByteArray := prog_6_method_3_code
def yX4_toggleException : MethodName := ⟨RX4, "toggleException", "(I)Z"⟩
def RX5 : String := "HandArchive$Span"
def TX5 : u_T := fun k => match k with
  | 0 => ("HandArchive$Span", "face", "I", true)
  | 1 => ("HandArchive$Span", "from", "I", true)
  | _ => ("HandArchive$Span", "to", "I", true)
def tyX5 : Nat → FieldType := fun k => match k with
  | 0 => .int
  | 1 => .int
  | _ => .int
theorem nmX5 : ∀ a, a < 3 → ∀ b, b < 3 → a ≠ b → (TX5 a).2.1 ≠ (TX5 b).2.1 := by decide +kernel
theorem tyX5_ok : ∀ k, k < 3 → parseFieldDescriptor (TX5 k).2.2.1 = some (tyX5 k) := by decide +kernel
abbrev cX5_init : ByteArray := prog_7_method_1_code
def yX5_init : MethodName := ⟨RX5, "<init>", "(III)V"⟩
def RX6 : String := "HandArchive"
def TX6 : u_T := fun k => match k with
  | 0 => ("HandArchive", "signs", "Ljava/util/ArrayList;", true)
  | 1 => ("HandArchive", "items", "Ljava/util/ArrayList;", true)
  | 2 => ("HandArchive", "spans", "Ljava/util/ArrayList;", true)
  | 3 => ("HandArchive", "rules", "Ljava/util/ArrayList;", true)
  | 4 => ("HandArchive", "clips", "Ljava/util/ArrayList;", true)
  | 5 => ("HandArchive", "refusals", "[I", true)
  | 6 => ("HandArchive", "onesValues", "[I", true)
  | _ => ("HandArchive", "othersValues", "[I", true)
def tyX6 : Nat → FieldType := fun k => match k with
  | 0 => .object "java/util/ArrayList"
  | 1 => .object "java/util/ArrayList"
  | 2 => .object "java/util/ArrayList"
  | 3 => .object "java/util/ArrayList"
  | 4 => .object "java/util/ArrayList"
  | 5 => .array .int
  | 6 => .array .int
  | _ => .array .int
theorem nmX6 : ∀ a, a < 8 → ∀ b, b < 8 → a ≠ b → (TX6 a).2.1 ≠ (TX6 b).2.1 := by decide +kernel
theorem tyX6_ok : ∀ k, k < 8 → parseFieldDescriptor (TX6 k).2.2.1 = some (tyX6 k) := by decide +kernel
abbrev cX6_init : ByteArray := prog_1_method_1_code
def yX6_init : MethodName := ⟨RX6, "<init>", "()V"⟩
abbrev cX6_sign : ByteArray := prog_1_method_2_code
def yX6_sign : MethodName := ⟨RX6, "sign", "(IIIIIII)I"⟩
abbrev cX6_nearest : ByteArray := prog_1_method_3_code
def yX6_nearest : MethodName := ⟨RX6, "nearest", "(II)I"⟩
abbrev cX6_written : ByteArray := prog_1_method_4_code
def yX6_written : MethodName := ⟨RX6, "written", "(II)I"⟩
abbrev cX6_loses : ByteArray := prog_1_method_5_code
def yX6_loses : MethodName := ⟨RX6, "loses", "(II)I"⟩
abbrev cX6_tellsApart : ByteArray := prog_1_method_6_code
def yX6_tellsApart : MethodName := ⟨RX6, "tellsApart", "(III)Z"⟩
abbrev cX6_numberBy : ByteArray := prog_1_method_7_code
def yX6_numberBy : MethodName := ⟨RX6, "numberBy", "(ILHandArchive$Hands;)I"⟩
abbrev cX6_isPossibleBase : ByteArray := prog_1_method_8_code
def yX6_isPossibleBase : MethodName := ⟨RX6, "isPossibleBase", "(II)Z"⟩
abbrev cX6_firstSignJustLike : ByteArray := prog_1_method_9_code
def yX6_firstSignJustLike : MethodName := ⟨RX6, "firstSignJustLike", "(LHandArchive$Hands;)I"⟩
abbrev cX6_countSignsJustLike : ByteArray := prog_1_method_10_code
def yX6_countSignsJustLike : MethodName := ⟨RX6, "countSignsJustLike", "(LHandArchive$Hands;)I"⟩
abbrev cX6_isSign : ByteArray := prog_1_method_11_code
def yX6_isSign : MethodName := ⟨RX6, "isSign", "(I)Z"⟩
abbrev cX6_requireSign : ByteArray := prog_1_method_12_code
def yX6_requireSign : MethodName := ⟨RX6, "requireSign", "(I)V"⟩
abbrev cX6_requireSchool : ByteArray := prog_1_method_13_code
def yX6_requireSchool : MethodName := ⟨RX6, "requireSchool", "(I)V"⟩
abbrev cX6_item : ByteArray := prog_1_method_14_code
def yX6_item : MethodName := ⟨RX6, "item", "(IIII)I"⟩
abbrev cX6_clear : ByteArray := prog_1_method_15_code
def yX6_clear : MethodName := ⟨RX6, "clear", "()I"⟩
abbrev cX6_face : ByteArray := prog_1_method_16_code
def yX6_face : MethodName := ⟨RX6, "face", "(III)I"⟩
abbrev cX6_shown : ByteArray := prog_1_method_17_code
def yX6_shown : MethodName := ⟨RX6, "shown", "(II)I"⟩
abbrev cX6_standsFor : ByteArray := prog_1_method_18_code
def yX6_standsFor : MethodName := ⟨RX6, "standsFor", "(II)I"⟩
abbrev cX6_hasSignAndLoci : ByteArray := prog_1_method_19_code
def yX6_hasSignAndLoci : MethodName := ⟨RX6, "hasSignAndLoci", "(IIII)Z"⟩
abbrev cX6_isPossibleItem : ByteArray := prog_1_method_20_code
def yX6_isPossibleItem : MethodName := ⟨RX6, "isPossibleItem", "(IIII)Z"⟩
abbrev cX6_lociStandAsTheyShould : ByteArray := prog_1_method_21_code
def yX6_lociStandAsTheyShould : MethodName := ⟨RX6, "lociStandAsTheyShould", "(IIII)Z"⟩
abbrev cX6_isReferentPlaced : ByteArray := prog_1_method_22_code
def yX6_isReferentPlaced : MethodName := ⟨RX6, "isReferentPlaced", "(I)Z"⟩
abbrev cX6_referentNow : ByteArray := prog_1_method_23_code
def yX6_referentNow : MethodName := ⟨RX6, "referentNow", "(I)I"⟩
abbrev cX6_referentBehind : ByteArray := prog_1_method_24_code
def yX6_referentBehind : MethodName := ⟨RX6, "referentBehind", "(II)I"⟩
abbrev cX6_handsTold : ByteArray := prog_1_method_25_code
def yX6_handsTold : MethodName := ⟨RX6, "handsTold", "(IIII)LHandArchive$Hands;"⟩
abbrev cX6_stillHands : ByteArray := prog_1_method_26_code
def yX6_stillHands : MethodName := ⟨RX6, "stillHands", "(III)LHandArchive$Hands;"⟩
abbrev cX6_isArticulatorBusy : ByteArray := prog_1_method_27_code
def yX6_isArticulatorBusy : MethodName := ⟨RX6, "isArticulatorBusy", "(III)Z"⟩
abbrev cX6_faceShown : ByteArray := prog_1_method_28_code
def yX6_faceShown : MethodName := ⟨RX6, "faceShown", "(II)I"⟩
abbrev cX6_faceOver : ByteArray := prog_1_method_29_code
def yX6_faceOver : MethodName := ⟨RX6, "faceOver", "(II)I"⟩
abbrev cX6_articulatorOf : ByteArray := prog_1_method_30_code
def yX6_articulatorOf : MethodName := ⟨RX6, "articulatorOf", "(I)I"⟩
abbrev cX6_requireItem : ByteArray := prog_1_method_31_code
def yX6_requireItem : MethodName := ⟨RX6, "requireItem", "(I)V"⟩
abbrev cX6_isLocus : ByteArray := prog_1_method_32_code
def yX6_isLocus : MethodName := ⟨RX6, "isLocus", "(I)Z"⟩
abbrev cX6_placeOf : ByteArray := prog_1_method_33_code
def yX6_placeOf : MethodName := ⟨RX6, "placeOf", "(I)I"⟩
abbrev cX6_locusAt : ByteArray := prog_1_method_34_code
def yX6_locusAt : MethodName := ⟨RX6, "locusAt", "(I)I"⟩
abbrev cX6_rule : ByteArray := prog_1_method_35_code
def yX6_rule : MethodName := ⟨RX6, "rule", "(I)I"⟩
abbrev cX6_except : ByteArray := prog_1_method_36_code
def yX6_except : MethodName := ⟨RX6, "except", "(II)Z"⟩
abbrev cX6_applyRules : ByteArray := prog_1_method_37_code
def yX6_applyRules : MethodName := ⟨RX6, "applyRules", "()V"⟩
abbrev cX6_applyRule : ByteArray := prog_1_method_38_code
def yX6_applyRule : MethodName := ⟨RX6, "applyRule", "(LHandArchive$Rule;)V"⟩
abbrev cX6_dropMirrored : ByteArray := prog_1_method_39_code
def yX6_dropMirrored : MethodName := ⟨RX6, "dropMirrored", "(ILHandArchive$Item;)V"⟩
abbrev cX6_hasNoSecond : ByteArray := prog_1_method_40_code
def yX6_hasNoSecond : MethodName := ⟨RX6, "hasNoSecond", "(I)Z"⟩
abbrev cX6_likenShape : ByteArray := prog_1_method_41_code
def yX6_likenShape : MethodName := ⟨RX6, "likenShape", "(ILHandArchive$Item;)V"⟩
abbrev cX6_easeTurn : ByteArray := prog_1_method_42_code
def yX6_easeTurn : MethodName := ⟨RX6, "easeTurn", "(ILHandArchive$Item;)V"⟩
abbrev cX6_swapEnds : ByteArray := prog_1_method_43_code
def yX6_swapEnds : MethodName := ⟨RX6, "swapEnds", "(ILHandArchive$Item;)V"⟩
abbrev cX6_slideLetter : ByteArray := prog_1_method_44_code
def yX6_slideLetter : MethodName := ⟨RX6, "slideLetter", "(ILHandArchive$Item;)V"⟩
abbrev cX6_hasItemAhead : ByteArray := prog_1_method_45_code
def yX6_hasItemAhead : MethodName := ⟨RX6, "hasItemAhead", "(I)Z"⟩
abbrev cX6_signed : ByteArray := prog_1_method_46_code
def yX6_signed : MethodName := ⟨RX6, "signed", "(II)I"⟩
abbrev cX6_at : ByteArray := prog_1_method_47_code
def yX6_at : MethodName := ⟨RX6, "at", "(II)I"⟩
abbrev cX6_readBack : ByteArray := prog_1_method_48_code
def yX6_readBack : MethodName := ⟨RX6, "readBack", "(II)I"⟩
abbrev cX6_signAll : ByteArray := prog_1_method_49_code
def yX6_signAll : MethodName := ⟨RX6, "signAll", "()V"⟩
abbrev cX6_ticksOfPassing : ByteArray := prog_1_method_50_code
def yX6_ticksOfPassing : MethodName := ⟨RX6, "ticksOfPassing", "(LHandArchive$Hands;LHandArchive$Hands;)I"⟩
abbrev cX6_ticksOfItem : ByteArray := prog_1_method_51_code
def yX6_ticksOfItem : MethodName := ⟨RX6, "ticksOfItem", "(LHandArchive$Hands;)I"⟩
abbrev cX6_itemAtTick : ByteArray := prog_1_method_52_code
def yX6_itemAtTick : MethodName := ⟨RX6, "itemAtTick", "(I)I"⟩
abbrev cX6_placeInPassing : ByteArray := prog_1_method_53_code
def yX6_placeInPassing : MethodName := ⟨RX6, "placeInPassing", "(II)I"⟩
abbrev cX6_placeInItem : ByteArray := prog_1_method_54_code
def yX6_placeInItem : MethodName := ⟨RX6, "placeInItem", "(LHandArchive$Item;I)I"⟩
abbrev cX6_turnInItem : ByteArray := prog_1_method_55_code
def yX6_turnInItem : MethodName := ⟨RX6, "turnInItem", "(LHandArchive$Item;I)I"⟩
abbrev cX6_stepsDone : ByteArray := prog_1_method_56_code
def yX6_stepsDone : MethodName := ⟨RX6, "stepsDone", "(LHandArchive$Item;I)I"⟩
abbrev cX6_placeOnWay : ByteArray := prog_1_method_57_code
def yX6_placeOnWay : MethodName := ⟨RX6, "placeOnWay", "(III)I"⟩
abbrev cX6_kindReadBack : ByteArray := prog_1_method_58_code
def yX6_kindReadBack : MethodName := ⟨RX6, "kindReadBack", "(LHandArchive$Item;)I"⟩
abbrev cX6_numberReadBack : ByteArray := prog_1_method_59_code
def yX6_numberReadBack : MethodName := ⟨RX6, "numberReadBack", "(ILHandArchive$Hands;)I"⟩
abbrev cX6_pointingReadBack : ByteArray := prog_1_method_60_code
def yX6_pointingReadBack : MethodName := ⟨RX6, "pointingReadBack", "(LHandArchive$Hands;)I"⟩
abbrev cX6_letterReadBack : ByteArray := prog_1_method_61_code
def yX6_letterReadBack : MethodName := ⟨RX6, "letterReadBack", "(LHandArchive$Hands;)I"⟩
abbrev cX6_take : ByteArray := prog_1_method_62_code
def yX6_take : MethodName := ⟨RX6, "take", "(I)I"⟩
abbrev cX6_make : ByteArray := prog_1_method_63_code
def yX6_make : MethodName := ⟨RX6, "make", "(III)I"⟩
abbrev cX6_allow : ByteArray := prog_1_method_64_code
def yX6_allow : MethodName := ⟨RX6, "allow", "(IIZ)I"⟩
abbrev cX6_withdraw : ByteArray := prog_1_method_65_code
def yX6_withdraw : MethodName := ⟨RX6, "withdraw", "(I)I"⟩
abbrev cX6_persons : ByteArray := prog_1_method_66_code
def yX6_persons : MethodName := ⟨RX6, "persons", "(I)I"⟩
abbrev cX6_mark : ByteArray := prog_1_method_67_code
def yX6_mark : MethodName := ⟨RX6, "mark", "(IIIIII)I"⟩
abbrev cX6_agree : ByteArray := prog_1_method_68_code
def yX6_agree : MethodName := ⟨RX6, "agree", "(IIIII)I"⟩
abbrev cX6_keepClip : ByteArray := prog_1_method_69_code
def yX6_keepClip : MethodName := ⟨RX6, "keepClip", "(LHandArchive$Clip;)I"⟩
abbrev cX6_letGo : ByteArray := prog_1_method_70_code
def yX6_letGo : MethodName := ⟨RX6, "letGo", "(II)I"⟩
abbrev cX6_countTicksAlike : ByteArray := prog_1_method_71_code
def yX6_countTicksAlike : MethodName := ⟨RX6, "countTicksAlike", "()I"⟩
abbrev cX6_countTicksWithValue : ByteArray := prog_1_method_72_code
def yX6_countTicksWithValue : MethodName := ⟨RX6, "countTicksWithValue", "()I"⟩
abbrev cX6_countMarksShared : ByteArray := prog_1_method_73_code
def yX6_countMarksShared : MethodName := ⟨RX6, "countMarksShared", "(LHandArchive$Clip;II)I"⟩
abbrev cX6_requireClip : ByteArray := prog_1_method_74_code
def yX6_requireClip : MethodName := ⟨RX6, "requireClip", "(I)V"⟩
abbrev cX6_requirePerson : ByteArray := prog_1_method_75_code
def yX6_requirePerson : MethodName := ⟨RX6, "requirePerson", "(I)V"⟩
abbrev cX6_requirePurpose : ByteArray := prog_1_method_76_code
def yX6_requirePurpose : MethodName := ⟨RX6, "requirePurpose", "(I)V"⟩
abbrev cX6_requireCoder : ByteArray := prog_1_method_77_code
def yX6_requireCoder : MethodName := ⟨RX6, "requireCoder", "(I)V"⟩
abbrev cX6_requireTier : ByteArray := prog_1_method_78_code
def yX6_requireTier : MethodName := ⟨RX6, "requireTier", "(I)V"⟩
abbrev cX6_isBelow : ByteArray := prog_1_method_79_code
def yX6_isBelow : MethodName := ⟨RX6, "isBelow", "(II)Z"⟩
abbrev cX6_rowOf : ByteArray := prog_1_method_80_code
def yX6_rowOf : MethodName := ⟨RX6, "rowOf", "(I)I"⟩
abbrev cX6_columnOf : ByteArray := prog_1_method_81_code
def yX6_columnOf : MethodName := ⟨RX6, "columnOf", "(I)I"⟩
abbrev cX6_distance : ByteArray := prog_1_method_82_code
def yX6_distance : MethodName := ⟨RX6, "distance", "(II)I"⟩
abbrev cX6_direction : ByteArray := prog_1_method_83_code
def yX6_direction : MethodName := ⟨RX6, "direction", "(II)I"⟩
def RX7 : String := "HandArchiveModel"
def TX7 : u_T := fun k => match k with
  | 0 => ("HandArchiveModel", "signs", "I", false)
  | 1 => ("HandArchiveModel", "told", "[I", true)
  | 2 => ("HandArchiveModel", "items", "I", false)
  | 3 => ("HandArchiveModel", "kinds", "[I", true)
  | 4 => ("HandArchiveModel", "ones", "[I", true)
  | 5 => ("HandArchiveModel", "others", "[I", true)
  | 6 => ("HandArchiveModel", "lasts", "[I", true)
  | 7 => ("HandArchiveModel", "stands", "[I", true)
  | 8 => ("HandArchiveModel", "faces", "I", false)
  | 9 => ("HandArchiveModel", "face", "[I", true)
  | 10 => ("HandArchiveModel", "faceFrom", "[I", true)
  | 11 => ("HandArchiveModel", "faceTo", "[I", true)
  | 12 => ("HandArchiveModel", "rules", "I", false)
  | 13 => ("HandArchiveModel", "rule", "[I", true)
  | 14 => ("HandArchiveModel", "excepted", "[I", true)
  | 15 => ("HandArchiveModel", "clips", "I", false)
  | 16 => ("HandArchiveModel", "gone", "[Z", true)
  | 17 => ("HandArchiveModel", "taken", "[I", true)
  | 18 => ("HandArchiveModel", "purpose", "[I", true)
  | 19 => ("HandArchiveModel", "parent", "[I", true)
  | 20 => ("HandArchiveModel", "second", "[I", true)
  | 21 => ("HandArchiveModel", "allowed", "[I", true)
  | 22 => ("HandArchiveModel", "ticks", "[I", true)
  | 23 => ("HandArchiveModel", "marks", "[I", true)
  | 24 => ("HandArchiveModel", "markFrom", "[I", true)
  | 25 => ("HandArchiveModel", "markTo", "[I", true)
  | 26 => ("HandArchiveModel", "hands", "[I", true)
  | _ => ("HandArchiveModel", "thrown", "I", false)
def tyX7 : Nat → FieldType := fun k => match k with
  | 0 => .int
  | 1 => .array .int
  | 2 => .int
  | 3 => .array .int
  | 4 => .array .int
  | 5 => .array .int
  | 6 => .array .int
  | 7 => .array .int
  | 8 => .int
  | 9 => .array .int
  | 10 => .array .int
  | 11 => .array .int
  | 12 => .int
  | 13 => .array .int
  | 14 => .array .int
  | 15 => .int
  | 16 => .array .boolean
  | 17 => .array .int
  | 18 => .array .int
  | 19 => .array .int
  | 20 => .array .int
  | 21 => .array .int
  | 22 => .array .int
  | 23 => .array .int
  | 24 => .array .int
  | 25 => .array .int
  | 26 => .array .int
  | _ => .int
theorem nmX7 : ∀ a, a < 28 → ∀ b, b < 28 → a ≠ b → (TX7 a).2.1 ≠ (TX7 b).2.1 := by decide +kernel
theorem tyX7_ok : ∀ k, k < 28 → parseFieldDescriptor (TX7 k).2.2.1 = some (tyX7 k) := by decide +kernel
abbrev cX7_init : ByteArray := prog_9_method_1_code
def yX7_init : MethodName := ⟨RX7, "<init>", "()V"⟩
abbrev cX7_thrown : ByteArray := prog_9_method_2_code
def yX7_thrown : MethodName := ⟨RX7, "thrown", "()I"⟩
abbrev cX7_isIn : ByteArray := prog_9_method_3_code
def yX7_isIn : MethodName := ⟨RX7, "isIn", "(III)Z"⟩
abbrev cX7_size : ByteArray := prog_9_method_4_code
def yX7_size : MethodName := ⟨RX7, "size", "(I)I"⟩
abbrev cX7_distance : ByteArray := prog_9_method_5_code
def yX7_distance : MethodName := ⟨RX7, "distance", "(II)I"⟩
abbrev cX7_placeOf : ByteArray := prog_9_method_6_code
def yX7_placeOf : MethodName := ⟨RX7, "placeOf", "(I)I"⟩
abbrev cX7_isSign : ByteArray := prog_9_method_7_code
def yX7_isSign : MethodName := ⟨RX7, "isSign", "(I)Z"⟩
abbrev cX7_isItem : ByteArray := prog_9_method_8_code
def yX7_isItem : MethodName := ⟨RX7, "isItem", "(I)Z"⟩
abbrev cX7_isLocus : ByteArray := prog_9_method_9_code
def yX7_isLocus : MethodName := ⟨RX7, "isLocus", "(I)Z"⟩
abbrev cX7_areAlike : ByteArray := prog_9_method_10_code
def yX7_areAlike : MethodName := ⟨RX7, "areAlike", "(II)Z"⟩
abbrev cX7_sign : ByteArray := prog_9_method_11_code
def yX7_sign : MethodName := ⟨RX7, "sign", "(IIIIIII)I"⟩
abbrev cX7_unlike : ByteArray := prog_9_method_12_code
def yX7_unlike : MethodName := ⟨RX7, "unlike", "(II)I"⟩
abbrev cX7_nearest : ByteArray := prog_9_method_13_code
def yX7_nearest : MethodName := ⟨RX7, "nearest", "(II)I"⟩
abbrev cX7_way : ByteArray := prog_9_method_14_code
def yX7_way : MethodName := ⟨RX7, "way", "(II)I"⟩
abbrev cX7_writes : ByteArray := prog_9_method_15_code
def yX7_writes : MethodName := ⟨RX7, "writes", "(II)I"⟩
abbrev cX7_written : ByteArray := prog_9_method_16_code
def yX7_written : MethodName := ⟨RX7, "written", "(II)I"⟩
abbrev cX7_loses : ByteArray := prog_9_method_17_code
def yX7_loses : MethodName := ⟨RX7, "loses", "(II)I"⟩
abbrev cX7_isFor : ByteArray := prog_9_method_18_code
def yX7_isFor : MethodName := ⟨RX7, "isFor", "(I)Z"⟩
abbrev cX7_itemThrown : ByteArray := prog_9_method_19_code
def yX7_itemThrown : MethodName := ⟨RX7, "itemThrown", "(IIII)I"⟩
abbrev cX7_item : ByteArray := prog_9_method_20_code
def yX7_item : MethodName := ⟨RX7, "item", "(IIII)I"⟩
abbrev cX7_clear : ByteArray := prog_9_method_21_code
def yX7_clear : MethodName := ⟨RX7, "clear", "()I"⟩
abbrev cX7_articulatorOf : ByteArray := prog_9_method_22_code
def yX7_articulatorOf : MethodName := ⟨RX7, "articulatorOf", "(I)I"⟩
abbrev cX7_face : ByteArray := prog_9_method_23_code
def yX7_face : MethodName := ⟨RX7, "face", "(III)I"⟩
abbrev cX7_over : ByteArray := prog_9_method_24_code
def yX7_over : MethodName := ⟨RX7, "over", "(II)I"⟩
abbrev cX7_isPointing : ByteArray := prog_9_method_25_code
def yX7_isPointing : MethodName := ⟨RX7, "isPointing", "(I)Z"⟩
abbrev cX7_shownAt : ByteArray := prog_9_method_26_code
def yX7_shownAt : MethodName := ⟨RX7, "shownAt", "(II)I"⟩
abbrev cX7_shown : ByteArray := prog_9_method_27_code
def yX7_shown : MethodName := ⟨RX7, "shown", "(II)I"⟩
abbrev cX7_standsFor : ByteArray := prog_9_method_28_code
def yX7_standsFor : MethodName := ⟨RX7, "standsFor", "(II)I"⟩
abbrev cX7_rule : ByteArray := prog_9_method_29_code
def yX7_rule : MethodName := ⟨RX7, "rule", "(I)I"⟩
abbrev cX7_except : ByteArray := prog_9_method_30_code
def yX7_except : MethodName := ⟨RX7, "except", "(II)Z"⟩
abbrev cX7_hand : ByteArray := prog_9_method_31_code
def yX7_hand : MethodName := ⟨RX7, "hand", "(II)I"⟩
abbrev cX7_gives : ByteArray := prog_9_method_32_code
def yX7_gives : MethodName := ⟨RX7, "gives", "(III)V"⟩
abbrev cX7_begins : ByteArray := prog_9_method_33_code
def yX7_begins : MethodName := ⟨RX7, "begins", "(I)V"⟩
abbrev cX7_isExcepted : ByteArray := prog_9_method_34_code
def yX7_isExcepted : MethodName := ⟨RX7, "isExcepted", "(II)Z"⟩
abbrev cX7_isBare : ByteArray := prog_9_method_35_code
def yX7_isBare : MethodName := ⟨RX7, "isBare", "(I)Z"⟩
abbrev cX7_changes : ByteArray := prog_9_method_36_code
def yX7_changes : MethodName := ⟨RX7, "changes", "(II)V"⟩
abbrev cX7_rulesGo : ByteArray := prog_9_method_37_code
def yX7_rulesGo : MethodName := ⟨RX7, "rulesGo", "()V"⟩
abbrev cX7_moves : ByteArray := prog_9_method_38_code
def yX7_moves : MethodName := ⟨RX7, "moves", "(I)Z"⟩
abbrev cX7_least : ByteArray := prog_9_method_39_code
def yX7_least : MethodName := ⟨RX7, "least", "(I)I"⟩
abbrev cX7_takes : ByteArray := prog_9_method_40_code
def yX7_takes : MethodName := ⟨RX7, "takes", "(I)I"⟩
abbrev cX7_passes : ByteArray := prog_9_method_41_code
def yX7_passes : MethodName := ⟨RX7, "passes", "(I)I"⟩
abbrev cX7_beginning : ByteArray := prog_9_method_42_code
def yX7_beginning : MethodName := ⟨RX7, "beginning", "(I)I"⟩
abbrev cX7_signed : ByteArray := prog_9_method_43_code
def yX7_signed : MethodName := ⟨RX7, "signed", "(II)I"⟩
abbrev cX7_along : ByteArray := prog_9_method_44_code
def yX7_along : MethodName := ⟨RX7, "along", "(III)I"⟩
abbrev cX7_at : ByteArray := prog_9_method_45_code
def yX7_at : MethodName := ⟨RX7, "at", "(II)I"⟩
abbrev cX7_isJust : ByteArray := prog_9_method_46_code
def yX7_isJust : MethodName := ⟨RX7, "isJust", "(II)Z"⟩
abbrev cX7_read : ByteArray := prog_9_method_47_code
def yX7_read : MethodName := ⟨RX7, "read", "(I)I"⟩
abbrev cX7_readBack : ByteArray := prog_9_method_48_code
def yX7_readBack : MethodName := ⟨RX7, "readBack", "(II)I"⟩
abbrev cX7_isClip : ByteArray := prog_9_method_49_code
def yX7_isClip : MethodName := ⟨RX7, "isClip", "(I)Z"⟩
abbrev cX7_comesFrom : ByteArray := prog_9_method_50_code
def yX7_comesFrom : MethodName := ⟨RX7, "comesFrom", "(I)I"⟩
abbrev cX7_adds : ByteArray := prog_9_method_51_code
def yX7_adds : MethodName := ⟨RX7, "adds", "(IIII)I"⟩
abbrev cX7_take : ByteArray := prog_9_method_52_code
def yX7_take : MethodName := ⟨RX7, "take", "(I)I"⟩
abbrev cX7_make : ByteArray := prog_9_method_53_code
def yX7_make : MethodName := ⟨RX7, "make", "(III)I"⟩
abbrev cX7_goes : ByteArray := prog_9_method_54_code
def yX7_goes : MethodName := ⟨RX7, "goes", "(II)I"⟩
abbrev cX7_allow : ByteArray := prog_9_method_55_code
def yX7_allow : MethodName := ⟨RX7, "allow", "(IIZ)I"⟩
abbrev cX7_withdraw : ByteArray := prog_9_method_56_code
def yX7_withdraw : MethodName := ⟨RX7, "withdraw", "(I)I"⟩
abbrev cX7_persons : ByteArray := prog_9_method_57_code
def yX7_persons : MethodName := ⟨RX7, "persons", "(I)I"⟩
abbrev cX7_areTold : ByteArray := prog_9_method_58_code
def yX7_areTold : MethodName := ⟨RX7, "areTold", "(II)Z"⟩
abbrev cX7_row : ByteArray := prog_9_method_59_code
def yX7_row : MethodName := ⟨RX7, "row", "(III)I"⟩
abbrev cX7_mark : ByteArray := prog_9_method_60_code
def yX7_mark : MethodName := ⟨RX7, "mark", "(IIIIII)I"⟩
abbrev cX7_agree : ByteArray := prog_9_method_61_code
def yX7_agree : MethodName := ⟨RX7, "agree", "(IIIII)I"⟩
def RJx145de : String := "java/io/Serializable"
def TJx145de : u_T := fun k => match k with
  | _ => ("", "", "", false)
def tyJx145de : Nat → FieldType := fun k => match k with
  | _ => .int
theorem nmJx145de : ∀ a, a < 0 → ∀ b, b < 0 → a ≠ b → (TJx145de a).2.1 ≠ (TJx145de b).2.1 := by decide +kernel
theorem tyJx145de_ok : ∀ k, k < 0 → parseFieldDescriptor (TJx145de k).2.2.1 = some (tyJx145de k) := by decide +kernel
def RJx8e188 : String := "java/lang/Cloneable"
def TJx8e188 : u_T := fun k => match k with
  | _ => ("", "", "", false)
def tyJx8e188 : Nat → FieldType := fun k => match k with
  | _ => .int
theorem nmJx8e188 : ∀ a, a < 0 → ∀ b, b < 0 → a ≠ b → (TJx8e188 a).2.1 ≠ (TJx8e188 b).2.1 := by decide +kernel
theorem tyJx8e188_ok : ∀ k, k < 0 → parseFieldDescriptor (TJx8e188 k).2.2.1 = some (tyJx8e188 k) := by decide +kernel
def RJxab1ab : String := "java/lang/Iterable"
def TJxab1ab : u_T := fun k => match k with
  | _ => ("", "", "", false)
def tyJxab1ab : Nat → FieldType := fun k => match k with
  | _ => .int
theorem nmJxab1ab : ∀ a, a < 0 → ∀ b, b < 0 → a ≠ b → (TJxab1ab a).2.1 ≠ (TJxab1ab b).2.1 := by decide +kernel
theorem tyJxab1ab_ok : ∀ k, k < 0 → parseFieldDescriptor (TJxab1ab k).2.2.1 = some (tyJxab1ab k) := by decide +kernel
def RJ9 : String := "java/lang/Math"
def TJ9 : u_T := fun k => match k with
  | _ => ("", "", "", false)
def tyJ9 : Nat → FieldType := fun k => match k with
  | _ => .int
theorem nmJ9 : ∀ a, a < 0 → ∀ b, b < 0 → a ≠ b → (TJ9 a).2.1 ≠ (TJ9 b).2.1 := by decide +kernel
theorem tyJ9_ok : ∀ k, k < 0 → parseFieldDescriptor (TJ9 k).2.2.1 = some (tyJ9 k) := by decide +kernel
abbrev cJ9_abs_0f7a4 : ByteArray := prog_17_method_59_code
def yJ9_abs_0f7a4 : MethodName := ⟨RJ9, "abs", "(I)I"⟩
abbrev cJ9_max_7cf53 : ByteArray := prog_17_method_65_code
def yJ9_max_7cf53 : MethodName := ⟨RJ9, "max", "(II)I"⟩
abbrev cJ9_min_7cf53 : ByteArray := prog_17_method_69_code
def yJ9_min_7cf53 : MethodName := ⟨RJ9, "min", "(II)I"⟩
def RJ0 : String := "java/lang/String"
def TJ0 : u_T := fun k => match k with
  | _ => ("", "", "", false)
def tyJ0 : Nat → FieldType := fun k => match k with
  | _ => .int
theorem nmJ0 : ∀ a, a < 0 → ∀ b, b < 0 → a ≠ b → (TJ0 a).2.1 ≠ (TJ0 b).2.1 := by decide +kernel
theorem tyJ0_ok : ∀ k, k < 0 → parseFieldDescriptor (TJ0 k).2.2.1 = some (tyJ0 k) := by decide +kernel
def RJ10 : String := "java/lang/System"
def TJ10 : u_T := fun k => match k with
  | _ => ("", "", "", false)
def tyJ10 : Nat → FieldType := fun k => match k with
  | _ => .int
theorem nmJ10 : ∀ a, a < 0 → ∀ b, b < 0 → a ≠ b → (TJ10 a).2.1 ≠ (TJ10 b).2.1 := by decide +kernel
theorem tyJ10_ok : ∀ k, k < 0 → parseFieldDescriptor (TJ10 k).2.2.1 = some (tyJ10 k) := by decide +kernel
def RJxa1e45 : String := "java/util/AbstractCollection"
def TJxa1e45 : u_T := fun k => match k with
  | _ => ("", "", "", false)
def tyJxa1e45 : Nat → FieldType := fun k => match k with
  | _ => .int
theorem nmJxa1e45 : ∀ a, a < 0 → ∀ b, b < 0 → a ≠ b → (TJxa1e45 a).2.1 ≠ (TJxa1e45 b).2.1 := by decide +kernel
theorem tyJxa1e45_ok : ∀ k, k < 0 → parseFieldDescriptor (TJxa1e45 k).2.2.1 = some (tyJxa1e45 k) := by decide +kernel
abbrev cJxa1e45_init_da8c8 : ByteArray := prog_22_method_1_code
def yJxa1e45_init_da8c8 : MethodName := ⟨RJxa1e45, "<init>", "()V"⟩
def RJxc12de : String := "java/util/AbstractList"
def TJxc12de : u_T := fun k => match k with
  | _ => ("", "", "", false)
def tyJxc12de : Nat → FieldType := fun k => match k with
  | _ => .int
theorem nmJxc12de : ∀ a, a < 0 → ∀ b, b < 0 → a ≠ b → (TJxc12de a).2.1 ≠ (TJxc12de b).2.1 := by decide +kernel
theorem tyJxc12de_ok : ∀ k, k < 0 → parseFieldDescriptor (TJxc12de k).2.2.1 = some (tyJxc12de k) := by decide +kernel
abbrev cJxc12de_init_da8c8 : ByteArray := prog_23_method_1_code
def yJxc12de_init_da8c8 : MethodName := ⟨RJxc12de, "<init>", "()V"⟩
def RJx4a65c : String := "java/util/ArrayList"
def TJx4a65c : u_T := fun k => match k with
  | 0 => ("java/util/AbstractList", "modCount", "I", false)
  | 1 => ("java/util/ArrayList", "elementData", "[Ljava/lang/Object;", false)
  | _ => ("java/util/ArrayList", "size", "I", false)
def tyJx4a65c : Nat → FieldType := fun k => match k with
  | 0 => .int
  | 1 => .array (.object "java/lang/Object")
  | _ => .int
theorem nmJx4a65c : ∀ a, a < 3 → ∀ b, b < 3 → a ≠ b → (TJx4a65c a).2.1 ≠ (TJx4a65c b).2.1 := by decide +kernel
theorem tyJx4a65c_ok : ∀ k, k < 3 → parseFieldDescriptor (TJx4a65c k).2.2.1 = some (tyJx4a65c k) := by decide +kernel
abbrev cJx4a65c_init_da8c8 : ByteArray := prog_24_method_2_code
def yJx4a65c_init_da8c8 : MethodName := ⟨RJx4a65c, "<init>", "()V"⟩
abbrev cJx4a65c_grow_92f84 : ByteArray := prog_24_method_6_code
def yJx4a65c_grow_92f84 : MethodName := ⟨RJx4a65c, "grow", "(I)[Ljava/lang/Object;"⟩
abbrev cJx4a65c_grow_d5877 : ByteArray := prog_24_method_7_code
def yJx4a65c_grow_d5877 : MethodName := ⟨RJx4a65c, "grow", "()[Ljava/lang/Object;"⟩
abbrev cJx4a65c_size_8abf5 : ByteArray := prog_24_method_8_code
def yJx4a65c_size_8abf5 : MethodName := ⟨RJx4a65c, "size", "()I"⟩
abbrev cJx4a65c_elementData_915e3 : ByteArray := prog_24_method_18_code
def yJx4a65c_elementData_915e3 : MethodName := ⟨RJx4a65c, "elementData", "(I)Ljava/lang/Object;"⟩
abbrev cJx4a65c_get_915e3 : ByteArray := prog_24_method_20_code
def yJx4a65c_get_915e3 : MethodName := ⟨RJx4a65c, "get", "(I)Ljava/lang/Object;"⟩
abbrev cJx4a65c_add_72be8 : ByteArray := prog_24_method_24_code
def yJx4a65c_add_72be8 : MethodName := ⟨RJx4a65c, "add", "(Ljava/lang/Object;[Ljava/lang/Object;I)V"⟩
abbrev cJx4a65c_add_9ea2d : ByteArray := prog_24_method_25_code
def yJx4a65c_add_9ea2d : MethodName := ⟨RJx4a65c, "add", "(Ljava/lang/Object;)Z"⟩
abbrev cJx4a65c_clear_da8c8 : ByteArray := prog_24_method_40_code
def yJx4a65c_clear_da8c8 : MethodName := ⟨RJx4a65c, "clear", "()V"⟩
def RJ7 : String := "java/util/Arrays"
def TJ7 : u_T := fun k => match k with
  | _ => ("", "", "", false)
def tyJ7 : Nat → FieldType := fun k => match k with
  | _ => .int
theorem nmJ7 : ∀ a, a < 0 → ∀ b, b < 0 → a ≠ b → (TJ7 a).2.1 ≠ (TJ7 b).2.1 := by decide +kernel
theorem tyJ7_ok : ∀ k, k < 0 → parseFieldDescriptor (TJ7 k).2.2.1 = some (tyJ7 k) := by decide +kernel
abbrev cJ7_copyOf_1904c : ByteArray := prog_25_method_119_code
def yJ7_copyOf_1904c : MethodName := ⟨RJ7, "copyOf", "([Ljava/lang/Object;I)[Ljava/lang/Object;"⟩
abbrev cJ7_copyOf_6403c : ByteArray := prog_25_method_120_code
def yJ7_copyOf_6403c : MethodName := ⟨RJ7, "copyOf", "([Ljava/lang/Object;ILjava/lang/Class;)[Ljava/lang/Object;"⟩
def RJx5ef63 : String := "java/util/Collection"
def TJx5ef63 : u_T := fun k => match k with
  | _ => ("", "", "", false)
def tyJx5ef63 : Nat → FieldType := fun k => match k with
  | _ => .int
theorem nmJx5ef63 : ∀ a, a < 0 → ∀ b, b < 0 → a ≠ b → (TJx5ef63 a).2.1 ≠ (TJx5ef63 b).2.1 := by decide +kernel
theorem tyJx5ef63_ok : ∀ k, k < 0 → parseFieldDescriptor (TJx5ef63 k).2.2.1 = some (tyJx5ef63 k) := by decide +kernel
def RJxbd725 : String := "java/util/List"
def TJxbd725 : u_T := fun k => match k with
  | _ => ("", "", "", false)
def tyJxbd725 : Nat → FieldType := fun k => match k with
  | _ => .int
theorem nmJxbd725 : ∀ a, a < 0 → ∀ b, b < 0 → a ≠ b → (TJxbd725 a).2.1 ≠ (TJxbd725 b).2.1 := by decide +kernel
theorem tyJxbd725_ok : ∀ k, k < 0 → parseFieldDescriptor (TJxbd725 k).2.2.1 = some (tyJxbd725 k) := by decide +kernel
def RJ15 : String := "java/util/Objects"
def TJ15 : u_T := fun k => match k with
  | _ => ("", "", "", false)
def tyJ15 : Nat → FieldType := fun k => match k with
  | _ => .int
theorem nmJ15 : ∀ a, a < 0 → ∀ b, b < 0 → a ≠ b → (TJ15 a).2.1 ≠ (TJ15 b).2.1 := by decide +kernel
theorem tyJ15_ok : ∀ k, k < 0 → parseFieldDescriptor (TJ15 k).2.2.1 = some (tyJ15 k) := by decide +kernel
abbrev cJ15_checkIndex_7cf53 : ByteArray := prog_28_method_17_code
def yJ15_checkIndex_7cf53 : MethodName := ⟨RJ15, "checkIndex", "(II)I"⟩
def RJxf0a74 : String := "java/util/RandomAccess"
def TJxf0a74 : u_T := fun k => match k with
  | _ => ("", "", "", false)
def tyJxf0a74 : Nat → FieldType := fun k => match k with
  | _ => .int
theorem nmJxf0a74 : ∀ a, a < 0 → ∀ b, b < 0 → a ≠ b → (TJxf0a74 a).2.1 ≠ (TJxf0a74 b).2.1 := by decide +kernel
theorem tyJxf0a74_ok : ∀ k, k < 0 → parseFieldDescriptor (TJxf0a74 k).2.2.1 = some (tyJxf0a74 k) := by decide +kernel
def RJxa66e6 : String := "java/util/SequencedCollection"
def TJxa66e6 : u_T := fun k => match k with
  | _ => ("", "", "", false)
def tyJxa66e6 : Nat → FieldType := fun k => match k with
  | _ => .int
theorem nmJxa66e6 : ∀ a, a < 0 → ∀ b, b < 0 → a ≠ b → (TJxa66e6 a).2.1 ≠ (TJxa66e6 b).2.1 := by decide +kernel
theorem tyJxa66e6_ok : ∀ k, k < 0 → parseFieldDescriptor (TJxa66e6 k).2.2.1 = some (tyJxa66e6 k) := by decide +kernel
def RJ8 : String := "jdk/internal/util/ArraysSupport"
def TJ8 : u_T := fun k => match k with
  | _ => ("", "", "", false)
def tyJ8 : Nat → FieldType := fun k => match k with
  | _ => .int
theorem nmJ8 : ∀ a, a < 0 → ∀ b, b < 0 → a ≠ b → (TJ8 a).2.1 ≠ (TJ8 b).2.1 := by decide +kernel
theorem tyJ8_ok : ∀ k, k < 0 → parseFieldDescriptor (TJ8 k).2.2.1 = some (tyJ8 k) := by decide +kernel
abbrev cJ8_newLength_cabcc : ByteArray := prog_31_method_27_code
def yJ8_newLength_cabcc : MethodName := ⟨RJ8, "newLength", "(III)I"⟩
abbrev cJ8_hugeLength_7cf53 : ByteArray := prog_31_method_28_code
def yJ8_hugeLength_7cf53 : MethodName := ⟨RJ8, "hugeLength", "(II)I"⟩
def RJ3 : String := "jdk/internal/util/Preconditions"
def TJ3 : u_T := fun k => match k with
  | _ => ("", "", "", false)
def tyJ3 : Nat → FieldType := fun k => match k with
  | _ => .int
theorem nmJ3 : ∀ a, a < 0 → ∀ b, b < 0 → a ≠ b → (TJ3 a).2.1 ≠ (TJ3 b).2.1 := by decide +kernel
theorem tyJ3_ok : ∀ k, k < 0 → parseFieldDescriptor (TJ3 k).2.2.1 = some (tyJ3 k) := by decide +kernel
abbrev cJ3_checkIndex_8e157 : ByteArray := prog_32_method_11_code
def yJ3_checkIndex_8e157 : MethodName := ⟨RJ3, "checkIndex", "(IILjava/util/function/BiFunction;)I"⟩
def RL : String := "HandArchiveLaw"
abbrev cL_sign : ByteArray := method_3_code
def yL_sign : MethodName := ⟨RL, "sign", "(LHandArchive;IIIIIII[J)I"⟩
abbrev cL_nearest : ByteArray := method_4_code
def yL_nearest : MethodName := ⟨RL, "nearest", "(LHandArchive;II[J)I"⟩
abbrev cL_written : ByteArray := method_5_code
def yL_written : MethodName := ⟨RL, "written", "(LHandArchive;II[J)I"⟩
abbrev cL_loses : ByteArray := method_6_code
def yL_loses : MethodName := ⟨RL, "loses", "(LHandArchive;II[J)I"⟩
abbrev cL_item : ByteArray := method_7_code
def yL_item : MethodName := ⟨RL, "item", "(LHandArchive;IIII[J)I"⟩
abbrev cL_face : ByteArray := method_8_code
def yL_face : MethodName := ⟨RL, "face", "(LHandArchive;III[J)I"⟩
abbrev cL_shown : ByteArray := method_9_code
def yL_shown : MethodName := ⟨RL, "shown", "(LHandArchive;II[J)I"⟩
abbrev cL_standsFor : ByteArray := method_10_code
def yL_standsFor : MethodName := ⟨RL, "standsFor", "(LHandArchive;II[J)I"⟩
abbrev cL_rule : ByteArray := method_11_code
def yL_rule : MethodName := ⟨RL, "rule", "(LHandArchive;I[J)I"⟩
abbrev cL_except : ByteArray := method_12_code
def yL_except : MethodName := ⟨RL, "except", "(LHandArchive;II[J)I"⟩
abbrev cL_signed : ByteArray := method_13_code
def yL_signed : MethodName := ⟨RL, "signed", "(LHandArchive;II[J)I"⟩
abbrev cL_at : ByteArray := method_14_code
def yL_at : MethodName := ⟨RL, "at", "(LHandArchive;II[J)I"⟩
abbrev cL_readBack : ByteArray := method_15_code
def yL_readBack : MethodName := ⟨RL, "readBack", "(LHandArchive;II[J)I"⟩
abbrev cL_take : ByteArray := method_16_code
def yL_take : MethodName := ⟨RL, "take", "(LHandArchive;I[J)I"⟩
abbrev cL_make : ByteArray := method_17_code
def yL_make : MethodName := ⟨RL, "make", "(LHandArchive;III[J)I"⟩
abbrev cL_allow : ByteArray := method_18_code
def yL_allow : MethodName := ⟨RL, "allow", "(LHandArchive;IIZ[J)I"⟩
abbrev cL_withdraw : ByteArray := method_19_code
def yL_withdraw : MethodName := ⟨RL, "withdraw", "(LHandArchive;I[J)I"⟩
abbrev cL_persons : ByteArray := method_20_code
def yL_persons : MethodName := ⟨RL, "persons", "(LHandArchive;I[J)I"⟩
abbrev cL_mark : ByteArray := method_21_code
def yL_mark : MethodName := ⟨RL, "mark", "(LHandArchive;IIIIII[J)I"⟩
abbrev cL_agree : ByteArray := method_22_code
def yL_agree : MethodName := ⟨RL, "agree", "(LHandArchive;IIIII[J)I"⟩
abbrev cL_law : ByteArray := code
def yL_law : MethodName := ⟨RL, "law", "([I)Z"⟩
end
section
theorem dX0_init_0 : decode cX0_init 0 = .ok (.aload_n 0, 1) := by decide +kernel
theorem dX0_init_1 : decode cX0_init 1 = .ok (.invokespecial 3, 3) := by decide +kernel
theorem dX0_init_4 : decode cX0_init 4 = .ok (.aload_n 0, 1) := by decide +kernel
theorem dX0_init_5 : decode cX0_init 5 = .ok (.iload_n 1, 1) := by decide +kernel
theorem dX0_init_6 : decode cX0_init 6 = .ok (.putfield 9, 3) := by decide +kernel
theorem dX0_init_9 : decode cX0_init 9 = .ok (.aload_n 0, 1) := by decide +kernel
theorem dX0_init_10 : decode cX0_init 10 = .ok (.iload_n 2, 1) := by decide +kernel
theorem dX0_init_11 : decode cX0_init 11 = .ok (.putfield 15, 3) := by decide +kernel
theorem dX0_init_14 : decode cX0_init 14 = .ok (.aload_n 0, 1) := by decide +kernel
theorem dX0_init_15 : decode cX0_init 15 = .ok (.aload_n 3, 1) := by decide +kernel
theorem dX0_init_16 : decode cX0_init 16 = .ok (.putfield 18, 3) := by decide +kernel
theorem dX0_init_19 : decode cX0_init 19 = .ok (.aload_n 0, 1) := by decide +kernel
theorem dX0_init_20 : decode cX0_init 20 = .ok (.aload 4, 2) := by decide +kernel
theorem dX0_init_22 : decode cX0_init 22 = .ok (.putfield 22, 3) := by decide +kernel
theorem dX0_init_25 : decode cX0_init 25 = .ok (.aload_n 0, 1) := by decide +kernel
theorem dX0_init_26 : decode cX0_init 26 = .ok (.new 25, 3) := by decide +kernel
theorem dX0_init_29 : decode cX0_init 29 = .ok (.dup, 1) := by decide +kernel
theorem dX0_init_30 : decode cX0_init 30 = .ok (.invokespecial 27, 3) := by decide +kernel
theorem dX0_init_33 : decode cX0_init 33 = .ok (.putfield 28, 3) := by decide +kernel
theorem dX0_init_36 : decode cX0_init 36 = .ok (.return_, 1) := by decide +kernel
theorem dX0_comesFrom_0 : decode cX0_comesFrom 0 = .ok (.aload_n 0, 1) := by decide +kernel
theorem dX0_comesFrom_1 : decode cX0_comesFrom 1 = .ok (.getfield 9, 3) := by decide +kernel
theorem dX0_comesFrom_4 : decode cX0_comesFrom 4 = .ok (.iload_n 1, 1) := by decide +kernel
theorem dX0_comesFrom_5 : decode cX0_comesFrom 5 = .ok (.ishr, 1) := by decide +kernel
theorem dX0_comesFrom_6 : decode cX0_comesFrom 6 = .ok (.iconst 1, 1) := by decide +kernel
theorem dX0_comesFrom_7 : decode cX0_comesFrom 7 = .ok (.iand, 1) := by decide +kernel
theorem dX0_comesFrom_8 : decode cX0_comesFrom 8 = .ok (.iconst 1, 1) := by decide +kernel
theorem dX0_comesFrom_9 : decode cX0_comesFrom 9 = .ok (.if_icmp .ne 7, 3) := by decide +kernel
theorem dX0_comesFrom_12 : decode cX0_comesFrom 12 = .ok (.iconst 1, 1) := by decide +kernel
theorem dX0_comesFrom_13 : decode cX0_comesFrom 13 = .ok (.goto 4, 3) := by decide +kernel
theorem dX0_comesFrom_16 : decode cX0_comesFrom 16 = .ok (.iconst 0, 1) := by decide +kernel
theorem dX0_comesFrom_17 : decode cX0_comesFrom 17 = .ok (.ireturn, 1) := by decide +kernel
theorem dX0_isMadeOfGone_0 : decode cX0_isMadeOfGone 0 = .ok (.aload_n 0, 1) := by decide +kernel
theorem dX0_isMadeOfGone_1 : decode cX0_isMadeOfGone 1 = .ok (.getfield 18, 3) := by decide +kernel
theorem dX0_isMadeOfGone_4 : decode cX0_isMadeOfGone 4 = .ok (.ifnull 13, 3) := by decide +kernel
theorem dX0_isMadeOfGone_7 : decode cX0_isMadeOfGone 7 = .ok (.aload_n 0, 1) := by decide +kernel
theorem dX0_isMadeOfGone_8 : decode cX0_isMadeOfGone 8 = .ok (.getfield 18, 3) := by decide +kernel
theorem dX0_isMadeOfGone_11 : decode cX0_isMadeOfGone 11 = .ok (.getfield 32, 3) := by decide +kernel
theorem dX0_isMadeOfGone_14 : decode cX0_isMadeOfGone 14 = .ok (.ifCond .ne 20, 3) := by decide +kernel
theorem dX0_isMadeOfGone_17 : decode cX0_isMadeOfGone 17 = .ok (.aload_n 0, 1) := by decide +kernel
theorem dX0_isMadeOfGone_18 : decode cX0_isMadeOfGone 18 = .ok (.getfield 22, 3) := by decide +kernel
theorem dX0_isMadeOfGone_21 : decode cX0_isMadeOfGone 21 = .ok (.ifnull 17, 3) := by decide +kernel
theorem dX0_isMadeOfGone_24 : decode cX0_isMadeOfGone 24 = .ok (.aload_n 0, 1) := by decide +kernel
theorem dX0_isMadeOfGone_25 : decode cX0_isMadeOfGone 25 = .ok (.getfield 22, 3) := by decide +kernel
theorem dX0_isMadeOfGone_28 : decode cX0_isMadeOfGone 28 = .ok (.getfield 32, 3) := by decide +kernel
theorem dX0_isMadeOfGone_31 : decode cX0_isMadeOfGone 31 = .ok (.ifCond .eq 7, 3) := by decide +kernel
theorem dX0_isMadeOfGone_34 : decode cX0_isMadeOfGone 34 = .ok (.iconst 1, 1) := by decide +kernel
theorem dX0_isMadeOfGone_35 : decode cX0_isMadeOfGone 35 = .ok (.goto 4, 3) := by decide +kernel
theorem dX0_isMadeOfGone_38 : decode cX0_isMadeOfGone 38 = .ok (.iconst 0, 1) := by decide +kernel
theorem dX0_isMadeOfGone_39 : decode cX0_isMadeOfGone 39 = .ok (.ireturn, 1) := by decide +kernel
theorem dX0_countMarks_0 : decode cX0_countMarks 0 = .ok (.iconst 0, 1) := by decide +kernel
theorem dX0_countMarks_1 : decode cX0_countMarks 1 = .ok (.istore_n 3, 1) := by decide +kernel
theorem dX0_countMarks_2 : decode cX0_countMarks 2 = .ok (.iconst 0, 1) := by decide +kernel
theorem dX0_countMarks_3 : decode cX0_countMarks 3 = .ok (.istore 4, 2) := by decide +kernel
theorem dX0_countMarks_5 : decode cX0_countMarks 5 = .ok (.iload 4, 2) := by decide +kernel
theorem dX0_countMarks_7 : decode cX0_countMarks 7 = .ok (.aload_n 0, 1) := by decide +kernel
theorem dX0_countMarks_8 : decode cX0_countMarks 8 = .ok (.getfield 28, 3) := by decide +kernel
theorem dX0_countMarks_11 : decode cX0_countMarks 11 = .ok (.invokevirtual 36, 3) := by decide +kernel
theorem dX0_countMarks_14 : decode cX0_countMarks 14 = .ok (.if_icmp .ge 32, 3) := by decide +kernel
theorem dX0_countMarks_17 : decode cX0_countMarks 17 = .ok (.aload_n 0, 1) := by decide +kernel
theorem dX0_countMarks_18 : decode cX0_countMarks 18 = .ok (.getfield 28, 3) := by decide +kernel
theorem dX0_countMarks_21 : decode cX0_countMarks 21 = .ok (.iload 4, 2) := by decide +kernel
theorem dX0_countMarks_23 : decode cX0_countMarks 23 = .ok (.invokevirtual 40, 3) := by decide +kernel
theorem dX0_countMarks_26 : decode cX0_countMarks 26 = .ok (.checkcast 44, 3) := by decide +kernel
theorem dX0_countMarks_29 : decode cX0_countMarks 29 = .ok (.iload_n 1, 1) := by decide +kernel
theorem dX0_countMarks_30 : decode cX0_countMarks 30 = .ok (.iload_n 2, 1) := by decide +kernel
theorem dX0_countMarks_31 : decode cX0_countMarks 31 = .ok (.invokevirtual 46, 3) := by decide +kernel
theorem dX0_countMarks_34 : decode cX0_countMarks 34 = .ok (.ifCond .eq 6, 3) := by decide +kernel
theorem dX0_countMarks_37 : decode cX0_countMarks 37 = .ok (.iinc 3 1, 3) := by decide +kernel
theorem dX0_countMarks_40 : decode cX0_countMarks 40 = .ok (.iinc 4 1, 3) := by decide +kernel
theorem dX0_countMarks_43 : decode cX0_countMarks 43 = .ok (.goto (-38), 3) := by decide +kernel
theorem dX0_countMarks_46 : decode cX0_countMarks 46 = .ok (.iload_n 3, 1) := by decide +kernel
theorem dX0_countMarks_47 : decode cX0_countMarks 47 = .ok (.ireturn, 1) := by decide +kernel
theorem dX0_hasMarkWithin_0 : decode cX0_hasMarkWithin 0 = .ok (.iconst 0, 1) := by decide +kernel
theorem dX0_hasMarkWithin_1 : decode cX0_hasMarkWithin 1 = .ok (.istore 5, 2) := by decide +kernel
theorem dX0_hasMarkWithin_3 : decode cX0_hasMarkWithin 3 = .ok (.iload 5, 2) := by decide +kernel
theorem dX0_hasMarkWithin_5 : decode cX0_hasMarkWithin 5 = .ok (.aload_n 0, 1) := by decide +kernel
theorem dX0_hasMarkWithin_6 : decode cX0_hasMarkWithin 6 = .ok (.getfield 28, 3) := by decide +kernel
theorem dX0_hasMarkWithin_9 : decode cX0_hasMarkWithin 9 = .ok (.invokevirtual 36, 3) := by decide +kernel
theorem dX0_hasMarkWithin_12 : decode cX0_hasMarkWithin 12 = .ok (.if_icmp .ge 54, 3) := by decide +kernel
theorem dX0_hasMarkWithin_15 : decode cX0_hasMarkWithin 15 = .ok (.aload_n 0, 1) := by decide +kernel
theorem dX0_hasMarkWithin_16 : decode cX0_hasMarkWithin 16 = .ok (.getfield 28, 3) := by decide +kernel
theorem dX0_hasMarkWithin_19 : decode cX0_hasMarkWithin 19 = .ok (.iload 5, 2) := by decide +kernel
theorem dX0_hasMarkWithin_21 : decode cX0_hasMarkWithin 21 = .ok (.invokevirtual 40, 3) := by decide +kernel
theorem dX0_hasMarkWithin_24 : decode cX0_hasMarkWithin 24 = .ok (.checkcast 44, 3) := by decide +kernel
theorem dX0_hasMarkWithin_27 : decode cX0_hasMarkWithin 27 = .ok (.astore 6, 2) := by decide +kernel
theorem dX0_hasMarkWithin_29 : decode cX0_hasMarkWithin 29 = .ok (.aload 6, 2) := by decide +kernel
theorem dX0_hasMarkWithin_31 : decode cX0_hasMarkWithin 31 = .ok (.iload_n 1, 1) := by decide +kernel
theorem dX0_hasMarkWithin_32 : decode cX0_hasMarkWithin 32 = .ok (.iload_n 2, 1) := by decide +kernel
theorem dX0_hasMarkWithin_33 : decode cX0_hasMarkWithin 33 = .ok (.invokevirtual 46, 3) := by decide +kernel
theorem dX0_hasMarkWithin_36 : decode cX0_hasMarkWithin 36 = .ok (.ifCond .eq 24, 3) := by decide +kernel
theorem dX0_hasMarkWithin_39 : decode cX0_hasMarkWithin 39 = .ok (.aload 6, 2) := by decide +kernel
theorem dX0_hasMarkWithin_41 : decode cX0_hasMarkWithin 41 = .ok (.getfield 50, 3) := by decide +kernel
theorem dX0_hasMarkWithin_44 : decode cX0_hasMarkWithin 44 = .ok (.iload 4, 2) := by decide +kernel
theorem dX0_hasMarkWithin_46 : decode cX0_hasMarkWithin 46 = .ok (.if_icmp .ge 14, 3) := by decide +kernel
theorem dX0_hasMarkWithin_49 : decode cX0_hasMarkWithin 49 = .ok (.iload_n 3, 1) := by decide +kernel
theorem dX0_hasMarkWithin_50 : decode cX0_hasMarkWithin 50 = .ok (.aload 6, 2) := by decide +kernel
theorem dX0_hasMarkWithin_52 : decode cX0_hasMarkWithin 52 = .ok (.getfield 53, 3) := by decide +kernel
theorem dX0_hasMarkWithin_55 : decode cX0_hasMarkWithin 55 = .ok (.if_icmp .ge 5, 3) := by decide +kernel
theorem dX0_hasMarkWithin_58 : decode cX0_hasMarkWithin 58 = .ok (.iconst 1, 1) := by decide +kernel
theorem dX0_hasMarkWithin_59 : decode cX0_hasMarkWithin 59 = .ok (.ireturn, 1) := by decide +kernel
theorem dX0_hasMarkWithin_60 : decode cX0_hasMarkWithin 60 = .ok (.iinc 5 1, 3) := by decide +kernel
theorem dX0_hasMarkWithin_63 : decode cX0_hasMarkWithin 63 = .ok (.goto (-60), 3) := by decide +kernel
theorem dX0_hasMarkWithin_66 : decode cX0_hasMarkWithin 66 = .ok (.iconst 0, 1) := by decide +kernel
theorem dX0_hasMarkWithin_67 : decode cX0_hasMarkWithin 67 = .ok (.ireturn, 1) := by decide +kernel
theorem dX0_writeValues_0 : decode cX0_writeValues 0 = .ok (.iconst 0, 1) := by decide +kernel
theorem dX0_writeValues_1 : decode cX0_writeValues 1 = .ok (.istore 4, 2) := by decide +kernel
theorem dX0_writeValues_3 : decode cX0_writeValues 3 = .ok (.iload 4, 2) := by decide +kernel
theorem dX0_writeValues_5 : decode cX0_writeValues 5 = .ok (.aload_n 3, 1) := by decide +kernel
theorem dX0_writeValues_6 : decode cX0_writeValues 6 = .ok (.arraylength, 1) := by decide +kernel
theorem dX0_writeValues_7 : decode cX0_writeValues 7 = .ok (.if_icmp .ge 14, 3) := by decide +kernel
theorem dX0_writeValues_10 : decode cX0_writeValues 10 = .ok (.aload_n 3, 1) := by decide +kernel
theorem dX0_writeValues_11 : decode cX0_writeValues 11 = .ok (.iload 4, 2) := by decide +kernel
theorem dX0_writeValues_13 : decode cX0_writeValues 13 = .ok (.iconst (-1), 1) := by decide +kernel
theorem dX0_writeValues_14 : decode cX0_writeValues 14 = .ok (.iastore, 1) := by decide +kernel
theorem dX0_writeValues_15 : decode cX0_writeValues 15 = .ok (.iinc 4 1, 3) := by decide +kernel
theorem dX0_writeValues_18 : decode cX0_writeValues 18 = .ok (.goto (-15), 3) := by decide +kernel
theorem dX0_writeValues_21 : decode cX0_writeValues 21 = .ok (.iconst 0, 1) := by decide +kernel
theorem dX0_writeValues_22 : decode cX0_writeValues 22 = .ok (.istore 4, 2) := by decide +kernel
theorem dX0_writeValues_24 : decode cX0_writeValues 24 = .ok (.iload 4, 2) := by decide +kernel
theorem dX0_writeValues_26 : decode cX0_writeValues 26 = .ok (.aload_n 0, 1) := by decide +kernel
theorem dX0_writeValues_27 : decode cX0_writeValues 27 = .ok (.getfield 28, 3) := by decide +kernel
theorem dX0_writeValues_30 : decode cX0_writeValues 30 = .ok (.invokevirtual 36, 3) := by decide +kernel
theorem dX0_writeValues_33 : decode cX0_writeValues 33 = .ok (.if_icmp .ge 45, 3) := by decide +kernel
theorem dX0_writeValues_36 : decode cX0_writeValues 36 = .ok (.aload_n 0, 1) := by decide +kernel
theorem dX0_writeValues_37 : decode cX0_writeValues 37 = .ok (.getfield 28, 3) := by decide +kernel
theorem dX0_writeValues_40 : decode cX0_writeValues 40 = .ok (.iload 4, 2) := by decide +kernel
theorem dX0_writeValues_42 : decode cX0_writeValues 42 = .ok (.invokevirtual 40, 3) := by decide +kernel
theorem dX0_writeValues_45 : decode cX0_writeValues 45 = .ok (.checkcast 44, 3) := by decide +kernel
theorem dX0_writeValues_48 : decode cX0_writeValues 48 = .ok (.iload_n 1, 1) := by decide +kernel
theorem dX0_writeValues_49 : decode cX0_writeValues 49 = .ok (.iload_n 2, 1) := by decide +kernel
theorem dX0_writeValues_50 : decode cX0_writeValues 50 = .ok (.invokevirtual 46, 3) := by decide +kernel
theorem dX0_writeValues_53 : decode cX0_writeValues 53 = .ok (.ifCond .eq 19, 3) := by decide +kernel
theorem dX0_writeValues_56 : decode cX0_writeValues 56 = .ok (.aload_n 0, 1) := by decide +kernel
theorem dX0_writeValues_57 : decode cX0_writeValues 57 = .ok (.getfield 28, 3) := by decide +kernel
theorem dX0_writeValues_60 : decode cX0_writeValues 60 = .ok (.iload 4, 2) := by decide +kernel
theorem dX0_writeValues_62 : decode cX0_writeValues 62 = .ok (.invokevirtual 40, 3) := by decide +kernel
theorem dX0_writeValues_65 : decode cX0_writeValues 65 = .ok (.checkcast 44, 3) := by decide +kernel
theorem dX0_writeValues_68 : decode cX0_writeValues 68 = .ok (.aload_n 3, 1) := by decide +kernel
theorem dX0_writeValues_69 : decode cX0_writeValues 69 = .ok (.invokevirtual 56, 3) := by decide +kernel
theorem dX0_writeValues_72 : decode cX0_writeValues 72 = .ok (.iinc 4 1, 3) := by decide +kernel
theorem dX0_writeValues_75 : decode cX0_writeValues 75 = .ok (.goto (-51), 3) := by decide +kernel
theorem dX0_writeValues_78 : decode cX0_writeValues 78 = .ok (.return_, 1) := by decide +kernel
theorem dX1_init_0 : decode cX1_init 0 = .ok (.aload_n 0, 1) := by decide +kernel
theorem dX1_init_1 : decode cX1_init 1 = .ok (.invokespecial 3, 3) := by decide +kernel
theorem dX1_init_4 : decode cX1_init 4 = .ok (.aload_n 0, 1) := by decide +kernel
theorem dX1_init_5 : decode cX1_init 5 = .ok (.iload_n 1, 1) := by decide +kernel
theorem dX1_init_6 : decode cX1_init 6 = .ok (.putfield 9, 3) := by decide +kernel
theorem dX1_init_9 : decode cX1_init 9 = .ok (.aload_n 0, 1) := by decide +kernel
theorem dX1_init_10 : decode cX1_init 10 = .ok (.iload_n 2, 1) := by decide +kernel
theorem dX1_init_11 : decode cX1_init 11 = .ok (.putfield 15, 3) := by decide +kernel
theorem dX1_init_14 : decode cX1_init 14 = .ok (.aload_n 0, 1) := by decide +kernel
theorem dX1_init_15 : decode cX1_init 15 = .ok (.iload_n 3, 1) := by decide +kernel
theorem dX1_init_16 : decode cX1_init 16 = .ok (.putfield 18, 3) := by decide +kernel
theorem dX1_init_19 : decode cX1_init 19 = .ok (.aload_n 0, 1) := by decide +kernel
theorem dX1_init_20 : decode cX1_init 20 = .ok (.iload 4, 2) := by decide +kernel
theorem dX1_init_22 : decode cX1_init 22 = .ok (.putfield 21, 3) := by decide +kernel
theorem dX1_init_25 : decode cX1_init 25 = .ok (.aload_n 0, 1) := by decide +kernel
theorem dX1_init_26 : decode cX1_init 26 = .ok (.iload 5, 2) := by decide +kernel
theorem dX1_init_28 : decode cX1_init 28 = .ok (.putfield 24, 3) := by decide +kernel
theorem dX1_init_31 : decode cX1_init 31 = .ok (.aload_n 0, 1) := by decide +kernel
theorem dX1_init_32 : decode cX1_init 32 = .ok (.iload 6, 2) := by decide +kernel
theorem dX1_init_34 : decode cX1_init 34 = .ok (.putfield 27, 3) := by decide +kernel
theorem dX1_init_37 : decode cX1_init 37 = .ok (.aload_n 0, 1) := by decide +kernel
theorem dX1_init_38 : decode cX1_init 38 = .ok (.iload 6, 2) := by decide +kernel
theorem dX1_init_40 : decode cX1_init 40 = .ok (.iconst 2, 1) := by decide +kernel
theorem dX1_init_41 : decode cX1_init 41 = .ok (.if_icmp .ne 8, 3) := by decide +kernel
theorem dX1_init_44 : decode cX1_init 44 = .ok (.iload 7, 2) := by decide +kernel
theorem dX1_init_46 : decode cX1_init 46 = .ok (.goto 4, 3) := by decide +kernel
theorem dX1_init_49 : decode cX1_init 49 = .ok (.iconst (-1), 1) := by decide +kernel
theorem dX1_init_50 : decode cX1_init 50 = .ok (.putfield 30, 3) := by decide +kernel
theorem dX1_init_53 : decode cX1_init 53 = .ok (.return_, 1) := by decide +kernel
theorem dX1_become_0 : decode cX1_become 0 = .ok (.aload_n 0, 1) := by decide +kernel
theorem dX1_become_1 : decode cX1_become 1 = .ok (.aload_n 1, 1) := by decide +kernel
theorem dX1_become_2 : decode cX1_become 2 = .ok (.getfield 9, 3) := by decide +kernel
theorem dX1_become_5 : decode cX1_become 5 = .ok (.putfield 9, 3) := by decide +kernel
theorem dX1_become_8 : decode cX1_become 8 = .ok (.aload_n 0, 1) := by decide +kernel
theorem dX1_become_9 : decode cX1_become 9 = .ok (.aload_n 1, 1) := by decide +kernel
theorem dX1_become_10 : decode cX1_become 10 = .ok (.getfield 15, 3) := by decide +kernel
theorem dX1_become_13 : decode cX1_become 13 = .ok (.putfield 15, 3) := by decide +kernel
theorem dX1_become_16 : decode cX1_become 16 = .ok (.aload_n 0, 1) := by decide +kernel
theorem dX1_become_17 : decode cX1_become 17 = .ok (.aload_n 1, 1) := by decide +kernel
theorem dX1_become_18 : decode cX1_become 18 = .ok (.getfield 18, 3) := by decide +kernel
theorem dX1_become_21 : decode cX1_become 21 = .ok (.putfield 18, 3) := by decide +kernel
theorem dX1_become_24 : decode cX1_become 24 = .ok (.aload_n 0, 1) := by decide +kernel
theorem dX1_become_25 : decode cX1_become 25 = .ok (.aload_n 1, 1) := by decide +kernel
theorem dX1_become_26 : decode cX1_become 26 = .ok (.getfield 21, 3) := by decide +kernel
theorem dX1_become_29 : decode cX1_become 29 = .ok (.putfield 21, 3) := by decide +kernel
theorem dX1_become_32 : decode cX1_become 32 = .ok (.aload_n 0, 1) := by decide +kernel
theorem dX1_become_33 : decode cX1_become 33 = .ok (.aload_n 1, 1) := by decide +kernel
theorem dX1_become_34 : decode cX1_become 34 = .ok (.getfield 24, 3) := by decide +kernel
theorem dX1_become_37 : decode cX1_become 37 = .ok (.putfield 24, 3) := by decide +kernel
theorem dX1_become_40 : decode cX1_become 40 = .ok (.aload_n 0, 1) := by decide +kernel
theorem dX1_become_41 : decode cX1_become 41 = .ok (.aload_n 1, 1) := by decide +kernel
theorem dX1_become_42 : decode cX1_become 42 = .ok (.getfield 27, 3) := by decide +kernel
theorem dX1_become_45 : decode cX1_become 45 = .ok (.putfield 27, 3) := by decide +kernel
theorem dX1_become_48 : decode cX1_become 48 = .ok (.aload_n 0, 1) := by decide +kernel
theorem dX1_become_49 : decode cX1_become 49 = .ok (.aload_n 1, 1) := by decide +kernel
theorem dX1_become_50 : decode cX1_become 50 = .ok (.getfield 30, 3) := by decide +kernel
theorem dX1_become_53 : decode cX1_become 53 = .ok (.putfield 30, 3) := by decide +kernel
theorem dX1_become_56 : decode cX1_become 56 = .ok (.return_, 1) := by decide +kernel
theorem dX1_countUnlike_0 : decode cX1_countUnlike 0 = .ok (.iconst 0, 1) := by decide +kernel
theorem dX1_countUnlike_1 : decode cX1_countUnlike 1 = .ok (.istore_n 2, 1) := by decide +kernel
theorem dX1_countUnlike_2 : decode cX1_countUnlike 2 = .ok (.iload_n 2, 1) := by decide +kernel
theorem dX1_countUnlike_3 : decode cX1_countUnlike 3 = .ok (.aload_n 0, 1) := by decide +kernel
theorem dX1_countUnlike_4 : decode cX1_countUnlike 4 = .ok (.getfield 9, 3) := by decide +kernel
theorem dX1_countUnlike_7 : decode cX1_countUnlike 7 = .ok (.aload_n 1, 1) := by decide +kernel
theorem dX1_countUnlike_8 : decode cX1_countUnlike 8 = .ok (.getfield 9, 3) := by decide +kernel
theorem dX1_countUnlike_11 : decode cX1_countUnlike 11 = .ok (.if_icmp .ne 7, 3) := by decide +kernel
theorem dX1_countUnlike_14 : decode cX1_countUnlike 14 = .ok (.iconst 0, 1) := by decide +kernel
theorem dX1_countUnlike_15 : decode cX1_countUnlike 15 = .ok (.goto 4, 3) := by decide +kernel
theorem dX1_countUnlike_18 : decode cX1_countUnlike 18 = .ok (.iconst 1, 1) := by decide +kernel
theorem dX1_countUnlike_19 : decode cX1_countUnlike 19 = .ok (.iadd, 1) := by decide +kernel
theorem dX1_countUnlike_20 : decode cX1_countUnlike 20 = .ok (.istore_n 2, 1) := by decide +kernel
theorem dX1_countUnlike_21 : decode cX1_countUnlike 21 = .ok (.iload_n 2, 1) := by decide +kernel
theorem dX1_countUnlike_22 : decode cX1_countUnlike 22 = .ok (.aload_n 0, 1) := by decide +kernel
theorem dX1_countUnlike_23 : decode cX1_countUnlike 23 = .ok (.getfield 15, 3) := by decide +kernel
theorem dX1_countUnlike_26 : decode cX1_countUnlike 26 = .ok (.aload_n 1, 1) := by decide +kernel
theorem dX1_countUnlike_27 : decode cX1_countUnlike 27 = .ok (.getfield 15, 3) := by decide +kernel
theorem dX1_countUnlike_30 : decode cX1_countUnlike 30 = .ok (.if_icmp .ne 7, 3) := by decide +kernel
theorem dX1_countUnlike_33 : decode cX1_countUnlike 33 = .ok (.iconst 0, 1) := by decide +kernel
theorem dX1_countUnlike_34 : decode cX1_countUnlike 34 = .ok (.goto 4, 3) := by decide +kernel
theorem dX1_countUnlike_37 : decode cX1_countUnlike 37 = .ok (.iconst 1, 1) := by decide +kernel
theorem dX1_countUnlike_38 : decode cX1_countUnlike 38 = .ok (.iadd, 1) := by decide +kernel
theorem dX1_countUnlike_39 : decode cX1_countUnlike 39 = .ok (.istore_n 2, 1) := by decide +kernel
theorem dX1_countUnlike_40 : decode cX1_countUnlike 40 = .ok (.iload_n 2, 1) := by decide +kernel
theorem dX1_countUnlike_41 : decode cX1_countUnlike 41 = .ok (.aload_n 0, 1) := by decide +kernel
theorem dX1_countUnlike_42 : decode cX1_countUnlike 42 = .ok (.getfield 18, 3) := by decide +kernel
theorem dX1_countUnlike_45 : decode cX1_countUnlike 45 = .ok (.aload_n 1, 1) := by decide +kernel
theorem dX1_countUnlike_46 : decode cX1_countUnlike 46 = .ok (.getfield 18, 3) := by decide +kernel
theorem dX1_countUnlike_49 : decode cX1_countUnlike 49 = .ok (.if_icmp .ne 7, 3) := by decide +kernel
theorem dX1_countUnlike_52 : decode cX1_countUnlike 52 = .ok (.iconst 0, 1) := by decide +kernel
theorem dX1_countUnlike_53 : decode cX1_countUnlike 53 = .ok (.goto 4, 3) := by decide +kernel
theorem dX1_countUnlike_56 : decode cX1_countUnlike 56 = .ok (.iconst 1, 1) := by decide +kernel
theorem dX1_countUnlike_57 : decode cX1_countUnlike 57 = .ok (.iadd, 1) := by decide +kernel
theorem dX1_countUnlike_58 : decode cX1_countUnlike 58 = .ok (.istore_n 2, 1) := by decide +kernel
theorem dX1_countUnlike_59 : decode cX1_countUnlike 59 = .ok (.iload_n 2, 1) := by decide +kernel
theorem dX1_countUnlike_60 : decode cX1_countUnlike 60 = .ok (.aload_n 0, 1) := by decide +kernel
theorem dX1_countUnlike_61 : decode cX1_countUnlike 61 = .ok (.getfield 21, 3) := by decide +kernel
theorem dX1_countUnlike_64 : decode cX1_countUnlike 64 = .ok (.aload_n 1, 1) := by decide +kernel
theorem dX1_countUnlike_65 : decode cX1_countUnlike 65 = .ok (.getfield 21, 3) := by decide +kernel
theorem dX1_countUnlike_68 : decode cX1_countUnlike 68 = .ok (.if_icmp .ne 7, 3) := by decide +kernel
theorem dX1_countUnlike_71 : decode cX1_countUnlike 71 = .ok (.iconst 0, 1) := by decide +kernel
theorem dX1_countUnlike_72 : decode cX1_countUnlike 72 = .ok (.goto 4, 3) := by decide +kernel
theorem dX1_countUnlike_75 : decode cX1_countUnlike 75 = .ok (.iconst 1, 1) := by decide +kernel
theorem dX1_countUnlike_76 : decode cX1_countUnlike 76 = .ok (.iadd, 1) := by decide +kernel
theorem dX1_countUnlike_77 : decode cX1_countUnlike 77 = .ok (.istore_n 2, 1) := by decide +kernel
theorem dX1_countUnlike_78 : decode cX1_countUnlike 78 = .ok (.iload_n 2, 1) := by decide +kernel
theorem dX1_countUnlike_79 : decode cX1_countUnlike 79 = .ok (.aload_n 0, 1) := by decide +kernel
theorem dX1_countUnlike_80 : decode cX1_countUnlike 80 = .ok (.getfield 24, 3) := by decide +kernel
theorem dX1_countUnlike_83 : decode cX1_countUnlike 83 = .ok (.aload_n 1, 1) := by decide +kernel
theorem dX1_countUnlike_84 : decode cX1_countUnlike 84 = .ok (.getfield 24, 3) := by decide +kernel
theorem dX1_countUnlike_87 : decode cX1_countUnlike 87 = .ok (.if_icmp .ne 7, 3) := by decide +kernel
theorem dX1_countUnlike_90 : decode cX1_countUnlike 90 = .ok (.iconst 0, 1) := by decide +kernel
theorem dX1_countUnlike_91 : decode cX1_countUnlike 91 = .ok (.goto 4, 3) := by decide +kernel
theorem dX1_countUnlike_94 : decode cX1_countUnlike 94 = .ok (.iconst 1, 1) := by decide +kernel
theorem dX1_countUnlike_95 : decode cX1_countUnlike 95 = .ok (.iadd, 1) := by decide +kernel
theorem dX1_countUnlike_96 : decode cX1_countUnlike 96 = .ok (.istore_n 2, 1) := by decide +kernel
theorem dX1_countUnlike_97 : decode cX1_countUnlike 97 = .ok (.iload_n 2, 1) := by decide +kernel
theorem dX1_countUnlike_98 : decode cX1_countUnlike 98 = .ok (.aload_n 0, 1) := by decide +kernel
theorem dX1_countUnlike_99 : decode cX1_countUnlike 99 = .ok (.getfield 27, 3) := by decide +kernel
theorem dX1_countUnlike_102 : decode cX1_countUnlike 102 = .ok (.aload_n 1, 1) := by decide +kernel
theorem dX1_countUnlike_103 : decode cX1_countUnlike 103 = .ok (.getfield 27, 3) := by decide +kernel
theorem dX1_countUnlike_106 : decode cX1_countUnlike 106 = .ok (.if_icmp .ne 7, 3) := by decide +kernel
theorem dX1_countUnlike_109 : decode cX1_countUnlike 109 = .ok (.iconst 0, 1) := by decide +kernel
theorem dX1_countUnlike_110 : decode cX1_countUnlike 110 = .ok (.goto 4, 3) := by decide +kernel
theorem dX1_countUnlike_113 : decode cX1_countUnlike 113 = .ok (.iconst 1, 1) := by decide +kernel
theorem dX1_countUnlike_114 : decode cX1_countUnlike 114 = .ok (.iadd, 1) := by decide +kernel
theorem dX1_countUnlike_115 : decode cX1_countUnlike 115 = .ok (.istore_n 2, 1) := by decide +kernel
theorem dX1_countUnlike_116 : decode cX1_countUnlike 116 = .ok (.iload_n 2, 1) := by decide +kernel
theorem dX1_countUnlike_117 : decode cX1_countUnlike 117 = .ok (.ireturn, 1) := by decide +kernel
theorem dX1_isJustLike_0 : decode cX1_isJustLike 0 = .ok (.aload_n 0, 1) := by decide +kernel
theorem dX1_isJustLike_1 : decode cX1_isJustLike 1 = .ok (.aload_n 1, 1) := by decide +kernel
theorem dX1_isJustLike_2 : decode cX1_isJustLike 2 = .ok (.invokevirtual 33, 3) := by decide +kernel
theorem dX1_isJustLike_5 : decode cX1_isJustLike 5 = .ok (.ifCond .ne 18, 3) := by decide +kernel
theorem dX1_isJustLike_8 : decode cX1_isJustLike 8 = .ok (.aload_n 0, 1) := by decide +kernel
theorem dX1_isJustLike_9 : decode cX1_isJustLike 9 = .ok (.getfield 30, 3) := by decide +kernel
theorem dX1_isJustLike_12 : decode cX1_isJustLike 12 = .ok (.aload_n 1, 1) := by decide +kernel
theorem dX1_isJustLike_13 : decode cX1_isJustLike 13 = .ok (.getfield 30, 3) := by decide +kernel
theorem dX1_isJustLike_16 : decode cX1_isJustLike 16 = .ok (.if_icmp .ne 7, 3) := by decide +kernel
theorem dX1_isJustLike_19 : decode cX1_isJustLike 19 = .ok (.iconst 1, 1) := by decide +kernel
theorem dX1_isJustLike_20 : decode cX1_isJustLike 20 = .ok (.goto 4, 3) := by decide +kernel
theorem dX1_isJustLike_23 : decode cX1_isJustLike 23 = .ok (.iconst 0, 1) := by decide +kernel
theorem dX1_isJustLike_24 : decode cX1_isJustLike 24 = .ok (.ireturn, 1) := by decide +kernel
theorem dX1_goes_0 : decode cX1_goes 0 = .ok (.aload_n 0, 1) := by decide +kernel
theorem dX1_goes_1 : decode cX1_goes 1 = .ok (.getfield 15, 3) := by decide +kernel
theorem dX1_goes_4 : decode cX1_goes 4 = .ok (.aload_n 0, 1) := by decide +kernel
theorem dX1_goes_5 : decode cX1_goes 5 = .ok (.getfield 18, 3) := by decide +kernel
theorem dX1_goes_8 : decode cX1_goes 8 = .ok (.if_icmp .eq 7, 3) := by decide +kernel
theorem dX1_goes_11 : decode cX1_goes 11 = .ok (.iconst 1, 1) := by decide +kernel
theorem dX1_goes_12 : decode cX1_goes 12 = .ok (.goto 4, 3) := by decide +kernel
theorem dX1_goes_15 : decode cX1_goes 15 = .ok (.iconst 0, 1) := by decide +kernel
theorem dX1_goes_16 : decode cX1_goes 16 = .ok (.ireturn, 1) := by decide +kernel
theorem dX1_isStill_0 : decode cX1_isStill 0 = .ok (.aload_n 0, 1) := by decide +kernel
theorem dX1_isStill_1 : decode cX1_isStill 1 = .ok (.invokevirtual 37, 3) := by decide +kernel
theorem dX1_isStill_4 : decode cX1_isStill 4 = .ok (.ifCond .ne 18, 3) := by decide +kernel
theorem dX1_isStill_7 : decode cX1_isStill 7 = .ok (.aload_n 0, 1) := by decide +kernel
theorem dX1_isStill_8 : decode cX1_isStill 8 = .ok (.getfield 21, 3) := by decide +kernel
theorem dX1_isStill_11 : decode cX1_isStill 11 = .ok (.aload_n 0, 1) := by decide +kernel
theorem dX1_isStill_12 : decode cX1_isStill 12 = .ok (.getfield 24, 3) := by decide +kernel
theorem dX1_isStill_15 : decode cX1_isStill 15 = .ok (.if_icmp .ne 7, 3) := by decide +kernel
theorem dX1_isStill_18 : decode cX1_isStill 18 = .ok (.iconst 1, 1) := by decide +kernel
theorem dX1_isStill_19 : decode cX1_isStill 19 = .ok (.goto 4, 3) := by decide +kernel
theorem dX1_isStill_22 : decode cX1_isStill 22 = .ok (.iconst 0, 1) := by decide +kernel
theorem dX1_isStill_23 : decode cX1_isStill 23 = .ok (.ireturn, 1) := by decide +kernel
theorem dX2_init_0 : decode cX2_init 0 = .ok (.aload_n 0, 1) := by decide +kernel
theorem dX2_init_1 : decode cX2_init 1 = .ok (.invokespecial 3, 3) := by decide +kernel
theorem dX2_init_4 : decode cX2_init 4 = .ok (.aload_n 0, 1) := by decide +kernel
theorem dX2_init_5 : decode cX2_init 5 = .ok (.iload_n 1, 1) := by decide +kernel
theorem dX2_init_6 : decode cX2_init 6 = .ok (.putfield 9, 3) := by decide +kernel
theorem dX2_init_9 : decode cX2_init 9 = .ok (.aload_n 0, 1) := by decide +kernel
theorem dX2_init_10 : decode cX2_init 10 = .ok (.iload_n 2, 1) := by decide +kernel
theorem dX2_init_11 : decode cX2_init 11 = .ok (.putfield 15, 3) := by decide +kernel
theorem dX2_init_14 : decode cX2_init 14 = .ok (.aload_n 0, 1) := by decide +kernel
theorem dX2_init_15 : decode cX2_init 15 = .ok (.iload_n 3, 1) := by decide +kernel
theorem dX2_init_16 : decode cX2_init 16 = .ok (.putfield 18, 3) := by decide +kernel
theorem dX2_init_19 : decode cX2_init 19 = .ok (.aload_n 0, 1) := by decide +kernel
theorem dX2_init_20 : decode cX2_init 20 = .ok (.aload 4, 2) := by decide +kernel
theorem dX2_init_22 : decode cX2_init 22 = .ok (.putfield 21, 3) := by decide +kernel
theorem dX2_init_25 : decode cX2_init 25 = .ok (.aload_n 0, 1) := by decide +kernel
theorem dX2_init_26 : decode cX2_init 26 = .ok (.new 25, 3) := by decide +kernel
theorem dX2_init_29 : decode cX2_init 29 = .ok (.dup, 1) := by decide +kernel
theorem dX2_init_30 : decode cX2_init 30 = .ok (.aload 4, 2) := by decide +kernel
theorem dX2_init_32 : decode cX2_init 32 = .ok (.getfield 27, 3) := by decide +kernel
theorem dX2_init_35 : decode cX2_init 35 = .ok (.aload 4, 2) := by decide +kernel
theorem dX2_init_37 : decode cX2_init 37 = .ok (.getfield 30, 3) := by decide +kernel
theorem dX2_init_40 : decode cX2_init 40 = .ok (.aload 4, 2) := by decide +kernel
theorem dX2_init_42 : decode cX2_init 42 = .ok (.getfield 33, 3) := by decide +kernel
theorem dX2_init_45 : decode cX2_init 45 = .ok (.aload 4, 2) := by decide +kernel
theorem dX2_init_47 : decode cX2_init 47 = .ok (.getfield 36, 3) := by decide +kernel
theorem dX2_init_50 : decode cX2_init 50 = .ok (.aload 4, 2) := by decide +kernel
theorem dX2_init_52 : decode cX2_init 52 = .ok (.getfield 39, 3) := by decide +kernel
theorem dX2_init_55 : decode cX2_init 55 = .ok (.aload 4, 2) := by decide +kernel
theorem dX2_init_57 : decode cX2_init 57 = .ok (.getfield 42, 3) := by decide +kernel
theorem dX2_init_60 : decode cX2_init 60 = .ok (.aload 4, 2) := by decide +kernel
theorem dX2_init_62 : decode cX2_init 62 = .ok (.getfield 45, 3) := by decide +kernel
theorem dX2_init_65 : decode cX2_init 65 = .ok (.invokespecial 48, 3) := by decide +kernel
theorem dX2_init_68 : decode cX2_init 68 = .ok (.putfield 51, 3) := by decide +kernel
theorem dX2_init_71 : decode cX2_init 71 = .ok (.return_, 1) := by decide +kernel
theorem dX2_isPointing_0 : decode cX2_isPointing 0 = .ok (.aload_n 0, 1) := by decide +kernel
theorem dX2_isPointing_1 : decode cX2_isPointing 1 = .ok (.getfield 9, 3) := by decide +kernel
theorem dX2_isPointing_4 : decode cX2_isPointing 4 = .ok (.iconst 1, 1) := by decide +kernel
theorem dX2_isPointing_5 : decode cX2_isPointing 5 = .ok (.if_icmp .eq 19, 3) := by decide +kernel
theorem dX2_isPointing_8 : decode cX2_isPointing 8 = .ok (.aload_n 0, 1) := by decide +kernel
theorem dX2_isPointing_9 : decode cX2_isPointing 9 = .ok (.getfield 9, 3) := by decide +kernel
theorem dX2_isPointing_12 : decode cX2_isPointing 12 = .ok (.iconst 2, 1) := by decide +kernel
theorem dX2_isPointing_13 : decode cX2_isPointing 13 = .ok (.if_icmp .eq 11, 3) := by decide +kernel
theorem dX2_isPointing_16 : decode cX2_isPointing 16 = .ok (.aload_n 0, 1) := by decide +kernel
theorem dX2_isPointing_17 : decode cX2_isPointing 17 = .ok (.getfield 9, 3) := by decide +kernel
theorem dX2_isPointing_20 : decode cX2_isPointing 20 = .ok (.iconst 3, 1) := by decide +kernel
theorem dX2_isPointing_21 : decode cX2_isPointing 21 = .ok (.if_icmp .ne 7, 3) := by decide +kernel
theorem dX2_isPointing_24 : decode cX2_isPointing 24 = .ok (.iconst 1, 1) := by decide +kernel
theorem dX2_isPointing_25 : decode cX2_isPointing 25 = .ok (.goto 4, 3) := by decide +kernel
theorem dX2_isPointing_28 : decode cX2_isPointing 28 = .ok (.iconst 0, 1) := by decide +kernel
theorem dX2_isPointing_29 : decode cX2_isPointing 29 = .ok (.ireturn, 1) := by decide +kernel
theorem dX2_isOfSign_0 : decode cX2_isOfSign 0 = .ok (.aload_n 0, 1) := by decide +kernel
theorem dX2_isOfSign_1 : decode cX2_isOfSign 1 = .ok (.getfield 9, 3) := by decide +kernel
theorem dX2_isOfSign_4 : decode cX2_isOfSign 4 = .ok (.ifCond .eq 11, 3) := by decide +kernel
theorem dX2_isOfSign_7 : decode cX2_isOfSign 7 = .ok (.aload_n 0, 1) := by decide +kernel
theorem dX2_isOfSign_8 : decode cX2_isOfSign 8 = .ok (.getfield 9, 3) := by decide +kernel
theorem dX2_isOfSign_11 : decode cX2_isOfSign 11 = .ok (.iconst 4, 1) := by decide +kernel
theorem dX2_isOfSign_12 : decode cX2_isOfSign 12 = .ok (.if_icmp .ne 7, 3) := by decide +kernel
theorem dX2_isOfSign_15 : decode cX2_isOfSign 15 = .ok (.iconst 1, 1) := by decide +kernel
theorem dX2_isOfSign_16 : decode cX2_isOfSign 16 = .ok (.goto 4, 3) := by decide +kernel
theorem dX2_isOfSign_19 : decode cX2_isOfSign 19 = .ok (.iconst 0, 1) := by decide +kernel
theorem dX2_isOfSign_20 : decode cX2_isOfSign 20 = .ok (.ireturn, 1) := by decide +kernel
theorem dX3_init_0 : decode cX3_init 0 = .ok (.aload_n 0, 1) := by decide +kernel
theorem dX3_init_1 : decode cX3_init 1 = .ok (.invokespecial 1, 3) := by decide +kernel
theorem dX3_init_4 : decode cX3_init 4 = .ok (.aload_n 0, 1) := by decide +kernel
theorem dX3_init_5 : decode cX3_init 5 = .ok (.iload_n 1, 1) := by decide +kernel
theorem dX3_init_6 : decode cX3_init 6 = .ok (.putfield 7, 3) := by decide +kernel
theorem dX3_init_9 : decode cX3_init 9 = .ok (.aload_n 0, 1) := by decide +kernel
theorem dX3_init_10 : decode cX3_init 10 = .ok (.iload_n 2, 1) := by decide +kernel
theorem dX3_init_11 : decode cX3_init 11 = .ok (.putfield 13, 3) := by decide +kernel
theorem dX3_init_14 : decode cX3_init 14 = .ok (.aload_n 0, 1) := by decide +kernel
theorem dX3_init_15 : decode cX3_init 15 = .ok (.iload_n 3, 1) := by decide +kernel
theorem dX3_init_16 : decode cX3_init 16 = .ok (.putfield 16, 3) := by decide +kernel
theorem dX3_init_19 : decode cX3_init 19 = .ok (.aload_n 0, 1) := by decide +kernel
theorem dX3_init_20 : decode cX3_init 20 = .ok (.iload 4, 2) := by decide +kernel
theorem dX3_init_22 : decode cX3_init 22 = .ok (.putfield 19, 3) := by decide +kernel
theorem dX3_init_25 : decode cX3_init 25 = .ok (.aload_n 0, 1) := by decide +kernel
theorem dX3_init_26 : decode cX3_init 26 = .ok (.iload 5, 2) := by decide +kernel
theorem dX3_init_28 : decode cX3_init 28 = .ok (.putfield 22, 3) := by decide +kernel
theorem dX3_init_31 : decode cX3_init 31 = .ok (.return_, 1) := by decide +kernel
theorem dX3_isOf_0 : decode cX3_isOf 0 = .ok (.aload_n 0, 1) := by decide +kernel
theorem dX3_isOf_1 : decode cX3_isOf 1 = .ok (.getfield 7, 3) := by decide +kernel
theorem dX3_isOf_4 : decode cX3_isOf 4 = .ok (.iload_n 1, 1) := by decide +kernel
theorem dX3_isOf_5 : decode cX3_isOf 5 = .ok (.if_icmp .ne 15, 3) := by decide +kernel
theorem dX3_isOf_8 : decode cX3_isOf 8 = .ok (.aload_n 0, 1) := by decide +kernel
theorem dX3_isOf_9 : decode cX3_isOf 9 = .ok (.getfield 13, 3) := by decide +kernel
theorem dX3_isOf_12 : decode cX3_isOf 12 = .ok (.iload_n 2, 1) := by decide +kernel
theorem dX3_isOf_13 : decode cX3_isOf 13 = .ok (.if_icmp .ne 7, 3) := by decide +kernel
theorem dX3_isOf_16 : decode cX3_isOf 16 = .ok (.iconst 1, 1) := by decide +kernel
theorem dX3_isOf_17 : decode cX3_isOf 17 = .ok (.goto 4, 3) := by decide +kernel
theorem dX3_isOf_20 : decode cX3_isOf 20 = .ok (.iconst 0, 1) := by decide +kernel
theorem dX3_isOf_21 : decode cX3_isOf 21 = .ok (.ireturn, 1) := by decide +kernel
theorem dX3_writeValue_0 : decode cX3_writeValue 0 = .ok (.aload_n 0, 1) := by decide +kernel
theorem dX3_writeValue_1 : decode cX3_writeValue 1 = .ok (.getfield 16, 3) := by decide +kernel
theorem dX3_writeValue_4 : decode cX3_writeValue 4 = .ok (.istore_n 2, 1) := by decide +kernel
theorem dX3_writeValue_5 : decode cX3_writeValue 5 = .ok (.iload_n 2, 1) := by decide +kernel
theorem dX3_writeValue_6 : decode cX3_writeValue 6 = .ok (.aload_n 0, 1) := by decide +kernel
theorem dX3_writeValue_7 : decode cX3_writeValue 7 = .ok (.getfield 19, 3) := by decide +kernel
theorem dX3_writeValue_10 : decode cX3_writeValue 10 = .ok (.if_icmp .ge 25, 3) := by decide +kernel
theorem dX3_writeValue_13 : decode cX3_writeValue 13 = .ok (.iload_n 2, 1) := by decide +kernel
theorem dX3_writeValue_14 : decode cX3_writeValue 14 = .ok (.aload_n 1, 1) := by decide +kernel
theorem dX3_writeValue_15 : decode cX3_writeValue 15 = .ok (.arraylength, 1) := by decide +kernel
theorem dX3_writeValue_16 : decode cX3_writeValue 16 = .ok (.invokestatic 25, 3) := by decide +kernel
theorem dX3_writeValue_19 : decode cX3_writeValue 19 = .ok (.ifCond .eq 16, 3) := by decide +kernel
theorem dX3_writeValue_22 : decode cX3_writeValue 22 = .ok (.aload_n 1, 1) := by decide +kernel
theorem dX3_writeValue_23 : decode cX3_writeValue 23 = .ok (.iload_n 2, 1) := by decide +kernel
theorem dX3_writeValue_24 : decode cX3_writeValue 24 = .ok (.aload_n 0, 1) := by decide +kernel
theorem dX3_writeValue_25 : decode cX3_writeValue 25 = .ok (.getfield 22, 3) := by decide +kernel
theorem dX3_writeValue_28 : decode cX3_writeValue 28 = .ok (.iastore, 1) := by decide +kernel
theorem dX3_writeValue_29 : decode cX3_writeValue 29 = .ok (.iinc 2 1, 3) := by decide +kernel
theorem dX3_writeValue_32 : decode cX3_writeValue 32 = .ok (.goto (-27), 3) := by decide +kernel
theorem dX3_writeValue_35 : decode cX3_writeValue 35 = .ok (.return_, 1) := by decide +kernel
theorem dX3_countTicksIn_0 : decode cX3_countTicksIn 0 = .ok (.iconst 0, 1) := by decide +kernel
theorem dX3_countTicksIn_1 : decode cX3_countTicksIn 1 = .ok (.istore_n 2, 1) := by decide +kernel
theorem dX3_countTicksIn_2 : decode cX3_countTicksIn 2 = .ok (.aload_n 0, 1) := by decide +kernel
theorem dX3_countTicksIn_3 : decode cX3_countTicksIn 3 = .ok (.getfield 16, 3) := by decide +kernel
theorem dX3_countTicksIn_6 : decode cX3_countTicksIn 6 = .ok (.istore_n 3, 1) := by decide +kernel
theorem dX3_countTicksIn_7 : decode cX3_countTicksIn 7 = .ok (.iload_n 3, 1) := by decide +kernel
theorem dX3_countTicksIn_8 : decode cX3_countTicksIn 8 = .ok (.aload_n 0, 1) := by decide +kernel
theorem dX3_countTicksIn_9 : decode cX3_countTicksIn 9 = .ok (.getfield 19, 3) := by decide +kernel
theorem dX3_countTicksIn_12 : decode cX3_countTicksIn 12 = .ok (.if_icmp .ge 31, 3) := by decide +kernel
theorem dX3_countTicksIn_15 : decode cX3_countTicksIn 15 = .ok (.iload_n 3, 1) := by decide +kernel
theorem dX3_countTicksIn_16 : decode cX3_countTicksIn 16 = .ok (.aload_n 1, 1) := by decide +kernel
theorem dX3_countTicksIn_17 : decode cX3_countTicksIn 17 = .ok (.arraylength, 1) := by decide +kernel
theorem dX3_countTicksIn_18 : decode cX3_countTicksIn 18 = .ok (.invokestatic 25, 3) := by decide +kernel
theorem dX3_countTicksIn_21 : decode cX3_countTicksIn 21 = .ok (.ifCond .eq 22, 3) := by decide +kernel
theorem dX3_countTicksIn_24 : decode cX3_countTicksIn 24 = .ok (.aload_n 1, 1) := by decide +kernel
theorem dX3_countTicksIn_25 : decode cX3_countTicksIn 25 = .ok (.iload_n 3, 1) := by decide +kernel
theorem dX3_countTicksIn_26 : decode cX3_countTicksIn 26 = .ok (.iaload, 1) := by decide +kernel
theorem dX3_countTicksIn_27 : decode cX3_countTicksIn 27 = .ok (.aload_n 0, 1) := by decide +kernel
theorem dX3_countTicksIn_28 : decode cX3_countTicksIn 28 = .ok (.getfield 22, 3) := by decide +kernel
theorem dX3_countTicksIn_31 : decode cX3_countTicksIn 31 = .ok (.if_icmp .ne 6, 3) := by decide +kernel
theorem dX3_countTicksIn_34 : decode cX3_countTicksIn 34 = .ok (.iinc 2 1, 3) := by decide +kernel
theorem dX3_countTicksIn_37 : decode cX3_countTicksIn 37 = .ok (.iinc 3 1, 3) := by decide +kernel
theorem dX3_countTicksIn_40 : decode cX3_countTicksIn 40 = .ok (.goto (-33), 3) := by decide +kernel
theorem dX3_countTicksIn_43 : decode cX3_countTicksIn 43 = .ok (.iload_n 2, 1) := by decide +kernel
theorem dX3_countTicksIn_44 : decode cX3_countTicksIn 44 = .ok (.ireturn, 1) := by decide +kernel
theorem dX4_init_0 : decode cX4_init 0 = .ok (.aload_n 0, 1) := by decide +kernel
theorem dX4_init_1 : decode cX4_init 1 = .ok (.invokespecial 3, 3) := by decide +kernel
theorem dX4_init_4 : decode cX4_init 4 = .ok (.aload_n 0, 1) := by decide +kernel
theorem dX4_init_5 : decode cX4_init 5 = .ok (.iload_n 1, 1) := by decide +kernel
theorem dX4_init_6 : decode cX4_init 6 = .ok (.putfield 9, 3) := by decide +kernel
theorem dX4_init_9 : decode cX4_init 9 = .ok (.aload_n 0, 1) := by decide +kernel
theorem dX4_init_10 : decode cX4_init 10 = .ok (.bipush 30, 2) := by decide +kernel
theorem dX4_init_12 : decode cX4_init 12 = .ok (.newarray .boolean, 2) := by decide +kernel
theorem dX4_init_14 : decode cX4_init 14 = .ok (.putfield 15, 3) := by decide +kernel
theorem dX4_init_17 : decode cX4_init 17 = .ok (.return_, 1) := by decide +kernel
theorem dX4_hasException_0 : decode cX4_hasException 0 = .ok (.iload_n 1, 1) := by decide +kernel
theorem dX4_hasException_1 : decode cX4_hasException 1 = .ok (.aload_n 0, 1) := by decide +kernel
theorem dX4_hasException_2 : decode cX4_hasException 2 = .ok (.getfield 15, 3) := by decide +kernel
theorem dX4_hasException_5 : decode cX4_hasException 5 = .ok (.arraylength, 1) := by decide +kernel
theorem dX4_hasException_6 : decode cX4_hasException 6 = .ok (.invokestatic 19, 3) := by decide +kernel
theorem dX4_hasException_9 : decode cX4_hasException 9 = .ok (.ifCond .eq 16, 3) := by decide +kernel
theorem dX4_hasException_12 : decode cX4_hasException 12 = .ok (.aload_n 0, 1) := by decide +kernel
theorem dX4_hasException_13 : decode cX4_hasException 13 = .ok (.getfield 15, 3) := by decide +kernel
theorem dX4_hasException_16 : decode cX4_hasException 16 = .ok (.iload_n 1, 1) := by decide +kernel
theorem dX4_hasException_17 : decode cX4_hasException 17 = .ok (.baload, 1) := by decide +kernel
theorem dX4_hasException_18 : decode cX4_hasException 18 = .ok (.ifCond .eq 7, 3) := by decide +kernel
theorem dX4_hasException_21 : decode cX4_hasException 21 = .ok (.iconst 1, 1) := by decide +kernel
theorem dX4_hasException_22 : decode cX4_hasException 22 = .ok (.goto 4, 3) := by decide +kernel
theorem dX4_hasException_25 : decode cX4_hasException 25 = .ok (.iconst 0, 1) := by decide +kernel
theorem dX4_hasException_26 : decode cX4_hasException 26 = .ok (.ireturn, 1) := by decide +kernel
theorem dX4_toggleException_0 : decode cX4_toggleException 0 = .ok (.iload_n 1, 1) := by decide +kernel
theorem dX4_toggleException_1 : decode cX4_toggleException 1 = .ok (.aload_n 0, 1) := by decide +kernel
theorem dX4_toggleException_2 : decode cX4_toggleException 2 = .ok (.getfield 15, 3) := by decide +kernel
theorem dX4_toggleException_5 : decode cX4_toggleException 5 = .ok (.arraylength, 1) := by decide +kernel
theorem dX4_toggleException_6 : decode cX4_toggleException 6 = .ok (.invokestatic 19, 3) := by decide +kernel
theorem dX4_toggleException_9 : decode cX4_toggleException 9 = .ok (.ifCond .eq 23, 3) := by decide +kernel
theorem dX4_toggleException_12 : decode cX4_toggleException 12 = .ok (.aload_n 0, 1) := by decide +kernel
theorem dX4_toggleException_13 : decode cX4_toggleException 13 = .ok (.getfield 15, 3) := by decide +kernel
theorem dX4_toggleException_16 : decode cX4_toggleException 16 = .ok (.iload_n 1, 1) := by decide +kernel
theorem dX4_toggleException_17 : decode cX4_toggleException 17 = .ok (.aload_n 0, 1) := by decide +kernel
theorem dX4_toggleException_18 : decode cX4_toggleException 18 = .ok (.getfield 15, 3) := by decide +kernel
theorem dX4_toggleException_21 : decode cX4_toggleException 21 = .ok (.iload_n 1, 1) := by decide +kernel
theorem dX4_toggleException_22 : decode cX4_toggleException 22 = .ok (.baload, 1) := by decide +kernel
theorem dX4_toggleException_23 : decode cX4_toggleException 23 = .ok (.ifCond .ne 7, 3) := by decide +kernel
theorem dX4_toggleException_26 : decode cX4_toggleException 26 = .ok (.iconst 1, 1) := by decide +kernel
theorem dX4_toggleException_27 : decode cX4_toggleException 27 = .ok (.goto 4, 3) := by decide +kernel
theorem dX4_toggleException_30 : decode cX4_toggleException 30 = .ok (.iconst 0, 1) := by decide +kernel
theorem dX4_toggleException_31 : decode cX4_toggleException 31 = .ok (.bastore, 1) := by decide +kernel
theorem dX4_toggleException_32 : decode cX4_toggleException 32 = .ok (.aload_n 0, 1) := by decide +kernel
theorem dX4_toggleException_33 : decode cX4_toggleException 33 = .ok (.iload_n 1, 1) := by decide +kernel
theorem dX4_toggleException_34 : decode cX4_toggleException 34 = .ok (.invokevirtual 23, 3) := by decide +kernel
theorem dX4_toggleException_37 : decode cX4_toggleException 37 = .ok (.ireturn, 1) := by decide +kernel
theorem dX5_init_0 : decode cX5_init 0 = .ok (.aload_n 0, 1) := by decide +kernel
theorem dX5_init_1 : decode cX5_init 1 = .ok (.invokespecial 1, 3) := by decide +kernel
theorem dX5_init_4 : decode cX5_init 4 = .ok (.aload_n 0, 1) := by decide +kernel
theorem dX5_init_5 : decode cX5_init 5 = .ok (.iload_n 1, 1) := by decide +kernel
theorem dX5_init_6 : decode cX5_init 6 = .ok (.putfield 7, 3) := by decide +kernel
theorem dX5_init_9 : decode cX5_init 9 = .ok (.aload_n 0, 1) := by decide +kernel
theorem dX5_init_10 : decode cX5_init 10 = .ok (.iload_n 2, 1) := by decide +kernel
theorem dX5_init_11 : decode cX5_init 11 = .ok (.putfield 13, 3) := by decide +kernel
theorem dX5_init_14 : decode cX5_init 14 = .ok (.aload_n 0, 1) := by decide +kernel
theorem dX5_init_15 : decode cX5_init 15 = .ok (.iload_n 3, 1) := by decide +kernel
theorem dX5_init_16 : decode cX5_init 16 = .ok (.putfield 16, 3) := by decide +kernel
theorem dX5_init_19 : decode cX5_init 19 = .ok (.return_, 1) := by decide +kernel
theorem dX6_init_0 : decode cX6_init 0 = .ok (.aload_n 0, 1) := by decide +kernel
theorem dX6_init_1 : decode cX6_init 1 = .ok (.invokespecial 1, 3) := by decide +kernel
theorem dX6_init_4 : decode cX6_init 4 = .ok (.aload_n 0, 1) := by decide +kernel
theorem dX6_init_5 : decode cX6_init 5 = .ok (.new 7, 3) := by decide +kernel
theorem dX6_init_8 : decode cX6_init 8 = .ok (.dup, 1) := by decide +kernel
theorem dX6_init_9 : decode cX6_init 9 = .ok (.invokespecial 9, 3) := by decide +kernel
theorem dX6_init_12 : decode cX6_init 12 = .ok (.putfield 10, 3) := by decide +kernel
theorem dX6_init_15 : decode cX6_init 15 = .ok (.aload_n 0, 1) := by decide +kernel
theorem dX6_init_16 : decode cX6_init 16 = .ok (.new 7, 3) := by decide +kernel
theorem dX6_init_19 : decode cX6_init 19 = .ok (.dup, 1) := by decide +kernel
theorem dX6_init_20 : decode cX6_init 20 = .ok (.invokespecial 9, 3) := by decide +kernel
theorem dX6_init_23 : decode cX6_init 23 = .ok (.putfield 16, 3) := by decide +kernel
theorem dX6_init_26 : decode cX6_init 26 = .ok (.aload_n 0, 1) := by decide +kernel
theorem dX6_init_27 : decode cX6_init 27 = .ok (.new 7, 3) := by decide +kernel
theorem dX6_init_30 : decode cX6_init 30 = .ok (.dup, 1) := by decide +kernel
theorem dX6_init_31 : decode cX6_init 31 = .ok (.invokespecial 9, 3) := by decide +kernel
theorem dX6_init_34 : decode cX6_init 34 = .ok (.putfield 19, 3) := by decide +kernel
theorem dX6_init_37 : decode cX6_init 37 = .ok (.aload_n 0, 1) := by decide +kernel
theorem dX6_init_38 : decode cX6_init 38 = .ok (.new 7, 3) := by decide +kernel
theorem dX6_init_41 : decode cX6_init 41 = .ok (.dup, 1) := by decide +kernel
theorem dX6_init_42 : decode cX6_init 42 = .ok (.invokespecial 9, 3) := by decide +kernel
theorem dX6_init_45 : decode cX6_init 45 = .ok (.putfield 22, 3) := by decide +kernel
theorem dX6_init_48 : decode cX6_init 48 = .ok (.aload_n 0, 1) := by decide +kernel
theorem dX6_init_49 : decode cX6_init 49 = .ok (.new 7, 3) := by decide +kernel
theorem dX6_init_52 : decode cX6_init 52 = .ok (.dup, 1) := by decide +kernel
theorem dX6_init_53 : decode cX6_init 53 = .ok (.invokespecial 9, 3) := by decide +kernel
theorem dX6_init_56 : decode cX6_init 56 = .ok (.putfield 25, 3) := by decide +kernel
theorem dX6_init_59 : decode cX6_init 59 = .ok (.aload_n 0, 1) := by decide +kernel
theorem dX6_init_60 : decode cX6_init 60 = .ok (.iconst 3, 1) := by decide +kernel
theorem dX6_init_61 : decode cX6_init 61 = .ok (.newarray .int, 2) := by decide +kernel
theorem dX6_init_63 : decode cX6_init 63 = .ok (.putfield 28, 3) := by decide +kernel
theorem dX6_init_66 : decode cX6_init 66 = .ok (.aload_n 0, 1) := by decide +kernel
theorem dX6_init_67 : decode cX6_init 67 = .ok (.sipush 200, 3) := by decide +kernel
theorem dX6_init_70 : decode cX6_init 70 = .ok (.newarray .int, 2) := by decide +kernel
theorem dX6_init_72 : decode cX6_init 72 = .ok (.putfield 32, 3) := by decide +kernel
theorem dX6_init_75 : decode cX6_init 75 = .ok (.aload_n 0, 1) := by decide +kernel
theorem dX6_init_76 : decode cX6_init 76 = .ok (.sipush 200, 3) := by decide +kernel
theorem dX6_init_79 : decode cX6_init 79 = .ok (.newarray .int, 2) := by decide +kernel
theorem dX6_init_81 : decode cX6_init 81 = .ok (.putfield 35, 3) := by decide +kernel
theorem dX6_init_84 : decode cX6_init 84 = .ok (.return_, 1) := by decide +kernel
theorem dX6_sign_0 : decode cX6_sign 0 = .ok (.iload_n 1, 1) := by decide +kernel
theorem dX6_sign_1 : decode cX6_sign 1 = .ok (.bipush 8, 2) := by decide +kernel
theorem dX6_sign_3 : decode cX6_sign 3 = .ok (.invokestatic 38, 3) := by decide +kernel
theorem dX6_sign_6 : decode cX6_sign 6 = .ok (.ifCond .eq 52, 3) := by decide +kernel
theorem dX6_sign_9 : decode cX6_sign 9 = .ok (.iload_n 2, 1) := by decide +kernel
theorem dX6_sign_10 : decode cX6_sign 10 = .ok (.bipush 9, 2) := by decide +kernel
theorem dX6_sign_12 : decode cX6_sign 12 = .ok (.invokestatic 38, 3) := by decide +kernel
theorem dX6_sign_15 : decode cX6_sign 15 = .ok (.ifCond .eq 43, 3) := by decide +kernel
theorem dX6_sign_18 : decode cX6_sign 18 = .ok (.iload_n 3, 1) := by decide +kernel
theorem dX6_sign_19 : decode cX6_sign 19 = .ok (.bipush 9, 2) := by decide +kernel
theorem dX6_sign_21 : decode cX6_sign 21 = .ok (.invokestatic 38, 3) := by decide +kernel
theorem dX6_sign_24 : decode cX6_sign 24 = .ok (.ifCond .eq 34, 3) := by decide +kernel
theorem dX6_sign_27 : decode cX6_sign 27 = .ok (.iload 4, 2) := by decide +kernel
theorem dX6_sign_29 : decode cX6_sign 29 = .ok (.iconst 4, 1) := by decide +kernel
theorem dX6_sign_30 : decode cX6_sign 30 = .ok (.invokestatic 38, 3) := by decide +kernel
theorem dX6_sign_33 : decode cX6_sign 33 = .ok (.ifCond .eq 25, 3) := by decide +kernel
theorem dX6_sign_36 : decode cX6_sign 36 = .ok (.iload 5, 2) := by decide +kernel
theorem dX6_sign_38 : decode cX6_sign 38 = .ok (.iconst 4, 1) := by decide +kernel
theorem dX6_sign_39 : decode cX6_sign 39 = .ok (.invokestatic 38, 3) := by decide +kernel
theorem dX6_sign_42 : decode cX6_sign 42 = .ok (.ifCond .eq 16, 3) := by decide +kernel
theorem dX6_sign_45 : decode cX6_sign 45 = .ok (.iload 6, 2) := by decide +kernel
theorem dX6_sign_47 : decode cX6_sign 47 = .ok (.iconst 3, 1) := by decide +kernel
theorem dX6_sign_48 : decode cX6_sign 48 = .ok (.invokestatic 38, 3) := by decide +kernel
theorem dX6_sign_51 : decode cX6_sign 51 = .ok (.ifCond .eq 7, 3) := by decide +kernel
theorem dX6_sign_54 : decode cX6_sign 54 = .ok (.iconst 1, 1) := by decide +kernel
theorem dX6_sign_55 : decode cX6_sign 55 = .ok (.goto 4, 3) := by decide +kernel
theorem dX6_sign_58 : decode cX6_sign 58 = .ok (.iconst 0, 1) := by decide +kernel
theorem dX6_sign_59 : decode cX6_sign 59 = .ok (.istore 8, 2) := by decide +kernel
theorem dX6_sign_61 : decode cX6_sign 61 = .ok (.iload 8, 2) := by decide +kernel
theorem dX6_sign_63 : decode cX6_sign 63 = .ok (.ifCond .ne 13, 3) := by decide +kernel
theorem dX6_sign_66 : decode cX6_sign 66 = .ok (.new 42, 3) := by decide +kernel
theorem dX6_sign_69 : decode cX6_sign 69 = .ok (.dup, 1) := by decide +kernel
theorem dX6_sign_70 : decode cX6_sign 70 = .ok (.ldc 44, 2) := by decide +kernel
theorem dX6_sign_72 : decode cX6_sign 72 = .ok (.invokespecial 46, 3) := by decide +kernel
theorem dX6_sign_75 : decode cX6_sign 75 = .ok (.athrow, 1) := by decide +kernel
theorem dX6_sign_76 : decode cX6_sign 76 = .ok (.iload 6, 2) := by decide +kernel
theorem dX6_sign_78 : decode cX6_sign 78 = .ok (.iconst 2, 1) := by decide +kernel
theorem dX6_sign_79 : decode cX6_sign 79 = .ok (.if_icmp .ne 22, 3) := by decide +kernel
theorem dX6_sign_82 : decode cX6_sign 82 = .ok (.iload_n 1, 1) := by decide +kernel
theorem dX6_sign_83 : decode cX6_sign 83 = .ok (.iload 7, 2) := by decide +kernel
theorem dX6_sign_85 : decode cX6_sign 85 = .ok (.invokestatic 49, 3) := by decide +kernel
theorem dX6_sign_88 : decode cX6_sign 88 = .ok (.ifCond .ne 13, 3) := by decide +kernel
theorem dX6_sign_91 : decode cX6_sign 91 = .ok (.new 42, 3) := by decide +kernel
theorem dX6_sign_94 : decode cX6_sign 94 = .ok (.dup, 1) := by decide +kernel
theorem dX6_sign_95 : decode cX6_sign 95 = .ok (.ldc 52, 2) := by decide +kernel
theorem dX6_sign_97 : decode cX6_sign 97 = .ok (.invokespecial 46, 3) := by decide +kernel
theorem dX6_sign_100 : decode cX6_sign 100 = .ok (.athrow, 1) := by decide +kernel
theorem dX6_sign_101 : decode cX6_sign 101 = .ok (.aload_n 0, 1) := by decide +kernel
theorem dX6_sign_102 : decode cX6_sign 102 = .ok (.getfield 10, 3) := by decide +kernel
theorem dX6_sign_105 : decode cX6_sign 105 = .ok (.invokevirtual 54, 3) := by decide +kernel
theorem dX6_sign_108 : decode cX6_sign 108 = .ok (.bipush 30, 2) := by decide +kernel
theorem dX6_sign_110 : decode cX6_sign 110 = .ok (.if_icmp .lt 13, 3) := by decide +kernel
theorem dX6_sign_113 : decode cX6_sign 113 = .ok (.new 58, 3) := by decide +kernel
theorem dX6_sign_116 : decode cX6_sign 116 = .ok (.dup, 1) := by decide +kernel
theorem dX6_sign_117 : decode cX6_sign 117 = .ok (.ldc 60, 2) := by decide +kernel
theorem dX6_sign_119 : decode cX6_sign 119 = .ok (.invokespecial 62, 3) := by decide +kernel
theorem dX6_sign_122 : decode cX6_sign 122 = .ok (.athrow, 1) := by decide +kernel
theorem dX6_sign_123 : decode cX6_sign 123 = .ok (.new 63, 3) := by decide +kernel
theorem dX6_sign_126 : decode cX6_sign 126 = .ok (.dup, 1) := by decide +kernel
theorem dX6_sign_127 : decode cX6_sign 127 = .ok (.iload_n 1, 1) := by decide +kernel
theorem dX6_sign_128 : decode cX6_sign 128 = .ok (.iload_n 2, 1) := by decide +kernel
theorem dX6_sign_129 : decode cX6_sign 129 = .ok (.iload_n 3, 1) := by decide +kernel
theorem dX6_sign_130 : decode cX6_sign 130 = .ok (.iload 4, 2) := by decide +kernel
theorem dX6_sign_132 : decode cX6_sign 132 = .ok (.iload 5, 2) := by decide +kernel
theorem dX6_sign_134 : decode cX6_sign 134 = .ok (.iload 6, 2) := by decide +kernel
theorem dX6_sign_136 : decode cX6_sign 136 = .ok (.iload 7, 2) := by decide +kernel
theorem dX6_sign_138 : decode cX6_sign 138 = .ok (.invokespecial 65, 3) := by decide +kernel
theorem dX6_sign_141 : decode cX6_sign 141 = .ok (.astore 9, 2) := by decide +kernel
theorem dX6_sign_143 : decode cX6_sign 143 = .ok (.aload_n 0, 1) := by decide +kernel
theorem dX6_sign_144 : decode cX6_sign 144 = .ok (.aload 9, 2) := by decide +kernel
theorem dX6_sign_146 : decode cX6_sign 146 = .ok (.invokevirtual 68, 3) := by decide +kernel
theorem dX6_sign_149 : decode cX6_sign 149 = .ok (.iconst (-1), 1) := by decide +kernel
theorem dX6_sign_150 : decode cX6_sign 150 = .ok (.if_icmp .eq 13, 3) := by decide +kernel
theorem dX6_sign_153 : decode cX6_sign 153 = .ok (.new 58, 3) := by decide +kernel
theorem dX6_sign_156 : decode cX6_sign 156 = .ok (.dup, 1) := by decide +kernel
theorem dX6_sign_157 : decode cX6_sign 157 = .ok (.ldc 72, 2) := by decide +kernel
theorem dX6_sign_159 : decode cX6_sign 159 = .ok (.invokespecial 62, 3) := by decide +kernel
theorem dX6_sign_162 : decode cX6_sign 162 = .ok (.athrow, 1) := by decide +kernel
theorem dX6_sign_163 : decode cX6_sign 163 = .ok (.aload_n 0, 1) := by decide +kernel
theorem dX6_sign_164 : decode cX6_sign 164 = .ok (.getfield 10, 3) := by decide +kernel
theorem dX6_sign_167 : decode cX6_sign 167 = .ok (.aload 9, 2) := by decide +kernel
theorem dX6_sign_169 : decode cX6_sign 169 = .ok (.invokevirtual 74, 3) := by decide +kernel
theorem dX6_sign_172 : decode cX6_sign 172 = .ok (.pop, 1) := by decide +kernel
theorem dX6_sign_173 : decode cX6_sign 173 = .ok (.aload_n 0, 1) := by decide +kernel
theorem dX6_sign_174 : decode cX6_sign 174 = .ok (.getfield 10, 3) := by decide +kernel
theorem dX6_sign_177 : decode cX6_sign 177 = .ok (.invokevirtual 54, 3) := by decide +kernel
theorem dX6_sign_180 : decode cX6_sign 180 = .ok (.iconst 1, 1) := by decide +kernel
theorem dX6_sign_181 : decode cX6_sign 181 = .ok (.isub, 1) := by decide +kernel
theorem dX6_sign_182 : decode cX6_sign 182 = .ok (.ireturn, 1) := by decide +kernel
theorem dX6_nearest_0 : decode cX6_nearest 0 = .ok (.aload_n 0, 1) := by decide +kernel
theorem dX6_nearest_1 : decode cX6_nearest 1 = .ok (.iload_n 1, 1) := by decide +kernel
theorem dX6_nearest_2 : decode cX6_nearest 2 = .ok (.invokevirtual 78, 3) := by decide +kernel
theorem dX6_nearest_5 : decode cX6_nearest 5 = .ok (.iload_n 2, 1) := by decide +kernel
theorem dX6_nearest_6 : decode cX6_nearest 6 = .ok (.iconst 2, 1) := by decide +kernel
theorem dX6_nearest_7 : decode cX6_nearest 7 = .ok (.invokestatic 38, 3) := by decide +kernel
theorem dX6_nearest_10 : decode cX6_nearest 10 = .ok (.ifCond .ne 13, 3) := by decide +kernel
theorem dX6_nearest_13 : decode cX6_nearest 13 = .ok (.new 42, 3) := by decide +kernel
theorem dX6_nearest_16 : decode cX6_nearest 16 = .ok (.dup, 1) := by decide +kernel
theorem dX6_nearest_17 : decode cX6_nearest 17 = .ok (.ldc 82, 2) := by decide +kernel
theorem dX6_nearest_19 : decode cX6_nearest 19 = .ok (.invokespecial 46, 3) := by decide +kernel
theorem dX6_nearest_22 : decode cX6_nearest 22 = .ok (.athrow, 1) := by decide +kernel
theorem dX6_nearest_23 : decode cX6_nearest 23 = .ok (.aload_n 0, 1) := by decide +kernel
theorem dX6_nearest_24 : decode cX6_nearest 24 = .ok (.getfield 10, 3) := by decide +kernel
theorem dX6_nearest_27 : decode cX6_nearest 27 = .ok (.iload_n 1, 1) := by decide +kernel
theorem dX6_nearest_28 : decode cX6_nearest 28 = .ok (.invokevirtual 84, 3) := by decide +kernel
theorem dX6_nearest_31 : decode cX6_nearest 31 = .ok (.checkcast 63, 3) := by decide +kernel
theorem dX6_nearest_34 : decode cX6_nearest 34 = .ok (.astore_n 3, 1) := by decide +kernel
theorem dX6_nearest_35 : decode cX6_nearest 35 = .ok (.iconst (-1), 1) := by decide +kernel
theorem dX6_nearest_36 : decode cX6_nearest 36 = .ok (.istore 4, 2) := by decide +kernel
theorem dX6_nearest_38 : decode cX6_nearest 38 = .ok (.iconst (-1), 1) := by decide +kernel
theorem dX6_nearest_39 : decode cX6_nearest 39 = .ok (.istore 5, 2) := by decide +kernel
theorem dX6_nearest_41 : decode cX6_nearest 41 = .ok (.iconst 0, 1) := by decide +kernel
theorem dX6_nearest_42 : decode cX6_nearest 42 = .ok (.istore 6, 2) := by decide +kernel
theorem dX6_nearest_44 : decode cX6_nearest 44 = .ok (.iload 6, 2) := by decide +kernel
theorem dX6_nearest_46 : decode cX6_nearest 46 = .ok (.aload_n 0, 1) := by decide +kernel
theorem dX6_nearest_47 : decode cX6_nearest 47 = .ok (.getfield 10, 3) := by decide +kernel
theorem dX6_nearest_50 : decode cX6_nearest 50 = .ok (.invokevirtual 54, 3) := by decide +kernel
theorem dX6_nearest_53 : decode cX6_nearest 53 = .ok (.if_icmp .ge 57, 3) := by decide +kernel
theorem dX6_nearest_56 : decode cX6_nearest 56 = .ok (.iload 6, 2) := by decide +kernel
theorem dX6_nearest_58 : decode cX6_nearest 58 = .ok (.iload_n 1, 1) := by decide +kernel
theorem dX6_nearest_59 : decode cX6_nearest 59 = .ok (.if_icmp .ne 6, 3) := by decide +kernel
theorem dX6_nearest_62 : decode cX6_nearest 62 = .ok (.goto 42, 3) := by decide +kernel
theorem dX6_nearest_65 : decode cX6_nearest 65 = .ok (.aload_n 3, 1) := by decide +kernel
theorem dX6_nearest_66 : decode cX6_nearest 66 = .ok (.aload_n 0, 1) := by decide +kernel
theorem dX6_nearest_67 : decode cX6_nearest 67 = .ok (.getfield 10, 3) := by decide +kernel
theorem dX6_nearest_70 : decode cX6_nearest 70 = .ok (.iload 6, 2) := by decide +kernel
theorem dX6_nearest_72 : decode cX6_nearest 72 = .ok (.invokevirtual 84, 3) := by decide +kernel
theorem dX6_nearest_75 : decode cX6_nearest 75 = .ok (.checkcast 63, 3) := by decide +kernel
theorem dX6_nearest_78 : decode cX6_nearest 78 = .ok (.invokevirtual 88, 3) := by decide +kernel
theorem dX6_nearest_81 : decode cX6_nearest 81 = .ok (.istore 7, 2) := by decide +kernel
theorem dX6_nearest_83 : decode cX6_nearest 83 = .ok (.iload 4, 2) := by decide +kernel
theorem dX6_nearest_85 : decode cX6_nearest 85 = .ok (.iconst (-1), 1) := by decide +kernel
theorem dX6_nearest_86 : decode cX6_nearest 86 = .ok (.if_icmp .eq 10, 3) := by decide +kernel
theorem dX6_nearest_89 : decode cX6_nearest 89 = .ok (.iload 7, 2) := by decide +kernel
theorem dX6_nearest_91 : decode cX6_nearest 91 = .ok (.iload 5, 2) := by decide +kernel
theorem dX6_nearest_93 : decode cX6_nearest 93 = .ok (.if_icmp .ge 11, 3) := by decide +kernel
theorem dX6_nearest_96 : decode cX6_nearest 96 = .ok (.iload 6, 2) := by decide +kernel
theorem dX6_nearest_98 : decode cX6_nearest 98 = .ok (.istore 4, 2) := by decide +kernel
theorem dX6_nearest_100 : decode cX6_nearest 100 = .ok (.iload 7, 2) := by decide +kernel
theorem dX6_nearest_102 : decode cX6_nearest 102 = .ok (.istore 5, 2) := by decide +kernel
theorem dX6_nearest_104 : decode cX6_nearest 104 = .ok (.iinc 6 1, 3) := by decide +kernel
theorem dX6_nearest_107 : decode cX6_nearest 107 = .ok (.goto (-63), 3) := by decide +kernel
theorem dX6_nearest_110 : decode cX6_nearest 110 = .ok (.iload_n 2, 1) := by decide +kernel
theorem dX6_nearest_111 : decode cX6_nearest 111 = .ok (.ifCond .ne 8, 3) := by decide +kernel
theorem dX6_nearest_114 : decode cX6_nearest 114 = .ok (.iload 4, 2) := by decide +kernel
theorem dX6_nearest_116 : decode cX6_nearest 116 = .ok (.goto 5, 3) := by decide +kernel
theorem dX6_nearest_119 : decode cX6_nearest 119 = .ok (.iload 5, 2) := by decide +kernel
theorem dX6_nearest_121 : decode cX6_nearest 121 = .ok (.ireturn, 1) := by decide +kernel
theorem dX6_written_0 : decode cX6_written 0 = .ok (.aload_n 0, 1) := by decide +kernel
theorem dX6_written_1 : decode cX6_written 1 = .ok (.iload_n 1, 1) := by decide +kernel
theorem dX6_written_2 : decode cX6_written 2 = .ok (.invokevirtual 78, 3) := by decide +kernel
theorem dX6_written_5 : decode cX6_written 5 = .ok (.iload_n 2, 1) := by decide +kernel
theorem dX6_written_6 : decode cX6_written 6 = .ok (.invokestatic 91, 3) := by decide +kernel
theorem dX6_written_9 : decode cX6_written 9 = .ok (.iload_n 2, 1) := by decide +kernel
theorem dX6_written_10 : decode cX6_written 10 = .ok (.aload_n 0, 1) := by decide +kernel
theorem dX6_written_11 : decode cX6_written 11 = .ok (.getfield 10, 3) := by decide +kernel
theorem dX6_written_14 : decode cX6_written 14 = .ok (.iload_n 1, 1) := by decide +kernel
theorem dX6_written_15 : decode cX6_written 15 = .ok (.invokevirtual 84, 3) := by decide +kernel
theorem dX6_written_18 : decode cX6_written 18 = .ok (.checkcast 63, 3) := by decide +kernel
theorem dX6_written_21 : decode cX6_written 21 = .ok (.invokestatic 94, 3) := by decide +kernel
theorem dX6_written_24 : decode cX6_written 24 = .ok (.ireturn, 1) := by decide +kernel
theorem dX6_loses_0 : decode cX6_loses 0 = .ok (.iload_n 1, 1) := by decide +kernel
theorem dX6_loses_1 : decode cX6_loses 1 = .ok (.invokestatic 91, 3) := by decide +kernel
theorem dX6_loses_4 : decode cX6_loses 4 = .ok (.iload_n 2, 1) := by decide +kernel
theorem dX6_loses_5 : decode cX6_loses 5 = .ok (.invokestatic 91, 3) := by decide +kernel
theorem dX6_loses_8 : decode cX6_loses 8 = .ok (.iconst 0, 1) := by decide +kernel
theorem dX6_loses_9 : decode cX6_loses 9 = .ok (.istore_n 3, 1) := by decide +kernel
theorem dX6_loses_10 : decode cX6_loses 10 = .ok (.iconst 0, 1) := by decide +kernel
theorem dX6_loses_11 : decode cX6_loses 11 = .ok (.istore 4, 2) := by decide +kernel
theorem dX6_loses_13 : decode cX6_loses 13 = .ok (.iload 4, 2) := by decide +kernel
theorem dX6_loses_15 : decode cX6_loses 15 = .ok (.aload_n 0, 1) := by decide +kernel
theorem dX6_loses_16 : decode cX6_loses 16 = .ok (.getfield 10, 3) := by decide +kernel
theorem dX6_loses_19 : decode cX6_loses 19 = .ok (.invokevirtual 54, 3) := by decide +kernel
theorem dX6_loses_22 : decode cX6_loses 22 = .ok (.if_icmp .ge 60, 3) := by decide +kernel
theorem dX6_loses_25 : decode cX6_loses 25 = .ok (.iload 4, 2) := by decide +kernel
theorem dX6_loses_27 : decode cX6_loses 27 = .ok (.iconst 1, 1) := by decide +kernel
theorem dX6_loses_28 : decode cX6_loses 28 = .ok (.iadd, 1) := by decide +kernel
theorem dX6_loses_29 : decode cX6_loses 29 = .ok (.istore 5, 2) := by decide +kernel
theorem dX6_loses_31 : decode cX6_loses 31 = .ok (.iload 5, 2) := by decide +kernel
theorem dX6_loses_33 : decode cX6_loses 33 = .ok (.aload_n 0, 1) := by decide +kernel
theorem dX6_loses_34 : decode cX6_loses 34 = .ok (.getfield 10, 3) := by decide +kernel
theorem dX6_loses_37 : decode cX6_loses 37 = .ok (.invokevirtual 54, 3) := by decide +kernel
theorem dX6_loses_40 : decode cX6_loses 40 = .ok (.if_icmp .ge 36, 3) := by decide +kernel
theorem dX6_loses_43 : decode cX6_loses 43 = .ok (.aload_n 0, 1) := by decide +kernel
theorem dX6_loses_44 : decode cX6_loses 44 = .ok (.iload_n 1, 1) := by decide +kernel
theorem dX6_loses_45 : decode cX6_loses 45 = .ok (.iload 4, 2) := by decide +kernel
theorem dX6_loses_47 : decode cX6_loses 47 = .ok (.iload 5, 2) := by decide +kernel
theorem dX6_loses_49 : decode cX6_loses 49 = .ok (.invokevirtual 98, 3) := by decide +kernel
theorem dX6_loses_52 : decode cX6_loses 52 = .ok (.ifCond .eq 18, 3) := by decide +kernel
theorem dX6_loses_55 : decode cX6_loses 55 = .ok (.aload_n 0, 1) := by decide +kernel
theorem dX6_loses_56 : decode cX6_loses 56 = .ok (.iload_n 2, 1) := by decide +kernel
theorem dX6_loses_57 : decode cX6_loses 57 = .ok (.iload 4, 2) := by decide +kernel
theorem dX6_loses_59 : decode cX6_loses 59 = .ok (.iload 5, 2) := by decide +kernel
theorem dX6_loses_61 : decode cX6_loses 61 = .ok (.invokevirtual 98, 3) := by decide +kernel
theorem dX6_loses_64 : decode cX6_loses 64 = .ok (.ifCond .ne 6, 3) := by decide +kernel
theorem dX6_loses_67 : decode cX6_loses 67 = .ok (.iinc 3 1, 3) := by decide +kernel
theorem dX6_loses_70 : decode cX6_loses 70 = .ok (.iinc 5 1, 3) := by decide +kernel
theorem dX6_loses_73 : decode cX6_loses 73 = .ok (.goto (-42), 3) := by decide +kernel
theorem dX6_loses_76 : decode cX6_loses 76 = .ok (.iinc 4 1, 3) := by decide +kernel
theorem dX6_loses_79 : decode cX6_loses 79 = .ok (.goto (-66), 3) := by decide +kernel
theorem dX6_loses_82 : decode cX6_loses 82 = .ok (.iload_n 3, 1) := by decide +kernel
theorem dX6_loses_83 : decode cX6_loses 83 = .ok (.ireturn, 1) := by decide +kernel
theorem dX6_tellsApart_0 : decode cX6_tellsApart 0 = .ok (.iload_n 1, 1) := by decide +kernel
theorem dX6_tellsApart_1 : decode cX6_tellsApart 1 = .ok (.aload_n 0, 1) := by decide +kernel
theorem dX6_tellsApart_2 : decode cX6_tellsApart 2 = .ok (.getfield 10, 3) := by decide +kernel
theorem dX6_tellsApart_5 : decode cX6_tellsApart 5 = .ok (.iload_n 2, 1) := by decide +kernel
theorem dX6_tellsApart_6 : decode cX6_tellsApart 6 = .ok (.invokevirtual 84, 3) := by decide +kernel
theorem dX6_tellsApart_9 : decode cX6_tellsApart 9 = .ok (.checkcast 63, 3) := by decide +kernel
theorem dX6_tellsApart_12 : decode cX6_tellsApart 12 = .ok (.invokestatic 94, 3) := by decide +kernel
theorem dX6_tellsApart_15 : decode cX6_tellsApart 15 = .ok (.iload_n 1, 1) := by decide +kernel
theorem dX6_tellsApart_16 : decode cX6_tellsApart 16 = .ok (.aload_n 0, 1) := by decide +kernel
theorem dX6_tellsApart_17 : decode cX6_tellsApart 17 = .ok (.getfield 10, 3) := by decide +kernel
theorem dX6_tellsApart_20 : decode cX6_tellsApart 20 = .ok (.iload_n 3, 1) := by decide +kernel
theorem dX6_tellsApart_21 : decode cX6_tellsApart 21 = .ok (.invokevirtual 84, 3) := by decide +kernel
theorem dX6_tellsApart_24 : decode cX6_tellsApart 24 = .ok (.checkcast 63, 3) := by decide +kernel
theorem dX6_tellsApart_27 : decode cX6_tellsApart 27 = .ok (.invokestatic 94, 3) := by decide +kernel
theorem dX6_tellsApart_30 : decode cX6_tellsApart 30 = .ok (.if_icmp .eq 7, 3) := by decide +kernel
theorem dX6_tellsApart_33 : decode cX6_tellsApart 33 = .ok (.iconst 1, 1) := by decide +kernel
theorem dX6_tellsApart_34 : decode cX6_tellsApart 34 = .ok (.goto 4, 3) := by decide +kernel
theorem dX6_tellsApart_37 : decode cX6_tellsApart 37 = .ok (.iconst 0, 1) := by decide +kernel
theorem dX6_tellsApart_38 : decode cX6_tellsApart 38 = .ok (.ireturn, 1) := by decide +kernel
theorem dX6_numberBy_0 : decode cX6_numberBy 0 = .ok (.iload_n 0, 1) := by decide +kernel
theorem dX6_numberBy_1 : decode cX6_numberBy 1 = .ok (.lookupswitch 76 #[(0, 27), (1, 48)], 27) := by decide +kernel
theorem dX6_numberBy_28 : decode cX6_numberBy 28 = .ok (.bipush 81, 2) := by decide +kernel
theorem dX6_numberBy_30 : decode cX6_numberBy 30 = .ok (.aload_n 1, 1) := by decide +kernel
theorem dX6_numberBy_31 : decode cX6_numberBy 31 = .ok (.getfield 102, 3) := by decide +kernel
theorem dX6_numberBy_34 : decode cX6_numberBy 34 = .ok (.imul, 1) := by decide +kernel
theorem dX6_numberBy_35 : decode cX6_numberBy 35 = .ok (.bipush 9, 2) := by decide +kernel
theorem dX6_numberBy_37 : decode cX6_numberBy 37 = .ok (.aload_n 1, 1) := by decide +kernel
theorem dX6_numberBy_38 : decode cX6_numberBy 38 = .ok (.getfield 106, 3) := by decide +kernel
theorem dX6_numberBy_41 : decode cX6_numberBy 41 = .ok (.imul, 1) := by decide +kernel
theorem dX6_numberBy_42 : decode cX6_numberBy 42 = .ok (.iadd, 1) := by decide +kernel
theorem dX6_numberBy_43 : decode cX6_numberBy 43 = .ok (.aload_n 1, 1) := by decide +kernel
theorem dX6_numberBy_44 : decode cX6_numberBy 44 = .ok (.getfield 109, 3) := by decide +kernel
theorem dX6_numberBy_47 : decode cX6_numberBy 47 = .ok (.iadd, 1) := by decide +kernel
theorem dX6_numberBy_48 : decode cX6_numberBy 48 = .ok (.ireturn, 1) := by decide +kernel
theorem dX6_numberBy_49 : decode cX6_numberBy 49 = .ok (.bipush 48, 2) := by decide +kernel
theorem dX6_numberBy_51 : decode cX6_numberBy 51 = .ok (.aload_n 1, 1) := by decide +kernel
theorem dX6_numberBy_52 : decode cX6_numberBy 52 = .ok (.getfield 102, 3) := by decide +kernel
theorem dX6_numberBy_55 : decode cX6_numberBy 55 = .ok (.imul, 1) := by decide +kernel
theorem dX6_numberBy_56 : decode cX6_numberBy 56 = .ok (.bipush 12, 2) := by decide +kernel
theorem dX6_numberBy_58 : decode cX6_numberBy 58 = .ok (.aload_n 1, 1) := by decide +kernel
theorem dX6_numberBy_59 : decode cX6_numberBy 59 = .ok (.getfield 112, 3) := by decide +kernel
theorem dX6_numberBy_62 : decode cX6_numberBy 62 = .ok (.imul, 1) := by decide +kernel
theorem dX6_numberBy_63 : decode cX6_numberBy 63 = .ok (.iadd, 1) := by decide +kernel
theorem dX6_numberBy_64 : decode cX6_numberBy 64 = .ok (.iconst 3, 1) := by decide +kernel
theorem dX6_numberBy_65 : decode cX6_numberBy 65 = .ok (.aload_n 1, 1) := by decide +kernel
theorem dX6_numberBy_66 : decode cX6_numberBy 66 = .ok (.getfield 115, 3) := by decide +kernel
theorem dX6_numberBy_69 : decode cX6_numberBy 69 = .ok (.imul, 1) := by decide +kernel
theorem dX6_numberBy_70 : decode cX6_numberBy 70 = .ok (.iadd, 1) := by decide +kernel
theorem dX6_numberBy_71 : decode cX6_numberBy 71 = .ok (.aload_n 1, 1) := by decide +kernel
theorem dX6_numberBy_72 : decode cX6_numberBy 72 = .ok (.getfield 118, 3) := by decide +kernel
theorem dX6_numberBy_75 : decode cX6_numberBy 75 = .ok (.iadd, 1) := by decide +kernel
theorem dX6_numberBy_76 : decode cX6_numberBy 76 = .ok (.ireturn, 1) := by decide +kernel
theorem dX6_numberBy_77 : decode cX6_numberBy 77 = .ok (.aload_n 1, 1) := by decide +kernel
theorem dX6_numberBy_78 : decode cX6_numberBy 78 = .ok (.getfield 102, 3) := by decide +kernel
theorem dX6_numberBy_81 : decode cX6_numberBy 81 = .ok (.iconst 4, 1) := by decide +kernel
theorem dX6_numberBy_82 : decode cX6_numberBy 82 = .ok (.if_icmp .ge 8, 3) := by decide +kernel
theorem dX6_numberBy_85 : decode cX6_numberBy 85 = .ok (.bipush 9, 2) := by decide +kernel
theorem dX6_numberBy_87 : decode cX6_numberBy 87 = .ok (.goto 4, 3) := by decide +kernel
theorem dX6_numberBy_90 : decode cX6_numberBy 90 = .ok (.iconst 0, 1) := by decide +kernel
theorem dX6_numberBy_91 : decode cX6_numberBy 91 = .ok (.istore_n 2, 1) := by decide +kernel
theorem dX6_numberBy_92 : decode cX6_numberBy 92 = .ok (.aload_n 1, 1) := by decide +kernel
theorem dX6_numberBy_93 : decode cX6_numberBy 93 = .ok (.getfield 106, 3) := by decide +kernel
theorem dX6_numberBy_96 : decode cX6_numberBy 96 = .ok (.invokestatic 121, 3) := by decide +kernel
theorem dX6_numberBy_99 : decode cX6_numberBy 99 = .ok (.aload_n 1, 1) := by decide +kernel
theorem dX6_numberBy_100 : decode cX6_numberBy 100 = .ok (.getfield 109, 3) := by decide +kernel
theorem dX6_numberBy_103 : decode cX6_numberBy 103 = .ok (.invokestatic 121, 3) := by decide +kernel
theorem dX6_numberBy_106 : decode cX6_numberBy 106 = .ok (.invokestatic 125, 3) := by decide +kernel
theorem dX6_numberBy_109 : decode cX6_numberBy 109 = .ok (.iconst 1, 1) := by decide +kernel
theorem dX6_numberBy_110 : decode cX6_numberBy 110 = .ok (.iadd, 1) := by decide +kernel
theorem dX6_numberBy_111 : decode cX6_numberBy 111 = .ok (.istore_n 3, 1) := by decide +kernel
theorem dX6_numberBy_112 : decode cX6_numberBy 112 = .ok (.aload_n 1, 1) := by decide +kernel
theorem dX6_numberBy_113 : decode cX6_numberBy 113 = .ok (.getfield 106, 3) := by decide +kernel
theorem dX6_numberBy_116 : decode cX6_numberBy 116 = .ok (.invokestatic 129, 3) := by decide +kernel
theorem dX6_numberBy_119 : decode cX6_numberBy 119 = .ok (.aload_n 1, 1) := by decide +kernel
theorem dX6_numberBy_120 : decode cX6_numberBy 120 = .ok (.getfield 109, 3) := by decide +kernel
theorem dX6_numberBy_123 : decode cX6_numberBy 123 = .ok (.invokestatic 129, 3) := by decide +kernel
theorem dX6_numberBy_126 : decode cX6_numberBy 126 = .ok (.invokestatic 125, 3) := by decide +kernel
theorem dX6_numberBy_129 : decode cX6_numberBy 129 = .ok (.iconst 1, 1) := by decide +kernel
theorem dX6_numberBy_130 : decode cX6_numberBy 130 = .ok (.iadd, 1) := by decide +kernel
theorem dX6_numberBy_131 : decode cX6_numberBy 131 = .ok (.istore 4, 2) := by decide +kernel
theorem dX6_numberBy_133 : decode cX6_numberBy 133 = .ok (.iload_n 2, 1) := by decide +kernel
theorem dX6_numberBy_134 : decode cX6_numberBy 134 = .ok (.iconst 3, 1) := by decide +kernel
theorem dX6_numberBy_135 : decode cX6_numberBy 135 = .ok (.iload_n 3, 1) := by decide +kernel
theorem dX6_numberBy_136 : decode cX6_numberBy 136 = .ok (.imul, 1) := by decide +kernel
theorem dX6_numberBy_137 : decode cX6_numberBy 137 = .ok (.iadd, 1) := by decide +kernel
theorem dX6_numberBy_138 : decode cX6_numberBy 138 = .ok (.iload 4, 2) := by decide +kernel
theorem dX6_numberBy_140 : decode cX6_numberBy 140 = .ok (.iadd, 1) := by decide +kernel
theorem dX6_numberBy_141 : decode cX6_numberBy 141 = .ok (.ireturn, 1) := by decide +kernel
theorem dX6_isPossibleBase_0 : decode cX6_isPossibleBase 0 = .ok (.iload_n 1, 1) := by decide +kernel
theorem dX6_isPossibleBase_1 : decode cX6_isPossibleBase 1 = .ok (.iload_n 0, 1) := by decide +kernel
theorem dX6_isPossibleBase_2 : decode cX6_isPossibleBase 2 = .ok (.if_icmp .eq 11, 3) := by decide +kernel
theorem dX6_isPossibleBase_5 : decode cX6_isPossibleBase 5 = .ok (.iload_n 1, 1) := by decide +kernel
theorem dX6_isPossibleBase_6 : decode cX6_isPossibleBase 6 = .ok (.iconst 4, 1) := by decide +kernel
theorem dX6_isPossibleBase_7 : decode cX6_isPossibleBase 7 = .ok (.invokestatic 38, 3) := by decide +kernel
theorem dX6_isPossibleBase_10 : decode cX6_isPossibleBase 10 = .ok (.ifCond .eq 7, 3) := by decide +kernel
theorem dX6_isPossibleBase_13 : decode cX6_isPossibleBase 13 = .ok (.iconst 1, 1) := by decide +kernel
theorem dX6_isPossibleBase_14 : decode cX6_isPossibleBase 14 = .ok (.goto 4, 3) := by decide +kernel
theorem dX6_isPossibleBase_17 : decode cX6_isPossibleBase 17 = .ok (.iconst 0, 1) := by decide +kernel
theorem dX6_isPossibleBase_18 : decode cX6_isPossibleBase 18 = .ok (.ireturn, 1) := by decide +kernel
theorem dX6_firstSignJustLike_0 : decode cX6_firstSignJustLike 0 = .ok (.iconst 0, 1) := by decide +kernel
theorem dX6_firstSignJustLike_1 : decode cX6_firstSignJustLike 1 = .ok (.istore_n 2, 1) := by decide +kernel
theorem dX6_firstSignJustLike_2 : decode cX6_firstSignJustLike 2 = .ok (.iload_n 2, 1) := by decide +kernel
theorem dX6_firstSignJustLike_3 : decode cX6_firstSignJustLike 3 = .ok (.aload_n 0, 1) := by decide +kernel
theorem dX6_firstSignJustLike_4 : decode cX6_firstSignJustLike 4 = .ok (.getfield 10, 3) := by decide +kernel
theorem dX6_firstSignJustLike_7 : decode cX6_firstSignJustLike 7 = .ok (.invokevirtual 54, 3) := by decide +kernel
theorem dX6_firstSignJustLike_10 : decode cX6_firstSignJustLike 10 = .ok (.if_icmp .ge 29, 3) := by decide +kernel
theorem dX6_firstSignJustLike_13 : decode cX6_firstSignJustLike 13 = .ok (.aload_n 0, 1) := by decide +kernel
theorem dX6_firstSignJustLike_14 : decode cX6_firstSignJustLike 14 = .ok (.getfield 10, 3) := by decide +kernel
theorem dX6_firstSignJustLike_17 : decode cX6_firstSignJustLike 17 = .ok (.iload_n 2, 1) := by decide +kernel
theorem dX6_firstSignJustLike_18 : decode cX6_firstSignJustLike 18 = .ok (.invokevirtual 84, 3) := by decide +kernel
theorem dX6_firstSignJustLike_21 : decode cX6_firstSignJustLike 21 = .ok (.checkcast 63, 3) := by decide +kernel
theorem dX6_firstSignJustLike_24 : decode cX6_firstSignJustLike 24 = .ok (.aload_n 1, 1) := by decide +kernel
theorem dX6_firstSignJustLike_25 : decode cX6_firstSignJustLike 25 = .ok (.invokevirtual 132, 3) := by decide +kernel
theorem dX6_firstSignJustLike_28 : decode cX6_firstSignJustLike 28 = .ok (.ifCond .eq 5, 3) := by decide +kernel
theorem dX6_firstSignJustLike_31 : decode cX6_firstSignJustLike 31 = .ok (.iload_n 2, 1) := by decide +kernel
theorem dX6_firstSignJustLike_32 : decode cX6_firstSignJustLike 32 = .ok (.ireturn, 1) := by decide +kernel
theorem dX6_firstSignJustLike_33 : decode cX6_firstSignJustLike 33 = .ok (.iinc 2 1, 3) := by decide +kernel
theorem dX6_firstSignJustLike_36 : decode cX6_firstSignJustLike 36 = .ok (.goto (-34), 3) := by decide +kernel
theorem dX6_firstSignJustLike_39 : decode cX6_firstSignJustLike 39 = .ok (.iconst (-1), 1) := by decide +kernel
theorem dX6_firstSignJustLike_40 : decode cX6_firstSignJustLike 40 = .ok (.ireturn, 1) := by decide +kernel
theorem dX6_countSignsJustLike_0 : decode cX6_countSignsJustLike 0 = .ok (.iconst 0, 1) := by decide +kernel
theorem dX6_countSignsJustLike_1 : decode cX6_countSignsJustLike 1 = .ok (.istore_n 2, 1) := by decide +kernel
theorem dX6_countSignsJustLike_2 : decode cX6_countSignsJustLike 2 = .ok (.iconst 0, 1) := by decide +kernel
theorem dX6_countSignsJustLike_3 : decode cX6_countSignsJustLike 3 = .ok (.istore_n 3, 1) := by decide +kernel
theorem dX6_countSignsJustLike_4 : decode cX6_countSignsJustLike 4 = .ok (.iload_n 3, 1) := by decide +kernel
theorem dX6_countSignsJustLike_5 : decode cX6_countSignsJustLike 5 = .ok (.aload_n 0, 1) := by decide +kernel
theorem dX6_countSignsJustLike_6 : decode cX6_countSignsJustLike 6 = .ok (.getfield 10, 3) := by decide +kernel
theorem dX6_countSignsJustLike_9 : decode cX6_countSignsJustLike 9 = .ok (.invokevirtual 54, 3) := by decide +kernel
theorem dX6_countSignsJustLike_12 : decode cX6_countSignsJustLike 12 = .ok (.if_icmp .ge 30, 3) := by decide +kernel
theorem dX6_countSignsJustLike_15 : decode cX6_countSignsJustLike 15 = .ok (.aload_n 0, 1) := by decide +kernel
theorem dX6_countSignsJustLike_16 : decode cX6_countSignsJustLike 16 = .ok (.getfield 10, 3) := by decide +kernel
theorem dX6_countSignsJustLike_19 : decode cX6_countSignsJustLike 19 = .ok (.iload_n 3, 1) := by decide +kernel
theorem dX6_countSignsJustLike_20 : decode cX6_countSignsJustLike 20 = .ok (.invokevirtual 84, 3) := by decide +kernel
theorem dX6_countSignsJustLike_23 : decode cX6_countSignsJustLike 23 = .ok (.checkcast 63, 3) := by decide +kernel
theorem dX6_countSignsJustLike_26 : decode cX6_countSignsJustLike 26 = .ok (.aload_n 1, 1) := by decide +kernel
theorem dX6_countSignsJustLike_27 : decode cX6_countSignsJustLike 27 = .ok (.invokevirtual 132, 3) := by decide +kernel
theorem dX6_countSignsJustLike_30 : decode cX6_countSignsJustLike 30 = .ok (.ifCond .eq 6, 3) := by decide +kernel
theorem dX6_countSignsJustLike_33 : decode cX6_countSignsJustLike 33 = .ok (.iinc 2 1, 3) := by decide +kernel
theorem dX6_countSignsJustLike_36 : decode cX6_countSignsJustLike 36 = .ok (.iinc 3 1, 3) := by decide +kernel
theorem dX6_countSignsJustLike_39 : decode cX6_countSignsJustLike 39 = .ok (.goto (-35), 3) := by decide +kernel
theorem dX6_countSignsJustLike_42 : decode cX6_countSignsJustLike 42 = .ok (.iload_n 2, 1) := by decide +kernel
theorem dX6_countSignsJustLike_43 : decode cX6_countSignsJustLike 43 = .ok (.ireturn, 1) := by decide +kernel
theorem dX6_isSign_0 : decode cX6_isSign 0 = .ok (.iload_n 1, 1) := by decide +kernel
theorem dX6_isSign_1 : decode cX6_isSign 1 = .ok (.aload_n 0, 1) := by decide +kernel
theorem dX6_isSign_2 : decode cX6_isSign 2 = .ok (.getfield 10, 3) := by decide +kernel
theorem dX6_isSign_5 : decode cX6_isSign 5 = .ok (.invokevirtual 54, 3) := by decide +kernel
theorem dX6_isSign_8 : decode cX6_isSign 8 = .ok (.invokestatic 38, 3) := by decide +kernel
theorem dX6_isSign_11 : decode cX6_isSign 11 = .ok (.ireturn, 1) := by decide +kernel
theorem dX6_requireSign_0 : decode cX6_requireSign 0 = .ok (.aload_n 0, 1) := by decide +kernel
theorem dX6_requireSign_1 : decode cX6_requireSign 1 = .ok (.iload_n 1, 1) := by decide +kernel
theorem dX6_requireSign_2 : decode cX6_requireSign 2 = .ok (.invokevirtual 136, 3) := by decide +kernel
theorem dX6_requireSign_5 : decode cX6_requireSign 5 = .ok (.ifCond .ne 13, 3) := by decide +kernel
theorem dX6_requireSign_8 : decode cX6_requireSign 8 = .ok (.new 140, 3) := by decide +kernel
theorem dX6_requireSign_11 : decode cX6_requireSign 11 = .ok (.dup, 1) := by decide +kernel
theorem dX6_requireSign_12 : decode cX6_requireSign 12 = .ok (.ldc 142, 2) := by decide +kernel
theorem dX6_requireSign_14 : decode cX6_requireSign 14 = .ok (.invokespecial 144, 3) := by decide +kernel
theorem dX6_requireSign_17 : decode cX6_requireSign 17 = .ok (.athrow, 1) := by decide +kernel
theorem dX6_requireSign_18 : decode cX6_requireSign 18 = .ok (.return_, 1) := by decide +kernel
theorem dX6_requireSchool_0 : decode cX6_requireSchool 0 = .ok (.iload_n 0, 1) := by decide +kernel
theorem dX6_requireSchool_1 : decode cX6_requireSchool 1 = .ok (.iconst 3, 1) := by decide +kernel
theorem dX6_requireSchool_2 : decode cX6_requireSchool 2 = .ok (.invokestatic 38, 3) := by decide +kernel
theorem dX6_requireSchool_5 : decode cX6_requireSchool 5 = .ok (.ifCond .ne 13, 3) := by decide +kernel
theorem dX6_requireSchool_8 : decode cX6_requireSchool 8 = .ok (.new 42, 3) := by decide +kernel
theorem dX6_requireSchool_11 : decode cX6_requireSchool 11 = .ok (.dup, 1) := by decide +kernel
theorem dX6_requireSchool_12 : decode cX6_requireSchool 12 = .ok (.ldc 145, 2) := by decide +kernel
theorem dX6_requireSchool_14 : decode cX6_requireSchool 14 = .ok (.invokespecial 46, 3) := by decide +kernel
theorem dX6_requireSchool_17 : decode cX6_requireSchool 17 = .ok (.athrow, 1) := by decide +kernel
theorem dX6_requireSchool_18 : decode cX6_requireSchool 18 = .ok (.return_, 1) := by decide +kernel
theorem dX6_item_0 : decode cX6_item 0 = .ok (.aload_n 0, 1) := by decide +kernel
theorem dX6_item_1 : decode cX6_item 1 = .ok (.iload_n 1, 1) := by decide +kernel
theorem dX6_item_2 : decode cX6_item 2 = .ok (.iload_n 2, 1) := by decide +kernel
theorem dX6_item_3 : decode cX6_item 3 = .ok (.iload_n 3, 1) := by decide +kernel
theorem dX6_item_4 : decode cX6_item 4 = .ok (.iload 4, 2) := by decide +kernel
theorem dX6_item_6 : decode cX6_item 6 = .ok (.invokevirtual 147, 3) := by decide +kernel
theorem dX6_item_9 : decode cX6_item 9 = .ok (.ifCond .ne 13, 3) := by decide +kernel
theorem dX6_item_12 : decode cX6_item 12 = .ok (.new 140, 3) := by decide +kernel
theorem dX6_item_15 : decode cX6_item 15 = .ok (.dup, 1) := by decide +kernel
theorem dX6_item_16 : decode cX6_item 16 = .ok (.ldc 151, 2) := by decide +kernel
theorem dX6_item_18 : decode cX6_item 18 = .ok (.invokespecial 144, 3) := by decide +kernel
theorem dX6_item_21 : decode cX6_item 21 = .ok (.athrow, 1) := by decide +kernel
theorem dX6_item_22 : decode cX6_item 22 = .ok (.iload_n 1, 1) := by decide +kernel
theorem dX6_item_23 : decode cX6_item 23 = .ok (.iload_n 2, 1) := by decide +kernel
theorem dX6_item_24 : decode cX6_item 24 = .ok (.iload_n 3, 1) := by decide +kernel
theorem dX6_item_25 : decode cX6_item 25 = .ok (.iload 4, 2) := by decide +kernel
theorem dX6_item_27 : decode cX6_item 27 = .ok (.invokestatic 153, 3) := by decide +kernel
theorem dX6_item_30 : decode cX6_item 30 = .ok (.ifCond .ne 13, 3) := by decide +kernel
theorem dX6_item_33 : decode cX6_item 33 = .ok (.new 42, 3) := by decide +kernel
theorem dX6_item_36 : decode cX6_item 36 = .ok (.dup, 1) := by decide +kernel
theorem dX6_item_37 : decode cX6_item 37 = .ok (.ldc 156, 2) := by decide +kernel
theorem dX6_item_39 : decode cX6_item 39 = .ok (.invokespecial 46, 3) := by decide +kernel
theorem dX6_item_42 : decode cX6_item 42 = .ok (.athrow, 1) := by decide +kernel
theorem dX6_item_43 : decode cX6_item 43 = .ok (.aload_n 0, 1) := by decide +kernel
theorem dX6_item_44 : decode cX6_item 44 = .ok (.getfield 16, 3) := by decide +kernel
theorem dX6_item_47 : decode cX6_item 47 = .ok (.invokevirtual 54, 3) := by decide +kernel
theorem dX6_item_50 : decode cX6_item 50 = .ok (.bipush 14, 2) := by decide +kernel
theorem dX6_item_52 : decode cX6_item 52 = .ok (.if_icmp .lt 13, 3) := by decide +kernel
theorem dX6_item_55 : decode cX6_item 55 = .ok (.new 58, 3) := by decide +kernel
theorem dX6_item_58 : decode cX6_item 58 = .ok (.dup, 1) := by decide +kernel
theorem dX6_item_59 : decode cX6_item 59 = .ok (.ldc 158, 2) := by decide +kernel
theorem dX6_item_61 : decode cX6_item 61 = .ok (.invokespecial 62, 3) := by decide +kernel
theorem dX6_item_64 : decode cX6_item 64 = .ok (.athrow, 1) := by decide +kernel
theorem dX6_item_65 : decode cX6_item 65 = .ok (.aload_n 0, 1) := by decide +kernel
theorem dX6_item_66 : decode cX6_item 66 = .ok (.iload_n 1, 1) := by decide +kernel
theorem dX6_item_67 : decode cX6_item 67 = .ok (.iload_n 2, 1) := by decide +kernel
theorem dX6_item_68 : decode cX6_item 68 = .ok (.iload_n 3, 1) := by decide +kernel
theorem dX6_item_69 : decode cX6_item 69 = .ok (.iload 4, 2) := by decide +kernel
theorem dX6_item_71 : decode cX6_item 71 = .ok (.invokevirtual 160, 3) := by decide +kernel
theorem dX6_item_74 : decode cX6_item 74 = .ok (.ifCond .ne 13, 3) := by decide +kernel
theorem dX6_item_77 : decode cX6_item 77 = .ok (.new 58, 3) := by decide +kernel
theorem dX6_item_80 : decode cX6_item 80 = .ok (.dup, 1) := by decide +kernel
theorem dX6_item_81 : decode cX6_item 81 = .ok (.ldc 163, 2) := by decide +kernel
theorem dX6_item_83 : decode cX6_item 83 = .ok (.invokespecial 62, 3) := by decide +kernel
theorem dX6_item_86 : decode cX6_item 86 = .ok (.athrow, 1) := by decide +kernel
theorem dX6_item_87 : decode cX6_item 87 = .ok (.aload_n 0, 1) := by decide +kernel
theorem dX6_item_88 : decode cX6_item 88 = .ok (.getfield 16, 3) := by decide +kernel
theorem dX6_item_91 : decode cX6_item 91 = .ok (.new 165, 3) := by decide +kernel
theorem dX6_item_94 : decode cX6_item 94 = .ok (.dup, 1) := by decide +kernel
theorem dX6_item_95 : decode cX6_item 95 = .ok (.iload_n 1, 1) := by decide +kernel
theorem dX6_item_96 : decode cX6_item 96 = .ok (.iload_n 2, 1) := by decide +kernel
theorem dX6_item_97 : decode cX6_item 97 = .ok (.iload_n 3, 1) := by decide +kernel
theorem dX6_item_98 : decode cX6_item 98 = .ok (.aload_n 0, 1) := by decide +kernel
theorem dX6_item_99 : decode cX6_item 99 = .ok (.iload_n 1, 1) := by decide +kernel
theorem dX6_item_100 : decode cX6_item 100 = .ok (.iload_n 2, 1) := by decide +kernel
theorem dX6_item_101 : decode cX6_item 101 = .ok (.iload_n 3, 1) := by decide +kernel
theorem dX6_item_102 : decode cX6_item 102 = .ok (.iload 4, 2) := by decide +kernel
theorem dX6_item_104 : decode cX6_item 104 = .ok (.invokevirtual 167, 3) := by decide +kernel
theorem dX6_item_107 : decode cX6_item 107 = .ok (.invokespecial 171, 3) := by decide +kernel
theorem dX6_item_110 : decode cX6_item 110 = .ok (.invokevirtual 74, 3) := by decide +kernel
theorem dX6_item_113 : decode cX6_item 113 = .ok (.pop, 1) := by decide +kernel
theorem dX6_item_114 : decode cX6_item 114 = .ok (.aload_n 0, 1) := by decide +kernel
theorem dX6_item_115 : decode cX6_item 115 = .ok (.getfield 16, 3) := by decide +kernel
theorem dX6_item_118 : decode cX6_item 118 = .ok (.invokevirtual 54, 3) := by decide +kernel
theorem dX6_item_121 : decode cX6_item 121 = .ok (.ireturn, 1) := by decide +kernel
theorem dX6_clear_0 : decode cX6_clear 0 = .ok (.aload_n 0, 1) := by decide +kernel
theorem dX6_clear_1 : decode cX6_clear 1 = .ok (.getfield 16, 3) := by decide +kernel
theorem dX6_clear_4 : decode cX6_clear 4 = .ok (.invokevirtual 54, 3) := by decide +kernel
theorem dX6_clear_7 : decode cX6_clear 7 = .ok (.istore_n 1, 1) := by decide +kernel
theorem dX6_clear_8 : decode cX6_clear 8 = .ok (.aload_n 0, 1) := by decide +kernel
theorem dX6_clear_9 : decode cX6_clear 9 = .ok (.getfield 16, 3) := by decide +kernel
theorem dX6_clear_12 : decode cX6_clear 12 = .ok (.invokevirtual 174, 3) := by decide +kernel
theorem dX6_clear_15 : decode cX6_clear 15 = .ok (.aload_n 0, 1) := by decide +kernel
theorem dX6_clear_16 : decode cX6_clear 16 = .ok (.getfield 19, 3) := by decide +kernel
theorem dX6_clear_19 : decode cX6_clear 19 = .ok (.invokevirtual 174, 3) := by decide +kernel
theorem dX6_clear_22 : decode cX6_clear 22 = .ok (.iload_n 1, 1) := by decide +kernel
theorem dX6_clear_23 : decode cX6_clear 23 = .ok (.ireturn, 1) := by decide +kernel
theorem dX6_face_0 : decode cX6_face 0 = .ok (.aload_n 0, 1) := by decide +kernel
theorem dX6_face_1 : decode cX6_face 1 = .ok (.iload_n 2, 1) := by decide +kernel
theorem dX6_face_2 : decode cX6_face 2 = .ok (.invokevirtual 177, 3) := by decide +kernel
theorem dX6_face_5 : decode cX6_face 5 = .ok (.aload_n 0, 1) := by decide +kernel
theorem dX6_face_6 : decode cX6_face 6 = .ok (.iload_n 3, 1) := by decide +kernel
theorem dX6_face_7 : decode cX6_face 7 = .ok (.invokevirtual 177, 3) := by decide +kernel
theorem dX6_face_10 : decode cX6_face 10 = .ok (.iload_n 1, 1) := by decide +kernel
theorem dX6_face_11 : decode cX6_face 11 = .ok (.iconst 4, 1) := by decide +kernel
theorem dX6_face_12 : decode cX6_face 12 = .ok (.invokestatic 38, 3) := by decide +kernel
theorem dX6_face_15 : decode cX6_face 15 = .ok (.ifCond .eq 8, 3) := by decide +kernel
theorem dX6_face_18 : decode cX6_face 18 = .ok (.iload_n 3, 1) := by decide +kernel
theorem dX6_face_19 : decode cX6_face 19 = .ok (.iload_n 2, 1) := by decide +kernel
theorem dX6_face_20 : decode cX6_face 20 = .ok (.if_icmp .ge 13, 3) := by decide +kernel
theorem dX6_face_23 : decode cX6_face 23 = .ok (.new 42, 3) := by decide +kernel
theorem dX6_face_26 : decode cX6_face 26 = .ok (.dup, 1) := by decide +kernel
theorem dX6_face_27 : decode cX6_face 27 = .ok (.ldc 180, 2) := by decide +kernel
theorem dX6_face_29 : decode cX6_face 29 = .ok (.invokespecial 46, 3) := by decide +kernel
theorem dX6_face_32 : decode cX6_face 32 = .ok (.athrow, 1) := by decide +kernel
theorem dX6_face_33 : decode cX6_face 33 = .ok (.aload_n 0, 1) := by decide +kernel
theorem dX6_face_34 : decode cX6_face 34 = .ok (.getfield 19, 3) := by decide +kernel
theorem dX6_face_37 : decode cX6_face 37 = .ok (.invokevirtual 54, 3) := by decide +kernel
theorem dX6_face_40 : decode cX6_face 40 = .ok (.bipush 8, 2) := by decide +kernel
theorem dX6_face_42 : decode cX6_face 42 = .ok (.if_icmp .lt 13, 3) := by decide +kernel
theorem dX6_face_45 : decode cX6_face 45 = .ok (.new 58, 3) := by decide +kernel
theorem dX6_face_48 : decode cX6_face 48 = .ok (.dup, 1) := by decide +kernel
theorem dX6_face_49 : decode cX6_face 49 = .ok (.ldc 182, 2) := by decide +kernel
theorem dX6_face_51 : decode cX6_face 51 = .ok (.invokespecial 62, 3) := by decide +kernel
theorem dX6_face_54 : decode cX6_face 54 = .ok (.athrow, 1) := by decide +kernel
theorem dX6_face_55 : decode cX6_face 55 = .ok (.aload_n 0, 1) := by decide +kernel
theorem dX6_face_56 : decode cX6_face 56 = .ok (.iload_n 1, 1) := by decide +kernel
theorem dX6_face_57 : decode cX6_face 57 = .ok (.invokestatic 184, 3) := by decide +kernel
theorem dX6_face_60 : decode cX6_face 60 = .ok (.iload_n 2, 1) := by decide +kernel
theorem dX6_face_61 : decode cX6_face 61 = .ok (.iload_n 3, 1) := by decide +kernel
theorem dX6_face_62 : decode cX6_face 62 = .ok (.invokevirtual 187, 3) := by decide +kernel
theorem dX6_face_65 : decode cX6_face 65 = .ok (.ifCond .eq 13, 3) := by decide +kernel
theorem dX6_face_68 : decode cX6_face 68 = .ok (.new 58, 3) := by decide +kernel
theorem dX6_face_71 : decode cX6_face 71 = .ok (.dup, 1) := by decide +kernel
theorem dX6_face_72 : decode cX6_face 72 = .ok (.ldc 190, 2) := by decide +kernel
theorem dX6_face_74 : decode cX6_face 74 = .ok (.invokespecial 62, 3) := by decide +kernel
theorem dX6_face_77 : decode cX6_face 77 = .ok (.athrow, 1) := by decide +kernel
theorem dX6_face_78 : decode cX6_face 78 = .ok (.aload_n 0, 1) := by decide +kernel
theorem dX6_face_79 : decode cX6_face 79 = .ok (.getfield 19, 3) := by decide +kernel
theorem dX6_face_82 : decode cX6_face 82 = .ok (.new 192, 3) := by decide +kernel
theorem dX6_face_85 : decode cX6_face 85 = .ok (.dup, 1) := by decide +kernel
theorem dX6_face_86 : decode cX6_face 86 = .ok (.iload_n 1, 1) := by decide +kernel
theorem dX6_face_87 : decode cX6_face 87 = .ok (.iload_n 2, 1) := by decide +kernel
theorem dX6_face_88 : decode cX6_face 88 = .ok (.iload_n 3, 1) := by decide +kernel
theorem dX6_face_89 : decode cX6_face 89 = .ok (.invokespecial 194, 3) := by decide +kernel
theorem dX6_face_92 : decode cX6_face 92 = .ok (.invokevirtual 74, 3) := by decide +kernel
theorem dX6_face_95 : decode cX6_face 95 = .ok (.pop, 1) := by decide +kernel
theorem dX6_face_96 : decode cX6_face 96 = .ok (.aload_n 0, 1) := by decide +kernel
theorem dX6_face_97 : decode cX6_face 97 = .ok (.getfield 19, 3) := by decide +kernel
theorem dX6_face_100 : decode cX6_face 100 = .ok (.invokevirtual 54, 3) := by decide +kernel
theorem dX6_face_103 : decode cX6_face 103 = .ok (.ireturn, 1) := by decide +kernel
theorem dX6_shown_0 : decode cX6_shown 0 = .ok (.aload_n 0, 1) := by decide +kernel
theorem dX6_shown_1 : decode cX6_shown 1 = .ok (.iload_n 1, 1) := by decide +kernel
theorem dX6_shown_2 : decode cX6_shown 2 = .ok (.invokevirtual 177, 3) := by decide +kernel
theorem dX6_shown_5 : decode cX6_shown 5 = .ok (.iload_n 2, 1) := by decide +kernel
theorem dX6_shown_6 : decode cX6_shown 6 = .ok (.iconst 3, 1) := by decide +kernel
theorem dX6_shown_7 : decode cX6_shown 7 = .ok (.invokestatic 38, 3) := by decide +kernel
theorem dX6_shown_10 : decode cX6_shown 10 = .ok (.ifCond .ne 13, 3) := by decide +kernel
theorem dX6_shown_13 : decode cX6_shown 13 = .ok (.new 42, 3) := by decide +kernel
theorem dX6_shown_16 : decode cX6_shown 16 = .ok (.dup, 1) := by decide +kernel
theorem dX6_shown_17 : decode cX6_shown 17 = .ok (.ldc 197, 2) := by decide +kernel
theorem dX6_shown_19 : decode cX6_shown 19 = .ok (.invokespecial 46, 3) := by decide +kernel
theorem dX6_shown_22 : decode cX6_shown 22 = .ok (.athrow, 1) := by decide +kernel
theorem dX6_shown_23 : decode cX6_shown 23 = .ok (.aload_n 0, 1) := by decide +kernel
theorem dX6_shown_24 : decode cX6_shown 24 = .ok (.iload_n 1, 1) := by decide +kernel
theorem dX6_shown_25 : decode cX6_shown 25 = .ok (.iload_n 2, 1) := by decide +kernel
theorem dX6_shown_26 : decode cX6_shown 26 = .ok (.invokevirtual 199, 3) := by decide +kernel
theorem dX6_shown_29 : decode cX6_shown 29 = .ok (.ireturn, 1) := by decide +kernel
theorem dX6_standsFor_0 : decode cX6_standsFor 0 = .ok (.aload_n 0, 1) := by decide +kernel
theorem dX6_standsFor_1 : decode cX6_standsFor 1 = .ok (.iload_n 1, 1) := by decide +kernel
theorem dX6_standsFor_2 : decode cX6_standsFor 2 = .ok (.invokevirtual 177, 3) := by decide +kernel
theorem dX6_standsFor_5 : decode cX6_standsFor 5 = .ok (.iload_n 2, 1) := by decide +kernel
theorem dX6_standsFor_6 : decode cX6_standsFor 6 = .ok (.invokestatic 202, 3) := by decide +kernel
theorem dX6_standsFor_9 : decode cX6_standsFor 9 = .ok (.ifCond .ne 13, 3) := by decide +kernel
theorem dX6_standsFor_12 : decode cX6_standsFor 12 = .ok (.new 140, 3) := by decide +kernel
theorem dX6_standsFor_15 : decode cX6_standsFor 15 = .ok (.dup, 1) := by decide +kernel
theorem dX6_standsFor_16 : decode cX6_standsFor 16 = .ok (.ldc 205, 2) := by decide +kernel
theorem dX6_standsFor_18 : decode cX6_standsFor 18 = .ok (.invokespecial 144, 3) := by decide +kernel
theorem dX6_standsFor_21 : decode cX6_standsFor 21 = .ok (.athrow, 1) := by decide +kernel
theorem dX6_standsFor_22 : decode cX6_standsFor 22 = .ok (.aload_n 0, 1) := by decide +kernel
theorem dX6_standsFor_23 : decode cX6_standsFor 23 = .ok (.iload_n 1, 1) := by decide +kernel
theorem dX6_standsFor_24 : decode cX6_standsFor 24 = .ok (.iload_n 2, 1) := by decide +kernel
theorem dX6_standsFor_25 : decode cX6_standsFor 25 = .ok (.invokevirtual 207, 3) := by decide +kernel
theorem dX6_standsFor_28 : decode cX6_standsFor 28 = .ok (.ireturn, 1) := by decide +kernel
theorem dX6_hasSignAndLoci_0 : decode cX6_hasSignAndLoci 0 = .ok (.iload_n 1, 1) := by decide +kernel
theorem dX6_hasSignAndLoci_1 : decode cX6_hasSignAndLoci 1 = .ok (.tableswitch 75 0 4 #[35, 41, 41, 41, 46], 35) := by decide +kernel
theorem dX6_hasSignAndLoci_36 : decode cX6_hasSignAndLoci 36 = .ok (.aload_n 0, 1) := by decide +kernel
theorem dX6_hasSignAndLoci_37 : decode cX6_hasSignAndLoci 37 = .ok (.iload_n 2, 1) := by decide +kernel
theorem dX6_hasSignAndLoci_38 : decode cX6_hasSignAndLoci 38 = .ok (.invokevirtual 136, 3) := by decide +kernel
theorem dX6_hasSignAndLoci_41 : decode cX6_hasSignAndLoci 41 = .ok (.ireturn, 1) := by decide +kernel
theorem dX6_hasSignAndLoci_42 : decode cX6_hasSignAndLoci 42 = .ok (.iload_n 2, 1) := by decide +kernel
theorem dX6_hasSignAndLoci_43 : decode cX6_hasSignAndLoci 43 = .ok (.invokestatic 202, 3) := by decide +kernel
theorem dX6_hasSignAndLoci_46 : decode cX6_hasSignAndLoci 46 = .ok (.ireturn, 1) := by decide +kernel
theorem dX6_hasSignAndLoci_47 : decode cX6_hasSignAndLoci 47 = .ok (.aload_n 0, 1) := by decide +kernel
theorem dX6_hasSignAndLoci_48 : decode cX6_hasSignAndLoci 48 = .ok (.iload_n 2, 1) := by decide +kernel
theorem dX6_hasSignAndLoci_49 : decode cX6_hasSignAndLoci 49 = .ok (.invokevirtual 136, 3) := by decide +kernel
theorem dX6_hasSignAndLoci_52 : decode cX6_hasSignAndLoci 52 = .ok (.ifCond .eq 22, 3) := by decide +kernel
theorem dX6_hasSignAndLoci_55 : decode cX6_hasSignAndLoci 55 = .ok (.iload_n 3, 1) := by decide +kernel
theorem dX6_hasSignAndLoci_56 : decode cX6_hasSignAndLoci 56 = .ok (.invokestatic 202, 3) := by decide +kernel
theorem dX6_hasSignAndLoci_59 : decode cX6_hasSignAndLoci 59 = .ok (.ifCond .eq 15, 3) := by decide +kernel
theorem dX6_hasSignAndLoci_62 : decode cX6_hasSignAndLoci 62 = .ok (.iload 4, 2) := by decide +kernel
theorem dX6_hasSignAndLoci_64 : decode cX6_hasSignAndLoci 64 = .ok (.invokestatic 202, 3) := by decide +kernel
theorem dX6_hasSignAndLoci_67 : decode cX6_hasSignAndLoci 67 = .ok (.ifCond .eq 7, 3) := by decide +kernel
theorem dX6_hasSignAndLoci_70 : decode cX6_hasSignAndLoci 70 = .ok (.iconst 1, 1) := by decide +kernel
theorem dX6_hasSignAndLoci_71 : decode cX6_hasSignAndLoci 71 = .ok (.goto 4, 3) := by decide +kernel
theorem dX6_hasSignAndLoci_74 : decode cX6_hasSignAndLoci 74 = .ok (.iconst 0, 1) := by decide +kernel
theorem dX6_hasSignAndLoci_75 : decode cX6_hasSignAndLoci 75 = .ok (.ireturn, 1) := by decide +kernel
theorem dX6_hasSignAndLoci_76 : decode cX6_hasSignAndLoci 76 = .ok (.iconst 1, 1) := by decide +kernel
theorem dX6_hasSignAndLoci_77 : decode cX6_hasSignAndLoci 77 = .ok (.ireturn, 1) := by decide +kernel
theorem dX6_isPossibleItem_0 : decode cX6_isPossibleItem 0 = .ok (.iload_n 0, 1) := by decide +kernel
theorem dX6_isPossibleItem_1 : decode cX6_isPossibleItem 1 = .ok (.tableswitch 66 0 5 #[39, 41, 39, 39, 48, 59], 39) := by decide +kernel
theorem dX6_isPossibleItem_40 : decode cX6_isPossibleItem 40 = .ok (.iconst 1, 1) := by decide +kernel
theorem dX6_isPossibleItem_41 : decode cX6_isPossibleItem 41 = .ok (.ireturn, 1) := by decide +kernel
theorem dX6_isPossibleItem_42 : decode cX6_isPossibleItem 42 = .ok (.iload_n 2, 1) := by decide +kernel
theorem dX6_isPossibleItem_43 : decode cX6_isPossibleItem 43 = .ok (.bipush 10, 2) := by decide +kernel
theorem dX6_isPossibleItem_45 : decode cX6_isPossibleItem 45 = .ok (.invokestatic 38, 3) := by decide +kernel
theorem dX6_isPossibleItem_48 : decode cX6_isPossibleItem 48 = .ok (.ireturn, 1) := by decide +kernel
theorem dX6_isPossibleItem_49 : decode cX6_isPossibleItem 49 = .ok (.iload_n 2, 1) := by decide +kernel
theorem dX6_isPossibleItem_50 : decode cX6_isPossibleItem 50 = .ok (.iload_n 3, 1) := by decide +kernel
theorem dX6_isPossibleItem_51 : decode cX6_isPossibleItem 51 = .ok (.if_icmp .eq 7, 3) := by decide +kernel
theorem dX6_isPossibleItem_54 : decode cX6_isPossibleItem 54 = .ok (.iconst 1, 1) := by decide +kernel
theorem dX6_isPossibleItem_55 : decode cX6_isPossibleItem 55 = .ok (.goto 4, 3) := by decide +kernel
theorem dX6_isPossibleItem_58 : decode cX6_isPossibleItem 58 = .ok (.iconst 0, 1) := by decide +kernel
theorem dX6_isPossibleItem_59 : decode cX6_isPossibleItem 59 = .ok (.ireturn, 1) := by decide +kernel
theorem dX6_isPossibleItem_60 : decode cX6_isPossibleItem 60 = .ok (.iload_n 1, 1) := by decide +kernel
theorem dX6_isPossibleItem_61 : decode cX6_isPossibleItem 61 = .ok (.bipush 26, 2) := by decide +kernel
theorem dX6_isPossibleItem_63 : decode cX6_isPossibleItem 63 = .ok (.invokestatic 38, 3) := by decide +kernel
theorem dX6_isPossibleItem_66 : decode cX6_isPossibleItem 66 = .ok (.ireturn, 1) := by decide +kernel
theorem dX6_isPossibleItem_67 : decode cX6_isPossibleItem 67 = .ok (.iconst 0, 1) := by decide +kernel
theorem dX6_isPossibleItem_68 : decode cX6_isPossibleItem 68 = .ok (.ireturn, 1) := by decide +kernel
theorem dX6_lociStandAsTheyShould_0 : decode cX6_lociStandAsTheyShould 0 = .ok (.iload_n 1, 1) := by decide +kernel
theorem dX6_lociStandAsTheyShould_1 : decode cX6_lociStandAsTheyShould 1 = .ok (.tableswitch 94 1 4 #[31, 54, 54, 69], 31) := by decide +kernel
theorem dX6_lociStandAsTheyShould_32 : decode cX6_lociStandAsTheyShould 32 = .ok (.aload_n 0, 1) := by decide +kernel
theorem dX6_lociStandAsTheyShould_33 : decode cX6_lociStandAsTheyShould 33 = .ok (.iload_n 2, 1) := by decide +kernel
theorem dX6_lociStandAsTheyShould_34 : decode cX6_lociStandAsTheyShould 34 = .ok (.invokevirtual 210, 3) := by decide +kernel
theorem dX6_lociStandAsTheyShould_37 : decode cX6_lociStandAsTheyShould 37 = .ok (.iconst (-1), 1) := by decide +kernel
theorem dX6_lociStandAsTheyShould_38 : decode cX6_lociStandAsTheyShould 38 = .ok (.if_icmp .ne 15, 3) := by decide +kernel
theorem dX6_lociStandAsTheyShould_41 : decode cX6_lociStandAsTheyShould 41 = .ok (.aload_n 0, 1) := by decide +kernel
theorem dX6_lociStandAsTheyShould_42 : decode cX6_lociStandAsTheyShould 42 = .ok (.iload_n 3, 1) := by decide +kernel
theorem dX6_lociStandAsTheyShould_43 : decode cX6_lociStandAsTheyShould 43 = .ok (.invokevirtual 213, 3) := by decide +kernel
theorem dX6_lociStandAsTheyShould_46 : decode cX6_lociStandAsTheyShould 46 = .ok (.ifCond .ne 7, 3) := by decide +kernel
theorem dX6_lociStandAsTheyShould_49 : decode cX6_lociStandAsTheyShould 49 = .ok (.iconst 1, 1) := by decide +kernel
theorem dX6_lociStandAsTheyShould_50 : decode cX6_lociStandAsTheyShould 50 = .ok (.goto 4, 3) := by decide +kernel
theorem dX6_lociStandAsTheyShould_53 : decode cX6_lociStandAsTheyShould 53 = .ok (.iconst 0, 1) := by decide +kernel
theorem dX6_lociStandAsTheyShould_54 : decode cX6_lociStandAsTheyShould 54 = .ok (.ireturn, 1) := by decide +kernel
theorem dX6_lociStandAsTheyShould_55 : decode cX6_lociStandAsTheyShould 55 = .ok (.aload_n 0, 1) := by decide +kernel
theorem dX6_lociStandAsTheyShould_56 : decode cX6_lociStandAsTheyShould 56 = .ok (.iload_n 2, 1) := by decide +kernel
theorem dX6_lociStandAsTheyShould_57 : decode cX6_lociStandAsTheyShould 57 = .ok (.invokevirtual 210, 3) := by decide +kernel
theorem dX6_lociStandAsTheyShould_60 : decode cX6_lociStandAsTheyShould 60 = .ok (.iconst (-1), 1) := by decide +kernel
theorem dX6_lociStandAsTheyShould_61 : decode cX6_lociStandAsTheyShould 61 = .ok (.if_icmp .eq 7, 3) := by decide +kernel
theorem dX6_lociStandAsTheyShould_64 : decode cX6_lociStandAsTheyShould 64 = .ok (.iconst 1, 1) := by decide +kernel
theorem dX6_lociStandAsTheyShould_65 : decode cX6_lociStandAsTheyShould 65 = .ok (.goto 4, 3) := by decide +kernel
theorem dX6_lociStandAsTheyShould_68 : decode cX6_lociStandAsTheyShould 68 = .ok (.iconst 0, 1) := by decide +kernel
theorem dX6_lociStandAsTheyShould_69 : decode cX6_lociStandAsTheyShould 69 = .ok (.ireturn, 1) := by decide +kernel
theorem dX6_lociStandAsTheyShould_70 : decode cX6_lociStandAsTheyShould 70 = .ok (.aload_n 0, 1) := by decide +kernel
theorem dX6_lociStandAsTheyShould_71 : decode cX6_lociStandAsTheyShould 71 = .ok (.iload_n 3, 1) := by decide +kernel
theorem dX6_lociStandAsTheyShould_72 : decode cX6_lociStandAsTheyShould 72 = .ok (.invokevirtual 210, 3) := by decide +kernel
theorem dX6_lociStandAsTheyShould_75 : decode cX6_lociStandAsTheyShould 75 = .ok (.iconst (-1), 1) := by decide +kernel
theorem dX6_lociStandAsTheyShould_76 : decode cX6_lociStandAsTheyShould 76 = .ok (.if_icmp .eq 17, 3) := by decide +kernel
theorem dX6_lociStandAsTheyShould_79 : decode cX6_lociStandAsTheyShould 79 = .ok (.aload_n 0, 1) := by decide +kernel
theorem dX6_lociStandAsTheyShould_80 : decode cX6_lociStandAsTheyShould 80 = .ok (.iload 4, 2) := by decide +kernel
theorem dX6_lociStandAsTheyShould_82 : decode cX6_lociStandAsTheyShould 82 = .ok (.invokevirtual 210, 3) := by decide +kernel
theorem dX6_lociStandAsTheyShould_85 : decode cX6_lociStandAsTheyShould 85 = .ok (.iconst (-1), 1) := by decide +kernel
theorem dX6_lociStandAsTheyShould_86 : decode cX6_lociStandAsTheyShould 86 = .ok (.if_icmp .eq 7, 3) := by decide +kernel
theorem dX6_lociStandAsTheyShould_89 : decode cX6_lociStandAsTheyShould 89 = .ok (.iconst 1, 1) := by decide +kernel
theorem dX6_lociStandAsTheyShould_90 : decode cX6_lociStandAsTheyShould 90 = .ok (.goto 4, 3) := by decide +kernel
theorem dX6_lociStandAsTheyShould_93 : decode cX6_lociStandAsTheyShould 93 = .ok (.iconst 0, 1) := by decide +kernel
theorem dX6_lociStandAsTheyShould_94 : decode cX6_lociStandAsTheyShould 94 = .ok (.ireturn, 1) := by decide +kernel
theorem dX6_lociStandAsTheyShould_95 : decode cX6_lociStandAsTheyShould 95 = .ok (.iconst 1, 1) := by decide +kernel
theorem dX6_lociStandAsTheyShould_96 : decode cX6_lociStandAsTheyShould 96 = .ok (.ireturn, 1) := by decide +kernel
theorem dX6_isReferentPlaced_0 : decode cX6_isReferentPlaced 0 = .ok (.iconst 0, 1) := by decide +kernel
theorem dX6_isReferentPlaced_1 : decode cX6_isReferentPlaced 1 = .ok (.istore_n 2, 1) := by decide +kernel
theorem dX6_isReferentPlaced_2 : decode cX6_isReferentPlaced 2 = .ok (.iload_n 2, 1) := by decide +kernel
theorem dX6_isReferentPlaced_3 : decode cX6_isReferentPlaced 3 = .ok (.getstatic 216, 3) := by decide +kernel
theorem dX6_isReferentPlaced_6 : decode cX6_isReferentPlaced 6 = .ok (.arraylength, 1) := by decide +kernel
theorem dX6_isReferentPlaced_7 : decode cX6_isReferentPlaced 7 = .ok (.if_icmp .ge 20, 3) := by decide +kernel
theorem dX6_isReferentPlaced_10 : decode cX6_isReferentPlaced 10 = .ok (.aload_n 0, 1) := by decide +kernel
theorem dX6_isReferentPlaced_11 : decode cX6_isReferentPlaced 11 = .ok (.iload_n 2, 1) := by decide +kernel
theorem dX6_isReferentPlaced_12 : decode cX6_isReferentPlaced 12 = .ok (.invokevirtual 210, 3) := by decide +kernel
theorem dX6_isReferentPlaced_15 : decode cX6_isReferentPlaced 15 = .ok (.iload_n 1, 1) := by decide +kernel
theorem dX6_isReferentPlaced_16 : decode cX6_isReferentPlaced 16 = .ok (.if_icmp .ne 5, 3) := by decide +kernel
theorem dX6_isReferentPlaced_19 : decode cX6_isReferentPlaced 19 = .ok (.iconst 1, 1) := by decide +kernel
theorem dX6_isReferentPlaced_20 : decode cX6_isReferentPlaced 20 = .ok (.ireturn, 1) := by decide +kernel
theorem dX6_isReferentPlaced_21 : decode cX6_isReferentPlaced 21 = .ok (.iinc 2 1, 3) := by decide +kernel
theorem dX6_isReferentPlaced_24 : decode cX6_isReferentPlaced 24 = .ok (.goto (-22), 3) := by decide +kernel
theorem dX6_isReferentPlaced_27 : decode cX6_isReferentPlaced 27 = .ok (.iconst 0, 1) := by decide +kernel
theorem dX6_isReferentPlaced_28 : decode cX6_isReferentPlaced 28 = .ok (.ireturn, 1) := by decide +kernel
theorem dX6_referentNow_0 : decode cX6_referentNow 0 = .ok (.aload_n 0, 1) := by decide +kernel
theorem dX6_referentNow_1 : decode cX6_referentNow 1 = .ok (.aload_n 0, 1) := by decide +kernel
theorem dX6_referentNow_2 : decode cX6_referentNow 2 = .ok (.getfield 16, 3) := by decide +kernel
theorem dX6_referentNow_5 : decode cX6_referentNow 5 = .ok (.invokevirtual 54, 3) := by decide +kernel
theorem dX6_referentNow_8 : decode cX6_referentNow 8 = .ok (.iconst 1, 1) := by decide +kernel
theorem dX6_referentNow_9 : decode cX6_referentNow 9 = .ok (.isub, 1) := by decide +kernel
theorem dX6_referentNow_10 : decode cX6_referentNow 10 = .ok (.iload_n 1, 1) := by decide +kernel
theorem dX6_referentNow_11 : decode cX6_referentNow 11 = .ok (.invokevirtual 207, 3) := by decide +kernel
theorem dX6_referentNow_14 : decode cX6_referentNow 14 = .ok (.ireturn, 1) := by decide +kernel
theorem dX6_referentBehind_0 : decode cX6_referentBehind 0 = .ok (.iconst (-1), 1) := by decide +kernel
theorem dX6_referentBehind_1 : decode cX6_referentBehind 1 = .ok (.istore_n 3, 1) := by decide +kernel
theorem dX6_referentBehind_2 : decode cX6_referentBehind 2 = .ok (.iconst 0, 1) := by decide +kernel
theorem dX6_referentBehind_3 : decode cX6_referentBehind 3 = .ok (.istore 4, 2) := by decide +kernel
theorem dX6_referentBehind_5 : decode cX6_referentBehind 5 = .ok (.iload 4, 2) := by decide +kernel
theorem dX6_referentBehind_7 : decode cX6_referentBehind 7 = .ok (.iload_n 1, 1) := by decide +kernel
theorem dX6_referentBehind_8 : decode cX6_referentBehind 8 = .ok (.if_icmp .gt 82, 3) := by decide +kernel
theorem dX6_referentBehind_11 : decode cX6_referentBehind 11 = .ok (.iload 4, 2) := by decide +kernel
theorem dX6_referentBehind_13 : decode cX6_referentBehind 13 = .ok (.aload_n 0, 1) := by decide +kernel
theorem dX6_referentBehind_14 : decode cX6_referentBehind 14 = .ok (.getfield 16, 3) := by decide +kernel
theorem dX6_referentBehind_17 : decode cX6_referentBehind 17 = .ok (.invokevirtual 54, 3) := by decide +kernel
theorem dX6_referentBehind_20 : decode cX6_referentBehind 20 = .ok (.if_icmp .ge 70, 3) := by decide +kernel
theorem dX6_referentBehind_23 : decode cX6_referentBehind 23 = .ok (.aload_n 0, 1) := by decide +kernel
theorem dX6_referentBehind_24 : decode cX6_referentBehind 24 = .ok (.getfield 16, 3) := by decide +kernel
theorem dX6_referentBehind_27 : decode cX6_referentBehind 27 = .ok (.iload 4, 2) := by decide +kernel
theorem dX6_referentBehind_29 : decode cX6_referentBehind 29 = .ok (.invokevirtual 84, 3) := by decide +kernel
theorem dX6_referentBehind_32 : decode cX6_referentBehind 32 = .ok (.checkcast 165, 3) := by decide +kernel
theorem dX6_referentBehind_35 : decode cX6_referentBehind 35 = .ok (.astore 5, 2) := by decide +kernel
theorem dX6_referentBehind_37 : decode cX6_referentBehind 37 = .ok (.aload 5, 2) := by decide +kernel
theorem dX6_referentBehind_39 : decode cX6_referentBehind 39 = .ok (.getfield 219, 3) := by decide +kernel
theorem dX6_referentBehind_42 : decode cX6_referentBehind 42 = .ok (.iconst 1, 1) := by decide +kernel
theorem dX6_referentBehind_43 : decode cX6_referentBehind 43 = .ok (.if_icmp .ne 21, 3) := by decide +kernel
theorem dX6_referentBehind_46 : decode cX6_referentBehind 46 = .ok (.aload 5, 2) := by decide +kernel
theorem dX6_referentBehind_48 : decode cX6_referentBehind 48 = .ok (.getfield 222, 3) := by decide +kernel
theorem dX6_referentBehind_51 : decode cX6_referentBehind 51 = .ok (.iload_n 2, 1) := by decide +kernel
theorem dX6_referentBehind_52 : decode cX6_referentBehind 52 = .ok (.if_icmp .ne 12, 3) := by decide +kernel
theorem dX6_referentBehind_55 : decode cX6_referentBehind 55 = .ok (.aload 5, 2) := by decide +kernel
theorem dX6_referentBehind_57 : decode cX6_referentBehind 57 = .ok (.getfield 225, 3) := by decide +kernel
theorem dX6_referentBehind_60 : decode cX6_referentBehind 60 = .ok (.istore_n 3, 1) := by decide +kernel
theorem dX6_referentBehind_61 : decode cX6_referentBehind 61 = .ok (.goto 23, 3) := by decide +kernel
theorem dX6_referentBehind_64 : decode cX6_referentBehind 64 = .ok (.aload 5, 2) := by decide +kernel
theorem dX6_referentBehind_66 : decode cX6_referentBehind 66 = .ok (.getfield 219, 3) := by decide +kernel
theorem dX6_referentBehind_69 : decode cX6_referentBehind 69 = .ok (.iconst 3, 1) := by decide +kernel
theorem dX6_referentBehind_70 : decode cX6_referentBehind 70 = .ok (.if_icmp .ne 14, 3) := by decide +kernel
theorem dX6_referentBehind_73 : decode cX6_referentBehind 73 = .ok (.aload 5, 2) := by decide +kernel
theorem dX6_referentBehind_75 : decode cX6_referentBehind 75 = .ok (.getfield 222, 3) := by decide +kernel
theorem dX6_referentBehind_78 : decode cX6_referentBehind 78 = .ok (.iload_n 2, 1) := by decide +kernel
theorem dX6_referentBehind_79 : decode cX6_referentBehind 79 = .ok (.if_icmp .ne 5, 3) := by decide +kernel
theorem dX6_referentBehind_82 : decode cX6_referentBehind 82 = .ok (.iconst (-1), 1) := by decide +kernel
theorem dX6_referentBehind_83 : decode cX6_referentBehind 83 = .ok (.istore_n 3, 1) := by decide +kernel
theorem dX6_referentBehind_84 : decode cX6_referentBehind 84 = .ok (.iinc 4 1, 3) := by decide +kernel
theorem dX6_referentBehind_87 : decode cX6_referentBehind 87 = .ok (.goto (-82), 3) := by decide +kernel
theorem dX6_referentBehind_90 : decode cX6_referentBehind 90 = .ok (.iload_n 3, 1) := by decide +kernel
theorem dX6_referentBehind_91 : decode cX6_referentBehind 91 = .ok (.ireturn, 1) := by decide +kernel
theorem dX6_handsTold_0 : decode cX6_handsTold 0 = .ok (.iload_n 1, 1) := by decide +kernel
theorem dX6_handsTold_1 : decode cX6_handsTold 1 = .ok (.iconst 5, 1) := by decide +kernel
theorem dX6_handsTold_2 : decode cX6_handsTold 2 = .ok (.if_icmp .ne 20, 3) := by decide +kernel
theorem dX6_handsTold_5 : decode cX6_handsTold 5 = .ok (.iload_n 2, 1) := by decide +kernel
theorem dX6_handsTold_6 : decode cX6_handsTold 6 = .ok (.bipush 8, 2) := by decide +kernel
theorem dX6_handsTold_8 : decode cX6_handsTold 8 = .ok (.idiv, 1) := by decide +kernel
theorem dX6_handsTold_9 : decode cX6_handsTold 9 = .ok (.istore 5, 2) := by decide +kernel
theorem dX6_handsTold_11 : decode cX6_handsTold 11 = .ok (.iload_n 2, 1) := by decide +kernel
theorem dX6_handsTold_12 : decode cX6_handsTold 12 = .ok (.bipush 8, 2) := by decide +kernel
theorem dX6_handsTold_14 : decode cX6_handsTold 14 = .ok (.irem, 1) := by decide +kernel
theorem dX6_handsTold_15 : decode cX6_handsTold 15 = .ok (.iconst 4, 1) := by decide +kernel
theorem dX6_handsTold_16 : decode cX6_handsTold 16 = .ok (.iload 5, 2) := by decide +kernel
theorem dX6_handsTold_18 : decode cX6_handsTold 18 = .ok (.invokestatic 228, 3) := by decide +kernel
theorem dX6_handsTold_21 : decode cX6_handsTold 21 = .ok (.areturn, 1) := by decide +kernel
theorem dX6_handsTold_22 : decode cX6_handsTold 22 = .ok (.iload_n 1, 1) := by decide +kernel
theorem dX6_handsTold_23 : decode cX6_handsTold 23 = .ok (.ifCond .eq 8, 3) := by decide +kernel
theorem dX6_handsTold_26 : decode cX6_handsTold 26 = .ok (.iload_n 1, 1) := by decide +kernel
theorem dX6_handsTold_27 : decode cX6_handsTold 27 = .ok (.iconst 4, 1) := by decide +kernel
theorem dX6_handsTold_28 : decode cX6_handsTold 28 = .ok (.if_icmp .ne 11, 3) := by decide +kernel
theorem dX6_handsTold_31 : decode cX6_handsTold 31 = .ok (.aload_n 0, 1) := by decide +kernel
theorem dX6_handsTold_32 : decode cX6_handsTold 32 = .ok (.iload_n 2, 1) := by decide +kernel
theorem dX6_handsTold_33 : decode cX6_handsTold 33 = .ok (.invokevirtual 136, 3) := by decide +kernel
theorem dX6_handsTold_36 : decode cX6_handsTold 36 = .ok (.ifCond .ne 13, 3) := by decide +kernel
theorem dX6_handsTold_39 : decode cX6_handsTold 39 = .ok (.iconst 1, 1) := by decide +kernel
theorem dX6_handsTold_40 : decode cX6_handsTold 40 = .ok (.iload_n 2, 1) := by decide +kernel
theorem dX6_handsTold_41 : decode cX6_handsTold 41 = .ok (.invokestatic 232, 3) := by decide +kernel
theorem dX6_handsTold_44 : decode cX6_handsTold 44 = .ok (.iconst 0, 1) := by decide +kernel
theorem dX6_handsTold_45 : decode cX6_handsTold 45 = .ok (.invokestatic 228, 3) := by decide +kernel
theorem dX6_handsTold_48 : decode cX6_handsTold 48 = .ok (.areturn, 1) := by decide +kernel
theorem dX6_handsTold_49 : decode cX6_handsTold 49 = .ok (.aload_n 0, 1) := by decide +kernel
theorem dX6_handsTold_50 : decode cX6_handsTold 50 = .ok (.getfield 10, 3) := by decide +kernel
theorem dX6_handsTold_53 : decode cX6_handsTold 53 = .ok (.iload_n 2, 1) := by decide +kernel
theorem dX6_handsTold_54 : decode cX6_handsTold 54 = .ok (.invokevirtual 84, 3) := by decide +kernel
theorem dX6_handsTold_57 : decode cX6_handsTold 57 = .ok (.checkcast 63, 3) := by decide +kernel
theorem dX6_handsTold_60 : decode cX6_handsTold 60 = .ok (.astore 5, 2) := by decide +kernel
theorem dX6_handsTold_62 : decode cX6_handsTold 62 = .ok (.iload_n 1, 1) := by decide +kernel
theorem dX6_handsTold_63 : decode cX6_handsTold 63 = .ok (.iconst 4, 1) := by decide +kernel
theorem dX6_handsTold_64 : decode cX6_handsTold 64 = .ok (.if_icmp .ne 10, 3) := by decide +kernel
theorem dX6_handsTold_67 : decode cX6_handsTold 67 = .ok (.iload_n 3, 1) := by decide +kernel
theorem dX6_handsTold_68 : decode cX6_handsTold 68 = .ok (.invokestatic 232, 3) := by decide +kernel
theorem dX6_handsTold_71 : decode cX6_handsTold 71 = .ok (.goto 8, 3) := by decide +kernel
theorem dX6_handsTold_74 : decode cX6_handsTold 74 = .ok (.aload 5, 2) := by decide +kernel
theorem dX6_handsTold_76 : decode cX6_handsTold 76 = .ok (.getfield 106, 3) := by decide +kernel
theorem dX6_handsTold_79 : decode cX6_handsTold 79 = .ok (.istore 6, 2) := by decide +kernel
theorem dX6_handsTold_81 : decode cX6_handsTold 81 = .ok (.iload_n 1, 1) := by decide +kernel
theorem dX6_handsTold_82 : decode cX6_handsTold 82 = .ok (.iconst 4, 1) := by decide +kernel
theorem dX6_handsTold_83 : decode cX6_handsTold 83 = .ok (.if_icmp .ne 11, 3) := by decide +kernel
theorem dX6_handsTold_86 : decode cX6_handsTold 86 = .ok (.iload 4, 2) := by decide +kernel
theorem dX6_handsTold_88 : decode cX6_handsTold 88 = .ok (.invokestatic 232, 3) := by decide +kernel
theorem dX6_handsTold_91 : decode cX6_handsTold 91 = .ok (.goto 8, 3) := by decide +kernel
theorem dX6_handsTold_94 : decode cX6_handsTold 94 = .ok (.aload 5, 2) := by decide +kernel
theorem dX6_handsTold_96 : decode cX6_handsTold 96 = .ok (.getfield 109, 3) := by decide +kernel
theorem dX6_handsTold_99 : decode cX6_handsTold 99 = .ok (.istore 7, 2) := by decide +kernel
theorem dX6_handsTold_101 : decode cX6_handsTold 101 = .ok (.new 63, 3) := by decide +kernel
theorem dX6_handsTold_104 : decode cX6_handsTold 104 = .ok (.dup, 1) := by decide +kernel
theorem dX6_handsTold_105 : decode cX6_handsTold 105 = .ok (.aload 5, 2) := by decide +kernel
theorem dX6_handsTold_107 : decode cX6_handsTold 107 = .ok (.getfield 102, 3) := by decide +kernel
theorem dX6_handsTold_110 : decode cX6_handsTold 110 = .ok (.iload 6, 2) := by decide +kernel
theorem dX6_handsTold_112 : decode cX6_handsTold 112 = .ok (.iload 7, 2) := by decide +kernel
theorem dX6_handsTold_114 : decode cX6_handsTold 114 = .ok (.aload 5, 2) := by decide +kernel
theorem dX6_handsTold_116 : decode cX6_handsTold 116 = .ok (.getfield 112, 3) := by decide +kernel
theorem dX6_handsTold_119 : decode cX6_handsTold 119 = .ok (.aload 5, 2) := by decide +kernel
theorem dX6_handsTold_121 : decode cX6_handsTold 121 = .ok (.getfield 115, 3) := by decide +kernel
theorem dX6_handsTold_124 : decode cX6_handsTold 124 = .ok (.aload 5, 2) := by decide +kernel
theorem dX6_handsTold_126 : decode cX6_handsTold 126 = .ok (.getfield 118, 3) := by decide +kernel
theorem dX6_handsTold_129 : decode cX6_handsTold 129 = .ok (.aload 5, 2) := by decide +kernel
theorem dX6_handsTold_131 : decode cX6_handsTold 131 = .ok (.getfield 235, 3) := by decide +kernel
theorem dX6_handsTold_134 : decode cX6_handsTold 134 = .ok (.invokespecial 65, 3) := by decide +kernel
theorem dX6_handsTold_137 : decode cX6_handsTold 137 = .ok (.areturn, 1) := by decide +kernel
theorem dX6_stillHands_0 : decode cX6_stillHands 0 = .ok (.new 63, 3) := by decide +kernel
theorem dX6_stillHands_3 : decode cX6_stillHands 3 = .ok (.dup, 1) := by decide +kernel
theorem dX6_stillHands_4 : decode cX6_stillHands 4 = .ok (.iload_n 0, 1) := by decide +kernel
theorem dX6_stillHands_5 : decode cX6_stillHands 5 = .ok (.iload_n 1, 1) := by decide +kernel
theorem dX6_stillHands_6 : decode cX6_stillHands 6 = .ok (.iload_n 1, 1) := by decide +kernel
theorem dX6_stillHands_7 : decode cX6_stillHands 7 = .ok (.iload_n 2, 1) := by decide +kernel
theorem dX6_stillHands_8 : decode cX6_stillHands 8 = .ok (.iload_n 2, 1) := by decide +kernel
theorem dX6_stillHands_9 : decode cX6_stillHands 9 = .ok (.iconst 0, 1) := by decide +kernel
theorem dX6_stillHands_10 : decode cX6_stillHands 10 = .ok (.iconst (-1), 1) := by decide +kernel
theorem dX6_stillHands_11 : decode cX6_stillHands 11 = .ok (.invokespecial 65, 3) := by decide +kernel
theorem dX6_stillHands_14 : decode cX6_stillHands 14 = .ok (.areturn, 1) := by decide +kernel
theorem dX6_isArticulatorBusy_0 : decode cX6_isArticulatorBusy 0 = .ok (.iconst 0, 1) := by decide +kernel
theorem dX6_isArticulatorBusy_1 : decode cX6_isArticulatorBusy 1 = .ok (.istore 4, 2) := by decide +kernel
theorem dX6_isArticulatorBusy_3 : decode cX6_isArticulatorBusy 3 = .ok (.iload 4, 2) := by decide +kernel
theorem dX6_isArticulatorBusy_5 : decode cX6_isArticulatorBusy 5 = .ok (.aload_n 0, 1) := by decide +kernel
theorem dX6_isArticulatorBusy_6 : decode cX6_isArticulatorBusy 6 = .ok (.getfield 19, 3) := by decide +kernel
theorem dX6_isArticulatorBusy_9 : decode cX6_isArticulatorBusy 9 = .ok (.invokevirtual 54, 3) := by decide +kernel
theorem dX6_isArticulatorBusy_12 : decode cX6_isArticulatorBusy 12 = .ok (.if_icmp .ge 55, 3) := by decide +kernel
theorem dX6_isArticulatorBusy_15 : decode cX6_isArticulatorBusy 15 = .ok (.aload_n 0, 1) := by decide +kernel
theorem dX6_isArticulatorBusy_16 : decode cX6_isArticulatorBusy 16 = .ok (.getfield 19, 3) := by decide +kernel
theorem dX6_isArticulatorBusy_19 : decode cX6_isArticulatorBusy 19 = .ok (.iload 4, 2) := by decide +kernel
theorem dX6_isArticulatorBusy_21 : decode cX6_isArticulatorBusy 21 = .ok (.invokevirtual 84, 3) := by decide +kernel
theorem dX6_isArticulatorBusy_24 : decode cX6_isArticulatorBusy 24 = .ok (.checkcast 192, 3) := by decide +kernel
theorem dX6_isArticulatorBusy_27 : decode cX6_isArticulatorBusy 27 = .ok (.astore 5, 2) := by decide +kernel
theorem dX6_isArticulatorBusy_29 : decode cX6_isArticulatorBusy 29 = .ok (.aload 5, 2) := by decide +kernel
theorem dX6_isArticulatorBusy_31 : decode cX6_isArticulatorBusy 31 = .ok (.getfield 238, 3) := by decide +kernel
theorem dX6_isArticulatorBusy_34 : decode cX6_isArticulatorBusy 34 = .ok (.invokestatic 184, 3) := by decide +kernel
theorem dX6_isArticulatorBusy_37 : decode cX6_isArticulatorBusy 37 = .ok (.iload_n 1, 1) := by decide +kernel
theorem dX6_isArticulatorBusy_38 : decode cX6_isArticulatorBusy 38 = .ok (.if_icmp .ne 23, 3) := by decide +kernel
theorem dX6_isArticulatorBusy_41 : decode cX6_isArticulatorBusy 41 = .ok (.aload 5, 2) := by decide +kernel
theorem dX6_isArticulatorBusy_43 : decode cX6_isArticulatorBusy 43 = .ok (.getfield 241, 3) := by decide +kernel
theorem dX6_isArticulatorBusy_46 : decode cX6_isArticulatorBusy 46 = .ok (.iload_n 3, 1) := by decide +kernel
theorem dX6_isArticulatorBusy_47 : decode cX6_isArticulatorBusy 47 = .ok (.if_icmp .gt 14, 3) := by decide +kernel
theorem dX6_isArticulatorBusy_50 : decode cX6_isArticulatorBusy 50 = .ok (.iload_n 2, 1) := by decide +kernel
theorem dX6_isArticulatorBusy_51 : decode cX6_isArticulatorBusy 51 = .ok (.aload 5, 2) := by decide +kernel
theorem dX6_isArticulatorBusy_53 : decode cX6_isArticulatorBusy 53 = .ok (.getfield 242, 3) := by decide +kernel
theorem dX6_isArticulatorBusy_56 : decode cX6_isArticulatorBusy 56 = .ok (.if_icmp .gt 5, 3) := by decide +kernel
theorem dX6_isArticulatorBusy_59 : decode cX6_isArticulatorBusy 59 = .ok (.iconst 1, 1) := by decide +kernel
theorem dX6_isArticulatorBusy_60 : decode cX6_isArticulatorBusy 60 = .ok (.ireturn, 1) := by decide +kernel
theorem dX6_isArticulatorBusy_61 : decode cX6_isArticulatorBusy 61 = .ok (.iinc 4 1, 3) := by decide +kernel
theorem dX6_isArticulatorBusy_64 : decode cX6_isArticulatorBusy 64 = .ok (.goto (-61), 3) := by decide +kernel
theorem dX6_isArticulatorBusy_67 : decode cX6_isArticulatorBusy 67 = .ok (.iconst 0, 1) := by decide +kernel
theorem dX6_isArticulatorBusy_68 : decode cX6_isArticulatorBusy 68 = .ok (.ireturn, 1) := by decide +kernel
theorem dX6_faceShown_0 : decode cX6_faceShown 0 = .ok (.iload_n 1, 1) := by decide +kernel
theorem dX6_faceShown_1 : decode cX6_faceShown 1 = .ok (.istore_n 3, 1) := by decide +kernel
theorem dX6_faceShown_2 : decode cX6_faceShown 2 = .ok (.iload_n 3, 1) := by decide +kernel
theorem dX6_faceShown_3 : decode cX6_faceShown 3 = .ok (.ifCond .lt 56, 3) := by decide +kernel
theorem dX6_faceShown_6 : decode cX6_faceShown 6 = .ok (.iload_n 3, 1) := by decide +kernel
theorem dX6_faceShown_7 : decode cX6_faceShown 7 = .ok (.aload_n 0, 1) := by decide +kernel
theorem dX6_faceShown_8 : decode cX6_faceShown 8 = .ok (.getfield 16, 3) := by decide +kernel
theorem dX6_faceShown_11 : decode cX6_faceShown 11 = .ok (.invokevirtual 54, 3) := by decide +kernel
theorem dX6_faceShown_14 : decode cX6_faceShown 14 = .ok (.if_icmp .ge 45, 3) := by decide +kernel
theorem dX6_faceShown_17 : decode cX6_faceShown 17 = .ok (.aload_n 0, 1) := by decide +kernel
theorem dX6_faceShown_18 : decode cX6_faceShown 18 = .ok (.iload_n 3, 1) := by decide +kernel
theorem dX6_faceShown_19 : decode cX6_faceShown 19 = .ok (.iload_n 2, 1) := by decide +kernel
theorem dX6_faceShown_20 : decode cX6_faceShown 20 = .ok (.invokevirtual 243, 3) := by decide +kernel
theorem dX6_faceShown_23 : decode cX6_faceShown 23 = .ok (.istore 4, 2) := by decide +kernel
theorem dX6_faceShown_25 : decode cX6_faceShown 25 = .ok (.iload 4, 2) := by decide +kernel
theorem dX6_faceShown_27 : decode cX6_faceShown 27 = .ok (.iconst (-1), 1) := by decide +kernel
theorem dX6_faceShown_28 : decode cX6_faceShown 28 = .ok (.if_icmp .eq 6, 3) := by decide +kernel
theorem dX6_faceShown_31 : decode cX6_faceShown 31 = .ok (.iload 4, 2) := by decide +kernel
theorem dX6_faceShown_33 : decode cX6_faceShown 33 = .ok (.ireturn, 1) := by decide +kernel
theorem dX6_faceShown_34 : decode cX6_faceShown 34 = .ok (.aload_n 0, 1) := by decide +kernel
theorem dX6_faceShown_35 : decode cX6_faceShown 35 = .ok (.getfield 16, 3) := by decide +kernel
theorem dX6_faceShown_38 : decode cX6_faceShown 38 = .ok (.iload_n 3, 1) := by decide +kernel
theorem dX6_faceShown_39 : decode cX6_faceShown 39 = .ok (.invokevirtual 84, 3) := by decide +kernel
theorem dX6_faceShown_42 : decode cX6_faceShown 42 = .ok (.checkcast 165, 3) := by decide +kernel
theorem dX6_faceShown_45 : decode cX6_faceShown 45 = .ok (.invokevirtual 246, 3) := by decide +kernel
theorem dX6_faceShown_48 : decode cX6_faceShown 48 = .ok (.ifCond .ne 5, 3) := by decide +kernel
theorem dX6_faceShown_51 : decode cX6_faceShown 51 = .ok (.iconst (-1), 1) := by decide +kernel
theorem dX6_faceShown_52 : decode cX6_faceShown 52 = .ok (.ireturn, 1) := by decide +kernel
theorem dX6_faceShown_53 : decode cX6_faceShown 53 = .ok (.iinc 3 (-1), 3) := by decide +kernel
theorem dX6_faceShown_56 : decode cX6_faceShown 56 = .ok (.goto (-54), 3) := by decide +kernel
theorem dX6_faceShown_59 : decode cX6_faceShown 59 = .ok (.iconst (-1), 1) := by decide +kernel
theorem dX6_faceShown_60 : decode cX6_faceShown 60 = .ok (.ireturn, 1) := by decide +kernel
theorem dX6_faceOver_0 : decode cX6_faceOver 0 = .ok (.iconst 0, 1) := by decide +kernel
theorem dX6_faceOver_1 : decode cX6_faceOver 1 = .ok (.istore_n 3, 1) := by decide +kernel
theorem dX6_faceOver_2 : decode cX6_faceOver 2 = .ok (.iload_n 3, 1) := by decide +kernel
theorem dX6_faceOver_3 : decode cX6_faceOver 3 = .ok (.aload_n 0, 1) := by decide +kernel
theorem dX6_faceOver_4 : decode cX6_faceOver 4 = .ok (.getfield 19, 3) := by decide +kernel
theorem dX6_faceOver_7 : decode cX6_faceOver 7 = .ok (.invokevirtual 54, 3) := by decide +kernel
theorem dX6_faceOver_10 : decode cX6_faceOver 10 = .ok (.if_icmp .ge 58, 3) := by decide +kernel
theorem dX6_faceOver_13 : decode cX6_faceOver 13 = .ok (.aload_n 0, 1) := by decide +kernel
theorem dX6_faceOver_14 : decode cX6_faceOver 14 = .ok (.getfield 19, 3) := by decide +kernel
theorem dX6_faceOver_17 : decode cX6_faceOver 17 = .ok (.iload_n 3, 1) := by decide +kernel
theorem dX6_faceOver_18 : decode cX6_faceOver 18 = .ok (.invokevirtual 84, 3) := by decide +kernel
theorem dX6_faceOver_21 : decode cX6_faceOver 21 = .ok (.checkcast 192, 3) := by decide +kernel
theorem dX6_faceOver_24 : decode cX6_faceOver 24 = .ok (.astore 4, 2) := by decide +kernel
theorem dX6_faceOver_26 : decode cX6_faceOver 26 = .ok (.aload 4, 2) := by decide +kernel
theorem dX6_faceOver_28 : decode cX6_faceOver 28 = .ok (.getfield 238, 3) := by decide +kernel
theorem dX6_faceOver_31 : decode cX6_faceOver 31 = .ok (.invokestatic 184, 3) := by decide +kernel
theorem dX6_faceOver_34 : decode cX6_faceOver 34 = .ok (.iload_n 2, 1) := by decide +kernel
theorem dX6_faceOver_35 : decode cX6_faceOver 35 = .ok (.if_icmp .ne 27, 3) := by decide +kernel
theorem dX6_faceOver_38 : decode cX6_faceOver 38 = .ok (.aload 4, 2) := by decide +kernel
theorem dX6_faceOver_40 : decode cX6_faceOver 40 = .ok (.getfield 241, 3) := by decide +kernel
theorem dX6_faceOver_43 : decode cX6_faceOver 43 = .ok (.iload_n 1, 1) := by decide +kernel
theorem dX6_faceOver_44 : decode cX6_faceOver 44 = .ok (.if_icmp .gt 18, 3) := by decide +kernel
theorem dX6_faceOver_47 : decode cX6_faceOver 47 = .ok (.iload_n 1, 1) := by decide +kernel
theorem dX6_faceOver_48 : decode cX6_faceOver 48 = .ok (.aload 4, 2) := by decide +kernel
theorem dX6_faceOver_50 : decode cX6_faceOver 50 = .ok (.getfield 242, 3) := by decide +kernel
theorem dX6_faceOver_53 : decode cX6_faceOver 53 = .ok (.if_icmp .gt 9, 3) := by decide +kernel
theorem dX6_faceOver_56 : decode cX6_faceOver 56 = .ok (.aload 4, 2) := by decide +kernel
theorem dX6_faceOver_58 : decode cX6_faceOver 58 = .ok (.getfield 238, 3) := by decide +kernel
theorem dX6_faceOver_61 : decode cX6_faceOver 61 = .ok (.ireturn, 1) := by decide +kernel
theorem dX6_faceOver_62 : decode cX6_faceOver 62 = .ok (.iinc 3 1, 3) := by decide +kernel
theorem dX6_faceOver_65 : decode cX6_faceOver 65 = .ok (.goto (-63), 3) := by decide +kernel
theorem dX6_faceOver_68 : decode cX6_faceOver 68 = .ok (.iconst (-1), 1) := by decide +kernel
theorem dX6_faceOver_69 : decode cX6_faceOver 69 = .ok (.ireturn, 1) := by decide +kernel
theorem dX6_articulatorOf_0 : decode cX6_articulatorOf 0 = .ok (.iconst 0, 1) := by decide +kernel
theorem dX6_articulatorOf_1 : decode cX6_articulatorOf 1 = .ok (.iload_n 0, 1) := by decide +kernel
theorem dX6_articulatorOf_2 : decode cX6_articulatorOf 2 = .ok (.iconst 1, 1) := by decide +kernel
theorem dX6_articulatorOf_3 : decode cX6_articulatorOf 3 = .ok (.isub, 1) := by decide +kernel
theorem dX6_articulatorOf_4 : decode cX6_articulatorOf 4 = .ok (.invokestatic 250, 3) := by decide +kernel
theorem dX6_articulatorOf_7 : decode cX6_articulatorOf 7 = .ok (.ireturn, 1) := by decide +kernel
theorem dX6_requireItem_0 : decode cX6_requireItem 0 = .ok (.iload_n 1, 1) := by decide +kernel
theorem dX6_requireItem_1 : decode cX6_requireItem 1 = .ok (.aload_n 0, 1) := by decide +kernel
theorem dX6_requireItem_2 : decode cX6_requireItem 2 = .ok (.getfield 16, 3) := by decide +kernel
theorem dX6_requireItem_5 : decode cX6_requireItem 5 = .ok (.invokevirtual 54, 3) := by decide +kernel
theorem dX6_requireItem_8 : decode cX6_requireItem 8 = .ok (.invokestatic 38, 3) := by decide +kernel
theorem dX6_requireItem_11 : decode cX6_requireItem 11 = .ok (.ifCond .ne 13, 3) := by decide +kernel
theorem dX6_requireItem_14 : decode cX6_requireItem 14 = .ok (.new 140, 3) := by decide +kernel
theorem dX6_requireItem_17 : decode cX6_requireItem 17 = .ok (.dup, 1) := by decide +kernel
theorem dX6_requireItem_18 : decode cX6_requireItem 18 = .ok (.ldc 255, 2) := by decide +kernel
theorem dX6_requireItem_20 : decode cX6_requireItem 20 = .ok (.invokespecial 144, 3) := by decide +kernel
theorem dX6_requireItem_23 : decode cX6_requireItem 23 = .ok (.athrow, 1) := by decide +kernel
theorem dX6_requireItem_24 : decode cX6_requireItem 24 = .ok (.return_, 1) := by decide +kernel
theorem dX6_isLocus_0 : decode cX6_isLocus 0 = .ok (.iload_n 0, 1) := by decide +kernel
theorem dX6_isLocus_1 : decode cX6_isLocus 1 = .ok (.getstatic 216, 3) := by decide +kernel
theorem dX6_isLocus_4 : decode cX6_isLocus 4 = .ok (.arraylength, 1) := by decide +kernel
theorem dX6_isLocus_5 : decode cX6_isLocus 5 = .ok (.invokestatic 38, 3) := by decide +kernel
theorem dX6_isLocus_8 : decode cX6_isLocus 8 = .ok (.ireturn, 1) := by decide +kernel
theorem dX6_placeOf_0 : decode cX6_placeOf 0 = .ok (.iload_n 0, 1) := by decide +kernel
theorem dX6_placeOf_1 : decode cX6_placeOf 1 = .ok (.invokestatic 202, 3) := by decide +kernel
theorem dX6_placeOf_4 : decode cX6_placeOf 4 = .ok (.ifCond .eq 11, 3) := by decide +kernel
theorem dX6_placeOf_7 : decode cX6_placeOf 7 = .ok (.getstatic 216, 3) := by decide +kernel
theorem dX6_placeOf_10 : decode cX6_placeOf 10 = .ok (.iload_n 0, 1) := by decide +kernel
theorem dX6_placeOf_11 : decode cX6_placeOf 11 = .ok (.iaload, 1) := by decide +kernel
theorem dX6_placeOf_12 : decode cX6_placeOf 12 = .ok (.goto 4, 3) := by decide +kernel
theorem dX6_placeOf_15 : decode cX6_placeOf 15 = .ok (.iconst (-1), 1) := by decide +kernel
theorem dX6_placeOf_16 : decode cX6_placeOf 16 = .ok (.ireturn, 1) := by decide +kernel
theorem dX6_locusAt_0 : decode cX6_locusAt 0 = .ok (.iconst 0, 1) := by decide +kernel
theorem dX6_locusAt_1 : decode cX6_locusAt 1 = .ok (.istore_n 1, 1) := by decide +kernel
theorem dX6_locusAt_2 : decode cX6_locusAt 2 = .ok (.iload_n 1, 1) := by decide +kernel
theorem dX6_locusAt_3 : decode cX6_locusAt 3 = .ok (.getstatic 216, 3) := by decide +kernel
theorem dX6_locusAt_6 : decode cX6_locusAt 6 = .ok (.arraylength, 1) := by decide +kernel
theorem dX6_locusAt_7 : decode cX6_locusAt 7 = .ok (.if_icmp .ge 20, 3) := by decide +kernel
theorem dX6_locusAt_10 : decode cX6_locusAt 10 = .ok (.getstatic 216, 3) := by decide +kernel
theorem dX6_locusAt_13 : decode cX6_locusAt 13 = .ok (.iload_n 1, 1) := by decide +kernel
theorem dX6_locusAt_14 : decode cX6_locusAt 14 = .ok (.iaload, 1) := by decide +kernel
theorem dX6_locusAt_15 : decode cX6_locusAt 15 = .ok (.iload_n 0, 1) := by decide +kernel
theorem dX6_locusAt_16 : decode cX6_locusAt 16 = .ok (.if_icmp .ne 5, 3) := by decide +kernel
theorem dX6_locusAt_19 : decode cX6_locusAt 19 = .ok (.iload_n 1, 1) := by decide +kernel
theorem dX6_locusAt_20 : decode cX6_locusAt 20 = .ok (.ireturn, 1) := by decide +kernel
theorem dX6_locusAt_21 : decode cX6_locusAt 21 = .ok (.iinc 1 1, 3) := by decide +kernel
theorem dX6_locusAt_24 : decode cX6_locusAt 24 = .ok (.goto (-22), 3) := by decide +kernel
theorem dX6_locusAt_27 : decode cX6_locusAt 27 = .ok (.iconst (-1), 1) := by decide +kernel
theorem dX6_locusAt_28 : decode cX6_locusAt 28 = .ok (.ireturn, 1) := by decide +kernel
theorem dX6_rule_0 : decode cX6_rule 0 = .ok (.iload_n 1, 1) := by decide +kernel
theorem dX6_rule_1 : decode cX6_rule 1 = .ok (.iconst 5, 1) := by decide +kernel
theorem dX6_rule_2 : decode cX6_rule 2 = .ok (.invokestatic 38, 3) := by decide +kernel
theorem dX6_rule_5 : decode cX6_rule 5 = .ok (.ifCond .ne 14, 3) := by decide +kernel
theorem dX6_rule_8 : decode cX6_rule 8 = .ok (.new 42, 3) := by decide +kernel
theorem dX6_rule_11 : decode cX6_rule 11 = .ok (.dup, 1) := by decide +kernel
theorem dX6_rule_12 : decode cX6_rule 12 = .ok (.ldc_w 257, 3) := by decide +kernel
theorem dX6_rule_15 : decode cX6_rule 15 = .ok (.invokespecial 46, 3) := by decide +kernel
theorem dX6_rule_18 : decode cX6_rule 18 = .ok (.athrow, 1) := by decide +kernel
theorem dX6_rule_19 : decode cX6_rule 19 = .ok (.aload_n 0, 1) := by decide +kernel
theorem dX6_rule_20 : decode cX6_rule 20 = .ok (.getfield 22, 3) := by decide +kernel
theorem dX6_rule_23 : decode cX6_rule 23 = .ok (.invokevirtual 54, 3) := by decide +kernel
theorem dX6_rule_26 : decode cX6_rule 26 = .ok (.bipush 6, 2) := by decide +kernel
theorem dX6_rule_28 : decode cX6_rule 28 = .ok (.if_icmp .lt 14, 3) := by decide +kernel
theorem dX6_rule_31 : decode cX6_rule 31 = .ok (.new 58, 3) := by decide +kernel
theorem dX6_rule_34 : decode cX6_rule 34 = .ok (.dup, 1) := by decide +kernel
theorem dX6_rule_35 : decode cX6_rule 35 = .ok (.ldc_w 259, 3) := by decide +kernel
theorem dX6_rule_38 : decode cX6_rule 38 = .ok (.invokespecial 62, 3) := by decide +kernel
theorem dX6_rule_41 : decode cX6_rule 41 = .ok (.athrow, 1) := by decide +kernel
theorem dX6_rule_42 : decode cX6_rule 42 = .ok (.aload_n 0, 1) := by decide +kernel
theorem dX6_rule_43 : decode cX6_rule 43 = .ok (.getfield 22, 3) := by decide +kernel
theorem dX6_rule_46 : decode cX6_rule 46 = .ok (.new 261, 3) := by decide +kernel
theorem dX6_rule_49 : decode cX6_rule 49 = .ok (.dup, 1) := by decide +kernel
theorem dX6_rule_50 : decode cX6_rule 50 = .ok (.iload_n 1, 1) := by decide +kernel
theorem dX6_rule_51 : decode cX6_rule 51 = .ok (.invokespecial 263, 3) := by decide +kernel
theorem dX6_rule_54 : decode cX6_rule 54 = .ok (.invokevirtual 74, 3) := by decide +kernel
theorem dX6_rule_57 : decode cX6_rule 57 = .ok (.pop, 1) := by decide +kernel
theorem dX6_rule_58 : decode cX6_rule 58 = .ok (.aload_n 0, 1) := by decide +kernel
theorem dX6_rule_59 : decode cX6_rule 59 = .ok (.getfield 22, 3) := by decide +kernel
theorem dX6_rule_62 : decode cX6_rule 62 = .ok (.invokevirtual 54, 3) := by decide +kernel
theorem dX6_rule_65 : decode cX6_rule 65 = .ok (.iconst 1, 1) := by decide +kernel
theorem dX6_rule_66 : decode cX6_rule 66 = .ok (.isub, 1) := by decide +kernel
theorem dX6_rule_67 : decode cX6_rule 67 = .ok (.ireturn, 1) := by decide +kernel
theorem dX6_except_0 : decode cX6_except 0 = .ok (.iload_n 1, 1) := by decide +kernel
theorem dX6_except_1 : decode cX6_except 1 = .ok (.aload_n 0, 1) := by decide +kernel
theorem dX6_except_2 : decode cX6_except 2 = .ok (.getfield 22, 3) := by decide +kernel
theorem dX6_except_5 : decode cX6_except 5 = .ok (.invokevirtual 54, 3) := by decide +kernel
theorem dX6_except_8 : decode cX6_except 8 = .ok (.invokestatic 38, 3) := by decide +kernel
theorem dX6_except_11 : decode cX6_except 11 = .ok (.ifCond .ne 14, 3) := by decide +kernel
theorem dX6_except_14 : decode cX6_except 14 = .ok (.new 140, 3) := by decide +kernel
theorem dX6_except_17 : decode cX6_except 17 = .ok (.dup, 1) := by decide +kernel
theorem dX6_except_18 : decode cX6_except 18 = .ok (.ldc_w 265, 3) := by decide +kernel
theorem dX6_except_21 : decode cX6_except 21 = .ok (.invokespecial 144, 3) := by decide +kernel
theorem dX6_except_24 : decode cX6_except 24 = .ok (.athrow, 1) := by decide +kernel
theorem dX6_except_25 : decode cX6_except 25 = .ok (.aload_n 0, 1) := by decide +kernel
theorem dX6_except_26 : decode cX6_except 26 = .ok (.iload_n 2, 1) := by decide +kernel
theorem dX6_except_27 : decode cX6_except 27 = .ok (.invokevirtual 78, 3) := by decide +kernel
theorem dX6_except_30 : decode cX6_except 30 = .ok (.aload_n 0, 1) := by decide +kernel
theorem dX6_except_31 : decode cX6_except 31 = .ok (.getfield 22, 3) := by decide +kernel
theorem dX6_except_34 : decode cX6_except 34 = .ok (.iload_n 1, 1) := by decide +kernel
theorem dX6_except_35 : decode cX6_except 35 = .ok (.invokevirtual 84, 3) := by decide +kernel
theorem dX6_except_38 : decode cX6_except 38 = .ok (.checkcast 261, 3) := by decide +kernel
theorem dX6_except_41 : decode cX6_except 41 = .ok (.iload_n 2, 1) := by decide +kernel
theorem dX6_except_42 : decode cX6_except 42 = .ok (.invokevirtual 267, 3) := by decide +kernel
theorem dX6_except_45 : decode cX6_except 45 = .ok (.ireturn, 1) := by decide +kernel
theorem dX6_applyRules_0 : decode cX6_applyRules 0 = .ok (.iconst 0, 1) := by decide +kernel
theorem dX6_applyRules_1 : decode cX6_applyRules 1 = .ok (.istore_n 1, 1) := by decide +kernel
theorem dX6_applyRules_2 : decode cX6_applyRules 2 = .ok (.iload_n 1, 1) := by decide +kernel
theorem dX6_applyRules_3 : decode cX6_applyRules 3 = .ok (.aload_n 0, 1) := by decide +kernel
theorem dX6_applyRules_4 : decode cX6_applyRules 4 = .ok (.getfield 16, 3) := by decide +kernel
theorem dX6_applyRules_7 : decode cX6_applyRules 7 = .ok (.invokevirtual 54, 3) := by decide +kernel
theorem dX6_applyRules_10 : decode cX6_applyRules 10 = .ok (.if_icmp .ge 32, 3) := by decide +kernel
theorem dX6_applyRules_13 : decode cX6_applyRules 13 = .ok (.aload_n 0, 1) := by decide +kernel
theorem dX6_applyRules_14 : decode cX6_applyRules 14 = .ok (.getfield 16, 3) := by decide +kernel
theorem dX6_applyRules_17 : decode cX6_applyRules 17 = .ok (.iload_n 1, 1) := by decide +kernel
theorem dX6_applyRules_18 : decode cX6_applyRules 18 = .ok (.invokevirtual 84, 3) := by decide +kernel
theorem dX6_applyRules_21 : decode cX6_applyRules 21 = .ok (.checkcast 165, 3) := by decide +kernel
theorem dX6_applyRules_24 : decode cX6_applyRules 24 = .ok (.astore_n 2, 1) := by decide +kernel
theorem dX6_applyRules_25 : decode cX6_applyRules 25 = .ok (.aload_n 2, 1) := by decide +kernel
theorem dX6_applyRules_26 : decode cX6_applyRules 26 = .ok (.getfield 270, 3) := by decide +kernel
theorem dX6_applyRules_29 : decode cX6_applyRules 29 = .ok (.aload_n 2, 1) := by decide +kernel
theorem dX6_applyRules_30 : decode cX6_applyRules 30 = .ok (.getfield 274, 3) := by decide +kernel
theorem dX6_applyRules_33 : decode cX6_applyRules 33 = .ok (.invokevirtual 277, 3) := by decide +kernel
theorem dX6_applyRules_36 : decode cX6_applyRules 36 = .ok (.iinc 1 1, 3) := by decide +kernel
theorem dX6_applyRules_39 : decode cX6_applyRules 39 = .ok (.goto (-37), 3) := by decide +kernel
theorem dX6_applyRules_42 : decode cX6_applyRules 42 = .ok (.iconst 0, 1) := by decide +kernel
theorem dX6_applyRules_43 : decode cX6_applyRules 43 = .ok (.istore_n 1, 1) := by decide +kernel
theorem dX6_applyRules_44 : decode cX6_applyRules 44 = .ok (.iload_n 1, 1) := by decide +kernel
theorem dX6_applyRules_45 : decode cX6_applyRules 45 = .ok (.aload_n 0, 1) := by decide +kernel
theorem dX6_applyRules_46 : decode cX6_applyRules 46 = .ok (.getfield 22, 3) := by decide +kernel
theorem dX6_applyRules_49 : decode cX6_applyRules 49 = .ok (.invokevirtual 54, 3) := by decide +kernel
theorem dX6_applyRules_52 : decode cX6_applyRules 52 = .ok (.if_icmp .ge 24, 3) := by decide +kernel
theorem dX6_applyRules_55 : decode cX6_applyRules 55 = .ok (.aload_n 0, 1) := by decide +kernel
theorem dX6_applyRules_56 : decode cX6_applyRules 56 = .ok (.aload_n 0, 1) := by decide +kernel
theorem dX6_applyRules_57 : decode cX6_applyRules 57 = .ok (.getfield 22, 3) := by decide +kernel
theorem dX6_applyRules_60 : decode cX6_applyRules 60 = .ok (.iload_n 1, 1) := by decide +kernel
theorem dX6_applyRules_61 : decode cX6_applyRules 61 = .ok (.invokevirtual 84, 3) := by decide +kernel
theorem dX6_applyRules_64 : decode cX6_applyRules 64 = .ok (.checkcast 261, 3) := by decide +kernel
theorem dX6_applyRules_67 : decode cX6_applyRules 67 = .ok (.invokevirtual 281, 3) := by decide +kernel
theorem dX6_applyRules_70 : decode cX6_applyRules 70 = .ok (.iinc 1 1, 3) := by decide +kernel
theorem dX6_applyRules_73 : decode cX6_applyRules 73 = .ok (.goto (-29), 3) := by decide +kernel
theorem dX6_applyRules_76 : decode cX6_applyRules 76 = .ok (.return_, 1) := by decide +kernel
theorem dX6_applyRule_0 : decode cX6_applyRule 0 = .ok (.iconst 0, 1) := by decide +kernel
theorem dX6_applyRule_1 : decode cX6_applyRule 1 = .ok (.istore_n 2, 1) := by decide +kernel
theorem dX6_applyRule_2 : decode cX6_applyRule 2 = .ok (.iload_n 2, 1) := by decide +kernel
theorem dX6_applyRule_3 : decode cX6_applyRule 3 = .ok (.aload_n 0, 1) := by decide +kernel
theorem dX6_applyRule_4 : decode cX6_applyRule 4 = .ok (.getfield 16, 3) := by decide +kernel
theorem dX6_applyRule_7 : decode cX6_applyRule 7 = .ok (.invokevirtual 54, 3) := by decide +kernel
theorem dX6_applyRule_10 : decode cX6_applyRule 10 = .ok (.if_icmp .ge 125, 3) := by decide +kernel
theorem dX6_applyRule_13 : decode cX6_applyRule 13 = .ok (.aload_n 0, 1) := by decide +kernel
theorem dX6_applyRule_14 : decode cX6_applyRule 14 = .ok (.getfield 16, 3) := by decide +kernel
theorem dX6_applyRule_17 : decode cX6_applyRule 17 = .ok (.iload_n 2, 1) := by decide +kernel
theorem dX6_applyRule_18 : decode cX6_applyRule 18 = .ok (.invokevirtual 84, 3) := by decide +kernel
theorem dX6_applyRule_21 : decode cX6_applyRule 21 = .ok (.checkcast 165, 3) := by decide +kernel
theorem dX6_applyRule_24 : decode cX6_applyRule 24 = .ok (.astore_n 3, 1) := by decide +kernel
theorem dX6_applyRule_25 : decode cX6_applyRule 25 = .ok (.aload_n 3, 1) := by decide +kernel
theorem dX6_applyRule_26 : decode cX6_applyRule 26 = .ok (.invokevirtual 285, 3) := by decide +kernel
theorem dX6_applyRule_29 : decode cX6_applyRule 29 = .ok (.ifCond .eq 17, 3) := by decide +kernel
theorem dX6_applyRule_32 : decode cX6_applyRule 32 = .ok (.aload_n 1, 1) := by decide +kernel
theorem dX6_applyRule_33 : decode cX6_applyRule 33 = .ok (.aload_n 3, 1) := by decide +kernel
theorem dX6_applyRule_34 : decode cX6_applyRule 34 = .ok (.getfield 222, 3) := by decide +kernel
theorem dX6_applyRule_37 : decode cX6_applyRule 37 = .ok (.invokevirtual 288, 3) := by decide +kernel
theorem dX6_applyRule_40 : decode cX6_applyRule 40 = .ok (.ifCond .eq 6, 3) := by decide +kernel
theorem dX6_applyRule_43 : decode cX6_applyRule 43 = .ok (.goto 86, 3) := by decide +kernel
theorem dX6_applyRule_46 : decode cX6_applyRule 46 = .ok (.aload_n 1, 1) := by decide +kernel
theorem dX6_applyRule_47 : decode cX6_applyRule 47 = .ok (.getfield 291, 3) := by decide +kernel
theorem dX6_applyRule_50 : decode cX6_applyRule 50 = .ok (.tableswitch 79 0 4 #[34, 43, 52, 61, 70], 34) := by decide +kernel
theorem dX6_applyRule_84 : decode cX6_applyRule 84 = .ok (.aload_n 0, 1) := by decide +kernel
theorem dX6_applyRule_85 : decode cX6_applyRule 85 = .ok (.iload_n 2, 1) := by decide +kernel
theorem dX6_applyRule_86 : decode cX6_applyRule 86 = .ok (.aload_n 3, 1) := by decide +kernel
theorem dX6_applyRule_87 : decode cX6_applyRule 87 = .ok (.invokevirtual 292, 3) := by decide +kernel
theorem dX6_applyRule_90 : decode cX6_applyRule 90 = .ok (.goto 39, 3) := by decide +kernel
theorem dX6_applyRule_93 : decode cX6_applyRule 93 = .ok (.aload_n 0, 1) := by decide +kernel
theorem dX6_applyRule_94 : decode cX6_applyRule 94 = .ok (.iload_n 2, 1) := by decide +kernel
theorem dX6_applyRule_95 : decode cX6_applyRule 95 = .ok (.aload_n 3, 1) := by decide +kernel
theorem dX6_applyRule_96 : decode cX6_applyRule 96 = .ok (.invokevirtual 296, 3) := by decide +kernel
theorem dX6_applyRule_99 : decode cX6_applyRule 99 = .ok (.goto 30, 3) := by decide +kernel
theorem dX6_applyRule_102 : decode cX6_applyRule 102 = .ok (.aload_n 0, 1) := by decide +kernel
theorem dX6_applyRule_103 : decode cX6_applyRule 103 = .ok (.iload_n 2, 1) := by decide +kernel
theorem dX6_applyRule_104 : decode cX6_applyRule 104 = .ok (.aload_n 3, 1) := by decide +kernel
theorem dX6_applyRule_105 : decode cX6_applyRule 105 = .ok (.invokevirtual 299, 3) := by decide +kernel
theorem dX6_applyRule_108 : decode cX6_applyRule 108 = .ok (.goto 21, 3) := by decide +kernel
theorem dX6_applyRule_111 : decode cX6_applyRule 111 = .ok (.aload_n 0, 1) := by decide +kernel
theorem dX6_applyRule_112 : decode cX6_applyRule 112 = .ok (.iload_n 2, 1) := by decide +kernel
theorem dX6_applyRule_113 : decode cX6_applyRule 113 = .ok (.aload_n 3, 1) := by decide +kernel
theorem dX6_applyRule_114 : decode cX6_applyRule 114 = .ok (.invokevirtual 302, 3) := by decide +kernel
theorem dX6_applyRule_117 : decode cX6_applyRule 117 = .ok (.goto 12, 3) := by decide +kernel
theorem dX6_applyRule_120 : decode cX6_applyRule 120 = .ok (.aload_n 0, 1) := by decide +kernel
theorem dX6_applyRule_121 : decode cX6_applyRule 121 = .ok (.iload_n 2, 1) := by decide +kernel
theorem dX6_applyRule_122 : decode cX6_applyRule 122 = .ok (.aload_n 3, 1) := by decide +kernel
theorem dX6_applyRule_123 : decode cX6_applyRule 123 = .ok (.invokevirtual 305, 3) := by decide +kernel
theorem dX6_applyRule_126 : decode cX6_applyRule 126 = .ok (.goto 3, 3) := by decide +kernel
theorem dX6_applyRule_129 : decode cX6_applyRule 129 = .ok (.iinc 2 1, 3) := by decide +kernel
theorem dX6_applyRule_132 : decode cX6_applyRule 132 = .ok (.goto (-130), 3) := by decide +kernel
theorem dX6_applyRule_135 : decode cX6_applyRule 135 = .ok (.return_, 1) := by decide +kernel
theorem dX6_dropMirrored_0 : decode cX6_dropMirrored 0 = .ok (.aload_n 2, 1) := by decide +kernel
theorem dX6_dropMirrored_1 : decode cX6_dropMirrored 1 = .ok (.getfield 270, 3) := by decide +kernel
theorem dX6_dropMirrored_4 : decode cX6_dropMirrored 4 = .ok (.getfield 118, 3) := by decide +kernel
theorem dX6_dropMirrored_7 : decode cX6_dropMirrored 7 = .ok (.iconst 1, 1) := by decide +kernel
theorem dX6_dropMirrored_8 : decode cX6_dropMirrored 8 = .ok (.if_icmp .ne 31, 3) := by decide +kernel
theorem dX6_dropMirrored_11 : decode cX6_dropMirrored 11 = .ok (.aload_n 0, 1) := by decide +kernel
theorem dX6_dropMirrored_12 : decode cX6_dropMirrored 12 = .ok (.iload_n 1, 1) := by decide +kernel
theorem dX6_dropMirrored_13 : decode cX6_dropMirrored 13 = .ok (.iconst 1, 1) := by decide +kernel
theorem dX6_dropMirrored_14 : decode cX6_dropMirrored 14 = .ok (.isub, 1) := by decide +kernel
theorem dX6_dropMirrored_15 : decode cX6_dropMirrored 15 = .ok (.invokevirtual 308, 3) := by decide +kernel
theorem dX6_dropMirrored_18 : decode cX6_dropMirrored 18 = .ok (.ifCond .eq 21, 3) := by decide +kernel
theorem dX6_dropMirrored_21 : decode cX6_dropMirrored 21 = .ok (.aload_n 0, 1) := by decide +kernel
theorem dX6_dropMirrored_22 : decode cX6_dropMirrored 22 = .ok (.iload_n 1, 1) := by decide +kernel
theorem dX6_dropMirrored_23 : decode cX6_dropMirrored 23 = .ok (.iconst 1, 1) := by decide +kernel
theorem dX6_dropMirrored_24 : decode cX6_dropMirrored 24 = .ok (.iadd, 1) := by decide +kernel
theorem dX6_dropMirrored_25 : decode cX6_dropMirrored 25 = .ok (.invokevirtual 308, 3) := by decide +kernel
theorem dX6_dropMirrored_28 : decode cX6_dropMirrored 28 = .ok (.ifCond .eq 11, 3) := by decide +kernel
theorem dX6_dropMirrored_31 : decode cX6_dropMirrored 31 = .ok (.aload_n 2, 1) := by decide +kernel
theorem dX6_dropMirrored_32 : decode cX6_dropMirrored 32 = .ok (.getfield 270, 3) := by decide +kernel
theorem dX6_dropMirrored_35 : decode cX6_dropMirrored 35 = .ok (.iconst 0, 1) := by decide +kernel
theorem dX6_dropMirrored_36 : decode cX6_dropMirrored 36 = .ok (.putfield 118, 3) := by decide +kernel
theorem dX6_dropMirrored_39 : decode cX6_dropMirrored 39 = .ok (.return_, 1) := by decide +kernel
theorem dX6_hasNoSecond_0 : decode cX6_hasNoSecond 0 = .ok (.iload_n 1, 1) := by decide +kernel
theorem dX6_hasNoSecond_1 : decode cX6_hasNoSecond 1 = .ok (.aload_n 0, 1) := by decide +kernel
theorem dX6_hasNoSecond_2 : decode cX6_hasNoSecond 2 = .ok (.getfield 16, 3) := by decide +kernel
theorem dX6_hasNoSecond_5 : decode cX6_hasNoSecond 5 = .ok (.invokevirtual 54, 3) := by decide +kernel
theorem dX6_hasNoSecond_8 : decode cX6_hasNoSecond 8 = .ok (.invokestatic 38, 3) := by decide +kernel
theorem dX6_hasNoSecond_11 : decode cX6_hasNoSecond 11 = .ok (.ifCond .eq 23, 3) := by decide +kernel
theorem dX6_hasNoSecond_14 : decode cX6_hasNoSecond 14 = .ok (.aload_n 0, 1) := by decide +kernel
theorem dX6_hasNoSecond_15 : decode cX6_hasNoSecond 15 = .ok (.getfield 16, 3) := by decide +kernel
theorem dX6_hasNoSecond_18 : decode cX6_hasNoSecond 18 = .ok (.iload_n 1, 1) := by decide +kernel
theorem dX6_hasNoSecond_19 : decode cX6_hasNoSecond 19 = .ok (.invokevirtual 84, 3) := by decide +kernel
theorem dX6_hasNoSecond_22 : decode cX6_hasNoSecond 22 = .ok (.checkcast 165, 3) := by decide +kernel
theorem dX6_hasNoSecond_25 : decode cX6_hasNoSecond 25 = .ok (.getfield 270, 3) := by decide +kernel
theorem dX6_hasNoSecond_28 : decode cX6_hasNoSecond 28 = .ok (.getfield 118, 3) := by decide +kernel
theorem dX6_hasNoSecond_31 : decode cX6_hasNoSecond 31 = .ok (.ifCond .ne 7, 3) := by decide +kernel
theorem dX6_hasNoSecond_34 : decode cX6_hasNoSecond 34 = .ok (.iconst 1, 1) := by decide +kernel
theorem dX6_hasNoSecond_35 : decode cX6_hasNoSecond 35 = .ok (.goto 4, 3) := by decide +kernel
theorem dX6_hasNoSecond_38 : decode cX6_hasNoSecond 38 = .ok (.iconst 0, 1) := by decide +kernel
theorem dX6_hasNoSecond_39 : decode cX6_hasNoSecond 39 = .ok (.ireturn, 1) := by decide +kernel
theorem dX6_likenShape_0 : decode cX6_likenShape 0 = .ok (.aload_n 2, 1) := by decide +kernel
theorem dX6_likenShape_1 : decode cX6_likenShape 1 = .ok (.invokevirtual 246, 3) := by decide +kernel
theorem dX6_likenShape_4 : decode cX6_likenShape 4 = .ok (.ifCond .ne 4, 3) := by decide +kernel
theorem dX6_likenShape_7 : decode cX6_likenShape 7 = .ok (.return_, 1) := by decide +kernel
theorem dX6_likenShape_8 : decode cX6_likenShape 8 = .ok (.iload_n 1, 1) := by decide +kernel
theorem dX6_likenShape_9 : decode cX6_likenShape 9 = .ok (.iconst 1, 1) := by decide +kernel
theorem dX6_likenShape_10 : decode cX6_likenShape 10 = .ok (.iadd, 1) := by decide +kernel
theorem dX6_likenShape_11 : decode cX6_likenShape 11 = .ok (.aload_n 0, 1) := by decide +kernel
theorem dX6_likenShape_12 : decode cX6_likenShape 12 = .ok (.getfield 16, 3) := by decide +kernel
theorem dX6_likenShape_15 : decode cX6_likenShape 15 = .ok (.invokevirtual 54, 3) := by decide +kernel
theorem dX6_likenShape_18 : decode cX6_likenShape 18 = .ok (.if_icmp .lt 7, 3) := by decide +kernel
theorem dX6_likenShape_21 : decode cX6_likenShape 21 = .ok (.iconst 1, 1) := by decide +kernel
theorem dX6_likenShape_22 : decode cX6_likenShape 22 = .ok (.goto 4, 3) := by decide +kernel
theorem dX6_likenShape_25 : decode cX6_likenShape 25 = .ok (.iconst 0, 1) := by decide +kernel
theorem dX6_likenShape_26 : decode cX6_likenShape 26 = .ok (.istore_n 3, 1) := by decide +kernel
theorem dX6_likenShape_27 : decode cX6_likenShape 27 = .ok (.iload_n 3, 1) := by decide +kernel
theorem dX6_likenShape_28 : decode cX6_likenShape 28 = .ok (.ifCond .eq 9, 3) := by decide +kernel
theorem dX6_likenShape_31 : decode cX6_likenShape 31 = .ok (.iload_n 1, 1) := by decide +kernel
theorem dX6_likenShape_32 : decode cX6_likenShape 32 = .ok (.iconst 1, 1) := by decide +kernel
theorem dX6_likenShape_33 : decode cX6_likenShape 33 = .ok (.isub, 1) := by decide +kernel
theorem dX6_likenShape_34 : decode cX6_likenShape 34 = .ok (.goto 6, 3) := by decide +kernel
theorem dX6_likenShape_37 : decode cX6_likenShape 37 = .ok (.iload_n 1, 1) := by decide +kernel
theorem dX6_likenShape_38 : decode cX6_likenShape 38 = .ok (.iconst 1, 1) := by decide +kernel
theorem dX6_likenShape_39 : decode cX6_likenShape 39 = .ok (.iadd, 1) := by decide +kernel
theorem dX6_likenShape_40 : decode cX6_likenShape 40 = .ok (.istore 4, 2) := by decide +kernel
theorem dX6_likenShape_42 : decode cX6_likenShape 42 = .ok (.iload 4, 2) := by decide +kernel
theorem dX6_likenShape_44 : decode cX6_likenShape 44 = .ok (.aload_n 0, 1) := by decide +kernel
theorem dX6_likenShape_45 : decode cX6_likenShape 45 = .ok (.getfield 16, 3) := by decide +kernel
theorem dX6_likenShape_48 : decode cX6_likenShape 48 = .ok (.invokevirtual 54, 3) := by decide +kernel
theorem dX6_likenShape_51 : decode cX6_likenShape 51 = .ok (.invokestatic 38, 3) := by decide +kernel
theorem dX6_likenShape_54 : decode cX6_likenShape 54 = .ok (.ifCond .eq 28, 3) := by decide +kernel
theorem dX6_likenShape_57 : decode cX6_likenShape 57 = .ok (.aload_n 2, 1) := by decide +kernel
theorem dX6_likenShape_58 : decode cX6_likenShape 58 = .ok (.getfield 270, 3) := by decide +kernel
theorem dX6_likenShape_61 : decode cX6_likenShape 61 = .ok (.aload_n 0, 1) := by decide +kernel
theorem dX6_likenShape_62 : decode cX6_likenShape 62 = .ok (.getfield 16, 3) := by decide +kernel
theorem dX6_likenShape_65 : decode cX6_likenShape 65 = .ok (.iload 4, 2) := by decide +kernel
theorem dX6_likenShape_67 : decode cX6_likenShape 67 = .ok (.invokevirtual 84, 3) := by decide +kernel
theorem dX6_likenShape_70 : decode cX6_likenShape 70 = .ok (.checkcast 165, 3) := by decide +kernel
theorem dX6_likenShape_73 : decode cX6_likenShape 73 = .ok (.getfield 270, 3) := by decide +kernel
theorem dX6_likenShape_76 : decode cX6_likenShape 76 = .ok (.getfield 102, 3) := by decide +kernel
theorem dX6_likenShape_79 : decode cX6_likenShape 79 = .ok (.putfield 102, 3) := by decide +kernel
theorem dX6_likenShape_82 : decode cX6_likenShape 82 = .ok (.return_, 1) := by decide +kernel
theorem dX6_easeTurn_0 : decode cX6_easeTurn 0 = .ok (.aload_n 0, 1) := by decide +kernel
theorem dX6_easeTurn_1 : decode cX6_easeTurn 1 = .ok (.iload_n 1, 1) := by decide +kernel
theorem dX6_easeTurn_2 : decode cX6_easeTurn 2 = .ok (.invokevirtual 311, 3) := by decide +kernel
theorem dX6_easeTurn_5 : decode cX6_easeTurn 5 = .ok (.ifCond .ne 4, 3) := by decide +kernel
theorem dX6_easeTurn_8 : decode cX6_easeTurn 8 = .ok (.return_, 1) := by decide +kernel
theorem dX6_easeTurn_9 : decode cX6_easeTurn 9 = .ok (.aload_n 0, 1) := by decide +kernel
theorem dX6_easeTurn_10 : decode cX6_easeTurn 10 = .ok (.getfield 16, 3) := by decide +kernel
theorem dX6_easeTurn_13 : decode cX6_easeTurn 13 = .ok (.iload_n 1, 1) := by decide +kernel
theorem dX6_easeTurn_14 : decode cX6_easeTurn 14 = .ok (.iconst 1, 1) := by decide +kernel
theorem dX6_easeTurn_15 : decode cX6_easeTurn 15 = .ok (.isub, 1) := by decide +kernel
theorem dX6_easeTurn_16 : decode cX6_easeTurn 16 = .ok (.invokevirtual 84, 3) := by decide +kernel
theorem dX6_easeTurn_19 : decode cX6_easeTurn 19 = .ok (.checkcast 165, 3) := by decide +kernel
theorem dX6_easeTurn_22 : decode cX6_easeTurn 22 = .ok (.getfield 270, 3) := by decide +kernel
theorem dX6_easeTurn_25 : decode cX6_easeTurn 25 = .ok (.getfield 115, 3) := by decide +kernel
theorem dX6_easeTurn_28 : decode cX6_easeTurn 28 = .ok (.istore_n 3, 1) := by decide +kernel
theorem dX6_easeTurn_29 : decode cX6_easeTurn 29 = .ok (.iload_n 3, 1) := by decide +kernel
theorem dX6_easeTurn_30 : decode cX6_easeTurn 30 = .ok (.aload_n 2, 1) := by decide +kernel
theorem dX6_easeTurn_31 : decode cX6_easeTurn 31 = .ok (.getfield 270, 3) := by decide +kernel
theorem dX6_easeTurn_34 : decode cX6_easeTurn 34 = .ok (.getfield 112, 3) := by decide +kernel
theorem dX6_easeTurn_37 : decode cX6_easeTurn 37 = .ok (.isub, 1) := by decide +kernel
theorem dX6_easeTurn_38 : decode cX6_easeTurn 38 = .ok (.invokestatic 314, 3) := by decide +kernel
theorem dX6_easeTurn_41 : decode cX6_easeTurn 41 = .ok (.iconst 2, 1) := by decide +kernel
theorem dX6_easeTurn_42 : decode cX6_easeTurn 42 = .ok (.if_icmp .ne 11, 3) := by decide +kernel
theorem dX6_easeTurn_45 : decode cX6_easeTurn 45 = .ok (.aload_n 2, 1) := by decide +kernel
theorem dX6_easeTurn_46 : decode cX6_easeTurn 46 = .ok (.getfield 270, 3) := by decide +kernel
theorem dX6_easeTurn_49 : decode cX6_easeTurn 49 = .ok (.iload_n 3, 1) := by decide +kernel
theorem dX6_easeTurn_50 : decode cX6_easeTurn 50 = .ok (.putfield 112, 3) := by decide +kernel
theorem dX6_easeTurn_53 : decode cX6_easeTurn 53 = .ok (.return_, 1) := by decide +kernel
theorem dX6_swapEnds_0 : decode cX6_swapEnds 0 = .ok (.aload_n 2, 1) := by decide +kernel
theorem dX6_swapEnds_1 : decode cX6_swapEnds 1 = .ok (.getfield 219, 3) := by decide +kernel
theorem dX6_swapEnds_4 : decode cX6_swapEnds 4 = .ok (.ifCond .ne 21, 3) := by decide +kernel
theorem dX6_swapEnds_7 : decode cX6_swapEnds 7 = .ok (.aload_n 0, 1) := by decide +kernel
theorem dX6_swapEnds_8 : decode cX6_swapEnds 8 = .ok (.iload_n 1, 1) := by decide +kernel
theorem dX6_swapEnds_9 : decode cX6_swapEnds 9 = .ok (.invokevirtual 311, 3) := by decide +kernel
theorem dX6_swapEnds_12 : decode cX6_swapEnds 12 = .ok (.ifCond .eq 13, 3) := by decide +kernel
theorem dX6_swapEnds_15 : decode cX6_swapEnds 15 = .ok (.aload_n 2, 1) := by decide +kernel
theorem dX6_swapEnds_16 : decode cX6_swapEnds 16 = .ok (.getfield 270, 3) := by decide +kernel
theorem dX6_swapEnds_19 : decode cX6_swapEnds 19 = .ok (.invokevirtual 317, 3) := by decide +kernel
theorem dX6_swapEnds_22 : decode cX6_swapEnds 22 = .ok (.ifCond .ne 4, 3) := by decide +kernel
theorem dX6_swapEnds_25 : decode cX6_swapEnds 25 = .ok (.return_, 1) := by decide +kernel
theorem dX6_swapEnds_26 : decode cX6_swapEnds 26 = .ok (.aload_n 0, 1) := by decide +kernel
theorem dX6_swapEnds_27 : decode cX6_swapEnds 27 = .ok (.getfield 16, 3) := by decide +kernel
theorem dX6_swapEnds_30 : decode cX6_swapEnds 30 = .ok (.iload_n 1, 1) := by decide +kernel
theorem dX6_swapEnds_31 : decode cX6_swapEnds 31 = .ok (.iconst 1, 1) := by decide +kernel
theorem dX6_swapEnds_32 : decode cX6_swapEnds 32 = .ok (.isub, 1) := by decide +kernel
theorem dX6_swapEnds_33 : decode cX6_swapEnds 33 = .ok (.invokevirtual 84, 3) := by decide +kernel
theorem dX6_swapEnds_36 : decode cX6_swapEnds 36 = .ok (.checkcast 165, 3) := by decide +kernel
theorem dX6_swapEnds_39 : decode cX6_swapEnds 39 = .ok (.getfield 270, 3) := by decide +kernel
theorem dX6_swapEnds_42 : decode cX6_swapEnds 42 = .ok (.getfield 109, 3) := by decide +kernel
theorem dX6_swapEnds_45 : decode cX6_swapEnds 45 = .ok (.istore_n 3, 1) := by decide +kernel
theorem dX6_swapEnds_46 : decode cX6_swapEnds 46 = .ok (.aload_n 2, 1) := by decide +kernel
theorem dX6_swapEnds_47 : decode cX6_swapEnds 47 = .ok (.getfield 270, 3) := by decide +kernel
theorem dX6_swapEnds_50 : decode cX6_swapEnds 50 = .ok (.getfield 106, 3) := by decide +kernel
theorem dX6_swapEnds_53 : decode cX6_swapEnds 53 = .ok (.istore 4, 2) := by decide +kernel
theorem dX6_swapEnds_55 : decode cX6_swapEnds 55 = .ok (.aload_n 2, 1) := by decide +kernel
theorem dX6_swapEnds_56 : decode cX6_swapEnds 56 = .ok (.getfield 270, 3) := by decide +kernel
theorem dX6_swapEnds_59 : decode cX6_swapEnds 59 = .ok (.getfield 109, 3) := by decide +kernel
theorem dX6_swapEnds_62 : decode cX6_swapEnds 62 = .ok (.istore 5, 2) := by decide +kernel
theorem dX6_swapEnds_64 : decode cX6_swapEnds 64 = .ok (.iload_n 3, 1) := by decide +kernel
theorem dX6_swapEnds_65 : decode cX6_swapEnds 65 = .ok (.iload 5, 2) := by decide +kernel
theorem dX6_swapEnds_67 : decode cX6_swapEnds 67 = .ok (.invokestatic 320, 3) := by decide +kernel
theorem dX6_swapEnds_70 : decode cX6_swapEnds 70 = .ok (.iload_n 3, 1) := by decide +kernel
theorem dX6_swapEnds_71 : decode cX6_swapEnds 71 = .ok (.iload 4, 2) := by decide +kernel
theorem dX6_swapEnds_73 : decode cX6_swapEnds 73 = .ok (.invokestatic 320, 3) := by decide +kernel
theorem dX6_swapEnds_76 : decode cX6_swapEnds 76 = .ok (.if_icmp .ge 21, 3) := by decide +kernel
theorem dX6_swapEnds_79 : decode cX6_swapEnds 79 = .ok (.aload_n 2, 1) := by decide +kernel
theorem dX6_swapEnds_80 : decode cX6_swapEnds 80 = .ok (.getfield 270, 3) := by decide +kernel
theorem dX6_swapEnds_83 : decode cX6_swapEnds 83 = .ok (.iload 5, 2) := by decide +kernel
theorem dX6_swapEnds_85 : decode cX6_swapEnds 85 = .ok (.putfield 106, 3) := by decide +kernel
theorem dX6_swapEnds_88 : decode cX6_swapEnds 88 = .ok (.aload_n 2, 1) := by decide +kernel
theorem dX6_swapEnds_89 : decode cX6_swapEnds 89 = .ok (.getfield 270, 3) := by decide +kernel
theorem dX6_swapEnds_92 : decode cX6_swapEnds 92 = .ok (.iload 4, 2) := by decide +kernel
theorem dX6_swapEnds_94 : decode cX6_swapEnds 94 = .ok (.putfield 109, 3) := by decide +kernel
theorem dX6_swapEnds_97 : decode cX6_swapEnds 97 = .ok (.return_, 1) := by decide +kernel
theorem dX6_slideLetter_0 : decode cX6_slideLetter 0 = .ok (.aload_n 2, 1) := by decide +kernel
theorem dX6_slideLetter_1 : decode cX6_slideLetter 1 = .ok (.getfield 219, 3) := by decide +kernel
theorem dX6_slideLetter_4 : decode cX6_slideLetter 4 = .ok (.iconst 5, 1) := by decide +kernel
theorem dX6_slideLetter_5 : decode cX6_slideLetter 5 = .ok (.if_icmp .ne 11, 3) := by decide +kernel
theorem dX6_slideLetter_8 : decode cX6_slideLetter 8 = .ok (.aload_n 0, 1) := by decide +kernel
theorem dX6_slideLetter_9 : decode cX6_slideLetter 9 = .ok (.iload_n 1, 1) := by decide +kernel
theorem dX6_slideLetter_10 : decode cX6_slideLetter 10 = .ok (.invokevirtual 311, 3) := by decide +kernel
theorem dX6_slideLetter_13 : decode cX6_slideLetter 13 = .ok (.ifCond .ne 4, 3) := by decide +kernel
theorem dX6_slideLetter_16 : decode cX6_slideLetter 16 = .ok (.return_, 1) := by decide +kernel
theorem dX6_slideLetter_17 : decode cX6_slideLetter 17 = .ok (.aload_n 0, 1) := by decide +kernel
theorem dX6_slideLetter_18 : decode cX6_slideLetter 18 = .ok (.getfield 16, 3) := by decide +kernel
theorem dX6_slideLetter_21 : decode cX6_slideLetter 21 = .ok (.iload_n 1, 1) := by decide +kernel
theorem dX6_slideLetter_22 : decode cX6_slideLetter 22 = .ok (.iconst 1, 1) := by decide +kernel
theorem dX6_slideLetter_23 : decode cX6_slideLetter 23 = .ok (.isub, 1) := by decide +kernel
theorem dX6_slideLetter_24 : decode cX6_slideLetter 24 = .ok (.invokevirtual 84, 3) := by decide +kernel
theorem dX6_slideLetter_27 : decode cX6_slideLetter 27 = .ok (.checkcast 165, 3) := by decide +kernel
theorem dX6_slideLetter_30 : decode cX6_slideLetter 30 = .ok (.astore_n 3, 1) := by decide +kernel
theorem dX6_slideLetter_31 : decode cX6_slideLetter 31 = .ok (.aload_n 3, 1) := by decide +kernel
theorem dX6_slideLetter_32 : decode cX6_slideLetter 32 = .ok (.getfield 219, 3) := by decide +kernel
theorem dX6_slideLetter_35 : decode cX6_slideLetter 35 = .ok (.iconst 5, 1) := by decide +kernel
theorem dX6_slideLetter_36 : decode cX6_slideLetter 36 = .ok (.if_icmp .ne 30, 3) := by decide +kernel
theorem dX6_slideLetter_39 : decode cX6_slideLetter 39 = .ok (.aload_n 3, 1) := by decide +kernel
theorem dX6_slideLetter_40 : decode cX6_slideLetter 40 = .ok (.getfield 222, 3) := by decide +kernel
theorem dX6_slideLetter_43 : decode cX6_slideLetter 43 = .ok (.aload_n 2, 1) := by decide +kernel
theorem dX6_slideLetter_44 : decode cX6_slideLetter 44 = .ok (.getfield 222, 3) := by decide +kernel
theorem dX6_slideLetter_47 : decode cX6_slideLetter 47 = .ok (.if_icmp .ne 19, 3) := by decide +kernel
theorem dX6_slideLetter_50 : decode cX6_slideLetter 50 = .ok (.aload_n 2, 1) := by decide +kernel
theorem dX6_slideLetter_51 : decode cX6_slideLetter 51 = .ok (.getfield 270, 3) := by decide +kernel
theorem dX6_slideLetter_54 : decode cX6_slideLetter 54 = .ok (.iconst 4, 1) := by decide +kernel
theorem dX6_slideLetter_55 : decode cX6_slideLetter 55 = .ok (.putfield 106, 3) := by decide +kernel
theorem dX6_slideLetter_58 : decode cX6_slideLetter 58 = .ok (.aload_n 2, 1) := by decide +kernel
theorem dX6_slideLetter_59 : decode cX6_slideLetter 59 = .ok (.getfield 270, 3) := by decide +kernel
theorem dX6_slideLetter_62 : decode cX6_slideLetter 62 = .ok (.iconst 5, 1) := by decide +kernel
theorem dX6_slideLetter_63 : decode cX6_slideLetter 63 = .ok (.putfield 109, 3) := by decide +kernel
theorem dX6_slideLetter_66 : decode cX6_slideLetter 66 = .ok (.return_, 1) := by decide +kernel
theorem dX6_hasItemAhead_0 : decode cX6_hasItemAhead 0 = .ok (.iload_n 1, 1) := by decide +kernel
theorem dX6_hasItemAhead_1 : decode cX6_hasItemAhead 1 = .ok (.iconst 1, 1) := by decide +kernel
theorem dX6_hasItemAhead_2 : decode cX6_hasItemAhead 2 = .ok (.isub, 1) := by decide +kernel
theorem dX6_hasItemAhead_3 : decode cX6_hasItemAhead 3 = .ok (.aload_n 0, 1) := by decide +kernel
theorem dX6_hasItemAhead_4 : decode cX6_hasItemAhead 4 = .ok (.getfield 16, 3) := by decide +kernel
theorem dX6_hasItemAhead_7 : decode cX6_hasItemAhead 7 = .ok (.invokevirtual 54, 3) := by decide +kernel
theorem dX6_hasItemAhead_10 : decode cX6_hasItemAhead 10 = .ok (.invokestatic 38, 3) := by decide +kernel
theorem dX6_hasItemAhead_13 : decode cX6_hasItemAhead 13 = .ok (.ireturn, 1) := by decide +kernel
theorem dX6_signed_0 : decode cX6_signed 0 = .ok (.aload_n 0, 1) := by decide +kernel
theorem dX6_signed_1 : decode cX6_signed 1 = .ok (.iload_n 1, 1) := by decide +kernel
theorem dX6_signed_2 : decode cX6_signed 2 = .ok (.invokevirtual 177, 3) := by decide +kernel
theorem dX6_signed_5 : decode cX6_signed 5 = .ok (.iload_n 2, 1) := by decide +kernel
theorem dX6_signed_6 : decode cX6_signed 6 = .ok (.bipush 9, 2) := by decide +kernel
theorem dX6_signed_8 : decode cX6_signed 8 = .ok (.invokestatic 38, 3) := by decide +kernel
theorem dX6_signed_11 : decode cX6_signed 11 = .ok (.ifCond .ne 13, 3) := by decide +kernel
theorem dX6_signed_14 : decode cX6_signed 14 = .ok (.new 42, 3) := by decide +kernel
theorem dX6_signed_17 : decode cX6_signed 17 = .ok (.dup, 1) := by decide +kernel
theorem dX6_signed_18 : decode cX6_signed 18 = .ok (.ldc 82, 2) := by decide +kernel
theorem dX6_signed_20 : decode cX6_signed 20 = .ok (.invokespecial 46, 3) := by decide +kernel
theorem dX6_signed_23 : decode cX6_signed 23 = .ok (.athrow, 1) := by decide +kernel
theorem dX6_signed_24 : decode cX6_signed 24 = .ok (.aload_n 0, 1) := by decide +kernel
theorem dX6_signed_25 : decode cX6_signed 25 = .ok (.invokevirtual 323, 3) := by decide +kernel
theorem dX6_signed_28 : decode cX6_signed 28 = .ok (.aload_n 0, 1) := by decide +kernel
theorem dX6_signed_29 : decode cX6_signed 29 = .ok (.getfield 16, 3) := by decide +kernel
theorem dX6_signed_32 : decode cX6_signed 32 = .ok (.iload_n 1, 1) := by decide +kernel
theorem dX6_signed_33 : decode cX6_signed 33 = .ok (.invokevirtual 84, 3) := by decide +kernel
theorem dX6_signed_36 : decode cX6_signed 36 = .ok (.checkcast 165, 3) := by decide +kernel
theorem dX6_signed_39 : decode cX6_signed 39 = .ok (.astore_n 3, 1) := by decide +kernel
theorem dX6_signed_40 : decode cX6_signed 40 = .ok (.iload_n 2, 1) := by decide +kernel
theorem dX6_signed_41 : decode cX6_signed 41 = .ok (.tableswitch 105 0 7 #[47, 55, 63, 71, 79, 87, 95, 100], 47) := by decide +kernel
theorem dX6_signed_88 : decode cX6_signed 88 = .ok (.aload_n 3, 1) := by decide +kernel
theorem dX6_signed_89 : decode cX6_signed 89 = .ok (.getfield 270, 3) := by decide +kernel
theorem dX6_signed_92 : decode cX6_signed 92 = .ok (.getfield 102, 3) := by decide +kernel
theorem dX6_signed_95 : decode cX6_signed 95 = .ok (.ireturn, 1) := by decide +kernel
theorem dX6_signed_96 : decode cX6_signed 96 = .ok (.aload_n 3, 1) := by decide +kernel
theorem dX6_signed_97 : decode cX6_signed 97 = .ok (.getfield 270, 3) := by decide +kernel
theorem dX6_signed_100 : decode cX6_signed 100 = .ok (.getfield 106, 3) := by decide +kernel
theorem dX6_signed_103 : decode cX6_signed 103 = .ok (.ireturn, 1) := by decide +kernel
theorem dX6_signed_104 : decode cX6_signed 104 = .ok (.aload_n 3, 1) := by decide +kernel
theorem dX6_signed_105 : decode cX6_signed 105 = .ok (.getfield 270, 3) := by decide +kernel
theorem dX6_signed_108 : decode cX6_signed 108 = .ok (.getfield 109, 3) := by decide +kernel
theorem dX6_signed_111 : decode cX6_signed 111 = .ok (.ireturn, 1) := by decide +kernel
theorem dX6_signed_112 : decode cX6_signed 112 = .ok (.aload_n 3, 1) := by decide +kernel
theorem dX6_signed_113 : decode cX6_signed 113 = .ok (.getfield 270, 3) := by decide +kernel
theorem dX6_signed_116 : decode cX6_signed 116 = .ok (.getfield 112, 3) := by decide +kernel
theorem dX6_signed_119 : decode cX6_signed 119 = .ok (.ireturn, 1) := by decide +kernel
theorem dX6_signed_120 : decode cX6_signed 120 = .ok (.aload_n 3, 1) := by decide +kernel
theorem dX6_signed_121 : decode cX6_signed 121 = .ok (.getfield 270, 3) := by decide +kernel
theorem dX6_signed_124 : decode cX6_signed 124 = .ok (.getfield 115, 3) := by decide +kernel
theorem dX6_signed_127 : decode cX6_signed 127 = .ok (.ireturn, 1) := by decide +kernel
theorem dX6_signed_128 : decode cX6_signed 128 = .ok (.aload_n 3, 1) := by decide +kernel
theorem dX6_signed_129 : decode cX6_signed 129 = .ok (.getfield 270, 3) := by decide +kernel
theorem dX6_signed_132 : decode cX6_signed 132 = .ok (.getfield 118, 3) := by decide +kernel
theorem dX6_signed_135 : decode cX6_signed 135 = .ok (.ireturn, 1) := by decide +kernel
theorem dX6_signed_136 : decode cX6_signed 136 = .ok (.aload_n 3, 1) := by decide +kernel
theorem dX6_signed_137 : decode cX6_signed 137 = .ok (.getfield 326, 3) := by decide +kernel
theorem dX6_signed_140 : decode cX6_signed 140 = .ok (.ireturn, 1) := by decide +kernel
theorem dX6_signed_141 : decode cX6_signed 141 = .ok (.aload_n 3, 1) := by decide +kernel
theorem dX6_signed_142 : decode cX6_signed 142 = .ok (.getfield 329, 3) := by decide +kernel
theorem dX6_signed_145 : decode cX6_signed 145 = .ok (.ireturn, 1) := by decide +kernel
theorem dX6_signed_146 : decode cX6_signed 146 = .ok (.aload_n 3, 1) := by decide +kernel
theorem dX6_signed_147 : decode cX6_signed 147 = .ok (.getfield 332, 3) := by decide +kernel
theorem dX6_signed_150 : decode cX6_signed 150 = .ok (.ireturn, 1) := by decide +kernel
theorem dX6_at_0 : decode cX6_at 0 = .ok (.iload_n 1, 1) := by decide +kernel
theorem dX6_at_1 : decode cX6_at 1 = .ok (.ifCond .ge 14, 3) := by decide +kernel
theorem dX6_at_4 : decode cX6_at 4 = .ok (.new 140, 3) := by decide +kernel
theorem dX6_at_7 : decode cX6_at 7 = .ok (.dup, 1) := by decide +kernel
theorem dX6_at_8 : decode cX6_at 8 = .ok (.ldc_w 335, 3) := by decide +kernel
theorem dX6_at_11 : decode cX6_at 11 = .ok (.invokespecial 144, 3) := by decide +kernel
theorem dX6_at_14 : decode cX6_at 14 = .ok (.athrow, 1) := by decide +kernel
theorem dX6_at_15 : decode cX6_at 15 = .ok (.iload_n 2, 1) := by decide +kernel
theorem dX6_at_16 : decode cX6_at 16 = .ok (.bipush 8, 2) := by decide +kernel
theorem dX6_at_18 : decode cX6_at 18 = .ok (.invokestatic 38, 3) := by decide +kernel
theorem dX6_at_21 : decode cX6_at 21 = .ok (.ifCond .ne 13, 3) := by decide +kernel
theorem dX6_at_24 : decode cX6_at 24 = .ok (.new 42, 3) := by decide +kernel
theorem dX6_at_27 : decode cX6_at 27 = .ok (.dup, 1) := by decide +kernel
theorem dX6_at_28 : decode cX6_at 28 = .ok (.ldc 82, 2) := by decide +kernel
theorem dX6_at_30 : decode cX6_at 30 = .ok (.invokespecial 46, 3) := by decide +kernel
theorem dX6_at_33 : decode cX6_at 33 = .ok (.athrow, 1) := by decide +kernel
theorem dX6_at_34 : decode cX6_at 34 = .ok (.aload_n 0, 1) := by decide +kernel
theorem dX6_at_35 : decode cX6_at 35 = .ok (.invokevirtual 323, 3) := by decide +kernel
theorem dX6_at_38 : decode cX6_at 38 = .ok (.aload_n 0, 1) := by decide +kernel
theorem dX6_at_39 : decode cX6_at 39 = .ok (.iload_n 1, 1) := by decide +kernel
theorem dX6_at_40 : decode cX6_at 40 = .ok (.invokevirtual 337, 3) := by decide +kernel
theorem dX6_at_43 : decode cX6_at 43 = .ok (.istore_n 3, 1) := by decide +kernel
theorem dX6_at_44 : decode cX6_at 44 = .ok (.iload_n 3, 1) := by decide +kernel
theorem dX6_at_45 : decode cX6_at 45 = .ok (.aload_n 0, 1) := by decide +kernel
theorem dX6_at_46 : decode cX6_at 46 = .ok (.getfield 16, 3) := by decide +kernel
theorem dX6_at_49 : decode cX6_at 49 = .ok (.invokevirtual 54, 3) := by decide +kernel
theorem dX6_at_52 : decode cX6_at 52 = .ok (.invokestatic 38, 3) := by decide +kernel
theorem dX6_at_55 : decode cX6_at 55 = .ok (.ifCond .ne 5, 3) := by decide +kernel
theorem dX6_at_58 : decode cX6_at 58 = .ok (.iconst (-1), 1) := by decide +kernel
theorem dX6_at_59 : decode cX6_at 59 = .ok (.ireturn, 1) := by decide +kernel
theorem dX6_at_60 : decode cX6_at 60 = .ok (.aload_n 0, 1) := by decide +kernel
theorem dX6_at_61 : decode cX6_at 61 = .ok (.getfield 16, 3) := by decide +kernel
theorem dX6_at_64 : decode cX6_at 64 = .ok (.iload_n 3, 1) := by decide +kernel
theorem dX6_at_65 : decode cX6_at 65 = .ok (.invokevirtual 84, 3) := by decide +kernel
theorem dX6_at_68 : decode cX6_at 68 = .ok (.checkcast 165, 3) := by decide +kernel
theorem dX6_at_71 : decode cX6_at 71 = .ok (.astore 4, 2) := by decide +kernel
theorem dX6_at_73 : decode cX6_at 73 = .ok (.iload_n 1, 1) := by decide +kernel
theorem dX6_at_74 : decode cX6_at 74 = .ok (.aload 4, 2) := by decide +kernel
theorem dX6_at_76 : decode cX6_at 76 = .ok (.getfield 329, 3) := by decide +kernel
theorem dX6_at_79 : decode cX6_at 79 = .ok (.if_icmp .ge 7, 3) := by decide +kernel
theorem dX6_at_82 : decode cX6_at 82 = .ok (.iconst 1, 1) := by decide +kernel
theorem dX6_at_83 : decode cX6_at 83 = .ok (.goto 4, 3) := by decide +kernel
theorem dX6_at_86 : decode cX6_at 86 = .ok (.iconst 0, 1) := by decide +kernel
theorem dX6_at_87 : decode cX6_at 87 = .ok (.istore 5, 2) := by decide +kernel
theorem dX6_at_89 : decode cX6_at 89 = .ok (.iload_n 2, 1) := by decide +kernel
theorem dX6_at_90 : decode cX6_at 90 = .ok (.tableswitch 119 0 7 #[46, 55, 76, 99, 119, 119, 119, 117], 46) := by decide +kernel
theorem dX6_at_136 : decode cX6_at 136 = .ok (.aload 4, 2) := by decide +kernel
theorem dX6_at_138 : decode cX6_at 138 = .ok (.getfield 270, 3) := by decide +kernel
theorem dX6_at_141 : decode cX6_at 141 = .ok (.getfield 102, 3) := by decide +kernel
theorem dX6_at_144 : decode cX6_at 144 = .ok (.ireturn, 1) := by decide +kernel
theorem dX6_at_145 : decode cX6_at 145 = .ok (.iload 5, 2) := by decide +kernel
theorem dX6_at_147 : decode cX6_at 147 = .ok (.ifCond .eq 12, 3) := by decide +kernel
theorem dX6_at_150 : decode cX6_at 150 = .ok (.aload_n 0, 1) := by decide +kernel
theorem dX6_at_151 : decode cX6_at 151 = .ok (.iload_n 3, 1) := by decide +kernel
theorem dX6_at_152 : decode cX6_at 152 = .ok (.iload_n 1, 1) := by decide +kernel
theorem dX6_at_153 : decode cX6_at 153 = .ok (.invokevirtual 340, 3) := by decide +kernel
theorem dX6_at_156 : decode cX6_at 156 = .ok (.goto 9, 3) := by decide +kernel
theorem dX6_at_159 : decode cX6_at 159 = .ok (.aload 4, 2) := by decide +kernel
theorem dX6_at_161 : decode cX6_at 161 = .ok (.iload_n 1, 1) := by decide +kernel
theorem dX6_at_162 : decode cX6_at 162 = .ok (.invokestatic 343, 3) := by decide +kernel
theorem dX6_at_165 : decode cX6_at 165 = .ok (.ireturn, 1) := by decide +kernel
theorem dX6_at_166 : decode cX6_at 166 = .ok (.iload 5, 2) := by decide +kernel
theorem dX6_at_168 : decode cX6_at 168 = .ok (.ifCond .eq 14, 3) := by decide +kernel
theorem dX6_at_171 : decode cX6_at 171 = .ok (.aload 4, 2) := by decide +kernel
theorem dX6_at_173 : decode cX6_at 173 = .ok (.getfield 270, 3) := by decide +kernel
theorem dX6_at_176 : decode cX6_at 176 = .ok (.getfield 112, 3) := by decide +kernel
theorem dX6_at_179 : decode cX6_at 179 = .ok (.goto 9, 3) := by decide +kernel
theorem dX6_at_182 : decode cX6_at 182 = .ok (.aload 4, 2) := by decide +kernel
theorem dX6_at_184 : decode cX6_at 184 = .ok (.iload_n 1, 1) := by decide +kernel
theorem dX6_at_185 : decode cX6_at 185 = .ok (.invokestatic 347, 3) := by decide +kernel
theorem dX6_at_188 : decode cX6_at 188 = .ok (.ireturn, 1) := by decide +kernel
theorem dX6_at_189 : decode cX6_at 189 = .ok (.iload 5, 2) := by decide +kernel
theorem dX6_at_191 : decode cX6_at 191 = .ok (.ifCond .eq 7, 3) := by decide +kernel
theorem dX6_at_194 : decode cX6_at 194 = .ok (.iconst 0, 1) := by decide +kernel
theorem dX6_at_195 : decode cX6_at 195 = .ok (.goto 11, 3) := by decide +kernel
theorem dX6_at_198 : decode cX6_at 198 = .ok (.aload 4, 2) := by decide +kernel
theorem dX6_at_200 : decode cX6_at 200 = .ok (.getfield 270, 3) := by decide +kernel
theorem dX6_at_203 : decode cX6_at 203 = .ok (.getfield 118, 3) := by decide +kernel
theorem dX6_at_206 : decode cX6_at 206 = .ok (.ireturn, 1) := by decide +kernel
theorem dX6_at_207 : decode cX6_at 207 = .ok (.iload_n 3, 1) := by decide +kernel
theorem dX6_at_208 : decode cX6_at 208 = .ok (.ireturn, 1) := by decide +kernel
theorem dX6_at_209 : decode cX6_at 209 = .ok (.aload_n 0, 1) := by decide +kernel
theorem dX6_at_210 : decode cX6_at 210 = .ok (.iload_n 3, 1) := by decide +kernel
theorem dX6_at_211 : decode cX6_at 211 = .ok (.iload_n 2, 1) := by decide +kernel
theorem dX6_at_212 : decode cX6_at 212 = .ok (.iconst 4, 1) := by decide +kernel
theorem dX6_at_213 : decode cX6_at 213 = .ok (.isub, 1) := by decide +kernel
theorem dX6_at_214 : decode cX6_at 214 = .ok (.invokevirtual 199, 3) := by decide +kernel
theorem dX6_at_217 : decode cX6_at 217 = .ok (.ireturn, 1) := by decide +kernel
theorem dX6_readBack_0 : decode cX6_readBack 0 = .ok (.aload_n 0, 1) := by decide +kernel
theorem dX6_readBack_1 : decode cX6_readBack 1 = .ok (.iload_n 1, 1) := by decide +kernel
theorem dX6_readBack_2 : decode cX6_readBack 2 = .ok (.invokevirtual 177, 3) := by decide +kernel
theorem dX6_readBack_5 : decode cX6_readBack 5 = .ok (.iload_n 2, 1) := by decide +kernel
theorem dX6_readBack_6 : decode cX6_readBack 6 = .ok (.iconst 3, 1) := by decide +kernel
theorem dX6_readBack_7 : decode cX6_readBack 7 = .ok (.invokestatic 38, 3) := by decide +kernel
theorem dX6_readBack_10 : decode cX6_readBack 10 = .ok (.ifCond .ne 13, 3) := by decide +kernel
theorem dX6_readBack_13 : decode cX6_readBack 13 = .ok (.new 42, 3) := by decide +kernel
theorem dX6_readBack_16 : decode cX6_readBack 16 = .ok (.dup, 1) := by decide +kernel
theorem dX6_readBack_17 : decode cX6_readBack 17 = .ok (.ldc 82, 2) := by decide +kernel
theorem dX6_readBack_19 : decode cX6_readBack 19 = .ok (.invokespecial 46, 3) := by decide +kernel
theorem dX6_readBack_22 : decode cX6_readBack 22 = .ok (.athrow, 1) := by decide +kernel
theorem dX6_readBack_23 : decode cX6_readBack 23 = .ok (.aload_n 0, 1) := by decide +kernel
theorem dX6_readBack_24 : decode cX6_readBack 24 = .ok (.invokevirtual 350, 3) := by decide +kernel
theorem dX6_readBack_27 : decode cX6_readBack 27 = .ok (.aload_n 0, 1) := by decide +kernel
theorem dX6_readBack_28 : decode cX6_readBack 28 = .ok (.getfield 16, 3) := by decide +kernel
theorem dX6_readBack_31 : decode cX6_readBack 31 = .ok (.iload_n 1, 1) := by decide +kernel
theorem dX6_readBack_32 : decode cX6_readBack 32 = .ok (.invokevirtual 84, 3) := by decide +kernel
theorem dX6_readBack_35 : decode cX6_readBack 35 = .ok (.checkcast 165, 3) := by decide +kernel
theorem dX6_readBack_38 : decode cX6_readBack 38 = .ok (.astore_n 3, 1) := by decide +kernel
theorem dX6_readBack_39 : decode cX6_readBack 39 = .ok (.aload_n 0, 1) := by decide +kernel
theorem dX6_readBack_40 : decode cX6_readBack 40 = .ok (.aload_n 3, 1) := by decide +kernel
theorem dX6_readBack_41 : decode cX6_readBack 41 = .ok (.invokevirtual 353, 3) := by decide +kernel
theorem dX6_readBack_44 : decode cX6_readBack 44 = .ok (.istore 4, 2) := by decide +kernel
theorem dX6_readBack_46 : decode cX6_readBack 46 = .ok (.iload_n 2, 1) := by decide +kernel
theorem dX6_readBack_47 : decode cX6_readBack 47 = .ok (.lookupswitch 39 #[(0, 25), (1, 28)], 25) := by decide +kernel
theorem dX6_readBack_72 : decode cX6_readBack 72 = .ok (.iload 4, 2) := by decide +kernel
theorem dX6_readBack_74 : decode cX6_readBack 74 = .ok (.ireturn, 1) := by decide +kernel
theorem dX6_readBack_75 : decode cX6_readBack 75 = .ok (.aload_n 0, 1) := by decide +kernel
theorem dX6_readBack_76 : decode cX6_readBack 76 = .ok (.iload 4, 2) := by decide +kernel
theorem dX6_readBack_78 : decode cX6_readBack 78 = .ok (.aload_n 3, 1) := by decide +kernel
theorem dX6_readBack_79 : decode cX6_readBack 79 = .ok (.getfield 270, 3) := by decide +kernel
theorem dX6_readBack_82 : decode cX6_readBack 82 = .ok (.invokevirtual 357, 3) := by decide +kernel
theorem dX6_readBack_85 : decode cX6_readBack 85 = .ok (.ireturn, 1) := by decide +kernel
theorem dX6_readBack_86 : decode cX6_readBack 86 = .ok (.iload 4, 2) := by decide +kernel
theorem dX6_readBack_88 : decode cX6_readBack 88 = .ok (.ifCond .ne 14, 3) := by decide +kernel
theorem dX6_readBack_91 : decode cX6_readBack 91 = .ok (.aload_n 0, 1) := by decide +kernel
theorem dX6_readBack_92 : decode cX6_readBack 92 = .ok (.aload_n 3, 1) := by decide +kernel
theorem dX6_readBack_93 : decode cX6_readBack 93 = .ok (.getfield 270, 3) := by decide +kernel
theorem dX6_readBack_96 : decode cX6_readBack 96 = .ok (.invokevirtual 360, 3) := by decide +kernel
theorem dX6_readBack_99 : decode cX6_readBack 99 = .ok (.goto 4, 3) := by decide +kernel
theorem dX6_readBack_102 : decode cX6_readBack 102 = .ok (.iconst 0, 1) := by decide +kernel
theorem dX6_readBack_103 : decode cX6_readBack 103 = .ok (.ireturn, 1) := by decide +kernel
theorem dX6_signAll_0 : decode cX6_signAll 0 = .ok (.aload_n 0, 1) := by decide +kernel
theorem dX6_signAll_1 : decode cX6_signAll 1 = .ok (.invokevirtual 350, 3) := by decide +kernel
theorem dX6_signAll_4 : decode cX6_signAll 4 = .ok (.iconst 0, 1) := by decide +kernel
theorem dX6_signAll_5 : decode cX6_signAll 5 = .ok (.istore_n 1, 1) := by decide +kernel
theorem dX6_signAll_6 : decode cX6_signAll 6 = .ok (.iconst 0, 1) := by decide +kernel
theorem dX6_signAll_7 : decode cX6_signAll 7 = .ok (.istore_n 2, 1) := by decide +kernel
theorem dX6_signAll_8 : decode cX6_signAll 8 = .ok (.iload_n 2, 1) := by decide +kernel
theorem dX6_signAll_9 : decode cX6_signAll 9 = .ok (.aload_n 0, 1) := by decide +kernel
theorem dX6_signAll_10 : decode cX6_signAll 10 = .ok (.getfield 16, 3) := by decide +kernel
theorem dX6_signAll_13 : decode cX6_signAll 13 = .ok (.invokevirtual 54, 3) := by decide +kernel
theorem dX6_signAll_16 : decode cX6_signAll 16 = .ok (.if_icmp .ge 80, 3) := by decide +kernel
theorem dX6_signAll_19 : decode cX6_signAll 19 = .ok (.aload_n 0, 1) := by decide +kernel
theorem dX6_signAll_20 : decode cX6_signAll 20 = .ok (.getfield 16, 3) := by decide +kernel
theorem dX6_signAll_23 : decode cX6_signAll 23 = .ok (.iload_n 2, 1) := by decide +kernel
theorem dX6_signAll_24 : decode cX6_signAll 24 = .ok (.invokevirtual 84, 3) := by decide +kernel
theorem dX6_signAll_27 : decode cX6_signAll 27 = .ok (.checkcast 165, 3) := by decide +kernel
theorem dX6_signAll_30 : decode cX6_signAll 30 = .ok (.astore_n 3, 1) := by decide +kernel
theorem dX6_signAll_31 : decode cX6_signAll 31 = .ok (.aload_n 3, 1) := by decide +kernel
theorem dX6_signAll_32 : decode cX6_signAll 32 = .ok (.iload_n 1, 1) := by decide +kernel
theorem dX6_signAll_33 : decode cX6_signAll 33 = .ok (.putfield 326, 3) := by decide +kernel
theorem dX6_signAll_36 : decode cX6_signAll 36 = .ok (.aload_n 0, 1) := by decide +kernel
theorem dX6_signAll_37 : decode cX6_signAll 37 = .ok (.iload_n 2, 1) := by decide +kernel
theorem dX6_signAll_38 : decode cX6_signAll 38 = .ok (.invokevirtual 311, 3) := by decide +kernel
theorem dX6_signAll_41 : decode cX6_signAll 41 = .ok (.ifCond .eq 29, 3) := by decide +kernel
theorem dX6_signAll_44 : decode cX6_signAll 44 = .ok (.iload_n 1, 1) := by decide +kernel
theorem dX6_signAll_45 : decode cX6_signAll 45 = .ok (.aload_n 0, 1) := by decide +kernel
theorem dX6_signAll_46 : decode cX6_signAll 46 = .ok (.getfield 16, 3) := by decide +kernel
theorem dX6_signAll_49 : decode cX6_signAll 49 = .ok (.iload_n 2, 1) := by decide +kernel
theorem dX6_signAll_50 : decode cX6_signAll 50 = .ok (.iconst 1, 1) := by decide +kernel
theorem dX6_signAll_51 : decode cX6_signAll 51 = .ok (.isub, 1) := by decide +kernel
theorem dX6_signAll_52 : decode cX6_signAll 52 = .ok (.invokevirtual 84, 3) := by decide +kernel
theorem dX6_signAll_55 : decode cX6_signAll 55 = .ok (.checkcast 165, 3) := by decide +kernel
theorem dX6_signAll_58 : decode cX6_signAll 58 = .ok (.getfield 270, 3) := by decide +kernel
theorem dX6_signAll_61 : decode cX6_signAll 61 = .ok (.aload_n 3, 1) := by decide +kernel
theorem dX6_signAll_62 : decode cX6_signAll 62 = .ok (.getfield 270, 3) := by decide +kernel
theorem dX6_signAll_65 : decode cX6_signAll 65 = .ok (.invokestatic 363, 3) := by decide +kernel
theorem dX6_signAll_68 : decode cX6_signAll 68 = .ok (.iadd, 1) := by decide +kernel
theorem dX6_signAll_69 : decode cX6_signAll 69 = .ok (.istore_n 1, 1) := by decide +kernel
theorem dX6_signAll_70 : decode cX6_signAll 70 = .ok (.aload_n 3, 1) := by decide +kernel
theorem dX6_signAll_71 : decode cX6_signAll 71 = .ok (.iload_n 1, 1) := by decide +kernel
theorem dX6_signAll_72 : decode cX6_signAll 72 = .ok (.putfield 329, 3) := by decide +kernel
theorem dX6_signAll_75 : decode cX6_signAll 75 = .ok (.iload_n 1, 1) := by decide +kernel
theorem dX6_signAll_76 : decode cX6_signAll 76 = .ok (.aload_n 3, 1) := by decide +kernel
theorem dX6_signAll_77 : decode cX6_signAll 77 = .ok (.getfield 270, 3) := by decide +kernel
theorem dX6_signAll_80 : decode cX6_signAll 80 = .ok (.invokestatic 367, 3) := by decide +kernel
theorem dX6_signAll_83 : decode cX6_signAll 83 = .ok (.iadd, 1) := by decide +kernel
theorem dX6_signAll_84 : decode cX6_signAll 84 = .ok (.istore_n 1, 1) := by decide +kernel
theorem dX6_signAll_85 : decode cX6_signAll 85 = .ok (.aload_n 3, 1) := by decide +kernel
theorem dX6_signAll_86 : decode cX6_signAll 86 = .ok (.iload_n 1, 1) := by decide +kernel
theorem dX6_signAll_87 : decode cX6_signAll 87 = .ok (.putfield 332, 3) := by decide +kernel
theorem dX6_signAll_90 : decode cX6_signAll 90 = .ok (.iinc 2 1, 3) := by decide +kernel
theorem dX6_signAll_93 : decode cX6_signAll 93 = .ok (.goto (-85), 3) := by decide +kernel
theorem dX6_signAll_96 : decode cX6_signAll 96 = .ok (.return_, 1) := by decide +kernel
theorem dX6_ticksOfPassing_0 : decode cX6_ticksOfPassing 0 = .ok (.aload_n 0, 1) := by decide +kernel
theorem dX6_ticksOfPassing_1 : decode cX6_ticksOfPassing 1 = .ok (.getfield 102, 3) := by decide +kernel
theorem dX6_ticksOfPassing_4 : decode cX6_ticksOfPassing 4 = .ok (.aload_n 1, 1) := by decide +kernel
theorem dX6_ticksOfPassing_5 : decode cX6_ticksOfPassing 5 = .ok (.getfield 102, 3) := by decide +kernel
theorem dX6_ticksOfPassing_8 : decode cX6_ticksOfPassing 8 = .ok (.if_icmp .ne 27, 3) := by decide +kernel
theorem dX6_ticksOfPassing_11 : decode cX6_ticksOfPassing 11 = .ok (.aload_n 0, 1) := by decide +kernel
theorem dX6_ticksOfPassing_12 : decode cX6_ticksOfPassing 12 = .ok (.getfield 109, 3) := by decide +kernel
theorem dX6_ticksOfPassing_15 : decode cX6_ticksOfPassing 15 = .ok (.aload_n 1, 1) := by decide +kernel
theorem dX6_ticksOfPassing_16 : decode cX6_ticksOfPassing 16 = .ok (.getfield 106, 3) := by decide +kernel
theorem dX6_ticksOfPassing_19 : decode cX6_ticksOfPassing 19 = .ok (.if_icmp .ne 16, 3) := by decide +kernel
theorem dX6_ticksOfPassing_22 : decode cX6_ticksOfPassing 22 = .ok (.aload_n 0, 1) := by decide +kernel
theorem dX6_ticksOfPassing_23 : decode cX6_ticksOfPassing 23 = .ok (.getfield 115, 3) := by decide +kernel
theorem dX6_ticksOfPassing_26 : decode cX6_ticksOfPassing 26 = .ok (.aload_n 1, 1) := by decide +kernel
theorem dX6_ticksOfPassing_27 : decode cX6_ticksOfPassing 27 = .ok (.getfield 112, 3) := by decide +kernel
theorem dX6_ticksOfPassing_30 : decode cX6_ticksOfPassing 30 = .ok (.if_icmp .ne 5, 3) := by decide +kernel
theorem dX6_ticksOfPassing_33 : decode cX6_ticksOfPassing 33 = .ok (.iconst 0, 1) := by decide +kernel
theorem dX6_ticksOfPassing_34 : decode cX6_ticksOfPassing 34 = .ok (.ireturn, 1) := by decide +kernel
theorem dX6_ticksOfPassing_35 : decode cX6_ticksOfPassing 35 = .ok (.iconst 1, 1) := by decide +kernel
theorem dX6_ticksOfPassing_36 : decode cX6_ticksOfPassing 36 = .ok (.aload_n 0, 1) := by decide +kernel
theorem dX6_ticksOfPassing_37 : decode cX6_ticksOfPassing 37 = .ok (.getfield 109, 3) := by decide +kernel
theorem dX6_ticksOfPassing_40 : decode cX6_ticksOfPassing 40 = .ok (.aload_n 1, 1) := by decide +kernel
theorem dX6_ticksOfPassing_41 : decode cX6_ticksOfPassing 41 = .ok (.getfield 106, 3) := by decide +kernel
theorem dX6_ticksOfPassing_44 : decode cX6_ticksOfPassing 44 = .ok (.invokestatic 320, 3) := by decide +kernel
theorem dX6_ticksOfPassing_47 : decode cX6_ticksOfPassing 47 = .ok (.invokestatic 250, 3) := by decide +kernel
theorem dX6_ticksOfPassing_50 : decode cX6_ticksOfPassing 50 = .ok (.ireturn, 1) := by decide +kernel
theorem dX6_ticksOfItem_0 : decode cX6_ticksOfItem 0 = .ok (.aload_n 0, 1) := by decide +kernel
theorem dX6_ticksOfItem_1 : decode cX6_ticksOfItem 1 = .ok (.invokevirtual 317, 3) := by decide +kernel
theorem dX6_ticksOfItem_4 : decode cX6_ticksOfItem 4 = .ok (.ifCond .ne 16, 3) := by decide +kernel
theorem dX6_ticksOfItem_7 : decode cX6_ticksOfItem 7 = .ok (.aload_n 0, 1) := by decide +kernel
theorem dX6_ticksOfItem_8 : decode cX6_ticksOfItem 8 = .ok (.getfield 112, 3) := by decide +kernel
theorem dX6_ticksOfItem_11 : decode cX6_ticksOfItem 11 = .ok (.aload_n 0, 1) := by decide +kernel
theorem dX6_ticksOfItem_12 : decode cX6_ticksOfItem 12 = .ok (.getfield 115, 3) := by decide +kernel
theorem dX6_ticksOfItem_15 : decode cX6_ticksOfItem 15 = .ok (.if_icmp .ne 5, 3) := by decide +kernel
theorem dX6_ticksOfItem_18 : decode cX6_ticksOfItem 18 = .ok (.iconst 3, 1) := by decide +kernel
theorem dX6_ticksOfItem_19 : decode cX6_ticksOfItem 19 = .ok (.ireturn, 1) := by decide +kernel
theorem dX6_ticksOfItem_20 : decode cX6_ticksOfItem 20 = .ok (.iconst 2, 1) := by decide +kernel
theorem dX6_ticksOfItem_21 : decode cX6_ticksOfItem 21 = .ok (.iconst 1, 1) := by decide +kernel
theorem dX6_ticksOfItem_22 : decode cX6_ticksOfItem 22 = .ok (.aload_n 0, 1) := by decide +kernel
theorem dX6_ticksOfItem_23 : decode cX6_ticksOfItem 23 = .ok (.getfield 106, 3) := by decide +kernel
theorem dX6_ticksOfItem_26 : decode cX6_ticksOfItem 26 = .ok (.aload_n 0, 1) := by decide +kernel
theorem dX6_ticksOfItem_27 : decode cX6_ticksOfItem 27 = .ok (.getfield 109, 3) := by decide +kernel
theorem dX6_ticksOfItem_30 : decode cX6_ticksOfItem 30 = .ok (.invokestatic 320, 3) := by decide +kernel
theorem dX6_ticksOfItem_33 : decode cX6_ticksOfItem 33 = .ok (.invokestatic 250, 3) := by decide +kernel
theorem dX6_ticksOfItem_36 : decode cX6_ticksOfItem 36 = .ok (.iadd, 1) := by decide +kernel
theorem dX6_ticksOfItem_37 : decode cX6_ticksOfItem 37 = .ok (.iconst 2, 1) := by decide +kernel
theorem dX6_ticksOfItem_38 : decode cX6_ticksOfItem 38 = .ok (.iadd, 1) := by decide +kernel
theorem dX6_ticksOfItem_39 : decode cX6_ticksOfItem 39 = .ok (.ireturn, 1) := by decide +kernel
theorem dX6_itemAtTick_0 : decode cX6_itemAtTick 0 = .ok (.iconst 0, 1) := by decide +kernel
theorem dX6_itemAtTick_1 : decode cX6_itemAtTick 1 = .ok (.istore_n 2, 1) := by decide +kernel
theorem dX6_itemAtTick_2 : decode cX6_itemAtTick 2 = .ok (.iload_n 2, 1) := by decide +kernel
theorem dX6_itemAtTick_3 : decode cX6_itemAtTick 3 = .ok (.aload_n 0, 1) := by decide +kernel
theorem dX6_itemAtTick_4 : decode cX6_itemAtTick 4 = .ok (.getfield 16, 3) := by decide +kernel
theorem dX6_itemAtTick_7 : decode cX6_itemAtTick 7 = .ok (.invokevirtual 54, 3) := by decide +kernel
theorem dX6_itemAtTick_10 : decode cX6_itemAtTick 10 = .ok (.if_icmp .ge 29, 3) := by decide +kernel
theorem dX6_itemAtTick_13 : decode cX6_itemAtTick 13 = .ok (.iload_n 1, 1) := by decide +kernel
theorem dX6_itemAtTick_14 : decode cX6_itemAtTick 14 = .ok (.aload_n 0, 1) := by decide +kernel
theorem dX6_itemAtTick_15 : decode cX6_itemAtTick 15 = .ok (.getfield 16, 3) := by decide +kernel
theorem dX6_itemAtTick_18 : decode cX6_itemAtTick 18 = .ok (.iload_n 2, 1) := by decide +kernel
theorem dX6_itemAtTick_19 : decode cX6_itemAtTick 19 = .ok (.invokevirtual 84, 3) := by decide +kernel
theorem dX6_itemAtTick_22 : decode cX6_itemAtTick 22 = .ok (.checkcast 165, 3) := by decide +kernel
theorem dX6_itemAtTick_25 : decode cX6_itemAtTick 25 = .ok (.getfield 332, 3) := by decide +kernel
theorem dX6_itemAtTick_28 : decode cX6_itemAtTick 28 = .ok (.if_icmp .ge 5, 3) := by decide +kernel
theorem dX6_itemAtTick_31 : decode cX6_itemAtTick 31 = .ok (.iload_n 2, 1) := by decide +kernel
theorem dX6_itemAtTick_32 : decode cX6_itemAtTick 32 = .ok (.ireturn, 1) := by decide +kernel
theorem dX6_itemAtTick_33 : decode cX6_itemAtTick 33 = .ok (.iinc 2 1, 3) := by decide +kernel
theorem dX6_itemAtTick_36 : decode cX6_itemAtTick 36 = .ok (.goto (-34), 3) := by decide +kernel
theorem dX6_itemAtTick_39 : decode cX6_itemAtTick 39 = .ok (.iconst (-1), 1) := by decide +kernel
theorem dX6_itemAtTick_40 : decode cX6_itemAtTick 40 = .ok (.ireturn, 1) := by decide +kernel
theorem dX6_placeInPassing_0 : decode cX6_placeInPassing 0 = .ok (.aload_n 0, 1) := by decide +kernel
theorem dX6_placeInPassing_1 : decode cX6_placeInPassing 1 = .ok (.getfield 16, 3) := by decide +kernel
theorem dX6_placeInPassing_4 : decode cX6_placeInPassing 4 = .ok (.iload_n 1, 1) := by decide +kernel
theorem dX6_placeInPassing_5 : decode cX6_placeInPassing 5 = .ok (.invokevirtual 84, 3) := by decide +kernel
theorem dX6_placeInPassing_8 : decode cX6_placeInPassing 8 = .ok (.checkcast 165, 3) := by decide +kernel
theorem dX6_placeInPassing_11 : decode cX6_placeInPassing 11 = .ok (.getfield 270, 3) := by decide +kernel
theorem dX6_placeInPassing_14 : decode cX6_placeInPassing 14 = .ok (.astore_n 3, 1) := by decide +kernel
theorem dX6_placeInPassing_15 : decode cX6_placeInPassing 15 = .ok (.aload_n 0, 1) := by decide +kernel
theorem dX6_placeInPassing_16 : decode cX6_placeInPassing 16 = .ok (.iload_n 1, 1) := by decide +kernel
theorem dX6_placeInPassing_17 : decode cX6_placeInPassing 17 = .ok (.invokevirtual 311, 3) := by decide +kernel
theorem dX6_placeInPassing_20 : decode cX6_placeInPassing 20 = .ok (.ifCond .eq 25, 3) := by decide +kernel
theorem dX6_placeInPassing_23 : decode cX6_placeInPassing 23 = .ok (.aload_n 0, 1) := by decide +kernel
theorem dX6_placeInPassing_24 : decode cX6_placeInPassing 24 = .ok (.getfield 16, 3) := by decide +kernel
theorem dX6_placeInPassing_27 : decode cX6_placeInPassing 27 = .ok (.iload_n 1, 1) := by decide +kernel
theorem dX6_placeInPassing_28 : decode cX6_placeInPassing 28 = .ok (.iconst 1, 1) := by decide +kernel
theorem dX6_placeInPassing_29 : decode cX6_placeInPassing 29 = .ok (.isub, 1) := by decide +kernel
theorem dX6_placeInPassing_30 : decode cX6_placeInPassing 30 = .ok (.invokevirtual 84, 3) := by decide +kernel
theorem dX6_placeInPassing_33 : decode cX6_placeInPassing 33 = .ok (.checkcast 165, 3) := by decide +kernel
theorem dX6_placeInPassing_36 : decode cX6_placeInPassing 36 = .ok (.getfield 270, 3) := by decide +kernel
theorem dX6_placeInPassing_39 : decode cX6_placeInPassing 39 = .ok (.getfield 109, 3) := by decide +kernel
theorem dX6_placeInPassing_42 : decode cX6_placeInPassing 42 = .ok (.goto 7, 3) := by decide +kernel
theorem dX6_placeInPassing_45 : decode cX6_placeInPassing 45 = .ok (.aload_n 3, 1) := by decide +kernel
theorem dX6_placeInPassing_46 : decode cX6_placeInPassing 46 = .ok (.getfield 106, 3) := by decide +kernel
theorem dX6_placeInPassing_49 : decode cX6_placeInPassing 49 = .ok (.istore 4, 2) := by decide +kernel
theorem dX6_placeInPassing_51 : decode cX6_placeInPassing 51 = .ok (.iload 4, 2) := by decide +kernel
theorem dX6_placeInPassing_53 : decode cX6_placeInPassing 53 = .ok (.aload_n 3, 1) := by decide +kernel
theorem dX6_placeInPassing_54 : decode cX6_placeInPassing 54 = .ok (.getfield 106, 3) := by decide +kernel
theorem dX6_placeInPassing_57 : decode cX6_placeInPassing 57 = .ok (.iload_n 2, 1) := by decide +kernel
theorem dX6_placeInPassing_58 : decode cX6_placeInPassing 58 = .ok (.aload_n 0, 1) := by decide +kernel
theorem dX6_placeInPassing_59 : decode cX6_placeInPassing 59 = .ok (.getfield 16, 3) := by decide +kernel
theorem dX6_placeInPassing_62 : decode cX6_placeInPassing 62 = .ok (.iload_n 1, 1) := by decide +kernel
theorem dX6_placeInPassing_63 : decode cX6_placeInPassing 63 = .ok (.invokevirtual 84, 3) := by decide +kernel
theorem dX6_placeInPassing_66 : decode cX6_placeInPassing 66 = .ok (.checkcast 165, 3) := by decide +kernel
theorem dX6_placeInPassing_69 : decode cX6_placeInPassing 69 = .ok (.getfield 326, 3) := by decide +kernel
theorem dX6_placeInPassing_72 : decode cX6_placeInPassing 72 = .ok (.isub, 1) := by decide +kernel
theorem dX6_placeInPassing_73 : decode cX6_placeInPassing 73 = .ok (.iconst 1, 1) := by decide +kernel
theorem dX6_placeInPassing_74 : decode cX6_placeInPassing 74 = .ok (.iadd, 1) := by decide +kernel
theorem dX6_placeInPassing_75 : decode cX6_placeInPassing 75 = .ok (.invokestatic 370, 3) := by decide +kernel
theorem dX6_placeInPassing_78 : decode cX6_placeInPassing 78 = .ok (.ireturn, 1) := by decide +kernel
theorem dX6_placeInItem_0 : decode cX6_placeInItem 0 = .ok (.aload_n 0, 1) := by decide +kernel
theorem dX6_placeInItem_1 : decode cX6_placeInItem 1 = .ok (.getfield 270, 3) := by decide +kernel
theorem dX6_placeInItem_4 : decode cX6_placeInItem 4 = .ok (.getfield 106, 3) := by decide +kernel
theorem dX6_placeInItem_7 : decode cX6_placeInItem 7 = .ok (.aload_n 0, 1) := by decide +kernel
theorem dX6_placeInItem_8 : decode cX6_placeInItem 8 = .ok (.getfield 270, 3) := by decide +kernel
theorem dX6_placeInItem_11 : decode cX6_placeInItem 11 = .ok (.getfield 109, 3) := by decide +kernel
theorem dX6_placeInItem_14 : decode cX6_placeInItem 14 = .ok (.aload_n 0, 1) := by decide +kernel
theorem dX6_placeInItem_15 : decode cX6_placeInItem 15 = .ok (.iload_n 1, 1) := by decide +kernel
theorem dX6_placeInItem_16 : decode cX6_placeInItem 16 = .ok (.invokestatic 374, 3) := by decide +kernel
theorem dX6_placeInItem_19 : decode cX6_placeInItem 19 = .ok (.invokestatic 370, 3) := by decide +kernel
theorem dX6_placeInItem_22 : decode cX6_placeInItem 22 = .ok (.ireturn, 1) := by decide +kernel
theorem dX6_turnInItem_0 : decode cX6_turnInItem 0 = .ok (.aload_n 0, 1) := by decide +kernel
theorem dX6_turnInItem_1 : decode cX6_turnInItem 1 = .ok (.iload_n 1, 1) := by decide +kernel
theorem dX6_turnInItem_2 : decode cX6_turnInItem 2 = .ok (.invokestatic 374, 3) := by decide +kernel
theorem dX6_turnInItem_5 : decode cX6_turnInItem 5 = .ok (.ifCond .le 13, 3) := by decide +kernel
theorem dX6_turnInItem_8 : decode cX6_turnInItem 8 = .ok (.aload_n 0, 1) := by decide +kernel
theorem dX6_turnInItem_9 : decode cX6_turnInItem 9 = .ok (.getfield 270, 3) := by decide +kernel
theorem dX6_turnInItem_12 : decode cX6_turnInItem 12 = .ok (.getfield 115, 3) := by decide +kernel
theorem dX6_turnInItem_15 : decode cX6_turnInItem 15 = .ok (.goto 10, 3) := by decide +kernel
theorem dX6_turnInItem_18 : decode cX6_turnInItem 18 = .ok (.aload_n 0, 1) := by decide +kernel
theorem dX6_turnInItem_19 : decode cX6_turnInItem 19 = .ok (.getfield 270, 3) := by decide +kernel
theorem dX6_turnInItem_22 : decode cX6_turnInItem 22 = .ok (.getfield 112, 3) := by decide +kernel
theorem dX6_turnInItem_25 : decode cX6_turnInItem 25 = .ok (.ireturn, 1) := by decide +kernel
theorem dX6_stepsDone_0 : decode cX6_stepsDone 0 = .ok (.iconst 0, 1) := by decide +kernel
theorem dX6_stepsDone_1 : decode cX6_stepsDone 1 = .ok (.iload_n 1, 1) := by decide +kernel
theorem dX6_stepsDone_2 : decode cX6_stepsDone 2 = .ok (.aload_n 0, 1) := by decide +kernel
theorem dX6_stepsDone_3 : decode cX6_stepsDone 3 = .ok (.getfield 329, 3) := by decide +kernel
theorem dX6_stepsDone_6 : decode cX6_stepsDone 6 = .ok (.isub, 1) := by decide +kernel
theorem dX6_stepsDone_7 : decode cX6_stepsDone 7 = .ok (.iconst 2, 1) := by decide +kernel
theorem dX6_stepsDone_8 : decode cX6_stepsDone 8 = .ok (.isub, 1) := by decide +kernel
theorem dX6_stepsDone_9 : decode cX6_stepsDone 9 = .ok (.iconst 1, 1) := by decide +kernel
theorem dX6_stepsDone_10 : decode cX6_stepsDone 10 = .ok (.iadd, 1) := by decide +kernel
theorem dX6_stepsDone_11 : decode cX6_stepsDone 11 = .ok (.invokestatic 250, 3) := by decide +kernel
theorem dX6_stepsDone_14 : decode cX6_stepsDone 14 = .ok (.ireturn, 1) := by decide +kernel
theorem dX6_placeOnWay_0 : decode cX6_placeOnWay 0 = .ok (.iload_n 1, 1) := by decide +kernel
theorem dX6_placeOnWay_1 : decode cX6_placeOnWay 1 = .ok (.invokestatic 129, 3) := by decide +kernel
theorem dX6_placeOnWay_4 : decode cX6_placeOnWay 4 = .ok (.iload_n 0, 1) := by decide +kernel
theorem dX6_placeOnWay_5 : decode cX6_placeOnWay 5 = .ok (.invokestatic 129, 3) := by decide +kernel
theorem dX6_placeOnWay_8 : decode cX6_placeOnWay 8 = .ok (.isub, 1) := by decide +kernel
theorem dX6_placeOnWay_9 : decode cX6_placeOnWay 9 = .ok (.invokestatic 314, 3) := by decide +kernel
theorem dX6_placeOnWay_12 : decode cX6_placeOnWay 12 = .ok (.istore_n 3, 1) := by decide +kernel
theorem dX6_placeOnWay_13 : decode cX6_placeOnWay 13 = .ok (.iload_n 1, 1) := by decide +kernel
theorem dX6_placeOnWay_14 : decode cX6_placeOnWay 14 = .ok (.invokestatic 121, 3) := by decide +kernel
theorem dX6_placeOnWay_17 : decode cX6_placeOnWay 17 = .ok (.iload_n 0, 1) := by decide +kernel
theorem dX6_placeOnWay_18 : decode cX6_placeOnWay 18 = .ok (.invokestatic 121, 3) := by decide +kernel
theorem dX6_placeOnWay_21 : decode cX6_placeOnWay 21 = .ok (.isub, 1) := by decide +kernel
theorem dX6_placeOnWay_22 : decode cX6_placeOnWay 22 = .ok (.invokestatic 314, 3) := by decide +kernel
theorem dX6_placeOnWay_25 : decode cX6_placeOnWay 25 = .ok (.istore 4, 2) := by decide +kernel
theorem dX6_placeOnWay_27 : decode cX6_placeOnWay 27 = .ok (.iload_n 2, 1) := by decide +kernel
theorem dX6_placeOnWay_28 : decode cX6_placeOnWay 28 = .ok (.iload_n 3, 1) := by decide +kernel
theorem dX6_placeOnWay_29 : decode cX6_placeOnWay 29 = .ok (.invokestatic 377, 3) := by decide +kernel
theorem dX6_placeOnWay_32 : decode cX6_placeOnWay 32 = .ok (.istore 5, 2) := by decide +kernel
theorem dX6_placeOnWay_34 : decode cX6_placeOnWay 34 = .ok (.iload_n 2, 1) := by decide +kernel
theorem dX6_placeOnWay_35 : decode cX6_placeOnWay 35 = .ok (.iload 5, 2) := by decide +kernel
theorem dX6_placeOnWay_37 : decode cX6_placeOnWay 37 = .ok (.isub, 1) := by decide +kernel
theorem dX6_placeOnWay_38 : decode cX6_placeOnWay 38 = .ok (.iload 4, 2) := by decide +kernel
theorem dX6_placeOnWay_40 : decode cX6_placeOnWay 40 = .ok (.invokestatic 377, 3) := by decide +kernel
theorem dX6_placeOnWay_43 : decode cX6_placeOnWay 43 = .ok (.istore 6, 2) := by decide +kernel
theorem dX6_placeOnWay_45 : decode cX6_placeOnWay 45 = .ok (.iload_n 0, 1) := by decide +kernel
theorem dX6_placeOnWay_46 : decode cX6_placeOnWay 46 = .ok (.iload 5, 2) := by decide +kernel
theorem dX6_placeOnWay_48 : decode cX6_placeOnWay 48 = .ok (.iload_n 0, 1) := by decide +kernel
theorem dX6_placeOnWay_49 : decode cX6_placeOnWay 49 = .ok (.invokestatic 129, 3) := by decide +kernel
theorem dX6_placeOnWay_52 : decode cX6_placeOnWay 52 = .ok (.iload_n 1, 1) := by decide +kernel
theorem dX6_placeOnWay_53 : decode cX6_placeOnWay 53 = .ok (.invokestatic 129, 3) := by decide +kernel
theorem dX6_placeOnWay_56 : decode cX6_placeOnWay 56 = .ok (.invokestatic 125, 3) := by decide +kernel
theorem dX6_placeOnWay_59 : decode cX6_placeOnWay 59 = .ok (.imul, 1) := by decide +kernel
theorem dX6_placeOnWay_60 : decode cX6_placeOnWay 60 = .ok (.iadd, 1) := by decide +kernel
theorem dX6_placeOnWay_61 : decode cX6_placeOnWay 61 = .ok (.iconst 3, 1) := by decide +kernel
theorem dX6_placeOnWay_62 : decode cX6_placeOnWay 62 = .ok (.iload 6, 2) := by decide +kernel
theorem dX6_placeOnWay_64 : decode cX6_placeOnWay 64 = .ok (.imul, 1) := by decide +kernel
theorem dX6_placeOnWay_65 : decode cX6_placeOnWay 65 = .ok (.iload_n 0, 1) := by decide +kernel
theorem dX6_placeOnWay_66 : decode cX6_placeOnWay 66 = .ok (.invokestatic 121, 3) := by decide +kernel
theorem dX6_placeOnWay_69 : decode cX6_placeOnWay 69 = .ok (.iload_n 1, 1) := by decide +kernel
theorem dX6_placeOnWay_70 : decode cX6_placeOnWay 70 = .ok (.invokestatic 121, 3) := by decide +kernel
theorem dX6_placeOnWay_73 : decode cX6_placeOnWay 73 = .ok (.invokestatic 125, 3) := by decide +kernel
theorem dX6_placeOnWay_76 : decode cX6_placeOnWay 76 = .ok (.imul, 1) := by decide +kernel
theorem dX6_placeOnWay_77 : decode cX6_placeOnWay 77 = .ok (.iadd, 1) := by decide +kernel
theorem dX6_placeOnWay_78 : decode cX6_placeOnWay 78 = .ok (.ireturn, 1) := by decide +kernel
theorem dX6_kindReadBack_0 : decode cX6_kindReadBack 0 = .ok (.aload_n 1, 1) := by decide +kernel
theorem dX6_kindReadBack_1 : decode cX6_kindReadBack 1 = .ok (.invokevirtual 285, 3) := by decide +kernel
theorem dX6_kindReadBack_4 : decode cX6_kindReadBack 4 = .ok (.ifCond .ne 29, 3) := by decide +kernel
theorem dX6_kindReadBack_7 : decode cX6_kindReadBack 7 = .ok (.aload_n 1, 1) := by decide +kernel
theorem dX6_kindReadBack_8 : decode cX6_kindReadBack 8 = .ok (.getfield 270, 3) := by decide +kernel
theorem dX6_kindReadBack_11 : decode cX6_kindReadBack 11 = .ok (.invokestatic 380, 3) := by decide +kernel
theorem dX6_kindReadBack_14 : decode cX6_kindReadBack 14 = .ok (.iconst (-1), 1) := by decide +kernel
theorem dX6_kindReadBack_15 : decode cX6_kindReadBack 15 = .ok (.if_icmp .eq 5, 3) := by decide +kernel
theorem dX6_kindReadBack_18 : decode cX6_kindReadBack 18 = .ok (.iconst 2, 1) := by decide +kernel
theorem dX6_kindReadBack_19 : decode cX6_kindReadBack 19 = .ok (.ireturn, 1) := by decide +kernel
theorem dX6_kindReadBack_20 : decode cX6_kindReadBack 20 = .ok (.aload_n 1, 1) := by decide +kernel
theorem dX6_kindReadBack_21 : decode cX6_kindReadBack 21 = .ok (.getfield 270, 3) := by decide +kernel
theorem dX6_kindReadBack_24 : decode cX6_kindReadBack 24 = .ok (.invokestatic 383, 3) := by decide +kernel
theorem dX6_kindReadBack_27 : decode cX6_kindReadBack 27 = .ok (.iconst (-1), 1) := by decide +kernel
theorem dX6_kindReadBack_28 : decode cX6_kindReadBack 28 = .ok (.if_icmp .eq 5, 3) := by decide +kernel
theorem dX6_kindReadBack_31 : decode cX6_kindReadBack 31 = .ok (.iconst 5, 1) := by decide +kernel
theorem dX6_kindReadBack_32 : decode cX6_kindReadBack 32 = .ok (.ireturn, 1) := by decide +kernel
theorem dX6_kindReadBack_33 : decode cX6_kindReadBack 33 = .ok (.aload_n 0, 1) := by decide +kernel
theorem dX6_kindReadBack_34 : decode cX6_kindReadBack 34 = .ok (.aload_n 1, 1) := by decide +kernel
theorem dX6_kindReadBack_35 : decode cX6_kindReadBack 35 = .ok (.getfield 270, 3) := by decide +kernel
theorem dX6_kindReadBack_38 : decode cX6_kindReadBack 38 = .ok (.invokevirtual 68, 3) := by decide +kernel
theorem dX6_kindReadBack_41 : decode cX6_kindReadBack 41 = .ok (.iconst (-1), 1) := by decide +kernel
theorem dX6_kindReadBack_42 : decode cX6_kindReadBack 42 = .ok (.if_icmp .eq 7, 3) := by decide +kernel
theorem dX6_kindReadBack_45 : decode cX6_kindReadBack 45 = .ok (.iconst 0, 1) := by decide +kernel
theorem dX6_kindReadBack_46 : decode cX6_kindReadBack 46 = .ok (.goto 4, 3) := by decide +kernel
theorem dX6_kindReadBack_49 : decode cX6_kindReadBack 49 = .ok (.iconst (-1), 1) := by decide +kernel
theorem dX6_kindReadBack_50 : decode cX6_kindReadBack 50 = .ok (.ireturn, 1) := by decide +kernel
theorem dX6_numberReadBack_0 : decode cX6_numberReadBack 0 = .ok (.iload_n 1, 1) := by decide +kernel
theorem dX6_numberReadBack_1 : decode cX6_numberReadBack 1 = .ok (.lookupswitch 51 #[(0, 35), (2, 41), (5, 46)], 35) := by decide +kernel
theorem dX6_numberReadBack_36 : decode cX6_numberReadBack 36 = .ok (.aload_n 0, 1) := by decide +kernel
theorem dX6_numberReadBack_37 : decode cX6_numberReadBack 37 = .ok (.aload_n 2, 1) := by decide +kernel
theorem dX6_numberReadBack_38 : decode cX6_numberReadBack 38 = .ok (.invokevirtual 68, 3) := by decide +kernel
theorem dX6_numberReadBack_41 : decode cX6_numberReadBack 41 = .ok (.ireturn, 1) := by decide +kernel
theorem dX6_numberReadBack_42 : decode cX6_numberReadBack 42 = .ok (.aload_n 2, 1) := by decide +kernel
theorem dX6_numberReadBack_43 : decode cX6_numberReadBack 43 = .ok (.invokestatic 380, 3) := by decide +kernel
theorem dX6_numberReadBack_46 : decode cX6_numberReadBack 46 = .ok (.ireturn, 1) := by decide +kernel
theorem dX6_numberReadBack_47 : decode cX6_numberReadBack 47 = .ok (.aload_n 2, 1) := by decide +kernel
theorem dX6_numberReadBack_48 : decode cX6_numberReadBack 48 = .ok (.invokestatic 383, 3) := by decide +kernel
theorem dX6_numberReadBack_51 : decode cX6_numberReadBack 51 = .ok (.ireturn, 1) := by decide +kernel
theorem dX6_numberReadBack_52 : decode cX6_numberReadBack 52 = .ok (.iconst (-1), 1) := by decide +kernel
theorem dX6_numberReadBack_53 : decode cX6_numberReadBack 53 = .ok (.ireturn, 1) := by decide +kernel
theorem dX6_pointingReadBack_0 : decode cX6_pointingReadBack 0 = .ok (.aload_n 0, 1) := by decide +kernel
theorem dX6_pointingReadBack_1 : decode cX6_pointingReadBack 1 = .ok (.invokevirtual 386, 3) := by decide +kernel
theorem dX6_pointingReadBack_4 : decode cX6_pointingReadBack 4 = .ok (.ifCond .eq 22, 3) := by decide +kernel
theorem dX6_pointingReadBack_7 : decode cX6_pointingReadBack 7 = .ok (.aload_n 0, 1) := by decide +kernel
theorem dX6_pointingReadBack_8 : decode cX6_pointingReadBack 8 = .ok (.getfield 112, 3) := by decide +kernel
theorem dX6_pointingReadBack_11 : decode cX6_pointingReadBack 11 = .ok (.ifCond .ne 15, 3) := by decide +kernel
theorem dX6_pointingReadBack_14 : decode cX6_pointingReadBack 14 = .ok (.aload_n 0, 1) := by decide +kernel
theorem dX6_pointingReadBack_15 : decode cX6_pointingReadBack 15 = .ok (.getfield 102, 3) := by decide +kernel
theorem dX6_pointingReadBack_18 : decode cX6_pointingReadBack 18 = .ok (.iconst 1, 1) := by decide +kernel
theorem dX6_pointingReadBack_19 : decode cX6_pointingReadBack 19 = .ok (.if_icmp .ne 7, 3) := by decide +kernel
theorem dX6_pointingReadBack_22 : decode cX6_pointingReadBack 22 = .ok (.iconst 1, 1) := by decide +kernel
theorem dX6_pointingReadBack_23 : decode cX6_pointingReadBack 23 = .ok (.goto 4, 3) := by decide +kernel
theorem dX6_pointingReadBack_26 : decode cX6_pointingReadBack 26 = .ok (.iconst 0, 1) := by decide +kernel
theorem dX6_pointingReadBack_27 : decode cX6_pointingReadBack 27 = .ok (.istore_n 1, 1) := by decide +kernel
theorem dX6_pointingReadBack_28 : decode cX6_pointingReadBack 28 = .ok (.iload_n 1, 1) := by decide +kernel
theorem dX6_pointingReadBack_29 : decode cX6_pointingReadBack 29 = .ok (.ifCond .eq 13, 3) := by decide +kernel
theorem dX6_pointingReadBack_32 : decode cX6_pointingReadBack 32 = .ok (.aload_n 0, 1) := by decide +kernel
theorem dX6_pointingReadBack_33 : decode cX6_pointingReadBack 33 = .ok (.getfield 106, 3) := by decide +kernel
theorem dX6_pointingReadBack_36 : decode cX6_pointingReadBack 36 = .ok (.invokestatic 389, 3) := by decide +kernel
theorem dX6_pointingReadBack_39 : decode cX6_pointingReadBack 39 = .ok (.goto 4, 3) := by decide +kernel
theorem dX6_pointingReadBack_42 : decode cX6_pointingReadBack 42 = .ok (.iconst (-1), 1) := by decide +kernel
theorem dX6_pointingReadBack_43 : decode cX6_pointingReadBack 43 = .ok (.ireturn, 1) := by decide +kernel
theorem dX6_letterReadBack_0 : decode cX6_letterReadBack 0 = .ok (.bipush 8, 2) := by decide +kernel
theorem dX6_letterReadBack_2 : decode cX6_letterReadBack 2 = .ok (.aload_n 0, 1) := by decide +kernel
theorem dX6_letterReadBack_3 : decode cX6_letterReadBack 3 = .ok (.getfield 112, 3) := by decide +kernel
theorem dX6_letterReadBack_6 : decode cX6_letterReadBack 6 = .ok (.imul, 1) := by decide +kernel
theorem dX6_letterReadBack_7 : decode cX6_letterReadBack 7 = .ok (.aload_n 0, 1) := by decide +kernel
theorem dX6_letterReadBack_8 : decode cX6_letterReadBack 8 = .ok (.getfield 102, 3) := by decide +kernel
theorem dX6_letterReadBack_11 : decode cX6_letterReadBack 11 = .ok (.iadd, 1) := by decide +kernel
theorem dX6_letterReadBack_12 : decode cX6_letterReadBack 12 = .ok (.istore_n 1, 1) := by decide +kernel
theorem dX6_letterReadBack_13 : decode cX6_letterReadBack 13 = .ok (.aload_n 0, 1) := by decide +kernel
theorem dX6_letterReadBack_14 : decode cX6_letterReadBack 14 = .ok (.invokevirtual 386, 3) := by decide +kernel
theorem dX6_letterReadBack_17 : decode cX6_letterReadBack 17 = .ok (.ifCond .eq 24, 3) := by decide +kernel
theorem dX6_letterReadBack_20 : decode cX6_letterReadBack 20 = .ok (.aload_n 0, 1) := by decide +kernel
theorem dX6_letterReadBack_21 : decode cX6_letterReadBack 21 = .ok (.getfield 106, 3) := by decide +kernel
theorem dX6_letterReadBack_24 : decode cX6_letterReadBack 24 = .ok (.iconst 4, 1) := by decide +kernel
theorem dX6_letterReadBack_25 : decode cX6_letterReadBack 25 = .ok (.if_icmp .ne 16, 3) := by decide +kernel
theorem dX6_letterReadBack_28 : decode cX6_letterReadBack 28 = .ok (.iload_n 1, 1) := by decide +kernel
theorem dX6_letterReadBack_29 : decode cX6_letterReadBack 29 = .ok (.bipush 26, 2) := by decide +kernel
theorem dX6_letterReadBack_31 : decode cX6_letterReadBack 31 = .ok (.invokestatic 38, 3) := by decide +kernel
theorem dX6_letterReadBack_34 : decode cX6_letterReadBack 34 = .ok (.ifCond .eq 7, 3) := by decide +kernel
theorem dX6_letterReadBack_37 : decode cX6_letterReadBack 37 = .ok (.iload_n 1, 1) := by decide +kernel
theorem dX6_letterReadBack_38 : decode cX6_letterReadBack 38 = .ok (.goto 4, 3) := by decide +kernel
theorem dX6_letterReadBack_41 : decode cX6_letterReadBack 41 = .ok (.iconst (-1), 1) := by decide +kernel
theorem dX6_letterReadBack_42 : decode cX6_letterReadBack 42 = .ok (.ireturn, 1) := by decide +kernel
theorem dX6_take_0 : decode cX6_take 0 = .ok (.iload_n 1, 1) := by decide +kernel
theorem dX6_take_1 : decode cX6_take 1 = .ok (.invokestatic 392, 3) := by decide +kernel
theorem dX6_take_4 : decode cX6_take 4 = .ok (.aload_n 0, 1) := by decide +kernel
theorem dX6_take_5 : decode cX6_take 5 = .ok (.getfield 25, 3) := by decide +kernel
theorem dX6_take_8 : decode cX6_take 8 = .ok (.invokevirtual 54, 3) := by decide +kernel
theorem dX6_take_11 : decode cX6_take 11 = .ok (.bipush 24, 2) := by decide +kernel
theorem dX6_take_13 : decode cX6_take 13 = .ok (.if_icmp .lt 14, 3) := by decide +kernel
theorem dX6_take_16 : decode cX6_take 16 = .ok (.new 58, 3) := by decide +kernel
theorem dX6_take_19 : decode cX6_take 19 = .ok (.dup, 1) := by decide +kernel
theorem dX6_take_20 : decode cX6_take 20 = .ok (.ldc_w 395, 3) := by decide +kernel
theorem dX6_take_23 : decode cX6_take 23 = .ok (.invokespecial 62, 3) := by decide +kernel
theorem dX6_take_26 : decode cX6_take 26 = .ok (.athrow, 1) := by decide +kernel
theorem dX6_take_27 : decode cX6_take 27 = .ok (.aload_n 0, 1) := by decide +kernel
theorem dX6_take_28 : decode cX6_take 28 = .ok (.new 397, 3) := by decide +kernel
theorem dX6_take_31 : decode cX6_take 31 = .ok (.dup, 1) := by decide +kernel
theorem dX6_take_32 : decode cX6_take 32 = .ok (.iconst 1, 1) := by decide +kernel
theorem dX6_take_33 : decode cX6_take 33 = .ok (.iload_n 1, 1) := by decide +kernel
theorem dX6_take_34 : decode cX6_take 34 = .ok (.ishl, 1) := by decide +kernel
theorem dX6_take_35 : decode cX6_take 35 = .ok (.iconst (-1), 1) := by decide +kernel
theorem dX6_take_36 : decode cX6_take 36 = .ok (.aconst_null, 1) := by decide +kernel
theorem dX6_take_37 : decode cX6_take 37 = .ok (.aconst_null, 1) := by decide +kernel
theorem dX6_take_38 : decode cX6_take 38 = .ok (.invokespecial 399, 3) := by decide +kernel
theorem dX6_take_41 : decode cX6_take 41 = .ok (.invokevirtual 402, 3) := by decide +kernel
theorem dX6_take_44 : decode cX6_take 44 = .ok (.ireturn, 1) := by decide +kernel
theorem dX6_make_0 : decode cX6_make 0 = .ok (.aload_n 0, 1) := by decide +kernel
theorem dX6_make_1 : decode cX6_make 1 = .ok (.iload_n 2, 1) := by decide +kernel
theorem dX6_make_2 : decode cX6_make 2 = .ok (.invokevirtual 406, 3) := by decide +kernel
theorem dX6_make_5 : decode cX6_make 5 = .ok (.iload_n 3, 1) := by decide +kernel
theorem dX6_make_6 : decode cX6_make 6 = .ok (.iconst (-1), 1) := by decide +kernel
theorem dX6_make_7 : decode cX6_make 7 = .ok (.if_icmp .eq 8, 3) := by decide +kernel
theorem dX6_make_10 : decode cX6_make 10 = .ok (.aload_n 0, 1) := by decide +kernel
theorem dX6_make_11 : decode cX6_make 11 = .ok (.iload_n 3, 1) := by decide +kernel
theorem dX6_make_12 : decode cX6_make 12 = .ok (.invokevirtual 406, 3) := by decide +kernel
theorem dX6_make_15 : decode cX6_make 15 = .ok (.iload_n 1, 1) := by decide +kernel
theorem dX6_make_16 : decode cX6_make 16 = .ok (.invokestatic 409, 3) := by decide +kernel
theorem dX6_make_19 : decode cX6_make 19 = .ok (.aload_n 0, 1) := by decide +kernel
theorem dX6_make_20 : decode cX6_make 20 = .ok (.getfield 25, 3) := by decide +kernel
theorem dX6_make_23 : decode cX6_make 23 = .ok (.invokevirtual 54, 3) := by decide +kernel
theorem dX6_make_26 : decode cX6_make 26 = .ok (.bipush 24, 2) := by decide +kernel
theorem dX6_make_28 : decode cX6_make 28 = .ok (.if_icmp .lt 14, 3) := by decide +kernel
theorem dX6_make_31 : decode cX6_make 31 = .ok (.new 58, 3) := by decide +kernel
theorem dX6_make_34 : decode cX6_make 34 = .ok (.dup, 1) := by decide +kernel
theorem dX6_make_35 : decode cX6_make 35 = .ok (.ldc_w 395, 3) := by decide +kernel
theorem dX6_make_38 : decode cX6_make 38 = .ok (.invokespecial 62, 3) := by decide +kernel
theorem dX6_make_41 : decode cX6_make 41 = .ok (.athrow, 1) := by decide +kernel
theorem dX6_make_42 : decode cX6_make 42 = .ok (.aload_n 0, 1) := by decide +kernel
theorem dX6_make_43 : decode cX6_make 43 = .ok (.getfield 25, 3) := by decide +kernel
theorem dX6_make_46 : decode cX6_make 46 = .ok (.iload_n 2, 1) := by decide +kernel
theorem dX6_make_47 : decode cX6_make 47 = .ok (.invokevirtual 84, 3) := by decide +kernel
theorem dX6_make_50 : decode cX6_make 50 = .ok (.checkcast 397, 3) := by decide +kernel
theorem dX6_make_53 : decode cX6_make 53 = .ok (.astore 4, 2) := by decide +kernel
theorem dX6_make_55 : decode cX6_make 55 = .ok (.iload_n 3, 1) := by decide +kernel
theorem dX6_make_56 : decode cX6_make 56 = .ok (.iconst (-1), 1) := by decide +kernel
theorem dX6_make_57 : decode cX6_make 57 = .ok (.if_icmp .ne 8, 3) := by decide +kernel
theorem dX6_make_60 : decode cX6_make 60 = .ok (.aload 4, 2) := by decide +kernel
theorem dX6_make_62 : decode cX6_make 62 = .ok (.goto 14, 3) := by decide +kernel
theorem dX6_make_65 : decode cX6_make 65 = .ok (.aload_n 0, 1) := by decide +kernel
theorem dX6_make_66 : decode cX6_make 66 = .ok (.getfield 25, 3) := by decide +kernel
theorem dX6_make_69 : decode cX6_make 69 = .ok (.iload_n 3, 1) := by decide +kernel
theorem dX6_make_70 : decode cX6_make 70 = .ok (.invokevirtual 84, 3) := by decide +kernel
theorem dX6_make_73 : decode cX6_make 73 = .ok (.checkcast 397, 3) := by decide +kernel
theorem dX6_make_76 : decode cX6_make 76 = .ok (.astore 5, 2) := by decide +kernel
theorem dX6_make_78 : decode cX6_make 78 = .ok (.aload 4, 2) := by decide +kernel
theorem dX6_make_80 : decode cX6_make 80 = .ok (.getfield 412, 3) := by decide +kernel
theorem dX6_make_83 : decode cX6_make 83 = .ok (.aload 5, 2) := by decide +kernel
theorem dX6_make_85 : decode cX6_make 85 = .ok (.getfield 412, 3) := by decide +kernel
theorem dX6_make_88 : decode cX6_make 88 = .ok (.ior, 1) := by decide +kernel
theorem dX6_make_89 : decode cX6_make 89 = .ok (.istore 6, 2) := by decide +kernel
theorem dX6_make_91 : decode cX6_make 91 = .ok (.iload 6, 2) := by decide +kernel
theorem dX6_make_93 : decode cX6_make 93 = .ok (.aload_n 0, 1) := by decide +kernel
theorem dX6_make_94 : decode cX6_make 94 = .ok (.getfield 28, 3) := by decide +kernel
theorem dX6_make_97 : decode cX6_make 97 = .ok (.iload_n 1, 1) := by decide +kernel
theorem dX6_make_98 : decode cX6_make 98 = .ok (.iaload, 1) := by decide +kernel
theorem dX6_make_99 : decode cX6_make 99 = .ok (.iand, 1) := by decide +kernel
theorem dX6_make_100 : decode cX6_make 100 = .ok (.ifCond .eq 14, 3) := by decide +kernel
theorem dX6_make_103 : decode cX6_make 103 = .ok (.new 58, 3) := by decide +kernel
theorem dX6_make_106 : decode cX6_make 106 = .ok (.dup, 1) := by decide +kernel
theorem dX6_make_107 : decode cX6_make 107 = .ok (.ldc_w 415, 3) := by decide +kernel
theorem dX6_make_110 : decode cX6_make 110 = .ok (.invokespecial 62, 3) := by decide +kernel
theorem dX6_make_113 : decode cX6_make 113 = .ok (.athrow, 1) := by decide +kernel
theorem dX6_make_114 : decode cX6_make 114 = .ok (.aload_n 0, 1) := by decide +kernel
theorem dX6_make_115 : decode cX6_make 115 = .ok (.new 397, 3) := by decide +kernel
theorem dX6_make_118 : decode cX6_make 118 = .ok (.dup, 1) := by decide +kernel
theorem dX6_make_119 : decode cX6_make 119 = .ok (.iload 6, 2) := by decide +kernel
theorem dX6_make_121 : decode cX6_make 121 = .ok (.iload_n 1, 1) := by decide +kernel
theorem dX6_make_122 : decode cX6_make 122 = .ok (.aload 4, 2) := by decide +kernel
theorem dX6_make_124 : decode cX6_make 124 = .ok (.aload 5, 2) := by decide +kernel
theorem dX6_make_126 : decode cX6_make 126 = .ok (.invokespecial 399, 3) := by decide +kernel
theorem dX6_make_129 : decode cX6_make 129 = .ok (.invokevirtual 402, 3) := by decide +kernel
theorem dX6_make_132 : decode cX6_make 132 = .ok (.ireturn, 1) := by decide +kernel
theorem dX6_allow_0 : decode cX6_allow 0 = .ok (.iload_n 1, 1) := by decide +kernel
theorem dX6_allow_1 : decode cX6_allow 1 = .ok (.invokestatic 392, 3) := by decide +kernel
theorem dX6_allow_4 : decode cX6_allow 4 = .ok (.iload_n 2, 1) := by decide +kernel
theorem dX6_allow_5 : decode cX6_allow 5 = .ok (.invokestatic 409, 3) := by decide +kernel
theorem dX6_allow_8 : decode cX6_allow 8 = .ok (.iload_n 3, 1) := by decide +kernel
theorem dX6_allow_9 : decode cX6_allow 9 = .ok (.ifCond .eq 19, 3) := by decide +kernel
theorem dX6_allow_12 : decode cX6_allow 12 = .ok (.aload_n 0, 1) := by decide +kernel
theorem dX6_allow_13 : decode cX6_allow 13 = .ok (.getfield 28, 3) := by decide +kernel
theorem dX6_allow_16 : decode cX6_allow 16 = .ok (.iload_n 2, 1) := by decide +kernel
theorem dX6_allow_17 : decode cX6_allow 17 = .ok (.dup2, 1) := by decide +kernel
theorem dX6_allow_18 : decode cX6_allow 18 = .ok (.iaload, 1) := by decide +kernel
theorem dX6_allow_19 : decode cX6_allow 19 = .ok (.iconst 1, 1) := by decide +kernel
theorem dX6_allow_20 : decode cX6_allow 20 = .ok (.iload_n 1, 1) := by decide +kernel
theorem dX6_allow_21 : decode cX6_allow 21 = .ok (.ishl, 1) := by decide +kernel
theorem dX6_allow_22 : decode cX6_allow 22 = .ok (.iconst (-1), 1) := by decide +kernel
theorem dX6_allow_23 : decode cX6_allow 23 = .ok (.ixor, 1) := by decide +kernel
theorem dX6_allow_24 : decode cX6_allow 24 = .ok (.iand, 1) := by decide +kernel
theorem dX6_allow_25 : decode cX6_allow 25 = .ok (.iastore, 1) := by decide +kernel
theorem dX6_allow_26 : decode cX6_allow 26 = .ok (.iconst 0, 1) := by decide +kernel
theorem dX6_allow_27 : decode cX6_allow 27 = .ok (.ireturn, 1) := by decide +kernel
theorem dX6_allow_28 : decode cX6_allow 28 = .ok (.aload_n 0, 1) := by decide +kernel
theorem dX6_allow_29 : decode cX6_allow 29 = .ok (.getfield 28, 3) := by decide +kernel
theorem dX6_allow_32 : decode cX6_allow 32 = .ok (.iload_n 2, 1) := by decide +kernel
theorem dX6_allow_33 : decode cX6_allow 33 = .ok (.dup2, 1) := by decide +kernel
theorem dX6_allow_34 : decode cX6_allow 34 = .ok (.iaload, 1) := by decide +kernel
theorem dX6_allow_35 : decode cX6_allow 35 = .ok (.iconst 1, 1) := by decide +kernel
theorem dX6_allow_36 : decode cX6_allow 36 = .ok (.iload_n 1, 1) := by decide +kernel
theorem dX6_allow_37 : decode cX6_allow 37 = .ok (.ishl, 1) := by decide +kernel
theorem dX6_allow_38 : decode cX6_allow 38 = .ok (.ior, 1) := by decide +kernel
theorem dX6_allow_39 : decode cX6_allow 39 = .ok (.iastore, 1) := by decide +kernel
theorem dX6_allow_40 : decode cX6_allow 40 = .ok (.aload_n 0, 1) := by decide +kernel
theorem dX6_allow_41 : decode cX6_allow 41 = .ok (.iload_n 1, 1) := by decide +kernel
theorem dX6_allow_42 : decode cX6_allow 42 = .ok (.iload_n 2, 1) := by decide +kernel
theorem dX6_allow_43 : decode cX6_allow 43 = .ok (.invokevirtual 417, 3) := by decide +kernel
theorem dX6_allow_46 : decode cX6_allow 46 = .ok (.ireturn, 1) := by decide +kernel
theorem dX6_withdraw_0 : decode cX6_withdraw 0 = .ok (.iload_n 1, 1) := by decide +kernel
theorem dX6_withdraw_1 : decode cX6_withdraw 1 = .ok (.invokestatic 392, 3) := by decide +kernel
theorem dX6_withdraw_4 : decode cX6_withdraw 4 = .ok (.aload_n 0, 1) := by decide +kernel
theorem dX6_withdraw_5 : decode cX6_withdraw 5 = .ok (.iload_n 1, 1) := by decide +kernel
theorem dX6_withdraw_6 : decode cX6_withdraw 6 = .ok (.iconst (-1), 1) := by decide +kernel
theorem dX6_withdraw_7 : decode cX6_withdraw 7 = .ok (.invokevirtual 417, 3) := by decide +kernel
theorem dX6_withdraw_10 : decode cX6_withdraw 10 = .ok (.ireturn, 1) := by decide +kernel
theorem dX6_persons_0 : decode cX6_persons 0 = .ok (.iload_n 1, 1) := by decide +kernel
theorem dX6_persons_1 : decode cX6_persons 1 = .ok (.aload_n 0, 1) := by decide +kernel
theorem dX6_persons_2 : decode cX6_persons 2 = .ok (.getfield 25, 3) := by decide +kernel
theorem dX6_persons_5 : decode cX6_persons 5 = .ok (.invokevirtual 54, 3) := by decide +kernel
theorem dX6_persons_8 : decode cX6_persons 8 = .ok (.invokestatic 38, 3) := by decide +kernel
theorem dX6_persons_11 : decode cX6_persons 11 = .ok (.ifCond .ne 14, 3) := by decide +kernel
theorem dX6_persons_14 : decode cX6_persons 14 = .ok (.new 140, 3) := by decide +kernel
theorem dX6_persons_17 : decode cX6_persons 17 = .ok (.dup, 1) := by decide +kernel
theorem dX6_persons_18 : decode cX6_persons 18 = .ok (.ldc_w 420, 3) := by decide +kernel
theorem dX6_persons_21 : decode cX6_persons 21 = .ok (.invokespecial 144, 3) := by decide +kernel
theorem dX6_persons_24 : decode cX6_persons 24 = .ok (.athrow, 1) := by decide +kernel
theorem dX6_persons_25 : decode cX6_persons 25 = .ok (.aload_n 0, 1) := by decide +kernel
theorem dX6_persons_26 : decode cX6_persons 26 = .ok (.getfield 25, 3) := by decide +kernel
theorem dX6_persons_29 : decode cX6_persons 29 = .ok (.iload_n 1, 1) := by decide +kernel
theorem dX6_persons_30 : decode cX6_persons 30 = .ok (.invokevirtual 84, 3) := by decide +kernel
theorem dX6_persons_33 : decode cX6_persons 33 = .ok (.checkcast 397, 3) := by decide +kernel
theorem dX6_persons_36 : decode cX6_persons 36 = .ok (.astore_n 2, 1) := by decide +kernel
theorem dX6_persons_37 : decode cX6_persons 37 = .ok (.aload_n 2, 1) := by decide +kernel
theorem dX6_persons_38 : decode cX6_persons 38 = .ok (.getfield 422, 3) := by decide +kernel
theorem dX6_persons_41 : decode cX6_persons 41 = .ok (.ifCond .eq 7, 3) := by decide +kernel
theorem dX6_persons_44 : decode cX6_persons 44 = .ok (.iconst 0, 1) := by decide +kernel
theorem dX6_persons_45 : decode cX6_persons 45 = .ok (.goto 7, 3) := by decide +kernel
theorem dX6_persons_48 : decode cX6_persons 48 = .ok (.aload_n 2, 1) := by decide +kernel
theorem dX6_persons_49 : decode cX6_persons 49 = .ok (.getfield 412, 3) := by decide +kernel
theorem dX6_persons_52 : decode cX6_persons 52 = .ok (.ireturn, 1) := by decide +kernel
theorem dX6_mark_0 : decode cX6_mark 0 = .ok (.aload_n 0, 1) := by decide +kernel
theorem dX6_mark_1 : decode cX6_mark 1 = .ok (.iload_n 1, 1) := by decide +kernel
theorem dX6_mark_2 : decode cX6_mark 2 = .ok (.invokevirtual 406, 3) := by decide +kernel
theorem dX6_mark_5 : decode cX6_mark 5 = .ok (.iload_n 2, 1) := by decide +kernel
theorem dX6_mark_6 : decode cX6_mark 6 = .ok (.invokestatic 426, 3) := by decide +kernel
theorem dX6_mark_9 : decode cX6_mark 9 = .ok (.iload_n 3, 1) := by decide +kernel
theorem dX6_mark_10 : decode cX6_mark 10 = .ok (.invokestatic 429, 3) := by decide +kernel
theorem dX6_mark_13 : decode cX6_mark 13 = .ok (.iload 4, 2) := by decide +kernel
theorem dX6_mark_15 : decode cX6_mark 15 = .ok (.sipush 200, 3) := by decide +kernel
theorem dX6_mark_18 : decode cX6_mark 18 = .ok (.invokestatic 38, 3) := by decide +kernel
theorem dX6_mark_21 : decode cX6_mark 21 = .ok (.ifCond .eq 28, 3) := by decide +kernel
theorem dX6_mark_24 : decode cX6_mark 24 = .ok (.iload 5, 2) := by decide +kernel
theorem dX6_mark_26 : decode cX6_mark 26 = .ok (.iload 4, 2) := by decide +kernel
theorem dX6_mark_28 : decode cX6_mark 28 = .ok (.if_icmp .le 21, 3) := by decide +kernel
theorem dX6_mark_31 : decode cX6_mark 31 = .ok (.iload 5, 2) := by decide +kernel
theorem dX6_mark_33 : decode cX6_mark 33 = .ok (.sipush 200, 3) := by decide +kernel
theorem dX6_mark_36 : decode cX6_mark 36 = .ok (.if_icmp .gt 13, 3) := by decide +kernel
theorem dX6_mark_39 : decode cX6_mark 39 = .ok (.iload 6, 2) := by decide +kernel
theorem dX6_mark_41 : decode cX6_mark 41 = .ok (.bipush 10, 2) := by decide +kernel
theorem dX6_mark_43 : decode cX6_mark 43 = .ok (.invokestatic 38, 3) := by decide +kernel
theorem dX6_mark_46 : decode cX6_mark 46 = .ok (.ifCond .ne 14, 3) := by decide +kernel
theorem dX6_mark_49 : decode cX6_mark 49 = .ok (.new 42, 3) := by decide +kernel
theorem dX6_mark_52 : decode cX6_mark 52 = .ok (.dup, 1) := by decide +kernel
theorem dX6_mark_53 : decode cX6_mark 53 = .ok (.ldc_w 432, 3) := by decide +kernel
theorem dX6_mark_56 : decode cX6_mark 56 = .ok (.invokespecial 46, 3) := by decide +kernel
theorem dX6_mark_59 : decode cX6_mark 59 = .ok (.athrow, 1) := by decide +kernel
theorem dX6_mark_60 : decode cX6_mark 60 = .ok (.aload_n 0, 1) := by decide +kernel
theorem dX6_mark_61 : decode cX6_mark 61 = .ok (.getfield 25, 3) := by decide +kernel
theorem dX6_mark_64 : decode cX6_mark 64 = .ok (.iload_n 1, 1) := by decide +kernel
theorem dX6_mark_65 : decode cX6_mark 65 = .ok (.invokevirtual 84, 3) := by decide +kernel
theorem dX6_mark_68 : decode cX6_mark 68 = .ok (.checkcast 397, 3) := by decide +kernel
theorem dX6_mark_71 : decode cX6_mark 71 = .ok (.astore 7, 2) := by decide +kernel
theorem dX6_mark_73 : decode cX6_mark 73 = .ok (.aload 7, 2) := by decide +kernel
theorem dX6_mark_75 : decode cX6_mark 75 = .ok (.iload_n 2, 1) := by decide +kernel
theorem dX6_mark_76 : decode cX6_mark 76 = .ok (.iload_n 3, 1) := by decide +kernel
theorem dX6_mark_77 : decode cX6_mark 77 = .ok (.invokevirtual 434, 3) := by decide +kernel
theorem dX6_mark_80 : decode cX6_mark 80 = .ok (.istore 8, 2) := by decide +kernel
theorem dX6_mark_82 : decode cX6_mark 82 = .ok (.iload 8, 2) := by decide +kernel
theorem dX6_mark_84 : decode cX6_mark 84 = .ok (.bipush 10, 2) := by decide +kernel
theorem dX6_mark_86 : decode cX6_mark 86 = .ok (.if_icmp .lt 14, 3) := by decide +kernel
theorem dX6_mark_89 : decode cX6_mark 89 = .ok (.new 58, 3) := by decide +kernel
theorem dX6_mark_92 : decode cX6_mark 92 = .ok (.dup, 1) := by decide +kernel
theorem dX6_mark_93 : decode cX6_mark 93 = .ok (.ldc_w 437, 3) := by decide +kernel
theorem dX6_mark_96 : decode cX6_mark 96 = .ok (.invokespecial 62, 3) := by decide +kernel
theorem dX6_mark_99 : decode cX6_mark 99 = .ok (.athrow, 1) := by decide +kernel
theorem dX6_mark_100 : decode cX6_mark 100 = .ok (.aload 7, 2) := by decide +kernel
theorem dX6_mark_102 : decode cX6_mark 102 = .ok (.iload_n 2, 1) := by decide +kernel
theorem dX6_mark_103 : decode cX6_mark 103 = .ok (.iload_n 3, 1) := by decide +kernel
theorem dX6_mark_104 : decode cX6_mark 104 = .ok (.iload 4, 2) := by decide +kernel
theorem dX6_mark_106 : decode cX6_mark 106 = .ok (.iload 5, 2) := by decide +kernel
theorem dX6_mark_108 : decode cX6_mark 108 = .ok (.invokevirtual 439, 3) := by decide +kernel
theorem dX6_mark_111 : decode cX6_mark 111 = .ok (.ifCond .eq 14, 3) := by decide +kernel
theorem dX6_mark_114 : decode cX6_mark 114 = .ok (.new 58, 3) := by decide +kernel
theorem dX6_mark_117 : decode cX6_mark 117 = .ok (.dup, 1) := by decide +kernel
theorem dX6_mark_118 : decode cX6_mark 118 = .ok (.ldc_w 442, 3) := by decide +kernel
theorem dX6_mark_121 : decode cX6_mark 121 = .ok (.invokespecial 62, 3) := by decide +kernel
theorem dX6_mark_124 : decode cX6_mark 124 = .ok (.athrow, 1) := by decide +kernel
theorem dX6_mark_125 : decode cX6_mark 125 = .ok (.aload 7, 2) := by decide +kernel
theorem dX6_mark_127 : decode cX6_mark 127 = .ok (.getfield 444, 3) := by decide +kernel
theorem dX6_mark_130 : decode cX6_mark 130 = .ok (.new 447, 3) := by decide +kernel
theorem dX6_mark_133 : decode cX6_mark 133 = .ok (.dup, 1) := by decide +kernel
theorem dX6_mark_134 : decode cX6_mark 134 = .ok (.iload_n 2, 1) := by decide +kernel
theorem dX6_mark_135 : decode cX6_mark 135 = .ok (.iload_n 3, 1) := by decide +kernel
theorem dX6_mark_136 : decode cX6_mark 136 = .ok (.iload 4, 2) := by decide +kernel
theorem dX6_mark_138 : decode cX6_mark 138 = .ok (.iload 5, 2) := by decide +kernel
theorem dX6_mark_140 : decode cX6_mark 140 = .ok (.iload 6, 2) := by decide +kernel
theorem dX6_mark_142 : decode cX6_mark 142 = .ok (.invokespecial 449, 3) := by decide +kernel
theorem dX6_mark_145 : decode cX6_mark 145 = .ok (.invokevirtual 74, 3) := by decide +kernel
theorem dX6_mark_148 : decode cX6_mark 148 = .ok (.pop, 1) := by decide +kernel
theorem dX6_mark_149 : decode cX6_mark 149 = .ok (.iload 8, 2) := by decide +kernel
theorem dX6_mark_151 : decode cX6_mark 151 = .ok (.iconst 1, 1) := by decide +kernel
theorem dX6_mark_152 : decode cX6_mark 152 = .ok (.iadd, 1) := by decide +kernel
theorem dX6_mark_153 : decode cX6_mark 153 = .ok (.ireturn, 1) := by decide +kernel
theorem dX6_agree_0 : decode cX6_agree 0 = .ok (.aload_n 0, 1) := by decide +kernel
theorem dX6_agree_1 : decode cX6_agree 1 = .ok (.iload_n 1, 1) := by decide +kernel
theorem dX6_agree_2 : decode cX6_agree 2 = .ok (.invokevirtual 406, 3) := by decide +kernel
theorem dX6_agree_5 : decode cX6_agree 5 = .ok (.iload_n 2, 1) := by decide +kernel
theorem dX6_agree_6 : decode cX6_agree 6 = .ok (.invokestatic 426, 3) := by decide +kernel
theorem dX6_agree_9 : decode cX6_agree 9 = .ok (.iload_n 3, 1) := by decide +kernel
theorem dX6_agree_10 : decode cX6_agree 10 = .ok (.invokestatic 426, 3) := by decide +kernel
theorem dX6_agree_13 : decode cX6_agree 13 = .ok (.iload 4, 2) := by decide +kernel
theorem dX6_agree_15 : decode cX6_agree 15 = .ok (.invokestatic 429, 3) := by decide +kernel
theorem dX6_agree_18 : decode cX6_agree 18 = .ok (.iload 5, 2) := by decide +kernel
theorem dX6_agree_20 : decode cX6_agree 20 = .ok (.iconst 3, 1) := by decide +kernel
theorem dX6_agree_21 : decode cX6_agree 21 = .ok (.invokestatic 38, 3) := by decide +kernel
theorem dX6_agree_24 : decode cX6_agree 24 = .ok (.ifCond .ne 13, 3) := by decide +kernel
theorem dX6_agree_27 : decode cX6_agree 27 = .ok (.new 42, 3) := by decide +kernel
theorem dX6_agree_30 : decode cX6_agree 30 = .ok (.dup, 1) := by decide +kernel
theorem dX6_agree_31 : decode cX6_agree 31 = .ok (.ldc 82, 2) := by decide +kernel
theorem dX6_agree_33 : decode cX6_agree 33 = .ok (.invokespecial 46, 3) := by decide +kernel
theorem dX6_agree_36 : decode cX6_agree 36 = .ok (.athrow, 1) := by decide +kernel
theorem dX6_agree_37 : decode cX6_agree 37 = .ok (.aload_n 0, 1) := by decide +kernel
theorem dX6_agree_38 : decode cX6_agree 38 = .ok (.getfield 25, 3) := by decide +kernel
theorem dX6_agree_41 : decode cX6_agree 41 = .ok (.iload_n 1, 1) := by decide +kernel
theorem dX6_agree_42 : decode cX6_agree 42 = .ok (.invokevirtual 84, 3) := by decide +kernel
theorem dX6_agree_45 : decode cX6_agree 45 = .ok (.checkcast 397, 3) := by decide +kernel
theorem dX6_agree_48 : decode cX6_agree 48 = .ok (.astore 6, 2) := by decide +kernel
theorem dX6_agree_50 : decode cX6_agree 50 = .ok (.aload 6, 2) := by decide +kernel
theorem dX6_agree_52 : decode cX6_agree 52 = .ok (.iload_n 2, 1) := by decide +kernel
theorem dX6_agree_53 : decode cX6_agree 53 = .ok (.iload 4, 2) := by decide +kernel
theorem dX6_agree_55 : decode cX6_agree 55 = .ok (.aload_n 0, 1) := by decide +kernel
theorem dX6_agree_56 : decode cX6_agree 56 = .ok (.getfield 32, 3) := by decide +kernel
theorem dX6_agree_59 : decode cX6_agree 59 = .ok (.invokevirtual 452, 3) := by decide +kernel
theorem dX6_agree_62 : decode cX6_agree 62 = .ok (.aload 6, 2) := by decide +kernel
theorem dX6_agree_64 : decode cX6_agree 64 = .ok (.iload_n 3, 1) := by decide +kernel
theorem dX6_agree_65 : decode cX6_agree 65 = .ok (.iload 4, 2) := by decide +kernel
theorem dX6_agree_67 : decode cX6_agree 67 = .ok (.aload_n 0, 1) := by decide +kernel
theorem dX6_agree_68 : decode cX6_agree 68 = .ok (.getfield 35, 3) := by decide +kernel
theorem dX6_agree_71 : decode cX6_agree 71 = .ok (.invokevirtual 452, 3) := by decide +kernel
theorem dX6_agree_74 : decode cX6_agree 74 = .ok (.iload 5, 2) := by decide +kernel
theorem dX6_agree_76 : decode cX6_agree 76 = .ok (.lookupswitch 38 #[(0, 28), (1, 33)], 28) := by decide +kernel
theorem dX6_agree_104 : decode cX6_agree 104 = .ok (.aload_n 0, 1) := by decide +kernel
theorem dX6_agree_105 : decode cX6_agree 105 = .ok (.invokevirtual 456, 3) := by decide +kernel
theorem dX6_agree_108 : decode cX6_agree 108 = .ok (.ireturn, 1) := by decide +kernel
theorem dX6_agree_109 : decode cX6_agree 109 = .ok (.aload_n 0, 1) := by decide +kernel
theorem dX6_agree_110 : decode cX6_agree 110 = .ok (.invokevirtual 459, 3) := by decide +kernel
theorem dX6_agree_113 : decode cX6_agree 113 = .ok (.ireturn, 1) := by decide +kernel
theorem dX6_agree_114 : decode cX6_agree 114 = .ok (.aload_n 0, 1) := by decide +kernel
theorem dX6_agree_115 : decode cX6_agree 115 = .ok (.aload 6, 2) := by decide +kernel
theorem dX6_agree_117 : decode cX6_agree 117 = .ok (.iload_n 2, 1) := by decide +kernel
theorem dX6_agree_118 : decode cX6_agree 118 = .ok (.iload 4, 2) := by decide +kernel
theorem dX6_agree_120 : decode cX6_agree 120 = .ok (.invokevirtual 462, 3) := by decide +kernel
theorem dX6_agree_123 : decode cX6_agree 123 = .ok (.ireturn, 1) := by decide +kernel
theorem dX6_keepClip_0 : decode cX6_keepClip 0 = .ok (.aload_n 0, 1) := by decide +kernel
theorem dX6_keepClip_1 : decode cX6_keepClip 1 = .ok (.getfield 25, 3) := by decide +kernel
theorem dX6_keepClip_4 : decode cX6_keepClip 4 = .ok (.aload_n 1, 1) := by decide +kernel
theorem dX6_keepClip_5 : decode cX6_keepClip 5 = .ok (.invokevirtual 74, 3) := by decide +kernel
theorem dX6_keepClip_8 : decode cX6_keepClip 8 = .ok (.pop, 1) := by decide +kernel
theorem dX6_keepClip_9 : decode cX6_keepClip 9 = .ok (.aload_n 0, 1) := by decide +kernel
theorem dX6_keepClip_10 : decode cX6_keepClip 10 = .ok (.getfield 25, 3) := by decide +kernel
theorem dX6_keepClip_13 : decode cX6_keepClip 13 = .ok (.invokevirtual 54, 3) := by decide +kernel
theorem dX6_keepClip_16 : decode cX6_keepClip 16 = .ok (.iconst 1, 1) := by decide +kernel
theorem dX6_keepClip_17 : decode cX6_keepClip 17 = .ok (.isub, 1) := by decide +kernel
end
section
theorem dX6_keepClip_18 : decode cX6_keepClip 18 = .ok (.ireturn, 1) := by decide +kernel
theorem dX6_letGo_0 : decode cX6_letGo 0 = .ok (.iconst 0, 1) := by decide +kernel
theorem dX6_letGo_1 : decode cX6_letGo 1 = .ok (.istore_n 3, 1) := by decide +kernel
theorem dX6_letGo_2 : decode cX6_letGo 2 = .ok (.iconst 0, 1) := by decide +kernel
theorem dX6_letGo_3 : decode cX6_letGo 3 = .ok (.istore 4, 2) := by decide +kernel
theorem dX6_letGo_5 : decode cX6_letGo 5 = .ok (.iload 4, 2) := by decide +kernel
theorem dX6_letGo_7 : decode cX6_letGo 7 = .ok (.aload_n 0, 1) := by decide +kernel
theorem dX6_letGo_8 : decode cX6_letGo 8 = .ok (.getfield 25, 3) := by decide +kernel
theorem dX6_letGo_11 : decode cX6_letGo 11 = .ok (.invokevirtual 54, 3) := by decide +kernel
theorem dX6_letGo_14 : decode cX6_letGo 14 = .ok (.if_icmp .ge 91, 3) := by decide +kernel
theorem dX6_letGo_17 : decode cX6_letGo 17 = .ok (.aload_n 0, 1) := by decide +kernel
theorem dX6_letGo_18 : decode cX6_letGo 18 = .ok (.getfield 25, 3) := by decide +kernel
theorem dX6_letGo_21 : decode cX6_letGo 21 = .ok (.iload 4, 2) := by decide +kernel
theorem dX6_letGo_23 : decode cX6_letGo 23 = .ok (.invokevirtual 84, 3) := by decide +kernel
theorem dX6_letGo_26 : decode cX6_letGo 26 = .ok (.checkcast 397, 3) := by decide +kernel
theorem dX6_letGo_29 : decode cX6_letGo 29 = .ok (.astore 5, 2) := by decide +kernel
theorem dX6_letGo_31 : decode cX6_letGo 31 = .ok (.aload 5, 2) := by decide +kernel
theorem dX6_letGo_33 : decode cX6_letGo 33 = .ok (.iload_n 1, 1) := by decide +kernel
theorem dX6_letGo_34 : decode cX6_letGo 34 = .ok (.invokevirtual 466, 3) := by decide +kernel
theorem dX6_letGo_37 : decode cX6_letGo 37 = .ok (.ifCond .eq 21, 3) := by decide +kernel
theorem dX6_letGo_40 : decode cX6_letGo 40 = .ok (.iload_n 2, 1) := by decide +kernel
theorem dX6_letGo_41 : decode cX6_letGo 41 = .ok (.iconst (-1), 1) := by decide +kernel
theorem dX6_letGo_42 : decode cX6_letGo 42 = .ok (.if_icmp .eq 12, 3) := by decide +kernel
theorem dX6_letGo_45 : decode cX6_letGo 45 = .ok (.aload 5, 2) := by decide +kernel
theorem dX6_letGo_47 : decode cX6_letGo 47 = .ok (.getfield 469, 3) := by decide +kernel
theorem dX6_letGo_50 : decode cX6_letGo 50 = .ok (.iload_n 2, 1) := by decide +kernel
theorem dX6_letGo_51 : decode cX6_letGo 51 = .ok (.if_icmp .ne 7, 3) := by decide +kernel
theorem dX6_letGo_54 : decode cX6_letGo 54 = .ok (.iconst 1, 1) := by decide +kernel
theorem dX6_letGo_55 : decode cX6_letGo 55 = .ok (.goto 4, 3) := by decide +kernel
theorem dX6_letGo_58 : decode cX6_letGo 58 = .ok (.iconst 0, 1) := by decide +kernel
theorem dX6_letGo_59 : decode cX6_letGo 59 = .ok (.istore 6, 2) := by decide +kernel
theorem dX6_letGo_61 : decode cX6_letGo 61 = .ok (.aload 5, 2) := by decide +kernel
theorem dX6_letGo_63 : decode cX6_letGo 63 = .ok (.getfield 422, 3) := by decide +kernel
theorem dX6_letGo_66 : decode cX6_letGo 66 = .ok (.ifCond .ne 33, 3) := by decide +kernel
theorem dX6_letGo_69 : decode cX6_letGo 69 = .ok (.iload 6, 2) := by decide +kernel
theorem dX6_letGo_71 : decode cX6_letGo 71 = .ok (.ifCond .ne 11, 3) := by decide +kernel
theorem dX6_letGo_74 : decode cX6_letGo 74 = .ok (.aload 5, 2) := by decide +kernel
theorem dX6_letGo_76 : decode cX6_letGo 76 = .ok (.invokevirtual 472, 3) := by decide +kernel
theorem dX6_letGo_79 : decode cX6_letGo 79 = .ok (.ifCond .eq 20, 3) := by decide +kernel
theorem dX6_letGo_82 : decode cX6_letGo 82 = .ok (.aload 5, 2) := by decide +kernel
theorem dX6_letGo_84 : decode cX6_letGo 84 = .ok (.iconst 1, 1) := by decide +kernel
theorem dX6_letGo_85 : decode cX6_letGo 85 = .ok (.putfield 422, 3) := by decide +kernel
theorem dX6_letGo_88 : decode cX6_letGo 88 = .ok (.aload 5, 2) := by decide +kernel
theorem dX6_letGo_90 : decode cX6_letGo 90 = .ok (.getfield 444, 3) := by decide +kernel
theorem dX6_letGo_93 : decode cX6_letGo 93 = .ok (.invokevirtual 174, 3) := by decide +kernel
theorem dX6_letGo_96 : decode cX6_letGo 96 = .ok (.iinc 3 1, 3) := by decide +kernel
theorem dX6_letGo_99 : decode cX6_letGo 99 = .ok (.iinc 4 1, 3) := by decide +kernel
theorem dX6_letGo_102 : decode cX6_letGo 102 = .ok (.goto (-97), 3) := by decide +kernel
theorem dX6_letGo_105 : decode cX6_letGo 105 = .ok (.iload_n 3, 1) := by decide +kernel
theorem dX6_letGo_106 : decode cX6_letGo 106 = .ok (.ireturn, 1) := by decide +kernel
theorem dX6_countTicksAlike_0 : decode cX6_countTicksAlike 0 = .ok (.iconst 0, 1) := by decide +kernel
theorem dX6_countTicksAlike_1 : decode cX6_countTicksAlike 1 = .ok (.istore_n 1, 1) := by decide +kernel
theorem dX6_countTicksAlike_2 : decode cX6_countTicksAlike 2 = .ok (.iconst 0, 1) := by decide +kernel
theorem dX6_countTicksAlike_3 : decode cX6_countTicksAlike 3 = .ok (.istore_n 2, 1) := by decide +kernel
theorem dX6_countTicksAlike_4 : decode cX6_countTicksAlike 4 = .ok (.iload_n 2, 1) := by decide +kernel
theorem dX6_countTicksAlike_5 : decode cX6_countTicksAlike 5 = .ok (.aload_n 0, 1) := by decide +kernel
theorem dX6_countTicksAlike_6 : decode cX6_countTicksAlike 6 = .ok (.getfield 32, 3) := by decide +kernel
theorem dX6_countTicksAlike_9 : decode cX6_countTicksAlike 9 = .ok (.arraylength, 1) := by decide +kernel
theorem dX6_countTicksAlike_10 : decode cX6_countTicksAlike 10 = .ok (.if_icmp .ge 46, 3) := by decide +kernel
theorem dX6_countTicksAlike_13 : decode cX6_countTicksAlike 13 = .ok (.iload_n 2, 1) := by decide +kernel
theorem dX6_countTicksAlike_14 : decode cX6_countTicksAlike 14 = .ok (.aload_n 0, 1) := by decide +kernel
theorem dX6_countTicksAlike_15 : decode cX6_countTicksAlike 15 = .ok (.getfield 35, 3) := by decide +kernel
theorem dX6_countTicksAlike_18 : decode cX6_countTicksAlike 18 = .ok (.arraylength, 1) := by decide +kernel
theorem dX6_countTicksAlike_19 : decode cX6_countTicksAlike 19 = .ok (.if_icmp .ge 37, 3) := by decide +kernel
theorem dX6_countTicksAlike_22 : decode cX6_countTicksAlike 22 = .ok (.aload_n 0, 1) := by decide +kernel
theorem dX6_countTicksAlike_23 : decode cX6_countTicksAlike 23 = .ok (.getfield 32, 3) := by decide +kernel
theorem dX6_countTicksAlike_26 : decode cX6_countTicksAlike 26 = .ok (.iload_n 2, 1) := by decide +kernel
theorem dX6_countTicksAlike_27 : decode cX6_countTicksAlike 27 = .ok (.iaload, 1) := by decide +kernel
theorem dX6_countTicksAlike_28 : decode cX6_countTicksAlike 28 = .ok (.iconst (-1), 1) := by decide +kernel
theorem dX6_countTicksAlike_29 : decode cX6_countTicksAlike 29 = .ok (.if_icmp .eq 21, 3) := by decide +kernel
theorem dX6_countTicksAlike_32 : decode cX6_countTicksAlike 32 = .ok (.aload_n 0, 1) := by decide +kernel
theorem dX6_countTicksAlike_33 : decode cX6_countTicksAlike 33 = .ok (.getfield 32, 3) := by decide +kernel
theorem dX6_countTicksAlike_36 : decode cX6_countTicksAlike 36 = .ok (.iload_n 2, 1) := by decide +kernel
theorem dX6_countTicksAlike_37 : decode cX6_countTicksAlike 37 = .ok (.iaload, 1) := by decide +kernel
theorem dX6_countTicksAlike_38 : decode cX6_countTicksAlike 38 = .ok (.aload_n 0, 1) := by decide +kernel
theorem dX6_countTicksAlike_39 : decode cX6_countTicksAlike 39 = .ok (.getfield 35, 3) := by decide +kernel
theorem dX6_countTicksAlike_42 : decode cX6_countTicksAlike 42 = .ok (.iload_n 2, 1) := by decide +kernel
theorem dX6_countTicksAlike_43 : decode cX6_countTicksAlike 43 = .ok (.iaload, 1) := by decide +kernel
theorem dX6_countTicksAlike_44 : decode cX6_countTicksAlike 44 = .ok (.if_icmp .ne 6, 3) := by decide +kernel
theorem dX6_countTicksAlike_47 : decode cX6_countTicksAlike 47 = .ok (.iinc 1 1, 3) := by decide +kernel
theorem dX6_countTicksAlike_50 : decode cX6_countTicksAlike 50 = .ok (.iinc 2 1, 3) := by decide +kernel
theorem dX6_countTicksAlike_53 : decode cX6_countTicksAlike 53 = .ok (.goto (-49), 3) := by decide +kernel
theorem dX6_countTicksAlike_56 : decode cX6_countTicksAlike 56 = .ok (.iload_n 1, 1) := by decide +kernel
theorem dX6_countTicksAlike_57 : decode cX6_countTicksAlike 57 = .ok (.ireturn, 1) := by decide +kernel
theorem dX6_countTicksWithValue_0 : decode cX6_countTicksWithValue 0 = .ok (.iconst 0, 1) := by decide +kernel
theorem dX6_countTicksWithValue_1 : decode cX6_countTicksWithValue 1 = .ok (.istore_n 1, 1) := by decide +kernel
theorem dX6_countTicksWithValue_2 : decode cX6_countTicksWithValue 2 = .ok (.iconst 0, 1) := by decide +kernel
theorem dX6_countTicksWithValue_3 : decode cX6_countTicksWithValue 3 = .ok (.istore_n 2, 1) := by decide +kernel
theorem dX6_countTicksWithValue_4 : decode cX6_countTicksWithValue 4 = .ok (.iload_n 2, 1) := by decide +kernel
theorem dX6_countTicksWithValue_5 : decode cX6_countTicksWithValue 5 = .ok (.aload_n 0, 1) := by decide +kernel
theorem dX6_countTicksWithValue_6 : decode cX6_countTicksWithValue 6 = .ok (.getfield 32, 3) := by decide +kernel
theorem dX6_countTicksWithValue_9 : decode cX6_countTicksWithValue 9 = .ok (.arraylength, 1) := by decide +kernel
theorem dX6_countTicksWithValue_10 : decode cX6_countTicksWithValue 10 = .ok (.if_icmp .ge 41, 3) := by decide +kernel
theorem dX6_countTicksWithValue_13 : decode cX6_countTicksWithValue 13 = .ok (.iload_n 2, 1) := by decide +kernel
theorem dX6_countTicksWithValue_14 : decode cX6_countTicksWithValue 14 = .ok (.aload_n 0, 1) := by decide +kernel
theorem dX6_countTicksWithValue_15 : decode cX6_countTicksWithValue 15 = .ok (.getfield 35, 3) := by decide +kernel
theorem dX6_countTicksWithValue_18 : decode cX6_countTicksWithValue 18 = .ok (.arraylength, 1) := by decide +kernel
theorem dX6_countTicksWithValue_19 : decode cX6_countTicksWithValue 19 = .ok (.if_icmp .ge 32, 3) := by decide +kernel
theorem dX6_countTicksWithValue_22 : decode cX6_countTicksWithValue 22 = .ok (.aload_n 0, 1) := by decide +kernel
theorem dX6_countTicksWithValue_23 : decode cX6_countTicksWithValue 23 = .ok (.getfield 32, 3) := by decide +kernel
theorem dX6_countTicksWithValue_26 : decode cX6_countTicksWithValue 26 = .ok (.iload_n 2, 1) := by decide +kernel
theorem dX6_countTicksWithValue_27 : decode cX6_countTicksWithValue 27 = .ok (.iaload, 1) := by decide +kernel
theorem dX6_countTicksWithValue_28 : decode cX6_countTicksWithValue 28 = .ok (.iconst (-1), 1) := by decide +kernel
theorem dX6_countTicksWithValue_29 : decode cX6_countTicksWithValue 29 = .ok (.if_icmp .ne 13, 3) := by decide +kernel
theorem dX6_countTicksWithValue_32 : decode cX6_countTicksWithValue 32 = .ok (.aload_n 0, 1) := by decide +kernel
theorem dX6_countTicksWithValue_33 : decode cX6_countTicksWithValue 33 = .ok (.getfield 35, 3) := by decide +kernel
theorem dX6_countTicksWithValue_36 : decode cX6_countTicksWithValue 36 = .ok (.iload_n 2, 1) := by decide +kernel
theorem dX6_countTicksWithValue_37 : decode cX6_countTicksWithValue 37 = .ok (.iaload, 1) := by decide +kernel
theorem dX6_countTicksWithValue_38 : decode cX6_countTicksWithValue 38 = .ok (.iconst (-1), 1) := by decide +kernel
theorem dX6_countTicksWithValue_39 : decode cX6_countTicksWithValue 39 = .ok (.if_icmp .eq 6, 3) := by decide +kernel
theorem dX6_countTicksWithValue_42 : decode cX6_countTicksWithValue 42 = .ok (.iinc 1 1, 3) := by decide +kernel
theorem dX6_countTicksWithValue_45 : decode cX6_countTicksWithValue 45 = .ok (.iinc 2 1, 3) := by decide +kernel
theorem dX6_countTicksWithValue_48 : decode cX6_countTicksWithValue 48 = .ok (.goto (-44), 3) := by decide +kernel
theorem dX6_countTicksWithValue_51 : decode cX6_countTicksWithValue 51 = .ok (.iload_n 1, 1) := by decide +kernel
theorem dX6_countTicksWithValue_52 : decode cX6_countTicksWithValue 52 = .ok (.ireturn, 1) := by decide +kernel
theorem dX6_countMarksShared_0 : decode cX6_countMarksShared 0 = .ok (.iconst 0, 1) := by decide +kernel
theorem dX6_countMarksShared_1 : decode cX6_countMarksShared 1 = .ok (.istore 4, 2) := by decide +kernel
theorem dX6_countMarksShared_3 : decode cX6_countMarksShared 3 = .ok (.iconst 0, 1) := by decide +kernel
theorem dX6_countMarksShared_4 : decode cX6_countMarksShared 4 = .ok (.istore 5, 2) := by decide +kernel
theorem dX6_countMarksShared_6 : decode cX6_countMarksShared 6 = .ok (.iload 5, 2) := by decide +kernel
theorem dX6_countMarksShared_8 : decode cX6_countMarksShared 8 = .ok (.aload_n 1, 1) := by decide +kernel
theorem dX6_countMarksShared_9 : decode cX6_countMarksShared 9 = .ok (.getfield 444, 3) := by decide +kernel
theorem dX6_countMarksShared_12 : decode cX6_countMarksShared 12 = .ok (.invokevirtual 54, 3) := by decide +kernel
theorem dX6_countMarksShared_15 : decode cX6_countMarksShared 15 = .ok (.if_icmp .ge 61, 3) := by decide +kernel
theorem dX6_countMarksShared_18 : decode cX6_countMarksShared 18 = .ok (.aload_n 1, 1) := by decide +kernel
theorem dX6_countMarksShared_19 : decode cX6_countMarksShared 19 = .ok (.getfield 444, 3) := by decide +kernel
theorem dX6_countMarksShared_22 : decode cX6_countMarksShared 22 = .ok (.iload 5, 2) := by decide +kernel
theorem dX6_countMarksShared_24 : decode cX6_countMarksShared 24 = .ok (.invokevirtual 84, 3) := by decide +kernel
theorem dX6_countMarksShared_27 : decode cX6_countMarksShared 27 = .ok (.checkcast 447, 3) := by decide +kernel
theorem dX6_countMarksShared_30 : decode cX6_countMarksShared 30 = .ok (.astore 6, 2) := by decide +kernel
theorem dX6_countMarksShared_32 : decode cX6_countMarksShared 32 = .ok (.aload 6, 2) := by decide +kernel
theorem dX6_countMarksShared_34 : decode cX6_countMarksShared 34 = .ok (.iload_n 2, 1) := by decide +kernel
theorem dX6_countMarksShared_35 : decode cX6_countMarksShared 35 = .ok (.iload_n 3, 1) := by decide +kernel
theorem dX6_countMarksShared_36 : decode cX6_countMarksShared 36 = .ok (.invokevirtual 475, 3) := by decide +kernel
theorem dX6_countMarksShared_39 : decode cX6_countMarksShared 39 = .ok (.ifCond .eq 31, 3) := by decide +kernel
theorem dX6_countMarksShared_42 : decode cX6_countMarksShared 42 = .ok (.iconst 2, 1) := by decide +kernel
theorem dX6_countMarksShared_43 : decode cX6_countMarksShared 43 = .ok (.aload 6, 2) := by decide +kernel
theorem dX6_countMarksShared_45 : decode cX6_countMarksShared 45 = .ok (.aload_n 0, 1) := by decide +kernel
theorem dX6_countMarksShared_46 : decode cX6_countMarksShared 46 = .ok (.getfield 35, 3) := by decide +kernel
theorem dX6_countMarksShared_49 : decode cX6_countMarksShared 49 = .ok (.invokevirtual 478, 3) := by decide +kernel
theorem dX6_countMarksShared_52 : decode cX6_countMarksShared 52 = .ok (.imul, 1) := by decide +kernel
theorem dX6_countMarksShared_53 : decode cX6_countMarksShared 53 = .ok (.aload 6, 2) := by decide +kernel
theorem dX6_countMarksShared_55 : decode cX6_countMarksShared 55 = .ok (.getfield 482, 3) := by decide +kernel
theorem dX6_countMarksShared_58 : decode cX6_countMarksShared 58 = .ok (.aload 6, 2) := by decide +kernel
theorem dX6_countMarksShared_60 : decode cX6_countMarksShared 60 = .ok (.getfield 483, 3) := by decide +kernel
theorem dX6_countMarksShared_63 : decode cX6_countMarksShared 63 = .ok (.isub, 1) := by decide +kernel
theorem dX6_countMarksShared_64 : decode cX6_countMarksShared 64 = .ok (.if_icmp .le 6, 3) := by decide +kernel
theorem dX6_countMarksShared_67 : decode cX6_countMarksShared 67 = .ok (.iinc 4 1, 3) := by decide +kernel
theorem dX6_countMarksShared_70 : decode cX6_countMarksShared 70 = .ok (.iinc 5 1, 3) := by decide +kernel
theorem dX6_countMarksShared_73 : decode cX6_countMarksShared 73 = .ok (.goto (-67), 3) := by decide +kernel
theorem dX6_countMarksShared_76 : decode cX6_countMarksShared 76 = .ok (.iload 4, 2) := by decide +kernel
theorem dX6_countMarksShared_78 : decode cX6_countMarksShared 78 = .ok (.ireturn, 1) := by decide +kernel
theorem dX6_requireClip_0 : decode cX6_requireClip 0 = .ok (.iload_n 1, 1) := by decide +kernel
theorem dX6_requireClip_1 : decode cX6_requireClip 1 = .ok (.aload_n 0, 1) := by decide +kernel
theorem dX6_requireClip_2 : decode cX6_requireClip 2 = .ok (.getfield 25, 3) := by decide +kernel
theorem dX6_requireClip_5 : decode cX6_requireClip 5 = .ok (.invokevirtual 54, 3) := by decide +kernel
theorem dX6_requireClip_8 : decode cX6_requireClip 8 = .ok (.invokestatic 38, 3) := by decide +kernel
theorem dX6_requireClip_11 : decode cX6_requireClip 11 = .ok (.ifCond .eq 20, 3) := by decide +kernel
theorem dX6_requireClip_14 : decode cX6_requireClip 14 = .ok (.aload_n 0, 1) := by decide +kernel
theorem dX6_requireClip_15 : decode cX6_requireClip 15 = .ok (.getfield 25, 3) := by decide +kernel
theorem dX6_requireClip_18 : decode cX6_requireClip 18 = .ok (.iload_n 1, 1) := by decide +kernel
theorem dX6_requireClip_19 : decode cX6_requireClip 19 = .ok (.invokevirtual 84, 3) := by decide +kernel
theorem dX6_requireClip_22 : decode cX6_requireClip 22 = .ok (.checkcast 397, 3) := by decide +kernel
theorem dX6_requireClip_25 : decode cX6_requireClip 25 = .ok (.getfield 422, 3) := by decide +kernel
theorem dX6_requireClip_28 : decode cX6_requireClip 28 = .ok (.ifCond .eq 14, 3) := by decide +kernel
theorem dX6_requireClip_31 : decode cX6_requireClip 31 = .ok (.new 140, 3) := by decide +kernel
theorem dX6_requireClip_34 : decode cX6_requireClip 34 = .ok (.dup, 1) := by decide +kernel
theorem dX6_requireClip_35 : decode cX6_requireClip 35 = .ok (.ldc_w 484, 3) := by decide +kernel
theorem dX6_requireClip_38 : decode cX6_requireClip 38 = .ok (.invokespecial 144, 3) := by decide +kernel
theorem dX6_requireClip_41 : decode cX6_requireClip 41 = .ok (.athrow, 1) := by decide +kernel
theorem dX6_requireClip_42 : decode cX6_requireClip 42 = .ok (.return_, 1) := by decide +kernel
theorem dX6_requirePerson_0 : decode cX6_requirePerson 0 = .ok (.iload_n 0, 1) := by decide +kernel
theorem dX6_requirePerson_1 : decode cX6_requirePerson 1 = .ok (.bipush 6, 2) := by decide +kernel
theorem dX6_requirePerson_3 : decode cX6_requirePerson 3 = .ok (.invokestatic 38, 3) := by decide +kernel
theorem dX6_requirePerson_6 : decode cX6_requirePerson 6 = .ok (.ifCond .ne 14, 3) := by decide +kernel
theorem dX6_requirePerson_9 : decode cX6_requirePerson 9 = .ok (.new 140, 3) := by decide +kernel
theorem dX6_requirePerson_12 : decode cX6_requirePerson 12 = .ok (.dup, 1) := by decide +kernel
theorem dX6_requirePerson_13 : decode cX6_requirePerson 13 = .ok (.ldc_w 486, 3) := by decide +kernel
theorem dX6_requirePerson_16 : decode cX6_requirePerson 16 = .ok (.invokespecial 144, 3) := by decide +kernel
theorem dX6_requirePerson_19 : decode cX6_requirePerson 19 = .ok (.athrow, 1) := by decide +kernel
theorem dX6_requirePerson_20 : decode cX6_requirePerson 20 = .ok (.return_, 1) := by decide +kernel
theorem dX6_requirePurpose_0 : decode cX6_requirePurpose 0 = .ok (.iload_n 0, 1) := by decide +kernel
theorem dX6_requirePurpose_1 : decode cX6_requirePurpose 1 = .ok (.iconst 3, 1) := by decide +kernel
theorem dX6_requirePurpose_2 : decode cX6_requirePurpose 2 = .ok (.invokestatic 38, 3) := by decide +kernel
theorem dX6_requirePurpose_5 : decode cX6_requirePurpose 5 = .ok (.ifCond .ne 14, 3) := by decide +kernel
theorem dX6_requirePurpose_8 : decode cX6_requirePurpose 8 = .ok (.new 42, 3) := by decide +kernel
theorem dX6_requirePurpose_11 : decode cX6_requirePurpose 11 = .ok (.dup, 1) := by decide +kernel
theorem dX6_requirePurpose_12 : decode cX6_requirePurpose 12 = .ok (.ldc_w 488, 3) := by decide +kernel
theorem dX6_requirePurpose_15 : decode cX6_requirePurpose 15 = .ok (.invokespecial 46, 3) := by decide +kernel
theorem dX6_requirePurpose_18 : decode cX6_requirePurpose 18 = .ok (.athrow, 1) := by decide +kernel
theorem dX6_requirePurpose_19 : decode cX6_requirePurpose 19 = .ok (.return_, 1) := by decide +kernel
theorem dX6_requireCoder_0 : decode cX6_requireCoder 0 = .ok (.iload_n 0, 1) := by decide +kernel
theorem dX6_requireCoder_1 : decode cX6_requireCoder 1 = .ok (.iconst 3, 1) := by decide +kernel
theorem dX6_requireCoder_2 : decode cX6_requireCoder 2 = .ok (.invokestatic 38, 3) := by decide +kernel
theorem dX6_requireCoder_5 : decode cX6_requireCoder 5 = .ok (.ifCond .ne 14, 3) := by decide +kernel
theorem dX6_requireCoder_8 : decode cX6_requireCoder 8 = .ok (.new 140, 3) := by decide +kernel
theorem dX6_requireCoder_11 : decode cX6_requireCoder 11 = .ok (.dup, 1) := by decide +kernel
theorem dX6_requireCoder_12 : decode cX6_requireCoder 12 = .ok (.ldc_w 490, 3) := by decide +kernel
theorem dX6_requireCoder_15 : decode cX6_requireCoder 15 = .ok (.invokespecial 144, 3) := by decide +kernel
theorem dX6_requireCoder_18 : decode cX6_requireCoder 18 = .ok (.athrow, 1) := by decide +kernel
theorem dX6_requireCoder_19 : decode cX6_requireCoder 19 = .ok (.return_, 1) := by decide +kernel
theorem dX6_requireTier_0 : decode cX6_requireTier 0 = .ok (.iload_n 0, 1) := by decide +kernel
theorem dX6_requireTier_1 : decode cX6_requireTier 1 = .ok (.iconst 4, 1) := by decide +kernel
theorem dX6_requireTier_2 : decode cX6_requireTier 2 = .ok (.invokestatic 38, 3) := by decide +kernel
theorem dX6_requireTier_5 : decode cX6_requireTier 5 = .ok (.ifCond .ne 14, 3) := by decide +kernel
theorem dX6_requireTier_8 : decode cX6_requireTier 8 = .ok (.new 140, 3) := by decide +kernel
theorem dX6_requireTier_11 : decode cX6_requireTier 11 = .ok (.dup, 1) := by decide +kernel
theorem dX6_requireTier_12 : decode cX6_requireTier 12 = .ok (.ldc_w 492, 3) := by decide +kernel
theorem dX6_requireTier_15 : decode cX6_requireTier 15 = .ok (.invokespecial 144, 3) := by decide +kernel
theorem dX6_requireTier_18 : decode cX6_requireTier 18 = .ok (.athrow, 1) := by decide +kernel
theorem dX6_requireTier_19 : decode cX6_requireTier 19 = .ok (.return_, 1) := by decide +kernel
theorem dX6_isBelow_0 : decode cX6_isBelow 0 = .ok (.iload_n 0, 1) := by decide +kernel
theorem dX6_isBelow_1 : decode cX6_isBelow 1 = .ok (.ifCond .lt 12, 3) := by decide +kernel
theorem dX6_isBelow_4 : decode cX6_isBelow 4 = .ok (.iload_n 0, 1) := by decide +kernel
theorem dX6_isBelow_5 : decode cX6_isBelow 5 = .ok (.iload_n 1, 1) := by decide +kernel
theorem dX6_isBelow_6 : decode cX6_isBelow 6 = .ok (.if_icmp .ge 7, 3) := by decide +kernel
theorem dX6_isBelow_9 : decode cX6_isBelow 9 = .ok (.iconst 1, 1) := by decide +kernel
theorem dX6_isBelow_10 : decode cX6_isBelow 10 = .ok (.goto 4, 3) := by decide +kernel
theorem dX6_isBelow_13 : decode cX6_isBelow 13 = .ok (.iconst 0, 1) := by decide +kernel
theorem dX6_isBelow_14 : decode cX6_isBelow 14 = .ok (.ireturn, 1) := by decide +kernel
theorem dX6_rowOf_0 : decode cX6_rowOf 0 = .ok (.iload_n 0, 1) := by decide +kernel
theorem dX6_rowOf_1 : decode cX6_rowOf 1 = .ok (.iconst 3, 1) := by decide +kernel
theorem dX6_rowOf_2 : decode cX6_rowOf 2 = .ok (.idiv, 1) := by decide +kernel
theorem dX6_rowOf_3 : decode cX6_rowOf 3 = .ok (.ireturn, 1) := by decide +kernel
theorem dX6_columnOf_0 : decode cX6_columnOf 0 = .ok (.iload_n 0, 1) := by decide +kernel
theorem dX6_columnOf_1 : decode cX6_columnOf 1 = .ok (.iconst 3, 1) := by decide +kernel
theorem dX6_columnOf_2 : decode cX6_columnOf 2 = .ok (.irem, 1) := by decide +kernel
theorem dX6_columnOf_3 : decode cX6_columnOf 3 = .ok (.ireturn, 1) := by decide +kernel
theorem dX6_distance_0 : decode cX6_distance 0 = .ok (.iload_n 0, 1) := by decide +kernel
theorem dX6_distance_1 : decode cX6_distance 1 = .ok (.invokestatic 121, 3) := by decide +kernel
theorem dX6_distance_4 : decode cX6_distance 4 = .ok (.iload_n 1, 1) := by decide +kernel
theorem dX6_distance_5 : decode cX6_distance 5 = .ok (.invokestatic 121, 3) := by decide +kernel
theorem dX6_distance_8 : decode cX6_distance 8 = .ok (.isub, 1) := by decide +kernel
theorem dX6_distance_9 : decode cX6_distance 9 = .ok (.invokestatic 314, 3) := by decide +kernel
theorem dX6_distance_12 : decode cX6_distance 12 = .ok (.iload_n 0, 1) := by decide +kernel
theorem dX6_distance_13 : decode cX6_distance 13 = .ok (.invokestatic 129, 3) := by decide +kernel
theorem dX6_distance_16 : decode cX6_distance 16 = .ok (.iload_n 1, 1) := by decide +kernel
theorem dX6_distance_17 : decode cX6_distance 17 = .ok (.invokestatic 129, 3) := by decide +kernel
theorem dX6_distance_20 : decode cX6_distance 20 = .ok (.isub, 1) := by decide +kernel
theorem dX6_distance_21 : decode cX6_distance 21 = .ok (.invokestatic 314, 3) := by decide +kernel
theorem dX6_distance_24 : decode cX6_distance 24 = .ok (.iadd, 1) := by decide +kernel
theorem dX6_distance_25 : decode cX6_distance 25 = .ok (.ireturn, 1) := by decide +kernel
theorem dX6_direction_0 : decode cX6_direction 0 = .ok (.iload_n 1, 1) := by decide +kernel
theorem dX6_direction_1 : decode cX6_direction 1 = .ok (.iload_n 0, 1) := by decide +kernel
theorem dX6_direction_2 : decode cX6_direction 2 = .ok (.if_icmp .ne 5, 3) := by decide +kernel
theorem dX6_direction_5 : decode cX6_direction 5 = .ok (.iconst 0, 1) := by decide +kernel
theorem dX6_direction_6 : decode cX6_direction 6 = .ok (.ireturn, 1) := by decide +kernel
theorem dX6_direction_7 : decode cX6_direction 7 = .ok (.iload_n 1, 1) := by decide +kernel
theorem dX6_direction_8 : decode cX6_direction 8 = .ok (.iload_n 0, 1) := by decide +kernel
theorem dX6_direction_9 : decode cX6_direction 9 = .ok (.if_icmp .le 7, 3) := by decide +kernel
theorem dX6_direction_12 : decode cX6_direction 12 = .ok (.iconst 1, 1) := by decide +kernel
theorem dX6_direction_13 : decode cX6_direction 13 = .ok (.goto 4, 3) := by decide +kernel
theorem dX6_direction_16 : decode cX6_direction 16 = .ok (.iconst (-1), 1) := by decide +kernel
theorem dX6_direction_17 : decode cX6_direction 17 = .ok (.ireturn, 1) := by decide +kernel
theorem dX7_init_0 : decode cX7_init 0 = .ok (.aload_n 0, 1) := by decide +kernel
theorem dX7_init_1 : decode cX7_init 1 = .ok (.invokespecial 1, 3) := by decide +kernel
theorem dX7_init_4 : decode cX7_init 4 = .ok (.aload_n 0, 1) := by decide +kernel
theorem dX7_init_5 : decode cX7_init 5 = .ok (.sipush 210, 3) := by decide +kernel
theorem dX7_init_8 : decode cX7_init 8 = .ok (.newarray .int, 2) := by decide +kernel
theorem dX7_init_10 : decode cX7_init 10 = .ok (.putfield 7, 3) := by decide +kernel
theorem dX7_init_13 : decode cX7_init 13 = .ok (.aload_n 0, 1) := by decide +kernel
theorem dX7_init_14 : decode cX7_init 14 = .ok (.bipush 14, 2) := by decide +kernel
theorem dX7_init_16 : decode cX7_init 16 = .ok (.newarray .int, 2) := by decide +kernel
theorem dX7_init_18 : decode cX7_init 18 = .ok (.putfield 13, 3) := by decide +kernel
theorem dX7_init_21 : decode cX7_init 21 = .ok (.aload_n 0, 1) := by decide +kernel
theorem dX7_init_22 : decode cX7_init 22 = .ok (.bipush 14, 2) := by decide +kernel
theorem dX7_init_24 : decode cX7_init 24 = .ok (.newarray .int, 2) := by decide +kernel
theorem dX7_init_26 : decode cX7_init 26 = .ok (.putfield 16, 3) := by decide +kernel
theorem dX7_init_29 : decode cX7_init 29 = .ok (.aload_n 0, 1) := by decide +kernel
theorem dX7_init_30 : decode cX7_init 30 = .ok (.bipush 14, 2) := by decide +kernel
theorem dX7_init_32 : decode cX7_init 32 = .ok (.newarray .int, 2) := by decide +kernel
theorem dX7_init_34 : decode cX7_init 34 = .ok (.putfield 19, 3) := by decide +kernel
theorem dX7_init_37 : decode cX7_init 37 = .ok (.aload_n 0, 1) := by decide +kernel
theorem dX7_init_38 : decode cX7_init 38 = .ok (.bipush 14, 2) := by decide +kernel
theorem dX7_init_40 : decode cX7_init 40 = .ok (.newarray .int, 2) := by decide +kernel
theorem dX7_init_42 : decode cX7_init 42 = .ok (.putfield 22, 3) := by decide +kernel
theorem dX7_init_45 : decode cX7_init 45 = .ok (.aload_n 0, 1) := by decide +kernel
theorem dX7_init_46 : decode cX7_init 46 = .ok (.iconst 4, 1) := by decide +kernel
theorem dX7_init_47 : decode cX7_init 47 = .ok (.newarray .int, 2) := by decide +kernel
theorem dX7_init_49 : decode cX7_init 49 = .ok (.putfield 25, 3) := by decide +kernel
theorem dX7_init_52 : decode cX7_init 52 = .ok (.aload_n 0, 1) := by decide +kernel
theorem dX7_init_53 : decode cX7_init 53 = .ok (.bipush 8, 2) := by decide +kernel
theorem dX7_init_55 : decode cX7_init 55 = .ok (.newarray .int, 2) := by decide +kernel
theorem dX7_init_57 : decode cX7_init 57 = .ok (.putfield 28, 3) := by decide +kernel
theorem dX7_init_60 : decode cX7_init 60 = .ok (.aload_n 0, 1) := by decide +kernel
theorem dX7_init_61 : decode cX7_init 61 = .ok (.bipush 8, 2) := by decide +kernel
theorem dX7_init_63 : decode cX7_init 63 = .ok (.newarray .int, 2) := by decide +kernel
theorem dX7_init_65 : decode cX7_init 65 = .ok (.putfield 31, 3) := by decide +kernel
theorem dX7_init_68 : decode cX7_init 68 = .ok (.aload_n 0, 1) := by decide +kernel
theorem dX7_init_69 : decode cX7_init 69 = .ok (.bipush 8, 2) := by decide +kernel
theorem dX7_init_71 : decode cX7_init 71 = .ok (.newarray .int, 2) := by decide +kernel
theorem dX7_init_73 : decode cX7_init 73 = .ok (.putfield 34, 3) := by decide +kernel
theorem dX7_init_76 : decode cX7_init 76 = .ok (.aload_n 0, 1) := by decide +kernel
theorem dX7_init_77 : decode cX7_init 77 = .ok (.bipush 6, 2) := by decide +kernel
theorem dX7_init_79 : decode cX7_init 79 = .ok (.newarray .int, 2) := by decide +kernel
theorem dX7_init_81 : decode cX7_init 81 = .ok (.putfield 37, 3) := by decide +kernel
theorem dX7_init_84 : decode cX7_init 84 = .ok (.aload_n 0, 1) := by decide +kernel
theorem dX7_init_85 : decode cX7_init 85 = .ok (.bipush 6, 2) := by decide +kernel
theorem dX7_init_87 : decode cX7_init 87 = .ok (.newarray .int, 2) := by decide +kernel
theorem dX7_init_89 : decode cX7_init 89 = .ok (.putfield 40, 3) := by decide +kernel
theorem dX7_init_92 : decode cX7_init 92 = .ok (.aload_n 0, 1) := by decide +kernel
theorem dX7_init_93 : decode cX7_init 93 = .ok (.bipush 24, 2) := by decide +kernel
theorem dX7_init_95 : decode cX7_init 95 = .ok (.newarray .boolean, 2) := by decide +kernel
theorem dX7_init_97 : decode cX7_init 97 = .ok (.putfield 43, 3) := by decide +kernel
theorem dX7_init_100 : decode cX7_init 100 = .ok (.aload_n 0, 1) := by decide +kernel
theorem dX7_init_101 : decode cX7_init 101 = .ok (.bipush 24, 2) := by decide +kernel
theorem dX7_init_103 : decode cX7_init 103 = .ok (.newarray .int, 2) := by decide +kernel
theorem dX7_init_105 : decode cX7_init 105 = .ok (.putfield 47, 3) := by decide +kernel
theorem dX7_init_108 : decode cX7_init 108 = .ok (.aload_n 0, 1) := by decide +kernel
theorem dX7_init_109 : decode cX7_init 109 = .ok (.bipush 24, 2) := by decide +kernel
theorem dX7_init_111 : decode cX7_init 111 = .ok (.newarray .int, 2) := by decide +kernel
theorem dX7_init_113 : decode cX7_init 113 = .ok (.putfield 50, 3) := by decide +kernel
theorem dX7_init_116 : decode cX7_init 116 = .ok (.aload_n 0, 1) := by decide +kernel
theorem dX7_init_117 : decode cX7_init 117 = .ok (.bipush 24, 2) := by decide +kernel
theorem dX7_init_119 : decode cX7_init 119 = .ok (.newarray .int, 2) := by decide +kernel
theorem dX7_init_121 : decode cX7_init 121 = .ok (.putfield 53, 3) := by decide +kernel
theorem dX7_init_124 : decode cX7_init 124 = .ok (.aload_n 0, 1) := by decide +kernel
theorem dX7_init_125 : decode cX7_init 125 = .ok (.bipush 24, 2) := by decide +kernel
theorem dX7_init_127 : decode cX7_init 127 = .ok (.newarray .int, 2) := by decide +kernel
theorem dX7_init_129 : decode cX7_init 129 = .ok (.putfield 56, 3) := by decide +kernel
theorem dX7_init_132 : decode cX7_init 132 = .ok (.aload_n 0, 1) := by decide +kernel
theorem dX7_init_133 : decode cX7_init 133 = .ok (.bipush 6, 2) := by decide +kernel
theorem dX7_init_135 : decode cX7_init 135 = .ok (.newarray .int, 2) := by decide +kernel
theorem dX7_init_137 : decode cX7_init 137 = .ok (.putfield 59, 3) := by decide +kernel
theorem dX7_init_140 : decode cX7_init 140 = .ok (.aload_n 0, 1) := by decide +kernel
theorem dX7_init_141 : decode cX7_init 141 = .ok (.ldc 62, 2) := by decide +kernel
theorem dX7_init_143 : decode cX7_init 143 = .ok (.newarray .int, 2) := by decide +kernel
theorem dX7_init_145 : decode cX7_init 145 = .ok (.putfield 63, 3) := by decide +kernel
theorem dX7_init_148 : decode cX7_init 148 = .ok (.aload_n 0, 1) := by decide +kernel
theorem dX7_init_149 : decode cX7_init 149 = .ok (.sipush 288, 3) := by decide +kernel
theorem dX7_init_152 : decode cX7_init 152 = .ok (.newarray .int, 2) := by decide +kernel
theorem dX7_init_154 : decode cX7_init 154 = .ok (.putfield 66, 3) := by decide +kernel
theorem dX7_init_157 : decode cX7_init 157 = .ok (.aload_n 0, 1) := by decide +kernel
theorem dX7_init_158 : decode cX7_init 158 = .ok (.sipush 2880, 3) := by decide +kernel
theorem dX7_init_161 : decode cX7_init 161 = .ok (.newarray .int, 2) := by decide +kernel
theorem dX7_init_163 : decode cX7_init 163 = .ok (.putfield 69, 3) := by decide +kernel
theorem dX7_init_166 : decode cX7_init 166 = .ok (.aload_n 0, 1) := by decide +kernel
theorem dX7_init_167 : decode cX7_init 167 = .ok (.sipush 2880, 3) := by decide +kernel
theorem dX7_init_170 : decode cX7_init 170 = .ok (.newarray .int, 2) := by decide +kernel
theorem dX7_init_172 : decode cX7_init 172 = .ok (.putfield 72, 3) := by decide +kernel
theorem dX7_init_175 : decode cX7_init 175 = .ok (.aload_n 0, 1) := by decide +kernel
theorem dX7_init_176 : decode cX7_init 176 = .ok (.bipush 98, 2) := by decide +kernel
theorem dX7_init_178 : decode cX7_init 178 = .ok (.newarray .int, 2) := by decide +kernel
theorem dX7_init_180 : decode cX7_init 180 = .ok (.putfield 75, 3) := by decide +kernel
theorem dX7_init_183 : decode cX7_init 183 = .ok (.iconst 0, 1) := by decide +kernel
theorem dX7_init_184 : decode cX7_init 184 = .ok (.istore_n 1, 1) := by decide +kernel
theorem dX7_init_185 : decode cX7_init 185 = .ok (.iload_n 1, 1) := by decide +kernel
theorem dX7_init_186 : decode cX7_init 186 = .ok (.iconst 4, 1) := by decide +kernel
theorem dX7_init_187 : decode cX7_init 187 = .ok (.if_icmp .ge 16, 3) := by decide +kernel
theorem dX7_init_190 : decode cX7_init 190 = .ok (.aload_n 0, 1) := by decide +kernel
theorem dX7_init_191 : decode cX7_init 191 = .ok (.getfield 25, 3) := by decide +kernel
theorem dX7_init_194 : decode cX7_init 194 = .ok (.iload_n 1, 1) := by decide +kernel
theorem dX7_init_195 : decode cX7_init 195 = .ok (.iconst (-1), 1) := by decide +kernel
theorem dX7_init_196 : decode cX7_init 196 = .ok (.iastore, 1) := by decide +kernel
theorem dX7_init_197 : decode cX7_init 197 = .ok (.iinc 1 1, 3) := by decide +kernel
theorem dX7_init_200 : decode cX7_init 200 = .ok (.goto (-15), 3) := by decide +kernel
theorem dX7_init_203 : decode cX7_init 203 = .ok (.iconst 0, 1) := by decide +kernel
theorem dX7_init_204 : decode cX7_init 204 = .ok (.istore_n 1, 1) := by decide +kernel
theorem dX7_init_205 : decode cX7_init 205 = .ok (.iload_n 1, 1) := by decide +kernel
theorem dX7_init_206 : decode cX7_init 206 = .ok (.bipush 6, 2) := by decide +kernel
theorem dX7_init_208 : decode cX7_init 208 = .ok (.if_icmp .ge 17, 3) := by decide +kernel
theorem dX7_init_211 : decode cX7_init 211 = .ok (.aload_n 0, 1) := by decide +kernel
theorem dX7_init_212 : decode cX7_init 212 = .ok (.getfield 59, 3) := by decide +kernel
theorem dX7_init_215 : decode cX7_init 215 = .ok (.iload_n 1, 1) := by decide +kernel
theorem dX7_init_216 : decode cX7_init 216 = .ok (.bipush 7, 2) := by decide +kernel
theorem dX7_init_218 : decode cX7_init 218 = .ok (.iastore, 1) := by decide +kernel
theorem dX7_init_219 : decode cX7_init 219 = .ok (.iinc 1 1, 3) := by decide +kernel
theorem dX7_init_222 : decode cX7_init 222 = .ok (.goto (-17), 3) := by decide +kernel
theorem dX7_init_225 : decode cX7_init 225 = .ok (.return_, 1) := by decide +kernel
theorem dX7_thrown_0 : decode cX7_thrown 0 = .ok (.aload_n 0, 1) := by decide +kernel
theorem dX7_thrown_1 : decode cX7_thrown 1 = .ok (.getfield 78, 3) := by decide +kernel
theorem dX7_thrown_4 : decode cX7_thrown 4 = .ok (.ireturn, 1) := by decide +kernel
theorem dX7_isIn_0 : decode cX7_isIn 0 = .ok (.iload_n 0, 1) := by decide +kernel
theorem dX7_isIn_1 : decode cX7_isIn 1 = .ok (.iload_n 1, 1) := by decide +kernel
theorem dX7_isIn_2 : decode cX7_isIn 2 = .ok (.if_icmp .lt 12, 3) := by decide +kernel
theorem dX7_isIn_5 : decode cX7_isIn 5 = .ok (.iload_n 0, 1) := by decide +kernel
theorem dX7_isIn_6 : decode cX7_isIn 6 = .ok (.iload_n 2, 1) := by decide +kernel
theorem dX7_isIn_7 : decode cX7_isIn 7 = .ok (.if_icmp .gt 7, 3) := by decide +kernel
theorem dX7_isIn_10 : decode cX7_isIn 10 = .ok (.iconst 1, 1) := by decide +kernel
theorem dX7_isIn_11 : decode cX7_isIn 11 = .ok (.goto 4, 3) := by decide +kernel
theorem dX7_isIn_14 : decode cX7_isIn 14 = .ok (.iconst 0, 1) := by decide +kernel
theorem dX7_isIn_15 : decode cX7_isIn 15 = .ok (.ireturn, 1) := by decide +kernel
theorem dX7_size_0 : decode cX7_size 0 = .ok (.iload_n 0, 1) := by decide +kernel
theorem dX7_size_1 : decode cX7_size 1 = .ok (.ifCond .ge 8, 3) := by decide +kernel
theorem dX7_size_4 : decode cX7_size 4 = .ok (.iload_n 0, 1) := by decide +kernel
theorem dX7_size_5 : decode cX7_size 5 = .ok (.ineg, 1) := by decide +kernel
theorem dX7_size_6 : decode cX7_size 6 = .ok (.goto 4, 3) := by decide +kernel
theorem dX7_size_9 : decode cX7_size 9 = .ok (.iload_n 0, 1) := by decide +kernel
theorem dX7_size_10 : decode cX7_size 10 = .ok (.ireturn, 1) := by decide +kernel
theorem dX7_distance_0 : decode cX7_distance 0 = .ok (.iload_n 0, 1) := by decide +kernel
theorem dX7_distance_1 : decode cX7_distance 1 = .ok (.iconst 3, 1) := by decide +kernel
theorem dX7_distance_2 : decode cX7_distance 2 = .ok (.idiv, 1) := by decide +kernel
theorem dX7_distance_3 : decode cX7_distance 3 = .ok (.iload_n 1, 1) := by decide +kernel
theorem dX7_distance_4 : decode cX7_distance 4 = .ok (.iconst 3, 1) := by decide +kernel
theorem dX7_distance_5 : decode cX7_distance 5 = .ok (.idiv, 1) := by decide +kernel
theorem dX7_distance_6 : decode cX7_distance 6 = .ok (.isub, 1) := by decide +kernel
theorem dX7_distance_7 : decode cX7_distance 7 = .ok (.invokestatic 82, 3) := by decide +kernel
theorem dX7_distance_10 : decode cX7_distance 10 = .ok (.iload_n 0, 1) := by decide +kernel
theorem dX7_distance_11 : decode cX7_distance 11 = .ok (.iconst 3, 1) := by decide +kernel
theorem dX7_distance_12 : decode cX7_distance 12 = .ok (.irem, 1) := by decide +kernel
theorem dX7_distance_13 : decode cX7_distance 13 = .ok (.iload_n 1, 1) := by decide +kernel
theorem dX7_distance_14 : decode cX7_distance 14 = .ok (.iconst 3, 1) := by decide +kernel
theorem dX7_distance_15 : decode cX7_distance 15 = .ok (.irem, 1) := by decide +kernel
theorem dX7_distance_16 : decode cX7_distance 16 = .ok (.isub, 1) := by decide +kernel
theorem dX7_distance_17 : decode cX7_distance 17 = .ok (.invokestatic 82, 3) := by decide +kernel
theorem dX7_distance_20 : decode cX7_distance 20 = .ok (.iadd, 1) := by decide +kernel
theorem dX7_distance_21 : decode cX7_distance 21 = .ok (.ireturn, 1) := by decide +kernel
theorem dX7_placeOf_0 : decode cX7_placeOf 0 = .ok (.iload_n 0, 1) := by decide +kernel
theorem dX7_placeOf_1 : decode cX7_placeOf 1 = .ok (.ifCond .ne 7, 3) := by decide +kernel
theorem dX7_placeOf_4 : decode cX7_placeOf 4 = .ok (.iconst 3, 1) := by decide +kernel
theorem dX7_placeOf_5 : decode cX7_placeOf 5 = .ok (.goto 22, 3) := by decide +kernel
theorem dX7_placeOf_8 : decode cX7_placeOf 8 = .ok (.iload_n 0, 1) := by decide +kernel
theorem dX7_placeOf_9 : decode cX7_placeOf 9 = .ok (.iconst 1, 1) := by decide +kernel
theorem dX7_placeOf_10 : decode cX7_placeOf 10 = .ok (.if_icmp .ne 7, 3) := by decide +kernel
theorem dX7_placeOf_13 : decode cX7_placeOf 13 = .ok (.iconst 5, 1) := by decide +kernel
theorem dX7_placeOf_14 : decode cX7_placeOf 14 = .ok (.goto 13, 3) := by decide +kernel
theorem dX7_placeOf_17 : decode cX7_placeOf 17 = .ok (.iload_n 0, 1) := by decide +kernel
theorem dX7_placeOf_18 : decode cX7_placeOf 18 = .ok (.iconst 2, 1) := by decide +kernel
theorem dX7_placeOf_19 : decode cX7_placeOf 19 = .ok (.if_icmp .ne 7, 3) := by decide +kernel
theorem dX7_placeOf_22 : decode cX7_placeOf 22 = .ok (.iconst 0, 1) := by decide +kernel
theorem dX7_placeOf_23 : decode cX7_placeOf 23 = .ok (.goto 4, 3) := by decide +kernel
theorem dX7_placeOf_26 : decode cX7_placeOf 26 = .ok (.iconst 2, 1) := by decide +kernel
theorem dX7_placeOf_27 : decode cX7_placeOf 27 = .ok (.ireturn, 1) := by decide +kernel
theorem dX7_isSign_0 : decode cX7_isSign 0 = .ok (.iload_n 1, 1) := by decide +kernel
theorem dX7_isSign_1 : decode cX7_isSign 1 = .ok (.iconst 0, 1) := by decide +kernel
theorem dX7_isSign_2 : decode cX7_isSign 2 = .ok (.aload_n 0, 1) := by decide +kernel
theorem dX7_isSign_3 : decode cX7_isSign 3 = .ok (.getfield 86, 3) := by decide +kernel
theorem dX7_isSign_6 : decode cX7_isSign 6 = .ok (.iconst 1, 1) := by decide +kernel
theorem dX7_isSign_7 : decode cX7_isSign 7 = .ok (.isub, 1) := by decide +kernel
theorem dX7_isSign_8 : decode cX7_isSign 8 = .ok (.invokestatic 89, 3) := by decide +kernel
theorem dX7_isSign_11 : decode cX7_isSign 11 = .ok (.ireturn, 1) := by decide +kernel
theorem dX7_isItem_0 : decode cX7_isItem 0 = .ok (.iload_n 1, 1) := by decide +kernel
theorem dX7_isItem_1 : decode cX7_isItem 1 = .ok (.iconst 0, 1) := by decide +kernel
theorem dX7_isItem_2 : decode cX7_isItem 2 = .ok (.aload_n 0, 1) := by decide +kernel
theorem dX7_isItem_3 : decode cX7_isItem 3 = .ok (.getfield 93, 3) := by decide +kernel
theorem dX7_isItem_6 : decode cX7_isItem 6 = .ok (.iconst 1, 1) := by decide +kernel
theorem dX7_isItem_7 : decode cX7_isItem 7 = .ok (.isub, 1) := by decide +kernel
theorem dX7_isItem_8 : decode cX7_isItem 8 = .ok (.invokestatic 89, 3) := by decide +kernel
theorem dX7_isItem_11 : decode cX7_isItem 11 = .ok (.ireturn, 1) := by decide +kernel
theorem dX7_isLocus_0 : decode cX7_isLocus 0 = .ok (.iload_n 0, 1) := by decide +kernel
theorem dX7_isLocus_1 : decode cX7_isLocus 1 = .ok (.iconst 0, 1) := by decide +kernel
theorem dX7_isLocus_2 : decode cX7_isLocus 2 = .ok (.iconst 3, 1) := by decide +kernel
theorem dX7_isLocus_3 : decode cX7_isLocus 3 = .ok (.invokestatic 89, 3) := by decide +kernel
theorem dX7_isLocus_6 : decode cX7_isLocus 6 = .ok (.ireturn, 1) := by decide +kernel
theorem dX7_areAlike_0 : decode cX7_areAlike 0 = .ok (.aload_n 0, 1) := by decide +kernel
theorem dX7_areAlike_1 : decode cX7_areAlike 1 = .ok (.getfield 7, 3) := by decide +kernel
theorem dX7_areAlike_4 : decode cX7_areAlike 4 = .ok (.bipush 7, 2) := by decide +kernel
theorem dX7_areAlike_6 : decode cX7_areAlike 6 = .ok (.iload_n 1, 1) := by decide +kernel
theorem dX7_areAlike_7 : decode cX7_areAlike 7 = .ok (.imul, 1) := by decide +kernel
theorem dX7_areAlike_8 : decode cX7_areAlike 8 = .ok (.iconst 5, 1) := by decide +kernel
theorem dX7_areAlike_9 : decode cX7_areAlike 9 = .ok (.iadd, 1) := by decide +kernel
theorem dX7_areAlike_10 : decode cX7_areAlike 10 = .ok (.iaload, 1) := by decide +kernel
theorem dX7_areAlike_11 : decode cX7_areAlike 11 = .ok (.iconst 2, 1) := by decide +kernel
theorem dX7_areAlike_12 : decode cX7_areAlike 12 = .ok (.if_icmp .ne 30, 3) := by decide +kernel
theorem dX7_areAlike_15 : decode cX7_areAlike 15 = .ok (.aload_n 0, 1) := by decide +kernel
theorem dX7_areAlike_16 : decode cX7_areAlike 16 = .ok (.getfield 7, 3) := by decide +kernel
theorem dX7_areAlike_19 : decode cX7_areAlike 19 = .ok (.bipush 7, 2) := by decide +kernel
theorem dX7_areAlike_21 : decode cX7_areAlike 21 = .ok (.iload_n 1, 1) := by decide +kernel
theorem dX7_areAlike_22 : decode cX7_areAlike 22 = .ok (.imul, 1) := by decide +kernel
theorem dX7_areAlike_23 : decode cX7_areAlike 23 = .ok (.bipush 6, 2) := by decide +kernel
theorem dX7_areAlike_25 : decode cX7_areAlike 25 = .ok (.iadd, 1) := by decide +kernel
theorem dX7_areAlike_26 : decode cX7_areAlike 26 = .ok (.iaload, 1) := by decide +kernel
theorem dX7_areAlike_27 : decode cX7_areAlike 27 = .ok (.aload_n 0, 1) := by decide +kernel
theorem dX7_areAlike_28 : decode cX7_areAlike 28 = .ok (.getfield 7, 3) := by decide +kernel
theorem dX7_areAlike_31 : decode cX7_areAlike 31 = .ok (.bipush 7, 2) := by decide +kernel
theorem dX7_areAlike_33 : decode cX7_areAlike 33 = .ok (.iload_n 2, 1) := by decide +kernel
theorem dX7_areAlike_34 : decode cX7_areAlike 34 = .ok (.imul, 1) := by decide +kernel
theorem dX7_areAlike_35 : decode cX7_areAlike 35 = .ok (.bipush 6, 2) := by decide +kernel
theorem dX7_areAlike_37 : decode cX7_areAlike 37 = .ok (.iadd, 1) := by decide +kernel
theorem dX7_areAlike_38 : decode cX7_areAlike 38 = .ok (.iaload, 1) := by decide +kernel
theorem dX7_areAlike_39 : decode cX7_areAlike 39 = .ok (.if_icmp .ne 7, 3) := by decide +kernel
theorem dX7_areAlike_42 : decode cX7_areAlike 42 = .ok (.iconst 1, 1) := by decide +kernel
theorem dX7_areAlike_43 : decode cX7_areAlike 43 = .ok (.goto 4, 3) := by decide +kernel
theorem dX7_areAlike_46 : decode cX7_areAlike 46 = .ok (.iconst 0, 1) := by decide +kernel
theorem dX7_areAlike_47 : decode cX7_areAlike 47 = .ok (.istore_n 3, 1) := by decide +kernel
theorem dX7_areAlike_48 : decode cX7_areAlike 48 = .ok (.iconst 0, 1) := by decide +kernel
theorem dX7_areAlike_49 : decode cX7_areAlike 49 = .ok (.istore 4, 2) := by decide +kernel
theorem dX7_areAlike_51 : decode cX7_areAlike 51 = .ok (.iload 4, 2) := by decide +kernel
theorem dX7_areAlike_53 : decode cX7_areAlike 53 = .ok (.iconst 5, 1) := by decide +kernel
theorem dX7_areAlike_54 : decode cX7_areAlike 54 = .ok (.if_icmp .gt 44, 3) := by decide +kernel
theorem dX7_areAlike_57 : decode cX7_areAlike 57 = .ok (.iload_n 3, 1) := by decide +kernel
theorem dX7_areAlike_58 : decode cX7_areAlike 58 = .ok (.aload_n 0, 1) := by decide +kernel
theorem dX7_areAlike_59 : decode cX7_areAlike 59 = .ok (.getfield 7, 3) := by decide +kernel
theorem dX7_areAlike_62 : decode cX7_areAlike 62 = .ok (.bipush 7, 2) := by decide +kernel
theorem dX7_areAlike_64 : decode cX7_areAlike 64 = .ok (.iload_n 1, 1) := by decide +kernel
theorem dX7_areAlike_65 : decode cX7_areAlike 65 = .ok (.imul, 1) := by decide +kernel
theorem dX7_areAlike_66 : decode cX7_areAlike 66 = .ok (.iload 4, 2) := by decide +kernel
theorem dX7_areAlike_68 : decode cX7_areAlike 68 = .ok (.iadd, 1) := by decide +kernel
theorem dX7_areAlike_69 : decode cX7_areAlike 69 = .ok (.iaload, 1) := by decide +kernel
theorem dX7_areAlike_70 : decode cX7_areAlike 70 = .ok (.aload_n 0, 1) := by decide +kernel
theorem dX7_areAlike_71 : decode cX7_areAlike 71 = .ok (.getfield 7, 3) := by decide +kernel
theorem dX7_areAlike_74 : decode cX7_areAlike 74 = .ok (.bipush 7, 2) := by decide +kernel
theorem dX7_areAlike_76 : decode cX7_areAlike 76 = .ok (.iload_n 2, 1) := by decide +kernel
theorem dX7_areAlike_77 : decode cX7_areAlike 77 = .ok (.imul, 1) := by decide +kernel
theorem dX7_areAlike_78 : decode cX7_areAlike 78 = .ok (.iload 4, 2) := by decide +kernel
theorem dX7_areAlike_80 : decode cX7_areAlike 80 = .ok (.iadd, 1) := by decide +kernel
theorem dX7_areAlike_81 : decode cX7_areAlike 81 = .ok (.iaload, 1) := by decide +kernel
theorem dX7_areAlike_82 : decode cX7_areAlike 82 = .ok (.if_icmp .ne 7, 3) := by decide +kernel
theorem dX7_areAlike_85 : decode cX7_areAlike 85 = .ok (.iconst 1, 1) := by decide +kernel
theorem dX7_areAlike_86 : decode cX7_areAlike 86 = .ok (.goto 4, 3) := by decide +kernel
theorem dX7_areAlike_89 : decode cX7_areAlike 89 = .ok (.iconst 0, 1) := by decide +kernel
theorem dX7_areAlike_90 : decode cX7_areAlike 90 = .ok (.iand, 1) := by decide +kernel
theorem dX7_areAlike_91 : decode cX7_areAlike 91 = .ok (.istore_n 3, 1) := by decide +kernel
theorem dX7_areAlike_92 : decode cX7_areAlike 92 = .ok (.iinc 4 1, 3) := by decide +kernel
theorem dX7_areAlike_95 : decode cX7_areAlike 95 = .ok (.goto (-44), 3) := by decide +kernel
theorem dX7_areAlike_98 : decode cX7_areAlike 98 = .ok (.iload_n 3, 1) := by decide +kernel
theorem dX7_areAlike_99 : decode cX7_areAlike 99 = .ok (.ireturn, 1) := by decide +kernel
theorem dX7_sign_0 : decode cX7_sign 0 = .ok (.iload_n 1, 1) := by decide +kernel
theorem dX7_sign_1 : decode cX7_sign 1 = .ok (.iconst 0, 1) := by decide +kernel
theorem dX7_sign_2 : decode cX7_sign 2 = .ok (.bipush 7, 2) := by decide +kernel
theorem dX7_sign_4 : decode cX7_sign 4 = .ok (.invokestatic 89, 3) := by decide +kernel
theorem dX7_sign_7 : decode cX7_sign 7 = .ok (.ifCond .eq 57, 3) := by decide +kernel
theorem dX7_sign_10 : decode cX7_sign 10 = .ok (.iload_n 2, 1) := by decide +kernel
theorem dX7_sign_11 : decode cX7_sign 11 = .ok (.iconst 0, 1) := by decide +kernel
theorem dX7_sign_12 : decode cX7_sign 12 = .ok (.bipush 8, 2) := by decide +kernel
theorem dX7_sign_14 : decode cX7_sign 14 = .ok (.invokestatic 89, 3) := by decide +kernel
theorem dX7_sign_17 : decode cX7_sign 17 = .ok (.ifCond .eq 47, 3) := by decide +kernel
theorem dX7_sign_20 : decode cX7_sign 20 = .ok (.iload_n 3, 1) := by decide +kernel
theorem dX7_sign_21 : decode cX7_sign 21 = .ok (.iconst 0, 1) := by decide +kernel
theorem dX7_sign_22 : decode cX7_sign 22 = .ok (.bipush 8, 2) := by decide +kernel
theorem dX7_sign_24 : decode cX7_sign 24 = .ok (.invokestatic 89, 3) := by decide +kernel
theorem dX7_sign_27 : decode cX7_sign 27 = .ok (.ifCond .eq 37, 3) := by decide +kernel
theorem dX7_sign_30 : decode cX7_sign 30 = .ok (.iload 4, 2) := by decide +kernel
theorem dX7_sign_32 : decode cX7_sign 32 = .ok (.iconst 0, 1) := by decide +kernel
theorem dX7_sign_33 : decode cX7_sign 33 = .ok (.iconst 3, 1) := by decide +kernel
theorem dX7_sign_34 : decode cX7_sign 34 = .ok (.invokestatic 89, 3) := by decide +kernel
theorem dX7_sign_37 : decode cX7_sign 37 = .ok (.ifCond .eq 27, 3) := by decide +kernel
theorem dX7_sign_40 : decode cX7_sign 40 = .ok (.iload 5, 2) := by decide +kernel
theorem dX7_sign_42 : decode cX7_sign 42 = .ok (.iconst 0, 1) := by decide +kernel
theorem dX7_sign_43 : decode cX7_sign 43 = .ok (.iconst 3, 1) := by decide +kernel
theorem dX7_sign_44 : decode cX7_sign 44 = .ok (.invokestatic 89, 3) := by decide +kernel
theorem dX7_sign_47 : decode cX7_sign 47 = .ok (.ifCond .eq 17, 3) := by decide +kernel
theorem dX7_sign_50 : decode cX7_sign 50 = .ok (.iload 6, 2) := by decide +kernel
theorem dX7_sign_52 : decode cX7_sign 52 = .ok (.iconst 0, 1) := by decide +kernel
theorem dX7_sign_53 : decode cX7_sign 53 = .ok (.iconst 2, 1) := by decide +kernel
theorem dX7_sign_54 : decode cX7_sign 54 = .ok (.invokestatic 89, 3) := by decide +kernel
theorem dX7_sign_57 : decode cX7_sign 57 = .ok (.ifCond .eq 7, 3) := by decide +kernel
theorem dX7_sign_60 : decode cX7_sign 60 = .ok (.iconst 1, 1) := by decide +kernel
theorem dX7_sign_61 : decode cX7_sign 61 = .ok (.goto 4, 3) := by decide +kernel
theorem dX7_sign_64 : decode cX7_sign 64 = .ok (.iconst 0, 1) := by decide +kernel
theorem dX7_sign_65 : decode cX7_sign 65 = .ok (.istore 8, 2) := by decide +kernel
theorem dX7_sign_67 : decode cX7_sign 67 = .ok (.iload 8, 2) := by decide +kernel
theorem dX7_sign_69 : decode cX7_sign 69 = .ok (.iload 6, 2) := by decide +kernel
theorem dX7_sign_71 : decode cX7_sign 71 = .ok (.iconst 2, 1) := by decide +kernel
theorem dX7_sign_72 : decode cX7_sign 72 = .ok (.if_icmp .ne 19, 3) := by decide +kernel
theorem dX7_sign_75 : decode cX7_sign 75 = .ok (.iload 7, 2) := by decide +kernel
theorem dX7_sign_77 : decode cX7_sign 77 = .ok (.iconst 0, 1) := by decide +kernel
theorem dX7_sign_78 : decode cX7_sign 78 = .ok (.iconst 3, 1) := by decide +kernel
theorem dX7_sign_79 : decode cX7_sign 79 = .ok (.invokestatic 89, 3) := by decide +kernel
theorem dX7_sign_82 : decode cX7_sign 82 = .ok (.ifCond .ne 9, 3) := by decide +kernel
theorem dX7_sign_85 : decode cX7_sign 85 = .ok (.iload 7, 2) := by decide +kernel
theorem dX7_sign_87 : decode cX7_sign 87 = .ok (.iload_n 1, 1) := by decide +kernel
theorem dX7_sign_88 : decode cX7_sign 88 = .ok (.if_icmp .ne 7, 3) := by decide +kernel
theorem dX7_sign_91 : decode cX7_sign 91 = .ok (.iconst 1, 1) := by decide +kernel
theorem dX7_sign_92 : decode cX7_sign 92 = .ok (.goto 4, 3) := by decide +kernel
theorem dX7_sign_95 : decode cX7_sign 95 = .ok (.iconst 0, 1) := by decide +kernel
theorem dX7_sign_96 : decode cX7_sign 96 = .ok (.iand, 1) := by decide +kernel
theorem dX7_sign_97 : decode cX7_sign 97 = .ok (.istore 8, 2) := by decide +kernel
theorem dX7_sign_99 : decode cX7_sign 99 = .ok (.aload_n 0, 1) := by decide +kernel
theorem dX7_sign_100 : decode cX7_sign 100 = .ok (.iload 8, 2) := by decide +kernel
theorem dX7_sign_102 : decode cX7_sign 102 = .ok (.ifCond .ne 7, 3) := by decide +kernel
theorem dX7_sign_105 : decode cX7_sign 105 = .ok (.iconst 1, 1) := by decide +kernel
theorem dX7_sign_106 : decode cX7_sign 106 = .ok (.goto 17, 3) := by decide +kernel
theorem dX7_sign_109 : decode cX7_sign 109 = .ok (.aload_n 0, 1) := by decide +kernel
theorem dX7_sign_110 : decode cX7_sign 110 = .ok (.getfield 86, 3) := by decide +kernel
theorem dX7_sign_113 : decode cX7_sign 113 = .ok (.bipush 30, 2) := by decide +kernel
theorem dX7_sign_115 : decode cX7_sign 115 = .ok (.if_icmp .ne 7, 3) := by decide +kernel
theorem dX7_sign_118 : decode cX7_sign 118 = .ok (.iconst 2, 1) := by decide +kernel
theorem dX7_sign_119 : decode cX7_sign 119 = .ok (.goto 4, 3) := by decide +kernel
theorem dX7_sign_122 : decode cX7_sign 122 = .ok (.iconst 0, 1) := by decide +kernel
theorem dX7_sign_123 : decode cX7_sign 123 = .ok (.putfield 78, 3) := by decide +kernel
theorem dX7_sign_126 : decode cX7_sign 126 = .ok (.aload_n 0, 1) := by decide +kernel
theorem dX7_sign_127 : decode cX7_sign 127 = .ok (.getfield 78, 3) := by decide +kernel
theorem dX7_sign_130 : decode cX7_sign 130 = .ok (.ifCond .le 5, 3) := by decide +kernel
theorem dX7_sign_133 : decode cX7_sign 133 = .ok (.iconst 0, 1) := by decide +kernel
theorem dX7_sign_134 : decode cX7_sign 134 = .ok (.ireturn, 1) := by decide +kernel
theorem dX7_sign_135 : decode cX7_sign 135 = .ok (.bipush 7, 2) := by decide +kernel
theorem dX7_sign_137 : decode cX7_sign 137 = .ok (.aload_n 0, 1) := by decide +kernel
theorem dX7_sign_138 : decode cX7_sign 138 = .ok (.getfield 86, 3) := by decide +kernel
theorem dX7_sign_141 : decode cX7_sign 141 = .ok (.imul, 1) := by decide +kernel
theorem dX7_sign_142 : decode cX7_sign 142 = .ok (.istore 9, 2) := by decide +kernel
theorem dX7_sign_144 : decode cX7_sign 144 = .ok (.aload_n 0, 1) := by decide +kernel
theorem dX7_sign_145 : decode cX7_sign 145 = .ok (.getfield 7, 3) := by decide +kernel
theorem dX7_sign_148 : decode cX7_sign 148 = .ok (.iload 9, 2) := by decide +kernel
theorem dX7_sign_150 : decode cX7_sign 150 = .ok (.iconst 0, 1) := by decide +kernel
theorem dX7_sign_151 : decode cX7_sign 151 = .ok (.iadd, 1) := by decide +kernel
theorem dX7_sign_152 : decode cX7_sign 152 = .ok (.iload_n 1, 1) := by decide +kernel
theorem dX7_sign_153 : decode cX7_sign 153 = .ok (.iastore, 1) := by decide +kernel
theorem dX7_sign_154 : decode cX7_sign 154 = .ok (.aload_n 0, 1) := by decide +kernel
theorem dX7_sign_155 : decode cX7_sign 155 = .ok (.getfield 7, 3) := by decide +kernel
theorem dX7_sign_158 : decode cX7_sign 158 = .ok (.iload 9, 2) := by decide +kernel
theorem dX7_sign_160 : decode cX7_sign 160 = .ok (.iconst 1, 1) := by decide +kernel
theorem dX7_sign_161 : decode cX7_sign 161 = .ok (.iadd, 1) := by decide +kernel
theorem dX7_sign_162 : decode cX7_sign 162 = .ok (.iload_n 2, 1) := by decide +kernel
theorem dX7_sign_163 : decode cX7_sign 163 = .ok (.iastore, 1) := by decide +kernel
theorem dX7_sign_164 : decode cX7_sign 164 = .ok (.aload_n 0, 1) := by decide +kernel
theorem dX7_sign_165 : decode cX7_sign 165 = .ok (.getfield 7, 3) := by decide +kernel
theorem dX7_sign_168 : decode cX7_sign 168 = .ok (.iload 9, 2) := by decide +kernel
theorem dX7_sign_170 : decode cX7_sign 170 = .ok (.iconst 2, 1) := by decide +kernel
theorem dX7_sign_171 : decode cX7_sign 171 = .ok (.iadd, 1) := by decide +kernel
theorem dX7_sign_172 : decode cX7_sign 172 = .ok (.iload_n 3, 1) := by decide +kernel
theorem dX7_sign_173 : decode cX7_sign 173 = .ok (.iastore, 1) := by decide +kernel
theorem dX7_sign_174 : decode cX7_sign 174 = .ok (.aload_n 0, 1) := by decide +kernel
theorem dX7_sign_175 : decode cX7_sign 175 = .ok (.getfield 7, 3) := by decide +kernel
theorem dX7_sign_178 : decode cX7_sign 178 = .ok (.iload 9, 2) := by decide +kernel
theorem dX7_sign_180 : decode cX7_sign 180 = .ok (.iconst 3, 1) := by decide +kernel
theorem dX7_sign_181 : decode cX7_sign 181 = .ok (.iadd, 1) := by decide +kernel
theorem dX7_sign_182 : decode cX7_sign 182 = .ok (.iload 4, 2) := by decide +kernel
theorem dX7_sign_184 : decode cX7_sign 184 = .ok (.iastore, 1) := by decide +kernel
theorem dX7_sign_185 : decode cX7_sign 185 = .ok (.aload_n 0, 1) := by decide +kernel
theorem dX7_sign_186 : decode cX7_sign 186 = .ok (.getfield 7, 3) := by decide +kernel
theorem dX7_sign_189 : decode cX7_sign 189 = .ok (.iload 9, 2) := by decide +kernel
theorem dX7_sign_191 : decode cX7_sign 191 = .ok (.iconst 4, 1) := by decide +kernel
theorem dX7_sign_192 : decode cX7_sign 192 = .ok (.iadd, 1) := by decide +kernel
theorem dX7_sign_193 : decode cX7_sign 193 = .ok (.iload 5, 2) := by decide +kernel
theorem dX7_sign_195 : decode cX7_sign 195 = .ok (.iastore, 1) := by decide +kernel
theorem dX7_sign_196 : decode cX7_sign 196 = .ok (.aload_n 0, 1) := by decide +kernel
theorem dX7_sign_197 : decode cX7_sign 197 = .ok (.getfield 7, 3) := by decide +kernel
theorem dX7_sign_200 : decode cX7_sign 200 = .ok (.iload 9, 2) := by decide +kernel
theorem dX7_sign_202 : decode cX7_sign 202 = .ok (.iconst 5, 1) := by decide +kernel
theorem dX7_sign_203 : decode cX7_sign 203 = .ok (.iadd, 1) := by decide +kernel
theorem dX7_sign_204 : decode cX7_sign 204 = .ok (.iload 6, 2) := by decide +kernel
theorem dX7_sign_206 : decode cX7_sign 206 = .ok (.iastore, 1) := by decide +kernel
theorem dX7_sign_207 : decode cX7_sign 207 = .ok (.aload_n 0, 1) := by decide +kernel
theorem dX7_sign_208 : decode cX7_sign 208 = .ok (.getfield 7, 3) := by decide +kernel
theorem dX7_sign_211 : decode cX7_sign 211 = .ok (.iload 9, 2) := by decide +kernel
theorem dX7_sign_213 : decode cX7_sign 213 = .ok (.bipush 6, 2) := by decide +kernel
theorem dX7_sign_215 : decode cX7_sign 215 = .ok (.iadd, 1) := by decide +kernel
theorem dX7_sign_216 : decode cX7_sign 216 = .ok (.iload 6, 2) := by decide +kernel
theorem dX7_sign_218 : decode cX7_sign 218 = .ok (.iconst 2, 1) := by decide +kernel
theorem dX7_sign_219 : decode cX7_sign 219 = .ok (.if_icmp .ne 8, 3) := by decide +kernel
theorem dX7_sign_222 : decode cX7_sign 222 = .ok (.iload 7, 2) := by decide +kernel
theorem dX7_sign_224 : decode cX7_sign 224 = .ok (.goto 4, 3) := by decide +kernel
theorem dX7_sign_227 : decode cX7_sign 227 = .ok (.iconst (-1), 1) := by decide +kernel
theorem dX7_sign_228 : decode cX7_sign 228 = .ok (.iastore, 1) := by decide +kernel
theorem dX7_sign_229 : decode cX7_sign 229 = .ok (.iconst 0, 1) := by decide +kernel
theorem dX7_sign_230 : decode cX7_sign 230 = .ok (.istore 10, 2) := by decide +kernel
theorem dX7_sign_232 : decode cX7_sign 232 = .ok (.iload 10, 2) := by decide +kernel
theorem dX7_sign_234 : decode cX7_sign 234 = .ok (.aload_n 0, 1) := by decide +kernel
theorem dX7_sign_235 : decode cX7_sign 235 = .ok (.getfield 86, 3) := by decide +kernel
theorem dX7_sign_238 : decode cX7_sign 238 = .ok (.if_icmp .ge 34, 3) := by decide +kernel
theorem dX7_sign_241 : decode cX7_sign 241 = .ok (.aload_n 0, 1) := by decide +kernel
theorem dX7_sign_242 : decode cX7_sign 242 = .ok (.aload_n 0, 1) := by decide +kernel
theorem dX7_sign_243 : decode cX7_sign 243 = .ok (.iload 10, 2) := by decide +kernel
theorem dX7_sign_245 : decode cX7_sign 245 = .ok (.aload_n 0, 1) := by decide +kernel
theorem dX7_sign_246 : decode cX7_sign 246 = .ok (.getfield 86, 3) := by decide +kernel
theorem dX7_sign_249 : decode cX7_sign 249 = .ok (.invokevirtual 96, 3) := by decide +kernel
theorem dX7_sign_252 : decode cX7_sign 252 = .ok (.ifCond .eq 7, 3) := by decide +kernel
theorem dX7_sign_255 : decode cX7_sign 255 = .ok (.iconst 2, 1) := by decide +kernel
theorem dX7_sign_256 : decode cX7_sign 256 = .ok (.goto 7, 3) := by decide +kernel
theorem dX7_sign_259 : decode cX7_sign 259 = .ok (.aload_n 0, 1) := by decide +kernel
theorem dX7_sign_260 : decode cX7_sign 260 = .ok (.getfield 78, 3) := by decide +kernel
theorem dX7_sign_263 : decode cX7_sign 263 = .ok (.putfield 78, 3) := by decide +kernel
theorem dX7_sign_266 : decode cX7_sign 266 = .ok (.iinc 10 1, 3) := by decide +kernel
theorem dX7_sign_269 : decode cX7_sign 269 = .ok (.goto (-37), 3) := by decide +kernel
theorem dX7_sign_272 : decode cX7_sign 272 = .ok (.aload_n 0, 1) := by decide +kernel
theorem dX7_sign_273 : decode cX7_sign 273 = .ok (.getfield 78, 3) := by decide +kernel
theorem dX7_sign_276 : decode cX7_sign 276 = .ok (.ifCond .le 5, 3) := by decide +kernel
theorem dX7_sign_279 : decode cX7_sign 279 = .ok (.iconst 0, 1) := by decide +kernel
theorem dX7_sign_280 : decode cX7_sign 280 = .ok (.ireturn, 1) := by decide +kernel
theorem dX7_sign_281 : decode cX7_sign 281 = .ok (.aload_n 0, 1) := by decide +kernel
theorem dX7_sign_282 : decode cX7_sign 282 = .ok (.dup, 1) := by decide +kernel
theorem dX7_sign_283 : decode cX7_sign 283 = .ok (.getfield 86, 3) := by decide +kernel
theorem dX7_sign_286 : decode cX7_sign 286 = .ok (.iconst 1, 1) := by decide +kernel
theorem dX7_sign_287 : decode cX7_sign 287 = .ok (.iadd, 1) := by decide +kernel
theorem dX7_sign_288 : decode cX7_sign 288 = .ok (.putfield 86, 3) := by decide +kernel
theorem dX7_sign_291 : decode cX7_sign 291 = .ok (.aload_n 0, 1) := by decide +kernel
theorem dX7_sign_292 : decode cX7_sign 292 = .ok (.getfield 86, 3) := by decide +kernel
theorem dX7_sign_295 : decode cX7_sign 295 = .ok (.iconst 1, 1) := by decide +kernel
theorem dX7_sign_296 : decode cX7_sign 296 = .ok (.isub, 1) := by decide +kernel
theorem dX7_sign_297 : decode cX7_sign 297 = .ok (.ireturn, 1) := by decide +kernel
theorem dX7_unlike_0 : decode cX7_unlike 0 = .ok (.iconst 0, 1) := by decide +kernel
theorem dX7_unlike_1 : decode cX7_unlike 1 = .ok (.istore_n 3, 1) := by decide +kernel
theorem dX7_unlike_2 : decode cX7_unlike 2 = .ok (.iconst 0, 1) := by decide +kernel
theorem dX7_unlike_3 : decode cX7_unlike 3 = .ok (.istore 4, 2) := by decide +kernel
theorem dX7_unlike_5 : decode cX7_unlike 5 = .ok (.iload 4, 2) := by decide +kernel
theorem dX7_unlike_7 : decode cX7_unlike 7 = .ok (.iconst 5, 1) := by decide +kernel
theorem dX7_unlike_8 : decode cX7_unlike 8 = .ok (.if_icmp .gt 44, 3) := by decide +kernel
theorem dX7_unlike_11 : decode cX7_unlike 11 = .ok (.iload_n 3, 1) := by decide +kernel
theorem dX7_unlike_12 : decode cX7_unlike 12 = .ok (.aload_n 0, 1) := by decide +kernel
theorem dX7_unlike_13 : decode cX7_unlike 13 = .ok (.getfield 7, 3) := by decide +kernel
theorem dX7_unlike_16 : decode cX7_unlike 16 = .ok (.bipush 7, 2) := by decide +kernel
theorem dX7_unlike_18 : decode cX7_unlike 18 = .ok (.iload_n 1, 1) := by decide +kernel
theorem dX7_unlike_19 : decode cX7_unlike 19 = .ok (.imul, 1) := by decide +kernel
theorem dX7_unlike_20 : decode cX7_unlike 20 = .ok (.iload 4, 2) := by decide +kernel
theorem dX7_unlike_22 : decode cX7_unlike 22 = .ok (.iadd, 1) := by decide +kernel
theorem dX7_unlike_23 : decode cX7_unlike 23 = .ok (.iaload, 1) := by decide +kernel
theorem dX7_unlike_24 : decode cX7_unlike 24 = .ok (.aload_n 0, 1) := by decide +kernel
theorem dX7_unlike_25 : decode cX7_unlike 25 = .ok (.getfield 7, 3) := by decide +kernel
theorem dX7_unlike_28 : decode cX7_unlike 28 = .ok (.bipush 7, 2) := by decide +kernel
theorem dX7_unlike_30 : decode cX7_unlike 30 = .ok (.iload_n 2, 1) := by decide +kernel
theorem dX7_unlike_31 : decode cX7_unlike 31 = .ok (.imul, 1) := by decide +kernel
theorem dX7_unlike_32 : decode cX7_unlike 32 = .ok (.iload 4, 2) := by decide +kernel
theorem dX7_unlike_34 : decode cX7_unlike 34 = .ok (.iadd, 1) := by decide +kernel
theorem dX7_unlike_35 : decode cX7_unlike 35 = .ok (.iaload, 1) := by decide +kernel
theorem dX7_unlike_36 : decode cX7_unlike 36 = .ok (.if_icmp .eq 7, 3) := by decide +kernel
theorem dX7_unlike_39 : decode cX7_unlike 39 = .ok (.iconst 1, 1) := by decide +kernel
theorem dX7_unlike_40 : decode cX7_unlike 40 = .ok (.goto 4, 3) := by decide +kernel
theorem dX7_unlike_43 : decode cX7_unlike 43 = .ok (.iconst 0, 1) := by decide +kernel
theorem dX7_unlike_44 : decode cX7_unlike 44 = .ok (.iadd, 1) := by decide +kernel
theorem dX7_unlike_45 : decode cX7_unlike 45 = .ok (.istore_n 3, 1) := by decide +kernel
theorem dX7_unlike_46 : decode cX7_unlike 46 = .ok (.iinc 4 1, 3) := by decide +kernel
theorem dX7_unlike_49 : decode cX7_unlike 49 = .ok (.goto (-44), 3) := by decide +kernel
theorem dX7_unlike_52 : decode cX7_unlike 52 = .ok (.iload_n 3, 1) := by decide +kernel
theorem dX7_unlike_53 : decode cX7_unlike 53 = .ok (.ireturn, 1) := by decide +kernel
theorem dX7_nearest_0 : decode cX7_nearest 0 = .ok (.aload_n 0, 1) := by decide +kernel
theorem dX7_nearest_1 : decode cX7_nearest 1 = .ok (.aload_n 0, 1) := by decide +kernel
theorem dX7_nearest_2 : decode cX7_nearest 2 = .ok (.iload_n 1, 1) := by decide +kernel
theorem dX7_nearest_3 : decode cX7_nearest 3 = .ok (.invokevirtual 100, 3) := by decide +kernel
theorem dX7_nearest_6 : decode cX7_nearest 6 = .ok (.ifCond .ne 7, 3) := by decide +kernel
theorem dX7_nearest_9 : decode cX7_nearest 9 = .ok (.iconst 1, 1) := by decide +kernel
theorem dX7_nearest_10 : decode cX7_nearest 10 = .ok (.goto 17, 3) := by decide +kernel
theorem dX7_nearest_13 : decode cX7_nearest 13 = .ok (.iload_n 2, 1) := by decide +kernel
theorem dX7_nearest_14 : decode cX7_nearest 14 = .ok (.iconst 0, 1) := by decide +kernel
theorem dX7_nearest_15 : decode cX7_nearest 15 = .ok (.iconst 1, 1) := by decide +kernel
theorem dX7_nearest_16 : decode cX7_nearest 16 = .ok (.invokestatic 89, 3) := by decide +kernel
theorem dX7_nearest_19 : decode cX7_nearest 19 = .ok (.ifCond .ne 7, 3) := by decide +kernel
theorem dX7_nearest_22 : decode cX7_nearest 22 = .ok (.iconst 2, 1) := by decide +kernel
theorem dX7_nearest_23 : decode cX7_nearest 23 = .ok (.goto 4, 3) := by decide +kernel
theorem dX7_nearest_26 : decode cX7_nearest 26 = .ok (.iconst 0, 1) := by decide +kernel
theorem dX7_nearest_27 : decode cX7_nearest 27 = .ok (.putfield 78, 3) := by decide +kernel
theorem dX7_nearest_30 : decode cX7_nearest 30 = .ok (.aload_n 0, 1) := by decide +kernel
theorem dX7_nearest_31 : decode cX7_nearest 31 = .ok (.getfield 78, 3) := by decide +kernel
theorem dX7_nearest_34 : decode cX7_nearest 34 = .ok (.ifCond .le 5, 3) := by decide +kernel
theorem dX7_nearest_37 : decode cX7_nearest 37 = .ok (.iconst 0, 1) := by decide +kernel
theorem dX7_nearest_38 : decode cX7_nearest 38 = .ok (.ireturn, 1) := by decide +kernel
theorem dX7_nearest_39 : decode cX7_nearest 39 = .ok (.iconst (-1), 1) := by decide +kernel
theorem dX7_nearest_40 : decode cX7_nearest 40 = .ok (.istore_n 3, 1) := by decide +kernel
theorem dX7_nearest_41 : decode cX7_nearest 41 = .ok (.iconst 0, 1) := by decide +kernel
theorem dX7_nearest_42 : decode cX7_nearest 42 = .ok (.istore 4, 2) := by decide +kernel
theorem dX7_nearest_44 : decode cX7_nearest 44 = .ok (.iload 4, 2) := by decide +kernel
theorem dX7_nearest_46 : decode cX7_nearest 46 = .ok (.aload_n 0, 1) := by decide +kernel
theorem dX7_nearest_47 : decode cX7_nearest 47 = .ok (.getfield 86, 3) := by decide +kernel
theorem dX7_nearest_50 : decode cX7_nearest 50 = .ok (.if_icmp .ge 43, 3) := by decide +kernel
theorem dX7_nearest_53 : decode cX7_nearest 53 = .ok (.iload 4, 2) := by decide +kernel
theorem dX7_nearest_55 : decode cX7_nearest 55 = .ok (.iload_n 1, 1) := by decide +kernel
theorem dX7_nearest_56 : decode cX7_nearest 56 = .ok (.if_icmp .eq 29, 3) := by decide +kernel
theorem dX7_nearest_59 : decode cX7_nearest 59 = .ok (.iload_n 3, 1) := by decide +kernel
theorem dX7_nearest_60 : decode cX7_nearest 60 = .ok (.iconst (-1), 1) := by decide +kernel
theorem dX7_nearest_61 : decode cX7_nearest 61 = .ok (.if_icmp .eq 19, 3) := by decide +kernel
theorem dX7_nearest_64 : decode cX7_nearest 64 = .ok (.aload_n 0, 1) := by decide +kernel
theorem dX7_nearest_65 : decode cX7_nearest 65 = .ok (.iload_n 1, 1) := by decide +kernel
theorem dX7_nearest_66 : decode cX7_nearest 66 = .ok (.iload 4, 2) := by decide +kernel
theorem dX7_nearest_68 : decode cX7_nearest 68 = .ok (.invokevirtual 104, 3) := by decide +kernel
theorem dX7_nearest_71 : decode cX7_nearest 71 = .ok (.aload_n 0, 1) := by decide +kernel
theorem dX7_nearest_72 : decode cX7_nearest 72 = .ok (.iload_n 1, 1) := by decide +kernel
theorem dX7_nearest_73 : decode cX7_nearest 73 = .ok (.iload_n 3, 1) := by decide +kernel
theorem dX7_nearest_74 : decode cX7_nearest 74 = .ok (.invokevirtual 104, 3) := by decide +kernel
theorem dX7_nearest_77 : decode cX7_nearest 77 = .ok (.if_icmp .ge 8, 3) := by decide +kernel
theorem dX7_nearest_80 : decode cX7_nearest 80 = .ok (.iload 4, 2) := by decide +kernel
theorem dX7_nearest_82 : decode cX7_nearest 82 = .ok (.goto 4, 3) := by decide +kernel
theorem dX7_nearest_85 : decode cX7_nearest 85 = .ok (.iload_n 3, 1) := by decide +kernel
theorem dX7_nearest_86 : decode cX7_nearest 86 = .ok (.istore_n 3, 1) := by decide +kernel
theorem dX7_nearest_87 : decode cX7_nearest 87 = .ok (.iinc 4 1, 3) := by decide +kernel
theorem dX7_nearest_90 : decode cX7_nearest 90 = .ok (.goto (-46), 3) := by decide +kernel
theorem dX7_nearest_93 : decode cX7_nearest 93 = .ok (.iload_n 3, 1) := by decide +kernel
theorem dX7_nearest_94 : decode cX7_nearest 94 = .ok (.iconst (-1), 1) := by decide +kernel
theorem dX7_nearest_95 : decode cX7_nearest 95 = .ok (.if_icmp .eq 7, 3) := by decide +kernel
theorem dX7_nearest_98 : decode cX7_nearest 98 = .ok (.iload_n 2, 1) := by decide +kernel
theorem dX7_nearest_99 : decode cX7_nearest 99 = .ok (.ifCond .ne 7, 3) := by decide +kernel
theorem dX7_nearest_102 : decode cX7_nearest 102 = .ok (.iload_n 3, 1) := by decide +kernel
theorem dX7_nearest_103 : decode cX7_nearest 103 = .ok (.goto 9, 3) := by decide +kernel
theorem dX7_nearest_106 : decode cX7_nearest 106 = .ok (.aload_n 0, 1) := by decide +kernel
theorem dX7_nearest_107 : decode cX7_nearest 107 = .ok (.iload_n 1, 1) := by decide +kernel
theorem dX7_nearest_108 : decode cX7_nearest 108 = .ok (.iload_n 3, 1) := by decide +kernel
theorem dX7_nearest_109 : decode cX7_nearest 109 = .ok (.invokevirtual 104, 3) := by decide +kernel
theorem dX7_nearest_112 : decode cX7_nearest 112 = .ok (.ireturn, 1) := by decide +kernel
theorem dX7_way_0 : decode cX7_way 0 = .ok (.iload_n 1, 1) := by decide +kernel
theorem dX7_way_1 : decode cX7_way 1 = .ok (.iload_n 0, 1) := by decide +kernel
theorem dX7_way_2 : decode cX7_way 2 = .ok (.if_icmp .ge 7, 3) := by decide +kernel
theorem dX7_way_5 : decode cX7_way 5 = .ok (.iconst 0, 1) := by decide +kernel
theorem dX7_way_6 : decode cX7_way 6 = .ok (.goto 13, 3) := by decide +kernel
theorem dX7_way_9 : decode cX7_way 9 = .ok (.iload_n 1, 1) := by decide +kernel
theorem dX7_way_10 : decode cX7_way 10 = .ok (.iload_n 0, 1) := by decide +kernel
theorem dX7_way_11 : decode cX7_way 11 = .ok (.if_icmp .ne 7, 3) := by decide +kernel
theorem dX7_way_14 : decode cX7_way 14 = .ok (.iconst 1, 1) := by decide +kernel
theorem dX7_way_15 : decode cX7_way 15 = .ok (.goto 4, 3) := by decide +kernel
theorem dX7_way_18 : decode cX7_way 18 = .ok (.iconst 2, 1) := by decide +kernel
theorem dX7_way_19 : decode cX7_way 19 = .ok (.ireturn, 1) := by decide +kernel
theorem dX7_writes_0 : decode cX7_writes 0 = .ok (.bipush 7, 2) := by decide +kernel
theorem dX7_writes_2 : decode cX7_writes 2 = .ok (.iload_n 1, 1) := by decide +kernel
theorem dX7_writes_3 : decode cX7_writes 3 = .ok (.imul, 1) := by decide +kernel
theorem dX7_writes_4 : decode cX7_writes 4 = .ok (.istore_n 3, 1) := by decide +kernel
theorem dX7_writes_5 : decode cX7_writes 5 = .ok (.aload_n 0, 1) := by decide +kernel
theorem dX7_writes_6 : decode cX7_writes 6 = .ok (.getfield 7, 3) := by decide +kernel
theorem dX7_writes_9 : decode cX7_writes 9 = .ok (.iload_n 3, 1) := by decide +kernel
theorem dX7_writes_10 : decode cX7_writes 10 = .ok (.iconst 1, 1) := by decide +kernel
theorem dX7_writes_11 : decode cX7_writes 11 = .ok (.iadd, 1) := by decide +kernel
theorem dX7_writes_12 : decode cX7_writes 12 = .ok (.iaload, 1) := by decide +kernel
theorem dX7_writes_13 : decode cX7_writes 13 = .ok (.istore 4, 2) := by decide +kernel
theorem dX7_writes_15 : decode cX7_writes 15 = .ok (.aload_n 0, 1) := by decide +kernel
theorem dX7_writes_16 : decode cX7_writes 16 = .ok (.getfield 7, 3) := by decide +kernel
theorem dX7_writes_19 : decode cX7_writes 19 = .ok (.iload_n 3, 1) := by decide +kernel
theorem dX7_writes_20 : decode cX7_writes 20 = .ok (.iconst 2, 1) := by decide +kernel
theorem dX7_writes_21 : decode cX7_writes 21 = .ok (.iadd, 1) := by decide +kernel
theorem dX7_writes_22 : decode cX7_writes 22 = .ok (.iaload, 1) := by decide +kernel
theorem dX7_writes_23 : decode cX7_writes 23 = .ok (.istore 5, 2) := by decide +kernel
theorem dX7_writes_25 : decode cX7_writes 25 = .ok (.iload_n 2, 1) := by decide +kernel
theorem dX7_writes_26 : decode cX7_writes 26 = .ok (.ifCond .ne 24, 3) := by decide +kernel
theorem dX7_writes_29 : decode cX7_writes 29 = .ok (.bipush 81, 2) := by decide +kernel
theorem dX7_writes_31 : decode cX7_writes 31 = .ok (.aload_n 0, 1) := by decide +kernel
theorem dX7_writes_32 : decode cX7_writes 32 = .ok (.getfield 7, 3) := by decide +kernel
theorem dX7_writes_35 : decode cX7_writes 35 = .ok (.iload_n 3, 1) := by decide +kernel
theorem dX7_writes_36 : decode cX7_writes 36 = .ok (.iconst 0, 1) := by decide +kernel
theorem dX7_writes_37 : decode cX7_writes 37 = .ok (.iadd, 1) := by decide +kernel
theorem dX7_writes_38 : decode cX7_writes 38 = .ok (.iaload, 1) := by decide +kernel
theorem dX7_writes_39 : decode cX7_writes 39 = .ok (.imul, 1) := by decide +kernel
theorem dX7_writes_40 : decode cX7_writes 40 = .ok (.bipush 9, 2) := by decide +kernel
theorem dX7_writes_42 : decode cX7_writes 42 = .ok (.iload 4, 2) := by decide +kernel
theorem dX7_writes_44 : decode cX7_writes 44 = .ok (.imul, 1) := by decide +kernel
theorem dX7_writes_45 : decode cX7_writes 45 = .ok (.iadd, 1) := by decide +kernel
theorem dX7_writes_46 : decode cX7_writes 46 = .ok (.iload 5, 2) := by decide +kernel
theorem dX7_writes_48 : decode cX7_writes 48 = .ok (.iadd, 1) := by decide +kernel
theorem dX7_writes_49 : decode cX7_writes 49 = .ok (.ireturn, 1) := by decide +kernel
theorem dX7_writes_50 : decode cX7_writes 50 = .ok (.iload_n 2, 1) := by decide +kernel
theorem dX7_writes_51 : decode cX7_writes 51 = .ok (.iconst 1, 1) := by decide +kernel
theorem dX7_writes_52 : decode cX7_writes 52 = .ok (.if_icmp .ne 47, 3) := by decide +kernel
theorem dX7_writes_55 : decode cX7_writes 55 = .ok (.bipush 48, 2) := by decide +kernel
theorem dX7_writes_57 : decode cX7_writes 57 = .ok (.aload_n 0, 1) := by decide +kernel
theorem dX7_writes_58 : decode cX7_writes 58 = .ok (.getfield 7, 3) := by decide +kernel
theorem dX7_writes_61 : decode cX7_writes 61 = .ok (.iload_n 3, 1) := by decide +kernel
theorem dX7_writes_62 : decode cX7_writes 62 = .ok (.iconst 0, 1) := by decide +kernel
theorem dX7_writes_63 : decode cX7_writes 63 = .ok (.iadd, 1) := by decide +kernel
theorem dX7_writes_64 : decode cX7_writes 64 = .ok (.iaload, 1) := by decide +kernel
theorem dX7_writes_65 : decode cX7_writes 65 = .ok (.imul, 1) := by decide +kernel
theorem dX7_writes_66 : decode cX7_writes 66 = .ok (.bipush 12, 2) := by decide +kernel
theorem dX7_writes_68 : decode cX7_writes 68 = .ok (.aload_n 0, 1) := by decide +kernel
theorem dX7_writes_69 : decode cX7_writes 69 = .ok (.getfield 7, 3) := by decide +kernel
theorem dX7_writes_72 : decode cX7_writes 72 = .ok (.iload_n 3, 1) := by decide +kernel
theorem dX7_writes_73 : decode cX7_writes 73 = .ok (.iconst 3, 1) := by decide +kernel
theorem dX7_writes_74 : decode cX7_writes 74 = .ok (.iadd, 1) := by decide +kernel
theorem dX7_writes_75 : decode cX7_writes 75 = .ok (.iaload, 1) := by decide +kernel
theorem dX7_writes_76 : decode cX7_writes 76 = .ok (.imul, 1) := by decide +kernel
theorem dX7_writes_77 : decode cX7_writes 77 = .ok (.iadd, 1) := by decide +kernel
theorem dX7_writes_78 : decode cX7_writes 78 = .ok (.iconst 3, 1) := by decide +kernel
theorem dX7_writes_79 : decode cX7_writes 79 = .ok (.aload_n 0, 1) := by decide +kernel
theorem dX7_writes_80 : decode cX7_writes 80 = .ok (.getfield 7, 3) := by decide +kernel
theorem dX7_writes_83 : decode cX7_writes 83 = .ok (.iload_n 3, 1) := by decide +kernel
theorem dX7_writes_84 : decode cX7_writes 84 = .ok (.iconst 4, 1) := by decide +kernel
theorem dX7_writes_85 : decode cX7_writes 85 = .ok (.iadd, 1) := by decide +kernel
theorem dX7_writes_86 : decode cX7_writes 86 = .ok (.iaload, 1) := by decide +kernel
theorem dX7_writes_87 : decode cX7_writes 87 = .ok (.imul, 1) := by decide +kernel
theorem dX7_writes_88 : decode cX7_writes 88 = .ok (.iadd, 1) := by decide +kernel
theorem dX7_writes_89 : decode cX7_writes 89 = .ok (.aload_n 0, 1) := by decide +kernel
theorem dX7_writes_90 : decode cX7_writes 90 = .ok (.getfield 7, 3) := by decide +kernel
theorem dX7_writes_93 : decode cX7_writes 93 = .ok (.iload_n 3, 1) := by decide +kernel
theorem dX7_writes_94 : decode cX7_writes 94 = .ok (.iconst 5, 1) := by decide +kernel
theorem dX7_writes_95 : decode cX7_writes 95 = .ok (.iadd, 1) := by decide +kernel
theorem dX7_writes_96 : decode cX7_writes 96 = .ok (.iaload, 1) := by decide +kernel
theorem dX7_writes_97 : decode cX7_writes 97 = .ok (.iadd, 1) := by decide +kernel
theorem dX7_writes_98 : decode cX7_writes 98 = .ok (.ireturn, 1) := by decide +kernel
theorem dX7_writes_99 : decode cX7_writes 99 = .ok (.aload_n 0, 1) := by decide +kernel
theorem dX7_writes_100 : decode cX7_writes 100 = .ok (.getfield 7, 3) := by decide +kernel
theorem dX7_writes_103 : decode cX7_writes 103 = .ok (.iload_n 3, 1) := by decide +kernel
theorem dX7_writes_104 : decode cX7_writes 104 = .ok (.iconst 0, 1) := by decide +kernel
theorem dX7_writes_105 : decode cX7_writes 105 = .ok (.iadd, 1) := by decide +kernel
theorem dX7_writes_106 : decode cX7_writes 106 = .ok (.iaload, 1) := by decide +kernel
theorem dX7_writes_107 : decode cX7_writes 107 = .ok (.iconst 4, 1) := by decide +kernel
theorem dX7_writes_108 : decode cX7_writes 108 = .ok (.if_icmp .ge 8, 3) := by decide +kernel
theorem dX7_writes_111 : decode cX7_writes 111 = .ok (.bipush 9, 2) := by decide +kernel
theorem dX7_writes_113 : decode cX7_writes 113 = .ok (.goto 4, 3) := by decide +kernel
theorem dX7_writes_116 : decode cX7_writes 116 = .ok (.iconst 0, 1) := by decide +kernel
theorem dX7_writes_117 : decode cX7_writes 117 = .ok (.iconst 3, 1) := by decide +kernel
theorem dX7_writes_118 : decode cX7_writes 118 = .ok (.iload 4, 2) := by decide +kernel
theorem dX7_writes_120 : decode cX7_writes 120 = .ok (.iconst 3, 1) := by decide +kernel
theorem dX7_writes_121 : decode cX7_writes 121 = .ok (.idiv, 1) := by decide +kernel
theorem dX7_writes_122 : decode cX7_writes 122 = .ok (.iload 5, 2) := by decide +kernel
theorem dX7_writes_124 : decode cX7_writes 124 = .ok (.iconst 3, 1) := by decide +kernel
theorem dX7_writes_125 : decode cX7_writes 125 = .ok (.idiv, 1) := by decide +kernel
theorem dX7_writes_126 : decode cX7_writes 126 = .ok (.invokestatic 108, 3) := by decide +kernel
theorem dX7_writes_129 : decode cX7_writes 129 = .ok (.imul, 1) := by decide +kernel
theorem dX7_writes_130 : decode cX7_writes 130 = .ok (.iadd, 1) := by decide +kernel
theorem dX7_writes_131 : decode cX7_writes 131 = .ok (.iload 4, 2) := by decide +kernel
theorem dX7_writes_133 : decode cX7_writes 133 = .ok (.iconst 3, 1) := by decide +kernel
theorem dX7_writes_134 : decode cX7_writes 134 = .ok (.irem, 1) := by decide +kernel
theorem dX7_writes_135 : decode cX7_writes 135 = .ok (.iload 5, 2) := by decide +kernel
theorem dX7_writes_137 : decode cX7_writes 137 = .ok (.iconst 3, 1) := by decide +kernel
theorem dX7_writes_138 : decode cX7_writes 138 = .ok (.irem, 1) := by decide +kernel
theorem dX7_writes_139 : decode cX7_writes 139 = .ok (.invokestatic 108, 3) := by decide +kernel
theorem dX7_writes_142 : decode cX7_writes 142 = .ok (.iadd, 1) := by decide +kernel
theorem dX7_writes_143 : decode cX7_writes 143 = .ok (.ireturn, 1) := by decide +kernel
theorem dX7_written_0 : decode cX7_written 0 = .ok (.aload_n 0, 1) := by decide +kernel
theorem dX7_written_1 : decode cX7_written 1 = .ok (.aload_n 0, 1) := by decide +kernel
theorem dX7_written_2 : decode cX7_written 2 = .ok (.iload_n 1, 1) := by decide +kernel
theorem dX7_written_3 : decode cX7_written 3 = .ok (.invokevirtual 100, 3) := by decide +kernel
theorem dX7_written_6 : decode cX7_written 6 = .ok (.ifCond .ne 7, 3) := by decide +kernel
theorem dX7_written_9 : decode cX7_written 9 = .ok (.iconst 1, 1) := by decide +kernel
theorem dX7_written_10 : decode cX7_written 10 = .ok (.goto 17, 3) := by decide +kernel
theorem dX7_written_13 : decode cX7_written 13 = .ok (.iload_n 2, 1) := by decide +kernel
theorem dX7_written_14 : decode cX7_written 14 = .ok (.iconst 0, 1) := by decide +kernel
theorem dX7_written_15 : decode cX7_written 15 = .ok (.iconst 2, 1) := by decide +kernel
theorem dX7_written_16 : decode cX7_written 16 = .ok (.invokestatic 89, 3) := by decide +kernel
theorem dX7_written_19 : decode cX7_written 19 = .ok (.ifCond .ne 7, 3) := by decide +kernel
theorem dX7_written_22 : decode cX7_written 22 = .ok (.iconst 2, 1) := by decide +kernel
theorem dX7_written_23 : decode cX7_written 23 = .ok (.goto 4, 3) := by decide +kernel
theorem dX7_written_26 : decode cX7_written 26 = .ok (.iconst 0, 1) := by decide +kernel
theorem dX7_written_27 : decode cX7_written 27 = .ok (.putfield 78, 3) := by decide +kernel
theorem dX7_written_30 : decode cX7_written 30 = .ok (.aload_n 0, 1) := by decide +kernel
theorem dX7_written_31 : decode cX7_written 31 = .ok (.getfield 78, 3) := by decide +kernel
theorem dX7_written_34 : decode cX7_written 34 = .ok (.ifCond .le 7, 3) := by decide +kernel
theorem dX7_written_37 : decode cX7_written 37 = .ok (.iconst 0, 1) := by decide +kernel
theorem dX7_written_38 : decode cX7_written 38 = .ok (.goto 9, 3) := by decide +kernel
theorem dX7_written_41 : decode cX7_written 41 = .ok (.aload_n 0, 1) := by decide +kernel
theorem dX7_written_42 : decode cX7_written 42 = .ok (.iload_n 1, 1) := by decide +kernel
theorem dX7_written_43 : decode cX7_written 43 = .ok (.iload_n 2, 1) := by decide +kernel
theorem dX7_written_44 : decode cX7_written 44 = .ok (.invokevirtual 111, 3) := by decide +kernel
theorem dX7_written_47 : decode cX7_written 47 = .ok (.ireturn, 1) := by decide +kernel
theorem dX7_loses_0 : decode cX7_loses 0 = .ok (.aload_n 0, 1) := by decide +kernel
theorem dX7_loses_1 : decode cX7_loses 1 = .ok (.iload_n 1, 1) := by decide +kernel
theorem dX7_loses_2 : decode cX7_loses 2 = .ok (.iconst 0, 1) := by decide +kernel
theorem dX7_loses_3 : decode cX7_loses 3 = .ok (.iconst 2, 1) := by decide +kernel
theorem dX7_loses_4 : decode cX7_loses 4 = .ok (.invokestatic 89, 3) := by decide +kernel
theorem dX7_loses_7 : decode cX7_loses 7 = .ok (.ifCond .eq 16, 3) := by decide +kernel
theorem dX7_loses_10 : decode cX7_loses 10 = .ok (.iload_n 2, 1) := by decide +kernel
theorem dX7_loses_11 : decode cX7_loses 11 = .ok (.iconst 0, 1) := by decide +kernel
theorem dX7_loses_12 : decode cX7_loses 12 = .ok (.iconst 2, 1) := by decide +kernel
theorem dX7_loses_13 : decode cX7_loses 13 = .ok (.invokestatic 89, 3) := by decide +kernel
theorem dX7_loses_16 : decode cX7_loses 16 = .ok (.ifCond .eq 7, 3) := by decide +kernel
theorem dX7_loses_19 : decode cX7_loses 19 = .ok (.iconst 0, 1) := by decide +kernel
theorem dX7_loses_20 : decode cX7_loses 20 = .ok (.goto 4, 3) := by decide +kernel
theorem dX7_loses_23 : decode cX7_loses 23 = .ok (.iconst 1, 1) := by decide +kernel
theorem dX7_loses_24 : decode cX7_loses 24 = .ok (.putfield 78, 3) := by decide +kernel
theorem dX7_loses_27 : decode cX7_loses 27 = .ok (.iconst 0, 1) := by decide +kernel
theorem dX7_loses_28 : decode cX7_loses 28 = .ok (.istore_n 3, 1) := by decide +kernel
theorem dX7_loses_29 : decode cX7_loses 29 = .ok (.iconst 0, 1) := by decide +kernel
theorem dX7_loses_30 : decode cX7_loses 30 = .ok (.istore 4, 2) := by decide +kernel
theorem dX7_loses_32 : decode cX7_loses 32 = .ok (.iload 4, 2) := by decide +kernel
theorem dX7_loses_34 : decode cX7_loses 34 = .ok (.aload_n 0, 1) := by decide +kernel
theorem dX7_loses_35 : decode cX7_loses 35 = .ok (.getfield 86, 3) := by decide +kernel
theorem dX7_loses_38 : decode cX7_loses 38 = .ok (.if_icmp .ge 79, 3) := by decide +kernel
theorem dX7_loses_41 : decode cX7_loses 41 = .ok (.aload_n 0, 1) := by decide +kernel
theorem dX7_loses_42 : decode cX7_loses 42 = .ok (.getfield 78, 3) := by decide +kernel
theorem dX7_loses_45 : decode cX7_loses 45 = .ok (.ifCond .ne 72, 3) := by decide +kernel
theorem dX7_loses_48 : decode cX7_loses 48 = .ok (.iload 4, 2) := by decide +kernel
theorem dX7_loses_50 : decode cX7_loses 50 = .ok (.iconst 1, 1) := by decide +kernel
theorem dX7_loses_51 : decode cX7_loses 51 = .ok (.iadd, 1) := by decide +kernel
theorem dX7_loses_52 : decode cX7_loses 52 = .ok (.istore 5, 2) := by decide +kernel
theorem dX7_loses_54 : decode cX7_loses 54 = .ok (.iload 5, 2) := by decide +kernel
theorem dX7_loses_56 : decode cX7_loses 56 = .ok (.aload_n 0, 1) := by decide +kernel
theorem dX7_loses_57 : decode cX7_loses 57 = .ok (.getfield 86, 3) := by decide +kernel
theorem dX7_loses_60 : decode cX7_loses 60 = .ok (.if_icmp .ge 51, 3) := by decide +kernel
theorem dX7_loses_63 : decode cX7_loses 63 = .ok (.iload_n 3, 1) := by decide +kernel
theorem dX7_loses_64 : decode cX7_loses 64 = .ok (.aload_n 0, 1) := by decide +kernel
theorem dX7_loses_65 : decode cX7_loses 65 = .ok (.iload 4, 2) := by decide +kernel
theorem dX7_loses_67 : decode cX7_loses 67 = .ok (.iload_n 1, 1) := by decide +kernel
theorem dX7_loses_68 : decode cX7_loses 68 = .ok (.invokevirtual 111, 3) := by decide +kernel
theorem dX7_loses_71 : decode cX7_loses 71 = .ok (.aload_n 0, 1) := by decide +kernel
theorem dX7_loses_72 : decode cX7_loses 72 = .ok (.iload 5, 2) := by decide +kernel
theorem dX7_loses_74 : decode cX7_loses 74 = .ok (.iload_n 1, 1) := by decide +kernel
theorem dX7_loses_75 : decode cX7_loses 75 = .ok (.invokevirtual 111, 3) := by decide +kernel
theorem dX7_loses_78 : decode cX7_loses 78 = .ok (.if_icmp .eq 24, 3) := by decide +kernel
theorem dX7_loses_81 : decode cX7_loses 81 = .ok (.aload_n 0, 1) := by decide +kernel
theorem dX7_loses_82 : decode cX7_loses 82 = .ok (.iload 4, 2) := by decide +kernel
theorem dX7_loses_84 : decode cX7_loses 84 = .ok (.iload_n 2, 1) := by decide +kernel
theorem dX7_loses_85 : decode cX7_loses 85 = .ok (.invokevirtual 111, 3) := by decide +kernel
theorem dX7_loses_88 : decode cX7_loses 88 = .ok (.aload_n 0, 1) := by decide +kernel
theorem dX7_loses_89 : decode cX7_loses 89 = .ok (.iload 5, 2) := by decide +kernel
theorem dX7_loses_91 : decode cX7_loses 91 = .ok (.iload_n 2, 1) := by decide +kernel
theorem dX7_loses_92 : decode cX7_loses 92 = .ok (.invokevirtual 111, 3) := by decide +kernel
theorem dX7_loses_95 : decode cX7_loses 95 = .ok (.if_icmp .ne 7, 3) := by decide +kernel
theorem dX7_loses_98 : decode cX7_loses 98 = .ok (.iconst 1, 1) := by decide +kernel
theorem dX7_loses_99 : decode cX7_loses 99 = .ok (.goto 4, 3) := by decide +kernel
theorem dX7_loses_102 : decode cX7_loses 102 = .ok (.iconst 0, 1) := by decide +kernel
theorem dX7_loses_103 : decode cX7_loses 103 = .ok (.iadd, 1) := by decide +kernel
theorem dX7_loses_104 : decode cX7_loses 104 = .ok (.istore_n 3, 1) := by decide +kernel
theorem dX7_loses_105 : decode cX7_loses 105 = .ok (.iinc 5 1, 3) := by decide +kernel
theorem dX7_loses_108 : decode cX7_loses 108 = .ok (.goto (-54), 3) := by decide +kernel
theorem dX7_loses_111 : decode cX7_loses 111 = .ok (.iinc 4 1, 3) := by decide +kernel
theorem dX7_loses_114 : decode cX7_loses 114 = .ok (.goto (-82), 3) := by decide +kernel
theorem dX7_loses_117 : decode cX7_loses 117 = .ok (.iload_n 3, 1) := by decide +kernel
theorem dX7_loses_118 : decode cX7_loses 118 = .ok (.ireturn, 1) := by decide +kernel
theorem dX7_isFor_0 : decode cX7_isFor 0 = .ok (.iconst 0, 1) := by decide +kernel
theorem dX7_isFor_1 : decode cX7_isFor 1 = .ok (.istore_n 2, 1) := by decide +kernel
theorem dX7_isFor_2 : decode cX7_isFor 2 = .ok (.iconst 0, 1) := by decide +kernel
theorem dX7_isFor_3 : decode cX7_isFor 3 = .ok (.istore_n 3, 1) := by decide +kernel
theorem dX7_isFor_4 : decode cX7_isFor 4 = .ok (.iload_n 3, 1) := by decide +kernel
theorem dX7_isFor_5 : decode cX7_isFor 5 = .ok (.iconst 4, 1) := by decide +kernel
theorem dX7_isFor_6 : decode cX7_isFor 6 = .ok (.if_icmp .ge 27, 3) := by decide +kernel
theorem dX7_isFor_9 : decode cX7_isFor 9 = .ok (.iload_n 2, 1) := by decide +kernel
theorem dX7_isFor_10 : decode cX7_isFor 10 = .ok (.aload_n 0, 1) := by decide +kernel
theorem dX7_isFor_11 : decode cX7_isFor 11 = .ok (.getfield 25, 3) := by decide +kernel
theorem dX7_isFor_14 : decode cX7_isFor 14 = .ok (.iload_n 3, 1) := by decide +kernel
theorem dX7_isFor_15 : decode cX7_isFor 15 = .ok (.iaload, 1) := by decide +kernel
theorem dX7_isFor_16 : decode cX7_isFor 16 = .ok (.iload_n 1, 1) := by decide +kernel
theorem dX7_isFor_17 : decode cX7_isFor 17 = .ok (.if_icmp .ne 7, 3) := by decide +kernel
theorem dX7_isFor_20 : decode cX7_isFor 20 = .ok (.iconst 1, 1) := by decide +kernel
theorem dX7_isFor_21 : decode cX7_isFor 21 = .ok (.goto 4, 3) := by decide +kernel
theorem dX7_isFor_24 : decode cX7_isFor 24 = .ok (.iconst 0, 1) := by decide +kernel
theorem dX7_isFor_25 : decode cX7_isFor 25 = .ok (.ior, 1) := by decide +kernel
theorem dX7_isFor_26 : decode cX7_isFor 26 = .ok (.istore_n 2, 1) := by decide +kernel
theorem dX7_isFor_27 : decode cX7_isFor 27 = .ok (.iinc 3 1, 3) := by decide +kernel
theorem dX7_isFor_30 : decode cX7_isFor 30 = .ok (.goto (-26), 3) := by decide +kernel
theorem dX7_isFor_33 : decode cX7_isFor 33 = .ok (.iload_n 2, 1) := by decide +kernel
theorem dX7_isFor_34 : decode cX7_isFor 34 = .ok (.ireturn, 1) := by decide +kernel
theorem dX7_itemThrown_0 : decode cX7_itemThrown 0 = .ok (.iload_n 1, 1) := by decide +kernel
theorem dX7_itemThrown_1 : decode cX7_itemThrown 1 = .ok (.tableswitch 221 0 5 #[39, 53, 102, 102, 129, 205], 39) := by decide +kernel
theorem dX7_itemThrown_40 : decode cX7_itemThrown 40 = .ok (.aload_n 0, 1) := by decide +kernel
theorem dX7_itemThrown_41 : decode cX7_itemThrown 41 = .ok (.iload_n 2, 1) := by decide +kernel
theorem dX7_itemThrown_42 : decode cX7_itemThrown 42 = .ok (.invokevirtual 100, 3) := by decide +kernel
theorem dX7_itemThrown_45 : decode cX7_itemThrown 45 = .ok (.ifCond .eq 7, 3) := by decide +kernel
theorem dX7_itemThrown_48 : decode cX7_itemThrown 48 = .ok (.iconst 0, 1) := by decide +kernel
theorem dX7_itemThrown_49 : decode cX7_itemThrown 49 = .ok (.goto 4, 3) := by decide +kernel
theorem dX7_itemThrown_52 : decode cX7_itemThrown 52 = .ok (.iconst 1, 1) := by decide +kernel
theorem dX7_itemThrown_53 : decode cX7_itemThrown 53 = .ok (.ireturn, 1) := by decide +kernel
theorem dX7_itemThrown_54 : decode cX7_itemThrown 54 = .ok (.iload_n 2, 1) := by decide +kernel
theorem dX7_itemThrown_55 : decode cX7_itemThrown 55 = .ok (.invokestatic 114, 3) := by decide +kernel
theorem dX7_itemThrown_58 : decode cX7_itemThrown 58 = .ok (.ifCond .ne 7, 3) := by decide +kernel
theorem dX7_itemThrown_61 : decode cX7_itemThrown 61 = .ok (.iconst 1, 1) := by decide +kernel
theorem dX7_itemThrown_62 : decode cX7_itemThrown 62 = .ok (.goto 40, 3) := by decide +kernel
theorem dX7_itemThrown_65 : decode cX7_itemThrown 65 = .ok (.iload_n 3, 1) := by decide +kernel
theorem dX7_itemThrown_66 : decode cX7_itemThrown 66 = .ok (.iconst 0, 1) := by decide +kernel
theorem dX7_itemThrown_67 : decode cX7_itemThrown 67 = .ok (.bipush 9, 2) := by decide +kernel
theorem dX7_itemThrown_69 : decode cX7_itemThrown 69 = .ok (.invokestatic 89, 3) := by decide +kernel
theorem dX7_itemThrown_72 : decode cX7_itemThrown 72 = .ok (.ifCond .ne 7, 3) := by decide +kernel
theorem dX7_itemThrown_75 : decode cX7_itemThrown 75 = .ok (.iconst 2, 1) := by decide +kernel
theorem dX7_itemThrown_76 : decode cX7_itemThrown 76 = .ok (.goto 26, 3) := by decide +kernel
theorem dX7_itemThrown_79 : decode cX7_itemThrown 79 = .ok (.aload_n 0, 1) := by decide +kernel
theorem dX7_itemThrown_80 : decode cX7_itemThrown 80 = .ok (.getfield 25, 3) := by decide +kernel
theorem dX7_itemThrown_83 : decode cX7_itemThrown 83 = .ok (.iload_n 2, 1) := by decide +kernel
theorem dX7_itemThrown_84 : decode cX7_itemThrown 84 = .ok (.iaload, 1) := by decide +kernel
theorem dX7_itemThrown_85 : decode cX7_itemThrown 85 = .ok (.iconst (-1), 1) := by decide +kernel
theorem dX7_itemThrown_86 : decode cX7_itemThrown 86 = .ok (.if_icmp .ne 11, 3) := by decide +kernel
theorem dX7_itemThrown_89 : decode cX7_itemThrown 89 = .ok (.aload_n 0, 1) := by decide +kernel
theorem dX7_itemThrown_90 : decode cX7_itemThrown 90 = .ok (.iload_n 3, 1) := by decide +kernel
theorem dX7_itemThrown_91 : decode cX7_itemThrown 91 = .ok (.invokevirtual 117, 3) := by decide +kernel
theorem dX7_itemThrown_94 : decode cX7_itemThrown 94 = .ok (.ifCond .eq 7, 3) := by decide +kernel
theorem dX7_itemThrown_97 : decode cX7_itemThrown 97 = .ok (.iconst 3, 1) := by decide +kernel
theorem dX7_itemThrown_98 : decode cX7_itemThrown 98 = .ok (.goto 4, 3) := by decide +kernel
theorem dX7_itemThrown_101 : decode cX7_itemThrown 101 = .ok (.iconst 0, 1) := by decide +kernel
theorem dX7_itemThrown_102 : decode cX7_itemThrown 102 = .ok (.ireturn, 1) := by decide +kernel
theorem dX7_itemThrown_103 : decode cX7_itemThrown 103 = .ok (.iload_n 2, 1) := by decide +kernel
theorem dX7_itemThrown_104 : decode cX7_itemThrown 104 = .ok (.invokestatic 114, 3) := by decide +kernel
theorem dX7_itemThrown_107 : decode cX7_itemThrown 107 = .ok (.ifCond .ne 7, 3) := by decide +kernel
theorem dX7_itemThrown_110 : decode cX7_itemThrown 110 = .ok (.iconst 1, 1) := by decide +kernel
theorem dX7_itemThrown_111 : decode cX7_itemThrown 111 = .ok (.goto 18, 3) := by decide +kernel
theorem dX7_itemThrown_114 : decode cX7_itemThrown 114 = .ok (.aload_n 0, 1) := by decide +kernel
theorem dX7_itemThrown_115 : decode cX7_itemThrown 115 = .ok (.getfield 25, 3) := by decide +kernel
theorem dX7_itemThrown_118 : decode cX7_itemThrown 118 = .ok (.iload_n 2, 1) := by decide +kernel
theorem dX7_itemThrown_119 : decode cX7_itemThrown 119 = .ok (.iaload, 1) := by decide +kernel
theorem dX7_itemThrown_120 : decode cX7_itemThrown 120 = .ok (.iconst (-1), 1) := by decide +kernel
theorem dX7_itemThrown_121 : decode cX7_itemThrown 121 = .ok (.if_icmp .ne 7, 3) := by decide +kernel
theorem dX7_itemThrown_124 : decode cX7_itemThrown 124 = .ok (.iconst 3, 1) := by decide +kernel
theorem dX7_itemThrown_125 : decode cX7_itemThrown 125 = .ok (.goto 4, 3) := by decide +kernel
theorem dX7_itemThrown_128 : decode cX7_itemThrown 128 = .ok (.iconst 0, 1) := by decide +kernel
theorem dX7_itemThrown_129 : decode cX7_itemThrown 129 = .ok (.ireturn, 1) := by decide +kernel
theorem dX7_itemThrown_130 : decode cX7_itemThrown 130 = .ok (.aload_n 0, 1) := by decide +kernel
theorem dX7_itemThrown_131 : decode cX7_itemThrown 131 = .ok (.iload_n 2, 1) := by decide +kernel
theorem dX7_itemThrown_132 : decode cX7_itemThrown 132 = .ok (.invokevirtual 100, 3) := by decide +kernel
theorem dX7_itemThrown_135 : decode cX7_itemThrown 135 = .ok (.ifCond .eq 22, 3) := by decide +kernel
theorem dX7_itemThrown_138 : decode cX7_itemThrown 138 = .ok (.iload_n 3, 1) := by decide +kernel
theorem dX7_itemThrown_139 : decode cX7_itemThrown 139 = .ok (.invokestatic 114, 3) := by decide +kernel
theorem dX7_itemThrown_142 : decode cX7_itemThrown 142 = .ok (.ifCond .eq 15, 3) := by decide +kernel
theorem dX7_itemThrown_145 : decode cX7_itemThrown 145 = .ok (.iload 4, 2) := by decide +kernel
theorem dX7_itemThrown_147 : decode cX7_itemThrown 147 = .ok (.invokestatic 114, 3) := by decide +kernel
theorem dX7_itemThrown_150 : decode cX7_itemThrown 150 = .ok (.ifCond .eq 7, 3) := by decide +kernel
theorem dX7_itemThrown_153 : decode cX7_itemThrown 153 = .ok (.iconst 1, 1) := by decide +kernel
theorem dX7_itemThrown_154 : decode cX7_itemThrown 154 = .ok (.goto 4, 3) := by decide +kernel
theorem dX7_itemThrown_157 : decode cX7_itemThrown 157 = .ok (.iconst 0, 1) := by decide +kernel
theorem dX7_itemThrown_158 : decode cX7_itemThrown 158 = .ok (.istore 5, 2) := by decide +kernel
theorem dX7_itemThrown_160 : decode cX7_itemThrown 160 = .ok (.iload 5, 2) := by decide +kernel
theorem dX7_itemThrown_162 : decode cX7_itemThrown 162 = .ok (.ifCond .ne 7, 3) := by decide +kernel
theorem dX7_itemThrown_165 : decode cX7_itemThrown 165 = .ok (.iconst 1, 1) := by decide +kernel
theorem dX7_itemThrown_166 : decode cX7_itemThrown 166 = .ok (.goto 39, 3) := by decide +kernel
theorem dX7_itemThrown_169 : decode cX7_itemThrown 169 = .ok (.iload_n 3, 1) := by decide +kernel
theorem dX7_itemThrown_170 : decode cX7_itemThrown 170 = .ok (.iload 4, 2) := by decide +kernel
theorem dX7_itemThrown_172 : decode cX7_itemThrown 172 = .ok (.if_icmp .ne 7, 3) := by decide +kernel
theorem dX7_itemThrown_175 : decode cX7_itemThrown 175 = .ok (.iconst 2, 1) := by decide +kernel
theorem dX7_itemThrown_176 : decode cX7_itemThrown 176 = .ok (.goto 29, 3) := by decide +kernel
theorem dX7_itemThrown_179 : decode cX7_itemThrown 179 = .ok (.aload_n 0, 1) := by decide +kernel
theorem dX7_itemThrown_180 : decode cX7_itemThrown 180 = .ok (.getfield 25, 3) := by decide +kernel
theorem dX7_itemThrown_183 : decode cX7_itemThrown 183 = .ok (.iload_n 3, 1) := by decide +kernel
theorem dX7_itemThrown_184 : decode cX7_itemThrown 184 = .ok (.iaload, 1) := by decide +kernel
theorem dX7_itemThrown_185 : decode cX7_itemThrown 185 = .ok (.iconst (-1), 1) := by decide +kernel
theorem dX7_itemThrown_186 : decode cX7_itemThrown 186 = .ok (.if_icmp .eq 14, 3) := by decide +kernel
theorem dX7_itemThrown_189 : decode cX7_itemThrown 189 = .ok (.aload_n 0, 1) := by decide +kernel
theorem dX7_itemThrown_190 : decode cX7_itemThrown 190 = .ok (.getfield 25, 3) := by decide +kernel
theorem dX7_itemThrown_193 : decode cX7_itemThrown 193 = .ok (.iload 4, 2) := by decide +kernel
theorem dX7_itemThrown_195 : decode cX7_itemThrown 195 = .ok (.iaload, 1) := by decide +kernel
theorem dX7_itemThrown_196 : decode cX7_itemThrown 196 = .ok (.iconst (-1), 1) := by decide +kernel
theorem dX7_itemThrown_197 : decode cX7_itemThrown 197 = .ok (.if_icmp .ne 7, 3) := by decide +kernel
theorem dX7_itemThrown_200 : decode cX7_itemThrown 200 = .ok (.iconst 3, 1) := by decide +kernel
theorem dX7_itemThrown_201 : decode cX7_itemThrown 201 = .ok (.goto 4, 3) := by decide +kernel
theorem dX7_itemThrown_204 : decode cX7_itemThrown 204 = .ok (.iconst 0, 1) := by decide +kernel
theorem dX7_itemThrown_205 : decode cX7_itemThrown 205 = .ok (.ireturn, 1) := by decide +kernel
theorem dX7_itemThrown_206 : decode cX7_itemThrown 206 = .ok (.iload_n 2, 1) := by decide +kernel
theorem dX7_itemThrown_207 : decode cX7_itemThrown 207 = .ok (.iconst 0, 1) := by decide +kernel
theorem dX7_itemThrown_208 : decode cX7_itemThrown 208 = .ok (.bipush 25, 2) := by decide +kernel
theorem dX7_itemThrown_210 : decode cX7_itemThrown 210 = .ok (.invokestatic 89, 3) := by decide +kernel
theorem dX7_itemThrown_213 : decode cX7_itemThrown 213 = .ok (.ifCond .eq 7, 3) := by decide +kernel
theorem dX7_itemThrown_216 : decode cX7_itemThrown 216 = .ok (.iconst 0, 1) := by decide +kernel
theorem dX7_itemThrown_217 : decode cX7_itemThrown 217 = .ok (.goto 4, 3) := by decide +kernel
theorem dX7_itemThrown_220 : decode cX7_itemThrown 220 = .ok (.iconst 2, 1) := by decide +kernel
theorem dX7_itemThrown_221 : decode cX7_itemThrown 221 = .ok (.ireturn, 1) := by decide +kernel
theorem dX7_itemThrown_222 : decode cX7_itemThrown 222 = .ok (.iconst 2, 1) := by decide +kernel
theorem dX7_itemThrown_223 : decode cX7_itemThrown 223 = .ok (.ireturn, 1) := by decide +kernel
theorem dX7_item_0 : decode cX7_item 0 = .ok (.aload_n 0, 1) := by decide +kernel
theorem dX7_item_1 : decode cX7_item 1 = .ok (.aload_n 0, 1) := by decide +kernel
theorem dX7_item_2 : decode cX7_item 2 = .ok (.iload_n 1, 1) := by decide +kernel
theorem dX7_item_3 : decode cX7_item 3 = .ok (.iload_n 2, 1) := by decide +kernel
theorem dX7_item_4 : decode cX7_item 4 = .ok (.iload_n 3, 1) := by decide +kernel
theorem dX7_item_5 : decode cX7_item 5 = .ok (.iload 4, 2) := by decide +kernel
theorem dX7_item_7 : decode cX7_item 7 = .ok (.invokevirtual 120, 3) := by decide +kernel
theorem dX7_item_10 : decode cX7_item 10 = .ok (.putfield 78, 3) := by decide +kernel
theorem dX7_item_13 : decode cX7_item 13 = .ok (.aload_n 0, 1) := by decide +kernel
theorem dX7_item_14 : decode cX7_item 14 = .ok (.aload_n 0, 1) := by decide +kernel
theorem dX7_item_15 : decode cX7_item 15 = .ok (.getfield 78, 3) := by decide +kernel
theorem dX7_item_18 : decode cX7_item 18 = .ok (.ifCond .ne 16, 3) := by decide +kernel
theorem dX7_item_21 : decode cX7_item 21 = .ok (.aload_n 0, 1) := by decide +kernel
theorem dX7_item_22 : decode cX7_item 22 = .ok (.getfield 93, 3) := by decide +kernel
theorem dX7_item_25 : decode cX7_item 25 = .ok (.bipush 14, 2) := by decide +kernel
theorem dX7_item_27 : decode cX7_item 27 = .ok (.if_icmp .ne 7, 3) := by decide +kernel
theorem dX7_item_30 : decode cX7_item 30 = .ok (.iconst 3, 1) := by decide +kernel
theorem dX7_item_31 : decode cX7_item 31 = .ok (.goto 7, 3) := by decide +kernel
theorem dX7_item_34 : decode cX7_item 34 = .ok (.aload_n 0, 1) := by decide +kernel
theorem dX7_item_35 : decode cX7_item 35 = .ok (.getfield 78, 3) := by decide +kernel
theorem dX7_item_38 : decode cX7_item 38 = .ok (.putfield 78, 3) := by decide +kernel
theorem dX7_item_41 : decode cX7_item 41 = .ok (.aload_n 0, 1) := by decide +kernel
theorem dX7_item_42 : decode cX7_item 42 = .ok (.getfield 78, 3) := by decide +kernel
theorem dX7_item_45 : decode cX7_item 45 = .ok (.ifCond .le 5, 3) := by decide +kernel
theorem dX7_item_48 : decode cX7_item 48 = .ok (.iconst 0, 1) := by decide +kernel
theorem dX7_item_49 : decode cX7_item 49 = .ok (.ireturn, 1) := by decide +kernel
theorem dX7_item_50 : decode cX7_item 50 = .ok (.aload_n 0, 1) := by decide +kernel
theorem dX7_item_51 : decode cX7_item 51 = .ok (.getfield 13, 3) := by decide +kernel
theorem dX7_item_54 : decode cX7_item 54 = .ok (.aload_n 0, 1) := by decide +kernel
theorem dX7_item_55 : decode cX7_item 55 = .ok (.getfield 93, 3) := by decide +kernel
theorem dX7_item_58 : decode cX7_item 58 = .ok (.iload_n 1, 1) := by decide +kernel
theorem dX7_item_59 : decode cX7_item 59 = .ok (.iastore, 1) := by decide +kernel
theorem dX7_item_60 : decode cX7_item 60 = .ok (.aload_n 0, 1) := by decide +kernel
theorem dX7_item_61 : decode cX7_item 61 = .ok (.getfield 16, 3) := by decide +kernel
theorem dX7_item_64 : decode cX7_item 64 = .ok (.aload_n 0, 1) := by decide +kernel
theorem dX7_item_65 : decode cX7_item 65 = .ok (.getfield 93, 3) := by decide +kernel
theorem dX7_item_68 : decode cX7_item 68 = .ok (.iload_n 2, 1) := by decide +kernel
theorem dX7_item_69 : decode cX7_item 69 = .ok (.iastore, 1) := by decide +kernel
theorem dX7_item_70 : decode cX7_item 70 = .ok (.aload_n 0, 1) := by decide +kernel
theorem dX7_item_71 : decode cX7_item 71 = .ok (.getfield 19, 3) := by decide +kernel
theorem dX7_item_74 : decode cX7_item 74 = .ok (.aload_n 0, 1) := by decide +kernel
theorem dX7_item_75 : decode cX7_item 75 = .ok (.getfield 93, 3) := by decide +kernel
theorem dX7_item_78 : decode cX7_item 78 = .ok (.iload_n 3, 1) := by decide +kernel
theorem dX7_item_79 : decode cX7_item 79 = .ok (.iastore, 1) := by decide +kernel
theorem dX7_item_80 : decode cX7_item 80 = .ok (.aload_n 0, 1) := by decide +kernel
theorem dX7_item_81 : decode cX7_item 81 = .ok (.getfield 22, 3) := by decide +kernel
theorem dX7_item_84 : decode cX7_item 84 = .ok (.aload_n 0, 1) := by decide +kernel
theorem dX7_item_85 : decode cX7_item 85 = .ok (.getfield 93, 3) := by decide +kernel
theorem dX7_item_88 : decode cX7_item 88 = .ok (.iload 4, 2) := by decide +kernel
theorem dX7_item_90 : decode cX7_item 90 = .ok (.iastore, 1) := by decide +kernel
theorem dX7_item_91 : decode cX7_item 91 = .ok (.iload_n 1, 1) := by decide +kernel
theorem dX7_item_92 : decode cX7_item 92 = .ok (.iconst 1, 1) := by decide +kernel
theorem dX7_item_93 : decode cX7_item 93 = .ok (.if_icmp .ne 13, 3) := by decide +kernel
theorem dX7_item_96 : decode cX7_item 96 = .ok (.aload_n 0, 1) := by decide +kernel
theorem dX7_item_97 : decode cX7_item 97 = .ok (.getfield 25, 3) := by decide +kernel
theorem dX7_item_100 : decode cX7_item 100 = .ok (.iload_n 2, 1) := by decide +kernel
theorem dX7_item_101 : decode cX7_item 101 = .ok (.iload_n 3, 1) := by decide +kernel
theorem dX7_item_102 : decode cX7_item 102 = .ok (.iastore, 1) := by decide +kernel
theorem dX7_item_103 : decode cX7_item 103 = .ok (.goto 15, 3) := by decide +kernel
theorem dX7_item_106 : decode cX7_item 106 = .ok (.iload_n 1, 1) := by decide +kernel
theorem dX7_item_107 : decode cX7_item 107 = .ok (.iconst 3, 1) := by decide +kernel
theorem dX7_item_108 : decode cX7_item 108 = .ok (.if_icmp .ne 10, 3) := by decide +kernel
theorem dX7_item_111 : decode cX7_item 111 = .ok (.aload_n 0, 1) := by decide +kernel
theorem dX7_item_112 : decode cX7_item 112 = .ok (.getfield 25, 3) := by decide +kernel
theorem dX7_item_115 : decode cX7_item 115 = .ok (.iload_n 2, 1) := by decide +kernel
theorem dX7_item_116 : decode cX7_item 116 = .ok (.iconst (-1), 1) := by decide +kernel
theorem dX7_item_117 : decode cX7_item 117 = .ok (.iastore, 1) := by decide +kernel
theorem dX7_item_118 : decode cX7_item 118 = .ok (.aload_n 0, 1) := by decide +kernel
theorem dX7_item_119 : decode cX7_item 119 = .ok (.dup, 1) := by decide +kernel
theorem dX7_item_120 : decode cX7_item 120 = .ok (.getfield 93, 3) := by decide +kernel
theorem dX7_item_123 : decode cX7_item 123 = .ok (.iconst 1, 1) := by decide +kernel
theorem dX7_item_124 : decode cX7_item 124 = .ok (.iadd, 1) := by decide +kernel
theorem dX7_item_125 : decode cX7_item 125 = .ok (.putfield 93, 3) := by decide +kernel
theorem dX7_item_128 : decode cX7_item 128 = .ok (.aload_n 0, 1) := by decide +kernel
theorem dX7_item_129 : decode cX7_item 129 = .ok (.getfield 93, 3) := by decide +kernel
theorem dX7_item_132 : decode cX7_item 132 = .ok (.ireturn, 1) := by decide +kernel
theorem dX7_clear_0 : decode cX7_clear 0 = .ok (.aload_n 0, 1) := by decide +kernel
theorem dX7_clear_1 : decode cX7_clear 1 = .ok (.iconst 0, 1) := by decide +kernel
theorem dX7_clear_2 : decode cX7_clear 2 = .ok (.putfield 78, 3) := by decide +kernel
theorem dX7_clear_5 : decode cX7_clear 5 = .ok (.aload_n 0, 1) := by decide +kernel
theorem dX7_clear_6 : decode cX7_clear 6 = .ok (.getfield 93, 3) := by decide +kernel
theorem dX7_clear_9 : decode cX7_clear 9 = .ok (.istore_n 1, 1) := by decide +kernel
theorem dX7_clear_10 : decode cX7_clear 10 = .ok (.aload_n 0, 1) := by decide +kernel
theorem dX7_clear_11 : decode cX7_clear 11 = .ok (.iconst 0, 1) := by decide +kernel
theorem dX7_clear_12 : decode cX7_clear 12 = .ok (.putfield 93, 3) := by decide +kernel
theorem dX7_clear_15 : decode cX7_clear 15 = .ok (.aload_n 0, 1) := by decide +kernel
theorem dX7_clear_16 : decode cX7_clear 16 = .ok (.iconst 0, 1) := by decide +kernel
theorem dX7_clear_17 : decode cX7_clear 17 = .ok (.putfield 124, 3) := by decide +kernel
theorem dX7_clear_20 : decode cX7_clear 20 = .ok (.iconst 0, 1) := by decide +kernel
theorem dX7_clear_21 : decode cX7_clear 21 = .ok (.istore_n 2, 1) := by decide +kernel
theorem dX7_clear_22 : decode cX7_clear 22 = .ok (.iload_n 2, 1) := by decide +kernel
theorem dX7_clear_23 : decode cX7_clear 23 = .ok (.iconst 4, 1) := by decide +kernel
theorem dX7_clear_24 : decode cX7_clear 24 = .ok (.if_icmp .ge 16, 3) := by decide +kernel
theorem dX7_clear_27 : decode cX7_clear 27 = .ok (.aload_n 0, 1) := by decide +kernel
theorem dX7_clear_28 : decode cX7_clear 28 = .ok (.getfield 25, 3) := by decide +kernel
theorem dX7_clear_31 : decode cX7_clear 31 = .ok (.iload_n 2, 1) := by decide +kernel
theorem dX7_clear_32 : decode cX7_clear 32 = .ok (.iconst (-1), 1) := by decide +kernel
theorem dX7_clear_33 : decode cX7_clear 33 = .ok (.iastore, 1) := by decide +kernel
theorem dX7_clear_34 : decode cX7_clear 34 = .ok (.iinc 2 1, 3) := by decide +kernel
theorem dX7_clear_37 : decode cX7_clear 37 = .ok (.goto (-15), 3) := by decide +kernel
theorem dX7_clear_40 : decode cX7_clear 40 = .ok (.iload_n 1, 1) := by decide +kernel
theorem dX7_clear_41 : decode cX7_clear 41 = .ok (.ireturn, 1) := by decide +kernel
theorem dX7_articulatorOf_0 : decode cX7_articulatorOf 0 = .ok (.iload_n 0, 1) := by decide +kernel
theorem dX7_articulatorOf_1 : decode cX7_articulatorOf 1 = .ok (.iconst 2, 1) := by decide +kernel
theorem dX7_articulatorOf_2 : decode cX7_articulatorOf 2 = .ok (.if_icmp .ge 7, 3) := by decide +kernel
theorem dX7_articulatorOf_5 : decode cX7_articulatorOf 5 = .ok (.iconst 0, 1) := by decide +kernel
theorem dX7_articulatorOf_6 : decode cX7_articulatorOf 6 = .ok (.goto 6, 3) := by decide +kernel
theorem dX7_articulatorOf_9 : decode cX7_articulatorOf 9 = .ok (.iload_n 0, 1) := by decide +kernel
theorem dX7_articulatorOf_10 : decode cX7_articulatorOf 10 = .ok (.iconst 1, 1) := by decide +kernel
theorem dX7_articulatorOf_11 : decode cX7_articulatorOf 11 = .ok (.isub, 1) := by decide +kernel
theorem dX7_articulatorOf_12 : decode cX7_articulatorOf 12 = .ok (.ireturn, 1) := by decide +kernel
theorem dX7_face_0 : decode cX7_face 0 = .ok (.aload_n 0, 1) := by decide +kernel
theorem dX7_face_1 : decode cX7_face 1 = .ok (.aload_n 0, 1) := by decide +kernel
theorem dX7_face_2 : decode cX7_face 2 = .ok (.iload_n 2, 1) := by decide +kernel
theorem dX7_face_3 : decode cX7_face 3 = .ok (.invokevirtual 127, 3) := by decide +kernel
theorem dX7_face_6 : decode cX7_face 6 = .ok (.ifCond .eq 11, 3) := by decide +kernel
theorem dX7_face_9 : decode cX7_face 9 = .ok (.aload_n 0, 1) := by decide +kernel
theorem dX7_face_10 : decode cX7_face 10 = .ok (.iload_n 3, 1) := by decide +kernel
theorem dX7_face_11 : decode cX7_face 11 = .ok (.invokevirtual 127, 3) := by decide +kernel
theorem dX7_face_14 : decode cX7_face 14 = .ok (.ifCond .ne 7, 3) := by decide +kernel
theorem dX7_face_17 : decode cX7_face 17 = .ok (.iconst 1, 1) := by decide +kernel
theorem dX7_face_18 : decode cX7_face 18 = .ok (.goto 35, 3) := by decide +kernel
theorem dX7_face_21 : decode cX7_face 21 = .ok (.iload_n 1, 1) := by decide +kernel
theorem dX7_face_22 : decode cX7_face 22 = .ok (.iconst 0, 1) := by decide +kernel
theorem dX7_face_23 : decode cX7_face 23 = .ok (.iconst 3, 1) := by decide +kernel
theorem dX7_face_24 : decode cX7_face 24 = .ok (.invokestatic 89, 3) := by decide +kernel
theorem dX7_face_27 : decode cX7_face 27 = .ok (.ifCond .eq 8, 3) := by decide +kernel
theorem dX7_face_30 : decode cX7_face 30 = .ok (.iload_n 3, 1) := by decide +kernel
theorem dX7_face_31 : decode cX7_face 31 = .ok (.iload_n 2, 1) := by decide +kernel
theorem dX7_face_32 : decode cX7_face 32 = .ok (.if_icmp .ge 7, 3) := by decide +kernel
theorem dX7_face_35 : decode cX7_face 35 = .ok (.iconst 2, 1) := by decide +kernel
theorem dX7_face_36 : decode cX7_face 36 = .ok (.goto 17, 3) := by decide +kernel
theorem dX7_face_39 : decode cX7_face 39 = .ok (.aload_n 0, 1) := by decide +kernel
theorem dX7_face_40 : decode cX7_face 40 = .ok (.getfield 124, 3) := by decide +kernel
theorem dX7_face_43 : decode cX7_face 43 = .ok (.bipush 8, 2) := by decide +kernel
theorem dX7_face_45 : decode cX7_face 45 = .ok (.if_icmp .ne 7, 3) := by decide +kernel
theorem dX7_face_48 : decode cX7_face 48 = .ok (.iconst 3, 1) := by decide +kernel
theorem dX7_face_49 : decode cX7_face 49 = .ok (.goto 4, 3) := by decide +kernel
theorem dX7_face_52 : decode cX7_face 52 = .ok (.iconst 0, 1) := by decide +kernel
theorem dX7_face_53 : decode cX7_face 53 = .ok (.putfield 78, 3) := by decide +kernel
theorem dX7_face_56 : decode cX7_face 56 = .ok (.iconst 0, 1) := by decide +kernel
theorem dX7_face_57 : decode cX7_face 57 = .ok (.istore 4, 2) := by decide +kernel
theorem dX7_face_59 : decode cX7_face 59 = .ok (.iload 4, 2) := by decide +kernel
theorem dX7_face_61 : decode cX7_face 61 = .ok (.aload_n 0, 1) := by decide +kernel
theorem dX7_face_62 : decode cX7_face 62 = .ok (.getfield 124, 3) := by decide +kernel
theorem dX7_face_65 : decode cX7_face 65 = .ok (.if_icmp .ge 64, 3) := by decide +kernel
theorem dX7_face_68 : decode cX7_face 68 = .ok (.aload_n 0, 1) := by decide +kernel
theorem dX7_face_69 : decode cX7_face 69 = .ok (.getfield 78, 3) := by decide +kernel
theorem dX7_face_72 : decode cX7_face 72 = .ok (.ifCond .ne 57, 3) := by decide +kernel
theorem dX7_face_75 : decode cX7_face 75 = .ok (.aload_n 0, 1) := by decide +kernel
theorem dX7_face_76 : decode cX7_face 76 = .ok (.aload_n 0, 1) := by decide +kernel
theorem dX7_face_77 : decode cX7_face 77 = .ok (.getfield 28, 3) := by decide +kernel
theorem dX7_face_80 : decode cX7_face 80 = .ok (.iload 4, 2) := by decide +kernel
theorem dX7_face_82 : decode cX7_face 82 = .ok (.iaload, 1) := by decide +kernel
theorem dX7_face_83 : decode cX7_face 83 = .ok (.invokestatic 130, 3) := by decide +kernel
theorem dX7_face_86 : decode cX7_face 86 = .ok (.iload_n 1, 1) := by decide +kernel
theorem dX7_face_87 : decode cX7_face 87 = .ok (.invokestatic 130, 3) := by decide +kernel
theorem dX7_face_90 : decode cX7_face 90 = .ok (.if_icmp .ne 29, 3) := by decide +kernel
theorem dX7_face_93 : decode cX7_face 93 = .ok (.aload_n 0, 1) := by decide +kernel
theorem dX7_face_94 : decode cX7_face 94 = .ok (.getfield 31, 3) := by decide +kernel
theorem dX7_face_97 : decode cX7_face 97 = .ok (.iload 4, 2) := by decide +kernel
theorem dX7_face_99 : decode cX7_face 99 = .ok (.iaload, 1) := by decide +kernel
theorem dX7_face_100 : decode cX7_face 100 = .ok (.iload_n 3, 1) := by decide +kernel
theorem dX7_face_101 : decode cX7_face 101 = .ok (.if_icmp .gt 18, 3) := by decide +kernel
theorem dX7_face_104 : decode cX7_face 104 = .ok (.iload_n 2, 1) := by decide +kernel
theorem dX7_face_105 : decode cX7_face 105 = .ok (.aload_n 0, 1) := by decide +kernel
theorem dX7_face_106 : decode cX7_face 106 = .ok (.getfield 34, 3) := by decide +kernel
theorem dX7_face_109 : decode cX7_face 109 = .ok (.iload 4, 2) := by decide +kernel
theorem dX7_face_111 : decode cX7_face 111 = .ok (.iaload, 1) := by decide +kernel
theorem dX7_face_112 : decode cX7_face 112 = .ok (.if_icmp .gt 7, 3) := by decide +kernel
theorem dX7_face_115 : decode cX7_face 115 = .ok (.iconst 3, 1) := by decide +kernel
theorem dX7_face_116 : decode cX7_face 116 = .ok (.goto 4, 3) := by decide +kernel
theorem dX7_face_119 : decode cX7_face 119 = .ok (.iconst 0, 1) := by decide +kernel
theorem dX7_face_120 : decode cX7_face 120 = .ok (.putfield 78, 3) := by decide +kernel
theorem dX7_face_123 : decode cX7_face 123 = .ok (.iinc 4 1, 3) := by decide +kernel
theorem dX7_face_126 : decode cX7_face 126 = .ok (.goto (-67), 3) := by decide +kernel
theorem dX7_face_129 : decode cX7_face 129 = .ok (.aload_n 0, 1) := by decide +kernel
theorem dX7_face_130 : decode cX7_face 130 = .ok (.getfield 78, 3) := by decide +kernel
theorem dX7_face_133 : decode cX7_face 133 = .ok (.ifCond .le 5, 3) := by decide +kernel
theorem dX7_face_136 : decode cX7_face 136 = .ok (.iconst 0, 1) := by decide +kernel
theorem dX7_face_137 : decode cX7_face 137 = .ok (.ireturn, 1) := by decide +kernel
theorem dX7_face_138 : decode cX7_face 138 = .ok (.aload_n 0, 1) := by decide +kernel
theorem dX7_face_139 : decode cX7_face 139 = .ok (.getfield 28, 3) := by decide +kernel
theorem dX7_face_142 : decode cX7_face 142 = .ok (.aload_n 0, 1) := by decide +kernel
theorem dX7_face_143 : decode cX7_face 143 = .ok (.getfield 124, 3) := by decide +kernel
theorem dX7_face_146 : decode cX7_face 146 = .ok (.iload_n 1, 1) := by decide +kernel
theorem dX7_face_147 : decode cX7_face 147 = .ok (.iastore, 1) := by decide +kernel
theorem dX7_face_148 : decode cX7_face 148 = .ok (.aload_n 0, 1) := by decide +kernel
theorem dX7_face_149 : decode cX7_face 149 = .ok (.getfield 31, 3) := by decide +kernel
theorem dX7_face_152 : decode cX7_face 152 = .ok (.aload_n 0, 1) := by decide +kernel
theorem dX7_face_153 : decode cX7_face 153 = .ok (.getfield 124, 3) := by decide +kernel
theorem dX7_face_156 : decode cX7_face 156 = .ok (.iload_n 2, 1) := by decide +kernel
theorem dX7_face_157 : decode cX7_face 157 = .ok (.iastore, 1) := by decide +kernel
theorem dX7_face_158 : decode cX7_face 158 = .ok (.aload_n 0, 1) := by decide +kernel
theorem dX7_face_159 : decode cX7_face 159 = .ok (.getfield 34, 3) := by decide +kernel
theorem dX7_face_162 : decode cX7_face 162 = .ok (.aload_n 0, 1) := by decide +kernel
theorem dX7_face_163 : decode cX7_face 163 = .ok (.getfield 124, 3) := by decide +kernel
theorem dX7_face_166 : decode cX7_face 166 = .ok (.iload_n 3, 1) := by decide +kernel
theorem dX7_face_167 : decode cX7_face 167 = .ok (.iastore, 1) := by decide +kernel
theorem dX7_face_168 : decode cX7_face 168 = .ok (.aload_n 0, 1) := by decide +kernel
theorem dX7_face_169 : decode cX7_face 169 = .ok (.dup, 1) := by decide +kernel
theorem dX7_face_170 : decode cX7_face 170 = .ok (.getfield 124, 3) := by decide +kernel
theorem dX7_face_173 : decode cX7_face 173 = .ok (.iconst 1, 1) := by decide +kernel
theorem dX7_face_174 : decode cX7_face 174 = .ok (.iadd, 1) := by decide +kernel
theorem dX7_face_175 : decode cX7_face 175 = .ok (.putfield 124, 3) := by decide +kernel
theorem dX7_face_178 : decode cX7_face 178 = .ok (.aload_n 0, 1) := by decide +kernel
theorem dX7_face_179 : decode cX7_face 179 = .ok (.getfield 124, 3) := by decide +kernel
theorem dX7_face_182 : decode cX7_face 182 = .ok (.ireturn, 1) := by decide +kernel
theorem dX7_over_0 : decode cX7_over 0 = .ok (.iconst (-1), 1) := by decide +kernel
theorem dX7_over_1 : decode cX7_over 1 = .ok (.istore_n 3, 1) := by decide +kernel
theorem dX7_over_2 : decode cX7_over 2 = .ok (.iconst 0, 1) := by decide +kernel
theorem dX7_over_3 : decode cX7_over 3 = .ok (.istore 4, 2) := by decide +kernel
theorem dX7_over_5 : decode cX7_over 5 = .ok (.iload 4, 2) := by decide +kernel
theorem dX7_over_7 : decode cX7_over 7 = .ok (.aload_n 0, 1) := by decide +kernel
theorem dX7_over_8 : decode cX7_over 8 = .ok (.getfield 124, 3) := by decide +kernel
theorem dX7_over_11 : decode cX7_over 11 = .ok (.if_icmp .ge 51, 3) := by decide +kernel
theorem dX7_over_14 : decode cX7_over 14 = .ok (.aload_n 0, 1) := by decide +kernel
theorem dX7_over_15 : decode cX7_over 15 = .ok (.getfield 28, 3) := by decide +kernel
theorem dX7_over_18 : decode cX7_over 18 = .ok (.iload 4, 2) := by decide +kernel
theorem dX7_over_20 : decode cX7_over 20 = .ok (.iaload, 1) := by decide +kernel
theorem dX7_over_21 : decode cX7_over 21 = .ok (.invokestatic 130, 3) := by decide +kernel
theorem dX7_over_24 : decode cX7_over 24 = .ok (.iload_n 2, 1) := by decide +kernel
theorem dX7_over_25 : decode cX7_over 25 = .ok (.if_icmp .ne 29, 3) := by decide +kernel
theorem dX7_over_28 : decode cX7_over 28 = .ok (.iload_n 1, 1) := by decide +kernel
theorem dX7_over_29 : decode cX7_over 29 = .ok (.aload_n 0, 1) := by decide +kernel
theorem dX7_over_30 : decode cX7_over 30 = .ok (.getfield 31, 3) := by decide +kernel
theorem dX7_over_33 : decode cX7_over 33 = .ok (.iload 4, 2) := by decide +kernel
theorem dX7_over_35 : decode cX7_over 35 = .ok (.iaload, 1) := by decide +kernel
theorem dX7_over_36 : decode cX7_over 36 = .ok (.aload_n 0, 1) := by decide +kernel
theorem dX7_over_37 : decode cX7_over 37 = .ok (.getfield 34, 3) := by decide +kernel
theorem dX7_over_40 : decode cX7_over 40 = .ok (.iload 4, 2) := by decide +kernel
theorem dX7_over_42 : decode cX7_over 42 = .ok (.iaload, 1) := by decide +kernel
theorem dX7_over_43 : decode cX7_over 43 = .ok (.invokestatic 89, 3) := by decide +kernel
theorem dX7_over_46 : decode cX7_over 46 = .ok (.ifCond .eq 8, 3) := by decide +kernel
theorem dX7_over_49 : decode cX7_over 49 = .ok (.iload 4, 2) := by decide +kernel
theorem dX7_over_51 : decode cX7_over 51 = .ok (.goto 4, 3) := by decide +kernel
theorem dX7_over_54 : decode cX7_over 54 = .ok (.iload_n 3, 1) := by decide +kernel
theorem dX7_over_55 : decode cX7_over 55 = .ok (.istore_n 3, 1) := by decide +kernel
theorem dX7_over_56 : decode cX7_over 56 = .ok (.iinc 4 1, 3) := by decide +kernel
theorem dX7_over_59 : decode cX7_over 59 = .ok (.goto (-54), 3) := by decide +kernel
theorem dX7_over_62 : decode cX7_over 62 = .ok (.iload_n 3, 1) := by decide +kernel
theorem dX7_over_63 : decode cX7_over 63 = .ok (.ireturn, 1) := by decide +kernel
theorem dX7_isPointing_0 : decode cX7_isPointing 0 = .ok (.aload_n 0, 1) := by decide +kernel
theorem dX7_isPointing_1 : decode cX7_isPointing 1 = .ok (.getfield 13, 3) := by decide +kernel
theorem dX7_isPointing_4 : decode cX7_isPointing 4 = .ok (.iload_n 1, 1) := by decide +kernel
theorem dX7_isPointing_5 : decode cX7_isPointing 5 = .ok (.iaload, 1) := by decide +kernel
theorem dX7_isPointing_6 : decode cX7_isPointing 6 = .ok (.iconst 1, 1) := by decide +kernel
theorem dX7_isPointing_7 : decode cX7_isPointing 7 = .ok (.iconst 3, 1) := by decide +kernel
theorem dX7_isPointing_8 : decode cX7_isPointing 8 = .ok (.invokestatic 89, 3) := by decide +kernel
theorem dX7_isPointing_11 : decode cX7_isPointing 11 = .ok (.ireturn, 1) := by decide +kernel
theorem dX7_shownAt_0 : decode cX7_shownAt 0 = .ok (.iload_n 1, 1) := by decide +kernel
theorem dX7_shownAt_1 : decode cX7_shownAt 1 = .ok (.istore_n 3, 1) := by decide +kernel
theorem dX7_shownAt_2 : decode cX7_shownAt 2 = .ok (.iload_n 3, 1) := by decide +kernel
theorem dX7_shownAt_3 : decode cX7_shownAt 3 = .ok (.ifCond .le 27, 3) := by decide +kernel
theorem dX7_shownAt_6 : decode cX7_shownAt 6 = .ok (.aload_n 0, 1) := by decide +kernel
theorem dX7_shownAt_7 : decode cX7_shownAt 7 = .ok (.iload_n 3, 1) := by decide +kernel
theorem dX7_shownAt_8 : decode cX7_shownAt 8 = .ok (.iload_n 2, 1) := by decide +kernel
theorem dX7_shownAt_9 : decode cX7_shownAt 9 = .ok (.invokevirtual 133, 3) := by decide +kernel
theorem dX7_shownAt_12 : decode cX7_shownAt 12 = .ok (.iconst (-1), 1) := by decide +kernel
theorem dX7_shownAt_13 : decode cX7_shownAt 13 = .ok (.if_icmp .ne 17, 3) := by decide +kernel
theorem dX7_shownAt_16 : decode cX7_shownAt 16 = .ok (.aload_n 0, 1) := by decide +kernel
theorem dX7_shownAt_17 : decode cX7_shownAt 17 = .ok (.iload_n 3, 1) := by decide +kernel
theorem dX7_shownAt_18 : decode cX7_shownAt 18 = .ok (.invokevirtual 136, 3) := by decide +kernel
theorem dX7_shownAt_21 : decode cX7_shownAt 21 = .ok (.ifCond .eq 9, 3) := by decide +kernel
theorem dX7_shownAt_24 : decode cX7_shownAt 24 = .ok (.iinc 3 (-1), 3) := by decide +kernel
theorem dX7_shownAt_27 : decode cX7_shownAt 27 = .ok (.goto (-25), 3) := by decide +kernel
theorem dX7_shownAt_30 : decode cX7_shownAt 30 = .ok (.aload_n 0, 1) := by decide +kernel
theorem dX7_shownAt_31 : decode cX7_shownAt 31 = .ok (.iload_n 3, 1) := by decide +kernel
theorem dX7_shownAt_32 : decode cX7_shownAt 32 = .ok (.iload_n 2, 1) := by decide +kernel
theorem dX7_shownAt_33 : decode cX7_shownAt 33 = .ok (.invokevirtual 133, 3) := by decide +kernel
theorem dX7_shownAt_36 : decode cX7_shownAt 36 = .ok (.istore 4, 2) := by decide +kernel
theorem dX7_shownAt_38 : decode cX7_shownAt 38 = .ok (.iload 4, 2) := by decide +kernel
theorem dX7_shownAt_40 : decode cX7_shownAt 40 = .ok (.iconst (-1), 1) := by decide +kernel
theorem dX7_shownAt_41 : decode cX7_shownAt 41 = .ok (.if_icmp .ne 7, 3) := by decide +kernel
theorem dX7_shownAt_44 : decode cX7_shownAt 44 = .ok (.iconst (-1), 1) := by decide +kernel
theorem dX7_shownAt_45 : decode cX7_shownAt 45 = .ok (.goto 10, 3) := by decide +kernel
theorem dX7_shownAt_48 : decode cX7_shownAt 48 = .ok (.aload_n 0, 1) := by decide +kernel
theorem dX7_shownAt_49 : decode cX7_shownAt 49 = .ok (.getfield 28, 3) := by decide +kernel
theorem dX7_shownAt_52 : decode cX7_shownAt 52 = .ok (.iload 4, 2) := by decide +kernel
theorem dX7_shownAt_54 : decode cX7_shownAt 54 = .ok (.iaload, 1) := by decide +kernel
theorem dX7_shownAt_55 : decode cX7_shownAt 55 = .ok (.ireturn, 1) := by decide +kernel
theorem dX7_shown_0 : decode cX7_shown 0 = .ok (.aload_n 0, 1) := by decide +kernel
theorem dX7_shown_1 : decode cX7_shown 1 = .ok (.aload_n 0, 1) := by decide +kernel
theorem dX7_shown_2 : decode cX7_shown 2 = .ok (.iload_n 1, 1) := by decide +kernel
theorem dX7_shown_3 : decode cX7_shown 3 = .ok (.invokevirtual 127, 3) := by decide +kernel
theorem dX7_shown_6 : decode cX7_shown 6 = .ok (.ifCond .ne 7, 3) := by decide +kernel
theorem dX7_shown_9 : decode cX7_shown 9 = .ok (.iconst 1, 1) := by decide +kernel
theorem dX7_shown_10 : decode cX7_shown 10 = .ok (.goto 17, 3) := by decide +kernel
theorem dX7_shown_13 : decode cX7_shown 13 = .ok (.iload_n 2, 1) := by decide +kernel
theorem dX7_shown_14 : decode cX7_shown 14 = .ok (.iconst 0, 1) := by decide +kernel
theorem dX7_shown_15 : decode cX7_shown 15 = .ok (.iconst 2, 1) := by decide +kernel
theorem dX7_shown_16 : decode cX7_shown 16 = .ok (.invokestatic 89, 3) := by decide +kernel
theorem dX7_shown_19 : decode cX7_shown 19 = .ok (.ifCond .ne 7, 3) := by decide +kernel
theorem dX7_shown_22 : decode cX7_shown 22 = .ok (.iconst 2, 1) := by decide +kernel
theorem dX7_shown_23 : decode cX7_shown 23 = .ok (.goto 4, 3) := by decide +kernel
theorem dX7_shown_26 : decode cX7_shown 26 = .ok (.iconst 0, 1) := by decide +kernel
theorem dX7_shown_27 : decode cX7_shown 27 = .ok (.putfield 78, 3) := by decide +kernel
theorem dX7_shown_30 : decode cX7_shown 30 = .ok (.aload_n 0, 1) := by decide +kernel
theorem dX7_shown_31 : decode cX7_shown 31 = .ok (.getfield 78, 3) := by decide +kernel
theorem dX7_shown_34 : decode cX7_shown 34 = .ok (.ifCond .le 7, 3) := by decide +kernel
theorem dX7_shown_37 : decode cX7_shown 37 = .ok (.iconst 0, 1) := by decide +kernel
theorem dX7_shown_38 : decode cX7_shown 38 = .ok (.goto 9, 3) := by decide +kernel
theorem dX7_shown_41 : decode cX7_shown 41 = .ok (.aload_n 0, 1) := by decide +kernel
theorem dX7_shown_42 : decode cX7_shown 42 = .ok (.iload_n 1, 1) := by decide +kernel
theorem dX7_shown_43 : decode cX7_shown 43 = .ok (.iload_n 2, 1) := by decide +kernel
theorem dX7_shown_44 : decode cX7_shown 44 = .ok (.invokevirtual 139, 3) := by decide +kernel
theorem dX7_shown_47 : decode cX7_shown 47 = .ok (.ireturn, 1) := by decide +kernel
theorem dX7_standsFor_0 : decode cX7_standsFor 0 = .ok (.aload_n 0, 1) := by decide +kernel
theorem dX7_standsFor_1 : decode cX7_standsFor 1 = .ok (.aload_n 0, 1) := by decide +kernel
theorem dX7_standsFor_2 : decode cX7_standsFor 2 = .ok (.iload_n 1, 1) := by decide +kernel
theorem dX7_standsFor_3 : decode cX7_standsFor 3 = .ok (.invokevirtual 127, 3) := by decide +kernel
theorem dX7_standsFor_6 : decode cX7_standsFor 6 = .ok (.ifCond .eq 14, 3) := by decide +kernel
theorem dX7_standsFor_9 : decode cX7_standsFor 9 = .ok (.iload_n 2, 1) := by decide +kernel
theorem dX7_standsFor_10 : decode cX7_standsFor 10 = .ok (.invokestatic 114, 3) := by decide +kernel
theorem dX7_standsFor_13 : decode cX7_standsFor 13 = .ok (.ifCond .eq 7, 3) := by decide +kernel
theorem dX7_standsFor_16 : decode cX7_standsFor 16 = .ok (.iconst 0, 1) := by decide +kernel
theorem dX7_standsFor_17 : decode cX7_standsFor 17 = .ok (.goto 4, 3) := by decide +kernel
theorem dX7_standsFor_20 : decode cX7_standsFor 20 = .ok (.iconst 1, 1) := by decide +kernel
theorem dX7_standsFor_21 : decode cX7_standsFor 21 = .ok (.putfield 78, 3) := by decide +kernel
theorem dX7_standsFor_24 : decode cX7_standsFor 24 = .ok (.iconst (-1), 1) := by decide +kernel
theorem dX7_standsFor_25 : decode cX7_standsFor 25 = .ok (.istore_n 3, 1) := by decide +kernel
theorem dX7_standsFor_26 : decode cX7_standsFor 26 = .ok (.iconst 0, 1) := by decide +kernel
theorem dX7_standsFor_27 : decode cX7_standsFor 27 = .ok (.istore 4, 2) := by decide +kernel
theorem dX7_standsFor_29 : decode cX7_standsFor 29 = .ok (.iload 4, 2) := by decide +kernel
theorem dX7_standsFor_31 : decode cX7_standsFor 31 = .ok (.iload_n 1, 1) := by decide +kernel
theorem dX7_standsFor_32 : decode cX7_standsFor 32 = .ok (.if_icmp .gt 82, 3) := by decide +kernel
theorem dX7_standsFor_35 : decode cX7_standsFor 35 = .ok (.aload_n 0, 1) := by decide +kernel
theorem dX7_standsFor_36 : decode cX7_standsFor 36 = .ok (.getfield 78, 3) := by decide +kernel
theorem dX7_standsFor_39 : decode cX7_standsFor 39 = .ok (.ifCond .ne 75, 3) := by decide +kernel
theorem dX7_standsFor_42 : decode cX7_standsFor 42 = .ok (.aload_n 0, 1) := by decide +kernel
theorem dX7_standsFor_43 : decode cX7_standsFor 43 = .ok (.getfield 16, 3) := by decide +kernel
theorem dX7_standsFor_46 : decode cX7_standsFor 46 = .ok (.iload 4, 2) := by decide +kernel
theorem dX7_standsFor_48 : decode cX7_standsFor 48 = .ok (.iaload, 1) := by decide +kernel
theorem dX7_standsFor_49 : decode cX7_standsFor 49 = .ok (.iload_n 2, 1) := by decide +kernel
theorem dX7_standsFor_50 : decode cX7_standsFor 50 = .ok (.if_icmp .ne 7, 3) := by decide +kernel
theorem dX7_standsFor_53 : decode cX7_standsFor 53 = .ok (.iconst 1, 1) := by decide +kernel
theorem dX7_standsFor_54 : decode cX7_standsFor 54 = .ok (.goto 4, 3) := by decide +kernel
theorem dX7_standsFor_57 : decode cX7_standsFor 57 = .ok (.iconst 0, 1) := by decide +kernel
theorem dX7_standsFor_58 : decode cX7_standsFor 58 = .ok (.istore 5, 2) := by decide +kernel
theorem dX7_standsFor_60 : decode cX7_standsFor 60 = .ok (.iload 5, 2) := by decide +kernel
theorem dX7_standsFor_62 : decode cX7_standsFor 62 = .ok (.ifCond .eq 24, 3) := by decide +kernel
theorem dX7_standsFor_65 : decode cX7_standsFor 65 = .ok (.aload_n 0, 1) := by decide +kernel
theorem dX7_standsFor_66 : decode cX7_standsFor 66 = .ok (.getfield 13, 3) := by decide +kernel
theorem dX7_standsFor_69 : decode cX7_standsFor 69 = .ok (.iload 4, 2) := by decide +kernel
theorem dX7_standsFor_71 : decode cX7_standsFor 71 = .ok (.iaload, 1) := by decide +kernel
theorem dX7_standsFor_72 : decode cX7_standsFor 72 = .ok (.iconst 1, 1) := by decide +kernel
theorem dX7_standsFor_73 : decode cX7_standsFor 73 = .ok (.if_icmp .ne 13, 3) := by decide +kernel
theorem dX7_standsFor_76 : decode cX7_standsFor 76 = .ok (.aload_n 0, 1) := by decide +kernel
theorem dX7_standsFor_77 : decode cX7_standsFor 77 = .ok (.getfield 19, 3) := by decide +kernel
theorem dX7_standsFor_80 : decode cX7_standsFor 80 = .ok (.iload 4, 2) := by decide +kernel
theorem dX7_standsFor_82 : decode cX7_standsFor 82 = .ok (.iaload, 1) := by decide +kernel
theorem dX7_standsFor_83 : decode cX7_standsFor 83 = .ok (.goto 24, 3) := by decide +kernel
theorem dX7_standsFor_86 : decode cX7_standsFor 86 = .ok (.iload 5, 2) := by decide +kernel
theorem dX7_standsFor_88 : decode cX7_standsFor 88 = .ok (.ifCond .eq 18, 3) := by decide +kernel
theorem dX7_standsFor_91 : decode cX7_standsFor 91 = .ok (.aload_n 0, 1) := by decide +kernel
theorem dX7_standsFor_92 : decode cX7_standsFor 92 = .ok (.getfield 13, 3) := by decide +kernel
theorem dX7_standsFor_95 : decode cX7_standsFor 95 = .ok (.iload 4, 2) := by decide +kernel
theorem dX7_standsFor_97 : decode cX7_standsFor 97 = .ok (.iaload, 1) := by decide +kernel
theorem dX7_standsFor_98 : decode cX7_standsFor 98 = .ok (.iconst 3, 1) := by decide +kernel
theorem dX7_standsFor_99 : decode cX7_standsFor 99 = .ok (.if_icmp .ne 7, 3) := by decide +kernel
theorem dX7_standsFor_102 : decode cX7_standsFor 102 = .ok (.iconst (-1), 1) := by decide +kernel
theorem dX7_standsFor_103 : decode cX7_standsFor 103 = .ok (.goto 4, 3) := by decide +kernel
theorem dX7_standsFor_106 : decode cX7_standsFor 106 = .ok (.iload_n 3, 1) := by decide +kernel
theorem dX7_standsFor_107 : decode cX7_standsFor 107 = .ok (.istore_n 3, 1) := by decide +kernel
theorem dX7_standsFor_108 : decode cX7_standsFor 108 = .ok (.iinc 4 1, 3) := by decide +kernel
theorem dX7_standsFor_111 : decode cX7_standsFor 111 = .ok (.goto (-82), 3) := by decide +kernel
theorem dX7_standsFor_114 : decode cX7_standsFor 114 = .ok (.aload_n 0, 1) := by decide +kernel
theorem dX7_standsFor_115 : decode cX7_standsFor 115 = .ok (.getfield 78, 3) := by decide +kernel
theorem dX7_standsFor_118 : decode cX7_standsFor 118 = .ok (.ifCond .le 7, 3) := by decide +kernel
theorem dX7_standsFor_121 : decode cX7_standsFor 121 = .ok (.iconst 0, 1) := by decide +kernel
theorem dX7_standsFor_122 : decode cX7_standsFor 122 = .ok (.goto 4, 3) := by decide +kernel
theorem dX7_standsFor_125 : decode cX7_standsFor 125 = .ok (.iload_n 3, 1) := by decide +kernel
theorem dX7_standsFor_126 : decode cX7_standsFor 126 = .ok (.ireturn, 1) := by decide +kernel
theorem dX7_rule_0 : decode cX7_rule 0 = .ok (.aload_n 0, 1) := by decide +kernel
theorem dX7_rule_1 : decode cX7_rule 1 = .ok (.iload_n 1, 1) := by decide +kernel
theorem dX7_rule_2 : decode cX7_rule 2 = .ok (.iconst 0, 1) := by decide +kernel
theorem dX7_rule_3 : decode cX7_rule 3 = .ok (.iconst 4, 1) := by decide +kernel
theorem dX7_rule_4 : decode cX7_rule 4 = .ok (.invokestatic 89, 3) := by decide +kernel
theorem dX7_rule_7 : decode cX7_rule 7 = .ok (.ifCond .ne 7, 3) := by decide +kernel
theorem dX7_rule_10 : decode cX7_rule 10 = .ok (.iconst 1, 1) := by decide +kernel
theorem dX7_rule_11 : decode cX7_rule 11 = .ok (.goto 17, 3) := by decide +kernel
theorem dX7_rule_14 : decode cX7_rule 14 = .ok (.aload_n 0, 1) := by decide +kernel
theorem dX7_rule_15 : decode cX7_rule 15 = .ok (.getfield 142, 3) := by decide +kernel
theorem dX7_rule_18 : decode cX7_rule 18 = .ok (.bipush 6, 2) := by decide +kernel
theorem dX7_rule_20 : decode cX7_rule 20 = .ok (.if_icmp .ne 7, 3) := by decide +kernel
theorem dX7_rule_23 : decode cX7_rule 23 = .ok (.iconst 2, 1) := by decide +kernel
theorem dX7_rule_24 : decode cX7_rule 24 = .ok (.goto 4, 3) := by decide +kernel
theorem dX7_rule_27 : decode cX7_rule 27 = .ok (.iconst 0, 1) := by decide +kernel
theorem dX7_rule_28 : decode cX7_rule 28 = .ok (.putfield 78, 3) := by decide +kernel
theorem dX7_rule_31 : decode cX7_rule 31 = .ok (.aload_n 0, 1) := by decide +kernel
theorem dX7_rule_32 : decode cX7_rule 32 = .ok (.getfield 78, 3) := by decide +kernel
theorem dX7_rule_35 : decode cX7_rule 35 = .ok (.ifCond .le 5, 3) := by decide +kernel
theorem dX7_rule_38 : decode cX7_rule 38 = .ok (.iconst 0, 1) := by decide +kernel
theorem dX7_rule_39 : decode cX7_rule 39 = .ok (.ireturn, 1) := by decide +kernel
theorem dX7_rule_40 : decode cX7_rule 40 = .ok (.aload_n 0, 1) := by decide +kernel
theorem dX7_rule_41 : decode cX7_rule 41 = .ok (.getfield 37, 3) := by decide +kernel
theorem dX7_rule_44 : decode cX7_rule 44 = .ok (.aload_n 0, 1) := by decide +kernel
theorem dX7_rule_45 : decode cX7_rule 45 = .ok (.getfield 142, 3) := by decide +kernel
theorem dX7_rule_48 : decode cX7_rule 48 = .ok (.iload_n 1, 1) := by decide +kernel
theorem dX7_rule_49 : decode cX7_rule 49 = .ok (.iastore, 1) := by decide +kernel
theorem dX7_rule_50 : decode cX7_rule 50 = .ok (.aload_n 0, 1) := by decide +kernel
theorem dX7_rule_51 : decode cX7_rule 51 = .ok (.getfield 40, 3) := by decide +kernel
theorem dX7_rule_54 : decode cX7_rule 54 = .ok (.aload_n 0, 1) := by decide +kernel
theorem dX7_rule_55 : decode cX7_rule 55 = .ok (.getfield 142, 3) := by decide +kernel
theorem dX7_rule_58 : decode cX7_rule 58 = .ok (.iconst 0, 1) := by decide +kernel
theorem dX7_rule_59 : decode cX7_rule 59 = .ok (.iastore, 1) := by decide +kernel
theorem dX7_rule_60 : decode cX7_rule 60 = .ok (.aload_n 0, 1) := by decide +kernel
theorem dX7_rule_61 : decode cX7_rule 61 = .ok (.dup, 1) := by decide +kernel
theorem dX7_rule_62 : decode cX7_rule 62 = .ok (.getfield 142, 3) := by decide +kernel
theorem dX7_rule_65 : decode cX7_rule 65 = .ok (.iconst 1, 1) := by decide +kernel
theorem dX7_rule_66 : decode cX7_rule 66 = .ok (.iadd, 1) := by decide +kernel
theorem dX7_rule_67 : decode cX7_rule 67 = .ok (.putfield 142, 3) := by decide +kernel
theorem dX7_rule_70 : decode cX7_rule 70 = .ok (.aload_n 0, 1) := by decide +kernel
theorem dX7_rule_71 : decode cX7_rule 71 = .ok (.getfield 142, 3) := by decide +kernel
theorem dX7_rule_74 : decode cX7_rule 74 = .ok (.iconst 1, 1) := by decide +kernel
theorem dX7_rule_75 : decode cX7_rule 75 = .ok (.isub, 1) := by decide +kernel
theorem dX7_rule_76 : decode cX7_rule 76 = .ok (.ireturn, 1) := by decide +kernel
theorem dX7_except_0 : decode cX7_except 0 = .ok (.aload_n 0, 1) := by decide +kernel
theorem dX7_except_1 : decode cX7_except 1 = .ok (.iload_n 1, 1) := by decide +kernel
theorem dX7_except_2 : decode cX7_except 2 = .ok (.iconst 0, 1) := by decide +kernel
theorem dX7_except_3 : decode cX7_except 3 = .ok (.aload_n 0, 1) := by decide +kernel
theorem dX7_except_4 : decode cX7_except 4 = .ok (.getfield 142, 3) := by decide +kernel
theorem dX7_except_7 : decode cX7_except 7 = .ok (.iconst 1, 1) := by decide +kernel
theorem dX7_except_8 : decode cX7_except 8 = .ok (.isub, 1) := by decide +kernel
theorem dX7_except_9 : decode cX7_except 9 = .ok (.invokestatic 89, 3) := by decide +kernel
theorem dX7_except_12 : decode cX7_except 12 = .ok (.ifCond .eq 15, 3) := by decide +kernel
theorem dX7_except_15 : decode cX7_except 15 = .ok (.aload_n 0, 1) := by decide +kernel
theorem dX7_except_16 : decode cX7_except 16 = .ok (.iload_n 2, 1) := by decide +kernel
theorem dX7_except_17 : decode cX7_except 17 = .ok (.invokevirtual 100, 3) := by decide +kernel
theorem dX7_except_20 : decode cX7_except 20 = .ok (.ifCond .eq 7, 3) := by decide +kernel
theorem dX7_except_23 : decode cX7_except 23 = .ok (.iconst 0, 1) := by decide +kernel
theorem dX7_except_24 : decode cX7_except 24 = .ok (.goto 4, 3) := by decide +kernel
theorem dX7_except_27 : decode cX7_except 27 = .ok (.iconst 1, 1) := by decide +kernel
theorem dX7_except_28 : decode cX7_except 28 = .ok (.putfield 78, 3) := by decide +kernel
theorem dX7_except_31 : decode cX7_except 31 = .ok (.aload_n 0, 1) := by decide +kernel
theorem dX7_except_32 : decode cX7_except 32 = .ok (.getfield 78, 3) := by decide +kernel
theorem dX7_except_35 : decode cX7_except 35 = .ok (.ifCond .le 5, 3) := by decide +kernel
theorem dX7_except_38 : decode cX7_except 38 = .ok (.iconst 0, 1) := by decide +kernel
theorem dX7_except_39 : decode cX7_except 39 = .ok (.ireturn, 1) := by decide +kernel
theorem dX7_except_40 : decode cX7_except 40 = .ok (.aload_n 0, 1) := by decide +kernel
theorem dX7_except_41 : decode cX7_except 41 = .ok (.getfield 40, 3) := by decide +kernel
theorem dX7_except_44 : decode cX7_except 44 = .ok (.iload_n 1, 1) := by decide +kernel
theorem dX7_except_45 : decode cX7_except 45 = .ok (.dup2, 1) := by decide +kernel
theorem dX7_except_46 : decode cX7_except 46 = .ok (.iaload, 1) := by decide +kernel
theorem dX7_except_47 : decode cX7_except 47 = .ok (.iconst 1, 1) := by decide +kernel
theorem dX7_except_48 : decode cX7_except 48 = .ok (.iload_n 2, 1) := by decide +kernel
theorem dX7_except_49 : decode cX7_except 49 = .ok (.ishl, 1) := by decide +kernel
theorem dX7_except_50 : decode cX7_except 50 = .ok (.ixor, 1) := by decide +kernel
theorem dX7_except_51 : decode cX7_except 51 = .ok (.iastore, 1) := by decide +kernel
theorem dX7_except_52 : decode cX7_except 52 = .ok (.aload_n 0, 1) := by decide +kernel
theorem dX7_except_53 : decode cX7_except 53 = .ok (.getfield 40, 3) := by decide +kernel
theorem dX7_except_56 : decode cX7_except 56 = .ok (.iload_n 1, 1) := by decide +kernel
theorem dX7_except_57 : decode cX7_except 57 = .ok (.iaload, 1) := by decide +kernel
theorem dX7_except_58 : decode cX7_except 58 = .ok (.iload_n 2, 1) := by decide +kernel
theorem dX7_except_59 : decode cX7_except 59 = .ok (.ishr, 1) := by decide +kernel
theorem dX7_except_60 : decode cX7_except 60 = .ok (.iconst 1, 1) := by decide +kernel
theorem dX7_except_61 : decode cX7_except 61 = .ok (.iand, 1) := by decide +kernel
theorem dX7_except_62 : decode cX7_except 62 = .ok (.iconst 1, 1) := by decide +kernel
theorem dX7_except_63 : decode cX7_except 63 = .ok (.if_icmp .ne 7, 3) := by decide +kernel
theorem dX7_except_66 : decode cX7_except 66 = .ok (.iconst 1, 1) := by decide +kernel
theorem dX7_except_67 : decode cX7_except 67 = .ok (.goto 4, 3) := by decide +kernel
theorem dX7_except_70 : decode cX7_except 70 = .ok (.iconst 0, 1) := by decide +kernel
theorem dX7_except_71 : decode cX7_except 71 = .ok (.ireturn, 1) := by decide +kernel
theorem dX7_hand_0 : decode cX7_hand 0 = .ok (.aload_n 0, 1) := by decide +kernel
theorem dX7_hand_1 : decode cX7_hand 1 = .ok (.getfield 75, 3) := by decide +kernel
theorem dX7_hand_4 : decode cX7_hand 4 = .ok (.bipush 7, 2) := by decide +kernel
theorem dX7_hand_6 : decode cX7_hand 6 = .ok (.iload_n 1, 1) := by decide +kernel
theorem dX7_hand_7 : decode cX7_hand 7 = .ok (.imul, 1) := by decide +kernel
theorem dX7_hand_8 : decode cX7_hand 8 = .ok (.iload_n 2, 1) := by decide +kernel
theorem dX7_hand_9 : decode cX7_hand 9 = .ok (.iadd, 1) := by decide +kernel
theorem dX7_hand_10 : decode cX7_hand 10 = .ok (.iaload, 1) := by decide +kernel
theorem dX7_hand_11 : decode cX7_hand 11 = .ok (.ireturn, 1) := by decide +kernel
theorem dX7_gives_0 : decode cX7_gives 0 = .ok (.aload_n 0, 1) := by decide +kernel
theorem dX7_gives_1 : decode cX7_gives 1 = .ok (.getfield 75, 3) := by decide +kernel
theorem dX7_gives_4 : decode cX7_gives 4 = .ok (.bipush 7, 2) := by decide +kernel
theorem dX7_gives_6 : decode cX7_gives 6 = .ok (.iload_n 1, 1) := by decide +kernel
theorem dX7_gives_7 : decode cX7_gives 7 = .ok (.imul, 1) := by decide +kernel
theorem dX7_gives_8 : decode cX7_gives 8 = .ok (.iload_n 2, 1) := by decide +kernel
theorem dX7_gives_9 : decode cX7_gives 9 = .ok (.iadd, 1) := by decide +kernel
theorem dX7_gives_10 : decode cX7_gives 10 = .ok (.iload_n 3, 1) := by decide +kernel
theorem dX7_gives_11 : decode cX7_gives 11 = .ok (.iastore, 1) := by decide +kernel
theorem dX7_gives_12 : decode cX7_gives 12 = .ok (.return_, 1) := by decide +kernel
theorem dX7_begins_0 : decode cX7_begins 0 = .ok (.aload_n 0, 1) := by decide +kernel
theorem dX7_begins_1 : decode cX7_begins 1 = .ok (.getfield 13, 3) := by decide +kernel
theorem dX7_begins_4 : decode cX7_begins 4 = .ok (.iload_n 1, 1) := by decide +kernel
theorem dX7_begins_5 : decode cX7_begins 5 = .ok (.iaload, 1) := by decide +kernel
theorem dX7_begins_6 : decode cX7_begins 6 = .ok (.istore_n 2, 1) := by decide +kernel
theorem dX7_begins_7 : decode cX7_begins 7 = .ok (.iload_n 2, 1) := by decide +kernel
theorem dX7_begins_8 : decode cX7_begins 8 = .ok (.ifCond .eq 8, 3) := by decide +kernel
theorem dX7_begins_11 : decode cX7_begins 11 = .ok (.iload_n 2, 1) := by decide +kernel
theorem dX7_begins_12 : decode cX7_begins 12 = .ok (.iconst 4, 1) := by decide +kernel
theorem dX7_begins_13 : decode cX7_begins 13 = .ok (.if_icmp .ne 7, 3) := by decide +kernel
theorem dX7_begins_16 : decode cX7_begins 16 = .ok (.iconst 1, 1) := by decide +kernel
theorem dX7_begins_17 : decode cX7_begins 17 = .ok (.goto 4, 3) := by decide +kernel
theorem dX7_begins_20 : decode cX7_begins 20 = .ok (.iconst 0, 1) := by decide +kernel
theorem dX7_begins_21 : decode cX7_begins 21 = .ok (.istore_n 3, 1) := by decide +kernel
theorem dX7_begins_22 : decode cX7_begins 22 = .ok (.iconst 0, 1) := by decide +kernel
theorem dX7_begins_23 : decode cX7_begins 23 = .ok (.istore 4, 2) := by decide +kernel
theorem dX7_begins_25 : decode cX7_begins 25 = .ok (.iload 4, 2) := by decide +kernel
theorem dX7_begins_27 : decode cX7_begins 27 = .ok (.bipush 7, 2) := by decide +kernel
theorem dX7_begins_29 : decode cX7_begins 29 = .ok (.if_icmp .ge 52, 3) := by decide +kernel
theorem dX7_begins_32 : decode cX7_begins 32 = .ok (.aload_n 0, 1) := by decide +kernel
theorem dX7_begins_33 : decode cX7_begins 33 = .ok (.iload_n 1, 1) := by decide +kernel
theorem dX7_begins_34 : decode cX7_begins 34 = .ok (.iload 4, 2) := by decide +kernel
theorem dX7_begins_36 : decode cX7_begins 36 = .ok (.iload_n 3, 1) := by decide +kernel
theorem dX7_begins_37 : decode cX7_begins 37 = .ok (.ifCond .eq 23, 3) := by decide +kernel
theorem dX7_begins_40 : decode cX7_begins 40 = .ok (.aload_n 0, 1) := by decide +kernel
theorem dX7_begins_41 : decode cX7_begins 41 = .ok (.getfield 7, 3) := by decide +kernel
theorem dX7_begins_44 : decode cX7_begins 44 = .ok (.bipush 7, 2) := by decide +kernel
theorem dX7_begins_46 : decode cX7_begins 46 = .ok (.aload_n 0, 1) := by decide +kernel
theorem dX7_begins_47 : decode cX7_begins 47 = .ok (.getfield 16, 3) := by decide +kernel
theorem dX7_begins_50 : decode cX7_begins 50 = .ok (.iload_n 1, 1) := by decide +kernel
theorem dX7_begins_51 : decode cX7_begins 51 = .ok (.iaload, 1) := by decide +kernel
theorem dX7_begins_52 : decode cX7_begins 52 = .ok (.imul, 1) := by decide +kernel
theorem dX7_begins_53 : decode cX7_begins 53 = .ok (.iload 4, 2) := by decide +kernel
theorem dX7_begins_55 : decode cX7_begins 55 = .ok (.iadd, 1) := by decide +kernel
theorem dX7_begins_56 : decode cX7_begins 56 = .ok (.iaload, 1) := by decide +kernel
theorem dX7_begins_57 : decode cX7_begins 57 = .ok (.goto 15, 3) := by decide +kernel
theorem dX7_begins_60 : decode cX7_begins 60 = .ok (.iload 4, 2) := by decide +kernel
theorem dX7_begins_62 : decode cX7_begins 62 = .ok (.bipush 6, 2) := by decide +kernel
theorem dX7_begins_64 : decode cX7_begins 64 = .ok (.if_icmp .ne 7, 3) := by decide +kernel
theorem dX7_begins_67 : decode cX7_begins 67 = .ok (.iconst (-1), 1) := by decide +kernel
theorem dX7_begins_68 : decode cX7_begins 68 = .ok (.goto 4, 3) := by decide +kernel
theorem dX7_begins_71 : decode cX7_begins 71 = .ok (.iconst 0, 1) := by decide +kernel
theorem dX7_begins_72 : decode cX7_begins 72 = .ok (.invokevirtual 145, 3) := by decide +kernel
theorem dX7_begins_75 : decode cX7_begins 75 = .ok (.iinc 4 1, 3) := by decide +kernel
theorem dX7_begins_78 : decode cX7_begins 78 = .ok (.goto (-53), 3) := by decide +kernel
theorem dX7_begins_81 : decode cX7_begins 81 = .ok (.iload_n 2, 1) := by decide +kernel
theorem dX7_begins_82 : decode cX7_begins 82 = .ok (.iconst 4, 1) := by decide +kernel
theorem dX7_begins_83 : decode cX7_begins 83 = .ok (.if_icmp .ne 36, 3) := by decide +kernel
theorem dX7_begins_86 : decode cX7_begins 86 = .ok (.aload_n 0, 1) := by decide +kernel
theorem dX7_begins_87 : decode cX7_begins 87 = .ok (.iload_n 1, 1) := by decide +kernel
theorem dX7_begins_88 : decode cX7_begins 88 = .ok (.iconst 1, 1) := by decide +kernel
theorem dX7_begins_89 : decode cX7_begins 89 = .ok (.aload_n 0, 1) := by decide +kernel
theorem dX7_begins_90 : decode cX7_begins 90 = .ok (.getfield 19, 3) := by decide +kernel
theorem dX7_begins_93 : decode cX7_begins 93 = .ok (.iload_n 1, 1) := by decide +kernel
theorem dX7_begins_94 : decode cX7_begins 94 = .ok (.iaload, 1) := by decide +kernel
theorem dX7_begins_95 : decode cX7_begins 95 = .ok (.invokestatic 149, 3) := by decide +kernel
theorem dX7_begins_98 : decode cX7_begins 98 = .ok (.invokevirtual 145, 3) := by decide +kernel
theorem dX7_begins_101 : decode cX7_begins 101 = .ok (.aload_n 0, 1) := by decide +kernel
theorem dX7_begins_102 : decode cX7_begins 102 = .ok (.iload_n 1, 1) := by decide +kernel
theorem dX7_begins_103 : decode cX7_begins 103 = .ok (.iconst 2, 1) := by decide +kernel
theorem dX7_begins_104 : decode cX7_begins 104 = .ok (.aload_n 0, 1) := by decide +kernel
theorem dX7_begins_105 : decode cX7_begins 105 = .ok (.getfield 22, 3) := by decide +kernel
theorem dX7_begins_108 : decode cX7_begins 108 = .ok (.iload_n 1, 1) := by decide +kernel
theorem dX7_begins_109 : decode cX7_begins 109 = .ok (.iaload, 1) := by decide +kernel
theorem dX7_begins_110 : decode cX7_begins 110 = .ok (.invokestatic 149, 3) := by decide +kernel
theorem dX7_begins_113 : decode cX7_begins 113 = .ok (.invokevirtual 145, 3) := by decide +kernel
theorem dX7_begins_116 : decode cX7_begins 116 = .ok (.goto 111, 3) := by decide +kernel
theorem dX7_begins_119 : decode cX7_begins 119 = .ok (.iload_n 2, 1) := by decide +kernel
theorem dX7_begins_120 : decode cX7_begins 120 = .ok (.iconst 5, 1) := by decide +kernel
theorem dX7_begins_121 : decode cX7_begins 121 = .ok (.if_icmp .ne 65, 3) := by decide +kernel
theorem dX7_begins_124 : decode cX7_begins 124 = .ok (.aload_n 0, 1) := by decide +kernel
theorem dX7_begins_125 : decode cX7_begins 125 = .ok (.iload_n 1, 1) := by decide +kernel
theorem dX7_begins_126 : decode cX7_begins 126 = .ok (.iconst 0, 1) := by decide +kernel
theorem dX7_begins_127 : decode cX7_begins 127 = .ok (.aload_n 0, 1) := by decide +kernel
theorem dX7_begins_128 : decode cX7_begins 128 = .ok (.getfield 16, 3) := by decide +kernel
theorem dX7_begins_131 : decode cX7_begins 131 = .ok (.iload_n 1, 1) := by decide +kernel
theorem dX7_begins_132 : decode cX7_begins 132 = .ok (.iaload, 1) := by decide +kernel
theorem dX7_begins_133 : decode cX7_begins 133 = .ok (.bipush 8, 2) := by decide +kernel
theorem dX7_begins_135 : decode cX7_begins 135 = .ok (.irem, 1) := by decide +kernel
theorem dX7_begins_136 : decode cX7_begins 136 = .ok (.invokevirtual 145, 3) := by decide +kernel
theorem dX7_begins_139 : decode cX7_begins 139 = .ok (.aload_n 0, 1) := by decide +kernel
theorem dX7_begins_140 : decode cX7_begins 140 = .ok (.iload_n 1, 1) := by decide +kernel
theorem dX7_begins_141 : decode cX7_begins 141 = .ok (.iconst 1, 1) := by decide +kernel
theorem dX7_begins_142 : decode cX7_begins 142 = .ok (.iconst 4, 1) := by decide +kernel
theorem dX7_begins_143 : decode cX7_begins 143 = .ok (.invokevirtual 145, 3) := by decide +kernel
theorem dX7_begins_146 : decode cX7_begins 146 = .ok (.aload_n 0, 1) := by decide +kernel
theorem dX7_begins_147 : decode cX7_begins 147 = .ok (.iload_n 1, 1) := by decide +kernel
theorem dX7_begins_148 : decode cX7_begins 148 = .ok (.iconst 2, 1) := by decide +kernel
theorem dX7_begins_149 : decode cX7_begins 149 = .ok (.iconst 4, 1) := by decide +kernel
theorem dX7_begins_150 : decode cX7_begins 150 = .ok (.invokevirtual 145, 3) := by decide +kernel
theorem dX7_begins_153 : decode cX7_begins 153 = .ok (.aload_n 0, 1) := by decide +kernel
theorem dX7_begins_154 : decode cX7_begins 154 = .ok (.iload_n 1, 1) := by decide +kernel
theorem dX7_begins_155 : decode cX7_begins 155 = .ok (.iconst 3, 1) := by decide +kernel
theorem dX7_begins_156 : decode cX7_begins 156 = .ok (.aload_n 0, 1) := by decide +kernel
theorem dX7_begins_157 : decode cX7_begins 157 = .ok (.getfield 16, 3) := by decide +kernel
theorem dX7_begins_160 : decode cX7_begins 160 = .ok (.iload_n 1, 1) := by decide +kernel
theorem dX7_begins_161 : decode cX7_begins 161 = .ok (.iaload, 1) := by decide +kernel
theorem dX7_begins_162 : decode cX7_begins 162 = .ok (.bipush 8, 2) := by decide +kernel
theorem dX7_begins_164 : decode cX7_begins 164 = .ok (.idiv, 1) := by decide +kernel
theorem dX7_begins_165 : decode cX7_begins 165 = .ok (.invokevirtual 145, 3) := by decide +kernel
theorem dX7_begins_168 : decode cX7_begins 168 = .ok (.aload_n 0, 1) := by decide +kernel
theorem dX7_begins_169 : decode cX7_begins 169 = .ok (.iload_n 1, 1) := by decide +kernel
theorem dX7_begins_170 : decode cX7_begins 170 = .ok (.iconst 4, 1) := by decide +kernel
theorem dX7_begins_171 : decode cX7_begins 171 = .ok (.aload_n 0, 1) := by decide +kernel
theorem dX7_begins_172 : decode cX7_begins 172 = .ok (.getfield 16, 3) := by decide +kernel
theorem dX7_begins_175 : decode cX7_begins 175 = .ok (.iload_n 1, 1) := by decide +kernel
theorem dX7_begins_176 : decode cX7_begins 176 = .ok (.iaload, 1) := by decide +kernel
theorem dX7_begins_177 : decode cX7_begins 177 = .ok (.bipush 8, 2) := by decide +kernel
theorem dX7_begins_179 : decode cX7_begins 179 = .ok (.idiv, 1) := by decide +kernel
theorem dX7_begins_180 : decode cX7_begins 180 = .ok (.invokevirtual 145, 3) := by decide +kernel
theorem dX7_begins_183 : decode cX7_begins 183 = .ok (.goto 44, 3) := by decide +kernel
theorem dX7_begins_186 : decode cX7_begins 186 = .ok (.iload_n 2, 1) := by decide +kernel
theorem dX7_begins_187 : decode cX7_begins 187 = .ok (.ifCond .eq 40, 3) := by decide +kernel
theorem dX7_begins_190 : decode cX7_begins 190 = .ok (.aload_n 0, 1) := by decide +kernel
theorem dX7_begins_191 : decode cX7_begins 191 = .ok (.iload_n 1, 1) := by decide +kernel
theorem dX7_begins_192 : decode cX7_begins 192 = .ok (.iconst 0, 1) := by decide +kernel
theorem dX7_begins_193 : decode cX7_begins 193 = .ok (.iconst 1, 1) := by decide +kernel
theorem dX7_begins_194 : decode cX7_begins 194 = .ok (.invokevirtual 145, 3) := by decide +kernel
theorem dX7_begins_197 : decode cX7_begins 197 = .ok (.aload_n 0, 1) := by decide +kernel
theorem dX7_begins_198 : decode cX7_begins 198 = .ok (.iload_n 1, 1) := by decide +kernel
theorem dX7_begins_199 : decode cX7_begins 199 = .ok (.iconst 1, 1) := by decide +kernel
theorem dX7_begins_200 : decode cX7_begins 200 = .ok (.aload_n 0, 1) := by decide +kernel
theorem dX7_begins_201 : decode cX7_begins 201 = .ok (.getfield 16, 3) := by decide +kernel
theorem dX7_begins_204 : decode cX7_begins 204 = .ok (.iload_n 1, 1) := by decide +kernel
theorem dX7_begins_205 : decode cX7_begins 205 = .ok (.iaload, 1) := by decide +kernel
theorem dX7_begins_206 : decode cX7_begins 206 = .ok (.invokestatic 149, 3) := by decide +kernel
theorem dX7_begins_209 : decode cX7_begins 209 = .ok (.invokevirtual 145, 3) := by decide +kernel
theorem dX7_begins_212 : decode cX7_begins 212 = .ok (.aload_n 0, 1) := by decide +kernel
theorem dX7_begins_213 : decode cX7_begins 213 = .ok (.iload_n 1, 1) := by decide +kernel
theorem dX7_begins_214 : decode cX7_begins 214 = .ok (.iconst 2, 1) := by decide +kernel
theorem dX7_begins_215 : decode cX7_begins 215 = .ok (.aload_n 0, 1) := by decide +kernel
theorem dX7_begins_216 : decode cX7_begins 216 = .ok (.getfield 16, 3) := by decide +kernel
theorem dX7_begins_219 : decode cX7_begins 219 = .ok (.iload_n 1, 1) := by decide +kernel
theorem dX7_begins_220 : decode cX7_begins 220 = .ok (.iaload, 1) := by decide +kernel
theorem dX7_begins_221 : decode cX7_begins 221 = .ok (.invokestatic 149, 3) := by decide +kernel
theorem dX7_begins_224 : decode cX7_begins 224 = .ok (.invokevirtual 145, 3) := by decide +kernel
theorem dX7_begins_227 : decode cX7_begins 227 = .ok (.return_, 1) := by decide +kernel
theorem dX7_isExcepted_0 : decode cX7_isExcepted 0 = .ok (.aload_n 0, 1) := by decide +kernel
theorem dX7_isExcepted_1 : decode cX7_isExcepted 1 = .ok (.getfield 13, 3) := by decide +kernel
theorem dX7_isExcepted_4 : decode cX7_isExcepted 4 = .ok (.iload_n 2, 1) := by decide +kernel
theorem dX7_isExcepted_5 : decode cX7_isExcepted 5 = .ok (.iaload, 1) := by decide +kernel
theorem dX7_isExcepted_6 : decode cX7_isExcepted 6 = .ok (.ifCond .eq 13, 3) := by decide +kernel
theorem dX7_isExcepted_9 : decode cX7_isExcepted 9 = .ok (.aload_n 0, 1) := by decide +kernel
theorem dX7_isExcepted_10 : decode cX7_isExcepted 10 = .ok (.getfield 13, 3) := by decide +kernel
theorem dX7_isExcepted_13 : decode cX7_isExcepted 13 = .ok (.iload_n 2, 1) := by decide +kernel
theorem dX7_isExcepted_14 : decode cX7_isExcepted 14 = .ok (.iaload, 1) := by decide +kernel
theorem dX7_isExcepted_15 : decode cX7_isExcepted 15 = .ok (.iconst 4, 1) := by decide +kernel
theorem dX7_isExcepted_16 : decode cX7_isExcepted 16 = .ok (.if_icmp .ne 7, 3) := by decide +kernel
theorem dX7_isExcepted_19 : decode cX7_isExcepted 19 = .ok (.iconst 1, 1) := by decide +kernel
theorem dX7_isExcepted_20 : decode cX7_isExcepted 20 = .ok (.goto 4, 3) := by decide +kernel
theorem dX7_isExcepted_23 : decode cX7_isExcepted 23 = .ok (.iconst 0, 1) := by decide +kernel
theorem dX7_isExcepted_24 : decode cX7_isExcepted 24 = .ok (.istore_n 3, 1) := by decide +kernel
theorem dX7_isExcepted_25 : decode cX7_isExcepted 25 = .ok (.iload_n 3, 1) := by decide +kernel
theorem dX7_isExcepted_26 : decode cX7_isExcepted 26 = .ok (.ifCond .eq 26, 3) := by decide +kernel
theorem dX7_isExcepted_29 : decode cX7_isExcepted 29 = .ok (.aload_n 0, 1) := by decide +kernel
theorem dX7_isExcepted_30 : decode cX7_isExcepted 30 = .ok (.getfield 40, 3) := by decide +kernel
theorem dX7_isExcepted_33 : decode cX7_isExcepted 33 = .ok (.iload_n 1, 1) := by decide +kernel
theorem dX7_isExcepted_34 : decode cX7_isExcepted 34 = .ok (.iaload, 1) := by decide +kernel
theorem dX7_isExcepted_35 : decode cX7_isExcepted 35 = .ok (.aload_n 0, 1) := by decide +kernel
theorem dX7_isExcepted_36 : decode cX7_isExcepted 36 = .ok (.getfield 16, 3) := by decide +kernel
theorem dX7_isExcepted_39 : decode cX7_isExcepted 39 = .ok (.iload_n 2, 1) := by decide +kernel
theorem dX7_isExcepted_40 : decode cX7_isExcepted 40 = .ok (.iaload, 1) := by decide +kernel
theorem dX7_isExcepted_41 : decode cX7_isExcepted 41 = .ok (.ishr, 1) := by decide +kernel
theorem dX7_isExcepted_42 : decode cX7_isExcepted 42 = .ok (.iconst 1, 1) := by decide +kernel
theorem dX7_isExcepted_43 : decode cX7_isExcepted 43 = .ok (.iand, 1) := by decide +kernel
theorem dX7_isExcepted_44 : decode cX7_isExcepted 44 = .ok (.iconst 1, 1) := by decide +kernel
theorem dX7_isExcepted_45 : decode cX7_isExcepted 45 = .ok (.if_icmp .ne 7, 3) := by decide +kernel
theorem dX7_isExcepted_48 : decode cX7_isExcepted 48 = .ok (.iconst 1, 1) := by decide +kernel
theorem dX7_isExcepted_49 : decode cX7_isExcepted 49 = .ok (.goto 4, 3) := by decide +kernel
theorem dX7_isExcepted_52 : decode cX7_isExcepted 52 = .ok (.iconst 0, 1) := by decide +kernel
theorem dX7_isExcepted_53 : decode cX7_isExcepted 53 = .ok (.ireturn, 1) := by decide +kernel
theorem dX7_isBare_0 : decode cX7_isBare 0 = .ok (.aload_n 0, 1) := by decide +kernel
theorem dX7_isBare_1 : decode cX7_isBare 1 = .ok (.iload_n 1, 1) := by decide +kernel
theorem dX7_isBare_2 : decode cX7_isBare 2 = .ok (.invokevirtual 127, 3) := by decide +kernel
theorem dX7_isBare_5 : decode cX7_isBare 5 = .ok (.ifCond .eq 12, 3) := by decide +kernel
theorem dX7_isBare_8 : decode cX7_isBare 8 = .ok (.aload_n 0, 1) := by decide +kernel
theorem dX7_isBare_9 : decode cX7_isBare 9 = .ok (.iload_n 1, 1) := by decide +kernel
theorem dX7_isBare_10 : decode cX7_isBare 10 = .ok (.iconst 5, 1) := by decide +kernel
theorem dX7_isBare_11 : decode cX7_isBare 11 = .ok (.invokevirtual 152, 3) := by decide +kernel
theorem dX7_isBare_14 : decode cX7_isBare 14 = .ok (.ifCond .ne 7, 3) := by decide +kernel
theorem dX7_isBare_17 : decode cX7_isBare 17 = .ok (.iconst 1, 1) := by decide +kernel
theorem dX7_isBare_18 : decode cX7_isBare 18 = .ok (.goto 4, 3) := by decide +kernel
theorem dX7_isBare_21 : decode cX7_isBare 21 = .ok (.iconst 0, 1) := by decide +kernel
theorem dX7_isBare_22 : decode cX7_isBare 22 = .ok (.ireturn, 1) := by decide +kernel
theorem dX7_changes_0 : decode cX7_changes 0 = .ok (.iload_n 1, 1) := by decide +kernel
theorem dX7_changes_1 : decode cX7_changes 1 = .ok (.ifCond .ne 43, 3) := by decide +kernel
theorem dX7_changes_4 : decode cX7_changes 4 = .ok (.aload_n 0, 1) := by decide +kernel
theorem dX7_changes_5 : decode cX7_changes 5 = .ok (.iload_n 2, 1) := by decide +kernel
theorem dX7_changes_6 : decode cX7_changes 6 = .ok (.iconst 5, 1) := by decide +kernel
theorem dX7_changes_7 : decode cX7_changes 7 = .ok (.invokevirtual 152, 3) := by decide +kernel
theorem dX7_changes_10 : decode cX7_changes 10 = .ok (.iconst 1, 1) := by decide +kernel
theorem dX7_changes_11 : decode cX7_changes 11 = .ok (.if_icmp .ne 33, 3) := by decide +kernel
theorem dX7_changes_14 : decode cX7_changes 14 = .ok (.aload_n 0, 1) := by decide +kernel
theorem dX7_changes_15 : decode cX7_changes 15 = .ok (.iload_n 2, 1) := by decide +kernel
theorem dX7_changes_16 : decode cX7_changes 16 = .ok (.iconst 1, 1) := by decide +kernel
theorem dX7_changes_17 : decode cX7_changes 17 = .ok (.isub, 1) := by decide +kernel
theorem dX7_changes_18 : decode cX7_changes 18 = .ok (.invokevirtual 155, 3) := by decide +kernel
theorem dX7_changes_21 : decode cX7_changes 21 = .ok (.ifCond .eq 23, 3) := by decide +kernel
theorem dX7_changes_24 : decode cX7_changes 24 = .ok (.aload_n 0, 1) := by decide +kernel
theorem dX7_changes_25 : decode cX7_changes 25 = .ok (.iload_n 2, 1) := by decide +kernel
theorem dX7_changes_26 : decode cX7_changes 26 = .ok (.iconst 1, 1) := by decide +kernel
theorem dX7_changes_27 : decode cX7_changes 27 = .ok (.iadd, 1) := by decide +kernel
theorem dX7_changes_28 : decode cX7_changes 28 = .ok (.invokevirtual 155, 3) := by decide +kernel
theorem dX7_changes_31 : decode cX7_changes 31 = .ok (.ifCond .eq 13, 3) := by decide +kernel
theorem dX7_changes_34 : decode cX7_changes 34 = .ok (.aload_n 0, 1) := by decide +kernel
theorem dX7_changes_35 : decode cX7_changes 35 = .ok (.iload_n 2, 1) := by decide +kernel
theorem dX7_changes_36 : decode cX7_changes 36 = .ok (.iconst 5, 1) := by decide +kernel
theorem dX7_changes_37 : decode cX7_changes 37 = .ok (.iconst 0, 1) := by decide +kernel
theorem dX7_changes_38 : decode cX7_changes 38 = .ok (.invokevirtual 145, 3) := by decide +kernel
theorem dX7_changes_41 : decode cX7_changes 41 = .ok (.goto 252, 3) := by decide +kernel
theorem dX7_changes_44 : decode cX7_changes 44 = .ok (.iload_n 1, 1) := by decide +kernel
theorem dX7_changes_45 : decode cX7_changes 45 = .ok (.iconst 1, 1) := by decide +kernel
theorem dX7_changes_46 : decode cX7_changes 46 = .ok (.if_icmp .ne 52, 3) := by decide +kernel
theorem dX7_changes_49 : decode cX7_changes 49 = .ok (.aload_n 0, 1) := by decide +kernel
theorem dX7_changes_50 : decode cX7_changes 50 = .ok (.iload_n 2, 1) := by decide +kernel
theorem dX7_changes_51 : decode cX7_changes 51 = .ok (.invokevirtual 136, 3) := by decide +kernel
theorem dX7_changes_54 : decode cX7_changes 54 = .ok (.ifCond .eq 44, 3) := by decide +kernel
theorem dX7_changes_57 : decode cX7_changes 57 = .ok (.aload_n 0, 1) := by decide +kernel
theorem dX7_changes_58 : decode cX7_changes 58 = .ok (.getfield 93, 3) := by decide +kernel
theorem dX7_changes_61 : decode cX7_changes 61 = .ok (.iconst 1, 1) := by decide +kernel
theorem dX7_changes_62 : decode cX7_changes 62 = .ok (.if_icmp .le 36, 3) := by decide +kernel
theorem dX7_changes_65 : decode cX7_changes 65 = .ok (.aload_n 0, 1) := by decide +kernel
theorem dX7_changes_66 : decode cX7_changes 66 = .ok (.iload_n 2, 1) := by decide +kernel
theorem dX7_changes_67 : decode cX7_changes 67 = .ok (.iconst 0, 1) := by decide +kernel
theorem dX7_changes_68 : decode cX7_changes 68 = .ok (.aload_n 0, 1) := by decide +kernel
theorem dX7_changes_69 : decode cX7_changes 69 = .ok (.iload_n 2, 1) := by decide +kernel
theorem dX7_changes_70 : decode cX7_changes 70 = .ok (.aload_n 0, 1) := by decide +kernel
theorem dX7_changes_71 : decode cX7_changes 71 = .ok (.getfield 93, 3) := by decide +kernel
theorem dX7_changes_74 : decode cX7_changes 74 = .ok (.iconst 1, 1) := by decide +kernel
theorem dX7_changes_75 : decode cX7_changes 75 = .ok (.isub, 1) := by decide +kernel
theorem dX7_changes_76 : decode cX7_changes 76 = .ok (.if_icmp .ge 9, 3) := by decide +kernel
theorem dX7_changes_79 : decode cX7_changes 79 = .ok (.iload_n 2, 1) := by decide +kernel
theorem dX7_changes_80 : decode cX7_changes 80 = .ok (.iconst 1, 1) := by decide +kernel
theorem dX7_changes_81 : decode cX7_changes 81 = .ok (.iadd, 1) := by decide +kernel
theorem dX7_changes_82 : decode cX7_changes 82 = .ok (.goto 6, 3) := by decide +kernel
theorem dX7_changes_85 : decode cX7_changes 85 = .ok (.iload_n 2, 1) := by decide +kernel
theorem dX7_changes_86 : decode cX7_changes 86 = .ok (.iconst 1, 1) := by decide +kernel
theorem dX7_changes_87 : decode cX7_changes 87 = .ok (.isub, 1) := by decide +kernel
theorem dX7_changes_88 : decode cX7_changes 88 = .ok (.iconst 0, 1) := by decide +kernel
theorem dX7_changes_89 : decode cX7_changes 89 = .ok (.invokevirtual 152, 3) := by decide +kernel
theorem dX7_changes_92 : decode cX7_changes 92 = .ok (.invokevirtual 145, 3) := by decide +kernel
theorem dX7_changes_95 : decode cX7_changes 95 = .ok (.goto 198, 3) := by decide +kernel
theorem dX7_changes_98 : decode cX7_changes 98 = .ok (.iload_n 1, 1) := by decide +kernel
theorem dX7_changes_99 : decode cX7_changes 99 = .ok (.iconst 2, 1) := by decide +kernel
theorem dX7_changes_100 : decode cX7_changes 100 = .ok (.if_icmp .ne 46, 3) := by decide +kernel
theorem dX7_changes_103 : decode cX7_changes 103 = .ok (.iload_n 2, 1) := by decide +kernel
theorem dX7_changes_104 : decode cX7_changes 104 = .ok (.ifCond .le 42, 3) := by decide +kernel
theorem dX7_changes_107 : decode cX7_changes 107 = .ok (.aload_n 0, 1) := by decide +kernel
theorem dX7_changes_108 : decode cX7_changes 108 = .ok (.iload_n 2, 1) := by decide +kernel
theorem dX7_changes_109 : decode cX7_changes 109 = .ok (.iconst 1, 1) := by decide +kernel
theorem dX7_changes_110 : decode cX7_changes 110 = .ok (.isub, 1) := by decide +kernel
theorem dX7_changes_111 : decode cX7_changes 111 = .ok (.iconst 4, 1) := by decide +kernel
theorem dX7_changes_112 : decode cX7_changes 112 = .ok (.invokevirtual 152, 3) := by decide +kernel
theorem dX7_changes_115 : decode cX7_changes 115 = .ok (.aload_n 0, 1) := by decide +kernel
theorem dX7_changes_116 : decode cX7_changes 116 = .ok (.iload_n 2, 1) := by decide +kernel
theorem dX7_changes_117 : decode cX7_changes 117 = .ok (.iconst 3, 1) := by decide +kernel
theorem dX7_changes_118 : decode cX7_changes 118 = .ok (.invokevirtual 152, 3) := by decide +kernel
theorem dX7_changes_121 : decode cX7_changes 121 = .ok (.isub, 1) := by decide +kernel
theorem dX7_changes_122 : decode cX7_changes 122 = .ok (.invokestatic 82, 3) := by decide +kernel
theorem dX7_changes_125 : decode cX7_changes 125 = .ok (.iconst 2, 1) := by decide +kernel
theorem dX7_changes_126 : decode cX7_changes 126 = .ok (.if_icmp .ne 20, 3) := by decide +kernel
theorem dX7_changes_129 : decode cX7_changes 129 = .ok (.aload_n 0, 1) := by decide +kernel
theorem dX7_changes_130 : decode cX7_changes 130 = .ok (.iload_n 2, 1) := by decide +kernel
theorem dX7_changes_131 : decode cX7_changes 131 = .ok (.iconst 3, 1) := by decide +kernel
theorem dX7_changes_132 : decode cX7_changes 132 = .ok (.aload_n 0, 1) := by decide +kernel
theorem dX7_changes_133 : decode cX7_changes 133 = .ok (.iload_n 2, 1) := by decide +kernel
theorem dX7_changes_134 : decode cX7_changes 134 = .ok (.iconst 1, 1) := by decide +kernel
theorem dX7_changes_135 : decode cX7_changes 135 = .ok (.isub, 1) := by decide +kernel
theorem dX7_changes_136 : decode cX7_changes 136 = .ok (.iconst 4, 1) := by decide +kernel
theorem dX7_changes_137 : decode cX7_changes 137 = .ok (.invokevirtual 152, 3) := by decide +kernel
theorem dX7_changes_140 : decode cX7_changes 140 = .ok (.invokevirtual 145, 3) := by decide +kernel
theorem dX7_changes_143 : decode cX7_changes 143 = .ok (.goto 150, 3) := by decide +kernel
theorem dX7_changes_146 : decode cX7_changes 146 = .ok (.iload_n 1, 1) := by decide +kernel
theorem dX7_changes_147 : decode cX7_changes 147 = .ok (.iconst 3, 1) := by decide +kernel
theorem dX7_changes_148 : decode cX7_changes 148 = .ok (.if_icmp .ne 90, 3) := by decide +kernel
theorem dX7_changes_151 : decode cX7_changes 151 = .ok (.iload_n 2, 1) := by decide +kernel
theorem dX7_changes_152 : decode cX7_changes 152 = .ok (.ifCond .le 86, 3) := by decide +kernel
theorem dX7_changes_155 : decode cX7_changes 155 = .ok (.aload_n 0, 1) := by decide +kernel
theorem dX7_changes_156 : decode cX7_changes 156 = .ok (.getfield 13, 3) := by decide +kernel
theorem dX7_changes_159 : decode cX7_changes 159 = .ok (.iload_n 2, 1) := by decide +kernel
theorem dX7_changes_160 : decode cX7_changes 160 = .ok (.iaload, 1) := by decide +kernel
theorem dX7_changes_161 : decode cX7_changes 161 = .ok (.ifCond .ne 77, 3) := by decide +kernel
theorem dX7_changes_164 : decode cX7_changes 164 = .ok (.aload_n 0, 1) := by decide +kernel
theorem dX7_changes_165 : decode cX7_changes 165 = .ok (.iload_n 2, 1) := by decide +kernel
theorem dX7_changes_166 : decode cX7_changes 166 = .ok (.iconst 1, 1) := by decide +kernel
theorem dX7_changes_167 : decode cX7_changes 167 = .ok (.invokevirtual 152, 3) := by decide +kernel
theorem dX7_changes_170 : decode cX7_changes 170 = .ok (.aload_n 0, 1) := by decide +kernel
theorem dX7_changes_171 : decode cX7_changes 171 = .ok (.iload_n 2, 1) := by decide +kernel
theorem dX7_changes_172 : decode cX7_changes 172 = .ok (.iconst 2, 1) := by decide +kernel
theorem dX7_changes_173 : decode cX7_changes 173 = .ok (.invokevirtual 152, 3) := by decide +kernel
theorem dX7_changes_176 : decode cX7_changes 176 = .ok (.if_icmp .eq 62, 3) := by decide +kernel
theorem dX7_changes_179 : decode cX7_changes 179 = .ok (.aload_n 0, 1) := by decide +kernel
theorem dX7_changes_180 : decode cX7_changes 180 = .ok (.iload_n 2, 1) := by decide +kernel
theorem dX7_changes_181 : decode cX7_changes 181 = .ok (.iconst 1, 1) := by decide +kernel
theorem dX7_changes_182 : decode cX7_changes 182 = .ok (.invokevirtual 152, 3) := by decide +kernel
theorem dX7_changes_185 : decode cX7_changes 185 = .ok (.istore_n 3, 1) := by decide +kernel
theorem dX7_changes_186 : decode cX7_changes 186 = .ok (.aload_n 0, 1) := by decide +kernel
theorem dX7_changes_187 : decode cX7_changes 187 = .ok (.iload_n 2, 1) := by decide +kernel
theorem dX7_changes_188 : decode cX7_changes 188 = .ok (.iconst 2, 1) := by decide +kernel
theorem dX7_changes_189 : decode cX7_changes 189 = .ok (.invokevirtual 152, 3) := by decide +kernel
theorem dX7_changes_192 : decode cX7_changes 192 = .ok (.istore 4, 2) := by decide +kernel
theorem dX7_changes_194 : decode cX7_changes 194 = .ok (.aload_n 0, 1) := by decide +kernel
theorem dX7_changes_195 : decode cX7_changes 195 = .ok (.iload_n 2, 1) := by decide +kernel
theorem dX7_changes_196 : decode cX7_changes 196 = .ok (.iconst 1, 1) := by decide +kernel
theorem dX7_changes_197 : decode cX7_changes 197 = .ok (.isub, 1) := by decide +kernel
theorem dX7_changes_198 : decode cX7_changes 198 = .ok (.iconst 2, 1) := by decide +kernel
theorem dX7_changes_199 : decode cX7_changes 199 = .ok (.invokevirtual 152, 3) := by decide +kernel
theorem dX7_changes_202 : decode cX7_changes 202 = .ok (.istore 5, 2) := by decide +kernel
theorem dX7_changes_204 : decode cX7_changes 204 = .ok (.iload 5, 2) := by decide +kernel
theorem dX7_changes_206 : decode cX7_changes 206 = .ok (.iload 4, 2) := by decide +kernel
theorem dX7_changes_208 : decode cX7_changes 208 = .ok (.invokestatic 158, 3) := by decide +kernel
theorem dX7_changes_211 : decode cX7_changes 211 = .ok (.iload 5, 2) := by decide +kernel
theorem dX7_changes_213 : decode cX7_changes 213 = .ok (.iload_n 3, 1) := by decide +kernel
theorem dX7_changes_214 : decode cX7_changes 214 = .ok (.invokestatic 158, 3) := by decide +kernel
theorem dX7_changes_217 : decode cX7_changes 217 = .ok (.if_icmp .ge 18, 3) := by decide +kernel
theorem dX7_changes_220 : decode cX7_changes 220 = .ok (.aload_n 0, 1) := by decide +kernel
theorem dX7_changes_221 : decode cX7_changes 221 = .ok (.iload_n 2, 1) := by decide +kernel
theorem dX7_changes_222 : decode cX7_changes 222 = .ok (.iconst 1, 1) := by decide +kernel
theorem dX7_changes_223 : decode cX7_changes 223 = .ok (.iload 4, 2) := by decide +kernel
theorem dX7_changes_225 : decode cX7_changes 225 = .ok (.invokevirtual 145, 3) := by decide +kernel
theorem dX7_changes_228 : decode cX7_changes 228 = .ok (.aload_n 0, 1) := by decide +kernel
theorem dX7_changes_229 : decode cX7_changes 229 = .ok (.iload_n 2, 1) := by decide +kernel
theorem dX7_changes_230 : decode cX7_changes 230 = .ok (.iconst 2, 1) := by decide +kernel
theorem dX7_changes_231 : decode cX7_changes 231 = .ok (.iload_n 3, 1) := by decide +kernel
theorem dX7_changes_232 : decode cX7_changes 232 = .ok (.invokevirtual 145, 3) := by decide +kernel
theorem dX7_changes_235 : decode cX7_changes 235 = .ok (.goto 58, 3) := by decide +kernel
theorem dX7_changes_238 : decode cX7_changes 238 = .ok (.iload_n 1, 1) := by decide +kernel
theorem dX7_changes_239 : decode cX7_changes 239 = .ok (.iconst 4, 1) := by decide +kernel
theorem dX7_changes_240 : decode cX7_changes 240 = .ok (.if_icmp .ne 53, 3) := by decide +kernel
theorem dX7_changes_243 : decode cX7_changes 243 = .ok (.iload_n 2, 1) := by decide +kernel
theorem dX7_changes_244 : decode cX7_changes 244 = .ok (.ifCond .le 49, 3) := by decide +kernel
theorem dX7_changes_247 : decode cX7_changes 247 = .ok (.aload_n 0, 1) := by decide +kernel
theorem dX7_changes_248 : decode cX7_changes 248 = .ok (.getfield 13, 3) := by decide +kernel
theorem dX7_changes_251 : decode cX7_changes 251 = .ok (.iload_n 2, 1) := by decide +kernel
theorem dX7_changes_252 : decode cX7_changes 252 = .ok (.iaload, 1) := by decide +kernel
theorem dX7_changes_253 : decode cX7_changes 253 = .ok (.iconst 5, 1) := by decide +kernel
theorem dX7_changes_254 : decode cX7_changes 254 = .ok (.if_icmp .ne 39, 3) := by decide +kernel
theorem dX7_changes_257 : decode cX7_changes 257 = .ok (.aload_n 0, 1) := by decide +kernel
theorem dX7_changes_258 : decode cX7_changes 258 = .ok (.getfield 13, 3) := by decide +kernel
theorem dX7_changes_261 : decode cX7_changes 261 = .ok (.iload_n 2, 1) := by decide +kernel
theorem dX7_changes_262 : decode cX7_changes 262 = .ok (.iconst 1, 1) := by decide +kernel
theorem dX7_changes_263 : decode cX7_changes 263 = .ok (.isub, 1) := by decide +kernel
theorem dX7_changes_264 : decode cX7_changes 264 = .ok (.iaload, 1) := by decide +kernel
theorem dX7_changes_265 : decode cX7_changes 265 = .ok (.iconst 5, 1) := by decide +kernel
theorem dX7_changes_266 : decode cX7_changes 266 = .ok (.if_icmp .ne 27, 3) := by decide +kernel
theorem dX7_changes_269 : decode cX7_changes 269 = .ok (.aload_n 0, 1) := by decide +kernel
theorem dX7_changes_270 : decode cX7_changes 270 = .ok (.getfield 16, 3) := by decide +kernel
theorem dX7_changes_273 : decode cX7_changes 273 = .ok (.iload_n 2, 1) := by decide +kernel
theorem dX7_changes_274 : decode cX7_changes 274 = .ok (.iaload, 1) := by decide +kernel
theorem dX7_changes_275 : decode cX7_changes 275 = .ok (.aload_n 0, 1) := by decide +kernel
theorem dX7_changes_276 : decode cX7_changes 276 = .ok (.getfield 16, 3) := by decide +kernel
theorem dX7_changes_279 : decode cX7_changes 279 = .ok (.iload_n 2, 1) := by decide +kernel
theorem dX7_changes_280 : decode cX7_changes 280 = .ok (.iconst 1, 1) := by decide +kernel
theorem dX7_changes_281 : decode cX7_changes 281 = .ok (.isub, 1) := by decide +kernel
theorem dX7_changes_282 : decode cX7_changes 282 = .ok (.iaload, 1) := by decide +kernel
theorem dX7_changes_283 : decode cX7_changes 283 = .ok (.if_icmp .ne 10, 3) := by decide +kernel
theorem dX7_changes_286 : decode cX7_changes 286 = .ok (.aload_n 0, 1) := by decide +kernel
theorem dX7_changes_287 : decode cX7_changes 287 = .ok (.iload_n 2, 1) := by decide +kernel
theorem dX7_changes_288 : decode cX7_changes 288 = .ok (.iconst 2, 1) := by decide +kernel
theorem dX7_changes_289 : decode cX7_changes 289 = .ok (.iconst 5, 1) := by decide +kernel
theorem dX7_changes_290 : decode cX7_changes 290 = .ok (.invokevirtual 145, 3) := by decide +kernel
theorem dX7_changes_293 : decode cX7_changes 293 = .ok (.return_, 1) := by decide +kernel
theorem dX7_rulesGo_0 : decode cX7_rulesGo 0 = .ok (.iconst 0, 1) := by decide +kernel
theorem dX7_rulesGo_1 : decode cX7_rulesGo 1 = .ok (.istore_n 1, 1) := by decide +kernel
theorem dX7_rulesGo_2 : decode cX7_rulesGo 2 = .ok (.iload_n 1, 1) := by decide +kernel
theorem dX7_rulesGo_3 : decode cX7_rulesGo 3 = .ok (.aload_n 0, 1) := by decide +kernel
theorem dX7_rulesGo_4 : decode cX7_rulesGo 4 = .ok (.getfield 93, 3) := by decide +kernel
theorem dX7_rulesGo_7 : decode cX7_rulesGo 7 = .ok (.if_icmp .ge 14, 3) := by decide +kernel
theorem dX7_rulesGo_10 : decode cX7_rulesGo 10 = .ok (.aload_n 0, 1) := by decide +kernel
theorem dX7_rulesGo_11 : decode cX7_rulesGo 11 = .ok (.iload_n 1, 1) := by decide +kernel
theorem dX7_rulesGo_12 : decode cX7_rulesGo 12 = .ok (.invokevirtual 161, 3) := by decide +kernel
theorem dX7_rulesGo_15 : decode cX7_rulesGo 15 = .ok (.iinc 1 1, 3) := by decide +kernel
theorem dX7_rulesGo_18 : decode cX7_rulesGo 18 = .ok (.goto (-16), 3) := by decide +kernel
theorem dX7_rulesGo_21 : decode cX7_rulesGo 21 = .ok (.iconst 0, 1) := by decide +kernel
theorem dX7_rulesGo_22 : decode cX7_rulesGo 22 = .ok (.istore_n 1, 1) := by decide +kernel
theorem dX7_rulesGo_23 : decode cX7_rulesGo 23 = .ok (.iload_n 1, 1) := by decide +kernel
theorem dX7_rulesGo_24 : decode cX7_rulesGo 24 = .ok (.aload_n 0, 1) := by decide +kernel
theorem dX7_rulesGo_25 : decode cX7_rulesGo 25 = .ok (.getfield 142, 3) := by decide +kernel
theorem dX7_rulesGo_28 : decode cX7_rulesGo 28 = .ok (.if_icmp .ge 45, 3) := by decide +kernel
theorem dX7_rulesGo_31 : decode cX7_rulesGo 31 = .ok (.iconst 0, 1) := by decide +kernel
theorem dX7_rulesGo_32 : decode cX7_rulesGo 32 = .ok (.istore_n 2, 1) := by decide +kernel
theorem dX7_rulesGo_33 : decode cX7_rulesGo 33 = .ok (.iload_n 2, 1) := by decide +kernel
theorem dX7_rulesGo_34 : decode cX7_rulesGo 34 = .ok (.aload_n 0, 1) := by decide +kernel
theorem dX7_rulesGo_35 : decode cX7_rulesGo 35 = .ok (.getfield 93, 3) := by decide +kernel
theorem dX7_rulesGo_38 : decode cX7_rulesGo 38 = .ok (.if_icmp .ge 29, 3) := by decide +kernel
theorem dX7_rulesGo_41 : decode cX7_rulesGo 41 = .ok (.aload_n 0, 1) := by decide +kernel
theorem dX7_rulesGo_42 : decode cX7_rulesGo 42 = .ok (.iload_n 1, 1) := by decide +kernel
theorem dX7_rulesGo_43 : decode cX7_rulesGo 43 = .ok (.iload_n 2, 1) := by decide +kernel
theorem dX7_rulesGo_44 : decode cX7_rulesGo 44 = .ok (.invokevirtual 165, 3) := by decide +kernel
theorem dX7_rulesGo_47 : decode cX7_rulesGo 47 = .ok (.ifCond .ne 14, 3) := by decide +kernel
theorem dX7_rulesGo_50 : decode cX7_rulesGo 50 = .ok (.aload_n 0, 1) := by decide +kernel
theorem dX7_rulesGo_51 : decode cX7_rulesGo 51 = .ok (.aload_n 0, 1) := by decide +kernel
theorem dX7_rulesGo_52 : decode cX7_rulesGo 52 = .ok (.getfield 37, 3) := by decide +kernel
theorem dX7_rulesGo_55 : decode cX7_rulesGo 55 = .ok (.iload_n 1, 1) := by decide +kernel
theorem dX7_rulesGo_56 : decode cX7_rulesGo 56 = .ok (.iaload, 1) := by decide +kernel
theorem dX7_rulesGo_57 : decode cX7_rulesGo 57 = .ok (.iload_n 2, 1) := by decide +kernel
theorem dX7_rulesGo_58 : decode cX7_rulesGo 58 = .ok (.invokevirtual 168, 3) := by decide +kernel
theorem dX7_rulesGo_61 : decode cX7_rulesGo 61 = .ok (.iinc 2 1, 3) := by decide +kernel
theorem dX7_rulesGo_64 : decode cX7_rulesGo 64 = .ok (.goto (-31), 3) := by decide +kernel
theorem dX7_rulesGo_67 : decode cX7_rulesGo 67 = .ok (.iinc 1 1, 3) := by decide +kernel
theorem dX7_rulesGo_70 : decode cX7_rulesGo 70 = .ok (.goto (-47), 3) := by decide +kernel
theorem dX7_rulesGo_73 : decode cX7_rulesGo 73 = .ok (.return_, 1) := by decide +kernel
theorem dX7_moves_0 : decode cX7_moves 0 = .ok (.aload_n 0, 1) := by decide +kernel
theorem dX7_moves_1 : decode cX7_moves 1 = .ok (.iload_n 1, 1) := by decide +kernel
theorem dX7_moves_2 : decode cX7_moves 2 = .ok (.iconst 1, 1) := by decide +kernel
theorem dX7_moves_3 : decode cX7_moves 3 = .ok (.invokevirtual 152, 3) := by decide +kernel
theorem dX7_moves_6 : decode cX7_moves 6 = .ok (.aload_n 0, 1) := by decide +kernel
theorem dX7_moves_7 : decode cX7_moves 7 = .ok (.iload_n 1, 1) := by decide +kernel
theorem dX7_moves_8 : decode cX7_moves 8 = .ok (.iconst 2, 1) := by decide +kernel
theorem dX7_moves_9 : decode cX7_moves 9 = .ok (.invokevirtual 152, 3) := by decide +kernel
theorem dX7_moves_12 : decode cX7_moves 12 = .ok (.if_icmp .ne 18, 3) := by decide +kernel
theorem dX7_moves_15 : decode cX7_moves 15 = .ok (.aload_n 0, 1) := by decide +kernel
theorem dX7_moves_16 : decode cX7_moves 16 = .ok (.iload_n 1, 1) := by decide +kernel
theorem dX7_moves_17 : decode cX7_moves 17 = .ok (.iconst 3, 1) := by decide +kernel
theorem dX7_moves_18 : decode cX7_moves 18 = .ok (.invokevirtual 152, 3) := by decide +kernel
theorem dX7_moves_21 : decode cX7_moves 21 = .ok (.aload_n 0, 1) := by decide +kernel
theorem dX7_moves_22 : decode cX7_moves 22 = .ok (.iload_n 1, 1) := by decide +kernel
theorem dX7_moves_23 : decode cX7_moves 23 = .ok (.iconst 4, 1) := by decide +kernel
theorem dX7_moves_24 : decode cX7_moves 24 = .ok (.invokevirtual 152, 3) := by decide +kernel
theorem dX7_moves_27 : decode cX7_moves 27 = .ok (.if_icmp .eq 7, 3) := by decide +kernel
theorem dX7_moves_30 : decode cX7_moves 30 = .ok (.iconst 1, 1) := by decide +kernel
theorem dX7_moves_31 : decode cX7_moves 31 = .ok (.goto 4, 3) := by decide +kernel
theorem dX7_moves_34 : decode cX7_moves 34 = .ok (.iconst 0, 1) := by decide +kernel
theorem dX7_moves_35 : decode cX7_moves 35 = .ok (.ireturn, 1) := by decide +kernel
theorem dX7_least_0 : decode cX7_least 0 = .ok (.iload_n 0, 1) := by decide +kernel
theorem dX7_least_1 : decode cX7_least 1 = .ok (.iconst 1, 1) := by decide +kernel
theorem dX7_least_2 : decode cX7_least 2 = .ok (.if_icmp .ge 7, 3) := by decide +kernel
theorem dX7_least_5 : decode cX7_least 5 = .ok (.iconst 1, 1) := by decide +kernel
theorem dX7_least_6 : decode cX7_least 6 = .ok (.goto 4, 3) := by decide +kernel
theorem dX7_least_9 : decode cX7_least 9 = .ok (.iload_n 0, 1) := by decide +kernel
theorem dX7_least_10 : decode cX7_least 10 = .ok (.ireturn, 1) := by decide +kernel
theorem dX7_takes_0 : decode cX7_takes 0 = .ok (.aload_n 0, 1) := by decide +kernel
theorem dX7_takes_1 : decode cX7_takes 1 = .ok (.iload_n 1, 1) := by decide +kernel
theorem dX7_takes_2 : decode cX7_takes 2 = .ok (.invokevirtual 172, 3) := by decide +kernel
theorem dX7_takes_5 : decode cX7_takes 5 = .ok (.ifCond .eq 26, 3) := by decide +kernel
theorem dX7_takes_8 : decode cX7_takes 8 = .ok (.iconst 4, 1) := by decide +kernel
theorem dX7_takes_9 : decode cX7_takes 9 = .ok (.aload_n 0, 1) := by decide +kernel
theorem dX7_takes_10 : decode cX7_takes 10 = .ok (.iload_n 1, 1) := by decide +kernel
theorem dX7_takes_11 : decode cX7_takes 11 = .ok (.iconst 1, 1) := by decide +kernel
theorem dX7_takes_12 : decode cX7_takes 12 = .ok (.invokevirtual 152, 3) := by decide +kernel
theorem dX7_takes_15 : decode cX7_takes 15 = .ok (.aload_n 0, 1) := by decide +kernel
theorem dX7_takes_16 : decode cX7_takes 16 = .ok (.iload_n 1, 1) := by decide +kernel
theorem dX7_takes_17 : decode cX7_takes 17 = .ok (.iconst 2, 1) := by decide +kernel
theorem dX7_takes_18 : decode cX7_takes 18 = .ok (.invokevirtual 152, 3) := by decide +kernel
theorem dX7_takes_21 : decode cX7_takes 21 = .ok (.invokestatic 158, 3) := by decide +kernel
theorem dX7_takes_24 : decode cX7_takes 24 = .ok (.invokestatic 175, 3) := by decide +kernel
theorem dX7_takes_27 : decode cX7_takes 27 = .ok (.iadd, 1) := by decide +kernel
theorem dX7_takes_28 : decode cX7_takes 28 = .ok (.goto 4, 3) := by decide +kernel
theorem dX7_takes_31 : decode cX7_takes 31 = .ok (.iconst 3, 1) := by decide +kernel
theorem dX7_takes_32 : decode cX7_takes 32 = .ok (.ireturn, 1) := by decide +kernel
theorem dX7_passes_0 : decode cX7_passes 0 = .ok (.iload_n 1, 1) := by decide +kernel
theorem dX7_passes_1 : decode cX7_passes 1 = .ok (.ifCond .ne 5, 3) := by decide +kernel
theorem dX7_passes_4 : decode cX7_passes 4 = .ok (.iconst 0, 1) := by decide +kernel
theorem dX7_passes_5 : decode cX7_passes 5 = .ok (.ireturn, 1) := by decide +kernel
theorem dX7_passes_6 : decode cX7_passes 6 = .ok (.aload_n 0, 1) := by decide +kernel
theorem dX7_passes_7 : decode cX7_passes 7 = .ok (.iload_n 1, 1) := by decide +kernel
theorem dX7_passes_8 : decode cX7_passes 8 = .ok (.iconst 1, 1) := by decide +kernel
theorem dX7_passes_9 : decode cX7_passes 9 = .ok (.isub, 1) := by decide +kernel
theorem dX7_passes_10 : decode cX7_passes 10 = .ok (.iconst 0, 1) := by decide +kernel
theorem dX7_passes_11 : decode cX7_passes 11 = .ok (.invokevirtual 152, 3) := by decide +kernel
theorem dX7_passes_14 : decode cX7_passes 14 = .ok (.aload_n 0, 1) := by decide +kernel
theorem dX7_passes_15 : decode cX7_passes 15 = .ok (.iload_n 1, 1) := by decide +kernel
theorem dX7_passes_16 : decode cX7_passes 16 = .ok (.iconst 0, 1) := by decide +kernel
theorem dX7_passes_17 : decode cX7_passes 17 = .ok (.invokevirtual 152, 3) := by decide +kernel
theorem dX7_passes_20 : decode cX7_passes 20 = .ok (.if_icmp .ne 41, 3) := by decide +kernel
theorem dX7_passes_23 : decode cX7_passes 23 = .ok (.aload_n 0, 1) := by decide +kernel
theorem dX7_passes_24 : decode cX7_passes 24 = .ok (.iload_n 1, 1) := by decide +kernel
theorem dX7_passes_25 : decode cX7_passes 25 = .ok (.iconst 1, 1) := by decide +kernel
theorem dX7_passes_26 : decode cX7_passes 26 = .ok (.isub, 1) := by decide +kernel
theorem dX7_passes_27 : decode cX7_passes 27 = .ok (.iconst 2, 1) := by decide +kernel
theorem dX7_passes_28 : decode cX7_passes 28 = .ok (.invokevirtual 152, 3) := by decide +kernel
theorem dX7_passes_31 : decode cX7_passes 31 = .ok (.aload_n 0, 1) := by decide +kernel
theorem dX7_passes_32 : decode cX7_passes 32 = .ok (.iload_n 1, 1) := by decide +kernel
theorem dX7_passes_33 : decode cX7_passes 33 = .ok (.iconst 1, 1) := by decide +kernel
theorem dX7_passes_34 : decode cX7_passes 34 = .ok (.invokevirtual 152, 3) := by decide +kernel
theorem dX7_passes_37 : decode cX7_passes 37 = .ok (.if_icmp .ne 24, 3) := by decide +kernel
theorem dX7_passes_40 : decode cX7_passes 40 = .ok (.aload_n 0, 1) := by decide +kernel
theorem dX7_passes_41 : decode cX7_passes 41 = .ok (.iload_n 1, 1) := by decide +kernel
theorem dX7_passes_42 : decode cX7_passes 42 = .ok (.iconst 1, 1) := by decide +kernel
theorem dX7_passes_43 : decode cX7_passes 43 = .ok (.isub, 1) := by decide +kernel
theorem dX7_passes_44 : decode cX7_passes 44 = .ok (.iconst 4, 1) := by decide +kernel
theorem dX7_passes_45 : decode cX7_passes 45 = .ok (.invokevirtual 152, 3) := by decide +kernel
theorem dX7_passes_48 : decode cX7_passes 48 = .ok (.aload_n 0, 1) := by decide +kernel
theorem dX7_passes_49 : decode cX7_passes 49 = .ok (.iload_n 1, 1) := by decide +kernel
theorem dX7_passes_50 : decode cX7_passes 50 = .ok (.iconst 3, 1) := by decide +kernel
theorem dX7_passes_51 : decode cX7_passes 51 = .ok (.invokevirtual 152, 3) := by decide +kernel
theorem dX7_passes_54 : decode cX7_passes 54 = .ok (.if_icmp .ne 7, 3) := by decide +kernel
theorem dX7_passes_57 : decode cX7_passes 57 = .ok (.iconst 1, 1) := by decide +kernel
theorem dX7_passes_58 : decode cX7_passes 58 = .ok (.goto 4, 3) := by decide +kernel
theorem dX7_passes_61 : decode cX7_passes 61 = .ok (.iconst 0, 1) := by decide +kernel
theorem dX7_passes_62 : decode cX7_passes 62 = .ok (.istore_n 2, 1) := by decide +kernel
theorem dX7_passes_63 : decode cX7_passes 63 = .ok (.iload_n 2, 1) := by decide +kernel
theorem dX7_passes_64 : decode cX7_passes 64 = .ok (.ifCond .eq 7, 3) := by decide +kernel
theorem dX7_passes_67 : decode cX7_passes 67 = .ok (.iconst 0, 1) := by decide +kernel
theorem dX7_passes_68 : decode cX7_passes 68 = .ok (.goto 23, 3) := by decide +kernel
theorem dX7_passes_71 : decode cX7_passes 71 = .ok (.aload_n 0, 1) := by decide +kernel
theorem dX7_passes_72 : decode cX7_passes 72 = .ok (.iload_n 1, 1) := by decide +kernel
theorem dX7_passes_73 : decode cX7_passes 73 = .ok (.iconst 1, 1) := by decide +kernel
theorem dX7_passes_74 : decode cX7_passes 74 = .ok (.isub, 1) := by decide +kernel
theorem dX7_passes_75 : decode cX7_passes 75 = .ok (.iconst 2, 1) := by decide +kernel
theorem dX7_passes_76 : decode cX7_passes 76 = .ok (.invokevirtual 152, 3) := by decide +kernel
theorem dX7_passes_79 : decode cX7_passes 79 = .ok (.aload_n 0, 1) := by decide +kernel
theorem dX7_passes_80 : decode cX7_passes 80 = .ok (.iload_n 1, 1) := by decide +kernel
theorem dX7_passes_81 : decode cX7_passes 81 = .ok (.iconst 1, 1) := by decide +kernel
theorem dX7_passes_82 : decode cX7_passes 82 = .ok (.invokevirtual 152, 3) := by decide +kernel
theorem dX7_passes_85 : decode cX7_passes 85 = .ok (.invokestatic 158, 3) := by decide +kernel
theorem dX7_passes_88 : decode cX7_passes 88 = .ok (.invokestatic 175, 3) := by decide +kernel
theorem dX7_passes_91 : decode cX7_passes 91 = .ok (.ireturn, 1) := by decide +kernel
theorem dX7_beginning_0 : decode cX7_beginning 0 = .ok (.iconst 0, 1) := by decide +kernel
theorem dX7_beginning_1 : decode cX7_beginning 1 = .ok (.istore_n 2, 1) := by decide +kernel
theorem dX7_beginning_2 : decode cX7_beginning 2 = .ok (.iconst 0, 1) := by decide +kernel
theorem dX7_beginning_3 : decode cX7_beginning 3 = .ok (.istore_n 3, 1) := by decide +kernel
theorem dX7_beginning_4 : decode cX7_beginning 4 = .ok (.iload_n 3, 1) := by decide +kernel
theorem dX7_beginning_5 : decode cX7_beginning 5 = .ok (.iload_n 1, 1) := by decide +kernel
theorem dX7_beginning_6 : decode cX7_beginning 6 = .ok (.if_icmp .ge 23, 3) := by decide +kernel
theorem dX7_beginning_9 : decode cX7_beginning 9 = .ok (.iload_n 2, 1) := by decide +kernel
theorem dX7_beginning_10 : decode cX7_beginning 10 = .ok (.aload_n 0, 1) := by decide +kernel
theorem dX7_beginning_11 : decode cX7_beginning 11 = .ok (.iload_n 3, 1) := by decide +kernel
theorem dX7_beginning_12 : decode cX7_beginning 12 = .ok (.invokevirtual 178, 3) := by decide +kernel
theorem dX7_beginning_15 : decode cX7_beginning 15 = .ok (.aload_n 0, 1) := by decide +kernel
theorem dX7_beginning_16 : decode cX7_beginning 16 = .ok (.iload_n 3, 1) := by decide +kernel
theorem dX7_beginning_17 : decode cX7_beginning 17 = .ok (.invokevirtual 181, 3) := by decide +kernel
theorem dX7_beginning_20 : decode cX7_beginning 20 = .ok (.iadd, 1) := by decide +kernel
theorem dX7_beginning_21 : decode cX7_beginning 21 = .ok (.iadd, 1) := by decide +kernel
theorem dX7_beginning_22 : decode cX7_beginning 22 = .ok (.istore_n 2, 1) := by decide +kernel
theorem dX7_beginning_23 : decode cX7_beginning 23 = .ok (.iinc 3 1, 3) := by decide +kernel
theorem dX7_beginning_26 : decode cX7_beginning 26 = .ok (.goto (-22), 3) := by decide +kernel
theorem dX7_beginning_29 : decode cX7_beginning 29 = .ok (.iload_n 2, 1) := by decide +kernel
theorem dX7_beginning_30 : decode cX7_beginning 30 = .ok (.ireturn, 1) := by decide +kernel
theorem dX7_signed_0 : decode cX7_signed 0 = .ok (.aload_n 0, 1) := by decide +kernel
theorem dX7_signed_1 : decode cX7_signed 1 = .ok (.aload_n 0, 1) := by decide +kernel
theorem dX7_signed_2 : decode cX7_signed 2 = .ok (.iload_n 1, 1) := by decide +kernel
theorem dX7_signed_3 : decode cX7_signed 3 = .ok (.invokevirtual 127, 3) := by decide +kernel
theorem dX7_signed_6 : decode cX7_signed 6 = .ok (.ifCond .ne 7, 3) := by decide +kernel
theorem dX7_signed_9 : decode cX7_signed 9 = .ok (.iconst 1, 1) := by decide +kernel
theorem dX7_signed_10 : decode cX7_signed 10 = .ok (.goto 18, 3) := by decide +kernel
theorem dX7_signed_13 : decode cX7_signed 13 = .ok (.iload_n 2, 1) := by decide +kernel
theorem dX7_signed_14 : decode cX7_signed 14 = .ok (.iconst 0, 1) := by decide +kernel
theorem dX7_signed_15 : decode cX7_signed 15 = .ok (.bipush 8, 2) := by decide +kernel
theorem dX7_signed_17 : decode cX7_signed 17 = .ok (.invokestatic 89, 3) := by decide +kernel
theorem dX7_signed_20 : decode cX7_signed 20 = .ok (.ifCond .ne 7, 3) := by decide +kernel
theorem dX7_signed_23 : decode cX7_signed 23 = .ok (.iconst 2, 1) := by decide +kernel
theorem dX7_signed_24 : decode cX7_signed 24 = .ok (.goto 4, 3) := by decide +kernel
theorem dX7_signed_27 : decode cX7_signed 27 = .ok (.iconst 0, 1) := by decide +kernel
theorem dX7_signed_28 : decode cX7_signed 28 = .ok (.putfield 78, 3) := by decide +kernel
theorem dX7_signed_31 : decode cX7_signed 31 = .ok (.aload_n 0, 1) := by decide +kernel
theorem dX7_signed_32 : decode cX7_signed 32 = .ok (.getfield 78, 3) := by decide +kernel
theorem dX7_signed_35 : decode cX7_signed 35 = .ok (.ifCond .le 5, 3) := by decide +kernel
theorem dX7_signed_38 : decode cX7_signed 38 = .ok (.iconst 0, 1) := by decide +kernel
theorem dX7_signed_39 : decode cX7_signed 39 = .ok (.ireturn, 1) := by decide +kernel
theorem dX7_signed_40 : decode cX7_signed 40 = .ok (.aload_n 0, 1) := by decide +kernel
theorem dX7_signed_41 : decode cX7_signed 41 = .ok (.invokevirtual 184, 3) := by decide +kernel
theorem dX7_signed_44 : decode cX7_signed 44 = .ok (.iload_n 2, 1) := by decide +kernel
theorem dX7_signed_45 : decode cX7_signed 45 = .ok (.bipush 6, 2) := by decide +kernel
theorem dX7_signed_47 : decode cX7_signed 47 = .ok (.if_icmp .ge 10, 3) := by decide +kernel
theorem dX7_signed_50 : decode cX7_signed 50 = .ok (.aload_n 0, 1) := by decide +kernel
theorem dX7_signed_51 : decode cX7_signed 51 = .ok (.iload_n 1, 1) := by decide +kernel
theorem dX7_signed_52 : decode cX7_signed 52 = .ok (.iload_n 2, 1) := by decide +kernel
theorem dX7_signed_53 : decode cX7_signed 53 = .ok (.invokevirtual 152, 3) := by decide +kernel
theorem dX7_signed_56 : decode cX7_signed 56 = .ok (.ireturn, 1) := by decide +kernel
theorem dX7_signed_57 : decode cX7_signed 57 = .ok (.aload_n 0, 1) := by decide +kernel
theorem dX7_signed_58 : decode cX7_signed 58 = .ok (.iload_n 1, 1) := by decide +kernel
theorem dX7_signed_59 : decode cX7_signed 59 = .ok (.invokevirtual 187, 3) := by decide +kernel
theorem dX7_signed_62 : decode cX7_signed 62 = .ok (.istore_n 3, 1) := by decide +kernel
theorem dX7_signed_63 : decode cX7_signed 63 = .ok (.iload_n 2, 1) := by decide +kernel
theorem dX7_signed_64 : decode cX7_signed 64 = .ok (.bipush 6, 2) := by decide +kernel
theorem dX7_signed_66 : decode cX7_signed 66 = .ok (.if_icmp .ne 7, 3) := by decide +kernel
theorem dX7_signed_69 : decode cX7_signed 69 = .ok (.iload_n 3, 1) := by decide +kernel
theorem dX7_signed_70 : decode cX7_signed 70 = .ok (.goto 32, 3) := by decide +kernel
theorem dX7_signed_73 : decode cX7_signed 73 = .ok (.iload_n 2, 1) := by decide +kernel
theorem dX7_signed_74 : decode cX7_signed 74 = .ok (.bipush 7, 2) := by decide +kernel
theorem dX7_signed_76 : decode cX7_signed 76 = .ok (.if_icmp .ne 13, 3) := by decide +kernel
theorem dX7_signed_79 : decode cX7_signed 79 = .ok (.iload_n 3, 1) := by decide +kernel
theorem dX7_signed_80 : decode cX7_signed 80 = .ok (.aload_n 0, 1) := by decide +kernel
theorem dX7_signed_81 : decode cX7_signed 81 = .ok (.iload_n 1, 1) := by decide +kernel
theorem dX7_signed_82 : decode cX7_signed 82 = .ok (.invokevirtual 178, 3) := by decide +kernel
theorem dX7_signed_85 : decode cX7_signed 85 = .ok (.iadd, 1) := by decide +kernel
theorem dX7_signed_86 : decode cX7_signed 86 = .ok (.goto 16, 3) := by decide +kernel
theorem dX7_signed_89 : decode cX7_signed 89 = .ok (.iload_n 3, 1) := by decide +kernel
theorem dX7_signed_90 : decode cX7_signed 90 = .ok (.aload_n 0, 1) := by decide +kernel
theorem dX7_signed_91 : decode cX7_signed 91 = .ok (.iload_n 1, 1) := by decide +kernel
theorem dX7_signed_92 : decode cX7_signed 92 = .ok (.invokevirtual 178, 3) := by decide +kernel
theorem dX7_signed_95 : decode cX7_signed 95 = .ok (.iadd, 1) := by decide +kernel
theorem dX7_signed_96 : decode cX7_signed 96 = .ok (.aload_n 0, 1) := by decide +kernel
theorem dX7_signed_97 : decode cX7_signed 97 = .ok (.iload_n 1, 1) := by decide +kernel
theorem dX7_signed_98 : decode cX7_signed 98 = .ok (.invokevirtual 181, 3) := by decide +kernel
theorem dX7_signed_101 : decode cX7_signed 101 = .ok (.iadd, 1) := by decide +kernel
theorem dX7_signed_102 : decode cX7_signed 102 = .ok (.ireturn, 1) := by decide +kernel
theorem dX7_along_0 : decode cX7_along 0 = .ok (.iload_n 0, 1) := by decide +kernel
theorem dX7_along_1 : decode cX7_along 1 = .ok (.iconst 3, 1) := by decide +kernel
theorem dX7_along_2 : decode cX7_along 2 = .ok (.idiv, 1) := by decide +kernel
theorem dX7_along_3 : decode cX7_along 3 = .ok (.istore_n 3, 1) := by decide +kernel
theorem dX7_along_4 : decode cX7_along 4 = .ok (.iload_n 0, 1) := by decide +kernel
theorem dX7_along_5 : decode cX7_along 5 = .ok (.iconst 3, 1) := by decide +kernel
theorem dX7_along_6 : decode cX7_along 6 = .ok (.irem, 1) := by decide +kernel
theorem dX7_along_7 : decode cX7_along 7 = .ok (.istore 4, 2) := by decide +kernel
theorem dX7_along_9 : decode cX7_along 9 = .ok (.iconst 0, 1) := by decide +kernel
theorem dX7_along_10 : decode cX7_along 10 = .ok (.istore 5, 2) := by decide +kernel
theorem dX7_along_12 : decode cX7_along 12 = .ok (.iload 5, 2) := by decide +kernel
theorem dX7_along_14 : decode cX7_along 14 = .ok (.iload_n 2, 1) := by decide +kernel
theorem dX7_along_15 : decode cX7_along 15 = .ok (.if_icmp .ge 60, 3) := by decide +kernel
theorem dX7_along_18 : decode cX7_along 18 = .ok (.iload 4, 2) := by decide +kernel
theorem dX7_along_20 : decode cX7_along 20 = .ok (.iload_n 1, 1) := by decide +kernel
theorem dX7_along_21 : decode cX7_along 21 = .ok (.iconst 3, 1) := by decide +kernel
theorem dX7_along_22 : decode cX7_along 22 = .ok (.irem, 1) := by decide +kernel
theorem dX7_along_23 : decode cX7_along 23 = .ok (.if_icmp .eq 24, 3) := by decide +kernel
theorem dX7_along_26 : decode cX7_along 26 = .ok (.iload 4, 2) := by decide +kernel
theorem dX7_along_28 : decode cX7_along 28 = .ok (.iload 4, 2) := by decide +kernel
theorem dX7_along_30 : decode cX7_along 30 = .ok (.iload_n 1, 1) := by decide +kernel
theorem dX7_along_31 : decode cX7_along 31 = .ok (.iconst 3, 1) := by decide +kernel
theorem dX7_along_32 : decode cX7_along 32 = .ok (.irem, 1) := by decide +kernel
theorem dX7_along_33 : decode cX7_along 33 = .ok (.if_icmp .ge 7, 3) := by decide +kernel
theorem dX7_along_36 : decode cX7_along 36 = .ok (.iconst 1, 1) := by decide +kernel
theorem dX7_along_37 : decode cX7_along 37 = .ok (.goto 4, 3) := by decide +kernel
theorem dX7_along_40 : decode cX7_along 40 = .ok (.iconst (-1), 1) := by decide +kernel
theorem dX7_along_41 : decode cX7_along 41 = .ok (.iadd, 1) := by decide +kernel
theorem dX7_along_42 : decode cX7_along 42 = .ok (.istore 4, 2) := by decide +kernel
theorem dX7_along_44 : decode cX7_along 44 = .ok (.goto 25, 3) := by decide +kernel
theorem dX7_along_47 : decode cX7_along 47 = .ok (.iload_n 3, 1) := by decide +kernel
theorem dX7_along_48 : decode cX7_along 48 = .ok (.iload_n 1, 1) := by decide +kernel
theorem dX7_along_49 : decode cX7_along 49 = .ok (.iconst 3, 1) := by decide +kernel
theorem dX7_along_50 : decode cX7_along 50 = .ok (.idiv, 1) := by decide +kernel
theorem dX7_along_51 : decode cX7_along 51 = .ok (.if_icmp .eq 18, 3) := by decide +kernel
theorem dX7_along_54 : decode cX7_along 54 = .ok (.iload_n 3, 1) := by decide +kernel
theorem dX7_along_55 : decode cX7_along 55 = .ok (.iload_n 3, 1) := by decide +kernel
theorem dX7_along_56 : decode cX7_along 56 = .ok (.iload_n 1, 1) := by decide +kernel
theorem dX7_along_57 : decode cX7_along 57 = .ok (.iconst 3, 1) := by decide +kernel
theorem dX7_along_58 : decode cX7_along 58 = .ok (.idiv, 1) := by decide +kernel
theorem dX7_along_59 : decode cX7_along 59 = .ok (.if_icmp .ge 7, 3) := by decide +kernel
theorem dX7_along_62 : decode cX7_along 62 = .ok (.iconst 1, 1) := by decide +kernel
theorem dX7_along_63 : decode cX7_along 63 = .ok (.goto 4, 3) := by decide +kernel
theorem dX7_along_66 : decode cX7_along 66 = .ok (.iconst (-1), 1) := by decide +kernel
theorem dX7_along_67 : decode cX7_along 67 = .ok (.iadd, 1) := by decide +kernel
theorem dX7_along_68 : decode cX7_along 68 = .ok (.istore_n 3, 1) := by decide +kernel
theorem dX7_along_69 : decode cX7_along 69 = .ok (.iinc 5 1, 3) := by decide +kernel
theorem dX7_along_72 : decode cX7_along 72 = .ok (.goto (-60), 3) := by decide +kernel
theorem dX7_along_75 : decode cX7_along 75 = .ok (.iconst 3, 1) := by decide +kernel
theorem dX7_along_76 : decode cX7_along 76 = .ok (.iload_n 3, 1) := by decide +kernel
theorem dX7_along_77 : decode cX7_along 77 = .ok (.imul, 1) := by decide +kernel
theorem dX7_along_78 : decode cX7_along 78 = .ok (.iload 4, 2) := by decide +kernel
theorem dX7_along_80 : decode cX7_along 80 = .ok (.iadd, 1) := by decide +kernel
theorem dX7_along_81 : decode cX7_along 81 = .ok (.ireturn, 1) := by decide +kernel
theorem dX7_at_0 : decode cX7_at 0 = .ok (.aload_n 0, 1) := by decide +kernel
theorem dX7_at_1 : decode cX7_at 1 = .ok (.iload_n 1, 1) := by decide +kernel
theorem dX7_at_2 : decode cX7_at 2 = .ok (.ifCond .ge 7, 3) := by decide +kernel
theorem dX7_at_5 : decode cX7_at 5 = .ok (.iconst 1, 1) := by decide +kernel
theorem dX7_at_6 : decode cX7_at 6 = .ok (.goto 18, 3) := by decide +kernel
theorem dX7_at_9 : decode cX7_at 9 = .ok (.iload_n 2, 1) := by decide +kernel
theorem dX7_at_10 : decode cX7_at 10 = .ok (.iconst 0, 1) := by decide +kernel
theorem dX7_at_11 : decode cX7_at 11 = .ok (.bipush 7, 2) := by decide +kernel
theorem dX7_at_13 : decode cX7_at 13 = .ok (.invokestatic 89, 3) := by decide +kernel
theorem dX7_at_16 : decode cX7_at 16 = .ok (.ifCond .ne 7, 3) := by decide +kernel
theorem dX7_at_19 : decode cX7_at 19 = .ok (.iconst 2, 1) := by decide +kernel
theorem dX7_at_20 : decode cX7_at 20 = .ok (.goto 4, 3) := by decide +kernel
theorem dX7_at_23 : decode cX7_at 23 = .ok (.iconst 0, 1) := by decide +kernel
theorem dX7_at_24 : decode cX7_at 24 = .ok (.putfield 78, 3) := by decide +kernel
theorem dX7_at_27 : decode cX7_at 27 = .ok (.aload_n 0, 1) := by decide +kernel
theorem dX7_at_28 : decode cX7_at 28 = .ok (.getfield 78, 3) := by decide +kernel
theorem dX7_at_31 : decode cX7_at 31 = .ok (.ifCond .le 5, 3) := by decide +kernel
theorem dX7_at_34 : decode cX7_at 34 = .ok (.iconst 0, 1) := by decide +kernel
theorem dX7_at_35 : decode cX7_at 35 = .ok (.ireturn, 1) := by decide +kernel
theorem dX7_at_36 : decode cX7_at 36 = .ok (.aload_n 0, 1) := by decide +kernel
theorem dX7_at_37 : decode cX7_at 37 = .ok (.invokevirtual 184, 3) := by decide +kernel
theorem dX7_at_40 : decode cX7_at 40 = .ok (.iconst 0, 1) := by decide +kernel
theorem dX7_at_41 : decode cX7_at 41 = .ok (.istore_n 3, 1) := by decide +kernel
theorem dX7_at_42 : decode cX7_at 42 = .ok (.iload_n 1, 1) := by decide +kernel
theorem dX7_at_43 : decode cX7_at 43 = .ok (.istore 4, 2) := by decide +kernel
theorem dX7_at_45 : decode cX7_at 45 = .ok (.iload_n 3, 1) := by decide +kernel
theorem dX7_at_46 : decode cX7_at 46 = .ok (.aload_n 0, 1) := by decide +kernel
theorem dX7_at_47 : decode cX7_at 47 = .ok (.getfield 93, 3) := by decide +kernel
theorem dX7_at_50 : decode cX7_at 50 = .ok (.if_icmp .ge 41, 3) := by decide +kernel
theorem dX7_at_53 : decode cX7_at 53 = .ok (.iload 4, 2) := by decide +kernel
theorem dX7_at_55 : decode cX7_at 55 = .ok (.aload_n 0, 1) := by decide +kernel
theorem dX7_at_56 : decode cX7_at 56 = .ok (.iload_n 3, 1) := by decide +kernel
theorem dX7_at_57 : decode cX7_at 57 = .ok (.invokevirtual 178, 3) := by decide +kernel
theorem dX7_at_60 : decode cX7_at 60 = .ok (.aload_n 0, 1) := by decide +kernel
theorem dX7_at_61 : decode cX7_at 61 = .ok (.iload_n 3, 1) := by decide +kernel
theorem dX7_at_62 : decode cX7_at 62 = .ok (.invokevirtual 181, 3) := by decide +kernel
theorem dX7_at_65 : decode cX7_at 65 = .ok (.iadd, 1) := by decide +kernel
theorem dX7_at_66 : decode cX7_at 66 = .ok (.if_icmp .lt 25, 3) := by decide +kernel
theorem dX7_at_69 : decode cX7_at 69 = .ok (.iload 4, 2) := by decide +kernel
theorem dX7_at_71 : decode cX7_at 71 = .ok (.aload_n 0, 1) := by decide +kernel
theorem dX7_at_72 : decode cX7_at 72 = .ok (.iload_n 3, 1) := by decide +kernel
theorem dX7_at_73 : decode cX7_at 73 = .ok (.invokevirtual 178, 3) := by decide +kernel
theorem dX7_at_76 : decode cX7_at 76 = .ok (.aload_n 0, 1) := by decide +kernel
theorem dX7_at_77 : decode cX7_at 77 = .ok (.iload_n 3, 1) := by decide +kernel
theorem dX7_at_78 : decode cX7_at 78 = .ok (.invokevirtual 181, 3) := by decide +kernel
theorem dX7_at_81 : decode cX7_at 81 = .ok (.iadd, 1) := by decide +kernel
theorem dX7_at_82 : decode cX7_at 82 = .ok (.isub, 1) := by decide +kernel
theorem dX7_at_83 : decode cX7_at 83 = .ok (.istore 4, 2) := by decide +kernel
theorem dX7_at_85 : decode cX7_at 85 = .ok (.iinc 3 1, 3) := by decide +kernel
theorem dX7_at_88 : decode cX7_at 88 = .ok (.goto (-43), 3) := by decide +kernel
theorem dX7_at_91 : decode cX7_at 91 = .ok (.iload_n 3, 1) := by decide +kernel
theorem dX7_at_92 : decode cX7_at 92 = .ok (.aload_n 0, 1) := by decide +kernel
theorem dX7_at_93 : decode cX7_at 93 = .ok (.getfield 93, 3) := by decide +kernel
theorem dX7_at_96 : decode cX7_at 96 = .ok (.if_icmp .ne 5, 3) := by decide +kernel
theorem dX7_at_99 : decode cX7_at 99 = .ok (.iconst (-1), 1) := by decide +kernel
theorem dX7_at_100 : decode cX7_at 100 = .ok (.ireturn, 1) := by decide +kernel
theorem dX7_at_101 : decode cX7_at 101 = .ok (.iload 4, 2) := by decide +kernel
theorem dX7_at_103 : decode cX7_at 103 = .ok (.aload_n 0, 1) := by decide +kernel
theorem dX7_at_104 : decode cX7_at 104 = .ok (.iload_n 3, 1) := by decide +kernel
theorem dX7_at_105 : decode cX7_at 105 = .ok (.invokevirtual 178, 3) := by decide +kernel
theorem dX7_at_108 : decode cX7_at 108 = .ok (.if_icmp .ge 7, 3) := by decide +kernel
theorem dX7_at_111 : decode cX7_at 111 = .ok (.iconst 1, 1) := by decide +kernel
theorem dX7_at_112 : decode cX7_at 112 = .ok (.goto 4, 3) := by decide +kernel
theorem dX7_at_115 : decode cX7_at 115 = .ok (.iconst 0, 1) := by decide +kernel
theorem dX7_at_116 : decode cX7_at 116 = .ok (.istore 5, 2) := by decide +kernel
theorem dX7_at_118 : decode cX7_at 118 = .ok (.iload_n 2, 1) := by decide +kernel
theorem dX7_at_119 : decode cX7_at 119 = .ok (.bipush 7, 2) := by decide +kernel
theorem dX7_at_121 : decode cX7_at 121 = .ok (.if_icmp .ne 5, 3) := by decide +kernel
theorem dX7_at_124 : decode cX7_at 124 = .ok (.iload_n 3, 1) := by decide +kernel
theorem dX7_at_125 : decode cX7_at 125 = .ok (.ireturn, 1) := by decide +kernel
theorem dX7_at_126 : decode cX7_at 126 = .ok (.iload_n 2, 1) := by decide +kernel
theorem dX7_at_127 : decode cX7_at 127 = .ok (.ifCond .ne 10, 3) := by decide +kernel
theorem dX7_at_130 : decode cX7_at 130 = .ok (.aload_n 0, 1) := by decide +kernel
theorem dX7_at_131 : decode cX7_at 131 = .ok (.iload_n 3, 1) := by decide +kernel
theorem dX7_at_132 : decode cX7_at 132 = .ok (.iconst 0, 1) := by decide +kernel
theorem dX7_at_133 : decode cX7_at 133 = .ok (.invokevirtual 152, 3) := by decide +kernel
theorem dX7_at_136 : decode cX7_at 136 = .ok (.ireturn, 1) := by decide +kernel
theorem dX7_at_137 : decode cX7_at 137 = .ok (.iload_n 2, 1) := by decide +kernel
theorem dX7_at_138 : decode cX7_at 138 = .ok (.iconst 3, 1) := by decide +kernel
theorem dX7_at_139 : decode cX7_at 139 = .ok (.if_icmp .le 12, 3) := by decide +kernel
theorem dX7_at_142 : decode cX7_at 142 = .ok (.aload_n 0, 1) := by decide +kernel
theorem dX7_at_143 : decode cX7_at 143 = .ok (.iload_n 3, 1) := by decide +kernel
theorem dX7_at_144 : decode cX7_at 144 = .ok (.iload_n 2, 1) := by decide +kernel
theorem dX7_at_145 : decode cX7_at 145 = .ok (.iconst 4, 1) := by decide +kernel
theorem dX7_at_146 : decode cX7_at 146 = .ok (.isub, 1) := by decide +kernel
theorem dX7_at_147 : decode cX7_at 147 = .ok (.invokevirtual 139, 3) := by decide +kernel
theorem dX7_at_150 : decode cX7_at 150 = .ok (.ireturn, 1) := by decide +kernel
theorem dX7_at_151 : decode cX7_at 151 = .ok (.iload_n 2, 1) := by decide +kernel
theorem dX7_at_152 : decode cX7_at 152 = .ok (.iconst 3, 1) := by decide +kernel
theorem dX7_at_153 : decode cX7_at 153 = .ok (.if_icmp .ne 19, 3) := by decide +kernel
theorem dX7_at_156 : decode cX7_at 156 = .ok (.iload 5, 2) := by decide +kernel
theorem dX7_at_158 : decode cX7_at 158 = .ok (.ifCond .eq 7, 3) := by decide +kernel
theorem dX7_at_161 : decode cX7_at 161 = .ok (.iconst 0, 1) := by decide +kernel
theorem dX7_at_162 : decode cX7_at 162 = .ok (.goto 9, 3) := by decide +kernel
theorem dX7_at_165 : decode cX7_at 165 = .ok (.aload_n 0, 1) := by decide +kernel
theorem dX7_at_166 : decode cX7_at 166 = .ok (.iload_n 3, 1) := by decide +kernel
theorem dX7_at_167 : decode cX7_at 167 = .ok (.iconst 5, 1) := by decide +kernel
theorem dX7_at_168 : decode cX7_at 168 = .ok (.invokevirtual 152, 3) := by decide +kernel
theorem dX7_at_171 : decode cX7_at 171 = .ok (.ireturn, 1) := by decide +kernel
theorem dX7_at_172 : decode cX7_at 172 = .ok (.iload 5, 2) := by decide +kernel
theorem dX7_at_174 : decode cX7_at 174 = .ok (.ifCond .eq 39, 3) := by decide +kernel
theorem dX7_at_177 : decode cX7_at 177 = .ok (.iload_n 2, 1) := by decide +kernel
theorem dX7_at_178 : decode cX7_at 178 = .ok (.iconst 2, 1) := by decide +kernel
theorem dX7_at_179 : decode cX7_at 179 = .ok (.if_icmp .ne 12, 3) := by decide +kernel
theorem dX7_at_182 : decode cX7_at 182 = .ok (.aload_n 0, 1) := by decide +kernel
theorem dX7_at_183 : decode cX7_at 183 = .ok (.iload_n 3, 1) := by decide +kernel
theorem dX7_at_184 : decode cX7_at 184 = .ok (.iconst 3, 1) := by decide +kernel
theorem dX7_at_185 : decode cX7_at 185 = .ok (.invokevirtual 152, 3) := by decide +kernel
theorem dX7_at_188 : decode cX7_at 188 = .ok (.goto 24, 3) := by decide +kernel
theorem dX7_at_191 : decode cX7_at 191 = .ok (.aload_n 0, 1) := by decide +kernel
theorem dX7_at_192 : decode cX7_at 192 = .ok (.iload_n 3, 1) := by decide +kernel
theorem dX7_at_193 : decode cX7_at 193 = .ok (.iconst 1, 1) := by decide +kernel
theorem dX7_at_194 : decode cX7_at 194 = .ok (.isub, 1) := by decide +kernel
theorem dX7_at_195 : decode cX7_at 195 = .ok (.iconst 2, 1) := by decide +kernel
theorem dX7_at_196 : decode cX7_at 196 = .ok (.invokevirtual 152, 3) := by decide +kernel
theorem dX7_at_199 : decode cX7_at 199 = .ok (.aload_n 0, 1) := by decide +kernel
theorem dX7_at_200 : decode cX7_at 200 = .ok (.iload_n 3, 1) := by decide +kernel
theorem dX7_at_201 : decode cX7_at 201 = .ok (.iconst 1, 1) := by decide +kernel
theorem dX7_at_202 : decode cX7_at 202 = .ok (.invokevirtual 152, 3) := by decide +kernel
theorem dX7_at_205 : decode cX7_at 205 = .ok (.iload 4, 2) := by decide +kernel
theorem dX7_at_207 : decode cX7_at 207 = .ok (.iconst 1, 1) := by decide +kernel
theorem dX7_at_208 : decode cX7_at 208 = .ok (.iadd, 1) := by decide +kernel
theorem dX7_at_209 : decode cX7_at 209 = .ok (.invokestatic 190, 3) := by decide +kernel
theorem dX7_at_212 : decode cX7_at 212 = .ok (.ireturn, 1) := by decide +kernel
theorem dX7_at_213 : decode cX7_at 213 = .ok (.iload 4, 2) := by decide +kernel
theorem dX7_at_215 : decode cX7_at 215 = .ok (.aload_n 0, 1) := by decide +kernel
theorem dX7_at_216 : decode cX7_at 216 = .ok (.iload_n 3, 1) := by decide +kernel
theorem dX7_at_217 : decode cX7_at 217 = .ok (.invokevirtual 178, 3) := by decide +kernel
theorem dX7_at_220 : decode cX7_at 220 = .ok (.isub, 1) := by decide +kernel
theorem dX7_at_221 : decode cX7_at 221 = .ok (.istore 6, 2) := by decide +kernel
theorem dX7_at_223 : decode cX7_at 223 = .ok (.aload_n 0, 1) := by decide +kernel
theorem dX7_at_224 : decode cX7_at 224 = .ok (.iload_n 3, 1) := by decide +kernel
theorem dX7_at_225 : decode cX7_at 225 = .ok (.invokevirtual 172, 3) := by decide +kernel
theorem dX7_at_228 : decode cX7_at 228 = .ok (.ifCond .eq 9, 3) := by decide +kernel
theorem dX7_at_231 : decode cX7_at 231 = .ok (.iload 6, 2) := by decide +kernel
theorem dX7_at_233 : decode cX7_at 233 = .ok (.iconst 2, 1) := by decide +kernel
theorem dX7_at_234 : decode cX7_at 234 = .ok (.if_icmp .ge 7, 3) := by decide +kernel
theorem dX7_at_237 : decode cX7_at 237 = .ok (.iconst 0, 1) := by decide +kernel
theorem dX7_at_238 : decode cX7_at 238 = .ok (.goto 7, 3) := by decide +kernel
theorem dX7_at_241 : decode cX7_at 241 = .ok (.iload 6, 2) := by decide +kernel
theorem dX7_at_243 : decode cX7_at 243 = .ok (.iconst 1, 1) := by decide +kernel
theorem dX7_at_244 : decode cX7_at 244 = .ok (.isub, 1) := by decide +kernel
theorem dX7_at_245 : decode cX7_at 245 = .ok (.istore 7, 2) := by decide +kernel
theorem dX7_at_247 : decode cX7_at 247 = .ok (.iload_n 2, 1) := by decide +kernel
theorem dX7_at_248 : decode cX7_at 248 = .ok (.iconst 1, 1) := by decide +kernel
theorem dX7_at_249 : decode cX7_at 249 = .ok (.if_icmp .ne 23, 3) := by decide +kernel
theorem dX7_at_252 : decode cX7_at 252 = .ok (.aload_n 0, 1) := by decide +kernel
theorem dX7_at_253 : decode cX7_at 253 = .ok (.iload_n 3, 1) := by decide +kernel
theorem dX7_at_254 : decode cX7_at 254 = .ok (.iconst 1, 1) := by decide +kernel
theorem dX7_at_255 : decode cX7_at 255 = .ok (.invokevirtual 152, 3) := by decide +kernel
theorem dX7_at_258 : decode cX7_at 258 = .ok (.aload_n 0, 1) := by decide +kernel
theorem dX7_at_259 : decode cX7_at 259 = .ok (.iload_n 3, 1) := by decide +kernel
theorem dX7_at_260 : decode cX7_at 260 = .ok (.iconst 2, 1) := by decide +kernel
theorem dX7_at_261 : decode cX7_at 261 = .ok (.invokevirtual 152, 3) := by decide +kernel
theorem dX7_at_264 : decode cX7_at 264 = .ok (.iload 7, 2) := by decide +kernel
theorem dX7_at_266 : decode cX7_at 266 = .ok (.invokestatic 190, 3) := by decide +kernel
theorem dX7_at_269 : decode cX7_at 269 = .ok (.goto 23, 3) := by decide +kernel
theorem dX7_at_272 : decode cX7_at 272 = .ok (.iload 7, 2) := by decide +kernel
theorem dX7_at_274 : decode cX7_at 274 = .ok (.ifCond .ne 12, 3) := by decide +kernel
theorem dX7_at_277 : decode cX7_at 277 = .ok (.aload_n 0, 1) := by decide +kernel
theorem dX7_at_278 : decode cX7_at 278 = .ok (.iload_n 3, 1) := by decide +kernel
theorem dX7_at_279 : decode cX7_at 279 = .ok (.iconst 3, 1) := by decide +kernel
theorem dX7_at_280 : decode cX7_at 280 = .ok (.invokevirtual 152, 3) := by decide +kernel
theorem dX7_at_283 : decode cX7_at 283 = .ok (.goto 9, 3) := by decide +kernel
theorem dX7_at_286 : decode cX7_at 286 = .ok (.aload_n 0, 1) := by decide +kernel
theorem dX7_at_287 : decode cX7_at 287 = .ok (.iload_n 3, 1) := by decide +kernel
theorem dX7_at_288 : decode cX7_at 288 = .ok (.iconst 4, 1) := by decide +kernel
theorem dX7_at_289 : decode cX7_at 289 = .ok (.invokevirtual 152, 3) := by decide +kernel
theorem dX7_at_292 : decode cX7_at 292 = .ok (.ireturn, 1) := by decide +kernel
theorem dX7_isJust_0 : decode cX7_isJust 0 = .ok (.iconst 1, 1) := by decide +kernel
theorem dX7_isJust_1 : decode cX7_isJust 1 = .ok (.istore_n 3, 1) := by decide +kernel
theorem dX7_isJust_2 : decode cX7_isJust 2 = .ok (.iconst 0, 1) := by decide +kernel
theorem dX7_isJust_3 : decode cX7_isJust 3 = .ok (.istore 4, 2) := by decide +kernel
theorem dX7_isJust_5 : decode cX7_isJust 5 = .ok (.iload 4, 2) := by decide +kernel
theorem dX7_isJust_7 : decode cX7_isJust 7 = .ok (.bipush 7, 2) := by decide +kernel
theorem dX7_isJust_9 : decode cX7_isJust 9 = .ok (.if_icmp .ge 56, 3) := by decide +kernel
theorem dX7_isJust_12 : decode cX7_isJust 12 = .ok (.iload_n 3, 1) := by decide +kernel
theorem dX7_isJust_13 : decode cX7_isJust 13 = .ok (.iload 4, 2) := by decide +kernel
theorem dX7_isJust_15 : decode cX7_isJust 15 = .ok (.bipush 6, 2) := by decide +kernel
theorem dX7_isJust_17 : decode cX7_isJust 17 = .ok (.if_icmp .ne 13, 3) := by decide +kernel
theorem dX7_isJust_20 : decode cX7_isJust 20 = .ok (.aload_n 0, 1) := by decide +kernel
theorem dX7_isJust_21 : decode cX7_isJust 21 = .ok (.iload_n 2, 1) := by decide +kernel
theorem dX7_isJust_22 : decode cX7_isJust 22 = .ok (.iconst 5, 1) := by decide +kernel
theorem dX7_isJust_23 : decode cX7_isJust 23 = .ok (.invokevirtual 152, 3) := by decide +kernel
theorem dX7_isJust_26 : decode cX7_isJust 26 = .ok (.iconst 2, 1) := by decide +kernel
theorem dX7_isJust_27 : decode cX7_isJust 27 = .ok (.if_icmp .ne 25, 3) := by decide +kernel
theorem dX7_isJust_30 : decode cX7_isJust 30 = .ok (.aload_n 0, 1) := by decide +kernel
theorem dX7_isJust_31 : decode cX7_isJust 31 = .ok (.getfield 7, 3) := by decide +kernel
theorem dX7_isJust_34 : decode cX7_isJust 34 = .ok (.bipush 7, 2) := by decide +kernel
theorem dX7_isJust_36 : decode cX7_isJust 36 = .ok (.iload_n 1, 1) := by decide +kernel
theorem dX7_isJust_37 : decode cX7_isJust 37 = .ok (.imul, 1) := by decide +kernel
theorem dX7_isJust_38 : decode cX7_isJust 38 = .ok (.iload 4, 2) := by decide +kernel
theorem dX7_isJust_40 : decode cX7_isJust 40 = .ok (.iadd, 1) := by decide +kernel
theorem dX7_isJust_41 : decode cX7_isJust 41 = .ok (.iaload, 1) := by decide +kernel
theorem dX7_isJust_42 : decode cX7_isJust 42 = .ok (.aload_n 0, 1) := by decide +kernel
theorem dX7_isJust_43 : decode cX7_isJust 43 = .ok (.iload_n 2, 1) := by decide +kernel
theorem dX7_isJust_44 : decode cX7_isJust 44 = .ok (.iload 4, 2) := by decide +kernel
theorem dX7_isJust_46 : decode cX7_isJust 46 = .ok (.invokevirtual 152, 3) := by decide +kernel
theorem dX7_isJust_49 : decode cX7_isJust 49 = .ok (.if_icmp .ne 7, 3) := by decide +kernel
theorem dX7_isJust_52 : decode cX7_isJust 52 = .ok (.iconst 1, 1) := by decide +kernel
theorem dX7_isJust_53 : decode cX7_isJust 53 = .ok (.goto 4, 3) := by decide +kernel
theorem dX7_isJust_56 : decode cX7_isJust 56 = .ok (.iconst 0, 1) := by decide +kernel
theorem dX7_isJust_57 : decode cX7_isJust 57 = .ok (.iand, 1) := by decide +kernel
theorem dX7_isJust_58 : decode cX7_isJust 58 = .ok (.istore_n 3, 1) := by decide +kernel
theorem dX7_isJust_59 : decode cX7_isJust 59 = .ok (.iinc 4 1, 3) := by decide +kernel
theorem dX7_isJust_62 : decode cX7_isJust 62 = .ok (.goto (-57), 3) := by decide +kernel
theorem dX7_isJust_65 : decode cX7_isJust 65 = .ok (.iload_n 3, 1) := by decide +kernel
theorem dX7_isJust_66 : decode cX7_isJust 66 = .ok (.ireturn, 1) := by decide +kernel
theorem dX7_read_0 : decode cX7_read 0 = .ok (.aload_n 0, 1) := by decide +kernel
theorem dX7_read_1 : decode cX7_read 1 = .ok (.iload_n 1, 1) := by decide +kernel
theorem dX7_read_2 : decode cX7_read 2 = .ok (.iconst 1, 1) := by decide +kernel
theorem dX7_read_3 : decode cX7_read 3 = .ok (.invokevirtual 152, 3) := by decide +kernel
theorem dX7_read_6 : decode cX7_read 6 = .ok (.istore_n 2, 1) := by decide +kernel
theorem dX7_read_7 : decode cX7_read 7 = .ok (.aload_n 0, 1) := by decide +kernel
theorem dX7_read_8 : decode cX7_read 8 = .ok (.iload_n 1, 1) := by decide +kernel
theorem dX7_read_9 : decode cX7_read 9 = .ok (.iconst 3, 1) := by decide +kernel
theorem dX7_read_10 : decode cX7_read 10 = .ok (.invokevirtual 152, 3) := by decide +kernel
theorem dX7_read_13 : decode cX7_read 13 = .ok (.istore_n 3, 1) := by decide +kernel
theorem dX7_read_14 : decode cX7_read 14 = .ok (.aload_n 0, 1) := by decide +kernel
theorem dX7_read_15 : decode cX7_read 15 = .ok (.iload_n 1, 1) := by decide +kernel
theorem dX7_read_16 : decode cX7_read 16 = .ok (.iconst 0, 1) := by decide +kernel
theorem dX7_read_17 : decode cX7_read 17 = .ok (.invokevirtual 152, 3) := by decide +kernel
theorem dX7_read_20 : decode cX7_read 20 = .ok (.istore 4, 2) := by decide +kernel
theorem dX7_read_22 : decode cX7_read 22 = .ok (.aload_n 0, 1) := by decide +kernel
theorem dX7_read_23 : decode cX7_read 23 = .ok (.iload_n 1, 1) := by decide +kernel
theorem dX7_read_24 : decode cX7_read 24 = .ok (.invokevirtual 172, 3) := by decide +kernel
theorem dX7_read_27 : decode cX7_read 27 = .ok (.ifCond .ne 26, 3) := by decide +kernel
theorem dX7_read_30 : decode cX7_read 30 = .ok (.aload_n 0, 1) := by decide +kernel
theorem dX7_read_31 : decode cX7_read 31 = .ok (.getfield 13, 3) := by decide +kernel
theorem dX7_read_34 : decode cX7_read 34 = .ok (.iload_n 1, 1) := by decide +kernel
theorem dX7_read_35 : decode cX7_read 35 = .ok (.iaload, 1) := by decide +kernel
theorem dX7_read_36 : decode cX7_read 36 = .ok (.ifCond .eq 17, 3) := by decide +kernel
theorem dX7_read_39 : decode cX7_read 39 = .ok (.aload_n 0, 1) := by decide +kernel
theorem dX7_read_40 : decode cX7_read 40 = .ok (.getfield 13, 3) := by decide +kernel
theorem dX7_read_43 : decode cX7_read 43 = .ok (.iload_n 1, 1) := by decide +kernel
theorem dX7_read_44 : decode cX7_read 44 = .ok (.iaload, 1) := by decide +kernel
theorem dX7_read_45 : decode cX7_read 45 = .ok (.iconst 4, 1) := by decide +kernel
theorem dX7_read_46 : decode cX7_read 46 = .ok (.if_icmp .eq 7, 3) := by decide +kernel
theorem dX7_read_49 : decode cX7_read 49 = .ok (.iconst 1, 1) := by decide +kernel
theorem dX7_read_50 : decode cX7_read 50 = .ok (.goto 4, 3) := by decide +kernel
theorem dX7_read_53 : decode cX7_read 53 = .ok (.iconst 0, 1) := by decide +kernel
theorem dX7_read_54 : decode cX7_read 54 = .ok (.istore 5, 2) := by decide +kernel
theorem dX7_read_56 : decode cX7_read 56 = .ok (.iconst 0, 1) := by decide +kernel
theorem dX7_read_57 : decode cX7_read 57 = .ok (.istore 6, 2) := by decide +kernel
theorem dX7_read_59 : decode cX7_read 59 = .ok (.iload 6, 2) := by decide +kernel
theorem dX7_read_61 : decode cX7_read 61 = .ok (.iconst 4, 1) := by decide +kernel
theorem dX7_read_62 : decode cX7_read 62 = .ok (.if_icmp .ge 42, 3) := by decide +kernel
theorem dX7_read_65 : decode cX7_read 65 = .ok (.iload 5, 2) := by decide +kernel
theorem dX7_read_67 : decode cX7_read 67 = .ok (.ifCond .eq 31, 3) := by decide +kernel
theorem dX7_read_70 : decode cX7_read 70 = .ok (.iload_n 2, 1) := by decide +kernel
theorem dX7_read_71 : decode cX7_read 71 = .ok (.iload 6, 2) := by decide +kernel
theorem dX7_read_73 : decode cX7_read 73 = .ok (.invokestatic 149, 3) := by decide +kernel
theorem dX7_read_76 : decode cX7_read 76 = .ok (.if_icmp .ne 22, 3) := by decide +kernel
theorem dX7_read_79 : decode cX7_read 79 = .ok (.iload 4, 2) := by decide +kernel
theorem dX7_read_81 : decode cX7_read 81 = .ok (.iconst 1, 1) := by decide +kernel
theorem dX7_read_82 : decode cX7_read 82 = .ok (.if_icmp .ne 16, 3) := by decide +kernel
theorem dX7_read_85 : decode cX7_read 85 = .ok (.iload_n 3, 1) := by decide +kernel
theorem dX7_read_86 : decode cX7_read 86 = .ok (.ifCond .ne 12, 3) := by decide +kernel
theorem dX7_read_89 : decode cX7_read 89 = .ok (.sipush 200, 3) := by decide +kernel
theorem dX7_read_92 : decode cX7_read 92 = .ok (.iload 6, 2) := by decide +kernel
theorem dX7_read_94 : decode cX7_read 94 = .ok (.iadd, 1) := by decide +kernel
theorem dX7_read_95 : decode cX7_read 95 = .ok (.iconst 1, 1) := by decide +kernel
theorem dX7_read_96 : decode cX7_read 96 = .ok (.iadd, 1) := by decide +kernel
theorem dX7_read_97 : decode cX7_read 97 = .ok (.ireturn, 1) := by decide +kernel
theorem dX7_read_98 : decode cX7_read 98 = .ok (.iinc 6 1, 3) := by decide +kernel
theorem dX7_read_101 : decode cX7_read 101 = .ok (.goto (-42), 3) := by decide +kernel
theorem dX7_read_104 : decode cX7_read 104 = .ok (.iload 5, 2) := by decide +kernel
theorem dX7_read_106 : decode cX7_read 106 = .ok (.ifCond .eq 34, 3) := by decide +kernel
theorem dX7_read_109 : decode cX7_read 109 = .ok (.iload_n 2, 1) := by decide +kernel
theorem dX7_read_110 : decode cX7_read 110 = .ok (.iconst 4, 1) := by decide +kernel
theorem dX7_read_111 : decode cX7_read 111 = .ok (.if_icmp .ne 29, 3) := by decide +kernel
theorem dX7_read_114 : decode cX7_read 114 = .ok (.bipush 8, 2) := by decide +kernel
theorem dX7_read_116 : decode cX7_read 116 = .ok (.iload_n 3, 1) := by decide +kernel
theorem dX7_read_117 : decode cX7_read 117 = .ok (.imul, 1) := by decide +kernel
theorem dX7_read_118 : decode cX7_read 118 = .ok (.iload 4, 2) := by decide +kernel
theorem dX7_read_120 : decode cX7_read 120 = .ok (.iadd, 1) := by decide +kernel
theorem dX7_read_121 : decode cX7_read 121 = .ok (.bipush 26, 2) := by decide +kernel
theorem dX7_read_123 : decode cX7_read 123 = .ok (.if_icmp .ge 17, 3) := by decide +kernel
theorem dX7_read_126 : decode cX7_read 126 = .ok (.sipush 500, 3) := by decide +kernel
theorem dX7_read_129 : decode cX7_read 129 = .ok (.bipush 8, 2) := by decide +kernel
theorem dX7_read_131 : decode cX7_read 131 = .ok (.iload_n 3, 1) := by decide +kernel
theorem dX7_read_132 : decode cX7_read 132 = .ok (.imul, 1) := by decide +kernel
theorem dX7_read_133 : decode cX7_read 133 = .ok (.iadd, 1) := by decide +kernel
theorem dX7_read_134 : decode cX7_read 134 = .ok (.iload 4, 2) := by decide +kernel
theorem dX7_read_136 : decode cX7_read 136 = .ok (.iadd, 1) := by decide +kernel
theorem dX7_read_137 : decode cX7_read 137 = .ok (.iconst 1, 1) := by decide +kernel
theorem dX7_read_138 : decode cX7_read 138 = .ok (.iadd, 1) := by decide +kernel
theorem dX7_read_139 : decode cX7_read 139 = .ok (.ireturn, 1) := by decide +kernel
theorem dX7_read_140 : decode cX7_read 140 = .ok (.iconst (-1), 1) := by decide +kernel
theorem dX7_read_141 : decode cX7_read 141 = .ok (.istore 6, 2) := by decide +kernel
theorem dX7_read_143 : decode cX7_read 143 = .ok (.iconst 0, 1) := by decide +kernel
theorem dX7_read_144 : decode cX7_read 144 = .ok (.istore 7, 2) := by decide +kernel
theorem dX7_read_146 : decode cX7_read 146 = .ok (.aload_n 0, 1) := by decide +kernel
theorem dX7_read_147 : decode cX7_read 147 = .ok (.getfield 86, 3) := by decide +kernel
theorem dX7_read_150 : decode cX7_read 150 = .ok (.iconst 1, 1) := by decide +kernel
theorem dX7_read_151 : decode cX7_read 151 = .ok (.isub, 1) := by decide +kernel
theorem dX7_read_152 : decode cX7_read 152 = .ok (.istore 8, 2) := by decide +kernel
theorem dX7_read_154 : decode cX7_read 154 = .ok (.iload 8, 2) := by decide +kernel
theorem dX7_read_156 : decode cX7_read 156 = .ok (.ifCond .lt 26, 3) := by decide +kernel
theorem dX7_read_159 : decode cX7_read 159 = .ok (.aload_n 0, 1) := by decide +kernel
theorem dX7_read_160 : decode cX7_read 160 = .ok (.iload 8, 2) := by decide +kernel
theorem dX7_read_162 : decode cX7_read 162 = .ok (.iload_n 1, 1) := by decide +kernel
theorem dX7_read_163 : decode cX7_read 163 = .ok (.invokevirtual 194, 3) := by decide +kernel
theorem dX7_read_166 : decode cX7_read 166 = .ok (.ifCond .eq 10, 3) := by decide +kernel
theorem dX7_read_169 : decode cX7_read 169 = .ok (.iload 8, 2) := by decide +kernel
theorem dX7_read_171 : decode cX7_read 171 = .ok (.istore 6, 2) := by decide +kernel
theorem dX7_read_173 : decode cX7_read 173 = .ok (.iinc 7 1, 3) := by decide +kernel
theorem dX7_read_176 : decode cX7_read 176 = .ok (.iinc 8 (-1), 3) := by decide +kernel
theorem dX7_read_179 : decode cX7_read 179 = .ok (.goto (-25), 3) := by decide +kernel
theorem dX7_read_182 : decode cX7_read 182 = .ok (.iload 7, 2) := by decide +kernel
theorem dX7_read_184 : decode cX7_read 184 = .ok (.ifCond .ne 7, 3) := by decide +kernel
theorem dX7_read_187 : decode cX7_read 187 = .ok (.iconst (-1), 1) := by decide +kernel
theorem dX7_read_188 : decode cX7_read 188 = .ok (.goto 14, 3) := by decide +kernel
theorem dX7_read_191 : decode cX7_read 191 = .ok (.sipush 10000, 3) := by decide +kernel
theorem dX7_read_194 : decode cX7_read 194 = .ok (.iload 7, 2) := by decide +kernel
theorem dX7_read_196 : decode cX7_read 196 = .ok (.imul, 1) := by decide +kernel
theorem dX7_read_197 : decode cX7_read 197 = .ok (.iload 6, 2) := by decide +kernel
theorem dX7_read_199 : decode cX7_read 199 = .ok (.iadd, 1) := by decide +kernel
theorem dX7_read_200 : decode cX7_read 200 = .ok (.iconst 1, 1) := by decide +kernel
theorem dX7_read_201 : decode cX7_read 201 = .ok (.iadd, 1) := by decide +kernel
theorem dX7_read_202 : decode cX7_read 202 = .ok (.ireturn, 1) := by decide +kernel
theorem dX7_readBack_0 : decode cX7_readBack 0 = .ok (.aload_n 0, 1) := by decide +kernel
theorem dX7_readBack_1 : decode cX7_readBack 1 = .ok (.aload_n 0, 1) := by decide +kernel
theorem dX7_readBack_2 : decode cX7_readBack 2 = .ok (.iload_n 1, 1) := by decide +kernel
theorem dX7_readBack_3 : decode cX7_readBack 3 = .ok (.invokevirtual 127, 3) := by decide +kernel
theorem dX7_readBack_6 : decode cX7_readBack 6 = .ok (.ifCond .ne 7, 3) := by decide +kernel
theorem dX7_readBack_9 : decode cX7_readBack 9 = .ok (.iconst 1, 1) := by decide +kernel
theorem dX7_readBack_10 : decode cX7_readBack 10 = .ok (.goto 17, 3) := by decide +kernel
theorem dX7_readBack_13 : decode cX7_readBack 13 = .ok (.iload_n 2, 1) := by decide +kernel
theorem dX7_readBack_14 : decode cX7_readBack 14 = .ok (.iconst 0, 1) := by decide +kernel
theorem dX7_readBack_15 : decode cX7_readBack 15 = .ok (.iconst 2, 1) := by decide +kernel
theorem dX7_readBack_16 : decode cX7_readBack 16 = .ok (.invokestatic 89, 3) := by decide +kernel
theorem dX7_readBack_19 : decode cX7_readBack 19 = .ok (.ifCond .ne 7, 3) := by decide +kernel
theorem dX7_readBack_22 : decode cX7_readBack 22 = .ok (.iconst 2, 1) := by decide +kernel
theorem dX7_readBack_23 : decode cX7_readBack 23 = .ok (.goto 4, 3) := by decide +kernel
theorem dX7_readBack_26 : decode cX7_readBack 26 = .ok (.iconst 0, 1) := by decide +kernel
theorem dX7_readBack_27 : decode cX7_readBack 27 = .ok (.putfield 78, 3) := by decide +kernel
theorem dX7_readBack_30 : decode cX7_readBack 30 = .ok (.aload_n 0, 1) := by decide +kernel
theorem dX7_readBack_31 : decode cX7_readBack 31 = .ok (.getfield 78, 3) := by decide +kernel
theorem dX7_readBack_34 : decode cX7_readBack 34 = .ok (.ifCond .le 5, 3) := by decide +kernel
theorem dX7_readBack_37 : decode cX7_readBack 37 = .ok (.iconst 0, 1) := by decide +kernel
theorem dX7_readBack_38 : decode cX7_readBack 38 = .ok (.ireturn, 1) := by decide +kernel
theorem dX7_readBack_39 : decode cX7_readBack 39 = .ok (.aload_n 0, 1) := by decide +kernel
theorem dX7_readBack_40 : decode cX7_readBack 40 = .ok (.invokevirtual 184, 3) := by decide +kernel
theorem dX7_readBack_43 : decode cX7_readBack 43 = .ok (.aload_n 0, 1) := by decide +kernel
theorem dX7_readBack_44 : decode cX7_readBack 44 = .ok (.iload_n 1, 1) := by decide +kernel
theorem dX7_readBack_45 : decode cX7_readBack 45 = .ok (.invokevirtual 197, 3) := by decide +kernel
theorem dX7_readBack_48 : decode cX7_readBack 48 = .ok (.istore_n 3, 1) := by decide +kernel
theorem dX7_readBack_49 : decode cX7_readBack 49 = .ok (.iload_n 3, 1) := by decide +kernel
theorem dX7_readBack_50 : decode cX7_readBack 50 = .ok (.iconst (-1), 1) := by decide +kernel
theorem dX7_readBack_51 : decode cX7_readBack 51 = .ok (.if_icmp .ne 14, 3) := by decide +kernel
theorem dX7_readBack_54 : decode cX7_readBack 54 = .ok (.iload_n 2, 1) := by decide +kernel
theorem dX7_readBack_55 : decode cX7_readBack 55 = .ok (.iconst 2, 1) := by decide +kernel
theorem dX7_readBack_56 : decode cX7_readBack 56 = .ok (.if_icmp .ne 7, 3) := by decide +kernel
theorem dX7_readBack_59 : decode cX7_readBack 59 = .ok (.iconst 0, 1) := by decide +kernel
theorem dX7_readBack_60 : decode cX7_readBack 60 = .ok (.goto 4, 3) := by decide +kernel
theorem dX7_readBack_63 : decode cX7_readBack 63 = .ok (.iconst (-1), 1) := by decide +kernel
theorem dX7_readBack_64 : decode cX7_readBack 64 = .ok (.ireturn, 1) := by decide +kernel
theorem dX7_readBack_65 : decode cX7_readBack 65 = .ok (.iload_n 2, 1) := by decide +kernel
theorem dX7_readBack_66 : decode cX7_readBack 66 = .ok (.ifCond .ne 14, 3) := by decide +kernel
theorem dX7_readBack_69 : decode cX7_readBack 69 = .ok (.iload_n 3, 1) := by decide +kernel
theorem dX7_readBack_70 : decode cX7_readBack 70 = .ok (.sipush 10000, 3) := by decide +kernel
theorem dX7_readBack_73 : decode cX7_readBack 73 = .ok (.irem, 1) := by decide +kernel
theorem dX7_readBack_74 : decode cX7_readBack 74 = .ok (.bipush 100, 2) := by decide +kernel
theorem dX7_readBack_76 : decode cX7_readBack 76 = .ok (.idiv, 1) := by decide +kernel
theorem dX7_readBack_77 : decode cX7_readBack 77 = .ok (.goto 22, 3) := by decide +kernel
theorem dX7_readBack_80 : decode cX7_readBack 80 = .ok (.iload_n 2, 1) := by decide +kernel
theorem dX7_readBack_81 : decode cX7_readBack 81 = .ok (.iconst 1, 1) := by decide +kernel
theorem dX7_readBack_82 : decode cX7_readBack 82 = .ok (.if_icmp .ne 12, 3) := by decide +kernel
theorem dX7_readBack_85 : decode cX7_readBack 85 = .ok (.iload_n 3, 1) := by decide +kernel
theorem dX7_readBack_86 : decode cX7_readBack 86 = .ok (.bipush 100, 2) := by decide +kernel
theorem dX7_readBack_88 : decode cX7_readBack 88 = .ok (.irem, 1) := by decide +kernel
theorem dX7_readBack_89 : decode cX7_readBack 89 = .ok (.iconst 1, 1) := by decide +kernel
theorem dX7_readBack_90 : decode cX7_readBack 90 = .ok (.isub, 1) := by decide +kernel
theorem dX7_readBack_91 : decode cX7_readBack 91 = .ok (.goto 8, 3) := by decide +kernel
theorem dX7_readBack_94 : decode cX7_readBack 94 = .ok (.iload_n 3, 1) := by decide +kernel
theorem dX7_readBack_95 : decode cX7_readBack 95 = .ok (.sipush 10000, 3) := by decide +kernel
theorem dX7_readBack_98 : decode cX7_readBack 98 = .ok (.idiv, 1) := by decide +kernel
theorem dX7_readBack_99 : decode cX7_readBack 99 = .ok (.ireturn, 1) := by decide +kernel
theorem dX7_isClip_0 : decode cX7_isClip 0 = .ok (.iload_n 1, 1) := by decide +kernel
theorem dX7_isClip_1 : decode cX7_isClip 1 = .ok (.iconst 0, 1) := by decide +kernel
end
section
theorem dX7_isClip_2 : decode cX7_isClip 2 = .ok (.aload_n 0, 1) := by decide +kernel
theorem dX7_isClip_3 : decode cX7_isClip 3 = .ok (.getfield 200, 3) := by decide +kernel
theorem dX7_isClip_6 : decode cX7_isClip 6 = .ok (.iconst 1, 1) := by decide +kernel
theorem dX7_isClip_7 : decode cX7_isClip 7 = .ok (.isub, 1) := by decide +kernel
theorem dX7_isClip_8 : decode cX7_isClip 8 = .ok (.invokestatic 89, 3) := by decide +kernel
theorem dX7_isClip_11 : decode cX7_isClip 11 = .ok (.ifCond .eq 16, 3) := by decide +kernel
theorem dX7_isClip_14 : decode cX7_isClip 14 = .ok (.aload_n 0, 1) := by decide +kernel
theorem dX7_isClip_15 : decode cX7_isClip 15 = .ok (.getfield 43, 3) := by decide +kernel
theorem dX7_isClip_18 : decode cX7_isClip 18 = .ok (.iload_n 1, 1) := by decide +kernel
theorem dX7_isClip_19 : decode cX7_isClip 19 = .ok (.baload, 1) := by decide +kernel
theorem dX7_isClip_20 : decode cX7_isClip 20 = .ok (.ifCond .ne 7, 3) := by decide +kernel
theorem dX7_isClip_23 : decode cX7_isClip 23 = .ok (.iconst 1, 1) := by decide +kernel
theorem dX7_isClip_24 : decode cX7_isClip 24 = .ok (.goto 4, 3) := by decide +kernel
theorem dX7_isClip_27 : decode cX7_isClip 27 = .ok (.iconst 0, 1) := by decide +kernel
theorem dX7_isClip_28 : decode cX7_isClip 28 = .ok (.ireturn, 1) := by decide +kernel
theorem dX7_comesFrom_0 : decode cX7_comesFrom 0 = .ok (.aload_n 0, 1) := by decide +kernel
theorem dX7_comesFrom_1 : decode cX7_comesFrom 1 = .ok (.getfield 47, 3) := by decide +kernel
theorem dX7_comesFrom_4 : decode cX7_comesFrom 4 = .ok (.iload_n 1, 1) := by decide +kernel
theorem dX7_comesFrom_5 : decode cX7_comesFrom 5 = .ok (.iaload, 1) := by decide +kernel
theorem dX7_comesFrom_6 : decode cX7_comesFrom 6 = .ok (.ireturn, 1) := by decide +kernel
theorem dX7_adds_0 : decode cX7_adds 0 = .ok (.aload_n 0, 1) := by decide +kernel
theorem dX7_adds_1 : decode cX7_adds 1 = .ok (.getfield 47, 3) := by decide +kernel
theorem dX7_adds_4 : decode cX7_adds 4 = .ok (.aload_n 0, 1) := by decide +kernel
theorem dX7_adds_5 : decode cX7_adds 5 = .ok (.getfield 200, 3) := by decide +kernel
theorem dX7_adds_8 : decode cX7_adds 8 = .ok (.iload_n 1, 1) := by decide +kernel
theorem dX7_adds_9 : decode cX7_adds 9 = .ok (.iastore, 1) := by decide +kernel
theorem dX7_adds_10 : decode cX7_adds 10 = .ok (.aload_n 0, 1) := by decide +kernel
theorem dX7_adds_11 : decode cX7_adds 11 = .ok (.getfield 50, 3) := by decide +kernel
theorem dX7_adds_14 : decode cX7_adds 14 = .ok (.aload_n 0, 1) := by decide +kernel
theorem dX7_adds_15 : decode cX7_adds 15 = .ok (.getfield 200, 3) := by decide +kernel
theorem dX7_adds_18 : decode cX7_adds 18 = .ok (.iload_n 2, 1) := by decide +kernel
theorem dX7_adds_19 : decode cX7_adds 19 = .ok (.iastore, 1) := by decide +kernel
theorem dX7_adds_20 : decode cX7_adds 20 = .ok (.aload_n 0, 1) := by decide +kernel
theorem dX7_adds_21 : decode cX7_adds 21 = .ok (.getfield 53, 3) := by decide +kernel
theorem dX7_adds_24 : decode cX7_adds 24 = .ok (.aload_n 0, 1) := by decide +kernel
theorem dX7_adds_25 : decode cX7_adds 25 = .ok (.getfield 200, 3) := by decide +kernel
theorem dX7_adds_28 : decode cX7_adds 28 = .ok (.iload_n 3, 1) := by decide +kernel
theorem dX7_adds_29 : decode cX7_adds 29 = .ok (.iastore, 1) := by decide +kernel
theorem dX7_adds_30 : decode cX7_adds 30 = .ok (.aload_n 0, 1) := by decide +kernel
theorem dX7_adds_31 : decode cX7_adds 31 = .ok (.getfield 56, 3) := by decide +kernel
theorem dX7_adds_34 : decode cX7_adds 34 = .ok (.aload_n 0, 1) := by decide +kernel
theorem dX7_adds_35 : decode cX7_adds 35 = .ok (.getfield 200, 3) := by decide +kernel
theorem dX7_adds_38 : decode cX7_adds 38 = .ok (.iload 4, 2) := by decide +kernel
theorem dX7_adds_40 : decode cX7_adds 40 = .ok (.iastore, 1) := by decide +kernel
theorem dX7_adds_41 : decode cX7_adds 41 = .ok (.aload_n 0, 1) := by decide +kernel
theorem dX7_adds_42 : decode cX7_adds 42 = .ok (.getfield 43, 3) := by decide +kernel
theorem dX7_adds_45 : decode cX7_adds 45 = .ok (.aload_n 0, 1) := by decide +kernel
theorem dX7_adds_46 : decode cX7_adds 46 = .ok (.getfield 200, 3) := by decide +kernel
theorem dX7_adds_49 : decode cX7_adds 49 = .ok (.iconst 0, 1) := by decide +kernel
theorem dX7_adds_50 : decode cX7_adds 50 = .ok (.bastore, 1) := by decide +kernel
theorem dX7_adds_51 : decode cX7_adds 51 = .ok (.aload_n 0, 1) := by decide +kernel
theorem dX7_adds_52 : decode cX7_adds 52 = .ok (.dup, 1) := by decide +kernel
theorem dX7_adds_53 : decode cX7_adds 53 = .ok (.getfield 200, 3) := by decide +kernel
theorem dX7_adds_56 : decode cX7_adds 56 = .ok (.iconst 1, 1) := by decide +kernel
theorem dX7_adds_57 : decode cX7_adds 57 = .ok (.iadd, 1) := by decide +kernel
theorem dX7_adds_58 : decode cX7_adds 58 = .ok (.putfield 200, 3) := by decide +kernel
theorem dX7_adds_61 : decode cX7_adds 61 = .ok (.aload_n 0, 1) := by decide +kernel
theorem dX7_adds_62 : decode cX7_adds 62 = .ok (.getfield 200, 3) := by decide +kernel
theorem dX7_adds_65 : decode cX7_adds 65 = .ok (.iconst 1, 1) := by decide +kernel
theorem dX7_adds_66 : decode cX7_adds 66 = .ok (.isub, 1) := by decide +kernel
theorem dX7_adds_67 : decode cX7_adds 67 = .ok (.ireturn, 1) := by decide +kernel
theorem dX7_take_0 : decode cX7_take 0 = .ok (.aload_n 0, 1) := by decide +kernel
theorem dX7_take_1 : decode cX7_take 1 = .ok (.iload_n 1, 1) := by decide +kernel
theorem dX7_take_2 : decode cX7_take 2 = .ok (.iconst 0, 1) := by decide +kernel
theorem dX7_take_3 : decode cX7_take 3 = .ok (.iconst 5, 1) := by decide +kernel
theorem dX7_take_4 : decode cX7_take 4 = .ok (.invokestatic 89, 3) := by decide +kernel
theorem dX7_take_7 : decode cX7_take 7 = .ok (.ifCond .ne 7, 3) := by decide +kernel
theorem dX7_take_10 : decode cX7_take 10 = .ok (.iconst 1, 1) := by decide +kernel
theorem dX7_take_11 : decode cX7_take 11 = .ok (.goto 17, 3) := by decide +kernel
theorem dX7_take_14 : decode cX7_take 14 = .ok (.aload_n 0, 1) := by decide +kernel
theorem dX7_take_15 : decode cX7_take 15 = .ok (.getfield 200, 3) := by decide +kernel
theorem dX7_take_18 : decode cX7_take 18 = .ok (.bipush 24, 2) := by decide +kernel
theorem dX7_take_20 : decode cX7_take 20 = .ok (.if_icmp .ne 7, 3) := by decide +kernel
theorem dX7_take_23 : decode cX7_take 23 = .ok (.iconst 2, 1) := by decide +kernel
theorem dX7_take_24 : decode cX7_take 24 = .ok (.goto 4, 3) := by decide +kernel
theorem dX7_take_27 : decode cX7_take 27 = .ok (.iconst 0, 1) := by decide +kernel
theorem dX7_take_28 : decode cX7_take 28 = .ok (.putfield 78, 3) := by decide +kernel
theorem dX7_take_31 : decode cX7_take 31 = .ok (.aload_n 0, 1) := by decide +kernel
theorem dX7_take_32 : decode cX7_take 32 = .ok (.getfield 78, 3) := by decide +kernel
theorem dX7_take_35 : decode cX7_take 35 = .ok (.ifCond .le 7, 3) := by decide +kernel
theorem dX7_take_38 : decode cX7_take 38 = .ok (.iconst 0, 1) := by decide +kernel
theorem dX7_take_39 : decode cX7_take 39 = .ok (.goto 13, 3) := by decide +kernel
theorem dX7_take_42 : decode cX7_take 42 = .ok (.aload_n 0, 1) := by decide +kernel
theorem dX7_take_43 : decode cX7_take 43 = .ok (.iconst 1, 1) := by decide +kernel
theorem dX7_take_44 : decode cX7_take 44 = .ok (.iload_n 1, 1) := by decide +kernel
theorem dX7_take_45 : decode cX7_take 45 = .ok (.ishl, 1) := by decide +kernel
theorem dX7_take_46 : decode cX7_take 46 = .ok (.iconst (-1), 1) := by decide +kernel
theorem dX7_take_47 : decode cX7_take 47 = .ok (.iconst (-1), 1) := by decide +kernel
theorem dX7_take_48 : decode cX7_take 48 = .ok (.iconst (-1), 1) := by decide +kernel
theorem dX7_take_49 : decode cX7_take 49 = .ok (.invokevirtual 203, 3) := by decide +kernel
theorem dX7_take_52 : decode cX7_take 52 = .ok (.ireturn, 1) := by decide +kernel
theorem dX7_make_0 : decode cX7_make 0 = .ok (.aload_n 0, 1) := by decide +kernel
theorem dX7_make_1 : decode cX7_make 1 = .ok (.aload_n 0, 1) := by decide +kernel
theorem dX7_make_2 : decode cX7_make 2 = .ok (.iload_n 2, 1) := by decide +kernel
theorem dX7_make_3 : decode cX7_make 3 = .ok (.invokevirtual 206, 3) := by decide +kernel
theorem dX7_make_6 : decode cX7_make 6 = .ok (.ifCond .eq 16, 3) := by decide +kernel
theorem dX7_make_9 : decode cX7_make 9 = .ok (.iload_n 3, 1) := by decide +kernel
theorem dX7_make_10 : decode cX7_make 10 = .ok (.iconst (-1), 1) := by decide +kernel
theorem dX7_make_11 : decode cX7_make 11 = .ok (.if_icmp .eq 15, 3) := by decide +kernel
theorem dX7_make_14 : decode cX7_make 14 = .ok (.aload_n 0, 1) := by decide +kernel
theorem dX7_make_15 : decode cX7_make 15 = .ok (.iload_n 3, 1) := by decide +kernel
theorem dX7_make_16 : decode cX7_make 16 = .ok (.invokevirtual 206, 3) := by decide +kernel
theorem dX7_make_19 : decode cX7_make 19 = .ok (.ifCond .ne 7, 3) := by decide +kernel
theorem dX7_make_22 : decode cX7_make 22 = .ok (.iconst 1, 1) := by decide +kernel
theorem dX7_make_23 : decode cX7_make 23 = .ok (.goto 17, 3) := by decide +kernel
theorem dX7_make_26 : decode cX7_make 26 = .ok (.iload_n 1, 1) := by decide +kernel
theorem dX7_make_27 : decode cX7_make 27 = .ok (.iconst 0, 1) := by decide +kernel
theorem dX7_make_28 : decode cX7_make 28 = .ok (.iconst 2, 1) := by decide +kernel
theorem dX7_make_29 : decode cX7_make 29 = .ok (.invokestatic 89, 3) := by decide +kernel
theorem dX7_make_32 : decode cX7_make 32 = .ok (.ifCond .ne 7, 3) := by decide +kernel
theorem dX7_make_35 : decode cX7_make 35 = .ok (.iconst 2, 1) := by decide +kernel
theorem dX7_make_36 : decode cX7_make 36 = .ok (.goto 4, 3) := by decide +kernel
theorem dX7_make_39 : decode cX7_make 39 = .ok (.iconst 0, 1) := by decide +kernel
theorem dX7_make_40 : decode cX7_make 40 = .ok (.putfield 78, 3) := by decide +kernel
theorem dX7_make_43 : decode cX7_make 43 = .ok (.aload_n 0, 1) := by decide +kernel
theorem dX7_make_44 : decode cX7_make 44 = .ok (.getfield 78, 3) := by decide +kernel
theorem dX7_make_47 : decode cX7_make 47 = .ok (.ifCond .le 5, 3) := by decide +kernel
theorem dX7_make_50 : decode cX7_make 50 = .ok (.iconst 0, 1) := by decide +kernel
theorem dX7_make_51 : decode cX7_make 51 = .ok (.ireturn, 1) := by decide +kernel
theorem dX7_make_52 : decode cX7_make 52 = .ok (.aload_n 0, 1) := by decide +kernel
theorem dX7_make_53 : decode cX7_make 53 = .ok (.iload_n 2, 1) := by decide +kernel
theorem dX7_make_54 : decode cX7_make 54 = .ok (.invokevirtual 209, 3) := by decide +kernel
theorem dX7_make_57 : decode cX7_make 57 = .ok (.iload_n 3, 1) := by decide +kernel
theorem dX7_make_58 : decode cX7_make 58 = .ok (.iconst (-1), 1) := by decide +kernel
theorem dX7_make_59 : decode cX7_make 59 = .ok (.if_icmp .ne 7, 3) := by decide +kernel
theorem dX7_make_62 : decode cX7_make 62 = .ok (.iconst 0, 1) := by decide +kernel
theorem dX7_make_63 : decode cX7_make 63 = .ok (.goto 8, 3) := by decide +kernel
theorem dX7_make_66 : decode cX7_make 66 = .ok (.aload_n 0, 1) := by decide +kernel
theorem dX7_make_67 : decode cX7_make 67 = .ok (.iload_n 3, 1) := by decide +kernel
theorem dX7_make_68 : decode cX7_make 68 = .ok (.invokevirtual 209, 3) := by decide +kernel
theorem dX7_make_71 : decode cX7_make 71 = .ok (.ior, 1) := by decide +kernel
theorem dX7_make_72 : decode cX7_make 72 = .ok (.istore 4, 2) := by decide +kernel
theorem dX7_make_74 : decode cX7_make 74 = .ok (.iconst 1, 1) := by decide +kernel
theorem dX7_make_75 : decode cX7_make 75 = .ok (.istore 5, 2) := by decide +kernel
theorem dX7_make_77 : decode cX7_make 77 = .ok (.iconst 0, 1) := by decide +kernel
theorem dX7_make_78 : decode cX7_make 78 = .ok (.istore 6, 2) := by decide +kernel
theorem dX7_make_80 : decode cX7_make 80 = .ok (.iload 6, 2) := by decide +kernel
theorem dX7_make_82 : decode cX7_make 82 = .ok (.bipush 6, 2) := by decide +kernel
theorem dX7_make_84 : decode cX7_make 84 = .ok (.if_icmp .ge 44, 3) := by decide +kernel
theorem dX7_make_87 : decode cX7_make 87 = .ok (.iload 5, 2) := by decide +kernel
theorem dX7_make_89 : decode cX7_make 89 = .ok (.iload 4, 2) := by decide +kernel
theorem dX7_make_91 : decode cX7_make 91 = .ok (.iload 6, 2) := by decide +kernel
theorem dX7_make_93 : decode cX7_make 93 = .ok (.ishr, 1) := by decide +kernel
theorem dX7_make_94 : decode cX7_make 94 = .ok (.iconst 1, 1) := by decide +kernel
theorem dX7_make_95 : decode cX7_make 95 = .ok (.iand, 1) := by decide +kernel
theorem dX7_make_96 : decode cX7_make 96 = .ok (.ifCond .eq 18, 3) := by decide +kernel
theorem dX7_make_99 : decode cX7_make 99 = .ok (.aload_n 0, 1) := by decide +kernel
theorem dX7_make_100 : decode cX7_make 100 = .ok (.getfield 59, 3) := by decide +kernel
theorem dX7_make_103 : decode cX7_make 103 = .ok (.iload 6, 2) := by decide +kernel
theorem dX7_make_105 : decode cX7_make 105 = .ok (.iaload, 1) := by decide +kernel
theorem dX7_make_106 : decode cX7_make 106 = .ok (.iload_n 1, 1) := by decide +kernel
theorem dX7_make_107 : decode cX7_make 107 = .ok (.ishr, 1) := by decide +kernel
theorem dX7_make_108 : decode cX7_make 108 = .ok (.iconst 1, 1) := by decide +kernel
theorem dX7_make_109 : decode cX7_make 109 = .ok (.iand, 1) := by decide +kernel
theorem dX7_make_110 : decode cX7_make 110 = .ok (.iconst 1, 1) := by decide +kernel
theorem dX7_make_111 : decode cX7_make 111 = .ok (.if_icmp .ne 7, 3) := by decide +kernel
theorem dX7_make_114 : decode cX7_make 114 = .ok (.iconst 1, 1) := by decide +kernel
theorem dX7_make_115 : decode cX7_make 115 = .ok (.goto 4, 3) := by decide +kernel
theorem dX7_make_118 : decode cX7_make 118 = .ok (.iconst 0, 1) := by decide +kernel
theorem dX7_make_119 : decode cX7_make 119 = .ok (.iand, 1) := by decide +kernel
theorem dX7_make_120 : decode cX7_make 120 = .ok (.istore 5, 2) := by decide +kernel
theorem dX7_make_122 : decode cX7_make 122 = .ok (.iinc 6 1, 3) := by decide +kernel
theorem dX7_make_125 : decode cX7_make 125 = .ok (.goto (-45), 3) := by decide +kernel
theorem dX7_make_128 : decode cX7_make 128 = .ok (.aload_n 0, 1) := by decide +kernel
theorem dX7_make_129 : decode cX7_make 129 = .ok (.aload_n 0, 1) := by decide +kernel
theorem dX7_make_130 : decode cX7_make 130 = .ok (.getfield 200, 3) := by decide +kernel
theorem dX7_make_133 : decode cX7_make 133 = .ok (.bipush 24, 2) := by decide +kernel
theorem dX7_make_135 : decode cX7_make 135 = .ok (.if_icmp .eq 8, 3) := by decide +kernel
theorem dX7_make_138 : decode cX7_make 138 = .ok (.iload 5, 2) := by decide +kernel
theorem dX7_make_140 : decode cX7_make 140 = .ok (.ifCond .ne 7, 3) := by decide +kernel
theorem dX7_make_143 : decode cX7_make 143 = .ok (.iconst 3, 1) := by decide +kernel
theorem dX7_make_144 : decode cX7_make 144 = .ok (.goto 4, 3) := by decide +kernel
theorem dX7_make_147 : decode cX7_make 147 = .ok (.iconst 0, 1) := by decide +kernel
theorem dX7_make_148 : decode cX7_make 148 = .ok (.putfield 78, 3) := by decide +kernel
theorem dX7_make_151 : decode cX7_make 151 = .ok (.aload_n 0, 1) := by decide +kernel
theorem dX7_make_152 : decode cX7_make 152 = .ok (.getfield 78, 3) := by decide +kernel
theorem dX7_make_155 : decode cX7_make 155 = .ok (.ifCond .le 7, 3) := by decide +kernel
theorem dX7_make_158 : decode cX7_make 158 = .ok (.iconst 0, 1) := by decide +kernel
theorem dX7_make_159 : decode cX7_make 159 = .ok (.goto 12, 3) := by decide +kernel
theorem dX7_make_162 : decode cX7_make 162 = .ok (.aload_n 0, 1) := by decide +kernel
theorem dX7_make_163 : decode cX7_make 163 = .ok (.iload 4, 2) := by decide +kernel
theorem dX7_make_165 : decode cX7_make 165 = .ok (.iload_n 1, 1) := by decide +kernel
theorem dX7_make_166 : decode cX7_make 166 = .ok (.iload_n 2, 1) := by decide +kernel
theorem dX7_make_167 : decode cX7_make 167 = .ok (.iload_n 3, 1) := by decide +kernel
theorem dX7_make_168 : decode cX7_make 168 = .ok (.invokevirtual 203, 3) := by decide +kernel
theorem dX7_make_171 : decode cX7_make 171 = .ok (.ireturn, 1) := by decide +kernel
theorem dX7_goes_0 : decode cX7_goes 0 = .ok (.iconst 0, 1) := by decide +kernel
theorem dX7_goes_1 : decode cX7_goes 1 = .ok (.istore_n 3, 1) := by decide +kernel
theorem dX7_goes_2 : decode cX7_goes 2 = .ok (.iconst 0, 1) := by decide +kernel
theorem dX7_goes_3 : decode cX7_goes 3 = .ok (.istore 4, 2) := by decide +kernel
theorem dX7_goes_5 : decode cX7_goes 5 = .ok (.iload 4, 2) := by decide +kernel
theorem dX7_goes_7 : decode cX7_goes 7 = .ok (.aload_n 0, 1) := by decide +kernel
theorem dX7_goes_8 : decode cX7_goes 8 = .ok (.getfield 200, 3) := by decide +kernel
theorem dX7_goes_11 : decode cX7_goes 11 = .ok (.if_icmp .ge 136, 3) := by decide +kernel
theorem dX7_goes_14 : decode cX7_goes 14 = .ok (.aload_n 0, 1) := by decide +kernel
theorem dX7_goes_15 : decode cX7_goes 15 = .ok (.iload 4, 2) := by decide +kernel
theorem dX7_goes_17 : decode cX7_goes 17 = .ok (.invokevirtual 209, 3) := by decide +kernel
theorem dX7_goes_20 : decode cX7_goes 20 = .ok (.iload_n 1, 1) := by decide +kernel
theorem dX7_goes_21 : decode cX7_goes 21 = .ok (.ishr, 1) := by decide +kernel
theorem dX7_goes_22 : decode cX7_goes 22 = .ok (.iconst 1, 1) := by decide +kernel
theorem dX7_goes_23 : decode cX7_goes 23 = .ok (.iand, 1) := by decide +kernel
theorem dX7_goes_24 : decode cX7_goes 24 = .ok (.iconst 1, 1) := by decide +kernel
theorem dX7_goes_25 : decode cX7_goes 25 = .ok (.if_icmp .ne 23, 3) := by decide +kernel
theorem dX7_goes_28 : decode cX7_goes 28 = .ok (.iload_n 2, 1) := by decide +kernel
theorem dX7_goes_29 : decode cX7_goes 29 = .ok (.iconst (-1), 1) := by decide +kernel
theorem dX7_goes_30 : decode cX7_goes 30 = .ok (.if_icmp .eq 14, 3) := by decide +kernel
theorem dX7_goes_33 : decode cX7_goes 33 = .ok (.aload_n 0, 1) := by decide +kernel
theorem dX7_goes_34 : decode cX7_goes 34 = .ok (.getfield 50, 3) := by decide +kernel
theorem dX7_goes_37 : decode cX7_goes 37 = .ok (.iload 4, 2) := by decide +kernel
theorem dX7_goes_39 : decode cX7_goes 39 = .ok (.iaload, 1) := by decide +kernel
theorem dX7_goes_40 : decode cX7_goes 40 = .ok (.iload_n 2, 1) := by decide +kernel
theorem dX7_goes_41 : decode cX7_goes 41 = .ok (.if_icmp .ne 7, 3) := by decide +kernel
theorem dX7_goes_44 : decode cX7_goes 44 = .ok (.iconst 1, 1) := by decide +kernel
theorem dX7_goes_45 : decode cX7_goes 45 = .ok (.goto 4, 3) := by decide +kernel
theorem dX7_goes_48 : decode cX7_goes 48 = .ok (.iconst 0, 1) := by decide +kernel
theorem dX7_goes_49 : decode cX7_goes 49 = .ok (.istore 5, 2) := by decide +kernel
theorem dX7_goes_51 : decode cX7_goes 51 = .ok (.aload_n 0, 1) := by decide +kernel
theorem dX7_goes_52 : decode cX7_goes 52 = .ok (.getfield 53, 3) := by decide +kernel
theorem dX7_goes_55 : decode cX7_goes 55 = .ok (.iload 4, 2) := by decide +kernel
theorem dX7_goes_57 : decode cX7_goes 57 = .ok (.iaload, 1) := by decide +kernel
theorem dX7_goes_58 : decode cX7_goes 58 = .ok (.iconst (-1), 1) := by decide +kernel
theorem dX7_goes_59 : decode cX7_goes 59 = .ok (.if_icmp .eq 18, 3) := by decide +kernel
theorem dX7_goes_62 : decode cX7_goes 62 = .ok (.aload_n 0, 1) := by decide +kernel
theorem dX7_goes_63 : decode cX7_goes 63 = .ok (.getfield 43, 3) := by decide +kernel
theorem dX7_goes_66 : decode cX7_goes 66 = .ok (.aload_n 0, 1) := by decide +kernel
theorem dX7_goes_67 : decode cX7_goes 67 = .ok (.getfield 53, 3) := by decide +kernel
theorem dX7_goes_70 : decode cX7_goes 70 = .ok (.iload 4, 2) := by decide +kernel
theorem dX7_goes_72 : decode cX7_goes 72 = .ok (.iaload, 1) := by decide +kernel
theorem dX7_goes_73 : decode cX7_goes 73 = .ok (.baload, 1) := by decide +kernel
theorem dX7_goes_74 : decode cX7_goes 74 = .ok (.ifCond .ne 29, 3) := by decide +kernel
theorem dX7_goes_77 : decode cX7_goes 77 = .ok (.aload_n 0, 1) := by decide +kernel
theorem dX7_goes_78 : decode cX7_goes 78 = .ok (.getfield 56, 3) := by decide +kernel
theorem dX7_goes_81 : decode cX7_goes 81 = .ok (.iload 4, 2) := by decide +kernel
theorem dX7_goes_83 : decode cX7_goes 83 = .ok (.iaload, 1) := by decide +kernel
theorem dX7_goes_84 : decode cX7_goes 84 = .ok (.iconst (-1), 1) := by decide +kernel
theorem dX7_goes_85 : decode cX7_goes 85 = .ok (.if_icmp .eq 22, 3) := by decide +kernel
theorem dX7_goes_88 : decode cX7_goes 88 = .ok (.aload_n 0, 1) := by decide +kernel
theorem dX7_goes_89 : decode cX7_goes 89 = .ok (.getfield 43, 3) := by decide +kernel
theorem dX7_goes_92 : decode cX7_goes 92 = .ok (.aload_n 0, 1) := by decide +kernel
theorem dX7_goes_93 : decode cX7_goes 93 = .ok (.getfield 56, 3) := by decide +kernel
theorem dX7_goes_96 : decode cX7_goes 96 = .ok (.iload 4, 2) := by decide +kernel
theorem dX7_goes_98 : decode cX7_goes 98 = .ok (.iaload, 1) := by decide +kernel
theorem dX7_goes_99 : decode cX7_goes 99 = .ok (.baload, 1) := by decide +kernel
theorem dX7_goes_100 : decode cX7_goes 100 = .ok (.ifCond .eq 7, 3) := by decide +kernel
theorem dX7_goes_103 : decode cX7_goes 103 = .ok (.iconst 1, 1) := by decide +kernel
theorem dX7_goes_104 : decode cX7_goes 104 = .ok (.goto 4, 3) := by decide +kernel
theorem dX7_goes_107 : decode cX7_goes 107 = .ok (.iconst 0, 1) := by decide +kernel
theorem dX7_goes_108 : decode cX7_goes 108 = .ok (.istore 6, 2) := by decide +kernel
theorem dX7_goes_110 : decode cX7_goes 110 = .ok (.aload_n 0, 1) := by decide +kernel
theorem dX7_goes_111 : decode cX7_goes 111 = .ok (.getfield 43, 3) := by decide +kernel
theorem dX7_goes_114 : decode cX7_goes 114 = .ok (.iload 4, 2) := by decide +kernel
theorem dX7_goes_116 : decode cX7_goes 116 = .ok (.baload, 1) := by decide +kernel
theorem dX7_goes_117 : decode cX7_goes 117 = .ok (.ifCond .ne 24, 3) := by decide +kernel
theorem dX7_goes_120 : decode cX7_goes 120 = .ok (.iload 5, 2) := by decide +kernel
theorem dX7_goes_122 : decode cX7_goes 122 = .ok (.ifCond .ne 8, 3) := by decide +kernel
theorem dX7_goes_125 : decode cX7_goes 125 = .ok (.iload 6, 2) := by decide +kernel
theorem dX7_goes_127 : decode cX7_goes 127 = .ok (.ifCond .eq 14, 3) := by decide +kernel
theorem dX7_goes_130 : decode cX7_goes 130 = .ok (.aload_n 0, 1) := by decide +kernel
theorem dX7_goes_131 : decode cX7_goes 131 = .ok (.getfield 43, 3) := by decide +kernel
theorem dX7_goes_134 : decode cX7_goes 134 = .ok (.iload 4, 2) := by decide +kernel
theorem dX7_goes_136 : decode cX7_goes 136 = .ok (.iconst 1, 1) := by decide +kernel
theorem dX7_goes_137 : decode cX7_goes 137 = .ok (.bastore, 1) := by decide +kernel
theorem dX7_goes_138 : decode cX7_goes 138 = .ok (.iinc 3 1, 3) := by decide +kernel
theorem dX7_goes_141 : decode cX7_goes 141 = .ok (.iinc 4 1, 3) := by decide +kernel
theorem dX7_goes_144 : decode cX7_goes 144 = .ok (.goto (-139), 3) := by decide +kernel
theorem dX7_goes_147 : decode cX7_goes 147 = .ok (.iload_n 3, 1) := by decide +kernel
theorem dX7_goes_148 : decode cX7_goes 148 = .ok (.ireturn, 1) := by decide +kernel
theorem dX7_allow_0 : decode cX7_allow 0 = .ok (.aload_n 0, 1) := by decide +kernel
theorem dX7_allow_1 : decode cX7_allow 1 = .ok (.iload_n 1, 1) := by decide +kernel
theorem dX7_allow_2 : decode cX7_allow 2 = .ok (.iconst 0, 1) := by decide +kernel
theorem dX7_allow_3 : decode cX7_allow 3 = .ok (.iconst 5, 1) := by decide +kernel
theorem dX7_allow_4 : decode cX7_allow 4 = .ok (.invokestatic 89, 3) := by decide +kernel
theorem dX7_allow_7 : decode cX7_allow 7 = .ok (.ifCond .ne 7, 3) := by decide +kernel
theorem dX7_allow_10 : decode cX7_allow 10 = .ok (.iconst 1, 1) := by decide +kernel
theorem dX7_allow_11 : decode cX7_allow 11 = .ok (.goto 17, 3) := by decide +kernel
theorem dX7_allow_14 : decode cX7_allow 14 = .ok (.iload_n 2, 1) := by decide +kernel
theorem dX7_allow_15 : decode cX7_allow 15 = .ok (.iconst 0, 1) := by decide +kernel
theorem dX7_allow_16 : decode cX7_allow 16 = .ok (.iconst 2, 1) := by decide +kernel
theorem dX7_allow_17 : decode cX7_allow 17 = .ok (.invokestatic 89, 3) := by decide +kernel
theorem dX7_allow_20 : decode cX7_allow 20 = .ok (.ifCond .ne 7, 3) := by decide +kernel
theorem dX7_allow_23 : decode cX7_allow 23 = .ok (.iconst 2, 1) := by decide +kernel
theorem dX7_allow_24 : decode cX7_allow 24 = .ok (.goto 4, 3) := by decide +kernel
theorem dX7_allow_27 : decode cX7_allow 27 = .ok (.iconst 0, 1) := by decide +kernel
theorem dX7_allow_28 : decode cX7_allow 28 = .ok (.putfield 78, 3) := by decide +kernel
theorem dX7_allow_31 : decode cX7_allow 31 = .ok (.aload_n 0, 1) := by decide +kernel
theorem dX7_allow_32 : decode cX7_allow 32 = .ok (.getfield 78, 3) := by decide +kernel
theorem dX7_allow_35 : decode cX7_allow 35 = .ok (.ifCond .le 5, 3) := by decide +kernel
theorem dX7_allow_38 : decode cX7_allow 38 = .ok (.iconst 0, 1) := by decide +kernel
theorem dX7_allow_39 : decode cX7_allow 39 = .ok (.ireturn, 1) := by decide +kernel
theorem dX7_allow_40 : decode cX7_allow 40 = .ok (.aload_n 0, 1) := by decide +kernel
theorem dX7_allow_41 : decode cX7_allow 41 = .ok (.getfield 59, 3) := by decide +kernel
theorem dX7_allow_44 : decode cX7_allow 44 = .ok (.iload_n 1, 1) := by decide +kernel
theorem dX7_allow_45 : decode cX7_allow 45 = .ok (.iload_n 3, 1) := by decide +kernel
theorem dX7_allow_46 : decode cX7_allow 46 = .ok (.ifCond .eq 16, 3) := by decide +kernel
theorem dX7_allow_49 : decode cX7_allow 49 = .ok (.aload_n 0, 1) := by decide +kernel
theorem dX7_allow_50 : decode cX7_allow 50 = .ok (.getfield 59, 3) := by decide +kernel
theorem dX7_allow_53 : decode cX7_allow 53 = .ok (.iload_n 1, 1) := by decide +kernel
theorem dX7_allow_54 : decode cX7_allow 54 = .ok (.iaload, 1) := by decide +kernel
theorem dX7_allow_55 : decode cX7_allow 55 = .ok (.iconst 1, 1) := by decide +kernel
theorem dX7_allow_56 : decode cX7_allow 56 = .ok (.iload_n 2, 1) := by decide +kernel
theorem dX7_allow_57 : decode cX7_allow 57 = .ok (.ishl, 1) := by decide +kernel
theorem dX7_allow_58 : decode cX7_allow 58 = .ok (.ior, 1) := by decide +kernel
theorem dX7_allow_59 : decode cX7_allow 59 = .ok (.goto 15, 3) := by decide +kernel
theorem dX7_allow_62 : decode cX7_allow 62 = .ok (.aload_n 0, 1) := by decide +kernel
theorem dX7_allow_63 : decode cX7_allow 63 = .ok (.getfield 59, 3) := by decide +kernel
theorem dX7_allow_66 : decode cX7_allow 66 = .ok (.iload_n 1, 1) := by decide +kernel
theorem dX7_allow_67 : decode cX7_allow 67 = .ok (.iaload, 1) := by decide +kernel
theorem dX7_allow_68 : decode cX7_allow 68 = .ok (.iconst 1, 1) := by decide +kernel
theorem dX7_allow_69 : decode cX7_allow 69 = .ok (.iload_n 2, 1) := by decide +kernel
theorem dX7_allow_70 : decode cX7_allow 70 = .ok (.ishl, 1) := by decide +kernel
theorem dX7_allow_71 : decode cX7_allow 71 = .ok (.iconst (-1), 1) := by decide +kernel
theorem dX7_allow_72 : decode cX7_allow 72 = .ok (.ixor, 1) := by decide +kernel
theorem dX7_allow_73 : decode cX7_allow 73 = .ok (.iand, 1) := by decide +kernel
theorem dX7_allow_74 : decode cX7_allow 74 = .ok (.iastore, 1) := by decide +kernel
theorem dX7_allow_75 : decode cX7_allow 75 = .ok (.iload_n 3, 1) := by decide +kernel
theorem dX7_allow_76 : decode cX7_allow 76 = .ok (.ifCond .eq 7, 3) := by decide +kernel
theorem dX7_allow_79 : decode cX7_allow 79 = .ok (.iconst 0, 1) := by decide +kernel
theorem dX7_allow_80 : decode cX7_allow 80 = .ok (.goto 9, 3) := by decide +kernel
theorem dX7_allow_83 : decode cX7_allow 83 = .ok (.aload_n 0, 1) := by decide +kernel
theorem dX7_allow_84 : decode cX7_allow 84 = .ok (.iload_n 1, 1) := by decide +kernel
theorem dX7_allow_85 : decode cX7_allow 85 = .ok (.iload_n 2, 1) := by decide +kernel
theorem dX7_allow_86 : decode cX7_allow 86 = .ok (.invokevirtual 212, 3) := by decide +kernel
theorem dX7_allow_89 : decode cX7_allow 89 = .ok (.ireturn, 1) := by decide +kernel
theorem dX7_withdraw_0 : decode cX7_withdraw 0 = .ok (.aload_n 0, 1) := by decide +kernel
theorem dX7_withdraw_1 : decode cX7_withdraw 1 = .ok (.iload_n 1, 1) := by decide +kernel
theorem dX7_withdraw_2 : decode cX7_withdraw 2 = .ok (.iconst 0, 1) := by decide +kernel
theorem dX7_withdraw_3 : decode cX7_withdraw 3 = .ok (.iconst 5, 1) := by decide +kernel
theorem dX7_withdraw_4 : decode cX7_withdraw 4 = .ok (.invokestatic 89, 3) := by decide +kernel
theorem dX7_withdraw_7 : decode cX7_withdraw 7 = .ok (.ifCond .eq 7, 3) := by decide +kernel
theorem dX7_withdraw_10 : decode cX7_withdraw 10 = .ok (.iconst 0, 1) := by decide +kernel
theorem dX7_withdraw_11 : decode cX7_withdraw 11 = .ok (.goto 4, 3) := by decide +kernel
theorem dX7_withdraw_14 : decode cX7_withdraw 14 = .ok (.iconst 1, 1) := by decide +kernel
theorem dX7_withdraw_15 : decode cX7_withdraw 15 = .ok (.putfield 78, 3) := by decide +kernel
theorem dX7_withdraw_18 : decode cX7_withdraw 18 = .ok (.aload_n 0, 1) := by decide +kernel
theorem dX7_withdraw_19 : decode cX7_withdraw 19 = .ok (.getfield 78, 3) := by decide +kernel
theorem dX7_withdraw_22 : decode cX7_withdraw 22 = .ok (.ifCond .le 7, 3) := by decide +kernel
theorem dX7_withdraw_25 : decode cX7_withdraw 25 = .ok (.iconst 0, 1) := by decide +kernel
theorem dX7_withdraw_26 : decode cX7_withdraw 26 = .ok (.goto 9, 3) := by decide +kernel
theorem dX7_withdraw_29 : decode cX7_withdraw 29 = .ok (.aload_n 0, 1) := by decide +kernel
theorem dX7_withdraw_30 : decode cX7_withdraw 30 = .ok (.iload_n 1, 1) := by decide +kernel
theorem dX7_withdraw_31 : decode cX7_withdraw 31 = .ok (.iconst (-1), 1) := by decide +kernel
theorem dX7_withdraw_32 : decode cX7_withdraw 32 = .ok (.invokevirtual 212, 3) := by decide +kernel
theorem dX7_withdraw_35 : decode cX7_withdraw 35 = .ok (.ireturn, 1) := by decide +kernel
theorem dX7_persons_0 : decode cX7_persons 0 = .ok (.aload_n 0, 1) := by decide +kernel
theorem dX7_persons_1 : decode cX7_persons 1 = .ok (.iload_n 1, 1) := by decide +kernel
theorem dX7_persons_2 : decode cX7_persons 2 = .ok (.iconst 0, 1) := by decide +kernel
theorem dX7_persons_3 : decode cX7_persons 3 = .ok (.aload_n 0, 1) := by decide +kernel
theorem dX7_persons_4 : decode cX7_persons 4 = .ok (.getfield 200, 3) := by decide +kernel
theorem dX7_persons_7 : decode cX7_persons 7 = .ok (.iconst 1, 1) := by decide +kernel
theorem dX7_persons_8 : decode cX7_persons 8 = .ok (.isub, 1) := by decide +kernel
theorem dX7_persons_9 : decode cX7_persons 9 = .ok (.invokestatic 89, 3) := by decide +kernel
theorem dX7_persons_12 : decode cX7_persons 12 = .ok (.ifCond .eq 7, 3) := by decide +kernel
theorem dX7_persons_15 : decode cX7_persons 15 = .ok (.iconst 0, 1) := by decide +kernel
theorem dX7_persons_16 : decode cX7_persons 16 = .ok (.goto 4, 3) := by decide +kernel
theorem dX7_persons_19 : decode cX7_persons 19 = .ok (.iconst 1, 1) := by decide +kernel
theorem dX7_persons_20 : decode cX7_persons 20 = .ok (.putfield 78, 3) := by decide +kernel
theorem dX7_persons_23 : decode cX7_persons 23 = .ok (.aload_n 0, 1) := by decide +kernel
theorem dX7_persons_24 : decode cX7_persons 24 = .ok (.getfield 78, 3) := by decide +kernel
theorem dX7_persons_27 : decode cX7_persons 27 = .ok (.ifCond .gt 12, 3) := by decide +kernel
theorem dX7_persons_30 : decode cX7_persons 30 = .ok (.aload_n 0, 1) := by decide +kernel
theorem dX7_persons_31 : decode cX7_persons 31 = .ok (.getfield 43, 3) := by decide +kernel
theorem dX7_persons_34 : decode cX7_persons 34 = .ok (.iload_n 1, 1) := by decide +kernel
theorem dX7_persons_35 : decode cX7_persons 35 = .ok (.baload, 1) := by decide +kernel
theorem dX7_persons_36 : decode cX7_persons 36 = .ok (.ifCond .eq 7, 3) := by decide +kernel
theorem dX7_persons_39 : decode cX7_persons 39 = .ok (.iconst 0, 1) := by decide +kernel
theorem dX7_persons_40 : decode cX7_persons 40 = .ok (.goto 8, 3) := by decide +kernel
theorem dX7_persons_43 : decode cX7_persons 43 = .ok (.aload_n 0, 1) := by decide +kernel
theorem dX7_persons_44 : decode cX7_persons 44 = .ok (.iload_n 1, 1) := by decide +kernel
theorem dX7_persons_45 : decode cX7_persons 45 = .ok (.invokevirtual 209, 3) := by decide +kernel
theorem dX7_persons_48 : decode cX7_persons 48 = .ok (.ireturn, 1) := by decide +kernel
theorem dX7_areTold_0 : decode cX7_areTold 0 = .ok (.iload_n 0, 1) := by decide +kernel
theorem dX7_areTold_1 : decode cX7_areTold 1 = .ok (.iconst 0, 1) := by decide +kernel
theorem dX7_areTold_2 : decode cX7_areTold 2 = .ok (.iconst 2, 1) := by decide +kernel
theorem dX7_areTold_3 : decode cX7_areTold 3 = .ok (.invokestatic 89, 3) := by decide +kernel
theorem dX7_areTold_6 : decode cX7_areTold 6 = .ok (.ifCond .eq 16, 3) := by decide +kernel
theorem dX7_areTold_9 : decode cX7_areTold 9 = .ok (.iload_n 1, 1) := by decide +kernel
theorem dX7_areTold_10 : decode cX7_areTold 10 = .ok (.iconst 0, 1) := by decide +kernel
theorem dX7_areTold_11 : decode cX7_areTold 11 = .ok (.iconst 3, 1) := by decide +kernel
theorem dX7_areTold_12 : decode cX7_areTold 12 = .ok (.invokestatic 89, 3) := by decide +kernel
theorem dX7_areTold_15 : decode cX7_areTold 15 = .ok (.ifCond .eq 7, 3) := by decide +kernel
theorem dX7_areTold_18 : decode cX7_areTold 18 = .ok (.iconst 1, 1) := by decide +kernel
theorem dX7_areTold_19 : decode cX7_areTold 19 = .ok (.goto 4, 3) := by decide +kernel
theorem dX7_areTold_22 : decode cX7_areTold 22 = .ok (.iconst 0, 1) := by decide +kernel
theorem dX7_areTold_23 : decode cX7_areTold 23 = .ok (.ireturn, 1) := by decide +kernel
theorem dX7_row_0 : decode cX7_row 0 = .ok (.bipush 12, 2) := by decide +kernel
theorem dX7_row_2 : decode cX7_row 2 = .ok (.iload_n 0, 1) := by decide +kernel
theorem dX7_row_3 : decode cX7_row 3 = .ok (.imul, 1) := by decide +kernel
theorem dX7_row_4 : decode cX7_row 4 = .ok (.iconst 4, 1) := by decide +kernel
theorem dX7_row_5 : decode cX7_row 5 = .ok (.iload_n 1, 1) := by decide +kernel
theorem dX7_row_6 : decode cX7_row 6 = .ok (.imul, 1) := by decide +kernel
theorem dX7_row_7 : decode cX7_row 7 = .ok (.iadd, 1) := by decide +kernel
theorem dX7_row_8 : decode cX7_row 8 = .ok (.iload_n 2, 1) := by decide +kernel
theorem dX7_row_9 : decode cX7_row 9 = .ok (.iadd, 1) := by decide +kernel
theorem dX7_row_10 : decode cX7_row 10 = .ok (.ireturn, 1) := by decide +kernel
theorem dX7_mark_0 : decode cX7_mark 0 = .ok (.iload 4, 2) := by decide +kernel
theorem dX7_mark_2 : decode cX7_mark 2 = .ok (.iconst 0, 1) := by decide +kernel
theorem dX7_mark_3 : decode cX7_mark 3 = .ok (.sipush 199, 3) := by decide +kernel
theorem dX7_mark_6 : decode cX7_mark 6 = .ok (.invokestatic 89, 3) := by decide +kernel
theorem dX7_mark_9 : decode cX7_mark 9 = .ok (.ifCond .eq 37, 3) := by decide +kernel
theorem dX7_mark_12 : decode cX7_mark 12 = .ok (.iload 5, 2) := by decide +kernel
theorem dX7_mark_14 : decode cX7_mark 14 = .ok (.iconst 1, 1) := by decide +kernel
theorem dX7_mark_15 : decode cX7_mark 15 = .ok (.sipush 200, 3) := by decide +kernel
theorem dX7_mark_18 : decode cX7_mark 18 = .ok (.invokestatic 89, 3) := by decide +kernel
theorem dX7_mark_21 : decode cX7_mark 21 = .ok (.ifCond .eq 25, 3) := by decide +kernel
theorem dX7_mark_24 : decode cX7_mark 24 = .ok (.iload 4, 2) := by decide +kernel
theorem dX7_mark_26 : decode cX7_mark 26 = .ok (.iload 5, 2) := by decide +kernel
theorem dX7_mark_28 : decode cX7_mark 28 = .ok (.if_icmp .ge 18, 3) := by decide +kernel
theorem dX7_mark_31 : decode cX7_mark 31 = .ok (.iload 6, 2) := by decide +kernel
theorem dX7_mark_33 : decode cX7_mark 33 = .ok (.iconst 0, 1) := by decide +kernel
theorem dX7_mark_34 : decode cX7_mark 34 = .ok (.bipush 9, 2) := by decide +kernel
theorem dX7_mark_36 : decode cX7_mark 36 = .ok (.invokestatic 89, 3) := by decide +kernel
theorem dX7_mark_39 : decode cX7_mark 39 = .ok (.ifCond .eq 7, 3) := by decide +kernel
theorem dX7_mark_42 : decode cX7_mark 42 = .ok (.iconst 1, 1) := by decide +kernel
theorem dX7_mark_43 : decode cX7_mark 43 = .ok (.goto 4, 3) := by decide +kernel
theorem dX7_mark_46 : decode cX7_mark 46 = .ok (.iconst 0, 1) := by decide +kernel
theorem dX7_mark_47 : decode cX7_mark 47 = .ok (.istore 7, 2) := by decide +kernel
theorem dX7_mark_49 : decode cX7_mark 49 = .ok (.aload_n 0, 1) := by decide +kernel
theorem dX7_mark_50 : decode cX7_mark 50 = .ok (.aload_n 0, 1) := by decide +kernel
theorem dX7_mark_51 : decode cX7_mark 51 = .ok (.iload_n 1, 1) := by decide +kernel
theorem dX7_mark_52 : decode cX7_mark 52 = .ok (.invokevirtual 206, 3) := by decide +kernel
theorem dX7_mark_55 : decode cX7_mark 55 = .ok (.ifCond .eq 11, 3) := by decide +kernel
theorem dX7_mark_58 : decode cX7_mark 58 = .ok (.iload_n 2, 1) := by decide +kernel
theorem dX7_mark_59 : decode cX7_mark 59 = .ok (.iload_n 3, 1) := by decide +kernel
theorem dX7_mark_60 : decode cX7_mark 60 = .ok (.invokestatic 215, 3) := by decide +kernel
theorem dX7_mark_63 : decode cX7_mark 63 = .ok (.ifCond .ne 7, 3) := by decide +kernel
theorem dX7_mark_66 : decode cX7_mark 66 = .ok (.iconst 1, 1) := by decide +kernel
theorem dX7_mark_67 : decode cX7_mark 67 = .ok (.goto 13, 3) := by decide +kernel
theorem dX7_mark_70 : decode cX7_mark 70 = .ok (.iload 7, 2) := by decide +kernel
theorem dX7_mark_72 : decode cX7_mark 72 = .ok (.ifCond .ne 7, 3) := by decide +kernel
theorem dX7_mark_75 : decode cX7_mark 75 = .ok (.iconst 2, 1) := by decide +kernel
theorem dX7_mark_76 : decode cX7_mark 76 = .ok (.goto 4, 3) := by decide +kernel
theorem dX7_mark_79 : decode cX7_mark 79 = .ok (.iconst 0, 1) := by decide +kernel
theorem dX7_mark_80 : decode cX7_mark 80 = .ok (.putfield 78, 3) := by decide +kernel
theorem dX7_mark_83 : decode cX7_mark 83 = .ok (.aload_n 0, 1) := by decide +kernel
theorem dX7_mark_84 : decode cX7_mark 84 = .ok (.getfield 78, 3) := by decide +kernel
theorem dX7_mark_87 : decode cX7_mark 87 = .ok (.ifCond .le 5, 3) := by decide +kernel
theorem dX7_mark_90 : decode cX7_mark 90 = .ok (.iconst 0, 1) := by decide +kernel
theorem dX7_mark_91 : decode cX7_mark 91 = .ok (.ireturn, 1) := by decide +kernel
theorem dX7_mark_92 : decode cX7_mark 92 = .ok (.iload_n 1, 1) := by decide +kernel
theorem dX7_mark_93 : decode cX7_mark 93 = .ok (.iload_n 2, 1) := by decide +kernel
theorem dX7_mark_94 : decode cX7_mark 94 = .ok (.iload_n 3, 1) := by decide +kernel
theorem dX7_mark_95 : decode cX7_mark 95 = .ok (.invokestatic 218, 3) := by decide +kernel
theorem dX7_mark_98 : decode cX7_mark 98 = .ok (.istore 8, 2) := by decide +kernel
theorem dX7_mark_100 : decode cX7_mark 100 = .ok (.aload_n 0, 1) := by decide +kernel
theorem dX7_mark_101 : decode cX7_mark 101 = .ok (.aload_n 0, 1) := by decide +kernel
theorem dX7_mark_102 : decode cX7_mark 102 = .ok (.getfield 66, 3) := by decide +kernel
theorem dX7_mark_105 : decode cX7_mark 105 = .ok (.iload 8, 2) := by decide +kernel
theorem dX7_mark_107 : decode cX7_mark 107 = .ok (.iaload, 1) := by decide +kernel
theorem dX7_mark_108 : decode cX7_mark 108 = .ok (.bipush 10, 2) := by decide +kernel
theorem dX7_mark_110 : decode cX7_mark 110 = .ok (.if_icmp .ne 7, 3) := by decide +kernel
theorem dX7_mark_113 : decode cX7_mark 113 = .ok (.iconst 3, 1) := by decide +kernel
theorem dX7_mark_114 : decode cX7_mark 114 = .ok (.goto 4, 3) := by decide +kernel
theorem dX7_mark_117 : decode cX7_mark 117 = .ok (.iconst 0, 1) := by decide +kernel
theorem dX7_mark_118 : decode cX7_mark 118 = .ok (.putfield 78, 3) := by decide +kernel
theorem dX7_mark_121 : decode cX7_mark 121 = .ok (.iload 4, 2) := by decide +kernel
theorem dX7_mark_123 : decode cX7_mark 123 = .ok (.istore 9, 2) := by decide +kernel
theorem dX7_mark_125 : decode cX7_mark 125 = .ok (.iload 9, 2) := by decide +kernel
theorem dX7_mark_127 : decode cX7_mark 127 = .ok (.iload 5, 2) := by decide +kernel
theorem dX7_mark_129 : decode cX7_mark 129 = .ok (.if_icmp .ge 38, 3) := by decide +kernel
theorem dX7_mark_132 : decode cX7_mark 132 = .ok (.aload_n 0, 1) := by decide +kernel
theorem dX7_mark_133 : decode cX7_mark 133 = .ok (.aload_n 0, 1) := by decide +kernel
theorem dX7_mark_134 : decode cX7_mark 134 = .ok (.getfield 63, 3) := by decide +kernel
theorem dX7_mark_137 : decode cX7_mark 137 = .ok (.sipush 200, 3) := by decide +kernel
theorem dX7_mark_140 : decode cX7_mark 140 = .ok (.iload 8, 2) := by decide +kernel
theorem dX7_mark_142 : decode cX7_mark 142 = .ok (.imul, 1) := by decide +kernel
theorem dX7_mark_143 : decode cX7_mark 143 = .ok (.iload 9, 2) := by decide +kernel
theorem dX7_mark_145 : decode cX7_mark 145 = .ok (.iadd, 1) := by decide +kernel
theorem dX7_mark_146 : decode cX7_mark 146 = .ok (.iaload, 1) := by decide +kernel
theorem dX7_mark_147 : decode cX7_mark 147 = .ok (.ifCond .le 7, 3) := by decide +kernel
theorem dX7_mark_150 : decode cX7_mark 150 = .ok (.iconst 3, 1) := by decide +kernel
theorem dX7_mark_151 : decode cX7_mark 151 = .ok (.goto 7, 3) := by decide +kernel
theorem dX7_mark_154 : decode cX7_mark 154 = .ok (.aload_n 0, 1) := by decide +kernel
theorem dX7_mark_155 : decode cX7_mark 155 = .ok (.getfield 78, 3) := by decide +kernel
theorem dX7_mark_158 : decode cX7_mark 158 = .ok (.putfield 78, 3) := by decide +kernel
theorem dX7_mark_161 : decode cX7_mark 161 = .ok (.iinc 9 1, 3) := by decide +kernel
theorem dX7_mark_164 : decode cX7_mark 164 = .ok (.goto (-39), 3) := by decide +kernel
theorem dX7_mark_167 : decode cX7_mark 167 = .ok (.aload_n 0, 1) := by decide +kernel
theorem dX7_mark_168 : decode cX7_mark 168 = .ok (.getfield 78, 3) := by decide +kernel
theorem dX7_mark_171 : decode cX7_mark 171 = .ok (.ifCond .le 5, 3) := by decide +kernel
theorem dX7_mark_174 : decode cX7_mark 174 = .ok (.iconst 0, 1) := by decide +kernel
theorem dX7_mark_175 : decode cX7_mark 175 = .ok (.ireturn, 1) := by decide +kernel
theorem dX7_mark_176 : decode cX7_mark 176 = .ok (.iload 4, 2) := by decide +kernel
theorem dX7_mark_178 : decode cX7_mark 178 = .ok (.istore 9, 2) := by decide +kernel
theorem dX7_mark_180 : decode cX7_mark 180 = .ok (.iload 9, 2) := by decide +kernel
theorem dX7_mark_182 : decode cX7_mark 182 = .ok (.iload 5, 2) := by decide +kernel
theorem dX7_mark_184 : decode cX7_mark 184 = .ok (.if_icmp .ge 27, 3) := by decide +kernel
theorem dX7_mark_187 : decode cX7_mark 187 = .ok (.aload_n 0, 1) := by decide +kernel
theorem dX7_mark_188 : decode cX7_mark 188 = .ok (.getfield 63, 3) := by decide +kernel
theorem dX7_mark_191 : decode cX7_mark 191 = .ok (.sipush 200, 3) := by decide +kernel
theorem dX7_mark_194 : decode cX7_mark 194 = .ok (.iload 8, 2) := by decide +kernel
theorem dX7_mark_196 : decode cX7_mark 196 = .ok (.imul, 1) := by decide +kernel
theorem dX7_mark_197 : decode cX7_mark 197 = .ok (.iload 9, 2) := by decide +kernel
theorem dX7_mark_199 : decode cX7_mark 199 = .ok (.iadd, 1) := by decide +kernel
theorem dX7_mark_200 : decode cX7_mark 200 = .ok (.iload 6, 2) := by decide +kernel
theorem dX7_mark_202 : decode cX7_mark 202 = .ok (.iconst 1, 1) := by decide +kernel
theorem dX7_mark_203 : decode cX7_mark 203 = .ok (.iadd, 1) := by decide +kernel
theorem dX7_mark_204 : decode cX7_mark 204 = .ok (.iastore, 1) := by decide +kernel
theorem dX7_mark_205 : decode cX7_mark 205 = .ok (.iinc 9 1, 3) := by decide +kernel
theorem dX7_mark_208 : decode cX7_mark 208 = .ok (.goto (-28), 3) := by decide +kernel
theorem dX7_mark_211 : decode cX7_mark 211 = .ok (.aload_n 0, 1) := by decide +kernel
theorem dX7_mark_212 : decode cX7_mark 212 = .ok (.getfield 69, 3) := by decide +kernel
theorem dX7_mark_215 : decode cX7_mark 215 = .ok (.bipush 10, 2) := by decide +kernel
theorem dX7_mark_217 : decode cX7_mark 217 = .ok (.iload 8, 2) := by decide +kernel
theorem dX7_mark_219 : decode cX7_mark 219 = .ok (.imul, 1) := by decide +kernel
theorem dX7_mark_220 : decode cX7_mark 220 = .ok (.aload_n 0, 1) := by decide +kernel
theorem dX7_mark_221 : decode cX7_mark 221 = .ok (.getfield 66, 3) := by decide +kernel
theorem dX7_mark_224 : decode cX7_mark 224 = .ok (.iload 8, 2) := by decide +kernel
theorem dX7_mark_226 : decode cX7_mark 226 = .ok (.iaload, 1) := by decide +kernel
theorem dX7_mark_227 : decode cX7_mark 227 = .ok (.iadd, 1) := by decide +kernel
theorem dX7_mark_228 : decode cX7_mark 228 = .ok (.iload 4, 2) := by decide +kernel
theorem dX7_mark_230 : decode cX7_mark 230 = .ok (.iastore, 1) := by decide +kernel
theorem dX7_mark_231 : decode cX7_mark 231 = .ok (.aload_n 0, 1) := by decide +kernel
theorem dX7_mark_232 : decode cX7_mark 232 = .ok (.getfield 72, 3) := by decide +kernel
theorem dX7_mark_235 : decode cX7_mark 235 = .ok (.bipush 10, 2) := by decide +kernel
theorem dX7_mark_237 : decode cX7_mark 237 = .ok (.iload 8, 2) := by decide +kernel
theorem dX7_mark_239 : decode cX7_mark 239 = .ok (.imul, 1) := by decide +kernel
theorem dX7_mark_240 : decode cX7_mark 240 = .ok (.aload_n 0, 1) := by decide +kernel
theorem dX7_mark_241 : decode cX7_mark 241 = .ok (.getfield 66, 3) := by decide +kernel
theorem dX7_mark_244 : decode cX7_mark 244 = .ok (.iload 8, 2) := by decide +kernel
theorem dX7_mark_246 : decode cX7_mark 246 = .ok (.iaload, 1) := by decide +kernel
theorem dX7_mark_247 : decode cX7_mark 247 = .ok (.iadd, 1) := by decide +kernel
theorem dX7_mark_248 : decode cX7_mark 248 = .ok (.iload 5, 2) := by decide +kernel
theorem dX7_mark_250 : decode cX7_mark 250 = .ok (.iastore, 1) := by decide +kernel
theorem dX7_mark_251 : decode cX7_mark 251 = .ok (.aload_n 0, 1) := by decide +kernel
theorem dX7_mark_252 : decode cX7_mark 252 = .ok (.getfield 66, 3) := by decide +kernel
theorem dX7_mark_255 : decode cX7_mark 255 = .ok (.iload 8, 2) := by decide +kernel
theorem dX7_mark_257 : decode cX7_mark 257 = .ok (.dup2, 1) := by decide +kernel
theorem dX7_mark_258 : decode cX7_mark 258 = .ok (.iaload, 1) := by decide +kernel
theorem dX7_mark_259 : decode cX7_mark 259 = .ok (.iconst 1, 1) := by decide +kernel
theorem dX7_mark_260 : decode cX7_mark 260 = .ok (.iadd, 1) := by decide +kernel
theorem dX7_mark_261 : decode cX7_mark 261 = .ok (.iastore, 1) := by decide +kernel
theorem dX7_mark_262 : decode cX7_mark 262 = .ok (.aload_n 0, 1) := by decide +kernel
theorem dX7_mark_263 : decode cX7_mark 263 = .ok (.getfield 66, 3) := by decide +kernel
theorem dX7_mark_266 : decode cX7_mark 266 = .ok (.iload 8, 2) := by decide +kernel
theorem dX7_mark_268 : decode cX7_mark 268 = .ok (.iaload, 1) := by decide +kernel
theorem dX7_mark_269 : decode cX7_mark 269 = .ok (.ireturn, 1) := by decide +kernel
theorem dX7_agree_0 : decode cX7_agree 0 = .ok (.aload_n 0, 1) := by decide +kernel
theorem dX7_agree_1 : decode cX7_agree 1 = .ok (.aload_n 0, 1) := by decide +kernel
theorem dX7_agree_2 : decode cX7_agree 2 = .ok (.iload_n 1, 1) := by decide +kernel
theorem dX7_agree_3 : decode cX7_agree 3 = .ok (.invokevirtual 206, 3) := by decide +kernel
theorem dX7_agree_6 : decode cX7_agree 6 = .ok (.ifCond .eq 21, 3) := by decide +kernel
theorem dX7_agree_9 : decode cX7_agree 9 = .ok (.iload_n 2, 1) := by decide +kernel
theorem dX7_agree_10 : decode cX7_agree 10 = .ok (.iload 4, 2) := by decide +kernel
theorem dX7_agree_12 : decode cX7_agree 12 = .ok (.invokestatic 215, 3) := by decide +kernel
theorem dX7_agree_15 : decode cX7_agree 15 = .ok (.ifCond .eq 12, 3) := by decide +kernel
theorem dX7_agree_18 : decode cX7_agree 18 = .ok (.iload_n 3, 1) := by decide +kernel
theorem dX7_agree_19 : decode cX7_agree 19 = .ok (.iload 4, 2) := by decide +kernel
theorem dX7_agree_21 : decode cX7_agree 21 = .ok (.invokestatic 215, 3) := by decide +kernel
theorem dX7_agree_24 : decode cX7_agree 24 = .ok (.ifCond .ne 7, 3) := by decide +kernel
theorem dX7_agree_27 : decode cX7_agree 27 = .ok (.iconst 1, 1) := by decide +kernel
theorem dX7_agree_28 : decode cX7_agree 28 = .ok (.goto 18, 3) := by decide +kernel
theorem dX7_agree_31 : decode cX7_agree 31 = .ok (.iload 5, 2) := by decide +kernel
theorem dX7_agree_33 : decode cX7_agree 33 = .ok (.iconst 0, 1) := by decide +kernel
theorem dX7_agree_34 : decode cX7_agree 34 = .ok (.iconst 2, 1) := by decide +kernel
theorem dX7_agree_35 : decode cX7_agree 35 = .ok (.invokestatic 89, 3) := by decide +kernel
theorem dX7_agree_38 : decode cX7_agree 38 = .ok (.ifCond .ne 7, 3) := by decide +kernel
theorem dX7_agree_41 : decode cX7_agree 41 = .ok (.iconst 2, 1) := by decide +kernel
theorem dX7_agree_42 : decode cX7_agree 42 = .ok (.goto 4, 3) := by decide +kernel
theorem dX7_agree_45 : decode cX7_agree 45 = .ok (.iconst 0, 1) := by decide +kernel
theorem dX7_agree_46 : decode cX7_agree 46 = .ok (.putfield 78, 3) := by decide +kernel
theorem dX7_agree_49 : decode cX7_agree 49 = .ok (.aload_n 0, 1) := by decide +kernel
theorem dX7_agree_50 : decode cX7_agree 50 = .ok (.getfield 78, 3) := by decide +kernel
theorem dX7_agree_53 : decode cX7_agree 53 = .ok (.ifCond .le 5, 3) := by decide +kernel
theorem dX7_agree_56 : decode cX7_agree 56 = .ok (.iconst 0, 1) := by decide +kernel
theorem dX7_agree_57 : decode cX7_agree 57 = .ok (.ireturn, 1) := by decide +kernel
theorem dX7_agree_58 : decode cX7_agree 58 = .ok (.iload_n 1, 1) := by decide +kernel
theorem dX7_agree_59 : decode cX7_agree 59 = .ok (.iload_n 2, 1) := by decide +kernel
theorem dX7_agree_60 : decode cX7_agree 60 = .ok (.iload 4, 2) := by decide +kernel
theorem dX7_agree_62 : decode cX7_agree 62 = .ok (.invokestatic 218, 3) := by decide +kernel
theorem dX7_agree_65 : decode cX7_agree 65 = .ok (.istore 6, 2) := by decide +kernel
theorem dX7_agree_67 : decode cX7_agree 67 = .ok (.iload_n 1, 1) := by decide +kernel
theorem dX7_agree_68 : decode cX7_agree 68 = .ok (.iload_n 3, 1) := by decide +kernel
theorem dX7_agree_69 : decode cX7_agree 69 = .ok (.iload 4, 2) := by decide +kernel
theorem dX7_agree_71 : decode cX7_agree 71 = .ok (.invokestatic 218, 3) := by decide +kernel
theorem dX7_agree_74 : decode cX7_agree 74 = .ok (.istore 7, 2) := by decide +kernel
theorem dX7_agree_76 : decode cX7_agree 76 = .ok (.iconst 0, 1) := by decide +kernel
theorem dX7_agree_77 : decode cX7_agree 77 = .ok (.istore 8, 2) := by decide +kernel
theorem dX7_agree_79 : decode cX7_agree 79 = .ok (.iconst 0, 1) := by decide +kernel
theorem dX7_agree_80 : decode cX7_agree 80 = .ok (.istore 9, 2) := by decide +kernel
theorem dX7_agree_82 : decode cX7_agree 82 = .ok (.iload 9, 2) := by decide +kernel
theorem dX7_agree_84 : decode cX7_agree 84 = .ok (.sipush 200, 3) := by decide +kernel
theorem dX7_agree_87 : decode cX7_agree 87 = .ok (.if_icmp .ge 90, 3) := by decide +kernel
theorem dX7_agree_90 : decode cX7_agree 90 = .ok (.iload 5, 2) := by decide +kernel
theorem dX7_agree_92 : decode cX7_agree 92 = .ok (.iconst 2, 1) := by decide +kernel
theorem dX7_agree_93 : decode cX7_agree 93 = .ok (.if_icmp .ge 84, 3) := by decide +kernel
theorem dX7_agree_96 : decode cX7_agree 96 = .ok (.aload_n 0, 1) := by decide +kernel
theorem dX7_agree_97 : decode cX7_agree 97 = .ok (.getfield 63, 3) := by decide +kernel
theorem dX7_agree_100 : decode cX7_agree 100 = .ok (.sipush 200, 3) := by decide +kernel
theorem dX7_agree_103 : decode cX7_agree 103 = .ok (.iload 6, 2) := by decide +kernel
theorem dX7_agree_105 : decode cX7_agree 105 = .ok (.imul, 1) := by decide +kernel
theorem dX7_agree_106 : decode cX7_agree 106 = .ok (.iload 9, 2) := by decide +kernel
theorem dX7_agree_108 : decode cX7_agree 108 = .ok (.iadd, 1) := by decide +kernel
theorem dX7_agree_109 : decode cX7_agree 109 = .ok (.iaload, 1) := by decide +kernel
theorem dX7_agree_110 : decode cX7_agree 110 = .ok (.istore 10, 2) := by decide +kernel
theorem dX7_agree_112 : decode cX7_agree 112 = .ok (.aload_n 0, 1) := by decide +kernel
theorem dX7_agree_113 : decode cX7_agree 113 = .ok (.getfield 63, 3) := by decide +kernel
theorem dX7_agree_116 : decode cX7_agree 116 = .ok (.sipush 200, 3) := by decide +kernel
theorem dX7_agree_119 : decode cX7_agree 119 = .ok (.iload 7, 2) := by decide +kernel
theorem dX7_agree_121 : decode cX7_agree 121 = .ok (.imul, 1) := by decide +kernel
theorem dX7_agree_122 : decode cX7_agree 122 = .ok (.iload 9, 2) := by decide +kernel
theorem dX7_agree_124 : decode cX7_agree 124 = .ok (.iadd, 1) := by decide +kernel
theorem dX7_agree_125 : decode cX7_agree 125 = .ok (.iaload, 1) := by decide +kernel
theorem dX7_agree_126 : decode cX7_agree 126 = .ok (.istore 11, 2) := by decide +kernel
theorem dX7_agree_128 : decode cX7_agree 128 = .ok (.iload 8, 2) := by decide +kernel
theorem dX7_agree_130 : decode cX7_agree 130 = .ok (.iload 5, 2) := by decide +kernel
theorem dX7_agree_132 : decode cX7_agree 132 = .ok (.ifCond .ne 23, 3) := by decide +kernel
theorem dX7_agree_135 : decode cX7_agree 135 = .ok (.iload 10, 2) := by decide +kernel
theorem dX7_agree_137 : decode cX7_agree 137 = .ok (.ifCond .le 14, 3) := by decide +kernel
theorem dX7_agree_140 : decode cX7_agree 140 = .ok (.iload 10, 2) := by decide +kernel
theorem dX7_agree_142 : decode cX7_agree 142 = .ok (.iload 11, 2) := by decide +kernel
theorem dX7_agree_144 : decode cX7_agree 144 = .ok (.if_icmp .ne 7, 3) := by decide +kernel
theorem dX7_agree_147 : decode cX7_agree 147 = .ok (.iconst 1, 1) := by decide +kernel
theorem dX7_agree_148 : decode cX7_agree 148 = .ok (.goto 20, 3) := by decide +kernel
theorem dX7_agree_151 : decode cX7_agree 151 = .ok (.iconst 0, 1) := by decide +kernel
theorem dX7_agree_152 : decode cX7_agree 152 = .ok (.goto 16, 3) := by decide +kernel
theorem dX7_agree_155 : decode cX7_agree 155 = .ok (.iload 10, 2) := by decide +kernel
theorem dX7_agree_157 : decode cX7_agree 157 = .ok (.iload 11, 2) := by decide +kernel
theorem dX7_agree_159 : decode cX7_agree 159 = .ok (.iadd, 1) := by decide +kernel
theorem dX7_agree_160 : decode cX7_agree 160 = .ok (.ifCond .le 7, 3) := by decide +kernel
theorem dX7_agree_163 : decode cX7_agree 163 = .ok (.iconst 1, 1) := by decide +kernel
theorem dX7_agree_164 : decode cX7_agree 164 = .ok (.goto 4, 3) := by decide +kernel
theorem dX7_agree_167 : decode cX7_agree 167 = .ok (.iconst 0, 1) := by decide +kernel
theorem dX7_agree_168 : decode cX7_agree 168 = .ok (.iadd, 1) := by decide +kernel
theorem dX7_agree_169 : decode cX7_agree 169 = .ok (.istore 8, 2) := by decide +kernel
theorem dX7_agree_171 : decode cX7_agree 171 = .ok (.iinc 9 1, 3) := by decide +kernel
theorem dX7_agree_174 : decode cX7_agree 174 = .ok (.goto (-92), 3) := by decide +kernel
theorem dX7_agree_177 : decode cX7_agree 177 = .ok (.iconst 0, 1) := by decide +kernel
theorem dX7_agree_178 : decode cX7_agree 178 = .ok (.istore 9, 2) := by decide +kernel
theorem dX7_agree_180 : decode cX7_agree 180 = .ok (.iload 9, 2) := by decide +kernel
theorem dX7_agree_182 : decode cX7_agree 182 = .ok (.aload_n 0, 1) := by decide +kernel
theorem dX7_agree_183 : decode cX7_agree 183 = .ok (.getfield 66, 3) := by decide +kernel
theorem dX7_agree_186 : decode cX7_agree 186 = .ok (.iload 6, 2) := by decide +kernel
theorem dX7_agree_188 : decode cX7_agree 188 = .ok (.iaload, 1) := by decide +kernel
theorem dX7_agree_189 : decode cX7_agree 189 = .ok (.if_icmp .ge 128, 3) := by decide +kernel
theorem dX7_agree_192 : decode cX7_agree 192 = .ok (.iload 5, 2) := by decide +kernel
theorem dX7_agree_194 : decode cX7_agree 194 = .ok (.iconst 2, 1) := by decide +kernel
theorem dX7_agree_195 : decode cX7_agree 195 = .ok (.if_icmp .ne 122, 3) := by decide +kernel
theorem dX7_agree_198 : decode cX7_agree 198 = .ok (.aload_n 0, 1) := by decide +kernel
theorem dX7_agree_199 : decode cX7_agree 199 = .ok (.getfield 69, 3) := by decide +kernel
theorem dX7_agree_202 : decode cX7_agree 202 = .ok (.bipush 10, 2) := by decide +kernel
theorem dX7_agree_204 : decode cX7_agree 204 = .ok (.iload 6, 2) := by decide +kernel
theorem dX7_agree_206 : decode cX7_agree 206 = .ok (.imul, 1) := by decide +kernel
theorem dX7_agree_207 : decode cX7_agree 207 = .ok (.iload 9, 2) := by decide +kernel
theorem dX7_agree_209 : decode cX7_agree 209 = .ok (.iadd, 1) := by decide +kernel
theorem dX7_agree_210 : decode cX7_agree 210 = .ok (.iaload, 1) := by decide +kernel
theorem dX7_agree_211 : decode cX7_agree 211 = .ok (.istore 10, 2) := by decide +kernel
theorem dX7_agree_213 : decode cX7_agree 213 = .ok (.aload_n 0, 1) := by decide +kernel
theorem dX7_agree_214 : decode cX7_agree 214 = .ok (.getfield 72, 3) := by decide +kernel
theorem dX7_agree_217 : decode cX7_agree 217 = .ok (.bipush 10, 2) := by decide +kernel
theorem dX7_agree_219 : decode cX7_agree 219 = .ok (.iload 6, 2) := by decide +kernel
theorem dX7_agree_221 : decode cX7_agree 221 = .ok (.imul, 1) := by decide +kernel
theorem dX7_agree_222 : decode cX7_agree 222 = .ok (.iload 9, 2) := by decide +kernel
theorem dX7_agree_224 : decode cX7_agree 224 = .ok (.iadd, 1) := by decide +kernel
theorem dX7_agree_225 : decode cX7_agree 225 = .ok (.iaload, 1) := by decide +kernel
theorem dX7_agree_226 : decode cX7_agree 226 = .ok (.istore 11, 2) := by decide +kernel
theorem dX7_agree_228 : decode cX7_agree 228 = .ok (.iconst 0, 1) := by decide +kernel
theorem dX7_agree_229 : decode cX7_agree 229 = .ok (.istore 12, 2) := by decide +kernel
theorem dX7_agree_231 : decode cX7_agree 231 = .ok (.iload 10, 2) := by decide +kernel
theorem dX7_agree_233 : decode cX7_agree 233 = .ok (.istore 13, 2) := by decide +kernel
theorem dX7_agree_235 : decode cX7_agree 235 = .ok (.iload 13, 2) := by decide +kernel
theorem dX7_agree_237 : decode cX7_agree 237 = .ok (.iload 11, 2) := by decide +kernel
theorem dX7_agree_239 : decode cX7_agree 239 = .ok (.if_icmp .ge 50, 3) := by decide +kernel
theorem dX7_agree_242 : decode cX7_agree 242 = .ok (.iload 12, 2) := by decide +kernel
theorem dX7_agree_244 : decode cX7_agree 244 = .ok (.aload_n 0, 1) := by decide +kernel
theorem dX7_agree_245 : decode cX7_agree 245 = .ok (.getfield 63, 3) := by decide +kernel
theorem dX7_agree_248 : decode cX7_agree 248 = .ok (.sipush 200, 3) := by decide +kernel
theorem dX7_agree_251 : decode cX7_agree 251 = .ok (.iload 6, 2) := by decide +kernel
theorem dX7_agree_253 : decode cX7_agree 253 = .ok (.imul, 1) := by decide +kernel
theorem dX7_agree_254 : decode cX7_agree 254 = .ok (.iload 13, 2) := by decide +kernel
theorem dX7_agree_256 : decode cX7_agree 256 = .ok (.iadd, 1) := by decide +kernel
theorem dX7_agree_257 : decode cX7_agree 257 = .ok (.iaload, 1) := by decide +kernel
theorem dX7_agree_258 : decode cX7_agree 258 = .ok (.aload_n 0, 1) := by decide +kernel
theorem dX7_agree_259 : decode cX7_agree 259 = .ok (.getfield 63, 3) := by decide +kernel
theorem dX7_agree_262 : decode cX7_agree 262 = .ok (.sipush 200, 3) := by decide +kernel
theorem dX7_agree_265 : decode cX7_agree 265 = .ok (.iload 7, 2) := by decide +kernel
theorem dX7_agree_267 : decode cX7_agree 267 = .ok (.imul, 1) := by decide +kernel
theorem dX7_agree_268 : decode cX7_agree 268 = .ok (.iload 13, 2) := by decide +kernel
theorem dX7_agree_270 : decode cX7_agree 270 = .ok (.iadd, 1) := by decide +kernel
theorem dX7_agree_271 : decode cX7_agree 271 = .ok (.iaload, 1) := by decide +kernel
theorem dX7_agree_272 : decode cX7_agree 272 = .ok (.if_icmp .ne 7, 3) := by decide +kernel
theorem dX7_agree_275 : decode cX7_agree 275 = .ok (.iconst 1, 1) := by decide +kernel
theorem dX7_agree_276 : decode cX7_agree 276 = .ok (.goto 4, 3) := by decide +kernel
theorem dX7_agree_279 : decode cX7_agree 279 = .ok (.iconst 0, 1) := by decide +kernel
theorem dX7_agree_280 : decode cX7_agree 280 = .ok (.iadd, 1) := by decide +kernel
theorem dX7_agree_281 : decode cX7_agree 281 = .ok (.istore 12, 2) := by decide +kernel
theorem dX7_agree_283 : decode cX7_agree 283 = .ok (.iinc 13 1, 3) := by decide +kernel
theorem dX7_agree_286 : decode cX7_agree 286 = .ok (.goto (-51), 3) := by decide +kernel
theorem dX7_agree_289 : decode cX7_agree 289 = .ok (.iload 8, 2) := by decide +kernel
theorem dX7_agree_291 : decode cX7_agree 291 = .ok (.iconst 2, 1) := by decide +kernel
theorem dX7_agree_292 : decode cX7_agree 292 = .ok (.iload 12, 2) := by decide +kernel
theorem dX7_agree_294 : decode cX7_agree 294 = .ok (.imul, 1) := by decide +kernel
theorem dX7_agree_295 : decode cX7_agree 295 = .ok (.iload 11, 2) := by decide +kernel
theorem dX7_agree_297 : decode cX7_agree 297 = .ok (.iload 10, 2) := by decide +kernel
theorem dX7_agree_299 : decode cX7_agree 299 = .ok (.isub, 1) := by decide +kernel
theorem dX7_agree_300 : decode cX7_agree 300 = .ok (.if_icmp .le 7, 3) := by decide +kernel
theorem dX7_agree_303 : decode cX7_agree 303 = .ok (.iconst 1, 1) := by decide +kernel
theorem dX7_agree_304 : decode cX7_agree 304 = .ok (.goto 4, 3) := by decide +kernel
theorem dX7_agree_307 : decode cX7_agree 307 = .ok (.iconst 0, 1) := by decide +kernel
theorem dX7_agree_308 : decode cX7_agree 308 = .ok (.iadd, 1) := by decide +kernel
theorem dX7_agree_309 : decode cX7_agree 309 = .ok (.istore 8, 2) := by decide +kernel
theorem dX7_agree_311 : decode cX7_agree 311 = .ok (.iinc 9 1, 3) := by decide +kernel
theorem dX7_agree_314 : decode cX7_agree 314 = .ok (.goto (-134), 3) := by decide +kernel
theorem dX7_agree_317 : decode cX7_agree 317 = .ok (.iload 8, 2) := by decide +kernel
theorem dX7_agree_319 : decode cX7_agree 319 = .ok (.ireturn, 1) := by decide +kernel
theorem dJ9_abs_0f7a4_0 : decode cJ9_abs_0f7a4 0 = .ok (.iload_n 0, 1) := by decide +kernel
theorem dJ9_abs_0f7a4_1 : decode cJ9_abs_0f7a4 1 = .ok (.ifCond .ge 8, 3) := by decide +kernel
theorem dJ9_abs_0f7a4_4 : decode cJ9_abs_0f7a4 4 = .ok (.iload_n 0, 1) := by decide +kernel
theorem dJ9_abs_0f7a4_5 : decode cJ9_abs_0f7a4 5 = .ok (.ineg, 1) := by decide +kernel
theorem dJ9_abs_0f7a4_6 : decode cJ9_abs_0f7a4 6 = .ok (.goto 4, 3) := by decide +kernel
theorem dJ9_abs_0f7a4_9 : decode cJ9_abs_0f7a4 9 = .ok (.iload_n 0, 1) := by decide +kernel
theorem dJ9_abs_0f7a4_10 : decode cJ9_abs_0f7a4 10 = .ok (.ireturn, 1) := by decide +kernel
theorem dJ9_max_7cf53_0 : decode cJ9_max_7cf53 0 = .ok (.iload_n 0, 1) := by decide +kernel
theorem dJ9_max_7cf53_1 : decode cJ9_max_7cf53 1 = .ok (.iload_n 1, 1) := by decide +kernel
theorem dJ9_max_7cf53_2 : decode cJ9_max_7cf53 2 = .ok (.if_icmp .lt 7, 3) := by decide +kernel
theorem dJ9_max_7cf53_5 : decode cJ9_max_7cf53 5 = .ok (.iload_n 0, 1) := by decide +kernel
theorem dJ9_max_7cf53_6 : decode cJ9_max_7cf53 6 = .ok (.goto 4, 3) := by decide +kernel
theorem dJ9_max_7cf53_9 : decode cJ9_max_7cf53 9 = .ok (.iload_n 1, 1) := by decide +kernel
theorem dJ9_max_7cf53_10 : decode cJ9_max_7cf53 10 = .ok (.ireturn, 1) := by decide +kernel
theorem dJ9_min_7cf53_0 : decode cJ9_min_7cf53 0 = .ok (.iload_n 0, 1) := by decide +kernel
theorem dJ9_min_7cf53_1 : decode cJ9_min_7cf53 1 = .ok (.iload_n 1, 1) := by decide +kernel
theorem dJ9_min_7cf53_2 : decode cJ9_min_7cf53 2 = .ok (.if_icmp .gt 7, 3) := by decide +kernel
theorem dJ9_min_7cf53_5 : decode cJ9_min_7cf53 5 = .ok (.iload_n 0, 1) := by decide +kernel
theorem dJ9_min_7cf53_6 : decode cJ9_min_7cf53 6 = .ok (.goto 4, 3) := by decide +kernel
theorem dJ9_min_7cf53_9 : decode cJ9_min_7cf53 9 = .ok (.iload_n 1, 1) := by decide +kernel
theorem dJ9_min_7cf53_10 : decode cJ9_min_7cf53 10 = .ok (.ireturn, 1) := by decide +kernel
theorem dJxa1e45_init_da8c8_0 : decode cJxa1e45_init_da8c8 0 = .ok (.aload_n 0, 1) := by decide +kernel
theorem dJxa1e45_init_da8c8_1 : decode cJxa1e45_init_da8c8 1 = .ok (.invokespecial 1, 3) := by decide +kernel
theorem dJxa1e45_init_da8c8_4 : decode cJxa1e45_init_da8c8 4 = .ok (.return_, 1) := by decide +kernel
theorem dJxc12de_init_da8c8_0 : decode cJxc12de_init_da8c8 0 = .ok (.aload_n 0, 1) := by decide +kernel
theorem dJxc12de_init_da8c8_1 : decode cJxc12de_init_da8c8 1 = .ok (.invokespecial 1, 3) := by decide +kernel
theorem dJxc12de_init_da8c8_4 : decode cJxc12de_init_da8c8 4 = .ok (.aload_n 0, 1) := by decide +kernel
theorem dJxc12de_init_da8c8_5 : decode cJxc12de_init_da8c8 5 = .ok (.iconst 0, 1) := by decide +kernel
theorem dJxc12de_init_da8c8_6 : decode cJxc12de_init_da8c8 6 = .ok (.putfield 7, 3) := by decide +kernel
theorem dJxc12de_init_da8c8_9 : decode cJxc12de_init_da8c8 9 = .ok (.return_, 1) := by decide +kernel
theorem dJx4a65c_init_da8c8_0 : decode cJx4a65c_init_da8c8 0 = .ok (.aload_n 0, 1) := by decide +kernel
theorem dJx4a65c_init_da8c8_1 : decode cJx4a65c_init_da8c8 1 = .ok (.invokespecial 1, 3) := by decide +kernel
theorem dJx4a65c_init_da8c8_4 : decode cJx4a65c_init_da8c8 4 = .ok (.aload_n 0, 1) := by decide +kernel
theorem dJx4a65c_init_da8c8_5 : decode cJx4a65c_init_da8c8 5 = .ok (.getstatic 39, 3) := by decide +kernel
theorem dJx4a65c_init_da8c8_8 : decode cJx4a65c_init_da8c8 8 = .ok (.putfield 9, 3) := by decide +kernel
theorem dJx4a65c_init_da8c8_11 : decode cJx4a65c_init_da8c8 11 = .ok (.return_, 1) := by decide +kernel
theorem dJx4a65c_grow_92f84_0 : decode cJx4a65c_grow_92f84 0 = .ok (.aload_n 0, 1) := by decide +kernel
theorem dJx4a65c_grow_92f84_1 : decode cJx4a65c_grow_92f84 1 = .ok (.getfield 9, 3) := by decide +kernel
theorem dJx4a65c_grow_92f84_4 : decode cJx4a65c_grow_92f84 4 = .ok (.arraylength, 1) := by decide +kernel
theorem dJx4a65c_grow_92f84_5 : decode cJx4a65c_grow_92f84 5 = .ok (.istore_n 2, 1) := by decide +kernel
theorem dJx4a65c_grow_92f84_6 : decode cJx4a65c_grow_92f84 6 = .ok (.iload_n 2, 1) := by decide +kernel
theorem dJx4a65c_grow_92f84_7 : decode cJx4a65c_grow_92f84 7 = .ok (.ifCond .gt 13, 3) := by decide +kernel
theorem dJx4a65c_grow_92f84_10 : decode cJx4a65c_grow_92f84 10 = .ok (.aload_n 0, 1) := by decide +kernel
theorem dJx4a65c_grow_92f84_11 : decode cJx4a65c_grow_92f84 11 = .ok (.getfield 9, 3) := by decide +kernel
theorem dJx4a65c_grow_92f84_14 : decode cJx4a65c_grow_92f84 14 = .ok (.getstatic 39, 3) := by decide +kernel
theorem dJx4a65c_grow_92f84_17 : decode cJx4a65c_grow_92f84 17 = .ok (.if_acmp .eq 28, 3) := by decide +kernel
theorem dJx4a65c_grow_92f84_20 : decode cJx4a65c_grow_92f84 20 = .ok (.iload_n 2, 1) := by decide +kernel
theorem dJx4a65c_grow_92f84_21 : decode cJx4a65c_grow_92f84 21 = .ok (.iload_n 1, 1) := by decide +kernel
theorem dJx4a65c_grow_92f84_22 : decode cJx4a65c_grow_92f84 22 = .ok (.iload_n 2, 1) := by decide +kernel
theorem dJx4a65c_grow_92f84_23 : decode cJx4a65c_grow_92f84 23 = .ok (.isub, 1) := by decide +kernel
theorem dJx4a65c_grow_92f84_24 : decode cJx4a65c_grow_92f84 24 = .ok (.iload_n 2, 1) := by decide +kernel
theorem dJx4a65c_grow_92f84_25 : decode cJx4a65c_grow_92f84 25 = .ok (.iconst 1, 1) := by decide +kernel
theorem dJx4a65c_grow_92f84_26 : decode cJx4a65c_grow_92f84 26 = .ok (.ishr, 1) := by decide +kernel
theorem dJx4a65c_grow_92f84_27 : decode cJx4a65c_grow_92f84 27 = .ok (.invokestatic 73, 3) := by decide +kernel
theorem dJx4a65c_grow_92f84_30 : decode cJx4a65c_grow_92f84 30 = .ok (.istore_n 3, 1) := by decide +kernel
theorem dJx4a65c_grow_92f84_31 : decode cJx4a65c_grow_92f84 31 = .ok (.aload_n 0, 1) := by decide +kernel
theorem dJx4a65c_grow_92f84_32 : decode cJx4a65c_grow_92f84 32 = .ok (.aload_n 0, 1) := by decide +kernel
theorem dJx4a65c_grow_92f84_33 : decode cJx4a65c_grow_92f84 33 = .ok (.getfield 9, 3) := by decide +kernel
theorem dJx4a65c_grow_92f84_36 : decode cJx4a65c_grow_92f84 36 = .ok (.iload_n 3, 1) := by decide +kernel
theorem dJx4a65c_grow_92f84_37 : decode cJx4a65c_grow_92f84 37 = .ok (.invokestatic 66, 3) := by decide +kernel
theorem dJx4a65c_grow_92f84_40 : decode cJx4a65c_grow_92f84 40 = .ok (.dup_x1, 1) := by decide +kernel
theorem dJx4a65c_grow_92f84_41 : decode cJx4a65c_grow_92f84 41 = .ok (.putfield 9, 3) := by decide +kernel
theorem dJx4a65c_grow_92f84_44 : decode cJx4a65c_grow_92f84 44 = .ok (.areturn, 1) := by decide +kernel
theorem dJx4a65c_grow_92f84_45 : decode cJx4a65c_grow_92f84 45 = .ok (.aload_n 0, 1) := by decide +kernel
theorem dJx4a65c_grow_92f84_46 : decode cJx4a65c_grow_92f84 46 = .ok (.bipush 10, 2) := by decide +kernel
theorem dJx4a65c_grow_92f84_48 : decode cJx4a65c_grow_92f84 48 = .ok (.iload_n 1, 1) := by decide +kernel
theorem dJx4a65c_grow_92f84_49 : decode cJx4a65c_grow_92f84 49 = .ok (.invokestatic 79, 3) := by decide +kernel
theorem dJx4a65c_grow_92f84_52 : decode cJx4a65c_grow_92f84 52 = .ok (.anewarray 7, 3) := by decide +kernel
theorem dJx4a65c_grow_92f84_55 : decode cJx4a65c_grow_92f84 55 = .ok (.dup_x1, 1) := by decide +kernel
theorem dJx4a65c_grow_92f84_56 : decode cJx4a65c_grow_92f84 56 = .ok (.putfield 9, 3) := by decide +kernel
theorem dJx4a65c_grow_92f84_59 : decode cJx4a65c_grow_92f84 59 = .ok (.areturn, 1) := by decide +kernel
theorem dJx4a65c_grow_d5877_0 : decode cJx4a65c_grow_d5877 0 = .ok (.aload_n 0, 1) := by decide +kernel
theorem dJx4a65c_grow_d5877_1 : decode cJx4a65c_grow_d5877 1 = .ok (.aload_n 0, 1) := by decide +kernel
theorem dJx4a65c_grow_d5877_2 : decode cJx4a65c_grow_d5877 2 = .ok (.getfield 48, 3) := by decide +kernel
theorem dJx4a65c_grow_d5877_5 : decode cJx4a65c_grow_d5877 5 = .ok (.iconst 1, 1) := by decide +kernel
theorem dJx4a65c_grow_d5877_6 : decode cJx4a65c_grow_d5877 6 = .ok (.iadd, 1) := by decide +kernel
theorem dJx4a65c_grow_d5877_7 : decode cJx4a65c_grow_d5877 7 = .ok (.invokevirtual 69, 3) := by decide +kernel
theorem dJx4a65c_grow_d5877_10 : decode cJx4a65c_grow_d5877 10 = .ok (.areturn, 1) := by decide +kernel
theorem dJx4a65c_size_8abf5_0 : decode cJx4a65c_size_8abf5 0 = .ok (.aload_n 0, 1) := by decide +kernel
theorem dJx4a65c_size_8abf5_1 : decode cJx4a65c_size_8abf5 1 = .ok (.getfield 48, 3) := by decide +kernel
theorem dJx4a65c_size_8abf5_4 : decode cJx4a65c_size_8abf5 4 = .ok (.ireturn, 1) := by decide +kernel
theorem dJx4a65c_elementData_915e3_0 : decode cJx4a65c_elementData_915e3 0 = .ok (.aload_n 0, 1) := by decide +kernel
theorem dJx4a65c_elementData_915e3_1 : decode cJx4a65c_elementData_915e3 1 = .ok (.getfield 9, 3) := by decide +kernel
theorem dJx4a65c_elementData_915e3_4 : decode cJx4a65c_elementData_915e3 4 = .ok (.iload_n 1, 1) := by decide +kernel
theorem dJx4a65c_elementData_915e3_5 : decode cJx4a65c_elementData_915e3 5 = .ok (.aaload, 1) := by decide +kernel
theorem dJx4a65c_elementData_915e3_6 : decode cJx4a65c_elementData_915e3 6 = .ok (.areturn, 1) := by decide +kernel
theorem dJx4a65c_get_915e3_0 : decode cJx4a65c_get_915e3 0 = .ok (.iload_n 1, 1) := by decide +kernel
theorem dJx4a65c_get_915e3_1 : decode cJx4a65c_get_915e3 1 = .ok (.aload_n 0, 1) := by decide +kernel
theorem dJx4a65c_get_915e3_2 : decode cJx4a65c_get_915e3 2 = .ok (.getfield 48, 3) := by decide +kernel
theorem dJx4a65c_get_915e3_5 : decode cJx4a65c_get_915e3 5 = .ok (.invokestatic 118, 3) := by decide +kernel
theorem dJx4a65c_get_915e3_8 : decode cJx4a65c_get_915e3 8 = .ok (.pop, 1) := by decide +kernel
theorem dJx4a65c_get_915e3_9 : decode cJx4a65c_get_915e3 9 = .ok (.aload_n 0, 1) := by decide +kernel
theorem dJx4a65c_get_915e3_10 : decode cJx4a65c_get_915e3 10 = .ok (.iload_n 1, 1) := by decide +kernel
theorem dJx4a65c_get_915e3_11 : decode cJx4a65c_get_915e3 11 = .ok (.invokevirtual 123, 3) := by decide +kernel
theorem dJx4a65c_get_915e3_14 : decode cJx4a65c_get_915e3 14 = .ok (.areturn, 1) := by decide +kernel
theorem dJx4a65c_add_72be8_0 : decode cJx4a65c_add_72be8 0 = .ok (.iload_n 3, 1) := by decide +kernel
theorem dJx4a65c_add_72be8_1 : decode cJx4a65c_add_72be8 1 = .ok (.aload_n 2, 1) := by decide +kernel
theorem dJx4a65c_add_72be8_2 : decode cJx4a65c_add_72be8 2 = .ok (.arraylength, 1) := by decide +kernel
theorem dJx4a65c_add_72be8_3 : decode cJx4a65c_add_72be8 3 = .ok (.if_icmp .ne 8, 3) := by decide +kernel
theorem dJx4a65c_add_72be8_6 : decode cJx4a65c_add_72be8 6 = .ok (.aload_n 0, 1) := by decide +kernel
theorem dJx4a65c_add_72be8_7 : decode cJx4a65c_add_72be8 7 = .ok (.invokevirtual 129, 3) := by decide +kernel
theorem dJx4a65c_add_72be8_10 : decode cJx4a65c_add_72be8 10 = .ok (.astore_n 2, 1) := by decide +kernel
theorem dJx4a65c_add_72be8_11 : decode cJx4a65c_add_72be8 11 = .ok (.aload_n 2, 1) := by decide +kernel
theorem dJx4a65c_add_72be8_12 : decode cJx4a65c_add_72be8 12 = .ok (.iload_n 3, 1) := by decide +kernel
theorem dJx4a65c_add_72be8_13 : decode cJx4a65c_add_72be8 13 = .ok (.aload_n 1, 1) := by decide +kernel
theorem dJx4a65c_add_72be8_14 : decode cJx4a65c_add_72be8 14 = .ok (.aastore, 1) := by decide +kernel
theorem dJx4a65c_add_72be8_15 : decode cJx4a65c_add_72be8 15 = .ok (.aload_n 0, 1) := by decide +kernel
theorem dJx4a65c_add_72be8_16 : decode cJx4a65c_add_72be8 16 = .ok (.iload_n 3, 1) := by decide +kernel
theorem dJx4a65c_add_72be8_17 : decode cJx4a65c_add_72be8 17 = .ok (.iconst 1, 1) := by decide +kernel
theorem dJx4a65c_add_72be8_18 : decode cJx4a65c_add_72be8 18 = .ok (.iadd, 1) := by decide +kernel
theorem dJx4a65c_add_72be8_19 : decode cJx4a65c_add_72be8 19 = .ok (.putfield 48, 3) := by decide +kernel
theorem dJx4a65c_add_72be8_22 : decode cJx4a65c_add_72be8 22 = .ok (.return_, 1) := by decide +kernel
theorem dJx4a65c_add_9ea2d_0 : decode cJx4a65c_add_9ea2d 0 = .ok (.aload_n 0, 1) := by decide +kernel
theorem dJx4a65c_add_9ea2d_1 : decode cJx4a65c_add_9ea2d 1 = .ok (.dup, 1) := by decide +kernel
theorem dJx4a65c_add_9ea2d_2 : decode cJx4a65c_add_9ea2d 2 = .ok (.getfield 63, 3) := by decide +kernel
theorem dJx4a65c_add_9ea2d_5 : decode cJx4a65c_add_9ea2d 5 = .ok (.iconst 1, 1) := by decide +kernel
theorem dJx4a65c_add_9ea2d_6 : decode cJx4a65c_add_9ea2d 6 = .ok (.iadd, 1) := by decide +kernel
theorem dJx4a65c_add_9ea2d_7 : decode cJx4a65c_add_9ea2d 7 = .ok (.putfield 63, 3) := by decide +kernel
theorem dJx4a65c_add_9ea2d_10 : decode cJx4a65c_add_9ea2d 10 = .ok (.aload_n 0, 1) := by decide +kernel
theorem dJx4a65c_add_9ea2d_11 : decode cJx4a65c_add_9ea2d 11 = .ok (.aload_n 1, 1) := by decide +kernel
theorem dJx4a65c_add_9ea2d_12 : decode cJx4a65c_add_9ea2d 12 = .ok (.aload_n 0, 1) := by decide +kernel
theorem dJx4a65c_add_9ea2d_13 : decode cJx4a65c_add_9ea2d 13 = .ok (.getfield 9, 3) := by decide +kernel
theorem dJx4a65c_add_9ea2d_16 : decode cJx4a65c_add_9ea2d 16 = .ok (.aload_n 0, 1) := by decide +kernel
theorem dJx4a65c_add_9ea2d_17 : decode cJx4a65c_add_9ea2d 17 = .ok (.getfield 48, 3) := by decide +kernel
theorem dJx4a65c_add_9ea2d_20 : decode cJx4a65c_add_9ea2d 20 = .ok (.invokevirtual 131, 3) := by decide +kernel
theorem dJx4a65c_add_9ea2d_23 : decode cJx4a65c_add_9ea2d 23 = .ok (.iconst 1, 1) := by decide +kernel
theorem dJx4a65c_add_9ea2d_24 : decode cJx4a65c_add_9ea2d 24 = .ok (.ireturn, 1) := by decide +kernel
theorem dJx4a65c_clear_da8c8_0 : decode cJx4a65c_clear_da8c8 0 = .ok (.aload_n 0, 1) := by decide +kernel
theorem dJx4a65c_clear_da8c8_1 : decode cJx4a65c_clear_da8c8 1 = .ok (.dup, 1) := by decide +kernel
theorem dJx4a65c_clear_da8c8_2 : decode cJx4a65c_clear_da8c8 2 = .ok (.getfield 63, 3) := by decide +kernel
theorem dJx4a65c_clear_da8c8_5 : decode cJx4a65c_clear_da8c8 5 = .ok (.iconst 1, 1) := by decide +kernel
theorem dJx4a65c_clear_da8c8_6 : decode cJx4a65c_clear_da8c8 6 = .ok (.iadd, 1) := by decide +kernel
theorem dJx4a65c_clear_da8c8_7 : decode cJx4a65c_clear_da8c8 7 = .ok (.putfield 63, 3) := by decide +kernel
theorem dJx4a65c_clear_da8c8_10 : decode cJx4a65c_clear_da8c8 10 = .ok (.aload_n 0, 1) := by decide +kernel
theorem dJx4a65c_clear_da8c8_11 : decode cJx4a65c_clear_da8c8 11 = .ok (.getfield 9, 3) := by decide +kernel
theorem dJx4a65c_clear_da8c8_14 : decode cJx4a65c_clear_da8c8 14 = .ok (.astore_n 1, 1) := by decide +kernel
theorem dJx4a65c_clear_da8c8_15 : decode cJx4a65c_clear_da8c8 15 = .ok (.aload_n 0, 1) := by decide +kernel
theorem dJx4a65c_clear_da8c8_16 : decode cJx4a65c_clear_da8c8 16 = .ok (.getfield 48, 3) := by decide +kernel
theorem dJx4a65c_clear_da8c8_19 : decode cJx4a65c_clear_da8c8 19 = .ok (.istore_n 2, 1) := by decide +kernel
theorem dJx4a65c_clear_da8c8_20 : decode cJx4a65c_clear_da8c8 20 = .ok (.aload_n 0, 1) := by decide +kernel
theorem dJx4a65c_clear_da8c8_21 : decode cJx4a65c_clear_da8c8 21 = .ok (.iconst 0, 1) := by decide +kernel
theorem dJx4a65c_clear_da8c8_22 : decode cJx4a65c_clear_da8c8 22 = .ok (.dup_x1, 1) := by decide +kernel
theorem dJx4a65c_clear_da8c8_23 : decode cJx4a65c_clear_da8c8 23 = .ok (.putfield 48, 3) := by decide +kernel
theorem dJx4a65c_clear_da8c8_26 : decode cJx4a65c_clear_da8c8 26 = .ok (.istore_n 3, 1) := by decide +kernel
theorem dJx4a65c_clear_da8c8_27 : decode cJx4a65c_clear_da8c8 27 = .ok (.iload_n 3, 1) := by decide +kernel
theorem dJx4a65c_clear_da8c8_28 : decode cJx4a65c_clear_da8c8 28 = .ok (.iload_n 2, 1) := by decide +kernel
theorem dJx4a65c_clear_da8c8_29 : decode cJx4a65c_clear_da8c8 29 = .ok (.if_icmp .ge 13, 3) := by decide +kernel
theorem dJx4a65c_clear_da8c8_32 : decode cJx4a65c_clear_da8c8 32 = .ok (.aload_n 1, 1) := by decide +kernel
theorem dJx4a65c_clear_da8c8_33 : decode cJx4a65c_clear_da8c8 33 = .ok (.iload_n 3, 1) := by decide +kernel
theorem dJx4a65c_clear_da8c8_34 : decode cJx4a65c_clear_da8c8 34 = .ok (.aconst_null, 1) := by decide +kernel
theorem dJx4a65c_clear_da8c8_35 : decode cJx4a65c_clear_da8c8 35 = .ok (.aastore, 1) := by decide +kernel
theorem dJx4a65c_clear_da8c8_36 : decode cJx4a65c_clear_da8c8 36 = .ok (.iinc 3 1, 3) := by decide +kernel
theorem dJx4a65c_clear_da8c8_39 : decode cJx4a65c_clear_da8c8 39 = .ok (.goto (-12), 3) := by decide +kernel
theorem dJx4a65c_clear_da8c8_42 : decode cJx4a65c_clear_da8c8 42 = .ok (.return_, 1) := by decide +kernel
theorem dJ7_copyOf_1904c_0 : decode cJ7_copyOf_1904c 0 = .ok (.aload_n 0, 1) := by decide +kernel
theorem dJ7_copyOf_1904c_1 : decode cJ7_copyOf_1904c 1 = .ok (.iload_n 1, 1) := by decide +kernel
theorem dJ7_copyOf_1904c_2 : decode cJ7_copyOf_1904c 2 = .ok (.aload_n 0, 1) := by decide +kernel
theorem dJ7_copyOf_1904c_3 : decode cJ7_copyOf_1904c 3 = .ok (.invokevirtual 86, 3) := by decide +kernel
theorem dJ7_copyOf_1904c_6 : decode cJ7_copyOf_1904c 6 = .ok (.invokestatic 300, 3) := by decide +kernel
theorem dJ7_copyOf_1904c_9 : decode cJ7_copyOf_1904c 9 = .ok (.areturn, 1) := by decide +kernel
theorem dJ7_copyOf_6403c_0 : decode cJ7_copyOf_6403c 0 = .ok (.aload_n 2, 1) := by decide +kernel
theorem dJ7_copyOf_6403c_1 : decode cJ7_copyOf_6403c 1 = .ok (.ldc 110, 2) := by decide +kernel
theorem dJ7_copyOf_6403c_3 : decode cJ7_copyOf_6403c 3 = .ok (.if_acmp .ne 10, 3) := by decide +kernel
theorem dJ7_copyOf_6403c_6 : decode cJ7_copyOf_6403c 6 = .ok (.iload_n 1, 1) := by decide +kernel
theorem dJ7_copyOf_6403c_7 : decode cJ7_copyOf_6403c 7 = .ok (.anewarray 2, 3) := by decide +kernel
theorem dJ7_copyOf_6403c_10 : decode cJ7_copyOf_6403c 10 = .ok (.goto 14, 3) := by decide +kernel
theorem dJ7_copyOf_6403c_13 : decode cJ7_copyOf_6403c 13 = .ok (.aload_n 2, 1) := by decide +kernel
theorem dJ7_copyOf_6403c_14 : decode cJ7_copyOf_6403c 14 = .ok (.invokevirtual 90, 3) := by decide +kernel
theorem dJ7_copyOf_6403c_17 : decode cJ7_copyOf_6403c 17 = .ok (.iload_n 1, 1) := by decide +kernel
theorem dJ7_copyOf_6403c_18 : decode cJ7_copyOf_6403c 18 = .ok (.invokestatic 95, 3) := by decide +kernel
theorem dJ7_copyOf_6403c_21 : decode cJ7_copyOf_6403c 21 = .ok (.checkcast 110, 3) := by decide +kernel
theorem dJ7_copyOf_6403c_24 : decode cJ7_copyOf_6403c 24 = .ok (.astore_n 3, 1) := by decide +kernel
theorem dJ7_copyOf_6403c_25 : decode cJ7_copyOf_6403c 25 = .ok (.aload_n 0, 1) := by decide +kernel
theorem dJ7_copyOf_6403c_26 : decode cJ7_copyOf_6403c 26 = .ok (.iconst 0, 1) := by decide +kernel
theorem dJ7_copyOf_6403c_27 : decode cJ7_copyOf_6403c 27 = .ok (.aload_n 3, 1) := by decide +kernel
theorem dJ7_copyOf_6403c_28 : decode cJ7_copyOf_6403c 28 = .ok (.iconst 0, 1) := by decide +kernel
theorem dJ7_copyOf_6403c_29 : decode cJ7_copyOf_6403c 29 = .ok (.aload_n 0, 1) := by decide +kernel
theorem dJ7_copyOf_6403c_30 : decode cJ7_copyOf_6403c 30 = .ok (.arraylength, 1) := by decide +kernel
theorem dJ7_copyOf_6403c_31 : decode cJ7_copyOf_6403c 31 = .ok (.iload_n 1, 1) := by decide +kernel
theorem dJ7_copyOf_6403c_32 : decode cJ7_copyOf_6403c 32 = .ok (.invokestatic 304, 3) := by decide +kernel
theorem dJ7_copyOf_6403c_35 : decode cJ7_copyOf_6403c 35 = .ok (.invokestatic 150, 3) := by decide +kernel
theorem dJ7_copyOf_6403c_38 : decode cJ7_copyOf_6403c 38 = .ok (.aload_n 3, 1) := by decide +kernel
theorem dJ7_copyOf_6403c_39 : decode cJ7_copyOf_6403c 39 = .ok (.areturn, 1) := by decide +kernel
theorem dJ15_checkIndex_7cf53_0 : decode cJ15_checkIndex_7cf53 0 = .ok (.iload_n 0, 1) := by decide +kernel
theorem dJ15_checkIndex_7cf53_1 : decode cJ15_checkIndex_7cf53 1 = .ok (.iload_n 1, 1) := by decide +kernel
theorem dJ15_checkIndex_7cf53_2 : decode cJ15_checkIndex_7cf53 2 = .ok (.aconst_null, 1) := by decide +kernel
theorem dJ15_checkIndex_7cf53_3 : decode cJ15_checkIndex_7cf53 3 = .ok (.invokestatic 105, 3) := by decide +kernel
theorem dJ15_checkIndex_7cf53_6 : decode cJ15_checkIndex_7cf53 6 = .ok (.ireturn, 1) := by decide +kernel
theorem dJ8_newLength_cabcc_0 : decode cJ8_newLength_cabcc 0 = .ok (.iload_n 0, 1) := by decide +kernel
theorem dJ8_newLength_cabcc_1 : decode cJ8_newLength_cabcc 1 = .ok (.iload_n 1, 1) := by decide +kernel
theorem dJ8_newLength_cabcc_2 : decode cJ8_newLength_cabcc 2 = .ok (.iload_n 2, 1) := by decide +kernel
theorem dJ8_newLength_cabcc_3 : decode cJ8_newLength_cabcc 3 = .ok (.invokestatic 194, 3) := by decide +kernel
theorem dJ8_newLength_cabcc_6 : decode cJ8_newLength_cabcc 6 = .ok (.iadd, 1) := by decide +kernel
theorem dJ8_newLength_cabcc_7 : decode cJ8_newLength_cabcc 7 = .ok (.istore_n 3, 1) := by decide +kernel
theorem dJ8_newLength_cabcc_8 : decode cJ8_newLength_cabcc 8 = .ok (.iconst 0, 1) := by decide +kernel
theorem dJ8_newLength_cabcc_9 : decode cJ8_newLength_cabcc 9 = .ok (.iload_n 3, 1) := by decide +kernel
theorem dJ8_newLength_cabcc_10 : decode cJ8_newLength_cabcc 10 = .ok (.if_icmp .ge 11, 3) := by decide +kernel
theorem dJ8_newLength_cabcc_13 : decode cJ8_newLength_cabcc 13 = .ok (.iload_n 3, 1) := by decide +kernel
theorem dJ8_newLength_cabcc_14 : decode cJ8_newLength_cabcc 14 = .ok (.ldc 200, 2) := by decide +kernel
theorem dJ8_newLength_cabcc_16 : decode cJ8_newLength_cabcc 16 = .ok (.if_icmp .gt 5, 3) := by decide +kernel
theorem dJ8_newLength_cabcc_19 : decode cJ8_newLength_cabcc 19 = .ok (.iload_n 3, 1) := by decide +kernel
theorem dJ8_newLength_cabcc_20 : decode cJ8_newLength_cabcc 20 = .ok (.ireturn, 1) := by decide +kernel
theorem dJ8_newLength_cabcc_21 : decode cJ8_newLength_cabcc 21 = .ok (.iload_n 0, 1) := by decide +kernel
theorem dJ8_newLength_cabcc_22 : decode cJ8_newLength_cabcc 22 = .ok (.iload_n 1, 1) := by decide +kernel
theorem dJ8_newLength_cabcc_23 : decode cJ8_newLength_cabcc 23 = .ok (.invokestatic 201, 3) := by decide +kernel
theorem dJ8_newLength_cabcc_26 : decode cJ8_newLength_cabcc 26 = .ok (.ireturn, 1) := by decide +kernel
theorem dJ8_hugeLength_7cf53_0 : decode cJ8_hugeLength_7cf53 0 = .ok (.iload_n 0, 1) := by decide +kernel
theorem dJ8_hugeLength_7cf53_1 : decode cJ8_hugeLength_7cf53 1 = .ok (.iload_n 1, 1) := by decide +kernel
theorem dJ8_hugeLength_7cf53_2 : decode cJ8_hugeLength_7cf53 2 = .ok (.iadd, 1) := by decide +kernel
theorem dJ8_hugeLength_7cf53_3 : decode cJ8_hugeLength_7cf53 3 = .ok (.istore_n 2, 1) := by decide +kernel
theorem dJ8_hugeLength_7cf53_4 : decode cJ8_hugeLength_7cf53 4 = .ok (.iload_n 2, 1) := by decide +kernel
theorem dJ8_hugeLength_7cf53_5 : decode cJ8_hugeLength_7cf53 5 = .ok (.ifCond .ge 44, 3) := by decide +kernel
theorem dJ8_hugeLength_7cf53_8 : decode cJ8_hugeLength_7cf53 8 = .ok (.new 204, 3) := by decide +kernel
theorem dJ8_hugeLength_7cf53_11 : decode cJ8_hugeLength_7cf53 11 = .ok (.dup, 1) := by decide +kernel
theorem dJ8_hugeLength_7cf53_12 : decode cJ8_hugeLength_7cf53 12 = .ok (.new 89, 3) := by decide +kernel
theorem dJ8_hugeLength_7cf53_15 : decode cJ8_hugeLength_7cf53 15 = .ok (.dup, 1) := by decide +kernel
theorem dJ8_hugeLength_7cf53_16 : decode cJ8_hugeLength_7cf53 16 = .ok (.invokespecial 91, 3) := by decide +kernel
theorem dJ8_hugeLength_7cf53_19 : decode cJ8_hugeLength_7cf53 19 = .ok (.ldc 206, 2) := by decide +kernel
theorem dJ8_hugeLength_7cf53_21 : decode cJ8_hugeLength_7cf53 21 = .ok (.invokevirtual 94, 3) := by decide +kernel
theorem dJ8_hugeLength_7cf53_24 : decode cJ8_hugeLength_7cf53 24 = .ok (.iload_n 0, 1) := by decide +kernel
theorem dJ8_hugeLength_7cf53_25 : decode cJ8_hugeLength_7cf53 25 = .ok (.invokevirtual 98, 3) := by decide +kernel
theorem dJ8_hugeLength_7cf53_28 : decode cJ8_hugeLength_7cf53 28 = .ok (.ldc 208, 2) := by decide +kernel
theorem dJ8_hugeLength_7cf53_30 : decode cJ8_hugeLength_7cf53 30 = .ok (.invokevirtual 94, 3) := by decide +kernel
theorem dJ8_hugeLength_7cf53_33 : decode cJ8_hugeLength_7cf53 33 = .ok (.iload_n 1, 1) := by decide +kernel
theorem dJ8_hugeLength_7cf53_34 : decode cJ8_hugeLength_7cf53 34 = .ok (.invokevirtual 98, 3) := by decide +kernel
theorem dJ8_hugeLength_7cf53_37 : decode cJ8_hugeLength_7cf53 37 = .ok (.ldc 210, 2) := by decide +kernel
theorem dJ8_hugeLength_7cf53_39 : decode cJ8_hugeLength_7cf53 39 = .ok (.invokevirtual 94, 3) := by decide +kernel
theorem dJ8_hugeLength_7cf53_42 : decode cJ8_hugeLength_7cf53 42 = .ok (.invokevirtual 101, 3) := by decide +kernel
theorem dJ8_hugeLength_7cf53_45 : decode cJ8_hugeLength_7cf53 45 = .ok (.invokespecial 212, 3) := by decide +kernel
theorem dJ8_hugeLength_7cf53_48 : decode cJ8_hugeLength_7cf53 48 = .ok (.athrow, 1) := by decide +kernel
theorem dJ8_hugeLength_7cf53_49 : decode cJ8_hugeLength_7cf53 49 = .ok (.iload_n 2, 1) := by decide +kernel
theorem dJ8_hugeLength_7cf53_50 : decode cJ8_hugeLength_7cf53 50 = .ok (.ldc 200, 2) := by decide +kernel
theorem dJ8_hugeLength_7cf53_52 : decode cJ8_hugeLength_7cf53 52 = .ok (.if_icmp .gt 6, 3) := by decide +kernel
theorem dJ8_hugeLength_7cf53_55 : decode cJ8_hugeLength_7cf53 55 = .ok (.ldc 200, 2) := by decide +kernel
theorem dJ8_hugeLength_7cf53_57 : decode cJ8_hugeLength_7cf53 57 = .ok (.ireturn, 1) := by decide +kernel
theorem dJ8_hugeLength_7cf53_58 : decode cJ8_hugeLength_7cf53 58 = .ok (.iload_n 2, 1) := by decide +kernel
theorem dJ8_hugeLength_7cf53_59 : decode cJ8_hugeLength_7cf53 59 = .ok (.ireturn, 1) := by decide +kernel
theorem dJ3_checkIndex_8e157_0 : decode cJ3_checkIndex_8e157 0 = .ok (.iload_n 0, 1) := by decide +kernel
theorem dJ3_checkIndex_8e157_1 : decode cJ3_checkIndex_8e157 1 = .ok (.ifCond .lt 8, 3) := by decide +kernel
theorem dJ3_checkIndex_8e157_4 : decode cJ3_checkIndex_8e157 4 = .ok (.iload_n 0, 1) := by decide +kernel
theorem dJ3_checkIndex_8e157_5 : decode cJ3_checkIndex_8e157 5 = .ok (.iload_n 1, 1) := by decide +kernel
theorem dJ3_checkIndex_8e157_6 : decode cJ3_checkIndex_8e157 6 = .ok (.if_icmp .lt 10, 3) := by decide +kernel
theorem dJ3_checkIndex_8e157_9 : decode cJ3_checkIndex_8e157 9 = .ok (.aload_n 2, 1) := by decide +kernel
theorem dJ3_checkIndex_8e157_10 : decode cJ3_checkIndex_8e157 10 = .ok (.iload_n 0, 1) := by decide +kernel
theorem dJ3_checkIndex_8e157_11 : decode cJ3_checkIndex_8e157 11 = .ok (.iload_n 1, 1) := by decide +kernel
theorem dJ3_checkIndex_8e157_12 : decode cJ3_checkIndex_8e157 12 = .ok (.invokestatic 95, 3) := by decide +kernel
theorem dJ3_checkIndex_8e157_15 : decode cJ3_checkIndex_8e157 15 = .ok (.athrow, 1) := by decide +kernel
theorem dJ3_checkIndex_8e157_16 : decode cJ3_checkIndex_8e157 16 = .ok (.iload_n 0, 1) := by decide +kernel
theorem dJ3_checkIndex_8e157_17 : decode cJ3_checkIndex_8e157 17 = .ok (.ireturn, 1) := by decide +kernel
theorem dL_sign_0 : decode cL_sign 0 = .ok (.aload 8, 2) := by decide +kernel
theorem dL_sign_2 : decode cL_sign 2 = .ok (.iconst 0, 1) := by decide +kernel
theorem dL_sign_3 : decode cL_sign 3 = .ok (.aload_n 0, 1) := by decide +kernel
theorem dL_sign_4 : decode cL_sign 4 = .ok (.iload_n 1, 1) := by decide +kernel
theorem dL_sign_5 : decode cL_sign 5 = .ok (.iload_n 2, 1) := by decide +kernel
theorem dL_sign_6 : decode cL_sign 6 = .ok (.iload_n 3, 1) := by decide +kernel
theorem dL_sign_7 : decode cL_sign 7 = .ok (.iload 4, 2) := by decide +kernel
theorem dL_sign_9 : decode cL_sign 9 = .ok (.iload 5, 2) := by decide +kernel
theorem dL_sign_11 : decode cL_sign 11 = .ok (.iload 6, 2) := by decide +kernel
theorem dL_sign_13 : decode cL_sign 13 = .ok (.iload 7, 2) := by decide +kernel
theorem dL_sign_15 : decode cL_sign 15 = .ok (.invokevirtual 7, 3) := by decide +kernel
theorem dL_sign_18 : decode cL_sign 18 = .ok (.i2l, 1) := by decide +kernel
theorem dL_sign_19 : decode cL_sign 19 = .ok (.lastore, 1) := by decide +kernel
theorem dL_sign_20 : decode cL_sign 20 = .ok (.goto 11, 3) := by decide +kernel
theorem dL_sign_23 : decode cL_sign 23 = .ok (.astore 9, 2) := by decide +kernel
theorem dL_sign_25 : decode cL_sign 25 = .ok (.iconst 1, 1) := by decide +kernel
theorem dL_sign_26 : decode cL_sign 26 = .ok (.ireturn, 1) := by decide +kernel
theorem dL_sign_27 : decode cL_sign 27 = .ok (.astore 9, 2) := by decide +kernel
theorem dL_sign_29 : decode cL_sign 29 = .ok (.iconst 2, 1) := by decide +kernel
theorem dL_sign_30 : decode cL_sign 30 = .ok (.ireturn, 1) := by decide +kernel
theorem dL_sign_31 : decode cL_sign 31 = .ok (.iconst 0, 1) := by decide +kernel
theorem dL_sign_32 : decode cL_sign 32 = .ok (.ireturn, 1) := by decide +kernel
theorem dL_nearest_0 : decode cL_nearest 0 = .ok (.aload_n 3, 1) := by decide +kernel
theorem dL_nearest_1 : decode cL_nearest 1 = .ok (.iconst 0, 1) := by decide +kernel
theorem dL_nearest_2 : decode cL_nearest 2 = .ok (.aload_n 0, 1) := by decide +kernel
theorem dL_nearest_3 : decode cL_nearest 3 = .ok (.iload_n 1, 1) := by decide +kernel
theorem dL_nearest_4 : decode cL_nearest 4 = .ok (.iload_n 2, 1) := by decide +kernel
theorem dL_nearest_5 : decode cL_nearest 5 = .ok (.invokevirtual 17, 3) := by decide +kernel
theorem dL_nearest_8 : decode cL_nearest 8 = .ok (.i2l, 1) := by decide +kernel
theorem dL_nearest_9 : decode cL_nearest 9 = .ok (.lastore, 1) := by decide +kernel
theorem dL_nearest_10 : decode cL_nearest 10 = .ok (.goto 11, 3) := by decide +kernel
theorem dL_nearest_13 : decode cL_nearest 13 = .ok (.astore 4, 2) := by decide +kernel
theorem dL_nearest_15 : decode cL_nearest 15 = .ok (.iconst 1, 1) := by decide +kernel
theorem dL_nearest_16 : decode cL_nearest 16 = .ok (.ireturn, 1) := by decide +kernel
theorem dL_nearest_17 : decode cL_nearest 17 = .ok (.astore 4, 2) := by decide +kernel
theorem dL_nearest_19 : decode cL_nearest 19 = .ok (.iconst 2, 1) := by decide +kernel
theorem dL_nearest_20 : decode cL_nearest 20 = .ok (.ireturn, 1) := by decide +kernel
theorem dL_nearest_21 : decode cL_nearest 21 = .ok (.iconst 0, 1) := by decide +kernel
theorem dL_nearest_22 : decode cL_nearest 22 = .ok (.ireturn, 1) := by decide +kernel
theorem dL_written_0 : decode cL_written 0 = .ok (.aload_n 3, 1) := by decide +kernel
theorem dL_written_1 : decode cL_written 1 = .ok (.iconst 0, 1) := by decide +kernel
theorem dL_written_2 : decode cL_written 2 = .ok (.aload_n 0, 1) := by decide +kernel
theorem dL_written_3 : decode cL_written 3 = .ok (.iload_n 1, 1) := by decide +kernel
theorem dL_written_4 : decode cL_written 4 = .ok (.iload_n 2, 1) := by decide +kernel
theorem dL_written_5 : decode cL_written 5 = .ok (.invokevirtual 23, 3) := by decide +kernel
theorem dL_written_8 : decode cL_written 8 = .ok (.i2l, 1) := by decide +kernel
theorem dL_written_9 : decode cL_written 9 = .ok (.lastore, 1) := by decide +kernel
theorem dL_written_10 : decode cL_written 10 = .ok (.goto 11, 3) := by decide +kernel
theorem dL_written_13 : decode cL_written 13 = .ok (.astore 4, 2) := by decide +kernel
theorem dL_written_15 : decode cL_written 15 = .ok (.iconst 1, 1) := by decide +kernel
theorem dL_written_16 : decode cL_written 16 = .ok (.ireturn, 1) := by decide +kernel
theorem dL_written_17 : decode cL_written 17 = .ok (.astore 4, 2) := by decide +kernel
theorem dL_written_19 : decode cL_written 19 = .ok (.iconst 2, 1) := by decide +kernel
theorem dL_written_20 : decode cL_written 20 = .ok (.ireturn, 1) := by decide +kernel
theorem dL_written_21 : decode cL_written 21 = .ok (.iconst 0, 1) := by decide +kernel
theorem dL_written_22 : decode cL_written 22 = .ok (.ireturn, 1) := by decide +kernel
theorem dL_loses_0 : decode cL_loses 0 = .ok (.aload_n 3, 1) := by decide +kernel
theorem dL_loses_1 : decode cL_loses 1 = .ok (.iconst 0, 1) := by decide +kernel
theorem dL_loses_2 : decode cL_loses 2 = .ok (.aload_n 0, 1) := by decide +kernel
theorem dL_loses_3 : decode cL_loses 3 = .ok (.iload_n 1, 1) := by decide +kernel
theorem dL_loses_4 : decode cL_loses 4 = .ok (.iload_n 2, 1) := by decide +kernel
theorem dL_loses_5 : decode cL_loses 5 = .ok (.invokevirtual 26, 3) := by decide +kernel
theorem dL_loses_8 : decode cL_loses 8 = .ok (.i2l, 1) := by decide +kernel
theorem dL_loses_9 : decode cL_loses 9 = .ok (.lastore, 1) := by decide +kernel
theorem dL_loses_10 : decode cL_loses 10 = .ok (.goto 7, 3) := by decide +kernel
theorem dL_loses_13 : decode cL_loses 13 = .ok (.astore 4, 2) := by decide +kernel
theorem dL_loses_15 : decode cL_loses 15 = .ok (.iconst 1, 1) := by decide +kernel
theorem dL_loses_16 : decode cL_loses 16 = .ok (.ireturn, 1) := by decide +kernel
theorem dL_loses_17 : decode cL_loses 17 = .ok (.iconst 0, 1) := by decide +kernel
theorem dL_loses_18 : decode cL_loses 18 = .ok (.ireturn, 1) := by decide +kernel
theorem dL_item_0 : decode cL_item 0 = .ok (.aload 5, 2) := by decide +kernel
theorem dL_item_2 : decode cL_item 2 = .ok (.iconst 0, 1) := by decide +kernel
theorem dL_item_3 : decode cL_item 3 = .ok (.aload_n 0, 1) := by decide +kernel
theorem dL_item_4 : decode cL_item 4 = .ok (.iload_n 1, 1) := by decide +kernel
theorem dL_item_5 : decode cL_item 5 = .ok (.iload_n 2, 1) := by decide +kernel
theorem dL_item_6 : decode cL_item 6 = .ok (.iload_n 3, 1) := by decide +kernel
theorem dL_item_7 : decode cL_item 7 = .ok (.iload 4, 2) := by decide +kernel
theorem dL_item_9 : decode cL_item 9 = .ok (.invokevirtual 29, 3) := by decide +kernel
theorem dL_item_12 : decode cL_item 12 = .ok (.i2l, 1) := by decide +kernel
theorem dL_item_13 : decode cL_item 13 = .ok (.lastore, 1) := by decide +kernel
theorem dL_item_14 : decode cL_item 14 = .ok (.goto 15, 3) := by decide +kernel
theorem dL_item_17 : decode cL_item 17 = .ok (.astore 6, 2) := by decide +kernel
theorem dL_item_19 : decode cL_item 19 = .ok (.iconst 1, 1) := by decide +kernel
theorem dL_item_20 : decode cL_item 20 = .ok (.ireturn, 1) := by decide +kernel
theorem dL_item_21 : decode cL_item 21 = .ok (.astore 6, 2) := by decide +kernel
theorem dL_item_23 : decode cL_item 23 = .ok (.iconst 2, 1) := by decide +kernel
theorem dL_item_24 : decode cL_item 24 = .ok (.ireturn, 1) := by decide +kernel
theorem dL_item_25 : decode cL_item 25 = .ok (.astore 6, 2) := by decide +kernel
theorem dL_item_27 : decode cL_item 27 = .ok (.iconst 3, 1) := by decide +kernel
theorem dL_item_28 : decode cL_item 28 = .ok (.ireturn, 1) := by decide +kernel
theorem dL_item_29 : decode cL_item 29 = .ok (.iconst 0, 1) := by decide +kernel
theorem dL_item_30 : decode cL_item 30 = .ok (.ireturn, 1) := by decide +kernel
theorem dL_face_0 : decode cL_face 0 = .ok (.aload 4, 2) := by decide +kernel
theorem dL_face_2 : decode cL_face 2 = .ok (.iconst 0, 1) := by decide +kernel
theorem dL_face_3 : decode cL_face 3 = .ok (.aload_n 0, 1) := by decide +kernel
theorem dL_face_4 : decode cL_face 4 = .ok (.iload_n 1, 1) := by decide +kernel
theorem dL_face_5 : decode cL_face 5 = .ok (.iload_n 2, 1) := by decide +kernel
theorem dL_face_6 : decode cL_face 6 = .ok (.iload_n 3, 1) := by decide +kernel
theorem dL_face_7 : decode cL_face 7 = .ok (.invokevirtual 33, 3) := by decide +kernel
theorem dL_face_10 : decode cL_face 10 = .ok (.i2l, 1) := by decide +kernel
theorem dL_face_11 : decode cL_face 11 = .ok (.lastore, 1) := by decide +kernel
theorem dL_face_12 : decode cL_face 12 = .ok (.goto 15, 3) := by decide +kernel
theorem dL_face_15 : decode cL_face 15 = .ok (.astore 5, 2) := by decide +kernel
theorem dL_face_17 : decode cL_face 17 = .ok (.iconst 1, 1) := by decide +kernel
theorem dL_face_18 : decode cL_face 18 = .ok (.ireturn, 1) := by decide +kernel
theorem dL_face_19 : decode cL_face 19 = .ok (.astore 5, 2) := by decide +kernel
theorem dL_face_21 : decode cL_face 21 = .ok (.iconst 2, 1) := by decide +kernel
theorem dL_face_22 : decode cL_face 22 = .ok (.ireturn, 1) := by decide +kernel
theorem dL_face_23 : decode cL_face 23 = .ok (.astore 5, 2) := by decide +kernel
theorem dL_face_25 : decode cL_face 25 = .ok (.iconst 3, 1) := by decide +kernel
theorem dL_face_26 : decode cL_face 26 = .ok (.ireturn, 1) := by decide +kernel
theorem dL_face_27 : decode cL_face 27 = .ok (.iconst 0, 1) := by decide +kernel
theorem dL_face_28 : decode cL_face 28 = .ok (.ireturn, 1) := by decide +kernel
theorem dL_shown_0 : decode cL_shown 0 = .ok (.aload_n 3, 1) := by decide +kernel
theorem dL_shown_1 : decode cL_shown 1 = .ok (.iconst 0, 1) := by decide +kernel
theorem dL_shown_2 : decode cL_shown 2 = .ok (.aload_n 0, 1) := by decide +kernel
theorem dL_shown_3 : decode cL_shown 3 = .ok (.iload_n 1, 1) := by decide +kernel
theorem dL_shown_4 : decode cL_shown 4 = .ok (.iload_n 2, 1) := by decide +kernel
theorem dL_shown_5 : decode cL_shown 5 = .ok (.invokevirtual 37, 3) := by decide +kernel
theorem dL_shown_8 : decode cL_shown 8 = .ok (.i2l, 1) := by decide +kernel
theorem dL_shown_9 : decode cL_shown 9 = .ok (.lastore, 1) := by decide +kernel
theorem dL_shown_10 : decode cL_shown 10 = .ok (.goto 11, 3) := by decide +kernel
theorem dL_shown_13 : decode cL_shown 13 = .ok (.astore 4, 2) := by decide +kernel
theorem dL_shown_15 : decode cL_shown 15 = .ok (.iconst 1, 1) := by decide +kernel
theorem dL_shown_16 : decode cL_shown 16 = .ok (.ireturn, 1) := by decide +kernel
theorem dL_shown_17 : decode cL_shown 17 = .ok (.astore 4, 2) := by decide +kernel
theorem dL_shown_19 : decode cL_shown 19 = .ok (.iconst 2, 1) := by decide +kernel
theorem dL_shown_20 : decode cL_shown 20 = .ok (.ireturn, 1) := by decide +kernel
theorem dL_shown_21 : decode cL_shown 21 = .ok (.iconst 0, 1) := by decide +kernel
theorem dL_shown_22 : decode cL_shown 22 = .ok (.ireturn, 1) := by decide +kernel
theorem dL_standsFor_0 : decode cL_standsFor 0 = .ok (.aload_n 3, 1) := by decide +kernel
theorem dL_standsFor_1 : decode cL_standsFor 1 = .ok (.iconst 0, 1) := by decide +kernel
theorem dL_standsFor_2 : decode cL_standsFor 2 = .ok (.aload_n 0, 1) := by decide +kernel
theorem dL_standsFor_3 : decode cL_standsFor 3 = .ok (.iload_n 1, 1) := by decide +kernel
theorem dL_standsFor_4 : decode cL_standsFor 4 = .ok (.iload_n 2, 1) := by decide +kernel
theorem dL_standsFor_5 : decode cL_standsFor 5 = .ok (.invokevirtual 40, 3) := by decide +kernel
theorem dL_standsFor_8 : decode cL_standsFor 8 = .ok (.i2l, 1) := by decide +kernel
theorem dL_standsFor_9 : decode cL_standsFor 9 = .ok (.lastore, 1) := by decide +kernel
theorem dL_standsFor_10 : decode cL_standsFor 10 = .ok (.goto 7, 3) := by decide +kernel
theorem dL_standsFor_13 : decode cL_standsFor 13 = .ok (.astore 4, 2) := by decide +kernel
theorem dL_standsFor_15 : decode cL_standsFor 15 = .ok (.iconst 1, 1) := by decide +kernel
theorem dL_standsFor_16 : decode cL_standsFor 16 = .ok (.ireturn, 1) := by decide +kernel
theorem dL_standsFor_17 : decode cL_standsFor 17 = .ok (.iconst 0, 1) := by decide +kernel
theorem dL_standsFor_18 : decode cL_standsFor 18 = .ok (.ireturn, 1) := by decide +kernel
theorem dL_rule_0 : decode cL_rule 0 = .ok (.aload_n 2, 1) := by decide +kernel
theorem dL_rule_1 : decode cL_rule 1 = .ok (.iconst 0, 1) := by decide +kernel
theorem dL_rule_2 : decode cL_rule 2 = .ok (.aload_n 0, 1) := by decide +kernel
theorem dL_rule_3 : decode cL_rule 3 = .ok (.iload_n 1, 1) := by decide +kernel
theorem dL_rule_4 : decode cL_rule 4 = .ok (.invokevirtual 43, 3) := by decide +kernel
theorem dL_rule_7 : decode cL_rule 7 = .ok (.i2l, 1) := by decide +kernel
theorem dL_rule_8 : decode cL_rule 8 = .ok (.lastore, 1) := by decide +kernel
theorem dL_rule_9 : decode cL_rule 9 = .ok (.goto 9, 3) := by decide +kernel
theorem dL_rule_12 : decode cL_rule 12 = .ok (.astore_n 3, 1) := by decide +kernel
theorem dL_rule_13 : decode cL_rule 13 = .ok (.iconst 1, 1) := by decide +kernel
theorem dL_rule_14 : decode cL_rule 14 = .ok (.ireturn, 1) := by decide +kernel
theorem dL_rule_15 : decode cL_rule 15 = .ok (.astore_n 3, 1) := by decide +kernel
theorem dL_rule_16 : decode cL_rule 16 = .ok (.iconst 2, 1) := by decide +kernel
theorem dL_rule_17 : decode cL_rule 17 = .ok (.ireturn, 1) := by decide +kernel
theorem dL_rule_18 : decode cL_rule 18 = .ok (.iconst 0, 1) := by decide +kernel
theorem dL_rule_19 : decode cL_rule 19 = .ok (.ireturn, 1) := by decide +kernel
theorem dL_except_0 : decode cL_except 0 = .ok (.aload_n 3, 1) := by decide +kernel
theorem dL_except_1 : decode cL_except 1 = .ok (.iconst 0, 1) := by decide +kernel
theorem dL_except_2 : decode cL_except 2 = .ok (.aload_n 0, 1) := by decide +kernel
theorem dL_except_3 : decode cL_except 3 = .ok (.iload_n 1, 1) := by decide +kernel
theorem dL_except_4 : decode cL_except 4 = .ok (.iload_n 2, 1) := by decide +kernel
theorem dL_except_5 : decode cL_except 5 = .ok (.invokevirtual 47, 3) := by decide +kernel
theorem dL_except_8 : decode cL_except 8 = .ok (.ifCond .eq 7, 3) := by decide +kernel
theorem dL_except_11 : decode cL_except 11 = .ok (.lconst 1, 1) := by decide +kernel
theorem dL_except_12 : decode cL_except 12 = .ok (.goto 4, 3) := by decide +kernel
theorem dL_except_15 : decode cL_except 15 = .ok (.lconst 0, 1) := by decide +kernel
theorem dL_except_16 : decode cL_except 16 = .ok (.lastore, 1) := by decide +kernel
theorem dL_except_17 : decode cL_except 17 = .ok (.goto 7, 3) := by decide +kernel
theorem dL_except_20 : decode cL_except 20 = .ok (.astore 4, 2) := by decide +kernel
theorem dL_except_22 : decode cL_except 22 = .ok (.iconst 1, 1) := by decide +kernel
theorem dL_except_23 : decode cL_except 23 = .ok (.ireturn, 1) := by decide +kernel
theorem dL_except_24 : decode cL_except 24 = .ok (.iconst 0, 1) := by decide +kernel
theorem dL_except_25 : decode cL_except 25 = .ok (.ireturn, 1) := by decide +kernel
theorem dL_signed_0 : decode cL_signed 0 = .ok (.aload_n 3, 1) := by decide +kernel
theorem dL_signed_1 : decode cL_signed 1 = .ok (.iconst 0, 1) := by decide +kernel
theorem dL_signed_2 : decode cL_signed 2 = .ok (.aload_n 0, 1) := by decide +kernel
theorem dL_signed_3 : decode cL_signed 3 = .ok (.iload_n 1, 1) := by decide +kernel
theorem dL_signed_4 : decode cL_signed 4 = .ok (.iload_n 2, 1) := by decide +kernel
theorem dL_signed_5 : decode cL_signed 5 = .ok (.invokevirtual 51, 3) := by decide +kernel
theorem dL_signed_8 : decode cL_signed 8 = .ok (.i2l, 1) := by decide +kernel
theorem dL_signed_9 : decode cL_signed 9 = .ok (.lastore, 1) := by decide +kernel
theorem dL_signed_10 : decode cL_signed 10 = .ok (.goto 11, 3) := by decide +kernel
theorem dL_signed_13 : decode cL_signed 13 = .ok (.astore 4, 2) := by decide +kernel
theorem dL_signed_15 : decode cL_signed 15 = .ok (.iconst 1, 1) := by decide +kernel
theorem dL_signed_16 : decode cL_signed 16 = .ok (.ireturn, 1) := by decide +kernel
theorem dL_signed_17 : decode cL_signed 17 = .ok (.astore 4, 2) := by decide +kernel
theorem dL_signed_19 : decode cL_signed 19 = .ok (.iconst 2, 1) := by decide +kernel
theorem dL_signed_20 : decode cL_signed 20 = .ok (.ireturn, 1) := by decide +kernel
theorem dL_signed_21 : decode cL_signed 21 = .ok (.iconst 0, 1) := by decide +kernel
theorem dL_signed_22 : decode cL_signed 22 = .ok (.ireturn, 1) := by decide +kernel
theorem dL_at_0 : decode cL_at 0 = .ok (.aload_n 3, 1) := by decide +kernel
theorem dL_at_1 : decode cL_at 1 = .ok (.iconst 0, 1) := by decide +kernel
theorem dL_at_2 : decode cL_at 2 = .ok (.aload_n 0, 1) := by decide +kernel
theorem dL_at_3 : decode cL_at 3 = .ok (.iload_n 1, 1) := by decide +kernel
theorem dL_at_4 : decode cL_at 4 = .ok (.iload_n 2, 1) := by decide +kernel
theorem dL_at_5 : decode cL_at 5 = .ok (.invokevirtual 54, 3) := by decide +kernel
theorem dL_at_8 : decode cL_at 8 = .ok (.i2l, 1) := by decide +kernel
theorem dL_at_9 : decode cL_at 9 = .ok (.lastore, 1) := by decide +kernel
theorem dL_at_10 : decode cL_at 10 = .ok (.goto 11, 3) := by decide +kernel
theorem dL_at_13 : decode cL_at 13 = .ok (.astore 4, 2) := by decide +kernel
theorem dL_at_15 : decode cL_at 15 = .ok (.iconst 1, 1) := by decide +kernel
theorem dL_at_16 : decode cL_at 16 = .ok (.ireturn, 1) := by decide +kernel
theorem dL_at_17 : decode cL_at 17 = .ok (.astore 4, 2) := by decide +kernel
theorem dL_at_19 : decode cL_at 19 = .ok (.iconst 2, 1) := by decide +kernel
theorem dL_at_20 : decode cL_at 20 = .ok (.ireturn, 1) := by decide +kernel
theorem dL_at_21 : decode cL_at 21 = .ok (.iconst 0, 1) := by decide +kernel
theorem dL_at_22 : decode cL_at 22 = .ok (.ireturn, 1) := by decide +kernel
theorem dL_readBack_0 : decode cL_readBack 0 = .ok (.aload_n 3, 1) := by decide +kernel
theorem dL_readBack_1 : decode cL_readBack 1 = .ok (.iconst 0, 1) := by decide +kernel
theorem dL_readBack_2 : decode cL_readBack 2 = .ok (.aload_n 0, 1) := by decide +kernel
theorem dL_readBack_3 : decode cL_readBack 3 = .ok (.iload_n 1, 1) := by decide +kernel
theorem dL_readBack_4 : decode cL_readBack 4 = .ok (.iload_n 2, 1) := by decide +kernel
theorem dL_readBack_5 : decode cL_readBack 5 = .ok (.invokevirtual 57, 3) := by decide +kernel
theorem dL_readBack_8 : decode cL_readBack 8 = .ok (.i2l, 1) := by decide +kernel
theorem dL_readBack_9 : decode cL_readBack 9 = .ok (.lastore, 1) := by decide +kernel
theorem dL_readBack_10 : decode cL_readBack 10 = .ok (.goto 11, 3) := by decide +kernel
theorem dL_readBack_13 : decode cL_readBack 13 = .ok (.astore 4, 2) := by decide +kernel
theorem dL_readBack_15 : decode cL_readBack 15 = .ok (.iconst 1, 1) := by decide +kernel
theorem dL_readBack_16 : decode cL_readBack 16 = .ok (.ireturn, 1) := by decide +kernel
theorem dL_readBack_17 : decode cL_readBack 17 = .ok (.astore 4, 2) := by decide +kernel
theorem dL_readBack_19 : decode cL_readBack 19 = .ok (.iconst 2, 1) := by decide +kernel
theorem dL_readBack_20 : decode cL_readBack 20 = .ok (.ireturn, 1) := by decide +kernel
theorem dL_readBack_21 : decode cL_readBack 21 = .ok (.iconst 0, 1) := by decide +kernel
theorem dL_readBack_22 : decode cL_readBack 22 = .ok (.ireturn, 1) := by decide +kernel
theorem dL_take_0 : decode cL_take 0 = .ok (.aload_n 2, 1) := by decide +kernel
theorem dL_take_1 : decode cL_take 1 = .ok (.iconst 0, 1) := by decide +kernel
theorem dL_take_2 : decode cL_take 2 = .ok (.aload_n 0, 1) := by decide +kernel
theorem dL_take_3 : decode cL_take 3 = .ok (.iload_n 1, 1) := by decide +kernel
theorem dL_take_4 : decode cL_take 4 = .ok (.invokevirtual 60, 3) := by decide +kernel
theorem dL_take_7 : decode cL_take 7 = .ok (.i2l, 1) := by decide +kernel
theorem dL_take_8 : decode cL_take 8 = .ok (.lastore, 1) := by decide +kernel
theorem dL_take_9 : decode cL_take 9 = .ok (.goto 9, 3) := by decide +kernel
theorem dL_take_12 : decode cL_take 12 = .ok (.astore_n 3, 1) := by decide +kernel
theorem dL_take_13 : decode cL_take 13 = .ok (.iconst 1, 1) := by decide +kernel
theorem dL_take_14 : decode cL_take 14 = .ok (.ireturn, 1) := by decide +kernel
theorem dL_take_15 : decode cL_take 15 = .ok (.astore_n 3, 1) := by decide +kernel
theorem dL_take_16 : decode cL_take 16 = .ok (.iconst 2, 1) := by decide +kernel
theorem dL_take_17 : decode cL_take 17 = .ok (.ireturn, 1) := by decide +kernel
theorem dL_take_18 : decode cL_take 18 = .ok (.iconst 0, 1) := by decide +kernel
theorem dL_take_19 : decode cL_take 19 = .ok (.ireturn, 1) := by decide +kernel
theorem dL_make_0 : decode cL_make 0 = .ok (.aload 4, 2) := by decide +kernel
theorem dL_make_2 : decode cL_make 2 = .ok (.iconst 0, 1) := by decide +kernel
theorem dL_make_3 : decode cL_make 3 = .ok (.aload_n 0, 1) := by decide +kernel
theorem dL_make_4 : decode cL_make 4 = .ok (.iload_n 1, 1) := by decide +kernel
theorem dL_make_5 : decode cL_make 5 = .ok (.iload_n 2, 1) := by decide +kernel
theorem dL_make_6 : decode cL_make 6 = .ok (.iload_n 3, 1) := by decide +kernel
theorem dL_make_7 : decode cL_make 7 = .ok (.invokevirtual 63, 3) := by decide +kernel
theorem dL_make_10 : decode cL_make 10 = .ok (.i2l, 1) := by decide +kernel
theorem dL_make_11 : decode cL_make 11 = .ok (.lastore, 1) := by decide +kernel
theorem dL_make_12 : decode cL_make 12 = .ok (.goto 15, 3) := by decide +kernel
theorem dL_make_15 : decode cL_make 15 = .ok (.astore 5, 2) := by decide +kernel
theorem dL_make_17 : decode cL_make 17 = .ok (.iconst 1, 1) := by decide +kernel
theorem dL_make_18 : decode cL_make 18 = .ok (.ireturn, 1) := by decide +kernel
theorem dL_make_19 : decode cL_make 19 = .ok (.astore 5, 2) := by decide +kernel
theorem dL_make_21 : decode cL_make 21 = .ok (.iconst 2, 1) := by decide +kernel
theorem dL_make_22 : decode cL_make 22 = .ok (.ireturn, 1) := by decide +kernel
theorem dL_make_23 : decode cL_make 23 = .ok (.astore 5, 2) := by decide +kernel
theorem dL_make_25 : decode cL_make 25 = .ok (.iconst 3, 1) := by decide +kernel
theorem dL_make_26 : decode cL_make 26 = .ok (.ireturn, 1) := by decide +kernel
theorem dL_make_27 : decode cL_make 27 = .ok (.iconst 0, 1) := by decide +kernel
theorem dL_make_28 : decode cL_make 28 = .ok (.ireturn, 1) := by decide +kernel
theorem dL_allow_0 : decode cL_allow 0 = .ok (.aload 4, 2) := by decide +kernel
theorem dL_allow_2 : decode cL_allow 2 = .ok (.iconst 0, 1) := by decide +kernel
theorem dL_allow_3 : decode cL_allow 3 = .ok (.aload_n 0, 1) := by decide +kernel
theorem dL_allow_4 : decode cL_allow 4 = .ok (.iload_n 1, 1) := by decide +kernel
theorem dL_allow_5 : decode cL_allow 5 = .ok (.iload_n 2, 1) := by decide +kernel
theorem dL_allow_6 : decode cL_allow 6 = .ok (.iload_n 3, 1) := by decide +kernel
theorem dL_allow_7 : decode cL_allow 7 = .ok (.invokevirtual 66, 3) := by decide +kernel
theorem dL_allow_10 : decode cL_allow 10 = .ok (.i2l, 1) := by decide +kernel
theorem dL_allow_11 : decode cL_allow 11 = .ok (.lastore, 1) := by decide +kernel
theorem dL_allow_12 : decode cL_allow 12 = .ok (.goto 11, 3) := by decide +kernel
theorem dL_allow_15 : decode cL_allow 15 = .ok (.astore 5, 2) := by decide +kernel
theorem dL_allow_17 : decode cL_allow 17 = .ok (.iconst 1, 1) := by decide +kernel
theorem dL_allow_18 : decode cL_allow 18 = .ok (.ireturn, 1) := by decide +kernel
theorem dL_allow_19 : decode cL_allow 19 = .ok (.astore 5, 2) := by decide +kernel
theorem dL_allow_21 : decode cL_allow 21 = .ok (.iconst 2, 1) := by decide +kernel
theorem dL_allow_22 : decode cL_allow 22 = .ok (.ireturn, 1) := by decide +kernel
theorem dL_allow_23 : decode cL_allow 23 = .ok (.iconst 0, 1) := by decide +kernel
theorem dL_allow_24 : decode cL_allow 24 = .ok (.ireturn, 1) := by decide +kernel
theorem dL_withdraw_0 : decode cL_withdraw 0 = .ok (.aload_n 2, 1) := by decide +kernel
theorem dL_withdraw_1 : decode cL_withdraw 1 = .ok (.iconst 0, 1) := by decide +kernel
theorem dL_withdraw_2 : decode cL_withdraw 2 = .ok (.aload_n 0, 1) := by decide +kernel
theorem dL_withdraw_3 : decode cL_withdraw 3 = .ok (.iload_n 1, 1) := by decide +kernel
theorem dL_withdraw_4 : decode cL_withdraw 4 = .ok (.invokevirtual 70, 3) := by decide +kernel
theorem dL_withdraw_7 : decode cL_withdraw 7 = .ok (.i2l, 1) := by decide +kernel
theorem dL_withdraw_8 : decode cL_withdraw 8 = .ok (.lastore, 1) := by decide +kernel
theorem dL_withdraw_9 : decode cL_withdraw 9 = .ok (.goto 6, 3) := by decide +kernel
theorem dL_withdraw_12 : decode cL_withdraw 12 = .ok (.astore_n 3, 1) := by decide +kernel
theorem dL_withdraw_13 : decode cL_withdraw 13 = .ok (.iconst 1, 1) := by decide +kernel
theorem dL_withdraw_14 : decode cL_withdraw 14 = .ok (.ireturn, 1) := by decide +kernel
theorem dL_withdraw_15 : decode cL_withdraw 15 = .ok (.iconst 0, 1) := by decide +kernel
theorem dL_withdraw_16 : decode cL_withdraw 16 = .ok (.ireturn, 1) := by decide +kernel
theorem dL_persons_0 : decode cL_persons 0 = .ok (.aload_n 2, 1) := by decide +kernel
theorem dL_persons_1 : decode cL_persons 1 = .ok (.iconst 0, 1) := by decide +kernel
theorem dL_persons_2 : decode cL_persons 2 = .ok (.aload_n 0, 1) := by decide +kernel
theorem dL_persons_3 : decode cL_persons 3 = .ok (.iload_n 1, 1) := by decide +kernel
theorem dL_persons_4 : decode cL_persons 4 = .ok (.invokevirtual 73, 3) := by decide +kernel
theorem dL_persons_7 : decode cL_persons 7 = .ok (.i2l, 1) := by decide +kernel
theorem dL_persons_8 : decode cL_persons 8 = .ok (.lastore, 1) := by decide +kernel
theorem dL_persons_9 : decode cL_persons 9 = .ok (.goto 6, 3) := by decide +kernel
theorem dL_persons_12 : decode cL_persons 12 = .ok (.astore_n 3, 1) := by decide +kernel
theorem dL_persons_13 : decode cL_persons 13 = .ok (.iconst 1, 1) := by decide +kernel
theorem dL_persons_14 : decode cL_persons 14 = .ok (.ireturn, 1) := by decide +kernel
theorem dL_persons_15 : decode cL_persons 15 = .ok (.iconst 0, 1) := by decide +kernel
theorem dL_persons_16 : decode cL_persons 16 = .ok (.ireturn, 1) := by decide +kernel
theorem dL_mark_0 : decode cL_mark 0 = .ok (.aload 7, 2) := by decide +kernel
theorem dL_mark_2 : decode cL_mark 2 = .ok (.iconst 0, 1) := by decide +kernel
theorem dL_mark_3 : decode cL_mark 3 = .ok (.aload_n 0, 1) := by decide +kernel
theorem dL_mark_4 : decode cL_mark 4 = .ok (.iload_n 1, 1) := by decide +kernel
theorem dL_mark_5 : decode cL_mark 5 = .ok (.iload_n 2, 1) := by decide +kernel
theorem dL_mark_6 : decode cL_mark 6 = .ok (.iload_n 3, 1) := by decide +kernel
theorem dL_mark_7 : decode cL_mark 7 = .ok (.iload 4, 2) := by decide +kernel
theorem dL_mark_9 : decode cL_mark 9 = .ok (.iload 5, 2) := by decide +kernel
theorem dL_mark_11 : decode cL_mark 11 = .ok (.iload 6, 2) := by decide +kernel
theorem dL_mark_13 : decode cL_mark 13 = .ok (.invokevirtual 76, 3) := by decide +kernel
theorem dL_mark_16 : decode cL_mark 16 = .ok (.i2l, 1) := by decide +kernel
theorem dL_mark_17 : decode cL_mark 17 = .ok (.lastore, 1) := by decide +kernel
theorem dL_mark_18 : decode cL_mark 18 = .ok (.goto 15, 3) := by decide +kernel
theorem dL_mark_21 : decode cL_mark 21 = .ok (.astore 8, 2) := by decide +kernel
theorem dL_mark_23 : decode cL_mark 23 = .ok (.iconst 1, 1) := by decide +kernel
theorem dL_mark_24 : decode cL_mark 24 = .ok (.ireturn, 1) := by decide +kernel
theorem dL_mark_25 : decode cL_mark 25 = .ok (.astore 8, 2) := by decide +kernel
theorem dL_mark_27 : decode cL_mark 27 = .ok (.iconst 2, 1) := by decide +kernel
theorem dL_mark_28 : decode cL_mark 28 = .ok (.ireturn, 1) := by decide +kernel
theorem dL_mark_29 : decode cL_mark 29 = .ok (.astore 8, 2) := by decide +kernel
theorem dL_mark_31 : decode cL_mark 31 = .ok (.iconst 3, 1) := by decide +kernel
theorem dL_mark_32 : decode cL_mark 32 = .ok (.ireturn, 1) := by decide +kernel
theorem dL_mark_33 : decode cL_mark 33 = .ok (.iconst 0, 1) := by decide +kernel
theorem dL_mark_34 : decode cL_mark 34 = .ok (.ireturn, 1) := by decide +kernel
theorem dL_agree_0 : decode cL_agree 0 = .ok (.aload 6, 2) := by decide +kernel
theorem dL_agree_2 : decode cL_agree 2 = .ok (.iconst 0, 1) := by decide +kernel
theorem dL_agree_3 : decode cL_agree 3 = .ok (.aload_n 0, 1) := by decide +kernel
theorem dL_agree_4 : decode cL_agree 4 = .ok (.iload_n 1, 1) := by decide +kernel
theorem dL_agree_5 : decode cL_agree 5 = .ok (.iload_n 2, 1) := by decide +kernel
theorem dL_agree_6 : decode cL_agree 6 = .ok (.iload_n 3, 1) := by decide +kernel
theorem dL_agree_7 : decode cL_agree 7 = .ok (.iload 4, 2) := by decide +kernel
theorem dL_agree_9 : decode cL_agree 9 = .ok (.iload 5, 2) := by decide +kernel
theorem dL_agree_11 : decode cL_agree 11 = .ok (.invokevirtual 80, 3) := by decide +kernel
theorem dL_agree_14 : decode cL_agree 14 = .ok (.i2l, 1) := by decide +kernel
theorem dL_agree_15 : decode cL_agree 15 = .ok (.lastore, 1) := by decide +kernel
theorem dL_agree_16 : decode cL_agree 16 = .ok (.goto 11, 3) := by decide +kernel
theorem dL_agree_19 : decode cL_agree 19 = .ok (.astore 7, 2) := by decide +kernel
theorem dL_agree_21 : decode cL_agree 21 = .ok (.iconst 1, 1) := by decide +kernel
theorem dL_agree_22 : decode cL_agree 22 = .ok (.ireturn, 1) := by decide +kernel
theorem dL_agree_23 : decode cL_agree 23 = .ok (.astore 7, 2) := by decide +kernel
theorem dL_agree_25 : decode cL_agree 25 = .ok (.iconst 2, 1) := by decide +kernel
theorem dL_agree_26 : decode cL_agree 26 = .ok (.ireturn, 1) := by decide +kernel
theorem dL_agree_27 : decode cL_agree 27 = .ok (.iconst 0, 1) := by decide +kernel
theorem dL_agree_28 : decode cL_agree 28 = .ok (.ireturn, 1) := by decide +kernel
theorem dL_law_0 : decode cL_law 0 = .ok (.new 8, 3) := by decide +kernel
theorem dL_law_3 : decode cL_law 3 = .ok (.dup, 1) := by decide +kernel
theorem dL_law_4 : decode cL_law 4 = .ok (.invokespecial 84, 3) := by decide +kernel
theorem dL_law_7 : decode cL_law 7 = .ok (.astore_n 1, 1) := by decide +kernel
theorem dL_law_8 : decode cL_law 8 = .ok (.new 85, 3) := by decide +kernel
theorem dL_law_11 : decode cL_law 11 = .ok (.dup, 1) := by decide +kernel
theorem dL_law_12 : decode cL_law 12 = .ok (.invokespecial 87, 3) := by decide +kernel
theorem dL_law_15 : decode cL_law 15 = .ok (.astore_n 2, 1) := by decide +kernel
theorem dL_law_16 : decode cL_law 16 = .ok (.iconst 1, 1) := by decide +kernel
theorem dL_law_17 : decode cL_law 17 = .ok (.newarray .long, 2) := by decide +kernel
theorem dL_law_19 : decode cL_law 19 = .ok (.astore_n 3, 1) := by decide +kernel
theorem dL_law_20 : decode cL_law 20 = .ok (.iconst 0, 1) := by decide +kernel
theorem dL_law_21 : decode cL_law 21 = .ok (.istore 4, 2) := by decide +kernel
theorem dL_law_23 : decode cL_law 23 = .ok (.iload 4, 2) := by decide +kernel
theorem dL_law_25 : decode cL_law 25 = .ok (.aload_n 0, 1) := by decide +kernel
theorem dL_law_26 : decode cL_law 26 = .ok (.arraylength, 1) := by decide +kernel
theorem dL_law_27 : decode cL_law 27 = .ok (.bipush 8, 2) := by decide +kernel
theorem dL_law_29 : decode cL_law 29 = .ok (.isub, 1) := by decide +kernel
theorem dL_law_30 : decode cL_law 30 = .ok (.if_icmp .gt 1674, 3) := by decide +kernel
theorem dL_law_33 : decode cL_law 33 = .ok (.aload_n 0, 1) := by decide +kernel
theorem dL_law_34 : decode cL_law 34 = .ok (.iload 4, 2) := by decide +kernel
theorem dL_law_36 : decode cL_law 36 = .ok (.iaload, 1) := by decide +kernel
theorem dL_law_37 : decode cL_law 37 = .ok (.bipush 31, 2) := by decide +kernel
theorem dL_law_39 : decode cL_law 39 = .ok (.iand, 1) := by decide +kernel
theorem dL_law_40 : decode cL_law 40 = .ok (.tableswitch 1658 0 20 #[100, 232, 300, 368, 436, 528, 541, 621, 689, 757, 813, 888, 956, 1024, 1092, 1148, 1228, 1324, 1380, 1436, 1554], 100) := by decide +kernel
theorem dL_law_140 : decode cL_law 140 = .ok (.aload_n 1, 1) := by decide +kernel
theorem dL_law_141 : decode cL_law 141 = .ok (.aload_n 0, 1) := by decide +kernel
theorem dL_law_142 : decode cL_law 142 = .ok (.iload 4, 2) := by decide +kernel
theorem dL_law_144 : decode cL_law 144 = .ok (.iconst 1, 1) := by decide +kernel
theorem dL_law_145 : decode cL_law 145 = .ok (.iadd, 1) := by decide +kernel
theorem dL_law_146 : decode cL_law 146 = .ok (.iaload, 1) := by decide +kernel
theorem dL_law_147 : decode cL_law 147 = .ok (.aload_n 0, 1) := by decide +kernel
theorem dL_law_148 : decode cL_law 148 = .ok (.iload 4, 2) := by decide +kernel
theorem dL_law_150 : decode cL_law 150 = .ok (.iconst 2, 1) := by decide +kernel
theorem dL_law_151 : decode cL_law 151 = .ok (.iadd, 1) := by decide +kernel
theorem dL_law_152 : decode cL_law 152 = .ok (.iaload, 1) := by decide +kernel
theorem dL_law_153 : decode cL_law 153 = .ok (.aload_n 0, 1) := by decide +kernel
theorem dL_law_154 : decode cL_law 154 = .ok (.iload 4, 2) := by decide +kernel
theorem dL_law_156 : decode cL_law 156 = .ok (.iconst 3, 1) := by decide +kernel
theorem dL_law_157 : decode cL_law 157 = .ok (.iadd, 1) := by decide +kernel
theorem dL_law_158 : decode cL_law 158 = .ok (.iaload, 1) := by decide +kernel
theorem dL_law_159 : decode cL_law 159 = .ok (.aload_n 0, 1) := by decide +kernel
theorem dL_law_160 : decode cL_law 160 = .ok (.iload 4, 2) := by decide +kernel
theorem dL_law_162 : decode cL_law 162 = .ok (.iconst 4, 1) := by decide +kernel
theorem dL_law_163 : decode cL_law 163 = .ok (.iadd, 1) := by decide +kernel
theorem dL_law_164 : decode cL_law 164 = .ok (.iaload, 1) := by decide +kernel
theorem dL_law_165 : decode cL_law 165 = .ok (.aload_n 0, 1) := by decide +kernel
theorem dL_law_166 : decode cL_law 166 = .ok (.iload 4, 2) := by decide +kernel
theorem dL_law_168 : decode cL_law 168 = .ok (.iconst 5, 1) := by decide +kernel
theorem dL_law_169 : decode cL_law 169 = .ok (.iadd, 1) := by decide +kernel
theorem dL_law_170 : decode cL_law 170 = .ok (.iaload, 1) := by decide +kernel
theorem dL_law_171 : decode cL_law 171 = .ok (.aload_n 0, 1) := by decide +kernel
theorem dL_law_172 : decode cL_law 172 = .ok (.iload 4, 2) := by decide +kernel
theorem dL_law_174 : decode cL_law 174 = .ok (.bipush 6, 2) := by decide +kernel
theorem dL_law_176 : decode cL_law 176 = .ok (.iadd, 1) := by decide +kernel
theorem dL_law_177 : decode cL_law 177 = .ok (.iaload, 1) := by decide +kernel
theorem dL_law_178 : decode cL_law 178 = .ok (.aload_n 0, 1) := by decide +kernel
theorem dL_law_179 : decode cL_law 179 = .ok (.iload 4, 2) := by decide +kernel
theorem dL_law_181 : decode cL_law 181 = .ok (.bipush 7, 2) := by decide +kernel
theorem dL_law_183 : decode cL_law 183 = .ok (.iadd, 1) := by decide +kernel
theorem dL_law_184 : decode cL_law 184 = .ok (.iaload, 1) := by decide +kernel
theorem dL_law_185 : decode cL_law 185 = .ok (.aload_n 3, 1) := by decide +kernel
theorem dL_law_186 : decode cL_law 186 = .ok (.invokestatic 88, 3) := by decide +kernel
theorem dL_law_189 : decode cL_law 189 = .ok (.istore 5, 2) := by decide +kernel
theorem dL_law_191 : decode cL_law 191 = .ok (.aload_n 2, 1) := by decide +kernel
theorem dL_law_192 : decode cL_law 192 = .ok (.aload_n 0, 1) := by decide +kernel
theorem dL_law_193 : decode cL_law 193 = .ok (.iload 4, 2) := by decide +kernel
theorem dL_law_195 : decode cL_law 195 = .ok (.iconst 1, 1) := by decide +kernel
theorem dL_law_196 : decode cL_law 196 = .ok (.iadd, 1) := by decide +kernel
theorem dL_law_197 : decode cL_law 197 = .ok (.iaload, 1) := by decide +kernel
theorem dL_law_198 : decode cL_law 198 = .ok (.aload_n 0, 1) := by decide +kernel
theorem dL_law_199 : decode cL_law 199 = .ok (.iload 4, 2) := by decide +kernel
theorem dL_law_201 : decode cL_law 201 = .ok (.iconst 2, 1) := by decide +kernel
theorem dL_law_202 : decode cL_law 202 = .ok (.iadd, 1) := by decide +kernel
theorem dL_law_203 : decode cL_law 203 = .ok (.iaload, 1) := by decide +kernel
theorem dL_law_204 : decode cL_law 204 = .ok (.aload_n 0, 1) := by decide +kernel
theorem dL_law_205 : decode cL_law 205 = .ok (.iload 4, 2) := by decide +kernel
theorem dL_law_207 : decode cL_law 207 = .ok (.iconst 3, 1) := by decide +kernel
theorem dL_law_208 : decode cL_law 208 = .ok (.iadd, 1) := by decide +kernel
theorem dL_law_209 : decode cL_law 209 = .ok (.iaload, 1) := by decide +kernel
theorem dL_law_210 : decode cL_law 210 = .ok (.aload_n 0, 1) := by decide +kernel
theorem dL_law_211 : decode cL_law 211 = .ok (.iload 4, 2) := by decide +kernel
theorem dL_law_213 : decode cL_law 213 = .ok (.iconst 4, 1) := by decide +kernel
theorem dL_law_214 : decode cL_law 214 = .ok (.iadd, 1) := by decide +kernel
theorem dL_law_215 : decode cL_law 215 = .ok (.iaload, 1) := by decide +kernel
theorem dL_law_216 : decode cL_law 216 = .ok (.aload_n 0, 1) := by decide +kernel
theorem dL_law_217 : decode cL_law 217 = .ok (.iload 4, 2) := by decide +kernel
theorem dL_law_219 : decode cL_law 219 = .ok (.iconst 5, 1) := by decide +kernel
theorem dL_law_220 : decode cL_law 220 = .ok (.iadd, 1) := by decide +kernel
theorem dL_law_221 : decode cL_law 221 = .ok (.iaload, 1) := by decide +kernel
theorem dL_law_222 : decode cL_law 222 = .ok (.aload_n 0, 1) := by decide +kernel
theorem dL_law_223 : decode cL_law 223 = .ok (.iload 4, 2) := by decide +kernel
theorem dL_law_225 : decode cL_law 225 = .ok (.bipush 6, 2) := by decide +kernel
theorem dL_law_227 : decode cL_law 227 = .ok (.iadd, 1) := by decide +kernel
theorem dL_law_228 : decode cL_law 228 = .ok (.iaload, 1) := by decide +kernel
theorem dL_law_229 : decode cL_law 229 = .ok (.aload_n 0, 1) := by decide +kernel
theorem dL_law_230 : decode cL_law 230 = .ok (.iload 4, 2) := by decide +kernel
theorem dL_law_232 : decode cL_law 232 = .ok (.bipush 7, 2) := by decide +kernel
theorem dL_law_234 : decode cL_law 234 = .ok (.iadd, 1) := by decide +kernel
theorem dL_law_235 : decode cL_law 235 = .ok (.iaload, 1) := by decide +kernel
theorem dL_law_236 : decode cL_law 236 = .ok (.invokevirtual 93, 3) := by decide +kernel
theorem dL_law_239 : decode cL_law 239 = .ok (.istore 6, 2) := by decide +kernel
theorem dL_law_241 : decode cL_law 241 = .ok (.aload_n 2, 1) := by decide +kernel
theorem dL_law_242 : decode cL_law 242 = .ok (.invokevirtual 94, 3) := by decide +kernel
theorem dL_law_245 : decode cL_law 245 = .ok (.iload 5, 2) := by decide +kernel
theorem dL_law_247 : decode cL_law 247 = .ok (.if_icmp .eq 5, 3) := by decide +kernel
theorem dL_law_250 : decode cL_law 250 = .ok (.iconst 0, 1) := by decide +kernel
theorem dL_law_251 : decode cL_law 251 = .ok (.ireturn, 1) := by decide +kernel
theorem dL_law_252 : decode cL_law 252 = .ok (.iload 5, 2) := by decide +kernel
theorem dL_law_254 : decode cL_law 254 = .ok (.ifCond .ne 15, 3) := by decide +kernel
theorem dL_law_257 : decode cL_law 257 = .ok (.aload_n 3, 1) := by decide +kernel
theorem dL_law_258 : decode cL_law 258 = .ok (.iconst 0, 1) := by decide +kernel
theorem dL_law_259 : decode cL_law 259 = .ok (.laload, 1) := by decide +kernel
theorem dL_law_260 : decode cL_law 260 = .ok (.iload 6, 2) := by decide +kernel
theorem dL_law_262 : decode cL_law 262 = .ok (.i2l, 1) := by decide +kernel
theorem dL_law_263 : decode cL_law 263 = .ok (.lcmp, 1) := by decide +kernel
theorem dL_law_264 : decode cL_law 264 = .ok (.ifCond .eq 5, 3) := by decide +kernel
theorem dL_law_267 : decode cL_law 267 = .ok (.iconst 0, 1) := by decide +kernel
theorem dL_law_268 : decode cL_law 268 = .ok (.ireturn, 1) := by decide +kernel
theorem dL_law_269 : decode cL_law 269 = .ok (.goto 1429, 3) := by decide +kernel
theorem dL_law_272 : decode cL_law 272 = .ok (.aload_n 1, 1) := by decide +kernel
theorem dL_law_273 : decode cL_law 273 = .ok (.aload_n 0, 1) := by decide +kernel
theorem dL_law_274 : decode cL_law 274 = .ok (.iload 4, 2) := by decide +kernel
theorem dL_law_276 : decode cL_law 276 = .ok (.iconst 1, 1) := by decide +kernel
theorem dL_law_277 : decode cL_law 277 = .ok (.iadd, 1) := by decide +kernel
theorem dL_law_278 : decode cL_law 278 = .ok (.iaload, 1) := by decide +kernel
theorem dL_law_279 : decode cL_law 279 = .ok (.aload_n 0, 1) := by decide +kernel
theorem dL_law_280 : decode cL_law 280 = .ok (.iload 4, 2) := by decide +kernel
theorem dL_law_282 : decode cL_law 282 = .ok (.iconst 2, 1) := by decide +kernel
theorem dL_law_283 : decode cL_law 283 = .ok (.iadd, 1) := by decide +kernel
theorem dL_law_284 : decode cL_law 284 = .ok (.iaload, 1) := by decide +kernel
theorem dL_law_285 : decode cL_law 285 = .ok (.aload_n 3, 1) := by decide +kernel
theorem dL_law_286 : decode cL_law 286 = .ok (.invokestatic 98, 3) := by decide +kernel
theorem dL_law_289 : decode cL_law 289 = .ok (.istore 5, 2) := by decide +kernel
theorem dL_law_291 : decode cL_law 291 = .ok (.aload_n 2, 1) := by decide +kernel
theorem dL_law_292 : decode cL_law 292 = .ok (.aload_n 0, 1) := by decide +kernel
theorem dL_law_293 : decode cL_law 293 = .ok (.iload 4, 2) := by decide +kernel
theorem dL_law_295 : decode cL_law 295 = .ok (.iconst 1, 1) := by decide +kernel
theorem dL_law_296 : decode cL_law 296 = .ok (.iadd, 1) := by decide +kernel
theorem dL_law_297 : decode cL_law 297 = .ok (.iaload, 1) := by decide +kernel
theorem dL_law_298 : decode cL_law 298 = .ok (.aload_n 0, 1) := by decide +kernel
theorem dL_law_299 : decode cL_law 299 = .ok (.iload 4, 2) := by decide +kernel
theorem dL_law_301 : decode cL_law 301 = .ok (.iconst 2, 1) := by decide +kernel
theorem dL_law_302 : decode cL_law 302 = .ok (.iadd, 1) := by decide +kernel
theorem dL_law_303 : decode cL_law 303 = .ok (.iaload, 1) := by decide +kernel
theorem dL_law_304 : decode cL_law 304 = .ok (.invokevirtual 101, 3) := by decide +kernel
theorem dL_law_307 : decode cL_law 307 = .ok (.istore 6, 2) := by decide +kernel
theorem dL_law_309 : decode cL_law 309 = .ok (.aload_n 2, 1) := by decide +kernel
theorem dL_law_310 : decode cL_law 310 = .ok (.invokevirtual 94, 3) := by decide +kernel
theorem dL_law_313 : decode cL_law 313 = .ok (.iload 5, 2) := by decide +kernel
theorem dL_law_315 : decode cL_law 315 = .ok (.if_icmp .eq 5, 3) := by decide +kernel
theorem dL_law_318 : decode cL_law 318 = .ok (.iconst 0, 1) := by decide +kernel
theorem dL_law_319 : decode cL_law 319 = .ok (.ireturn, 1) := by decide +kernel
theorem dL_law_320 : decode cL_law 320 = .ok (.iload 5, 2) := by decide +kernel
theorem dL_law_322 : decode cL_law 322 = .ok (.ifCond .ne 15, 3) := by decide +kernel
theorem dL_law_325 : decode cL_law 325 = .ok (.aload_n 3, 1) := by decide +kernel
theorem dL_law_326 : decode cL_law 326 = .ok (.iconst 0, 1) := by decide +kernel
theorem dL_law_327 : decode cL_law 327 = .ok (.laload, 1) := by decide +kernel
theorem dL_law_328 : decode cL_law 328 = .ok (.iload 6, 2) := by decide +kernel
theorem dL_law_330 : decode cL_law 330 = .ok (.i2l, 1) := by decide +kernel
theorem dL_law_331 : decode cL_law 331 = .ok (.lcmp, 1) := by decide +kernel
theorem dL_law_332 : decode cL_law 332 = .ok (.ifCond .eq 5, 3) := by decide +kernel
theorem dL_law_335 : decode cL_law 335 = .ok (.iconst 0, 1) := by decide +kernel
theorem dL_law_336 : decode cL_law 336 = .ok (.ireturn, 1) := by decide +kernel
theorem dL_law_337 : decode cL_law 337 = .ok (.goto 1361, 3) := by decide +kernel
theorem dL_law_340 : decode cL_law 340 = .ok (.aload_n 1, 1) := by decide +kernel
theorem dL_law_341 : decode cL_law 341 = .ok (.aload_n 0, 1) := by decide +kernel
theorem dL_law_342 : decode cL_law 342 = .ok (.iload 4, 2) := by decide +kernel
theorem dL_law_344 : decode cL_law 344 = .ok (.iconst 1, 1) := by decide +kernel
theorem dL_law_345 : decode cL_law 345 = .ok (.iadd, 1) := by decide +kernel
theorem dL_law_346 : decode cL_law 346 = .ok (.iaload, 1) := by decide +kernel
theorem dL_law_347 : decode cL_law 347 = .ok (.aload_n 0, 1) := by decide +kernel
theorem dL_law_348 : decode cL_law 348 = .ok (.iload 4, 2) := by decide +kernel
theorem dL_law_350 : decode cL_law 350 = .ok (.iconst 2, 1) := by decide +kernel
theorem dL_law_351 : decode cL_law 351 = .ok (.iadd, 1) := by decide +kernel
theorem dL_law_352 : decode cL_law 352 = .ok (.iaload, 1) := by decide +kernel
theorem dL_law_353 : decode cL_law 353 = .ok (.aload_n 3, 1) := by decide +kernel
theorem dL_law_354 : decode cL_law 354 = .ok (.invokestatic 102, 3) := by decide +kernel
theorem dL_law_357 : decode cL_law 357 = .ok (.istore 5, 2) := by decide +kernel
theorem dL_law_359 : decode cL_law 359 = .ok (.aload_n 2, 1) := by decide +kernel
theorem dL_law_360 : decode cL_law 360 = .ok (.aload_n 0, 1) := by decide +kernel
theorem dL_law_361 : decode cL_law 361 = .ok (.iload 4, 2) := by decide +kernel
theorem dL_law_363 : decode cL_law 363 = .ok (.iconst 1, 1) := by decide +kernel
theorem dL_law_364 : decode cL_law 364 = .ok (.iadd, 1) := by decide +kernel
theorem dL_law_365 : decode cL_law 365 = .ok (.iaload, 1) := by decide +kernel
theorem dL_law_366 : decode cL_law 366 = .ok (.aload_n 0, 1) := by decide +kernel
theorem dL_law_367 : decode cL_law 367 = .ok (.iload 4, 2) := by decide +kernel
theorem dL_law_369 : decode cL_law 369 = .ok (.iconst 2, 1) := by decide +kernel
theorem dL_law_370 : decode cL_law 370 = .ok (.iadd, 1) := by decide +kernel
theorem dL_law_371 : decode cL_law 371 = .ok (.iaload, 1) := by decide +kernel
theorem dL_law_372 : decode cL_law 372 = .ok (.invokevirtual 104, 3) := by decide +kernel
theorem dL_law_375 : decode cL_law 375 = .ok (.istore 6, 2) := by decide +kernel
theorem dL_law_377 : decode cL_law 377 = .ok (.aload_n 2, 1) := by decide +kernel
theorem dL_law_378 : decode cL_law 378 = .ok (.invokevirtual 94, 3) := by decide +kernel
theorem dL_law_381 : decode cL_law 381 = .ok (.iload 5, 2) := by decide +kernel
theorem dL_law_383 : decode cL_law 383 = .ok (.if_icmp .eq 5, 3) := by decide +kernel
theorem dL_law_386 : decode cL_law 386 = .ok (.iconst 0, 1) := by decide +kernel
theorem dL_law_387 : decode cL_law 387 = .ok (.ireturn, 1) := by decide +kernel
theorem dL_law_388 : decode cL_law 388 = .ok (.iload 5, 2) := by decide +kernel
theorem dL_law_390 : decode cL_law 390 = .ok (.ifCond .ne 15, 3) := by decide +kernel
theorem dL_law_393 : decode cL_law 393 = .ok (.aload_n 3, 1) := by decide +kernel
theorem dL_law_394 : decode cL_law 394 = .ok (.iconst 0, 1) := by decide +kernel
theorem dL_law_395 : decode cL_law 395 = .ok (.laload, 1) := by decide +kernel
theorem dL_law_396 : decode cL_law 396 = .ok (.iload 6, 2) := by decide +kernel
theorem dL_law_398 : decode cL_law 398 = .ok (.i2l, 1) := by decide +kernel
theorem dL_law_399 : decode cL_law 399 = .ok (.lcmp, 1) := by decide +kernel
theorem dL_law_400 : decode cL_law 400 = .ok (.ifCond .eq 5, 3) := by decide +kernel
theorem dL_law_403 : decode cL_law 403 = .ok (.iconst 0, 1) := by decide +kernel
theorem dL_law_404 : decode cL_law 404 = .ok (.ireturn, 1) := by decide +kernel
theorem dL_law_405 : decode cL_law 405 = .ok (.goto 1293, 3) := by decide +kernel
theorem dL_law_408 : decode cL_law 408 = .ok (.aload_n 1, 1) := by decide +kernel
theorem dL_law_409 : decode cL_law 409 = .ok (.aload_n 0, 1) := by decide +kernel
theorem dL_law_410 : decode cL_law 410 = .ok (.iload 4, 2) := by decide +kernel
theorem dL_law_412 : decode cL_law 412 = .ok (.iconst 1, 1) := by decide +kernel
theorem dL_law_413 : decode cL_law 413 = .ok (.iadd, 1) := by decide +kernel
theorem dL_law_414 : decode cL_law 414 = .ok (.iaload, 1) := by decide +kernel
theorem dL_law_415 : decode cL_law 415 = .ok (.aload_n 0, 1) := by decide +kernel
theorem dL_law_416 : decode cL_law 416 = .ok (.iload 4, 2) := by decide +kernel
theorem dL_law_418 : decode cL_law 418 = .ok (.iconst 2, 1) := by decide +kernel
theorem dL_law_419 : decode cL_law 419 = .ok (.iadd, 1) := by decide +kernel
theorem dL_law_420 : decode cL_law 420 = .ok (.iaload, 1) := by decide +kernel
theorem dL_law_421 : decode cL_law 421 = .ok (.aload_n 3, 1) := by decide +kernel
theorem dL_law_422 : decode cL_law 422 = .ok (.invokestatic 105, 3) := by decide +kernel
theorem dL_law_425 : decode cL_law 425 = .ok (.istore 5, 2) := by decide +kernel
theorem dL_law_427 : decode cL_law 427 = .ok (.aload_n 2, 1) := by decide +kernel
theorem dL_law_428 : decode cL_law 428 = .ok (.aload_n 0, 1) := by decide +kernel
theorem dL_law_429 : decode cL_law 429 = .ok (.iload 4, 2) := by decide +kernel
theorem dL_law_431 : decode cL_law 431 = .ok (.iconst 1, 1) := by decide +kernel
theorem dL_law_432 : decode cL_law 432 = .ok (.iadd, 1) := by decide +kernel
theorem dL_law_433 : decode cL_law 433 = .ok (.iaload, 1) := by decide +kernel
theorem dL_law_434 : decode cL_law 434 = .ok (.aload_n 0, 1) := by decide +kernel
theorem dL_law_435 : decode cL_law 435 = .ok (.iload 4, 2) := by decide +kernel
theorem dL_law_437 : decode cL_law 437 = .ok (.iconst 2, 1) := by decide +kernel
theorem dL_law_438 : decode cL_law 438 = .ok (.iadd, 1) := by decide +kernel
theorem dL_law_439 : decode cL_law 439 = .ok (.iaload, 1) := by decide +kernel
theorem dL_law_440 : decode cL_law 440 = .ok (.invokevirtual 107, 3) := by decide +kernel
theorem dL_law_443 : decode cL_law 443 = .ok (.istore 6, 2) := by decide +kernel
theorem dL_law_445 : decode cL_law 445 = .ok (.aload_n 2, 1) := by decide +kernel
theorem dL_law_446 : decode cL_law 446 = .ok (.invokevirtual 94, 3) := by decide +kernel
theorem dL_law_449 : decode cL_law 449 = .ok (.iload 5, 2) := by decide +kernel
theorem dL_law_451 : decode cL_law 451 = .ok (.if_icmp .eq 5, 3) := by decide +kernel
theorem dL_law_454 : decode cL_law 454 = .ok (.iconst 0, 1) := by decide +kernel
theorem dL_law_455 : decode cL_law 455 = .ok (.ireturn, 1) := by decide +kernel
theorem dL_law_456 : decode cL_law 456 = .ok (.iload 5, 2) := by decide +kernel
theorem dL_law_458 : decode cL_law 458 = .ok (.ifCond .ne 15, 3) := by decide +kernel
theorem dL_law_461 : decode cL_law 461 = .ok (.aload_n 3, 1) := by decide +kernel
theorem dL_law_462 : decode cL_law 462 = .ok (.iconst 0, 1) := by decide +kernel
theorem dL_law_463 : decode cL_law 463 = .ok (.laload, 1) := by decide +kernel
theorem dL_law_464 : decode cL_law 464 = .ok (.iload 6, 2) := by decide +kernel
theorem dL_law_466 : decode cL_law 466 = .ok (.i2l, 1) := by decide +kernel
theorem dL_law_467 : decode cL_law 467 = .ok (.lcmp, 1) := by decide +kernel
theorem dL_law_468 : decode cL_law 468 = .ok (.ifCond .eq 5, 3) := by decide +kernel
theorem dL_law_471 : decode cL_law 471 = .ok (.iconst 0, 1) := by decide +kernel
theorem dL_law_472 : decode cL_law 472 = .ok (.ireturn, 1) := by decide +kernel
theorem dL_law_473 : decode cL_law 473 = .ok (.goto 1225, 3) := by decide +kernel
theorem dL_law_476 : decode cL_law 476 = .ok (.aload_n 1, 1) := by decide +kernel
theorem dL_law_477 : decode cL_law 477 = .ok (.aload_n 0, 1) := by decide +kernel
theorem dL_law_478 : decode cL_law 478 = .ok (.iload 4, 2) := by decide +kernel
theorem dL_law_480 : decode cL_law 480 = .ok (.iconst 1, 1) := by decide +kernel
theorem dL_law_481 : decode cL_law 481 = .ok (.iadd, 1) := by decide +kernel
theorem dL_law_482 : decode cL_law 482 = .ok (.iaload, 1) := by decide +kernel
theorem dL_law_483 : decode cL_law 483 = .ok (.aload_n 0, 1) := by decide +kernel
theorem dL_law_484 : decode cL_law 484 = .ok (.iload 4, 2) := by decide +kernel
theorem dL_law_486 : decode cL_law 486 = .ok (.iconst 2, 1) := by decide +kernel
theorem dL_law_487 : decode cL_law 487 = .ok (.iadd, 1) := by decide +kernel
theorem dL_law_488 : decode cL_law 488 = .ok (.iaload, 1) := by decide +kernel
theorem dL_law_489 : decode cL_law 489 = .ok (.aload_n 0, 1) := by decide +kernel
theorem dL_law_490 : decode cL_law 490 = .ok (.iload 4, 2) := by decide +kernel
theorem dL_law_492 : decode cL_law 492 = .ok (.iconst 3, 1) := by decide +kernel
theorem dL_law_493 : decode cL_law 493 = .ok (.iadd, 1) := by decide +kernel
theorem dL_law_494 : decode cL_law 494 = .ok (.iaload, 1) := by decide +kernel
theorem dL_law_495 : decode cL_law 495 = .ok (.aload_n 0, 1) := by decide +kernel
theorem dL_law_496 : decode cL_law 496 = .ok (.iload 4, 2) := by decide +kernel
theorem dL_law_498 : decode cL_law 498 = .ok (.iconst 4, 1) := by decide +kernel
theorem dL_law_499 : decode cL_law 499 = .ok (.iadd, 1) := by decide +kernel
theorem dL_law_500 : decode cL_law 500 = .ok (.iaload, 1) := by decide +kernel
theorem dL_law_501 : decode cL_law 501 = .ok (.aload_n 3, 1) := by decide +kernel
theorem dL_law_502 : decode cL_law 502 = .ok (.invokestatic 108, 3) := by decide +kernel
theorem dL_law_505 : decode cL_law 505 = .ok (.istore 5, 2) := by decide +kernel
theorem dL_law_507 : decode cL_law 507 = .ok (.aload_n 2, 1) := by decide +kernel
theorem dL_law_508 : decode cL_law 508 = .ok (.aload_n 0, 1) := by decide +kernel
theorem dL_law_509 : decode cL_law 509 = .ok (.iload 4, 2) := by decide +kernel
theorem dL_law_511 : decode cL_law 511 = .ok (.iconst 1, 1) := by decide +kernel
theorem dL_law_512 : decode cL_law 512 = .ok (.iadd, 1) := by decide +kernel
theorem dL_law_513 : decode cL_law 513 = .ok (.iaload, 1) := by decide +kernel
theorem dL_law_514 : decode cL_law 514 = .ok (.aload_n 0, 1) := by decide +kernel
theorem dL_law_515 : decode cL_law 515 = .ok (.iload 4, 2) := by decide +kernel
theorem dL_law_517 : decode cL_law 517 = .ok (.iconst 2, 1) := by decide +kernel
theorem dL_law_518 : decode cL_law 518 = .ok (.iadd, 1) := by decide +kernel
theorem dL_law_519 : decode cL_law 519 = .ok (.iaload, 1) := by decide +kernel
theorem dL_law_520 : decode cL_law 520 = .ok (.aload_n 0, 1) := by decide +kernel
theorem dL_law_521 : decode cL_law 521 = .ok (.iload 4, 2) := by decide +kernel
theorem dL_law_523 : decode cL_law 523 = .ok (.iconst 3, 1) := by decide +kernel
theorem dL_law_524 : decode cL_law 524 = .ok (.iadd, 1) := by decide +kernel
theorem dL_law_525 : decode cL_law 525 = .ok (.iaload, 1) := by decide +kernel
theorem dL_law_526 : decode cL_law 526 = .ok (.aload_n 0, 1) := by decide +kernel
theorem dL_law_527 : decode cL_law 527 = .ok (.iload 4, 2) := by decide +kernel
theorem dL_law_529 : decode cL_law 529 = .ok (.iconst 4, 1) := by decide +kernel
theorem dL_law_530 : decode cL_law 530 = .ok (.iadd, 1) := by decide +kernel
theorem dL_law_531 : decode cL_law 531 = .ok (.iaload, 1) := by decide +kernel
theorem dL_law_532 : decode cL_law 532 = .ok (.invokevirtual 111, 3) := by decide +kernel
theorem dL_law_535 : decode cL_law 535 = .ok (.istore 6, 2) := by decide +kernel
theorem dL_law_537 : decode cL_law 537 = .ok (.aload_n 2, 1) := by decide +kernel
theorem dL_law_538 : decode cL_law 538 = .ok (.invokevirtual 94, 3) := by decide +kernel
theorem dL_law_541 : decode cL_law 541 = .ok (.iload 5, 2) := by decide +kernel
theorem dL_law_543 : decode cL_law 543 = .ok (.if_icmp .eq 5, 3) := by decide +kernel
theorem dL_law_546 : decode cL_law 546 = .ok (.iconst 0, 1) := by decide +kernel
theorem dL_law_547 : decode cL_law 547 = .ok (.ireturn, 1) := by decide +kernel
theorem dL_law_548 : decode cL_law 548 = .ok (.iload 5, 2) := by decide +kernel
theorem dL_law_550 : decode cL_law 550 = .ok (.ifCond .ne 15, 3) := by decide +kernel
theorem dL_law_553 : decode cL_law 553 = .ok (.aload_n 3, 1) := by decide +kernel
theorem dL_law_554 : decode cL_law 554 = .ok (.iconst 0, 1) := by decide +kernel
theorem dL_law_555 : decode cL_law 555 = .ok (.laload, 1) := by decide +kernel
theorem dL_law_556 : decode cL_law 556 = .ok (.iload 6, 2) := by decide +kernel
theorem dL_law_558 : decode cL_law 558 = .ok (.i2l, 1) := by decide +kernel
theorem dL_law_559 : decode cL_law 559 = .ok (.lcmp, 1) := by decide +kernel
theorem dL_law_560 : decode cL_law 560 = .ok (.ifCond .eq 5, 3) := by decide +kernel
theorem dL_law_563 : decode cL_law 563 = .ok (.iconst 0, 1) := by decide +kernel
theorem dL_law_564 : decode cL_law 564 = .ok (.ireturn, 1) := by decide +kernel
theorem dL_law_565 : decode cL_law 565 = .ok (.goto 1133, 3) := by decide +kernel
theorem dL_law_568 : decode cL_law 568 = .ok (.aload_n 1, 1) := by decide +kernel
theorem dL_law_569 : decode cL_law 569 = .ok (.invokevirtual 112, 3) := by decide +kernel
theorem dL_law_572 : decode cL_law 572 = .ok (.aload_n 2, 1) := by decide +kernel
theorem dL_law_573 : decode cL_law 573 = .ok (.invokevirtual 115, 3) := by decide +kernel
theorem dL_law_576 : decode cL_law 576 = .ok (.if_icmp .eq 1122, 3) := by decide +kernel
theorem dL_law_579 : decode cL_law 579 = .ok (.iconst 0, 1) := by decide +kernel
theorem dL_law_580 : decode cL_law 580 = .ok (.ireturn, 1) := by decide +kernel
theorem dL_law_581 : decode cL_law 581 = .ok (.aload_n 1, 1) := by decide +kernel
theorem dL_law_582 : decode cL_law 582 = .ok (.aload_n 0, 1) := by decide +kernel
theorem dL_law_583 : decode cL_law 583 = .ok (.iload 4, 2) := by decide +kernel
theorem dL_law_585 : decode cL_law 585 = .ok (.iconst 1, 1) := by decide +kernel
theorem dL_law_586 : decode cL_law 586 = .ok (.iadd, 1) := by decide +kernel
theorem dL_law_587 : decode cL_law 587 = .ok (.iaload, 1) := by decide +kernel
theorem dL_law_588 : decode cL_law 588 = .ok (.aload_n 0, 1) := by decide +kernel
theorem dL_law_589 : decode cL_law 589 = .ok (.iload 4, 2) := by decide +kernel
theorem dL_law_591 : decode cL_law 591 = .ok (.iconst 2, 1) := by decide +kernel
theorem dL_law_592 : decode cL_law 592 = .ok (.iadd, 1) := by decide +kernel
theorem dL_law_593 : decode cL_law 593 = .ok (.iaload, 1) := by decide +kernel
theorem dL_law_594 : decode cL_law 594 = .ok (.aload_n 0, 1) := by decide +kernel
theorem dL_law_595 : decode cL_law 595 = .ok (.iload 4, 2) := by decide +kernel
theorem dL_law_597 : decode cL_law 597 = .ok (.iconst 3, 1) := by decide +kernel
theorem dL_law_598 : decode cL_law 598 = .ok (.iadd, 1) := by decide +kernel
theorem dL_law_599 : decode cL_law 599 = .ok (.iaload, 1) := by decide +kernel
theorem dL_law_600 : decode cL_law 600 = .ok (.aload_n 3, 1) := by decide +kernel
theorem dL_law_601 : decode cL_law 601 = .ok (.invokestatic 116, 3) := by decide +kernel
theorem dL_law_604 : decode cL_law 604 = .ok (.istore 5, 2) := by decide +kernel
theorem dL_law_606 : decode cL_law 606 = .ok (.aload_n 2, 1) := by decide +kernel
theorem dL_law_607 : decode cL_law 607 = .ok (.aload_n 0, 1) := by decide +kernel
theorem dL_law_608 : decode cL_law 608 = .ok (.iload 4, 2) := by decide +kernel
theorem dL_law_610 : decode cL_law 610 = .ok (.iconst 1, 1) := by decide +kernel
theorem dL_law_611 : decode cL_law 611 = .ok (.iadd, 1) := by decide +kernel
theorem dL_law_612 : decode cL_law 612 = .ok (.iaload, 1) := by decide +kernel
theorem dL_law_613 : decode cL_law 613 = .ok (.aload_n 0, 1) := by decide +kernel
theorem dL_law_614 : decode cL_law 614 = .ok (.iload 4, 2) := by decide +kernel
theorem dL_law_616 : decode cL_law 616 = .ok (.iconst 2, 1) := by decide +kernel
theorem dL_law_617 : decode cL_law 617 = .ok (.iadd, 1) := by decide +kernel
theorem dL_law_618 : decode cL_law 618 = .ok (.iaload, 1) := by decide +kernel
theorem dL_law_619 : decode cL_law 619 = .ok (.aload_n 0, 1) := by decide +kernel
theorem dL_law_620 : decode cL_law 620 = .ok (.iload 4, 2) := by decide +kernel
theorem dL_law_622 : decode cL_law 622 = .ok (.iconst 3, 1) := by decide +kernel
theorem dL_law_623 : decode cL_law 623 = .ok (.iadd, 1) := by decide +kernel
theorem dL_law_624 : decode cL_law 624 = .ok (.iaload, 1) := by decide +kernel
theorem dL_law_625 : decode cL_law 625 = .ok (.invokevirtual 119, 3) := by decide +kernel
theorem dL_law_628 : decode cL_law 628 = .ok (.istore 6, 2) := by decide +kernel
theorem dL_law_630 : decode cL_law 630 = .ok (.aload_n 2, 1) := by decide +kernel
theorem dL_law_631 : decode cL_law 631 = .ok (.invokevirtual 94, 3) := by decide +kernel
theorem dL_law_634 : decode cL_law 634 = .ok (.iload 5, 2) := by decide +kernel
theorem dL_law_636 : decode cL_law 636 = .ok (.if_icmp .eq 5, 3) := by decide +kernel
theorem dL_law_639 : decode cL_law 639 = .ok (.iconst 0, 1) := by decide +kernel
theorem dL_law_640 : decode cL_law 640 = .ok (.ireturn, 1) := by decide +kernel
theorem dL_law_641 : decode cL_law 641 = .ok (.iload 5, 2) := by decide +kernel
theorem dL_law_643 : decode cL_law 643 = .ok (.ifCond .ne 15, 3) := by decide +kernel
theorem dL_law_646 : decode cL_law 646 = .ok (.aload_n 3, 1) := by decide +kernel
theorem dL_law_647 : decode cL_law 647 = .ok (.iconst 0, 1) := by decide +kernel
theorem dL_law_648 : decode cL_law 648 = .ok (.laload, 1) := by decide +kernel
theorem dL_law_649 : decode cL_law 649 = .ok (.iload 6, 2) := by decide +kernel
theorem dL_law_651 : decode cL_law 651 = .ok (.i2l, 1) := by decide +kernel
theorem dL_law_652 : decode cL_law 652 = .ok (.lcmp, 1) := by decide +kernel
theorem dL_law_653 : decode cL_law 653 = .ok (.ifCond .eq 5, 3) := by decide +kernel
theorem dL_law_656 : decode cL_law 656 = .ok (.iconst 0, 1) := by decide +kernel
theorem dL_law_657 : decode cL_law 657 = .ok (.ireturn, 1) := by decide +kernel
theorem dL_law_658 : decode cL_law 658 = .ok (.goto 1040, 3) := by decide +kernel
theorem dL_law_661 : decode cL_law 661 = .ok (.aload_n 1, 1) := by decide +kernel
theorem dL_law_662 : decode cL_law 662 = .ok (.aload_n 0, 1) := by decide +kernel
theorem dL_law_663 : decode cL_law 663 = .ok (.iload 4, 2) := by decide +kernel
theorem dL_law_665 : decode cL_law 665 = .ok (.iconst 1, 1) := by decide +kernel
theorem dL_law_666 : decode cL_law 666 = .ok (.iadd, 1) := by decide +kernel
theorem dL_law_667 : decode cL_law 667 = .ok (.iaload, 1) := by decide +kernel
theorem dL_law_668 : decode cL_law 668 = .ok (.aload_n 0, 1) := by decide +kernel
theorem dL_law_669 : decode cL_law 669 = .ok (.iload 4, 2) := by decide +kernel
theorem dL_law_671 : decode cL_law 671 = .ok (.iconst 2, 1) := by decide +kernel
theorem dL_law_672 : decode cL_law 672 = .ok (.iadd, 1) := by decide +kernel
theorem dL_law_673 : decode cL_law 673 = .ok (.iaload, 1) := by decide +kernel
theorem dL_law_674 : decode cL_law 674 = .ok (.aload_n 3, 1) := by decide +kernel
theorem dL_law_675 : decode cL_law 675 = .ok (.invokestatic 120, 3) := by decide +kernel
theorem dL_law_678 : decode cL_law 678 = .ok (.istore 5, 2) := by decide +kernel
theorem dL_law_680 : decode cL_law 680 = .ok (.aload_n 2, 1) := by decide +kernel
theorem dL_law_681 : decode cL_law 681 = .ok (.aload_n 0, 1) := by decide +kernel
theorem dL_law_682 : decode cL_law 682 = .ok (.iload 4, 2) := by decide +kernel
theorem dL_law_684 : decode cL_law 684 = .ok (.iconst 1, 1) := by decide +kernel
theorem dL_law_685 : decode cL_law 685 = .ok (.iadd, 1) := by decide +kernel
theorem dL_law_686 : decode cL_law 686 = .ok (.iaload, 1) := by decide +kernel
theorem dL_law_687 : decode cL_law 687 = .ok (.aload_n 0, 1) := by decide +kernel
theorem dL_law_688 : decode cL_law 688 = .ok (.iload 4, 2) := by decide +kernel
theorem dL_law_690 : decode cL_law 690 = .ok (.iconst 2, 1) := by decide +kernel
theorem dL_law_691 : decode cL_law 691 = .ok (.iadd, 1) := by decide +kernel
theorem dL_law_692 : decode cL_law 692 = .ok (.iaload, 1) := by decide +kernel
theorem dL_law_693 : decode cL_law 693 = .ok (.invokevirtual 122, 3) := by decide +kernel
theorem dL_law_696 : decode cL_law 696 = .ok (.istore 6, 2) := by decide +kernel
theorem dL_law_698 : decode cL_law 698 = .ok (.aload_n 2, 1) := by decide +kernel
theorem dL_law_699 : decode cL_law 699 = .ok (.invokevirtual 94, 3) := by decide +kernel
theorem dL_law_702 : decode cL_law 702 = .ok (.iload 5, 2) := by decide +kernel
theorem dL_law_704 : decode cL_law 704 = .ok (.if_icmp .eq 5, 3) := by decide +kernel
theorem dL_law_707 : decode cL_law 707 = .ok (.iconst 0, 1) := by decide +kernel
theorem dL_law_708 : decode cL_law 708 = .ok (.ireturn, 1) := by decide +kernel
theorem dL_law_709 : decode cL_law 709 = .ok (.iload 5, 2) := by decide +kernel
theorem dL_law_711 : decode cL_law 711 = .ok (.ifCond .ne 15, 3) := by decide +kernel
theorem dL_law_714 : decode cL_law 714 = .ok (.aload_n 3, 1) := by decide +kernel
theorem dL_law_715 : decode cL_law 715 = .ok (.iconst 0, 1) := by decide +kernel
theorem dL_law_716 : decode cL_law 716 = .ok (.laload, 1) := by decide +kernel
theorem dL_law_717 : decode cL_law 717 = .ok (.iload 6, 2) := by decide +kernel
theorem dL_law_719 : decode cL_law 719 = .ok (.i2l, 1) := by decide +kernel
theorem dL_law_720 : decode cL_law 720 = .ok (.lcmp, 1) := by decide +kernel
theorem dL_law_721 : decode cL_law 721 = .ok (.ifCond .eq 5, 3) := by decide +kernel
theorem dL_law_724 : decode cL_law 724 = .ok (.iconst 0, 1) := by decide +kernel
theorem dL_law_725 : decode cL_law 725 = .ok (.ireturn, 1) := by decide +kernel
theorem dL_law_726 : decode cL_law 726 = .ok (.goto 972, 3) := by decide +kernel
theorem dL_law_729 : decode cL_law 729 = .ok (.aload_n 1, 1) := by decide +kernel
theorem dL_law_730 : decode cL_law 730 = .ok (.aload_n 0, 1) := by decide +kernel
theorem dL_law_731 : decode cL_law 731 = .ok (.iload 4, 2) := by decide +kernel
theorem dL_law_733 : decode cL_law 733 = .ok (.iconst 1, 1) := by decide +kernel
theorem dL_law_734 : decode cL_law 734 = .ok (.iadd, 1) := by decide +kernel
theorem dL_law_735 : decode cL_law 735 = .ok (.iaload, 1) := by decide +kernel
theorem dL_law_736 : decode cL_law 736 = .ok (.aload_n 0, 1) := by decide +kernel
theorem dL_law_737 : decode cL_law 737 = .ok (.iload 4, 2) := by decide +kernel
theorem dL_law_739 : decode cL_law 739 = .ok (.iconst 2, 1) := by decide +kernel
theorem dL_law_740 : decode cL_law 740 = .ok (.iadd, 1) := by decide +kernel
theorem dL_law_741 : decode cL_law 741 = .ok (.iaload, 1) := by decide +kernel
theorem dL_law_742 : decode cL_law 742 = .ok (.aload_n 3, 1) := by decide +kernel
theorem dL_law_743 : decode cL_law 743 = .ok (.invokestatic 123, 3) := by decide +kernel
theorem dL_law_746 : decode cL_law 746 = .ok (.istore 5, 2) := by decide +kernel
theorem dL_law_748 : decode cL_law 748 = .ok (.aload_n 2, 1) := by decide +kernel
theorem dL_law_749 : decode cL_law 749 = .ok (.aload_n 0, 1) := by decide +kernel
theorem dL_law_750 : decode cL_law 750 = .ok (.iload 4, 2) := by decide +kernel
theorem dL_law_752 : decode cL_law 752 = .ok (.iconst 1, 1) := by decide +kernel
theorem dL_law_753 : decode cL_law 753 = .ok (.iadd, 1) := by decide +kernel
theorem dL_law_754 : decode cL_law 754 = .ok (.iaload, 1) := by decide +kernel
theorem dL_law_755 : decode cL_law 755 = .ok (.aload_n 0, 1) := by decide +kernel
theorem dL_law_756 : decode cL_law 756 = .ok (.iload 4, 2) := by decide +kernel
theorem dL_law_758 : decode cL_law 758 = .ok (.iconst 2, 1) := by decide +kernel
theorem dL_law_759 : decode cL_law 759 = .ok (.iadd, 1) := by decide +kernel
theorem dL_law_760 : decode cL_law 760 = .ok (.iaload, 1) := by decide +kernel
theorem dL_law_761 : decode cL_law 761 = .ok (.invokevirtual 125, 3) := by decide +kernel
theorem dL_law_764 : decode cL_law 764 = .ok (.istore 6, 2) := by decide +kernel
theorem dL_law_766 : decode cL_law 766 = .ok (.aload_n 2, 1) := by decide +kernel
theorem dL_law_767 : decode cL_law 767 = .ok (.invokevirtual 94, 3) := by decide +kernel
theorem dL_law_770 : decode cL_law 770 = .ok (.iload 5, 2) := by decide +kernel
theorem dL_law_772 : decode cL_law 772 = .ok (.if_icmp .eq 5, 3) := by decide +kernel
theorem dL_law_775 : decode cL_law 775 = .ok (.iconst 0, 1) := by decide +kernel
theorem dL_law_776 : decode cL_law 776 = .ok (.ireturn, 1) := by decide +kernel
theorem dL_law_777 : decode cL_law 777 = .ok (.iload 5, 2) := by decide +kernel
theorem dL_law_779 : decode cL_law 779 = .ok (.ifCond .ne 15, 3) := by decide +kernel
theorem dL_law_782 : decode cL_law 782 = .ok (.aload_n 3, 1) := by decide +kernel
theorem dL_law_783 : decode cL_law 783 = .ok (.iconst 0, 1) := by decide +kernel
theorem dL_law_784 : decode cL_law 784 = .ok (.laload, 1) := by decide +kernel
theorem dL_law_785 : decode cL_law 785 = .ok (.iload 6, 2) := by decide +kernel
theorem dL_law_787 : decode cL_law 787 = .ok (.i2l, 1) := by decide +kernel
theorem dL_law_788 : decode cL_law 788 = .ok (.lcmp, 1) := by decide +kernel
theorem dL_law_789 : decode cL_law 789 = .ok (.ifCond .eq 5, 3) := by decide +kernel
theorem dL_law_792 : decode cL_law 792 = .ok (.iconst 0, 1) := by decide +kernel
theorem dL_law_793 : decode cL_law 793 = .ok (.ireturn, 1) := by decide +kernel
theorem dL_law_794 : decode cL_law 794 = .ok (.goto 904, 3) := by decide +kernel
theorem dL_law_797 : decode cL_law 797 = .ok (.aload_n 1, 1) := by decide +kernel
theorem dL_law_798 : decode cL_law 798 = .ok (.aload_n 0, 1) := by decide +kernel
theorem dL_law_799 : decode cL_law 799 = .ok (.iload 4, 2) := by decide +kernel
theorem dL_law_801 : decode cL_law 801 = .ok (.iconst 1, 1) := by decide +kernel
theorem dL_law_802 : decode cL_law 802 = .ok (.iadd, 1) := by decide +kernel
theorem dL_law_803 : decode cL_law 803 = .ok (.iaload, 1) := by decide +kernel
theorem dL_law_804 : decode cL_law 804 = .ok (.aload_n 3, 1) := by decide +kernel
theorem dL_law_805 : decode cL_law 805 = .ok (.invokestatic 126, 3) := by decide +kernel
theorem dL_law_808 : decode cL_law 808 = .ok (.istore 5, 2) := by decide +kernel
theorem dL_law_810 : decode cL_law 810 = .ok (.aload_n 2, 1) := by decide +kernel
theorem dL_law_811 : decode cL_law 811 = .ok (.aload_n 0, 1) := by decide +kernel
theorem dL_law_812 : decode cL_law 812 = .ok (.iload 4, 2) := by decide +kernel
theorem dL_law_814 : decode cL_law 814 = .ok (.iconst 1, 1) := by decide +kernel
theorem dL_law_815 : decode cL_law 815 = .ok (.iadd, 1) := by decide +kernel
theorem dL_law_816 : decode cL_law 816 = .ok (.iaload, 1) := by decide +kernel
theorem dL_law_817 : decode cL_law 817 = .ok (.invokevirtual 129, 3) := by decide +kernel
theorem dL_law_820 : decode cL_law 820 = .ok (.istore 6, 2) := by decide +kernel
theorem dL_law_822 : decode cL_law 822 = .ok (.aload_n 2, 1) := by decide +kernel
theorem dL_law_823 : decode cL_law 823 = .ok (.invokevirtual 94, 3) := by decide +kernel
theorem dL_law_826 : decode cL_law 826 = .ok (.iload 5, 2) := by decide +kernel
theorem dL_law_828 : decode cL_law 828 = .ok (.if_icmp .eq 5, 3) := by decide +kernel
theorem dL_law_831 : decode cL_law 831 = .ok (.iconst 0, 1) := by decide +kernel
theorem dL_law_832 : decode cL_law 832 = .ok (.ireturn, 1) := by decide +kernel
theorem dL_law_833 : decode cL_law 833 = .ok (.iload 5, 2) := by decide +kernel
theorem dL_law_835 : decode cL_law 835 = .ok (.ifCond .ne 15, 3) := by decide +kernel
theorem dL_law_838 : decode cL_law 838 = .ok (.aload_n 3, 1) := by decide +kernel
theorem dL_law_839 : decode cL_law 839 = .ok (.iconst 0, 1) := by decide +kernel
theorem dL_law_840 : decode cL_law 840 = .ok (.laload, 1) := by decide +kernel
theorem dL_law_841 : decode cL_law 841 = .ok (.iload 6, 2) := by decide +kernel
theorem dL_law_843 : decode cL_law 843 = .ok (.i2l, 1) := by decide +kernel
theorem dL_law_844 : decode cL_law 844 = .ok (.lcmp, 1) := by decide +kernel
theorem dL_law_845 : decode cL_law 845 = .ok (.ifCond .eq 5, 3) := by decide +kernel
theorem dL_law_848 : decode cL_law 848 = .ok (.iconst 0, 1) := by decide +kernel
theorem dL_law_849 : decode cL_law 849 = .ok (.ireturn, 1) := by decide +kernel
theorem dL_law_850 : decode cL_law 850 = .ok (.goto 848, 3) := by decide +kernel
theorem dL_law_853 : decode cL_law 853 = .ok (.aload_n 1, 1) := by decide +kernel
theorem dL_law_854 : decode cL_law 854 = .ok (.aload_n 0, 1) := by decide +kernel
theorem dL_law_855 : decode cL_law 855 = .ok (.iload 4, 2) := by decide +kernel
theorem dL_law_857 : decode cL_law 857 = .ok (.iconst 1, 1) := by decide +kernel
theorem dL_law_858 : decode cL_law 858 = .ok (.iadd, 1) := by decide +kernel
theorem dL_law_859 : decode cL_law 859 = .ok (.iaload, 1) := by decide +kernel
theorem dL_law_860 : decode cL_law 860 = .ok (.aload_n 0, 1) := by decide +kernel
theorem dL_law_861 : decode cL_law 861 = .ok (.iload 4, 2) := by decide +kernel
theorem dL_law_863 : decode cL_law 863 = .ok (.iconst 2, 1) := by decide +kernel
theorem dL_law_864 : decode cL_law 864 = .ok (.iadd, 1) := by decide +kernel
theorem dL_law_865 : decode cL_law 865 = .ok (.iaload, 1) := by decide +kernel
theorem dL_law_866 : decode cL_law 866 = .ok (.aload_n 3, 1) := by decide +kernel
theorem dL_law_867 : decode cL_law 867 = .ok (.invokestatic 130, 3) := by decide +kernel
theorem dL_law_870 : decode cL_law 870 = .ok (.istore 5, 2) := by decide +kernel
theorem dL_law_872 : decode cL_law 872 = .ok (.aload_n 2, 1) := by decide +kernel
theorem dL_law_873 : decode cL_law 873 = .ok (.aload_n 0, 1) := by decide +kernel
theorem dL_law_874 : decode cL_law 874 = .ok (.iload 4, 2) := by decide +kernel
theorem dL_law_876 : decode cL_law 876 = .ok (.iconst 1, 1) := by decide +kernel
theorem dL_law_877 : decode cL_law 877 = .ok (.iadd, 1) := by decide +kernel
theorem dL_law_878 : decode cL_law 878 = .ok (.iaload, 1) := by decide +kernel
theorem dL_law_879 : decode cL_law 879 = .ok (.aload_n 0, 1) := by decide +kernel
theorem dL_law_880 : decode cL_law 880 = .ok (.iload 4, 2) := by decide +kernel
theorem dL_law_882 : decode cL_law 882 = .ok (.iconst 2, 1) := by decide +kernel
theorem dL_law_883 : decode cL_law 883 = .ok (.iadd, 1) := by decide +kernel
theorem dL_law_884 : decode cL_law 884 = .ok (.iaload, 1) := by decide +kernel
theorem dL_law_885 : decode cL_law 885 = .ok (.invokevirtual 132, 3) := by decide +kernel
theorem dL_law_888 : decode cL_law 888 = .ok (.istore 6, 2) := by decide +kernel
theorem dL_law_890 : decode cL_law 890 = .ok (.aload_n 2, 1) := by decide +kernel
theorem dL_law_891 : decode cL_law 891 = .ok (.invokevirtual 94, 3) := by decide +kernel
theorem dL_law_894 : decode cL_law 894 = .ok (.iload 5, 2) := by decide +kernel
theorem dL_law_896 : decode cL_law 896 = .ok (.if_icmp .eq 5, 3) := by decide +kernel
theorem dL_law_899 : decode cL_law 899 = .ok (.iconst 0, 1) := by decide +kernel
theorem dL_law_900 : decode cL_law 900 = .ok (.ireturn, 1) := by decide +kernel
theorem dL_law_901 : decode cL_law 901 = .ok (.iload 5, 2) := by decide +kernel
theorem dL_law_903 : decode cL_law 903 = .ok (.ifCond .ne 22, 3) := by decide +kernel
theorem dL_law_906 : decode cL_law 906 = .ok (.aload_n 3, 1) := by decide +kernel
theorem dL_law_907 : decode cL_law 907 = .ok (.iconst 0, 1) := by decide +kernel
theorem dL_law_908 : decode cL_law 908 = .ok (.laload, 1) := by decide +kernel
theorem dL_law_909 : decode cL_law 909 = .ok (.iload 6, 2) := by decide +kernel
theorem dL_law_911 : decode cL_law 911 = .ok (.ifCond .eq 7, 3) := by decide +kernel
theorem dL_law_914 : decode cL_law 914 = .ok (.lconst 1, 1) := by decide +kernel
theorem dL_law_915 : decode cL_law 915 = .ok (.goto 4, 3) := by decide +kernel
theorem dL_law_918 : decode cL_law 918 = .ok (.lconst 0, 1) := by decide +kernel
theorem dL_law_919 : decode cL_law 919 = .ok (.lcmp, 1) := by decide +kernel
theorem dL_law_920 : decode cL_law 920 = .ok (.ifCond .eq 5, 3) := by decide +kernel
theorem dL_law_923 : decode cL_law 923 = .ok (.iconst 0, 1) := by decide +kernel
theorem dL_law_924 : decode cL_law 924 = .ok (.ireturn, 1) := by decide +kernel
theorem dL_law_925 : decode cL_law 925 = .ok (.goto 773, 3) := by decide +kernel
theorem dL_law_928 : decode cL_law 928 = .ok (.aload_n 1, 1) := by decide +kernel
theorem dL_law_929 : decode cL_law 929 = .ok (.aload_n 0, 1) := by decide +kernel
theorem dL_law_930 : decode cL_law 930 = .ok (.iload 4, 2) := by decide +kernel
theorem dL_law_932 : decode cL_law 932 = .ok (.iconst 1, 1) := by decide +kernel
theorem dL_law_933 : decode cL_law 933 = .ok (.iadd, 1) := by decide +kernel
theorem dL_law_934 : decode cL_law 934 = .ok (.iaload, 1) := by decide +kernel
theorem dL_law_935 : decode cL_law 935 = .ok (.aload_n 0, 1) := by decide +kernel
theorem dL_law_936 : decode cL_law 936 = .ok (.iload 4, 2) := by decide +kernel
theorem dL_law_938 : decode cL_law 938 = .ok (.iconst 2, 1) := by decide +kernel
theorem dL_law_939 : decode cL_law 939 = .ok (.iadd, 1) := by decide +kernel
theorem dL_law_940 : decode cL_law 940 = .ok (.iaload, 1) := by decide +kernel
theorem dL_law_941 : decode cL_law 941 = .ok (.aload_n 3, 1) := by decide +kernel
theorem dL_law_942 : decode cL_law 942 = .ok (.invokestatic 133, 3) := by decide +kernel
theorem dL_law_945 : decode cL_law 945 = .ok (.istore 5, 2) := by decide +kernel
theorem dL_law_947 : decode cL_law 947 = .ok (.aload_n 2, 1) := by decide +kernel
theorem dL_law_948 : decode cL_law 948 = .ok (.aload_n 0, 1) := by decide +kernel
theorem dL_law_949 : decode cL_law 949 = .ok (.iload 4, 2) := by decide +kernel
theorem dL_law_951 : decode cL_law 951 = .ok (.iconst 1, 1) := by decide +kernel
theorem dL_law_952 : decode cL_law 952 = .ok (.iadd, 1) := by decide +kernel
theorem dL_law_953 : decode cL_law 953 = .ok (.iaload, 1) := by decide +kernel
theorem dL_law_954 : decode cL_law 954 = .ok (.aload_n 0, 1) := by decide +kernel
theorem dL_law_955 : decode cL_law 955 = .ok (.iload 4, 2) := by decide +kernel
theorem dL_law_957 : decode cL_law 957 = .ok (.iconst 2, 1) := by decide +kernel
theorem dL_law_958 : decode cL_law 958 = .ok (.iadd, 1) := by decide +kernel
theorem dL_law_959 : decode cL_law 959 = .ok (.iaload, 1) := by decide +kernel
theorem dL_law_960 : decode cL_law 960 = .ok (.invokevirtual 135, 3) := by decide +kernel
theorem dL_law_963 : decode cL_law 963 = .ok (.istore 6, 2) := by decide +kernel
theorem dL_law_965 : decode cL_law 965 = .ok (.aload_n 2, 1) := by decide +kernel
theorem dL_law_966 : decode cL_law 966 = .ok (.invokevirtual 94, 3) := by decide +kernel
theorem dL_law_969 : decode cL_law 969 = .ok (.iload 5, 2) := by decide +kernel
theorem dL_law_971 : decode cL_law 971 = .ok (.if_icmp .eq 5, 3) := by decide +kernel
theorem dL_law_974 : decode cL_law 974 = .ok (.iconst 0, 1) := by decide +kernel
theorem dL_law_975 : decode cL_law 975 = .ok (.ireturn, 1) := by decide +kernel
theorem dL_law_976 : decode cL_law 976 = .ok (.iload 5, 2) := by decide +kernel
theorem dL_law_978 : decode cL_law 978 = .ok (.ifCond .ne 15, 3) := by decide +kernel
theorem dL_law_981 : decode cL_law 981 = .ok (.aload_n 3, 1) := by decide +kernel
theorem dL_law_982 : decode cL_law 982 = .ok (.iconst 0, 1) := by decide +kernel
theorem dL_law_983 : decode cL_law 983 = .ok (.laload, 1) := by decide +kernel
theorem dL_law_984 : decode cL_law 984 = .ok (.iload 6, 2) := by decide +kernel
theorem dL_law_986 : decode cL_law 986 = .ok (.i2l, 1) := by decide +kernel
theorem dL_law_987 : decode cL_law 987 = .ok (.lcmp, 1) := by decide +kernel
theorem dL_law_988 : decode cL_law 988 = .ok (.ifCond .eq 5, 3) := by decide +kernel
theorem dL_law_991 : decode cL_law 991 = .ok (.iconst 0, 1) := by decide +kernel
theorem dL_law_992 : decode cL_law 992 = .ok (.ireturn, 1) := by decide +kernel
theorem dL_law_993 : decode cL_law 993 = .ok (.goto 705, 3) := by decide +kernel
theorem dL_law_996 : decode cL_law 996 = .ok (.aload_n 1, 1) := by decide +kernel
theorem dL_law_997 : decode cL_law 997 = .ok (.aload_n 0, 1) := by decide +kernel
theorem dL_law_998 : decode cL_law 998 = .ok (.iload 4, 2) := by decide +kernel
theorem dL_law_1000 : decode cL_law 1000 = .ok (.iconst 1, 1) := by decide +kernel
theorem dL_law_1001 : decode cL_law 1001 = .ok (.iadd, 1) := by decide +kernel
theorem dL_law_1002 : decode cL_law 1002 = .ok (.iaload, 1) := by decide +kernel
theorem dL_law_1003 : decode cL_law 1003 = .ok (.aload_n 0, 1) := by decide +kernel
theorem dL_law_1004 : decode cL_law 1004 = .ok (.iload 4, 2) := by decide +kernel
theorem dL_law_1006 : decode cL_law 1006 = .ok (.iconst 2, 1) := by decide +kernel
theorem dL_law_1007 : decode cL_law 1007 = .ok (.iadd, 1) := by decide +kernel
theorem dL_law_1008 : decode cL_law 1008 = .ok (.iaload, 1) := by decide +kernel
theorem dL_law_1009 : decode cL_law 1009 = .ok (.aload_n 3, 1) := by decide +kernel
theorem dL_law_1010 : decode cL_law 1010 = .ok (.invokestatic 136, 3) := by decide +kernel
theorem dL_law_1013 : decode cL_law 1013 = .ok (.istore 5, 2) := by decide +kernel
theorem dL_law_1015 : decode cL_law 1015 = .ok (.aload_n 2, 1) := by decide +kernel
theorem dL_law_1016 : decode cL_law 1016 = .ok (.aload_n 0, 1) := by decide +kernel
theorem dL_law_1017 : decode cL_law 1017 = .ok (.iload 4, 2) := by decide +kernel
theorem dL_law_1019 : decode cL_law 1019 = .ok (.iconst 1, 1) := by decide +kernel
theorem dL_law_1020 : decode cL_law 1020 = .ok (.iadd, 1) := by decide +kernel
theorem dL_law_1021 : decode cL_law 1021 = .ok (.iaload, 1) := by decide +kernel
theorem dL_law_1022 : decode cL_law 1022 = .ok (.aload_n 0, 1) := by decide +kernel
theorem dL_law_1023 : decode cL_law 1023 = .ok (.iload 4, 2) := by decide +kernel
theorem dL_law_1025 : decode cL_law 1025 = .ok (.iconst 2, 1) := by decide +kernel
theorem dL_law_1026 : decode cL_law 1026 = .ok (.iadd, 1) := by decide +kernel
theorem dL_law_1027 : decode cL_law 1027 = .ok (.iaload, 1) := by decide +kernel
theorem dL_law_1028 : decode cL_law 1028 = .ok (.invokevirtual 138, 3) := by decide +kernel
theorem dL_law_1031 : decode cL_law 1031 = .ok (.istore 6, 2) := by decide +kernel
theorem dL_law_1033 : decode cL_law 1033 = .ok (.aload_n 2, 1) := by decide +kernel
theorem dL_law_1034 : decode cL_law 1034 = .ok (.invokevirtual 94, 3) := by decide +kernel
theorem dL_law_1037 : decode cL_law 1037 = .ok (.iload 5, 2) := by decide +kernel
theorem dL_law_1039 : decode cL_law 1039 = .ok (.if_icmp .eq 5, 3) := by decide +kernel
theorem dL_law_1042 : decode cL_law 1042 = .ok (.iconst 0, 1) := by decide +kernel
theorem dL_law_1043 : decode cL_law 1043 = .ok (.ireturn, 1) := by decide +kernel
theorem dL_law_1044 : decode cL_law 1044 = .ok (.iload 5, 2) := by decide +kernel
theorem dL_law_1046 : decode cL_law 1046 = .ok (.ifCond .ne 15, 3) := by decide +kernel
theorem dL_law_1049 : decode cL_law 1049 = .ok (.aload_n 3, 1) := by decide +kernel
theorem dL_law_1050 : decode cL_law 1050 = .ok (.iconst 0, 1) := by decide +kernel
theorem dL_law_1051 : decode cL_law 1051 = .ok (.laload, 1) := by decide +kernel
theorem dL_law_1052 : decode cL_law 1052 = .ok (.iload 6, 2) := by decide +kernel
theorem dL_law_1054 : decode cL_law 1054 = .ok (.i2l, 1) := by decide +kernel
theorem dL_law_1055 : decode cL_law 1055 = .ok (.lcmp, 1) := by decide +kernel
theorem dL_law_1056 : decode cL_law 1056 = .ok (.ifCond .eq 5, 3) := by decide +kernel
theorem dL_law_1059 : decode cL_law 1059 = .ok (.iconst 0, 1) := by decide +kernel
theorem dL_law_1060 : decode cL_law 1060 = .ok (.ireturn, 1) := by decide +kernel
theorem dL_law_1061 : decode cL_law 1061 = .ok (.goto 637, 3) := by decide +kernel
theorem dL_law_1064 : decode cL_law 1064 = .ok (.aload_n 1, 1) := by decide +kernel
theorem dL_law_1065 : decode cL_law 1065 = .ok (.aload_n 0, 1) := by decide +kernel
theorem dL_law_1066 : decode cL_law 1066 = .ok (.iload 4, 2) := by decide +kernel
theorem dL_law_1068 : decode cL_law 1068 = .ok (.iconst 1, 1) := by decide +kernel
theorem dL_law_1069 : decode cL_law 1069 = .ok (.iadd, 1) := by decide +kernel
theorem dL_law_1070 : decode cL_law 1070 = .ok (.iaload, 1) := by decide +kernel
theorem dL_law_1071 : decode cL_law 1071 = .ok (.aload_n 0, 1) := by decide +kernel
theorem dL_law_1072 : decode cL_law 1072 = .ok (.iload 4, 2) := by decide +kernel
theorem dL_law_1074 : decode cL_law 1074 = .ok (.iconst 2, 1) := by decide +kernel
theorem dL_law_1075 : decode cL_law 1075 = .ok (.iadd, 1) := by decide +kernel
theorem dL_law_1076 : decode cL_law 1076 = .ok (.iaload, 1) := by decide +kernel
theorem dL_law_1077 : decode cL_law 1077 = .ok (.aload_n 3, 1) := by decide +kernel
theorem dL_law_1078 : decode cL_law 1078 = .ok (.invokestatic 139, 3) := by decide +kernel
theorem dL_law_1081 : decode cL_law 1081 = .ok (.istore 5, 2) := by decide +kernel
theorem dL_law_1083 : decode cL_law 1083 = .ok (.aload_n 2, 1) := by decide +kernel
theorem dL_law_1084 : decode cL_law 1084 = .ok (.aload_n 0, 1) := by decide +kernel
theorem dL_law_1085 : decode cL_law 1085 = .ok (.iload 4, 2) := by decide +kernel
theorem dL_law_1087 : decode cL_law 1087 = .ok (.iconst 1, 1) := by decide +kernel
theorem dL_law_1088 : decode cL_law 1088 = .ok (.iadd, 1) := by decide +kernel
theorem dL_law_1089 : decode cL_law 1089 = .ok (.iaload, 1) := by decide +kernel
theorem dL_law_1090 : decode cL_law 1090 = .ok (.aload_n 0, 1) := by decide +kernel
theorem dL_law_1091 : decode cL_law 1091 = .ok (.iload 4, 2) := by decide +kernel
theorem dL_law_1093 : decode cL_law 1093 = .ok (.iconst 2, 1) := by decide +kernel
theorem dL_law_1094 : decode cL_law 1094 = .ok (.iadd, 1) := by decide +kernel
theorem dL_law_1095 : decode cL_law 1095 = .ok (.iaload, 1) := by decide +kernel
theorem dL_law_1096 : decode cL_law 1096 = .ok (.invokevirtual 141, 3) := by decide +kernel
theorem dL_law_1099 : decode cL_law 1099 = .ok (.istore 6, 2) := by decide +kernel
theorem dL_law_1101 : decode cL_law 1101 = .ok (.aload_n 2, 1) := by decide +kernel
theorem dL_law_1102 : decode cL_law 1102 = .ok (.invokevirtual 94, 3) := by decide +kernel
theorem dL_law_1105 : decode cL_law 1105 = .ok (.iload 5, 2) := by decide +kernel
theorem dL_law_1107 : decode cL_law 1107 = .ok (.if_icmp .eq 5, 3) := by decide +kernel
theorem dL_law_1110 : decode cL_law 1110 = .ok (.iconst 0, 1) := by decide +kernel
theorem dL_law_1111 : decode cL_law 1111 = .ok (.ireturn, 1) := by decide +kernel
theorem dL_law_1112 : decode cL_law 1112 = .ok (.iload 5, 2) := by decide +kernel
theorem dL_law_1114 : decode cL_law 1114 = .ok (.ifCond .ne 15, 3) := by decide +kernel
theorem dL_law_1117 : decode cL_law 1117 = .ok (.aload_n 3, 1) := by decide +kernel
theorem dL_law_1118 : decode cL_law 1118 = .ok (.iconst 0, 1) := by decide +kernel
theorem dL_law_1119 : decode cL_law 1119 = .ok (.laload, 1) := by decide +kernel
theorem dL_law_1120 : decode cL_law 1120 = .ok (.iload 6, 2) := by decide +kernel
theorem dL_law_1122 : decode cL_law 1122 = .ok (.i2l, 1) := by decide +kernel
theorem dL_law_1123 : decode cL_law 1123 = .ok (.lcmp, 1) := by decide +kernel
theorem dL_law_1124 : decode cL_law 1124 = .ok (.ifCond .eq 5, 3) := by decide +kernel
theorem dL_law_1127 : decode cL_law 1127 = .ok (.iconst 0, 1) := by decide +kernel
theorem dL_law_1128 : decode cL_law 1128 = .ok (.ireturn, 1) := by decide +kernel
theorem dL_law_1129 : decode cL_law 1129 = .ok (.goto 569, 3) := by decide +kernel
theorem dL_law_1132 : decode cL_law 1132 = .ok (.aload_n 1, 1) := by decide +kernel
theorem dL_law_1133 : decode cL_law 1133 = .ok (.aload_n 0, 1) := by decide +kernel
theorem dL_law_1134 : decode cL_law 1134 = .ok (.iload 4, 2) := by decide +kernel
theorem dL_law_1136 : decode cL_law 1136 = .ok (.iconst 1, 1) := by decide +kernel
theorem dL_law_1137 : decode cL_law 1137 = .ok (.iadd, 1) := by decide +kernel
theorem dL_law_1138 : decode cL_law 1138 = .ok (.iaload, 1) := by decide +kernel
theorem dL_law_1139 : decode cL_law 1139 = .ok (.aload_n 3, 1) := by decide +kernel
theorem dL_law_1140 : decode cL_law 1140 = .ok (.invokestatic 142, 3) := by decide +kernel
theorem dL_law_1143 : decode cL_law 1143 = .ok (.istore 5, 2) := by decide +kernel
theorem dL_law_1145 : decode cL_law 1145 = .ok (.aload_n 2, 1) := by decide +kernel
theorem dL_law_1146 : decode cL_law 1146 = .ok (.aload_n 0, 1) := by decide +kernel
theorem dL_law_1147 : decode cL_law 1147 = .ok (.iload 4, 2) := by decide +kernel
theorem dL_law_1149 : decode cL_law 1149 = .ok (.iconst 1, 1) := by decide +kernel
theorem dL_law_1150 : decode cL_law 1150 = .ok (.iadd, 1) := by decide +kernel
theorem dL_law_1151 : decode cL_law 1151 = .ok (.iaload, 1) := by decide +kernel
theorem dL_law_1152 : decode cL_law 1152 = .ok (.invokevirtual 144, 3) := by decide +kernel
theorem dL_law_1155 : decode cL_law 1155 = .ok (.istore 6, 2) := by decide +kernel
theorem dL_law_1157 : decode cL_law 1157 = .ok (.aload_n 2, 1) := by decide +kernel
theorem dL_law_1158 : decode cL_law 1158 = .ok (.invokevirtual 94, 3) := by decide +kernel
theorem dL_law_1161 : decode cL_law 1161 = .ok (.iload 5, 2) := by decide +kernel
theorem dL_law_1163 : decode cL_law 1163 = .ok (.if_icmp .eq 5, 3) := by decide +kernel
theorem dL_law_1166 : decode cL_law 1166 = .ok (.iconst 0, 1) := by decide +kernel
theorem dL_law_1167 : decode cL_law 1167 = .ok (.ireturn, 1) := by decide +kernel
theorem dL_law_1168 : decode cL_law 1168 = .ok (.iload 5, 2) := by decide +kernel
theorem dL_law_1170 : decode cL_law 1170 = .ok (.ifCond .ne 15, 3) := by decide +kernel
theorem dL_law_1173 : decode cL_law 1173 = .ok (.aload_n 3, 1) := by decide +kernel
theorem dL_law_1174 : decode cL_law 1174 = .ok (.iconst 0, 1) := by decide +kernel
theorem dL_law_1175 : decode cL_law 1175 = .ok (.laload, 1) := by decide +kernel
theorem dL_law_1176 : decode cL_law 1176 = .ok (.iload 6, 2) := by decide +kernel
theorem dL_law_1178 : decode cL_law 1178 = .ok (.i2l, 1) := by decide +kernel
theorem dL_law_1179 : decode cL_law 1179 = .ok (.lcmp, 1) := by decide +kernel
theorem dL_law_1180 : decode cL_law 1180 = .ok (.ifCond .eq 5, 3) := by decide +kernel
theorem dL_law_1183 : decode cL_law 1183 = .ok (.iconst 0, 1) := by decide +kernel
theorem dL_law_1184 : decode cL_law 1184 = .ok (.ireturn, 1) := by decide +kernel
theorem dL_law_1185 : decode cL_law 1185 = .ok (.goto 513, 3) := by decide +kernel
theorem dL_law_1188 : decode cL_law 1188 = .ok (.aload_n 1, 1) := by decide +kernel
theorem dL_law_1189 : decode cL_law 1189 = .ok (.aload_n 0, 1) := by decide +kernel
theorem dL_law_1190 : decode cL_law 1190 = .ok (.iload 4, 2) := by decide +kernel
theorem dL_law_1192 : decode cL_law 1192 = .ok (.iconst 1, 1) := by decide +kernel
theorem dL_law_1193 : decode cL_law 1193 = .ok (.iadd, 1) := by decide +kernel
theorem dL_law_1194 : decode cL_law 1194 = .ok (.iaload, 1) := by decide +kernel
theorem dL_law_1195 : decode cL_law 1195 = .ok (.aload_n 0, 1) := by decide +kernel
theorem dL_law_1196 : decode cL_law 1196 = .ok (.iload 4, 2) := by decide +kernel
theorem dL_law_1198 : decode cL_law 1198 = .ok (.iconst 2, 1) := by decide +kernel
theorem dL_law_1199 : decode cL_law 1199 = .ok (.iadd, 1) := by decide +kernel
theorem dL_law_1200 : decode cL_law 1200 = .ok (.iaload, 1) := by decide +kernel
theorem dL_law_1201 : decode cL_law 1201 = .ok (.aload_n 0, 1) := by decide +kernel
theorem dL_law_1202 : decode cL_law 1202 = .ok (.iload 4, 2) := by decide +kernel
theorem dL_law_1204 : decode cL_law 1204 = .ok (.iconst 3, 1) := by decide +kernel
theorem dL_law_1205 : decode cL_law 1205 = .ok (.iadd, 1) := by decide +kernel
theorem dL_law_1206 : decode cL_law 1206 = .ok (.iaload, 1) := by decide +kernel
theorem dL_law_1207 : decode cL_law 1207 = .ok (.aload_n 3, 1) := by decide +kernel
theorem dL_law_1208 : decode cL_law 1208 = .ok (.invokestatic 145, 3) := by decide +kernel
theorem dL_law_1211 : decode cL_law 1211 = .ok (.istore 5, 2) := by decide +kernel
theorem dL_law_1213 : decode cL_law 1213 = .ok (.aload_n 2, 1) := by decide +kernel
theorem dL_law_1214 : decode cL_law 1214 = .ok (.aload_n 0, 1) := by decide +kernel
theorem dL_law_1215 : decode cL_law 1215 = .ok (.iload 4, 2) := by decide +kernel
theorem dL_law_1217 : decode cL_law 1217 = .ok (.iconst 1, 1) := by decide +kernel
theorem dL_law_1218 : decode cL_law 1218 = .ok (.iadd, 1) := by decide +kernel
theorem dL_law_1219 : decode cL_law 1219 = .ok (.iaload, 1) := by decide +kernel
theorem dL_law_1220 : decode cL_law 1220 = .ok (.aload_n 0, 1) := by decide +kernel
theorem dL_law_1221 : decode cL_law 1221 = .ok (.iload 4, 2) := by decide +kernel
theorem dL_law_1223 : decode cL_law 1223 = .ok (.iconst 2, 1) := by decide +kernel
theorem dL_law_1224 : decode cL_law 1224 = .ok (.iadd, 1) := by decide +kernel
theorem dL_law_1225 : decode cL_law 1225 = .ok (.iaload, 1) := by decide +kernel
theorem dL_law_1226 : decode cL_law 1226 = .ok (.aload_n 0, 1) := by decide +kernel
theorem dL_law_1227 : decode cL_law 1227 = .ok (.iload 4, 2) := by decide +kernel
theorem dL_law_1229 : decode cL_law 1229 = .ok (.iconst 3, 1) := by decide +kernel
theorem dL_law_1230 : decode cL_law 1230 = .ok (.iadd, 1) := by decide +kernel
theorem dL_law_1231 : decode cL_law 1231 = .ok (.iaload, 1) := by decide +kernel
theorem dL_law_1232 : decode cL_law 1232 = .ok (.invokevirtual 147, 3) := by decide +kernel
theorem dL_law_1235 : decode cL_law 1235 = .ok (.istore 6, 2) := by decide +kernel
theorem dL_law_1237 : decode cL_law 1237 = .ok (.aload_n 2, 1) := by decide +kernel
theorem dL_law_1238 : decode cL_law 1238 = .ok (.invokevirtual 94, 3) := by decide +kernel
theorem dL_law_1241 : decode cL_law 1241 = .ok (.iload 5, 2) := by decide +kernel
theorem dL_law_1243 : decode cL_law 1243 = .ok (.if_icmp .eq 5, 3) := by decide +kernel
theorem dL_law_1246 : decode cL_law 1246 = .ok (.iconst 0, 1) := by decide +kernel
theorem dL_law_1247 : decode cL_law 1247 = .ok (.ireturn, 1) := by decide +kernel
theorem dL_law_1248 : decode cL_law 1248 = .ok (.iload 5, 2) := by decide +kernel
theorem dL_law_1250 : decode cL_law 1250 = .ok (.ifCond .ne 15, 3) := by decide +kernel
theorem dL_law_1253 : decode cL_law 1253 = .ok (.aload_n 3, 1) := by decide +kernel
theorem dL_law_1254 : decode cL_law 1254 = .ok (.iconst 0, 1) := by decide +kernel
theorem dL_law_1255 : decode cL_law 1255 = .ok (.laload, 1) := by decide +kernel
theorem dL_law_1256 : decode cL_law 1256 = .ok (.iload 6, 2) := by decide +kernel
theorem dL_law_1258 : decode cL_law 1258 = .ok (.i2l, 1) := by decide +kernel
theorem dL_law_1259 : decode cL_law 1259 = .ok (.lcmp, 1) := by decide +kernel
theorem dL_law_1260 : decode cL_law 1260 = .ok (.ifCond .eq 5, 3) := by decide +kernel
theorem dL_law_1263 : decode cL_law 1263 = .ok (.iconst 0, 1) := by decide +kernel
theorem dL_law_1264 : decode cL_law 1264 = .ok (.ireturn, 1) := by decide +kernel
theorem dL_law_1265 : decode cL_law 1265 = .ok (.goto 433, 3) := by decide +kernel
theorem dL_law_1268 : decode cL_law 1268 = .ok (.aload_n 1, 1) := by decide +kernel
theorem dL_law_1269 : decode cL_law 1269 = .ok (.aload_n 0, 1) := by decide +kernel
theorem dL_law_1270 : decode cL_law 1270 = .ok (.iload 4, 2) := by decide +kernel
theorem dL_law_1272 : decode cL_law 1272 = .ok (.iconst 1, 1) := by decide +kernel
theorem dL_law_1273 : decode cL_law 1273 = .ok (.iadd, 1) := by decide +kernel
theorem dL_law_1274 : decode cL_law 1274 = .ok (.iaload, 1) := by decide +kernel
theorem dL_law_1275 : decode cL_law 1275 = .ok (.aload_n 0, 1) := by decide +kernel
theorem dL_law_1276 : decode cL_law 1276 = .ok (.iload 4, 2) := by decide +kernel
theorem dL_law_1278 : decode cL_law 1278 = .ok (.iconst 2, 1) := by decide +kernel
theorem dL_law_1279 : decode cL_law 1279 = .ok (.iadd, 1) := by decide +kernel
theorem dL_law_1280 : decode cL_law 1280 = .ok (.iaload, 1) := by decide +kernel
theorem dL_law_1281 : decode cL_law 1281 = .ok (.aload_n 0, 1) := by decide +kernel
theorem dL_law_1282 : decode cL_law 1282 = .ok (.iload 4, 2) := by decide +kernel
theorem dL_law_1284 : decode cL_law 1284 = .ok (.iconst 3, 1) := by decide +kernel
theorem dL_law_1285 : decode cL_law 1285 = .ok (.iadd, 1) := by decide +kernel
theorem dL_law_1286 : decode cL_law 1286 = .ok (.iaload, 1) := by decide +kernel
theorem dL_law_1287 : decode cL_law 1287 = .ok (.ifCond .eq 7, 3) := by decide +kernel
theorem dL_law_1290 : decode cL_law 1290 = .ok (.iconst 1, 1) := by decide +kernel
theorem dL_law_1291 : decode cL_law 1291 = .ok (.goto 4, 3) := by decide +kernel
theorem dL_law_1294 : decode cL_law 1294 = .ok (.iconst 0, 1) := by decide +kernel
theorem dL_law_1295 : decode cL_law 1295 = .ok (.aload_n 3, 1) := by decide +kernel
theorem dL_law_1296 : decode cL_law 1296 = .ok (.invokestatic 148, 3) := by decide +kernel
theorem dL_law_1299 : decode cL_law 1299 = .ok (.istore 5, 2) := by decide +kernel
theorem dL_law_1301 : decode cL_law 1301 = .ok (.aload_n 2, 1) := by decide +kernel
theorem dL_law_1302 : decode cL_law 1302 = .ok (.aload_n 0, 1) := by decide +kernel
theorem dL_law_1303 : decode cL_law 1303 = .ok (.iload 4, 2) := by decide +kernel
theorem dL_law_1305 : decode cL_law 1305 = .ok (.iconst 1, 1) := by decide +kernel
theorem dL_law_1306 : decode cL_law 1306 = .ok (.iadd, 1) := by decide +kernel
theorem dL_law_1307 : decode cL_law 1307 = .ok (.iaload, 1) := by decide +kernel
theorem dL_law_1308 : decode cL_law 1308 = .ok (.aload_n 0, 1) := by decide +kernel
theorem dL_law_1309 : decode cL_law 1309 = .ok (.iload 4, 2) := by decide +kernel
theorem dL_law_1311 : decode cL_law 1311 = .ok (.iconst 2, 1) := by decide +kernel
theorem dL_law_1312 : decode cL_law 1312 = .ok (.iadd, 1) := by decide +kernel
theorem dL_law_1313 : decode cL_law 1313 = .ok (.iaload, 1) := by decide +kernel
theorem dL_law_1314 : decode cL_law 1314 = .ok (.aload_n 0, 1) := by decide +kernel
theorem dL_law_1315 : decode cL_law 1315 = .ok (.iload 4, 2) := by decide +kernel
theorem dL_law_1317 : decode cL_law 1317 = .ok (.iconst 3, 1) := by decide +kernel
theorem dL_law_1318 : decode cL_law 1318 = .ok (.iadd, 1) := by decide +kernel
theorem dL_law_1319 : decode cL_law 1319 = .ok (.iaload, 1) := by decide +kernel
theorem dL_law_1320 : decode cL_law 1320 = .ok (.ifCond .eq 7, 3) := by decide +kernel
theorem dL_law_1323 : decode cL_law 1323 = .ok (.iconst 1, 1) := by decide +kernel
theorem dL_law_1324 : decode cL_law 1324 = .ok (.goto 4, 3) := by decide +kernel
theorem dL_law_1327 : decode cL_law 1327 = .ok (.iconst 0, 1) := by decide +kernel
theorem dL_law_1328 : decode cL_law 1328 = .ok (.invokevirtual 151, 3) := by decide +kernel
theorem dL_law_1331 : decode cL_law 1331 = .ok (.istore 6, 2) := by decide +kernel
theorem dL_law_1333 : decode cL_law 1333 = .ok (.aload_n 2, 1) := by decide +kernel
theorem dL_law_1334 : decode cL_law 1334 = .ok (.invokevirtual 94, 3) := by decide +kernel
theorem dL_law_1337 : decode cL_law 1337 = .ok (.iload 5, 2) := by decide +kernel
theorem dL_law_1339 : decode cL_law 1339 = .ok (.if_icmp .eq 5, 3) := by decide +kernel
theorem dL_law_1342 : decode cL_law 1342 = .ok (.iconst 0, 1) := by decide +kernel
theorem dL_law_1343 : decode cL_law 1343 = .ok (.ireturn, 1) := by decide +kernel
theorem dL_law_1344 : decode cL_law 1344 = .ok (.iload 5, 2) := by decide +kernel
theorem dL_law_1346 : decode cL_law 1346 = .ok (.ifCond .ne 15, 3) := by decide +kernel
theorem dL_law_1349 : decode cL_law 1349 = .ok (.aload_n 3, 1) := by decide +kernel
theorem dL_law_1350 : decode cL_law 1350 = .ok (.iconst 0, 1) := by decide +kernel
theorem dL_law_1351 : decode cL_law 1351 = .ok (.laload, 1) := by decide +kernel
theorem dL_law_1352 : decode cL_law 1352 = .ok (.iload 6, 2) := by decide +kernel
theorem dL_law_1354 : decode cL_law 1354 = .ok (.i2l, 1) := by decide +kernel
theorem dL_law_1355 : decode cL_law 1355 = .ok (.lcmp, 1) := by decide +kernel
theorem dL_law_1356 : decode cL_law 1356 = .ok (.ifCond .eq 5, 3) := by decide +kernel
theorem dL_law_1359 : decode cL_law 1359 = .ok (.iconst 0, 1) := by decide +kernel
theorem dL_law_1360 : decode cL_law 1360 = .ok (.ireturn, 1) := by decide +kernel
theorem dL_law_1361 : decode cL_law 1361 = .ok (.goto 337, 3) := by decide +kernel
theorem dL_law_1364 : decode cL_law 1364 = .ok (.aload_n 1, 1) := by decide +kernel
theorem dL_law_1365 : decode cL_law 1365 = .ok (.aload_n 0, 1) := by decide +kernel
theorem dL_law_1366 : decode cL_law 1366 = .ok (.iload 4, 2) := by decide +kernel
theorem dL_law_1368 : decode cL_law 1368 = .ok (.iconst 1, 1) := by decide +kernel
theorem dL_law_1369 : decode cL_law 1369 = .ok (.iadd, 1) := by decide +kernel
theorem dL_law_1370 : decode cL_law 1370 = .ok (.iaload, 1) := by decide +kernel
theorem dL_law_1371 : decode cL_law 1371 = .ok (.aload_n 3, 1) := by decide +kernel
theorem dL_law_1372 : decode cL_law 1372 = .ok (.invokestatic 152, 3) := by decide +kernel
theorem dL_law_1375 : decode cL_law 1375 = .ok (.istore 5, 2) := by decide +kernel
theorem dL_law_1377 : decode cL_law 1377 = .ok (.aload_n 2, 1) := by decide +kernel
theorem dL_law_1378 : decode cL_law 1378 = .ok (.aload_n 0, 1) := by decide +kernel
theorem dL_law_1379 : decode cL_law 1379 = .ok (.iload 4, 2) := by decide +kernel
theorem dL_law_1381 : decode cL_law 1381 = .ok (.iconst 1, 1) := by decide +kernel
theorem dL_law_1382 : decode cL_law 1382 = .ok (.iadd, 1) := by decide +kernel
theorem dL_law_1383 : decode cL_law 1383 = .ok (.iaload, 1) := by decide +kernel
theorem dL_law_1384 : decode cL_law 1384 = .ok (.invokevirtual 154, 3) := by decide +kernel
theorem dL_law_1387 : decode cL_law 1387 = .ok (.istore 6, 2) := by decide +kernel
theorem dL_law_1389 : decode cL_law 1389 = .ok (.aload_n 2, 1) := by decide +kernel
theorem dL_law_1390 : decode cL_law 1390 = .ok (.invokevirtual 94, 3) := by decide +kernel
theorem dL_law_1393 : decode cL_law 1393 = .ok (.iload 5, 2) := by decide +kernel
theorem dL_law_1395 : decode cL_law 1395 = .ok (.if_icmp .eq 5, 3) := by decide +kernel
theorem dL_law_1398 : decode cL_law 1398 = .ok (.iconst 0, 1) := by decide +kernel
theorem dL_law_1399 : decode cL_law 1399 = .ok (.ireturn, 1) := by decide +kernel
theorem dL_law_1400 : decode cL_law 1400 = .ok (.iload 5, 2) := by decide +kernel
theorem dL_law_1402 : decode cL_law 1402 = .ok (.ifCond .ne 15, 3) := by decide +kernel
theorem dL_law_1405 : decode cL_law 1405 = .ok (.aload_n 3, 1) := by decide +kernel
theorem dL_law_1406 : decode cL_law 1406 = .ok (.iconst 0, 1) := by decide +kernel
theorem dL_law_1407 : decode cL_law 1407 = .ok (.laload, 1) := by decide +kernel
theorem dL_law_1408 : decode cL_law 1408 = .ok (.iload 6, 2) := by decide +kernel
theorem dL_law_1410 : decode cL_law 1410 = .ok (.i2l, 1) := by decide +kernel
theorem dL_law_1411 : decode cL_law 1411 = .ok (.lcmp, 1) := by decide +kernel
theorem dL_law_1412 : decode cL_law 1412 = .ok (.ifCond .eq 5, 3) := by decide +kernel
theorem dL_law_1415 : decode cL_law 1415 = .ok (.iconst 0, 1) := by decide +kernel
theorem dL_law_1416 : decode cL_law 1416 = .ok (.ireturn, 1) := by decide +kernel
theorem dL_law_1417 : decode cL_law 1417 = .ok (.goto 281, 3) := by decide +kernel
theorem dL_law_1420 : decode cL_law 1420 = .ok (.aload_n 1, 1) := by decide +kernel
theorem dL_law_1421 : decode cL_law 1421 = .ok (.aload_n 0, 1) := by decide +kernel
theorem dL_law_1422 : decode cL_law 1422 = .ok (.iload 4, 2) := by decide +kernel
theorem dL_law_1424 : decode cL_law 1424 = .ok (.iconst 1, 1) := by decide +kernel
theorem dL_law_1425 : decode cL_law 1425 = .ok (.iadd, 1) := by decide +kernel
theorem dL_law_1426 : decode cL_law 1426 = .ok (.iaload, 1) := by decide +kernel
theorem dL_law_1427 : decode cL_law 1427 = .ok (.aload_n 3, 1) := by decide +kernel
theorem dL_law_1428 : decode cL_law 1428 = .ok (.invokestatic 155, 3) := by decide +kernel
theorem dL_law_1431 : decode cL_law 1431 = .ok (.istore 5, 2) := by decide +kernel
theorem dL_law_1433 : decode cL_law 1433 = .ok (.aload_n 2, 1) := by decide +kernel
theorem dL_law_1434 : decode cL_law 1434 = .ok (.aload_n 0, 1) := by decide +kernel
theorem dL_law_1435 : decode cL_law 1435 = .ok (.iload 4, 2) := by decide +kernel
theorem dL_law_1437 : decode cL_law 1437 = .ok (.iconst 1, 1) := by decide +kernel
theorem dL_law_1438 : decode cL_law 1438 = .ok (.iadd, 1) := by decide +kernel
theorem dL_law_1439 : decode cL_law 1439 = .ok (.iaload, 1) := by decide +kernel
theorem dL_law_1440 : decode cL_law 1440 = .ok (.invokevirtual 157, 3) := by decide +kernel
theorem dL_law_1443 : decode cL_law 1443 = .ok (.istore 6, 2) := by decide +kernel
theorem dL_law_1445 : decode cL_law 1445 = .ok (.aload_n 2, 1) := by decide +kernel
theorem dL_law_1446 : decode cL_law 1446 = .ok (.invokevirtual 94, 3) := by decide +kernel
theorem dL_law_1449 : decode cL_law 1449 = .ok (.iload 5, 2) := by decide +kernel
theorem dL_law_1451 : decode cL_law 1451 = .ok (.if_icmp .eq 5, 3) := by decide +kernel
theorem dL_law_1454 : decode cL_law 1454 = .ok (.iconst 0, 1) := by decide +kernel
theorem dL_law_1455 : decode cL_law 1455 = .ok (.ireturn, 1) := by decide +kernel
theorem dL_law_1456 : decode cL_law 1456 = .ok (.iload 5, 2) := by decide +kernel
theorem dL_law_1458 : decode cL_law 1458 = .ok (.ifCond .ne 15, 3) := by decide +kernel
theorem dL_law_1461 : decode cL_law 1461 = .ok (.aload_n 3, 1) := by decide +kernel
theorem dL_law_1462 : decode cL_law 1462 = .ok (.iconst 0, 1) := by decide +kernel
theorem dL_law_1463 : decode cL_law 1463 = .ok (.laload, 1) := by decide +kernel
theorem dL_law_1464 : decode cL_law 1464 = .ok (.iload 6, 2) := by decide +kernel
theorem dL_law_1466 : decode cL_law 1466 = .ok (.i2l, 1) := by decide +kernel
theorem dL_law_1467 : decode cL_law 1467 = .ok (.lcmp, 1) := by decide +kernel
theorem dL_law_1468 : decode cL_law 1468 = .ok (.ifCond .eq 5, 3) := by decide +kernel
theorem dL_law_1471 : decode cL_law 1471 = .ok (.iconst 0, 1) := by decide +kernel
theorem dL_law_1472 : decode cL_law 1472 = .ok (.ireturn, 1) := by decide +kernel
theorem dL_law_1473 : decode cL_law 1473 = .ok (.goto 225, 3) := by decide +kernel
theorem dL_law_1476 : decode cL_law 1476 = .ok (.aload_n 1, 1) := by decide +kernel
theorem dL_law_1477 : decode cL_law 1477 = .ok (.aload_n 0, 1) := by decide +kernel
theorem dL_law_1478 : decode cL_law 1478 = .ok (.iload 4, 2) := by decide +kernel
theorem dL_law_1480 : decode cL_law 1480 = .ok (.iconst 1, 1) := by decide +kernel
theorem dL_law_1481 : decode cL_law 1481 = .ok (.iadd, 1) := by decide +kernel
theorem dL_law_1482 : decode cL_law 1482 = .ok (.iaload, 1) := by decide +kernel
theorem dL_law_1483 : decode cL_law 1483 = .ok (.aload_n 0, 1) := by decide +kernel
theorem dL_law_1484 : decode cL_law 1484 = .ok (.iload 4, 2) := by decide +kernel
theorem dL_law_1486 : decode cL_law 1486 = .ok (.iconst 2, 1) := by decide +kernel
theorem dL_law_1487 : decode cL_law 1487 = .ok (.iadd, 1) := by decide +kernel
theorem dL_law_1488 : decode cL_law 1488 = .ok (.iaload, 1) := by decide +kernel
theorem dL_law_1489 : decode cL_law 1489 = .ok (.aload_n 0, 1) := by decide +kernel
theorem dL_law_1490 : decode cL_law 1490 = .ok (.iload 4, 2) := by decide +kernel
theorem dL_law_1492 : decode cL_law 1492 = .ok (.iconst 3, 1) := by decide +kernel
theorem dL_law_1493 : decode cL_law 1493 = .ok (.iadd, 1) := by decide +kernel
theorem dL_law_1494 : decode cL_law 1494 = .ok (.iaload, 1) := by decide +kernel
theorem dL_law_1495 : decode cL_law 1495 = .ok (.aload_n 0, 1) := by decide +kernel
theorem dL_law_1496 : decode cL_law 1496 = .ok (.iload 4, 2) := by decide +kernel
theorem dL_law_1498 : decode cL_law 1498 = .ok (.iconst 4, 1) := by decide +kernel
theorem dL_law_1499 : decode cL_law 1499 = .ok (.iadd, 1) := by decide +kernel
theorem dL_law_1500 : decode cL_law 1500 = .ok (.iaload, 1) := by decide +kernel
theorem dL_law_1501 : decode cL_law 1501 = .ok (.aload_n 0, 1) := by decide +kernel
theorem dL_law_1502 : decode cL_law 1502 = .ok (.iload 4, 2) := by decide +kernel
theorem dL_law_1504 : decode cL_law 1504 = .ok (.iconst 5, 1) := by decide +kernel
theorem dL_law_1505 : decode cL_law 1505 = .ok (.iadd, 1) := by decide +kernel
theorem dL_law_1506 : decode cL_law 1506 = .ok (.iaload, 1) := by decide +kernel
theorem dL_law_1507 : decode cL_law 1507 = .ok (.aload_n 0, 1) := by decide +kernel
theorem dL_law_1508 : decode cL_law 1508 = .ok (.iload 4, 2) := by decide +kernel
theorem dL_law_1510 : decode cL_law 1510 = .ok (.bipush 6, 2) := by decide +kernel
theorem dL_law_1512 : decode cL_law 1512 = .ok (.iadd, 1) := by decide +kernel
theorem dL_law_1513 : decode cL_law 1513 = .ok (.iaload, 1) := by decide +kernel
theorem dL_law_1514 : decode cL_law 1514 = .ok (.aload_n 3, 1) := by decide +kernel
theorem dL_law_1515 : decode cL_law 1515 = .ok (.invokestatic 158, 3) := by decide +kernel
theorem dL_law_1518 : decode cL_law 1518 = .ok (.istore 5, 2) := by decide +kernel
theorem dL_law_1520 : decode cL_law 1520 = .ok (.aload_n 2, 1) := by decide +kernel
theorem dL_law_1521 : decode cL_law 1521 = .ok (.aload_n 0, 1) := by decide +kernel
theorem dL_law_1522 : decode cL_law 1522 = .ok (.iload 4, 2) := by decide +kernel
theorem dL_law_1524 : decode cL_law 1524 = .ok (.iconst 1, 1) := by decide +kernel
theorem dL_law_1525 : decode cL_law 1525 = .ok (.iadd, 1) := by decide +kernel
theorem dL_law_1526 : decode cL_law 1526 = .ok (.iaload, 1) := by decide +kernel
theorem dL_law_1527 : decode cL_law 1527 = .ok (.aload_n 0, 1) := by decide +kernel
theorem dL_law_1528 : decode cL_law 1528 = .ok (.iload 4, 2) := by decide +kernel
theorem dL_law_1530 : decode cL_law 1530 = .ok (.iconst 2, 1) := by decide +kernel
theorem dL_law_1531 : decode cL_law 1531 = .ok (.iadd, 1) := by decide +kernel
theorem dL_law_1532 : decode cL_law 1532 = .ok (.iaload, 1) := by decide +kernel
theorem dL_law_1533 : decode cL_law 1533 = .ok (.aload_n 0, 1) := by decide +kernel
theorem dL_law_1534 : decode cL_law 1534 = .ok (.iload 4, 2) := by decide +kernel
theorem dL_law_1536 : decode cL_law 1536 = .ok (.iconst 3, 1) := by decide +kernel
theorem dL_law_1537 : decode cL_law 1537 = .ok (.iadd, 1) := by decide +kernel
theorem dL_law_1538 : decode cL_law 1538 = .ok (.iaload, 1) := by decide +kernel
theorem dL_law_1539 : decode cL_law 1539 = .ok (.aload_n 0, 1) := by decide +kernel
theorem dL_law_1540 : decode cL_law 1540 = .ok (.iload 4, 2) := by decide +kernel
theorem dL_law_1542 : decode cL_law 1542 = .ok (.iconst 4, 1) := by decide +kernel
theorem dL_law_1543 : decode cL_law 1543 = .ok (.iadd, 1) := by decide +kernel
theorem dL_law_1544 : decode cL_law 1544 = .ok (.iaload, 1) := by decide +kernel
theorem dL_law_1545 : decode cL_law 1545 = .ok (.aload_n 0, 1) := by decide +kernel
theorem dL_law_1546 : decode cL_law 1546 = .ok (.iload 4, 2) := by decide +kernel
theorem dL_law_1548 : decode cL_law 1548 = .ok (.iconst 5, 1) := by decide +kernel
theorem dL_law_1549 : decode cL_law 1549 = .ok (.iadd, 1) := by decide +kernel
theorem dL_law_1550 : decode cL_law 1550 = .ok (.iaload, 1) := by decide +kernel
theorem dL_law_1551 : decode cL_law 1551 = .ok (.aload_n 0, 1) := by decide +kernel
theorem dL_law_1552 : decode cL_law 1552 = .ok (.iload 4, 2) := by decide +kernel
theorem dL_law_1554 : decode cL_law 1554 = .ok (.bipush 6, 2) := by decide +kernel
theorem dL_law_1556 : decode cL_law 1556 = .ok (.iadd, 1) := by decide +kernel
theorem dL_law_1557 : decode cL_law 1557 = .ok (.iaload, 1) := by decide +kernel
theorem dL_law_1558 : decode cL_law 1558 = .ok (.invokevirtual 161, 3) := by decide +kernel
theorem dL_law_1561 : decode cL_law 1561 = .ok (.istore 6, 2) := by decide +kernel
theorem dL_law_1563 : decode cL_law 1563 = .ok (.aload_n 2, 1) := by decide +kernel
theorem dL_law_1564 : decode cL_law 1564 = .ok (.invokevirtual 94, 3) := by decide +kernel
theorem dL_law_1567 : decode cL_law 1567 = .ok (.iload 5, 2) := by decide +kernel
theorem dL_law_1569 : decode cL_law 1569 = .ok (.if_icmp .eq 5, 3) := by decide +kernel
theorem dL_law_1572 : decode cL_law 1572 = .ok (.iconst 0, 1) := by decide +kernel
theorem dL_law_1573 : decode cL_law 1573 = .ok (.ireturn, 1) := by decide +kernel
theorem dL_law_1574 : decode cL_law 1574 = .ok (.iload 5, 2) := by decide +kernel
theorem dL_law_1576 : decode cL_law 1576 = .ok (.ifCond .ne 15, 3) := by decide +kernel
theorem dL_law_1579 : decode cL_law 1579 = .ok (.aload_n 3, 1) := by decide +kernel
theorem dL_law_1580 : decode cL_law 1580 = .ok (.iconst 0, 1) := by decide +kernel
theorem dL_law_1581 : decode cL_law 1581 = .ok (.laload, 1) := by decide +kernel
theorem dL_law_1582 : decode cL_law 1582 = .ok (.iload 6, 2) := by decide +kernel
theorem dL_law_1584 : decode cL_law 1584 = .ok (.i2l, 1) := by decide +kernel
theorem dL_law_1585 : decode cL_law 1585 = .ok (.lcmp, 1) := by decide +kernel
theorem dL_law_1586 : decode cL_law 1586 = .ok (.ifCond .eq 5, 3) := by decide +kernel
theorem dL_law_1589 : decode cL_law 1589 = .ok (.iconst 0, 1) := by decide +kernel
theorem dL_law_1590 : decode cL_law 1590 = .ok (.ireturn, 1) := by decide +kernel
theorem dL_law_1591 : decode cL_law 1591 = .ok (.goto 107, 3) := by decide +kernel
theorem dL_law_1594 : decode cL_law 1594 = .ok (.aload_n 1, 1) := by decide +kernel
theorem dL_law_1595 : decode cL_law 1595 = .ok (.aload_n 0, 1) := by decide +kernel
theorem dL_law_1596 : decode cL_law 1596 = .ok (.iload 4, 2) := by decide +kernel
theorem dL_law_1598 : decode cL_law 1598 = .ok (.iconst 1, 1) := by decide +kernel
theorem dL_law_1599 : decode cL_law 1599 = .ok (.iadd, 1) := by decide +kernel
theorem dL_law_1600 : decode cL_law 1600 = .ok (.iaload, 1) := by decide +kernel
theorem dL_law_1601 : decode cL_law 1601 = .ok (.aload_n 0, 1) := by decide +kernel
theorem dL_law_1602 : decode cL_law 1602 = .ok (.iload 4, 2) := by decide +kernel
theorem dL_law_1604 : decode cL_law 1604 = .ok (.iconst 2, 1) := by decide +kernel
theorem dL_law_1605 : decode cL_law 1605 = .ok (.iadd, 1) := by decide +kernel
theorem dL_law_1606 : decode cL_law 1606 = .ok (.iaload, 1) := by decide +kernel
theorem dL_law_1607 : decode cL_law 1607 = .ok (.aload_n 0, 1) := by decide +kernel
theorem dL_law_1608 : decode cL_law 1608 = .ok (.iload 4, 2) := by decide +kernel
theorem dL_law_1610 : decode cL_law 1610 = .ok (.iconst 3, 1) := by decide +kernel
theorem dL_law_1611 : decode cL_law 1611 = .ok (.iadd, 1) := by decide +kernel
theorem dL_law_1612 : decode cL_law 1612 = .ok (.iaload, 1) := by decide +kernel
theorem dL_law_1613 : decode cL_law 1613 = .ok (.aload_n 0, 1) := by decide +kernel
theorem dL_law_1614 : decode cL_law 1614 = .ok (.iload 4, 2) := by decide +kernel
theorem dL_law_1616 : decode cL_law 1616 = .ok (.iconst 4, 1) := by decide +kernel
theorem dL_law_1617 : decode cL_law 1617 = .ok (.iadd, 1) := by decide +kernel
theorem dL_law_1618 : decode cL_law 1618 = .ok (.iaload, 1) := by decide +kernel
theorem dL_law_1619 : decode cL_law 1619 = .ok (.aload_n 0, 1) := by decide +kernel
theorem dL_law_1620 : decode cL_law 1620 = .ok (.iload 4, 2) := by decide +kernel
theorem dL_law_1622 : decode cL_law 1622 = .ok (.iconst 5, 1) := by decide +kernel
theorem dL_law_1623 : decode cL_law 1623 = .ok (.iadd, 1) := by decide +kernel
theorem dL_law_1624 : decode cL_law 1624 = .ok (.iaload, 1) := by decide +kernel
theorem dL_law_1625 : decode cL_law 1625 = .ok (.aload_n 3, 1) := by decide +kernel
theorem dL_law_1626 : decode cL_law 1626 = .ok (.invokestatic 162, 3) := by decide +kernel
theorem dL_law_1629 : decode cL_law 1629 = .ok (.istore 5, 2) := by decide +kernel
theorem dL_law_1631 : decode cL_law 1631 = .ok (.aload_n 2, 1) := by decide +kernel
theorem dL_law_1632 : decode cL_law 1632 = .ok (.aload_n 0, 1) := by decide +kernel
theorem dL_law_1633 : decode cL_law 1633 = .ok (.iload 4, 2) := by decide +kernel
theorem dL_law_1635 : decode cL_law 1635 = .ok (.iconst 1, 1) := by decide +kernel
theorem dL_law_1636 : decode cL_law 1636 = .ok (.iadd, 1) := by decide +kernel
theorem dL_law_1637 : decode cL_law 1637 = .ok (.iaload, 1) := by decide +kernel
theorem dL_law_1638 : decode cL_law 1638 = .ok (.aload_n 0, 1) := by decide +kernel
theorem dL_law_1639 : decode cL_law 1639 = .ok (.iload 4, 2) := by decide +kernel
theorem dL_law_1641 : decode cL_law 1641 = .ok (.iconst 2, 1) := by decide +kernel
theorem dL_law_1642 : decode cL_law 1642 = .ok (.iadd, 1) := by decide +kernel
theorem dL_law_1643 : decode cL_law 1643 = .ok (.iaload, 1) := by decide +kernel
theorem dL_law_1644 : decode cL_law 1644 = .ok (.aload_n 0, 1) := by decide +kernel
theorem dL_law_1645 : decode cL_law 1645 = .ok (.iload 4, 2) := by decide +kernel
theorem dL_law_1647 : decode cL_law 1647 = .ok (.iconst 3, 1) := by decide +kernel
theorem dL_law_1648 : decode cL_law 1648 = .ok (.iadd, 1) := by decide +kernel
theorem dL_law_1649 : decode cL_law 1649 = .ok (.iaload, 1) := by decide +kernel
theorem dL_law_1650 : decode cL_law 1650 = .ok (.aload_n 0, 1) := by decide +kernel
theorem dL_law_1651 : decode cL_law 1651 = .ok (.iload 4, 2) := by decide +kernel
theorem dL_law_1653 : decode cL_law 1653 = .ok (.iconst 4, 1) := by decide +kernel
theorem dL_law_1654 : decode cL_law 1654 = .ok (.iadd, 1) := by decide +kernel
theorem dL_law_1655 : decode cL_law 1655 = .ok (.iaload, 1) := by decide +kernel
theorem dL_law_1656 : decode cL_law 1656 = .ok (.aload_n 0, 1) := by decide +kernel
theorem dL_law_1657 : decode cL_law 1657 = .ok (.iload 4, 2) := by decide +kernel
theorem dL_law_1659 : decode cL_law 1659 = .ok (.iconst 5, 1) := by decide +kernel
theorem dL_law_1660 : decode cL_law 1660 = .ok (.iadd, 1) := by decide +kernel
theorem dL_law_1661 : decode cL_law 1661 = .ok (.iaload, 1) := by decide +kernel
theorem dL_law_1662 : decode cL_law 1662 = .ok (.invokevirtual 165, 3) := by decide +kernel
theorem dL_law_1665 : decode cL_law 1665 = .ok (.istore 6, 2) := by decide +kernel
theorem dL_law_1667 : decode cL_law 1667 = .ok (.aload_n 2, 1) := by decide +kernel
theorem dL_law_1668 : decode cL_law 1668 = .ok (.invokevirtual 94, 3) := by decide +kernel
theorem dL_law_1671 : decode cL_law 1671 = .ok (.iload 5, 2) := by decide +kernel
theorem dL_law_1673 : decode cL_law 1673 = .ok (.if_icmp .eq 5, 3) := by decide +kernel
theorem dL_law_1676 : decode cL_law 1676 = .ok (.iconst 0, 1) := by decide +kernel
theorem dL_law_1677 : decode cL_law 1677 = .ok (.ireturn, 1) := by decide +kernel
theorem dL_law_1678 : decode cL_law 1678 = .ok (.iload 5, 2) := by decide +kernel
theorem dL_law_1680 : decode cL_law 1680 = .ok (.ifCond .ne 15, 3) := by decide +kernel
theorem dL_law_1683 : decode cL_law 1683 = .ok (.aload_n 3, 1) := by decide +kernel
theorem dL_law_1684 : decode cL_law 1684 = .ok (.iconst 0, 1) := by decide +kernel
theorem dL_law_1685 : decode cL_law 1685 = .ok (.laload, 1) := by decide +kernel
theorem dL_law_1686 : decode cL_law 1686 = .ok (.iload 6, 2) := by decide +kernel
theorem dL_law_1688 : decode cL_law 1688 = .ok (.i2l, 1) := by decide +kernel
theorem dL_law_1689 : decode cL_law 1689 = .ok (.lcmp, 1) := by decide +kernel
theorem dL_law_1690 : decode cL_law 1690 = .ok (.ifCond .eq 5, 3) := by decide +kernel
theorem dL_law_1693 : decode cL_law 1693 = .ok (.iconst 0, 1) := by decide +kernel
theorem dL_law_1694 : decode cL_law 1694 = .ok (.ireturn, 1) := by decide +kernel
theorem dL_law_1695 : decode cL_law 1695 = .ok (.goto 3, 3) := by decide +kernel
theorem dL_law_1698 : decode cL_law 1698 = .ok (.iinc 4 8, 3) := by decide +kernel
theorem dL_law_1701 : decode cL_law 1701 = .ok (.goto (-1678), 3) := by decide +kernel
theorem dL_law_1704 : decode cL_law 1704 = .ok (.iconst 1, 1) := by decide +kernel
theorem dL_law_1705 : decode cL_law 1705 = .ok (.ireturn, 1) := by decide +kernel
end
section
def mm_bys : List ByteArray := [cX0_init, cX0_comesFrom, cX0_isMadeOfGone, cX0_countMarks, cX0_hasMarkWithin, cX0_writeValues, cX1_init, cX1_become, cX1_countUnlike, cX1_isJustLike, cX1_goes, cX1_isStill, cX2_init, cX2_isPointing, cX2_isOfSign, cX3_init, cX3_isOf, cX3_writeValue, cX3_countTicksIn, cX4_init, cX4_hasException, cX4_toggleException, cX5_init, cX6_init, cX6_sign, cX6_nearest, cX6_written, cX6_loses, cX6_tellsApart, cX6_numberBy, cX6_isPossibleBase, cX6_firstSignJustLike, cX6_countSignsJustLike, cX6_isSign, cX6_requireSign, cX6_requireSchool, cX6_item, cX6_clear, cX6_face, cX6_shown, cX6_standsFor, cX6_hasSignAndLoci, cX6_isPossibleItem, cX6_lociStandAsTheyShould, cX6_isReferentPlaced, cX6_referentNow, cX6_referentBehind, cX6_handsTold, cX6_stillHands, cX6_isArticulatorBusy, cX6_faceShown, cX6_faceOver, cX6_articulatorOf, cX6_requireItem, cX6_isLocus, cX6_placeOf, cX6_locusAt, cX6_rule, cX6_except, cX6_applyRules, cX6_applyRule, cX6_dropMirrored, cX6_hasNoSecond, cX6_likenShape, cX6_easeTurn, cX6_swapEnds, cX6_slideLetter, cX6_hasItemAhead, cX6_signed, cX6_at, cX6_readBack, cX6_signAll, cX6_ticksOfPassing, cX6_ticksOfItem, cX6_itemAtTick, cX6_placeInPassing, cX6_placeInItem, cX6_turnInItem, cX6_stepsDone, cX6_placeOnWay, cX6_kindReadBack, cX6_numberReadBack, cX6_pointingReadBack, cX6_letterReadBack, cX6_take, cX6_make, cX6_allow, cX6_withdraw, cX6_persons, cX6_mark, cX6_agree, cX6_keepClip, cX6_letGo, cX6_countTicksAlike, cX6_countTicksWithValue, cX6_countMarksShared, cX6_requireClip, cX6_requirePerson, cX6_requirePurpose, cX6_requireCoder, cX6_requireTier, cX6_isBelow, cX6_rowOf, cX6_columnOf, cX6_distance, cX6_direction, cX7_init, cX7_thrown, cX7_isIn, cX7_size, cX7_distance, cX7_placeOf, cX7_isSign, cX7_isItem, cX7_isLocus, cX7_areAlike, cX7_sign, cX7_unlike, cX7_nearest, cX7_way, cX7_writes, cX7_written, cX7_loses, cX7_isFor, cX7_itemThrown, cX7_item, cX7_clear, cX7_articulatorOf, cX7_face, cX7_over, cX7_isPointing, cX7_shownAt, cX7_shown, cX7_standsFor, cX7_rule, cX7_except, cX7_hand, cX7_gives, cX7_begins, cX7_isExcepted, cX7_isBare, cX7_changes, cX7_rulesGo, cX7_moves, cX7_least, cX7_takes, cX7_passes, cX7_beginning, cX7_signed, cX7_along, cX7_at, cX7_isJust, cX7_read, cX7_readBack, cX7_isClip, cX7_comesFrom, cX7_adds, cX7_take, cX7_make, cX7_goes, cX7_allow, cX7_withdraw, cX7_persons, cX7_areTold, cX7_row, cX7_mark, cX7_agree, cL_sign, cL_nearest, cL_written, cL_loses, cL_item, cL_face, cL_shown, cL_standsFor, cL_rule, cL_except, cL_signed, cL_at, cL_readBack, cL_take, cL_make, cL_allow, cL_withdraw, cL_persons, cL_mark, cL_agree, cL_law]
def mm_by (y : Nat) : ByteArray := (mm_bys[y]?).getD cL_law
def mm_nms : List MethodName := [yX0_init, yX0_comesFrom, yX0_isMadeOfGone, yX0_countMarks, yX0_hasMarkWithin, yX0_writeValues, yX1_init, yX1_become, yX1_countUnlike, yX1_isJustLike, yX1_goes, yX1_isStill, yX2_init, yX2_isPointing, yX2_isOfSign, yX3_init, yX3_isOf, yX3_writeValue, yX3_countTicksIn, yX4_init, yX4_hasException, yX4_toggleException, yX5_init, yX6_init, yX6_sign, yX6_nearest, yX6_written, yX6_loses, yX6_tellsApart, yX6_numberBy, yX6_isPossibleBase, yX6_firstSignJustLike, yX6_countSignsJustLike, yX6_isSign, yX6_requireSign, yX6_requireSchool, yX6_item, yX6_clear, yX6_face, yX6_shown, yX6_standsFor, yX6_hasSignAndLoci, yX6_isPossibleItem, yX6_lociStandAsTheyShould, yX6_isReferentPlaced, yX6_referentNow, yX6_referentBehind, yX6_handsTold, yX6_stillHands, yX6_isArticulatorBusy, yX6_faceShown, yX6_faceOver, yX6_articulatorOf, yX6_requireItem, yX6_isLocus, yX6_placeOf, yX6_locusAt, yX6_rule, yX6_except, yX6_applyRules, yX6_applyRule, yX6_dropMirrored, yX6_hasNoSecond, yX6_likenShape, yX6_easeTurn, yX6_swapEnds, yX6_slideLetter, yX6_hasItemAhead, yX6_signed, yX6_at, yX6_readBack, yX6_signAll, yX6_ticksOfPassing, yX6_ticksOfItem, yX6_itemAtTick, yX6_placeInPassing, yX6_placeInItem, yX6_turnInItem, yX6_stepsDone, yX6_placeOnWay, yX6_kindReadBack, yX6_numberReadBack, yX6_pointingReadBack, yX6_letterReadBack, yX6_take, yX6_make, yX6_allow, yX6_withdraw, yX6_persons, yX6_mark, yX6_agree, yX6_keepClip, yX6_letGo, yX6_countTicksAlike, yX6_countTicksWithValue, yX6_countMarksShared, yX6_requireClip, yX6_requirePerson, yX6_requirePurpose, yX6_requireCoder, yX6_requireTier, yX6_isBelow, yX6_rowOf, yX6_columnOf, yX6_distance, yX6_direction, yX7_init, yX7_thrown, yX7_isIn, yX7_size, yX7_distance, yX7_placeOf, yX7_isSign, yX7_isItem, yX7_isLocus, yX7_areAlike, yX7_sign, yX7_unlike, yX7_nearest, yX7_way, yX7_writes, yX7_written, yX7_loses, yX7_isFor, yX7_itemThrown, yX7_item, yX7_clear, yX7_articulatorOf, yX7_face, yX7_over, yX7_isPointing, yX7_shownAt, yX7_shown, yX7_standsFor, yX7_rule, yX7_except, yX7_hand, yX7_gives, yX7_begins, yX7_isExcepted, yX7_isBare, yX7_changes, yX7_rulesGo, yX7_moves, yX7_least, yX7_takes, yX7_passes, yX7_beginning, yX7_signed, yX7_along, yX7_at, yX7_isJust, yX7_read, yX7_readBack, yX7_isClip, yX7_comesFrom, yX7_adds, yX7_take, yX7_make, yX7_goes, yX7_allow, yX7_withdraw, yX7_persons, yX7_areTold, yX7_row, yX7_mark, yX7_agree, yL_sign, yL_nearest, yL_written, yL_loses, yL_item, yL_face, yL_shown, yL_standsFor, yL_rule, yL_except, yL_signed, yL_at, yL_readBack, yL_take, yL_make, yL_allow, yL_withdraw, yL_persons, yL_mark, yL_agree, yL_law]
def mm_nm (y : Nat) : MethodName := (mm_nms[y]?).getD yL_law
def mm_rts : List (Option FieldType) := [none, (some FieldType.boolean), (some FieldType.boolean), (some FieldType.int), (some FieldType.boolean), none, none, none, (some FieldType.int), (some FieldType.boolean), (some FieldType.boolean), (some FieldType.boolean), none, (some FieldType.boolean), (some FieldType.boolean), none, (some FieldType.boolean), none, (some FieldType.int), none, (some FieldType.boolean), (some FieldType.boolean), none, none, (some FieldType.int), (some FieldType.int), (some FieldType.int), (some FieldType.int), (some FieldType.boolean), (some FieldType.int), (some FieldType.boolean), (some FieldType.int), (some FieldType.int), (some FieldType.boolean), none, none, (some FieldType.int), (some FieldType.int), (some FieldType.int), (some FieldType.int), (some FieldType.int), (some FieldType.boolean), (some FieldType.boolean), (some FieldType.boolean), (some FieldType.boolean), (some FieldType.int), (some FieldType.int), (some (FieldType.object "HandArchive$Hands")), (some (FieldType.object "HandArchive$Hands")), (some FieldType.boolean), (some FieldType.int), (some FieldType.int), (some FieldType.int), none, (some FieldType.boolean), (some FieldType.int), (some FieldType.int), (some FieldType.int), (some FieldType.boolean), none, none, none, (some FieldType.boolean), none, none, none, none, (some FieldType.boolean), (some FieldType.int), (some FieldType.int), (some FieldType.int), none, (some FieldType.int), (some FieldType.int), (some FieldType.int), (some FieldType.int), (some FieldType.int), (some FieldType.int), (some FieldType.int), (some FieldType.int), (some FieldType.int), (some FieldType.int), (some FieldType.int), (some FieldType.int), (some FieldType.int), (some FieldType.int), (some FieldType.int), (some FieldType.int), (some FieldType.int), (some FieldType.int), (some FieldType.int), (some FieldType.int), (some FieldType.int), (some FieldType.int), (some FieldType.int), (some FieldType.int), none, none, none, none, none, (some FieldType.boolean), (some FieldType.int), (some FieldType.int), (some FieldType.int), (some FieldType.int), none, (some FieldType.int), (some FieldType.boolean), (some FieldType.int), (some FieldType.int), (some FieldType.int), (some FieldType.boolean), (some FieldType.boolean), (some FieldType.boolean), (some FieldType.boolean), (some FieldType.int), (some FieldType.int), (some FieldType.int), (some FieldType.int), (some FieldType.int), (some FieldType.int), (some FieldType.int), (some FieldType.boolean), (some FieldType.int), (some FieldType.int), (some FieldType.int), (some FieldType.int), (some FieldType.int), (some FieldType.int), (some FieldType.boolean), (some FieldType.int), (some FieldType.int), (some FieldType.int), (some FieldType.int), (some FieldType.boolean), (some FieldType.int), none, none, (some FieldType.boolean), (some FieldType.boolean), none, none, (some FieldType.boolean), (some FieldType.int), (some FieldType.int), (some FieldType.int), (some FieldType.int), (some FieldType.int), (some FieldType.int), (some FieldType.int), (some FieldType.boolean), (some FieldType.int), (some FieldType.int), (some FieldType.boolean), (some FieldType.int), (some FieldType.int), (some FieldType.int), (some FieldType.int), (some FieldType.int), (some FieldType.int), (some FieldType.int), (some FieldType.int), (some FieldType.boolean), (some FieldType.int), (some FieldType.int), (some FieldType.int), (some FieldType.int), (some FieldType.int), (some FieldType.int), (some FieldType.int), (some FieldType.int), (some FieldType.int), (some FieldType.int), (some FieldType.int), (some FieldType.int), (some FieldType.int), (some FieldType.int), (some FieldType.int), (some FieldType.int), (some FieldType.int), (some FieldType.int), (some FieldType.int), (some FieldType.int), (some FieldType.int), (some FieldType.int), (some FieldType.int), (some FieldType.boolean)]
def mm_rt (y : Nat) : Option FieldType := (mm_rts[y]?).getD none
/-- own class, locals, parameters, kind (0 static, 1 instance, 2 constructor), rank -/
def mm_ins : List (Nat × Nat × Nat × Nat × Nat) := [(0, 5, 4, 2, 5), (0, 2, 1, 1, 0), (0, 1, 0, 1, 0), (0, 5, 2, 1, 4), (0, 7, 4, 1, 4), (0, 5, 3, 1, 4), (1, 8, 7, 2, 1), (1, 2, 1, 1, 0), (1, 3, 1, 1, 0), (1, 2, 1, 1, 1), (1, 1, 0, 1, 0), (1, 1, 0, 1, 1), (2, 5, 4, 2, 2), (2, 1, 0, 1, 0), (2, 1, 0, 1, 0), (3, 6, 5, 2, 1), (3, 3, 2, 1, 0), (3, 3, 1, 1, 1), (3, 4, 1, 1, 1), (4, 2, 1, 2, 1), (4, 2, 1, 1, 1), (4, 2, 1, 1, 2), (5, 4, 3, 2, 1), (6, 1, 0, 2, 5), (6, 10, 7, 1, 9), (6, 8, 2, 1, 8), (6, 3, 2, 1, 8), (6, 6, 2, 1, 8), (6, 4, 3, 1, 4), (6, 5, 2, 0, 1), (6, 2, 2, 0, 1), (6, 3, 1, 1, 4), (6, 4, 1, 1, 4), (6, 2, 1, 1, 1), (6, 2, 1, 1, 7), (6, 1, 1, 0, 7), (6, 5, 4, 1, 9), (6, 2, 0, 1, 1), (6, 4, 3, 1, 9), (6, 3, 2, 1, 8), (6, 3, 2, 1, 8), (6, 5, 4, 1, 2), (6, 4, 4, 0, 1), (6, 5, 4, 1, 7), (6, 3, 1, 1, 6), (6, 2, 1, 1, 5), (6, 6, 2, 1, 4), (6, 8, 4, 1, 4), (6, 3, 3, 0, 2), (6, 6, 3, 1, 4), (6, 5, 2, 1, 5), (6, 5, 2, 1, 4), (6, 1, 1, 0, 2), (6, 2, 1, 1, 7), (6, 1, 1, 0, 1), (6, 1, 1, 0, 2), (6, 2, 1, 0, 0), (6, 2, 1, 1, 9), (6, 3, 2, 1, 8), (6, 3, 0, 1, 7), (6, 4, 1, 1, 6), (6, 3, 2, 1, 5), (6, 2, 1, 1, 4), (6, 5, 2, 1, 4), (6, 4, 2, 1, 4), (6, 6, 2, 1, 4), (6, 4, 2, 1, 4), (6, 2, 1, 1, 1), (6, 4, 2, 1, 9), (6, 6, 2, 1, 9), (6, 5, 2, 1, 8), (6, 4, 0, 1, 8), (6, 2, 2, 0, 3), (6, 1, 1, 0, 3), (6, 3, 1, 1, 4), (6, 5, 2, 1, 4), (6, 2, 2, 0, 3), (6, 2, 2, 0, 3), (6, 2, 2, 0, 2), (6, 7, 3, 0, 2), (6, 2, 1, 1, 5), (6, 3, 2, 1, 5), (6, 2, 1, 0, 2), (6, 2, 1, 0, 2), (6, 2, 1, 1, 10), (6, 7, 3, 1, 10), (6, 4, 3, 1, 8), (6, 2, 1, 1, 8), (6, 3, 1, 1, 7), (6, 9, 6, 1, 9), (6, 7, 5, 1, 8), (6, 2, 1, 1, 9), (6, 7, 2, 1, 4), (6, 3, 0, 1, 0), (6, 3, 0, 1, 0), (6, 7, 3, 1, 4), (6, 2, 1, 1, 7), (6, 1, 1, 0, 7), (6, 1, 1, 0, 7), (6, 1, 1, 0, 7), (6, 1, 1, 0, 7), (6, 2, 2, 0, 0), (6, 1, 1, 0, 0), (6, 1, 1, 0, 0), (6, 2, 2, 0, 2), (6, 2, 2, 0, 0), (7, 2, 0, 2, 1), (7, 1, 0, 1, 0), (7, 3, 3, 0, 0), (7, 1, 1, 0, 0), (7, 2, 2, 0, 1), (7, 1, 1, 0, 0), (7, 2, 1, 1, 1), (7, 2, 1, 1, 1), (7, 1, 1, 0, 1), (7, 5, 2, 1, 0), (7, 11, 7, 1, 1), (7, 5, 2, 1, 0), (7, 5, 2, 1, 2), (7, 2, 2, 0, 0), (7, 6, 2, 1, 1), (7, 3, 2, 1, 2), (7, 6, 2, 1, 2), (7, 4, 1, 1, 0), (7, 6, 4, 1, 2), (7, 5, 4, 1, 3), (7, 3, 0, 1, 0), (7, 1, 1, 0, 0), (7, 5, 3, 1, 2), (7, 5, 2, 1, 1), (7, 2, 1, 1, 1), (7, 5, 2, 1, 2), (7, 3, 2, 1, 3), (7, 6, 2, 1, 2), (7, 2, 1, 1, 1), (7, 3, 2, 1, 2), (7, 3, 2, 1, 0), (7, 4, 3, 1, 0), (7, 5, 1, 1, 1), (7, 4, 2, 1, 0), (7, 2, 1, 1, 2), (7, 6, 2, 1, 3), (7, 3, 0, 1, 4), (7, 2, 1, 1, 1), (7, 1, 1, 0, 0), (7, 2, 1, 1, 2), (7, 3, 1, 1, 2), (7, 4, 1, 1, 3), (7, 4, 2, 1, 5), (7, 6, 3, 0, 0), (7, 8, 2, 1, 5), (7, 5, 2, 1, 1), (7, 9, 1, 1, 2), (7, 4, 2, 1, 5), (7, 2, 1, 1, 1), (7, 2, 1, 1, 0), (7, 5, 4, 1, 0), (7, 2, 1, 1, 1), (7, 7, 3, 1, 2), (7, 7, 2, 1, 1), (7, 4, 3, 1, 2), (7, 2, 1, 1, 2), (7, 2, 1, 1, 1), (7, 2, 2, 0, 1), (7, 3, 3, 0, 0), (7, 10, 6, 1, 2), (7, 14, 5, 1, 2), (9, 10, 9, 0, 10), (9, 5, 4, 0, 9), (9, 5, 4, 0, 9), (9, 5, 4, 0, 9), (9, 7, 6, 0, 10), (9, 6, 5, 0, 10), (9, 5, 4, 0, 9), (9, 5, 4, 0, 9), (9, 4, 3, 0, 10), (9, 5, 4, 0, 9), (9, 5, 4, 0, 10), (9, 5, 4, 0, 10), (9, 5, 4, 0, 9), (9, 4, 3, 0, 11), (9, 6, 5, 0, 11), (9, 6, 5, 0, 9), (9, 4, 3, 0, 9), (9, 4, 3, 0, 8), (9, 9, 8, 0, 10), (9, 8, 7, 0, 9), (9, 7, 1, 0, 12)]
def mm_in (y : Nat) : Nat × Nat × Nat × Nat × Nat := (mm_ins[y]?).getD (0, 0, 0, 0, 0)
def mm_hhs : List (Nat × List (Nat × Nat × Nat × Nat)) := [(167, [(0, 20, 23, 0), (0, 20, 27, 1)]), (168, [(0, 10, 13, 2), (0, 10, 17, 0)]), (169, [(0, 10, 13, 2), (0, 10, 17, 0)]), (170, [(0, 10, 13, 0)]), (171, [(0, 14, 17, 2), (0, 14, 21, 0), (0, 14, 25, 1)]), (172, [(0, 12, 15, 2), (0, 12, 19, 0), (0, 12, 23, 1)]), (173, [(0, 10, 13, 2), (0, 10, 17, 0)]), (174, [(0, 10, 13, 2)]), (175, [(0, 9, 12, 0), (0, 9, 15, 1)]), (176, [(0, 17, 20, 2)]), (177, [(0, 10, 13, 2), (0, 10, 17, 0)]), (178, [(0, 10, 13, 2), (0, 10, 17, 0)]), (179, [(0, 10, 13, 2), (0, 10, 17, 0)]), (180, [(0, 9, 12, 2), (0, 9, 15, 1)]), (181, [(0, 12, 15, 2), (0, 12, 19, 0), (0, 12, 23, 1)]), (182, [(0, 12, 15, 2), (0, 12, 19, 0)]), (183, [(0, 9, 12, 2)]), (184, [(0, 9, 12, 2)]), (185, [(0, 18, 21, 2), (0, 18, 25, 0), (0, 18, 29, 1)]), (186, [(0, 16, 19, 2), (0, 16, 23, 0)])]
def mm_hr : List (Nat × List (Nat × Nat × Nat × Nat)) := [(167, [(0, 20, 23, 13), (0, 20, 27, 15)]), (168, [(0, 10, 13, 21), (0, 10, 17, 13)]), (169, [(0, 10, 13, 21), (0, 10, 17, 13)]), (170, [(0, 10, 13, 13)]), (171, [(0, 14, 17, 21), (0, 14, 21, 13), (0, 14, 25, 15)]), (172, [(0, 12, 15, 21), (0, 12, 19, 13), (0, 12, 23, 15)]), (173, [(0, 10, 13, 21), (0, 10, 17, 13)]), (174, [(0, 10, 13, 21)]), (175, [(0, 9, 12, 13), (0, 9, 15, 15)]), (176, [(0, 17, 20, 21)]), (177, [(0, 10, 13, 21), (0, 10, 17, 13)]), (178, [(0, 10, 13, 21), (0, 10, 17, 13)]), (179, [(0, 10, 13, 21), (0, 10, 17, 13)]), (180, [(0, 9, 12, 21), (0, 9, 15, 15)]), (181, [(0, 12, 15, 21), (0, 12, 19, 13), (0, 12, 23, 15)]), (182, [(0, 12, 15, 21), (0, 12, 19, 13)]), (183, [(0, 9, 12, 21)]), (184, [(0, 9, 12, 21)]), (185, [(0, 18, 21, 21), (0, 18, 25, 13), (0, 18, 29, 15)]), (186, [(0, 16, 19, 21), (0, 16, 23, 13)])]
def mm_ivt : List (Nat × Nat) := [(3, 1005), (27, 1004), (36, 1000), (40, 1001), (46, 16), (56, 17), (1003, 1005), (1033, 8), (1037, 10), (2003, 1005), (2048, 6), (3001, 1005), (3025, 101), (4003, 1005), (4019, 101), (4023, 20), (5001, 1005), (6001, 1005), (6009, 1004), (6038, 101), (6049, 30), (6054, 1000), (6065, 6), (6068, 31), (6074, 1002), (6078, 34), (6084, 1001), (6088, 8), (6091, 35), (6094, 29), (6098, 28), (6121, 102), (6125, 105), (6129, 103), (6132, 9), (6136, 33), (6147, 41), (6153, 42), (6160, 43), (6167, 47), (6171, 12), (6174, 1003), (6177, 53), (6184, 52), (6187, 49), (6194, 22), (6199, 50), (6202, 54), (6207, 46), (6210, 45), (6213, 44), (6228, 48), (6232, 55), (6243, 51), (6246, 13), (6250, 1007), (6263, 19), (6267, 21), (6277, 7), (6281, 60), (6285, 14), (6288, 20), (6292, 61), (6296, 63), (6299, 64), (6302, 65), (6305, 66), (6308, 62), (6311, 67), (6314, 1006), (6317, 10), (6320, 104), (6323, 71), (6337, 74), (6340, 75), (6343, 76), (6347, 77), (6350, 59), (6353, 80), (6357, 81), (6360, 32), (6363, 72), (6367, 73), (6370, 79), (6374, 78), (6377, 1008), (6380, 82), (6383, 83), (6386, 11), (6389, 56), (6392, 97), (6399, 0), (6402, 91), (6406, 96), (6409, 98), (6417, 92), (6426, 99), (6429, 100), (6434, 3), (6439, 4), (6449, 15), (6452, 5), (6456, 93), (6459, 94), (6462, 95), (6466, 1), (6472, 2), (6475, 16), (6478, 18), (7001, 1005), (7082, 109), (7089, 108), (7096, 115), (7100, 112), (7104, 117), (7108, 119), (7111, 120), (7114, 114), (7117, 123), (7120, 124), (7127, 113), (7130, 127), (7133, 129), (7136, 130), (7139, 131), (7145, 137), (7149, 111), (7152, 136), (7155, 140), (7158, 110), (7161, 138), (7165, 139), (7168, 141), (7172, 143), (7175, 144), (7178, 146), (7181, 145), (7184, 142), (7187, 147), (7190, 149), (7194, 151), (7197, 152), (7203, 156), (7206, 154), (7209, 155), (7212, 159), (7215, 163), (7218, 164), (9007, 24), (9017, 25), (9023, 26), (9026, 27), (9029, 36), (9033, 38), (9037, 39), (9040, 40), (9043, 57), (9047, 58), (9051, 68), (9054, 69), (9057, 70), (9060, 84), (9063, 85), (9066, 86), (9070, 87), (9073, 88), (9076, 89), (9080, 90), (9084, 23), (9087, 106), (9088, 167), (9093, 116), (9094, 107), (9098, 168), (9101, 118), (9102, 169), (9104, 121), (9105, 170), (9107, 122), (9108, 171), (9111, 125), (9112, 37), (9115, 126), (9116, 172), (9119, 128), (9120, 173), (9122, 132), (9123, 174), (9125, 133), (9126, 175), (9129, 134), (9130, 176), (9132, 135), (9133, 177), (9135, 148), (9136, 178), (9138, 150), (9139, 179), (9141, 153), (9142, 180), (9144, 157), (9145, 181), (9147, 158), (9148, 182), (9151, 160), (9152, 183), (9154, 161), (9155, 184), (9157, 162), (9158, 185), (9161, 165), (9162, 186), (9165, 166)]
def mm_fdt : List (Nat × Nat) := [(9, 0), (15, 10), (18, 21), (22, 31), (28, 41), (32, 52), (50, 3020), (53, 3030), (1009, 1000), (1015, 1010), (1018, 1020), (1021, 1030), (1024, 1040), (1027, 1050), (1030, 1060), (2009, 2000), (2015, 2010), (2018, 2020), (2021, 2031), (2027, 1000), (2030, 1010), (2033, 1020), (2036, 1030), (2039, 1040), (2042, 1050), (2045, 1060), (2051, 2041), (3007, 3000), (3013, 3010), (3016, 3020), (3019, 3030), (3022, 3040), (4009, 4000), (4015, 4011), (5007, 5000), (5013, 5010), (5016, 5020), (6010, 6001), (6016, 6011), (6019, 6021), (6022, 6031), (6025, 6041), (6028, 6051), (6032, 6061), (6035, 6071), (6102, 1000), (6106, 1010), (6109, 1020), (6112, 1030), (6115, 1040), (6118, 1050), (6219, 2000), (6222, 2010), (6225, 2020), (6235, 1060), (6238, 5000), (6241, 5010), (6242, 5020), (6270, 2041), (6274, 2031), (6291, 4000), (6326, 2050), (6329, 2060), (6332, 2070), (6412, 0), (6422, 52), (6444, 41), (6469, 10), (6482, 3030), (6483, 3020), (7007, 7011), (7013, 7031), (7016, 7041), (7019, 7051), (7022, 7061), (7025, 7071), (7028, 7091), (7031, 7101), (7034, 7111), (7037, 7131), (7040, 7141), (7043, 7161), (7047, 7171), (7050, 7181), (7053, 7191), (7056, 7201), (7059, 7211), (7063, 7221), (7066, 7231), (7069, 7241), (7072, 7251), (7075, 7261), (7078, 7270), (7086, 7000), (7093, 7020), (7124, 7080), (7142, 7120), (7200, 7150)]
def mm_nwt : List (Nat × Nat) := [(25, 8), (2025, 1), (6007, 8), (6042, 100), (6058, 101), (6063, 1), (6140, 102), (6165, 2), (6192, 5), (6261, 4), (6397, 0), (6447, 3), (9008, 6), (9085, 7)]
def mm_cct : List (Nat × Nat) := [(44, 3), (6063, 1), (6165, 2), (6192, 5), (6261, 4), (6397, 0), (6447, 3)]
def mm_kt : List (Nat × Nat) := [(7062, 57600)]
def mm_fin : List Nat := [0, 1, 2, 3, 4, 200, 201, 202, 203, 204, 300, 301, 302, 303, 304, 400, 401, 500, 501, 502, 600, 601, 602, 603, 604, 605, 606, 607, 701, 703, 704, 705, 706, 707, 709, 710, 711, 713, 714, 716, 717, 718, 719, 720, 721, 722, 723, 724, 725, 726]
def mm_dfl : List (List Value) := [[.int 0, .int 0, .null, .null, .null, .int 0], [.int 0, .int 0, .int 0, .int 0, .int 0, .int 0, .int 0], [.int 0, .int 0, .int 0, .null, .null, .int 0, .int 0, .int 0], [.int 0, .int 0, .int 0, .int 0, .int 0], [.int 0, .null], [.int 0, .int 0, .int 0], [.null, .null, .null, .null, .null, .null, .null, .null], [.int 0, .null, .int 0, .null, .null, .null, .null, .null, .int 0, .null, .null, .null, .int 0, .null, .null, .int 0, .null, .null, .null, .null, .null, .null, .null, .null, .null, .null, .null, .int 0], [.int 0, .null, .int 0]]
abbrev mm_cls : List vw_C := [(RX0, TX0, 6), (RX1, TX1, 7), (RX2, TX2, 8), (RX3, TX3, 5), (RX4, TX4, 2), (RX5, TX5, 3), (RX6, TX6, 8), (RX7, TX7, 28), (RJx4a65c, TJx4a65c, 3)]
end
section
/-! THE MINI MACHINE: the class's, the reference's and the law's bytecode over an abstract heap. Lists, Math and throw-sites are primitives. -/
abbrev mm_O : Type := (Nat × List Value) ⊕ ((Nat × Nat × (Nat → Int32)) ⊕ ((Nat × (Nat → Int64)) ⊕ List Nat))
/-- heap, next address, cells made, slots made -/
abbrev mm_S : Type := (Nat → Option mm_O) × Nat × Nat × Nat
abbrev mm_R : Type := (Option Value ⊕ Nat) × mm_S
abbrev mm_C : Type := Nat → Nat → List Value → List Value → mm_S → Option mm_R
def mm_un : Value := .retAddr 0
def mm_lk : List (Nat × Nat) → Nat → Option Nat
  | [], _ => none
  | (a, b) :: r, k => if a = k then some b else mm_lk r k
def mm_lh : List (Nat × List (Nat × Nat × Nat × Nat)) → Nat → List (Nat × Nat × Nat × Nat)
  | [], _ => []
  | (a, b) :: r, k => if a = k then b else mm_lh r k
def mm_own (y : Nat) : Nat := (mm_in y).1
def mm_mx (y : Nat) : Nat := (mm_in y).2.1
def mm_np (y : Nat) : Nat := (mm_in y).2.2.1
def mm_kd (y : Nat) : Nat := (mm_in y).2.2.2.1
def mm_rk (y : Nat) : Nat := (mm_in y).2.2.2.2
def mm_key (y i : Nat) : Nat := mm_own y * 1000 + i
def mm_lu (t : List (Nat × Nat)) (y i : Nat) : Option Nat := if i < 1000 then mm_lk t (mm_key y i) else none
/-- the handler that takes exception E at pc -/
def mm_hd : List (Nat × Nat × Nat × Nat) → Nat → Nat → Option Nat
  | [], _, _ => none
  | (a, b, h, x) :: r, pc, E => if a ≤ pc ∧ pc < b ∧ x = E then some h else mm_hd r pc E
def mm_put (σ : mm_S) (k : Nat) (o : mm_O) : mm_S := (fun j => if j = k then some o else σ.1 j, σ.2)
def mm_new (σ : mm_S) (o : mm_O) (n : Nat) : mm_S := (fun j => if j = σ.2.1 then some o else σ.1 j, σ.2.1 + 1, σ.2.2.1 + 1, σ.2.2.2 + n)
def mm_bmp (σ : mm_S) (c n : Nat) : mm_S := (σ.1, σ.2.1, σ.2.2.1 + c, σ.2.2.2 + n)
-- what lies on the stack
def mm_p1 (st : List Value) (k : Int32 → List Value → Option mm_R) : Option mm_R := match st with
  | .int a :: r => k a r
  | _ => none
def mm_p2 (st : List Value) (k : Int32 → Int32 → List Value → Option mm_R) : Option mm_R := match st with
  | .int b :: .int a :: r => k a b r
  | _ => none
def mm_l2 (st : List Value) (k : Int64 → Int64 → List Value → Option mm_R) : Option mm_R := match st with
  | .long b :: .long a :: r => k a b r
  | _ => none
def mm_pr (st : List Value) (k : Nat → List Value → Option mm_R) : Option mm_R := match st with
  | .ref a :: r => k a r
  | _ => none
def mm_pi (st : List Value) (k : Nat → Int32 → List Value → Option mm_R) : Option mm_R := match st with
  | .int i :: .ref a :: r => k a i r
  | _ => none
def mm_pii (st : List Value) (k : Nat → Int32 → Int32 → List Value → Option mm_R) : Option mm_R := match st with
  | .int x :: .int i :: .ref a :: r => k a i x r
  | _ => none
def mm_pil (st : List Value) (k : Nat → Int32 → Int64 → List Value → Option mm_R) : Option mm_R := match st with
  | .long x :: .int i :: .ref a :: r => k a i x r
  | _ => none
def mm_pv (st : List Value) (k : Value → Nat → List Value → Option mm_R) : Option mm_R := match st with
  | v :: .ref a :: r => k v a r
  | _ => none
def mm_rr (st : List Value) (k : Nat → Nat → List Value → Option mm_R) : Option mm_R := match st with
  | .ref v :: .ref a :: r => k v a r
  | _ => none
def mm_nl (st : List Value) (kn kr : List Value → Option mm_R) : Option mm_R := match st with
  | .null :: r => kn r
  | .ref _ :: r => kr r
  | _ => none
/-- a value of one word that may be moved about -/
def mm_ok1 (v : Value) : Bool := match v with
  | .int _ => true
  | .ref _ => true
  | .null => true
  | _ => false
def mm_s1 (st : List Value) (k : Value → List Value → Option mm_R) : Option mm_R := match st with
  | v :: r => if mm_ok1 v = true then k v r else none
  | _ => none
def mm_s2 (st : List Value) (k : Value → Value → List Value → Option mm_R) : Option mm_R := match st with
  | v :: w :: r => if mm_ok1 v = true ∧ mm_ok1 w = true then k v w r else none
  | _ => none
def mm_lvi (ls : List Value) (n : Nat) : Option Int32 := match ls[n]? with
  | some (.int x) => some x
  | _ => none
def mm_lvr (ls : List Value) (n : Nat) : Option Value := match ls[n]? with
  | some (.ref x) => some (.ref x)
  | some .null => some .null
  | _ => none
def mm_isr (v : Value) : Bool := match v with
  | .ref _ => true
  | .null => true
  | _ => false
def mm_tg (pc : Nat) (off : Int) (k : Nat → Option mm_R) : Option mm_R := if 0 ≤ (pc : Int) + off then k ((pc : Int) + off).toNat else none
def mm_if (c : ClassFile.Cond) (a b : Int32) (t f : Option mm_R) : Option mm_R := match c with
  | .eq => if a = b then t else f
  | .ne => if a = b then f else t
  | .lt => if a < b then t else f
  | .ge => if b ≤ a then t else f
  | .gt => if b < a then t else f
  | .le => if a ≤ b then t else f
-- the heap
def mm_fld (σ : mm_S) (a ci k : Nat) : Option Value := match σ.1 a with
  | some (.inl (c, fs)) => if c = ci then fs[k]? else none
  | _ => none
def mm_geti (σ : mm_S) (a ci k : Nat) : Option Int32 := match mm_fld σ a ci k with
  | some (.int x) => some x
  | _ => none
def mm_getr (σ : mm_S) (a ci k : Nat) : Option Value := match mm_fld σ a ci k with
  | some (.ref x) => some (.ref x)
  | some .null => some .null
  | _ => none
def mm_setf (σ : mm_S) (a ci k : Nat) (v : Value) : Option mm_S := match σ.1 a with
  | some (.inl (c, fs)) => if c = ci ∧ k < fs.length then some (mm_put σ a (.inl (c, fs.set k v))) else none
  | _ => none
/-- kinds: 0 int, 1 boolean, 2 int, read alone -/
def mm_arr (σ : mm_S) (a : Nat) : Option (Nat × Nat × (Nat → Int32)) := match σ.1 a with
  | some (.inr (.inl x)) => some x
  | _ => none
def mm_lar (σ : mm_S) (a : Nat) : Option (Nat × (Nat → Int64)) := match σ.1 a with
  | some (.inr (.inr (.inl x))) => some x
  | _ => none
def mm_lst (σ : mm_S) (a : Nat) : Option (List Nat) := match σ.1 a with
  | some (.inr (.inr (.inr x))) => some x
  | _ => none
def mm_len (σ : mm_S) (a : Nat) : Option Nat := match σ.1 a with
  | some (.inr (.inl x)) => some x.2.1
  | some (.inr (.inr (.inl x))) => some x.1
  | _ => none
def mm_ald (σ : mm_S) (a : Nat) (i : Int32) (b : Bool) : Option Int32 := (mm_arr σ a).bind fun x =>
  if (i < 0 ∨ x.2.1 ≤ i.toNatClampNeg) then none else if (x.1 == 1) = b then some (x.2.2 i.toNatClampNeg) else none
def mm_ast (σ : mm_S) (a : Nat) (i : Int32) (kd : Nat) (v : Int32) : Option mm_S := (mm_arr σ a).bind fun x =>
  if (i < 0 ∨ x.2.1 ≤ i.toNatClampNeg) then none else if x.1 = kd then some (mm_put σ a (.inr (.inl (x.1, x.2.1, upd x.2.2 i.toNatClampNeg v)))) else none
def mm_ci (σ : mm_S) (a : Nat) : Option Nat := match σ.1 a with
  | some (.inl (c, _)) => some c
  | _ => none
def mm_fr (σ : mm_S) (a : Nat) : Bool := match σ.1 a with
  | some (.inl (c, [.int x, .null, .int z])) => c == 8 && x == 0 && z == 0
  | _ => false
-- calls
def mm_ret (r : Option mm_R) (k : Option Value → mm_S → Option mm_R) (x : Nat → mm_S → Option mm_R) : Option mm_R := match r with
  | some (.inl v, σ) => k v σ
  | some (.inr E, σ) => x E σ
  | none => none
/-- the handler's first row stores the exception: its slot is not looked at again -/
def mm_hs (y h : Nat) : Option (Nat × Nat) := match decode (mm_by y) h with
  | .ok (.astore n, 2) => some (n, h + 2)
  | .ok (.astore_n n, 1) => some (n.val, h + 1)
  | _ => none
def mm_cat (rec : mm_C) (y pc : Nat) (ls : List Value) (E : Nat) (σ : mm_S) : Option mm_R := match mm_hd (mm_lh mm_hhs y) pc E with
  | none => if mm_lh mm_hr y = [] then some (.inr E, σ) else none
  | some h => (mm_hs y h).bind fun q => if q.1 < ls.length then rec y q.2 (ls.set q.1 mm_un) [] σ else none
def mm_cats (st : List Value) : Nat := (st.map fun v => v.category).sum
def mm_ent (z : Nat) (As : List Value) : List Value := As ++ List.replicate (mm_mx z - As.length) mm_un
def mm_call (rec : mm_C) (y pc : Nat) (ls : List Value) (z : Nat) (As rest : List Value) (σ : mm_S) : Option mm_R :=
  if mm_cats rest ≤ 8 ∧ mm_rk z < mm_rk y ∧ z < 187 ∧ mm_mx z ≤ 11 ∧ As.length ≤ mm_mx z ∧ As.all mm_ok1 = true then
    mm_ret (rec z 0 (mm_ent z As) [] σ) (fun v σ => rec y (pc + 3) ls (v.toList ++ rest) σ) (fun E σ => mm_cat rec y pc ls E σ)
  else none
def mm_prim (rec : mm_C) (y pc : Nat) (ls st : List Value) (σ : mm_S) (q : Nat) : Option mm_R := match q with
  | 0 => if 1 < mm_rk y then mm_pr st fun a r => (mm_lst σ a).bind fun l => if mm_cats r ≤ 8 then rec y (pc + 3) ls (.int (Int32.ofNat l.length) :: r) σ else none else none
  | 1 => if 4 ≤ mm_rk y then mm_pi st fun a i r => (mm_lst σ a).bind fun l => if mm_cats r ≤ 8 then (if i < 0 ∨ l.length ≤ i.toNatClampNeg then none else
      (l[i.toNatClampNeg]?).bind fun v => rec y (pc + 3) ls (.ref v :: r) σ) else none else none
  | 2 => if 9 ≤ mm_rk y then mm_rr st fun v a r => (mm_lst σ a).bind fun l => if mm_cats r ≤ 8 ∧ l.length < 60000 then
        rec y (pc + 3) ls (.int 1 :: r) (mm_bmp (mm_put σ a (.inr (.inr (.inr (l ++ [v]))))) 1 (2 * l.length + 10)) else none else none
  | 3 => if 1 ≤ mm_rk y then mm_pr st fun a r => (mm_lst σ a).bind fun l => if mm_cats r ≤ 8 then rec y (pc + 3) ls r (mm_put σ a (.inr (.inr (.inr [])))) else none else none
  | 4 => if 5 ≤ mm_rk y then mm_pr st fun a r => if mm_fr σ a = true ∧ mm_cats r ≤ 8 then rec y (pc + 3) ls r (mm_put σ a (.inr (.inr (.inr [])))) else none else none
  | 5 => if 1 ≤ mm_rk y then mm_pr st fun a r => if mm_cats r ≤ 8 then rec y (pc + 3) ls r σ else none else none
  | 6 => if 2 ≤ mm_rk y then mm_p1 st fun x r => if mm_cats r ≤ 8 then rec y (pc + 3) ls (.int (if 0 ≤ x then x else 0 - x) :: r) σ else none else none
  | 7 => if 2 ≤ mm_rk y then mm_p2 st fun x z r => if mm_cats r ≤ 8 then rec y (pc + 3) ls (.int (if x < z then z else x) :: r) σ else none else none
  | 8 => if 2 ≤ mm_rk y then mm_p2 st fun x z r => if mm_cats r ≤ 8 then rec y (pc + 3) ls (.int (if z < x then z else x) :: r) σ else none else none
  | _ => none
/-- the arguments on the stack, the last on top; an instance's receiver beneath them, of the class of the method -/
def mm_inv (rec : mm_C) (y pc : Nat) (ls st : List Value) (σ : mm_S) (z kd : Nat) : Option mm_R :=
  if mm_kd z = kd ∧ mm_np z ≤ st.length then (
    if kd = 0 then mm_call rec y pc ls z (st.take (mm_np z)).reverse (st.drop (mm_np z)) σ
    else mm_pr (st.drop (mm_np z)) fun a r => (mm_ci σ a).bind fun c => if c = mm_own z then mm_call rec y pc ls z (.ref a :: (st.take (mm_np z)).reverse) r σ else none) else none
def mm_ivk (rec : mm_C) (y pc : Nat) (ls st : List Value) (σ : mm_S) (i kd : Nat) (lo hi : Nat) : Option mm_R := match mm_lu mm_ivt y i with
  | none => none
  | some z => if z < 1000 then mm_inv rec y pc ls st σ z kd else if lo ≤ z ∧ z ≤ hi then mm_prim rec y pc ls st σ (z - 1000) else none
def mm_sto (rec : mm_C) (y pc : Nat) (ls : List Value) (n : Nat) (v : Value) (r : List Value) (σ : mm_S) : Option mm_R := if n < ls.length then rec y pc (ls.set n v) r σ else none
def mm_lod (rec : mm_C) (y pc : Nat) (ls : List Value) (n : Nat) (st : List Value) (σ : mm_S) (i : Bool) : Option mm_R :=
  if i = true then (mm_lvi ls n).bind fun x => rec y pc ls (.int x :: st) σ else (mm_lvr ls n).bind fun v => rec y pc ls (v :: st) σ
def mm_pf (y d : Nat) (v : Value) : Bool := (match d % 10, v with
  | 0, .int _ => true
  | 1, .ref _ => true
  | 1, .null => true
  | 2, .int x => x == 0 || x == 1
  | _, _ => false) && (!(mm_fin.contains (d / 1000 * 100 + d / 10 % 100)) || (mm_kd y == 2 && mm_own y == d / 1000))
def mm_rtn (y : Nat) (v : Value) : Bool := match mm_rt y, v with
  | some .int, .int _ => true
  | some .boolean, .int x => x == 0 || x == 1
  | some (.object _), .ref _ => true
  | _, _ => false
def mm_xic (E : Nat) : Nat := match E with
  | 0 => 46
  | 1 => 62
  | _ => 144
def mm_str : List (Nat × String) := tables_1.filterMap fun w => match w with
  | .stringRef own k tx => if own = RX6 then some (k, tx) else none
  | _ => none
/-- new X; dup; ldc text; invokespecial X.<init>; athrow -/
def mm_thr (y pc E : Nat) : Bool := match decode (mm_by y) (pc + 3), decode (mm_by y) (pc + 4) with
  | .ok (.dup, 1), .ok (.ldc i, 2) => decide (decode (mm_by y) (pc + 6) = .ok (.invokespecial (mm_xic E), 3)) && decide (decode (mm_by y) (pc + 9) = .ok (.athrow, 1)) && mm_str.any (fun q => q.1 == i)
  | .ok (.dup, 1), .ok (.ldc_w i, 3) => decide (decode (mm_by y) (pc + 7) = .ok (.invokespecial (mm_xic E), 3)) && decide (decode (mm_by y) (pc + 10) = .ok (.athrow, 1)) && mm_str.any (fun q => q.1 == i)
  | _, _ => false
def mm_step (rec : mm_C) (y pc : Nat) (ls st : List Value) (σ : mm_S) (i : ClassFile.Instr) (len : Nat) : Option mm_R := match i with
  | .iconst n => if len = 1 then rec y (pc + 1) ls (.int (Int32.ofInt n) :: st) σ else none
  | .bipush n => if len = 2 then rec y (pc + 2) ls (.int (Int8.ofInt n).toInt32 :: st) σ else none
  | .sipush n => if len = 3 then rec y (pc + 3) ls (.int (Int16.ofInt n).toInt32 :: st) σ else none
  | .lconst n => if len = 1 then rec y (pc + 1) ls (.long (Int64.ofNat n.val) :: st) σ else none
  | .aconst_null => if len = 1 then rec y (pc + 1) ls (.null :: st) σ else none
  | .ldc k => if len = 2 then (mm_lu mm_kt y k).bind fun v => rec y (pc + 2) ls (.int (Int32.ofNat v) :: st) σ else none
  | .iload_n n => if len = 1 then mm_lod rec y (pc + 1) ls n.val st σ true else none
  | .iload n => if len = 2 then mm_lod rec y (pc + 2) ls n st σ true else none
  | .aload_n n => if len = 1 then mm_lod rec y (pc + 1) ls n.val st σ false else none
  | .aload n => if len = 2 then mm_lod rec y (pc + 2) ls n st σ false else none
  | .istore_n n => if len = 1 then mm_p1 st fun a r => mm_sto rec y (pc + 1) ls n.val (.int a) r σ else none
  | .istore n => if len = 2 then mm_p1 st fun a r => mm_sto rec y (pc + 2) ls n (.int a) r σ else none
  | .astore_n n => if len = 1 then mm_pr st fun a r => mm_sto rec y (pc + 1) ls n.val (.ref a) r σ else none
  | .astore n => if len = 2 then mm_pr st fun a r => mm_sto rec y (pc + 2) ls n (.ref a) r σ else none
  | .iinc n d => if len = 3 then (mm_lvi ls n).bind fun x => rec y (pc + 3) (ls.set n (.int (x + Int32.ofInt d))) st σ else none
  | .dup => if len = 1 then mm_s1 st fun v r => rec y (pc + 1) ls (v :: v :: r) σ else none
  | .dup_x1 => if len = 1 then mm_s2 st fun v w r => rec y (pc + 1) ls (v :: w :: v :: r) σ else none
  | .dup2 => if len = 1 then mm_s2 st fun v w r => rec y (pc + 1) ls (v :: w :: v :: w :: r) σ else none
  | .pop => if len = 1 then mm_s1 st fun v r => rec y (pc + 1) ls r σ else none
  | .iadd => if len = 1 then mm_p2 st fun a b r => rec y (pc + 1) ls (.int (a + b) :: r) σ else none
  | .isub => if len = 1 then mm_p2 st fun a b r => rec y (pc + 1) ls (.int (a - b) :: r) σ else none
  | .imul => if len = 1 then mm_p2 st fun a b r => rec y (pc + 1) ls (.int (a * b) :: r) σ else none
  | .idiv => if len = 1 then mm_p2 st fun a b r => if b = 0 then none else rec y (pc + 1) ls (.int (a / b) :: r) σ else none
  | .irem => if len = 1 then mm_p2 st fun a b r => if b = 0 then none else rec y (pc + 1) ls (.int (a - a / b * b) :: r) σ else none
  | .ineg => if len = 1 then mm_p1 st fun a r => rec y (pc + 1) ls (.int (-a) :: r) σ else none
  | .iand => if len = 1 then mm_p2 st fun a b r => rec y (pc + 1) ls (.int (a &&& b) :: r) σ else none
  | .ior => if len = 1 then mm_p2 st fun a b r => rec y (pc + 1) ls (.int (a ||| b) :: r) σ else none
  | .ixor => if len = 1 then mm_p2 st fun a b r => rec y (pc + 1) ls (.int (a ^^^ b) :: r) σ else none
  | .ishl => if len = 1 then mm_p2 st fun a b r => rec y (pc + 1) ls (.int (a <<< (b &&& 31)) :: r) σ else none
  | .ishr => if len = 1 then mm_p2 st fun a b r => rec y (pc + 1) ls (.int (a >>> (b &&& 31)) :: r) σ else none
  | .i2l => if len = 1 then mm_p1 st fun a r => rec y (pc + 1) ls (.long a.toInt64 :: r) σ else none
  | .lcmp => if len = 1 then mm_l2 st fun a b r => rec y (pc + 1) ls (.int (lg_cmp a b) :: r) σ else none
  | .goto off => if len = 3 then mm_tg pc off fun t => rec y t ls st σ else none
  | .ifCond c off => if len = 3 then mm_p1 st fun a r => mm_tg pc off fun t => mm_if c a 0 (rec y t ls r σ) (rec y (pc + 3) ls r σ) else none
  | .if_icmp c off => if len = 3 then mm_p2 st fun a b r => mm_tg pc off fun t => mm_if c a b (rec y t ls r σ) (rec y (pc + 3) ls r σ) else none
  | .ifnull off => if len = 3 then mm_nl st (fun r => mm_tg pc off fun t => rec y t ls r σ) (fun r => rec y (pc + 3) ls r σ) else none
  | .tableswitch d lo hi offs => mm_p1 st fun a r => if a.toInt < lo ∨ hi < a.toInt then mm_tg pc d fun t => rec y t ls r σ else
      (offs[(a.toInt - lo).toNat]?).bind fun off => mm_tg pc off fun t => rec y t ls r σ
  | .lookupswitch d ps => mm_p1 st fun a r => if (ps.toList.zip (ps.toList.drop 1)).all (fun (x, next) => x.1 < next.1) = true then
      mm_tg pc (Op.lookupswitch.offset ps.toList d a.toInt) fun t => rec y t ls r σ else none
  | .arraylength => if len = 1 then mm_pr st fun a r => (mm_len σ a).bind fun n => rec y (pc + 1) ls (.int (Int32.ofNat n) :: r) σ else none
  | .iaload => if len = 1 then mm_pi st fun a j r => (mm_ald σ a j false).bind fun x => rec y (pc + 1) ls (.int x :: r) σ else none
  | .baload => if len = 1 then mm_pi st fun a j r => (mm_ald σ a j true).bind fun x => rec y (pc + 1) ls (.int x :: r) σ else none
  | .iastore => if len = 1 then mm_pii st fun a j x r => (mm_ast σ a j 0 x).bind fun σ => rec y (pc + 1) ls r σ else none
  | .bastore => if len = 1 then mm_pii st fun a j x r => if x = 0 ∨ x = 1 then (mm_ast σ a j 1 x).bind fun σ => rec y (pc + 1) ls r σ else none else none
  | .laload => if len = 1 then mm_pi st fun a j r => (mm_lar σ a).bind fun x => if j < 0 ∨ x.1 ≤ j.toNatClampNeg then none else rec y (pc + 1) ls (.long (x.2 j.toNatClampNeg) :: r) σ else none
  | .lastore => if len = 1 then mm_pil st fun a j v r => (mm_lar σ a).bind fun x => if j < 0 ∨ x.1 ≤ j.toNatClampNeg then none else
      rec y (pc + 1) ls r (mm_put σ a (.inr (.inr (.inl (x.1, vp_updL x.2 j.toNatClampNeg v))))) else none
  | .getfield k => if len = 3 then (mm_lu mm_fdt y k).bind fun d => mm_pr st fun a r =>
      if d % 10 = 1 then (mm_getr σ a (d / 1000) (d / 10 % 100)).bind fun v => rec y (pc + 3) ls (v :: r) σ
      else (mm_geti σ a (d / 1000) (d / 10 % 100)).bind fun x => rec y (pc + 3) ls (.int x :: r) σ else none
  | .putfield k => if len = 3 then (mm_lu mm_fdt y k).bind fun d => mm_pv st fun v a r =>
      if mm_pf y d v = true then (mm_setf σ a (d / 1000) (d / 10 % 100) v).bind fun σ => rec y (pc + 3) ls r σ else none else none
  | .getstatic k => if len = 3 ∧ mm_own y = 6 ∧ k = 216 then rec y (pc + 3) ls (.ref 1 :: st) σ else none
  | .new k => if len = 3 then (mm_lu mm_nwt y k).bind fun c =>
      if c < 100 then (mm_dfl[c]?).bind fun fs => rec y (pc + 3) ls (.ref σ.2.1 :: st) (mm_new σ (.inl (c, fs)) fs.length)
      else if mm_cats st ≤ 8 ∧ 7 ≤ mm_rk y ∧ mm_lh mm_hr y = [] ∧ mm_own y = 6 ∧ mm_thr y pc (c - 100) = true then some (.inr (c - 100), mm_bmp σ 1 6) else none else none
  | .newarray t => if len = 2 then mm_p1 st fun n r => if n < 0 ∨ 100000 < n.toNatClampNeg then none else (match t with
    | .int => rec y (pc + 2) ls (.ref σ.2.1 :: r) (mm_new σ (.inr (.inl (0, n.toNatClampNeg, fun _ => 0))) n.toNatClampNeg)
    | .boolean => rec y (pc + 2) ls (.ref σ.2.1 :: r) (mm_new σ (.inr (.inl (1, n.toNatClampNeg, fun _ => 0))) n.toNatClampNeg)
    | .long => rec y (pc + 2) ls (.ref σ.2.1 :: r) (mm_new σ (.inr (.inr (.inl (n.toNatClampNeg, fun _ => 0)))) n.toNatClampNeg)
    | _ => none) else none
  | .checkcast k => if len = 3 then (mm_lu mm_cct y k).bind fun c => mm_pr st fun a r => (mm_ci σ a).bind fun ci => if ci = c then rec y (pc + 3) ls (.ref a :: r) σ else none else none
  | .invokestatic k => if len = 3 then mm_ivk rec y pc ls st σ k 0 1006 1008 else none
  | .invokevirtual k => if len = 3 then mm_ivk rec y pc ls st σ k 1 1000 1003 else none
  | .invokespecial k => if len = 3 then mm_ivk rec y pc ls st σ k 2 1004 1005 else none
  | .ireturn => if len = 1 then (match st with
    | [.int x] => if mm_rtn y (.int x) = true then some (.inl (some (.int x)), σ) else none
    | _ => none) else none
  | .areturn => if len = 1 then (match st with
    | [.ref x] => if mm_rtn y (.ref x) = true then some (.inl (some (.ref x)), σ) else none
    | _ => none) else none
  | .return_ => if len = 1 ∧ st = [] ∧ mm_rt y = none then some (.inl none, σ) else none
  | _ => none
def mm_run : Nat → mm_C
  | 0 => fun _ _ _ _ _ => none
  | n + 1 => fun y pc ls st σ => match decode (mm_by y) pc with
    | .ok (i, len) => mm_step (mm_run n) y pc ls st σ i len
    | _ => none
end
section
/-! THE LIMIT of the mini machine over its fuel: an equation of its own, and an induction. -/
def mm_le (f g : Option mm_R) : Prop := ∀ r, f = some r → g = some r
theorem mm_le.rf (f : Option mm_R) : mm_le f f := fun _ h => h
def mm_fle (f g : mm_C) : Prop := ∀ y pc ls st σ, mm_le (f y pc ls st σ) (g y pc ls st σ)
noncomputable def mm_L : mm_C := fun y pc ls st σ =>
  @dite _ (∃ r, ∃ n, mm_run n y pc ls st σ = some r) (Classical.propDecidable _) (fun h => some (Classical.choose h)) (fun _ => none)
/-- all that grows with the fuel, and comes from a fuel -/
def mm_co (F : mm_C → Option mm_R) : Prop := (∀ f g, mm_fle f g → mm_le (F f) (F g)) ∧ ((∀ n, mm_fle (mm_run n) (mm_run (n + 1))) → ∀ r, F mm_L = some r → ∃ n, F (mm_run n) = some r)
theorem mm_run_up (hm : ∀ n, mm_fle (mm_run n) (mm_run (n + 1))) (n k : Nat) : mm_fle (mm_run n) (mm_run (n + k)) := by
  induction k with
  | zero => exact fun _ _ _ _ _ _ h => h
  | succ k ih => exact fun y pc ls st σ r h => hm (n + k) _ _ _ _ _ r (ih y pc ls st σ r h)
theorem mm_L_of (hm : ∀ n, mm_fle (mm_run n) (mm_run (n + 1))) {n y pc : Nat} {ls st : List Value} {σ : mm_S} {r : mm_R} (h : mm_run n y pc ls st σ = some r) : mm_L y pc ls st σ = some r := by
  have hx : ∃ r, ∃ n, mm_run n y pc ls st σ = some r := ⟨r, n, h⟩
  unfold mm_L
  rw [dif_pos hx]
  obtain ⟨n', h'⟩ := Classical.choose_spec hx
  have h1 := mm_run_up hm n n' y pc ls st σ _ h
  have h2 := mm_run_up hm n' n y pc ls st σ _ h'
  rw [Nat.add_comm] at h2
  rw [h1] at h2
  exact h2.symm
theorem mm_L_to {y pc : Nat} {ls st : List Value} {σ : mm_S} {r : mm_R} (h : mm_L y pc ls st σ = some r) : ∃ n, mm_run n y pc ls st σ = some r := by
  by_cases hx : ∃ r, ∃ n, mm_run n y pc ls st σ = some r
  · unfold mm_L at h
    rw [dif_pos hx] at h
    cases h
    exact Classical.choose_spec hx
  · unfold mm_L at h
    rw [dif_neg hx] at h
    cases h
theorem mm_co.const (x : Option mm_R) : mm_co (fun _ => x) := ⟨fun _ _ _ => mm_le.rf x, fun _ r h => ⟨0, h⟩⟩
theorem mm_co.recs (y pc : Nat) (ls st : List Value) (σ : mm_S) : mm_co (fun f => f y pc ls st σ) := ⟨fun f g h => h y pc ls st σ, fun _ r h => mm_L_to h⟩
theorem mm_co.ite {c : Prop} [Decidable c] {F G : mm_C → Option mm_R} (hF : mm_co F) (hG : mm_co G) : mm_co (fun f => if c then F f else G f) := by
  by_cases h : c
  · simpa only [if_pos h] using hF
  · simpa only [if_neg h] using hG
theorem mm_co.bind {α : Type} {o : Option α} {F : α → mm_C → Option mm_R} (hF : ∀ x, mm_co (F x)) : mm_co (fun f => o.bind fun x => F x f) := by
  cases o with
  | none => exact mm_co.const none
  | some x => exact hF x
theorem mm_co.p1 {st : List Value} {F : Int32 → List Value → mm_C → Option mm_R} (hF : ∀ a r, mm_co (F a r)) : mm_co (fun f => mm_p1 st fun a r => F a r f) := by
  unfold mm_p1; split
  · exact hF _ _
  · exact mm_co.const none
theorem mm_co.p2 {st : List Value} {F : Int32 → Int32 → List Value → mm_C → Option mm_R} (hF : ∀ a b r, mm_co (F a b r)) : mm_co (fun f => mm_p2 st fun a b r => F a b r f) := by
  unfold mm_p2; split
  · exact hF _ _ _
  · exact mm_co.const none
theorem mm_co.l2 {st : List Value} {F : Int64 → Int64 → List Value → mm_C → Option mm_R} (hF : ∀ a b r, mm_co (F a b r)) : mm_co (fun f => mm_l2 st fun a b r => F a b r f) := by
  unfold mm_l2; split
  · exact hF _ _ _
  · exact mm_co.const none
theorem mm_co.pr {st : List Value} {F : Nat → List Value → mm_C → Option mm_R} (hF : ∀ a r, mm_co (F a r)) : mm_co (fun f => mm_pr st fun a r => F a r f) := by
  unfold mm_pr; split
  · exact hF _ _
  · exact mm_co.const none
theorem mm_co.pi {st : List Value} {F : Nat → Int32 → List Value → mm_C → Option mm_R} (hF : ∀ a b r, mm_co (F a b r)) : mm_co (fun f => mm_pi st fun a b r => F a b r f) := by
  unfold mm_pi; split
  · exact hF _ _ _
  · exact mm_co.const none
theorem mm_co.pii {st : List Value} {F : Nat → Int32 → Int32 → List Value → mm_C → Option mm_R} (hF : ∀ a b c r, mm_co (F a b c r)) : mm_co (fun f => mm_pii st fun a b c r => F a b c r f) := by
  unfold mm_pii; split
  · exact hF _ _ _ _
  · exact mm_co.const none
theorem mm_co.pil {st : List Value} {F : Nat → Int32 → Int64 → List Value → mm_C → Option mm_R} (hF : ∀ a b c r, mm_co (F a b c r)) : mm_co (fun f => mm_pil st fun a b c r => F a b c r f) := by
  unfold mm_pil; split
  · exact hF _ _ _ _
  · exact mm_co.const none
theorem mm_co.pv {st : List Value} {F : Value → Nat → List Value → mm_C → Option mm_R} (hF : ∀ a b r, mm_co (F a b r)) : mm_co (fun f => mm_pv st fun a b r => F a b r f) := by
  unfold mm_pv; split
  · exact hF _ _ _
  · exact mm_co.const none
theorem mm_co.rr {st : List Value} {F : Nat → Nat → List Value → mm_C → Option mm_R} (hF : ∀ a b r, mm_co (F a b r)) : mm_co (fun f => mm_rr st fun a b r => F a b r f) := by
  unfold mm_rr; split
  · exact hF _ _ _
  · exact mm_co.const none
theorem mm_co.nl {st : List Value} {F G : List Value → mm_C → Option mm_R} (hF : ∀ r, mm_co (F r)) (hG : ∀ r, mm_co (G r)) : mm_co (fun f => mm_nl st (fun r => F r f) (fun r => G r f)) := by
  unfold mm_nl; split
  · exact hF _
  · exact hG _
  · exact mm_co.const none
theorem mm_co.s1 {st : List Value} {F : Value → List Value → mm_C → Option mm_R} (hF : ∀ a r, mm_co (F a r)) : mm_co (fun f => mm_s1 st fun a r => F a r f) := by
  unfold mm_s1; split
  · exact mm_co.ite (hF _ _) (mm_co.const none)
  · exact mm_co.const none
theorem mm_co.s2 {st : List Value} {F : Value → Value → List Value → mm_C → Option mm_R} (hF : ∀ a b r, mm_co (F a b r)) : mm_co (fun f => mm_s2 st fun a b r => F a b r f) := by
  unfold mm_s2; split
  · exact mm_co.ite (hF _ _ _) (mm_co.const none)
  · exact mm_co.const none
theorem mm_co.tg {pc : Nat} {off : Int} {F : Nat → mm_C → Option mm_R} (hF : ∀ t, mm_co (F t)) : mm_co (fun f => mm_tg pc off fun t => F t f) := by
  unfold mm_tg
  exact mm_co.ite (hF _) (mm_co.const none)
theorem mm_co.cif {c : ClassFile.Cond} {a b : Int32} {F G : mm_C → Option mm_R} (hF : mm_co F) (hG : mm_co G) : mm_co (fun f => mm_if c a b (F f) (G f)) := by
  unfold mm_if
  cases c
  · exact mm_co.ite hF hG
  · exact mm_co.ite hG hF
  · exact mm_co.ite hF hG
  · exact mm_co.ite hF hG
  · exact mm_co.ite hF hG
  · exact mm_co.ite hF hG
theorem mm_ret_le {r r' : Option mm_R} {k k' : Option Value → mm_S → Option mm_R} {x x' : Nat → mm_S → Option mm_R} (h : mm_le r r') (hk : ∀ v σ, mm_le (k v σ) (k' v σ)) (hx : ∀ v σ, mm_le (x v σ) (x' v σ)) : mm_le (mm_ret r k x) (mm_ret r' k' x') := by
  intro q hq
  match r, h, hq with
  | some (.inl v, σ), h, hq => rw [h _ rfl]; exact hk v σ q hq
  | some (.inr v, σ), h, hq => rw [h _ rfl]; exact hx v σ q hq
theorem mm_co.ret {F : mm_C → Option mm_R} {K : Option Value → mm_S → mm_C → Option mm_R} {X : Nat → mm_S → mm_C → Option mm_R} (hF : mm_co F) (hK : ∀ v σ, mm_co (K v σ)) (hX : ∀ v σ, mm_co (X v σ)) : mm_co (fun f => mm_ret (F f) (fun v σ => K v σ f) (fun v σ => X v σ f)) := by
  refine ⟨fun f g h => mm_ret_le (hF.1 f g h) (fun v σ => (hK v σ).1 f g h) (fun v σ => (hX v σ).1 f g h), fun hm r h => ?_⟩
  replace h : mm_ret (F mm_L) (fun v σ => K v σ mm_L) (fun v σ => X v σ mm_L) = some r := h
  cases hL : F mm_L with
  | none => rw [hL] at h; cases h
  | some q =>
    obtain ⟨n, hn⟩ := hF.2 hm q hL
    rw [hL] at h
    obtain ⟨o, σ⟩ := q
    cases o with
    | inl v =>
      obtain ⟨n', hn'⟩ := (hK v σ).2 hm r h
      refine ⟨n + n', ?_⟩
      have e := hF.1 _ _ (mm_run_up hm n n') _ hn
      have e' := (hK v σ).1 _ _ (mm_run_up hm n' n) _ hn'
      rw [Nat.add_comm n' n] at e'
      show mm_ret _ _ _ = _
      rw [e]
      exact e'
    | inr v =>
      obtain ⟨n', hn'⟩ := (hX v σ).2 hm r h
      refine ⟨n + n', ?_⟩
      have e := hF.1 _ _ (mm_run_up hm n n') _ hn
      have e' := (hX v σ).1 _ _ (mm_run_up hm n' n) _ hn'
      rw [Nat.add_comm n' n] at e'
      show mm_ret _ _ _ = _
      rw [e]
      exact e'
theorem mm_co.cat (y pc : Nat) (ls : List Value) (E : Nat) (σ : mm_S) : mm_co (fun f => mm_cat f y pc ls E σ) := by
  unfold mm_cat
  cases mm_hd (mm_lh mm_hhs y) pc E with
  | none => exact mm_co.ite (mm_co.const _) (mm_co.const _)
  | some h => exact mm_co.bind fun q => mm_co.ite (mm_co.recs _ _ _ _ _) (mm_co.const none)
theorem mm_co.call (y pc : Nat) (ls : List Value) (z : Nat) (As rest : List Value) (σ : mm_S) : mm_co (fun f => mm_call f y pc ls z As rest σ) := by
  unfold mm_call
  exact mm_co.ite (mm_co.ret (mm_co.recs _ _ _ _ _) (fun v σ => mm_co.recs _ _ _ _ _) (fun v σ => mm_co.cat _ _ _ _ _)) (mm_co.const none)
theorem mm_co.lod (y pc : Nat) (ls : List Value) (n : Nat) (st : List Value) (σ : mm_S) (i : Bool) : mm_co (fun f => mm_lod f y pc ls n st σ i) := by
  unfold mm_lod
  exact mm_co.ite (mm_co.bind fun _ => mm_co.recs _ _ _ _ _) (mm_co.bind fun _ => mm_co.recs _ _ _ _ _)
theorem mm_co.sto (y pc : Nat) (ls : List Value) (n : Nat) (v : Value) (st : List Value) (σ : mm_S) : mm_co (fun f => mm_sto f y pc ls n v st σ) := by
  unfold mm_sto
  exact mm_co.ite (mm_co.recs _ _ _ _ _) (mm_co.const none)
theorem mm_co.inv (y pc : Nat) (ls st : List Value) (σ : mm_S) (z kd : Nat) : mm_co (fun f => mm_inv f y pc ls st σ z kd) := by
  unfold mm_inv
  exact mm_co.ite (mm_co.ite (mm_co.call _ _ _ _ _ _ _) (mm_co.pr fun _ _ => mm_co.bind fun _ => mm_co.ite (mm_co.call _ _ _ _ _ _ _) (mm_co.const none))) (mm_co.const none)
theorem mm_co.prim (y pc : Nat) (ls st : List Value) (σ : mm_S) (q : Nat) : mm_co (fun f => mm_prim f y pc ls st σ q) := by
  unfold mm_prim
  split <;> repeat' (first | exact mm_co.const none | exact mm_co.recs _ _ _ _ _ | refine mm_co.ite ?_ ?_ | refine mm_co.pr fun _ _ => ?_ | refine mm_co.p1 fun _ _ => ?_ | refine mm_co.p2 fun _ _ _ => ?_ | refine mm_co.pi fun _ _ _ => ?_ | refine mm_co.rr fun _ _ _ => ?_ | refine mm_co.bind fun _ => ?_)
theorem mm_co.ivk (y pc : Nat) (ls st : List Value) (σ : mm_S) (i kd lo hi : Nat) : mm_co (fun f => mm_ivk f y pc ls st σ i kd lo hi) := by
  unfold mm_ivk
  cases mm_lu mm_ivt y i with
  | none => exact mm_co.const _
  | some z => exact mm_co.ite (mm_co.inv _ _ _ _ _ _ _) (mm_co.ite (mm_co.prim _ _ _ _ _ _) (mm_co.const none))
set_option maxHeartbeats 4000000 in
theorem mm_co.step (y pc : Nat) (ls st : List Value) (σ : mm_S) (i : ClassFile.Instr) (len : Nat) : mm_co (fun f => mm_step f y pc ls st σ i len) := by
  cases i <;> simp only [mm_step] <;> repeat' (first | exact mm_co.const _ | exact mm_co.recs _ _ _ _ _ | exact mm_co.lod _ _ _ _ _ _ _ | exact mm_co.sto _ _ _ _ _ _ _ | exact mm_co.ivk _ _ _ _ _ _ _ _ _ | refine mm_co.ite ?_ ?_ | refine mm_co.p1 fun _ _ => ?_ | refine mm_co.p2 fun _ _ _ => ?_ | refine mm_co.l2 fun _ _ _ => ?_ | refine mm_co.pr fun _ _ => ?_ | refine mm_co.pi fun _ _ _ => ?_ | refine mm_co.pii fun _ _ _ _ => ?_ | refine mm_co.pil fun _ _ _ _ => ?_ | refine mm_co.pv fun _ _ _ => ?_ | refine mm_co.s1 fun _ _ => ?_ | refine mm_co.s2 fun _ _ _ => ?_ | refine mm_co.nl (fun _ => ?_) (fun _ => ?_) | refine mm_co.tg fun _ => ?_ | refine mm_co.cif ?_ ?_ | refine mm_co.bind fun _ => ?_ | split)
theorem mm_run_mono : ∀ n, mm_fle (mm_run n) (mm_run (n + 1))
  | 0 => fun _ _ _ _ _ r h => by cases h
  | n + 1 => fun y pc ls st σ r h => by
    have ih := mm_run_mono n
    simp only [mm_run] at h ⊢
    cases hd : decode (mm_by y) pc with
    | error e => rw [hd] at h; cases h
    | ok q =>
      rw [hd] at h
      exact (mm_co.step y pc ls st σ q.1 q.2).1 _ _ ih r h
theorem mm_runL (n : Nat) : mm_fle (mm_run n) mm_L := fun _ _ _ _ _ _ h => mm_L_of mm_run_mono h
/-- THE EQUATION -/
theorem mm_L_eq {y pc : Nat} {ls st : List Value} {σ : mm_S} {i : ClassFile.Instr} {len : Nat} (hd : decode (mm_by y) pc = .ok (i, len)) : mm_L y pc ls st σ = mm_step mm_L y pc ls st σ i len := by
  have hco := mm_co.step y pc ls st σ i len
  refine Option.ext fun r => ⟨fun h => ?_, fun h => ?_⟩
  · obtain ⟨n, hn⟩ := mm_L_to h
    cases n with
    | zero => cases hn
    | succ n =>
      simp only [mm_run, hd] at hn
      exact hco.1 _ _ (mm_runL n) r hn
  · obtain ⟨n, hn⟩ := hco.2 mm_run_mono r h
    refine mm_L_of mm_run_mono (n := n + 1) ?_
    simp only [mm_run, hd]
    exact hn
end
section
/-! WHAT TIES THE MINI MACHINE TO THE MACHINE: facts of the tables, the heap, locals. X: class numbers' ids and slots; the ids of int[], boolean[], long[], Object[]; the empty array of ArrayList and the law's static row; the heap at the law's start. -/
abbrev mm_X : Type := va_G × (Nat × Nat × Nat × Nat) × (Nat × Nat) × Heap
def mm_good : List Cond := lw_tbl.filter goodWord
def mm_chain : List String := ["java/lang/RuntimeException", "java/lang/Exception"]
def mm_xn (E : Nat) : String := match E with
  | 0 => "java/lang/IllegalArgumentException"
  | 1 => "java/lang/IllegalStateException"
  | _ => "java/lang/IndexOutOfBoundsException"
def mm_cn (c : Nat) : String := match c with
  | 0 => RX0
  | 1 => RX1
  | 2 => RX2
  | 3 => RX3
  | 4 => RX4
  | 5 => RX5
  | 6 => RX6
  | 7 => RX7
  | 8 => RJx4a65c
  | _ => RL
def mm_nst : List Cond := tables_1.filter fun w => match w with
  | .fieldLinkNest .. => true
  | .methodLinkNest .. => true
  | _ => false
def mm_oth : List Cond := mm_nst ++ (vx_atS RX6 46 (mm_xn 0) mm_chain ++ (vx_atS RX6 62 (mm_xn 1) mm_chain ++ (vx_atS RX6 144 (mm_xn 2) mm_chain ++ [.castable (mm_xn 0) (mm_xn 0), .castable (mm_xn 1) (mm_xn 1), .castable (mm_xn 2) (mm_xn 2)])))
def mm_A (X : mm_X) : Nat → Prop := fun q => X.2.2.2.size ≤ q
/-- what is known of the tables, and of the statics at the law's start -/
def mm_G (X : mm_X) (U : State) : Prop :=
  (∀ (c : Nat) (q : vw_C), mm_cls[c]? = some q → u_Kn U q.1 q.2.1 q.2.2 (X.1.1 c) (X.1.2 c)) ∧
  (ArrOfT U X.2.1.1 .int ∧ U.vm.findClass ("[" ++ FieldType.int.toString) = some X.2.1.1) ∧
  (ArrOfT U X.2.1.2.1 .boolean ∧ U.vm.findClass ("[" ++ FieldType.boolean.toString) = some X.2.1.2.1) ∧
  (ArrOfT U X.2.1.2.2.1 .long ∧ U.vm.findClass ("[" ++ FieldType.long.toString) = some X.2.1.2.2.1) ∧
  (∀ w ∈ mm_oth, va_Nw w U) ∧ (∀ q ∈ mm_str, ∃ sa, vk_R RX6 q.1 q.2 sa U) ∧
  vx_Zq Bundle.tN "UNASSIGNED_STACK" Bundle.steD (mm_A X) U X.2.2.2 ∧ vx_Zq Bundle.tN "SUPPRESSED_SENTINEL" Bundle.listD (mm_A X) U X.2.2.2 ∧
  va_Z "HandArchive" "LOCUS_PLACES" "[I" (.ref X.2.2.1.2) (mm_A X) U X.2.2.2 ∧ ∀ e e', e < 3 → e' < 3 → e ≠ e' → va_Nc (mm_xn e) (mm_xn e') U
/-- a word that goes on holding as the tables grow warm -/
def mm_wm (w : Cond) : Bool := w.onTables && (w.keepsFace || (match w with
  | .fieldLinkNest .. => true
  | .methodLinkNest .. => true
  | _ => false))
theorem mm_warm {w : Cond} (hw : mm_wm w = true) {s U : State} (hW : s.WarmedH U.vm) (h : va_Nw w s) : va_Nw w U := by
  unfold mm_wm at hw
  rw [Bool.and_eq_true, Bool.or_eq_true] at hw
  obtain ⟨h1, h2 | h2⟩ := hw
  · exact va_tabs h1 (rfl : (s.setVm U.vm).vm = U.vm) (Cond.before_shiftedFace (State.Shifted.of_warmed hW) w h2 h)
  · cases w with
    | fieldLinkNest => exact va_Nw.warmF hW h
    | methodLinkNest => exact va_Nw.warmM hW h
    | _ => cases h2
set_option maxRecDepth 100000 in
theorem mm_oth_wm : mm_oth.all mm_wm = true := by decide +kernel
theorem mm_G.warm {X : mm_X} {s U : State} (hW : s.WarmedH U.vm) (h : mm_G X s) : mm_G X U := by
  obtain ⟨h1, ⟨h2, h2'⟩, ⟨h3, h3'⟩, ⟨h4, h4'⟩, h5, h6, h7, h8, h9, h10⟩ := h
  have hA := hW.alike
  exact ⟨fun c q hq => u_Kn_moved hA (h1 c q hq), ⟨arrOfT_moved hA h2, by rw [hA.findClass]; exact h2'⟩, ⟨arrOfT_moved hA h3, by rw [hA.findClass]; exact h3'⟩, ⟨arrOfT_moved hA h4, by rw [hA.findClass]; exact h4'⟩,
    fun w hw => mm_warm (List.all_eq_true.mp mm_oth_wm w hw) hW (h5 w hw), fun q hq => by obtain ⟨sa, hs⟩ := h6 q hq; exact ⟨sa, vk_R.warm hW hs⟩,
    vx_Zq.moved hA h7, vx_Zq.moved hA h8, va_Z.moved hA h9, fun e e' h1 h2 h3 => va_Nc.moved hA (h10 e e' h1 h2 h3)⟩
-- values and objects, with the addresses as they are in the machine
def mm_v (ι : Nat → Nat) (v : Value) : Value := match v with
  | .ref a => .ref (ι a)
  | v => v
def mm_vv (n : Nat) (v : Value) : Prop := match v with
  | .ref a => a < n
  | _ => True
def mm_ov (n : Nat) (o : mm_O) : Prop := match o with
  | .inl (_, fs) => ∀ v ∈ fs, mm_vv n v
  | .inr (.inr (.inr l)) => ∀ a ∈ l, a < n
  | _ => True
/-- an object that nothing writes to -/
def mm_ro (o : mm_O) : Bool := match o with
  | .inr (.inl (kd, _, _)) => kd == 2
  | _ => false
def mm_own8 (X : mm_X) (ι : Nat → Nat) (l : List Nat) (e : Nat) (H : Heap) : Prop :=
  ∃ (cap : Nat) (g : Nat → Option Nat), 10 ≤ cap ∧ cap ≤ 200000 ∧ l.length ≤ cap ∧ H[e]? = some (arrV X.2.1.2.2.2 cap (fun j => va_rf (g j))) ∧ ∀ j (h : j < l.length), g j = some (ι (l[j]))
def mm_at (X : mm_X) (ι η : Nat → Nat) (U : State) (k : Nat) (o : mm_O) (H : Heap) : Prop := match o with
  | .inl (ci, fs) => ∃ r : vw_C, mm_cls[ci]? = some r ∧ fs.length = r.2.2 ∧ t_OB (ι k) (X.1.1 ci) r.2.2 (X.1.2 ci) H (vp_V (fs.map (mm_v ι)))
  | .inr (.inl (0, n, f)) => H[ι k]? = some (arrV X.2.1.1 n (fun j => .int (f j))) ∧ n ≤ 100000
  | .inr (.inl (1, n, f)) => H[ι k]? = some (arrV X.2.1.2.1 n (fun j => .int (f j))) ∧ n ≤ 100000
  | .inr (.inl (_, n, f)) => ∃ cell, H[ι k]? = some cell ∧ U.isArrayOf cell .int ∧ cell.vm ≠ .unknown ∧ cell.slots.size = n ∧ ∀ j, j < n → cell.slots[j]? = some (.int (f j))
  | .inr (.inr (.inl (n, f))) => H[ι k]? = some (arrV X.2.1.2.2.1 n (fun j => .long (f j))) ∧ n ≤ 100000
  | .inr (.inr (.inr l)) => l.length ≤ 60000 ∧ ∃ mc : Int32, t_OB (ι k) (X.1.1 8) 3 (X.1.2 8) H (vp_V [.int mc, .ref (η k), .int (nI l.length)]) ∧ ((η k = X.2.2.1.1 ∧ l = []) ∨ (η k ≠ X.2.2.1.1 ∧ X.2.2.2.size ≤ η k ∧ mm_own8 X ι l (η k) H))
def mm_H (X : mm_X) (σ : mm_S) (ι η : Nat → Nat) (U : State) (H : Heap) : Prop :=
  (X.2.2.2.size ≤ H.size ∧ ∀ q, q < X.2.2.2.size → H[q]? = X.2.2.2[q]?) ∧
  (∀ i j, i < σ.2.1 → j < σ.2.1 → ι i = ι j → i = j) ∧ (∀ i, i < σ.2.1 → ι i < H.size) ∧ (∀ i, 2 ≤ i → i < σ.2.1 → X.2.2.2.size ≤ ι i) ∧ (2 ≤ σ.2.1 ∧ ι 1 = X.2.2.1.2) ∧
  (∀ k o, σ.1 k = some o → k < σ.2.1 ∧ mm_ov σ.2.1 o ∧ (mm_ro o = false → 2 ≤ k) ∧ mm_at X ι η U k o H) ∧
  (∀ k l, σ.1 k = some (.inr (.inr (.inr l))) → η k ≠ X.2.2.1.1 → (∀ i, i < σ.2.1 → ι i ≠ η k) ∧ ∀ k' l', σ.1 k' = some (.inr (.inr (.inr l'))) → η k' = η k → k' = k)
/-- locals -/
def mm_LR (ι : Nat → Nat) (n : Nat) (ls : List Value) (nL : Nat) (mls : Array Slot) : Prop :=
  mls.size = nL ∧ ls.length = nL ∧ lv_wf mls ∧ ∀ (i : Nat) (v : Value), ls[i]? = some v → mm_ok1 v = true → mls[i]? = some (Slot.val (mm_v ι v)) ∧ mm_vv n v
def mm_ST (n : Nat) (st : List Value) : Prop := ∀ v ∈ st, mm_vv n v
-- the frame of a method
abbrev mm_K : Type := Program × Launch × Env × Room × State × MethodId × Array Value × List Frame × Method × Code
def mm_W (K : mm_K) (H : Heap) (locs : List Loc) (cells slots : Nat) (Q : State → Prop) (g : JFrame) : Prop :=
  W K.1 K.2.1 K.2.2.1 K.2.2.2.1 K.2.2.2.2.1 K.2.2.2.2.2.1 K.2.2.2.2.2.2.1 K.2.2.2.2.2.2.2.1 K.2.2.2.2.2.2.2.2.1 K.2.2.2.2.2.2.2.2.2 H locs cells slots Q g
def mm_Ks (K : mm_K) : State := K.2.2.2.2.1
def mm_Km (K : mm_K) : MethodId := K.2.2.2.2.2.1
def mm_Ka (K : mm_K) : Array Value := K.2.2.2.2.2.2.1
def mm_Kb (K : mm_K) : List Frame := K.2.2.2.2.2.2.2.1
def mm_KR (K : mm_K) : Room := K.2.2.2.1
def mm_Fx (K : mm_K) (y : Nat) : Prop :=
  K.1.tables.exec = Jvm.exec ∧ (K.2.2.2.2.2.2.2.2.2).code = mm_by y ∧ (K.2.2.2.2.2.2.2.2.2).maxLocals = mm_mx y ∧ (mm_Ks K).vm.findClass (mm_cn (mm_own y)) = some (mm_Km K).cls ∧ (∀ w ∈ mm_good, w.before (mm_Ka K) (mm_Ks K) = true) ∧
  (K.2.2.2.2.2.2.2.2.2).exceptionTable.toList = tableOf (mm_lh mm_hr y) ∧ (K.2.2.2.2.2.2.2.2.1).locks = false ∧ (K.2.2.2.2.2.2.2.2.1).sig.returnType = mm_rt y ∧ (K.2.2.2.2.2.2.2.2.1).name = (mm_nm y).name ∧
  mm_rk y ≤ (mm_KR K).frames ∧ 30 * mm_rk y ≤ (mm_KR K).locals ∧ y < 188 ∧ K.2.1.stackTraces = false
def mm_Qc (X : mm_X) (o : Option Value ⊕ Nat) (σ' : mm_S) (ι : Nat → Nat) (n : Nat) : Array Value → State → Outcome → State → Prop := fun _ _ oc t =>
  ∃ v ι' η', o = .inl v ∧ oc = .returned (v.map (mm_v ι')) ∧ (∀ i, i < n → ι' i = ι i) ∧ mm_H X σ' ι' η' t t.heap ∧ (∀ w, v = some w → mm_vv σ'.2.1 w)
def mm_Xc (X : mm_X) (o : Option Value ⊕ Nat) (σ' : mm_S) (ι : Nat → Nat) (n : Nat) : String → State → State → Prop := fun E _ t =>
  ∃ e ι' η', o = .inr e ∧ E = mm_xn e ∧ (∀ i, i < n → ι' i = ι i) ∧ mm_H X σ' ι' η' t t.heap
def mm_Q (X : mm_X) (K : mm_K) (o : Option Value ⊕ Nat) (σ' : mm_S) (ι : Nat → Nat) (n mc ms : Nat) : State → Prop :=
  vx_MQ (mm_Kb K) (mm_Qc X o σ' ι n) (mm_Xc X o σ' ι n) (mm_Ka K) (mm_Ks K) mc ms (mm_A X)
/-- one configuration's end, from any frame that shows it -/
def mm_Sm (X : mm_X) (y pc : Nat) (ls st : List Value) (σ : mm_S) (o : Option Value ⊕ Nat) (σ' : mm_S) : Prop :=
  (σ.2.1 ≤ σ'.2.1 ∧ σ.2.2.1 ≤ σ'.2.2.1 ∧ σ.2.2.2 ≤ σ'.2.2.2) ∧
  ∀ (K : mm_K) (H : Heap) (locs : List Loc) (cells slots mc ms : Nat) (mls : Array Slot) (ι η : Nat → Nat), mm_Fx K y → mm_G X (mm_Ks K) → mm_H X σ ι η (mm_Ks K) H → mm_LR ι σ.2.1 ls (mm_mx y) mls → mm_ST σ.2.1 st →
    (∀ z ∈ locs, mm_A X z.base) → (cells + σ'.2.2.1 ≤ mc + σ.2.2.1 ∧ slots + σ'.2.2.2 ≤ ms + σ.2.2.2) → (mc ≤ (mm_KR K).cells ∧ ms ≤ (mm_KR K).slots) →
    mm_W K H locs cells slots (mm_Q X K o σ' ι σ.2.1 mc ms) (F0 (mm_Km K) pc mls (st.map (mm_v ι)))
def mm_Sim (X : mm_X) (rec : mm_C) : Prop := ∀ y pc ls st σ o σ', rec y pc ls st σ = some (o, σ') → mm_Sm X y pc ls st σ o σ'
end
section
/-! THE SIMULATION, an instruction at a time: what neither reads nor writes the heap -/
theorem mm_its {α : Type} {c : Prop} [Decidable c] {a : Option α} {r : α} (h : (if c then a else none) = some r) : c ∧ a = some r := by
  by_cases q : c
  · rw [if_pos q] at h; exact ⟨q, h⟩
  · rw [if_neg q] at h; cases h
theorem mm_itn {α : Type} {c : Prop} [Decidable c] {a : Option α} {r : α} (h : (if c then none else a) = some r) : ¬ c ∧ a = some r := by
  by_cases q : c
  · rw [if_pos q] at h; cases h
  · rw [if_neg q] at h; exact ⟨q, h⟩
theorem mm_bds {α β : Type} {a : Option α} {f : α → Option β} {r : β} (h : a.bind f = some r) : ∃ x, a = some x ∧ f x = some r := by
  cases a with
  | none => cases h
  | some x => exact ⟨x, rfl, h⟩
theorem mm_p1s {st : List Value} {k : Int32 → List Value → Option mm_R} {r : mm_R} (h : mm_p1 st k = some r) : ∃ a t, st = .int a :: t ∧ k a t = some r := by
  unfold mm_p1 at h; split at h
  · exact ⟨_, _, rfl, h⟩
  · cases h
theorem mm_p2s {st : List Value} {k : Int32 → Int32 → List Value → Option mm_R} {r : mm_R} (h : mm_p2 st k = some r) : ∃ a b t, st = .int b :: .int a :: t ∧ k a b t = some r := by
  unfold mm_p2 at h; split at h
  · exact ⟨_, _, _, rfl, h⟩
  · cases h
theorem mm_l2s {st : List Value} {k : Int64 → Int64 → List Value → Option mm_R} {r : mm_R} (h : mm_l2 st k = some r) : ∃ a b t, st = .long b :: .long a :: t ∧ k a b t = some r := by
  unfold mm_l2 at h; split at h
  · exact ⟨_, _, _, rfl, h⟩
  · cases h
theorem mm_prs {st : List Value} {k : Nat → List Value → Option mm_R} {r : mm_R} (h : mm_pr st k = some r) : ∃ a t, st = .ref a :: t ∧ k a t = some r := by
  unfold mm_pr at h; split at h
  · exact ⟨_, _, rfl, h⟩
  · cases h
theorem mm_pis {st : List Value} {k : Nat → Int32 → List Value → Option mm_R} {r : mm_R} (h : mm_pi st k = some r) : ∃ a i t, st = .int i :: .ref a :: t ∧ k a i t = some r := by
  unfold mm_pi at h; split at h
  · exact ⟨_, _, _, rfl, h⟩
  · cases h
theorem mm_piis {st : List Value} {k : Nat → Int32 → Int32 → List Value → Option mm_R} {r : mm_R} (h : mm_pii st k = some r) : ∃ a i x t, st = .int x :: .int i :: .ref a :: t ∧ k a i x t = some r := by
  unfold mm_pii at h; split at h
  · exact ⟨_, _, _, _, rfl, h⟩
  · cases h
theorem mm_pils {st : List Value} {k : Nat → Int32 → Int64 → List Value → Option mm_R} {r : mm_R} (h : mm_pil st k = some r) : ∃ a i x t, st = .long x :: .int i :: .ref a :: t ∧ k a i x t = some r := by
  unfold mm_pil at h; split at h
  · exact ⟨_, _, _, _, rfl, h⟩
  · cases h
theorem mm_pvs {st : List Value} {k : Value → Nat → List Value → Option mm_R} {r : mm_R} (h : mm_pv st k = some r) : ∃ v a t, st = v :: .ref a :: t ∧ k v a t = some r := by
  unfold mm_pv at h; split at h
  · exact ⟨_, _, _, rfl, h⟩
  · cases h
theorem mm_rrs {st : List Value} {k : Nat → Nat → List Value → Option mm_R} {r : mm_R} (h : mm_rr st k = some r) : ∃ v a t, st = .ref v :: .ref a :: t ∧ k v a t = some r := by
  unfold mm_rr at h; split at h
  · exact ⟨_, _, _, rfl, h⟩
  · cases h
theorem mm_s1s {st : List Value} {k : Value → List Value → Option mm_R} {r : mm_R} (h : mm_s1 st k = some r) : ∃ v t, st = v :: t ∧ mm_ok1 v = true ∧ k v t = some r := by
  unfold mm_s1 at h; split at h
  · obtain ⟨q, h⟩ := mm_its h; exact ⟨_, _, rfl, q, h⟩
  · cases h
theorem mm_s2s {st : List Value} {k : Value → Value → List Value → Option mm_R} {r : mm_R} (h : mm_s2 st k = some r) : ∃ v w t, st = v :: w :: t ∧ (mm_ok1 v = true ∧ mm_ok1 w = true) ∧ k v w t = some r := by
  unfold mm_s2 at h; split at h
  · obtain ⟨q, h⟩ := mm_its h; exact ⟨_, _, _, rfl, q, h⟩
  · cases h
theorem mm_tgs {pc : Nat} {off : Int} {k : Nat → Option mm_R} {r : mm_R} (h : mm_tg pc off k = some r) : ∃ t : Nat, (pc : Int) + off = (t : Int) ∧ k t = some r := by
  unfold mm_tg at h
  replace h := mm_its h
  obtain ⟨q, h⟩ := h
  exact ⟨_, (Int.toNat_of_nonneg q).symm, h⟩
theorem mm_cat1 {v : Value} (ι : Nat → Nat) (h : mm_ok1 v = true) : (mm_v ι v).category = 1 := by
  cases v <;> first | rfl | (cases h)
theorem mm_vcat (ι : Nat → Nat) (v : Value) : (mm_v ι v).category = v.category := by cases v <;> rfl
theorem mm_ST.tl {n : Nat} {v : Value} {st : List Value} (h : mm_ST n (v :: st)) : mm_ST n st := fun w hw => h w (List.mem_cons_of_mem _ hw)
theorem mm_ST.hd {n : Nat} {v : Value} {st : List Value} (h : mm_ST n (v :: st)) : mm_vv n v := h v List.mem_cons_self
theorem mm_ST.cn {n : Nat} {v : Value} {st : List Value} (hv : mm_vv n v) (h : mm_ST n st) : mm_ST n (v :: st) := fun w hw => (List.mem_cons.mp hw).elim (fun e => e ▸ hv) (h w)
theorem mm_ST.i {n : Nat} {x : Int32} {st : List Value} (h : mm_ST n st) : mm_ST n (.int x :: st) := h.cn trivial
theorem mm_ST.l {n : Nat} {x : Int64} {st : List Value} (h : mm_ST n st) : mm_ST n (.long x :: st) := h.cn trivial
section
variable {X : mm_X} {rec : mm_C} {y pc : Nat} {ls st : List Value} {σ σ' : mm_S} {o : Option Value ⊕ Nat} {len : Nat}
/-- a step that leaves heap and locals as they are -/
theorem mm_pure {pc' : Nat} {st' : List Value} (hr : mm_Sm X y pc' ls st' σ o σ') (hv : ∀ ι mls, mm_LR ι σ.2.1 ls (mm_mx y) mls → mm_ST σ.2.1 st → mm_ST σ.2.1 st')
    (hw : ∀ (K : mm_K) (H : Heap) (locs : List Loc) (cells slots : Nat) (Q : State → Prop) (mls : Array Slot) (ι η : Nat → Nat), mm_Fx K y → mm_G X (mm_Ks K) → mm_H X σ ι η (mm_Ks K) H → mm_LR ι σ.2.1 ls (mm_mx y) mls → mm_ST σ.2.1 st → (∀ z ∈ locs, mm_A X z.base) → (cells ≤ (mm_KR K).cells ∧ slots ≤ (mm_KR K).slots) →
      mm_W K H locs cells slots Q (F0 (mm_Km K) pc' mls (st'.map (mm_v ι))) → mm_W K H locs cells slots Q (F0 (mm_Km K) pc mls (st.map (mm_v ι)))) : mm_Sm X y pc ls st σ o σ' :=
  ⟨hr.1, fun K H locs cells slots mc ms mls ι η hF hG hH hL hst hlo hc hR => hw K H locs cells slots _ mls ι η hF hG hH hL hst hlo
    ⟨by have := hr.1.2.1; have := hc.1; have := hR.1; omega, by have := hr.1.2.2; have := hc.2; have := hR.2; omega⟩
    (hr.2 K H locs cells slots mc ms mls ι η hF hG hH hL (hv ι mls hL hst) hlo hc hR)⟩
/-- a step that leaves the heap as it is -/
theorem mm_loc {pc' : Nat} {ls' st' : List Value} (hr : mm_Sm X y pc' ls' st' σ o σ') (hv : mm_ST σ.2.1 st → mm_ST σ.2.1 st')
    (hw : ∀ (K : mm_K) (H : Heap) (locs : List Loc) (cells slots : Nat) (Q : State → Prop) (mls : Array Slot) (ι : Nat → Nat), mm_Fx K y → mm_LR ι σ.2.1 ls (mm_mx y) mls → mm_ST σ.2.1 st →
      (∀ mls', mm_LR ι σ.2.1 ls' (mm_mx y) mls' → mm_W K H locs cells slots Q (F0 (mm_Km K) pc' mls' (st'.map (mm_v ι)))) → mm_W K H locs cells slots Q (F0 (mm_Km K) pc mls (st.map (mm_v ι)))) : mm_Sm X y pc ls st σ o σ' :=
  ⟨hr.1, fun K H locs cells slots mc ms mls ι η hF hG hH hL hst hlo hc hR => hw K H locs cells slots _ mls ι hF hL hst
    (fun mls' hL' => hr.2 K H locs cells slots mc ms mls' ι η hF hG hH hL' (hv hst) hlo hc hR)⟩

theorem mm_s_iconst {n : Int} (hs : mm_Sim X rec) (hd : decode (mm_by y) pc = .ok (.iconst n, len)) (h : mm_step rec y pc ls st σ (.iconst n) len = some (o, σ')) : mm_Sm X y pc ls st σ o σ' := by
  simp only [mm_step] at h
  replace h := mm_its h
  obtain ⟨hlen, h⟩ := h
  subst hlen
  exact mm_pure (hs _ _ _ _ _ _ _ h) (fun _ _ _ q => q.i) (fun K H locs cells slots Q mls ι η hF _ _ _ _ _ _ k => lv_iconst hF.1 hF.2.1 hd rfl k)
theorem mm_s_bipush {n : Int} (hs : mm_Sim X rec) (hd : decode (mm_by y) pc = .ok (.bipush n, len)) (h : mm_step rec y pc ls st σ (.bipush n) len = some (o, σ')) : mm_Sm X y pc ls st σ o σ' := by
  simp only [mm_step] at h
  replace h := mm_its h
  obtain ⟨hlen, h⟩ := h
  subst hlen
  exact mm_pure (hs _ _ _ _ _ _ _ h) (fun _ _ _ q => q.i) (fun K H locs cells slots Q mls ι η hF _ _ _ _ _ _ k => lv_bipush hF.1 hF.2.1 hd rfl k)
theorem mm_s_sipush {n : Int} (hs : mm_Sim X rec) (hd : decode (mm_by y) pc = .ok (.sipush n, len)) (h : mm_step rec y pc ls st σ (.sipush n) len = some (o, σ')) : mm_Sm X y pc ls st σ o σ' := by
  simp only [mm_step] at h
  replace h := mm_its h
  obtain ⟨hlen, h⟩ := h
  subst hlen
  exact mm_pure (hs _ _ _ _ _ _ _ h) (fun _ _ _ q => q.i) (fun K H locs cells slots Q mls ι η hF _ _ _ _ _ _ k => lv_sipush hF.1 hF.2.1 hd rfl k)
theorem mm_s_lconst {n : Fin 2} (hs : mm_Sim X rec) (hd : decode (mm_by y) pc = .ok (.lconst n, len)) (h : mm_step rec y pc ls st σ (.lconst n) len = some (o, σ')) : mm_Sm X y pc ls st σ o σ' := by
  simp only [mm_step] at h
  replace h := mm_its h
  obtain ⟨hlen, h⟩ := h
  subst hlen
  exact mm_pure (hs _ _ _ _ _ _ _ h) (fun _ _ _ q => q.l) (fun K H locs cells slots Q mls ι η hF _ _ _ _ _ _ k => lv_lconst hF.1 hF.2.1 hd rfl k)
theorem mm_s_iadd (hs : mm_Sim X rec) (hd : decode (mm_by y) pc = .ok (.iadd, len)) (h : mm_step rec y pc ls st σ (.iadd) len = some (o, σ')) : mm_Sm X y pc ls st σ o σ' := by
  simp only [mm_step] at h
  replace h := mm_its h
  obtain ⟨hlen, h⟩ := h
  subst hlen
  replace h := mm_p2s h
  obtain ⟨a, b, t, rfl, h⟩ := h
  exact mm_pure (hs _ _ _ _ _ _ _ h) (fun _ _ _ q => q.tl.tl.i) (fun K H locs cells slots Q mls ι η hF _ _ _ _ _ _ k => lv_iadd hF.1 hF.2.1 hd  k)
theorem mm_s_isub (hs : mm_Sim X rec) (hd : decode (mm_by y) pc = .ok (.isub, len)) (h : mm_step rec y pc ls st σ (.isub) len = some (o, σ')) : mm_Sm X y pc ls st σ o σ' := by
  simp only [mm_step] at h
  replace h := mm_its h
  obtain ⟨hlen, h⟩ := h
  subst hlen
  replace h := mm_p2s h
  obtain ⟨a, b, t, rfl, h⟩ := h
  exact mm_pure (hs _ _ _ _ _ _ _ h) (fun _ _ _ q => q.tl.tl.i) (fun K H locs cells slots Q mls ι η hF _ _ _ _ _ _ k => lv_isub hF.1 hF.2.1 hd  k)
theorem mm_s_imul (hs : mm_Sim X rec) (hd : decode (mm_by y) pc = .ok (.imul, len)) (h : mm_step rec y pc ls st σ (.imul) len = some (o, σ')) : mm_Sm X y pc ls st σ o σ' := by
  simp only [mm_step] at h
  replace h := mm_its h
  obtain ⟨hlen, h⟩ := h
  subst hlen
  replace h := mm_p2s h
  obtain ⟨a, b, t, rfl, h⟩ := h
  exact mm_pure (hs _ _ _ _ _ _ _ h) (fun _ _ _ q => q.tl.tl.i) (fun K H locs cells slots Q mls ι η hF _ _ _ _ _ _ k => lv_imul hF.1 hF.2.1 hd  k)
theorem mm_s_iand (hs : mm_Sim X rec) (hd : decode (mm_by y) pc = .ok (.iand, len)) (h : mm_step rec y pc ls st σ (.iand) len = some (o, σ')) : mm_Sm X y pc ls st σ o σ' := by
  simp only [mm_step] at h
  replace h := mm_its h
  obtain ⟨hlen, h⟩ := h
  subst hlen
  replace h := mm_p2s h
  obtain ⟨a, b, t, rfl, h⟩ := h
  exact mm_pure (hs _ _ _ _ _ _ _ h) (fun _ _ _ q => q.tl.tl.i) (fun K H locs cells slots Q mls ι η hF _ _ _ _ _ _ k => lv_iand hF.1 hF.2.1 hd  k)
theorem mm_s_ior (hs : mm_Sim X rec) (hd : decode (mm_by y) pc = .ok (.ior, len)) (h : mm_step rec y pc ls st σ (.ior) len = some (o, σ')) : mm_Sm X y pc ls st σ o σ' := by
  simp only [mm_step] at h
  replace h := mm_its h
  obtain ⟨hlen, h⟩ := h
  subst hlen
  replace h := mm_p2s h
  obtain ⟨a, b, t, rfl, h⟩ := h
  exact mm_pure (hs _ _ _ _ _ _ _ h) (fun _ _ _ q => q.tl.tl.i) (fun K H locs cells slots Q mls ι η hF _ _ _ _ _ _ k => lv_ior hF.1 hF.2.1 hd  k)
theorem mm_s_ixor (hs : mm_Sim X rec) (hd : decode (mm_by y) pc = .ok (.ixor, len)) (h : mm_step rec y pc ls st σ (.ixor) len = some (o, σ')) : mm_Sm X y pc ls st σ o σ' := by
  simp only [mm_step] at h
  replace h := mm_its h
  obtain ⟨hlen, h⟩ := h
  subst hlen
  replace h := mm_p2s h
  obtain ⟨a, b, t, rfl, h⟩ := h
  exact mm_pure (hs _ _ _ _ _ _ _ h) (fun _ _ _ q => q.tl.tl.i) (fun K H locs cells slots Q mls ι η hF _ _ _ _ _ _ k => lv_ixor hF.1 hF.2.1 hd  k)
theorem mm_s_ishl (hs : mm_Sim X rec) (hd : decode (mm_by y) pc = .ok (.ishl, len)) (h : mm_step rec y pc ls st σ (.ishl) len = some (o, σ')) : mm_Sm X y pc ls st σ o σ' := by
  simp only [mm_step] at h
  replace h := mm_its h
  obtain ⟨hlen, h⟩ := h
  subst hlen
  replace h := mm_p2s h
  obtain ⟨a, b, t, rfl, h⟩ := h
  exact mm_pure (hs _ _ _ _ _ _ _ h) (fun _ _ _ q => q.tl.tl.i) (fun K H locs cells slots Q mls ι η hF _ _ _ _ _ _ k => lv_ishl hF.1 hF.2.1 hd  k)
theorem mm_s_ishr (hs : mm_Sim X rec) (hd : decode (mm_by y) pc = .ok (.ishr, len)) (h : mm_step rec y pc ls st σ (.ishr) len = some (o, σ')) : mm_Sm X y pc ls st σ o σ' := by
  simp only [mm_step] at h
  replace h := mm_its h
  obtain ⟨hlen, h⟩ := h
  subst hlen
  replace h := mm_p2s h
  obtain ⟨a, b, t, rfl, h⟩ := h
  exact mm_pure (hs _ _ _ _ _ _ _ h) (fun _ _ _ q => q.tl.tl.i) (fun K H locs cells slots Q mls ι η hF _ _ _ _ _ _ k => lv_ishr hF.1 hF.2.1 hd  k)
theorem mm_s_idiv (hs : mm_Sim X rec) (hd : decode (mm_by y) pc = .ok (.idiv, len)) (h : mm_step rec y pc ls st σ (.idiv) len = some (o, σ')) : mm_Sm X y pc ls st σ o σ' := by
  simp only [mm_step] at h
  replace h := mm_its h
  obtain ⟨hlen, h⟩ := h
  subst hlen
  replace h := mm_p2s h
  obtain ⟨a, b, t, rfl, h⟩ := h
  replace h := mm_itn h
  obtain ⟨hne, h⟩ := h
  exact mm_pure (hs _ _ _ _ _ _ _ h) (fun _ _ _ q => q.tl.tl.i) (fun K H locs cells slots Q mls ι η hF _ _ _ _ _ _ k => lv_idiv hF.1 hF.2.1 hd hne k)
theorem mm_s_irem (hs : mm_Sim X rec) (hd : decode (mm_by y) pc = .ok (.irem, len)) (h : mm_step rec y pc ls st σ (.irem) len = some (o, σ')) : mm_Sm X y pc ls st σ o σ' := by
  simp only [mm_step] at h
  replace h := mm_its h
  obtain ⟨hlen, h⟩ := h
  subst hlen
  replace h := mm_p2s h
  obtain ⟨a, b, t, rfl, h⟩ := h
  replace h := mm_itn h
  obtain ⟨hne, h⟩ := h
  exact mm_pure (hs _ _ _ _ _ _ _ h) (fun _ _ _ q => q.tl.tl.i) (fun K H locs cells slots Q mls ι η hF _ _ _ _ _ _ k => lv_irem hF.1 hF.2.1 hd hne k)
theorem mm_s_ineg (hs : mm_Sim X rec) (hd : decode (mm_by y) pc = .ok (.ineg, len)) (h : mm_step rec y pc ls st σ (.ineg) len = some (o, σ')) : mm_Sm X y pc ls st σ o σ' := by
  simp only [mm_step] at h
  replace h := mm_its h
  obtain ⟨hlen, h⟩ := h
  subst hlen
  replace h := mm_p1s h
  obtain ⟨a, t, rfl, h⟩ := h
  exact mm_pure (hs _ _ _ _ _ _ _ h) (fun _ _ _ q => q.tl.i) (fun K H locs cells slots Q mls ι η hF _ _ _ _ _ _ k => lv_ineg hF.1 hF.2.1 hd k)
theorem mm_s_i2l (hs : mm_Sim X rec) (hd : decode (mm_by y) pc = .ok (.i2l, len)) (h : mm_step rec y pc ls st σ (.i2l) len = some (o, σ')) : mm_Sm X y pc ls st σ o σ' := by
  simp only [mm_step] at h
  replace h := mm_its h
  obtain ⟨hlen, h⟩ := h
  subst hlen
  replace h := mm_p1s h
  obtain ⟨a, t, rfl, h⟩ := h
  exact mm_pure (hs _ _ _ _ _ _ _ h) (fun _ _ _ q => q.tl.l) (fun K H locs cells slots Q mls ι η hF _ _ _ _ _ _ k => lv_i2l hF.1 hF.2.1 hd rfl k)
theorem mm_s_lcmp (hs : mm_Sim X rec) (hd : decode (mm_by y) pc = .ok (.lcmp, len)) (h : mm_step rec y pc ls st σ (.lcmp) len = some (o, σ')) : mm_Sm X y pc ls st σ o σ' := by
  simp only [mm_step] at h
  replace h := mm_its h
  obtain ⟨hlen, h⟩ := h
  subst hlen
  replace h := mm_l2s h
  obtain ⟨a, b, t, rfl, h⟩ := h
  exact mm_pure (hs _ _ _ _ _ _ _ h) (fun _ _ _ q => q.tl.tl.i) (fun K H locs cells slots Q mls ι η hF _ _ _ _ _ _ k => W.lcmp hF.1 hF.2.1 hd k)
theorem mm_s_aconst_null (hs : mm_Sim X rec) (hd : decode (mm_by y) pc = .ok (.aconst_null, len)) (h : mm_step rec y pc ls st σ (.aconst_null) len = some (o, σ')) : mm_Sm X y pc ls st σ o σ' := by
  simp only [mm_step] at h
  replace h := mm_its h
  obtain ⟨hlen, h⟩ := h
  subst hlen
  exact mm_pure (hs _ _ _ _ _ _ _ h) (fun _ _ _ q => q.cn trivial) (fun K H locs cells slots Q mls ι η hF _ _ _ _ _ _ k => lv_null hF.1 hF.2.1 hd k)
theorem mm_s_dup (hs : mm_Sim X rec) (hd : decode (mm_by y) pc = .ok (.dup, len)) (h : mm_step rec y pc ls st σ (.dup) len = some (o, σ')) : mm_Sm X y pc ls st σ o σ' := by
  simp only [mm_step] at h
  replace h := mm_its h
  obtain ⟨hlen, h⟩ := h
  subst hlen
  replace h := mm_s1s h
  obtain ⟨v, t, rfl, hv, h⟩ := h
  exact mm_pure (hs _ _ _ _ _ _ _ h) (fun _ _ _ q => q.cn q.hd) (fun K H locs cells slots Q mls ι η hF _ _ _ _ _ _ k => lv_dup hF.1 hF.2.1 hd (mm_cat1 ι hv) k)
theorem mm_s_pop (hs : mm_Sim X rec) (hd : decode (mm_by y) pc = .ok (.pop, len)) (h : mm_step rec y pc ls st σ (.pop) len = some (o, σ')) : mm_Sm X y pc ls st σ o σ' := by
  simp only [mm_step] at h
  replace h := mm_its h
  obtain ⟨hlen, h⟩ := h
  subst hlen
  replace h := mm_s1s h
  obtain ⟨v, t, rfl, hv, h⟩ := h
  exact mm_pure (hs _ _ _ _ _ _ _ h) (fun _ _ _ q => q.tl) (fun K H locs cells slots Q mls ι η hF _ _ _ _ _ _ k => lv_pop hF.1 hF.2.1 hd (mm_cat1 ι hv) k)
theorem mm_s_dup_x1 (hs : mm_Sim X rec) (hd : decode (mm_by y) pc = .ok (.dup_x1, len)) (h : mm_step rec y pc ls st σ (.dup_x1) len = some (o, σ')) : mm_Sm X y pc ls st σ o σ' := by
  simp only [mm_step] at h
  replace h := mm_its h
  obtain ⟨hlen, h⟩ := h
  subst hlen
  replace h := mm_s2s h
  obtain ⟨v, w, t, rfl, ⟨hv, hv'⟩, h⟩ := h
  exact mm_pure (hs _ _ _ _ _ _ _ h) (fun _ _ _ q => ((q.tl.tl.cn q.hd).cn q.tl.hd).cn q.hd) (fun K H locs cells slots Q mls ι η hF _ _ _ _ _ _ k => lv_dup_x1 hF.1 hF.2.1 hd (mm_cat1 ι hv) (mm_cat1 ι hv') k)
theorem mm_s_dup2 (hs : mm_Sim X rec) (hd : decode (mm_by y) pc = .ok (.dup2, len)) (h : mm_step rec y pc ls st σ (.dup2) len = some (o, σ')) : mm_Sm X y pc ls st σ o σ' := by
  simp only [mm_step] at h
  replace h := mm_its h
  obtain ⟨hlen, h⟩ := h
  subst hlen
  replace h := mm_s2s h
  obtain ⟨v, w, t, rfl, ⟨hv, hv'⟩, h⟩ := h
  exact mm_pure (hs _ _ _ _ _ _ _ h) (fun _ _ _ q => (q.cn q.tl.hd).cn q.hd) (fun K H locs cells slots Q mls ι η hF _ _ _ _ _ _ k => lv_dup2_11 hF.1 hF.2.1 hd (mm_cat1 ι hv) (mm_cat1 ι hv') k)
theorem mm_s_goto {off : Int} (hs : mm_Sim X rec) (hd : decode (mm_by y) pc = .ok (.goto off, len)) (h : mm_step rec y pc ls st σ (.goto off) len = some (o, σ')) : mm_Sm X y pc ls st σ o σ' := by
  simp only [mm_step] at h
  replace h := mm_its h
  obtain ⟨hlen, h⟩ := h
  subst hlen
  replace h := mm_tgs h
  obtain ⟨t, ht, h⟩ := h
  exact mm_pure (hs _ _ _ _ _ _ _ h) (fun _ _ _ q => q) (fun K H locs cells slots Q mls ι η hF _ _ _ _ _ _ k => lv_goto hF.1 hF.2.1 hd ht k)
/-- a branch: one of the two goes on -/
theorem mm_ifs {c : Prop} [Decidable c] {a b : Option mm_R} {r : mm_R} (h : (if c then a else b) = some r) : (c ∧ a = some r) ∨ (¬ c ∧ b = some r) := by
  by_cases q : c
  · rw [if_pos q] at h; exact Or.inl ⟨q, h⟩
  · rw [if_neg q] at h; exact Or.inr ⟨q, h⟩

theorem mm_s_ifCond {c : ClassFile.Cond} {off : Int} (hs : mm_Sim X rec) (hd : decode (mm_by y) pc = .ok (.ifCond c off, len)) (h : mm_step rec y pc ls st σ (.ifCond c off) len = some (o, σ')) : mm_Sm X y pc ls st σ o σ' := by
  simp only [mm_step] at h
  replace h := mm_its h
  obtain ⟨hlen, h⟩ := h
  subst hlen
  replace h := mm_p1s h
  obtain ⟨a, r, rfl, h⟩ := h
  replace h := mm_tgs h
  obtain ⟨t, ht, h⟩ := h
  cases c with
  | eq =>
    replace h := mm_ifs h
    rcases h with ⟨hc, h⟩ | ⟨hc, h⟩
    · exact mm_pure (hs _ _ _ _ _ _ _ h) (fun _ _ _ q => q.tl) (fun K H locs cells slots Q mls ι η hF _ _ _ _ _ _ k => lv_if_eq hF.1 hF.2.1 hd ht (fun _ => k) (fun z => absurd hc z))
    · exact mm_pure (hs _ _ _ _ _ _ _ h) (fun _ _ _ q => q.tl) (fun K H locs cells slots Q mls ι η hF _ _ _ _ _ _ k => lv_if_eq hF.1 hF.2.1 hd ht (fun z => absurd z hc) (fun _ => k))
  | ne =>
    replace h := mm_ifs h
    rcases h with ⟨hc, h⟩ | ⟨hc, h⟩
    · exact mm_pure (hs _ _ _ _ _ _ _ h) (fun _ _ _ q => q.tl) (fun K H locs cells slots Q mls ι η hF _ _ _ _ _ _ k => lv_if_ne hF.1 hF.2.1 hd ht (fun z => absurd hc z) (fun _ => k))
    · exact mm_pure (hs _ _ _ _ _ _ _ h) (fun _ _ _ q => q.tl) (fun K H locs cells slots Q mls ι η hF _ _ _ _ _ _ k => lv_if_ne hF.1 hF.2.1 hd ht (fun _ => k) (fun z => absurd z hc))
  | lt =>
    replace h := mm_ifs h
    rcases h with ⟨hc, h⟩ | ⟨hc, h⟩
    · exact mm_pure (hs _ _ _ _ _ _ _ h) (fun _ _ _ q => q.tl) (fun K H locs cells slots Q mls ι η hF _ _ _ _ _ _ k => lv_if_lt hF.1 hF.2.1 hd ht (fun _ => k) (fun z => absurd hc z))
    · exact mm_pure (hs _ _ _ _ _ _ _ h) (fun _ _ _ q => q.tl) (fun K H locs cells slots Q mls ι η hF _ _ _ _ _ _ k => lv_if_lt hF.1 hF.2.1 hd ht (fun z => absurd z hc) (fun _ => k))
  | ge =>
    replace h := mm_ifs h
    rcases h with ⟨hc, h⟩ | ⟨hc, h⟩
    · exact mm_pure (hs _ _ _ _ _ _ _ h) (fun _ _ _ q => q.tl) (fun K H locs cells slots Q mls ι η hF _ _ _ _ _ _ k => lv_if_ge hF.1 hF.2.1 hd ht (fun _ => k) (fun z => absurd hc z))
    · exact mm_pure (hs _ _ _ _ _ _ _ h) (fun _ _ _ q => q.tl) (fun K H locs cells slots Q mls ι η hF _ _ _ _ _ _ k => lv_if_ge hF.1 hF.2.1 hd ht (fun z => absurd z hc) (fun _ => k))
  | gt =>
    replace h := mm_ifs h
    rcases h with ⟨hc, h⟩ | ⟨hc, h⟩
    · exact mm_pure (hs _ _ _ _ _ _ _ h) (fun _ _ _ q => q.tl) (fun K H locs cells slots Q mls ι η hF _ _ _ _ _ _ k => lv_if_gt hF.1 hF.2.1 hd ht (fun _ => k) (fun z => absurd hc z))
    · exact mm_pure (hs _ _ _ _ _ _ _ h) (fun _ _ _ q => q.tl) (fun K H locs cells slots Q mls ι η hF _ _ _ _ _ _ k => lv_if_gt hF.1 hF.2.1 hd ht (fun z => absurd z hc) (fun _ => k))
  | le =>
    replace h := mm_ifs h
    rcases h with ⟨hc, h⟩ | ⟨hc, h⟩
    · exact mm_pure (hs _ _ _ _ _ _ _ h) (fun _ _ _ q => q.tl) (fun K H locs cells slots Q mls ι η hF _ _ _ _ _ _ k => lv_if_le hF.1 hF.2.1 hd ht (fun _ => k) (fun z => absurd hc z))
    · exact mm_pure (hs _ _ _ _ _ _ _ h) (fun _ _ _ q => q.tl) (fun K H locs cells slots Q mls ι η hF _ _ _ _ _ _ k => lv_if_le hF.1 hF.2.1 hd ht (fun z => absurd z hc) (fun _ => k))
theorem mm_s_if_icmp {c : ClassFile.Cond} {off : Int} (hs : mm_Sim X rec) (hd : decode (mm_by y) pc = .ok (.if_icmp c off, len)) (h : mm_step rec y pc ls st σ (.if_icmp c off) len = some (o, σ')) : mm_Sm X y pc ls st σ o σ' := by
  simp only [mm_step] at h
  replace h := mm_its h
  obtain ⟨hlen, h⟩ := h
  subst hlen
  replace h := mm_p2s h
  obtain ⟨a, b, r, rfl, h⟩ := h
  replace h := mm_tgs h
  obtain ⟨t, ht, h⟩ := h
  cases c with
  | eq =>
    replace h := mm_ifs h
    rcases h with ⟨hc, h⟩ | ⟨hc, h⟩
    · exact mm_pure (hs _ _ _ _ _ _ _ h) (fun _ _ _ q => q.tl.tl) (fun K H locs cells slots Q mls ι η hF _ _ _ _ _ _ k => lv_icmp_eq hF.1 hF.2.1 hd ht (fun _ => k) (fun z => absurd hc z))
    · exact mm_pure (hs _ _ _ _ _ _ _ h) (fun _ _ _ q => q.tl.tl) (fun K H locs cells slots Q mls ι η hF _ _ _ _ _ _ k => lv_icmp_eq hF.1 hF.2.1 hd ht (fun z => absurd z hc) (fun _ => k))
  | ne =>
    replace h := mm_ifs h
    rcases h with ⟨hc, h⟩ | ⟨hc, h⟩
    · exact mm_pure (hs _ _ _ _ _ _ _ h) (fun _ _ _ q => q.tl.tl) (fun K H locs cells slots Q mls ι η hF _ _ _ _ _ _ k => lv_icmp_ne hF.1 hF.2.1 hd ht (fun z => absurd hc z) (fun _ => k))
    · exact mm_pure (hs _ _ _ _ _ _ _ h) (fun _ _ _ q => q.tl.tl) (fun K H locs cells slots Q mls ι η hF _ _ _ _ _ _ k => lv_icmp_ne hF.1 hF.2.1 hd ht (fun _ => k) (fun z => absurd z hc))
  | lt =>
    replace h := mm_ifs h
    rcases h with ⟨hc, h⟩ | ⟨hc, h⟩
    · exact mm_pure (hs _ _ _ _ _ _ _ h) (fun _ _ _ q => q.tl.tl) (fun K H locs cells slots Q mls ι η hF _ _ _ _ _ _ k => lv_icmp_lt hF.1 hF.2.1 hd ht (fun _ => k) (fun z => absurd hc z))
    · exact mm_pure (hs _ _ _ _ _ _ _ h) (fun _ _ _ q => q.tl.tl) (fun K H locs cells slots Q mls ι η hF _ _ _ _ _ _ k => lv_icmp_lt hF.1 hF.2.1 hd ht (fun z => absurd z hc) (fun _ => k))
  | ge =>
    replace h := mm_ifs h
    rcases h with ⟨hc, h⟩ | ⟨hc, h⟩
    · exact mm_pure (hs _ _ _ _ _ _ _ h) (fun _ _ _ q => q.tl.tl) (fun K H locs cells slots Q mls ι η hF _ _ _ _ _ _ k => lv_icmp_ge hF.1 hF.2.1 hd ht (fun _ => k) (fun z => absurd hc z))
    · exact mm_pure (hs _ _ _ _ _ _ _ h) (fun _ _ _ q => q.tl.tl) (fun K H locs cells slots Q mls ι η hF _ _ _ _ _ _ k => lv_icmp_ge hF.1 hF.2.1 hd ht (fun z => absurd z hc) (fun _ => k))
  | gt =>
    replace h := mm_ifs h
    rcases h with ⟨hc, h⟩ | ⟨hc, h⟩
    · exact mm_pure (hs _ _ _ _ _ _ _ h) (fun _ _ _ q => q.tl.tl) (fun K H locs cells slots Q mls ι η hF _ _ _ _ _ _ k => lv_icmp_gt hF.1 hF.2.1 hd ht (fun _ => k) (fun z => absurd hc z))
    · exact mm_pure (hs _ _ _ _ _ _ _ h) (fun _ _ _ q => q.tl.tl) (fun K H locs cells slots Q mls ι η hF _ _ _ _ _ _ k => lv_icmp_gt hF.1 hF.2.1 hd ht (fun z => absurd z hc) (fun _ => k))
  | le =>
    replace h := mm_ifs h
    rcases h with ⟨hc, h⟩ | ⟨hc, h⟩
    · exact mm_pure (hs _ _ _ _ _ _ _ h) (fun _ _ _ q => q.tl.tl) (fun K H locs cells slots Q mls ι η hF _ _ _ _ _ _ k => lv_icmp_le hF.1 hF.2.1 hd ht (fun _ => k) (fun z => absurd hc z))
    · exact mm_pure (hs _ _ _ _ _ _ _ h) (fun _ _ _ q => q.tl.tl) (fun K H locs cells slots Q mls ι η hF _ _ _ _ _ _ k => lv_icmp_le hF.1 hF.2.1 hd ht (fun z => absurd z hc) (fun _ => k))
theorem mm_s_ifnull {off : Int} (hs : mm_Sim X rec) (hd : decode (mm_by y) pc = .ok (.ifnull off, len)) (h : mm_step rec y pc ls st σ (.ifnull off) len = some (o, σ')) : mm_Sm X y pc ls st σ o σ' := by
  simp only [mm_step] at h
  replace h := mm_its h
  obtain ⟨hlen, h⟩ := h
  subst hlen
  unfold mm_nl at h
  split at h
  · replace h := mm_tgs h
    obtain ⟨t, ht, h⟩ := h
    exact mm_pure (hs _ _ _ _ _ _ _ h) (fun _ _ _ q => q.tl) (fun K H locs cells slots Q mls ι η hF _ _ _ _ _ _ k => lv_ifnullN hF.1 hF.2.1 hd ht k)
  · exact mm_pure (hs _ _ _ _ _ _ _ h) (fun _ _ _ q => q.tl) (fun K H locs cells slots Q mls ι η hF _ _ _ _ _ _ k => lv_ifnull hF.1 hF.2.1 hd k)
  · cases h
theorem mm_s_tableswitch {d lo hi : Int} {offs : Array Int} (hs : mm_Sim X rec) (hd : decode (mm_by y) pc = .ok (.tableswitch d lo hi offs, len)) (h : mm_step rec y pc ls st σ (.tableswitch d lo hi offs) len = some (o, σ')) : mm_Sm X y pc ls st σ o σ' := by
  simp only [mm_step] at h
  replace h := mm_p1s h
  obtain ⟨a, r, rfl, h⟩ := h
  replace h := mm_ifs h
  rcases h with ⟨hc, h⟩ | ⟨hc, h⟩
  · replace h := mm_tgs h
    obtain ⟨t, ht, h⟩ := h
    exact mm_pure (hs _ _ _ _ _ _ _ h) (fun _ _ _ q => q.tl) (fun K H locs cells slots Q mls ι η hF _ _ _ _ _ _ k => lv_tableOut hF.1 hF.2.1 hd hc ht k)
  · replace h := mm_bds h
    obtain ⟨off, ho, h⟩ := h
    replace h := mm_tgs h
    obtain ⟨t, ht, h⟩ := h
    exact mm_pure (hs _ _ _ _ _ _ _ h) (fun _ _ _ q => q.tl) (fun K H locs cells slots Q mls ι η hF _ _ _ _ _ _ k => lv_tableIn hF.1 hF.2.1 hd (fun z => hc (Or.inl z)) (fun z => hc (Or.inr z)) ho ht k)
theorem mm_s_lookupswitch {d : Int} {ps : Array (Int × Int)} (hs : mm_Sim X rec) (hd : decode (mm_by y) pc = .ok (.lookupswitch d ps, len)) (h : mm_step rec y pc ls st σ (.lookupswitch d ps) len = some (o, σ')) : mm_Sm X y pc ls st σ o σ' := by
  simp only [mm_step] at h
  replace h := mm_p1s h
  obtain ⟨a, r, rfl, h⟩ := h
  replace h := mm_its h
  obtain ⟨hp, h⟩ := h
  replace h := mm_tgs h
  obtain ⟨t, ht, h⟩ := h
  exact mm_pure (hs _ _ _ _ _ _ _ h) (fun _ _ _ q => q.tl) (fun K H locs cells slots Q mls ι η hF _ _ _ _ _ _ k => lv_lookup hF.1 hF.2.1 hd hp rfl ht k)
-- locals
theorem mm_lvis {n : Nat} {x : Int32} (h : mm_lvi ls n = some x) : ls[n]? = some (.int x) := by
  unfold mm_lvi at h; split at h
  · rename_i q; cases h; exact q
  · cases h
theorem mm_lvrs {n : Nat} {v : Value} (h : mm_lvr ls n = some v) : ls[n]? = some v ∧ (v = .null ∨ ∃ a, v = .ref a) := by
  unfold mm_lvr at h; split at h
  · rename_i q; cases h; exact ⟨q, Or.inr ⟨_, rfl⟩⟩
  · rename_i q; cases h; exact ⟨q, Or.inl rfl⟩
  · cases h
theorem mm_LR.int {ι : Nat → Nat} {n nL i : Nat} {x : Int32} {mls : Array Slot} (h : mm_LR ι n ls nL mls) (hi : ls[i]? = some (.int x)) : mls[i]? = some (.val (.int x)) := (h.2.2.2 i _ hi rfl).1
theorem mm_lod_s {pc' n : Nat} {b : Bool} (hs : mm_Sim X rec) (h : mm_lod rec y pc' ls n st σ b = some (o, σ'))
    (h1 : b = true → ∀ (K : mm_K) (H : Heap) (locs : List Loc) (cells slots : Nat) (Q : State → Prop) (mls : Array Slot) (tl : List Value) (x : Int32), mm_Fx K y → mls[n]? = some (.val (.int x)) → mm_W K H locs cells slots Q (F0 (mm_Km K) pc' mls (.int x :: tl)) → mm_W K H locs cells slots Q (F0 (mm_Km K) pc mls tl))
    (h2 : b = false → ∀ (K : mm_K) (H : Heap) (locs : List Loc) (cells slots : Nat) (Q : State → Prop) (mls : Array Slot) (tl : List Value) (x : Nat), mm_Fx K y → mls[n]? = some (.val (.ref x)) → mm_W K H locs cells slots Q (F0 (mm_Km K) pc' mls (.ref x :: tl)) → mm_W K H locs cells slots Q (F0 (mm_Km K) pc mls tl))
    (h3 : b = false → ∀ (K : mm_K) (H : Heap) (locs : List Loc) (cells slots : Nat) (Q : State → Prop) (mls : Array Slot) (tl : List Value), mm_Fx K y → mls[n]? = some (.val .null) → mm_W K H locs cells slots Q (F0 (mm_Km K) pc' mls (.null :: tl)) → mm_W K H locs cells slots Q (F0 (mm_Km K) pc mls tl)) : mm_Sm X y pc ls st σ o σ' := by
  unfold mm_lod at h
  replace h := mm_ifs h
  rcases h with ⟨hb, h⟩ | ⟨hb, h⟩
  · replace h := mm_bds h
    obtain ⟨x, hx, h⟩ := h
    exact mm_pure (hs _ _ _ _ _ _ _ h) (fun _ _ _ q => q.i) (fun K H locs cells slots Q mls ι η hF _ _ hL _ _ _ k => h1 hb K H locs cells slots Q mls _ x hF (hL.int (mm_lvis hx)) k)
  · have hb' : b = false := by cases b <;> simp_all
    replace h := mm_bds h
    obtain ⟨v, hx, h⟩ := h
    obtain ⟨hv, rfl | ⟨a, rfl⟩⟩ := mm_lvrs hx
    · exact mm_pure (hs _ _ _ _ _ _ _ h) (fun _ _ _ q => q.cn trivial) (fun K H locs cells slots Q mls ι η hF _ _ hL _ _ _ k => h3 hb' K H locs cells slots Q mls _ hF (hL.2.2.2 n _ hv rfl).1 k)
    · exact mm_pure (hs _ _ _ _ _ _ _ h) (fun ι mls hL q => q.cn (hL.2.2.2 n _ hv rfl).2) (fun K H locs cells slots Q mls ι η hF _ _ hL _ _ _ k => h2 hb' K H locs cells slots Q mls _ (ι a) hF (hL.2.2.2 n _ hv rfl).1 k)
theorem mm_s_iload_n {n : Fin 4} (hs : mm_Sim X rec) (hd : decode (mm_by y) pc = .ok (.iload_n n, len)) (h : mm_step rec y pc ls st σ (.iload_n n) len = some (o, σ')) : mm_Sm X y pc ls st σ o σ' := by
  simp only [mm_step] at h
  replace h := mm_its h
  obtain ⟨hlen, h⟩ := h
  subst hlen
  exact mm_lod_s hs h (fun _ K H locs cells slots Q mls tl x hF hl k => lv_iload_n hF.1 hF.2.1 hd rfl hl k) (fun q => by cases q) (fun q => by cases q)
theorem mm_s_iload {n : Nat} (hs : mm_Sim X rec) (hd : decode (mm_by y) pc = .ok (.iload n, len)) (h : mm_step rec y pc ls st σ (.iload n) len = some (o, σ')) : mm_Sm X y pc ls st σ o σ' := by
  simp only [mm_step] at h
  replace h := mm_its h
  obtain ⟨hlen, h⟩ := h
  subst hlen
  exact mm_lod_s hs h (fun _ K H locs cells slots Q mls tl x hF hl k => lv_iload hF.1 hF.2.1 hd hl k) (fun q => by cases q) (fun q => by cases q)
theorem mm_s_aload_n {n : Fin 4} (hs : mm_Sim X rec) (hd : decode (mm_by y) pc = .ok (.aload_n n, len)) (h : mm_step rec y pc ls st σ (.aload_n n) len = some (o, σ')) : mm_Sm X y pc ls st σ o σ' := by
  simp only [mm_step] at h
  replace h := mm_its h
  obtain ⟨hlen, h⟩ := h
  subst hlen
  exact mm_lod_s hs h (fun q => by cases q) (fun _ K H locs cells slots Q mls tl x hF hl k => lv_aload_n hF.1 hF.2.1 hd rfl hl k) (fun _ K H locs cells slots Q mls tl hF hl k => lv_aload_nN hF.1 hF.2.1 hd rfl hl k)
theorem mm_s_aload {n : Nat} (hs : mm_Sim X rec) (hd : decode (mm_by y) pc = .ok (.aload n, len)) (h : mm_step rec y pc ls st σ (.aload n) len = some (o, σ')) : mm_Sm X y pc ls st σ o σ' := by
  simp only [mm_step] at h
  replace h := mm_its h
  obtain ⟨hlen, h⟩ := h
  subst hlen
  exact mm_lod_s hs h (fun q => by cases q) (fun _ K H locs cells slots Q mls tl x hF hl k => lv_aload hF.1 hF.2.1 hd hl k) (fun _ K H locs cells slots Q mls tl hF hl k => lv_aloadN hF.1 hF.2.1 hd hl k)
end
end
section
/-! THE TABLES ARE THE STATEMENT'S: checked by program -/
theorem mm_lk_mem {t : List (Nat × Nat)} {k v : Nat} (h : mm_lk t k = some v) : (k, v) ∈ t := by
  induction t with
  | nil => cases h
  | cons q r ih =>
    obtain ⟨a, b⟩ := q
    unfold mm_lk at h
    by_cases e : a = k
    · rw [if_pos e] at h; cases h; rw [e]; exact List.mem_cons_self
    · rw [if_neg e] at h; exact List.mem_cons_of_mem _ (ih h)
def mm_ty (d : Nat) : FieldType → Bool := fun t => match d % 10, t with
  | 0, .int => true
  | 1, .object _ => true
  | 1, .array _ => true
  | 2, .boolean => true
  | _, _ => false
def mm_fok (e : Nat × Nat) : Bool := match mm_cls[e.2 / 1000]? with
  | none => false
  | some (_, T, N) => decide (e.2 / 10 % 100 < N) && (decide (Cond.fieldLink (mm_cn (e.1 / 1000)) (e.1 % 1000) (T (e.2 / 10 % 100)).1 (T (e.2 / 10 % 100)).2.1 (T (e.2 / 10 % 100)).2.2.1 ∈ mm_good) ||
      (decide (Cond.fieldLinkNest (mm_cn (e.1 / 1000)) (e.1 % 1000) (T (e.2 / 10 % 100)).1 (T (e.2 / 10 % 100)).2.1 (T (e.2 / 10 % 100)).2.2.1 RX6 ∈ mm_nst) && !((T (e.2 / 10 % 100)).2.2.2 && mm_fin.contains 9999))) &&
      (match parseFieldDescriptor (T (e.2 / 10 % 100)).2.2.1 with | some t => mm_ty e.2 t | none => false) && decide (e.1 % 1000 + e.1 / 1000 * 1000 = e.1) &&
      decide ((T (e.2 / 10 % 100)).2.2.2 = mm_fin.contains (e.2 / 1000 * 100 + e.2 / 10 % 100)) && (!(T (e.2 / 10 % 100)).2.2.2 || decide ((T (e.2 / 10 % 100)).1 = mm_cn (e.2 / 1000)))
set_option maxRecDepth 1000000 in
theorem mm_fdt_ok : mm_fdt.all mm_fok = true := by decide +kernel
set_option maxRecDepth 1000000 in
theorem mm_cls_ok : (List.range 9).all (fun c => match mm_cls[c]? with | some (C, T, N) => (u_ws C T N).all (fun w => decide (w ∈ mm_good)) && decide (C = mm_cn c) && decide (((mm_dfl[c]?).getD []).length = N) | none => false) = true := by decide +kernel
def mm_nok (e : Nat × Nat) : Bool := decide (e.1 % 1000 + e.1 / 1000 * 1000 = e.1) && (if e.2 < 100 then (match mm_cls[e.2]? with
  | none => false
  | some (C, _, N) => decide (Cond.classLink (mm_cn (e.1 / 1000)) (e.1 % 1000) C ∈ mm_good) && decide (Cond.instantiable C N ∈ mm_good) && decide (Cond.initialized C ∈ mm_good))
  else decide (e.1 / 1000 = 6) && decide (e.2 - 100 < 3) && decide (Cond.classLink RX6 (e.1 % 1000) (mm_xn (e.2 - 100)) ∈ mm_good) && decide (Cond.initialized (mm_xn (e.2 - 100)) ∈ mm_good))
set_option maxRecDepth 1000000 in
theorem mm_nwt_ok : mm_nwt.all mm_nok = true := by decide +kernel
def mm_cok (e : Nat × Nat) : Bool := decide (e.1 % 1000 + e.1 / 1000 * 1000 = e.1) && decide (e.2 < 9) && decide (Cond.classLink (mm_cn (e.1 / 1000)) (e.1 % 1000) (mm_cn e.2) ∈ mm_good)
set_option maxRecDepth 1000000 in
theorem mm_cct_ok : mm_cct.all mm_cok = true := by decide +kernel
set_option maxRecDepth 1000000 in
theorem mm_kt_ok : mm_kt.all (fun e => decide (e.1 % 1000 + e.1 / 1000 * 1000 = e.1) && decide (Cond.constant (mm_cn (e.1 / 1000)) (e.1 % 1000) (Int32.ofNat e.2) ∈ mm_good)) = true := by decide +kernel
set_option maxRecDepth 1000000 in
theorem mm_arr_ok : Cond.arrayClass .int ∈ mm_good ∧ Cond.arrayClass .boolean ∈ mm_good ∧ Cond.arrayClass .long ∈ mm_good ∧ Cond.fieldLink RX6 216 "HandArchive" "LOCUS_PLACES" "[I" ∈ mm_good := by decide +kernel
theorem mm_good_in {w : Cond} (h : w ∈ mm_good) : w ∈ lw_tbl ∧ goodWord w = true := List.mem_filter.mp h
theorem mm_good_good (c : Cond) (hc : c ∈ mm_good) : GoodIn mm_good (c :: mm_good) := fun w hw => (List.mem_cons.mp hw).elim (fun e => by rw [e]; exact ⟨hc, good_of_word (mm_good_in hc).2⟩) (fun h => ⟨h, good_of_word (mm_good_in h).2⟩)
end
section
/-! THE SIMULATION: locals that are written, the heap -/
def mm_as (ι : Nat → Nat) (ls : List Value) : List (Nat × Value) := (List.range ls.length).filterMap fun i => (ls[i]?).bind fun v => if mm_ok1 v = true then some (i, mm_v ι v) else none
theorem mm_as_mem {ι : Nat → Nat} {ls : List Value} {i : Nat} {v : Value} (h : ls[i]? = some v) (hv : mm_ok1 v = true) : (i, mm_v ι v) ∈ mm_as ι ls := by
  refine List.mem_filterMap.mpr ⟨i, List.mem_range.mpr (List.getElem?_eq_some_iff.mp h).1, ?_⟩
  rw [h]
  show (if mm_ok1 v = true then some (i, mm_v ι v) else none) = _
  rw [if_pos hv]
theorem mm_as_to {ι : Nat → Nat} {ls : List Value} {q : Nat × Value} (h : q ∈ mm_as ι ls) : ∃ v, ls[q.1]? = some v ∧ mm_ok1 v = true ∧ q.2 = mm_v ι v := by
  obtain ⟨i, -, h⟩ := List.mem_filterMap.mp h
  replace h := mm_bds h
  obtain ⟨v, h1, h2⟩ := h
  obtain ⟨h3, h4⟩ := mm_its h2
  cases h4
  exact ⟨v, h1, h3, rfl⟩
theorem mm_LR.has {ι : Nat → Nat} {n nL : Nat} {ls : List Value} {mls : Array Slot} (h : mm_LR ι n ls nL mls) : lv_has mls nL (mm_as ι ls) := by
  refine ⟨h.1, h.2.2.1, fun q hq => ?_⟩
  obtain ⟨v, h1, h2, h3⟩ := mm_as_to hq
  rw [h3]
  exact (h.2.2.2 q.1 v h1 h2).1
theorem mm_LR.set {ι : Nat → Nat} {nx nL n : Nat} {ls : List Value} {mls mls' : Array Slot} {w u : Value} (hL : mm_LR ι nx ls nL mls) (hn : n < nL)
    (h : lv_has mls' nL ((n, w) :: (mm_as ι ls).filter fun q => !(q.1 == n) && !(q.1 + 1 == n && q.2.category == 2))) (hu : mm_ok1 u = true → w = mm_v ι u ∧ mm_vv nx u) : mm_LR ι nx (ls.set n u) nL mls' := by
  refine ⟨h.1, by rw [List.length_set]; exact hL.2.1, h.2.1, fun i v hv hok => ?_⟩
  rw [List.getElem?_set] at hv
  by_cases e : n = i
  · rw [if_pos e, if_pos (by rw [hL.2.1]; exact hn)] at hv
    cases hv
    subst e
    obtain ⟨h1, h2⟩ := hu hok
    exact ⟨by rw [← h1]; exact h.2.2 _ List.mem_cons_self, h2⟩
  · rw [if_neg e] at hv
    refine ⟨h.2.2 (i, mm_v ι v) (List.mem_cons_of_mem _ (List.mem_filter.mpr ⟨mm_as_mem hv hok, ?_⟩)), (hL.2.2.2 i v hv hok).2⟩
    have h1 : ((i : Nat) == n) = false := by simp; exact fun z => e z.symm
    have h2 := mm_cat1 ι hok
    show (!(i == n) && !(i + 1 == n && (mm_v ι v).category == 2)) = true
    rw [h1, h2]
    simp
theorem mm_LR.ext {ι ι' : Nat → Nat} {n n' nL : Nat} {ls : List Value} {mls : Array Slot} (h : mm_LR ι n ls nL mls) (he : ∀ i, i < n → ι' i = ι i) (hn : n ≤ n') : mm_LR ι' n' ls nL mls := by
  refine ⟨h.1, h.2.1, h.2.2.1, fun i v hv hok => ?_⟩
  obtain ⟨h1, h2⟩ := h.2.2.2 i v hv hok
  cases v with
  | ref a => exact ⟨by rw [h1]; show some (Slot.val (.ref (ι a))) = some (Slot.val (.ref (ι' a))); rw [he a h2], Nat.lt_of_lt_of_le h2 hn⟩
  | _ => exact ⟨h1, trivial⟩
theorem mm_v_ext {ι ι' : Nat → Nat} {n : Nat} {v : Value} (he : ∀ i, i < n → ι' i = ι i) (h : mm_vv n v) : mm_v ι' v = mm_v ι v := by
  cases v with
  | ref a => show Value.ref (ι' a) = Value.ref (ι a); rw [he a h]
  | _ => rfl
theorem mm_vv.mono {n n' : Nat} {v : Value} (hn : n ≤ n') (h : mm_vv n v) : mm_vv n' v := by
  cases v with
  | ref a => exact Nat.lt_of_lt_of_le h hn
  | _ => trivial
theorem mm_ST.mono {n n' : Nat} {st : List Value} (hn : n ≤ n') (h : mm_ST n st) : mm_ST n' st := fun v hv => (h v hv).mono hn
theorem mm_st_ext {ι ι' : Nat → Nat} {n : Nat} {st : List Value} (he : ∀ i, i < n → ι' i = ι i) (h : mm_ST n st) : st.map (mm_v ι') = st.map (mm_v ι) := List.map_congr_left fun v hv => mm_v_ext he (h v hv)
section
variable {X : mm_X} {rec : mm_C} {y pc : Nat} {ls st : List Value} {σ σ' : mm_S} {o : Option Value ⊕ Nat} {len : Nat}
theorem mm_s_istore_n {n : Fin 4} (hs : mm_Sim X rec) (hd : decode (mm_by y) pc = .ok (.istore_n n, len)) (h : mm_step rec y pc ls st σ (.istore_n n) len = some (o, σ')) : mm_Sm X y pc ls st σ o σ' := by
  simp only [mm_step] at h
  replace h := mm_its h
  obtain ⟨hlen, h⟩ := h
  subst hlen
  replace h := mm_p1s h
  obtain ⟨a, t, rfl, h⟩ := h
  replace h := mm_its h
  obtain ⟨hn, h⟩ := h
  exact mm_loc (hs _ _ _ _ _ _ _ h) (fun q => q.tl) (fun K H locs cells slots Q mls ι hF hL _ k => by
    have hn' : n.val < mm_mx y := by rw [← hL.2.1]; exact hn
    exact lv_istore_n hF.1 hF.2.1 hd rfl hL.has hn' rfl (fun ls' h' => k ls' (hL.set hn' h' (fun _ => ⟨rfl, trivial⟩))))
theorem mm_s_istore {n : Nat} (hs : mm_Sim X rec) (hd : decode (mm_by y) pc = .ok (.istore n, len)) (h : mm_step rec y pc ls st σ (.istore n) len = some (o, σ')) : mm_Sm X y pc ls st σ o σ' := by
  simp only [mm_step] at h
  replace h := mm_its h
  obtain ⟨hlen, h⟩ := h
  subst hlen
  replace h := mm_p1s h
  obtain ⟨a, t, rfl, h⟩ := h
  replace h := mm_its h
  obtain ⟨hn, h⟩ := h
  exact mm_loc (hs _ _ _ _ _ _ _ h) (fun q => q.tl) (fun K H locs cells slots Q mls ι hF hL _ k => by
    have hn' : n < mm_mx y := by rw [← hL.2.1]; exact hn
    exact lv_istore hF.1 hF.2.1 hd hL.has hn' rfl (fun ls' h' => k ls' (hL.set hn' h' (fun _ => ⟨rfl, trivial⟩))))
theorem mm_s_astore_n {n : Fin 4} (hs : mm_Sim X rec) (hd : decode (mm_by y) pc = .ok (.astore_n n, len)) (h : mm_step rec y pc ls st σ (.astore_n n) len = some (o, σ')) : mm_Sm X y pc ls st σ o σ' := by
  simp only [mm_step] at h
  replace h := mm_its h
  obtain ⟨hlen, h⟩ := h
  subst hlen
  replace h := mm_prs h
  obtain ⟨a, t, rfl, h⟩ := h
  replace h := mm_its h
  obtain ⟨hn, h⟩ := h
  exact mm_loc (hs _ _ _ _ _ _ _ h) (fun q => q.tl) (fun K H locs cells slots Q mls ι hF hL hst k => by
    have hn' : n.val < mm_mx y := by rw [← hL.2.1]; exact hn
    exact lv_astore_n hF.1 hF.2.1 hd rfl hL.has hn' rfl (fun ls' h' => k ls' (hL.set hn' h' (fun _ => ⟨rfl, hst.hd⟩))))
theorem mm_s_astore {n : Nat} (hs : mm_Sim X rec) (hd : decode (mm_by y) pc = .ok (.astore n, len)) (h : mm_step rec y pc ls st σ (.astore n) len = some (o, σ')) : mm_Sm X y pc ls st σ o σ' := by
  simp only [mm_step] at h
  replace h := mm_its h
  obtain ⟨hlen, h⟩ := h
  subst hlen
  replace h := mm_prs h
  obtain ⟨a, t, rfl, h⟩ := h
  replace h := mm_its h
  obtain ⟨hn, h⟩ := h
  exact mm_loc (hs _ _ _ _ _ _ _ h) (fun q => q.tl) (fun K H locs cells slots Q mls ι hF hL hst k => by
    have hn' : n < mm_mx y := by rw [← hL.2.1]; exact hn
    exact lv_astore hF.1 hF.2.1 hd hL.has hn' rfl (fun ls' h' => k ls' (hL.set hn' h' (fun _ => ⟨rfl, hst.hd⟩))))
theorem mm_s_iinc {n : Nat} {d : Int} (hs : mm_Sim X rec) (hd : decode (mm_by y) pc = .ok (.iinc n d, len)) (h : mm_step rec y pc ls st σ (.iinc n d) len = some (o, σ')) : mm_Sm X y pc ls st σ o σ' := by
  simp only [mm_step] at h
  replace h := mm_its h
  obtain ⟨hlen, h⟩ := h
  subst hlen
  replace h := mm_bds h
  obtain ⟨x, hx, h⟩ := h
  have hx := mm_lvis hx
  exact mm_loc (hs _ _ _ _ _ _ _ h) (fun q => q) (fun K H locs cells slots Q mls ι hF hL hst k => by
    have hn' : n < mm_mx y := by rw [← hL.2.1]; exact (List.getElem?_eq_some_iff.mp hx).1
    obtain ⟨j, hj⟩ := List.getElem?_of_mem (mm_as_mem (ι := ι) hx rfl)
    exact lv_iinc hF.1 hF.2.1 hd hL.has hj rfl hn' rfl (fun ls' h' => k ls' (hL.set hn' h' (fun _ => ⟨rfl, trivial⟩))))
theorem mm_lu_of {t : List (Nat × Nat)} {i v : Nat} (h : mm_lu t y i = some v) (f : Nat × Nat → Bool) (hf : t.all f = true) : i < 1000 ∧ f (mm_own y * 1000 + i, v) = true := by
  unfold mm_lu at h
  replace h := mm_its h
  obtain ⟨hi, h⟩ := h
  exact ⟨hi, List.all_eq_true.mp hf _ (mm_lk_mem h)⟩
theorem mm_k1 {a i : Nat} (h : i < 1000) : (a * 1000 + i) / 1000 = a := by omega
theorem mm_k2 {a i : Nat} (h : i < 1000) : (a * 1000 + i) % 1000 = i := by omega
theorem mm_s_ldc {n : Nat} (hs : mm_Sim X rec) (hd : decode (mm_by y) pc = .ok (.ldc n, len)) (h : mm_step rec y pc ls st σ (.ldc n) len = some (o, σ')) : mm_Sm X y pc ls st σ o σ' := by
  simp only [mm_step] at h
  replace h := mm_its h
  obtain ⟨hlen, h⟩ := h
  subst hlen
  replace h := mm_bds h
  obtain ⟨v, hv, h⟩ := h
  obtain ⟨hi, hk⟩ := mm_lu_of hv _ mm_kt_ok
  simp only [mm_k1 hi, mm_k2 hi, Bool.and_eq_true, decide_eq_true_eq] at hk
  exact mm_pure (hs _ _ _ _ _ _ _ h) (fun _ _ _ q => q.i) (fun K H locs cells slots Q mls ι η hF _ _ _ _ _ _ k => lv_ldc hF.1 hF.2.1 hF.2.2.2.1 (hF.2.2.2.2.1 _ hk.2) hd k)
theorem mm_s_getstatic {n : Nat} (hs : mm_Sim X rec) (hd : decode (mm_by y) pc = .ok (.getstatic n, len)) (h : mm_step rec y pc ls st σ (.getstatic n) len = some (o, σ')) : mm_Sm X y pc ls st σ o σ' := by
  simp only [mm_step] at h
  replace h := mm_its h
  obtain ⟨hlen, h⟩ := h
  obtain ⟨hlen, ho, hn⟩ := hlen
  subst hlen
  subst hn
  refine ⟨(hs _ _ _ _ _ _ _ h).1, fun K H locs cells slots mc ms mls ι η hF hG hH hL hst hlo hc hR => ?_⟩
  have k := (hs _ _ _ _ _ _ _ h).2 K H locs cells slots mc ms mls ι η hF hG hH hL (hst.cn (show 1 < σ.2.1 from hH.2.2.2.2.1.1)) hlo hc hR
  obtain ⟨cf, kf, fi, f, a, cell, h1, h2, h3, h4, h5, h6, h7, h8⟩ := hG.2.2.2.2.2.2.2.2.1
  have hown := hF.2.2.2.1
  rw [ho] at hown
  refine W.gets hF.1 hF.2.1 hown (hF.2.2.2.2.1 _ mm_arr_ok.2.2.2) h1 h2 h3 h4 (cell₁ := cell) ?_ (fun e => by rw [e] at h6; cases h6) h7 rfl hd ?_
  · rw [hH.1.2 a (Array.getElem?_eq_some_iff.mp h5).1]; exact h5
  · rw [← hH.2.2.2.2.1.2]; exact k
end
end
section
/-! THE SIMULATION: objects and arrays -/
theorem mm_at.kept {X : mm_X} {ι η : Nat → Nat} {U : State} {k : Nat} {o : mm_O} {H H1 : Heap} (h : mm_at X ι η U k o H) (h1 : H1[ι k]? = H[ι k]?) (h2 : ∀ l, o = .inr (.inr (.inr l)) → η k ≠ X.2.2.1.1 → H1[η k]? = H[η k]?) : mm_at X ι η U k o H1 := by
  rcases o with ⟨ci, fs⟩ | ⟨kd, n, f⟩ | ⟨n, f⟩ | l
  · obtain ⟨r, a, b, c⟩ := h
    exact ⟨r, a, b, c.kept h1⟩
  · match kd, h with
    | 0, h => exact ⟨h1.trans h.1, h.2⟩
    | 1, h => exact ⟨h1.trans h.1, h.2⟩
    | kd + 2, h =>
      obtain ⟨cell, a, b⟩ := h
      exact ⟨cell, h1.trans a, b⟩
  · exact ⟨h1.trans h.1, h.2⟩
  · obtain ⟨hl, mc, a, b⟩ := h
    refine ⟨hl, mc, a.kept h1, ?_⟩
    rcases b with b | ⟨b1, b2, cap, g, c1, c0, c2, c3, c4⟩
    · exact Or.inl b
    · exact Or.inr ⟨b1, b2, cap, g, c1, c0, c2, (h2 l rfl b1).trans c3, c4⟩
theorem mm_at.ext {X : mm_X} {ι ι' η : Nat → Nat} {U : State} {n k : Nat} {o : mm_O} {H : Heap} (h : mm_at X ι η U k o H) (he : ∀ i, i < n → ι' i = ι i) (hk : k < n) (ho : mm_ov n o) : mm_at X ι' η U k o H := by
  rcases o with ⟨ci, fs⟩ | ⟨kd, n', f⟩ | ⟨n', f⟩ | l
  · obtain ⟨r, a, b, c⟩ := h
    refine ⟨r, a, b, ?_⟩
    rw [he k hk, mm_st_ext (st := fs) he ho]
    exact c
  · match kd, h with
    | 0, h => exact ⟨by rw [he k hk]; exact h.1, h.2⟩
    | 1, h => exact ⟨by rw [he k hk]; exact h.1, h.2⟩
    | kd + 2, h =>
      obtain ⟨cell, a, b⟩ := h
      exact ⟨cell, by rw [he k hk]; exact a, b⟩
  · exact ⟨by rw [he k hk]; exact h.1, h.2⟩
  · obtain ⟨hl, mc, a, b⟩ := h
    refine ⟨hl, mc, by rw [he k hk]; exact a, ?_⟩
    rcases b with b | ⟨b1, b2, cap, g, c1, c0, c2, c3, c4⟩
    · exact Or.inl b
    · exact Or.inr ⟨b1, b2, cap, g, c1, c0, c2, c3, fun j hj => by rw [c4 j hj, he _ (ho _ (List.getElem_mem hj))]⟩
theorem mm_at.moved {X : mm_X} {ι η : Nat → Nat} {u U : State} {k : Nat} {o : mm_O} {H : Heap} (hA : u.vm.Alike U.vm) (h : mm_at X ι η u k o H) : mm_at X ι η U k o H := by
  rcases o with ⟨ci, fs⟩ | ⟨kd, n', f⟩ | ⟨n', f⟩ | l
  · exact h
  · match kd, h with
    | 0, h => exact h
    | 1, h => exact h
    | kd + 2, h =>
      obtain ⟨cell, a, b, c⟩ := h
      exact ⟨cell, a, State.isArrayOf_alike hA b, c⟩
  · exact h
  · exact h
theorem mm_H.moved {X : mm_X} {σ : mm_S} {ι η : Nat → Nat} {u U : State} {H : Heap} (hA : u.vm.Alike U.vm) (h : mm_H X σ ι η u H) : mm_H X σ ι η U H :=
  ⟨h.1, h.2.1, h.2.2.1, h.2.2.2.1, h.2.2.2.2.1, fun k o hk => ⟨(h.2.2.2.2.2.1 k o hk).1, (h.2.2.2.2.2.1 k o hk).2.1, (h.2.2.2.2.2.1 k o hk).2.2.1, (h.2.2.2.2.2.1 k o hk).2.2.2.moved hA⟩, h.2.2.2.2.2.2⟩
theorem mm_ov.mono {n n' : Nat} {o : mm_O} (hn : n ≤ n') (h : mm_ov n o) : mm_ov n' o := by
  rcases o with ⟨ci, fs⟩ | ⟨kd, n', f⟩ | ⟨n', f⟩ | l
  · exact fun v hv => (h v hv).mono hn
  · trivial
  · trivial
  · exact fun a ha => Nat.lt_of_lt_of_le (h a ha) hn
def mm_il (o : mm_O) : Bool := match o with
  | .inr (.inr (.inr _)) => true
  | _ => false
/-- an object that is no list is written -/
theorem mm_H.put {X : mm_X} {σ : mm_S} {ι η : Nat → Nat} {U : State} {H H1 : Heap} {k : Nat} {o0 o : mm_O} (h : mm_H X σ ι η U H) (h0 : σ.1 k = some o0) (hr0 : mm_ro o0 = false) (hl0 : mm_il o0 = false) (hr : mm_ro o = false) (hl : mm_il o = false) (hv : mm_ov σ.2.1 o)
    (z : H1.size = H.size) (oq : ∀ q : Nat, q ≠ ι k → H1[q]? = H[q]?) (ha : mm_at X ι η U k o H1) : mm_H X (mm_put σ k o) ι η U H1 := by
  obtain ⟨⟨a1, a2⟩, b, c, d, e, f, g⟩ := h
  obtain ⟨k1, k2, k3, k4⟩ := f k o0 h0
  have k5 := k3 hr0
  have k6 := d k k5 k1
  have hne : ∀ l, o0 ≠ .inr (.inr (.inr l)) := fun l q => by rw [q] at hl0; cases hl0
  have hne' : ∀ l, o ≠ .inr (.inr (.inr l)) := fun l q => by rw [q] at hl; cases hl
  have hput : ∀ j, (mm_put σ k o).1 j = if j = k then some o else σ.1 j := fun j => rfl
  refine ⟨⟨by rw [z]; exact a1, fun q hq => by rw [oq q (by omega)]; exact a2 q hq⟩, b, fun i hi => by rw [z]; exact c i hi, d, e, fun j o' hj => ?_, fun j l hj hn => ?_⟩
  · rw [hput] at hj
    by_cases q : j = k
    · rw [if_pos q] at hj
      cases hj
      subst q
      exact ⟨k1, hv, fun _ => k5, ha⟩
    · rw [if_neg q] at hj
      obtain ⟨f1, f2, f3, f4⟩ := f j o' hj
      refine ⟨f1, f2, f3, f4.kept (oq _ fun w => q (b j k f1 k1 w)) fun l hl' hn => oq _ fun w => ?_⟩
      subst hl'
      exact (g j l hj hn).1 k k1 w.symm
  · rw [hput] at hj
    by_cases q : j = k
    · rw [if_pos q] at hj
      exact absurd (Option.some.inj hj) (hne' l)
    · rw [if_neg q] at hj
      obtain ⟨g1, g2⟩ := g j l hj hn
      refine ⟨g1, fun k' l' hk' hh => ?_⟩
      rw [hput] at hk'
      by_cases q' : k' = k
      · rw [if_pos q'] at hk'
        exact absurd (Option.some.inj hk') (hne' l')
      · rw [if_neg q'] at hk'
        exact g2 k' l' hk' hh
/-- a thing that is no list is made -/
theorem mm_H.new {X : mm_X} {σ : mm_S} {ι η : Nat → Nat} {U : State} {H H1 : Heap} {o : mm_O} {n : Nat} (h : mm_H X σ ι η U H) (hl : mm_il o = false) (hv : mm_ov (σ.2.1 + 1) o)
    (z : H1.size = H.size + 1) (oq : ∀ q : Nat, q < H.size → H1[q]? = H[q]?) (ha : mm_at X (fun j => if j = σ.2.1 then H.size else ι j) η U σ.2.1 o H1) : mm_H X (mm_new σ o n) (fun j => if j = σ.2.1 then H.size else ι j) η U H1 := by
  obtain ⟨⟨a1, a2⟩, b, c, d, e, f, g⟩ := h
  have hne' : ∀ l, o ≠ .inr (.inr (.inr l)) := fun l q => by rw [q] at hl; cases hl
  have hput : ∀ j, (mm_new σ o n).1 j = if j = σ.2.1 then some o else σ.1 j := fun j => rfl
  have hnx : (mm_new σ o n).2.1 = σ.2.1 + 1 := rfl
  have hi1 : ∀ i, i < σ.2.1 → (fun j => if j = σ.2.1 then H.size else ι j) i = ι i := fun i hi => if_neg (by omega)
  have hi2 : (fun j => if j = σ.2.1 then H.size else ι j) σ.2.1 = H.size := if_pos rfl
  generalize hι' : (fun j => if j = σ.2.1 then H.size else ι j) = ι' at ha hi1 hi2 ⊢
  refine ⟨⟨by rw [z]; omega, fun q hq => by rw [oq q (by omega)]; exact a2 q hq⟩, ?_, ?_, ?_, ?_, fun j o' hj => ?_, fun j l hj hn => ?_⟩
  · rw [hnx]
    intro i j hi hj q
    rcases Nat.lt_or_ge i σ.2.1 with hi' | hi' <;> rcases Nat.lt_or_ge j σ.2.1 with hj' | hj'
    · rw [hi1 i hi', hi1 j hj'] at q; exact b i j hi' hj' q
    · have : j = σ.2.1 := by omega
      subst this
      rw [hi1 i hi', hi2] at q
      have := c i hi'; omega
    · have : i = σ.2.1 := by omega
      subst this
      rw [hi1 j hj', hi2] at q
      have := c j hj'; omega
    · omega
  · rw [hnx]
    intro i hi
    rcases Nat.lt_or_ge i σ.2.1 with hi' | hi'
    · rw [hi1 i hi', z]; have := c i hi'; omega
    · have : i = σ.2.1 := by omega
      subst this
      rw [hi2, z]; omega
  · rw [hnx]
    intro i h2 hi
    rcases Nat.lt_or_ge i σ.2.1 with hi' | hi'
    · rw [hi1 i hi']; exact d i h2 hi'
    · have : i = σ.2.1 := by omega
      subst this
      rw [hi2]; exact a1
  · rw [hnx]
    exact ⟨by omega, by rw [hi1 1 (by omega)]; exact e.2⟩
  · rw [hput] at hj
    rw [hnx]
    by_cases q : j = σ.2.1
    · rw [if_pos q] at hj
      cases hj
      subst q
      exact ⟨by omega, hv, fun _ => e.1, ha⟩
    · rw [if_neg q] at hj
      obtain ⟨f1, f2, f3, f4⟩ := f j o' hj
      refine ⟨by omega, f2.mono (by omega), f3, ((f4.kept (oq _ (c j f1)) fun l hl' hn => oq _ ?_).ext hi1 f1 f2)⟩
      subst hl'
      obtain ⟨-, -, -, w⟩ := f4
      rcases w with w | ⟨-, -, cap, gg, -, -, -, w, -⟩
      · exact absurd w.1 hn
      · exact (Array.getElem?_eq_some_iff.mp w).1
  · rw [hput] at hj
    by_cases q : j = σ.2.1
    · rw [if_pos q] at hj
      exact absurd (Option.some.inj hj) (hne' l)
    · rw [if_neg q] at hj
      obtain ⟨g1, g2⟩ := g j l hj hn
      obtain ⟨-, -, -, f4⟩ := f j _ hj
      refine ⟨fun i hi => ?_, fun k' l' hk' hh => ?_⟩
      · rw [hnx] at hi
        rcases Nat.lt_or_ge i σ.2.1 with hi' | hi'
        · rw [hi1 i hi']; exact g1 i hi'
        · have : i = σ.2.1 := by omega
          subst this
          rw [hi2]
          intro w
          obtain ⟨-, -, -, r⟩ := f4
          rcases r with r | ⟨-, -, cap, gg, -, -, -, r, -⟩
          · exact hn r.1
          · have := (Array.getElem?_eq_some_iff.mp r).1; omega
      · rw [hput] at hk'
        by_cases q' : k' = σ.2.1
        · rw [if_pos q'] at hk'
          exact absurd (Option.some.inj hk') (hne' l')
        · rw [if_neg q'] at hk'
          exact g2 k' l' hk' hh
section
variable {X : mm_X} {rec : mm_C} {y pc : Nat} {ls st : List Value} {σ σ' : mm_S} {o : Option Value ⊕ Nat} {len : Nat}
theorem mm_cls_at {ci : Nat} {r : vw_C} (h : mm_cls[ci]? = some r) : (∀ w ∈ u_ws r.1 r.2.1 r.2.2, w ∈ mm_good) ∧ r.1 = mm_cn ci ∧ ((mm_dfl[ci]?).getD []).length = r.2.2 ∧ ci < 9 := by
  have hlt : ci < 9 := (List.getElem?_eq_some_iff.mp h).1
  have h1 := List.all_eq_true.mp mm_cls_ok ci (List.mem_range.mpr hlt)
  rw [h] at h1
  obtain ⟨C, T, N⟩ := r
  simp only [Bool.and_eq_true, decide_eq_true_eq, List.all_eq_true] at h1
  exact ⟨h1.1.1, h1.1.2, h1.2, hlt⟩
theorem mm_flds {a ci k : Nat} {v : Value} (h : mm_fld σ a ci k = some v) : ∃ fs, σ.1 a = some (.inl (ci, fs)) ∧ fs[k]? = some v := by
  unfold mm_fld at h
  split at h
  · rename_i c fs q
    replace h := mm_its h
    obtain ⟨e, h⟩ := h
    subst e
    exact ⟨fs, q, h⟩
  · cases h
theorem mm_getis {a ci k : Nat} {x : Int32} (h : mm_geti σ a ci k = some x) : mm_fld σ a ci k = some (.int x) := by
  unfold mm_geti at h
  split at h
  · rename_i q; cases h; exact q
  · cases h
theorem mm_getrs {a ci k : Nat} {v : Value} (h : mm_getr σ a ci k = some v) : mm_fld σ a ci k = some v := by
  unfold mm_getr at h
  split at h
  · rename_i q; cases h; exact q
  · rename_i q; cases h; exact q
  · cases h
/-- a field is read -/
theorem mm_rd {K : mm_K} {H : Heap} {locs : List Loc} {cells slots : Nat} {Q : State → Prop} {mls : Array Slot} {ι η : Nat → Nat} {a n d : Nat} {v : Value} {tl : List Value} (hd : decode (mm_by y) pc = .ok (.getfield n, 3)) (hF : mm_Fx K y) (hG : mm_G X (mm_Ks K)) (hH : mm_H X σ ι η (mm_Ks K) H)
    (hu : mm_lu mm_fdt y n = some d) (hf : mm_fld σ a (d / 1000) (d / 10 % 100) = some v) (k : mm_W K H locs cells slots Q (F0 (mm_Km K) (pc + 3) mls (mm_v ι v :: tl))) : mm_W K H locs cells slots Q (F0 (mm_Km K) pc mls (.ref (ι a) :: tl)) := by
  obtain ⟨hi, hk⟩ := mm_lu_of hu _ mm_fdt_ok
  obtain ⟨fs, h1, h2⟩ := mm_flds hf
  obtain ⟨-, -, -, r, hr, hlen, hob⟩ := hH.2.2.2.2.2.1 a _ h1
  unfold mm_fok at hk
  simp only [mm_k1 hi, mm_k2 hi, hr] at hk
  obtain ⟨C, T, N⟩ := r
  simp only [Bool.and_eq_true, Bool.or_eq_true, decide_eq_true_eq] at hk
  obtain ⟨hin, hC, -, -⟩ := mm_cls_at hr
  obtain ⟨⟨⟨⟨⟨hN, hw⟩, -⟩, -⟩, -⟩, -⟩ := hk
  have hP : va_P X.1 mm_cls [(ι a, .inr (d / 1000, fs.map (mm_v ι)))] H := fun i q hq => by
    have hz : i < 1 := (List.getElem?_eq_some_iff.mp hq).1
    rw [show i = 0 by omega] at hq
    cases hq
    exact ⟨_, hr, hob⟩
  have hK : va_K X.1 mm_cls [] (mm_Ks K) := ⟨hG.1, fun k q h => by simp at h⟩
  have hv : (fs.map (mm_v ι))[d / 10 % 100]? = some (mm_v ι v) := by rw [List.getElem?_map, h2]; rfl
  rcases hw with hw | ⟨hw, -⟩
  · exact va_get (D := X.1) (ci := d / 1000) (C := C) (T := T) (N := N) hF.1 hF.2.1 hF.2.2.2.2.1 hin hF.2.2.2.1 hK hP 0 rfl hr _ hN (hF.2.2.2.2.1 _ hw) (fun _ q => q) hv hd k
  · exact va_getN (D := X.1) (ci := d / 1000) (C := C) (T := T) (N := N) hF.1 hF.2.1 hF.2.2.2.2.1 hin hF.2.2.2.1 hK hP 0 rfl hr _ hN (va_Nw.use rfl (hG.2.2.2.2.1 _ (List.mem_append_left _ hw))) (fun _ q => q) hv hd k
theorem mm_s_getfield {n : Nat} (hs : mm_Sim X rec) (hd : decode (mm_by y) pc = .ok (.getfield n, len)) (h : mm_step rec y pc ls st σ (.getfield n) len = some (o, σ')) : mm_Sm X y pc ls st σ o σ' := by
  simp only [mm_step] at h
  replace h := mm_its h
  obtain ⟨hlen, h⟩ := h
  subst hlen
  replace h := mm_bds h
  obtain ⟨d, hu, h⟩ := h
  replace h := mm_prs h
  obtain ⟨a, t, rfl, h⟩ := h
  replace h := mm_ifs h
  rcases h with ⟨hc, h⟩ | ⟨hc, h⟩
  · replace h := mm_bds h
    obtain ⟨v, hv, h⟩ := h
    have hf := mm_getrs hv
    refine ⟨(hs _ _ _ _ _ _ _ h).1, fun K H locs cells slots mc ms mls ι η hF hG hH hL hst hlo hcc hR => ?_⟩
    have hvv : mm_vv σ.2.1 v := by
      obtain ⟨fs, h1, h2⟩ := mm_flds hf
      exact (hH.2.2.2.2.2.1 a _ h1).2.1 v (List.mem_of_getElem? h2)
    exact mm_rd hd hF hG hH hu hf ((hs _ _ _ _ _ _ _ h).2 K H locs cells slots mc ms mls ι η hF hG hH hL (hst.tl.cn hvv) hlo hcc hR)
  · replace h := mm_bds h
    obtain ⟨v, hv, h⟩ := h
    have hf := mm_getis hv
    refine ⟨(hs _ _ _ _ _ _ _ h).1, fun K H locs cells slots mc ms mls ι η hF hG hH hL hst hlo hcc hR => ?_⟩
    exact mm_rd hd hF hG hH hu hf ((hs _ _ _ _ _ _ _ h).2 K H locs cells slots mc ms mls ι η hF hG hH hL hst.tl.i hlo hcc hR)
theorem mm_cis {a c : Nat} (h : mm_ci σ a = some c) : ∃ fs, σ.1 a = some (.inl (c, fs)) := by
  unfold mm_ci at h
  split at h
  · rename_i q; cases h; exact ⟨_, q⟩
  · cases h
/-- the cell of an object of a class -/
theorem mm_cell {ι η : Nat → Nat} {s : State} {H : Heap} {a c : Nat} {fs : List Value} (hG : mm_G X s) (hH : mm_H X σ ι η s H) (h : σ.1 a = some (.inl (c, fs))) : ∃ cell : Cell, H[ι a]? = some cell ∧ cell.vm.isStatics = false ∧ s.vm.findClass (mm_cn c) = some cell.cls := by
  obtain ⟨-, -, -, r, hr, hlen, cell, q1, q2, q3, q4⟩ := hH.2.2.2.2.2.1 a _ h
  obtain ⟨-, hC, -, -⟩ := mm_cls_at hr
  exact ⟨cell, q1, by rw [q3]; rfl, by rw [← hC, q2]; exact (hG.1 c r hr).2.1⟩
theorem mm_s_checkcast {n : Nat} (hs : mm_Sim X rec) (hd : decode (mm_by y) pc = .ok (.checkcast n, len)) (h : mm_step rec y pc ls st σ (.checkcast n) len = some (o, σ')) : mm_Sm X y pc ls st σ o σ' := by
  simp only [mm_step] at h
  replace h := mm_its h
  obtain ⟨hlen, h⟩ := h
  subst hlen
  replace h := mm_bds h
  obtain ⟨c, hu, h⟩ := h
  replace h := mm_prs h
  obtain ⟨a, t, rfl, h⟩ := h
  replace h := mm_bds h
  obtain ⟨c', hc, h⟩ := h
  replace h := mm_its h
  obtain ⟨hcc, h⟩ := h
  subst hcc
  obtain ⟨fs, hfs⟩ := mm_cis hc
  obtain ⟨hi, hk⟩ := mm_lu_of hu _ mm_cct_ok
  unfold mm_cok at hk
  simp only [mm_k1 hi, mm_k2 hi, Bool.and_eq_true, decide_eq_true_eq] at hk
  exact mm_pure (hs _ _ _ _ _ _ _ h) (fun _ _ _ q => q) (fun K H locs cells slots Q mls ι η hF hG hH _ _ _ _ k => by
    obtain ⟨-, -, -, r, hr, -, -⟩ := hH.2.2.2.2.2.1 a _ hfs
    obtain ⟨-, hC, -, -⟩ := mm_cls_at hr
    have hat : ClassAt (mm_Ks K) (mm_cn c') (X.1.1 c') := by rw [← hC]; exact (hG.1 c' r hr).2
    exact va_castS hF.1 hF.2.1 hF.2.2.2.1 (hF.2.2.2.2.1 _ hk.2) hat (mm_cell hG hH hfs) hd k)
theorem mm_lens {a n : Nat} (h : mm_len σ a = some n) : (∃ kd f, σ.1 a = some (.inr (.inl (kd, n, f)))) ∨ ∃ f, σ.1 a = some (.inr (.inr (.inl (n, f)))) := by
  unfold mm_len at h
  split at h
  · rename_i x q; cases h; exact Or.inl ⟨x.1, x.2.2, q⟩
  · rename_i x q; cases h; exact Or.inr ⟨x.2, q⟩
  · cases h
theorem mm_s_arraylength (hs : mm_Sim X rec) (hd : decode (mm_by y) pc = .ok (.arraylength, len)) (h : mm_step rec y pc ls st σ (.arraylength) len = some (o, σ')) : mm_Sm X y pc ls st σ o σ' := by
  simp only [mm_step] at h
  replace h := mm_its h
  obtain ⟨hlen, h⟩ := h
  subst hlen
  replace h := mm_prs h
  obtain ⟨a, t, rfl, h⟩ := h
  replace h := mm_bds h
  obtain ⟨n, hn, h⟩ := h
  exact mm_pure (hs _ _ _ _ _ _ _ h) (fun _ _ _ q => q.tl.i) (fun K H locs cells slots Q mls ι η hF hG hH _ _ _ _ k => by
    rcases mm_lens hn with ⟨kd, f, hf⟩ | ⟨f, hf⟩
    · obtain ⟨-, -, -, hat⟩ := hH.2.2.2.2.2.1 a _ hf
      match kd, hat with
      | 0, hat => exact W.alen (n := Int32.ofNat n) hF.1 hF.2.1 hat.1 (hG.2.1.1 n (fun j => .int (f j))) (by rw [arrV_size]) rfl rfl hd k
      | 1, hat => exact W.alen (n := Int32.ofNat n) hF.1 hF.2.1 hat.1 (hG.2.2.1.1 n (fun j => .int (f j))) (by rw [arrV_size]) rfl rfl hd k
      | kd + 2, hat =>
        obtain ⟨cell, c1, c2, c3, c4, c5⟩ := hat
        exact W.alen (n := Int32.ofNat n) hF.1 hF.2.1 c1 c2 (by rw [c4]) rfl rfl hd k
    · obtain ⟨-, -, -, hat⟩ := hH.2.2.2.2.2.1 a _ hf
      exact W.alen (n := Int32.ofNat n) hF.1 hF.2.1 hat.1 (hG.2.2.2.1.1 n (fun j => .long (f j))) (by rw [arrV_size]) rfl rfl hd k)
theorem mm_arrs {a : Nat} {x : Nat × Nat × (Nat → Int32)} (h : mm_arr σ a = some x) : σ.1 a = some (.inr (.inl x)) := by
  unfold mm_arr at h
  split at h
  · rename_i q; cases h; exact q
  · cases h
theorem mm_lars {a : Nat} {x : Nat × (Nat → Int64)} (h : mm_lar σ a = some x) : σ.1 a = some (.inr (.inr (.inl x))) := by
  unfold mm_lar at h
  split at h
  · rename_i q; cases h; exact q
  · cases h
theorem mm_s_iaload (hs : mm_Sim X rec) (hd : decode (mm_by y) pc = .ok (.iaload, len)) (h : mm_step rec y pc ls st σ (.iaload) len = some (o, σ')) : mm_Sm X y pc ls st σ o σ' := by
  simp only [mm_step] at h
  replace h := mm_its h
  obtain ⟨hlen, h⟩ := h
  subst hlen
  replace h := mm_pis h
  obtain ⟨a, i, t, rfl, h⟩ := h
  replace h := mm_bds h
  obtain ⟨x, hx, h⟩ := h
  unfold mm_ald at hx
  obtain ⟨⟨kd, n, f⟩, hz, hx⟩ := mm_bds hx
  obtain ⟨hin, hx⟩ := mm_itn hx
  obtain ⟨hkd, hx⟩ := mm_its hx
  cases hx
  have hlt : i.toNatClampNeg < n := Nat.not_le.mp fun q => hin (Or.inr q)
  exact mm_pure (hs _ _ _ _ _ _ _ h) (fun _ _ _ q => q.tl.tl.i) (fun K H locs cells slots Q mls ι η hF hG hH _ _ _ _ k => by
    obtain ⟨-, -, -, hat⟩ := hH.2.2.2.2.2.1 a _ (mm_arrs hz)
    match kd, hkd, hat with
    | 0, _, hat => exact W.iald (v := .int (f i.toNatClampNeg)) hF.1 hF.2.1 hat.1 (hG.2.1.1 n (fun j => .int (f j))) (fun q => by cases q) (by show ¬ (i < 0 ∨ (arrV _ _ _).slots.size ≤ _); rw [arrV_size]; exact hin) (by show (arrV _ _ _).slots[_]? = _; rw [arrV_read _ _ hlt]) rfl rfl hd k
    | 1, hkd, hat => cases hkd
    | kd + 2, _, hat =>
      obtain ⟨cell, c1, c2, c3, c4, c5⟩ := hat
      exact W.iald (v := .int (f i.toNatClampNeg)) hF.1 hF.2.1 c1 c2 c3 (by rw [c4]; exact hin) (c5 _ hlt) rfl rfl hd k)
theorem mm_s_baload (hs : mm_Sim X rec) (hd : decode (mm_by y) pc = .ok (.baload, len)) (h : mm_step rec y pc ls st σ (.baload) len = some (o, σ')) : mm_Sm X y pc ls st σ o σ' := by
  simp only [mm_step] at h
  replace h := mm_its h
  obtain ⟨hlen, h⟩ := h
  subst hlen
  replace h := mm_pis h
  obtain ⟨a, i, t, rfl, h⟩ := h
  replace h := mm_bds h
  obtain ⟨x, hx, h⟩ := h
  unfold mm_ald at hx
  obtain ⟨⟨kd, n, f⟩, hz, hx⟩ := mm_bds hx
  obtain ⟨hin, hx⟩ := mm_itn hx
  obtain ⟨hkd, hx⟩ := mm_its hx
  cases hx
  have hlt : i.toNatClampNeg < n := Nat.not_le.mp fun q => hin (Or.inr q)
  have hk1 : kd = 1 := by simpa using hkd
  subst hk1
  exact mm_pure (hs _ _ _ _ _ _ _ h) (fun _ _ _ q => q.tl.tl.i) (fun K H locs cells slots Q mls ι η hF hG hH _ _ _ _ k => by
    obtain ⟨-, -, -, hat⟩ := hH.2.2.2.2.2.1 a _ (mm_arrs hz)
    exact W.zald (v := .int (f i.toNatClampNeg)) hF.1 hF.2.1 hat.1 (hG.2.2.1.1 n (fun j => .int (f j))) (fun q => by cases q) (by show ¬ (i < 0 ∨ (arrV _ _ _).slots.size ≤ _); rw [arrV_size]; exact hin) (by show (arrV _ _ _).slots[_]? = _; rw [arrV_read _ _ hlt]) rfl rfl hd k)
theorem mm_s_laload (hs : mm_Sim X rec) (hd : decode (mm_by y) pc = .ok (.laload, len)) (h : mm_step rec y pc ls st σ (.laload) len = some (o, σ')) : mm_Sm X y pc ls st σ o σ' := by
  simp only [mm_step] at h
  replace h := mm_its h
  obtain ⟨hlen, h⟩ := h
  subst hlen
  replace h := mm_pis h
  obtain ⟨a, i, t, rfl, h⟩ := h
  replace h := mm_bds h
  obtain ⟨⟨n, f⟩, hz, h⟩ := h
  replace h := mm_itn h
  obtain ⟨hin, h⟩ := h
  have hlt : i.toNatClampNeg < n := Nat.not_le.mp fun q => hin (Or.inr q)
  exact mm_pure (hs _ _ _ _ _ _ _ h) (fun _ _ _ q => q.tl.tl.l) (fun K H locs cells slots Q mls ι η hF hG hH _ _ _ _ k => by
    obtain ⟨-, -, -, hat⟩ := hH.2.2.2.2.2.1 a _ (mm_lars hz)
    exact W.lald (v := .long (f i.toNatClampNeg)) hF.1 hF.2.1 hat.1 (hG.2.2.2.1.1 n (fun j => .long (f j))) (fun q => by cases q) (by show ¬ (i < 0 ∨ (arrV _ _ _).slots.size ≤ _); rw [arrV_size]; exact hin) (by show (arrV _ _ _).slots[_]? = _; rw [arrV_read _ _ hlt]) rfl rfl hd k)
/-- a step that writes an object that is no list -/
theorem mm_wr {pc' a : Nat} {st' : List Value} {o0 o1 : mm_O} (hr : mm_Sm X y pc' ls st' (mm_put σ a o1) o σ') (hv : mm_ST σ.2.1 st → mm_ST σ.2.1 st') (h0 : σ.1 a = some o0) (hr0 : mm_ro o0 = false) (hl0 : mm_il o0 = false) (hr1 : mm_ro o1 = false) (hl1 : mm_il o1 = false) (hov : mm_ST σ.2.1 st → mm_ov σ.2.1 o0 → mm_ov σ.2.1 o1)
    (hw : ∀ (K : mm_K) (H : Heap) (locs : List Loc) (cells slots : Nat) (Q : State → Prop) (mls : Array Slot) (ι η : Nat → Nat), mm_Fx K y → mm_G X (mm_Ks K) → mm_at X ι η (mm_Ks K) a o0 H → mm_ST σ.2.1 st →
      (∀ (H1 : Heap) (j : Nat), H1.size = H.size → (∀ q : Nat, q ≠ ι a → H1[q]? = H[q]?) → mm_at X ι η (mm_Ks K) a o1 H1 → mm_W K H1 (locs ++ [⟨ι a, j⟩]) cells slots Q (F0 (mm_Km K) pc' mls (st'.map (mm_v ι)))) → mm_W K H locs cells slots Q (F0 (mm_Km K) pc mls (st.map (mm_v ι)))) : mm_Sm X y pc ls st σ o σ' :=
  ⟨hr.1, fun K H locs cells slots mc ms mls ι η hF hG hH hL hst hlo hc hR => by
    obtain ⟨f1, f2, f3, f4⟩ := hH.2.2.2.2.2.1 a _ h0
    refine hw K H locs cells slots _ mls ι η hF hG f4 hst fun H1 j z oq hat => ?_
    refine hr.2 K H1 _ cells slots mc ms mls ι η hF hG (hH.put h0 hr0 hl0 hr1 hl1 (hov hst f2) z oq hat) hL (hv hst) (fun z hz => ?_) hc hR
    rcases List.mem_append.mp hz with hz | hz
    · exact hlo z hz
    · rw [List.mem_singleton.mp hz]
      exact hH.2.2.2.1 a (f3 hr0) f1⟩
theorem mm_upd_arr {cI n i : Nat} {f : Nat → Int32} {x : Int32} : (arrV cI n (fun j => .int (f j))).setSlot i (.int x) = arrV cI n (fun j => .int (upd f i x j)) := by
  rw [arrV_store]
  congr 1
  funext q
  by_cases hq : q = i
  · simp [updV, upd, hq]
  · simp [updV, upd, hq]
theorem mm_upd_larr {cI n i : Nat} {f : Nat → Int64} {x : Int64} : (arrV cI n (fun j => .long (f j))).setSlot i (.long x) = arrV cI n (fun j => .long (vp_updL f i x j)) := by
  rw [arrV_store]
  congr 1
  funext q
  by_cases hq : q = i
  · simp [updV, vp_updL, hq]
  · simp [updV, vp_updL, hq]
theorem mm_s_iastore (hs : mm_Sim X rec) (hd : decode (mm_by y) pc = .ok (.iastore, len)) (h : mm_step rec y pc ls st σ (.iastore) len = some (o, σ')) : mm_Sm X y pc ls st σ o σ' := by
  simp only [mm_step] at h
  replace h := mm_its h
  obtain ⟨hlen, h⟩ := h
  subst hlen
  replace h := mm_piis h
  obtain ⟨a, i, x, t, rfl, h⟩ := h
  replace h := mm_bds h
  obtain ⟨σ1, hx, h⟩ := h
  unfold mm_ast at hx
  obtain ⟨⟨kd, n, f⟩, hz, hx⟩ := mm_bds hx
  obtain ⟨hin, hx⟩ := mm_itn hx
  obtain ⟨hkd, hx⟩ := mm_its hx
  have hkd : kd = 0 := hkd
  subst hkd
  cases hx
  exact mm_wr (hs _ _ _ _ _ _ _ h) (fun q => q.tl.tl.tl) (mm_arrs hz) rfl rfl rfl rfl (fun _ _ => trivial) (fun K H locs cells slots Q mls ι η hF hG hat hst k => by
    refine W.iast hF.1 hF.2.1 hat.1 (hG.2.1.1 n (fun j => .int (f j))) (fun q => by cases q) (by show ¬ (i < 0 ∨ (arrV _ _ _).slots.size ≤ _); rw [arrV_size]; exact hin) rfl rfl hd fun H1 e z oq => k H1 _ z oq ⟨?_, hat.2⟩
    rw [e, mm_upd_arr])
theorem mm_s_bastore (hs : mm_Sim X rec) (hd : decode (mm_by y) pc = .ok (.bastore, len)) (h : mm_step rec y pc ls st σ (.bastore) len = some (o, σ')) : mm_Sm X y pc ls st σ o σ' := by
  simp only [mm_step] at h
  replace h := mm_its h
  obtain ⟨hlen, h⟩ := h
  subst hlen
  replace h := mm_piis h
  obtain ⟨a, i, x, t, rfl, h⟩ := h
  replace h := mm_its h
  obtain ⟨hx01, h⟩ := h
  replace h := mm_bds h
  obtain ⟨σ1, hx, h⟩ := h
  unfold mm_ast at hx
  obtain ⟨⟨kd, n, f⟩, hz, hx⟩ := mm_bds hx
  obtain ⟨hin, hx⟩ := mm_itn hx
  obtain ⟨hkd, hx⟩ := mm_its hx
  have hkd : kd = 1 := hkd
  subst hkd
  cases hx
  exact mm_wr (hs _ _ _ _ _ _ _ h) (fun q => q.tl.tl.tl) (mm_arrs hz) rfl rfl rfl rfl (fun _ _ => trivial) (fun K H locs cells slots Q mls ι η hF hG hat hst k => by
    refine W.zast hF.1 hF.2.1 hat.1 (hG.2.2.1.1 n (fun j => .int (f j))) (fun q => by cases q) (by show ¬ (i < 0 ∨ (arrV _ _ _).slots.size ≤ _); rw [arrV_size]; exact hin) rfl rfl hd fun H1 e z oq => k H1 _ z oq ⟨?_, hat.2⟩
    rw [e, show narrow .boolean (.int x) = .int x by rcases hx01 with rfl | rfl <;> rfl, mm_upd_arr])
theorem mm_s_lastore (hs : mm_Sim X rec) (hd : decode (mm_by y) pc = .ok (.lastore, len)) (h : mm_step rec y pc ls st σ (.lastore) len = some (o, σ')) : mm_Sm X y pc ls st σ o σ' := by
  simp only [mm_step] at h
  replace h := mm_its h
  obtain ⟨hlen, h⟩ := h
  subst hlen
  replace h := mm_pils h
  obtain ⟨a, i, x, t, rfl, h⟩ := h
  replace h := mm_bds h
  obtain ⟨⟨n, f⟩, hz, h⟩ := h
  replace h := mm_itn h
  obtain ⟨hin, h⟩ := h
  exact mm_wr (hs _ _ _ _ _ _ _ h) (fun q => q.tl.tl.tl) (mm_lars hz) rfl rfl rfl rfl (fun _ _ => trivial) (fun K H locs cells slots Q mls ι η hF hG hat hst k => by
    refine W.last hF.1 hF.2.1 hat.1 (hG.2.2.2.1.1 n (fun j => .long (f j))) (fun q => by cases q) (by show ¬ (i < 0 ∨ (arrV _ _ _).slots.size ≤ _); rw [arrV_size]; exact hin) rfl rfl hd fun H1 e z oq => k H1 _ z oq ⟨?_, hat.2⟩
    rw [e, mm_upd_larr])
end
end
