/-! THE TABLES ARE THE STATEMENT'S: methods and calls, by the words' places -/
def mm_ck (ws : List Cond) (ps : List Nat) : Bool := decide (ws = ps.filterMap (fun i => lw_tbl[i]?)) && ws.all goodWord
theorem mm_ck_in {ws : List Cond} {ps : List Nat} (h : mm_ck ws ps = true) {w : Cond} (hw : w ∈ ws) : w ∈ mm_good := by
  unfold mm_ck at h
  rw [Bool.and_eq_true, decide_eq_true_eq, List.all_eq_true] at h
  refine List.mem_filter.mpr ⟨?_, h.2 w hw⟩
  rw [h.1] at hw
  obtain ⟨i, -, hi⟩ := List.mem_filterMap.mp hw
  exact List.mem_of_getElem? hi
def mm_mps : List (List Nat) := [[60, 748, 747], [60, 343, 341, 342], [60, 347, 345, 346], [60, 834, 832, 833], [60, 846, 844, 845], [60, 884, 882, 883], [49, 461, 460], [49, 255, 253, 254], [49, 376, 374, 375], [49, 730, 728, 729], [49, 304, 302, 303], [49, 715, 713, 714], [57, 504, 503], [57, 285, 283, 284], [57, 264, 262, 263], [61, 852, 851], [61, 841, 839, 840], [61, 888, 886, 887], [61, 906, 904, 905], [59, 654, 653], [59, 268, 266, 267], [59, 673, 671, 672], [58, 612, 611], [40, 66, 65], [40, 803, 801, 802], [40, 362, 360, 361], [40, 380, 378, 379], [40, 394, 392, 393], [40, 398, 397, 15], [40, 387, 386], [40, 807, 806], [40, 726, 725, 31], [40, 739, 738, 33], [40, 370, 369, 14], [40, 366, 365, 13], [40, 383, 382], [40, 402, 400, 401], [40, 125, 123, 124], [40, 597, 595, 596], [40, 630, 628, 629], [40, 643, 641, 642], [40, 406, 405, 16], [40, 415, 414], [40, 436, 435, 17], [40, 448, 447, 20], [40, 440, 439, 18], [40, 444, 443, 19], [40, 454, 453, 21], [40, 457, 456], [40, 606, 605, 25], [40, 635, 634, 26], [40, 639, 638, 27], [40, 602, 601], [40, 141, 140, 0], [40, 409, 408], [40, 501, 500], [40, 719, 718], [40, 648, 646, 647], [40, 668, 666, 667], [40, 236, 235, 3], [40, 260, 259, 4], [40, 273, 272, 5], [40, 277, 276, 6], [40, 281, 280, 7], [40, 289, 288, 8], [40, 300, 299, 10], [40, 317, 316, 11], [40, 293, 292, 9], [40, 137, 135, 136], [40, 678, 676, 677], [40, 704, 702, 703], [40, 232, 231, 2], [40, 320, 319], [40, 326, 325], [40, 683, 682, 28], [40, 687, 686, 29], [40, 694, 693], [40, 700, 699], [40, 697, 696], [40, 690, 689], [40, 708, 707, 30], [40, 735, 734, 32], [40, 711, 710], [40, 722, 721], [40, 743, 741, 742], [40, 782, 780, 781], [40, 796, 794, 795], [40, 330, 328, 329], [40, 351, 349, 350], [40, 821, 819, 820], [40, 880, 878, 879], [40, 778, 777, 34], [40, 338, 337, 12], [40, 893, 892, 36], [40, 897, 896, 37], [40, 901, 900, 38], [40, 786, 785, 35], [40, 333, 332], [40, 790, 789], [40, 824, 823], [40, 828, 827], [40, 144, 143], [40, 310, 309], [40, 313, 312], [40, 307, 306], [40, 390, 389], [39, 355, 354], [39, 799, 798], [39, 817, 816], [39, 876, 875], [39, 813, 812], [39, 909, 908], [39, 912, 911], [39, 915, 914], [39, 918, 917]]
def mm_cw (z : Nat) : Cond := if mm_lh mm_hr z = [] then Cond.code (mm_nm z) (mm_by z) (mm_mx z) (mm_rt z) else Cond.codeWith (mm_nm z) (mm_by z) (mm_mx z) (mm_rt z) (mm_lh mm_hr z)
def mm_mw (z : Nat) : List Cond := Cond.initialized (mm_nm z).cls :: mm_cw z :: (match mm_kd z with
  | 0 => [Cond.static (mm_nm z)]
  | 1 => [Cond.instanceMethod (mm_nm z), Cond.selects (mm_nm z).cls (mm_nm z) (mm_nm z)]
  | _ => [Cond.instanceMethod (mm_nm z)])
def mm_mok (z : Nat) : Bool := decide ((mm_nm z).cls = mm_cn (mm_own z)) && plainName (mm_nm z).cls && decide ((mm_nm z).cls ≠ "java/lang/invoke/MethodHandle" ∧ (mm_nm z).cls ≠ "java/lang/invoke/VarHandle") &&
  decide ((parseMethodDescriptor (mm_nm z).desc).map (fun d => d.parameters.length) = some (mm_np z)) && mm_ck (mm_mw z) ((mm_mps[z]?).getD []) && (decide (mm_lh mm_hr z = []) || decide (mm_kd z = 0)) && (decide (mm_kd z < 2) || (decide (mm_kd z = 2) && decide (mm_rt z = none) && decide ((mm_nm z).name = "<init>")))
theorem mm_ck_of {ws : List Cond} {ps : List Nat} (h : ws = ps.filterMap (fun i => lw_tbl[i]?)) (h2 : ws.all goodWord = true) : mm_ck ws ps = true := by
  unfold mm_ck
  rw [Bool.and_eq_true, decide_eq_true_eq]
  exact ⟨h, h2⟩
set_option maxRecDepth 1000000 in
theorem mm_m0 : (List.range 20).all (fun i => mm_mok (0 + i)) = true := by decide +kernel
set_option maxRecDepth 1000000 in
theorem mm_m20 : (List.range 20).all (fun i => mm_mok (20 + i)) = true := by decide +kernel
set_option maxRecDepth 1000000 in
theorem mm_m40 : (List.range 20).all (fun i => mm_mok (40 + i)) = true := by decide +kernel
set_option maxRecDepth 1000000 in
theorem mm_m60 : (List.range 20).all (fun i => mm_mok (60 + i)) = true := by decide +kernel
set_option maxRecDepth 1000000 in
theorem mm_m80 : (List.range 20).all (fun i => mm_mok (80 + i)) = true := by decide +kernel
set_option maxRecDepth 1000000 in
theorem mm_m100 : (List.range 6).all (fun i => mm_mok (100 + i)) = true := by decide +kernel
set_option maxRecDepth 1000000 in
theorem mm_q106 : mm_mok 106 = true := by
  unfold mm_mok
  rw [show mm_ck (mm_mw 106) ((mm_mps[106]?).getD []) = true from mm_ck_of (by rfl) (by decide +kernel)]
  decide +kernel
theorem mm_m106 : (List.range 1).all (fun i => mm_mok (106 + i)) = true := by
  rw [List.all_eq_true]
  intro i hi
  have : i = 0 := by have := List.mem_range.mp hi; omega
  subst this
  exact mm_q106
set_option maxRecDepth 1000000 in
theorem mm_q107 : mm_mok 107 = true := by
  unfold mm_mok
  rw [show mm_ck (mm_mw 107) ((mm_mps[107]?).getD []) = true from mm_ck_of (by rfl) (by decide +kernel)]
  decide +kernel
theorem mm_m107 : (List.range 1).all (fun i => mm_mok (107 + i)) = true := by
  rw [List.all_eq_true]
  intro i hi
  have : i = 0 := by have := List.mem_range.mp hi; omega
  subst this
  exact mm_q107
set_option maxRecDepth 1000000 in
theorem mm_q108 : mm_mok 108 = true := by
  unfold mm_mok
  rw [show mm_ck (mm_mw 108) ((mm_mps[108]?).getD []) = true from mm_ck_of (by rfl) (by decide +kernel)]
  decide +kernel
theorem mm_m108 : (List.range 1).all (fun i => mm_mok (108 + i)) = true := by
  rw [List.all_eq_true]
  intro i hi
  have : i = 0 := by have := List.mem_range.mp hi; omega
  subst this
  exact mm_q108
set_option maxRecDepth 1000000 in
theorem mm_q109 : mm_mok 109 = true := by
  unfold mm_mok
  rw [show mm_ck (mm_mw 109) ((mm_mps[109]?).getD []) = true from mm_ck_of (by rfl) (by decide +kernel)]
  decide +kernel
theorem mm_m109 : (List.range 1).all (fun i => mm_mok (109 + i)) = true := by
  rw [List.all_eq_true]
  intro i hi
  have : i = 0 := by have := List.mem_range.mp hi; omega
  subst this
  exact mm_q109
set_option maxRecDepth 1000000 in
theorem mm_q110 : mm_mok 110 = true := by
  unfold mm_mok
  rw [show mm_ck (mm_mw 110) ((mm_mps[110]?).getD []) = true from mm_ck_of (by rfl) (by decide +kernel)]
  decide +kernel
theorem mm_m110 : (List.range 1).all (fun i => mm_mok (110 + i)) = true := by
  rw [List.all_eq_true]
  intro i hi
  have : i = 0 := by have := List.mem_range.mp hi; omega
  subst this
  exact mm_q110
set_option maxRecDepth 1000000 in
theorem mm_q111 : mm_mok 111 = true := by
  unfold mm_mok
  rw [show mm_ck (mm_mw 111) ((mm_mps[111]?).getD []) = true from mm_ck_of (by rfl) (by decide +kernel)]
  decide +kernel
theorem mm_m111 : (List.range 1).all (fun i => mm_mok (111 + i)) = true := by
  rw [List.all_eq_true]
  intro i hi
  have : i = 0 := by have := List.mem_range.mp hi; omega
  subst this
  exact mm_q111
set_option maxRecDepth 1000000 in
theorem mm_q112 : mm_mok 112 = true := by
  unfold mm_mok
  rw [show mm_ck (mm_mw 112) ((mm_mps[112]?).getD []) = true from mm_ck_of (by rfl) (by decide +kernel)]
  decide +kernel
theorem mm_m112 : (List.range 1).all (fun i => mm_mok (112 + i)) = true := by
  rw [List.all_eq_true]
  intro i hi
  have : i = 0 := by have := List.mem_range.mp hi; omega
  subst this
  exact mm_q112
set_option maxRecDepth 1000000 in
theorem mm_q113 : mm_mok 113 = true := by
  unfold mm_mok
  rw [show mm_ck (mm_mw 113) ((mm_mps[113]?).getD []) = true from mm_ck_of (by rfl) (by decide +kernel)]
  decide +kernel
theorem mm_m113 : (List.range 1).all (fun i => mm_mok (113 + i)) = true := by
  rw [List.all_eq_true]
  intro i hi
  have : i = 0 := by have := List.mem_range.mp hi; omega
  subst this
  exact mm_q113
set_option maxRecDepth 1000000 in
theorem mm_q114 : mm_mok 114 = true := by
  unfold mm_mok
  rw [show mm_ck (mm_mw 114) ((mm_mps[114]?).getD []) = true from mm_ck_of (by rfl) (by decide +kernel)]
  decide +kernel
theorem mm_m114 : (List.range 1).all (fun i => mm_mok (114 + i)) = true := by
  rw [List.all_eq_true]
  intro i hi
  have : i = 0 := by have := List.mem_range.mp hi; omega
  subst this
  exact mm_q114
theorem mm_m_ok {z : Nat} (h : z < 115) : mm_mok z = true := by
  rcases Nat.lt_or_ge z 20 with q | q
  · have := List.all_eq_true.mp mm_m0 (z - 0) (List.mem_range.mpr (by omega))
    rw [show 0 + (z - 0) = z by omega] at this
    exact this
  rcases Nat.lt_or_ge z 40 with q | q
  · have := List.all_eq_true.mp mm_m20 (z - 20) (List.mem_range.mpr (by omega))
    rw [show 20 + (z - 20) = z by omega] at this
    exact this
  rcases Nat.lt_or_ge z 60 with q | q
  · have := List.all_eq_true.mp mm_m40 (z - 40) (List.mem_range.mpr (by omega))
    rw [show 40 + (z - 40) = z by omega] at this
    exact this
  rcases Nat.lt_or_ge z 80 with q | q
  · have := List.all_eq_true.mp mm_m60 (z - 60) (List.mem_range.mpr (by omega))
    rw [show 60 + (z - 60) = z by omega] at this
    exact this
  rcases Nat.lt_or_ge z 100 with q | q
  · have := List.all_eq_true.mp mm_m80 (z - 80) (List.mem_range.mpr (by omega))
    rw [show 80 + (z - 80) = z by omega] at this
    exact this
  rcases Nat.lt_or_ge z 106 with q | q
  · have := List.all_eq_true.mp mm_m100 (z - 100) (List.mem_range.mpr (by omega))
    rw [show 100 + (z - 100) = z by omega] at this
    exact this
  rcases Nat.lt_or_ge z 107 with q | q
  · have := List.all_eq_true.mp mm_m106 (z - 106) (List.mem_range.mpr (by omega))
    rw [show 106 + (z - 106) = z by omega] at this
    exact this
  rcases Nat.lt_or_ge z 108 with q | q
  · have := List.all_eq_true.mp mm_m107 (z - 107) (List.mem_range.mpr (by omega))
    rw [show 107 + (z - 107) = z by omega] at this
    exact this
  rcases Nat.lt_or_ge z 109 with q | q
  · have := List.all_eq_true.mp mm_m108 (z - 108) (List.mem_range.mpr (by omega))
    rw [show 108 + (z - 108) = z by omega] at this
    exact this
  rcases Nat.lt_or_ge z 110 with q | q
  · have := List.all_eq_true.mp mm_m109 (z - 109) (List.mem_range.mpr (by omega))
    rw [show 109 + (z - 109) = z by omega] at this
    exact this
  rcases Nat.lt_or_ge z 111 with q | q
  · have := List.all_eq_true.mp mm_m110 (z - 110) (List.mem_range.mpr (by omega))
    rw [show 110 + (z - 110) = z by omega] at this
    exact this
  rcases Nat.lt_or_ge z 112 with q | q
  · have := List.all_eq_true.mp mm_m111 (z - 111) (List.mem_range.mpr (by omega))
    rw [show 111 + (z - 111) = z by omega] at this
    exact this
  rcases Nat.lt_or_ge z 113 with q | q
  · have := List.all_eq_true.mp mm_m112 (z - 112) (List.mem_range.mpr (by omega))
    rw [show 112 + (z - 112) = z by omega] at this
    exact this
  rcases Nat.lt_or_ge z 114 with q | q
  · have := List.all_eq_true.mp mm_m113 (z - 113) (List.mem_range.mpr (by omega))
    rw [show 113 + (z - 113) = z by omega] at this
    exact this
  rcases Nat.lt_or_ge z 115 with q | q
  · have := List.all_eq_true.mp mm_m114 (z - 114) (List.mem_range.mpr (by omega))
    rw [show 114 + (z - 114) = z by omega] at this
    exact this
  omega
def mm_pn (q : Nat) : MethodName := match q with
  | 0 => yJx4a65c_size_8abf5
  | 1 => yJx4a65c_get_915e3
  | 2 => yJx4a65c_add_9ea2d
  | 3 => yJx4a65c_clear_da8c8
  | 4 => yJx4a65c_init_da8c8
  | 5 => objectInit
  | 6 => Lib.Math.abs.name
  | 7 => Lib.Math.max.name
  | _ => Lib.Math.min.name
def mm_ips : List (Nat × Nat) := [(3, 749), (27, 751), (36, 835), (40, 836), (46, 838), (56, 885), (1003, 462), (1033, 731), (1037, 716), (2003, 505), (2048, 507), (3001, 853), (3025, 889), (4003, 655), (4019, 269), (4023, 674), (5001, 613), (6001, 67), (6009, 72), (6038, 142), (6049, 805), (6054, 126), (6065, 459), (6068, 723), (6074, 538), (6078, 363), (6084, 237), (6088, 373), (6091, 381), (6094, 385), (6098, 395), (6121, 308), (6125, 388), (6129, 311), (6132, 727), (6136, 367), (6147, 403), (6153, 413), (6160, 433), (6167, 451), (6171, 502), (6174, 130), (6177, 138), (6184, 600), (6187, 603), (6194, 610), (6199, 632), (6202, 407), (6207, 441), (6210, 437), (6213, 445), (6228, 455), (6232, 499), (6243, 636), (6246, 282), (6250, 321), (6263, 652), (6267, 670), (6277, 252), (6281, 257), (6285, 261), (6288, 265), (6292, 270), (6296, 278), (6299, 286), (6302, 297), (6305, 314), (6308, 274), (6311, 290), (6314, 294), (6317, 301), (6320, 305), (6323, 229), (6337, 680), (6340, 684), (6343, 692), (6347, 698), (6350, 233), (6353, 705), (6357, 732), (6360, 736), (6363, 318), (6367, 324), (6370, 688), (6374, 695), (6377, 691), (6380, 709), (6383, 720), (6386, 712), (6389, 717), (6392, 331), (6399, 746), (6402, 775), (6406, 783), (6409, 788), (6417, 335), (6426, 822), (6429, 826), (6434, 831), (6439, 843), (6449, 850), (6452, 881), (6456, 890), (6459, 894), (6462, 898), (6466, 340), (6472, 344), (6475, 902), (6478, 903), (9007, 359), (9013, 377), (9016, 391), (9019, 399), (9023, 594), (9027, 627), (9030, 640), (9033, 645), (9037, 665), (9041, 134), (9044, 675), (9047, 701), (9050, 740), (9053, 779), (9056, 793), (9060, 327), (9063, 348), (9072, 800), (9076, 818), (9080, 877), (9085, 797), (9090, 353), (9094, 815), (9097, 874), (9099, 64), (9100, 811), (9104, 122), (9108, 910), (9112, 913), (9116, 916), (9119, 907)]
def mm_iw (e : Nat × Nat) : Cond := if e.2 < 1000 then Cond.methodLink (mm_cn (e.1 / 1000)) (e.1 % 1000) (mm_nm e.2) else Cond.methodLink (mm_cn (e.1 / 1000)) (e.1 % 1000) (mm_pn (e.2 - 1000))
def mm_iok (e : Nat × Nat) : Bool := decide (e.1 % 1000 + e.1 / 1000 * 1000 = e.1) && ((match mm_lk mm_ips e.1 with | some p => mm_ck [mm_iw e] [p] | none => false) || (decide (Cond.methodLinkNest (mm_cn (e.1 / 1000)) (e.1 % 1000) (mm_nm e.2) RX6 ∈ mm_nst) && decide (e.2 = 101)))
set_option maxRecDepth 1000000 in
theorem mm_ivt_ok : mm_ivt.all mm_iok = true := by decide +kernel
theorem mm_nb : mm_kd 101 = 0 ∧ mm_lh mm_hr 101 = [] := by decide +kernel
def mm_pws : List Cond := [Cond.instanceMethod objectInit, Cond.code objectInit ⟨#[0xb1]⟩ 1 none, Cond.initialized "java/lang/Math", Cond.static Lib.Math.abs.name, Cond.static Lib.Math.max.name, Cond.static Lib.Math.min.name, Cond.code Lib.Math.abs.name Lib.Math.abs.code 1 (some .int), Cond.code Lib.Math.max.name Lib.Math.max.code 2 (some .int), Cond.code Lib.Math.min.name Lib.Math.min.code 2 (some .int)]
set_option maxRecDepth 1000000 in
theorem mm_pws_ok : mm_ck mm_pws [68, 69, 53, 295, 322, 587, 296, 323, 588] = true := by decide +kernel
