/-! THE TABLES ARE THE STATEMENT'S: methods and calls, by the words' places -/
def mm_ck (ws : List Cond) (ps : List Nat) : Bool := decide (ws = ps.filterMap (fun i => lw_tbl[i]?)) && ws.all goodWord
theorem mm_ck_in {ws : List Cond} {ps : List Nat} (h : mm_ck ws ps = true) {w : Cond} (hw : w ∈ ws) : w ∈ mm_good := by
  unfold mm_ck at h
  rw [Bool.and_eq_true, decide_eq_true_eq, List.all_eq_true] at h
  refine List.mem_filter.mpr ⟨?_, h.2 w hw⟩
  rw [h.1] at hw
  obtain ⟨i, -, hi⟩ := List.mem_filterMap.mp hw
  exact List.mem_of_getElem? hi
def mm_mps : List (List Nat) := [[88, 806, 805], [88, 868, 866, 867], [88, 872, 870, 871], [88, 907, 905, 906], [88, 919, 917, 918], [88, 957, 955, 956], [77, 266, 265], [77, 674, 672, 673], [77, 329, 327, 328], [77, 325, 323, 324], [77, 714, 712, 713], [77, 774, 772, 773], [85, 511, 510], [85, 606, 604, 605], [85, 682, 680, 681], [89, 925, 924], [89, 914, 912, 913], [89, 961, 959, 960], [89, 979, 977, 978], [87, 628, 627], [87, 655, 653, 654], [87, 650, 648, 649], [86, 572, 571], [67, 94, 93], [67, 170, 168, 169], [67, 397, 395, 396], [67, 430, 428, 429], [67, 453, 451, 452], [67, 457, 456, 7], [67, 437, 436], [67, 244, 243], [67, 307, 306, 1], [67, 789, 788, 32], [67, 405, 404, 6], [67, 401, 400, 5], [67, 433, 432], [67, 464, 462, 463], [67, 153, 151, 152], [67, 551, 549, 550], [67, 593, 591, 592], [67, 613, 611, 612], [67, 468, 467, 8], [67, 477, 476], [67, 483, 482, 9], [67, 496, 495, 12], [67, 487, 486, 10], [67, 491, 490, 11], [67, 502, 501, 13], [67, 505, 504], [67, 566, 565, 15], [67, 598, 597, 16], [67, 602, 601, 17], [67, 561, 560], [67, 555, 554, 14], [67, 471, 470], [67, 508, 507], [67, 778, 777], [67, 621, 619, 620], [67, 645, 643, 644], [67, 670, 669, 19], [67, 678, 677, 20], [67, 687, 686, 21], [67, 691, 690, 22], [67, 695, 694, 23], [67, 699, 698, 24], [67, 710, 709, 26], [67, 721, 720, 27], [67, 703, 702, 25], [67, 662, 660, 661], [67, 734, 732, 733], [67, 763, 761, 762], [67, 666, 665, 18], [67, 724, 723], [67, 727, 726], [67, 739, 738, 28], [67, 743, 742, 29], [67, 750, 749], [67, 756, 755], [67, 753, 752], [67, 746, 745], [67, 767, 766, 30], [67, 785, 784, 31], [67, 770, 769], [67, 781, 780], [67, 796, 794, 795], [67, 843, 841, 842], [67, 860, 858, 859], [67, 879, 877, 878], [67, 886, 884, 885], [67, 894, 892, 893], [67, 953, 951, 952], [67, 836, 835, 33], [67, 864, 863, 35], [67, 966, 965, 36], [67, 970, 969, 37], [67, 974, 973, 38], [67, 847, 846, 34], [67, 799, 798], [67, 851, 850], [67, 897, 896], [67, 901, 900], [67, 173, 172], [67, 440, 439], [67, 446, 445], [67, 717, 716], [67, 443, 442], [71, 984, 983], [71, 1075, 1073, 1074], [71, 1082, 1081], [71, 1209, 1208], [71, 1212, 1211], [71, 1190, 1189], [71, 1094, 1093, 40], [71, 1140, 1139, 45], [71, 1124, 1123], [71, 1086, 1085, 39], [71, 1079, 1077, 1078], [71, 1098, 1097, 41], [71, 1090, 1088, 1089], [71, 1109, 1108], [71, 1106, 1105, 42], [71, 1102, 1100, 1101], [71, 1113, 1111, 1112], [71, 1128, 1127, 44], [71, 1121, 1120, 43], [71, 1117, 1115, 1116], [71, 1132, 1130, 1131], [71, 1143, 1142], [71, 1136, 1134, 1135], [71, 1155, 1154, 47], [71, 1159, 1158, 48], [71, 1151, 1150, 46], [71, 1147, 1145, 1146], [71, 1163, 1161, 1162], [71, 1167, 1165, 1166], [71, 1171, 1169, 1170], [71, 1202, 1201, 54], [71, 1187, 1186, 51], [71, 1183, 1182, 50], [71, 1194, 1193, 52], [71, 1206, 1205, 55], [71, 1198, 1197, 53], [71, 1179, 1178, 49], [71, 1231, 1230, 59], [71, 1223, 1222], [71, 1227, 1226, 58], [71, 1220, 1219, 57], [71, 1216, 1215, 56], [71, 1175, 1173, 1174], [71, 1238, 1237], [71, 1235, 1233, 1234], [71, 1250, 1249, 61], [71, 1246, 1245, 60], [71, 1242, 1240, 1241], [71, 1266, 1265, 63], [71, 1270, 1269, 64], [71, 1258, 1257, 62], [71, 1254, 1252, 1253], [71, 1262, 1260, 1261], [71, 1278, 1277, 65], [71, 1274, 1272, 1273], [71, 1282, 1280, 1281], [71, 1286, 1284, 1285], [71, 1293, 1292], [71, 1296, 1295], [71, 1290, 1288, 1289], [71, 1300, 1298, 1299], [66, 164, 163], [66, 392, 391], [66, 426, 425], [66, 449, 448], [66, 460, 459], [66, 547, 546], [66, 589, 588], [66, 609, 608], [66, 617, 616], [66, 641, 640], [66, 658, 657], [66, 730, 729], [66, 759, 758], [66, 792, 791], [66, 839, 838], [66, 856, 855], [66, 875, 874], [66, 882, 881], [66, 890, 889], [66, 949, 948]]
def mm_cw (z : Nat) : Cond := if mm_lh mm_hr z = [] then Cond.code (mm_nm z) (mm_by z) (mm_mx z) (mm_rt z) else Cond.codeWith (mm_nm z) (mm_by z) (mm_mx z) (mm_rt z) (mm_lh mm_hr z)
def mm_mw (z : Nat) : List Cond := Cond.initialized (mm_nm z).cls :: mm_cw z :: (match mm_kd z with
  | 0 => [Cond.static (mm_nm z)]
  | 1 => [Cond.instanceMethod (mm_nm z), Cond.selects (mm_nm z).cls (mm_nm z) (mm_nm z)]
  | _ => [Cond.instanceMethod (mm_nm z)])
def mm_mok (z : Nat) : Bool := decide ((mm_nm z).cls = mm_cn (mm_own z)) && plainName (mm_nm z).cls && decide ((mm_nm z).cls ≠ "java/lang/invoke/MethodHandle" ∧ (mm_nm z).cls ≠ "java/lang/invoke/VarHandle") &&
  decide ((parseMethodDescriptor (mm_nm z).desc).map (fun d => d.parameters.length) = some (mm_np z)) && mm_ck (mm_mw z) ((mm_mps[z]?).getD []) && (decide (mm_lh mm_hr z = []) || decide (mm_kd z = 0)) && (decide (mm_kd z < 2) || (decide (mm_kd z = 2) && decide (mm_rt z = none) && decide ((mm_nm z).name = "<init>")))
set_option maxRecDepth 1000000 in
theorem mm_m0 : (List.range 20).all (fun i => mm_mok (0 + i)) = true := by decide +kernel
set_option maxRecDepth 1000000 in
theorem mm_m20 : (List.range 20).all (fun i => mm_mok (20 + i)) = true := by decide +kernel
set_option maxRecDepth 1000000 in
theorem mm_m40 : (List.range 20).all (fun i => mm_mok (40 + i)) = true := by decide +kernel
set_option maxRecDepth 1000000 in
theorem mm_m60 : (List.range 20).all (fun i => mm_mok (60 + i)) = true := by decide +kernel
set_option maxRecDepth 1000000 in
theorem mm_m80 : (List.range 20).all (fun i => mm_mok (80 + i)) = true := by decide +kernel
set_option maxRecDepth 1000000 in
theorem mm_m100 : (List.range 20).all (fun i => mm_mok (100 + i)) = true := by decide +kernel
set_option maxRecDepth 1000000 in
theorem mm_m120 : (List.range 20).all (fun i => mm_mok (120 + i)) = true := by decide +kernel
set_option maxRecDepth 1000000 in
theorem mm_m140 : (List.range 20).all (fun i => mm_mok (140 + i)) = true := by decide +kernel
set_option maxRecDepth 1000000 in
theorem mm_m160 : (List.range 20).all (fun i => mm_mok (160 + i)) = true := by decide +kernel
set_option maxRecDepth 1000000 in
theorem mm_m180 : (List.range 7).all (fun i => mm_mok (180 + i)) = true := by decide +kernel
theorem mm_m_ok {z : Nat} (h : z < 187) : mm_mok z = true := by
  rcases Nat.lt_or_ge z 20 with q | q
  · have := List.all_eq_true.mp mm_m0 (z - 0) (List.mem_range.mpr (by omega))
    rw [show 0 + (z - 0) = z by omega] at this
    exact this
  rcases Nat.lt_or_ge z 40 with q | q
  · have := List.all_eq_true.mp mm_m20 (z - 20) (List.mem_range.mpr (by omega))
    rw [show 20 + (z - 20) = z by omega] at this
    exact this
  rcases Nat.lt_or_ge z 60 with q | q
  · have := List.all_eq_true.mp mm_m40 (z - 40) (List.mem_range.mpr (by omega))
    rw [show 40 + (z - 40) = z by omega] at this
    exact this
  rcases Nat.lt_or_ge z 80 with q | q
  · have := List.all_eq_true.mp mm_m60 (z - 60) (List.mem_range.mpr (by omega))
    rw [show 60 + (z - 60) = z by omega] at this
    exact this
  rcases Nat.lt_or_ge z 100 with q | q
  · have := List.all_eq_true.mp mm_m80 (z - 80) (List.mem_range.mpr (by omega))
    rw [show 80 + (z - 80) = z by omega] at this
    exact this
  rcases Nat.lt_or_ge z 120 with q | q
  · have := List.all_eq_true.mp mm_m100 (z - 100) (List.mem_range.mpr (by omega))
    rw [show 100 + (z - 100) = z by omega] at this
    exact this
  rcases Nat.lt_or_ge z 140 with q | q
  · have := List.all_eq_true.mp mm_m120 (z - 120) (List.mem_range.mpr (by omega))
    rw [show 120 + (z - 120) = z by omega] at this
    exact this
  rcases Nat.lt_or_ge z 160 with q | q
  · have := List.all_eq_true.mp mm_m140 (z - 140) (List.mem_range.mpr (by omega))
    rw [show 140 + (z - 140) = z by omega] at this
    exact this
  rcases Nat.lt_or_ge z 180 with q | q
  · have := List.all_eq_true.mp mm_m160 (z - 160) (List.mem_range.mpr (by omega))
    rw [show 160 + (z - 160) = z by omega] at this
    exact this
  rcases Nat.lt_or_ge z 187 with q | q
  · have := List.all_eq_true.mp mm_m180 (z - 180) (List.mem_range.mpr (by omega))
    rw [show 180 + (z - 180) = z by omega] at this
    exact this
  omega
def mm_pn (q : Nat) : MethodName := match q with
  | 0 => yJx4a65c_size_8abf5
  | 1 => yJx4a65c_get_915e3
  | 2 => yJx4a65c_add_9ea2d
  | 3 => yJx4a65c_clear_da8c8
  | 4 => yJx4a65c_init_da8c8
  | 5 => objectInit
  | 6 => Lib.Math.abs.name
  | 7 => Lib.Math.max.name
  | _ => Lib.Math.min.name
def mm_ips : List (Nat × Nat) := [(3, 807), (27, 809), (36, 908), (40, 909), (46, 911), (56, 958), (1003, 267), (1033, 326), (1037, 775), (2003, 512), (2048, 514), (3001, 926), (3025, 962), (4003, 629), (4019, 651), (4023, 652), (5001, 573), (6001, 95), (6009, 100), (6038, 171), (6049, 242), (6054, 154), (6065, 264), (6068, 304), (6074, 331), (6078, 398), (6084, 308), (6088, 423), (6091, 431), (6094, 435), (6098, 454), (6121, 438), (6125, 441), (6129, 444), (6132, 322), (6136, 402), (6147, 465), (6153, 475), (6160, 480), (6167, 499), (6171, 509), (6174, 158), (6177, 552), (6184, 559), (6187, 563), (6194, 570), (6199, 595), (6202, 469), (6207, 488), (6210, 484), (6213, 493), (6228, 503), (6232, 506), (6243, 599), (6246, 603), (6250, 562), (6263, 626), (6267, 647), (6277, 671), (6281, 675), (6285, 679), (6288, 683), (6292, 684), (6296, 692), (6299, 696), (6302, 707), (6305, 718), (6308, 688), (6311, 700), (6314, 704), (6317, 711), (6320, 715), (6323, 663), (6337, 736), (6340, 740), (6343, 748), (6347, 754), (6350, 667), (6353, 764), (6357, 782), (6360, 786), (6363, 722), (6367, 725), (6370, 744), (6374, 751), (6377, 747), (6380, 768), (6383, 779), (6386, 771), (6389, 776), (6392, 797), (6399, 804), (6402, 833), (6406, 844), (6409, 849), (6417, 861), (6426, 895), (6429, 899), (6434, 904), (6439, 916), (6449, 923), (6452, 954), (6456, 963), (6459, 967), (6462, 971), (6466, 865), (6472, 869), (6475, 975), (6478, 976), (7001, 985), (7082, 1207), (7089, 1080), (7096, 1083), (7100, 1091), (7104, 1095), (7108, 1107), (7111, 1103), (7114, 1122), (7117, 1125), (7120, 1118), (7127, 1137), (7130, 1141), (7133, 1152), (7136, 1156), (7139, 1148), (7145, 1184), (7149, 1188), (7152, 1199), (7155, 1203), (7158, 1210), (7161, 1180), (7165, 1191), (7168, 1195), (7172, 1228), (7175, 1221), (7178, 1217), (7181, 1224), (7184, 1176), (7187, 1213), (7190, 1236), (7194, 1247), (7197, 1243), (7203, 1255), (7206, 1263), (7209, 1267), (7212, 1275), (7215, 1291), (7218, 1294), (9007, 167), (9017, 394), (9023, 427), (9026, 450), (9029, 461), (9033, 548), (9037, 590), (9040, 610), (9043, 618), (9047, 642), (9051, 659), (9054, 731), (9057, 760), (9060, 793), (9063, 840), (9066, 857), (9070, 876), (9073, 883), (9076, 891), (9080, 950), (9084, 92), (9087, 982), (9088, 162), (9093, 1076), (9094, 1072), (9098, 390), (9101, 1087), (9102, 424), (9104, 1099), (9105, 447), (9107, 1110), (9108, 458), (9111, 1114), (9112, 150), (9115, 1129), (9116, 545), (9119, 1133), (9120, 587), (9122, 1144), (9123, 607), (9125, 1160), (9126, 615), (9129, 1164), (9130, 639), (9132, 1168), (9133, 656), (9135, 1172), (9136, 728), (9138, 1232), (9139, 757), (9141, 1239), (9142, 790), (9144, 1251), (9145, 837), (9147, 1259), (9148, 854), (9151, 1271), (9152, 873), (9154, 1279), (9155, 880), (9157, 1283), (9158, 888), (9161, 1287), (9162, 947), (9165, 1297)]
def mm_iw (e : Nat × Nat) : Cond := if e.2 < 1000 then Cond.methodLink (mm_cn (e.1 / 1000)) (e.1 % 1000) (mm_nm e.2) else Cond.methodLink (mm_cn (e.1 / 1000)) (e.1 % 1000) (mm_pn (e.2 - 1000))
def mm_iok (e : Nat × Nat) : Bool := decide (e.1 % 1000 + e.1 / 1000 * 1000 = e.1) && ((match mm_lk mm_ips e.1 with | some p => mm_ck [mm_iw e] [p] | none => false) || (decide (Cond.methodLinkNest (mm_cn (e.1 / 1000)) (e.1 % 1000) (mm_nm e.2) RX6 ∈ mm_nst) && decide (e.2 = 101)))
set_option maxRecDepth 1000000 in
theorem mm_ivt_ok : mm_ivt.all mm_iok = true := by decide +kernel
theorem mm_nb : mm_kd 101 = 0 ∧ mm_lh mm_hr 101 = [] := by decide +kernel
def mm_pws : List Cond := [Cond.instanceMethod objectInit, Cond.code objectInit ⟨#[0xb1]⟩ 1 none, Cond.initialized "java/lang/Math", Cond.static Lib.Math.abs.name, Cond.static Lib.Math.max.name, Cond.static Lib.Math.min.name, Cond.code Lib.Math.abs.name Lib.Math.abs.code 1 (some .int), Cond.code Lib.Math.max.name Lib.Math.max.code 2 (some .int), Cond.code Lib.Math.min.name Lib.Math.min.code 2 (some .int)]
set_option maxRecDepth 1000000 in
theorem mm_pws_ok : mm_ck mm_pws [96, 97, 81, 705, 351, 383, 706, 352, 384] = true := by decide +kernel
