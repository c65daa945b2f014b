/-! the law's code, in pieces -/
def lwa (p k : Nat) : mv_Cd := [(p, .aload_n 0, 1, []), (p + 1, .iload_n 3, 1, []), (p + 2, .iconst (k : Int), 1, []), (p + 3, .iadd, 1, []), (p + 4, .iaload, 1, [])]
def lwas (p : Nat) : Nat → mv_Cd
  | 0 => []
  | n + 1 => lwas p n ++ lwa (p + 5 * n) (n + 1)
def lwh (p : Nat) (j : Fin 4) (n ix : Nat) : mv_Cd := (p, .aload_n j, 1, []) :: (lwas (p + 1) n ++ [(p + 1 + 5 * n, .invokevirtual ix, 3, [])])
def lwc (p n ixc ixm : Nat) (off : Int) : mv_Cd := lwh p 1 n ixc ++ (lwh (p + 4 + 5 * n) 2 n ixm ++ [(p + 8 + 10 * n, .if_icmp .eq off, 3, [])])
def lwoff : Array Int := #[152, 175, 188, 201, 214, 247, 280, 303, 326, 349, 382, 415, 428, 441, 474, 497, 520, 533, 546, 559, 582, 595, 628, 641, 664, 687, 700, 713, 726, 749, 802, 845, 858, 871]
def lw0 : mv_Cd := [(0, .new 7, 3, []), (3, .dup, 1, []), (4, .invokespecial 9, 3, []), (7, .astore_n 1, 1, []), (8, .new 10, 3, []), (11, .dup, 1, []), (12, .invokespecial 12, 3, []), (15, .astore_n 2, 1, []), (16, .iconst 0, 1, []), (17, .istore_n 3, 1, [])]
def lw1 : mv_Cd := [(18, .iload_n 3, 1, []), (19, .aload_n 0, 1, []), (20, .arraylength, 1, []), (21, .iconst 5, 1, []), (22, .isub, 1, []), (23, .if_icmp .gt 909, 3, []), (26, .aload_n 0, 1, []), (27, .iload_n 3, 1, []), (28, .iaload, 1, []), (29, .bipush 63, 2, []), (31, .iand, 1, []), (32, .tableswitch 894 0 33 lwoff, 152, []), (926, .iinc 3 5, 3, []), (929, .goto (-911), 3, []), (932, .iconst 1, 1, []), (933, .ireturn, 1, [])]
theorem lwd_0 : mv_decs code lw0 := by
  unfold mv_decs
  decide +kernel
theorem lwd_1 : mv_decs code lw1 := by
  unfold mv_decs
  decide +kernel
def lwC0 : List Nat := [0, 142, 2, 4, 1, 96, 0, 563, 564, 565, 104, 566]
def lwM0 : List Nat := [0, 215, 2, 5, 0, 0, 0, 1144, 1145, 1146, 119, 1147]
theorem lwd0 : mv_decs code (lwc 184 1 13 17 724) := by
  unfold mv_decs
  decide +kernel
theorem lwg0 : mv_gca 216 R_law room_1 0 13 lwC0 = true ∧ mv_gca 216 R_law room_1 0 17 lwM0 = true := by decide +kernel
def lwC1 : List Nat := [0, 138, 1, 4, 1, 96, 0, 585, 586, 587, 104, 588]
def lwM1 : List Nat := [0, 214, 1, 5, 0, 0, 0, 1150, 1151, 1152, 119, 1153]
theorem lwd1 : mv_decs code (lwc 207 0 18 22 711) := by
  unfold mv_decs
  decide +kernel
theorem lwg1 : mv_gca 216 R_law room_1 0 18 lwC1 = true ∧ mv_gca 216 R_law room_1 0 22 lwM1 = true := by decide +kernel
def lwC2 : List Nat := [0, 98, 1, 4, 0, 0, 0, 589, 590, 591, 104, 592]
def lwM2 : List Nat := [0, 187, 1, 5, 0, 0, 0, 1154, 1155, 1156, 119, 1157]
theorem lwd2 : mv_decs code (lwc 220 0 23 26 698) := by
  unfold mv_decs
  decide +kernel
theorem lwg2 : mv_gca 216 R_law room_1 0 23 lwC2 = true ∧ mv_gca 216 R_law room_1 0 26 lwM2 = true := by decide +kernel
def lwC3 : List Nat := [0, 46, 1, 4, 0, 0, 0, 593, 389, 390, 104, 391]
def lwM3 : List Nat := [0, 154, 1, 5, 0, 0, 0, 1158, 978, 979, 119, 980]
theorem lwd3 : mv_decs code (lwc 233 0 27 30 685) := by
  unfold mv_decs
  decide +kernel
theorem lwg3 : mv_gca 216 R_law room_1 0 27 lwC3 = true ∧ mv_gca 216 R_law room_1 0 30 lwM3 = true := by decide +kernel
def lwC4 : List Nat := [0, 127, 3, 4, 0, 0, 0, 594, 595, 596, 104, 597]
def lwM4 : List Nat := [0, 206, 3, 5, 0, 0, 0, 1159, 1160, 1161, 119, 1162]
theorem lwd4 : mv_decs code (lwc 246 2 31 35 652) := by
  unfold mv_decs
  decide +kernel
theorem lwg4 : mv_gca 216 R_law room_1 0 31 lwC4 = true ∧ mv_gca 216 R_law room_1 0 35 lwM4 = true := by decide +kernel
def lwC5 : List Nat := [0, 106, 3, 4, 0, 0, 0, 616, 617, 618, 104, 619]
def lwM5 : List Nat := [0, 192, 3, 5, 0, 0, 0, 1171, 1172, 1173, 119, 1174]
theorem lwd5 : mv_decs code (lwc 279 2 36 39 619) := by
  unfold mv_decs
  decide +kernel
theorem lwg5 : mv_gca 216 R_law room_1 0 36 lwC5 = true ∧ mv_gca 216 R_law room_1 0 39 lwM5 = true := by decide +kernel
def lwC6 : List Nat := [0, 119, 2, 4, 0, 0, 0, 620, 621, 622, 104, 623]
def lwM6 : List Nat := [0, 201, 2, 5, 0, 0, 0, 1176, 1177, 1178, 119, 1179]
theorem lwd6 : mv_decs code (lwc 312 1 40 43 596) := by
  unfold mv_decs
  decide +kernel
theorem lwg6 : mv_gca 216 R_law room_1 0 40 lwC6 = true ∧ mv_gca 216 R_law room_1 0 43 lwM6 = true := by decide +kernel
def lwC7 : List Nat := [0, 97, 2, 4, 0, 0, 0, 632, 633, 634, 104, 635]
def lwM7 : List Nat := [0, 186, 2, 5, 0, 0, 0, 1184, 1185, 1186, 119, 1187]
theorem lwd7 : mv_decs code (lwc 335 1 44 47 573) := by
  unfold mv_decs
  decide +kernel
theorem lwg7 : mv_gca 216 R_law room_1 0 44 lwC7 = true ∧ mv_gca 216 R_law room_1 0 47 lwM7 = true := by decide +kernel
def lwC8 : List Nat := [0, 128, 2, 4, 0, 0, 0, 640, 641, 642, 104, 643]
def lwM8 : List Nat := [0, 207, 2, 5, 0, 0, 0, 1188, 1189, 1190, 119, 1191]
theorem lwd8 : mv_decs code (lwc 358 1 48 51 550) := by
  unfold mv_decs
  decide +kernel
theorem lwg8 : mv_gca 216 R_law room_1 0 48 lwC8 = true ∧ mv_gca 216 R_law room_1 0 51 lwM8 = true := by decide +kernel
def lwC9 : List Nat := [0, 123, 3, 4, 0, 0, 0, 660, 661, 662, 104, 663]
def lwM9 : List Nat := [0, 203, 3, 5, 0, 0, 0, 1200, 1201, 1202, 119, 1203]
theorem lwd9 : mv_decs code (lwc 381 2 52 55 517) := by
  unfold mv_decs
  decide +kernel
theorem lwg9 : mv_gca 216 R_law room_1 0 52 lwC9 = true ∧ mv_gca 216 R_law room_1 0 55 lwM9 = true := by decide +kernel
def lwC10 : List Nat := [0, 137, 3, 4, 0, 0, 0, 672, 673, 674, 104, 675]
def lwM10 : List Nat := [0, 213, 3, 5, 0, 0, 0, 1204, 1205, 1206, 119, 1207]
theorem lwd10 : mv_decs code (lwc 414 2 56 59 484) := by
  unfold mv_decs
  decide +kernel
theorem lwg10 : mv_gca 216 R_law room_1 0 56 lwC10 = true ∧ mv_gca 216 R_law room_1 0 59 lwM10 = true := by decide +kernel
def lwC11 : List Nat := [0, 71, 1, 4, 0, 0, 0, 722, 723, 724, 104, 725]
def lwM11 : List Nat := [0, 166, 1, 5, 0, 0, 0, 1239, 1240, 1241, 119, 1242]
theorem lwd11 : mv_decs code (lwc 447 0 60 63 471) := by
  unfold mv_decs
  decide +kernel
theorem lwg11 : mv_gca 216 R_law room_1 0 60 lwC11 = true ∧ mv_gca 216 R_law room_1 0 63 lwM11 = true := by decide +kernel
def lwC12 : List Nat := [0, 133, 1, 4, 0, 0, 0, 735, 736, 737, 104, 738]
def lwM12 : List Nat := [0, 211, 1, 5, 0, 0, 0, 1243, 1244, 1245, 119, 1246]
theorem lwd12 : mv_decs code (lwc 460 0 64 67 458) := by
  unfold mv_decs
  decide +kernel
theorem lwg12 : mv_gca 216 R_law room_1 0 64 lwC12 = true ∧ mv_gca 216 R_law room_1 0 67 lwM12 = true := by decide +kernel
def lwC13 : List Nat := [0, 129, 3, 4, 0, 0, 0, 743, 744, 745, 104, 746]
def lwM13 : List Nat := [0, 208, 3, 5, 0, 0, 0, 1247, 1248, 1249, 119, 1250]
theorem lwd13 : mv_decs code (lwc 473 2 68 71 425) := by
  unfold mv_decs
  decide +kernel
theorem lwg13 : mv_gca 216 R_law room_1 0 68 lwC13 = true ∧ mv_gca 216 R_law room_1 0 71 lwM13 = true := by decide +kernel
def lwC14 : List Nat := [0, 104, 2, 4, 0, 0, 0, 749, 750, 751, 104, 752]
def lwM14 : List Nat := [0, 189, 2, 5, 0, 0, 0, 1251, 1252, 1253, 119, 1254]
theorem lwd14 : mv_decs code (lwc 506 1 72 75 402) := by
  unfold mv_decs
  decide +kernel
theorem lwg14 : mv_gca 216 R_law room_1 0 72 lwC14 = true ∧ mv_gca 216 R_law room_1 0 75 lwM14 = true := by decide +kernel
def lwC15 : List Nat := [0, 92, 2, 4, 0, 0, 0, 754, 755, 756, 104, 757]
def lwM15 : List Nat := [0, 182, 2, 5, 0, 0, 0, 1255, 1256, 1257, 119, 1258]
theorem lwd15 : mv_decs code (lwc 529 1 76 79 379) := by
  unfold mv_decs
  decide +kernel
theorem lwg15 : mv_gca 216 R_law room_1 0 76 lwC15 = true ∧ mv_gca 216 R_law room_1 0 79 lwM15 = true := by decide +kernel
def lwC16 : List Nat := [0, 96, 1, 4, 0, 0, 0, 758, 759, 760, 104, 761]
def lwM16 : List Nat := [0, 185, 1, 5, 0, 0, 0, 1259, 1260, 1261, 119, 1262]
theorem lwd16 : mv_decs code (lwc 552 0 80 83 366) := by
  unfold mv_decs
  decide +kernel
theorem lwg16 : mv_gca 216 R_law room_1 0 80 lwC16 = true ∧ mv_gca 216 R_law room_1 0 83 lwM16 = true := by decide +kernel
def lwC17 : List Nat := [0, 131, 1, 4, 0, 0, 0, 762, 763, 764, 104, 765]
def lwM17 : List Nat := [0, 210, 1, 5, 0, 0, 0, 1263, 1264, 1265, 119, 1266]
theorem lwd17 : mv_decs code (lwc 565 0 84 87 353) := by
  unfold mv_decs
  decide +kernel
theorem lwg17 : mv_gca 216 R_law room_1 0 84 lwC17 = true ∧ mv_gca 216 R_law room_1 0 87 lwM17 = true := by decide +kernel
def lwC18 : List Nat := [0, 120, 1, 4, 0, 0, 0, 766, 767, 768, 104, 769]
def lwM18 : List Nat := [0, 202, 1, 5, 0, 0, 0, 1267, 1268, 1269, 119, 1270]
theorem lwd18 : mv_decs code (lwc 578 0 88 91 340) := by
  unfold mv_decs
  decide +kernel
theorem lwg18 : mv_gca 216 R_law room_1 0 88 lwC18 = true ∧ mv_gca 216 R_law room_1 0 91 lwM18 = true := by decide +kernel
def lwC19 : List Nat := [0, 130, 2, 4, 0, 0, 0, 780, 781, 782, 104, 783]
def lwM19 : List Nat := [0, 209, 2, 5, 0, 0, 0, 1275, 1276, 1277, 119, 1278]
theorem lwd19 : mv_decs code (lwc 591 1 92 95 317) := by
  unfold mv_decs
  decide +kernel
theorem lwg19 : mv_gca 216 R_law room_1 0 92 lwC19 = true ∧ mv_gca 216 R_law room_1 0 95 lwM19 = true := by decide +kernel
def lwC20 : List Nat := [0, 109, 1, 4, 0, 0, 0, 786, 787, 788, 104, 789]
def lwM20 : List Nat := [0, 195, 1, 5, 0, 0, 0, 1279, 1280, 1281, 119, 1282]
theorem lwd20 : mv_decs code (lwc 614 0 96 99 304) := by
  unfold mv_decs
  decide +kernel
theorem lwg20 : mv_gca 216 R_law room_1 0 96 lwC20 = true ∧ mv_gca 216 R_law room_1 0 99 lwM20 = true := by decide +kernel
def lwC21 : List Nat := [0, 103, 3, 4, 0, 0, 0, 791, 792, 793, 104, 794]
def lwM21 : List Nat := [0, 188, 3, 5, 0, 0, 0, 1283, 1284, 1285, 119, 1286]
theorem lwd21 : mv_decs code (lwc 627 2 100 103 271) := by
  unfold mv_decs
  decide +kernel
theorem lwg21 : mv_gca 216 R_law room_1 0 100 lwC21 = true ∧ mv_gca 216 R_law room_1 0 103 lwM21 = true := by decide +kernel
def lwC22 : List Nat := [0, 90, 1, 4, 0, 0, 0, 843, 844, 845, 104, 846]
def lwM22 : List Nat := [0, 180, 1, 5, 0, 0, 0, 1322, 1323, 1324, 119, 1325]
theorem lwd22 : mv_decs code (lwc 660 0 104 107 258) := by
  unfold mv_decs
  decide +kernel
theorem lwg22 : mv_gca 216 R_law room_1 0 104 lwC22 = true ∧ mv_gca 216 R_law room_1 0 107 lwM22 = true := by decide +kernel
def lwC23 : List Nat := [0, 118, 2, 4, 0, 0, 0, 867, 868, 869, 104, 870]
def lwM23 : List Nat := [0, 200, 2, 5, 0, 0, 0, 1326, 1327, 1328, 119, 1329]
theorem lwd23 : mv_decs code (lwc 673 1 108 111 235) := by
  unfold mv_decs
  decide +kernel
theorem lwg23 : mv_gca 216 R_law room_1 0 108 lwC23 = true ∧ mv_gca 216 R_law room_1 0 111 lwM23 = true := by decide +kernel
def lwC24 : List Nat := [0, 124, 2, 4, 0, 0, 0, 882, 883, 884, 104, 885]
def lwM24 : List Nat := [0, 204, 2, 5, 0, 0, 0, 1333, 1334, 1335, 119, 1336]
theorem lwd24 : mv_decs code (lwc 696 1 112 115 212) := by
  unfold mv_decs
  decide +kernel
theorem lwg24 : mv_gca 216 R_law room_1 0 112 lwC24 = true ∧ mv_gca 216 R_law room_1 0 115 lwM24 = true := by decide +kernel
def lwC25 : List Nat := [0, 105, 1, 4, 0, 0, 0, 886, 887, 888, 104, 889]
def lwM25 : List Nat := [0, 190, 1, 5, 0, 0, 0, 1337, 1338, 1339, 119, 1340]
theorem lwd25 : mv_decs code (lwc 719 0 116 119 199) := by
  unfold mv_decs
  decide +kernel
theorem lwg25 : mv_gca 216 R_law room_1 0 116 lwC25 = true ∧ mv_gca 216 R_law room_1 0 119 lwM25 = true := by decide +kernel
def lwC26 : List Nat := [0, 136, 1, 4, 0, 0, 0, 890, 891, 892, 104, 893]
def lwM26 : List Nat := [0, 212, 1, 5, 0, 0, 0, 1341, 1342, 1343, 119, 1344]
theorem lwd26 : mv_decs code (lwc 732 0 120 123 186) := by
  unfold mv_decs
  decide +kernel
theorem lwg26 : mv_gca 216 R_law room_1 0 120 lwC26 = true ∧ mv_gca 216 R_law room_1 0 123 lwM26 = true := by decide +kernel
def lwC27 : List Nat := [0, 115, 1, 4, 0, 0, 0, 911, 912, 913, 104, 914]
def lwM27 : List Nat := [0, 199, 1, 5, 0, 0, 0, 1353, 1354, 1355, 119, 1356]
theorem lwd27 : mv_decs code (lwc 745 0 124 127 173) := by
  unfold mv_decs
  decide +kernel
theorem lwg27 : mv_gca 216 R_law room_1 0 124 lwC27 = true ∧ mv_gca 216 R_law room_1 0 127 lwM27 = true := by decide +kernel
def lwC28 : List Nat := [0, 75, 2, 4, 0, 0, 0, 923, 924, 925, 104, 926]
def lwM28 : List Nat := [0, 172, 2, 5, 0, 0, 0, 1357, 1358, 1359, 119, 1360]
theorem lwd28 : mv_decs code (lwc 758 1 128 131 150) := by
  unfold mv_decs
  decide +kernel
theorem lwg28 : mv_gca 216 R_law room_1 0 128 lwC28 = true ∧ mv_gca 216 R_law room_1 0 131 lwM28 = true := by decide +kernel
def lwC29 : List Nat := [0, 126, 5, 4, 0, 0, 0, 929, 930, 931, 104, 932]
def lwM29 : List Nat := [0, 205, 5, 5, 0, 0, 0, 1361, 1362, 1363, 119, 1364]
theorem lwd29 : mv_decs code (lwc 781 4 132 136 97) := by
  unfold mv_decs
  decide +kernel
theorem lwg29 : mv_gca 216 R_law room_1 0 132 lwC29 = true ∧ mv_gca 216 R_law room_1 0 136 lwM29 = true := by decide +kernel
def lwC30 : List Nat := [0, 79, 4, 4, 0, 0, 0, 941, 942, 943, 104, 944]
def lwM30 : List Nat := [0, 174, 4, 5, 0, 0, 0, 1366, 1367, 1368, 119, 1369]
theorem lwd30 : mv_decs code (lwc 834 3 137 141 54) := by
  unfold mv_decs
  decide +kernel
theorem lwg30 : mv_gca 216 R_law room_1 0 137 lwC30 = true ∧ mv_gca 216 R_law room_1 0 141 lwM30 = true := by decide +kernel
def lwC31 : List Nat := [0, 110, 1, 4, 0, 0, 0, 955, 956, 957, 104, 958]
def lwM31 : List Nat := [0, 196, 1, 5, 0, 0, 0, 1375, 1376, 1377, 119, 1378]
theorem lwd31 : mv_decs code (lwc 877 0 142 145 41) := by
  unfold mv_decs
  decide +kernel
theorem lwg31 : mv_gca 216 R_law room_1 0 142 lwC31 = true ∧ mv_gca 216 R_law room_1 0 145 lwM31 = true := by decide +kernel
def lwC32 : List Nat := [0, 76, 1, 4, 0, 0, 0, 959, 960, 961, 104, 962]
def lwM32 : List Nat := [0, 173, 1, 5, 0, 0, 0, 1379, 1380, 1381, 119, 1382]
theorem lwd32 : mv_decs code (lwc 890 0 146 149 28) := by
  unfold mv_decs
  decide +kernel
theorem lwg32 : mv_gca 216 R_law room_1 0 146 lwC32 = true ∧ mv_gca 216 R_law room_1 0 149 lwM32 = true := by decide +kernel
def lwC33 : List Nat := [0, 95, 2, 4, 0, 0, 0, 963, 964, 965, 104, 966]
def lwM33 : List Nat := [0, 184, 2, 5, 0, 0, 0, 1383, 1384, 1385, 119, 1386]
theorem lwd33 : mv_decs code (lwc 903 1 150 153 5) := by
  unfold mv_decs
  decide +kernel
theorem lwg33 : mv_gca 216 R_law room_1 0 150 lwC33 = true ∧ mv_gca 216 R_law room_1 0 153 lwM33 = true := by decide +kernel
def lwTC : mv_Mt := ((⟨"TurnedTablets", "<init>", "()V"⟩ : MethodName), prog_1_method_1_code, 2, (none : Option FieldType), ({ frames := 11, cells := 62, slots := 18219, locals := 238 } : Jvm.Room))
theorem lwtC : mv_meth[50]? = some lwTC := rfl
set_option maxRecDepth 100000 in
theorem lwwC : Cond.code lwTC.1 lwTC.2.1 lwTC.2.2.1 lwTC.2.2.2.1 ∈ mv_tb := mv_tb_in (i := 125) rfl rfl
theorem lwvC : Cond.methodLink R_law 9 lwTC.1 ∈ mv_tb ∧ Cond.instanceMethod lwTC.1 ∈ mv_tb ∧ Cond.initialized lwTC.1.cls ∈ mv_tb := ⟨mv_tb_in (i := 123) (by decide +kernel) rfl, mv_tb_in (i := 124) (by decide +kernel) rfl, mv_tb_in (i := 104) (by decide +kernel) rfl⟩
def lwTM : mv_Mt := ((⟨"TurnedTabletsModel", "<init>", "()V"⟩ : MethodName), prog_7_method_1_code, 2, (none : Option FieldType), ({ frames := 7, cells := 23, slots := 42770, locals := 153 } : Jvm.Room))
theorem lwtM : mv_meth[155]? = some lwTM := rfl
set_option maxRecDepth 100000 in
theorem lwwM : Cond.code lwTM.1 lwTM.2.1 lwTM.2.2.1 lwTM.2.2.2.1 ∈ mv_tb := mv_tb_in (i := 975) rfl rfl
theorem lwvM : Cond.methodLink R_law 12 lwTM.1 ∈ mv_tb ∧ Cond.instanceMethod lwTM.1 ∈ mv_tb ∧ Cond.initialized lwTM.1.cls ∈ mv_tb := ⟨mv_tb_in (i := 973) (by decide +kernel) rfl, mv_tb_in (i := 974) (by decide +kernel) rfl, mv_tb_in (i := 119) (by decide +kernel) rfl⟩
theorem lwgN : (Cond.classLink R_law 7 "TurnedTablets" ∈ mv_tb ∧ Cond.instantiable "TurnedTablets" 13 ∈ mv_tb ∧ Cond.initialized "TurnedTablets" ∈ mv_tb) ∧ (Cond.classLink R_law 10 "TurnedTabletsModel" ∈ mv_tb ∧ Cond.instantiable "TurnedTabletsModel" 39 ∈ mv_tb ∧ Cond.initialized "TurnedTabletsModel" ∈ mv_tb) :=
  ⟨⟨mv_tb_in (i := 121) (by decide +kernel) rfl, mv_tb_in (i := 122) (by decide +kernel) rfl, mv_tb_in (i := 104) (by decide +kernel) rfl⟩, ⟨mv_tb_in (i := 971) (by decide +kernel) rfl, mv_tb_in (i := 972) (by decide +kernel) rfl, mv_tb_in (i := 119) (by decide +kernel) rfl⟩⟩
