def z_own (o : Nat) : String := match o with
  | 0 => RX0
  | 1 => RX1
  | 2 => RX2
  | 3 => RX3
  | 4 => RX4
  | 5 => RX5
  | 6 => RX6
  | 7 => RX7
  | 8 => RX8
  | 9 => RX9
  | 10 => RX10
  | 11 => RX11
  | 12 => RL
  | 13 => RJ6
  | 14 => RJ9
  | 15 => RJ0
  | 16 => RJ1
  | 17 => RJ2
  | 18 => RJ7
  | _ => RJ3

def z_ck (c k : Nat) : String × String × String × Bool := match c with
  | 0 => TX0 k
  | 1 => TX1 k
  | 2 => TX2 k
  | 3 => TX3 k
  | 4 => TX4 k
  | 5 => TX5 k
  | 6 => TX6 k
  | 7 => TX7 k
  | 8 => TX8 k
  | 9 => TX9 k
  | 10 => TX10 k
  | _ => TX11 k

abbrev z_FR : Type := Nat × Nat × Nat × Nat × Nat

def z_fw (r : z_FR) : Cond := if r.2.2.2.2 = 0 then .fieldLink (z_own r.1) r.2.1 (z_own r.2.2.1) (z_ck r.2.2.1 r.2.2.2.1).2.1 (z_ck r.2.2.1 r.2.2.2.1).2.2.1 else .fieldLinkNest (z_own r.1) r.2.1 (z_own r.2.2.1) (z_ck r.2.2.1 r.2.2.2.1).2.1 (z_ck r.2.2.1 r.2.2.2.1).2.2.1 "MarkCabinet"

def z_fl0 : List z_FR := [(4, 9, 4, 0, 0), (4, 15, 4, 1, 0), (4, 18, 4, 2, 0), (4, 21, 4, 3, 0), (5, 9, 5, 0, 0), (5, 15, 5, 1, 0), (5, 19, 5, 2, 0), (5, 22, 5, 3, 0), (5, 25, 5, 4, 0), (5, 28, 5, 5, 0), (5, 31, 5, 6, 0), (8, 9, 8, 0, 0), (8, 15, 8, 1, 0), (8, 18, 8, 2, 0), (8, 21, 8, 3, 0), (8, 28, 8, 4, 0), (8, 32, 8, 5, 0), (8, 35, 8, 6, 0), (8, 38, 8, 7, 0), (8, 42, 8, 8, 0), (8, 45, 8, 9, 0), (8, 48, 8, 10, 0), (3, 9, 3, 0, 0), (3, 15, 3, 1, 0), (3, 18, 3, 2, 0), (3, 22, 3, 3, 0), (3, 25, 3, 4, 0), (3, 28, 3, 5, 0), (3, 31, 3, 6, 0), (3, 34, 3, 7, 0), (3, 37, 3, 8, 0), (3, 40, 3, 9, 0), (3, 43, 3, 10, 0), (3, 46, 3, 11, 0), (3, 49, 3, 12, 0), (1, 9, 1, 0, 0), (1, 15, 1, 1, 0), (1, 19, 1, 2, 0), (1, 22, 1, 3, 0), (1, 26, 1, 4, 0), (1, 29, 1, 5, 0), (1, 32, 1, 6, 0), (1, 35, 1, 7, 0), (1, 38, 1, 8, 0), (1, 41, 1, 9, 0), (7, 11, 7, 0, 0), (7, 15, 7, 1, 0), (7, 18, 7, 2, 0), (7, 21, 7, 3, 0), (7, 24, 7, 4, 0), (7, 27, 7, 5, 0), (7, 31, 7, 6, 0), (7, 34, 7, 7, 0), (7, 37, 7, 8, 0), (7, 40, 7, 9, 0), (7, 44, 7, 10, 0), (0, 9, 0, 0, 0), (0, 15, 0, 1, 0), (0, 18, 0, 2, 0), (0, 21, 0, 3, 0)]

set_option maxRecDepth 20000 in
theorem z_fl0_ok : z_atB [128, 129, 130, 131, 155, 156, 157, 158, 160, 161, 162, 181, 186, 188, 190, 192, 194, 195, 196, 197, 198, 199, 235, 236, 237, 238, 239, 241, 242, 243, 244, 246, 247, 248, 250, 284, 286, 287, 288, 289, 291, 292, 293, 295, 296, 324, 325, 326, 327, 328, 329, 330, 331, 332, 333, 334, 365, 366, 367, 368] (z_fl0.map z_fw) = true := by decide +kernel

def z_fl1 : List z_FR := [(0, 24, 0, 4, 0), (0, 27, 0, 5, 0), (0, 31, 0, 6, 0), (0, 34, 0, 7, 0), (0, 37, 0, 8, 0), (0, 40, 0, 9, 0), (0, 43, 0, 10, 0), (0, 46, 0, 11, 0), (0, 49, 0, 12, 0), (0, 52, 0, 13, 0), (0, 55, 0, 14, 0), (0, 58, 0, 15, 0), (2, 9, 2, 0, 0), (2, 15, 2, 1, 0), (2, 18, 2, 2, 0), (2, 21, 2, 3, 0), (2, 25, 2, 4, 0), (2, 28, 2, 5, 0), (2, 31, 2, 6, 0), (2, 34, 2, 7, 0), (2, 37, 2, 8, 0), (2, 40, 2, 9, 0), (2, 43, 2, 10, 0), (9, 9, 9, 0, 0), (9, 15, 9, 1, 0), (9, 18, 9, 2, 0), (9, 21, 9, 3, 0), (9, 25, 9, 4, 0), (9, 28, 9, 5, 0), (9, 31, 9, 6, 0), (9, 34, 9, 7, 0), (6, 12, 6, 0, 0), (6, 21, 6, 1, 0), (6, 25, 6, 2, 0), (6, 29, 6, 3, 0), (10, 12, 10, 0, 0), (10, 19, 10, 1, 0), (10, 26, 10, 2, 0), (10, 33, 10, 3, 0), (10, 40, 10, 4, 0), (10, 47, 10, 5, 0), (10, 54, 10, 6, 0), (10, 58, 10, 7, 0), (10, 62, 10, 8, 0), (10, 69, 10, 9, 0), (10, 73, 10, 10, 0), (10, 77, 10, 11, 0), (11, 113, 11, 0, 0), (11, 116, 11, 1, 0), (11, 130, 11, 2, 0), (11, 7, 11, 3, 0), (11, 13, 11, 4, 0), (11, 16, 11, 5, 0), (11, 19, 11, 6, 0), (11, 22, 11, 7, 0), (11, 133, 11, 8, 0), (11, 25, 11, 9, 0), (11, 29, 11, 10, 0), (11, 143, 11, 11, 0), (11, 150, 11, 12, 0)]

set_option maxRecDepth 20000 in
theorem z_fl1_ok : z_atB [369, 370, 371, 372, 373, 374, 375, 376, 377, 378, 379, 380, 422, 423, 424, 425, 426, 427, 428, 429, 430, 432, 434, 471, 472, 473, 474, 475, 476, 478, 480, 502, 503, 504, 506, 517, 518, 519, 520, 521, 522, 523, 524, 525, 526, 527, 528, 1231, 1232, 1233, 1234, 1235, 1236, 1237, 1238, 1239, 1240, 1241, 1242, 1243] (z_fl1.map z_fw) = true := by decide +kernel

def z_fl2 : List z_FR := [(11, 157, 11, 13, 0), (11, 160, 11, 14, 0), (11, 163, 11, 15, 0), (11, 32, 11, 16, 0), (11, 242, 11, 17, 0), (11, 35, 11, 18, 0), (11, 38, 11, 19, 0), (11, 41, 11, 20, 0), (11, 44, 11, 21, 0), (11, 185, 11, 22, 0), (11, 221, 11, 23, 0), (11, 47, 11, 24, 0), (11, 218, 11, 25, 0), (11, 179, 11, 26, 0), (11, 182, 11, 27, 0), (11, 239, 11, 28, 0), (11, 50, 11, 29, 0), (11, 53, 11, 30, 0), (11, 56, 11, 31, 0), (11, 60, 11, 32, 0), (11, 63, 11, 33, 0), (11, 270, 11, 34, 0), (11, 66, 11, 35, 0), (11, 69, 11, 36, 0), (11, 279, 11, 37, 0), (11, 285, 11, 38, 0), (11, 289, 11, 39, 0), (11, 295, 11, 40, 0), (11, 72, 11, 41, 0), (11, 292, 11, 42, 0), (11, 75, 11, 43, 0), (11, 78, 11, 44, 0), (11, 301, 11, 45, 0), (11, 304, 11, 46, 0), (11, 82, 11, 47, 0), (11, 86, 11, 48, 0), (11, 89, 11, 49, 0), (11, 92, 11, 50, 0), (11, 331, 11, 51, 0), (11, 337, 11, 52, 0), (11, 95, 11, 53, 0), (11, 98, 11, 54, 0), (11, 101, 11, 55, 0), (11, 104, 11, 56, 0), (11, 107, 11, 57, 0), (11, 110, 11, 58, 0)]

set_option maxRecDepth 20000 in
theorem z_fl2_ok : z_atB [1244, 1245, 1246, 1247, 1248, 1249, 1250, 1251, 1252, 1253, 1254, 1255, 1256, 1257, 1258, 1259, 1260, 1261, 1262, 1263, 1264, 1265, 1266, 1267, 1268, 1269, 1270, 1271, 1272, 1273, 1274, 1275, 1276, 1277, 1278, 1279, 1280, 1281, 1282, 1283, 1284, 1285, 1286, 1287, 1288, 1289] (z_fl2.map z_fw) = true := by decide +kernel

def z_fl : List z_FR := z_fl0 ++ z_fl1 ++ z_fl2

def z_fn : List z_FR := [(10, 163, 4, 3, 1), (8, 57, 5, 3, 1), (1, 50, 8, 0, 1), (3, 61, 8, 0, 1), (2, 61, 8, 0, 1), (10, 160, 8, 0, 1), (10, 115, 8, 1, 1), (10, 166, 8, 2, 1), (10, 112, 8, 3, 1), (10, 129, 8, 4, 1), (3, 52, 8, 10, 1), (7, 48, 8, 10, 1), (0, 61, 8, 10, 1), (2, 52, 8, 10, 1), (10, 198, 3, 4, 1), (10, 211, 3, 8, 1), (10, 226, 3, 11, 1), (10, 169, 1, 0, 1), (10, 173, 1, 4, 1), (10, 176, 1, 7, 1), (10, 279, 0, 15, 1), (10, 304, 2, 8, 1), (10, 307, 2, 9, 1), (10, 310, 2, 10, 1), (6, 39, 9, 5, 1), (6, 93, 9, 6, 1), (6, 75, 9, 7, 1), (10, 144, 6, 2, 1), (10, 147, 6, 3, 1)]

abbrev z_MR : Type := MethodName × ByteArray × Nat × Option FieldType × Nat × Nat × Nat

/-- a method's words: its code, its class, and that it is static, or whose it is -/
def z_cw (r : z_MR) : Cond := .code r.1 r.2.1 r.2.2.1 r.2.2.2.1
def z_mw (r : z_MR) : List Cond := [.initialized r.1.cls] ++ (if r.2.2.2.2.2.1 = 0 then [.static r.1, .static r.1] else if r.2.2.2.2.2.1 = 2 then [.instanceMethod r.1, .instanceMethod r.1] else [.instanceMethod r.1, .selects r.1.cls r.1 r.1])

def z_mt0 : List z_MR := [(yX0_init, cX0_init, 1, none, 0, 2, 0), (yX0_prepare, cX0_prepare, 6, none, 0, 1, 4), (yX0_listMates, cX0_listMates, 3, none, 0, 1, 0), (yX0_listHeld, cX0_listHeld, 4, none, 0, 1, 0), (yX0_search, cX0_search, 6, none, 0, 1, 2), (yX0_keepOrder, cX0_keepOrder, 3, none, 0, 1, 1), (yX0_lay, cX0_lay, 7, some .int, 0, 1, 2), (yX0_bound, cX0_bound, 6, some .int, 0, 1, 1), (yX0_bestAt, cX0_bestAt, 3, some .int, 0, 1, 2), (yX1_init, cX1_init, 1, none, 1, 2, 0), (yX1_begin, cX1_begin, 4, none, 1, 1, 2), (yX1_seek, cX1_seek, 1, some .boolean, 1, 1, 0), (yX1_askedPremise, cX1_askedPremise, 1, some .int, 1, 1, 0), (yX1_askedConclusion, cX1_askedConclusion, 1, some .int, 1, 1, 0), (yX1_accept, cX1_accept, 1, some .boolean, 1, 1, 0), (yX1_refute, cX1_refute, 3, some .boolean, 1, 1, 1), (yX1_acceptedSet, cX1_acceptedSet, 3, some .int, 1, 1, 2), (yX1_closureOf, cX1_closureOf, 4, some .int, 1, 1, 1), (yX1_keeps, cX1_keeps, 3, some .boolean, 1, 1, 1), (yX2_init, cX2_init, 1, none, 2, 2, 0)]

set_option maxRecDepth 20000 in
theorem z_mt0_ok : z_atB [102, 362, 362, 102, 1113, 1114, 102, 1120, 35, 102, 1124, 36, 102, 1129, 37, 102, 1133, 38, 102, 1145, 40, 102, 1137, 39, 102, 1148, 1149, 100, 281, 281, 100, 979, 980, 100, 990, 991, 100, 1002, 1003, 100, 1006, 1007, 100, 1014, 1015, 100, 1023, 1024, 100, 1031, 1032, 100, 995, 25, 100, 999, 26, 103, 418, 418] ((z_mt0.filter (fun r => r.2.2.2.2.1 != 12)).flatMap z_mw) = true := by decide +kernel
set_option maxRecDepth 20000 in
theorem z_mt0_cd : (z_mt0.filter (fun r => r.2.2.2.2.1 != 12)).map z_cw = ([363, 1115, 1121, 1125, 1130, 1134, 1146, 1138, 1150, 282, 981, 992, 1004, 1008, 1016, 1025, 1033, 996, 1000, 419] : List Nat).filterMap (fun i => lw_tbl[i]?) := rfl

def z_mt1 : List z_MR := [(yX2_price, cX2_price, 3, none, 2, 1, 2), (yX2_prepare, cX2_prepare, 4, none, 2, 1, 1), (yX2_worstOf, cX2_worstOf, 2, some .int, 2, 1, 1), (yX2_askedAt, cX2_askedAt, 2, some .int, 2, 1, 1), (yX2_worst, cX2_worst, 8, some .int, 2, 1, 2), (yX2_leafCount, cX2_leafCount, 2, some .int, 2, 1, 1), (yX2_leaves, cX2_leaves, 4, some .int, 2, 1, 2), (yX2_go, cX2_go, 4, none, 2, 1, 2), (yX2_askedMark, cX2_askedMark, 3, some .int, 2, 1, 2), (yX3_init, cX3_init, 1, none, 3, 2, 0), (yX3_freshenClosures, cX3_freshenClosures, 5, none, 3, 1, 2), (yX3_meetAbove, cX3_meetAbove, 3, none, 3, 1, 0), (yX3_listClosed, cX3_listClosed, 2, none, 3, 1, 0), (yX3_freshenPremises, cX3_freshenPremises, 3, none, 3, 1, 0), (yX3_gatheredBelow, cX3_gatheredBelow, 4, some .int, 3, 1, 1), (yX3_closedSet, cX3_closedSet, 2, some .int, 3, 1, 1), (yX3_closedNumber, cX3_closedNumber, 4, some .int, 3, 1, 1), (yX3_premiseSet, cX3_premiseSet, 2, some .int, 3, 1, 1), (yX3_conclusionSet, cX3_conclusionSet, 2, some .int, 3, 1, 1), (yX3_walkFrom, cX3_walkFrom, 3, none, 3, 1, 1)]

set_option maxRecDepth 20000 in
theorem z_mt1_ok : z_atB [103, 1156, 1157, 103, 1164, 1165, 103, 1175, 1176, 103, 1184, 1185, 103, 1180, 41, 103, 1188, 1189, 103, 1193, 42, 103, 1201, 1202, 103, 1205, 1206, 99, 232, 232, 99, 890, 891, 99, 900, 20, 99, 904, 21, 99, 931, 932, 99, 936, 23, 99, 911, 912, 99, 919, 920, 99, 943, 944, 99, 947, 948, 99, 955, 956] ((z_mt1.filter (fun r => r.2.2.2.2.1 != 12)).flatMap z_mw) = true := by decide +kernel
set_option maxRecDepth 20000 in
theorem z_mt1_cd : (z_mt1.filter (fun r => r.2.2.2.2.1 != 12)).map z_cw = ([1158, 1166, 1177, 1186, 1181, 1190, 1194, 1203, 1207, 233, 892, 901, 905, 933, 937, 913, 921, 945, 949, 957] : List Nat).filterMap (fun i => lw_tbl[i]?) := rfl

def z_mt2 : List z_MR := [(yX3_firstToAdd, cX3_firstToAdd, 3, some .int, 3, 1, 0), (yX3_reachedSet, cX3_reachedSet, 1, some .int, 3, 1, 0), (yX3_stepRule, cX3_stepRule, 3, some .int, 3, 1, 2), (yX4_init, cX4_init, 1, none, 4, 2, 0), (yX4_takes, cX4_takes, 2, some .boolean, 4, 1, 1), (yX4_add, cX4_add, 4, none, 4, 1, 3), (yX4_knownBy, cX4_knownBy, 4, none, 4, 1, 2), (yX5_init, cX5_init, 1, none, 5, 2, 0), (yX5_clear, cX5_clear, 1, none, 5, 1, 0), (yX5_put, cX5_put, 3, none, 5, 1, 2), (yX5_endMark, cX5_endMark, 1, none, 5, 1, 0), (yX5_truth, cX5_truth, 5, some .int, 5, 1, 2), (yX5_reckon, cX5_reckon, 6, none, 5, 1, 3), (yX5_isComparison, cX5_isComparison, 1, some .boolean, 5, 0, 1), (yX5_joined, cX5_joined, 3, some .int, 5, 0, 3), (yX5_notOf, cX5_notOf, 1, some .int, 5, 0, 1), (yX5_push, cX5_push, 2, none, 5, 1, 1), (yX5_pop, cX5_pop, 1, some .int, 5, 1, 0), (yX6_init, cX6_init, 1, none, 6, 2, 0), (yX6_readText, cX6_readText, 4, some .boolean, 6, 1, 2)]

set_option maxRecDepth 20000 in
theorem z_mt2_ok : z_atB [99, 960, 24, 99, 963, 964, 99, 967, 968, 95, 125, 125, 95, 577, 578, 95, 581, 582, 95, 600, 601, 97, 152, 152, 97, 636, 637, 97, 741, 742, 97, 775, 776, 97, 816, 817, 97, 821, 16, 97, 764, 764, 97, 836, 836, 97, 832, 832, 97, 825, 17, 97, 829, 18, 104, 462, 462, 104, 632, 633] ((z_mt2.filter (fun r => r.2.2.2.2.1 != 12)).flatMap z_mw) = true := by decide +kernel
set_option maxRecDepth 20000 in
theorem z_mt2_cd : (z_mt2.filter (fun r => r.2.2.2.2.1 != 12)).map z_cw = ([961, 965, 969, 126, 579, 583, 602, 153, 638, 743, 777, 818, 822, 765, 837, 833, 826, 830, 463, 634] : List Nat).filterMap (fun i => lw_tbl[i]?) := rfl

def z_mt3 : List z_MR := [(yX6_exchange, cX6_exchange, 3, some (.object "MarkCabinet$ScaleCode"), 6, 1, 1), (yX6_readClaims, cX6_readClaims, 5, some .boolean, 6, 1, 1), (yX6_readClaim, cX6_readClaim, 3, some .boolean, 6, 1, 1), (yX6_readNegated, cX6_readNegated, 2, some .boolean, 6, 1, 1), (yX6_readBracketed, cX6_readBracketed, 2, some .boolean, 6, 1, 1), (yX6_readKnown, cX6_readKnown, 1, some .boolean, 6, 1, 0), (yX6_readComparison, cX6_readComparison, 2, some .boolean, 6, 1, 0), (yX6_readSum, cX6_readSum, 5, some .boolean, 6, 1, 0), (yX6_isArithmetic, cX6_isArithmetic, 1, some .boolean, 6, 0, 1), (yX6_readDivisor, cX6_readDivisor, 1, some .boolean, 6, 1, 0), (yX6_readUnit, cX6_readUnit, 1, some .boolean, 6, 1, 0), (yX6_refuse, cX6_refuse, 2, some .boolean, 6, 1, 1), (yX7_init, cX7_init, 1, none, 7, 2, 0), (yX7_prepare, cX7_prepare, 5, none, 7, 1, 4), (yX7_listBlocks, cX7_listBlocks, 7, none, 7, 1, 3), (yX7_havingAt, cX7_havingAt, 6, some .int, 7, 1, 3), (yX7_isBlock, cX7_isBlock, 3, some .boolean, 7, 1, 1), (yX7_listMates, cX7_listMates, 4, none, 7, 1, 0), (yX7_all, cX7_all, 1, some .int, 7, 1, 0), (yX7_total, cX7_total, 1, some .long, 7, 1, 0)]

set_option maxRecDepth 20000 in
theorem z_mt3_ok : z_atB [104, 779, 780, 104, 729, 6, 104, 733, 7, 104, 768, 13, 104, 772, 14, 104, 737, 8, 104, 746, 9, 104, 750, 10, 104, 757, 757, 104, 761, 12, 104, 754, 11, 104, 725, 5, 101, 321, 321, 101, 1044, 1045, 101, 1052, 27, 101, 1056, 28, 101, 1067, 29, 101, 1071, 30, 101, 1075, 31, 101, 1079, 1080] ((z_mt3.filter (fun r => r.2.2.2.2.1 != 12)).flatMap z_mw) = true := by decide +kernel
set_option maxRecDepth 20000 in
theorem z_mt3_cd : (z_mt3.filter (fun r => r.2.2.2.2.1 != 12)).map z_cw = ([781, 730, 734, 769, 773, 738, 747, 751, 758, 762, 755, 726, 322, 1046, 1053, 1057, 1068, 1072, 1076, 1081] : List Nat).filterMap (fun i => lw_tbl[i]?) := rfl

def z_mt4 : List z_MR := [(yX7_findAt, cX7_findAt, 15, some .int, 7, 1, 2), (yX7_openBehind, cX7_openBehind, 4, some .int, 7, 1, 1), (yX7_countFrom, cX7_countFrom, 8, some .long, 7, 1, 2), (yX7_kinOf, cX7_kinOf, 3, some .int, 7, 1, 1), (yX7_lowest, cX7_lowest, 1, some .int, 7, 0, 1), (yX8_init, cX8_init, 1, none, 8, 2, 0), (yX8_hasFind, cX8_hasFind, 2, some .boolean, 8, 1, 1), (yX8_hasFinds, cX8_hasFinds, 2, some .boolean, 8, 1, 1), (yX8_hasMarks, cX8_hasMarks, 2, some .boolean, 8, 1, 1), (yX8_hasMark, cX8_hasMark, 2, some .boolean, 8, 1, 1), (yX8_markCount, cX8_markCount, 1, some .int, 8, 1, 0), (yX8_addFind, cX8_addFind, 1, some .int, 8, 1, 0), (yX8_hear, cX8_hear, 5, none, 8, 1, 4), (yX8_turn, cX8_turn, 4, none, 8, 1, 3), (yX8_cutBy, cX8_cutBy, 2, none, 8, 1, 1), (yX8_forget, cX8_forget, 2, none, 8, 1, 0), (yX8_freshen, cX8_freshen, 2, none, 8, 1, 0), (yX8_truthOf, cX8_truthOf, 3, some .int, 8, 1, 2), (yX8_rowOf, cX8_rowOf, 3, some .int, 8, 1, 2), (yX8_openOf, cX8_openOf, 2, some .int, 8, 1, 1)]

set_option maxRecDepth 20000 in
theorem z_mt4_ok : z_atB [101, 1103, 1104, 101, 1089, 33, 101, 1084, 32, 101, 1096, 34, 101, 1092, 1092, 96, 146, 146, 96, 567, 568, 96, 1039, 1040, 96, 865, 866, 96, 800, 801, 96, 787, 788, 96, 559, 560, 96, 585, 586, 96, 596, 597, 96, 783, 784, 96, 606, 0, 96, 804, 805, 96, 842, 843, 96, 857, 858, 96, 1170, 1171] ((z_mt4.filter (fun r => r.2.2.2.2.1 != 12)).flatMap z_mw) = true := by decide +kernel
set_option maxRecDepth 20000 in
theorem z_mt4_cd : (z_mt4.filter (fun r => r.2.2.2.2.1 != 12)).map z_cw = ([1105, 1090, 1085, 1097, 1093, 147, 569, 1041, 867, 802, 789, 561, 587, 598, 785, 607, 806, 844, 859, 1172] : List Nat).filterMap (fun i => lw_tbl[i]?) := rfl

def z_mt5 : List z_MR := [(yX8_having, cX8_having, 5, some .int, 8, 1, 2), (yX8_closureOf, cX8_closureOf, 6, some .int, 8, 1, 2), (yX8_differing, cX8_differing, 8, some .int, 8, 1, 4), (yX8_cut, cX8_cut, 4, none, 8, 1, 1), (yX8_gather, cX8_gather, 5, none, 8, 0, 4), (yX9_init, cX9_init, 1, none, 9, 2, 0), (yX9_cutText, cX9_cutText, 6, none, 9, 1, 2), (yX9_advance, cX9_advance, 1, none, 9, 1, 0), (yX9_add, cX9_add, 4, none, 9, 1, 3), (yX9_takeWord, cX9_takeWord, 5, some .int, 9, 1, 3), (yX9_takeNumber, cX9_takeNumber, 6, some .int, 9, 1, 3), (yX9_spells, cX9_spells, 5, some .boolean, 9, 0, 4), (yX9_isLetter, cX9_isLetter, 1, some .boolean, 9, 0, 1), (yX9_isDigit, cX9_isDigit, 1, some .boolean, 9, 0, 1), (yX9_signOf, cX9_signOf, 1, some .int, 9, 0, 1), (yX10_init, cX10_init, 1, none, 10, 2, 0), (yX10_find, cX10_find, 1, some .int, 10, 1, 0), (yX10_tell, cX10_tell, 7, some .boolean, 10, 1, 5), (yX10_view, cX10_view, 3, some .boolean, 10, 1, 2), (yX10_value, cX10_value, 3, some .int, 10, 1, 2)]

set_option maxRecDepth 20000 in
theorem z_mt5_ok : z_atB [96, 869, 870, 96, 878, 879, 96, 1221, 1222, 96, 809, 15, 96, 812, 812, 105, 468, 468, 105, 640, 641, 105, 720, 721, 105, 652, 3, 105, 648, 2, 105, 714, 4, 105, 656, 656, 105, 644, 644, 105, 710, 710, 105, 717, 717, 94, 117, 117, 94, 555, 556, 94, 563, 564, 94, 589, 590, 94, 609, 610] ((z_mt5.filter (fun r => r.2.2.2.2.1 != 12)).flatMap z_mw) = true := by decide +kernel
set_option maxRecDepth 20000 in
theorem z_mt5_cd : (z_mt5.filter (fun r => r.2.2.2.2.1 != 12)).map z_cw = ([871, 880, 1223, 810, 813, 469, 642, 722, 653, 649, 715, 657, 645, 711, 718, 118, 557, 565, 591, 611] : List Nat).filterMap (fun i => lw_tbl[i]?) := rfl

def z_mt6 : List z_MR := [(yX10_feed, cX10_feed, 6, some .int, 10, 1, 5), (yX10_end, cX10_end, 2, some .boolean, 10, 1, 1), (yX10_scales, cX10_scales, 2, some .int, 10, 1, 0), (yX10_fault, cX10_fault, 2, some .int, 10, 1, 1), (yX10_mark, cX10_mark, 3, some .int, 10, 1, 2), (yX10_look, cX10_look, 2, some .int, 10, 1, 1), (yX10_row, cX10_row, 3, some .int, 10, 1, 2), (yX10_have, cX10_have, 3, some .int, 10, 1, 2), (yX10_close, cX10_close, 3, some .int, 10, 1, 2), (yX10_concepts, cX10_concepts, 2, some .int, 10, 1, 1), (yX10_concept, cX10_concept, 3, some .int, 10, 1, 2), (yX10_number, cX10_number, 3, some .int, 10, 1, 2), (yX10_rules, cX10_rules, 2, some .int, 10, 1, 1), (yX10_rule, cX10_rule, 5, some .int, 10, 1, 3), (yX10_follow, cX10_follow, 5, some .int, 10, 1, 3), (yX10_against, cX10_against, 4, some .int, 10, 1, 3), (yX10_explore, cX10_explore, 2, some .int, 10, 1, 1), (yX10_question, cX10_question, 2, some .int, 10, 1, 1), (yX10_yes, cX10_yes, 1, some .int, 10, 1, 0), (yX10_no, cX10_no, 2, some .int, 10, 1, 1)]

set_option maxRecDepth 20000 in
theorem z_mt6_ok : z_atB [94, 616, 617, 94, 624, 625, 94, 628, 629, 94, 792, 793, 94, 796, 797, 94, 846, 847, 94, 850, 851, 94, 861, 862, 94, 874, 875, 94, 882, 883, 94, 907, 908, 94, 915, 916, 94, 923, 924, 94, 939, 940, 94, 951, 952, 94, 971, 972, 94, 975, 976, 94, 986, 987, 94, 1010, 1011, 94, 1019, 1020] ((z_mt6.filter (fun r => r.2.2.2.2.1 != 12)).flatMap z_mw) = true := by decide +kernel
set_option maxRecDepth 20000 in
theorem z_mt6_cd : (z_mt6.filter (fun r => r.2.2.2.2.1 != 12)).map z_cw = ([618, 626, 630, 794, 798, 848, 852, 863, 876, 884, 909, 917, 925, 941, 953, 973, 977, 988, 1012, 1021] : List Nat).filterMap (fun i => lw_tbl[i]?) := rfl

def z_mt7 : List z_MR := [(yX10_accepted, cX10_accepted, 3, some .int, 10, 1, 2), (yX10_rows, cX10_rows, 4, some .long, 10, 1, 3), (yX10_place, cX10_place, 7, some .int, 10, 1, 5), (yX10_crosses, cX10_crosses, 5, some .int, 10, 1, 4), (yX10_cost, cX10_cost, 3, some .boolean, 10, 1, 2), (yX10_key, cX10_key, 3, some .int, 10, 1, 2), (yX10_path, cX10_path, 4, some .int, 10, 1, 3), (yX10_quarrel, cX10_quarrel, 8, some .int, 10, 1, 3), (yX10_changed, cX10_changed, 9, some .int, 10, 1, 4), (yX10_feedFour, cX10_feedFour, 3, none, 10, 1, 1), (yX10_closedSets, cX10_closedSets, 3, some (.object "MarkCabinet$Lattice"), 10, 1, 1), (yX10_ruleBase, cX10_ruleBase, 3, some (.object "MarkCabinet$Lattice"), 10, 1, 1), (yX10_isMeasure, cX10_isMeasure, 1, some .boolean, 10, 0, 1), (yX10_isDay, cX10_isDay, 1, some .boolean, 10, 0, 1), (yX10_isViewer, cX10_isViewer, 1, some .boolean, 10, 0, 1), (yX10_isMode, cX10_isMode, 1, some .boolean, 10, 0, 1), (yX10_known, cX10_known, 5, some .int, 10, 0, 3), (yX10_backwards, cX10_backwards, 4, some .int, 10, 0, 2), (yX10_spread, cX10_spread, 4, some .int, 10, 0, 2), (yX11_init, cX11_init, 1, none, 11, 2, 0)]

set_option maxRecDepth 20000 in
theorem z_mt7_ok : z_atB [94, 1027, 1028, 94, 1035, 1036, 94, 1099, 1100, 94, 1108, 1109, 94, 1152, 1153, 94, 1160, 1161, 94, 1197, 1198, 94, 1209, 1210, 94, 1217, 1218, 94, 621, 1, 94, 887, 19, 94, 928, 22, 94, 571, 571, 94, 574, 574, 94, 593, 593, 94, 854, 854, 94, 613, 613, 94, 896, 896, 94, 1048, 1048, 106, 1227, 1227] ((z_mt7.filter (fun r => r.2.2.2.2.1 != 12)).flatMap z_mw) = true := by decide +kernel
set_option maxRecDepth 20000 in
theorem z_mt7_cd : (z_mt7.filter (fun r => r.2.2.2.2.1 != 12)).map z_cw = ([1029, 1037, 1101, 1110, 1154, 1162, 1199, 1211, 1219, 622, 888, 929, 572, 575, 594, 855, 614, 897, 1049, 1228] : List Nat).filterMap (fun i => lw_tbl[i]?) := rfl

def z_mt8 : List z_MR := [(yX11_isIn, cX11_isIn, 4, some .boolean, 11, 1, 3), (yX11_isFind, cX11_isFind, 2, some .boolean, 11, 1, 1), (yX11_isDay, cX11_isDay, 2, some .boolean, 11, 1, 1), (yX11_find, cX11_find, 1, some .int, 11, 1, 0), (yX11_tell, cX11_tell, 6, some .boolean, 11, 1, 5), (yX11_view, cX11_view, 3, some .boolean, 11, 1, 2), (yX11_knownOf, cX11_knownOf, 6, some .int, 11, 1, 4), (yX11_known, cX11_known, 7, some .int, 11, 1, 4), (yX11_value, cX11_value, 3, some .int, 11, 1, 2), (yX11_puts, cX11_puts, 3, none, 11, 1, 1), (yX11_feed, cX11_feed, 6, some .int, 11, 1, 5), (yX11_end, cX11_end, 2, some .boolean, 11, 1, 1), (yX11_raw, cX11_raw, 2, some .int, 11, 1, 1), (yX11_isLetter, cX11_isLetter, 2, some .boolean, 11, 1, 1), (yX11_isDigit, cX11_isDigit, 2, some .boolean, 11, 1, 1), (yX11_isMarkSign, cX11_isMarkSign, 2, some .boolean, 11, 1, 1), (yX11_wordAt, cX11_wordAt, 6, some .int, 11, 1, 2), (yX11_next, cX11_next, 2, none, 11, 1, 0), (yX11_fails, cX11_fails, 2, some .int, 11, 1, 1), (yX11_isWord, cX11_isWord, 2, some .boolean, 11, 1, 1)]

set_option maxRecDepth 20000 in
theorem z_mt8_ok : z_atB [106, 1419, 43, 106, 1423, 44, 106, 1427, 45, 106, 1410, 1411, 106, 1414, 1415, 106, 1430, 1431, 106, 1443, 47, 106, 1439, 46, 106, 1434, 1435, 106, 1451, 48, 106, 1446, 1447, 106, 1454, 1455, 106, 1471, 51, 106, 1475, 52, 106, 1483, 54, 106, 1487, 55, 106, 1479, 53, 106, 1467, 50, 106, 1491, 56, 106, 1499, 58] ((z_mt8.filter (fun r => r.2.2.2.2.1 != 12)).flatMap z_mw) = true := by decide +kernel
set_option maxRecDepth 20000 in
theorem z_mt8_cd : (z_mt8.filter (fun r => r.2.2.2.2.1 != 12)).map z_cw = ([1420, 1424, 1428, 1412, 1416, 1432, 1444, 1440, 1436, 1452, 1448, 1456, 1472, 1476, 1484, 1488, 1480, 1468, 1492, 1500] : List Nat).filterMap (fun i => lw_tbl[i]?) := rfl

def z_mt9 : List z_MR := [(yX11_isMeasure, cX11_isMeasure, 1, some .boolean, 11, 1, 0), (yX11_isSign, cX11_isSign, 2, some .boolean, 11, 1, 1), (yX11_emits, cX11_emits, 3, none, 11, 1, 2), (yX11_readUnit, cX11_readUnit, 1, some .int, 11, 1, 0), (yX11_readProduct, cX11_readProduct, 2, some .int, 11, 1, 0), (yX11_readSum, cX11_readSum, 2, some .int, 11, 1, 0), (yX11_readCompared, cX11_readCompared, 2, some .int, 11, 1, 0), (yX11_waits, cX11_waits, 2, none, 11, 1, 1), (yX11_settles, cX11_settles, 2, none, 11, 1, 1), (yX11_readAny, cX11_readAny, 4, some .int, 11, 1, 0), (yX11_reads, cX11_reads, 2, some .int, 11, 1, 0), (yX11_scales, cX11_scales, 3, some .int, 11, 1, 0), (yX11_fault, cX11_fault, 2, some .int, 11, 1, 1), (yX11_twoOf, cX11_twoOf, 4, some .int, 11, 1, 3), (yX11_both, cX11_both, 3, some .int, 11, 1, 2), (yX11_either, cX11_either, 3, some .int, 11, 1, 2), (yX11_markOf, cX11_markOf, 9, some .int, 11, 1, 4), (yX11_mark, cX11_mark, 3, some .int, 11, 1, 2), (yX11_findRows, cX11_findRows, 5, none, 11, 1, 1), (yX11_isMode, cX11_isMode, 2, some .boolean, 11, 1, 1)]

set_option maxRecDepth 20000 in
theorem z_mt9_ok : z_atB [106, 1515, 62, 106, 1503, 59, 106, 1519, 63, 106, 1531, 66, 106, 1527, 65, 106, 1523, 64, 106, 1511, 61, 106, 1507, 60, 106, 1535, 67, 106, 1495, 57, 106, 1463, 49, 106, 1458, 1459, 106, 1538, 1539, 106, 1559, 71, 106, 1551, 69, 106, 1555, 70, 106, 1547, 68, 106, 1542, 1543, 106, 1571, 73, 106, 1567, 72] ((z_mt9.filter (fun r => r.2.2.2.2.1 != 12)).flatMap z_mw) = true := by decide +kernel
set_option maxRecDepth 20000 in
theorem z_mt9_cd : (z_mt9.filter (fun r => r.2.2.2.2.1 != 12)).map z_cw = ([1516, 1504, 1520, 1532, 1528, 1524, 1512, 1508, 1536, 1496, 1464, 1460, 1540, 1560, 1552, 1556, 1548, 1544, 1572, 1568] : List Nat).filterMap (fun i => lw_tbl[i]?) := rfl

def z_mt10 : List z_MR := [(yX11_isMarks, cX11_isMarks, 2, some .boolean, 11, 1, 1), (yX11_isFinds, cX11_isFinds, 2, some .boolean, 11, 1, 1), (yX11_row, cX11_row, 3, some .int, 11, 1, 2), (yX11_have, cX11_have, 5, some .int, 11, 1, 2), (yX11_closureOf, cX11_closureOf, 4, some .int, 11, 1, 1), (yX11_close, cX11_close, 3, some .int, 11, 1, 2), (yX11_setAt, cX11_setAt, 5, some .int, 11, 1, 2), (yX11_findClosed, cX11_findClosed, 4, none, 11, 1, 1), (yX11_concepts, cX11_concepts, 2, some .int, 11, 1, 1), (yX11_concept, cX11_concept, 3, some .int, 11, 1, 2), (yX11_number, cX11_number, 4, some .int, 11, 1, 2), (yX11_findRules, cX11_findRules, 7, none, 11, 1, 1), (yX11_rules, cX11_rules, 2, some .int, 11, 1, 1), (yX11_rule, cX11_rule, 4, some .int, 11, 1, 3), (yX11_follow, cX11_follow, 9, some .int, 11, 1, 3), (yX11_against, cX11_against, 6, some .int, 11, 1, 3), (yX11_explore, cX11_explore, 3, some .int, 11, 1, 1), (yX11_keeps, cX11_keeps, 3, some .boolean, 11, 1, 1), (yX11_findQuestion, cX11_findQuestion, 5, some .boolean, 11, 1, 0), (yX11_question, cX11_question, 2, some .int, 11, 1, 1)]

set_option maxRecDepth 20000 in
theorem z_mt10_ok : z_atB [106, 1579, 74, 106, 1671, 82, 106, 1562, 1563, 106, 1574, 1575, 106, 1587, 75, 106, 1582, 1583, 106, 1599, 77, 106, 1595, 76, 106, 1590, 1591, 106, 1602, 1603, 106, 1606, 1607, 106, 1615, 78, 106, 1610, 1611, 106, 1618, 1619, 106, 1622, 1623, 106, 1626, 1627, 106, 1630, 1631, 106, 1643, 80, 106, 1639, 79, 106, 1634, 1635] ((z_mt10.filter (fun r => r.2.2.2.2.1 != 12)).flatMap z_mw) = true := by decide +kernel
set_option maxRecDepth 20000 in
theorem z_mt10_cd : (z_mt10.filter (fun r => r.2.2.2.2.1 != 12)).map z_cw = ([1580, 1672, 1564, 1576, 1588, 1584, 1600, 1596, 1592, 1604, 1608, 1616, 1612, 1620, 1624, 1628, 1632, 1644, 1640, 1636] : List Nat).filterMap (fun i => lw_tbl[i]?) := rfl

def z_mt11 : List z_MR := [(yX11_yes, cX11_yes, 1, some .int, 11, 1, 0), (yX11_no, cX11_no, 2, some .int, 11, 1, 1), (yX11_accepted, cX11_accepted, 3, some .int, 11, 1, 2), (yX11_look, cX11_look, 2, some .int, 11, 1, 1), (yX11_findHolders, cX11_findHolders, 5, none, 11, 1, 2), (yX11_mayStand, cX11_mayStand, 5, some .int, 11, 1, 2), (yX11_findOrders, cX11_findOrders, 7, none, 11, 1, 1), (yX11_canRow, cX11_canRow, 4, some .boolean, 11, 1, 3), (yX11_findAll, cX11_findAll, 4, none, 11, 1, 3), (yX11_rows, cX11_rows, 4, some .long, 11, 1, 3), (yX11_place, cX11_place, 14, some .int, 11, 1, 5), (yX11_crossed, cX11_crossed, 8, some .int, 11, 1, 0), (yX11_nextOrder, cX11_nextOrder, 6, some .boolean, 11, 1, 0), (yX11_ones, cX11_ones, 4, some .int, 11, 1, 1), (yX11_crosses, cX11_crosses, 8, some .int, 11, 1, 4), (yX11_cost, cX11_cost, 3, some .boolean, 11, 1, 2), (yX11_findSplits, cX11_findSplits, 4, none, 11, 1, 0), (yX11_findKey, cX11_findKey, 6, none, 11, 1, 1), (yX11_findKeys, cX11_findKeys, 3, none, 11, 1, 1), (yX11_key, cX11_key, 3, some .int, 11, 1, 2)]

set_option maxRecDepth 20000 in
theorem z_mt11_ok : z_atB [106, 1646, 1647, 106, 1650, 1651, 106, 1654, 1655, 106, 1658, 1659, 106, 1680, 84, 106, 1688, 86, 106, 1684, 85, 106, 1667, 81, 106, 1676, 83, 106, 1662, 1663, 106, 1691, 1692, 106, 1704, 88, 106, 1708, 89, 106, 1700, 87, 106, 1695, 1696, 106, 1711, 1712, 106, 1724, 91, 106, 1728, 92, 106, 1720, 90, 106, 1715, 1716] ((z_mt11.filter (fun r => r.2.2.2.2.1 != 12)).flatMap z_mw) = true := by decide +kernel
set_option maxRecDepth 20000 in
theorem z_mt11_cd : (z_mt11.filter (fun r => r.2.2.2.2.1 != 12)).map z_cw = ([1648, 1652, 1656, 1660, 1681, 1689, 1685, 1668, 1677, 1664, 1693, 1705, 1709, 1701, 1697, 1713, 1725, 1729, 1721, 1717] : List Nat).filterMap (fun i => lw_tbl[i]?) := rfl

def z_mt12 : List z_MR := [(yX11_path, cX11_path, 9, some .int, 11, 1, 3), (yX11_quarrel, cX11_quarrel, 10, some .int, 11, 1, 3), (yX11_changed, cX11_changed, 8, some .int, 11, 1, 4), (yJ6_bitCount_0f7a4, cJ6_bitCount_0f7a4, 1, some .int, 13, 0, 1), (yJ9_abs_0f7a4, cJ9_abs_0f7a4, 1, some .int, 14, 0, 1), (yJ9_max_7cf53, cJ9_max_7cf53, 2, some .int, 14, 0, 2), (yJ0_length_8abf5, cJ0_length_8abf5, 1, some .int, 15, 1, 0), (yJ0_charAt_5068e, cJ0_charAt_5068e, 2, some .char, 15, 1, 1), (yJ0_coder_7d493, cJ0_coder_7d493, 1, some .byte, 15, 1, 0), (yJ0_isLatin1_aae02, cJ0_isLatin1_aae02, 1, some .boolean, 15, 1, 0), (yJ0_checkIndex_df160, cJ0_checkIndex_df160, 2, none, 15, 0, 2), (yJ1_charAt_3b067, cJ1_charAt_3b067, 2, some .char, 16, 0, 2), (yJ2_getChar_3b067, cJ2_getChar_3b067, 2, some .char, 17, 0, 2), (yJ2_length_9d52b, cJ2_length_9d52b, 1, some .int, 17, 0, 1), (yJ2_charAt_3b067, cJ2_charAt_3b067, 2, some .char, 17, 0, 2), (yJ2_checkIndex_2214a, cJ2_checkIndex_2214a, 2, none, 17, 0, 2), (yJ7_fill_53178, cJ7_fill_53178, 4, none, 18, 0, 2), (yJ3_checkIndex_8e157, cJ3_checkIndex_8e157, 3, some .int, 19, 0, 3), (yL_law, cL_law, 4, some .boolean, 12, 0, 1)]

set_option maxRecDepth 20000 in
theorem z_mt12_ok : z_atB [106, 1731, 1732, 106, 1735, 1736, 106, 1739, 1740, 112, 1060, 1060, 111, 1214, 1214, 111, 839, 839, 107, 659, 660, 107, 669, 670, 107, 663, 664, 107, 673, 674, 107, 680, 680, 108, 677, 677, 110, 698, 698, 110, 694, 694, 110, 688, 688, 110, 691, 691, 98, 179, 179, 109, 685, 685] ((z_mt12.filter (fun r => r.2.2.2.2.1 != 12)).flatMap z_mw) = true := by decide +kernel
set_option maxRecDepth 20000 in
theorem z_mt12_cd : (z_mt12.filter (fun r => r.2.2.2.2.1 != 12)).map z_cw = ([1733, 1737, 1741, 1061, 1215, 840, 661, 671, 665, 675, 681, 678, 699, 695, 689, 692, 180, 686] : List Nat).filterMap (fun i => lw_tbl[i]?) := rfl

def z_mt : List z_MR := z_mt0 ++ z_mt1 ++ z_mt2 ++ z_mt3 ++ z_mt4 ++ z_mt5 ++ z_mt6 ++ z_mt7 ++ z_mt8 ++ z_mt9 ++ z_mt10 ++ z_mt11 ++ z_mt12

abbrev z_LR : Type := Nat × Nat × Nat

def z_y (j : Nat) : MethodName := ((z_mt[j]?).map (fun r => r.1)).getD objectInit

def z_lw (r : z_LR) : Cond := .methodLink (z_own r.1) r.2.1 (z_y r.2.2)

def z_lwN (r : z_LR) : Cond := .methodLinkNest (z_own r.1) r.2.1 (z_y r.2.2) "MarkCabinet"

def z_ml0 : List z_LR := [(12, 9, 115), (10, 3, 999), (4, 3, 999), (10, 18, 85), (8, 3, 999), (5, 3, 999), (8, 51, 256), (3, 3, 999), (1, 3, 999), (7, 5, 999), (0, 3, 999), (10, 53, 19), (2, 3, 999), (2, 46, 256), (6, 3, 999), (9, 3, 999), (12, 13, 116), (10, 80, 91), (12, 18, 117), (10, 84, 86), (10, 88, 152), (10, 91, 153), (10, 94, 44), (10, 97, 45), (10, 101, 92), (12, 23, 118), (10, 105, 154), (10, 108, 93), (8, 60, 46), (4, 25, 256), (8, 66, 95), (12, 28, 119), (10, 118, 156), (12, 33, 120), (10, 121, 149), (12, 38, 121), (12, 43, 122), (10, 125, 59), (6, 32, 48), (6, 35, 106), (9, 37, 112), (9, 41, 109), (9, 55, 108), (9, 64, 111), (9, 74, 246), (15, 335, 248), (9, 80, 247), (15, 492, 249), (15, 495, 251), (16, 9, 250), (15, 1059, 257), (15, 498, 254), (17, 67, 255), (17, 48, 253), (17, 414, 250), (17, 71, 252), (9, 45, 113), (9, 48, 110), (9, 51, 114), (9, 59, 107)]

set_option maxRecDepth 20000 in
theorem z_ml0_ok : z_atB [116, 119, 127, 145, 148, 154, 178, 234, 283, 323, 364, 417, 420, 421, 464, 470, 554, 558, 562, 566, 570, 573, 576, 580, 584, 588, 592, 595, 599, 603, 604, 608, 612, 615, 619, 623, 627, 631, 635, 639, 643, 646, 650, 655, 658, 662, 668, 672, 676, 679, 684, 687, 690, 693, 696, 697, 709, 712, 716, 719] (z_ml0.map z_lw) = true := by decide +kernel

def z_ml1 : List z_LR := [(6, 42, 71), (6, 46, 61), (6, 55, 62), (6, 62, 65), (6, 52, 107), (6, 58, 49), (6, 66, 66), (6, 78, 67), (6, 84, 70), (6, 87, 68), (6, 90, 69), (6, 69, 63), (6, 72, 64), (6, 49, 50), (10, 133, 60), (10, 137, 94), (10, 141, 90), (12, 47, 123), (12, 52, 124), (10, 150, 89), (10, 153, 96), (8, 69, 103), (8, 77, 104), (8, 81, 51), (5, 35, 52), (5, 43, 56), (5, 39, 57), (5, 47, 55), (5, 51, 53), (5, 55, 54), (5, 61, 245), (10, 156, 97), (12, 56, 125), (12, 60, 126), (10, 179, 155), (10, 182, 98), (12, 64, 127), (10, 185, 88), (10, 188, 100), (8, 73, 98), (12, 68, 128), (10, 191, 101), (12, 72, 129), (10, 194, 150), (10, 329, 30), (3, 57, 90), (3, 64, 98), (3, 71, 31), (3, 74, 32), (12, 76, 130), (10, 201, 35), (12, 80, 131), (10, 205, 36), (12, 84, 132), (10, 208, 151), (10, 332, 33), (3, 77, 34), (12, 88, 133), (10, 214, 37), (10, 217, 38)]

set_option maxRecDepth 20000 in
theorem z_ml1_ok : z_atB [723, 727, 731, 735, 739, 740, 744, 748, 752, 756, 759, 766, 770, 774, 778, 782, 786, 791, 795, 799, 803, 807, 811, 815, 819, 823, 827, 831, 834, 835, 838, 841, 845, 849, 853, 856, 860, 864, 868, 872, 873, 877, 881, 885, 889, 893, 894, 898, 902, 906, 910, 914, 918, 922, 926, 930, 934, 938, 942, 946] (z_ml1.map z_lw) = true := by decide +kernel

def z_ml2 : List z_LR := [(12, 93, 134), (10, 220, 39), (3, 81, 40), (10, 223, 41), (10, 229, 42), (12, 97, 135), (12, 101, 136), (10, 233, 10), (1, 44, 90), (1, 53, 98), (12, 105, 137), (10, 237, 11), (1, 60, 17), (1, 64, 18), (10, 241, 12), (10, 244, 13), (12, 109, 138), (10, 247, 14), (1, 68, 11), (12, 113, 139), (10, 250, 15), (12, 117, 140), (10, 253, 16), (12, 121, 141), (10, 256, 87), (10, 261, 73), (7, 57, 74), (7, 66, 75), (7, 80, 98), (7, 70, 243), (7, 76, 76), (7, 61, 77), (7, 84, 78), (10, 265, 79), (7, 88, 82), (7, 96, 81), (7, 99, 84), (7, 104, 83), (12, 128, 142), (10, 269, 80), (7, 92, 79), (12, 133, 143), (10, 273, 243), (10, 278, 1), (0, 70, 98), (0, 74, 2), (0, 77, 3), (0, 84, 243), (0, 80, 4), (0, 90, 5), (0, 97, 7), (0, 106, 245), (0, 94, 6), (10, 282, 8), (12, 138, 144), (10, 285, 20), (12, 142, 145), (10, 289, 21), (2, 57, 90), (2, 64, 98)]

set_option maxRecDepth 20000 in
theorem z_ml2_ok : z_atB [950, 954, 958, 962, 966, 970, 974, 978, 982, 983, 985, 989, 993, 997, 1001, 1005, 1009, 1013, 1017, 1018, 1022, 1026, 1030, 1034, 1038, 1043, 1050, 1054, 1058, 1059, 1065, 1069, 1073, 1078, 1082, 1087, 1091, 1094, 1098, 1102, 1106, 1107, 1111, 1112, 1117, 1118, 1122, 1126, 1127, 1131, 1135, 1139, 1143, 1147, 1151, 1155, 1159, 1163, 1167, 1168] (z_ml2.map z_lw) = true := by decide +kernel

def z_ml3 : List z_LR := [(2, 68, 99), (10, 292, 22), (2, 73, 24), (2, 76, 245), (10, 295, 23), (10, 298, 25), (2, 81, 26), (2, 84, 23), (12, 146, 146), (10, 301, 27), (10, 313, 28), (12, 150, 147), (10, 316, 46), (10, 320, 244), (12, 154, 148), (10, 325, 102), (12, 12, 159), (11, 1, 999), (12, 17, 163), (12, 22, 164), (11, 119, 160), (11, 123, 161), (11, 127, 162), (12, 27, 165), (12, 32, 168), (11, 140, 167), (11, 136, 166), (12, 37, 170), (11, 146, 169), (12, 42, 171), (12, 46, 191), (11, 236, 190), (11, 199, 177), (11, 153, 172), (11, 166, 173), (11, 169, 176), (11, 173, 174), (11, 176, 175), (11, 192, 178), (11, 233, 189), (11, 212, 179), (11, 206, 181), (11, 224, 187), (11, 227, 186), (11, 188, 180), (11, 195, 182), (11, 215, 185), (11, 209, 184), (11, 202, 183), (11, 230, 188), (12, 51, 192), (12, 55, 197), (11, 255, 196), (11, 245, 194), (11, 248, 195), (11, 251, 193), (12, 63, 202), (11, 258, 199), (11, 261, 198), (12, 67, 203)]

set_option maxRecDepth 20000 in
theorem z_ml3_ok : z_atB [1169, 1174, 1178, 1182, 1183, 1187, 1191, 1195, 1196, 1200, 1204, 1208, 1212, 1213, 1216, 1220, 1226, 1229, 1409, 1413, 1417, 1421, 1425, 1429, 1433, 1437, 1441, 1445, 1449, 1453, 1457, 1461, 1465, 1469, 1473, 1477, 1481, 1485, 1489, 1493, 1497, 1501, 1505, 1509, 1513, 1517, 1521, 1525, 1529, 1533, 1537, 1541, 1545, 1549, 1553, 1557, 1561, 1565, 1569, 1573] (z_ml3.map z_lw) = true := by decide +kernel

def z_ml4 : List z_LR := [(11, 264, 200), (12, 71, 205), (11, 267, 204), (12, 75, 208), (11, 276, 207), (11, 273, 206), (12, 79, 209), (12, 83, 210), (12, 87, 212), (11, 282, 211), (12, 92, 213), (12, 96, 214), (12, 100, 215), (12, 104, 216), (12, 108, 219), (11, 307, 218), (11, 298, 217), (12, 112, 220), (12, 116, 221), (12, 120, 222), (12, 59, 223), (12, 125, 229), (11, 322, 227), (11, 313, 201), (11, 327, 228), (11, 316, 224), (11, 319, 226), (11, 310, 225), (12, 132, 230), (12, 137, 234), (11, 334, 233), (11, 340, 231), (11, 343, 232), (12, 141, 235), (12, 145, 239), (11, 352, 238), (11, 346, 236), (11, 349, 237), (12, 149, 240), (12, 153, 241), (12, 157, 242)]

set_option maxRecDepth 20000 in
theorem z_ml4_ok : z_atB [1577, 1581, 1585, 1589, 1593, 1597, 1601, 1605, 1609, 1613, 1617, 1621, 1625, 1629, 1633, 1637, 1641, 1645, 1649, 1653, 1657, 1661, 1665, 1669, 1674, 1678, 1682, 1686, 1690, 1694, 1698, 1702, 1706, 1710, 1714, 1718, 1722, 1726, 1730, 1734, 1738] (z_ml4.map z_lw) = true := by decide +kernel

def z_ml : List z_LR := z_ml0 ++ z_ml1 ++ z_ml2 ++ z_ml3 ++ z_ml4

def z_mn : List z_LR := [(10, 11, 43), (8, 27, 47), (10, 25, 29), (10, 32, 9), (10, 39, 72), (10, 46, 0), (10, 68, 58), (6, 11, 105), (6, 20, 47), (6, 81, 53), (8, 85, 156), (3, 68, 157), (1, 57, 157), (7, 53, 158), (0, 66, 158)]

def z_nl : List z_LR := [(12, 7, 10), (10, 9, 4), (10, 16, 8), (8, 25, 5), (10, 23, 3), (10, 30, 1), (10, 37, 7), (10, 44, 0), (10, 51, 2), (10, 66, 6), (6, 9, 9), (6, 18, 5), (12, 10, 11)]

def z_nw (r : z_LR) : List Cond := [.classLink (z_own r.1) r.2.1 (z_own r.2.2), .instantiable (z_own r.2.2) (z_num r.2.2), .initialized (z_own r.2.2)]

set_option maxRecDepth 20000 in
theorem z_nl_ok : z_atB [114, 115, 94, 122, 123, 95, 143, 144, 96, 149, 150, 97, 228, 230, 99, 278, 279, 100, 318, 319, 101, 359, 360, 102, 415, 416, 103, 459, 460, 104, 465, 466, 105, 500, 150, 97, 1224, 1225, 106] (z_nl.flatMap z_nw) = true := by decide +kernel

/-- the nest links: not among the words that stay by themselves -/
def z_nest : List Cond := z_fn.map z_fw ++ z_mn.map z_lwN

set_option maxRecDepth 20000 in
theorem z_nest_in : ∀ w ∈ z_nest, w ∈ tables_1 := by
  have h : ([39, 66, 89, 90, 91, 92, 94, 96, 98, 100, 107, 108, 109, 110, 147, 152, 156, 192, 197, 201, 288, 338, 340, 342, 384, 386, 388, 412, 414, 31, 58, 138, 187, 227, 268, 368, 374, 408, 670, 721, 802, 891, 954, 1023].map (fun i => tables_1[i]?) == z_nest.map some) = true := by decide +kernel
  intro w hw
  rw [beq_iff_eq] at h
  obtain ⟨k, hk⟩ := List.getElem?_of_mem hw
  have h1 : ([39, 66, 89, 90, 91, 92, 94, 96, 98, 100, 107, 108, 109, 110, 147, 152, 156, 192, 197, 201, 288, 338, 340, 342, 384, 386, 388, 412, 414, 31, 58, 138, 187, 227, 268, 368, 374, 408, 670, 721, 802, 891, 954, 1023].map (fun i => tables_1[i]?))[k]? = some (some w) := by rw [h, List.getElem?_map, hk]; rfl
  rw [List.getElem?_map] at h1
  cases hi : ([39, 66, 89, 90, 91, 92, 94, 96, 98, 100, 107, 108, 109, 110, 147, 152, 156, 192, 197, 201, 288, 338, 340, 342, 384, 386, 388, 412, 414, 31, 58, 138, 187, 227, 268, 368, 374, 408, 670, 721, 802, 891, 954, 1023] : List Nat)[k]? with
  | none => rw [hi] at h1; cases h1
  | some i => rw [hi] at h1; exact List.mem_of_getElem? (Option.some.inj h1)

/-- int and long constants of the pool: owner, entry, value -/
def z_cl : List (Nat × Nat × Int) := [(13, 265, 1431655765), (13, 266, 858993459), (13, 267, 252645135), (2, 72, 1048575), (11, 81, 65536)]
def z_cL : List (Nat × Nat × Int) := [(10, 259, -1), (7, 64, 524287), (7, 102, 35184372088831), (11, 325, -1), (12, 126, 4294967295)]

set_option maxRecDepth 20000 in
theorem z_cl_ok : z_atB [1062, 1063, 1064, 1173, 1230] (z_cl.map (fun r => .constant (z_own r.1) r.2.1 (Int32.ofInt r.2.2))) = true := by decide +kernel

set_option maxRecDepth 20000 in
theorem z_cL_ok : z_atB [1042, 1077, 1086, 1673, 1742] (z_cL.map (fun r => .constantLong (z_own r.1) r.2.1 (Int64.ofInt r.2.2))) = true := by decide +kernel
