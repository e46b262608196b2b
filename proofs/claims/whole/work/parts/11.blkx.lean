/-! blocks: 11.blkx, by program from the decode rows -/
-- 0 yX0_init
def B0_0 : List zOp := [(0, 1, .aload_n 0, [], 0), (1, 3, .invokespecial 3, [999], 0), (4, 1, .aload_n 0, [], 0), (5, 1, .iconst (-1), [], 0), (6, 3, .putfield 9, [0, 0, 0], 0), (9, 1, .aload_n 0, [], 0), (10, 1, .iconst 0, [], 0), (11, 3, .putfield 15, [0, 1, 0], 0), (14, 1, .aload_n 0, [], 0), (15, 1, .iconst 0, [], 0), (16, 3, .putfield 18, [0, 2, 0], 0), (19, 1, .aload_n 0, [], 0), (20, 1, .iconst 0, [], 0), (21, 3, .putfield 21, [0, 3, 0], 0), (24, 1, .aload_n 0, [], 0), (25, 1, .iconst 0, [], 0), (26, 3, .putfield 24, [0, 4, 0], 0), (29, 1, .aload_n 0, [], 0), (30, 2, .bipush 8, [], 0), (32, 2, .newarray .int, [13], 0), (34, 3, .putfield 27, [0, 5, 2], 0), (37, 1, .aload_n 0, [], 0), (38, 2, .bipush 8, [], 0), (40, 2, .newarray .int, [13], 0), (42, 3, .putfield 31, [0, 6, 2], 0), (45, 1, .aload_n 0, [], 0), (46, 2, .bipush 8, [], 0), (48, 2, .newarray .int, [13], 0), (50, 3, .putfield 34, [0, 7, 2], 0), (53, 1, .aload_n 0, [], 0), (54, 2, .bipush 12, [], 0), (56, 2, .newarray .int, [13], 0), (58, 3, .putfield 37, [0, 8, 2], 0), (61, 1, .aload_n 0, [], 0), (62, 1, .iconst 0, [], 0), (63, 3, .putfield 40, [0, 9, 0], 0), (66, 1, .aload_n 0, [], 0), (67, 2, .bipush 108, [], 0), (69, 2, .newarray .int, [13], 0), (71, 3, .putfield 43, [0, 10, 2], 0), (74, 1, .aload_n 0, [], 0), (75, 2, .bipush 108, [], 0), (77, 2, .newarray .int, [13], 0), (79, 3, .putfield 46, [0, 11, 2], 0), (82, 1, .aload_n 0, [], 0), (83, 2, .bipush 108, [], 0), (85, 2, .newarray .int, [13], 0), (87, 3, .putfield 49, [0, 12, 2], 0), (90, 1, .aload_n 0, [], 0), (91, 2, .bipush 8, [], 0), (93, 2, .newarray .int, [13], 0), (95, 3, .putfield 52, [0, 13, 2], 0), (98, 1, .aload_n 0, [], 0), (99, 2, .bipush 8, [], 0), (101, 2, .newarray .int, [13], 0), (103, 3, .putfield 55, [0, 14, 2], 0), (106, 1, .aload_n 0, [], 0), (107, 1, .iconst 0, [], 0), (108, 3, .putfield 58, [0, 15, 0], 0), (111, 1, .return_, [], 0)]
set_option maxRecDepth 20000 in
theorem b0_0 : z_blk 0 0 112 B0_0 = true := by decide +kernel
-- 1 yX0_prepare
def B1_0 : List zOp := [(0, 1, .aload_n 0, [], 0), (1, 3, .getfield 9, [0, 0, 0], 0), (4, 1, .aload_n 1, [], 0), (5, 3, .getfield 61, [8, 10, 0], 0), (8, 3, .if_icmp .ne 29, [37], 0), (11, 1, .aload_n 0, [], 0), (12, 3, .getfield 15, [0, 1, 0], 0), (15, 1, .iload_n 2, [], 0), (16, 3, .if_icmp .ne 21, [37], 0), (19, 1, .aload_n 0, [], 0), (20, 3, .getfield 18, [0, 2, 0], 0), (23, 1, .iload_n 3, [], 0), (24, 3, .if_icmp .ne 13, [37], 0), (27, 1, .aload_n 0, [], 0), (28, 3, .getfield 21, [0, 3, 0], 0), (31, 2, .iload 4, [], 0), (33, 3, .if_icmp .ne 4, [37], 0), (36, 1, .return_, [], 0)]
set_option maxRecDepth 20000 in
theorem b1_0 : z_blk 1 0 37 B1_0 = true := by decide +kernel
def B1_37 : List zOp := [(37, 1, .aload_n 0, [], 0), (38, 1, .aload_n 1, [], 0), (39, 3, .getfield 61, [8, 10, 0], 0), (42, 3, .putfield 9, [0, 0, 0], 0), (45, 1, .aload_n 0, [], 0), (46, 1, .iload_n 2, [], 0), (47, 3, .putfield 15, [0, 1, 0], 0), (50, 1, .aload_n 0, [], 0), (51, 1, .iload_n 3, [], 0), (52, 3, .putfield 18, [0, 2, 0], 0), (55, 1, .aload_n 0, [], 0), (56, 2, .iload 4, [], 0), (58, 3, .putfield 21, [0, 3, 0], 0), (61, 1, .aload_n 0, [], 0), (62, 1, .iload_n 3, [], 0), (63, 1, .aload_n 0, [], 0), (64, 3, .getfield 27, [0, 5, 2], 0), (67, 3, .invokestatic 66, [158, 2], 0), (70, 3, .putfield 24, [0, 4, 0], 0), (73, 1, .iconst 0, [], 0), (74, 2, .istore 5, [], 0)]
set_option maxRecDepth 20000 in
theorem b1_37 : z_blk 1 37 76 B1_37 = true := by decide +kernel
def B1_76 : List zOp := [(76, 2, .iload 5, [], 0), (78, 1, .aload_n 0, [], 0), (79, 3, .getfield 24, [0, 4, 0], 0), (82, 3, .if_icmp .ge 31, [113], 0), (85, 1, .aload_n 0, [], 0), (86, 3, .getfield 31, [0, 6, 2], 0), (89, 2, .iload 5, [], 0), (91, 1, .aload_n 1, [], 0), (92, 1, .aload_n 0, [], 0), (93, 3, .getfield 27, [0, 5, 2], 0), (96, 2, .iload 5, [], 0), (98, 1, .iaload, [], 0), (99, 1, .iload_n 2, [], 0), (100, 3, .invokevirtual 70, [98, 2, 8], 0), (103, 2, .iload 4, [], 0), (105, 1, .iand, [], 0), (106, 1, .iastore, [], 0), (107, 3, .iinc 5 1, [], 0), (110, 3, .goto (-34), [76], 0)]
set_option maxRecDepth 20000 in
theorem b1_76 : z_blk 1 76 113 B1_76 = true := by decide +kernel
def B1_113 : List zOp := [(113, 1, .aload_n 0, [], 0), (114, 3, .invokevirtual 74, [2, 0, 0], 0), (117, 1, .aload_n 0, [], 0), (118, 3, .invokevirtual 77, [3, 0, 0], 0), (121, 1, .aload_n 0, [], 0), (122, 1, .aload_n 0, [], 0), (123, 3, .getfield 24, [0, 4, 0], 0), (126, 1, .aload_n 0, [], 0), (127, 3, .getfield 40, [0, 9, 0], 0), (130, 1, .imul, [], 0), (131, 1, .iconst 1, [], 0), (132, 1, .iadd, [], 0), (133, 3, .putfield 58, [0, 15, 0], 0), (136, 1, .aload_n 0, [], 0), (137, 1, .iconst 0, [], 0), (138, 1, .iconst 0, [], 0), (139, 3, .invokevirtual 80, [4, 2, 0], 0), (142, 1, .return_, [], 0)]
set_option maxRecDepth 20000 in
theorem b1_113 : z_blk 1 113 143 B1_113 = true := by decide +kernel
-- 2 yX0_listMates
def B2_0 : List zOp := [(0, 1, .iconst 0, [], 0), (1, 1, .istore_n 1, [], 0)]
set_option maxRecDepth 20000 in
theorem b2_0 : z_blk 2 0 2 B2_0 = true := by decide +kernel
def B2_2 : List zOp := [(2, 1, .iload_n 1, [], 0), (3, 1, .aload_n 0, [], 0), (4, 3, .getfield 24, [0, 4, 0], 0), (7, 3, .if_icmp .ge 60, [67], 0), (10, 1, .aload_n 0, [], 0), (11, 3, .getfield 34, [0, 7, 2], 0), (14, 1, .iload_n 1, [], 0), (15, 1, .iconst 0, [], 0), (16, 1, .iastore, [], 0), (17, 1, .iconst 0, [], 0), (18, 1, .istore_n 2, [], 0)]
set_option maxRecDepth 20000 in
theorem b2_2 : z_blk 2 2 19 B2_2 = true := by decide +kernel
def B2_19 : List zOp := [(19, 1, .iload_n 2, [], 0), (20, 1, .iload_n 1, [], 0), (21, 3, .if_icmp .ge 40, [61], 0), (24, 1, .aload_n 0, [], 0), (25, 3, .getfield 34, [0, 7, 2], 0), (28, 1, .iload_n 1, [], 0), (29, 1, .dup2, [], 0), (30, 1, .iaload, [], 0), (31, 1, .aload_n 0, [], 0), (32, 3, .getfield 31, [0, 6, 2], 0), (35, 1, .iload_n 2, [], 0), (36, 1, .iaload, [], 0), (37, 1, .aload_n 0, [], 0), (38, 3, .getfield 31, [0, 6, 2], 0), (41, 1, .iload_n 1, [], 0), (42, 1, .iaload, [], 0), (43, 3, .if_icmp .ne 9, [52], 0), (46, 1, .iconst 1, [], 0), (47, 1, .iload_n 2, [], 0), (48, 1, .ishl, [], 0), (49, 3, .goto 4, [53], 0)]
set_option maxRecDepth 20000 in
theorem b2_19 : z_blk 2 19 52 B2_19 = true := by decide +kernel
def B2_52 : List zOp := [(52, 1, .iconst 0, [], 0)]
set_option maxRecDepth 20000 in
theorem b2_52 : z_blk 2 52 53 B2_52 = true := by decide +kernel
def B2_53 : List zOp := [(53, 1, .ior, [], 0), (54, 1, .iastore, [], 0), (55, 3, .iinc 2 1, [], 0), (58, 3, .goto (-39), [19], 0)]
set_option maxRecDepth 20000 in
theorem b2_53 : z_blk 2 53 61 B2_53 = true := by decide +kernel
def B2_61 : List zOp := [(61, 3, .iinc 1 1, [], 0), (64, 3, .goto (-62), [2], 0)]
set_option maxRecDepth 20000 in
theorem b2_61 : z_blk 2 61 67 B2_61 = true := by decide +kernel
def B2_67 : List zOp := [(67, 1, .return_, [], 0)]
set_option maxRecDepth 20000 in
theorem b2_67 : z_blk 2 67 68 B2_67 = true := by decide +kernel
-- 3 yX0_listHeld
def B3_0 : List zOp := [(0, 1, .aload_n 0, [], 0), (1, 1, .iconst 0, [], 0), (2, 3, .putfield 40, [0, 9, 0], 0), (5, 1, .iconst 0, [], 0), (6, 1, .istore_n 1, [], 0)]
set_option maxRecDepth 20000 in
theorem b3_0 : z_blk 3 0 7 B3_0 = true := by decide +kernel
def B3_7 : List zOp := [(7, 1, .iload_n 1, [], 0), (8, 2, .bipush 12, [], 0), (10, 3, .if_icmp .ge 110, [120], 0), (13, 1, .iconst 0, [], 0), (14, 1, .istore_n 2, [], 0), (15, 1, .iconst 0, [], 0), (16, 1, .istore_n 3, [], 0)]
set_option maxRecDepth 20000 in
theorem b3_7 : z_blk 3 7 17 B3_7 = true := by decide +kernel
def B3_17 : List zOp := [(17, 1, .iload_n 3, [], 0), (18, 1, .aload_n 0, [], 0), (19, 3, .getfield 24, [0, 4, 0], 0), (22, 3, .if_icmp .ge 24, [46], 0), (25, 1, .iload_n 2, [], 0), (26, 1, .aload_n 0, [], 0), (27, 3, .getfield 31, [0, 6, 2], 0), (30, 1, .iload_n 3, [], 0), (31, 1, .iaload, [], 0), (32, 1, .iload_n 1, [], 0), (33, 1, .ishr, [], 0), (34, 1, .iconst 1, [], 0), (35, 1, .iand, [], 0), (36, 1, .iload_n 3, [], 0), (37, 1, .ishl, [], 0), (38, 1, .ior, [], 0), (39, 1, .istore_n 2, [], 0), (40, 3, .iinc 3 1, [], 0), (43, 3, .goto (-26), [17], 0)]
set_option maxRecDepth 20000 in
theorem b3_17 : z_blk 3 17 46 B3_17 = true := by decide +kernel
def B3_46 : List zOp := [(46, 1, .iload_n 2, [], 0), (47, 3, .invokestatic 84, [243, 1], 0), (50, 1, .istore_n 3, [], 0), (51, 1, .iload_n 3, [], 0), (52, 1, .iconst 1, [], 0), (53, 3, .if_icmp .le 61, [114], 0), (56, 1, .iload_n 3, [], 0), (57, 1, .aload_n 0, [], 0), (58, 3, .getfield 24, [0, 4, 0], 0), (61, 3, .if_icmp .ge 53, [114], 0), (64, 1, .aload_n 0, [], 0), (65, 3, .getfield 37, [0, 8, 2], 0), (68, 1, .aload_n 0, [], 0), (69, 3, .getfield 40, [0, 9, 0], 0), (72, 1, .iload_n 2, [], 0), (73, 1, .iastore, [], 0), (74, 1, .aload_n 0, [], 0), (75, 3, .getfield 43, [0, 10, 2], 0), (78, 1, .aload_n 0, [], 0), (79, 3, .getfield 40, [0, 9, 0], 0), (82, 1, .iconst 0, [], 0), (83, 1, .iastore, [], 0), (84, 1, .aload_n 0, [], 0), (85, 3, .getfield 46, [0, 11, 2], 0), (88, 1, .aload_n 0, [], 0), (89, 3, .getfield 40, [0, 9, 0], 0), (92, 1, .iconst 0, [], 0), (93, 1, .iastore, [], 0), (94, 1, .aload_n 0, [], 0), (95, 3, .getfield 49, [0, 12, 2], 0), (98, 1, .aload_n 0, [], 0), (99, 3, .getfield 40, [0, 9, 0], 0), (102, 1, .iload_n 3, [], 0), (103, 1, .iastore, [], 0), (104, 1, .aload_n 0, [], 0), (105, 1, .dup, [], 0), (106, 3, .getfield 40, [0, 9, 0], 0), (109, 1, .iconst 1, [], 0), (110, 1, .iadd, [], 0), (111, 3, .putfield 40, [0, 9, 0], 0)]
set_option maxRecDepth 20000 in
theorem b3_46 : z_blk 3 46 114 B3_46 = true := by decide +kernel
def B3_114 : List zOp := [(114, 3, .iinc 1 1, [], 0), (117, 3, .goto (-110), [7], 0)]
set_option maxRecDepth 20000 in
theorem b3_114 : z_blk 3 114 120 B3_114 = true := by decide +kernel
def B3_120 : List zOp := [(120, 1, .return_, [], 0)]
set_option maxRecDepth 20000 in
theorem b3_120 : z_blk 3 120 121 B3_120 = true := by decide +kernel
-- 4 yX0_search
def B4_0 : List zOp := [(0, 1, .iload_n 1, [], 0), (1, 1, .aload_n 0, [], 0), (2, 3, .getfield 24, [0, 4, 0], 0), (5, 3, .if_icmp .lt 9, [14], 0), (8, 1, .aload_n 0, [], 0), (9, 1, .iload_n 1, [], 0), (10, 3, .invokevirtual 90, [5, 1, 0], 0), (13, 1, .return_, [], 0)]
set_option maxRecDepth 20000 in
theorem b4_0 : z_blk 4 0 14 B4_0 = true := by decide +kernel
def B4_14 : List zOp := [(14, 1, .iconst 0, [], 0), (15, 1, .istore_n 3, [], 0)]
set_option maxRecDepth 20000 in
theorem b4_14 : z_blk 4 14 16 B4_14 = true := by decide +kernel
def B4_16 : List zOp := [(16, 1, .iload_n 3, [], 0), (17, 1, .aload_n 0, [], 0), (18, 3, .getfield 24, [0, 4, 0], 0), (21, 3, .if_icmp .ge 104, [125], 0), (24, 1, .iload_n 2, [], 0), (25, 1, .iload_n 3, [], 0), (26, 1, .ishr, [], 0), (27, 1, .iconst 1, [], 0), (28, 1, .iand, [], 0), (29, 3, .ifCond .ne 90, [119], 0), (32, 1, .aload_n 0, [], 0), (33, 3, .getfield 34, [0, 7, 2], 0), (36, 1, .iload_n 3, [], 0), (37, 1, .iaload, [], 0), (38, 1, .iload_n 2, [], 0), (39, 1, .iconst (-1), [], 0), (40, 1, .ixor, [], 0), (41, 1, .iand, [], 0), (42, 3, .ifCond .eq 6, [48], 0), (45, 3, .goto 74, [119], 0)]
set_option maxRecDepth 20000 in
theorem b4_16 : z_blk 4 16 48 B4_16 = true := by decide +kernel
def B4_48 : List zOp := [(48, 1, .aload_n 0, [], 0), (49, 3, .getfield 52, [0, 13, 2], 0), (52, 1, .iload_n 1, [], 0), (53, 1, .iload_n 3, [], 0), (54, 1, .iastore, [], 0), (55, 1, .iload_n 2, [], 0), (56, 1, .iconst 1, [], 0), (57, 1, .iload_n 3, [], 0), (58, 1, .ishl, [], 0), (59, 1, .ior, [], 0), (60, 2, .istore 4, [], 0), (62, 1, .iconst 1, [], 0), (63, 1, .aload_n 0, [], 0), (64, 3, .getfield 24, [0, 4, 0], 0), (67, 1, .ishl, [], 0), (68, 1, .iconst 1, [], 0), (69, 1, .isub, [], 0), (70, 2, .iload 4, [], 0), (72, 1, .iconst (-1), [], 0), (73, 1, .ixor, [], 0), (74, 1, .iand, [], 0), (75, 2, .istore 5, [], 0), (77, 2, .iload 5, [], 0), (79, 3, .ifCond .eq 18, [97], 0), (82, 2, .iload 5, [], 0), (84, 1, .aload_n 0, [], 0), (85, 3, .getfield 52, [0, 13, 2], 0), (88, 1, .iconst 0, [], 0), (89, 1, .iaload, [], 0), (90, 1, .ishr, [], 0), (91, 3, .ifCond .ne 6, [97], 0), (94, 3, .goto 25, [119], 0)]
set_option maxRecDepth 20000 in
theorem b4_48 : z_blk 4 48 97 B4_48 = true := by decide +kernel
def B4_97 : List zOp := [(97, 1, .aload_n 0, [], 0), (98, 1, .iload_n 1, [], 0), (99, 1, .iload_n 3, [], 0), (100, 3, .invokevirtual 94, [6, 2, 0], 0), (103, 1, .aload_n 0, [], 0), (104, 3, .getfield 58, [0, 15, 0], 0), (107, 3, .if_icmp .ge 12, [119], 0), (110, 1, .aload_n 0, [], 0), (111, 1, .iload_n 1, [], 0), (112, 1, .iconst 1, [], 0), (113, 1, .iadd, [], 0), (114, 2, .iload 4, [], 0), (116, 3, .invokevirtual 80, [4, 2, 0], 0)]
set_option maxRecDepth 20000 in
theorem b4_97 : z_blk 4 97 119 B4_97 = true := by decide +kernel
def B4_119 : List zOp := [(119, 3, .iinc 3 1, [], 0), (122, 3, .goto (-106), [16], 0)]
set_option maxRecDepth 20000 in
theorem b4_119 : z_blk 4 119 125 B4_119 = true := by decide +kernel
def B4_125 : List zOp := [(125, 1, .return_, [], 0)]
set_option maxRecDepth 20000 in
theorem b4_125 : z_blk 4 125 126 B4_125 = true := by decide +kernel
-- 6 yX0_lay
def B6_0 : List zOp := [(0, 1, .iload_n 1, [], 0), (1, 2, .bipush 12, [], 0), (3, 1, .imul, [], 0), (4, 1, .istore_n 3, [], 0), (5, 1, .iload_n 3, [], 0), (6, 2, .bipush 12, [], 0), (8, 1, .iadd, [], 0), (9, 2, .istore 4, [], 0), (11, 1, .iconst 0, [], 0), (12, 2, .istore 5, [], 0)]
set_option maxRecDepth 20000 in
theorem b6_0 : z_blk 6 0 14 B6_0 = true := by decide +kernel
def B6_14 : List zOp := [(14, 2, .iload 5, [], 0), (16, 1, .aload_n 0, [], 0), (17, 3, .getfield 40, [0, 9, 0], 0), (20, 3, .if_icmp .ge 130, [150], 0), (23, 1, .aload_n 0, [], 0), (24, 3, .getfield 37, [0, 8, 2], 0), (27, 2, .iload 5, [], 0), (29, 1, .iaload, [], 0), (30, 1, .iload_n 2, [], 0), (31, 1, .ishr, [], 0), (32, 1, .iconst 1, [], 0), (33, 1, .iand, [], 0), (34, 3, .ifCond .eq 7, [41], 0), (37, 1, .iconst 1, [], 0), (38, 3, .goto 4, [42], 0)]
set_option maxRecDepth 20000 in
theorem b6_14 : z_blk 6 14 41 B6_14 = true := by decide +kernel
def B6_41 : List zOp := [(41, 1, .iconst 0, [], 0)]
set_option maxRecDepth 20000 in
theorem b6_41 : z_blk 6 41 42 B6_41 = true := by decide +kernel
def B6_42 : List zOp := [(42, 2, .istore 6, [], 0), (44, 1, .aload_n 0, [], 0), (45, 3, .getfield 43, [0, 10, 2], 0), (48, 2, .iload 4, [], 0), (50, 2, .iload 5, [], 0), (52, 1, .iadd, [], 0), (53, 2, .iload 6, [], 0), (55, 3, .ifCond .eq 17, [72], 0), (58, 1, .aload_n 0, [], 0), (59, 3, .getfield 43, [0, 10, 2], 0), (62, 1, .iload_n 3, [], 0), (63, 2, .iload 5, [], 0), (65, 1, .iadd, [], 0), (66, 1, .iaload, [], 0), (67, 1, .iconst 1, [], 0), (68, 1, .iadd, [], 0), (69, 3, .goto 4, [73], 0)]
set_option maxRecDepth 20000 in
theorem b6_42 : z_blk 6 42 72 B6_42 = true := by decide +kernel
def B6_72 : List zOp := [(72, 1, .iconst 0, [], 0)]
set_option maxRecDepth 20000 in
theorem b6_72 : z_blk 6 72 73 B6_72 = true := by decide +kernel
def B6_73 : List zOp := [(73, 1, .iastore, [], 0), (74, 1, .aload_n 0, [], 0), (75, 3, .getfield 46, [0, 11, 2], 0), (78, 2, .iload 4, [], 0), (80, 2, .iload 5, [], 0), (82, 1, .iadd, [], 0), (83, 1, .aload_n 0, [], 0), (84, 3, .getfield 46, [0, 11, 2], 0), (87, 1, .iload_n 3, [], 0), (88, 2, .iload 5, [], 0), (90, 1, .iadd, [], 0), (91, 1, .iaload, [], 0), (92, 1, .aload_n 0, [], 0), (93, 3, .getfield 43, [0, 10, 2], 0), (96, 2, .iload 4, [], 0), (98, 2, .iload 5, [], 0), (100, 1, .iadd, [], 0), (101, 1, .iaload, [], 0), (102, 3, .invokestatic 106, [245], 0), (105, 1, .iastore, [], 0), (106, 1, .aload_n 0, [], 0), (107, 3, .getfield 49, [0, 12, 2], 0), (110, 2, .iload 4, [], 0), (112, 2, .iload 5, [], 0), (114, 1, .iadd, [], 0), (115, 2, .iload 6, [], 0), (117, 3, .ifCond .eq 17, [134], 0), (120, 1, .aload_n 0, [], 0), (121, 3, .getfield 49, [0, 12, 2], 0), (124, 1, .iload_n 3, [], 0), (125, 2, .iload 5, [], 0), (127, 1, .iadd, [], 0), (128, 1, .iaload, [], 0), (129, 1, .iconst 1, [], 0), (130, 1, .isub, [], 0), (131, 3, .goto 12, [143], 0)]
set_option maxRecDepth 20000 in
theorem b6_73 : z_blk 6 73 134 B6_73 = true := by decide +kernel
def B6_134 : List zOp := [(134, 1, .aload_n 0, [], 0), (135, 3, .getfield 49, [0, 12, 2], 0), (138, 1, .iload_n 3, [], 0), (139, 2, .iload 5, [], 0), (141, 1, .iadd, [], 0), (142, 1, .iaload, [], 0)]
set_option maxRecDepth 20000 in
theorem b6_134 : z_blk 6 134 143 B6_134 = true := by decide +kernel
def B6_143 : List zOp := [(143, 1, .iastore, [], 0), (144, 3, .iinc 5 1, [], 0), (147, 3, .goto (-133), [14], 0)]
set_option maxRecDepth 20000 in
theorem b6_143 : z_blk 6 143 150 B6_143 = true := by decide +kernel
def B6_150 : List zOp := [(150, 1, .aload_n 0, [], 0), (151, 1, .iload_n 1, [], 0), (152, 1, .iconst 1, [], 0), (153, 1, .iadd, [], 0), (154, 3, .invokevirtual 97, [7, 1, 0], 0), (157, 1, .ireturn, [0], 0)]
set_option maxRecDepth 20000 in
theorem b6_150 : z_blk 6 150 158 B6_150 = true := by decide +kernel
-- 7 yX0_bound
def B7_0 : List zOp := [(0, 1, .iload_n 1, [], 0), (1, 2, .bipush 12, [], 0), (3, 1, .imul, [], 0), (4, 1, .istore_n 2, [], 0), (5, 1, .iconst 0, [], 0), (6, 1, .istore_n 3, [], 0), (7, 1, .iconst 0, [], 0), (8, 2, .istore 4, [], 0)]
set_option maxRecDepth 20000 in
theorem b7_0 : z_blk 7 0 10 B7_0 = true := by decide +kernel
def B7_10 : List zOp := [(10, 2, .iload 4, [], 0), (12, 1, .aload_n 0, [], 0), (13, 3, .getfield 40, [0, 9, 0], 0), (16, 3, .if_icmp .ge 55, [71], 0), (19, 1, .aload_n 0, [], 0), (20, 3, .getfield 46, [0, 11, 2], 0), (23, 1, .iload_n 2, [], 0), (24, 2, .iload 4, [], 0), (26, 1, .iadd, [], 0), (27, 1, .iaload, [], 0), (28, 1, .aload_n 0, [], 0), (29, 3, .getfield 43, [0, 10, 2], 0), (32, 1, .iload_n 2, [], 0), (33, 2, .iload 4, [], 0), (35, 1, .iadd, [], 0), (36, 1, .iaload, [], 0), (37, 1, .aload_n 0, [], 0), (38, 3, .getfield 49, [0, 12, 2], 0), (41, 1, .iload_n 2, [], 0), (42, 2, .iload 4, [], 0), (44, 1, .iadd, [], 0), (45, 1, .iaload, [], 0), (46, 1, .iadd, [], 0), (47, 3, .invokestatic 106, [245], 0), (50, 2, .istore 5, [], 0), (52, 1, .iload_n 3, [], 0), (53, 1, .aload_n 0, [], 0), (54, 3, .getfield 49, [0, 12, 2], 0), (57, 2, .iload 4, [], 0), (59, 1, .iaload, [], 0), (60, 2, .iload 5, [], 0), (62, 1, .isub, [], 0), (63, 1, .iadd, [], 0), (64, 1, .istore_n 3, [], 0), (65, 3, .iinc 4 1, [], 0), (68, 3, .goto (-58), [10], 0)]
set_option maxRecDepth 20000 in
theorem b7_10 : z_blk 7 10 71 B7_10 = true := by decide +kernel
def B7_71 : List zOp := [(71, 1, .iload_n 3, [], 0), (72, 1, .ireturn, [0], 0)]
set_option maxRecDepth 20000 in
theorem b7_71 : z_blk 7 71 73 B7_71 = true := by decide +kernel
-- 8 yX0_bestAt
def B8_0 : List zOp := [(0, 1, .iload_n 2, [], 0), (1, 3, .ifCond .eq 29, [30], 0), (4, 1, .iload_n 1, [], 0), (5, 3, .ifCond .lt 25, [30], 0), (8, 1, .iload_n 1, [], 0), (9, 1, .aload_n 0, [], 0), (10, 3, .getfield 24, [0, 4, 0], 0), (13, 3, .if_icmp .ge 17, [30], 0), (16, 1, .aload_n 0, [], 0), (17, 3, .getfield 27, [0, 5, 2], 0), (20, 1, .aload_n 0, [], 0), (21, 3, .getfield 55, [0, 14, 2], 0), (24, 1, .iload_n 1, [], 0), (25, 1, .iaload, [], 0), (26, 1, .iaload, [], 0), (27, 3, .goto 4, [31], 0)]
set_option maxRecDepth 20000 in
theorem b8_0 : z_blk 8 0 30 B8_0 = true := by decide +kernel
def B8_30 : List zOp := [(30, 1, .iconst (-1), [], 0)]
set_option maxRecDepth 20000 in
theorem b8_30 : z_blk 8 30 31 B8_30 = true := by decide +kernel
def B8_31 : List zOp := [(31, 1, .ireturn, [0], 0)]
set_option maxRecDepth 20000 in
theorem b8_31 : z_blk 8 31 32 B8_31 = true := by decide +kernel
-- 9 yX1_init
def B9_0 : List zOp := [(0, 1, .aload_n 0, [], 0), (1, 3, .invokespecial 3, [999], 0), (4, 1, .aload_n 0, [], 0), (5, 1, .iconst 0, [], 0), (6, 3, .putfield 9, [1, 0, 3], 0), (9, 1, .aload_n 0, [], 0), (10, 1, .iconst 0, [], 0), (11, 3, .putfield 15, [1, 1, 0], 0), (14, 1, .aload_n 0, [], 0), (15, 1, .iconst 1, [], 0), (16, 3, .putfield 19, [1, 2, 0], 0), (19, 1, .aload_n 0, [], 0), (20, 2, .bipush 40, [], 0), (22, 2, .newarray .int, [13], 0), (24, 3, .putfield 22, [1, 3, 2], 0), (27, 1, .aload_n 0, [], 0), (28, 1, .iconst 0, [], 0), (29, 3, .putfield 26, [1, 4, 0], 0), (32, 1, .aload_n 0, [], 0), (33, 2, .bipush 60, [], 0), (35, 2, .newarray .int, [13], 0), (37, 3, .putfield 29, [1, 5, 2], 0), (40, 1, .aload_n 0, [], 0), (41, 2, .bipush 60, [], 0), (43, 2, .newarray .int, [13], 0), (45, 3, .putfield 32, [1, 6, 2], 0), (48, 1, .aload_n 0, [], 0), (49, 1, .iconst 0, [], 0), (50, 3, .putfield 35, [1, 7, 0], 0), (53, 1, .aload_n 0, [], 0), (54, 1, .iconst 0, [], 0), (55, 3, .putfield 38, [1, 8, 0], 0), (58, 1, .aload_n 0, [], 0), (59, 1, .iconst 0, [], 0), (60, 3, .putfield 41, [1, 9, 0], 0), (63, 1, .return_, [], 0)]
set_option maxRecDepth 20000 in
theorem b9_0 : z_blk 9 0 64 B9_0 = true := by decide +kernel
-- 10 yX1_begin
def B10_0 : List zOp := [(0, 1, .aload_n 0, [], 0), (1, 1, .iconst 1, [], 0), (2, 3, .putfield 9, [1, 0, 3], 0), (5, 1, .aload_n 0, [], 0), (6, 1, .aload_n 1, [], 0), (7, 3, .invokevirtual 44, [90, 0, 8], 0), (10, 3, .putfield 15, [1, 1, 0], 0), (13, 1, .aload_n 0, [], 0), (14, 1, .iconst 1, [], 0), (15, 1, .aload_n 0, [], 0), (16, 3, .getfield 15, [1, 1, 0], 0), (19, 1, .ishl, [], 0), (20, 3, .putfield 19, [1, 2, 0], 0), (23, 1, .aload_n 0, [], 0), (24, 1, .iconst 0, [], 0), (25, 3, .putfield 26, [1, 4, 0], 0), (28, 1, .iconst 0, [], 0), (29, 1, .istore_n 3, [], 0)]
set_option maxRecDepth 20000 in
theorem b10_0 : z_blk 10 0 30 B10_0 = true := by decide +kernel
def B10_30 : List zOp := [(30, 1, .iload_n 3, [], 0), (31, 1, .aload_n 1, [], 0), (32, 3, .getfield 50, [8, 0, 0], 0), (35, 3, .if_icmp .ge 50, [85], 0), (38, 1, .aload_n 0, [], 0), (39, 3, .getfield 26, [1, 4, 0], 0), (42, 2, .bipush 40, [], 0), (44, 3, .if_icmp .ge 41, [85], 0), (47, 1, .aload_n 0, [], 0), (48, 3, .getfield 22, [1, 3, 2], 0), (51, 1, .aload_n 0, [], 0), (52, 3, .getfield 26, [1, 4, 0], 0), (55, 1, .aload_n 1, [], 0), (56, 1, .iload_n 3, [], 0), (57, 1, .iload_n 2, [], 0), (58, 3, .invokevirtual 53, [98, 2, 8], 0), (61, 1, .aload_n 0, [], 0), (62, 3, .getfield 15, [1, 1, 0], 0), (65, 3, .invokestatic 57, [157, 2], 0), (68, 1, .iastore, [], 0), (69, 1, .aload_n 0, [], 0), (70, 1, .dup, [], 0), (71, 3, .getfield 26, [1, 4, 0], 0), (74, 1, .iconst 1, [], 0), (75, 1, .iadd, [], 0), (76, 3, .putfield 26, [1, 4, 0], 0), (79, 3, .iinc 3 1, [], 0), (82, 3, .goto (-52), [30], 0)]
set_option maxRecDepth 20000 in
theorem b10_30 : z_blk 10 30 85 B10_30 = true := by decide +kernel
def B10_85 : List zOp := [(85, 1, .aload_n 0, [], 0), (86, 1, .iconst 0, [], 0), (87, 3, .putfield 35, [1, 7, 0], 0), (90, 1, .aload_n 0, [], 0), (91, 1, .iconst 0, [], 0), (92, 3, .putfield 38, [1, 8, 0], 0), (95, 1, .return_, [], 0)]
set_option maxRecDepth 20000 in
theorem b10_85 : z_blk 10 85 96 B10_85 = true := by decide +kernel
-- 11 yX1_seek
def B11_0 : List zOp := [(0, 1, .aload_n 0, [], 0), (1, 3, .getfield 9, [1, 0, 3], 0), (4, 3, .ifCond .ne 5, [9], 0), (7, 1, .iconst 0, [], 0), (8, 1, .ireturn, [3], 0)]
set_option maxRecDepth 20000 in
theorem b11_0 : z_blk 11 0 9 B11_0 = true := by decide +kernel
def B11_9 : List zOp := [(9, 1, .aload_n 0, [], 0), (10, 3, .getfield 38, [1, 8, 0], 0), (13, 1, .aload_n 0, [], 0), (14, 3, .getfield 19, [1, 2, 0], 0), (17, 3, .if_icmp .ge 52, [69], 0), (20, 1, .aload_n 0, [], 0), (21, 1, .aload_n 0, [], 0), (22, 1, .aload_n 0, [], 0), (23, 3, .getfield 38, [1, 8, 0], 0), (26, 3, .invokevirtual 60, [17, 1, 1], 0), (29, 3, .putfield 41, [1, 9, 0], 0), (32, 1, .aload_n 0, [], 0), (33, 3, .getfield 41, [1, 9, 0], 0), (36, 1, .aload_n 0, [], 0), (37, 3, .getfield 38, [1, 8, 0], 0), (40, 3, .if_icmp .eq 16, [56], 0), (43, 1, .aload_n 0, [], 0), (44, 1, .aload_n 0, [], 0), (45, 3, .getfield 38, [1, 8, 0], 0), (48, 3, .invokevirtual 64, [18, 1, 1], 0), (51, 3, .ifCond .eq 5, [56], 0), (54, 1, .iconst 1, [], 0), (55, 1, .ireturn, [3], 0)]
set_option maxRecDepth 20000 in
theorem b11_9 : z_blk 11 9 56 B11_9 = true := by decide +kernel
def B11_56 : List zOp := [(56, 1, .aload_n 0, [], 0), (57, 1, .dup, [], 0), (58, 3, .getfield 38, [1, 8, 0], 0), (61, 1, .iconst 1, [], 0), (62, 1, .iadd, [], 0), (63, 3, .putfield 38, [1, 8, 0], 0), (66, 3, .goto (-57), [9], 0)]
set_option maxRecDepth 20000 in
theorem b11_56 : z_blk 11 56 69 B11_56 = true := by decide +kernel
def B11_69 : List zOp := [(69, 1, .iconst 0, [], 0), (70, 1, .ireturn, [3], 0)]
set_option maxRecDepth 20000 in
theorem b11_69 : z_blk 11 69 71 B11_69 = true := by decide +kernel
-- 12 yX1_askedPremise
def B12_0 : List zOp := [(0, 1, .aload_n 0, [], 0), (1, 3, .getfield 38, [1, 8, 0], 0), (4, 1, .aload_n 0, [], 0), (5, 3, .getfield 15, [1, 1, 0], 0), (8, 3, .invokestatic 57, [157, 2], 0), (11, 1, .ireturn, [0], 0)]
set_option maxRecDepth 20000 in
theorem b12_0 : z_blk 12 0 12 B12_0 = true := by decide +kernel
-- 13 yX1_askedConclusion
def B13_0 : List zOp := [(0, 1, .aload_n 0, [], 0), (1, 3, .getfield 41, [1, 9, 0], 0), (4, 1, .aload_n 0, [], 0), (5, 3, .getfield 15, [1, 1, 0], 0), (8, 3, .invokestatic 57, [157, 2], 0), (11, 1, .ireturn, [0], 0)]
set_option maxRecDepth 20000 in
theorem b13_0 : z_blk 13 0 12 B13_0 = true := by decide +kernel
-- 14 yX1_accept
def B14_0 : List zOp := [(0, 1, .aload_n 0, [], 0), (1, 3, .getfield 35, [1, 7, 0], 0), (4, 2, .bipush 60, [], 0), (6, 3, .if_icmp .ge 10, [16], 0), (9, 1, .aload_n 0, [], 0), (10, 3, .invokevirtual 68, [11, 0, 1], 0), (13, 3, .ifCond .ne 5, [18], 0)]
set_option maxRecDepth 20000 in
theorem b14_0 : z_blk 14 0 16 B14_0 = true := by decide +kernel
def B14_16 : List zOp := [(16, 1, .iconst 0, [], 0), (17, 1, .ireturn, [3], 0)]
set_option maxRecDepth 20000 in
theorem b14_16 : z_blk 14 16 18 B14_16 = true := by decide +kernel
def B14_18 : List zOp := [(18, 1, .aload_n 0, [], 0), (19, 3, .getfield 29, [1, 5, 2], 0), (22, 1, .aload_n 0, [], 0), (23, 3, .getfield 35, [1, 7, 0], 0), (26, 1, .aload_n 0, [], 0), (27, 3, .getfield 38, [1, 8, 0], 0), (30, 1, .iastore, [], 0), (31, 1, .aload_n 0, [], 0), (32, 3, .getfield 32, [1, 6, 2], 0), (35, 1, .aload_n 0, [], 0), (36, 3, .getfield 35, [1, 7, 0], 0), (39, 1, .aload_n 0, [], 0), (40, 3, .getfield 41, [1, 9, 0], 0), (43, 1, .iastore, [], 0), (44, 1, .aload_n 0, [], 0), (45, 1, .dup, [], 0), (46, 3, .getfield 35, [1, 7, 0], 0), (49, 1, .iconst 1, [], 0), (50, 1, .iadd, [], 0), (51, 3, .putfield 35, [1, 7, 0], 0), (54, 1, .iconst 1, [], 0), (55, 1, .ireturn, [3], 0)]
set_option maxRecDepth 20000 in
theorem b14_18 : z_blk 14 18 56 B14_18 = true := by decide +kernel
-- 15 yX1_refute
def B15_0 : List zOp := [(0, 1, .aload_n 0, [], 0), (1, 3, .getfield 26, [1, 4, 0], 0), (4, 2, .bipush 40, [], 0), (6, 3, .if_icmp .ge 22, [28], 0), (9, 1, .iload_n 1, [], 0), (10, 3, .ifCond .lt 18, [28], 0), (13, 1, .iload_n 1, [], 0), (14, 1, .aload_n 0, [], 0), (15, 3, .getfield 19, [1, 2, 0], 0), (18, 3, .if_icmp .ge 10, [28], 0), (21, 1, .aload_n 0, [], 0), (22, 3, .invokevirtual 68, [11, 0, 1], 0), (25, 3, .ifCond .ne 5, [30], 0)]
set_option maxRecDepth 20000 in
theorem b15_0 : z_blk 15 0 28 B15_0 = true := by decide +kernel
def B15_28 : List zOp := [(28, 1, .iconst 0, [], 0), (29, 1, .ireturn, [3], 0)]
set_option maxRecDepth 20000 in
theorem b15_28 : z_blk 15 28 30 B15_28 = true := by decide +kernel
def B15_30 : List zOp := [(30, 1, .iload_n 1, [], 0), (31, 1, .aload_n 0, [], 0), (32, 3, .getfield 15, [1, 1, 0], 0), (35, 3, .invokestatic 57, [157, 2], 0), (38, 1, .istore_n 2, [], 0), (39, 1, .aload_n 0, [], 0), (40, 3, .getfield 38, [1, 8, 0], 0), (43, 1, .iload_n 2, [], 0), (44, 1, .iconst (-1), [], 0), (45, 1, .ixor, [], 0), (46, 1, .iand, [], 0), (47, 3, .ifCond .ne 22, [69], 0), (50, 1, .aload_n 0, [], 0), (51, 3, .getfield 41, [1, 9, 0], 0), (54, 1, .iload_n 2, [], 0), (55, 1, .iconst (-1), [], 0), (56, 1, .ixor, [], 0), (57, 1, .iand, [], 0), (58, 3, .ifCond .eq 11, [69], 0), (61, 1, .aload_n 0, [], 0), (62, 1, .iload_n 2, [], 0), (63, 3, .invokevirtual 64, [18, 1, 1], 0), (66, 3, .ifCond .ne 5, [71], 0)]
set_option maxRecDepth 20000 in
theorem b15_30 : z_blk 15 30 69 B15_30 = true := by decide +kernel
def B15_69 : List zOp := [(69, 1, .iconst 0, [], 0), (70, 1, .ireturn, [3], 0)]
set_option maxRecDepth 20000 in
theorem b15_69 : z_blk 15 69 71 B15_69 = true := by decide +kernel
def B15_71 : List zOp := [(71, 1, .aload_n 0, [], 0), (72, 3, .getfield 22, [1, 3, 2], 0), (75, 1, .aload_n 0, [], 0), (76, 3, .getfield 26, [1, 4, 0], 0), (79, 1, .iload_n 2, [], 0), (80, 1, .iastore, [], 0), (81, 1, .aload_n 0, [], 0), (82, 1, .dup, [], 0), (83, 3, .getfield 26, [1, 4, 0], 0), (86, 1, .iconst 1, [], 0), (87, 1, .iadd, [], 0), (88, 3, .putfield 26, [1, 4, 0], 0), (91, 1, .iconst 1, [], 0), (92, 1, .ireturn, [3], 0)]
set_option maxRecDepth 20000 in
theorem b15_71 : z_blk 15 71 93 B15_71 = true := by decide +kernel
-- 16 yX1_acceptedSet
def B16_0 : List zOp := [(0, 1, .aload_n 0, [], 0), (1, 3, .getfield 9, [1, 0, 3], 0), (4, 3, .ifCond .eq 24, [28], 0), (7, 1, .iload_n 1, [], 0), (8, 3, .ifCond .lt 20, [28], 0), (11, 1, .iload_n 1, [], 0), (12, 1, .aload_n 0, [], 0), (13, 3, .getfield 35, [1, 7, 0], 0), (16, 3, .if_icmp .ge 12, [28], 0), (19, 1, .iload_n 2, [], 0), (20, 3, .ifCond .lt 8, [28], 0), (23, 1, .iload_n 2, [], 0), (24, 1, .iconst 1, [], 0), (25, 3, .if_icmp .le 5, [30], 0)]
set_option maxRecDepth 20000 in
theorem b16_0 : z_blk 16 0 28 B16_0 = true := by decide +kernel
def B16_28 : List zOp := [(28, 1, .iconst (-1), [], 0), (29, 1, .ireturn, [0], 0)]
set_option maxRecDepth 20000 in
theorem b16_28 : z_blk 16 28 30 B16_28 = true := by decide +kernel
def B16_30 : List zOp := [(30, 1, .iload_n 2, [], 0), (31, 3, .ifCond .ne 12, [43], 0), (34, 1, .aload_n 0, [], 0), (35, 3, .getfield 29, [1, 5, 2], 0), (38, 1, .iload_n 1, [], 0), (39, 1, .iaload, [], 0), (40, 3, .goto 9, [49], 0)]
set_option maxRecDepth 20000 in
theorem b16_30 : z_blk 16 30 43 B16_30 = true := by decide +kernel
def B16_43 : List zOp := [(43, 1, .aload_n 0, [], 0), (44, 3, .getfield 32, [1, 6, 2], 0), (47, 1, .iload_n 1, [], 0), (48, 1, .iaload, [], 0)]
set_option maxRecDepth 20000 in
theorem b16_43 : z_blk 16 43 49 B16_43 = true := by decide +kernel
def B16_49 : List zOp := [(49, 1, .aload_n 0, [], 0), (50, 3, .getfield 15, [1, 1, 0], 0), (53, 3, .invokestatic 57, [157, 2], 0), (56, 1, .ireturn, [0], 0)]
set_option maxRecDepth 20000 in
theorem b16_49 : z_blk 16 49 57 B16_49 = true := by decide +kernel
-- 17 yX1_closureOf
def B17_0 : List zOp := [(0, 1, .aload_n 0, [], 0), (1, 3, .getfield 19, [1, 2, 0], 0), (4, 1, .iconst 1, [], 0), (5, 1, .isub, [], 0), (6, 1, .istore_n 2, [], 0), (7, 1, .iconst 0, [], 0), (8, 1, .istore_n 3, [], 0)]
set_option maxRecDepth 20000 in
theorem b17_0 : z_blk 17 0 9 B17_0 = true := by decide +kernel
def B17_9 : List zOp := [(9, 1, .iload_n 3, [], 0), (10, 1, .aload_n 0, [], 0), (11, 3, .getfield 26, [1, 4, 0], 0), (14, 3, .if_icmp .ge 36, [50], 0), (17, 1, .iload_n 2, [], 0), (18, 1, .iload_n 1, [], 0), (19, 3, .if_icmp .eq 31, [50], 0), (22, 1, .iload_n 1, [], 0), (23, 1, .aload_n 0, [], 0), (24, 3, .getfield 22, [1, 3, 2], 0), (27, 1, .iload_n 3, [], 0), (28, 1, .iaload, [], 0), (29, 1, .iconst (-1), [], 0), (30, 1, .ixor, [], 0), (31, 1, .iand, [], 0), (32, 3, .ifCond .ne 12, [44], 0), (35, 1, .iload_n 2, [], 0), (36, 1, .aload_n 0, [], 0), (37, 3, .getfield 22, [1, 3, 2], 0), (40, 1, .iload_n 3, [], 0), (41, 1, .iaload, [], 0), (42, 1, .iand, [], 0), (43, 1, .istore_n 2, [], 0)]
set_option maxRecDepth 20000 in
theorem b17_9 : z_blk 17 9 44 B17_9 = true := by decide +kernel
def B17_44 : List zOp := [(44, 3, .iinc 3 1, [], 0), (47, 3, .goto (-38), [9], 0)]
set_option maxRecDepth 20000 in
theorem b17_44 : z_blk 17 44 50 B17_44 = true := by decide +kernel
def B17_50 : List zOp := [(50, 1, .iload_n 2, [], 0), (51, 1, .ireturn, [0], 0)]
set_option maxRecDepth 20000 in
theorem b17_50 : z_blk 17 50 52 B17_50 = true := by decide +kernel
-- 18 yX1_keeps
def B18_0 : List zOp := [(0, 1, .iconst 0, [], 0), (1, 1, .istore_n 2, [], 0)]
set_option maxRecDepth 20000 in
theorem b18_0 : z_blk 18 0 2 B18_0 = true := by decide +kernel
def B18_2 : List zOp := [(2, 1, .iload_n 2, [], 0), (3, 1, .aload_n 0, [], 0), (4, 3, .getfield 35, [1, 7, 0], 0), (7, 3, .if_icmp .ge 37, [44], 0), (10, 1, .aload_n 0, [], 0), (11, 3, .getfield 29, [1, 5, 2], 0), (14, 1, .iload_n 2, [], 0), (15, 1, .iaload, [], 0), (16, 1, .iload_n 1, [], 0), (17, 1, .iconst (-1), [], 0), (18, 1, .ixor, [], 0), (19, 1, .iand, [], 0), (20, 3, .ifCond .ne 18, [38], 0), (23, 1, .aload_n 0, [], 0), (24, 3, .getfield 32, [1, 6, 2], 0), (27, 1, .iload_n 2, [], 0), (28, 1, .iaload, [], 0), (29, 1, .iload_n 1, [], 0), (30, 1, .iconst (-1), [], 0), (31, 1, .ixor, [], 0), (32, 1, .iand, [], 0), (33, 3, .ifCond .eq 5, [38], 0), (36, 1, .iconst 0, [], 0), (37, 1, .ireturn, [3], 0)]
set_option maxRecDepth 20000 in
theorem b18_2 : z_blk 18 2 38 B18_2 = true := by decide +kernel
def B18_38 : List zOp := [(38, 3, .iinc 2 1, [], 0), (41, 3, .goto (-39), [2], 0)]
set_option maxRecDepth 20000 in
theorem b18_38 : z_blk 18 38 44 B18_38 = true := by decide +kernel
def B18_44 : List zOp := [(44, 1, .iconst 1, [], 0), (45, 1, .ireturn, [3], 0)]
set_option maxRecDepth 20000 in
theorem b18_44 : z_blk 18 44 46 B18_44 = true := by decide +kernel
-- 19 yX2_init
def B19_0 : List zOp := [(0, 1, .aload_n 0, [], 0), (1, 3, .invokespecial 3, [999], 0), (4, 1, .aload_n 0, [], 0), (5, 2, .bipush 12, [], 0), (7, 2, .newarray .int, [13], 0), (9, 3, .putfield 9, [2, 0, 2], 0), (12, 1, .aload_n 0, [], 0), (13, 2, .bipush 12, [], 0), (15, 2, .newarray .int, [13], 0), (17, 3, .putfield 15, [2, 1, 2], 0), (20, 1, .aload_n 0, [], 0), (21, 2, .bipush 12, [], 0), (23, 2, .newarray .int, [13], 0), (25, 3, .putfield 18, [2, 2, 2], 0), (28, 1, .aload_n 0, [], 0), (29, 1, .iconst 0, [], 0), (30, 3, .putfield 21, [2, 3, 0], 0), (33, 1, .aload_n 0, [], 0), (34, 1, .iconst 0, [], 0), (35, 2, .newarray .int, [13], 0), (37, 3, .putfield 25, [2, 4, 2], 0), (40, 1, .aload_n 0, [], 0), (41, 1, .iconst 0, [], 0), (42, 3, .putfield 28, [2, 5, 0], 0), (45, 1, .aload_n 0, [], 0), (46, 1, .iconst (-1), [], 0), (47, 3, .putfield 31, [2, 6, 0], 0), (50, 1, .aload_n 0, [], 0), (51, 2, .bipush 12, [], 0), (53, 2, .newarray .int, [13], 0), (55, 3, .putfield 34, [2, 7, 2], 0), (58, 1, .aload_n 0, [], 0), (59, 1, .iconst 0, [], 0), (60, 3, .putfield 37, [2, 8, 0], 0), (63, 1, .aload_n 0, [], 0), (64, 1, .iconst 0, [], 0), (65, 3, .putfield 40, [2, 9, 0], 0), (68, 1, .aload_n 0, [], 0), (69, 1, .iconst 0, [], 0), (70, 3, .putfield 43, [2, 10, 0], 0), (73, 1, .aload_n 0, [], 0), (74, 3, .getfield 9, [2, 0, 2], 0), (77, 1, .iconst 1, [], 0), (78, 3, .invokestatic 46, [256, 2], 0), (81, 1, .return_, [], 0)]
set_option maxRecDepth 20000 in
theorem b19_0 : z_blk 19 0 82 B19_0 = true := by decide +kernel
-- 20 yX2_price
def B20_0 : List zOp := [(0, 1, .aload_n 0, [], 0), (1, 3, .getfield 9, [2, 0, 2], 0), (4, 1, .iload_n 1, [], 0), (5, 1, .iload_n 2, [], 0), (6, 1, .iastore, [], 0), (7, 1, .aload_n 0, [], 0), (8, 1, .iconst (-1), [], 0), (9, 3, .putfield 31, [2, 6, 0], 0), (12, 1, .return_, [], 0)]
set_option maxRecDepth 20000 in
theorem b20_0 : z_blk 20 0 13 B20_0 = true := by decide +kernel
-- 21 yX2_prepare
def B21_0 : List zOp := [(0, 1, .aload_n 0, [], 0), (1, 3, .getfield 31, [2, 6, 0], 0), (4, 1, .aload_n 1, [], 0), (5, 3, .getfield 52, [8, 10, 0], 0), (8, 3, .if_icmp .ne 4, [12], 0), (11, 1, .return_, [], 0)]
set_option maxRecDepth 20000 in
theorem b21_0 : z_blk 21 0 12 B21_0 = true := by decide +kernel
def B21_12 : List zOp := [(12, 1, .aload_n 0, [], 0), (13, 1, .aload_n 1, [], 0), (14, 3, .getfield 52, [8, 10, 0], 0), (17, 3, .putfield 31, [2, 6, 0], 0), (20, 1, .aload_n 0, [], 0), (21, 1, .aload_n 1, [], 0), (22, 3, .invokevirtual 57, [90, 0, 8], 0), (25, 3, .putfield 21, [2, 3, 0], 0), (28, 1, .iconst 0, [], 0), (29, 1, .istore_n 2, [], 0)]
set_option maxRecDepth 20000 in
theorem b21_12 : z_blk 21 12 30 B21_12 = true := by decide +kernel
def B21_30 : List zOp := [(30, 1, .iload_n 2, [], 0), (31, 1, .aload_n 0, [], 0), (32, 3, .getfield 21, [2, 3, 0], 0), (35, 3, .if_icmp .ge 80, [115], 0), (38, 1, .aload_n 0, [], 0), (39, 3, .getfield 15, [2, 1, 2], 0), (42, 1, .iload_n 2, [], 0), (43, 1, .iconst 0, [], 0), (44, 1, .iastore, [], 0), (45, 1, .aload_n 0, [], 0), (46, 3, .getfield 18, [2, 2, 2], 0), (49, 1, .iload_n 2, [], 0), (50, 1, .iconst 0, [], 0), (51, 1, .iastore, [], 0), (52, 1, .iconst 0, [], 0), (53, 1, .istore_n 3, [], 0)]
set_option maxRecDepth 20000 in
theorem b21_30 : z_blk 21 30 54 B21_30 = true := by decide +kernel
def B21_54 : List zOp := [(54, 1, .iload_n 3, [], 0), (55, 1, .aload_n 1, [], 0), (56, 3, .getfield 61, [8, 0, 0], 0), (59, 3, .if_icmp .ge 50, [109], 0), (62, 1, .aload_n 0, [], 0), (63, 3, .getfield 15, [2, 1, 2], 0), (66, 1, .iload_n 2, [], 0), (67, 1, .dup2, [], 0), (68, 1, .iaload, [], 0), (69, 1, .aload_n 1, [], 0), (70, 1, .iload_n 3, [], 0), (71, 1, .iconst 0, [], 0), (72, 3, .invokevirtual 64, [98, 2, 8], 0), (75, 1, .iload_n 2, [], 0), (76, 1, .ishr, [], 0), (77, 1, .iconst 1, [], 0), (78, 1, .iand, [], 0), (79, 1, .iload_n 3, [], 0), (80, 1, .ishl, [], 0), (81, 1, .ior, [], 0), (82, 1, .iastore, [], 0), (83, 1, .aload_n 0, [], 0), (84, 3, .getfield 18, [2, 2, 2], 0), (87, 1, .iload_n 2, [], 0), (88, 1, .dup2, [], 0), (89, 1, .iaload, [], 0), (90, 1, .aload_n 1, [], 0), (91, 1, .iload_n 3, [], 0), (92, 3, .invokevirtual 68, [99, 1, 8], 0), (95, 1, .iload_n 2, [], 0), (96, 1, .ishr, [], 0), (97, 1, .iconst 1, [], 0), (98, 1, .iand, [], 0), (99, 1, .iload_n 3, [], 0), (100, 1, .ishl, [], 0), (101, 1, .ior, [], 0), (102, 1, .iastore, [], 0), (103, 3, .iinc 3 1, [], 0), (106, 3, .goto (-52), [54], 0)]
set_option maxRecDepth 20000 in
theorem b21_54 : z_blk 21 54 109 B21_54 = true := by decide +kernel
def B21_109 : List zOp := [(109, 3, .iinc 2 1, [], 0), (112, 3, .goto (-82), [30], 0)]
set_option maxRecDepth 20000 in
theorem b21_109 : z_blk 21 109 115 B21_109 = true := by decide +kernel
def B21_115 : List zOp := [(115, 1, .aload_n 0, [], 0), (116, 3, .getfield 25, [2, 4, 2], 0), (119, 1, .arraylength, [], 0), (120, 1, .iconst 1, [], 0), (121, 1, .aload_n 1, [], 0), (122, 3, .getfield 61, [8, 0, 0], 0), (125, 1, .ishl, [], 0), (126, 3, .if_icmp .ge 15, [141], 0), (129, 1, .aload_n 0, [], 0), (130, 1, .iconst 1, [], 0), (131, 1, .aload_n 1, [], 0), (132, 3, .getfield 61, [8, 0, 0], 0), (135, 1, .ishl, [], 0), (136, 2, .newarray .int, [13], 0), (138, 3, .putfield 25, [2, 4, 2], 0)]
set_option maxRecDepth 20000 in
theorem b21_115 : z_blk 21 115 141 B21_115 = true := by decide +kernel
def B21_141 : List zOp := [(141, 1, .aload_n 0, [], 0), (142, 1, .aload_n 0, [], 0), (143, 3, .getfield 28, [2, 5, 0], 0), (146, 1, .iconst 1, [], 0), (147, 1, .iadd, [], 0), (148, 2, .ldc 72, [], 1048575), (150, 1, .iand, [], 0), (151, 3, .putfield 28, [2, 5, 0], 0), (154, 1, .return_, [], 0)]
set_option maxRecDepth 20000 in
theorem b21_141 : z_blk 21 141 155 B21_141 = true := by decide +kernel
-- 22 yX2_worstOf
def B22_0 : List zOp := [(0, 1, .aload_n 0, [], 0), (1, 1, .iload_n 1, [], 0), (2, 1, .iconst 0, [], 0), (3, 3, .invokevirtual 73, [24, 2, 2], 0), (6, 1, .ireturn, [0], 0)]
set_option maxRecDepth 20000 in
theorem b22_0 : z_blk 22 0 7 B22_0 = true := by decide +kernel
-- 23 yX2_askedAt
def B23_0 : List zOp := [(0, 1, .aload_n 0, [], 0), (1, 1, .iload_n 1, [], 0), (2, 1, .iconst 0, [], 0), (3, 3, .invokevirtual 73, [24, 2, 2], 0), (6, 1, .pop, [], 0), (7, 1, .aload_n 0, [], 0), (8, 3, .getfield 25, [2, 4, 2], 0), (11, 1, .iload_n 1, [], 0), (12, 1, .iaload, [], 0), (13, 2, .bipush 15, [], 0), (15, 1, .iand, [], 0), (16, 1, .iconst 1, [], 0), (17, 1, .isub, [], 0), (18, 1, .ireturn, [0], 0)]
set_option maxRecDepth 20000 in
theorem b23_0 : z_blk 23 0 19 B23_0 = true := by decide +kernel
-- 24 yX2_worst
def B24_0 : List zOp := [(0, 1, .aload_n 0, [], 0), (1, 3, .getfield 25, [2, 4, 2], 0), (4, 1, .iload_n 1, [], 0), (5, 1, .iaload, [], 0), (6, 2, .bipush 12, [], 0), (8, 1, .iushr, [], 0), (9, 1, .aload_n 0, [], 0), (10, 3, .getfield 28, [2, 5, 0], 0), (13, 3, .if_icmp .ne 16, [29], 0), (16, 1, .aload_n 0, [], 0), (17, 3, .getfield 25, [2, 4, 2], 0), (20, 1, .iload_n 1, [], 0), (21, 1, .iaload, [], 0), (22, 3, .sipush 4095, [], 0), (25, 1, .iand, [], 0), (26, 1, .iconst 4, [], 0), (27, 1, .ishr, [], 0), (28, 1, .ireturn, [0], 0)]
set_option maxRecDepth 20000 in
theorem b24_0 : z_blk 24 0 29 B24_0 = true := by decide +kernel
def B24_29 : List zOp := [(29, 1, .iconst 0, [], 0), (30, 1, .istore_n 3, [], 0), (31, 1, .iconst 0, [], 0), (32, 2, .istore 4, [], 0), (34, 1, .iconst 0, [], 0), (35, 2, .istore 5, [], 0)]
set_option maxRecDepth 20000 in
theorem b24_29 : z_blk 24 29 37 B24_29 = true := by decide +kernel
def B24_37 : List zOp := [(37, 2, .iload 5, [], 0), (39, 1, .aload_n 0, [], 0), (40, 3, .getfield 21, [2, 3, 0], 0), (43, 3, .if_icmp .ge 126, [169], 0), (46, 1, .iload_n 2, [], 0), (47, 2, .bipush 12, [], 0), (49, 3, .if_icmp .gt 120, [169], 0), (52, 1, .iload_n 1, [], 0), (53, 1, .aload_n 0, [], 0), (54, 3, .getfield 15, [2, 1, 2], 0), (57, 2, .iload 5, [], 0), (59, 1, .iaload, [], 0), (60, 1, .iand, [], 0), (61, 2, .istore 6, [], 0), (63, 2, .iload 6, [], 0), (65, 3, .ifCond .eq 98, [163], 0), (68, 2, .iload 6, [], 0), (70, 1, .iload_n 1, [], 0), (71, 3, .if_icmp .eq 92, [163], 0), (74, 1, .iload_n 1, [], 0), (75, 1, .aload_n 0, [], 0), (76, 3, .getfield 18, [2, 2, 2], 0), (79, 2, .iload 5, [], 0), (81, 1, .iaload, [], 0), (82, 1, .iand, [], 0), (83, 3, .ifCond .eq 6, [89], 0), (86, 3, .goto 77, [163], 0)]
set_option maxRecDepth 20000 in
theorem b24_37 : z_blk 24 37 89 B24_37 = true := by decide +kernel
def B24_89 : List zOp := [(89, 2, .iload 4, [], 0), (91, 3, .ifCond .eq 17, [108], 0), (94, 1, .aload_n 0, [], 0), (95, 3, .getfield 9, [2, 0, 2], 0), (98, 2, .iload 5, [], 0), (100, 1, .iaload, [], 0), (101, 1, .iload_n 3, [], 0), (102, 3, .if_icmp .lt 6, [108], 0), (105, 3, .goto 58, [163], 0)]
set_option maxRecDepth 20000 in
theorem b24_89 : z_blk 24 89 108 B24_89 = true := by decide +kernel
def B24_108 : List zOp := [(108, 1, .aload_n 0, [], 0), (109, 3, .getfield 9, [2, 0, 2], 0), (112, 2, .iload 5, [], 0), (114, 1, .iaload, [], 0), (115, 1, .aload_n 0, [], 0), (116, 2, .iload 6, [], 0), (118, 1, .iload_n 2, [], 0), (119, 1, .iconst 1, [], 0), (120, 1, .iadd, [], 0), (121, 3, .invokevirtual 73, [24, 2, 2], 0), (124, 1, .aload_n 0, [], 0), (125, 1, .iload_n 1, [], 0), (126, 2, .iload 6, [], 0), (128, 1, .iconst (-1), [], 0), (129, 1, .ixor, [], 0), (130, 1, .iand, [], 0), (131, 1, .iload_n 2, [], 0), (132, 1, .iconst 1, [], 0), (133, 1, .iadd, [], 0), (134, 3, .invokevirtual 73, [24, 2, 2], 0), (137, 3, .invokestatic 76, [245], 0), (140, 1, .iadd, [], 0), (141, 2, .istore 7, [], 0), (143, 2, .iload 4, [], 0), (145, 3, .ifCond .eq 9, [154], 0), (148, 2, .iload 7, [], 0), (150, 1, .iload_n 3, [], 0), (151, 3, .if_icmp .ge 12, [163], 0)]
set_option maxRecDepth 20000 in
theorem b24_108 : z_blk 24 108 154 B24_108 = true := by decide +kernel
def B24_154 : List zOp := [(154, 2, .iload 7, [], 0), (156, 1, .istore_n 3, [], 0), (157, 2, .iload 5, [], 0), (159, 1, .iconst 1, [], 0), (160, 1, .iadd, [], 0), (161, 2, .istore 4, [], 0)]
set_option maxRecDepth 20000 in
theorem b24_154 : z_blk 24 154 163 B24_154 = true := by decide +kernel
def B24_163 : List zOp := [(163, 3, .iinc 5 1, [], 0), (166, 3, .goto (-129), [37], 0)]
set_option maxRecDepth 20000 in
theorem b24_163 : z_blk 24 163 169 B24_163 = true := by decide +kernel
def B24_169 : List zOp := [(169, 1, .aload_n 0, [], 0), (170, 3, .getfield 25, [2, 4, 2], 0), (173, 1, .iload_n 1, [], 0), (174, 1, .aload_n 0, [], 0), (175, 3, .getfield 28, [2, 5, 0], 0), (178, 2, .bipush 12, [], 0), (180, 1, .ishl, [], 0), (181, 1, .iload_n 3, [], 0), (182, 1, .iconst 4, [], 0), (183, 1, .ishl, [], 0), (184, 1, .ior, [], 0), (185, 2, .iload 4, [], 0), (187, 1, .ior, [], 0), (188, 1, .iastore, [], 0), (189, 1, .iload_n 3, [], 0), (190, 1, .ireturn, [0], 0)]
set_option maxRecDepth 20000 in
theorem b24_169 : z_blk 24 169 191 B24_169 = true := by decide +kernel
-- 25 yX2_leafCount
def B25_0 : List zOp := [(0, 1, .aload_n 0, [], 0), (1, 1, .iload_n 1, [], 0), (2, 1, .iconst 0, [], 0), (3, 3, .invokevirtual 81, [26, 2, 2], 0), (6, 1, .ireturn, [0], 0)]
set_option maxRecDepth 20000 in
theorem b25_0 : z_blk 25 0 7 B25_0 = true := by decide +kernel
-- 26 yX2_leaves
def B26_0 : List zOp := [(0, 1, .aload_n 0, [], 0), (1, 1, .iload_n 1, [], 0), (2, 3, .invokevirtual 84, [23, 1, 2], 0), (5, 1, .istore_n 3, [], 0), (6, 1, .iload_n 3, [], 0), (7, 1, .iconst (-1), [], 0), (8, 3, .if_icmp .eq 9, [17], 0), (11, 1, .iload_n 2, [], 0), (12, 2, .bipush 12, [], 0), (14, 3, .if_icmp .le 5, [19], 0)]
set_option maxRecDepth 20000 in
theorem b26_0 : z_blk 26 0 17 B26_0 = true := by decide +kernel
def B26_17 : List zOp := [(17, 1, .iconst 1, [], 0), (18, 1, .ireturn, [0], 0)]
set_option maxRecDepth 20000 in
theorem b26_17 : z_blk 26 17 19 B26_17 = true := by decide +kernel
def B26_19 : List zOp := [(19, 1, .aload_n 0, [], 0), (20, 1, .iload_n 1, [], 0), (21, 1, .aload_n 0, [], 0), (22, 3, .getfield 15, [2, 1, 2], 0), (25, 1, .iload_n 3, [], 0), (26, 1, .iaload, [], 0), (27, 1, .iand, [], 0), (28, 1, .iload_n 2, [], 0), (29, 1, .iconst 1, [], 0), (30, 1, .iadd, [], 0), (31, 3, .invokevirtual 81, [26, 2, 2], 0), (34, 1, .aload_n 0, [], 0), (35, 1, .iload_n 1, [], 0), (36, 1, .aload_n 0, [], 0), (37, 3, .getfield 15, [2, 1, 2], 0), (40, 1, .iload_n 3, [], 0), (41, 1, .iaload, [], 0), (42, 1, .iconst (-1), [], 0), (43, 1, .ixor, [], 0), (44, 1, .iand, [], 0), (45, 1, .iload_n 2, [], 0), (46, 1, .iconst 1, [], 0), (47, 1, .iadd, [], 0), (48, 3, .invokevirtual 81, [26, 2, 2], 0), (51, 1, .iadd, [], 0), (52, 1, .ireturn, [0], 0)]
set_option maxRecDepth 20000 in
theorem b26_19 : z_blk 26 19 53 B26_19 = true := by decide +kernel
-- 27 yX2_go
def B27_0 : List zOp := [(0, 1, .aload_n 0, [], 0), (1, 1, .iconst 0, [], 0), (2, 3, .putfield 37, [2, 8, 0], 0), (5, 1, .aload_n 0, [], 0), (6, 1, .iconst 0, [], 0), (7, 3, .putfield 40, [2, 9, 0], 0), (10, 1, .aload_n 0, [], 0), (11, 1, .iload_n 1, [], 0), (12, 3, .putfield 43, [2, 10, 0], 0), (15, 1, .aload_n 0, [], 0), (16, 1, .aload_n 0, [], 0), (17, 3, .getfield 43, [2, 10, 0], 0), (20, 3, .invokevirtual 84, [23, 1, 2], 0), (23, 1, .istore_n 3, [], 0)]
set_option maxRecDepth 20000 in
theorem b27_0 : z_blk 27 0 24 B27_0 = true := by decide +kernel
def B27_24 : List zOp := [(24, 1, .iload_n 3, [], 0), (25, 1, .iconst (-1), [], 0), (26, 3, .if_icmp .eq 98, [124], 0), (29, 1, .aload_n 0, [], 0), (30, 3, .getfield 37, [2, 8, 0], 0), (33, 2, .bipush 12, [], 0), (35, 3, .if_icmp .ge 89, [124], 0), (38, 1, .aload_n 0, [], 0), (39, 3, .getfield 34, [2, 7, 2], 0), (42, 1, .aload_n 0, [], 0), (43, 3, .getfield 37, [2, 8, 0], 0), (46, 1, .iload_n 3, [], 0), (47, 1, .iastore, [], 0), (48, 1, .aload_n 0, [], 0), (49, 1, .dup, [], 0), (50, 3, .getfield 37, [2, 8, 0], 0), (53, 1, .iconst 1, [], 0), (54, 1, .iadd, [], 0), (55, 3, .putfield 37, [2, 8, 0], 0), (58, 1, .aload_n 0, [], 0), (59, 1, .dup, [], 0), (60, 3, .getfield 40, [2, 9, 0], 0), (63, 1, .aload_n 0, [], 0), (64, 3, .getfield 9, [2, 0, 2], 0), (67, 1, .iload_n 3, [], 0), (68, 1, .iaload, [], 0), (69, 1, .iadd, [], 0), (70, 3, .putfield 40, [2, 9, 0], 0), (73, 1, .aload_n 0, [], 0), (74, 1, .dup, [], 0), (75, 3, .getfield 43, [2, 10, 0], 0), (78, 1, .aload_n 0, [], 0), (79, 3, .getfield 15, [2, 1, 2], 0), (82, 1, .iload_n 3, [], 0), (83, 1, .iaload, [], 0), (84, 1, .iload_n 2, [], 0), (85, 1, .ishr, [], 0), (86, 1, .iconst 1, [], 0), (87, 1, .iand, [], 0), (88, 3, .ifCond .eq 12, [100], 0), (91, 1, .aload_n 0, [], 0), (92, 3, .getfield 15, [2, 1, 2], 0), (95, 1, .iload_n 3, [], 0), (96, 1, .iaload, [], 0), (97, 3, .goto 11, [108], 0)]
set_option maxRecDepth 20000 in
theorem b27_24 : z_blk 27 24 100 B27_24 = true := by decide +kernel
def B27_100 : List zOp := [(100, 1, .aload_n 0, [], 0), (101, 3, .getfield 15, [2, 1, 2], 0), (104, 1, .iload_n 3, [], 0), (105, 1, .iaload, [], 0), (106, 1, .iconst (-1), [], 0), (107, 1, .ixor, [], 0)]
set_option maxRecDepth 20000 in
theorem b27_100 : z_blk 27 100 108 B27_100 = true := by decide +kernel
def B27_108 : List zOp := [(108, 1, .iand, [], 0), (109, 3, .putfield 43, [2, 10, 0], 0), (112, 1, .aload_n 0, [], 0), (113, 1, .aload_n 0, [], 0), (114, 3, .getfield 43, [2, 10, 0], 0), (117, 3, .invokevirtual 84, [23, 1, 2], 0), (120, 1, .istore_n 3, [], 0), (121, 3, .goto (-97), [24], 0)]
set_option maxRecDepth 20000 in
theorem b27_108 : z_blk 27 108 124 B27_108 = true := by decide +kernel
def B27_124 : List zOp := [(124, 1, .return_, [], 0)]
set_option maxRecDepth 20000 in
theorem b27_124 : z_blk 27 124 125 B27_124 = true := by decide +kernel
-- 28 yX2_askedMark
def B28_0 : List zOp := [(0, 1, .iload_n 2, [], 0), (1, 3, .ifCond .eq 24, [25], 0), (4, 1, .iload_n 1, [], 0), (5, 3, .ifCond .lt 20, [25], 0), (8, 1, .iload_n 1, [], 0), (9, 1, .aload_n 0, [], 0), (10, 3, .getfield 37, [2, 8, 0], 0), (13, 3, .if_icmp .ge 12, [25], 0), (16, 1, .aload_n 0, [], 0), (17, 3, .getfield 34, [2, 7, 2], 0), (20, 1, .iload_n 1, [], 0), (21, 1, .iaload, [], 0), (22, 3, .goto 4, [26], 0)]
set_option maxRecDepth 20000 in
theorem b28_0 : z_blk 28 0 25 B28_0 = true := by decide +kernel
def B28_25 : List zOp := [(25, 1, .iconst (-1), [], 0)]
set_option maxRecDepth 20000 in
theorem b28_25 : z_blk 28 25 26 B28_25 = true := by decide +kernel
def B28_26 : List zOp := [(26, 1, .ireturn, [0], 0)]
set_option maxRecDepth 20000 in
theorem b28_26 : z_blk 28 26 27 B28_26 = true := by decide +kernel
-- 29 yX3_init
def B29_0 : List zOp := [(0, 1, .aload_n 0, [], 0), (1, 3, .invokespecial 3, [999], 0), (4, 1, .aload_n 0, [], 0), (5, 1, .iconst 0, [], 0), (6, 3, .putfield 9, [3, 0, 0], 0), (9, 1, .aload_n 0, [], 0), (10, 1, .iconst 1, [], 0), (11, 3, .putfield 15, [3, 1, 0], 0), (14, 1, .aload_n 0, [], 0), (15, 1, .iconst 0, [], 0), (16, 2, .newarray .int, [13], 0), (18, 3, .putfield 18, [3, 2, 2], 0), (21, 1, .aload_n 0, [], 0), (22, 1, .iconst 0, [], 0), (23, 2, .newarray .int, [13], 0), (25, 3, .putfield 22, [3, 3, 2], 0), (28, 1, .aload_n 0, [], 0), (29, 1, .iconst 0, [], 0), (30, 3, .putfield 25, [3, 4, 0], 0), (33, 1, .aload_n 0, [], 0), (34, 1, .iconst (-1), [], 0), (35, 3, .putfield 28, [3, 5, 0], 0), (38, 1, .aload_n 0, [], 0), (39, 1, .iconst 0, [], 0), (40, 2, .newarray .int, [13], 0), (42, 3, .putfield 31, [3, 6, 2], 0), (45, 1, .aload_n 0, [], 0), (46, 1, .iconst 0, [], 0), (47, 2, .newarray .int, [13], 0), (49, 3, .putfield 34, [3, 7, 2], 0), (52, 1, .aload_n 0, [], 0), (53, 1, .iconst 0, [], 0), (54, 3, .putfield 37, [3, 8, 0], 0), (57, 1, .aload_n 0, [], 0), (58, 1, .iconst (-1), [], 0), (59, 3, .putfield 40, [3, 9, 0], 0), (62, 1, .aload_n 0, [], 0), (63, 2, .bipush 12, [], 0), (65, 2, .newarray .int, [13], 0), (67, 3, .putfield 43, [3, 10, 2], 0), (70, 1, .aload_n 0, [], 0), (71, 1, .iconst 0, [], 0), (72, 3, .putfield 46, [3, 11, 0], 0), (75, 1, .aload_n 0, [], 0), (76, 1, .iconst 0, [], 0), (77, 3, .putfield 49, [3, 12, 0], 0), (80, 1, .return_, [], 0)]
set_option maxRecDepth 20000 in
theorem b29_0 : z_blk 29 0 81 B29_0 = true := by decide +kernel
-- 30 yX3_freshenClosures
def B30_0 : List zOp := [(0, 1, .aload_n 0, [], 0), (1, 3, .getfield 28, [3, 5, 0], 0), (4, 1, .aload_n 1, [], 0), (5, 3, .getfield 52, [8, 10, 0], 0), (8, 3, .if_icmp .ne 4, [12], 0), (11, 1, .return_, [], 0)]
set_option maxRecDepth 20000 in
theorem b30_0 : z_blk 30 0 12 B30_0 = true := by decide +kernel
def B30_12 : List zOp := [(12, 1, .aload_n 0, [], 0), (13, 1, .aload_n 1, [], 0), (14, 3, .getfield 52, [8, 10, 0], 0), (17, 3, .putfield 28, [3, 5, 0], 0), (20, 1, .aload_n 0, [], 0), (21, 1, .aload_n 1, [], 0), (22, 3, .invokevirtual 57, [90, 0, 8], 0), (25, 3, .putfield 9, [3, 0, 0], 0), (28, 1, .aload_n 0, [], 0), (29, 1, .iconst 1, [], 0), (30, 1, .aload_n 0, [], 0), (31, 3, .getfield 9, [3, 0, 0], 0), (34, 1, .ishl, [], 0), (35, 3, .putfield 15, [3, 1, 0], 0), (38, 1, .aload_n 0, [], 0), (39, 3, .getfield 18, [3, 2, 2], 0), (42, 1, .arraylength, [], 0), (43, 1, .aload_n 0, [], 0), (44, 3, .getfield 15, [3, 1, 0], 0), (47, 3, .if_icmp .ge 23, [70], 0), (50, 1, .aload_n 0, [], 0), (51, 1, .aload_n 0, [], 0), (52, 3, .getfield 15, [3, 1, 0], 0), (55, 2, .newarray .int, [13], 0), (57, 3, .putfield 18, [3, 2, 2], 0), (60, 1, .aload_n 0, [], 0), (61, 1, .aload_n 0, [], 0), (62, 3, .getfield 15, [3, 1, 0], 0), (65, 2, .newarray .int, [13], 0), (67, 3, .putfield 22, [3, 3, 2], 0)]
set_option maxRecDepth 20000 in
theorem b30_12 : z_blk 30 12 70 B30_12 = true := by decide +kernel
def B30_70 : List zOp := [(70, 1, .iconst 0, [], 0), (71, 1, .istore_n 3, [], 0)]
set_option maxRecDepth 20000 in
theorem b30_70 : z_blk 30 70 72 B30_70 = true := by decide +kernel
def B30_72 : List zOp := [(72, 1, .iload_n 3, [], 0), (73, 1, .aload_n 0, [], 0), (74, 3, .getfield 15, [3, 1, 0], 0), (77, 3, .if_icmp .ge 21, [98], 0), (80, 1, .aload_n 0, [], 0), (81, 3, .getfield 18, [3, 2, 2], 0), (84, 1, .iload_n 3, [], 0), (85, 1, .aload_n 0, [], 0), (86, 3, .getfield 15, [3, 1, 0], 0), (89, 1, .iconst 1, [], 0), (90, 1, .isub, [], 0), (91, 1, .iastore, [], 0), (92, 3, .iinc 3 1, [], 0), (95, 3, .goto (-23), [72], 0)]
set_option maxRecDepth 20000 in
theorem b30_72 : z_blk 30 72 98 B30_72 = true := by decide +kernel
def B30_98 : List zOp := [(98, 1, .iconst 0, [], 0), (99, 1, .istore_n 3, [], 0)]
set_option maxRecDepth 20000 in
theorem b30_98 : z_blk 30 98 100 B30_98 = true := by decide +kernel
def B30_100 : List zOp := [(100, 1, .iload_n 3, [], 0), (101, 1, .aload_n 1, [], 0), (102, 3, .getfield 61, [8, 0, 0], 0), (105, 3, .if_icmp .ge 33, [138], 0), (108, 1, .aload_n 1, [], 0), (109, 1, .iload_n 3, [], 0), (110, 1, .iload_n 2, [], 0), (111, 3, .invokevirtual 64, [98, 2, 8], 0), (114, 1, .aload_n 0, [], 0), (115, 3, .getfield 9, [3, 0, 0], 0), (118, 3, .invokestatic 68, [157, 2], 0), (121, 2, .istore 4, [], 0), (123, 1, .aload_n 0, [], 0), (124, 3, .getfield 18, [3, 2, 2], 0), (127, 2, .iload 4, [], 0), (129, 2, .iload 4, [], 0), (131, 1, .iastore, [], 0), (132, 3, .iinc 3 1, [], 0), (135, 3, .goto (-35), [100], 0)]
set_option maxRecDepth 20000 in
theorem b30_100 : z_blk 30 100 138 B30_100 = true := by decide +kernel
def B30_138 : List zOp := [(138, 1, .aload_n 0, [], 0), (139, 3, .invokevirtual 71, [31, 0, 3], 0), (142, 1, .aload_n 0, [], 0), (143, 3, .invokevirtual 74, [32, 0, 3], 0), (146, 1, .return_, [], 0)]
set_option maxRecDepth 20000 in
theorem b30_138 : z_blk 30 138 147 B30_138 = true := by decide +kernel
-- 31 yX3_meetAbove
def B31_0 : List zOp := [(0, 1, .iconst 0, [], 0), (1, 1, .istore_n 1, [], 0)]
set_option maxRecDepth 20000 in
theorem b31_0 : z_blk 31 0 2 B31_0 = true := by decide +kernel
def B31_2 : List zOp := [(2, 1, .iload_n 1, [], 0), (3, 1, .aload_n 0, [], 0), (4, 3, .getfield 9, [3, 0, 0], 0), (7, 3, .if_icmp .ge 52, [59], 0), (10, 1, .iconst 0, [], 0), (11, 1, .istore_n 2, [], 0)]
set_option maxRecDepth 20000 in
theorem b31_2 : z_blk 31 2 12 B31_2 = true := by decide +kernel
def B31_12 : List zOp := [(12, 1, .iload_n 2, [], 0), (13, 1, .aload_n 0, [], 0), (14, 3, .getfield 15, [3, 1, 0], 0), (17, 3, .if_icmp .ge 36, [53], 0), (20, 1, .iload_n 2, [], 0), (21, 1, .iload_n 1, [], 0), (22, 1, .ishr, [], 0), (23, 1, .iconst 1, [], 0), (24, 1, .iand, [], 0), (25, 3, .ifCond .ne 22, [47], 0), (28, 1, .aload_n 0, [], 0), (29, 3, .getfield 18, [3, 2, 2], 0), (32, 1, .iload_n 2, [], 0), (33, 1, .dup2, [], 0), (34, 1, .iaload, [], 0), (35, 1, .aload_n 0, [], 0), (36, 3, .getfield 18, [3, 2, 2], 0), (39, 1, .iload_n 2, [], 0), (40, 1, .iconst 1, [], 0), (41, 1, .iload_n 1, [], 0), (42, 1, .ishl, [], 0), (43, 1, .ior, [], 0), (44, 1, .iaload, [], 0), (45, 1, .iand, [], 0), (46, 1, .iastore, [], 0)]
set_option maxRecDepth 20000 in
theorem b31_12 : z_blk 31 12 47 B31_12 = true := by decide +kernel
def B31_47 : List zOp := [(47, 3, .iinc 2 1, [], 0), (50, 3, .goto (-38), [12], 0)]
set_option maxRecDepth 20000 in
theorem b31_47 : z_blk 31 47 53 B31_47 = true := by decide +kernel
def B31_53 : List zOp := [(53, 3, .iinc 1 1, [], 0), (56, 3, .goto (-54), [2], 0)]
set_option maxRecDepth 20000 in
theorem b31_53 : z_blk 31 53 59 B31_53 = true := by decide +kernel
def B31_59 : List zOp := [(59, 1, .return_, [], 0)]
set_option maxRecDepth 20000 in
theorem b31_59 : z_blk 31 59 60 B31_59 = true := by decide +kernel
-- 32 yX3_listClosed
def B32_0 : List zOp := [(0, 1, .aload_n 0, [], 0), (1, 1, .iconst 0, [], 0), (2, 3, .putfield 25, [3, 4, 0], 0), (5, 1, .iconst 0, [], 0), (6, 1, .istore_n 1, [], 0)]
set_option maxRecDepth 20000 in
theorem b32_0 : z_blk 32 0 7 B32_0 = true := by decide +kernel
def B32_7 : List zOp := [(7, 1, .iload_n 1, [], 0), (8, 1, .aload_n 0, [], 0), (9, 3, .getfield 15, [3, 1, 0], 0), (12, 3, .if_icmp .ge 39, [51], 0), (15, 1, .aload_n 0, [], 0), (16, 3, .getfield 18, [3, 2, 2], 0), (19, 1, .iload_n 1, [], 0), (20, 1, .iaload, [], 0), (21, 1, .iload_n 1, [], 0), (22, 3, .if_icmp .ne 23, [45], 0), (25, 1, .aload_n 0, [], 0), (26, 3, .getfield 22, [3, 3, 2], 0), (29, 1, .aload_n 0, [], 0), (30, 3, .getfield 25, [3, 4, 0], 0), (33, 1, .iload_n 1, [], 0), (34, 1, .iastore, [], 0), (35, 1, .aload_n 0, [], 0), (36, 1, .dup, [], 0), (37, 3, .getfield 25, [3, 4, 0], 0), (40, 1, .iconst 1, [], 0), (41, 1, .iadd, [], 0), (42, 3, .putfield 25, [3, 4, 0], 0)]
set_option maxRecDepth 20000 in
theorem b32_7 : z_blk 32 7 45 B32_7 = true := by decide +kernel
def B32_45 : List zOp := [(45, 3, .iinc 1 1, [], 0), (48, 3, .goto (-41), [7], 0)]
set_option maxRecDepth 20000 in
theorem b32_45 : z_blk 32 45 51 B32_45 = true := by decide +kernel
def B32_51 : List zOp := [(51, 1, .return_, [], 0)]
set_option maxRecDepth 20000 in
theorem b32_51 : z_blk 32 51 52 B32_51 = true := by decide +kernel
-- 33 yX3_freshenPremises
def B33_0 : List zOp := [(0, 1, .aload_n 0, [], 0), (1, 3, .getfield 40, [3, 9, 0], 0), (4, 1, .aload_n 0, [], 0), (5, 3, .getfield 28, [3, 5, 0], 0), (8, 3, .if_icmp .ne 4, [12], 0), (11, 1, .return_, [], 0)]
set_option maxRecDepth 20000 in
theorem b33_0 : z_blk 33 0 12 B33_0 = true := by decide +kernel
def B33_12 : List zOp := [(12, 1, .aload_n 0, [], 0), (13, 1, .aload_n 0, [], 0), (14, 3, .getfield 28, [3, 5, 0], 0), (17, 3, .putfield 40, [3, 9, 0], 0), (20, 1, .aload_n 0, [], 0), (21, 1, .iconst 0, [], 0), (22, 3, .putfield 37, [3, 8, 0], 0), (25, 1, .aload_n 0, [], 0), (26, 3, .getfield 34, [3, 7, 2], 0), (29, 1, .arraylength, [], 0), (30, 1, .aload_n 0, [], 0), (31, 3, .getfield 15, [3, 1, 0], 0), (34, 3, .if_icmp .ge 23, [57], 0), (37, 1, .aload_n 0, [], 0), (38, 1, .aload_n 0, [], 0), (39, 3, .getfield 15, [3, 1, 0], 0), (42, 2, .newarray .int, [13], 0), (44, 3, .putfield 34, [3, 7, 2], 0), (47, 1, .aload_n 0, [], 0), (48, 1, .aload_n 0, [], 0), (49, 3, .getfield 15, [3, 1, 0], 0), (52, 2, .newarray .int, [13], 0), (54, 3, .putfield 31, [3, 6, 2], 0)]
set_option maxRecDepth 20000 in
theorem b33_12 : z_blk 33 12 57 B33_12 = true := by decide +kernel
def B33_57 : List zOp := [(57, 1, .iconst 0, [], 0), (58, 1, .istore_n 1, [], 0)]
set_option maxRecDepth 20000 in
theorem b33_57 : z_blk 33 57 59 B33_57 = true := by decide +kernel
def B33_59 : List zOp := [(59, 1, .iload_n 1, [], 0), (60, 1, .aload_n 0, [], 0), (61, 3, .getfield 15, [3, 1, 0], 0), (64, 3, .if_icmp .ge 69, [133], 0), (67, 1, .aload_n 0, [], 0), (68, 1, .iload_n 1, [], 0), (69, 3, .invokevirtual 77, [34, 1, 3], 0), (72, 1, .istore_n 2, [], 0), (73, 1, .aload_n 0, [], 0), (74, 3, .getfield 18, [3, 2, 2], 0), (77, 1, .iload_n 1, [], 0), (78, 1, .iaload, [], 0), (79, 1, .iload_n 1, [], 0), (80, 3, .if_icmp .eq 40, [120], 0), (83, 1, .iload_n 2, [], 0), (84, 1, .iload_n 1, [], 0), (85, 1, .iconst (-1), [], 0), (86, 1, .ixor, [], 0), (87, 1, .iand, [], 0), (88, 3, .ifCond .ne 32, [120], 0), (91, 1, .aload_n 0, [], 0), (92, 3, .getfield 34, [3, 7, 2], 0), (95, 1, .aload_n 0, [], 0), (96, 3, .getfield 37, [3, 8, 0], 0), (99, 1, .iload_n 1, [], 0), (100, 1, .iastore, [], 0), (101, 1, .aload_n 0, [], 0), (102, 1, .dup, [], 0), (103, 3, .getfield 37, [3, 8, 0], 0), (106, 1, .iconst 1, [], 0), (107, 1, .iadd, [], 0), (108, 3, .putfield 37, [3, 8, 0], 0), (111, 1, .iload_n 2, [], 0), (112, 1, .aload_n 0, [], 0), (113, 3, .getfield 18, [3, 2, 2], 0), (116, 1, .iload_n 1, [], 0), (117, 1, .iaload, [], 0), (118, 1, .ior, [], 0), (119, 1, .istore_n 2, [], 0)]
set_option maxRecDepth 20000 in
theorem b33_59 : z_blk 33 59 120 B33_59 = true := by decide +kernel
def B33_120 : List zOp := [(120, 1, .aload_n 0, [], 0), (121, 3, .getfield 31, [3, 6, 2], 0), (124, 1, .iload_n 1, [], 0), (125, 1, .iload_n 2, [], 0), (126, 1, .iastore, [], 0), (127, 3, .iinc 1 1, [], 0), (130, 3, .goto (-71), [59], 0)]
set_option maxRecDepth 20000 in
theorem b33_120 : z_blk 33 120 133 B33_120 = true := by decide +kernel
def B33_133 : List zOp := [(133, 1, .return_, [], 0)]
set_option maxRecDepth 20000 in
theorem b33_133 : z_blk 33 133 134 B33_133 = true := by decide +kernel
-- 34 yX3_gatheredBelow
def B34_0 : List zOp := [(0, 1, .iconst 0, [], 0), (1, 1, .istore_n 2, [], 0), (2, 1, .iconst 0, [], 0), (3, 1, .istore_n 3, [], 0)]
set_option maxRecDepth 20000 in
theorem b34_0 : z_blk 34 0 4 B34_0 = true := by decide +kernel
def B34_4 : List zOp := [(4, 1, .iload_n 3, [], 0), (5, 1, .aload_n 0, [], 0), (6, 3, .getfield 9, [3, 0, 0], 0), (9, 3, .if_icmp .ge 30, [39], 0), (12, 1, .iload_n 1, [], 0), (13, 1, .iload_n 3, [], 0), (14, 1, .ishr, [], 0), (15, 1, .iconst 1, [], 0), (16, 1, .iand, [], 0), (17, 3, .ifCond .eq 16, [33], 0), (20, 1, .iload_n 2, [], 0), (21, 1, .aload_n 0, [], 0), (22, 3, .getfield 31, [3, 6, 2], 0), (25, 1, .iload_n 1, [], 0), (26, 1, .iconst 1, [], 0), (27, 1, .iload_n 3, [], 0), (28, 1, .ishl, [], 0), (29, 1, .ixor, [], 0), (30, 1, .iaload, [], 0), (31, 1, .ior, [], 0), (32, 1, .istore_n 2, [], 0)]
set_option maxRecDepth 20000 in
theorem b34_4 : z_blk 34 4 33 B34_4 = true := by decide +kernel
def B34_33 : List zOp := [(33, 3, .iinc 3 1, [], 0), (36, 3, .goto (-32), [4], 0)]
set_option maxRecDepth 20000 in
theorem b34_33 : z_blk 34 33 39 B34_33 = true := by decide +kernel
def B34_39 : List zOp := [(39, 1, .iload_n 2, [], 0), (40, 1, .ireturn, [0], 0)]
set_option maxRecDepth 20000 in
theorem b34_39 : z_blk 34 39 41 B34_39 = true := by decide +kernel
-- 35 yX3_closedSet
def B35_0 : List zOp := [(0, 1, .iload_n 1, [], 0), (1, 3, .ifCond .lt 27, [28], 0), (4, 1, .iload_n 1, [], 0), (5, 1, .aload_n 0, [], 0), (6, 3, .getfield 25, [3, 4, 0], 0), (9, 3, .if_icmp .ge 19, [28], 0), (12, 1, .aload_n 0, [], 0), (13, 3, .getfield 22, [3, 3, 2], 0), (16, 1, .iload_n 1, [], 0), (17, 1, .iaload, [], 0), (18, 1, .aload_n 0, [], 0), (19, 3, .getfield 9, [3, 0, 0], 0), (22, 3, .invokestatic 68, [157, 2], 0), (25, 3, .goto 4, [29], 0)]
set_option maxRecDepth 20000 in
theorem b35_0 : z_blk 35 0 28 B35_0 = true := by decide +kernel
def B35_28 : List zOp := [(28, 1, .iconst (-1), [], 0)]
set_option maxRecDepth 20000 in
theorem b35_28 : z_blk 35 28 29 B35_28 = true := by decide +kernel
def B35_29 : List zOp := [(29, 1, .ireturn, [0], 0)]
set_option maxRecDepth 20000 in
theorem b35_29 : z_blk 35 29 30 B35_29 = true := by decide +kernel
-- 36 yX3_closedNumber
def B36_0 : List zOp := [(0, 1, .iload_n 1, [], 0), (1, 1, .aload_n 0, [], 0), (2, 3, .getfield 9, [3, 0, 0], 0), (5, 3, .invokestatic 68, [157, 2], 0), (8, 1, .istore_n 2, [], 0), (9, 1, .iconst 0, [], 0), (10, 1, .istore_n 3, [], 0)]
set_option maxRecDepth 20000 in
theorem b36_0 : z_blk 36 0 11 B36_0 = true := by decide +kernel
def B36_11 : List zOp := [(11, 1, .iload_n 3, [], 0), (12, 1, .aload_n 0, [], 0), (13, 3, .getfield 25, [3, 4, 0], 0), (16, 3, .if_icmp .ge 31, [47], 0), (19, 1, .aload_n 0, [], 0), (20, 3, .getfield 22, [3, 3, 2], 0), (23, 1, .iload_n 3, [], 0), (24, 1, .iaload, [], 0), (25, 1, .iload_n 2, [], 0), (26, 3, .if_icmp .gt 21, [47], 0), (29, 1, .aload_n 0, [], 0), (30, 3, .getfield 22, [3, 3, 2], 0), (33, 1, .iload_n 3, [], 0), (34, 1, .iaload, [], 0), (35, 1, .iload_n 2, [], 0), (36, 3, .if_icmp .ne 5, [41], 0), (39, 1, .iload_n 3, [], 0), (40, 1, .ireturn, [0], 0)]
set_option maxRecDepth 20000 in
theorem b36_11 : z_blk 36 11 41 B36_11 = true := by decide +kernel
def B36_41 : List zOp := [(41, 3, .iinc 3 1, [], 0), (44, 3, .goto (-33), [11], 0)]
set_option maxRecDepth 20000 in
theorem b36_41 : z_blk 36 41 47 B36_41 = true := by decide +kernel
def B36_47 : List zOp := [(47, 1, .iconst (-1), [], 0), (48, 1, .ireturn, [0], 0)]
set_option maxRecDepth 20000 in
theorem b36_47 : z_blk 36 47 49 B36_47 = true := by decide +kernel
-- 37 yX3_premiseSet
def B37_0 : List zOp := [(0, 1, .iload_n 1, [], 0), (1, 3, .ifCond .lt 27, [28], 0), (4, 1, .iload_n 1, [], 0), (5, 1, .aload_n 0, [], 0), (6, 3, .getfield 37, [3, 8, 0], 0), (9, 3, .if_icmp .ge 19, [28], 0), (12, 1, .aload_n 0, [], 0), (13, 3, .getfield 34, [3, 7, 2], 0), (16, 1, .iload_n 1, [], 0), (17, 1, .iaload, [], 0), (18, 1, .aload_n 0, [], 0), (19, 3, .getfield 9, [3, 0, 0], 0), (22, 3, .invokestatic 68, [157, 2], 0), (25, 3, .goto 4, [29], 0)]
set_option maxRecDepth 20000 in
theorem b37_0 : z_blk 37 0 28 B37_0 = true := by decide +kernel
def B37_28 : List zOp := [(28, 1, .iconst (-1), [], 0)]
set_option maxRecDepth 20000 in
theorem b37_28 : z_blk 37 28 29 B37_28 = true := by decide +kernel
def B37_29 : List zOp := [(29, 1, .ireturn, [0], 0)]
set_option maxRecDepth 20000 in
theorem b37_29 : z_blk 37 29 30 B37_29 = true := by decide +kernel
-- 38 yX3_conclusionSet
def B38_0 : List zOp := [(0, 1, .iload_n 1, [], 0), (1, 3, .ifCond .lt 32, [33], 0), (4, 1, .iload_n 1, [], 0), (5, 1, .aload_n 0, [], 0), (6, 3, .getfield 37, [3, 8, 0], 0), (9, 3, .if_icmp .ge 24, [33], 0), (12, 1, .aload_n 0, [], 0), (13, 3, .getfield 18, [3, 2, 2], 0), (16, 1, .aload_n 0, [], 0), (17, 3, .getfield 34, [3, 7, 2], 0), (20, 1, .iload_n 1, [], 0), (21, 1, .iaload, [], 0), (22, 1, .iaload, [], 0), (23, 1, .aload_n 0, [], 0), (24, 3, .getfield 9, [3, 0, 0], 0), (27, 3, .invokestatic 68, [157, 2], 0), (30, 3, .goto 4, [34], 0)]
set_option maxRecDepth 20000 in
theorem b38_0 : z_blk 38 0 33 B38_0 = true := by decide +kernel
def B38_33 : List zOp := [(33, 1, .iconst (-1), [], 0)]
set_option maxRecDepth 20000 in
theorem b38_33 : z_blk 38 33 34 B38_33 = true := by decide +kernel
def B38_34 : List zOp := [(34, 1, .ireturn, [0], 0)]
set_option maxRecDepth 20000 in
theorem b38_34 : z_blk 38 34 35 B38_34 = true := by decide +kernel
-- 39 yX3_walkFrom
def B39_0 : List zOp := [(0, 1, .aload_n 0, [], 0), (1, 1, .iload_n 1, [], 0), (2, 1, .aload_n 0, [], 0), (3, 3, .getfield 9, [3, 0, 0], 0), (6, 3, .invokestatic 68, [157, 2], 0), (9, 3, .putfield 49, [3, 12, 0], 0), (12, 1, .aload_n 0, [], 0), (13, 1, .iconst 0, [], 0), (14, 3, .putfield 46, [3, 11, 0], 0), (17, 1, .aload_n 0, [], 0), (18, 3, .invokevirtual 81, [40, 0, 3], 0), (21, 1, .istore_n 2, [], 0)]
set_option maxRecDepth 20000 in
theorem b39_0 : z_blk 39 0 22 B39_0 = true := by decide +kernel
def B39_22 : List zOp := [(22, 1, .iload_n 2, [], 0), (23, 1, .iconst (-1), [], 0), (24, 3, .if_icmp .eq 60, [84], 0), (27, 1, .aload_n 0, [], 0), (28, 3, .getfield 46, [3, 11, 0], 0), (31, 2, .bipush 12, [], 0), (33, 3, .if_icmp .ge 51, [84], 0), (36, 1, .aload_n 0, [], 0), (37, 1, .dup, [], 0), (38, 3, .getfield 49, [3, 12, 0], 0), (41, 1, .aload_n 0, [], 0), (42, 3, .getfield 18, [3, 2, 2], 0), (45, 1, .aload_n 0, [], 0), (46, 3, .getfield 34, [3, 7, 2], 0), (49, 1, .iload_n 2, [], 0), (50, 1, .iaload, [], 0), (51, 1, .iaload, [], 0), (52, 1, .ior, [], 0), (53, 3, .putfield 49, [3, 12, 0], 0), (56, 1, .aload_n 0, [], 0), (57, 3, .getfield 43, [3, 10, 2], 0), (60, 1, .aload_n 0, [], 0), (61, 3, .getfield 46, [3, 11, 0], 0), (64, 1, .iload_n 2, [], 0), (65, 1, .iastore, [], 0), (66, 1, .aload_n 0, [], 0), (67, 1, .dup, [], 0), (68, 3, .getfield 46, [3, 11, 0], 0), (71, 1, .iconst 1, [], 0), (72, 1, .iadd, [], 0), (73, 3, .putfield 46, [3, 11, 0], 0), (76, 1, .aload_n 0, [], 0), (77, 3, .invokevirtual 81, [40, 0, 3], 0), (80, 1, .istore_n 2, [], 0), (81, 3, .goto (-59), [22], 0)]
set_option maxRecDepth 20000 in
theorem b39_22 : z_blk 39 22 84 B39_22 = true := by decide +kernel
def B39_84 : List zOp := [(84, 1, .return_, [], 0)]
set_option maxRecDepth 20000 in
theorem b39_84 : z_blk 39 84 85 B39_84 = true := by decide +kernel
-- 40 yX3_firstToAdd
def B40_0 : List zOp := [(0, 1, .iconst 0, [], 0), (1, 1, .istore_n 1, [], 0)]
set_option maxRecDepth 20000 in
theorem b40_0 : z_blk 40 0 2 B40_0 = true := by decide +kernel
def B40_2 : List zOp := [(2, 1, .iload_n 1, [], 0), (3, 1, .aload_n 0, [], 0), (4, 3, .getfield 37, [3, 8, 0], 0), (7, 3, .if_icmp .ge 45, [52], 0), (10, 1, .aload_n 0, [], 0), (11, 3, .getfield 34, [3, 7, 2], 0), (14, 1, .iload_n 1, [], 0), (15, 1, .iaload, [], 0), (16, 1, .istore_n 2, [], 0), (17, 1, .iload_n 2, [], 0), (18, 1, .aload_n 0, [], 0), (19, 3, .getfield 49, [3, 12, 0], 0), (22, 1, .iconst (-1), [], 0), (23, 1, .ixor, [], 0), (24, 1, .iand, [], 0), (25, 3, .ifCond .ne 21, [46], 0), (28, 1, .aload_n 0, [], 0), (29, 3, .getfield 18, [3, 2, 2], 0), (32, 1, .iload_n 2, [], 0), (33, 1, .iaload, [], 0), (34, 1, .aload_n 0, [], 0), (35, 3, .getfield 49, [3, 12, 0], 0), (38, 1, .iconst (-1), [], 0), (39, 1, .ixor, [], 0), (40, 1, .iand, [], 0), (41, 3, .ifCond .eq 5, [46], 0), (44, 1, .iload_n 1, [], 0), (45, 1, .ireturn, [0], 0)]
set_option maxRecDepth 20000 in
theorem b40_2 : z_blk 40 2 46 B40_2 = true := by decide +kernel
def B40_46 : List zOp := [(46, 3, .iinc 1 1, [], 0), (49, 3, .goto (-47), [2], 0)]
set_option maxRecDepth 20000 in
theorem b40_46 : z_blk 40 46 52 B40_46 = true := by decide +kernel
def B40_52 : List zOp := [(52, 1, .iconst (-1), [], 0), (53, 1, .ireturn, [0], 0)]
set_option maxRecDepth 20000 in
theorem b40_52 : z_blk 40 52 54 B40_52 = true := by decide +kernel
-- 41 yX3_reachedSet
def B41_0 : List zOp := [(0, 1, .aload_n 0, [], 0), (1, 3, .getfield 49, [3, 12, 0], 0), (4, 1, .aload_n 0, [], 0), (5, 3, .getfield 9, [3, 0, 0], 0), (8, 3, .invokestatic 68, [157, 2], 0), (11, 1, .ireturn, [0], 0)]
set_option maxRecDepth 20000 in
theorem b41_0 : z_blk 41 0 12 B41_0 = true := by decide +kernel
-- 42 yX3_stepRule
def B42_0 : List zOp := [(0, 1, .iload_n 2, [], 0), (1, 3, .ifCond .eq 24, [25], 0), (4, 1, .iload_n 1, [], 0), (5, 3, .ifCond .lt 20, [25], 0), (8, 1, .iload_n 1, [], 0), (9, 1, .aload_n 0, [], 0), (10, 3, .getfield 46, [3, 11, 0], 0), (13, 3, .if_icmp .ge 12, [25], 0), (16, 1, .aload_n 0, [], 0), (17, 3, .getfield 43, [3, 10, 2], 0), (20, 1, .iload_n 1, [], 0), (21, 1, .iaload, [], 0), (22, 3, .goto 4, [26], 0)]
set_option maxRecDepth 20000 in
theorem b42_0 : z_blk 42 0 25 B42_0 = true := by decide +kernel
def B42_25 : List zOp := [(25, 1, .iconst (-1), [], 0)]
set_option maxRecDepth 20000 in
theorem b42_25 : z_blk 42 25 26 B42_25 = true := by decide +kernel
def B42_26 : List zOp := [(26, 1, .ireturn, [0], 0)]
set_option maxRecDepth 20000 in
theorem b42_26 : z_blk 42 26 27 B42_26 = true := by decide +kernel
-- 43 yX4_init
def B43_0 : List zOp := [(0, 1, .aload_n 0, [], 0), (1, 3, .invokespecial 3, [999], 0), (4, 1, .aload_n 0, [], 0), (5, 3, .sipush 400, [], 0), (8, 2, .newarray .int, [13], 0), (10, 3, .putfield 9, [4, 0, 2], 0), (13, 1, .aload_n 0, [], 0), (14, 3, .sipush 400, [], 0), (17, 2, .newarray .int, [13], 0), (19, 3, .putfield 15, [4, 1, 2], 0), (22, 1, .aload_n 0, [], 0), (23, 3, .sipush 400, [], 0), (26, 2, .newarray .int, [13], 0), (28, 3, .putfield 18, [4, 2, 2], 0), (31, 1, .aload_n 0, [], 0), (32, 1, .iconst 0, [], 0), (33, 3, .putfield 21, [4, 3, 0], 0), (36, 1, .return_, [], 0)]
set_option maxRecDepth 20000 in
theorem b43_0 : z_blk 43 0 37 B43_0 = true := by decide +kernel
-- 44 yX4_takes
def B44_0 : List zOp := [(0, 1, .aload_n 0, [], 0), (1, 3, .getfield 21, [4, 3, 0], 0), (4, 3, .sipush 400, [], 0), (7, 3, .if_icmp .ge 29, [36], 0), (10, 1, .aload_n 0, [], 0), (11, 3, .getfield 21, [4, 3, 0], 0), (14, 3, .ifCond .eq 18, [32], 0), (17, 1, .iload_n 1, [], 0), (18, 1, .aload_n 0, [], 0), (19, 3, .getfield 18, [4, 2, 2], 0), (22, 1, .aload_n 0, [], 0), (23, 3, .getfield 21, [4, 3, 0], 0), (26, 1, .iconst 1, [], 0), (27, 1, .isub, [], 0), (28, 1, .iaload, [], 0), (29, 3, .if_icmp .lt 7, [36], 0)]
set_option maxRecDepth 20000 in
theorem b44_0 : z_blk 44 0 32 B44_0 = true := by decide +kernel
def B44_32 : List zOp := [(32, 1, .iconst 1, [], 0), (33, 3, .goto 4, [37], 0)]
set_option maxRecDepth 20000 in
theorem b44_32 : z_blk 44 32 36 B44_32 = true := by decide +kernel
def B44_36 : List zOp := [(36, 1, .iconst 0, [], 0)]
set_option maxRecDepth 20000 in
theorem b44_36 : z_blk 44 36 37 B44_36 = true := by decide +kernel
def B44_37 : List zOp := [(37, 1, .ireturn, [3], 0)]
set_option maxRecDepth 20000 in
theorem b44_37 : z_blk 44 37 38 B44_37 = true := by decide +kernel
-- 45 yX4_add
def B45_0 : List zOp := [(0, 1, .aload_n 0, [], 0), (1, 3, .getfield 21, [4, 3, 0], 0), (4, 3, .sipush 400, [], 0), (7, 3, .if_icmp .lt 4, [11], 0), (10, 1, .return_, [], 0)]
set_option maxRecDepth 20000 in
theorem b45_0 : z_blk 45 0 11 B45_0 = true := by decide +kernel
def B45_11 : List zOp := [(11, 1, .aload_n 0, [], 0), (12, 3, .getfield 9, [4, 0, 2], 0), (15, 1, .aload_n 0, [], 0), (16, 3, .getfield 21, [4, 3, 0], 0), (19, 1, .iload_n 1, [], 0), (20, 1, .iastore, [], 0), (21, 1, .aload_n 0, [], 0), (22, 3, .getfield 15, [4, 1, 2], 0), (25, 1, .aload_n 0, [], 0), (26, 3, .getfield 21, [4, 3, 0], 0), (29, 1, .iload_n 2, [], 0), (30, 1, .iastore, [], 0), (31, 1, .aload_n 0, [], 0), (32, 3, .getfield 18, [4, 2, 2], 0), (35, 1, .aload_n 0, [], 0), (36, 3, .getfield 21, [4, 3, 0], 0), (39, 1, .iload_n 3, [], 0), (40, 1, .iastore, [], 0), (41, 1, .aload_n 0, [], 0), (42, 1, .dup, [], 0), (43, 3, .getfield 21, [4, 3, 0], 0), (46, 1, .iconst 1, [], 0), (47, 1, .iadd, [], 0), (48, 3, .putfield 21, [4, 3, 0], 0), (51, 1, .return_, [], 0)]
set_option maxRecDepth 20000 in
theorem b45_11 : z_blk 45 11 52 B45_11 = true := by decide +kernel
-- 46 yX4_knownBy
def B46_0 : List zOp := [(0, 1, .aload_n 2, [], 0), (1, 1, .iconst (-1), [], 0), (2, 3, .invokestatic 25, [256, 2], 0), (5, 1, .iconst 0, [], 0), (6, 1, .istore_n 3, [], 0)]
set_option maxRecDepth 20000 in
theorem b46_0 : z_blk 46 0 7 B46_0 = true := by decide +kernel
def B46_7 : List zOp := [(7, 1, .iload_n 3, [], 0), (8, 1, .aload_n 0, [], 0), (9, 3, .getfield 21, [4, 3, 0], 0), (12, 3, .if_icmp .ge 33, [45], 0), (15, 1, .aload_n 0, [], 0), (16, 3, .getfield 18, [4, 2, 2], 0), (19, 1, .iload_n 3, [], 0), (20, 1, .iaload, [], 0), (21, 1, .iload_n 1, [], 0), (22, 3, .if_icmp .gt 23, [45], 0), (25, 1, .aload_n 2, [], 0), (26, 1, .aload_n 0, [], 0), (27, 3, .getfield 9, [4, 0, 2], 0), (30, 1, .iload_n 3, [], 0), (31, 1, .iaload, [], 0), (32, 1, .aload_n 0, [], 0), (33, 3, .getfield 15, [4, 1, 2], 0), (36, 1, .iload_n 3, [], 0), (37, 1, .iaload, [], 0), (38, 1, .iastore, [], 0), (39, 3, .iinc 3 1, [], 0), (42, 3, .goto (-35), [7], 0)]
set_option maxRecDepth 20000 in
theorem b46_7 : z_blk 46 7 45 B46_7 = true := by decide +kernel
def B46_45 : List zOp := [(45, 1, .return_, [], 0)]
set_option maxRecDepth 20000 in
theorem b46_45 : z_blk 46 45 46 B46_45 = true := by decide +kernel
-- 47 yX5_init
def B47_0 : List zOp := [(0, 1, .aload_n 0, [], 0), (1, 3, .invokespecial 3, [999], 0), (4, 1, .aload_n 0, [], 0), (5, 3, .sipush 800, [], 0), (8, 2, .newarray .int, [13], 0), (10, 3, .putfield 9, [5, 0, 2], 0), (13, 1, .aload_n 0, [], 0), (14, 1, .iconst 0, [], 0), (15, 3, .putfield 15, [5, 1, 0], 0), (18, 1, .aload_n 0, [], 0), (19, 2, .bipush 12, [], 0), (21, 2, .newarray .int, [13], 0), (23, 3, .putfield 19, [5, 2, 2], 0), (26, 1, .aload_n 0, [], 0), (27, 1, .iconst 0, [], 0), (28, 3, .putfield 22, [5, 3, 0], 0), (31, 1, .aload_n 0, [], 0), (32, 2, .bipush 40, [], 0), (34, 2, .newarray .int, [13], 0), (36, 3, .putfield 25, [5, 4, 2], 0), (39, 1, .aload_n 0, [], 0), (40, 1, .iconst 0, [], 0), (41, 3, .putfield 28, [5, 5, 0], 0), (44, 1, .aload_n 0, [], 0), (45, 1, .iconst 0, [], 0), (46, 3, .putfield 31, [5, 6, 3], 0), (49, 1, .return_, [], 0)]
set_option maxRecDepth 20000 in
theorem b47_0 : z_blk 47 0 50 B47_0 = true := by decide +kernel
-- 48 yX5_clear
def B48_0 : List zOp := [(0, 1, .aload_n 0, [], 0), (1, 1, .iconst 0, [], 0), (2, 3, .putfield 15, [5, 1, 0], 0), (5, 1, .aload_n 0, [], 0), (6, 1, .iconst 0, [], 0), (7, 3, .putfield 22, [5, 3, 0], 0), (10, 1, .return_, [], 0)]
set_option maxRecDepth 20000 in
theorem b48_0 : z_blk 48 0 11 B48_0 = true := by decide +kernel
-- 49 yX5_put
def B49_0 : List zOp := [(0, 1, .aload_n 0, [], 0), (1, 3, .getfield 15, [5, 1, 0], 0), (4, 3, .sipush 800, [], 0), (7, 3, .if_icmp .ge 27, [34], 0), (10, 1, .aload_n 0, [], 0), (11, 3, .getfield 9, [5, 0, 2], 0), (14, 1, .aload_n 0, [], 0), (15, 3, .getfield 15, [5, 1, 0], 0), (18, 1, .iload_n 2, [], 0), (19, 1, .iconst 5, [], 0), (20, 1, .ishl, [], 0), (21, 1, .iload_n 1, [], 0), (22, 1, .ior, [], 0), (23, 1, .iastore, [], 0), (24, 1, .aload_n 0, [], 0), (25, 1, .dup, [], 0), (26, 3, .getfield 15, [5, 1, 0], 0), (29, 1, .iconst 1, [], 0), (30, 1, .iadd, [], 0), (31, 3, .putfield 15, [5, 1, 0], 0)]
set_option maxRecDepth 20000 in
theorem b49_0 : z_blk 49 0 34 B49_0 = true := by decide +kernel
def B49_34 : List zOp := [(34, 1, .return_, [], 0)]
set_option maxRecDepth 20000 in
theorem b49_34 : z_blk 49 34 35 B49_34 = true := by decide +kernel
-- 50 yX5_endMark
def B50_0 : List zOp := [(0, 1, .aload_n 0, [], 0), (1, 3, .getfield 22, [5, 3, 0], 0), (4, 2, .bipush 12, [], 0), (6, 3, .if_icmp .ge 26, [32], 0), (9, 1, .aload_n 0, [], 0), (10, 3, .getfield 19, [5, 2, 2], 0), (13, 1, .aload_n 0, [], 0), (14, 3, .getfield 22, [5, 3, 0], 0), (17, 1, .aload_n 0, [], 0), (18, 3, .getfield 15, [5, 1, 0], 0), (21, 1, .iastore, [], 0), (22, 1, .aload_n 0, [], 0), (23, 1, .dup, [], 0), (24, 3, .getfield 22, [5, 3, 0], 0), (27, 1, .iconst 1, [], 0), (28, 1, .iadd, [], 0), (29, 3, .putfield 22, [5, 3, 0], 0)]
set_option maxRecDepth 20000 in
theorem b50_0 : z_blk 50 0 32 B50_0 = true := by decide +kernel
def B50_32 : List zOp := [(32, 1, .return_, [], 0)]
set_option maxRecDepth 20000 in
theorem b50_32 : z_blk 50 32 33 B50_32 = true := by decide +kernel
-- 51 yX5_truth
def B51_0 : List zOp := [(0, 1, .aload_n 0, [], 0), (1, 1, .iconst 0, [], 0), (2, 3, .putfield 28, [5, 5, 0], 0), (5, 1, .aload_n 0, [], 0), (6, 1, .iconst 0, [], 0), (7, 3, .putfield 31, [5, 6, 3], 0), (10, 1, .iload_n 1, [], 0), (11, 3, .ifCond .ne 7, [18], 0), (14, 1, .iconst 0, [], 0), (15, 3, .goto 11, [26], 0)]
set_option maxRecDepth 20000 in
theorem b51_0 : z_blk 51 0 18 B51_0 = true := by decide +kernel
def B51_18 : List zOp := [(18, 1, .aload_n 0, [], 0), (19, 3, .getfield 19, [5, 2, 2], 0), (22, 1, .iload_n 1, [], 0), (23, 1, .iconst 1, [], 0), (24, 1, .isub, [], 0), (25, 1, .iaload, [], 0)]
set_option maxRecDepth 20000 in
theorem b51_18 : z_blk 51 18 26 B51_18 = true := by decide +kernel
def B51_26 : List zOp := [(26, 1, .istore_n 3, [], 0), (27, 1, .iload_n 3, [], 0), (28, 2, .istore 4, [], 0)]
set_option maxRecDepth 20000 in
theorem b51_26 : z_blk 51 26 30 B51_26 = true := by decide +kernel
def B51_30 : List zOp := [(30, 2, .iload 4, [], 0), (32, 1, .aload_n 0, [], 0), (33, 3, .getfield 19, [5, 2, 2], 0), (36, 1, .iload_n 1, [], 0), (37, 1, .iaload, [], 0), (38, 3, .if_icmp .ge 33, [71], 0), (41, 1, .aload_n 0, [], 0), (42, 1, .aload_n 0, [], 0), (43, 3, .getfield 9, [5, 0, 2], 0), (46, 2, .iload 4, [], 0), (48, 1, .iaload, [], 0), (49, 2, .bipush 31, [], 0), (51, 1, .iand, [], 0), (52, 1, .aload_n 0, [], 0), (53, 3, .getfield 9, [5, 0, 2], 0), (56, 2, .iload 4, [], 0), (58, 1, .iaload, [], 0), (59, 1, .iconst 5, [], 0), (60, 1, .ishr, [], 0), (61, 1, .aload_n 2, [], 0), (62, 3, .invokevirtual 35, [52, 3, 5], 0), (65, 3, .iinc 4 1, [], 0), (68, 3, .goto (-38), [30], 0)]
set_option maxRecDepth 20000 in
theorem b51_30 : z_blk 51 30 71 B51_30 = true := by decide +kernel
def B51_71 : List zOp := [(71, 1, .aload_n 0, [], 0), (72, 3, .invokevirtual 39, [57, 0, 5], 0), (75, 1, .ireturn, [0], 0)]
set_option maxRecDepth 20000 in
theorem b51_71 : z_blk 51 71 76 B51_71 = true := by decide +kernel
-- 52 yX5_reckon
def B52_0 : List zOp := [(0, 1, .iload_n 1, [], 0), (1, 63, .tableswitch 158 6 17 #[137, 158, 158, 158, 158, 158, 158, 158, 123, 104, 71, 63], [159, 138, 159, 159, 159, 159, 159, 159, 159, 124, 105, 72, 64], 0)]
set_option maxRecDepth 20000 in
theorem b52_0 : z_blk 52 0 64 B52_0 = true := by decide +kernel
def B52_64 : List zOp := [(64, 1, .aload_n 0, [], 0), (65, 1, .iload_n 2, [], 0), (66, 3, .invokevirtual 43, [56, 1, 5], 0), (69, 3, .goto 155, [224], 0)]
set_option maxRecDepth 20000 in
theorem b52_64 : z_blk 52 64 72 B52_64 = true := by decide +kernel
def B52_72 : List zOp := [(72, 1, .aload_n 0, [], 0), (73, 1, .aload_n 0, [], 0), (74, 3, .getfield 31, [5, 6, 3], 0), (77, 3, .ifCond .ne 10, [87], 0), (80, 1, .aload_n 3, [], 0), (81, 1, .iload_n 2, [], 0), (82, 1, .iaload, [], 0), (83, 1, .iconst (-1), [], 0), (84, 3, .if_icmp .ne 7, [91], 0)]
set_option maxRecDepth 20000 in
theorem b52_72 : z_blk 52 72 87 B52_72 = true := by decide +kernel
def B52_87 : List zOp := [(87, 1, .iconst 1, [], 0), (88, 3, .goto 4, [92], 0)]
set_option maxRecDepth 20000 in
theorem b52_87 : z_blk 52 87 91 B52_87 = true := by decide +kernel
def B52_91 : List zOp := [(91, 1, .iconst 0, [], 0)]
set_option maxRecDepth 20000 in
theorem b52_91 : z_blk 52 91 92 B52_91 = true := by decide +kernel
def B52_92 : List zOp := [(92, 3, .putfield 31, [5, 6, 3], 0), (95, 1, .aload_n 0, [], 0), (96, 1, .aload_n 3, [], 0), (97, 1, .iload_n 2, [], 0), (98, 1, .iaload, [], 0), (99, 3, .invokevirtual 43, [56, 1, 5], 0), (102, 3, .goto 122, [224], 0)]
set_option maxRecDepth 20000 in
theorem b52_92 : z_blk 52 92 105 B52_92 = true := by decide +kernel
def B52_105 : List zOp := [(105, 1, .aload_n 0, [], 0), (106, 1, .aload_n 3, [], 0), (107, 1, .iload_n 2, [], 0), (108, 1, .iaload, [], 0), (109, 1, .iconst (-1), [], 0), (110, 3, .if_icmp .ne 7, [117], 0), (113, 1, .iconst 0, [], 0), (114, 3, .goto 4, [118], 0)]
set_option maxRecDepth 20000 in
theorem b52_105 : z_blk 52 105 117 B52_105 = true := by decide +kernel
def B52_117 : List zOp := [(117, 1, .iconst 1, [], 0)]
set_option maxRecDepth 20000 in
theorem b52_117 : z_blk 52 117 118 B52_117 = true := by decide +kernel
def B52_118 : List zOp := [(118, 3, .invokevirtual 43, [56, 1, 5], 0), (121, 3, .goto 103, [224], 0)]
set_option maxRecDepth 20000 in
theorem b52_118 : z_blk 52 118 124 B52_118 = true := by decide +kernel
def B52_124 : List zOp := [(124, 1, .aload_n 0, [], 0), (125, 1, .aload_n 0, [], 0), (126, 3, .invokevirtual 39, [57, 0, 5], 0), (129, 3, .invokestatic 47, [55, 1], 0), (132, 3, .invokevirtual 43, [56, 1, 5], 0), (135, 3, .goto 89, [224], 0)]
set_option maxRecDepth 20000 in
theorem b52_124 : z_blk 52 124 138 B52_124 = true := by decide +kernel
def B52_138 : List zOp := [(138, 1, .aload_n 0, [], 0), (139, 1, .iload_n 2, [], 0), (140, 3, .ifCond .ne 7, [147], 0), (143, 1, .iconst 0, [], 0), (144, 3, .goto 9, [153], 0)]
set_option maxRecDepth 20000 in
theorem b52_138 : z_blk 52 138 147 B52_138 = true := by decide +kernel
def B52_147 : List zOp := [(147, 1, .aload_n 0, [], 0), (148, 3, .invokevirtual 39, [57, 0, 5], 0), (151, 1, .iload_n 2, [], 0), (152, 1, .idiv, [], 0)]
set_option maxRecDepth 20000 in
theorem b52_147 : z_blk 52 147 153 B52_147 = true := by decide +kernel
def B52_153 : List zOp := [(153, 3, .invokevirtual 43, [56, 1, 5], 0), (156, 3, .goto 68, [224], 0)]
set_option maxRecDepth 20000 in
theorem b52_153 : z_blk 52 153 159 B52_153 = true := by decide +kernel
def B52_159 : List zOp := [(159, 1, .aload_n 0, [], 0), (160, 3, .invokevirtual 39, [57, 0, 5], 0), (163, 2, .istore 4, [], 0), (165, 1, .aload_n 0, [], 0), (166, 3, .invokevirtual 39, [57, 0, 5], 0), (169, 2, .istore 5, [], 0), (171, 1, .aload_n 0, [], 0), (172, 1, .aload_n 0, [], 0), (173, 3, .getfield 31, [5, 6, 3], 0), (176, 3, .ifCond .eq 14, [190], 0), (179, 1, .iload_n 1, [], 0), (180, 3, .invokestatic 51, [53, 1], 0), (183, 3, .ifCond .eq 7, [190], 0), (186, 1, .iconst 2, [], 0), (187, 3, .goto 11, [198], 0)]
set_option maxRecDepth 20000 in
theorem b52_159 : z_blk 52 159 190 B52_159 = true := by decide +kernel
def B52_190 : List zOp := [(190, 1, .iload_n 1, [], 0), (191, 2, .iload 5, [], 0), (193, 2, .iload 4, [], 0), (195, 3, .invokestatic 55, [54, 3], 0)]
set_option maxRecDepth 20000 in
theorem b52_190 : z_blk 52 190 198 B52_190 = true := by decide +kernel
def B52_198 : List zOp := [(198, 3, .invokevirtual 43, [56, 1, 5], 0), (201, 1, .aload_n 0, [], 0), (202, 1, .aload_n 0, [], 0), (203, 3, .getfield 31, [5, 6, 3], 0), (206, 3, .ifCond .eq 14, [220], 0), (209, 1, .iload_n 1, [], 0), (210, 3, .invokestatic 51, [53, 1], 0), (213, 3, .ifCond .ne 7, [220], 0), (216, 1, .iconst 1, [], 0), (217, 3, .goto 4, [221], 0)]
set_option maxRecDepth 20000 in
theorem b52_198 : z_blk 52 198 220 B52_198 = true := by decide +kernel
def B52_220 : List zOp := [(220, 1, .iconst 0, [], 0)]
set_option maxRecDepth 20000 in
theorem b52_220 : z_blk 52 220 221 B52_220 = true := by decide +kernel
def B52_221 : List zOp := [(221, 3, .putfield 31, [5, 6, 3], 0)]
set_option maxRecDepth 20000 in
theorem b52_221 : z_blk 52 221 224 B52_221 = true := by decide +kernel
def B52_224 : List zOp := [(224, 1, .return_, [], 0)]
set_option maxRecDepth 20000 in
theorem b52_224 : z_blk 52 224 225 B52_224 = true := by decide +kernel
-- 53 yX5_isComparison
def B53_0 : List zOp := [(0, 1, .iload_n 0, [], 0), (1, 2, .bipush 9, [], 0), (3, 3, .if_icmp .eq 15, [18], 0), (6, 1, .iload_n 0, [], 0), (7, 2, .bipush 10, [], 0), (9, 3, .if_icmp .eq 9, [18], 0), (12, 1, .iload_n 0, [], 0), (13, 2, .bipush 11, [], 0), (15, 3, .if_icmp .ne 7, [22], 0)]
set_option maxRecDepth 20000 in
theorem b53_0 : z_blk 53 0 18 B53_0 = true := by decide +kernel
def B53_18 : List zOp := [(18, 1, .iconst 1, [], 0), (19, 3, .goto 4, [23], 0)]
set_option maxRecDepth 20000 in
theorem b53_18 : z_blk 53 18 22 B53_18 = true := by decide +kernel
def B53_22 : List zOp := [(22, 1, .iconst 0, [], 0)]
set_option maxRecDepth 20000 in
theorem b53_22 : z_blk 53 22 23 B53_22 = true := by decide +kernel
def B53_23 : List zOp := [(23, 1, .ireturn, [3], 0)]
set_option maxRecDepth 20000 in
theorem b53_23 : z_blk 53 23 24 B53_23 = true := by decide +kernel
-- 54 yX5_joined
def B54_0 : List zOp := [(0, 1, .iload_n 0, [], 0), (1, 59, .tableswitch 122 3 13 #[92, 96, 100, 122, 122, 122, 59, 70, 81, 122, 104], [123, 93, 97, 101, 123, 123, 123, 60, 71, 82, 123, 105], 0)]
set_option maxRecDepth 20000 in
theorem b54_0 : z_blk 54 0 60 B54_0 = true := by decide +kernel
def B54_60 : List zOp := [(60, 1, .iload_n 1, [], 0), (61, 1, .iload_n 2, [], 0), (62, 3, .if_icmp .ge 7, [69], 0), (65, 1, .iconst 1, [], 0), (66, 3, .goto 4, [70], 0)]
set_option maxRecDepth 20000 in
theorem b54_60 : z_blk 54 60 69 B54_60 = true := by decide +kernel
def B54_69 : List zOp := [(69, 1, .iconst 0, [], 0)]
set_option maxRecDepth 20000 in
theorem b54_69 : z_blk 54 69 70 B54_69 = true := by decide +kernel
def B54_70 : List zOp := [(70, 1, .ireturn, [0], 0)]
set_option maxRecDepth 20000 in
theorem b54_70 : z_blk 54 70 71 B54_70 = true := by decide +kernel
def B54_71 : List zOp := [(71, 1, .iload_n 1, [], 0), (72, 1, .iload_n 2, [], 0), (73, 3, .if_icmp .ne 7, [80], 0), (76, 1, .iconst 1, [], 0), (77, 3, .goto 4, [81], 0)]
set_option maxRecDepth 20000 in
theorem b54_71 : z_blk 54 71 80 B54_71 = true := by decide +kernel
def B54_80 : List zOp := [(80, 1, .iconst 0, [], 0)]
set_option maxRecDepth 20000 in
theorem b54_80 : z_blk 54 80 81 B54_80 = true := by decide +kernel
def B54_81 : List zOp := [(81, 1, .ireturn, [0], 0)]
set_option maxRecDepth 20000 in
theorem b54_81 : z_blk 54 81 82 B54_81 = true := by decide +kernel
def B54_82 : List zOp := [(82, 1, .iload_n 1, [], 0), (83, 1, .iload_n 2, [], 0), (84, 3, .if_icmp .le 7, [91], 0), (87, 1, .iconst 1, [], 0), (88, 3, .goto 4, [92], 0)]
set_option maxRecDepth 20000 in
theorem b54_82 : z_blk 54 82 91 B54_82 = true := by decide +kernel
def B54_91 : List zOp := [(91, 1, .iconst 0, [], 0)]
set_option maxRecDepth 20000 in
theorem b54_91 : z_blk 54 91 92 B54_91 = true := by decide +kernel
def B54_92 : List zOp := [(92, 1, .ireturn, [0], 0)]
set_option maxRecDepth 20000 in
theorem b54_92 : z_blk 54 92 93 B54_92 = true := by decide +kernel
def B54_93 : List zOp := [(93, 1, .iload_n 1, [], 0), (94, 1, .iload_n 2, [], 0), (95, 1, .iadd, [], 0), (96, 1, .ireturn, [0], 0)]
set_option maxRecDepth 20000 in
theorem b54_93 : z_blk 54 93 97 B54_93 = true := by decide +kernel
def B54_97 : List zOp := [(97, 1, .iload_n 1, [], 0), (98, 1, .iload_n 2, [], 0), (99, 1, .isub, [], 0), (100, 1, .ireturn, [0], 0)]
set_option maxRecDepth 20000 in
theorem b54_97 : z_blk 54 97 101 B54_97 = true := by decide +kernel
def B54_101 : List zOp := [(101, 1, .iload_n 1, [], 0), (102, 1, .iload_n 2, [], 0), (103, 1, .imul, [], 0), (104, 1, .ireturn, [0], 0)]
set_option maxRecDepth 20000 in
theorem b54_101 : z_blk 54 101 105 B54_101 = true := by decide +kernel
def B54_105 : List zOp := [(105, 1, .iload_n 1, [], 0), (106, 3, .ifCond .eq 7, [113], 0), (109, 1, .iload_n 2, [], 0), (110, 3, .ifCond .ne 7, [117], 0)]
set_option maxRecDepth 20000 in
theorem b54_105 : z_blk 54 105 113 B54_105 = true := by decide +kernel
def B54_113 : List zOp := [(113, 1, .iconst 0, [], 0), (114, 3, .goto 8, [122], 0)]
set_option maxRecDepth 20000 in
theorem b54_113 : z_blk 54 113 117 B54_113 = true := by decide +kernel
def B54_117 : List zOp := [(117, 1, .iload_n 1, [], 0), (118, 1, .iload_n 2, [], 0), (119, 3, .invokestatic 61, [245], 0)]
set_option maxRecDepth 20000 in
theorem b54_117 : z_blk 54 117 122 B54_117 = true := by decide +kernel
def B54_122 : List zOp := [(122, 1, .ireturn, [0], 0)]
set_option maxRecDepth 20000 in
theorem b54_122 : z_blk 54 122 123 B54_122 = true := by decide +kernel
def B54_123 : List zOp := [(123, 1, .iload_n 1, [], 0), (124, 1, .iconst 1, [], 0), (125, 3, .if_icmp .eq 8, [133], 0), (128, 1, .iload_n 2, [], 0), (129, 1, .iconst 1, [], 0), (130, 3, .if_icmp .ne 7, [137], 0)]
set_option maxRecDepth 20000 in
theorem b54_123 : z_blk 54 123 133 B54_123 = true := by decide +kernel
def B54_133 : List zOp := [(133, 1, .iconst 1, [], 0), (134, 3, .goto 8, [142], 0)]
set_option maxRecDepth 20000 in
theorem b54_133 : z_blk 54 133 137 B54_133 = true := by decide +kernel
def B54_137 : List zOp := [(137, 1, .iload_n 1, [], 0), (138, 1, .iload_n 2, [], 0), (139, 3, .invokestatic 61, [245], 0)]
set_option maxRecDepth 20000 in
theorem b54_137 : z_blk 54 137 142 B54_137 = true := by decide +kernel
def B54_142 : List zOp := [(142, 1, .ireturn, [0], 0)]
set_option maxRecDepth 20000 in
theorem b54_142 : z_blk 54 142 143 B54_142 = true := by decide +kernel
-- 55 yX5_notOf
def B55_0 : List zOp := [(0, 1, .iload_n 0, [], 0), (1, 1, .iconst 2, [], 0), (2, 3, .if_icmp .ne 7, [9], 0), (5, 1, .iconst 2, [], 0), (6, 3, .goto 6, [12], 0)]
set_option maxRecDepth 20000 in
theorem b55_0 : z_blk 55 0 9 B55_0 = true := by decide +kernel
def B55_9 : List zOp := [(9, 1, .iconst 1, [], 0), (10, 1, .iload_n 0, [], 0), (11, 1, .isub, [], 0)]
set_option maxRecDepth 20000 in
theorem b55_9 : z_blk 55 9 12 B55_9 = true := by decide +kernel
def B55_12 : List zOp := [(12, 1, .ireturn, [0], 0)]
set_option maxRecDepth 20000 in
theorem b55_12 : z_blk 55 12 13 B55_12 = true := by decide +kernel
-- 56 yX5_push
def B56_0 : List zOp := [(0, 1, .aload_n 0, [], 0), (1, 3, .getfield 28, [5, 5, 0], 0), (4, 2, .bipush 40, [], 0), (6, 3, .if_icmp .ge 23, [29], 0), (9, 1, .aload_n 0, [], 0), (10, 3, .getfield 25, [5, 4, 2], 0), (13, 1, .aload_n 0, [], 0), (14, 3, .getfield 28, [5, 5, 0], 0), (17, 1, .iload_n 1, [], 0), (18, 1, .iastore, [], 0), (19, 1, .aload_n 0, [], 0), (20, 1, .dup, [], 0), (21, 3, .getfield 28, [5, 5, 0], 0), (24, 1, .iconst 1, [], 0), (25, 1, .iadd, [], 0), (26, 3, .putfield 28, [5, 5, 0], 0)]
set_option maxRecDepth 20000 in
theorem b56_0 : z_blk 56 0 29 B56_0 = true := by decide +kernel
def B56_29 : List zOp := [(29, 1, .return_, [], 0)]
set_option maxRecDepth 20000 in
theorem b56_29 : z_blk 56 29 30 B56_29 = true := by decide +kernel
-- 57 yX5_pop
def B57_0 : List zOp := [(0, 1, .aload_n 0, [], 0), (1, 3, .getfield 28, [5, 5, 0], 0), (4, 3, .ifCond .gt 5, [9], 0), (7, 1, .iconst 0, [], 0), (8, 1, .ireturn, [0], 0)]
set_option maxRecDepth 20000 in
theorem b57_0 : z_blk 57 0 9 B57_0 = true := by decide +kernel
def B57_9 : List zOp := [(9, 1, .aload_n 0, [], 0), (10, 1, .dup, [], 0), (11, 3, .getfield 28, [5, 5, 0], 0), (14, 1, .iconst 1, [], 0), (15, 1, .isub, [], 0), (16, 3, .putfield 28, [5, 5, 0], 0), (19, 1, .aload_n 0, [], 0), (20, 3, .getfield 25, [5, 4, 2], 0), (23, 1, .aload_n 0, [], 0), (24, 3, .getfield 28, [5, 5, 0], 0), (27, 1, .iaload, [], 0), (28, 1, .ireturn, [0], 0)]
set_option maxRecDepth 20000 in
theorem b57_9 : z_blk 57 9 29 B57_9 = true := by decide +kernel
-- 58 yX6_init
def B58_0 : List zOp := [(0, 1, .aload_n 0, [], 0), (1, 3, .invokespecial 3, [999], 0), (4, 1, .aload_n 0, [], 0), (5, 3, .new 9, [9, 8], 0), (8, 1, .dup, [], 0), (9, 3, .invokespecial 11, [105, 0], 0), (12, 3, .putfield 12, [6, 0, 2], 0), (15, 1, .aload_n 0, [], 0), (16, 3, .new 18, [5, 7], 0), (19, 1, .dup, [], 0), (20, 3, .invokespecial 20, [47, 0], 0), (23, 3, .putfield 21, [6, 1, 2], 0), (26, 1, .aload_n 0, [], 0), (27, 1, .iconst 0, [], 0), (28, 3, .putfield 25, [6, 2, 0], 0), (31, 1, .aload_n 0, [], 0), (32, 1, .iconst (-1), [], 0), (33, 3, .putfield 29, [6, 3, 0], 0), (36, 1, .return_, [], 0)]
set_option maxRecDepth 20000 in
theorem b58_0 : z_blk 58 0 37 B58_0 = true := by decide +kernel
-- 59 yX6_readText
def B59_0 : List zOp := [(0, 1, .aload_n 0, [], 0), (1, 3, .getfield 21, [6, 1, 2], 0), (4, 3, .invokevirtual 32, [48, 0, 5], 0), (7, 1, .aload_n 0, [], 0), (8, 1, .iconst 0, [], 0), (9, 3, .putfield 25, [6, 2, 0], 0), (12, 1, .aload_n 0, [], 0), (13, 1, .iconst (-1), [], 0), (14, 3, .putfield 29, [6, 3, 0], 0), (17, 1, .aload_n 0, [], 0), (18, 3, .getfield 12, [6, 0, 2], 0), (21, 1, .aload_n 1, [], 0), (22, 1, .iload_n 2, [], 0), (23, 3, .invokevirtual 35, [106, 2, 9], 0), (26, 1, .iconst 0, [], 0), (27, 1, .istore_n 3, [], 0)]
set_option maxRecDepth 20000 in
theorem b59_0 : z_blk 59 0 28 B59_0 = true := by decide +kernel
def B59_28 : List zOp := [(28, 1, .iload_n 3, [], 0), (29, 2, .bipush 12, [], 0), (31, 3, .if_icmp .gt 72, [103], 0), (34, 1, .aload_n 0, [], 0), (35, 3, .getfield 12, [6, 0, 2], 0), (38, 3, .getfield 39, [9, 5, 0], 0), (41, 3, .ifCond .eq 62, [103], 0), (44, 1, .iload_n 3, [], 0), (45, 2, .bipush 12, [], 0), (47, 3, .if_icmp .ne 9, [56], 0), (50, 1, .aload_n 0, [], 0), (51, 1, .iconst 3, [], 0), (52, 3, .invokevirtual 42, [71, 1, 6], 0), (55, 1, .ireturn, [3], 0)]
set_option maxRecDepth 20000 in
theorem b59_28 : z_blk 59 28 56 B59_28 = true := by decide +kernel
def B59_56 : List zOp := [(56, 1, .aload_n 0, [], 0), (57, 1, .iconst 0, [], 0), (58, 3, .invokevirtual 46, [61, 1, 6], 0), (61, 3, .ifCond .ne 5, [66], 0), (64, 1, .iconst 0, [], 0), (65, 1, .ireturn, [3], 0)]
set_option maxRecDepth 20000 in
theorem b59_56 : z_blk 59 56 66 B59_56 = true := by decide +kernel
def B59_66 : List zOp := [(66, 1, .aload_n 0, [], 0), (67, 3, .getfield 12, [6, 0, 2], 0), (70, 3, .getfield 39, [9, 5, 0], 0), (73, 1, .iconst 2, [], 0), (74, 3, .if_icmp .eq 9, [83], 0), (77, 1, .aload_n 0, [], 0), (78, 1, .iconst 1, [], 0), (79, 3, .invokevirtual 42, [71, 1, 6], 0), (82, 1, .ireturn, [3], 0)]
set_option maxRecDepth 20000 in
theorem b59_66 : z_blk 59 66 83 B59_66 = true := by decide +kernel
def B59_83 : List zOp := [(83, 1, .aload_n 0, [], 0), (84, 3, .getfield 21, [6, 1, 2], 0), (87, 3, .invokevirtual 49, [50, 0, 5], 0), (90, 1, .aload_n 0, [], 0), (91, 3, .getfield 12, [6, 0, 2], 0), (94, 3, .invokevirtual 52, [107, 0, 9], 0), (97, 3, .iinc 3 1, [], 0), (100, 3, .goto (-72), [28], 0)]
set_option maxRecDepth 20000 in
theorem b59_83 : z_blk 59 83 103 B59_83 = true := by decide +kernel
def B59_103 : List zOp := [(103, 1, .iconst 1, [], 0), (104, 1, .ireturn, [3], 0)]
set_option maxRecDepth 20000 in
theorem b59_103 : z_blk 59 103 105 B59_103 = true := by decide +kernel
-- 60 yX6_exchange
def B60_0 : List zOp := [(0, 1, .aload_n 0, [], 0), (1, 3, .getfield 21, [6, 1, 2], 0), (4, 1, .astore_n 2, [], 0), (5, 1, .aload_n 0, [], 0), (6, 1, .aload_n 1, [], 0), (7, 3, .putfield 21, [6, 1, 2], 0), (10, 1, .aload_n 2, [], 0), (11, 1, .areturn, [], 0)]
set_option maxRecDepth 20000 in
theorem b60_0 : z_blk 60 0 12 B60_0 = true := by decide +kernel
-- 61 yX6_readClaims
def B61_0 : List zOp := [(0, 1, .aload_n 0, [], 0), (1, 1, .iload_n 1, [], 0), (2, 3, .invokevirtual 55, [62, 1, 6], 0), (5, 3, .ifCond .ne 5, [10], 0), (8, 1, .iconst 0, [], 0), (9, 1, .ireturn, [3], 0)]
set_option maxRecDepth 20000 in
theorem b61_0 : z_blk 61 0 10 B61_0 = true := by decide +kernel
def B61_10 : List zOp := [(10, 1, .iconst 0, [], 0), (11, 1, .istore_n 2, [], 0), (12, 1, .iconst 0, [], 0), (13, 1, .istore_n 3, [], 0)]
set_option maxRecDepth 20000 in
theorem b61_10 : z_blk 61 10 14 B61_10 = true := by decide +kernel
def B61_14 : List zOp := [(14, 1, .iload_n 3, [], 0), (15, 3, .sipush 800, [], 0), (18, 3, .if_icmp .ge 118, [136], 0), (21, 1, .aload_n 0, [], 0), (22, 3, .getfield 12, [6, 0, 2], 0), (25, 3, .getfield 39, [9, 5, 0], 0), (28, 2, .bipush 12, [], 0), (30, 3, .if_icmp .eq 15, [45], 0), (33, 1, .aload_n 0, [], 0), (34, 3, .getfield 12, [6, 0, 2], 0), (37, 3, .getfield 39, [9, 5, 0], 0), (40, 2, .bipush 13, [], 0), (42, 3, .if_icmp .ne 94, [136], 0)]
set_option maxRecDepth 20000 in
theorem b61_14 : z_blk 61 14 45 B61_14 = true := by decide +kernel
def B61_45 : List zOp := [(45, 1, .aload_n 0, [], 0), (46, 3, .getfield 12, [6, 0, 2], 0), (49, 3, .getfield 39, [9, 5, 0], 0), (52, 2, .bipush 12, [], 0), (54, 3, .if_icmp .ne 7, [61], 0), (57, 1, .iconst 1, [], 0), (58, 3, .goto 4, [62], 0)]
set_option maxRecDepth 20000 in
theorem b61_45 : z_blk 61 45 61 B61_45 = true := by decide +kernel
def B61_61 : List zOp := [(61, 1, .iconst 0, [], 0)]
set_option maxRecDepth 20000 in
theorem b61_61 : z_blk 61 61 62 B61_61 = true := by decide +kernel
def B61_62 : List zOp := [(62, 2, .istore 4, [], 0), (64, 2, .iload 4, [], 0), (66, 3, .ifCond .eq 17, [83], 0), (69, 1, .iload_n 2, [], 0), (70, 3, .ifCond .eq 13, [83], 0), (73, 1, .aload_n 0, [], 0), (74, 3, .getfield 21, [6, 1, 2], 0), (77, 2, .bipush 12, [], 0), (79, 1, .iconst 0, [], 0), (80, 3, .invokevirtual 58, [49, 2, 5], 0)]
set_option maxRecDepth 20000 in
theorem b61_62 : z_blk 61 62 83 B61_62 = true := by decide +kernel
def B61_83 : List zOp := [(83, 1, .iload_n 2, [], 0), (84, 3, .ifCond .ne 8, [92], 0), (87, 2, .iload 4, [], 0), (89, 3, .ifCond .eq 7, [96], 0)]
set_option maxRecDepth 20000 in
theorem b61_83 : z_blk 61 83 92 B61_83 = true := by decide +kernel
def B61_92 : List zOp := [(92, 1, .iconst 1, [], 0), (93, 3, .goto 4, [97], 0)]
set_option maxRecDepth 20000 in
theorem b61_92 : z_blk 61 92 96 B61_92 = true := by decide +kernel
def B61_96 : List zOp := [(96, 1, .iconst 0, [], 0)]
set_option maxRecDepth 20000 in
theorem b61_96 : z_blk 61 96 97 B61_96 = true := by decide +kernel
def B61_97 : List zOp := [(97, 1, .istore_n 2, [], 0), (98, 1, .aload_n 0, [], 0), (99, 3, .getfield 12, [6, 0, 2], 0), (102, 3, .invokevirtual 52, [107, 0, 9], 0), (105, 1, .aload_n 0, [], 0), (106, 1, .iload_n 1, [], 0), (107, 3, .invokevirtual 55, [62, 1, 6], 0), (110, 3, .ifCond .ne 5, [115], 0), (113, 1, .iconst 0, [], 0), (114, 1, .ireturn, [3], 0)]
set_option maxRecDepth 20000 in
theorem b61_97 : z_blk 61 97 115 B61_97 = true := by decide +kernel
def B61_115 : List zOp := [(115, 2, .iload 4, [], 0), (117, 3, .ifCond .ne 13, [130], 0), (120, 1, .aload_n 0, [], 0), (121, 3, .getfield 21, [6, 1, 2], 0), (124, 2, .bipush 13, [], 0), (126, 1, .iconst 0, [], 0), (127, 3, .invokevirtual 58, [49, 2, 5], 0)]
set_option maxRecDepth 20000 in
theorem b61_115 : z_blk 61 115 130 B61_115 = true := by decide +kernel
def B61_130 : List zOp := [(130, 3, .iinc 3 1, [], 0), (133, 3, .goto (-119), [14], 0)]
set_option maxRecDepth 20000 in
theorem b61_130 : z_blk 61 130 136 B61_130 = true := by decide +kernel
def B61_136 : List zOp := [(136, 1, .iload_n 2, [], 0), (137, 3, .ifCond .eq 13, [150], 0), (140, 1, .aload_n 0, [], 0), (141, 3, .getfield 21, [6, 1, 2], 0), (144, 2, .bipush 12, [], 0), (146, 1, .iconst 0, [], 0), (147, 3, .invokevirtual 58, [49, 2, 5], 0)]
set_option maxRecDepth 20000 in
theorem b61_136 : z_blk 61 136 150 B61_136 = true := by decide +kernel
def B61_150 : List zOp := [(150, 1, .iconst 1, [], 0), (151, 1, .ireturn, [3], 0)]
set_option maxRecDepth 20000 in
theorem b61_150 : z_blk 61 150 152 B61_150 = true := by decide +kernel
-- 62 yX6_readClaim
def B62_0 : List zOp := [(0, 1, .aload_n 0, [], 0), (1, 3, .getfield 12, [6, 0, 2], 0), (4, 3, .getfield 39, [9, 5, 0], 0), (7, 1, .istore_n 2, [], 0), (8, 1, .iload_n 2, [], 0), (9, 2, .bipush 15, [], 0), (11, 3, .if_icmp .ne 8, [19], 0), (14, 1, .aload_n 0, [], 0), (15, 3, .invokevirtual 62, [65, 0, 6], 0), (18, 1, .ireturn, [3], 0)]
set_option maxRecDepth 20000 in
theorem b62_0 : z_blk 62 0 19 B62_0 = true := by decide +kernel
def B62_19 : List zOp := [(19, 1, .iload_n 2, [], 0), (20, 2, .bipush 14, [], 0), (22, 3, .if_icmp .eq 14, [36], 0), (25, 1, .iload_n 2, [], 0), (26, 2, .bipush 7, [], 0), (28, 3, .if_icmp .eq 8, [36], 0), (31, 1, .aload_n 0, [], 0), (32, 3, .invokevirtual 66, [66, 0, 6], 0), (35, 1, .ireturn, [3], 0)]
set_option maxRecDepth 20000 in
theorem b62_19 : z_blk 62 19 36 B62_19 = true := by decide +kernel
def B62_36 : List zOp := [(36, 1, .iload_n 1, [], 0), (37, 2, .bipush 8, [], 0), (39, 3, .if_icmp .lt 9, [48], 0), (42, 1, .aload_n 0, [], 0), (43, 1, .iconst 3, [], 0), (44, 3, .invokevirtual 42, [71, 1, 6], 0), (47, 1, .ireturn, [3], 0)]
set_option maxRecDepth 20000 in
theorem b62_36 : z_blk 62 36 48 B62_36 = true := by decide +kernel
def B62_48 : List zOp := [(48, 1, .aload_n 0, [], 0), (49, 3, .getfield 12, [6, 0, 2], 0), (52, 3, .invokevirtual 52, [107, 0, 9], 0), (55, 1, .iload_n 2, [], 0), (56, 2, .bipush 14, [], 0), (58, 3, .if_icmp .ne 13, [71], 0), (61, 1, .aload_n 0, [], 0), (62, 1, .iload_n 1, [], 0), (63, 1, .iconst 1, [], 0), (64, 1, .iadd, [], 0), (65, 3, .invokevirtual 69, [63, 1, 6], 0), (68, 3, .goto 10, [78], 0)]
set_option maxRecDepth 20000 in
theorem b62_48 : z_blk 62 48 71 B62_48 = true := by decide +kernel
def B62_71 : List zOp := [(71, 1, .aload_n 0, [], 0), (72, 1, .iload_n 1, [], 0), (73, 1, .iconst 1, [], 0), (74, 1, .iadd, [], 0), (75, 3, .invokevirtual 72, [64, 1, 6], 0)]
set_option maxRecDepth 20000 in
theorem b62_71 : z_blk 62 71 78 B62_71 = true := by decide +kernel
def B62_78 : List zOp := [(78, 1, .ireturn, [3], 0)]
set_option maxRecDepth 20000 in
theorem b62_78 : z_blk 62 78 79 B62_78 = true := by decide +kernel
-- 63 yX6_readNegated
def B63_0 : List zOp := [(0, 1, .aload_n 0, [], 0), (1, 1, .iload_n 1, [], 0), (2, 3, .invokevirtual 55, [62, 1, 6], 0), (5, 3, .ifCond .ne 5, [10], 0), (8, 1, .iconst 0, [], 0), (9, 1, .ireturn, [3], 0)]
set_option maxRecDepth 20000 in
theorem b63_0 : z_blk 63 0 10 B63_0 = true := by decide +kernel
def B63_10 : List zOp := [(10, 1, .aload_n 0, [], 0), (11, 3, .getfield 21, [6, 1, 2], 0), (14, 2, .bipush 14, [], 0), (16, 1, .iconst 0, [], 0), (17, 3, .invokevirtual 58, [49, 2, 5], 0), (20, 1, .iconst 1, [], 0), (21, 1, .ireturn, [3], 0)]
set_option maxRecDepth 20000 in
theorem b63_10 : z_blk 63 10 22 B63_10 = true := by decide +kernel
-- 64 yX6_readBracketed
def B64_0 : List zOp := [(0, 1, .aload_n 0, [], 0), (1, 1, .iload_n 1, [], 0), (2, 3, .invokevirtual 46, [61, 1, 6], 0), (5, 3, .ifCond .ne 5, [10], 0), (8, 1, .iconst 0, [], 0), (9, 1, .ireturn, [3], 0)]
set_option maxRecDepth 20000 in
theorem b64_0 : z_blk 64 0 10 B64_0 = true := by decide +kernel
def B64_10 : List zOp := [(10, 1, .aload_n 0, [], 0), (11, 3, .getfield 12, [6, 0, 2], 0), (14, 3, .getfield 39, [9, 5, 0], 0), (17, 2, .bipush 8, [], 0), (19, 3, .if_icmp .eq 9, [28], 0), (22, 1, .aload_n 0, [], 0), (23, 1, .iconst 1, [], 0), (24, 3, .invokevirtual 42, [71, 1, 6], 0), (27, 1, .ireturn, [3], 0)]
set_option maxRecDepth 20000 in
theorem b64_10 : z_blk 64 10 28 B64_10 = true := by decide +kernel
def B64_28 : List zOp := [(28, 1, .aload_n 0, [], 0), (29, 3, .getfield 12, [6, 0, 2], 0), (32, 3, .invokevirtual 52, [107, 0, 9], 0), (35, 1, .iconst 1, [], 0), (36, 1, .ireturn, [3], 0)]
set_option maxRecDepth 20000 in
theorem b64_28 : z_blk 64 28 37 B64_28 = true := by decide +kernel
-- 65 yX6_readKnown
def B65_0 : List zOp := [(0, 1, .aload_n 0, [], 0), (1, 3, .getfield 12, [6, 0, 2], 0), (4, 3, .invokevirtual 52, [107, 0, 9], 0), (7, 1, .aload_n 0, [], 0), (8, 3, .getfield 12, [6, 0, 2], 0), (11, 3, .getfield 39, [9, 5, 0], 0), (14, 2, .bipush 16, [], 0), (16, 3, .if_icmp .eq 9, [25], 0), (19, 1, .aload_n 0, [], 0), (20, 1, .iconst 1, [], 0), (21, 3, .invokevirtual 42, [71, 1, 6], 0), (24, 1, .ireturn, [3], 0)]
set_option maxRecDepth 20000 in
theorem b65_0 : z_blk 65 0 25 B65_0 = true := by decide +kernel
def B65_25 : List zOp := [(25, 1, .aload_n 0, [], 0), (26, 3, .getfield 21, [6, 1, 2], 0), (29, 2, .bipush 15, [], 0), (31, 1, .aload_n 0, [], 0), (32, 3, .getfield 12, [6, 0, 2], 0), (35, 3, .getfield 75, [9, 7, 0], 0), (38, 3, .invokevirtual 58, [49, 2, 5], 0), (41, 1, .aload_n 0, [], 0), (42, 3, .getfield 12, [6, 0, 2], 0), (45, 3, .invokevirtual 52, [107, 0, 9], 0), (48, 1, .iconst 1, [], 0), (49, 1, .ireturn, [3], 0)]
set_option maxRecDepth 20000 in
theorem b65_25 : z_blk 65 25 50 B65_25 = true := by decide +kernel
-- 66 yX6_readComparison
def B66_0 : List zOp := [(0, 1, .aload_n 0, [], 0), (1, 3, .invokevirtual 78, [67, 0, 6], 0), (4, 3, .ifCond .ne 5, [9], 0), (7, 1, .iconst 0, [], 0), (8, 1, .ireturn, [3], 0)]
set_option maxRecDepth 20000 in
theorem b66_0 : z_blk 66 0 9 B66_0 = true := by decide +kernel
def B66_9 : List zOp := [(9, 1, .aload_n 0, [], 0), (10, 3, .getfield 12, [6, 0, 2], 0), (13, 3, .getfield 39, [9, 5, 0], 0), (16, 1, .istore_n 1, [], 0), (17, 1, .iload_n 1, [], 0), (18, 3, .invokestatic 81, [53, 1], 0), (21, 3, .ifCond .ne 9, [30], 0), (24, 1, .aload_n 0, [], 0), (25, 1, .iconst 1, [], 0), (26, 3, .invokevirtual 42, [71, 1, 6], 0), (29, 1, .ireturn, [3], 0)]
set_option maxRecDepth 20000 in
theorem b66_9 : z_blk 66 9 30 B66_9 = true := by decide +kernel
def B66_30 : List zOp := [(30, 1, .aload_n 0, [], 0), (31, 3, .getfield 12, [6, 0, 2], 0), (34, 3, .invokevirtual 52, [107, 0, 9], 0), (37, 1, .aload_n 0, [], 0), (38, 3, .invokevirtual 78, [67, 0, 6], 0), (41, 3, .ifCond .ne 5, [46], 0), (44, 1, .iconst 0, [], 0), (45, 1, .ireturn, [3], 0)]
set_option maxRecDepth 20000 in
theorem b66_30 : z_blk 66 30 46 B66_30 = true := by decide +kernel
def B66_46 : List zOp := [(46, 1, .aload_n 0, [], 0), (47, 3, .getfield 21, [6, 1, 2], 0), (50, 1, .iload_n 1, [], 0), (51, 1, .iconst 0, [], 0), (52, 3, .invokevirtual 58, [49, 2, 5], 0), (55, 1, .iconst 1, [], 0), (56, 1, .ireturn, [3], 0)]
set_option maxRecDepth 20000 in
theorem b66_46 : z_blk 66 46 57 B66_46 = true := by decide +kernel
-- 67 yX6_readSum
def B67_0 : List zOp := [(0, 1, .aload_n 0, [], 0), (1, 3, .invokevirtual 84, [70, 0, 6], 0), (4, 3, .ifCond .ne 5, [9], 0), (7, 1, .iconst 0, [], 0), (8, 1, .ireturn, [3], 0)]
set_option maxRecDepth 20000 in
theorem b67_0 : z_blk 67 0 9 B67_0 = true := by decide +kernel
def B67_9 : List zOp := [(9, 1, .iconst (-1), [], 0), (10, 1, .istore_n 1, [], 0), (11, 1, .iconst 0, [], 0), (12, 1, .istore_n 2, [], 0)]
set_option maxRecDepth 20000 in
theorem b67_9 : z_blk 67 9 13 B67_9 = true := by decide +kernel
def B67_13 : List zOp := [(13, 1, .iload_n 2, [], 0), (14, 3, .sipush 800, [], 0), (17, 3, .if_icmp .ge 123, [140], 0), (20, 1, .aload_n 0, [], 0), (21, 3, .getfield 12, [6, 0, 2], 0), (24, 3, .getfield 39, [9, 5, 0], 0), (27, 3, .invokestatic 87, [68, 1], 0), (30, 3, .ifCond .eq 110, [140], 0), (33, 1, .aload_n 0, [], 0), (34, 3, .getfield 12, [6, 0, 2], 0), (37, 3, .getfield 39, [9, 5, 0], 0), (40, 1, .istore_n 3, [], 0), (41, 1, .iload_n 3, [], 0), (42, 1, .iconst 3, [], 0), (43, 3, .if_icmp .eq 8, [51], 0), (46, 1, .iload_n 3, [], 0), (47, 1, .iconst 4, [], 0), (48, 3, .if_icmp .ne 7, [55], 0)]
set_option maxRecDepth 20000 in
theorem b67_13 : z_blk 67 13 51 B67_13 = true := by decide +kernel
def B67_51 : List zOp := [(51, 1, .iconst 1, [], 0), (52, 3, .goto 4, [56], 0)]
set_option maxRecDepth 20000 in
theorem b67_51 : z_blk 67 51 55 B67_51 = true := by decide +kernel
def B67_55 : List zOp := [(55, 1, .iconst 0, [], 0)]
set_option maxRecDepth 20000 in
theorem b67_55 : z_blk 67 55 56 B67_55 = true := by decide +kernel
def B67_56 : List zOp := [(56, 2, .istore 4, [], 0), (58, 2, .iload 4, [], 0), (60, 3, .ifCond .eq 17, [77], 0), (63, 1, .iload_n 1, [], 0), (64, 1, .iconst (-1), [], 0), (65, 3, .if_icmp .eq 12, [77], 0), (68, 1, .aload_n 0, [], 0), (69, 3, .getfield 21, [6, 1, 2], 0), (72, 1, .iload_n 1, [], 0), (73, 1, .iconst 0, [], 0), (74, 3, .invokevirtual 58, [49, 2, 5], 0)]
set_option maxRecDepth 20000 in
theorem b67_56 : z_blk 67 56 77 B67_56 = true := by decide +kernel
def B67_77 : List zOp := [(77, 2, .iload 4, [], 0), (79, 3, .ifCond .eq 7, [86], 0), (82, 1, .iload_n 3, [], 0), (83, 3, .goto 4, [87], 0)]
set_option maxRecDepth 20000 in
theorem b67_77 : z_blk 67 77 86 B67_77 = true := by decide +kernel
def B67_86 : List zOp := [(86, 1, .iload_n 1, [], 0)]
set_option maxRecDepth 20000 in
theorem b67_86 : z_blk 67 86 87 B67_86 = true := by decide +kernel
def B67_87 : List zOp := [(87, 1, .istore_n 1, [], 0), (88, 1, .aload_n 0, [], 0), (89, 3, .getfield 12, [6, 0, 2], 0), (92, 3, .invokevirtual 52, [107, 0, 9], 0), (95, 1, .iload_n 3, [], 0), (96, 2, .bipush 6, [], 0), (98, 3, .if_icmp .ne 13, [111], 0), (101, 1, .aload_n 0, [], 0), (102, 3, .invokevirtual 90, [69, 0, 6], 0), (105, 3, .ifCond .eq 13, [118], 0), (108, 3, .goto 12, [120], 0)]
set_option maxRecDepth 20000 in
theorem b67_87 : z_blk 67 87 111 B67_87 = true := by decide +kernel
def B67_111 : List zOp := [(111, 1, .aload_n 0, [], 0), (112, 3, .invokevirtual 84, [70, 0, 6], 0), (115, 3, .ifCond .ne 5, [120], 0)]
set_option maxRecDepth 20000 in
theorem b67_111 : z_blk 67 111 118 B67_111 = true := by decide +kernel
def B67_118 : List zOp := [(118, 1, .iconst 0, [], 0), (119, 1, .ireturn, [3], 0)]
set_option maxRecDepth 20000 in
theorem b67_118 : z_blk 67 118 120 B67_118 = true := by decide +kernel
def B67_120 : List zOp := [(120, 1, .iload_n 3, [], 0), (121, 1, .iconst 5, [], 0), (122, 3, .if_icmp .ne 12, [134], 0), (125, 1, .aload_n 0, [], 0), (126, 3, .getfield 21, [6, 1, 2], 0), (129, 1, .iload_n 3, [], 0), (130, 1, .iconst 0, [], 0), (131, 3, .invokevirtual 58, [49, 2, 5], 0)]
set_option maxRecDepth 20000 in
theorem b67_120 : z_blk 67 120 134 B67_120 = true := by decide +kernel
def B67_134 : List zOp := [(134, 3, .iinc 2 1, [], 0), (137, 3, .goto (-124), [13], 0)]
set_option maxRecDepth 20000 in
theorem b67_134 : z_blk 67 134 140 B67_134 = true := by decide +kernel
def B67_140 : List zOp := [(140, 1, .iload_n 1, [], 0), (141, 1, .iconst (-1), [], 0), (142, 3, .if_icmp .eq 12, [154], 0), (145, 1, .aload_n 0, [], 0), (146, 3, .getfield 21, [6, 1, 2], 0), (149, 1, .iload_n 1, [], 0), (150, 1, .iconst 0, [], 0), (151, 3, .invokevirtual 58, [49, 2, 5], 0)]
set_option maxRecDepth 20000 in
theorem b67_140 : z_blk 67 140 154 B67_140 = true := by decide +kernel
def B67_154 : List zOp := [(154, 1, .iconst 1, [], 0), (155, 1, .ireturn, [3], 0)]
set_option maxRecDepth 20000 in
theorem b67_154 : z_blk 67 154 156 B67_154 = true := by decide +kernel
-- 68 yX6_isArithmetic
def B68_0 : List zOp := [(0, 1, .iload_n 0, [], 0), (1, 1, .iconst 3, [], 0), (2, 3, .if_icmp .eq 19, [21], 0), (5, 1, .iload_n 0, [], 0), (6, 1, .iconst 4, [], 0), (7, 3, .if_icmp .eq 14, [21], 0), (10, 1, .iload_n 0, [], 0), (11, 1, .iconst 5, [], 0), (12, 3, .if_icmp .eq 9, [21], 0), (15, 1, .iload_n 0, [], 0), (16, 2, .bipush 6, [], 0), (18, 3, .if_icmp .ne 7, [25], 0)]
set_option maxRecDepth 20000 in
theorem b68_0 : z_blk 68 0 21 B68_0 = true := by decide +kernel
def B68_21 : List zOp := [(21, 1, .iconst 1, [], 0), (22, 3, .goto 4, [26], 0)]
set_option maxRecDepth 20000 in
theorem b68_21 : z_blk 68 21 25 B68_21 = true := by decide +kernel
def B68_25 : List zOp := [(25, 1, .iconst 0, [], 0)]
set_option maxRecDepth 20000 in
theorem b68_25 : z_blk 68 25 26 B68_25 = true := by decide +kernel
def B68_26 : List zOp := [(26, 1, .ireturn, [3], 0)]
set_option maxRecDepth 20000 in
theorem b68_26 : z_blk 68 26 27 B68_26 = true := by decide +kernel
-- 69 yX6_readDivisor
def B69_0 : List zOp := [(0, 1, .aload_n 0, [], 0), (1, 3, .getfield 12, [6, 0, 2], 0), (4, 3, .getfield 39, [9, 5, 0], 0), (7, 2, .bipush 17, [], 0), (9, 3, .if_icmp .eq 9, [18], 0), (12, 1, .aload_n 0, [], 0), (13, 1, .iconst 1, [], 0), (14, 3, .invokevirtual 42, [71, 1, 6], 0), (17, 1, .ireturn, [3], 0)]
set_option maxRecDepth 20000 in
theorem b69_0 : z_blk 69 0 18 B69_0 = true := by decide +kernel
def B69_18 : List zOp := [(18, 1, .aload_n 0, [], 0), (19, 3, .getfield 12, [6, 0, 2], 0), (22, 3, .getfield 75, [9, 7, 0], 0), (25, 3, .ifCond .ne 9, [34], 0), (28, 1, .aload_n 0, [], 0), (29, 1, .iconst 2, [], 0), (30, 3, .invokevirtual 42, [71, 1, 6], 0), (33, 1, .ireturn, [3], 0)]
set_option maxRecDepth 20000 in
theorem b69_18 : z_blk 69 18 34 B69_18 = true := by decide +kernel
def B69_34 : List zOp := [(34, 1, .aload_n 0, [], 0), (35, 3, .getfield 21, [6, 1, 2], 0), (38, 2, .bipush 6, [], 0), (40, 1, .aload_n 0, [], 0), (41, 3, .getfield 12, [6, 0, 2], 0), (44, 3, .getfield 75, [9, 7, 0], 0), (47, 3, .invokevirtual 58, [49, 2, 5], 0), (50, 1, .aload_n 0, [], 0), (51, 3, .getfield 12, [6, 0, 2], 0), (54, 3, .invokevirtual 52, [107, 0, 9], 0), (57, 1, .iconst 1, [], 0), (58, 1, .ireturn, [3], 0)]
set_option maxRecDepth 20000 in
theorem b69_34 : z_blk 69 34 59 B69_34 = true := by decide +kernel
-- 70 yX6_readUnit
def B70_0 : List zOp := [(0, 1, .aload_n 0, [], 0), (1, 3, .getfield 12, [6, 0, 2], 0), (4, 3, .getfield 39, [9, 5, 0], 0), (7, 2, .bipush 17, [], 0), (9, 3, .if_icmp .eq 21, [30], 0), (12, 1, .aload_n 0, [], 0), (13, 3, .getfield 12, [6, 0, 2], 0), (16, 3, .getfield 39, [9, 5, 0], 0), (19, 2, .bipush 16, [], 0), (21, 3, .if_icmp .eq 9, [30], 0), (24, 1, .aload_n 0, [], 0), (25, 1, .iconst 1, [], 0), (26, 3, .invokevirtual 42, [71, 1, 6], 0), (29, 1, .ireturn, [3], 0)]
set_option maxRecDepth 20000 in
theorem b70_0 : z_blk 70 0 30 B70_0 = true := by decide +kernel
def B70_30 : List zOp := [(30, 1, .aload_n 0, [], 0), (31, 3, .getfield 21, [6, 1, 2], 0), (34, 1, .aload_n 0, [], 0), (35, 3, .getfield 12, [6, 0, 2], 0), (38, 3, .getfield 39, [9, 5, 0], 0), (41, 1, .aload_n 0, [], 0), (42, 3, .getfield 12, [6, 0, 2], 0), (45, 3, .getfield 75, [9, 7, 0], 0), (48, 3, .invokevirtual 58, [49, 2, 5], 0), (51, 1, .aload_n 0, [], 0), (52, 3, .getfield 12, [6, 0, 2], 0), (55, 3, .invokevirtual 52, [107, 0, 9], 0), (58, 1, .iconst 1, [], 0), (59, 1, .ireturn, [3], 0)]
set_option maxRecDepth 20000 in
theorem b70_30 : z_blk 70 30 60 B70_30 = true := by decide +kernel
-- 71 yX6_refuse
def B71_0 : List zOp := [(0, 1, .aload_n 0, [], 0), (1, 1, .iload_n 1, [], 0), (2, 3, .putfield 25, [6, 2, 0], 0), (5, 1, .aload_n 0, [], 0), (6, 1, .aload_n 0, [], 0), (7, 3, .getfield 12, [6, 0, 2], 0), (10, 3, .getfield 93, [9, 6, 0], 0), (13, 3, .putfield 29, [6, 3, 0], 0), (16, 1, .iconst 0, [], 0), (17, 1, .ireturn, [3], 0)]
set_option maxRecDepth 20000 in
theorem b71_0 : z_blk 71 0 18 B71_0 = true := by decide +kernel
-- 72 yX7_init
def B72_0 : List zOp := [(0, 1, .aload_n 0, [], 0), (1, 3, .invokespecial 5, [999], 0), (4, 1, .aload_n 0, [], 0), (5, 1, .iconst (-1), [], 0), (6, 3, .putfield 11, [7, 0, 0], 0), (9, 1, .aload_n 0, [], 0), (10, 1, .iconst 0, [], 0), (11, 3, .putfield 15, [7, 1, 0], 0), (14, 1, .aload_n 0, [], 0), (15, 1, .iconst 0, [], 0), (16, 3, .putfield 18, [7, 2, 0], 0), (19, 1, .aload_n 0, [], 0), (20, 1, .iconst 0, [], 0), (21, 3, .putfield 21, [7, 3, 0], 0), (24, 1, .aload_n 0, [], 0), (25, 1, .iconst 0, [], 0), (26, 3, .putfield 24, [7, 4, 0], 0), (29, 1, .aload_n 0, [], 0), (30, 2, .bipush 16, [], 0), (32, 2, .newarray .int, [13], 0), (34, 3, .putfield 27, [7, 5, 2], 0), (37, 1, .aload_n 0, [], 0), (38, 2, .bipush 12, [], 0), (40, 2, .newarray .int, [13], 0), (42, 3, .putfield 31, [7, 6, 2], 0), (45, 1, .aload_n 0, [], 0), (46, 1, .iconst 0, [], 0), (47, 3, .putfield 34, [7, 7, 0], 0), (50, 1, .aload_n 0, [], 0), (51, 2, .bipush 16, [], 0), (53, 2, .newarray .int, [13], 0), (55, 3, .putfield 37, [7, 8, 2], 0), (58, 1, .aload_n 0, [], 0), (59, 1, .iconst 0, [], 0), (60, 2, .newarray .long, [14], 0), (62, 3, .putfield 40, [7, 9, 2], 0), (65, 1, .aload_n 0, [], 0), (66, 1, .lconst 0, [], 0), (67, 3, .putfield 44, [7, 10, 1], 0), (70, 1, .return_, [], 0)]
set_option maxRecDepth 20000 in
theorem b72_0 : z_blk 72 0 71 B72_0 = true := by decide +kernel
-- 73 yX7_prepare
def B73_0 : List zOp := [(0, 1, .aload_n 0, [], 0), (1, 3, .getfield 11, [7, 0, 0], 0), (4, 1, .aload_n 1, [], 0), (5, 3, .getfield 48, [8, 10, 0], 0), (8, 3, .if_icmp .ne 29, [37], 0), (11, 1, .aload_n 0, [], 0), (12, 3, .getfield 15, [7, 1, 0], 0), (15, 1, .iload_n 2, [], 0), (16, 3, .if_icmp .ne 21, [37], 0), (19, 1, .aload_n 0, [], 0), (20, 3, .getfield 18, [7, 2, 0], 0), (23, 1, .iload_n 3, [], 0), (24, 3, .if_icmp .ne 13, [37], 0), (27, 1, .aload_n 0, [], 0), (28, 3, .getfield 21, [7, 3, 0], 0), (31, 2, .iload 4, [], 0), (33, 3, .if_icmp .ne 4, [37], 0), (36, 1, .return_, [], 0)]
set_option maxRecDepth 20000 in
theorem b73_0 : z_blk 73 0 37 B73_0 = true := by decide +kernel
def B73_37 : List zOp := [(37, 1, .aload_n 0, [], 0), (38, 1, .aload_n 1, [], 0), (39, 3, .getfield 48, [8, 10, 0], 0), (42, 3, .putfield 11, [7, 0, 0], 0), (45, 1, .aload_n 0, [], 0), (46, 1, .iload_n 2, [], 0), (47, 3, .putfield 15, [7, 1, 0], 0), (50, 1, .aload_n 0, [], 0), (51, 1, .iload_n 3, [], 0), (52, 3, .putfield 18, [7, 2, 0], 0), (55, 1, .aload_n 0, [], 0), (56, 2, .iload 4, [], 0), (58, 3, .putfield 21, [7, 3, 0], 0), (61, 1, .aload_n 0, [], 0), (62, 1, .iload_n 3, [], 0), (63, 1, .aload_n 0, [], 0), (64, 3, .getfield 27, [7, 5, 2], 0), (67, 3, .invokestatic 53, [158, 2], 0), (70, 3, .putfield 24, [7, 4, 0], 0), (73, 1, .aload_n 0, [], 0), (74, 1, .aload_n 1, [], 0), (75, 1, .iload_n 2, [], 0), (76, 2, .iload 4, [], 0), (78, 3, .invokevirtual 57, [74, 3, 7], 0), (81, 1, .aload_n 0, [], 0), (82, 3, .invokevirtual 61, [77, 0, 7], 0), (85, 1, .aload_n 0, [], 0), (86, 3, .getfield 40, [7, 9, 2], 0), (89, 1, .arraylength, [], 0), (90, 1, .iconst 1, [], 0), (91, 1, .aload_n 0, [], 0), (92, 3, .getfield 24, [7, 4, 0], 0), (95, 1, .ishl, [], 0), (96, 3, .if_icmp .ge 15, [111], 0), (99, 1, .aload_n 0, [], 0), (100, 1, .iconst 1, [], 0), (101, 1, .aload_n 0, [], 0), (102, 3, .getfield 24, [7, 4, 0], 0), (105, 1, .ishl, [], 0), (106, 2, .newarray .long, [14], 0), (108, 3, .putfield 40, [7, 9, 2], 0)]
set_option maxRecDepth 20000 in
theorem b73_37 : z_blk 73 37 111 B73_37 = true := by decide +kernel
def B73_111 : List zOp := [(111, 1, .aload_n 0, [], 0), (112, 1, .aload_n 0, [], 0), (113, 3, .getfield 44, [7, 10, 1], 0), (116, 1, .lconst 1, [], 0), (117, 1, .ladd, [], 0), (118, 3, .ldc2_w 64, [], 524287), (121, 1, .land, [], 0), (122, 3, .putfield 44, [7, 10, 1], 0), (125, 1, .return_, [], 0)]
set_option maxRecDepth 20000 in
theorem b73_111 : z_blk 73 111 126 B73_111 = true := by decide +kernel
-- 74 yX7_listBlocks
def B74_0 : List zOp := [(0, 1, .aload_n 0, [], 0), (1, 1, .iconst 0, [], 0), (2, 3, .putfield 34, [7, 7, 0], 0), (5, 1, .iconst 0, [], 0), (6, 2, .istore 4, [], 0)]
set_option maxRecDepth 20000 in
theorem b74_0 : z_blk 74 0 8 B74_0 = true := by decide +kernel
def B74_8 : List zOp := [(8, 2, .iload 4, [], 0), (10, 2, .bipush 12, [], 0), (12, 3, .if_icmp .ge 84, [96], 0), (15, 1, .iload_n 3, [], 0), (16, 1, .iconst 1, [], 0), (17, 2, .iload 4, [], 0), (19, 1, .ishl, [], 0), (20, 1, .iand, [], 0), (21, 3, .ifCond .ne 7, [28], 0), (24, 1, .iconst 0, [], 0), (25, 3, .goto 11, [36], 0)]
set_option maxRecDepth 20000 in
theorem b74_8 : z_blk 74 8 28 B74_8 = true := by decide +kernel
def B74_28 : List zOp := [(28, 1, .aload_n 0, [], 0), (29, 1, .aload_n 1, [], 0), (30, 1, .iload_n 2, [], 0), (31, 2, .iload 4, [], 0), (33, 3, .invokevirtual 66, [75, 3, 7], 0)]
set_option maxRecDepth 20000 in
theorem b74_28 : z_blk 74 28 36 B74_28 = true := by decide +kernel
def B74_36 : List zOp := [(36, 2, .istore 5, [], 0), (38, 2, .iload 5, [], 0), (40, 3, .invokestatic 70, [243, 1], 0), (43, 2, .istore 6, [], 0), (45, 2, .iload 6, [], 0), (47, 1, .iconst 1, [], 0), (48, 3, .if_icmp .le 42, [90], 0), (51, 2, .iload 6, [], 0), (53, 1, .aload_n 0, [], 0), (54, 3, .getfield 24, [7, 4, 0], 0), (57, 3, .if_icmp .ge 33, [90], 0), (60, 1, .aload_n 0, [], 0), (61, 2, .iload 5, [], 0), (63, 3, .invokevirtual 76, [76, 1, 7], 0), (66, 3, .ifCond .ne 24, [90], 0), (69, 1, .aload_n 0, [], 0), (70, 3, .getfield 31, [7, 6, 2], 0), (73, 1, .aload_n 0, [], 0), (74, 3, .getfield 34, [7, 7, 0], 0), (77, 2, .iload 5, [], 0), (79, 1, .iastore, [], 0), (80, 1, .aload_n 0, [], 0), (81, 1, .dup, [], 0), (82, 3, .getfield 34, [7, 7, 0], 0), (85, 1, .iconst 1, [], 0), (86, 1, .iadd, [], 0), (87, 3, .putfield 34, [7, 7, 0], 0)]
set_option maxRecDepth 20000 in
theorem b74_36 : z_blk 74 36 90 B74_36 = true := by decide +kernel
def B74_90 : List zOp := [(90, 3, .iinc 4 1, [], 0), (93, 3, .goto (-85), [8], 0)]
set_option maxRecDepth 20000 in
theorem b74_90 : z_blk 74 90 96 B74_90 = true := by decide +kernel
def B74_96 : List zOp := [(96, 1, .return_, [], 0)]
set_option maxRecDepth 20000 in
theorem b74_96 : z_blk 74 96 97 B74_96 = true := by decide +kernel
-- 75 yX7_havingAt
def B75_0 : List zOp := [(0, 1, .iconst 0, [], 0), (1, 2, .istore 4, [], 0), (3, 1, .iconst 0, [], 0), (4, 2, .istore 5, [], 0)]
set_option maxRecDepth 20000 in
theorem b75_0 : z_blk 75 0 6 B75_0 = true := by decide +kernel
def B75_6 : List zOp := [(6, 2, .iload 5, [], 0), (8, 1, .aload_n 0, [], 0), (9, 3, .getfield 24, [7, 4, 0], 0), (12, 3, .if_icmp .ge 33, [45], 0), (15, 2, .iload 4, [], 0), (17, 1, .aload_n 1, [], 0), (18, 1, .aload_n 0, [], 0), (19, 3, .getfield 27, [7, 5, 2], 0), (22, 2, .iload 5, [], 0), (24, 1, .iaload, [], 0), (25, 1, .iload_n 2, [], 0), (26, 3, .invokevirtual 80, [98, 2, 8], 0), (29, 1, .iload_n 3, [], 0), (30, 1, .ishr, [], 0), (31, 1, .iconst 1, [], 0), (32, 1, .iand, [], 0), (33, 2, .iload 5, [], 0), (35, 1, .ishl, [], 0), (36, 1, .ior, [], 0), (37, 2, .istore 4, [], 0), (39, 3, .iinc 5 1, [], 0), (42, 3, .goto (-36), [6], 0)]
set_option maxRecDepth 20000 in
theorem b75_6 : z_blk 75 6 45 B75_6 = true := by decide +kernel
def B75_45 : List zOp := [(45, 2, .iload 4, [], 0), (47, 1, .ireturn, [0], 0)]
set_option maxRecDepth 20000 in
theorem b75_45 : z_blk 75 45 48 B75_45 = true := by decide +kernel
-- 76 yX7_isBlock
def B76_0 : List zOp := [(0, 1, .iconst 0, [], 0), (1, 1, .istore_n 2, [], 0)]
set_option maxRecDepth 20000 in
theorem b76_0 : z_blk 76 0 2 B76_0 = true := by decide +kernel
def B76_2 : List zOp := [(2, 1, .iload_n 2, [], 0), (3, 1, .aload_n 0, [], 0), (4, 3, .getfield 34, [7, 7, 0], 0), (7, 3, .if_icmp .ge 21, [28], 0), (10, 1, .aload_n 0, [], 0), (11, 3, .getfield 31, [7, 6, 2], 0), (14, 1, .iload_n 2, [], 0), (15, 1, .iaload, [], 0), (16, 1, .iload_n 1, [], 0), (17, 3, .if_icmp .ne 5, [22], 0), (20, 1, .iconst 1, [], 0), (21, 1, .ireturn, [3], 0)]
set_option maxRecDepth 20000 in
theorem b76_2 : z_blk 76 2 22 B76_2 = true := by decide +kernel
def B76_22 : List zOp := [(22, 3, .iinc 2 1, [], 0), (25, 3, .goto (-23), [2], 0)]
set_option maxRecDepth 20000 in
theorem b76_22 : z_blk 76 22 28 B76_22 = true := by decide +kernel
def B76_28 : List zOp := [(28, 1, .iconst 0, [], 0), (29, 1, .ireturn, [3], 0)]
set_option maxRecDepth 20000 in
theorem b76_28 : z_blk 76 28 30 B76_28 = true := by decide +kernel
-- 77 yX7_listMates
def B77_0 : List zOp := [(0, 1, .iconst 0, [], 0), (1, 1, .istore_n 1, [], 0)]
set_option maxRecDepth 20000 in
theorem b77_0 : z_blk 77 0 2 B77_0 = true := by decide +kernel
def B77_2 : List zOp := [(2, 1, .iload_n 1, [], 0), (3, 1, .aload_n 0, [], 0), (4, 3, .getfield 24, [7, 4, 0], 0), (7, 3, .if_icmp .ge 70, [77], 0), (10, 1, .aload_n 0, [], 0), (11, 3, .invokevirtual 84, [78, 0, 7], 0), (14, 1, .istore_n 2, [], 0), (15, 1, .iconst 0, [], 0), (16, 1, .istore_n 3, [], 0)]
set_option maxRecDepth 20000 in
theorem b77_2 : z_blk 77 2 17 B77_2 = true := by decide +kernel
def B77_17 : List zOp := [(17, 1, .iload_n 3, [], 0), (18, 1, .aload_n 0, [], 0), (19, 3, .getfield 34, [7, 7, 0], 0), (22, 3, .if_icmp .ge 42, [64], 0), (25, 1, .iload_n 2, [], 0), (26, 1, .aload_n 0, [], 0), (27, 3, .getfield 31, [7, 6, 2], 0), (30, 1, .iload_n 3, [], 0), (31, 1, .iaload, [], 0), (32, 1, .iload_n 1, [], 0), (33, 1, .ishr, [], 0), (34, 1, .iconst 1, [], 0), (35, 1, .iand, [], 0), (36, 3, .ifCond .eq 12, [48], 0), (39, 1, .aload_n 0, [], 0), (40, 3, .getfield 31, [7, 6, 2], 0), (43, 1, .iload_n 3, [], 0), (44, 1, .iaload, [], 0), (45, 3, .goto 11, [56], 0)]
set_option maxRecDepth 20000 in
theorem b77_17 : z_blk 77 17 48 B77_17 = true := by decide +kernel
def B77_48 : List zOp := [(48, 1, .aload_n 0, [], 0), (49, 3, .getfield 31, [7, 6, 2], 0), (52, 1, .iload_n 3, [], 0), (53, 1, .iaload, [], 0), (54, 1, .iconst (-1), [], 0), (55, 1, .ixor, [], 0)]
set_option maxRecDepth 20000 in
theorem b77_48 : z_blk 77 48 56 B77_48 = true := by decide +kernel
def B77_56 : List zOp := [(56, 1, .iand, [], 0), (57, 1, .istore_n 2, [], 0), (58, 3, .iinc 3 1, [], 0), (61, 3, .goto (-44), [17], 0)]
set_option maxRecDepth 20000 in
theorem b77_56 : z_blk 77 56 64 B77_56 = true := by decide +kernel
def B77_64 : List zOp := [(64, 1, .aload_n 0, [], 0), (65, 3, .getfield 37, [7, 8, 2], 0), (68, 1, .iload_n 1, [], 0), (69, 1, .iload_n 2, [], 0), (70, 1, .iastore, [], 0), (71, 3, .iinc 1 1, [], 0), (74, 3, .goto (-72), [2], 0)]
set_option maxRecDepth 20000 in
theorem b77_64 : z_blk 77 64 77 B77_64 = true := by decide +kernel
def B77_77 : List zOp := [(77, 1, .return_, [], 0)]
set_option maxRecDepth 20000 in
theorem b77_77 : z_blk 77 77 78 B77_77 = true := by decide +kernel
-- 78 yX7_all
def B78_0 : List zOp := [(0, 1, .iconst 1, [], 0), (1, 1, .aload_n 0, [], 0), (2, 3, .getfield 24, [7, 4, 0], 0), (5, 1, .ishl, [], 0), (6, 1, .iconst 1, [], 0), (7, 1, .isub, [], 0), (8, 1, .ireturn, [0], 0)]
set_option maxRecDepth 20000 in
theorem b78_0 : z_blk 78 0 9 B78_0 = true := by decide +kernel
-- 79 yX7_total
def B79_0 : List zOp := [(0, 1, .aload_n 0, [], 0), (1, 1, .iconst 0, [], 0), (2, 1, .iconst 0, [], 0), (3, 3, .invokevirtual 88, [82, 2, 7], 0), (6, 1, .lreturn, [], 0)]
set_option maxRecDepth 20000 in
theorem b79_0 : z_blk 79 0 7 B79_0 = true := by decide +kernel
-- 80 yX7_findAt
def B80_0 : List zOp := [(0, 1, .iload_n 3, [], 0), (1, 3, .ifCond .lt 26, [27], 0), (4, 1, .iload_n 3, [], 0), (5, 1, .aload_n 0, [], 0), (6, 3, .getfield 24, [7, 4, 0], 0), (9, 3, .if_icmp .ge 18, [27], 0), (12, 1, .lload_n 1, [], 0), (13, 1, .lconst 0, [], 0), (14, 1, .lcmp, [], 0), (15, 3, .ifCond .lt 12, [27], 0), (18, 1, .lload_n 1, [], 0), (19, 1, .aload_n 0, [], 0), (20, 3, .invokevirtual 92, [79, 0, 7], 0), (23, 1, .lcmp, [], 0), (24, 3, .ifCond .lt 5, [29], 0)]
set_option maxRecDepth 20000 in
theorem b80_0 : z_blk 80 0 27 B80_0 = true := by decide +kernel
def B80_27 : List zOp := [(27, 1, .iconst (-1), [], 0), (28, 1, .ireturn, [0], 0)]
set_option maxRecDepth 20000 in
theorem b80_27 : z_blk 80 27 29 B80_27 = true := by decide +kernel
def B80_29 : List zOp := [(29, 1, .lload_n 1, [], 0), (30, 2, .lstore 4, [], 0), (32, 1, .iconst 0, [], 0), (33, 2, .istore 6, [], 0), (35, 1, .iconst 0, [], 0), (36, 2, .istore 7, [], 0), (38, 1, .iconst (-1), [], 0), (39, 2, .istore 8, [], 0), (41, 1, .iconst 0, [], 0), (42, 2, .istore 9, [], 0)]
set_option maxRecDepth 20000 in
theorem b80_29 : z_blk 80 29 44 B80_29 = true := by decide +kernel
def B80_44 : List zOp := [(44, 2, .iload 9, [], 0), (46, 1, .iload_n 3, [], 0), (47, 3, .if_icmp .gt 124, [171], 0), (50, 1, .aload_n 0, [], 0), (51, 2, .iload 6, [], 0), (53, 3, .invokevirtual 96, [81, 1, 7], 0), (56, 2, .istore 10, [], 0), (58, 1, .iconst (-1), [], 0), (59, 2, .istore 8, [], 0), (61, 1, .iconst 0, [], 0), (62, 2, .istore 11, [], 0)]
set_option maxRecDepth 20000 in
theorem b80_44 : z_blk 80 44 64 B80_44 = true := by decide +kernel
def B80_64 : List zOp := [(64, 2, .iload 11, [], 0), (66, 1, .aload_n 0, [], 0), (67, 3, .getfield 24, [7, 4, 0], 0), (70, 3, .if_icmp .ge 95, [165], 0), (73, 2, .iload 8, [], 0), (75, 1, .iconst (-1), [], 0), (76, 3, .if_icmp .ne 89, [165], 0), (79, 2, .iload 10, [], 0), (81, 2, .iload 11, [], 0), (83, 1, .ishr, [], 0), (84, 1, .iconst 1, [], 0), (85, 1, .iand, [], 0), (86, 3, .ifCond .ne 6, [92], 0), (89, 3, .goto 70, [159], 0)]
set_option maxRecDepth 20000 in
theorem b80_64 : z_blk 80 64 92 B80_64 = true := by decide +kernel
def B80_92 : List zOp := [(92, 2, .iload 7, [], 0), (94, 1, .aload_n 0, [], 0), (95, 3, .getfield 37, [7, 8, 2], 0), (98, 2, .iload 11, [], 0), (100, 1, .iaload, [], 0), (101, 2, .iload 7, [], 0), (103, 1, .iconst (-1), [], 0), (104, 1, .ixor, [], 0), (105, 1, .iand, [], 0), (106, 3, .invokestatic 99, [84, 1], 0), (109, 1, .ior, [], 0), (110, 2, .istore 12, [], 0), (112, 1, .aload_n 0, [], 0), (113, 2, .iload 12, [], 0), (115, 2, .iload 9, [], 0), (117, 1, .iconst 1, [], 0), (118, 1, .iadd, [], 0), (119, 3, .invokevirtual 88, [82, 2, 7], 0), (122, 2, .lstore 13, [], 0), (124, 2, .lload 4, [], 0), (126, 2, .lload 13, [], 0), (128, 1, .lcmp, [], 0), (129, 3, .ifCond .ge 23, [152], 0), (132, 2, .iload 11, [], 0), (134, 2, .istore 8, [], 0), (136, 2, .iload 6, [], 0), (138, 1, .iconst 1, [], 0), (139, 2, .iload 11, [], 0), (141, 1, .ishl, [], 0), (142, 1, .ior, [], 0), (143, 2, .istore 6, [], 0), (145, 2, .iload 12, [], 0), (147, 2, .istore 7, [], 0), (149, 3, .goto 10, [159], 0)]
set_option maxRecDepth 20000 in
theorem b80_92 : z_blk 80 92 152 B80_92 = true := by decide +kernel
def B80_152 : List zOp := [(152, 2, .lload 4, [], 0), (154, 2, .lload 13, [], 0), (156, 1, .lsub, [], 0), (157, 2, .lstore 4, [], 0)]
set_option maxRecDepth 20000 in
theorem b80_152 : z_blk 80 152 159 B80_152 = true := by decide +kernel
def B80_159 : List zOp := [(159, 3, .iinc 11 1, [], 0), (162, 3, .goto (-98), [64], 0)]
set_option maxRecDepth 20000 in
theorem b80_159 : z_blk 80 159 165 B80_159 = true := by decide +kernel
def B80_165 : List zOp := [(165, 3, .iinc 9 1, [], 0), (168, 3, .goto (-124), [44], 0)]
set_option maxRecDepth 20000 in
theorem b80_165 : z_blk 80 165 171 B80_165 = true := by decide +kernel
def B80_171 : List zOp := [(171, 2, .iload 8, [], 0), (173, 1, .iconst (-1), [], 0), (174, 3, .if_icmp .ne 7, [181], 0), (177, 1, .iconst (-1), [], 0), (178, 3, .goto 10, [188], 0)]
set_option maxRecDepth 20000 in
theorem b80_171 : z_blk 80 171 181 B80_171 = true := by decide +kernel
def B80_181 : List zOp := [(181, 1, .aload_n 0, [], 0), (182, 3, .getfield 27, [7, 5, 2], 0), (185, 2, .iload 8, [], 0), (187, 1, .iaload, [], 0)]
set_option maxRecDepth 20000 in
theorem b80_181 : z_blk 80 181 188 B80_181 = true := by decide +kernel
def B80_188 : List zOp := [(188, 1, .ireturn, [0], 0)]
set_option maxRecDepth 20000 in
theorem b80_188 : z_blk 80 188 189 B80_188 = true := by decide +kernel
-- 81 yX7_openBehind
def B81_0 : List zOp := [(0, 1, .aload_n 0, [], 0), (1, 3, .invokevirtual 84, [78, 0, 7], 0), (4, 1, .iload_n 1, [], 0), (5, 1, .iconst (-1), [], 0), (6, 1, .ixor, [], 0), (7, 1, .iand, [], 0), (8, 1, .istore_n 2, [], 0), (9, 1, .iconst 0, [], 0), (10, 1, .istore_n 3, [], 0)]
set_option maxRecDepth 20000 in
theorem b81_0 : z_blk 81 0 11 B81_0 = true := by decide +kernel
def B81_11 : List zOp := [(11, 1, .iload_n 3, [], 0), (12, 1, .aload_n 0, [], 0), (13, 3, .getfield 34, [7, 7, 0], 0), (16, 3, .if_icmp .ge 42, [58], 0), (19, 1, .aload_n 0, [], 0), (20, 3, .getfield 31, [7, 6, 2], 0), (23, 1, .iload_n 3, [], 0), (24, 1, .iaload, [], 0), (25, 1, .iload_n 1, [], 0), (26, 1, .iand, [], 0), (27, 3, .ifCond .eq 25, [52], 0), (30, 1, .aload_n 0, [], 0), (31, 3, .getfield 31, [7, 6, 2], 0), (34, 1, .iload_n 3, [], 0), (35, 1, .iaload, [], 0), (36, 1, .iload_n 1, [], 0), (37, 1, .iconst (-1), [], 0), (38, 1, .ixor, [], 0), (39, 1, .iand, [], 0), (40, 3, .ifCond .eq 12, [52], 0), (43, 1, .iload_n 2, [], 0), (44, 1, .aload_n 0, [], 0), (45, 3, .getfield 31, [7, 6, 2], 0), (48, 1, .iload_n 3, [], 0), (49, 1, .iaload, [], 0), (50, 1, .iand, [], 0), (51, 1, .istore_n 2, [], 0)]
set_option maxRecDepth 20000 in
theorem b81_11 : z_blk 81 11 52 B81_11 = true := by decide +kernel
def B81_52 : List zOp := [(52, 3, .iinc 3 1, [], 0), (55, 3, .goto (-44), [11], 0)]
set_option maxRecDepth 20000 in
theorem b81_52 : z_blk 81 52 58 B81_52 = true := by decide +kernel
def B81_58 : List zOp := [(58, 1, .iload_n 2, [], 0), (59, 1, .ireturn, [0], 0)]
set_option maxRecDepth 20000 in
theorem b81_58 : z_blk 81 58 60 B81_58 = true := by decide +kernel
-- 82 yX7_countFrom
def B82_0 : List zOp := [(0, 1, .iload_n 1, [], 0), (1, 1, .aload_n 0, [], 0), (2, 3, .invokevirtual 84, [78, 0, 7], 0), (5, 3, .if_icmp .eq 11, [16], 0), (8, 1, .iload_n 2, [], 0), (9, 1, .aload_n 0, [], 0), (10, 3, .getfield 24, [7, 4, 0], 0), (13, 3, .if_icmp .lt 17, [30], 0)]
set_option maxRecDepth 20000 in
theorem b82_0 : z_blk 82 0 16 B82_0 = true := by decide +kernel
def B82_16 : List zOp := [(16, 1, .iload_n 1, [], 0), (17, 1, .aload_n 0, [], 0), (18, 3, .invokevirtual 84, [78, 0, 7], 0), (21, 3, .if_icmp .ne 7, [28], 0), (24, 1, .lconst 1, [], 0), (25, 3, .goto 4, [29], 0)]
set_option maxRecDepth 20000 in
theorem b82_16 : z_blk 82 16 28 B82_16 = true := by decide +kernel
def B82_28 : List zOp := [(28, 1, .lconst 0, [], 0)]
set_option maxRecDepth 20000 in
theorem b82_28 : z_blk 82 28 29 B82_28 = true := by decide +kernel
def B82_29 : List zOp := [(29, 1, .lreturn, [], 0)]
set_option maxRecDepth 20000 in
theorem b82_29 : z_blk 82 29 30 B82_29 = true := by decide +kernel
def B82_30 : List zOp := [(30, 1, .aload_n 0, [], 0), (31, 3, .getfield 40, [7, 9, 2], 0), (34, 1, .iload_n 1, [], 0), (35, 1, .laload, [], 0), (36, 2, .bipush 45, [], 0), (38, 1, .lushr, [], 0), (39, 1, .aload_n 0, [], 0), (40, 3, .getfield 44, [7, 10, 1], 0), (43, 1, .lcmp, [], 0), (44, 3, .ifCond .ne 14, [58], 0), (47, 1, .aload_n 0, [], 0), (48, 3, .getfield 40, [7, 9, 2], 0), (51, 1, .iload_n 1, [], 0), (52, 1, .laload, [], 0), (53, 3, .ldc2_w 102, [], 35184372088831), (56, 1, .land, [], 0), (57, 1, .lreturn, [], 0)]
set_option maxRecDepth 20000 in
theorem b82_30 : z_blk 82 30 58 B82_30 = true := by decide +kernel
def B82_58 : List zOp := [(58, 1, .lconst 0, [], 0), (59, 1, .lstore_n 3, [], 0), (60, 1, .aload_n 0, [], 0), (61, 1, .iload_n 1, [], 0), (62, 3, .invokevirtual 96, [81, 1, 7], 0), (65, 2, .istore 5, [], 0), (67, 1, .iconst 0, [], 0), (68, 2, .istore 6, [], 0)]
set_option maxRecDepth 20000 in
theorem b82_58 : z_blk 82 58 70 B82_58 = true := by decide +kernel
def B82_70 : List zOp := [(70, 2, .iload 6, [], 0), (72, 2, .bipush 16, [], 0), (74, 3, .if_icmp .ge 62, [136], 0), (77, 2, .iload 5, [], 0), (79, 3, .ifCond .eq 57, [136], 0), (82, 1, .aload_n 0, [], 0), (83, 2, .iload 5, [], 0), (85, 3, .invokestatic 99, [84, 1], 0), (88, 3, .invokevirtual 104, [83, 1, 7], 0), (91, 1, .iload_n 1, [], 0), (92, 1, .iconst (-1), [], 0), (93, 1, .ixor, [], 0), (94, 1, .iand, [], 0), (95, 2, .istore 7, [], 0), (97, 1, .lload_n 3, [], 0), (98, 2, .iload 7, [], 0), (100, 3, .invokestatic 70, [243, 1], 0), (103, 1, .i2l, [], 0), (104, 1, .aload_n 0, [], 0), (105, 1, .iload_n 1, [], 0), (106, 2, .iload 5, [], 0), (108, 3, .invokestatic 99, [84, 1], 0), (111, 1, .ior, [], 0), (112, 1, .iload_n 2, [], 0), (113, 1, .iconst 1, [], 0), (114, 1, .iadd, [], 0), (115, 3, .invokevirtual 88, [82, 2, 7], 0), (118, 1, .lmul, [], 0), (119, 1, .ladd, [], 0), (120, 1, .lstore_n 3, [], 0), (121, 2, .iload 5, [], 0), (123, 2, .iload 7, [], 0), (125, 1, .iconst (-1), [], 0), (126, 1, .ixor, [], 0), (127, 1, .iand, [], 0), (128, 2, .istore 5, [], 0), (130, 3, .iinc 6 1, [], 0), (133, 3, .goto (-63), [70], 0)]
set_option maxRecDepth 20000 in
theorem b82_70 : z_blk 82 70 136 B82_70 = true := by decide +kernel
def B82_136 : List zOp := [(136, 1, .aload_n 0, [], 0), (137, 3, .getfield 40, [7, 9, 2], 0), (140, 1, .iload_n 1, [], 0), (141, 1, .aload_n 0, [], 0), (142, 3, .getfield 44, [7, 10, 1], 0), (145, 2, .bipush 45, [], 0), (147, 1, .lshl, [], 0), (148, 1, .lload_n 3, [], 0), (149, 1, .lor, [], 0), (150, 1, .lastore, [], 0), (151, 1, .lload_n 3, [], 0), (152, 1, .lreturn, [], 0)]
set_option maxRecDepth 20000 in
theorem b82_136 : z_blk 82 136 153 B82_136 = true := by decide +kernel
-- 83 yX7_kinOf
def B83_0 : List zOp := [(0, 1, .iconst 0, [], 0), (1, 1, .istore_n 2, [], 0)]
set_option maxRecDepth 20000 in
theorem b83_0 : z_blk 83 0 2 B83_0 = true := by decide +kernel
def B83_2 : List zOp := [(2, 1, .iload_n 2, [], 0), (3, 1, .aload_n 0, [], 0), (4, 3, .getfield 24, [7, 4, 0], 0), (7, 3, .if_icmp .ge 23, [30], 0), (10, 1, .iload_n 1, [], 0), (11, 1, .iconst 1, [], 0), (12, 1, .iload_n 2, [], 0), (13, 1, .ishl, [], 0), (14, 3, .if_icmp .ne 10, [24], 0), (17, 1, .aload_n 0, [], 0), (18, 3, .getfield 37, [7, 8, 2], 0), (21, 1, .iload_n 2, [], 0), (22, 1, .iaload, [], 0), (23, 1, .ireturn, [0], 0)]
set_option maxRecDepth 20000 in
theorem b83_2 : z_blk 83 2 24 B83_2 = true := by decide +kernel
def B83_24 : List zOp := [(24, 3, .iinc 2 1, [], 0), (27, 3, .goto (-25), [2], 0)]
set_option maxRecDepth 20000 in
theorem b83_24 : z_blk 83 24 30 B83_24 = true := by decide +kernel
def B83_30 : List zOp := [(30, 1, .iload_n 1, [], 0), (31, 1, .ireturn, [0], 0)]
set_option maxRecDepth 20000 in
theorem b83_30 : z_blk 83 30 32 B83_30 = true := by decide +kernel
-- 84 yX7_lowest
def B84_0 : List zOp := [(0, 1, .iload_n 0, [], 0), (1, 1, .iload_n 0, [], 0), (2, 1, .ineg, [], 0), (3, 1, .iand, [], 0), (4, 1, .ireturn, [0], 0)]
set_option maxRecDepth 20000 in
theorem b84_0 : z_blk 84 0 5 B84_0 = true := by decide +kernel
