/-! Texts: blocks of takeWord and spells, by program from the decode rows -/
def B111_0 : List zOp := [(0, 1, .iload_n 3, [], 0), (1, 1, .iload_n 2, [], 0), (2, 1, .isub, [], 0), (3, 1, .aload_n 0, [], 0)]
set_option maxRecDepth 20000 in
theorem b111_0 : z_blk 111 0 4 B111_0 = true := by decide +kernel
def B111_7 : List zOp := [(7, 3, .if_icmp .eq 5, [12], 0), (10, 1, .iconst 0, [], 0), (11, 1, .ireturn, [3], 0)]
set_option maxRecDepth 20000 in
theorem b111_7 : z_blk 111 7 12 B111_7 = true := by decide +kernel
def B111_12 : List zOp := [(12, 1, .iconst 0, [], 0), (13, 2, .istore 4, [], 0)]
set_option maxRecDepth 20000 in
theorem b111_12 : z_blk 111 12 15 B111_12 = true := by decide +kernel
def B111_15 : List zOp := [(15, 2, .iload 4, [], 0), (17, 1, .aload_n 0, [], 0)]
set_option maxRecDepth 20000 in
theorem b111_15 : z_blk 111 15 18 B111_15 = true := by decide +kernel
def B111_21 : List zOp := [(21, 3, .if_icmp .ge 26, [47], 0), (24, 1, .aload_n 1, [], 0), (25, 1, .iload_n 2, [], 0), (26, 2, .iload 4, [], 0), (28, 1, .iadd, [], 0), (29, 1, .caload, [], 0), (30, 1, .aload_n 0, [], 0), (31, 2, .iload 4, [], 0)]
set_option maxRecDepth 20000 in
theorem b111_21 : z_blk 111 21 33 B111_21 = true := by decide +kernel
def B111_36 : List zOp := [(36, 3, .if_icmp .eq 5, [41], 0), (39, 1, .iconst 0, [], 0), (40, 1, .ireturn, [3], 0)]
set_option maxRecDepth 20000 in
theorem b111_36 : z_blk 111 36 41 B111_36 = true := by decide +kernel
def B111_41 : List zOp := [(41, 3, .iinc 4 1, [], 0), (44, 3, .goto (-29), [15], 0)]
set_option maxRecDepth 20000 in
theorem b111_41 : z_blk 111 41 47 B111_41 = true := by decide +kernel
def B111_47 : List zOp := [(47, 1, .iconst 1, [], 0), (48, 1, .ireturn, [3], 0)]
set_option maxRecDepth 20000 in
theorem b111_47 : z_blk 111 47 49 B111_47 = true := by decide +kernel
def B109_0 : List zOp := [(0, 1, .iload_n 2, [], 0), (1, 2, .istore 4, [], 0)]
set_option maxRecDepth 20000 in
theorem b109_0 : z_blk 109 0 3 B109_0 = true := by decide +kernel
def B109_3 : List zOp := [(3, 2, .iload 4, [], 0), (5, 1, .iload_n 3, [], 0), (6, 3, .if_icmp .ge 19, [25], 0), (9, 1, .aload_n 1, [], 0), (10, 2, .iload 4, [], 0), (12, 1, .caload, [], 0), (13, 3, .invokestatic 37, [112, 1], 0), (16, 3, .ifCond .eq 9, [25], 0), (19, 3, .iinc 4 1, [], 0), (22, 3, .goto (-19), [3], 0)]
set_option maxRecDepth 20000 in
theorem b109_3 : z_blk 109 3 25 B109_3 = true := by decide +kernel
def B109_25 : List zOp := [(25, 2, .iload 4, [], 0), (27, 1, .iload_n 2, [], 0), (28, 1, .isub, [], 0), (29, 1, .iconst 1, [], 0), (30, 3, .if_icmp .ne 35, [65], 0), (33, 1, .aload_n 1, [], 0), (34, 1, .iload_n 2, [], 0), (35, 1, .caload, [], 0), (36, 2, .bipush 97, [], 0), (38, 3, .if_icmp .lt 27, [65], 0), (41, 1, .aload_n 1, [], 0), (42, 1, .iload_n 2, [], 0), (43, 1, .caload, [], 0), (44, 2, .bipush 103, [], 0), (46, 3, .if_icmp .ge 19, [65], 0), (49, 1, .aload_n 0, [], 0), (50, 2, .bipush 16, [], 0), (52, 1, .iload_n 2, [], 0), (53, 1, .aload_n 1, [], 0), (54, 1, .iload_n 2, [], 0), (55, 1, .caload, [], 0), (56, 2, .bipush 97, [], 0), (58, 1, .isub, [], 0), (59, 3, .invokevirtual 55, [108, 3, 9], 0), (62, 3, .goto 102, [164], 0)]
set_option maxRecDepth 20000 in
theorem b109_25 : z_blk 109 25 65 B109_25 = true := by decide +kernel
def B109_67 : List zOp := [(67, 1, .aload_n 1, [], 0), (68, 1, .iload_n 2, [], 0), (69, 2, .iload 4, [], 0), (71, 3, .invokestatic 64, [111, 4], 0), (74, 3, .ifCond .eq 14, [88], 0), (77, 1, .aload_n 0, [], 0), (78, 2, .bipush 12, [], 0), (80, 1, .iload_n 2, [], 0), (81, 1, .iconst 0, [], 0), (82, 3, .invokevirtual 55, [108, 3, 9], 0), (85, 3, .goto 79, [164], 0)]
set_option maxRecDepth 20000 in
theorem b109_67 : z_blk 109 67 88 B109_67 = true := by decide +kernel
def B109_90 : List zOp := [(90, 1, .aload_n 1, [], 0), (91, 1, .iload_n 2, [], 0), (92, 2, .iload 4, [], 0), (94, 3, .invokestatic 64, [111, 4], 0), (97, 3, .ifCond .eq 14, [111], 0), (100, 1, .aload_n 0, [], 0), (101, 2, .bipush 13, [], 0), (103, 1, .iload_n 2, [], 0), (104, 1, .iconst 0, [], 0), (105, 3, .invokevirtual 55, [108, 3, 9], 0), (108, 3, .goto 56, [164], 0)]
set_option maxRecDepth 20000 in
theorem b109_90 : z_blk 109 90 111 B109_90 = true := by decide +kernel
def B109_113 : List zOp := [(113, 1, .aload_n 1, [], 0), (114, 1, .iload_n 2, [], 0), (115, 2, .iload 4, [], 0), (117, 3, .invokestatic 64, [111, 4], 0), (120, 3, .ifCond .eq 14, [134], 0), (123, 1, .aload_n 0, [], 0), (124, 2, .bipush 14, [], 0), (126, 1, .iload_n 2, [], 0), (127, 1, .iconst 0, [], 0), (128, 3, .invokevirtual 55, [108, 3, 9], 0), (131, 3, .goto 33, [164], 0)]
set_option maxRecDepth 20000 in
theorem b109_113 : z_blk 109 113 134 B109_113 = true := by decide +kernel
def B109_136 : List zOp := [(136, 1, .aload_n 1, [], 0), (137, 1, .iload_n 2, [], 0), (138, 2, .iload 4, [], 0), (140, 3, .invokestatic 64, [111, 4], 0), (143, 3, .ifCond .eq 14, [157], 0), (146, 1, .aload_n 0, [], 0), (147, 2, .bipush 15, [], 0), (149, 1, .iload_n 2, [], 0), (150, 1, .iconst 0, [], 0), (151, 3, .invokevirtual 55, [108, 3, 9], 0), (154, 3, .goto 10, [164], 0)]
set_option maxRecDepth 20000 in
theorem b109_136 : z_blk 109 136 157 B109_136 = true := by decide +kernel
def B109_157 : List zOp := [(157, 1, .aload_n 0, [], 0), (158, 1, .iconst 1, [], 0), (159, 1, .iload_n 2, [], 0), (160, 1, .iconst 0, [], 0), (161, 3, .invokevirtual 55, [108, 3, 9], 0)]
set_option maxRecDepth 20000 in
theorem b109_157 : z_blk 109 157 164 B109_157 = true := by decide +kernel
def B109_164 : List zOp := [(164, 2, .iload 4, [], 0), (166, 1, .ireturn, [0], 0)]
set_option maxRecDepth 20000 in
theorem b109_164 : z_blk 109 164 167 B109_164 = true := by decide +kernel
