/-! blocks: 12.blky, by program from the decode rows -/
-- 85 yX8_init
def B85_0 : List zOp := [(0, 1, .aload_n 0, [], 0), (1, 3, .invokespecial 3, [999], 0), (4, 1, .aload_n 0, [], 0), (5, 1, .iconst 0, [], 0), (6, 3, .putfield 9, [8, 0, 0], 0), (9, 1, .aload_n 0, [], 0), (10, 1, .iconst 0, [], 0), (11, 3, .putfield 15, [8, 1, 0], 0), (14, 1, .aload_n 0, [], 0), (15, 3, .sipush 999, [], 0), (18, 3, .putfield 18, [8, 2, 0], 0), (21, 1, .aload_n 0, [], 0), (22, 3, .sipush 192, [], 0), (25, 2, .newarray .int, [13], 0), (27, 3, .putfield 21, [8, 3, 2], 0), (30, 1, .aload_n 0, [], 0), (31, 3, .new 25, [5, 7], 0), (34, 1, .dup, [], 0), (35, 3, .invokespecial 27, [47, 0], 0), (38, 3, .putfield 28, [8, 4, 2], 0), (41, 1, .aload_n 0, [], 0), (42, 2, .bipush 16, [], 0), (44, 2, .newarray .int, [13], 0), (46, 3, .putfield 32, [8, 5, 2], 0), (49, 1, .aload_n 0, [], 0), (50, 2, .bipush 16, [], 0), (52, 2, .newarray .int, [13], 0), (54, 3, .putfield 35, [8, 6, 2], 0), (57, 1, .aload_n 0, [], 0), (58, 2, .bipush 16, [], 0), (60, 2, .newarray .boolean, [15], 0), (62, 3, .putfield 38, [8, 7, 2], 0), (65, 1, .aload_n 0, [], 0), (66, 2, .bipush 6, [], 0), (68, 2, .newarray .int, [13], 0), (70, 3, .putfield 42, [8, 8, 2], 0), (73, 1, .aload_n 0, [], 0), (74, 2, .bipush 6, [], 0), (76, 2, .newarray .int, [13], 0), (78, 3, .putfield 45, [8, 9, 2], 0), (81, 1, .aload_n 0, [], 0), (82, 1, .iconst 0, [], 0), (83, 3, .putfield 48, [8, 10, 0], 0), (86, 1, .aload_n 0, [], 0), (87, 3, .getfield 21, [8, 3, 2], 0), (90, 1, .iconst (-1), [], 0), (91, 3, .invokestatic 51, [256, 2], 0), (94, 1, .return_, [], 0)]
set_option maxRecDepth 20000 in
theorem b85_0 : z_blk 85 0 95 B85_0 = true := by decide +kernel
-- 86 yX8_hasFind
def B86_0 : List zOp := [(0, 1, .iload_n 1, [], 0), (1, 3, .ifCond .lt 15, [16], 0), (4, 1, .iload_n 1, [], 0), (5, 1, .aload_n 0, [], 0), (6, 3, .getfield 9, [8, 0, 0], 0), (9, 3, .if_icmp .ge 7, [16], 0), (12, 1, .iconst 1, [], 0), (13, 3, .goto 4, [17], 0)]
set_option maxRecDepth 20000 in
theorem b86_0 : z_blk 86 0 16 B86_0 = true := by decide +kernel
def B86_16 : List zOp := [(16, 1, .iconst 0, [], 0)]
set_option maxRecDepth 20000 in
theorem b86_16 : z_blk 86 16 17 B86_16 = true := by decide +kernel
def B86_17 : List zOp := [(17, 1, .ireturn, [3], 0)]
set_option maxRecDepth 20000 in
theorem b86_17 : z_blk 86 17 18 B86_17 = true := by decide +kernel
-- 87 yX8_hasFinds
def B87_0 : List zOp := [(0, 1, .iload_n 1, [], 0), (1, 3, .ifCond .lt 16, [17], 0), (4, 1, .iload_n 1, [], 0), (5, 1, .aload_n 0, [], 0), (6, 3, .getfield 9, [8, 0, 0], 0), (9, 1, .ishr, [], 0), (10, 3, .ifCond .ne 7, [17], 0), (13, 1, .iconst 1, [], 0), (14, 3, .goto 4, [18], 0)]
set_option maxRecDepth 20000 in
theorem b87_0 : z_blk 87 0 17 B87_0 = true := by decide +kernel
def B87_17 : List zOp := [(17, 1, .iconst 0, [], 0)]
set_option maxRecDepth 20000 in
theorem b87_17 : z_blk 87 17 18 B87_17 = true := by decide +kernel
def B87_18 : List zOp := [(18, 1, .ireturn, [3], 0)]
set_option maxRecDepth 20000 in
theorem b87_18 : z_blk 87 18 19 B87_18 = true := by decide +kernel
-- 88 yX8_hasMarks
def B88_0 : List zOp := [(0, 1, .iload_n 1, [], 0), (1, 3, .ifCond .lt 19, [20], 0), (4, 1, .iload_n 1, [], 0), (5, 1, .aload_n 0, [], 0), (6, 3, .getfield 28, [8, 4, 2], 0), (9, 3, .getfield 57, [5, 3, 0], 0), (12, 1, .ishr, [], 0), (13, 3, .ifCond .ne 7, [20], 0), (16, 1, .iconst 1, [], 0), (17, 3, .goto 4, [21], 0)]
set_option maxRecDepth 20000 in
theorem b88_0 : z_blk 88 0 20 B88_0 = true := by decide +kernel
def B88_20 : List zOp := [(20, 1, .iconst 0, [], 0)]
set_option maxRecDepth 20000 in
theorem b88_20 : z_blk 88 20 21 B88_20 = true := by decide +kernel
def B88_21 : List zOp := [(21, 1, .ireturn, [3], 0)]
set_option maxRecDepth 20000 in
theorem b88_21 : z_blk 88 21 22 B88_21 = true := by decide +kernel
-- 89 yX8_hasMark
def B89_0 : List zOp := [(0, 1, .iload_n 1, [], 0), (1, 3, .ifCond .lt 18, [19], 0), (4, 1, .iload_n 1, [], 0), (5, 1, .aload_n 0, [], 0), (6, 3, .getfield 28, [8, 4, 2], 0), (9, 3, .getfield 57, [5, 3, 0], 0), (12, 3, .if_icmp .ge 7, [19], 0), (15, 1, .iconst 1, [], 0), (16, 3, .goto 4, [20], 0)]
set_option maxRecDepth 20000 in
theorem b89_0 : z_blk 89 0 19 B89_0 = true := by decide +kernel
def B89_19 : List zOp := [(19, 1, .iconst 0, [], 0)]
set_option maxRecDepth 20000 in
theorem b89_19 : z_blk 89 19 20 B89_19 = true := by decide +kernel
def B89_20 : List zOp := [(20, 1, .ireturn, [3], 0)]
set_option maxRecDepth 20000 in
theorem b89_20 : z_blk 89 20 21 B89_20 = true := by decide +kernel
-- 90 yX8_markCount
def B90_0 : List zOp := [(0, 1, .aload_n 0, [], 0), (1, 3, .getfield 28, [8, 4, 2], 0), (4, 3, .getfield 57, [5, 3, 0], 0), (7, 1, .ireturn, [0], 0)]
set_option maxRecDepth 20000 in
theorem b90_0 : z_blk 90 0 8 B90_0 = true := by decide +kernel
-- 91 yX8_addFind
def B91_0 : List zOp := [(0, 1, .aload_n 0, [], 0), (1, 3, .getfield 9, [8, 0, 0], 0), (4, 2, .bipush 16, [], 0), (6, 3, .if_icmp .lt 5, [11], 0), (9, 1, .iconst (-1), [], 0), (10, 1, .ireturn, [0], 0)]
set_option maxRecDepth 20000 in
theorem b91_0 : z_blk 91 0 11 B91_0 = true := by decide +kernel
def B91_11 : List zOp := [(11, 1, .aload_n 0, [], 0), (12, 1, .dup, [], 0), (13, 3, .getfield 9, [8, 0, 0], 0), (16, 1, .iconst 1, [], 0), (17, 1, .iadd, [], 0), (18, 3, .putfield 9, [8, 0, 0], 0), (21, 1, .aload_n 0, [], 0), (22, 1, .dup, [], 0), (23, 3, .getfield 48, [8, 10, 0], 0), (26, 1, .iconst 1, [], 0), (27, 1, .iadd, [], 0), (28, 3, .putfield 48, [8, 10, 0], 0), (31, 1, .aload_n 0, [], 0), (32, 3, .getfield 9, [8, 0, 0], 0), (35, 1, .iconst 1, [], 0), (36, 1, .isub, [], 0), (37, 1, .ireturn, [0], 0)]
set_option maxRecDepth 20000 in
theorem b91_11 : z_blk 91 11 38 B91_11 = true := by decide +kernel
-- 92 yX8_hear
def B92_0 : List zOp := [(0, 2, .iload 4, [], 0), (2, 1, .aload_n 0, [], 0), (3, 3, .getfield 18, [8, 2, 0], 0), (6, 3, .if_icmp .gt 27, [33], 0), (9, 1, .aload_n 0, [], 0), (10, 3, .getfield 21, [8, 3, 2], 0), (13, 1, .iload_n 1, [], 0), (14, 1, .iload_n 3, [], 0), (15, 1, .iastore, [], 0), (16, 1, .aload_n 0, [], 0), (17, 3, .getfield 38, [8, 7, 2], 0), (20, 1, .iload_n 2, [], 0), (21, 1, .iconst 0, [], 0), (22, 1, .bastore, [], 0), (23, 1, .aload_n 0, [], 0), (24, 1, .dup, [], 0), (25, 3, .getfield 48, [8, 10, 0], 0), (28, 1, .iconst 1, [], 0), (29, 1, .iadd, [], 0), (30, 3, .putfield 48, [8, 10, 0], 0)]
set_option maxRecDepth 20000 in
theorem b92_0 : z_blk 92 0 33 B92_0 = true := by decide +kernel
def B92_33 : List zOp := [(33, 1, .return_, [], 0)]
set_option maxRecDepth 20000 in
theorem b92_33 : z_blk 92 33 34 B92_33 = true := by decide +kernel
-- 93 yX8_turn
def B93_0 : List zOp := [(0, 1, .aload_n 0, [], 0), (1, 1, .iload_n 1, [], 0), (2, 3, .putfield 15, [8, 1, 0], 0), (5, 1, .aload_n 0, [], 0), (6, 1, .iload_n 2, [], 0), (7, 3, .putfield 18, [8, 2, 0], 0), (10, 1, .aload_n 3, [], 0), (11, 1, .aload_n 0, [], 0), (12, 3, .getfield 18, [8, 2, 0], 0), (15, 1, .aload_n 0, [], 0), (16, 3, .getfield 21, [8, 3, 2], 0), (19, 3, .invokevirtual 60, [46, 2, 4], 0), (22, 1, .aload_n 0, [], 0), (23, 3, .invokevirtual 66, [95, 0, 8], 0), (26, 1, .return_, [], 0)]
set_option maxRecDepth 20000 in
theorem b93_0 : z_blk 93 0 27 B93_0 = true := by decide +kernel
-- 94 yX8_cutBy
def B94_0 : List zOp := [(0, 1, .aload_n 0, [], 0), (1, 1, .aload_n 1, [], 0), (2, 3, .putfield 28, [8, 4, 2], 0), (5, 1, .aload_n 0, [], 0), (6, 3, .invokevirtual 66, [95, 0, 8], 0), (9, 1, .return_, [], 0)]
set_option maxRecDepth 20000 in
theorem b94_0 : z_blk 94 0 10 B94_0 = true := by decide +kernel
-- 95 yX8_forget
def B95_0 : List zOp := [(0, 1, .iconst 0, [], 0), (1, 1, .istore_n 1, [], 0)]
set_option maxRecDepth 20000 in
theorem b95_0 : z_blk 95 0 2 B95_0 = true := by decide +kernel
def B95_2 : List zOp := [(2, 1, .iload_n 1, [], 0), (3, 1, .aload_n 0, [], 0), (4, 3, .getfield 9, [8, 0, 0], 0), (7, 3, .if_icmp .ge 16, [23], 0), (10, 1, .aload_n 0, [], 0), (11, 3, .getfield 38, [8, 7, 2], 0), (14, 1, .iload_n 1, [], 0), (15, 1, .iconst 0, [], 0), (16, 1, .bastore, [], 0), (17, 3, .iinc 1 1, [], 0), (20, 3, .goto (-18), [2], 0)]
set_option maxRecDepth 20000 in
theorem b95_2 : z_blk 95 2 23 B95_2 = true := by decide +kernel
def B95_23 : List zOp := [(23, 1, .aload_n 0, [], 0), (24, 1, .dup, [], 0), (25, 3, .getfield 48, [8, 10, 0], 0), (28, 1, .iconst 1, [], 0), (29, 1, .iadd, [], 0), (30, 3, .putfield 48, [8, 10, 0], 0), (33, 1, .return_, [], 0)]
set_option maxRecDepth 20000 in
theorem b95_23 : z_blk 95 23 34 B95_23 = true := by decide +kernel
-- 96 yX8_freshen
def B96_0 : List zOp := [(0, 1, .iconst 0, [], 0), (1, 1, .istore_n 1, [], 0)]
set_option maxRecDepth 20000 in
theorem b96_0 : z_blk 96 0 2 B96_0 = true := by decide +kernel
def B96_2 : List zOp := [(2, 1, .iload_n 1, [], 0), (3, 1, .aload_n 0, [], 0), (4, 3, .getfield 9, [8, 0, 0], 0), (7, 3, .if_icmp .ge 23, [30], 0), (10, 1, .aload_n 0, [], 0), (11, 3, .getfield 38, [8, 7, 2], 0), (14, 1, .iload_n 1, [], 0), (15, 1, .baload, [], 0), (16, 3, .ifCond .ne 8, [24], 0), (19, 1, .aload_n 0, [], 0), (20, 1, .iload_n 1, [], 0), (21, 3, .invokevirtual 69, [103, 1, 8], 0)]
set_option maxRecDepth 20000 in
theorem b96_2 : z_blk 96 2 24 B96_2 = true := by decide +kernel
def B96_24 : List zOp := [(24, 3, .iinc 1 1, [], 0), (27, 3, .goto (-25), [2], 0)]
set_option maxRecDepth 20000 in
theorem b96_24 : z_blk 96 24 30 B96_24 = true := by decide +kernel
def B96_30 : List zOp := [(30, 1, .return_, [], 0)]
set_option maxRecDepth 20000 in
theorem b96_30 : z_blk 96 30 31 B96_30 = true := by decide +kernel
-- 97 yX8_truthOf
def B97_0 : List zOp := [(0, 1, .aload_n 0, [], 0), (1, 3, .getfield 32, [8, 5, 2], 0), (4, 1, .iload_n 1, [], 0), (5, 1, .iaload, [], 0), (6, 1, .iload_n 2, [], 0), (7, 1, .ishr, [], 0), (8, 1, .iconst 1, [], 0), (9, 1, .iand, [], 0), (10, 1, .aload_n 0, [], 0), (11, 3, .getfield 35, [8, 6, 2], 0), (14, 1, .iload_n 1, [], 0), (15, 1, .iaload, [], 0), (16, 1, .iload_n 2, [], 0), (17, 1, .ishr, [], 0), (18, 1, .iconst 1, [], 0), (19, 1, .iand, [], 0), (20, 1, .iconst 1, [], 0), (21, 1, .ishl, [], 0), (22, 1, .ior, [], 0), (23, 1, .ireturn, [0], 0)]
set_option maxRecDepth 20000 in
theorem b97_0 : z_blk 97 0 24 B97_0 = true := by decide +kernel
-- 98 yX8_rowOf
def B98_0 : List zOp := [(0, 1, .iload_n 2, [], 0), (1, 3, .ifCond .ne 12, [13], 0), (4, 1, .aload_n 0, [], 0), (5, 3, .getfield 32, [8, 5, 2], 0), (8, 1, .iload_n 1, [], 0), (9, 1, .iaload, [], 0), (10, 3, .goto 16, [26], 0)]
set_option maxRecDepth 20000 in
theorem b98_0 : z_blk 98 0 13 B98_0 = true := by decide +kernel
def B98_13 : List zOp := [(13, 1, .aload_n 0, [], 0), (14, 3, .getfield 32, [8, 5, 2], 0), (17, 1, .iload_n 1, [], 0), (18, 1, .iaload, [], 0), (19, 1, .aload_n 0, [], 0), (20, 3, .getfield 35, [8, 6, 2], 0), (23, 1, .iload_n 1, [], 0), (24, 1, .iaload, [], 0), (25, 1, .ior, [], 0)]
set_option maxRecDepth 20000 in
theorem b98_13 : z_blk 98 13 26 B98_13 = true := by decide +kernel
def B98_26 : List zOp := [(26, 1, .ireturn, [0], 0)]
set_option maxRecDepth 20000 in
theorem b98_26 : z_blk 98 26 27 B98_26 = true := by decide +kernel
-- 99 yX8_openOf
def B99_0 : List zOp := [(0, 1, .aload_n 0, [], 0), (1, 3, .getfield 35, [8, 6, 2], 0), (4, 1, .iload_n 1, [], 0), (5, 1, .iaload, [], 0), (6, 1, .ireturn, [0], 0)]
set_option maxRecDepth 20000 in
theorem b99_0 : z_blk 99 0 7 B99_0 = true := by decide +kernel
-- 100 yX8_having
def B100_0 : List zOp := [(0, 1, .iconst 0, [], 0), (1, 1, .istore_n 3, [], 0), (2, 1, .iconst 0, [], 0), (3, 2, .istore 4, [], 0)]
set_option maxRecDepth 20000 in
theorem b100_0 : z_blk 100 0 5 B100_0 = true := by decide +kernel
def B100_5 : List zOp := [(5, 2, .iload 4, [], 0), (7, 1, .aload_n 0, [], 0), (8, 3, .getfield 9, [8, 0, 0], 0), (11, 3, .if_icmp .ge 29, [40], 0), (14, 1, .aload_n 0, [], 0), (15, 2, .iload 4, [], 0), (17, 1, .iload_n 2, [], 0), (18, 3, .invokevirtual 73, [98, 2, 8], 0), (21, 1, .iload_n 1, [], 0), (22, 1, .iand, [], 0), (23, 1, .iload_n 1, [], 0), (24, 3, .if_icmp .ne 10, [34], 0), (27, 1, .iload_n 3, [], 0), (28, 1, .iconst 1, [], 0), (29, 2, .iload 4, [], 0), (31, 1, .ishl, [], 0), (32, 1, .ior, [], 0), (33, 1, .istore_n 3, [], 0)]
set_option maxRecDepth 20000 in
theorem b100_5 : z_blk 100 5 34 B100_5 = true := by decide +kernel
def B100_34 : List zOp := [(34, 3, .iinc 4 1, [], 0), (37, 3, .goto (-32), [5], 0)]
set_option maxRecDepth 20000 in
theorem b100_34 : z_blk 100 34 40 B100_34 = true := by decide +kernel
def B100_40 : List zOp := [(40, 1, .iload_n 3, [], 0), (41, 1, .ireturn, [0], 0)]
set_option maxRecDepth 20000 in
theorem b100_40 : z_blk 100 40 42 B100_40 = true := by decide +kernel
-- 101 yX8_closureOf
def B101_0 : List zOp := [(0, 1, .iconst 1, [], 0), (1, 1, .aload_n 0, [], 0), (2, 3, .getfield 28, [8, 4, 2], 0), (5, 3, .getfield 57, [5, 3, 0], 0), (8, 1, .ishl, [], 0), (9, 1, .iconst 1, [], 0), (10, 1, .isub, [], 0), (11, 1, .istore_n 3, [], 0), (12, 1, .iconst 0, [], 0), (13, 2, .istore 4, [], 0)]
set_option maxRecDepth 20000 in
theorem b101_0 : z_blk 101 0 15 B101_0 = true := by decide +kernel
def B101_15 : List zOp := [(15, 2, .iload 4, [], 0), (17, 1, .aload_n 0, [], 0), (18, 3, .getfield 9, [8, 0, 0], 0), (21, 3, .if_icmp .ge 31, [52], 0), (24, 1, .aload_n 0, [], 0), (25, 2, .iload 4, [], 0), (27, 1, .iload_n 2, [], 0), (28, 3, .invokevirtual 73, [98, 2, 8], 0), (31, 2, .istore 5, [], 0), (33, 2, .iload 5, [], 0), (35, 1, .iload_n 1, [], 0), (36, 1, .iand, [], 0), (37, 1, .iload_n 1, [], 0), (38, 3, .if_icmp .ne 8, [46], 0), (41, 1, .iload_n 3, [], 0), (42, 2, .iload 5, [], 0), (44, 1, .iand, [], 0), (45, 1, .istore_n 3, [], 0)]
set_option maxRecDepth 20000 in
theorem b101_15 : z_blk 101 15 46 B101_15 = true := by decide +kernel
def B101_46 : List zOp := [(46, 3, .iinc 4 1, [], 0), (49, 3, .goto (-34), [15], 0)]
set_option maxRecDepth 20000 in
theorem b101_46 : z_blk 101 46 52 B101_46 = true := by decide +kernel
def B101_52 : List zOp := [(52, 1, .iload_n 3, [], 0), (53, 1, .ireturn, [0], 0)]
set_option maxRecDepth 20000 in
theorem b101_52 : z_blk 101 52 54 B101_52 = true := by decide +kernel
-- 102 yX8_differing
def B102_0 : List zOp := [(0, 1, .aload_n 1, [], 0), (1, 1, .iload_n 3, [], 0), (2, 2, .iload 4, [], 0), (4, 1, .aload_n 0, [], 0), (5, 3, .getfield 42, [8, 8, 2], 0), (8, 3, .invokestatic 77, [104, 4], 0), (11, 1, .aload_n 2, [], 0), (12, 1, .iload_n 3, [], 0), (13, 2, .iload 4, [], 0), (15, 1, .aload_n 0, [], 0), (16, 3, .getfield 45, [8, 9, 2], 0), (19, 3, .invokestatic 77, [104, 4], 0), (22, 1, .iconst 1, [], 0), (23, 2, .istore 5, [], 0), (25, 1, .iconst 0, [], 0), (26, 2, .istore 6, [], 0)]
set_option maxRecDepth 20000 in
theorem b102_0 : z_blk 102 0 28 B102_0 = true := by decide +kernel
def B102_28 : List zOp := [(28, 2, .iload 6, [], 0), (30, 2, .bipush 6, [], 0), (32, 3, .if_icmp .ge 38, [70], 0), (35, 2, .iload 5, [], 0), (37, 3, .ifCond .eq 24, [61], 0), (40, 1, .aload_n 0, [], 0), (41, 3, .getfield 42, [8, 8, 2], 0), (44, 2, .iload 6, [], 0), (46, 1, .iaload, [], 0), (47, 1, .aload_n 0, [], 0), (48, 3, .getfield 45, [8, 9, 2], 0), (51, 2, .iload 6, [], 0), (53, 1, .iaload, [], 0), (54, 3, .if_icmp .ne 7, [61], 0), (57, 1, .iconst 1, [], 0), (58, 3, .goto 4, [62], 0)]
set_option maxRecDepth 20000 in
theorem b102_28 : z_blk 102 28 61 B102_28 = true := by decide +kernel
def B102_61 : List zOp := [(61, 1, .iconst 0, [], 0)]
set_option maxRecDepth 20000 in
theorem b102_61 : z_blk 102 61 62 B102_61 = true := by decide +kernel
def B102_62 : List zOp := [(62, 2, .istore 5, [], 0), (64, 3, .iinc 6 1, [], 0), (67, 3, .goto (-39), [28], 0)]
set_option maxRecDepth 20000 in
theorem b102_62 : z_blk 102 62 70 B102_62 = true := by decide +kernel
def B102_70 : List zOp := [(70, 1, .iconst 0, [], 0), (71, 2, .istore 6, [], 0), (73, 1, .iconst 0, [], 0), (74, 2, .istore 7, [], 0)]
set_option maxRecDepth 20000 in
theorem b102_70 : z_blk 102 70 76 B102_70 = true := by decide +kernel
def B102_76 : List zOp := [(76, 2, .iload 7, [], 0), (78, 1, .aload_n 0, [], 0), (79, 3, .getfield 28, [8, 4, 2], 0), (82, 3, .getfield 57, [5, 3, 0], 0), (85, 3, .if_icmp .ge 52, [137], 0), (88, 2, .iload 5, [], 0), (90, 3, .ifCond .ne 47, [137], 0), (93, 1, .aload_n 0, [], 0), (94, 3, .getfield 28, [8, 4, 2], 0), (97, 2, .iload 7, [], 0), (99, 1, .aload_n 0, [], 0), (100, 3, .getfield 42, [8, 8, 2], 0), (103, 3, .invokevirtual 81, [51, 2, 5], 0), (106, 1, .aload_n 0, [], 0), (107, 3, .getfield 28, [8, 4, 2], 0), (110, 2, .iload 7, [], 0), (112, 1, .aload_n 0, [], 0), (113, 3, .getfield 45, [8, 9, 2], 0), (116, 3, .invokevirtual 81, [51, 2, 5], 0), (119, 3, .if_icmp .eq 12, [131], 0), (122, 2, .iload 6, [], 0), (124, 1, .iconst 1, [], 0), (125, 2, .iload 7, [], 0), (127, 1, .ishl, [], 0), (128, 1, .ior, [], 0), (129, 2, .istore 6, [], 0)]
set_option maxRecDepth 20000 in
theorem b102_76 : z_blk 102 76 131 B102_76 = true := by decide +kernel
def B102_131 : List zOp := [(131, 3, .iinc 7 1, [], 0), (134, 3, .goto (-58), [76], 0)]
set_option maxRecDepth 20000 in
theorem b102_131 : z_blk 102 131 137 B102_131 = true := by decide +kernel
def B102_137 : List zOp := [(137, 2, .iload 6, [], 0), (139, 1, .ireturn, [0], 0)]
set_option maxRecDepth 20000 in
theorem b102_137 : z_blk 102 137 140 B102_137 = true := by decide +kernel
-- 103 yX8_cut
def B103_0 : List zOp := [(0, 1, .aload_n 0, [], 0), (1, 3, .getfield 21, [8, 3, 2], 0), (4, 1, .aload_n 0, [], 0), (5, 3, .getfield 15, [8, 1, 0], 0), (8, 1, .iload_n 1, [], 0), (9, 1, .aload_n 0, [], 0), (10, 3, .getfield 42, [8, 8, 2], 0), (13, 3, .invokestatic 77, [104, 4], 0), (16, 1, .aload_n 0, [], 0), (17, 3, .getfield 32, [8, 5, 2], 0), (20, 1, .iload_n 1, [], 0), (21, 1, .iconst 0, [], 0), (22, 1, .iastore, [], 0), (23, 1, .aload_n 0, [], 0), (24, 3, .getfield 35, [8, 6, 2], 0), (27, 1, .iload_n 1, [], 0), (28, 1, .iconst 0, [], 0), (29, 1, .iastore, [], 0), (30, 1, .iconst 0, [], 0), (31, 1, .istore_n 2, [], 0)]
set_option maxRecDepth 20000 in
theorem b103_0 : z_blk 103 0 32 B103_0 = true := by decide +kernel
def B103_32 : List zOp := [(32, 1, .iload_n 2, [], 0), (33, 1, .aload_n 0, [], 0), (34, 3, .getfield 28, [8, 4, 2], 0), (37, 3, .getfield 57, [5, 3, 0], 0), (40, 3, .if_icmp .ge 64, [104], 0), (43, 1, .aload_n 0, [], 0), (44, 3, .getfield 28, [8, 4, 2], 0), (47, 1, .iload_n 2, [], 0), (48, 1, .aload_n 0, [], 0), (49, 3, .getfield 42, [8, 8, 2], 0), (52, 3, .invokevirtual 81, [51, 2, 5], 0), (55, 1, .istore_n 3, [], 0), (56, 1, .aload_n 0, [], 0), (57, 3, .getfield 32, [8, 5, 2], 0), (60, 1, .iload_n 1, [], 0), (61, 1, .dup2, [], 0), (62, 1, .iaload, [], 0), (63, 1, .iload_n 3, [], 0), (64, 1, .iconst 1, [], 0), (65, 3, .if_icmp .ne 9, [74], 0), (68, 1, .iconst 1, [], 0), (69, 1, .iload_n 2, [], 0), (70, 1, .ishl, [], 0), (71, 3, .goto 4, [75], 0)]
set_option maxRecDepth 20000 in
theorem b103_32 : z_blk 103 32 74 B103_32 = true := by decide +kernel
def B103_74 : List zOp := [(74, 1, .iconst 0, [], 0)]
set_option maxRecDepth 20000 in
theorem b103_74 : z_blk 103 74 75 B103_74 = true := by decide +kernel
def B103_75 : List zOp := [(75, 1, .ior, [], 0), (76, 1, .iastore, [], 0), (77, 1, .aload_n 0, [], 0), (78, 3, .getfield 35, [8, 6, 2], 0), (81, 1, .iload_n 1, [], 0), (82, 1, .dup2, [], 0), (83, 1, .iaload, [], 0), (84, 1, .iload_n 3, [], 0), (85, 1, .iconst 2, [], 0), (86, 3, .if_icmp .ne 9, [95], 0), (89, 1, .iconst 1, [], 0), (90, 1, .iload_n 2, [], 0), (91, 1, .ishl, [], 0), (92, 3, .goto 4, [96], 0)]
set_option maxRecDepth 20000 in
theorem b103_75 : z_blk 103 75 95 B103_75 = true := by decide +kernel
def B103_95 : List zOp := [(95, 1, .iconst 0, [], 0)]
set_option maxRecDepth 20000 in
theorem b103_95 : z_blk 103 95 96 B103_95 = true := by decide +kernel
def B103_96 : List zOp := [(96, 1, .ior, [], 0), (97, 1, .iastore, [], 0), (98, 3, .iinc 2 1, [], 0), (101, 3, .goto (-69), [32], 0)]
set_option maxRecDepth 20000 in
theorem b103_96 : z_blk 103 96 104 B103_96 = true := by decide +kernel
def B103_104 : List zOp := [(104, 1, .aload_n 0, [], 0), (105, 3, .getfield 38, [8, 7, 2], 0), (108, 1, .iload_n 1, [], 0), (109, 1, .iconst 1, [], 0), (110, 1, .bastore, [], 0), (111, 1, .return_, [], 0)]
set_option maxRecDepth 20000 in
theorem b103_104 : z_blk 103 104 112 B103_104 = true := by decide +kernel
-- 104 yX8_gather
def B104_0 : List zOp := [(0, 1, .iconst 0, [], 0), (1, 2, .istore 4, [], 0)]
set_option maxRecDepth 20000 in
theorem b104_0 : z_blk 104 0 3 B104_0 = true := by decide +kernel
def B104_3 : List zOp := [(3, 2, .iload 4, [], 0), (5, 2, .bipush 6, [], 0), (7, 3, .if_icmp .ge 25, [32], 0), (10, 1, .aload_n 3, [], 0), (11, 2, .iload 4, [], 0), (13, 1, .aload_n 0, [], 0), (14, 1, .iload_n 1, [], 0), (15, 1, .iload_n 2, [], 0), (16, 2, .bipush 6, [], 0), (18, 1, .imul, [], 0), (19, 2, .iload 4, [], 0), (21, 1, .iadd, [], 0), (22, 3, .invokestatic 85, [156, 3], 0), (25, 1, .iastore, [], 0), (26, 3, .iinc 4 1, [], 0), (29, 3, .goto (-26), [3], 0)]
set_option maxRecDepth 20000 in
theorem b104_3 : z_blk 104 3 32 B104_3 = true := by decide +kernel
def B104_32 : List zOp := [(32, 1, .return_, [], 0)]
set_option maxRecDepth 20000 in
theorem b104_32 : z_blk 104 32 33 B104_32 = true := by decide +kernel
-- 105 yX9_init
def B105_0 : List zOp := [(0, 1, .aload_n 0, [], 0), (1, 3, .invokespecial 3, [999], 0), (4, 1, .aload_n 0, [], 0), (5, 3, .sipush 801, [], 0), (8, 2, .newarray .int, [13], 0), (10, 3, .putfield 9, [9, 0, 2], 0), (13, 1, .aload_n 0, [], 0), (14, 3, .sipush 801, [], 0), (17, 2, .newarray .int, [13], 0), (19, 3, .putfield 15, [9, 1, 2], 0), (22, 1, .aload_n 0, [], 0), (23, 3, .sipush 801, [], 0), (26, 2, .newarray .int, [13], 0), (28, 3, .putfield 18, [9, 2, 2], 0), (31, 1, .aload_n 0, [], 0), (32, 1, .iconst 0, [], 0), (33, 3, .putfield 21, [9, 3, 0], 0), (36, 1, .aload_n 0, [], 0), (37, 1, .iconst 0, [], 0), (38, 3, .putfield 25, [9, 4, 0], 0), (41, 1, .aload_n 0, [], 0), (42, 1, .iconst 0, [], 0), (43, 3, .putfield 28, [9, 5, 0], 0), (46, 1, .aload_n 0, [], 0), (47, 1, .iconst 0, [], 0), (48, 3, .putfield 31, [9, 6, 0], 0), (51, 1, .aload_n 0, [], 0), (52, 1, .iconst 0, [], 0), (53, 3, .putfield 34, [9, 7, 0], 0), (56, 1, .return_, [], 0)]
set_option maxRecDepth 20000 in
theorem b105_0 : z_blk 105 0 57 B105_0 = true := by decide +kernel
-- 106 yX9_cutText
def B106_0 : List zOp := [(0, 1, .iconst 0, [], 0), (1, 1, .istore_n 3, [], 0), (2, 1, .aload_n 0, [], 0), (3, 1, .iconst 0, [], 0), (4, 3, .putfield 21, [9, 3, 0], 0), (7, 1, .iconst 0, [], 0), (8, 2, .istore 4, [], 0)]
set_option maxRecDepth 20000 in
theorem b106_0 : z_blk 106 0 10 B106_0 = true := by decide +kernel
def B106_10 : List zOp := [(10, 2, .iload 4, [], 0), (12, 3, .sipush 800, [], 0), (15, 3, .if_icmp .ge 92, [107], 0), (18, 1, .iload_n 3, [], 0), (19, 1, .iload_n 2, [], 0), (20, 3, .if_icmp .ge 87, [107], 0), (23, 1, .iload_n 3, [], 0), (24, 1, .iconst 1, [], 0), (25, 1, .iadd, [], 0), (26, 2, .istore 5, [], 0), (28, 1, .aload_n 1, [], 0), (29, 1, .iload_n 3, [], 0), (30, 1, .caload, [], 0), (31, 3, .invokestatic 37, [112, 1], 0), (34, 3, .ifCond .eq 15, [49], 0), (37, 1, .aload_n 0, [], 0), (38, 1, .aload_n 1, [], 0), (39, 1, .iload_n 3, [], 0), (40, 1, .iload_n 2, [], 0), (41, 3, .invokevirtual 41, [109, 3, 9], 0), (44, 2, .istore 5, [], 0), (46, 3, .goto 52, [98], 0)]
set_option maxRecDepth 20000 in
theorem b106_10 : z_blk 106 10 49 B106_10 = true := by decide +kernel
def B106_49 : List zOp := [(49, 1, .aload_n 1, [], 0), (50, 1, .iload_n 3, [], 0), (51, 1, .caload, [], 0), (52, 3, .invokestatic 45, [113, 1], 0), (55, 3, .ifCond .eq 15, [70], 0), (58, 1, .aload_n 0, [], 0), (59, 1, .aload_n 1, [], 0), (60, 1, .iload_n 3, [], 0), (61, 1, .iload_n 2, [], 0), (62, 3, .invokevirtual 48, [110, 3, 9], 0), (65, 2, .istore 5, [], 0), (67, 3, .goto 31, [98], 0)]
set_option maxRecDepth 20000 in
theorem b106_49 : z_blk 106 49 70 B106_49 = true := by decide +kernel
def B106_70 : List zOp := [(70, 1, .aload_n 1, [], 0), (71, 1, .iload_n 3, [], 0), (72, 1, .caload, [], 0), (73, 2, .bipush 32, [], 0), (75, 3, .if_icmp .eq 23, [98], 0), (78, 1, .aload_n 1, [], 0), (79, 1, .iload_n 3, [], 0), (80, 1, .caload, [], 0), (81, 2, .bipush 10, [], 0), (83, 3, .if_icmp .eq 15, [98], 0), (86, 1, .aload_n 0, [], 0), (87, 1, .aload_n 1, [], 0), (88, 1, .iload_n 3, [], 0), (89, 1, .caload, [], 0), (90, 3, .invokestatic 51, [114, 1], 0), (93, 1, .iload_n 3, [], 0), (94, 1, .iconst 0, [], 0), (95, 3, .invokevirtual 55, [108, 3, 9], 0)]
set_option maxRecDepth 20000 in
theorem b106_70 : z_blk 106 70 98 B106_70 = true := by decide +kernel
def B106_98 : List zOp := [(98, 2, .iload 5, [], 0), (100, 1, .istore_n 3, [], 0), (101, 3, .iinc 4 1, [], 0), (104, 3, .goto (-94), [10], 0)]
set_option maxRecDepth 20000 in
theorem b106_98 : z_blk 106 98 107 B106_98 = true := by decide +kernel
def B106_107 : List zOp := [(107, 1, .aload_n 0, [], 0), (108, 3, .getfield 9, [9, 0, 2], 0), (111, 1, .aload_n 0, [], 0), (112, 3, .getfield 21, [9, 3, 0], 0), (115, 1, .iconst 0, [], 0), (116, 1, .iastore, [], 0), (117, 1, .aload_n 0, [], 0), (118, 3, .getfield 15, [9, 1, 2], 0), (121, 1, .aload_n 0, [], 0), (122, 3, .getfield 21, [9, 3, 0], 0), (125, 1, .iload_n 2, [], 0), (126, 1, .iastore, [], 0), (127, 1, .aload_n 0, [], 0), (128, 1, .iconst (-1), [], 0), (129, 3, .putfield 25, [9, 4, 0], 0), (132, 1, .aload_n 0, [], 0), (133, 3, .invokevirtual 59, [107, 0, 9], 0), (136, 1, .return_, [], 0)]
set_option maxRecDepth 20000 in
theorem b106_107 : z_blk 106 107 137 B106_107 = true := by decide +kernel
-- 107 yX9_advance
def B107_0 : List zOp := [(0, 1, .aload_n 0, [], 0), (1, 3, .getfield 25, [9, 4, 0], 0), (4, 1, .aload_n 0, [], 0), (5, 3, .getfield 21, [9, 3, 0], 0), (8, 3, .if_icmp .ge 52, [60], 0), (11, 1, .aload_n 0, [], 0), (12, 1, .dup, [], 0), (13, 3, .getfield 25, [9, 4, 0], 0), (16, 1, .iconst 1, [], 0), (17, 1, .iadd, [], 0), (18, 3, .putfield 25, [9, 4, 0], 0), (21, 1, .aload_n 0, [], 0), (22, 1, .aload_n 0, [], 0), (23, 3, .getfield 9, [9, 0, 2], 0), (26, 1, .aload_n 0, [], 0), (27, 3, .getfield 25, [9, 4, 0], 0), (30, 1, .iaload, [], 0), (31, 3, .putfield 28, [9, 5, 0], 0), (34, 1, .aload_n 0, [], 0), (35, 1, .aload_n 0, [], 0), (36, 3, .getfield 15, [9, 1, 2], 0), (39, 1, .aload_n 0, [], 0), (40, 3, .getfield 25, [9, 4, 0], 0), (43, 1, .iaload, [], 0), (44, 3, .putfield 31, [9, 6, 0], 0), (47, 1, .aload_n 0, [], 0), (48, 1, .aload_n 0, [], 0), (49, 3, .getfield 18, [9, 2, 2], 0), (52, 1, .aload_n 0, [], 0), (53, 3, .getfield 25, [9, 4, 0], 0), (56, 1, .iaload, [], 0), (57, 3, .putfield 34, [9, 7, 0], 0)]
set_option maxRecDepth 20000 in
theorem b107_0 : z_blk 107 0 60 B107_0 = true := by decide +kernel
def B107_60 : List zOp := [(60, 1, .return_, [], 0)]
set_option maxRecDepth 20000 in
theorem b107_60 : z_blk 107 60 61 B107_60 = true := by decide +kernel
-- 108 yX9_add
def B108_0 : List zOp := [(0, 1, .aload_n 0, [], 0), (1, 3, .getfield 21, [9, 3, 0], 0), (4, 3, .sipush 800, [], 0), (7, 3, .if_icmp .ge 43, [50], 0), (10, 1, .aload_n 0, [], 0), (11, 3, .getfield 9, [9, 0, 2], 0), (14, 1, .aload_n 0, [], 0), (15, 3, .getfield 21, [9, 3, 0], 0), (18, 1, .iload_n 1, [], 0), (19, 1, .iastore, [], 0), (20, 1, .aload_n 0, [], 0), (21, 3, .getfield 15, [9, 1, 2], 0), (24, 1, .aload_n 0, [], 0), (25, 3, .getfield 21, [9, 3, 0], 0), (28, 1, .iload_n 2, [], 0), (29, 1, .iastore, [], 0), (30, 1, .aload_n 0, [], 0), (31, 3, .getfield 18, [9, 2, 2], 0), (34, 1, .aload_n 0, [], 0), (35, 3, .getfield 21, [9, 3, 0], 0), (38, 1, .iload_n 3, [], 0), (39, 1, .iastore, [], 0), (40, 1, .aload_n 0, [], 0), (41, 1, .dup, [], 0), (42, 3, .getfield 21, [9, 3, 0], 0), (45, 1, .iconst 1, [], 0), (46, 1, .iadd, [], 0), (47, 3, .putfield 21, [9, 3, 0], 0)]
set_option maxRecDepth 20000 in
theorem b108_0 : z_blk 108 0 50 B108_0 = true := by decide +kernel
def B108_50 : List zOp := [(50, 1, .return_, [], 0)]
set_option maxRecDepth 20000 in
theorem b108_50 : z_blk 108 50 51 B108_50 = true := by decide +kernel
-- 110 yX9_takeNumber
def B110_0 : List zOp := [(0, 1, .iconst 0, [], 0), (1, 2, .istore 4, [], 0), (3, 1, .iload_n 2, [], 0), (4, 2, .istore 5, [], 0)]
set_option maxRecDepth 20000 in
theorem b110_0 : z_blk 110 0 6 B110_0 = true := by decide +kernel
def B110_6 : List zOp := [(6, 2, .iload 5, [], 0), (8, 1, .iload_n 3, [], 0), (9, 3, .if_icmp .ge 42, [51], 0), (12, 1, .aload_n 1, [], 0), (13, 2, .iload 5, [], 0), (15, 1, .caload, [], 0), (16, 3, .invokestatic 45, [113, 1], 0), (19, 3, .ifCond .eq 32, [51], 0), (22, 2, .iload 5, [], 0), (24, 1, .iload_n 2, [], 0), (25, 1, .isub, [], 0), (26, 1, .iconst 4, [], 0), (27, 3, .if_icmp .ge 18, [45], 0), (30, 2, .iload 4, [], 0), (32, 2, .bipush 10, [], 0), (34, 1, .imul, [], 0), (35, 1, .aload_n 1, [], 0), (36, 2, .iload 5, [], 0), (38, 1, .caload, [], 0), (39, 1, .iadd, [], 0), (40, 2, .bipush 48, [], 0), (42, 1, .isub, [], 0), (43, 2, .istore 4, [], 0)]
set_option maxRecDepth 20000 in
theorem b110_6 : z_blk 110 6 45 B110_6 = true := by decide +kernel
def B110_45 : List zOp := [(45, 3, .iinc 5 1, [], 0), (48, 3, .goto (-42), [6], 0)]
set_option maxRecDepth 20000 in
theorem b110_45 : z_blk 110 45 51 B110_45 = true := by decide +kernel
def B110_51 : List zOp := [(51, 1, .aload_n 0, [], 0), (52, 2, .iload 5, [], 0), (54, 1, .iload_n 2, [], 0), (55, 1, .isub, [], 0), (56, 1, .iconst 4, [], 0), (57, 3, .if_icmp .le 7, [64], 0), (60, 1, .iconst 1, [], 0), (61, 3, .goto 5, [66], 0)]
set_option maxRecDepth 20000 in
theorem b110_51 : z_blk 110 51 64 B110_51 = true := by decide +kernel
def B110_64 : List zOp := [(64, 2, .bipush 17, [], 0)]
set_option maxRecDepth 20000 in
theorem b110_64 : z_blk 110 64 66 B110_64 = true := by decide +kernel
def B110_66 : List zOp := [(66, 1, .iload_n 2, [], 0), (67, 2, .iload 4, [], 0), (69, 3, .invokevirtual 55, [108, 3, 9], 0), (72, 2, .iload 5, [], 0), (74, 1, .ireturn, [0], 0)]
set_option maxRecDepth 20000 in
theorem b110_66 : z_blk 110 66 75 B110_66 = true := by decide +kernel
-- 112 yX9_isLetter
def B112_0 : List zOp := [(0, 1, .iload_n 0, [], 0), (1, 2, .bipush 97, [], 0), (3, 3, .if_icmp .lt 9, [12], 0), (6, 1, .iload_n 0, [], 0), (7, 2, .bipush 122, [], 0), (9, 3, .if_icmp .le 15, [24], 0)]
set_option maxRecDepth 20000 in
theorem b112_0 : z_blk 112 0 12 B112_0 = true := by decide +kernel
def B112_12 : List zOp := [(12, 1, .iload_n 0, [], 0), (13, 2, .bipush 65, [], 0), (15, 3, .if_icmp .lt 13, [28], 0), (18, 1, .iload_n 0, [], 0), (19, 2, .bipush 90, [], 0), (21, 3, .if_icmp .gt 7, [28], 0)]
set_option maxRecDepth 20000 in
theorem b112_12 : z_blk 112 12 24 B112_12 = true := by decide +kernel
def B112_24 : List zOp := [(24, 1, .iconst 1, [], 0), (25, 3, .goto 4, [29], 0)]
set_option maxRecDepth 20000 in
theorem b112_24 : z_blk 112 24 28 B112_24 = true := by decide +kernel
def B112_28 : List zOp := [(28, 1, .iconst 0, [], 0)]
set_option maxRecDepth 20000 in
theorem b112_28 : z_blk 112 28 29 B112_28 = true := by decide +kernel
def B112_29 : List zOp := [(29, 1, .ireturn, [3], 0)]
set_option maxRecDepth 20000 in
theorem b112_29 : z_blk 112 29 30 B112_29 = true := by decide +kernel
-- 113 yX9_isDigit
def B113_0 : List zOp := [(0, 1, .iload_n 0, [], 0), (1, 2, .bipush 48, [], 0), (3, 3, .if_icmp .lt 13, [16], 0), (6, 1, .iload_n 0, [], 0), (7, 2, .bipush 57, [], 0), (9, 3, .if_icmp .gt 7, [16], 0), (12, 1, .iconst 1, [], 0), (13, 3, .goto 4, [17], 0)]
set_option maxRecDepth 20000 in
theorem b113_0 : z_blk 113 0 16 B113_0 = true := by decide +kernel
def B113_16 : List zOp := [(16, 1, .iconst 0, [], 0)]
set_option maxRecDepth 20000 in
theorem b113_16 : z_blk 113 16 17 B113_16 = true := by decide +kernel
def B113_17 : List zOp := [(17, 1, .ireturn, [3], 0)]
set_option maxRecDepth 20000 in
theorem b113_17 : z_blk 113 17 18 B113_17 = true := by decide +kernel
-- 114 yX9_signOf
def B114_0 : List zOp := [(0, 1, .iload_n 0, [], 0), (1, 107, .tableswitch 133 40 62 #[118, 121, 113, 109, 133, 111, 133, 115, 133, 133, 133, 133, 133, 133, 133, 133, 133, 133, 133, 107, 124, 127, 130], [134, 119, 122, 114, 110, 134, 112, 134, 116, 134, 134, 134, 134, 134, 134, 134, 134, 134, 134, 134, 108, 125, 128, 131], 0)]
set_option maxRecDepth 20000 in
theorem b114_0 : z_blk 114 0 108 B114_0 = true := by decide +kernel
def B114_108 : List zOp := [(108, 1, .iconst 2, [], 0), (109, 1, .ireturn, [0], 0)]
set_option maxRecDepth 20000 in
theorem b114_108 : z_blk 114 108 110 B114_108 = true := by decide +kernel
def B114_110 : List zOp := [(110, 1, .iconst 3, [], 0), (111, 1, .ireturn, [0], 0)]
set_option maxRecDepth 20000 in
theorem b114_110 : z_blk 114 110 112 B114_110 = true := by decide +kernel
def B114_112 : List zOp := [(112, 1, .iconst 4, [], 0), (113, 1, .ireturn, [0], 0)]
set_option maxRecDepth 20000 in
theorem b114_112 : z_blk 114 112 114 B114_112 = true := by decide +kernel
def B114_114 : List zOp := [(114, 1, .iconst 5, [], 0), (115, 1, .ireturn, [0], 0)]
set_option maxRecDepth 20000 in
theorem b114_114 : z_blk 114 114 116 B114_114 = true := by decide +kernel
def B114_116 : List zOp := [(116, 2, .bipush 6, [], 0), (118, 1, .ireturn, [0], 0)]
set_option maxRecDepth 20000 in
theorem b114_116 : z_blk 114 116 119 B114_116 = true := by decide +kernel
def B114_119 : List zOp := [(119, 2, .bipush 7, [], 0), (121, 1, .ireturn, [0], 0)]
set_option maxRecDepth 20000 in
theorem b114_119 : z_blk 114 119 122 B114_119 = true := by decide +kernel
def B114_122 : List zOp := [(122, 2, .bipush 8, [], 0), (124, 1, .ireturn, [0], 0)]
set_option maxRecDepth 20000 in
theorem b114_122 : z_blk 114 122 125 B114_122 = true := by decide +kernel
def B114_125 : List zOp := [(125, 2, .bipush 9, [], 0), (127, 1, .ireturn, [0], 0)]
set_option maxRecDepth 20000 in
theorem b114_125 : z_blk 114 125 128 B114_125 = true := by decide +kernel
def B114_128 : List zOp := [(128, 2, .bipush 10, [], 0), (130, 1, .ireturn, [0], 0)]
set_option maxRecDepth 20000 in
theorem b114_128 : z_blk 114 128 131 B114_128 = true := by decide +kernel
def B114_131 : List zOp := [(131, 2, .bipush 11, [], 0), (133, 1, .ireturn, [0], 0)]
set_option maxRecDepth 20000 in
theorem b114_131 : z_blk 114 131 134 B114_131 = true := by decide +kernel
def B114_134 : List zOp := [(134, 1, .iconst 1, [], 0), (135, 1, .ireturn, [0], 0)]
set_option maxRecDepth 20000 in
theorem b114_134 : z_blk 114 134 136 B114_134 = true := by decide +kernel
-- 115 yX10_init
def B115_0 : List zOp := [(0, 1, .aload_n 0, [], 0), (1, 3, .invokespecial 3, [999], 0), (4, 1, .aload_n 0, [], 0), (5, 3, .new 9, [4, 4], 0), (8, 1, .dup, [], 0), (9, 3, .invokespecial 11, [43, 0], 0), (12, 3, .putfield 12, [10, 0, 2], 0), (15, 1, .aload_n 0, [], 0), (16, 3, .new 16, [8, 11], 0), (19, 1, .dup, [], 0), (20, 3, .invokespecial 18, [85, 0], 0), (23, 3, .putfield 19, [10, 1, 2], 0), (26, 1, .aload_n 0, [], 0), (27, 1, .iconst 2, [], 0), (28, 3, .anewarray 23, [], 0), (31, 1, .dup, [], 0), (32, 1, .iconst 0, [], 0), (33, 3, .new 23, [3, 13], 0), (36, 1, .dup, [], 0), (37, 3, .invokespecial 25, [29, 0], 0), (40, 1, .aastore, [], 0), (41, 1, .dup, [], 0), (42, 1, .iconst 1, [], 0), (43, 3, .new 23, [3, 13], 0), (46, 1, .dup, [], 0), (47, 3, .invokespecial 25, [29, 0], 0), (50, 1, .aastore, [], 0), (51, 3, .putfield 26, [10, 2, 2], 0), (54, 1, .aload_n 0, [], 0), (55, 3, .new 30, [1, 10], 0), (58, 1, .dup, [], 0), (59, 3, .invokespecial 32, [9, 0], 0), (62, 3, .putfield 33, [10, 3, 2], 0), (65, 1, .aload_n 0, [], 0), (66, 3, .new 37, [7, 11], 0), (69, 1, .dup, [], 0), (70, 3, .invokespecial 39, [72, 0], 0), (73, 3, .putfield 40, [10, 4, 2], 0), (76, 1, .aload_n 0, [], 0), (77, 3, .new 44, [0, 16], 0), (80, 1, .dup, [], 0), (81, 3, .invokespecial 46, [0, 0], 0), (84, 3, .putfield 47, [10, 5, 2], 0), (87, 1, .aload_n 0, [], 0), (88, 3, .new 51, [2, 11], 0), (91, 1, .dup, [], 0), (92, 3, .invokespecial 53, [19, 0], 0), (95, 3, .putfield 54, [10, 6, 2], 0), (98, 1, .aload_n 0, [], 0), (99, 3, .sipush 800, [], 0), (102, 2, .newarray .char, [12], 0), (104, 3, .putfield 58, [10, 7, 2], 0), (107, 1, .aload_n 0, [], 0), (108, 1, .iconst 0, [], 0), (109, 3, .putfield 62, [10, 8, 0], 0), (112, 1, .aload_n 0, [], 0), (113, 3, .new 66, [6, 4], 0), (116, 1, .dup, [], 0), (117, 3, .invokespecial 68, [58, 0], 0), (120, 3, .putfield 69, [10, 9, 2], 0), (123, 1, .aload_n 0, [], 0), (124, 3, .sipush 192, [], 0), (127, 2, .newarray .int, [13], 0), (129, 3, .putfield 73, [10, 10, 2], 0), (132, 1, .aload_n 0, [], 0), (133, 3, .sipush 192, [], 0), (136, 2, .newarray .int, [13], 0), (138, 3, .putfield 77, [10, 11, 2], 0), (141, 1, .return_, [], 0)]
set_option maxRecDepth 20000 in
theorem b115_0 : z_blk 115 0 142 B115_0 = true := by decide +kernel
-- 116 yX10_find
def B116_0 : List zOp := [(0, 1, .aload_n 0, [], 0), (1, 3, .getfield 19, [10, 1, 2], 0), (4, 3, .invokevirtual 80, [91, 0, 8], 0), (7, 1, .ireturn, [0], 0)]
set_option maxRecDepth 20000 in
theorem b116_0 : z_blk 116 0 8 B116_0 = true := by decide +kernel
-- 117 yX10_tell
def B117_0 : List zOp := [(0, 1, .iload_n 1, [], 0), (1, 3, .ifCond .lt 26, [27], 0), (4, 1, .iload_n 1, [], 0), (5, 1, .iconst 2, [], 0), (6, 3, .if_icmp .ge 21, [27], 0), (9, 1, .aload_n 0, [], 0), (10, 3, .getfield 19, [10, 1, 2], 0), (13, 1, .iload_n 2, [], 0), (14, 3, .invokevirtual 84, [86, 1, 8], 0), (17, 3, .ifCond .eq 10, [27], 0), (20, 1, .iload_n 3, [], 0), (21, 3, .invokestatic 88, [152, 1], 0), (24, 3, .ifCond .ne 5, [29], 0)]
set_option maxRecDepth 20000 in
theorem b117_0 : z_blk 117 0 27 B117_0 = true := by decide +kernel
def B117_27 : List zOp := [(27, 1, .iconst 0, [], 0), (28, 1, .ireturn, [3], 0)]
set_option maxRecDepth 20000 in
theorem b117_27 : z_blk 117 27 29 B117_27 = true := by decide +kernel
def B117_29 : List zOp := [(29, 2, .iload 4, [], 0), (31, 1, .iconst (-1), [], 0), (32, 3, .if_icmp .lt 31, [63], 0), (35, 2, .iload 4, [], 0), (37, 3, .sipush 999, [], 0), (40, 3, .if_icmp .gt 23, [63], 0), (43, 2, .iload 5, [], 0), (45, 3, .invokestatic 91, [153, 1], 0), (48, 3, .ifCond .eq 15, [63], 0), (51, 1, .aload_n 0, [], 0), (52, 3, .getfield 12, [10, 0, 2], 0), (55, 2, .iload 5, [], 0), (57, 3, .invokevirtual 94, [44, 1, 4], 0), (60, 3, .ifCond .ne 5, [65], 0)]
set_option maxRecDepth 20000 in
theorem b117_29 : z_blk 117 29 63 B117_29 = true := by decide +kernel
def B117_63 : List zOp := [(63, 1, .iconst 0, [], 0), (64, 1, .ireturn, [3], 0)]
set_option maxRecDepth 20000 in
theorem b117_63 : z_blk 117 63 65 B117_63 = true := by decide +kernel
def B117_65 : List zOp := [(65, 1, .iload_n 1, [], 0), (66, 2, .bipush 96, [], 0), (68, 1, .imul, [], 0), (69, 1, .iload_n 2, [], 0), (70, 2, .bipush 6, [], 0), (72, 1, .imul, [], 0), (73, 1, .iadd, [], 0), (74, 1, .iload_n 3, [], 0), (75, 1, .iadd, [], 0), (76, 2, .istore 6, [], 0), (78, 1, .aload_n 0, [], 0), (79, 3, .getfield 12, [10, 0, 2], 0), (82, 2, .iload 6, [], 0), (84, 2, .iload 4, [], 0), (86, 2, .iload 5, [], 0), (88, 3, .invokevirtual 97, [45, 3, 4], 0), (91, 1, .aload_n 0, [], 0), (92, 3, .getfield 19, [10, 1, 2], 0), (95, 2, .iload 6, [], 0), (97, 1, .iload_n 2, [], 0), (98, 2, .iload 4, [], 0), (100, 2, .iload 5, [], 0), (102, 3, .invokevirtual 101, [92, 4, 8], 0), (105, 1, .iconst 1, [], 0), (106, 1, .ireturn, [3], 0)]
set_option maxRecDepth 20000 in
theorem b117_65 : z_blk 117 65 107 B117_65 = true := by decide +kernel
-- 118 yX10_view
def B118_0 : List zOp := [(0, 1, .iload_n 1, [], 0), (1, 3, .invokestatic 105, [154, 1], 0), (4, 3, .ifCond .eq 10, [14], 0), (7, 1, .iload_n 2, [], 0), (8, 3, .invokestatic 91, [153, 1], 0), (11, 3, .ifCond .ne 5, [16], 0)]
set_option maxRecDepth 20000 in
theorem b118_0 : z_blk 118 0 14 B118_0 = true := by decide +kernel
def B118_14 : List zOp := [(14, 1, .iconst 0, [], 0), (15, 1, .ireturn, [3], 0)]
set_option maxRecDepth 20000 in
theorem b118_14 : z_blk 118 14 16 B118_14 = true := by decide +kernel
def B118_16 : List zOp := [(16, 1, .aload_n 0, [], 0), (17, 3, .getfield 19, [10, 1, 2], 0), (20, 1, .iload_n 1, [], 0), (21, 1, .iload_n 2, [], 0), (22, 1, .aload_n 0, [], 0), (23, 3, .getfield 12, [10, 0, 2], 0), (26, 3, .invokevirtual 108, [93, 3, 8], 0), (29, 1, .iconst 1, [], 0), (30, 1, .ireturn, [3], 0)]
set_option maxRecDepth 20000 in
theorem b118_16 : z_blk 118 16 31 B118_16 = true := by decide +kernel
-- 119 yX10_value
def B119_0 : List zOp := [(0, 1, .aload_n 0, [], 0), (1, 3, .getfield 19, [10, 1, 2], 0), (4, 1, .iload_n 1, [], 0), (5, 3, .invokevirtual 84, [86, 1, 8], 0), (8, 3, .ifCond .eq 10, [18], 0), (11, 1, .iload_n 2, [], 0), (12, 3, .invokestatic 88, [152, 1], 0), (15, 3, .ifCond .ne 5, [20], 0)]
set_option maxRecDepth 20000 in
theorem b119_0 : z_blk 119 0 18 B119_0 = true := by decide +kernel
def B119_18 : List zOp := [(18, 1, .iconst (-1), [], 0), (19, 1, .ireturn, [0], 0)]
set_option maxRecDepth 20000 in
theorem b119_18 : z_blk 119 18 20 B119_18 = true := by decide +kernel
def B119_20 : List zOp := [(20, 1, .aload_n 0, [], 0), (21, 3, .getfield 19, [10, 1, 2], 0), (24, 3, .getfield 112, [8, 3, 2], 0), (27, 1, .aload_n 0, [], 0), (28, 3, .getfield 19, [10, 1, 2], 0), (31, 3, .getfield 115, [8, 1, 0], 0), (34, 1, .iload_n 1, [], 0), (35, 2, .bipush 6, [], 0), (37, 1, .imul, [], 0), (38, 1, .iload_n 2, [], 0), (39, 1, .iadd, [], 0), (40, 3, .invokestatic 118, [156, 3], 0), (43, 1, .ireturn, [0], 0)]
set_option maxRecDepth 20000 in
theorem b119_20 : z_blk 119 20 44 B119_20 = true := by decide +kernel
-- 120 yX10_feed
def B120_0 : List zOp := [(0, 1, .aload_n 0, [], 0), (1, 3, .getfield 62, [10, 8, 0], 0), (4, 2, .bipush 20, [], 0), (6, 1, .iadd, [], 0), (7, 3, .sipush 800, [], 0), (10, 3, .if_icmp .le 5, [15], 0), (13, 1, .iconst (-1), [], 0), (14, 1, .ireturn, [0], 0)]
set_option maxRecDepth 20000 in
theorem b120_0 : z_blk 120 0 15 B120_0 = true := by decide +kernel
def B120_15 : List zOp := [(15, 1, .aload_n 0, [], 0), (16, 1, .iload_n 1, [], 0), (17, 3, .invokevirtual 121, [149, 1, 10], 0), (20, 1, .aload_n 0, [], 0), (21, 1, .iload_n 2, [], 0), (22, 3, .invokevirtual 121, [149, 1, 10], 0), (25, 1, .aload_n 0, [], 0), (26, 1, .iload_n 3, [], 0), (27, 3, .invokevirtual 121, [149, 1, 10], 0), (30, 1, .aload_n 0, [], 0), (31, 2, .iload 4, [], 0), (33, 3, .invokevirtual 121, [149, 1, 10], 0), (36, 1, .aload_n 0, [], 0), (37, 2, .iload 5, [], 0), (39, 3, .invokevirtual 121, [149, 1, 10], 0), (42, 1, .aload_n 0, [], 0), (43, 3, .getfield 62, [10, 8, 0], 0), (46, 1, .ireturn, [0], 0)]
set_option maxRecDepth 20000 in
theorem b120_15 : z_blk 120 15 47 B120_15 = true := by decide +kernel
-- 121 yX10_end
def B121_0 : List zOp := [(0, 1, .iload_n 1, [], 0), (1, 3, .ifCond .lt 11, [12], 0), (4, 1, .iload_n 1, [], 0), (5, 1, .aload_n 0, [], 0), (6, 3, .getfield 62, [10, 8, 0], 0), (9, 3, .if_icmp .le 5, [14], 0)]
set_option maxRecDepth 20000 in
theorem b121_0 : z_blk 121 0 12 B121_0 = true := by decide +kernel
def B121_12 : List zOp := [(12, 1, .iconst 0, [], 0), (13, 1, .ireturn, [3], 0)]
set_option maxRecDepth 20000 in
theorem b121_12 : z_blk 121 12 14 B121_12 = true := by decide +kernel
def B121_14 : List zOp := [(14, 1, .aload_n 0, [], 0), (15, 1, .iload_n 1, [], 0), (16, 3, .putfield 62, [10, 8, 0], 0), (19, 1, .iconst 1, [], 0), (20, 1, .ireturn, [3], 0)]
set_option maxRecDepth 20000 in
theorem b121_14 : z_blk 121 14 21 B121_14 = true := by decide +kernel
-- 122 yX10_scales
def B122_0 : List zOp := [(0, 1, .aload_n 0, [], 0), (1, 3, .getfield 69, [10, 9, 2], 0), (4, 1, .aload_n 0, [], 0), (5, 3, .getfield 58, [10, 7, 2], 0), (8, 1, .aload_n 0, [], 0), (9, 3, .getfield 62, [10, 8, 0], 0), (12, 3, .invokevirtual 125, [59, 2, 6], 0), (15, 1, .istore_n 1, [], 0), (16, 1, .aload_n 0, [], 0), (17, 1, .iconst 0, [], 0), (18, 3, .putfield 62, [10, 8, 0], 0), (21, 1, .iload_n 1, [], 0), (22, 3, .ifCond .ne 5, [27], 0), (25, 1, .iconst (-1), [], 0), (26, 1, .ireturn, [0], 0)]
set_option maxRecDepth 20000 in
theorem b122_0 : z_blk 122 0 27 B122_0 = true := by decide +kernel
def B122_27 : List zOp := [(27, 1, .aload_n 0, [], 0), (28, 3, .getfield 19, [10, 1, 2], 0), (31, 1, .aload_n 0, [], 0), (32, 3, .getfield 69, [10, 9, 2], 0), (35, 1, .aload_n 0, [], 0), (36, 3, .getfield 19, [10, 1, 2], 0), (39, 3, .getfield 129, [8, 4, 2], 0), (42, 3, .invokevirtual 133, [60, 1, 6], 0), (45, 3, .invokevirtual 137, [94, 1, 8], 0), (48, 1, .aload_n 0, [], 0), (49, 3, .getfield 19, [10, 1, 2], 0), (52, 3, .invokevirtual 141, [90, 0, 8], 0), (55, 1, .ireturn, [0], 0)]
set_option maxRecDepth 20000 in
theorem b122_27 : z_blk 122 27 56 B122_27 = true := by decide +kernel
-- 123 yX10_fault
def B123_0 : List zOp := [(0, 1, .iload_n 1, [], 0), (1, 3, .ifCond .ne 11, [12], 0), (4, 1, .aload_n 0, [], 0), (5, 3, .getfield 69, [10, 9, 2], 0), (8, 3, .getfield 144, [6, 2, 0], 0), (11, 1, .ireturn, [0], 0)]
set_option maxRecDepth 20000 in
theorem b123_0 : z_blk 123 0 12 B123_0 = true := by decide +kernel
def B123_12 : List zOp := [(12, 1, .iload_n 1, [], 0), (13, 1, .iconst 1, [], 0), (14, 3, .if_icmp .ne 13, [27], 0), (17, 1, .aload_n 0, [], 0), (18, 3, .getfield 69, [10, 9, 2], 0), (21, 3, .getfield 147, [6, 3, 0], 0), (24, 3, .goto 4, [28], 0)]
set_option maxRecDepth 20000 in
theorem b123_12 : z_blk 123 12 27 B123_12 = true := by decide +kernel
def B123_27 : List zOp := [(27, 1, .iconst (-1), [], 0)]
set_option maxRecDepth 20000 in
theorem b123_27 : z_blk 123 27 28 B123_27 = true := by decide +kernel
def B123_28 : List zOp := [(28, 1, .ireturn, [0], 0)]
set_option maxRecDepth 20000 in
theorem b123_28 : z_blk 123 28 29 B123_28 = true := by decide +kernel
-- 124 yX10_mark
def B124_0 : List zOp := [(0, 1, .aload_n 0, [], 0), (1, 3, .getfield 19, [10, 1, 2], 0), (4, 1, .iload_n 1, [], 0), (5, 3, .invokevirtual 84, [86, 1, 8], 0), (8, 3, .ifCond .eq 14, [22], 0), (11, 1, .aload_n 0, [], 0), (12, 3, .getfield 19, [10, 1, 2], 0), (15, 1, .iload_n 2, [], 0), (16, 3, .invokevirtual 150, [89, 1, 8], 0), (19, 3, .ifCond .ne 5, [24], 0)]
set_option maxRecDepth 20000 in
theorem b124_0 : z_blk 124 0 22 B124_0 = true := by decide +kernel
def B124_22 : List zOp := [(22, 1, .iconst (-1), [], 0), (23, 1, .ireturn, [0], 0)]
set_option maxRecDepth 20000 in
theorem b124_22 : z_blk 124 22 24 B124_22 = true := by decide +kernel
def B124_24 : List zOp := [(24, 1, .aload_n 0, [], 0), (25, 3, .getfield 19, [10, 1, 2], 0), (28, 3, .invokevirtual 153, [96, 0, 8], 0), (31, 1, .aload_n 0, [], 0), (32, 3, .getfield 19, [10, 1, 2], 0), (35, 1, .iload_n 1, [], 0), (36, 1, .iload_n 2, [], 0), (37, 3, .invokevirtual 156, [97, 2, 8], 0), (40, 1, .ireturn, [0], 0)]
set_option maxRecDepth 20000 in
theorem b124_24 : z_blk 124 24 41 B124_24 = true := by decide +kernel
-- 125 yX10_look
def B125_0 : List zOp := [(0, 1, .iload_n 1, [], 0), (1, 43, .tableswitch 127 0 6 #[43, 51, 59, 67, 75, 83, 105], [128, 44, 52, 60, 68, 76, 84, 106], 0)]
set_option maxRecDepth 20000 in
theorem b125_0 : z_blk 125 0 44 B125_0 = true := by decide +kernel
def B125_44 : List zOp := [(44, 1, .aload_n 0, [], 0), (45, 3, .getfield 19, [10, 1, 2], 0), (48, 3, .getfield 160, [8, 0, 0], 0), (51, 1, .ireturn, [0], 0)]
set_option maxRecDepth 20000 in
theorem b125_44 : z_blk 125 44 52 B125_44 = true := by decide +kernel
def B125_52 : List zOp := [(52, 1, .aload_n 0, [], 0), (53, 3, .getfield 19, [10, 1, 2], 0), (56, 3, .invokevirtual 141, [90, 0, 8], 0), (59, 1, .ireturn, [0], 0)]
set_option maxRecDepth 20000 in
theorem b125_52 : z_blk 125 52 60 B125_52 = true := by decide +kernel
def B125_60 : List zOp := [(60, 1, .aload_n 0, [], 0), (61, 3, .getfield 12, [10, 0, 2], 0), (64, 3, .getfield 163, [4, 3, 0], 0), (67, 1, .ireturn, [0], 0)]
set_option maxRecDepth 20000 in
theorem b125_60 : z_blk 125 60 68 B125_60 = true := by decide +kernel
def B125_68 : List zOp := [(68, 1, .aload_n 0, [], 0), (69, 3, .getfield 19, [10, 1, 2], 0), (72, 3, .getfield 115, [8, 1, 0], 0), (75, 1, .ireturn, [0], 0)]
set_option maxRecDepth 20000 in
theorem b125_68 : z_blk 125 68 76 B125_68 = true := by decide +kernel
def B125_76 : List zOp := [(76, 1, .aload_n 0, [], 0), (77, 3, .getfield 19, [10, 1, 2], 0), (80, 3, .getfield 166, [8, 2, 0], 0), (83, 1, .ireturn, [0], 0)]
set_option maxRecDepth 20000 in
theorem b125_76 : z_blk 125 76 84 B125_76 = true := by decide +kernel
def B125_84 : List zOp := [(84, 1, .aload_n 0, [], 0), (85, 3, .getfield 33, [10, 3, 2], 0), (88, 3, .getfield 169, [1, 0, 3], 0), (91, 3, .ifCond .eq 13, [104], 0), (94, 1, .aload_n 0, [], 0), (95, 3, .getfield 33, [10, 3, 2], 0), (98, 3, .getfield 173, [1, 4, 0], 0), (101, 3, .goto 4, [105], 0)]
set_option maxRecDepth 20000 in
theorem b125_84 : z_blk 125 84 104 B125_84 = true := by decide +kernel
def B125_104 : List zOp := [(104, 1, .iconst (-1), [], 0)]
set_option maxRecDepth 20000 in
theorem b125_104 : z_blk 125 104 105 B125_104 = true := by decide +kernel
def B125_105 : List zOp := [(105, 1, .ireturn, [0], 0)]
set_option maxRecDepth 20000 in
theorem b125_105 : z_blk 125 105 106 B125_105 = true := by decide +kernel
def B125_106 : List zOp := [(106, 1, .aload_n 0, [], 0), (107, 3, .getfield 33, [10, 3, 2], 0), (110, 3, .getfield 169, [1, 0, 3], 0), (113, 3, .ifCond .eq 13, [126], 0), (116, 1, .aload_n 0, [], 0), (117, 3, .getfield 33, [10, 3, 2], 0), (120, 3, .getfield 176, [1, 7, 0], 0), (123, 3, .goto 4, [127], 0)]
set_option maxRecDepth 20000 in
theorem b125_106 : z_blk 125 106 126 B125_106 = true := by decide +kernel
def B125_126 : List zOp := [(126, 1, .iconst (-1), [], 0)]
set_option maxRecDepth 20000 in
theorem b125_126 : z_blk 125 126 127 B125_126 = true := by decide +kernel
def B125_127 : List zOp := [(127, 1, .ireturn, [0], 0)]
set_option maxRecDepth 20000 in
theorem b125_127 : z_blk 125 127 128 B125_127 = true := by decide +kernel
def B125_128 : List zOp := [(128, 2, .bipush (-2), [], 0), (130, 1, .ireturn, [0], 0)]
set_option maxRecDepth 20000 in
theorem b125_128 : z_blk 125 128 131 B125_128 = true := by decide +kernel
-- 126 yX10_row
def B126_0 : List zOp := [(0, 1, .aload_n 0, [], 0), (1, 3, .getfield 19, [10, 1, 2], 0), (4, 1, .iload_n 1, [], 0), (5, 3, .invokevirtual 84, [86, 1, 8], 0), (8, 3, .ifCond .eq 10, [18], 0), (11, 1, .iload_n 2, [], 0), (12, 3, .invokestatic 179, [155, 1], 0), (15, 3, .ifCond .ne 5, [20], 0)]
set_option maxRecDepth 20000 in
theorem b126_0 : z_blk 126 0 18 B126_0 = true := by decide +kernel
def B126_18 : List zOp := [(18, 1, .iconst (-1), [], 0), (19, 1, .ireturn, [0], 0)]
set_option maxRecDepth 20000 in
theorem b126_18 : z_blk 126 18 20 B126_18 = true := by decide +kernel
def B126_20 : List zOp := [(20, 1, .aload_n 0, [], 0), (21, 3, .getfield 19, [10, 1, 2], 0), (24, 3, .invokevirtual 153, [96, 0, 8], 0), (27, 1, .aload_n 0, [], 0), (28, 3, .getfield 19, [10, 1, 2], 0), (31, 1, .iload_n 1, [], 0), (32, 1, .iload_n 2, [], 0), (33, 3, .invokevirtual 182, [98, 2, 8], 0), (36, 1, .ireturn, [0], 0)]
set_option maxRecDepth 20000 in
theorem b126_20 : z_blk 126 20 37 B126_20 = true := by decide +kernel
-- 127 yX10_have
def B127_0 : List zOp := [(0, 1, .iload_n 2, [], 0), (1, 3, .invokestatic 179, [155, 1], 0), (4, 3, .ifCond .eq 14, [18], 0), (7, 1, .aload_n 0, [], 0), (8, 3, .getfield 19, [10, 1, 2], 0), (11, 1, .iload_n 1, [], 0), (12, 3, .invokevirtual 185, [88, 1, 8], 0), (15, 3, .ifCond .ne 5, [20], 0)]
set_option maxRecDepth 20000 in
theorem b127_0 : z_blk 127 0 18 B127_0 = true := by decide +kernel
def B127_18 : List zOp := [(18, 1, .iconst (-1), [], 0), (19, 1, .ireturn, [0], 0)]
set_option maxRecDepth 20000 in
theorem b127_18 : z_blk 127 18 20 B127_18 = true := by decide +kernel
def B127_20 : List zOp := [(20, 1, .aload_n 0, [], 0), (21, 3, .getfield 19, [10, 1, 2], 0), (24, 3, .invokevirtual 153, [96, 0, 8], 0), (27, 1, .aload_n 0, [], 0), (28, 3, .getfield 19, [10, 1, 2], 0), (31, 1, .iload_n 1, [], 0), (32, 1, .iload_n 2, [], 0), (33, 3, .invokevirtual 188, [100, 2, 8], 0), (36, 1, .ireturn, [0], 0)]
set_option maxRecDepth 20000 in
theorem b127_20 : z_blk 127 20 37 B127_20 = true := by decide +kernel
-- 128 yX10_close
def B128_0 : List zOp := [(0, 1, .iload_n 2, [], 0), (1, 3, .invokestatic 179, [155, 1], 0), (4, 3, .ifCond .eq 14, [18], 0), (7, 1, .aload_n 0, [], 0), (8, 3, .getfield 19, [10, 1, 2], 0), (11, 1, .iload_n 1, [], 0), (12, 3, .invokevirtual 185, [88, 1, 8], 0), (15, 3, .ifCond .ne 5, [20], 0)]
set_option maxRecDepth 20000 in
theorem b128_0 : z_blk 128 0 18 B128_0 = true := by decide +kernel
def B128_18 : List zOp := [(18, 1, .iconst (-1), [], 0), (19, 1, .ireturn, [0], 0)]
set_option maxRecDepth 20000 in
theorem b128_18 : z_blk 128 18 20 B128_18 = true := by decide +kernel
def B128_20 : List zOp := [(20, 1, .aload_n 0, [], 0), (21, 3, .getfield 19, [10, 1, 2], 0), (24, 3, .invokevirtual 153, [96, 0, 8], 0), (27, 1, .aload_n 0, [], 0), (28, 3, .getfield 19, [10, 1, 2], 0), (31, 1, .iload_n 1, [], 0), (32, 1, .iload_n 2, [], 0), (33, 3, .invokevirtual 191, [101, 2, 8], 0), (36, 1, .ireturn, [0], 0)]
set_option maxRecDepth 20000 in
theorem b128_20 : z_blk 128 20 37 B128_20 = true := by decide +kernel
-- 129 yX10_concepts
def B129_0 : List zOp := [(0, 1, .iload_n 1, [], 0), (1, 3, .invokestatic 179, [155, 1], 0), (4, 3, .ifCond .eq 14, [18], 0), (7, 1, .aload_n 0, [], 0), (8, 1, .iload_n 1, [], 0), (9, 3, .invokevirtual 194, [150, 1, 10], 0), (12, 3, .getfield 198, [3, 4, 0], 0), (15, 3, .goto 4, [19], 0)]
set_option maxRecDepth 20000 in
theorem b129_0 : z_blk 129 0 18 B129_0 = true := by decide +kernel
def B129_18 : List zOp := [(18, 1, .iconst (-1), [], 0)]
set_option maxRecDepth 20000 in
theorem b129_18 : z_blk 129 18 19 B129_18 = true := by decide +kernel
def B129_19 : List zOp := [(19, 1, .ireturn, [0], 0)]
set_option maxRecDepth 20000 in
theorem b129_19 : z_blk 129 19 20 B129_19 = true := by decide +kernel
-- 130 yX10_concept
def B130_0 : List zOp := [(0, 1, .iload_n 1, [], 0), (1, 3, .invokestatic 179, [155, 1], 0), (4, 3, .ifCond .eq 15, [19], 0), (7, 1, .aload_n 0, [], 0), (8, 1, .iload_n 1, [], 0), (9, 3, .invokevirtual 194, [150, 1, 10], 0), (12, 1, .iload_n 2, [], 0), (13, 3, .invokevirtual 201, [35, 1, 3], 0), (16, 3, .goto 4, [20], 0)]
set_option maxRecDepth 20000 in
theorem b130_0 : z_blk 130 0 19 B130_0 = true := by decide +kernel
def B130_19 : List zOp := [(19, 1, .iconst (-1), [], 0)]
set_option maxRecDepth 20000 in
theorem b130_19 : z_blk 130 19 20 B130_19 = true := by decide +kernel
def B130_20 : List zOp := [(20, 1, .ireturn, [0], 0)]
set_option maxRecDepth 20000 in
theorem b130_20 : z_blk 130 20 21 B130_20 = true := by decide +kernel
-- 131 yX10_number
def B131_0 : List zOp := [(0, 1, .iload_n 1, [], 0), (1, 3, .invokestatic 179, [155, 1], 0), (4, 3, .ifCond .eq 26, [30], 0), (7, 1, .aload_n 0, [], 0), (8, 3, .getfield 19, [10, 1, 2], 0), (11, 1, .iload_n 2, [], 0), (12, 3, .invokevirtual 185, [88, 1, 8], 0), (15, 3, .ifCond .eq 15, [30], 0), (18, 1, .aload_n 0, [], 0), (19, 1, .iload_n 1, [], 0), (20, 3, .invokevirtual 194, [150, 1, 10], 0), (23, 1, .iload_n 2, [], 0), (24, 3, .invokevirtual 205, [36, 1, 3], 0), (27, 3, .goto 4, [31], 0)]
set_option maxRecDepth 20000 in
theorem b131_0 : z_blk 131 0 30 B131_0 = true := by decide +kernel
def B131_30 : List zOp := [(30, 1, .iconst (-1), [], 0)]
set_option maxRecDepth 20000 in
theorem b131_30 : z_blk 131 30 31 B131_30 = true := by decide +kernel
def B131_31 : List zOp := [(31, 1, .ireturn, [0], 0)]
set_option maxRecDepth 20000 in
theorem b131_31 : z_blk 131 31 32 B131_31 = true := by decide +kernel
-- 132 yX10_rules
def B132_0 : List zOp := [(0, 1, .iload_n 1, [], 0), (1, 3, .invokestatic 179, [155, 1], 0), (4, 3, .ifCond .eq 14, [18], 0), (7, 1, .aload_n 0, [], 0), (8, 1, .iload_n 1, [], 0), (9, 3, .invokevirtual 208, [151, 1, 10], 0), (12, 3, .getfield 211, [3, 8, 0], 0), (15, 3, .goto 4, [19], 0)]
set_option maxRecDepth 20000 in
theorem b132_0 : z_blk 132 0 18 B132_0 = true := by decide +kernel
def B132_18 : List zOp := [(18, 1, .iconst (-1), [], 0)]
set_option maxRecDepth 20000 in
theorem b132_18 : z_blk 132 18 19 B132_18 = true := by decide +kernel
def B132_19 : List zOp := [(19, 1, .ireturn, [0], 0)]
set_option maxRecDepth 20000 in
theorem b132_19 : z_blk 132 19 20 B132_19 = true := by decide +kernel
-- 133 yX10_rule
def B133_0 : List zOp := [(0, 1, .iload_n 1, [], 0), (1, 3, .invokestatic 179, [155, 1], 0), (4, 3, .ifCond .eq 12, [16], 0), (7, 1, .iload_n 3, [], 0), (8, 3, .ifCond .lt 8, [16], 0), (11, 1, .iload_n 3, [], 0), (12, 1, .iconst 1, [], 0), (13, 3, .if_icmp .le 5, [18], 0)]
set_option maxRecDepth 20000 in
theorem b133_0 : z_blk 133 0 16 B133_0 = true := by decide +kernel
def B133_16 : List zOp := [(16, 1, .iconst (-1), [], 0), (17, 1, .ireturn, [0], 0)]
set_option maxRecDepth 20000 in
theorem b133_16 : z_blk 133 16 18 B133_16 = true := by decide +kernel
def B133_18 : List zOp := [(18, 1, .aload_n 0, [], 0), (19, 1, .iload_n 1, [], 0), (20, 3, .invokevirtual 208, [151, 1, 10], 0), (23, 2, .astore 4, [], 0), (25, 1, .iload_n 3, [], 0), (26, 3, .ifCond .ne 12, [38], 0), (29, 2, .aload 4, [], 0), (31, 1, .iload_n 2, [], 0), (32, 3, .invokevirtual 214, [37, 1, 3], 0), (35, 3, .goto 9, [44], 0)]
set_option maxRecDepth 20000 in
theorem b133_18 : z_blk 133 18 38 B133_18 = true := by decide +kernel
def B133_38 : List zOp := [(38, 2, .aload 4, [], 0), (40, 1, .iload_n 2, [], 0), (41, 3, .invokevirtual 217, [38, 1, 3], 0)]
set_option maxRecDepth 20000 in
theorem b133_38 : z_blk 133 38 44 B133_38 = true := by decide +kernel
def B133_44 : List zOp := [(44, 1, .ireturn, [0], 0)]
set_option maxRecDepth 20000 in
theorem b133_44 : z_blk 133 44 45 B133_44 = true := by decide +kernel
-- 134 yX10_follow
def B134_0 : List zOp := [(0, 1, .iload_n 1, [], 0), (1, 3, .invokestatic 179, [155, 1], 0), (4, 3, .ifCond .eq 14, [18], 0), (7, 1, .aload_n 0, [], 0), (8, 3, .getfield 19, [10, 1, 2], 0), (11, 1, .iload_n 2, [], 0), (12, 3, .invokevirtual 185, [88, 1, 8], 0), (15, 3, .ifCond .ne 5, [20], 0)]
set_option maxRecDepth 20000 in
theorem b134_0 : z_blk 134 0 18 B134_0 = true := by decide +kernel
def B134_18 : List zOp := [(18, 1, .iconst (-1), [], 0), (19, 1, .ireturn, [0], 0)]
set_option maxRecDepth 20000 in
theorem b134_18 : z_blk 134 18 20 B134_18 = true := by decide +kernel
def B134_20 : List zOp := [(20, 1, .aload_n 0, [], 0), (21, 1, .iload_n 1, [], 0), (22, 3, .invokevirtual 208, [151, 1, 10], 0), (25, 2, .astore 4, [], 0), (27, 2, .aload 4, [], 0), (29, 1, .iload_n 2, [], 0), (30, 3, .invokevirtual 220, [39, 1, 3], 0), (33, 1, .iload_n 3, [], 0), (34, 3, .ifCond .ne 9, [43], 0), (37, 2, .aload 4, [], 0), (39, 3, .invokevirtual 223, [41, 0, 3], 0), (42, 1, .ireturn, [0], 0)]
set_option maxRecDepth 20000 in
theorem b134_20 : z_blk 134 20 43 B134_20 = true := by decide +kernel
def B134_43 : List zOp := [(43, 1, .iload_n 3, [], 0), (44, 1, .iconst 1, [], 0), (45, 3, .if_icmp .ne 11, [56], 0), (48, 2, .aload 4, [], 0), (50, 3, .getfield 226, [3, 11, 0], 0), (53, 3, .goto 23, [76], 0)]
set_option maxRecDepth 20000 in
theorem b134_43 : z_blk 134 43 56 B134_43 = true := by decide +kernel
def B134_56 : List zOp := [(56, 2, .aload 4, [], 0), (58, 1, .iload_n 3, [], 0), (59, 2, .bipush 10, [], 0), (61, 1, .isub, [], 0), (62, 1, .iload_n 3, [], 0), (63, 2, .bipush 10, [], 0), (65, 3, .if_icmp .lt 7, [72], 0), (68, 1, .iconst 1, [], 0), (69, 3, .goto 4, [73], 0)]
set_option maxRecDepth 20000 in
theorem b134_56 : z_blk 134 56 72 B134_56 = true := by decide +kernel
def B134_72 : List zOp := [(72, 1, .iconst 0, [], 0)]
set_option maxRecDepth 20000 in
theorem b134_72 : z_blk 134 72 73 B134_72 = true := by decide +kernel
def B134_73 : List zOp := [(73, 3, .invokevirtual 229, [42, 2, 3], 0)]
set_option maxRecDepth 20000 in
theorem b134_73 : z_blk 134 73 76 B134_73 = true := by decide +kernel
def B134_76 : List zOp := [(76, 1, .ireturn, [0], 0)]
set_option maxRecDepth 20000 in
theorem b134_76 : z_blk 134 76 77 B134_76 = true := by decide +kernel
-- 135 yX10_against
def B135_0 : List zOp := [(0, 1, .iload_n 1, [], 0), (1, 3, .invokestatic 179, [155, 1], 0), (4, 3, .ifCond .eq 25, [29], 0), (7, 1, .aload_n 0, [], 0), (8, 3, .getfield 19, [10, 1, 2], 0), (11, 1, .iload_n 2, [], 0), (12, 3, .invokevirtual 185, [88, 1, 8], 0), (15, 3, .ifCond .eq 14, [29], 0), (18, 1, .aload_n 0, [], 0), (19, 3, .getfield 19, [10, 1, 2], 0), (22, 1, .iload_n 3, [], 0), (23, 3, .invokevirtual 185, [88, 1, 8], 0), (26, 3, .ifCond .ne 5, [31], 0)]
set_option maxRecDepth 20000 in
theorem b135_0 : z_blk 135 0 29 B135_0 = true := by decide +kernel
def B135_29 : List zOp := [(29, 1, .iconst (-1), [], 0), (30, 1, .ireturn, [0], 0)]
set_option maxRecDepth 20000 in
theorem b135_29 : z_blk 135 29 31 B135_29 = true := by decide +kernel
def B135_31 : List zOp := [(31, 1, .aload_n 0, [], 0), (32, 3, .getfield 19, [10, 1, 2], 0), (35, 3, .invokevirtual 153, [96, 0, 8], 0), (38, 1, .aload_n 0, [], 0), (39, 3, .getfield 19, [10, 1, 2], 0), (42, 1, .iload_n 2, [], 0), (43, 1, .iload_n 1, [], 0), (44, 3, .invokevirtual 188, [100, 2, 8], 0), (47, 1, .aload_n 0, [], 0), (48, 3, .getfield 19, [10, 1, 2], 0), (51, 1, .iload_n 3, [], 0), (52, 1, .iload_n 1, [], 0), (53, 3, .invokevirtual 188, [100, 2, 8], 0), (56, 1, .iconst (-1), [], 0), (57, 1, .ixor, [], 0), (58, 1, .iand, [], 0), (59, 1, .ireturn, [0], 0)]
set_option maxRecDepth 20000 in
theorem b135_31 : z_blk 135 31 60 B135_31 = true := by decide +kernel
-- 136 yX10_explore
def B136_0 : List zOp := [(0, 1, .iload_n 1, [], 0), (1, 3, .invokestatic 179, [155, 1], 0), (4, 3, .ifCond .ne 5, [9], 0), (7, 1, .iconst (-1), [], 0), (8, 1, .ireturn, [0], 0)]
set_option maxRecDepth 20000 in
theorem b136_0 : z_blk 136 0 9 B136_0 = true := by decide +kernel
def B136_9 : List zOp := [(9, 1, .aload_n 0, [], 0), (10, 3, .getfield 19, [10, 1, 2], 0), (13, 3, .invokevirtual 153, [96, 0, 8], 0), (16, 1, .aload_n 0, [], 0), (17, 3, .getfield 33, [10, 3, 2], 0), (20, 1, .aload_n 0, [], 0), (21, 3, .getfield 19, [10, 1, 2], 0), (24, 1, .iload_n 1, [], 0), (25, 3, .invokevirtual 233, [10, 2, 1], 0), (28, 1, .aload_n 0, [], 0), (29, 3, .getfield 33, [10, 3, 2], 0), (32, 3, .getfield 173, [1, 4, 0], 0), (35, 1, .ireturn, [0], 0)]
set_option maxRecDepth 20000 in
theorem b136_9 : z_blk 136 9 36 B136_9 = true := by decide +kernel
-- 137 yX10_question
def B137_0 : List zOp := [(0, 1, .iload_n 1, [], 0), (1, 3, .ifCond .lt 18, [19], 0), (4, 1, .iload_n 1, [], 0), (5, 1, .iconst 1, [], 0), (6, 3, .if_icmp .gt 13, [19], 0), (9, 1, .aload_n 0, [], 0), (10, 3, .getfield 33, [10, 3, 2], 0), (13, 3, .invokevirtual 237, [11, 0, 1], 0), (16, 3, .ifCond .ne 5, [21], 0)]
set_option maxRecDepth 20000 in
theorem b137_0 : z_blk 137 0 19 B137_0 = true := by decide +kernel
def B137_19 : List zOp := [(19, 1, .iconst (-1), [], 0), (20, 1, .ireturn, [0], 0)]
set_option maxRecDepth 20000 in
theorem b137_19 : z_blk 137 19 21 B137_19 = true := by decide +kernel
def B137_21 : List zOp := [(21, 1, .iload_n 1, [], 0), (22, 3, .ifCond .ne 13, [35], 0), (25, 1, .aload_n 0, [], 0), (26, 3, .getfield 33, [10, 3, 2], 0), (29, 3, .invokevirtual 241, [12, 0, 1], 0), (32, 3, .goto 10, [42], 0)]
set_option maxRecDepth 20000 in
theorem b137_21 : z_blk 137 21 35 B137_21 = true := by decide +kernel
def B137_35 : List zOp := [(35, 1, .aload_n 0, [], 0), (36, 3, .getfield 33, [10, 3, 2], 0), (39, 3, .invokevirtual 244, [13, 0, 1], 0)]
set_option maxRecDepth 20000 in
theorem b137_35 : z_blk 137 35 42 B137_35 = true := by decide +kernel
def B137_42 : List zOp := [(42, 1, .ireturn, [0], 0)]
set_option maxRecDepth 20000 in
theorem b137_42 : z_blk 137 42 43 B137_42 = true := by decide +kernel
-- 138 yX10_yes
def B138_0 : List zOp := [(0, 1, .aload_n 0, [], 0), (1, 3, .getfield 33, [10, 3, 2], 0), (4, 3, .invokevirtual 247, [14, 0, 1], 0), (7, 3, .ifCond .eq 13, [20], 0), (10, 1, .aload_n 0, [], 0), (11, 3, .getfield 33, [10, 3, 2], 0), (14, 3, .getfield 176, [1, 7, 0], 0), (17, 3, .goto 4, [21], 0)]
set_option maxRecDepth 20000 in
theorem b138_0 : z_blk 138 0 20 B138_0 = true := by decide +kernel
def B138_20 : List zOp := [(20, 1, .iconst (-1), [], 0)]
set_option maxRecDepth 20000 in
theorem b138_20 : z_blk 138 20 21 B138_20 = true := by decide +kernel
def B138_21 : List zOp := [(21, 1, .ireturn, [0], 0)]
set_option maxRecDepth 20000 in
theorem b138_21 : z_blk 138 21 22 B138_21 = true := by decide +kernel
-- 139 yX10_no
def B139_0 : List zOp := [(0, 1, .aload_n 0, [], 0), (1, 3, .getfield 33, [10, 3, 2], 0), (4, 1, .iload_n 1, [], 0), (5, 3, .invokevirtual 250, [15, 1, 1], 0), (8, 3, .ifCond .eq 13, [21], 0), (11, 1, .aload_n 0, [], 0), (12, 3, .getfield 33, [10, 3, 2], 0), (15, 3, .getfield 173, [1, 4, 0], 0), (18, 3, .goto 4, [22], 0)]
set_option maxRecDepth 20000 in
theorem b139_0 : z_blk 139 0 21 B139_0 = true := by decide +kernel
def B139_21 : List zOp := [(21, 1, .iconst (-1), [], 0)]
set_option maxRecDepth 20000 in
theorem b139_21 : z_blk 139 21 22 B139_21 = true := by decide +kernel
def B139_22 : List zOp := [(22, 1, .ireturn, [0], 0)]
set_option maxRecDepth 20000 in
theorem b139_22 : z_blk 139 22 23 B139_22 = true := by decide +kernel
-- 140 yX10_accepted
def B140_0 : List zOp := [(0, 1, .aload_n 0, [], 0), (1, 3, .getfield 33, [10, 3, 2], 0), (4, 1, .iload_n 1, [], 0), (5, 1, .iload_n 2, [], 0), (6, 3, .invokevirtual 253, [16, 2, 1], 0), (9, 1, .ireturn, [0], 0)]
set_option maxRecDepth 20000 in
theorem b140_0 : z_blk 140 0 10 B140_0 = true := by decide +kernel
-- 141 yX10_rows
def B141_0 : List zOp := [(0, 1, .iload_n 1, [], 0), (1, 3, .invokestatic 179, [155, 1], 0), (4, 3, .ifCond .eq 25, [29], 0), (7, 1, .aload_n 0, [], 0), (8, 3, .getfield 19, [10, 1, 2], 0), (11, 1, .iload_n 2, [], 0), (12, 3, .invokevirtual 256, [87, 1, 8], 0), (15, 3, .ifCond .eq 14, [29], 0), (18, 1, .aload_n 0, [], 0), (19, 3, .getfield 19, [10, 1, 2], 0), (22, 1, .iload_n 3, [], 0), (23, 3, .invokevirtual 185, [88, 1, 8], 0), (26, 3, .ifCond .ne 7, [33], 0)]
set_option maxRecDepth 20000 in
theorem b141_0 : z_blk 141 0 29 B141_0 = true := by decide +kernel
def B141_29 : List zOp := [(29, 3, .ldc2_w 259, [], (-1)), (32, 1, .lreturn, [], 0)]
set_option maxRecDepth 20000 in
theorem b141_29 : z_blk 141 29 33 B141_29 = true := by decide +kernel
def B141_33 : List zOp := [(33, 1, .aload_n 0, [], 0), (34, 3, .getfield 19, [10, 1, 2], 0), (37, 3, .invokevirtual 153, [96, 0, 8], 0), (40, 1, .aload_n 0, [], 0), (41, 3, .getfield 40, [10, 4, 2], 0), (44, 1, .aload_n 0, [], 0), (45, 3, .getfield 19, [10, 1, 2], 0), (48, 1, .iload_n 1, [], 0), (49, 1, .iload_n 2, [], 0), (50, 1, .iload_n 3, [], 0), (51, 3, .invokevirtual 261, [73, 4, 7], 0), (54, 1, .aload_n 0, [], 0), (55, 3, .getfield 40, [10, 4, 2], 0), (58, 3, .invokevirtual 265, [79, 0, 7], 0), (61, 1, .lreturn, [], 0)]
set_option maxRecDepth 20000 in
theorem b141_33 : z_blk 141 33 62 B141_33 = true := by decide +kernel
-- 142 yX10_place
def B142_0 : List zOp := [(0, 1, .iload_n 1, [], 0), (1, 3, .invokestatic 179, [155, 1], 0), (4, 3, .ifCond .eq 25, [29], 0), (7, 1, .aload_n 0, [], 0), (8, 3, .getfield 19, [10, 1, 2], 0), (11, 1, .iload_n 2, [], 0), (12, 3, .invokevirtual 256, [87, 1, 8], 0), (15, 3, .ifCond .eq 14, [29], 0), (18, 1, .aload_n 0, [], 0), (19, 3, .getfield 19, [10, 1, 2], 0), (22, 1, .iload_n 3, [], 0), (23, 3, .invokevirtual 185, [88, 1, 8], 0), (26, 3, .ifCond .ne 5, [31], 0)]
set_option maxRecDepth 20000 in
theorem b142_0 : z_blk 142 0 29 B142_0 = true := by decide +kernel
def B142_29 : List zOp := [(29, 1, .iconst (-1), [], 0), (30, 1, .ireturn, [0], 0)]
set_option maxRecDepth 20000 in
theorem b142_29 : z_blk 142 29 31 B142_29 = true := by decide +kernel
def B142_31 : List zOp := [(31, 1, .aload_n 0, [], 0), (32, 3, .getfield 19, [10, 1, 2], 0), (35, 3, .invokevirtual 153, [96, 0, 8], 0), (38, 1, .aload_n 0, [], 0), (39, 3, .getfield 40, [10, 4, 2], 0), (42, 1, .aload_n 0, [], 0), (43, 3, .getfield 19, [10, 1, 2], 0), (46, 1, .iload_n 1, [], 0), (47, 1, .iload_n 2, [], 0), (48, 1, .iload_n 3, [], 0), (49, 3, .invokevirtual 261, [73, 4, 7], 0), (52, 1, .aload_n 0, [], 0), (53, 3, .getfield 40, [10, 4, 2], 0), (56, 2, .lload 4, [], 0), (58, 2, .iload 6, [], 0), (60, 3, .invokevirtual 269, [80, 2, 7], 0), (63, 1, .ireturn, [0], 0)]
set_option maxRecDepth 20000 in
theorem b142_31 : z_blk 142 31 64 B142_31 = true := by decide +kernel
-- 143 yX10_crosses
def B143_0 : List zOp := [(0, 1, .iload_n 1, [], 0), (1, 3, .invokestatic 179, [155, 1], 0), (4, 3, .ifCond .eq 25, [29], 0), (7, 1, .aload_n 0, [], 0), (8, 3, .getfield 19, [10, 1, 2], 0), (11, 1, .iload_n 2, [], 0), (12, 3, .invokevirtual 256, [87, 1, 8], 0), (15, 3, .ifCond .eq 14, [29], 0), (18, 1, .aload_n 0, [], 0), (19, 3, .getfield 19, [10, 1, 2], 0), (22, 1, .iload_n 3, [], 0), (23, 3, .invokevirtual 185, [88, 1, 8], 0), (26, 3, .ifCond .ne 5, [31], 0)]
set_option maxRecDepth 20000 in
theorem b143_0 : z_blk 143 0 29 B143_0 = true := by decide +kernel
def B143_29 : List zOp := [(29, 1, .iconst (-1), [], 0), (30, 1, .ireturn, [0], 0)]
set_option maxRecDepth 20000 in
theorem b143_29 : z_blk 143 29 31 B143_29 = true := by decide +kernel
def B143_31 : List zOp := [(31, 1, .iload_n 2, [], 0), (32, 3, .invokestatic 273, [243, 1], 0), (35, 2, .bipush 8, [], 0), (37, 3, .if_icmp .le 5, [42], 0), (40, 1, .iconst (-1), [], 0), (41, 1, .ireturn, [0], 0)]
set_option maxRecDepth 20000 in
theorem b143_31 : z_blk 143 31 42 B143_31 = true := by decide +kernel
def B143_42 : List zOp := [(42, 1, .aload_n 0, [], 0), (43, 3, .getfield 19, [10, 1, 2], 0), (46, 3, .invokevirtual 153, [96, 0, 8], 0), (49, 1, .aload_n 0, [], 0), (50, 3, .getfield 47, [10, 5, 2], 0), (53, 1, .aload_n 0, [], 0), (54, 3, .getfield 19, [10, 1, 2], 0), (57, 1, .iload_n 1, [], 0), (58, 1, .iload_n 2, [], 0), (59, 1, .iload_n 3, [], 0), (60, 3, .invokevirtual 278, [1, 4, 0], 0), (63, 2, .iload 4, [], 0), (65, 3, .ifCond .ne 13, [78], 0), (68, 1, .aload_n 0, [], 0), (69, 3, .getfield 47, [10, 5, 2], 0), (72, 3, .getfield 279, [0, 15, 0], 0), (75, 3, .goto 27, [102], 0)]
set_option maxRecDepth 20000 in
theorem b143_42 : z_blk 143 42 78 B143_42 = true := by decide +kernel
def B143_78 : List zOp := [(78, 1, .aload_n 0, [], 0), (79, 3, .getfield 47, [10, 5, 2], 0), (82, 2, .iload 4, [], 0), (84, 2, .bipush 10, [], 0), (86, 1, .isub, [], 0), (87, 2, .iload 4, [], 0), (89, 2, .bipush 10, [], 0), (91, 3, .if_icmp .lt 7, [98], 0), (94, 1, .iconst 1, [], 0), (95, 3, .goto 4, [99], 0)]
set_option maxRecDepth 20000 in
theorem b143_78 : z_blk 143 78 98 B143_78 = true := by decide +kernel
def B143_98 : List zOp := [(98, 1, .iconst 0, [], 0)]
set_option maxRecDepth 20000 in
theorem b143_98 : z_blk 143 98 99 B143_98 = true := by decide +kernel
def B143_99 : List zOp := [(99, 3, .invokevirtual 282, [8, 2, 0], 0)]
set_option maxRecDepth 20000 in
theorem b143_99 : z_blk 143 99 102 B143_99 = true := by decide +kernel
def B143_102 : List zOp := [(102, 1, .ireturn, [0], 0)]
set_option maxRecDepth 20000 in
theorem b143_102 : z_blk 143 102 103 B143_102 = true := by decide +kernel
-- 144 yX10_cost
def B144_0 : List zOp := [(0, 1, .iload_n 1, [], 0), (1, 3, .ifCond .lt 20, [21], 0), (4, 1, .iload_n 1, [], 0), (5, 2, .bipush 12, [], 0), (7, 3, .if_icmp .ge 14, [21], 0), (10, 1, .iload_n 2, [], 0), (11, 1, .iconst 1, [], 0), (12, 3, .if_icmp .lt 9, [21], 0), (15, 1, .iload_n 2, [], 0), (16, 2, .bipush 9, [], 0), (18, 3, .if_icmp .le 5, [23], 0)]
set_option maxRecDepth 20000 in
theorem b144_0 : z_blk 144 0 21 B144_0 = true := by decide +kernel
def B144_21 : List zOp := [(21, 1, .iconst 0, [], 0), (22, 1, .ireturn, [3], 0)]
set_option maxRecDepth 20000 in
theorem b144_21 : z_blk 144 21 23 B144_21 = true := by decide +kernel
def B144_23 : List zOp := [(23, 1, .aload_n 0, [], 0), (24, 3, .getfield 54, [10, 6, 2], 0), (27, 1, .iload_n 1, [], 0), (28, 1, .iload_n 2, [], 0), (29, 3, .invokevirtual 285, [20, 2, 2], 0), (32, 1, .iconst 1, [], 0), (33, 1, .ireturn, [3], 0)]
set_option maxRecDepth 20000 in
theorem b144_23 : z_blk 144 23 34 B144_23 = true := by decide +kernel
-- 145 yX10_key
def B145_0 : List zOp := [(0, 1, .iload_n 1, [], 0), (1, 3, .ifCond .eq 14, [15], 0), (4, 1, .aload_n 0, [], 0), (5, 3, .getfield 19, [10, 1, 2], 0), (8, 1, .iload_n 1, [], 0), (9, 3, .invokevirtual 256, [87, 1, 8], 0), (12, 3, .ifCond .ne 5, [17], 0)]
set_option maxRecDepth 20000 in
theorem b145_0 : z_blk 145 0 15 B145_0 = true := by decide +kernel
def B145_15 : List zOp := [(15, 1, .iconst (-1), [], 0), (16, 1, .ireturn, [0], 0)]
set_option maxRecDepth 20000 in
theorem b145_15 : z_blk 145 15 17 B145_15 = true := by decide +kernel
def B145_17 : List zOp := [(17, 1, .aload_n 0, [], 0), (18, 3, .getfield 19, [10, 1, 2], 0), (21, 3, .invokevirtual 153, [96, 0, 8], 0), (24, 1, .aload_n 0, [], 0), (25, 3, .getfield 54, [10, 6, 2], 0), (28, 1, .aload_n 0, [], 0), (29, 3, .getfield 19, [10, 1, 2], 0), (32, 3, .invokevirtual 289, [21, 1, 2], 0), (35, 1, .iload_n 2, [], 0), (36, 28, .tableswitch 55 0 2 #[28, 37, 46], [91, 64, 73, 82], 0)]
set_option maxRecDepth 20000 in
theorem b145_17 : z_blk 145 17 64 B145_17 = true := by decide +kernel
def B145_64 : List zOp := [(64, 1, .aload_n 0, [], 0), (65, 3, .getfield 54, [10, 6, 2], 0), (68, 1, .iload_n 1, [], 0), (69, 3, .invokevirtual 292, [22, 1, 2], 0), (72, 1, .ireturn, [0], 0)]
set_option maxRecDepth 20000 in
theorem b145_64 : z_blk 145 64 73 B145_64 = true := by decide +kernel
def B145_73 : List zOp := [(73, 1, .aload_n 0, [], 0), (74, 3, .getfield 54, [10, 6, 2], 0), (77, 1, .iload_n 1, [], 0), (78, 3, .invokevirtual 295, [23, 1, 2], 0), (81, 1, .ireturn, [0], 0)]
set_option maxRecDepth 20000 in
theorem b145_73 : z_blk 145 73 82 B145_73 = true := by decide +kernel
def B145_82 : List zOp := [(82, 1, .aload_n 0, [], 0), (83, 3, .getfield 54, [10, 6, 2], 0), (86, 1, .iload_n 1, [], 0), (87, 3, .invokevirtual 298, [25, 1, 2], 0), (90, 1, .ireturn, [0], 0)]
set_option maxRecDepth 20000 in
theorem b145_82 : z_blk 145 82 91 B145_82 = true := by decide +kernel
def B145_91 : List zOp := [(91, 1, .iconst (-1), [], 0), (92, 1, .ireturn, [0], 0)]
set_option maxRecDepth 20000 in
theorem b145_91 : z_blk 145 91 93 B145_91 = true := by decide +kernel
-- 146 yX10_path
def B146_0 : List zOp := [(0, 1, .aload_n 0, [], 0), (1, 3, .getfield 19, [10, 1, 2], 0), (4, 1, .iload_n 1, [], 0), (5, 3, .invokevirtual 256, [87, 1, 8], 0), (8, 3, .ifCond .eq 22, [30], 0), (11, 1, .aload_n 0, [], 0), (12, 3, .getfield 19, [10, 1, 2], 0), (15, 1, .iload_n 2, [], 0), (16, 3, .invokevirtual 84, [86, 1, 8], 0), (19, 3, .ifCond .eq 11, [30], 0), (22, 1, .iload_n 1, [], 0), (23, 1, .iconst 1, [], 0), (24, 1, .iload_n 2, [], 0), (25, 1, .ishl, [], 0), (26, 1, .iand, [], 0), (27, 3, .ifCond .ne 5, [32], 0)]
set_option maxRecDepth 20000 in
theorem b146_0 : z_blk 146 0 30 B146_0 = true := by decide +kernel
def B146_30 : List zOp := [(30, 1, .iconst (-1), [], 0), (31, 1, .ireturn, [0], 0)]
set_option maxRecDepth 20000 in
theorem b146_30 : z_blk 146 30 32 B146_30 = true := by decide +kernel
def B146_32 : List zOp := [(32, 1, .aload_n 0, [], 0), (33, 3, .getfield 19, [10, 1, 2], 0), (36, 3, .invokevirtual 153, [96, 0, 8], 0), (39, 1, .aload_n 0, [], 0), (40, 3, .getfield 54, [10, 6, 2], 0), (43, 1, .aload_n 0, [], 0), (44, 3, .getfield 19, [10, 1, 2], 0), (47, 3, .invokevirtual 289, [21, 1, 2], 0), (50, 1, .aload_n 0, [], 0), (51, 3, .getfield 54, [10, 6, 2], 0), (54, 1, .iload_n 1, [], 0), (55, 1, .iload_n 2, [], 0), (56, 3, .invokevirtual 301, [27, 2, 2], 0), (59, 1, .iload_n 3, [], 0), (60, 28, .tableswitch 52 0 2 #[28, 36, 44], [112, 88, 96, 104], 0)]
set_option maxRecDepth 20000 in
theorem b146_32 : z_blk 146 32 88 B146_32 = true := by decide +kernel
def B146_88 : List zOp := [(88, 1, .aload_n 0, [], 0), (89, 3, .getfield 54, [10, 6, 2], 0), (92, 3, .getfield 304, [2, 8, 0], 0), (95, 1, .ireturn, [0], 0)]
set_option maxRecDepth 20000 in
theorem b146_88 : z_blk 146 88 96 B146_88 = true := by decide +kernel
def B146_96 : List zOp := [(96, 1, .aload_n 0, [], 0), (97, 3, .getfield 54, [10, 6, 2], 0), (100, 3, .getfield 307, [2, 9, 0], 0), (103, 1, .ireturn, [0], 0)]
set_option maxRecDepth 20000 in
theorem b146_96 : z_blk 146 96 104 B146_96 = true := by decide +kernel
def B146_104 : List zOp := [(104, 1, .aload_n 0, [], 0), (105, 3, .getfield 54, [10, 6, 2], 0), (108, 3, .getfield 310, [2, 10, 0], 0), (111, 1, .ireturn, [0], 0)]
set_option maxRecDepth 20000 in
theorem b146_104 : z_blk 146 104 112 B146_104 = true := by decide +kernel
def B146_112 : List zOp := [(112, 1, .aload_n 0, [], 0), (113, 3, .getfield 54, [10, 6, 2], 0), (116, 1, .iload_n 3, [], 0), (117, 2, .bipush 10, [], 0), (119, 1, .isub, [], 0), (120, 1, .iload_n 3, [], 0), (121, 2, .bipush 10, [], 0), (123, 3, .if_icmp .lt 7, [130], 0), (126, 1, .iconst 1, [], 0), (127, 3, .goto 4, [131], 0)]
set_option maxRecDepth 20000 in
theorem b146_112 : z_blk 146 112 130 B146_112 = true := by decide +kernel
def B146_130 : List zOp := [(130, 1, .iconst 0, [], 0)]
set_option maxRecDepth 20000 in
theorem b146_130 : z_blk 146 130 131 B146_130 = true := by decide +kernel
def B146_131 : List zOp := [(131, 3, .invokevirtual 313, [28, 2, 2], 0), (134, 1, .ireturn, [0], 0)]
set_option maxRecDepth 20000 in
theorem b146_131 : z_blk 146 131 135 B146_131 = true := by decide +kernel
-- 147 yX10_quarrel
def B147_0 : List zOp := [(0, 1, .iload_n 1, [], 0), (1, 3, .invokestatic 91, [153, 1], 0), (4, 3, .ifCond .eq 14, [18], 0), (7, 1, .iload_n 2, [], 0), (8, 3, .ifCond .lt 10, [18], 0), (11, 1, .iload_n 2, [], 0), (12, 3, .sipush 999, [], 0), (15, 3, .if_icmp .le 5, [20], 0)]
set_option maxRecDepth 20000 in
theorem b147_0 : z_blk 147 0 18 B147_0 = true := by decide +kernel
def B147_18 : List zOp := [(18, 1, .iconst (-1), [], 0), (19, 1, .ireturn, [0], 0)]
set_option maxRecDepth 20000 in
theorem b147_18 : z_blk 147 18 20 B147_18 = true := by decide +kernel
def B147_20 : List zOp := [(20, 1, .aload_n 0, [], 0), (21, 3, .getfield 12, [10, 0, 2], 0), (24, 1, .iload_n 1, [], 0), (25, 1, .aload_n 0, [], 0), (26, 3, .getfield 73, [10, 10, 2], 0), (29, 3, .invokevirtual 316, [46, 2, 4], 0), (32, 1, .iconst 0, [], 0), (33, 2, .istore 4, [], 0), (35, 1, .iconst 0, [], 0), (36, 2, .istore 5, [], 0)]
set_option maxRecDepth 20000 in
theorem b147_20 : z_blk 147 20 38 B147_20 = true := by decide +kernel
def B147_38 : List zOp := [(38, 2, .iload 5, [], 0), (40, 1, .aload_n 0, [], 0), (41, 3, .getfield 19, [10, 1, 2], 0), (44, 3, .getfield 160, [8, 0, 0], 0), (47, 2, .bipush 6, [], 0), (49, 1, .imul, [], 0), (50, 3, .if_icmp .ge 69, [119], 0), (53, 1, .aload_n 0, [], 0), (54, 3, .getfield 73, [10, 10, 2], 0), (57, 2, .iload 5, [], 0), (59, 1, .iaload, [], 0), (60, 2, .istore 6, [], 0), (62, 1, .aload_n 0, [], 0), (63, 3, .getfield 73, [10, 10, 2], 0), (66, 2, .bipush 96, [], 0), (68, 2, .iload 5, [], 0), (70, 1, .iadd, [], 0), (71, 1, .iaload, [], 0), (72, 2, .istore 7, [], 0), (74, 2, .iload 6, [], 0), (76, 1, .iconst (-1), [], 0), (77, 3, .if_icmp .eq 36, [113], 0), (80, 2, .iload 7, [], 0), (82, 1, .iconst (-1), [], 0), (83, 3, .if_icmp .eq 30, [113], 0), (86, 2, .iload 6, [], 0), (88, 2, .iload 7, [], 0), (90, 1, .isub, [], 0), (91, 3, .invokestatic 320, [244], 0), (94, 1, .iload_n 2, [], 0), (95, 3, .if_icmp .le 18, [113], 0), (98, 1, .iload_n 3, [], 0), (99, 2, .bipush 10, [], 0), (101, 2, .iload 4, [], 0), (103, 1, .iadd, [], 0), (104, 3, .if_icmp .ne 6, [110], 0), (107, 2, .iload 5, [], 0), (109, 1, .ireturn, [0], 0)]
set_option maxRecDepth 20000 in
theorem b147_38 : z_blk 147 38 110 B147_38 = true := by decide +kernel
def B147_110 : List zOp := [(110, 3, .iinc 4 1, [], 0)]
set_option maxRecDepth 20000 in
theorem b147_110 : z_blk 147 110 113 B147_110 = true := by decide +kernel
def B147_113 : List zOp := [(113, 3, .iinc 5 1, [], 0), (116, 3, .goto (-78), [38], 0)]
set_option maxRecDepth 20000 in
theorem b147_113 : z_blk 147 113 119 B147_113 = true := by decide +kernel
def B147_119 : List zOp := [(119, 1, .iload_n 3, [], 0), (120, 3, .ifCond .ne 8, [128], 0), (123, 2, .iload 4, [], 0), (125, 3, .goto 4, [129], 0)]
set_option maxRecDepth 20000 in
theorem b147_119 : z_blk 147 119 128 B147_119 = true := by decide +kernel
def B147_128 : List zOp := [(128, 1, .iconst (-1), [], 0)]
set_option maxRecDepth 20000 in
theorem b147_128 : z_blk 147 128 129 B147_128 = true := by decide +kernel
def B147_129 : List zOp := [(129, 1, .ireturn, [0], 0)]
set_option maxRecDepth 20000 in
theorem b147_129 : z_blk 147 129 130 B147_129 = true := by decide +kernel
-- 148 yX10_changed
def B148_0 : List zOp := [(0, 1, .iload_n 1, [], 0), (1, 3, .invokestatic 105, [154, 1], 0), (4, 3, .ifCond .eq 17, [21], 0), (7, 1, .iload_n 2, [], 0), (8, 3, .invokestatic 91, [153, 1], 0), (11, 3, .ifCond .eq 10, [21], 0), (14, 1, .iload_n 3, [], 0), (15, 3, .invokestatic 91, [153, 1], 0), (18, 3, .ifCond .ne 5, [23], 0)]
set_option maxRecDepth 20000 in
theorem b148_0 : z_blk 148 0 21 B148_0 = true := by decide +kernel
def B148_21 : List zOp := [(21, 1, .iconst (-1), [], 0), (22, 1, .ireturn, [0], 0)]
set_option maxRecDepth 20000 in
theorem b148_21 : z_blk 148 21 23 B148_21 = true := by decide +kernel
def B148_23 : List zOp := [(23, 1, .aload_n 0, [], 0), (24, 3, .getfield 12, [10, 0, 2], 0), (27, 1, .iload_n 2, [], 0), (28, 1, .aload_n 0, [], 0), (29, 3, .getfield 73, [10, 10, 2], 0), (32, 3, .invokevirtual 316, [46, 2, 4], 0), (35, 1, .aload_n 0, [], 0), (36, 3, .getfield 12, [10, 0, 2], 0), (39, 1, .iload_n 3, [], 0), (40, 1, .aload_n 0, [], 0), (41, 3, .getfield 77, [10, 11, 2], 0), (44, 3, .invokevirtual 316, [46, 2, 4], 0), (47, 1, .iconst 0, [], 0), (48, 2, .istore 5, [], 0), (50, 1, .iconst 0, [], 0), (51, 2, .istore 6, [], 0)]
set_option maxRecDepth 20000 in
theorem b148_23 : z_blk 148 23 53 B148_23 = true := by decide +kernel
def B148_53 : List zOp := [(53, 2, .iload 6, [], 0), (55, 1, .aload_n 0, [], 0), (56, 3, .getfield 19, [10, 1, 2], 0), (59, 3, .getfield 160, [8, 0, 0], 0), (62, 3, .if_icmp .ge 82, [144], 0), (65, 1, .aload_n 0, [], 0), (66, 3, .getfield 19, [10, 1, 2], 0), (69, 1, .aload_n 0, [], 0), (70, 3, .getfield 73, [10, 10, 2], 0), (73, 1, .aload_n 0, [], 0), (74, 3, .getfield 77, [10, 11, 2], 0), (77, 1, .iload_n 1, [], 0), (78, 2, .iload 6, [], 0), (80, 3, .invokevirtual 325, [102, 4, 8], 0), (83, 2, .istore 7, [], 0), (85, 1, .iconst 0, [], 0), (86, 2, .istore 8, [], 0)]
set_option maxRecDepth 20000 in
theorem b148_53 : z_blk 148 53 88 B148_53 = true := by decide +kernel
def B148_88 : List zOp := [(88, 2, .iload 8, [], 0), (90, 1, .aload_n 0, [], 0), (91, 3, .getfield 19, [10, 1, 2], 0), (94, 3, .invokevirtual 141, [90, 0, 8], 0), (97, 3, .if_icmp .ge 41, [138], 0), (100, 2, .iload 7, [], 0), (102, 1, .iconst 1, [], 0), (103, 2, .iload 8, [], 0), (105, 1, .ishl, [], 0), (106, 1, .iand, [], 0), (107, 3, .ifCond .eq 25, [132], 0), (110, 2, .iload 4, [], 0), (112, 2, .bipush 10, [], 0), (114, 2, .iload 5, [], 0), (116, 1, .iadd, [], 0), (117, 3, .if_icmp .ne 12, [129], 0), (120, 2, .iload 6, [], 0), (122, 2, .bipush 12, [], 0), (124, 1, .imul, [], 0), (125, 2, .iload 8, [], 0), (127, 1, .iadd, [], 0), (128, 1, .ireturn, [0], 0)]
set_option maxRecDepth 20000 in
theorem b148_88 : z_blk 148 88 129 B148_88 = true := by decide +kernel
def B148_129 : List zOp := [(129, 3, .iinc 5 1, [], 0)]
set_option maxRecDepth 20000 in
theorem b148_129 : z_blk 148 129 132 B148_129 = true := by decide +kernel
def B148_132 : List zOp := [(132, 3, .iinc 8 1, [], 0), (135, 3, .goto (-47), [88], 0)]
set_option maxRecDepth 20000 in
theorem b148_132 : z_blk 148 132 138 B148_132 = true := by decide +kernel
def B148_138 : List zOp := [(138, 3, .iinc 6 1, [], 0), (141, 3, .goto (-88), [53], 0)]
set_option maxRecDepth 20000 in
theorem b148_138 : z_blk 148 138 144 B148_138 = true := by decide +kernel
def B148_144 : List zOp := [(144, 2, .iload 4, [], 0), (146, 3, .ifCond .ne 8, [154], 0), (149, 2, .iload 5, [], 0), (151, 3, .goto 4, [155], 0)]
set_option maxRecDepth 20000 in
theorem b148_144 : z_blk 148 144 154 B148_144 = true := by decide +kernel
def B148_154 : List zOp := [(154, 1, .iconst (-1), [], 0)]
set_option maxRecDepth 20000 in
theorem b148_154 : z_blk 148 154 155 B148_154 = true := by decide +kernel
def B148_155 : List zOp := [(155, 1, .ireturn, [0], 0)]
set_option maxRecDepth 20000 in
theorem b148_155 : z_blk 148 155 156 B148_155 = true := by decide +kernel
-- 149 yX10_feedFour
def B149_0 : List zOp := [(0, 2, .bipush 24, [], 0), (2, 1, .istore_n 2, [], 0)]
set_option maxRecDepth 20000 in
theorem b149_0 : z_blk 149 0 3 B149_0 = true := by decide +kernel
def B149_3 : List zOp := [(3, 1, .iload_n 2, [], 0), (4, 3, .ifCond .lt 46, [50], 0), (7, 1, .aload_n 0, [], 0), (8, 3, .getfield 62, [10, 8, 0], 0), (11, 3, .sipush 800, [], 0), (14, 3, .if_icmp .ge 36, [50], 0), (17, 1, .aload_n 0, [], 0), (18, 3, .getfield 58, [10, 7, 2], 0), (21, 1, .aload_n 0, [], 0), (22, 3, .getfield 62, [10, 8, 0], 0), (25, 1, .iload_n 1, [], 0), (26, 1, .iload_n 2, [], 0), (27, 1, .iushr, [], 0), (28, 3, .sipush 255, [], 0), (31, 1, .iand, [], 0), (32, 1, .i2c, [], 0), (33, 1, .castore, [], 0), (34, 1, .aload_n 0, [], 0), (35, 1, .dup, [], 0), (36, 3, .getfield 62, [10, 8, 0], 0), (39, 1, .iconst 1, [], 0), (40, 1, .iadd, [], 0), (41, 3, .putfield 62, [10, 8, 0], 0), (44, 3, .iinc 2 (-8), [], 0), (47, 3, .goto (-44), [3], 0)]
set_option maxRecDepth 20000 in
theorem b149_3 : z_blk 149 3 50 B149_3 = true := by decide +kernel
def B149_50 : List zOp := [(50, 1, .return_, [], 0)]
set_option maxRecDepth 20000 in
theorem b149_50 : z_blk 149 50 51 B149_50 = true := by decide +kernel
-- 150 yX10_closedSets
def B150_0 : List zOp := [(0, 1, .aload_n 0, [], 0), (1, 3, .getfield 19, [10, 1, 2], 0), (4, 3, .invokevirtual 153, [96, 0, 8], 0), (7, 1, .aload_n 0, [], 0), (8, 3, .getfield 26, [10, 2, 2], 0), (11, 1, .iload_n 1, [], 0), (12, 1, .aaload, [], 0), (13, 1, .astore_n 2, [], 0), (14, 1, .aload_n 2, [], 0), (15, 1, .aload_n 0, [], 0), (16, 3, .getfield 19, [10, 1, 2], 0), (19, 1, .iload_n 1, [], 0), (20, 3, .invokevirtual 329, [30, 2, 3], 0), (23, 1, .aload_n 2, [], 0), (24, 1, .areturn, [], 0)]
set_option maxRecDepth 20000 in
theorem b150_0 : z_blk 150 0 25 B150_0 = true := by decide +kernel
-- 151 yX10_ruleBase
def B151_0 : List zOp := [(0, 1, .aload_n 0, [], 0), (1, 3, .getfield 19, [10, 1, 2], 0), (4, 3, .invokevirtual 153, [96, 0, 8], 0), (7, 1, .aload_n 0, [], 0), (8, 3, .getfield 26, [10, 2, 2], 0), (11, 1, .iload_n 1, [], 0), (12, 1, .aaload, [], 0), (13, 1, .astore_n 2, [], 0), (14, 1, .aload_n 2, [], 0), (15, 1, .aload_n 0, [], 0), (16, 3, .getfield 19, [10, 1, 2], 0), (19, 1, .iload_n 1, [], 0), (20, 3, .invokevirtual 329, [30, 2, 3], 0), (23, 1, .aload_n 2, [], 0), (24, 3, .invokevirtual 332, [33, 0, 3], 0), (27, 1, .aload_n 2, [], 0), (28, 1, .areturn, [], 0)]
set_option maxRecDepth 20000 in
theorem b151_0 : z_blk 151 0 29 B151_0 = true := by decide +kernel
-- 152 yX10_isMeasure
def B152_0 : List zOp := [(0, 1, .iload_n 0, [], 0), (1, 3, .ifCond .lt 13, [14], 0), (4, 1, .iload_n 0, [], 0), (5, 2, .bipush 6, [], 0), (7, 3, .if_icmp .ge 7, [14], 0), (10, 1, .iconst 1, [], 0), (11, 3, .goto 4, [15], 0)]
set_option maxRecDepth 20000 in
theorem b152_0 : z_blk 152 0 14 B152_0 = true := by decide +kernel
def B152_14 : List zOp := [(14, 1, .iconst 0, [], 0)]
set_option maxRecDepth 20000 in
theorem b152_14 : z_blk 152 14 15 B152_14 = true := by decide +kernel
def B152_15 : List zOp := [(15, 1, .ireturn, [3], 0)]
set_option maxRecDepth 20000 in
theorem b152_15 : z_blk 152 15 16 B152_15 = true := by decide +kernel
-- 153 yX10_isDay
def B153_0 : List zOp := [(0, 1, .iload_n 0, [], 0), (1, 3, .ifCond .lt 14, [15], 0), (4, 1, .iload_n 0, [], 0), (5, 3, .sipush 999, [], 0), (8, 3, .if_icmp .gt 7, [15], 0), (11, 1, .iconst 1, [], 0), (12, 3, .goto 4, [16], 0)]
set_option maxRecDepth 20000 in
theorem b153_0 : z_blk 153 0 15 B153_0 = true := by decide +kernel
def B153_15 : List zOp := [(15, 1, .iconst 0, [], 0)]
set_option maxRecDepth 20000 in
theorem b153_15 : z_blk 153 15 16 B153_15 = true := by decide +kernel
def B153_16 : List zOp := [(16, 1, .ireturn, [3], 0)]
set_option maxRecDepth 20000 in
theorem b153_16 : z_blk 153 16 17 B153_16 = true := by decide +kernel
-- 154 yX10_isViewer
def B154_0 : List zOp := [(0, 1, .iload_n 0, [], 0), (1, 3, .ifCond .lt 12, [13], 0), (4, 1, .iload_n 0, [], 0), (5, 1, .iconst 2, [], 0), (6, 3, .if_icmp .gt 7, [13], 0), (9, 1, .iconst 1, [], 0), (10, 3, .goto 4, [14], 0)]
set_option maxRecDepth 20000 in
theorem b154_0 : z_blk 154 0 13 B154_0 = true := by decide +kernel
def B154_13 : List zOp := [(13, 1, .iconst 0, [], 0)]
set_option maxRecDepth 20000 in
theorem b154_13 : z_blk 154 13 14 B154_13 = true := by decide +kernel
def B154_14 : List zOp := [(14, 1, .ireturn, [3], 0)]
set_option maxRecDepth 20000 in
theorem b154_14 : z_blk 154 14 15 B154_14 = true := by decide +kernel
-- 155 yX10_isMode
def B155_0 : List zOp := [(0, 1, .iload_n 0, [], 0), (1, 3, .ifCond .eq 8, [9], 0), (4, 1, .iload_n 0, [], 0), (5, 1, .iconst 1, [], 0), (6, 3, .if_icmp .ne 7, [13], 0)]
set_option maxRecDepth 20000 in
theorem b155_0 : z_blk 155 0 9 B155_0 = true := by decide +kernel
def B155_9 : List zOp := [(9, 1, .iconst 1, [], 0), (10, 3, .goto 4, [14], 0)]
set_option maxRecDepth 20000 in
theorem b155_9 : z_blk 155 9 13 B155_9 = true := by decide +kernel
def B155_13 : List zOp := [(13, 1, .iconst 0, [], 0)]
set_option maxRecDepth 20000 in
theorem b155_13 : z_blk 155 13 14 B155_13 = true := by decide +kernel
def B155_14 : List zOp := [(14, 1, .ireturn, [3], 0)]
set_option maxRecDepth 20000 in
theorem b155_14 : z_blk 155 14 15 B155_14 = true := by decide +kernel
-- 156 yX10_known
def B156_0 : List zOp := [(0, 1, .aload_n 0, [], 0), (1, 1, .iload_n 2, [], 0), (2, 1, .iaload, [], 0), (3, 1, .istore_n 3, [], 0), (4, 1, .aload_n 0, [], 0), (5, 2, .bipush 96, [], 0), (7, 1, .iload_n 2, [], 0), (8, 1, .iadd, [], 0), (9, 1, .iaload, [], 0), (10, 2, .istore 4, [], 0), (12, 1, .iload_n 1, [], 0), (13, 3, .ifCond .ne 5, [18], 0), (16, 1, .iload_n 3, [], 0), (17, 1, .ireturn, [0], 0)]
set_option maxRecDepth 20000 in
theorem b156_0 : z_blk 156 0 18 B156_0 = true := by decide +kernel
def B156_18 : List zOp := [(18, 1, .iload_n 1, [], 0), (19, 1, .iconst 1, [], 0), (20, 3, .if_icmp .eq 8, [28], 0), (23, 1, .iload_n 3, [], 0), (24, 1, .iconst (-1), [], 0), (25, 3, .if_icmp .ne 6, [31], 0)]
set_option maxRecDepth 20000 in
theorem b156_18 : z_blk 156 18 28 B156_18 = true := by decide +kernel
def B156_28 : List zOp := [(28, 2, .iload 4, [], 0), (30, 1, .ireturn, [0], 0)]
set_option maxRecDepth 20000 in
theorem b156_28 : z_blk 156 28 31 B156_28 = true := by decide +kernel
def B156_31 : List zOp := [(31, 2, .iload 4, [], 0), (33, 1, .iconst (-1), [], 0), (34, 3, .if_icmp .eq 9, [43], 0), (37, 2, .iload 4, [], 0), (39, 1, .iload_n 3, [], 0), (40, 3, .if_icmp .ne 7, [47], 0)]
set_option maxRecDepth 20000 in
theorem b156_31 : z_blk 156 31 43 B156_31 = true := by decide +kernel
def B156_43 : List zOp := [(43, 1, .iload_n 3, [], 0), (44, 3, .goto 4, [48], 0)]
set_option maxRecDepth 20000 in
theorem b156_43 : z_blk 156 43 47 B156_43 = true := by decide +kernel
def B156_47 : List zOp := [(47, 1, .iconst (-1), [], 0)]
set_option maxRecDepth 20000 in
theorem b156_47 : z_blk 156 47 48 B156_47 = true := by decide +kernel
def B156_48 : List zOp := [(48, 1, .ireturn, [0], 0)]
set_option maxRecDepth 20000 in
theorem b156_48 : z_blk 156 48 49 B156_48 = true := by decide +kernel
-- 157 yX10_backwards
def B157_0 : List zOp := [(0, 1, .iconst 0, [], 0), (1, 1, .istore_n 2, [], 0), (2, 1, .iconst 0, [], 0), (3, 1, .istore_n 3, [], 0)]
set_option maxRecDepth 20000 in
theorem b157_0 : z_blk 157 0 4 B157_0 = true := by decide +kernel
def B157_4 : List zOp := [(4, 1, .iload_n 3, [], 0), (5, 1, .iload_n 1, [], 0), (6, 3, .if_icmp .ge 19, [25], 0), (9, 1, .iload_n 2, [], 0), (10, 1, .iconst 1, [], 0), (11, 1, .ishl, [], 0), (12, 1, .iload_n 0, [], 0), (13, 1, .iload_n 3, [], 0), (14, 1, .ishr, [], 0), (15, 1, .iconst 1, [], 0), (16, 1, .iand, [], 0), (17, 1, .ior, [], 0), (18, 1, .istore_n 2, [], 0), (19, 3, .iinc 3 1, [], 0), (22, 3, .goto (-18), [4], 0)]
set_option maxRecDepth 20000 in
theorem b157_4 : z_blk 157 4 25 B157_4 = true := by decide +kernel
def B157_25 : List zOp := [(25, 1, .iload_n 2, [], 0), (26, 1, .ireturn, [0], 0)]
set_option maxRecDepth 20000 in
theorem b157_25 : z_blk 157 25 27 B157_25 = true := by decide +kernel
-- 158 yX10_spread
def B158_0 : List zOp := [(0, 1, .iconst 0, [], 0), (1, 1, .istore_n 2, [], 0), (2, 1, .iconst 0, [], 0), (3, 1, .istore_n 3, [], 0)]
set_option maxRecDepth 20000 in
theorem b158_0 : z_blk 158 0 4 B158_0 = true := by decide +kernel
def B158_4 : List zOp := [(4, 1, .iload_n 3, [], 0), (5, 2, .bipush 16, [], 0), (7, 3, .if_icmp .ge 30, [37], 0), (10, 1, .iload_n 2, [], 0), (11, 1, .aload_n 1, [], 0), (12, 1, .arraylength, [], 0), (13, 3, .if_icmp .ge 24, [37], 0), (16, 1, .iload_n 0, [], 0), (17, 1, .iconst 1, [], 0), (18, 1, .iload_n 3, [], 0), (19, 1, .ishl, [], 0), (20, 1, .iand, [], 0), (21, 3, .ifCond .eq 10, [31], 0), (24, 1, .aload_n 1, [], 0), (25, 1, .iload_n 2, [], 0), (26, 1, .iload_n 3, [], 0), (27, 1, .iastore, [], 0), (28, 3, .iinc 2 1, [], 0)]
set_option maxRecDepth 20000 in
theorem b158_4 : z_blk 158 4 31 B158_4 = true := by decide +kernel
def B158_31 : List zOp := [(31, 3, .iinc 3 1, [], 0), (34, 3, .goto (-30), [4], 0)]
set_option maxRecDepth 20000 in
theorem b158_31 : z_blk 158 31 37 B158_31 = true := by decide +kernel
def B158_37 : List zOp := [(37, 1, .iload_n 2, [], 0), (38, 1, .ireturn, [0], 0)]
set_option maxRecDepth 20000 in
theorem b158_37 : z_blk 158 37 39 B158_37 = true := by decide +kernel
