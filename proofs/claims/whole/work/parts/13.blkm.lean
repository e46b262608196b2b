/-! blocks: 13.blkm, by program from the decode rows -/
-- 159 yX11_init
def B159_0 : List zOp := [(0, 1, .aload_n 0, [], 0), (1, 3, .invokespecial 1, [999], 0), (4, 1, .aload_n 0, [], 0), (5, 3, .sipush 400, [], 0), (8, 2, .newarray .int, [13], 0), (10, 3, .putfield 7, [11, 3, 2], 0), (13, 1, .aload_n 0, [], 0), (14, 3, .sipush 400, [], 0), (17, 2, .newarray .int, [13], 0), (19, 3, .putfield 13, [11, 4, 2], 0), (22, 1, .aload_n 0, [], 0), (23, 3, .sipush 400, [], 0), (26, 2, .newarray .int, [13], 0), (28, 3, .putfield 16, [11, 5, 2], 0), (31, 1, .aload_n 0, [], 0), (32, 3, .sipush 400, [], 0), (35, 2, .newarray .int, [13], 0), (37, 3, .putfield 19, [11, 6, 2], 0), (40, 1, .aload_n 0, [], 0), (41, 3, .sipush 400, [], 0), (44, 2, .newarray .int, [13], 0), (46, 3, .putfield 22, [11, 7, 2], 0), (49, 1, .aload_n 0, [], 0), (50, 3, .sipush 999, [], 0), (53, 3, .putfield 25, [11, 9, 0], 0), (56, 1, .aload_n 0, [], 0), (57, 3, .sipush 800, [], 0), (60, 2, .newarray .int, [13], 0), (62, 3, .putfield 29, [11, 10, 2], 0), (65, 1, .aload_n 0, [], 0), (66, 2, .bipush 30, [], 0), (68, 2, .newarray .int, [13], 0), (70, 1, .dup, [], 0), (71, 1, .iconst 0, [], 0), (72, 2, .bipush 32, [], 0), (74, 1, .iastore, [], 0), (75, 1, .dup, [], 0), (76, 1, .iconst 1, [], 0), (77, 2, .bipush 97, [], 0), (79, 1, .iastore, [], 0), (80, 1, .dup, [], 0), (81, 1, .iconst 2, [], 0), (82, 2, .bipush 32, [], 0), (84, 1, .iastore, [], 0), (85, 1, .dup, [], 0), (86, 1, .iconst 3, [], 0), (87, 2, .bipush 98, [], 0), (89, 1, .iastore, [], 0), (90, 1, .dup, [], 0), (91, 1, .iconst 4, [], 0), (92, 2, .bipush 32, [], 0), (94, 1, .iastore, [], 0), (95, 1, .dup, [], 0), (96, 1, .iconst 5, [], 0), (97, 2, .bipush 99, [], 0), (99, 1, .iastore, [], 0), (100, 1, .dup, [], 0), (101, 2, .bipush 6, [], 0), (103, 2, .bipush 32, [], 0), (105, 1, .iastore, [], 0), (106, 1, .dup, [], 0), (107, 2, .bipush 7, [], 0), (109, 2, .bipush 100, [], 0), (111, 1, .iastore, [], 0), (112, 1, .dup, [], 0), (113, 2, .bipush 8, [], 0), (115, 2, .bipush 32, [], 0), (117, 1, .iastore, [], 0), (118, 1, .dup, [], 0), (119, 2, .bipush 9, [], 0), (121, 2, .bipush 101, [], 0), (123, 1, .iastore, [], 0), (124, 1, .dup, [], 0), (125, 2, .bipush 10, [], 0), (127, 2, .bipush 32, [], 0), (129, 1, .iastore, [], 0), (130, 1, .dup, [], 0), (131, 2, .bipush 11, [], 0), (133, 2, .bipush 102, [], 0), (135, 1, .iastore, [], 0), (136, 1, .dup, [], 0), (137, 2, .bipush 12, [], 0), (139, 2, .bipush 32, [], 0), (141, 1, .iastore, [], 0), (142, 1, .dup, [], 0), (143, 2, .bipush 13, [], 0), (145, 2, .bipush 111, [], 0), (147, 1, .iastore, [], 0), (148, 1, .dup, [], 0), (149, 2, .bipush 14, [], 0), (151, 2, .bipush 114, [], 0), (153, 1, .iastore, [], 0), (154, 1, .dup, [], 0), (155, 2, .bipush 15, [], 0), (157, 2, .bipush 32, [], 0), (159, 1, .iastore, [], 0), (160, 1, .dup, [], 0), (161, 2, .bipush 16, [], 0), (163, 2, .bipush 97, [], 0), (165, 1, .iastore, [], 0), (166, 1, .dup, [], 0), (167, 2, .bipush 17, [], 0), (169, 2, .bipush 110, [], 0), (171, 1, .iastore, [], 0), (172, 1, .dup, [], 0), (173, 2, .bipush 18, [], 0), (175, 2, .bipush 100, [], 0), (177, 1, .iastore, [], 0), (178, 1, .dup, [], 0), (179, 2, .bipush 19, [], 0), (181, 2, .bipush 32, [], 0), (183, 1, .iastore, [], 0), (184, 1, .dup, [], 0), (185, 2, .bipush 20, [], 0), (187, 2, .bipush 110, [], 0), (189, 1, .iastore, [], 0), (190, 1, .dup, [], 0), (191, 2, .bipush 21, [], 0), (193, 2, .bipush 111, [], 0), (195, 1, .iastore, [], 0), (196, 1, .dup, [], 0), (197, 2, .bipush 22, [], 0), (199, 2, .bipush 116, [], 0), (201, 1, .iastore, [], 0), (202, 1, .dup, [], 0), (203, 2, .bipush 23, [], 0), (205, 2, .bipush 32, [], 0), (207, 1, .iastore, [], 0), (208, 1, .dup, [], 0), (209, 2, .bipush 24, [], 0), (211, 2, .bipush 107, [], 0), (213, 1, .iastore, [], 0), (214, 1, .dup, [], 0), (215, 2, .bipush 25, [], 0), (217, 2, .bipush 110, [], 0), (219, 1, .iastore, [], 0), (220, 1, .dup, [], 0), (221, 2, .bipush 26, [], 0), (223, 2, .bipush 111, [], 0), (225, 1, .iastore, [], 0), (226, 1, .dup, [], 0), (227, 2, .bipush 27, [], 0), (229, 2, .bipush 119, [], 0), (231, 1, .iastore, [], 0), (232, 1, .dup, [], 0), (233, 2, .bipush 28, [], 0), (235, 2, .bipush 110, [], 0), (237, 1, .iastore, [], 0), (238, 1, .dup, [], 0), (239, 2, .bipush 29, [], 0), (241, 2, .bipush 32, [], 0), (243, 1, .iastore, [], 0), (244, 3, .putfield 32, [11, 16, 2], 0), (247, 1, .aload_n 0, [], 0), (248, 2, .bipush 24, [], 0), (250, 2, .newarray .int, [13], 0), (252, 3, .putfield 35, [11, 18, 2], 0), (255, 1, .aload_n 0, [], 0), (256, 2, .bipush 24, [], 0), (258, 2, .newarray .int, [13], 0), (260, 3, .putfield 38, [11, 19, 2], 0), (263, 1, .aload_n 0, [], 0), (264, 3, .sipush 1800, [], 0), (267, 2, .newarray .int, [13], 0), (269, 3, .putfield 41, [11, 20, 2], 0), (272, 1, .aload_n 0, [], 0), (273, 3, .sipush 1800, [], 0), (276, 2, .newarray .int, [13], 0), (278, 3, .putfield 44, [11, 21, 2], 0), (281, 1, .aload_n 0, [], 0), (282, 2, .bipush 40, [], 0), (284, 2, .newarray .int, [13], 0), (286, 3, .putfield 47, [11, 24, 2], 0), (289, 1, .aload_n 0, [], 0), (290, 1, .iconst (-1), [], 0), (291, 3, .putfield 50, [11, 29, 0], 0), (294, 1, .aload_n 0, [], 0), (295, 2, .bipush 60, [], 0), (297, 2, .newarray .int, [13], 0), (299, 3, .putfield 53, [11, 30, 2], 0), (302, 1, .aload_n 0, [], 0), (303, 2, .bipush 60, [], 0), (305, 2, .newarray .boolean, [15], 0), (307, 3, .putfield 56, [11, 31, 2], 0), (310, 1, .aload_n 0, [], 0), (311, 2, .bipush 16, [], 0), (313, 2, .newarray .int, [13], 0), (315, 3, .putfield 60, [11, 32, 2], 0), (318, 1, .aload_n 0, [], 0), (319, 3, .sipush 4096, [], 0), (322, 2, .newarray .int, [13], 0), (324, 3, .putfield 63, [11, 33, 2], 0), (327, 1, .aload_n 0, [], 0), (328, 3, .sipush 4096, [], 0), (331, 2, .newarray .int, [13], 0), (333, 3, .putfield 66, [11, 35, 2], 0), (336, 1, .aload_n 0, [], 0), (337, 3, .sipush 4096, [], 0), (340, 2, .newarray .int, [13], 0), (342, 3, .putfield 69, [11, 36, 2], 0), (345, 1, .aload_n 0, [], 0), (346, 2, .bipush 40, [], 0), (348, 2, .newarray .int, [13], 0), (350, 3, .putfield 72, [11, 41, 2], 0), (353, 1, .aload_n 0, [], 0), (354, 2, .bipush 60, [], 0), (356, 2, .newarray .int, [13], 0), (358, 3, .putfield 75, [11, 43, 2], 0), (361, 1, .aload_n 0, [], 0), (362, 2, .bipush 60, [], 0), (364, 2, .newarray .int, [13], 0), (366, 3, .putfield 78, [11, 44, 2], 0), (369, 1, .aload_n 0, [], 0), (370, 2, .ldc 81, [], 65536), (372, 2, .newarray .long, [14], 0), (374, 3, .putfield 82, [11, 47, 2], 0), (377, 1, .aload_n 0, [], 0), (378, 2, .bipush 12, [], 0), (380, 2, .newarray .int, [13], 0), (382, 3, .putfield 86, [11, 48, 2], 0), (385, 1, .aload_n 0, [], 0), (386, 2, .bipush 16, [], 0), (388, 2, .newarray .int, [13], 0), (390, 3, .putfield 89, [11, 49, 2], 0), (393, 1, .aload_n 0, [], 0), (394, 2, .bipush 16, [], 0), (396, 2, .newarray .int, [13], 0), (398, 3, .putfield 92, [11, 50, 2], 0), (401, 1, .aload_n 0, [], 0), (402, 2, .bipush 12, [], 0), (404, 2, .newarray .int, [13], 0), (406, 1, .dup, [], 0), (407, 1, .iconst 0, [], 0), (408, 1, .iconst 1, [], 0), (409, 1, .iastore, [], 0), (410, 1, .dup, [], 0), (411, 1, .iconst 1, [], 0), (412, 1, .iconst 1, [], 0), (413, 1, .iastore, [], 0), (414, 1, .dup, [], 0), (415, 1, .iconst 2, [], 0), (416, 1, .iconst 1, [], 0), (417, 1, .iastore, [], 0), (418, 1, .dup, [], 0), (419, 1, .iconst 3, [], 0), (420, 1, .iconst 1, [], 0), (421, 1, .iastore, [], 0), (422, 1, .dup, [], 0), (423, 1, .iconst 4, [], 0), (424, 1, .iconst 1, [], 0), (425, 1, .iastore, [], 0), (426, 1, .dup, [], 0), (427, 1, .iconst 5, [], 0), (428, 1, .iconst 1, [], 0), (429, 1, .iastore, [], 0), (430, 1, .dup, [], 0), (431, 2, .bipush 6, [], 0), (433, 1, .iconst 1, [], 0), (434, 1, .iastore, [], 0), (435, 1, .dup, [], 0), (436, 2, .bipush 7, [], 0), (438, 1, .iconst 1, [], 0), (439, 1, .iastore, [], 0), (440, 1, .dup, [], 0), (441, 2, .bipush 8, [], 0), (443, 1, .iconst 1, [], 0), (444, 1, .iastore, [], 0), (445, 1, .dup, [], 0), (446, 2, .bipush 9, [], 0), (448, 1, .iconst 1, [], 0), (449, 1, .iastore, [], 0), (450, 1, .dup, [], 0), (451, 2, .bipush 10, [], 0), (453, 1, .iconst 1, [], 0), (454, 1, .iastore, [], 0), (455, 1, .dup, [], 0), (456, 2, .bipush 11, [], 0), (458, 1, .iconst 1, [], 0), (459, 1, .iastore, [], 0), (460, 3, .putfield 95, [11, 53, 2], 0), (463, 1, .aload_n 0, [], 0), (464, 2, .ldc 81, [], 65536), (466, 2, .newarray .int, [13], 0), (468, 3, .putfield 98, [11, 54, 2], 0), (471, 1, .aload_n 0, [], 0), (472, 2, .ldc 81, [], 65536), (474, 2, .newarray .int, [13], 0), (476, 3, .putfield 101, [11, 55, 2], 0), (479, 1, .aload_n 0, [], 0), (480, 2, .ldc 81, [], 65536), (482, 2, .newarray .int, [13], 0), (484, 3, .putfield 104, [11, 56, 2], 0), (487, 1, .aload_n 0, [], 0), (488, 2, .bipush 12, [], 0), (490, 2, .newarray .int, [13], 0), (492, 3, .putfield 107, [11, 57, 2], 0), (495, 1, .aload_n 0, [], 0), (496, 2, .bipush 12, [], 0), (498, 2, .newarray .int, [13], 0), (500, 3, .putfield 110, [11, 58, 2], 0), (503, 1, .return_, [], 0)]
set_option maxRecDepth 20000 in
theorem b159_0 : z_blk 159 0 504 B159_0 = true := by decide +kernel
-- 160 yX11_isIn
def B160_0 : List zOp := [(0, 1, .iload_n 1, [], 0), (1, 1, .iload_n 2, [], 0), (2, 3, .if_icmp .lt 12, [14], 0), (5, 1, .iload_n 1, [], 0), (6, 1, .iload_n 3, [], 0), (7, 3, .if_icmp .gt 7, [14], 0), (10, 1, .iconst 1, [], 0), (11, 3, .goto 4, [15], 0)]
set_option maxRecDepth 20000 in
theorem b160_0 : z_blk 160 0 14 B160_0 = true := by decide +kernel
def B160_14 : List zOp := [(14, 1, .iconst 0, [], 0)]
set_option maxRecDepth 20000 in
theorem b160_14 : z_blk 160 14 15 B160_14 = true := by decide +kernel
def B160_15 : List zOp := [(15, 1, .ireturn, [3], 0)]
set_option maxRecDepth 20000 in
theorem b160_15 : z_blk 160 15 16 B160_15 = true := by decide +kernel
-- 161 yX11_isFind
def B161_0 : List zOp := [(0, 1, .iload_n 1, [], 0), (1, 3, .ifCond .lt 15, [16], 0), (4, 1, .iload_n 1, [], 0), (5, 1, .aload_n 0, [], 0), (6, 3, .getfield 116, [11, 1, 0], 0), (9, 3, .if_icmp .ge 7, [16], 0), (12, 1, .iconst 1, [], 0), (13, 3, .goto 4, [17], 0)]
set_option maxRecDepth 20000 in
theorem b161_0 : z_blk 161 0 16 B161_0 = true := by decide +kernel
def B161_16 : List zOp := [(16, 1, .iconst 0, [], 0)]
set_option maxRecDepth 20000 in
theorem b161_16 : z_blk 161 16 17 B161_16 = true := by decide +kernel
def B161_17 : List zOp := [(17, 1, .ireturn, [3], 0)]
set_option maxRecDepth 20000 in
theorem b161_17 : z_blk 161 17 18 B161_17 = true := by decide +kernel
-- 162 yX11_isDay
def B162_0 : List zOp := [(0, 1, .aload_n 0, [], 0), (1, 1, .iload_n 1, [], 0), (2, 1, .iconst 0, [], 0), (3, 3, .sipush 999, [], 0), (6, 3, .invokevirtual 119, [160, 3, 11], 0), (9, 1, .ireturn, [3], 0)]
set_option maxRecDepth 20000 in
theorem b162_0 : z_blk 162 0 10 B162_0 = true := by decide +kernel
-- 163 yX11_find
def B163_0 : List zOp := [(0, 1, .aload_n 0, [], 0), (1, 1, .iconst 0, [], 0), (2, 3, .putfield 113, [11, 0, 0], 0), (5, 1, .aload_n 0, [], 0), (6, 3, .getfield 116, [11, 1, 0], 0), (9, 2, .bipush 16, [], 0), (11, 3, .if_icmp .ne 5, [16], 0), (14, 1, .iconst (-1), [], 0), (15, 1, .ireturn, [0], 0)]
set_option maxRecDepth 20000 in
theorem b163_0 : z_blk 163 0 16 B163_0 = true := by decide +kernel
def B163_16 : List zOp := [(16, 1, .aload_n 0, [], 0), (17, 1, .aload_n 0, [], 0), (18, 3, .getfield 116, [11, 1, 0], 0), (21, 1, .iconst 1, [], 0), (22, 1, .iadd, [], 0), (23, 3, .putfield 116, [11, 1, 0], 0), (26, 1, .aload_n 0, [], 0), (27, 3, .getfield 116, [11, 1, 0], 0), (30, 1, .iconst 1, [], 0), (31, 1, .isub, [], 0), (32, 1, .ireturn, [0], 0)]
set_option maxRecDepth 20000 in
theorem b163_16 : z_blk 163 16 33 B163_16 = true := by decide +kernel
-- 164 yX11_tell
def B164_0 : List zOp := [(0, 1, .aload_n 0, [], 0), (1, 1, .iconst 0, [], 0), (2, 3, .putfield 113, [11, 0, 0], 0), (5, 1, .aload_n 0, [], 0), (6, 1, .iload_n 1, [], 0), (7, 1, .iconst 0, [], 0), (8, 1, .iconst 1, [], 0), (9, 3, .invokevirtual 119, [160, 3, 11], 0), (12, 3, .ifCond .eq 76, [88], 0), (15, 1, .aload_n 0, [], 0), (16, 1, .iload_n 2, [], 0), (17, 3, .invokevirtual 123, [161, 1, 11], 0), (20, 3, .ifCond .eq 68, [88], 0), (23, 1, .aload_n 0, [], 0), (24, 1, .iload_n 3, [], 0), (25, 1, .iconst 0, [], 0), (26, 1, .iconst 5, [], 0), (27, 3, .invokevirtual 119, [160, 3, 11], 0), (30, 3, .ifCond .eq 58, [88], 0), (33, 1, .aload_n 0, [], 0), (34, 2, .iload 4, [], 0), (36, 1, .iconst (-1), [], 0), (37, 3, .sipush 999, [], 0), (40, 3, .invokevirtual 119, [160, 3, 11], 0), (43, 3, .ifCond .eq 45, [88], 0), (46, 1, .aload_n 0, [], 0), (47, 2, .iload 5, [], 0), (49, 3, .invokevirtual 127, [162, 1, 11], 0), (52, 3, .ifCond .eq 36, [88], 0), (55, 1, .aload_n 0, [], 0), (56, 3, .getfield 130, [11, 2, 0], 0), (59, 3, .sipush 400, [], 0), (62, 3, .if_icmp .eq 26, [88], 0), (65, 1, .aload_n 0, [], 0), (66, 3, .getfield 130, [11, 2, 0], 0), (69, 3, .ifCond .le 21, [90], 0), (72, 2, .iload 5, [], 0), (74, 1, .aload_n 0, [], 0), (75, 3, .getfield 22, [11, 7, 2], 0), (78, 1, .aload_n 0, [], 0), (79, 3, .getfield 130, [11, 2, 0], 0), (82, 1, .iconst 1, [], 0), (83, 1, .isub, [], 0), (84, 1, .iaload, [], 0), (85, 3, .if_icmp .ge 5, [90], 0)]
set_option maxRecDepth 20000 in
theorem b164_0 : z_blk 164 0 88 B164_0 = true := by decide +kernel
def B164_88 : List zOp := [(88, 1, .iconst 0, [], 0), (89, 1, .ireturn, [3], 0)]
set_option maxRecDepth 20000 in
theorem b164_88 : z_blk 164 88 90 B164_88 = true := by decide +kernel
def B164_90 : List zOp := [(90, 1, .aload_n 0, [], 0), (91, 3, .getfield 7, [11, 3, 2], 0), (94, 1, .aload_n 0, [], 0), (95, 3, .getfield 130, [11, 2, 0], 0), (98, 1, .iload_n 1, [], 0), (99, 1, .iastore, [], 0), (100, 1, .aload_n 0, [], 0), (101, 3, .getfield 13, [11, 4, 2], 0), (104, 1, .aload_n 0, [], 0), (105, 3, .getfield 130, [11, 2, 0], 0), (108, 1, .iload_n 2, [], 0), (109, 1, .iastore, [], 0), (110, 1, .aload_n 0, [], 0), (111, 3, .getfield 16, [11, 5, 2], 0), (114, 1, .aload_n 0, [], 0), (115, 3, .getfield 130, [11, 2, 0], 0), (118, 1, .iload_n 3, [], 0), (119, 1, .iastore, [], 0), (120, 1, .aload_n 0, [], 0), (121, 3, .getfield 19, [11, 6, 2], 0), (124, 1, .aload_n 0, [], 0), (125, 3, .getfield 130, [11, 2, 0], 0), (128, 2, .iload 4, [], 0), (130, 1, .iastore, [], 0), (131, 1, .aload_n 0, [], 0), (132, 3, .getfield 22, [11, 7, 2], 0), (135, 1, .aload_n 0, [], 0), (136, 3, .getfield 130, [11, 2, 0], 0), (139, 2, .iload 5, [], 0), (141, 1, .iastore, [], 0), (142, 1, .aload_n 0, [], 0), (143, 1, .aload_n 0, [], 0), (144, 3, .getfield 130, [11, 2, 0], 0), (147, 1, .iconst 1, [], 0), (148, 1, .iadd, [], 0), (149, 3, .putfield 130, [11, 2, 0], 0), (152, 1, .iconst 1, [], 0), (153, 1, .ireturn, [3], 0)]
set_option maxRecDepth 20000 in
theorem b164_90 : z_blk 164 90 154 B164_90 = true := by decide +kernel
-- 165 yX11_view
def B165_0 : List zOp := [(0, 1, .aload_n 0, [], 0), (1, 1, .iconst 0, [], 0), (2, 3, .putfield 113, [11, 0, 0], 0), (5, 1, .aload_n 0, [], 0), (6, 1, .iload_n 1, [], 0), (7, 1, .iconst 0, [], 0), (8, 1, .iconst 2, [], 0), (9, 3, .invokevirtual 119, [160, 3, 11], 0), (12, 3, .ifCond .eq 11, [23], 0), (15, 1, .aload_n 0, [], 0), (16, 1, .iload_n 2, [], 0), (17, 3, .invokevirtual 127, [162, 1, 11], 0), (20, 3, .ifCond .ne 5, [25], 0)]
set_option maxRecDepth 20000 in
theorem b165_0 : z_blk 165 0 23 B165_0 = true := by decide +kernel
def B165_23 : List zOp := [(23, 1, .iconst 0, [], 0), (24, 1, .ireturn, [3], 0)]
set_option maxRecDepth 20000 in
theorem b165_23 : z_blk 165 23 25 B165_23 = true := by decide +kernel
def B165_25 : List zOp := [(25, 1, .aload_n 0, [], 0), (26, 1, .iload_n 1, [], 0), (27, 3, .putfield 133, [11, 8, 0], 0), (30, 1, .aload_n 0, [], 0), (31, 1, .iload_n 2, [], 0), (32, 3, .putfield 25, [11, 9, 0], 0), (35, 1, .iconst 1, [], 0), (36, 1, .ireturn, [3], 0)]
set_option maxRecDepth 20000 in
theorem b165_25 : z_blk 165 25 37 B165_25 = true := by decide +kernel
-- 166 yX11_knownOf
def B166_0 : List zOp := [(0, 1, .aload_n 0, [], 0), (1, 3, .getfield 130, [11, 2, 0], 0), (4, 1, .iconst 1, [], 0), (5, 1, .isub, [], 0), (6, 2, .istore 5, [], 0)]
set_option maxRecDepth 20000 in
theorem b166_0 : z_blk 166 0 8 B166_0 = true := by decide +kernel
def B166_8 : List zOp := [(8, 2, .iload 5, [], 0), (10, 3, .ifCond .lt 62, [72], 0), (13, 1, .aload_n 0, [], 0), (14, 3, .getfield 7, [11, 3, 2], 0), (17, 2, .iload 5, [], 0), (19, 1, .iaload, [], 0), (20, 1, .iload_n 1, [], 0), (21, 3, .if_icmp .ne 45, [66], 0), (24, 1, .aload_n 0, [], 0), (25, 3, .getfield 13, [11, 4, 2], 0), (28, 2, .iload 5, [], 0), (30, 1, .iaload, [], 0), (31, 1, .iload_n 2, [], 0), (32, 3, .if_icmp .ne 34, [66], 0), (35, 1, .aload_n 0, [], 0), (36, 3, .getfield 16, [11, 5, 2], 0), (39, 2, .iload 5, [], 0), (41, 1, .iaload, [], 0), (42, 1, .iload_n 3, [], 0), (43, 3, .if_icmp .ne 23, [66], 0), (46, 1, .aload_n 0, [], 0), (47, 3, .getfield 22, [11, 7, 2], 0), (50, 2, .iload 5, [], 0), (52, 1, .iaload, [], 0), (53, 2, .iload 4, [], 0), (55, 3, .if_icmp .gt 11, [66], 0), (58, 1, .aload_n 0, [], 0), (59, 3, .getfield 19, [11, 6, 2], 0), (62, 2, .iload 5, [], 0), (64, 1, .iaload, [], 0), (65, 1, .ireturn, [0], 0)]
set_option maxRecDepth 20000 in
theorem b166_8 : z_blk 166 8 66 B166_8 = true := by decide +kernel
def B166_66 : List zOp := [(66, 3, .iinc 5 (-1), [], 0), (69, 3, .goto (-61), [8], 0)]
set_option maxRecDepth 20000 in
theorem b166_66 : z_blk 166 66 72 B166_66 = true := by decide +kernel
def B166_72 : List zOp := [(72, 1, .iconst (-1), [], 0), (73, 1, .ireturn, [0], 0)]
set_option maxRecDepth 20000 in
theorem b166_72 : z_blk 166 72 74 B166_72 = true := by decide +kernel
-- 167 yX11_known
def B167_0 : List zOp := [(0, 1, .iload_n 1, [], 0), (1, 1, .iconst 2, [], 0), (2, 3, .if_icmp .ge 13, [15], 0), (5, 1, .aload_n 0, [], 0), (6, 1, .iload_n 1, [], 0), (7, 1, .iload_n 2, [], 0), (8, 1, .iload_n 3, [], 0), (9, 2, .iload 4, [], 0), (11, 3, .invokevirtual 136, [166, 4, 11], 0), (14, 1, .ireturn, [0], 0)]
set_option maxRecDepth 20000 in
theorem b167_0 : z_blk 167 0 15 B167_0 = true := by decide +kernel
def B167_15 : List zOp := [(15, 1, .aload_n 0, [], 0), (16, 1, .iconst 0, [], 0), (17, 1, .iload_n 2, [], 0), (18, 1, .iload_n 3, [], 0), (19, 2, .iload 4, [], 0), (21, 3, .invokevirtual 136, [166, 4, 11], 0), (24, 2, .istore 5, [], 0), (26, 1, .aload_n 0, [], 0), (27, 1, .iconst 1, [], 0), (28, 1, .iload_n 2, [], 0), (29, 1, .iload_n 3, [], 0), (30, 2, .iload 4, [], 0), (32, 3, .invokevirtual 136, [166, 4, 11], 0), (35, 2, .istore 6, [], 0), (37, 2, .iload 5, [], 0), (39, 1, .iconst (-1), [], 0), (40, 3, .if_icmp .eq 9, [49], 0), (43, 2, .iload 6, [], 0), (45, 1, .iconst (-1), [], 0), (46, 3, .if_icmp .ne 17, [63], 0)]
set_option maxRecDepth 20000 in
theorem b167_15 : z_blk 167 15 49 B167_15 = true := by decide +kernel
def B167_49 : List zOp := [(49, 2, .iload 5, [], 0), (51, 1, .iconst (-1), [], 0), (52, 3, .if_icmp .ne 8, [60], 0), (55, 2, .iload 6, [], 0), (57, 3, .goto 5, [62], 0)]
set_option maxRecDepth 20000 in
theorem b167_49 : z_blk 167 49 60 B167_49 = true := by decide +kernel
def B167_60 : List zOp := [(60, 2, .iload 5, [], 0)]
set_option maxRecDepth 20000 in
theorem b167_60 : z_blk 167 60 62 B167_60 = true := by decide +kernel
def B167_62 : List zOp := [(62, 1, .ireturn, [0], 0)]
set_option maxRecDepth 20000 in
theorem b167_62 : z_blk 167 62 63 B167_62 = true := by decide +kernel
def B167_63 : List zOp := [(63, 2, .iload 5, [], 0), (65, 2, .iload 6, [], 0), (67, 3, .if_icmp .ne 8, [75], 0), (70, 2, .iload 5, [], 0), (72, 3, .goto 4, [76], 0)]
set_option maxRecDepth 20000 in
theorem b167_63 : z_blk 167 63 75 B167_63 = true := by decide +kernel
def B167_75 : List zOp := [(75, 1, .iconst (-1), [], 0)]
set_option maxRecDepth 20000 in
theorem b167_75 : z_blk 167 75 76 B167_75 = true := by decide +kernel
def B167_76 : List zOp := [(76, 1, .ireturn, [0], 0)]
set_option maxRecDepth 20000 in
theorem b167_76 : z_blk 167 76 77 B167_76 = true := by decide +kernel
-- 168 yX11_value
def B168_0 : List zOp := [(0, 1, .aload_n 0, [], 0), (1, 1, .iconst 0, [], 0), (2, 3, .putfield 113, [11, 0, 0], 0), (5, 1, .aload_n 0, [], 0), (6, 1, .iload_n 1, [], 0), (7, 3, .invokevirtual 123, [161, 1, 11], 0), (10, 3, .ifCond .eq 30, [40], 0), (13, 1, .aload_n 0, [], 0), (14, 1, .iload_n 2, [], 0), (15, 1, .iconst 0, [], 0), (16, 1, .iconst 5, [], 0), (17, 3, .invokevirtual 119, [160, 3, 11], 0), (20, 3, .ifCond .eq 20, [40], 0), (23, 1, .aload_n 0, [], 0), (24, 1, .aload_n 0, [], 0), (25, 3, .getfield 133, [11, 8, 0], 0), (28, 1, .iload_n 1, [], 0), (29, 1, .iload_n 2, [], 0), (30, 1, .aload_n 0, [], 0), (31, 3, .getfield 25, [11, 9, 0], 0), (34, 3, .invokevirtual 140, [167, 4, 11], 0), (37, 3, .goto 4, [41], 0)]
set_option maxRecDepth 20000 in
theorem b168_0 : z_blk 168 0 40 B168_0 = true := by decide +kernel
def B168_40 : List zOp := [(40, 1, .iconst (-1), [], 0)]
set_option maxRecDepth 20000 in
theorem b168_40 : z_blk 168 40 41 B168_40 = true := by decide +kernel
def B168_41 : List zOp := [(41, 1, .ireturn, [0], 0)]
set_option maxRecDepth 20000 in
theorem b168_41 : z_blk 168 41 42 B168_41 = true := by decide +kernel
-- 169 yX11_puts
def B169_0 : List zOp := [(0, 2, .bipush 24, [], 0), (2, 1, .istore_n 2, [], 0)]
set_option maxRecDepth 20000 in
theorem b169_0 : z_blk 169 0 3 B169_0 = true := by decide +kernel
def B169_3 : List zOp := [(3, 1, .iload_n 2, [], 0), (4, 3, .ifCond .lt 35, [39], 0), (7, 1, .aload_n 0, [], 0), (8, 3, .getfield 29, [11, 10, 2], 0), (11, 1, .aload_n 0, [], 0), (12, 3, .getfield 143, [11, 11, 0], 0), (15, 1, .iload_n 1, [], 0), (16, 1, .iload_n 2, [], 0), (17, 1, .ishr, [], 0), (18, 3, .sipush 255, [], 0), (21, 1, .iand, [], 0), (22, 1, .iastore, [], 0), (23, 1, .aload_n 0, [], 0), (24, 1, .aload_n 0, [], 0), (25, 3, .getfield 143, [11, 11, 0], 0), (28, 1, .iconst 1, [], 0), (29, 1, .iadd, [], 0), (30, 3, .putfield 143, [11, 11, 0], 0), (33, 3, .iinc 2 (-8), [], 0), (36, 3, .goto (-33), [3], 0)]
set_option maxRecDepth 20000 in
theorem b169_3 : z_blk 169 3 39 B169_3 = true := by decide +kernel
def B169_39 : List zOp := [(39, 1, .return_, [], 0)]
set_option maxRecDepth 20000 in
theorem b169_39 : z_blk 169 39 40 B169_39 = true := by decide +kernel
-- 170 yX11_feed
def B170_0 : List zOp := [(0, 1, .aload_n 0, [], 0), (1, 1, .iconst 0, [], 0), (2, 3, .putfield 113, [11, 0, 0], 0), (5, 1, .aload_n 0, [], 0), (6, 3, .getfield 143, [11, 11, 0], 0), (9, 3, .sipush 780, [], 0), (12, 3, .if_icmp .le 5, [17], 0), (15, 1, .iconst (-1), [], 0), (16, 1, .ireturn, [0], 0)]
set_option maxRecDepth 20000 in
theorem b170_0 : z_blk 170 0 17 B170_0 = true := by decide +kernel
def B170_17 : List zOp := [(17, 1, .aload_n 0, [], 0), (18, 1, .iload_n 1, [], 0), (19, 3, .invokevirtual 146, [169, 1, 11], 0), (22, 1, .aload_n 0, [], 0), (23, 1, .iload_n 2, [], 0), (24, 3, .invokevirtual 146, [169, 1, 11], 0), (27, 1, .aload_n 0, [], 0), (28, 1, .iload_n 3, [], 0), (29, 3, .invokevirtual 146, [169, 1, 11], 0), (32, 1, .aload_n 0, [], 0), (33, 2, .iload 4, [], 0), (35, 3, .invokevirtual 146, [169, 1, 11], 0), (38, 1, .aload_n 0, [], 0), (39, 2, .iload 5, [], 0), (41, 3, .invokevirtual 146, [169, 1, 11], 0), (44, 1, .aload_n 0, [], 0), (45, 3, .getfield 143, [11, 11, 0], 0), (48, 1, .ireturn, [0], 0)]
set_option maxRecDepth 20000 in
theorem b170_17 : z_blk 170 17 49 B170_17 = true := by decide +kernel
-- 171 yX11_end
def B171_0 : List zOp := [(0, 1, .aload_n 0, [], 0), (1, 1, .iconst 0, [], 0), (2, 3, .putfield 113, [11, 0, 0], 0), (5, 1, .aload_n 0, [], 0), (6, 1, .iload_n 1, [], 0), (7, 1, .iconst 0, [], 0), (8, 1, .aload_n 0, [], 0), (9, 3, .getfield 143, [11, 11, 0], 0), (12, 3, .invokevirtual 119, [160, 3, 11], 0), (15, 3, .ifCond .ne 5, [20], 0), (18, 1, .iconst 0, [], 0), (19, 1, .ireturn, [3], 0)]
set_option maxRecDepth 20000 in
theorem b171_0 : z_blk 171 0 20 B171_0 = true := by decide +kernel
def B171_20 : List zOp := [(20, 1, .aload_n 0, [], 0), (21, 1, .iload_n 1, [], 0), (22, 3, .putfield 143, [11, 11, 0], 0), (25, 1, .iconst 1, [], 0), (26, 1, .ireturn, [3], 0)]
set_option maxRecDepth 20000 in
theorem b171_20 : z_blk 171 20 27 B171_20 = true := by decide +kernel
-- 172 yX11_raw
def B172_0 : List zOp := [(0, 1, .iload_n 1, [], 0), (1, 1, .aload_n 0, [], 0), (2, 3, .getfield 143, [11, 11, 0], 0), (5, 3, .if_icmp .ge 12, [17], 0), (8, 1, .aload_n 0, [], 0), (9, 3, .getfield 29, [11, 10, 2], 0), (12, 1, .iload_n 1, [], 0), (13, 1, .iaload, [], 0), (14, 3, .goto 4, [18], 0)]
set_option maxRecDepth 20000 in
theorem b172_0 : z_blk 172 0 17 B172_0 = true := by decide +kernel
def B172_17 : List zOp := [(17, 1, .iconst (-1), [], 0)]
set_option maxRecDepth 20000 in
theorem b172_17 : z_blk 172 17 18 B172_17 = true := by decide +kernel
def B172_18 : List zOp := [(18, 1, .ireturn, [0], 0)]
set_option maxRecDepth 20000 in
theorem b172_18 : z_blk 172 18 19 B172_18 = true := by decide +kernel
-- 173 yX11_isLetter
def B173_0 : List zOp := [(0, 1, .aload_n 0, [], 0), (1, 1, .iload_n 1, [], 0), (2, 2, .bipush 97, [], 0), (4, 2, .bipush 122, [], 0), (6, 3, .invokevirtual 119, [160, 3, 11], 0), (9, 3, .ifCond .ne 15, [24], 0), (12, 1, .aload_n 0, [], 0), (13, 1, .iload_n 1, [], 0), (14, 2, .bipush 65, [], 0), (16, 2, .bipush 90, [], 0), (18, 3, .invokevirtual 119, [160, 3, 11], 0), (21, 3, .ifCond .eq 7, [28], 0)]
set_option maxRecDepth 20000 in
theorem b173_0 : z_blk 173 0 24 B173_0 = true := by decide +kernel
def B173_24 : List zOp := [(24, 1, .iconst 1, [], 0), (25, 3, .goto 4, [29], 0)]
set_option maxRecDepth 20000 in
theorem b173_24 : z_blk 173 24 28 B173_24 = true := by decide +kernel
def B173_28 : List zOp := [(28, 1, .iconst 0, [], 0)]
set_option maxRecDepth 20000 in
theorem b173_28 : z_blk 173 28 29 B173_28 = true := by decide +kernel
def B173_29 : List zOp := [(29, 1, .ireturn, [3], 0)]
set_option maxRecDepth 20000 in
theorem b173_29 : z_blk 173 29 30 B173_29 = true := by decide +kernel
-- 174 yX11_isDigit
def B174_0 : List zOp := [(0, 1, .aload_n 0, [], 0), (1, 1, .iload_n 1, [], 0), (2, 2, .bipush 48, [], 0), (4, 2, .bipush 57, [], 0), (6, 3, .invokevirtual 119, [160, 3, 11], 0), (9, 1, .ireturn, [3], 0)]
set_option maxRecDepth 20000 in
theorem b174_0 : z_blk 174 0 10 B174_0 = true := by decide +kernel
-- 175 yX11_isMarkSign
def B175_0 : List zOp := [(0, 1, .iload_n 1, [], 0), (1, 2, .bipush 59, [], 0), (3, 3, .if_icmp .eq 57, [60], 0), (6, 1, .iload_n 1, [], 0), (7, 2, .bipush 43, [], 0), (9, 3, .if_icmp .eq 51, [60], 0), (12, 1, .iload_n 1, [], 0), (13, 2, .bipush 45, [], 0), (15, 3, .if_icmp .eq 45, [60], 0), (18, 1, .iload_n 1, [], 0), (19, 2, .bipush 42, [], 0), (21, 3, .if_icmp .eq 39, [60], 0), (24, 1, .iload_n 1, [], 0), (25, 2, .bipush 47, [], 0), (27, 3, .if_icmp .eq 33, [60], 0), (30, 1, .iload_n 1, [], 0), (31, 2, .bipush 40, [], 0), (33, 3, .if_icmp .eq 27, [60], 0), (36, 1, .iload_n 1, [], 0), (37, 2, .bipush 41, [], 0), (39, 3, .if_icmp .eq 21, [60], 0), (42, 1, .iload_n 1, [], 0), (43, 2, .bipush 60, [], 0), (45, 3, .if_icmp .eq 15, [60], 0), (48, 1, .iload_n 1, [], 0), (49, 2, .bipush 61, [], 0), (51, 3, .if_icmp .eq 9, [60], 0), (54, 1, .iload_n 1, [], 0), (55, 2, .bipush 62, [], 0), (57, 3, .if_icmp .ne 7, [64], 0)]
set_option maxRecDepth 20000 in
theorem b175_0 : z_blk 175 0 60 B175_0 = true := by decide +kernel
def B175_60 : List zOp := [(60, 1, .iconst 1, [], 0), (61, 3, .goto 4, [65], 0)]
set_option maxRecDepth 20000 in
theorem b175_60 : z_blk 175 60 64 B175_60 = true := by decide +kernel
def B175_64 : List zOp := [(64, 1, .iconst 0, [], 0)]
set_option maxRecDepth 20000 in
theorem b175_64 : z_blk 175 64 65 B175_64 = true := by decide +kernel
def B175_65 : List zOp := [(65, 1, .ireturn, [3], 0)]
set_option maxRecDepth 20000 in
theorem b175_65 : z_blk 175 65 66 B175_65 = true := by decide +kernel
-- 176 yX11_wordAt
def B176_0 : List zOp := [(0, 1, .iconst (-1), [], 0), (1, 1, .istore_n 3, [], 0), (2, 1, .iconst 0, [], 0), (3, 2, .istore 4, [], 0)]
set_option maxRecDepth 20000 in
theorem b176_0 : z_blk 176 0 5 B176_0 = true := by decide +kernel
def B176_5 : List zOp := [(5, 2, .iload 4, [], 0), (7, 2, .bipush 29, [], 0), (9, 3, .if_icmp .ge 108, [117], 0), (12, 1, .iconst 0, [], 0), (13, 2, .istore 5, [], 0), (15, 1, .iload_n 3, [], 0), (16, 1, .iconst 1, [], 0), (17, 1, .iadd, [], 0), (18, 1, .istore_n 3, [], 0)]
set_option maxRecDepth 20000 in
theorem b176_5 : z_blk 176 5 19 B176_5 = true := by decide +kernel
def B176_19 : List zOp := [(19, 1, .iload_n 1, [], 0), (20, 2, .iload 5, [], 0), (22, 1, .iadd, [], 0), (23, 1, .iload_n 2, [], 0), (24, 3, .if_icmp .ge 36, [60], 0), (27, 1, .aload_n 0, [], 0), (28, 3, .getfield 32, [11, 16, 2], 0), (31, 2, .iload 4, [], 0), (33, 1, .iconst 1, [], 0), (34, 1, .iadd, [], 0), (35, 2, .iload 5, [], 0), (37, 1, .iadd, [], 0), (38, 1, .iaload, [], 0), (39, 1, .aload_n 0, [], 0), (40, 3, .getfield 29, [11, 10, 2], 0), (43, 1, .iload_n 1, [], 0), (44, 2, .iload 5, [], 0), (46, 1, .iadd, [], 0), (47, 1, .iaload, [], 0), (48, 3, .if_icmp .ne 12, [60], 0), (51, 2, .iload 5, [], 0), (53, 1, .iconst 1, [], 0), (54, 1, .iadd, [], 0), (55, 2, .istore 5, [], 0), (57, 3, .goto (-38), [19], 0)]
set_option maxRecDepth 20000 in
theorem b176_19 : z_blk 176 19 60 B176_19 = true := by decide +kernel
def B176_60 : List zOp := [(60, 1, .iload_n 1, [], 0), (61, 2, .iload 5, [], 0), (63, 1, .iadd, [], 0), (64, 1, .iload_n 2, [], 0), (65, 3, .if_icmp .ne 22, [87], 0), (68, 1, .aload_n 0, [], 0), (69, 3, .getfield 32, [11, 16, 2], 0), (72, 2, .iload 4, [], 0), (74, 1, .iconst 1, [], 0), (75, 1, .iadd, [], 0), (76, 2, .iload 5, [], 0), (78, 1, .iadd, [], 0), (79, 1, .iaload, [], 0), (80, 2, .bipush 32, [], 0), (82, 3, .if_icmp .ne 5, [87], 0), (85, 1, .iload_n 3, [], 0), (86, 1, .ireturn, [0], 0)]
set_option maxRecDepth 20000 in
theorem b176_60 : z_blk 176 60 87 B176_60 = true := by decide +kernel
def B176_87 : List zOp := [(87, 2, .iload 4, [], 0), (89, 1, .iconst 1, [], 0), (90, 1, .iadd, [], 0), (91, 2, .istore 4, [], 0)]
set_option maxRecDepth 20000 in
theorem b176_87 : z_blk 176 87 93 B176_87 = true := by decide +kernel
def B176_93 : List zOp := [(93, 1, .aload_n 0, [], 0), (94, 3, .getfield 32, [11, 16, 2], 0), (97, 2, .iload 4, [], 0), (99, 1, .iaload, [], 0), (100, 2, .bipush 32, [], 0), (102, 3, .if_icmp .eq 12, [114], 0), (105, 2, .iload 4, [], 0), (107, 1, .iconst 1, [], 0), (108, 1, .iadd, [], 0), (109, 2, .istore 4, [], 0), (111, 3, .goto (-18), [93], 0)]
set_option maxRecDepth 20000 in
theorem b176_93 : z_blk 176 93 114 B176_93 = true := by decide +kernel
def B176_114 : List zOp := [(114, 3, .goto (-109), [5], 0)]
set_option maxRecDepth 20000 in
theorem b176_114 : z_blk 176 114 117 B176_114 = true := by decide +kernel
def B176_117 : List zOp := [(117, 1, .iconst (-1), [], 0), (118, 1, .ireturn, [0], 0)]
set_option maxRecDepth 20000 in
theorem b176_117 : z_blk 176 117 119 B176_117 = true := by decide +kernel
-- 177 yX11_next
def B177_0 : List zOp := [(0, 1, .aload_n 0, [], 0), (1, 1, .aload_n 0, [], 0), (2, 3, .getfield 150, [11, 12, 0], 0), (5, 3, .invokevirtual 153, [172, 1, 11], 0), (8, 2, .bipush 32, [], 0), (10, 3, .if_icmp .eq 16, [26], 0), (13, 1, .aload_n 0, [], 0), (14, 1, .aload_n 0, [], 0), (15, 3, .getfield 150, [11, 12, 0], 0), (18, 3, .invokevirtual 153, [172, 1, 11], 0), (21, 2, .bipush 10, [], 0), (23, 3, .if_icmp .ne 16, [39], 0)]
set_option maxRecDepth 20000 in
theorem b177_0 : z_blk 177 0 26 B177_0 = true := by decide +kernel
def B177_26 : List zOp := [(26, 1, .aload_n 0, [], 0), (27, 1, .aload_n 0, [], 0), (28, 3, .getfield 150, [11, 12, 0], 0), (31, 1, .iconst 1, [], 0), (32, 1, .iadd, [], 0), (33, 3, .putfield 150, [11, 12, 0], 0), (36, 3, .goto (-36), [0], 0)]
set_option maxRecDepth 20000 in
theorem b177_26 : z_blk 177 26 39 B177_26 = true := by decide +kernel
def B177_39 : List zOp := [(39, 1, .aload_n 0, [], 0), (40, 1, .aload_n 0, [], 0), (41, 3, .getfield 150, [11, 12, 0], 0), (44, 3, .putfield 157, [11, 13, 0], 0), (47, 1, .aload_n 0, [], 0), (48, 1, .iconst 1, [], 0), (49, 3, .putfield 160, [11, 14, 0], 0), (52, 1, .aload_n 0, [], 0), (53, 1, .aload_n 0, [], 0), (54, 3, .getfield 150, [11, 12, 0], 0), (57, 3, .invokevirtual 153, [172, 1, 11], 0), (60, 1, .istore_n 1, [], 0), (61, 1, .iload_n 1, [], 0), (62, 1, .iconst (-1), [], 0), (63, 3, .if_icmp .ne 9, [72], 0), (66, 1, .aload_n 0, [], 0), (67, 1, .iconst 0, [], 0), (68, 3, .putfield 160, [11, 14, 0], 0), (71, 1, .return_, [], 0)]
set_option maxRecDepth 20000 in
theorem b177_39 : z_blk 177 39 72 B177_39 = true := by decide +kernel
def B177_72 : List zOp := [(72, 1, .aload_n 0, [], 0), (73, 1, .aload_n 0, [], 0), (74, 3, .getfield 150, [11, 12, 0], 0), (77, 1, .iconst 1, [], 0), (78, 1, .iadd, [], 0), (79, 3, .putfield 150, [11, 12, 0], 0), (82, 1, .aload_n 0, [], 0), (83, 1, .iload_n 1, [], 0), (84, 3, .putfield 163, [11, 15, 0], 0), (87, 1, .aload_n 0, [], 0), (88, 1, .iload_n 1, [], 0), (89, 3, .invokevirtual 166, [173, 1, 11], 0), (92, 3, .ifCond .eq 63, [155], 0)]
set_option maxRecDepth 20000 in
theorem b177_72 : z_blk 177 72 95 B177_72 = true := by decide +kernel
def B177_95 : List zOp := [(95, 1, .aload_n 0, [], 0), (96, 1, .aload_n 0, [], 0), (97, 1, .aload_n 0, [], 0), (98, 3, .getfield 150, [11, 12, 0], 0), (101, 3, .invokevirtual 153, [172, 1, 11], 0), (104, 3, .invokevirtual 166, [173, 1, 11], 0), (107, 3, .ifCond .eq 16, [123], 0), (110, 1, .aload_n 0, [], 0), (111, 1, .aload_n 0, [], 0), (112, 3, .getfield 150, [11, 12, 0], 0), (115, 1, .iconst 1, [], 0), (116, 1, .iadd, [], 0), (117, 3, .putfield 150, [11, 12, 0], 0), (120, 3, .goto (-25), [95], 0)]
set_option maxRecDepth 20000 in
theorem b177_95 : z_blk 177 95 123 B177_95 = true := by decide +kernel
def B177_123 : List zOp := [(123, 1, .aload_n 0, [], 0), (124, 1, .aload_n 0, [], 0), (125, 1, .aload_n 0, [], 0), (126, 3, .getfield 157, [11, 13, 0], 0), (129, 1, .aload_n 0, [], 0), (130, 3, .getfield 150, [11, 12, 0], 0), (133, 3, .invokevirtual 169, [176, 2, 11], 0), (136, 3, .putfield 163, [11, 15, 0], 0), (139, 1, .aload_n 0, [], 0), (140, 3, .getfield 163, [11, 15, 0], 0), (143, 1, .iconst (-1), [], 0), (144, 3, .if_icmp .eq 129, [273], 0), (147, 1, .aload_n 0, [], 0), (148, 1, .iconst 2, [], 0), (149, 3, .putfield 160, [11, 14, 0], 0), (152, 3, .goto 121, [273], 0)]
set_option maxRecDepth 20000 in
theorem b177_123 : z_blk 177 123 155 B177_123 = true := by decide +kernel
def B177_155 : List zOp := [(155, 1, .aload_n 0, [], 0), (156, 1, .iload_n 1, [], 0), (157, 3, .invokevirtual 173, [174, 1, 11], 0), (160, 3, .ifCond .eq 100, [260], 0), (163, 1, .aload_n 0, [], 0), (164, 1, .iload_n 1, [], 0), (165, 2, .bipush 48, [], 0), (167, 1, .isub, [], 0), (168, 3, .putfield 163, [11, 15, 0], 0)]
set_option maxRecDepth 20000 in
theorem b177_155 : z_blk 177 155 171 B177_155 = true := by decide +kernel
def B177_171 : List zOp := [(171, 1, .aload_n 0, [], 0), (172, 1, .aload_n 0, [], 0), (173, 1, .aload_n 0, [], 0), (174, 3, .getfield 150, [11, 12, 0], 0), (177, 3, .invokevirtual 153, [172, 1, 11], 0), (180, 3, .invokevirtual 173, [174, 1, 11], 0), (183, 3, .ifCond .eq 56, [239], 0), (186, 1, .aload_n 0, [], 0), (187, 1, .aload_n 0, [], 0), (188, 3, .getfield 163, [11, 15, 0], 0), (191, 3, .sipush 10000, [], 0), (194, 3, .if_icmp .ge 25, [219], 0), (197, 2, .bipush 10, [], 0), (199, 1, .aload_n 0, [], 0), (200, 3, .getfield 163, [11, 15, 0], 0), (203, 1, .imul, [], 0), (204, 1, .aload_n 0, [], 0), (205, 1, .aload_n 0, [], 0), (206, 3, .getfield 150, [11, 12, 0], 0), (209, 3, .invokevirtual 153, [172, 1, 11], 0), (212, 1, .iadd, [], 0), (213, 2, .bipush 48, [], 0), (215, 1, .isub, [], 0), (216, 3, .goto 7, [223], 0)]
set_option maxRecDepth 20000 in
theorem b177_171 : z_blk 177 171 219 B177_171 = true := by decide +kernel
def B177_219 : List zOp := [(219, 1, .aload_n 0, [], 0), (220, 3, .getfield 163, [11, 15, 0], 0)]
set_option maxRecDepth 20000 in
theorem b177_219 : z_blk 177 219 223 B177_219 = true := by decide +kernel
def B177_223 : List zOp := [(223, 3, .putfield 163, [11, 15, 0], 0), (226, 1, .aload_n 0, [], 0), (227, 1, .aload_n 0, [], 0), (228, 3, .getfield 150, [11, 12, 0], 0), (231, 1, .iconst 1, [], 0), (232, 1, .iadd, [], 0), (233, 3, .putfield 150, [11, 12, 0], 0), (236, 3, .goto (-65), [171], 0)]
set_option maxRecDepth 20000 in
theorem b177_223 : z_blk 177 223 239 B177_223 = true := by decide +kernel
def B177_239 : List zOp := [(239, 1, .aload_n 0, [], 0), (240, 3, .getfield 150, [11, 12, 0], 0), (243, 1, .aload_n 0, [], 0), (244, 3, .getfield 157, [11, 13, 0], 0), (247, 1, .isub, [], 0), (248, 1, .iconst 5, [], 0), (249, 3, .if_icmp .ge 24, [273], 0), (252, 1, .aload_n 0, [], 0), (253, 1, .iconst 3, [], 0), (254, 3, .putfield 160, [11, 14, 0], 0), (257, 3, .goto 16, [273], 0)]
set_option maxRecDepth 20000 in
theorem b177_239 : z_blk 177 239 260 B177_239 = true := by decide +kernel
def B177_260 : List zOp := [(260, 1, .aload_n 0, [], 0), (261, 1, .iload_n 1, [], 0), (262, 3, .invokevirtual 176, [175, 1, 11], 0), (265, 3, .ifCond .eq 8, [273], 0), (268, 1, .aload_n 0, [], 0), (269, 1, .iconst 4, [], 0), (270, 3, .putfield 160, [11, 14, 0], 0)]
set_option maxRecDepth 20000 in
theorem b177_260 : z_blk 177 260 273 B177_260 = true := by decide +kernel
def B177_273 : List zOp := [(273, 1, .return_, [], 0)]
set_option maxRecDepth 20000 in
theorem b177_273 : z_blk 177 273 274 B177_273 = true := by decide +kernel
-- 178 yX11_fails
def B178_0 : List zOp := [(0, 1, .aload_n 0, [], 0), (1, 1, .iload_n 1, [], 0), (2, 3, .putfield 179, [11, 26, 0], 0), (5, 1, .aload_n 0, [], 0), (6, 1, .aload_n 0, [], 0), (7, 3, .getfield 157, [11, 13, 0], 0), (10, 3, .putfield 182, [11, 27, 0], 0), (13, 1, .iconst (-1), [], 0), (14, 1, .ireturn, [0], 0)]
set_option maxRecDepth 20000 in
theorem b178_0 : z_blk 178 0 15 B178_0 = true := by decide +kernel
-- 179 yX11_isWord
def B179_0 : List zOp := [(0, 1, .aload_n 0, [], 0), (1, 3, .getfield 160, [11, 14, 0], 0), (4, 1, .iconst 2, [], 0), (5, 3, .if_icmp .ne 15, [20], 0), (8, 1, .aload_n 0, [], 0), (9, 3, .getfield 163, [11, 15, 0], 0), (12, 1, .iload_n 1, [], 0), (13, 3, .if_icmp .ne 7, [20], 0), (16, 1, .iconst 1, [], 0), (17, 3, .goto 4, [21], 0)]
set_option maxRecDepth 20000 in
theorem b179_0 : z_blk 179 0 20 B179_0 = true := by decide +kernel
def B179_20 : List zOp := [(20, 1, .iconst 0, [], 0)]
set_option maxRecDepth 20000 in
theorem b179_20 : z_blk 179 20 21 B179_20 = true := by decide +kernel
def B179_21 : List zOp := [(21, 1, .ireturn, [3], 0)]
set_option maxRecDepth 20000 in
theorem b179_21 : z_blk 179 21 22 B179_21 = true := by decide +kernel
-- 180 yX11_isMeasure
def B180_0 : List zOp := [(0, 1, .aload_n 0, [], 0), (1, 3, .getfield 160, [11, 14, 0], 0), (4, 1, .iconst 2, [], 0), (5, 3, .if_icmp .ne 16, [21], 0), (8, 1, .aload_n 0, [], 0), (9, 3, .getfield 163, [11, 15, 0], 0), (12, 2, .bipush 6, [], 0), (14, 3, .if_icmp .ge 7, [21], 0), (17, 1, .iconst 1, [], 0), (18, 3, .goto 4, [22], 0)]
set_option maxRecDepth 20000 in
theorem b180_0 : z_blk 180 0 21 B180_0 = true := by decide +kernel
def B180_21 : List zOp := [(21, 1, .iconst 0, [], 0)]
set_option maxRecDepth 20000 in
theorem b180_21 : z_blk 180 21 22 B180_21 = true := by decide +kernel
def B180_22 : List zOp := [(22, 1, .ireturn, [3], 0)]
set_option maxRecDepth 20000 in
theorem b180_22 : z_blk 180 22 23 B180_22 = true := by decide +kernel
-- 181 yX11_isSign
def B181_0 : List zOp := [(0, 1, .aload_n 0, [], 0), (1, 3, .getfield 160, [11, 14, 0], 0), (4, 1, .iconst 4, [], 0), (5, 3, .if_icmp .ne 15, [20], 0), (8, 1, .aload_n 0, [], 0), (9, 3, .getfield 163, [11, 15, 0], 0), (12, 1, .iload_n 1, [], 0), (13, 3, .if_icmp .ne 7, [20], 0), (16, 1, .iconst 1, [], 0), (17, 3, .goto 4, [21], 0)]
set_option maxRecDepth 20000 in
theorem b181_0 : z_blk 181 0 20 B181_0 = true := by decide +kernel
def B181_20 : List zOp := [(20, 1, .iconst 0, [], 0)]
set_option maxRecDepth 20000 in
theorem b181_20 : z_blk 181 20 21 B181_20 = true := by decide +kernel
def B181_21 : List zOp := [(21, 1, .ireturn, [3], 0)]
set_option maxRecDepth 20000 in
theorem b181_21 : z_blk 181 21 22 B181_21 = true := by decide +kernel
-- 182 yX11_emits
def B182_0 : List zOp := [(0, 1, .aload_n 0, [], 0), (1, 3, .getfield 41, [11, 20, 2], 0), (4, 3, .sipush 900, [], 0), (7, 1, .aload_n 0, [], 0), (8, 3, .getfield 185, [11, 22, 0], 0), (11, 1, .iadd, [], 0), (12, 1, .iload_n 1, [], 0), (13, 1, .iastore, [], 0), (14, 1, .aload_n 0, [], 0), (15, 3, .getfield 44, [11, 21, 2], 0), (18, 3, .sipush 900, [], 0), (21, 1, .aload_n 0, [], 0), (22, 3, .getfield 185, [11, 22, 0], 0), (25, 1, .iadd, [], 0), (26, 1, .iload_n 2, [], 0), (27, 1, .iastore, [], 0), (28, 1, .aload_n 0, [], 0), (29, 1, .aload_n 0, [], 0), (30, 3, .getfield 185, [11, 22, 0], 0), (33, 1, .iconst 1, [], 0), (34, 1, .iadd, [], 0), (35, 3, .putfield 185, [11, 22, 0], 0), (38, 1, .return_, [], 0)]
set_option maxRecDepth 20000 in
theorem b182_0 : z_blk 182 0 39 B182_0 = true := by decide +kernel
-- 183 yX11_readUnit
def B183_0 : List zOp := [(0, 1, .aload_n 0, [], 0), (1, 3, .invokevirtual 188, [180, 0, 11], 0), (4, 3, .ifCond .ne 17, [21], 0), (7, 1, .aload_n 0, [], 0), (8, 3, .getfield 160, [11, 14, 0], 0), (11, 1, .iconst 3, [], 0), (12, 3, .if_icmp .eq 9, [21], 0), (15, 1, .aload_n 0, [], 0), (16, 1, .iconst 1, [], 0), (17, 3, .invokevirtual 192, [178, 1, 11], 0), (20, 1, .ireturn, [0], 0)]
set_option maxRecDepth 20000 in
theorem b183_0 : z_blk 183 0 21 B183_0 = true := by decide +kernel
def B183_21 : List zOp := [(21, 1, .aload_n 0, [], 0), (22, 1, .aload_n 0, [], 0), (23, 3, .invokevirtual 188, [180, 0, 11], 0), (26, 3, .ifCond .eq 7, [33], 0), (29, 1, .iconst 1, [], 0), (30, 3, .goto 4, [34], 0)]
set_option maxRecDepth 20000 in
theorem b183_21 : z_blk 183 21 33 B183_21 = true := by decide +kernel
def B183_33 : List zOp := [(33, 1, .iconst 0, [], 0)]
set_option maxRecDepth 20000 in
theorem b183_33 : z_blk 183 33 34 B183_33 = true := by decide +kernel
def B183_34 : List zOp := [(34, 1, .aload_n 0, [], 0), (35, 3, .getfield 163, [11, 15, 0], 0), (38, 3, .invokevirtual 195, [182, 2, 11], 0), (41, 1, .aload_n 0, [], 0), (42, 3, .invokevirtual 199, [177, 0, 11], 0), (45, 1, .iconst 0, [], 0), (46, 1, .ireturn, [0], 0)]
set_option maxRecDepth 20000 in
theorem b183_34 : z_blk 183 34 47 B183_34 = true := by decide +kernel
-- 184 yX11_readProduct
def B184_0 : List zOp := [(0, 1, .aload_n 0, [], 0), (1, 3, .invokevirtual 202, [183, 0, 11], 0), (4, 1, .iconst (-1), [], 0), (5, 3, .if_icmp .ne 5, [10], 0), (8, 1, .iconst (-1), [], 0), (9, 1, .ireturn, [0], 0)]
set_option maxRecDepth 20000 in
theorem b184_0 : z_blk 184 0 10 B184_0 = true := by decide +kernel
def B184_10 : List zOp := [(10, 1, .aload_n 0, [], 0), (11, 2, .bipush 42, [], 0), (13, 3, .invokevirtual 206, [181, 1, 11], 0), (16, 3, .ifCond .ne 12, [28], 0), (19, 1, .aload_n 0, [], 0), (20, 2, .bipush 47, [], 0), (22, 3, .invokevirtual 206, [181, 1, 11], 0), (25, 3, .ifCond .eq 76, [101], 0)]
set_option maxRecDepth 20000 in
theorem b184_10 : z_blk 184 10 28 B184_10 = true := by decide +kernel
def B184_28 : List zOp := [(28, 1, .aload_n 0, [], 0), (29, 2, .bipush 42, [], 0), (31, 3, .invokevirtual 206, [181, 1, 11], 0), (34, 1, .istore_n 1, [], 0), (35, 1, .aload_n 0, [], 0), (36, 3, .invokevirtual 199, [177, 0, 11], 0), (39, 1, .iload_n 1, [], 0), (40, 3, .ifCond .ne 17, [57], 0), (43, 1, .aload_n 0, [], 0), (44, 3, .getfield 160, [11, 14, 0], 0), (47, 1, .iconst 3, [], 0), (48, 3, .if_icmp .eq 9, [57], 0), (51, 1, .aload_n 0, [], 0), (52, 1, .iconst 1, [], 0), (53, 3, .invokevirtual 192, [178, 1, 11], 0), (56, 1, .ireturn, [0], 0)]
set_option maxRecDepth 20000 in
theorem b184_28 : z_blk 184 28 57 B184_28 = true := by decide +kernel
def B184_57 : List zOp := [(57, 1, .iload_n 1, [], 0), (58, 3, .ifCond .ne 16, [74], 0), (61, 1, .aload_n 0, [], 0), (62, 3, .getfield 163, [11, 15, 0], 0), (65, 3, .ifCond .ne 9, [74], 0), (68, 1, .aload_n 0, [], 0), (69, 1, .iconst 2, [], 0), (70, 3, .invokevirtual 192, [178, 1, 11], 0), (73, 1, .ireturn, [0], 0)]
set_option maxRecDepth 20000 in
theorem b184_57 : z_blk 184 57 74 B184_57 = true := by decide +kernel
def B184_74 : List zOp := [(74, 1, .aload_n 0, [], 0), (75, 3, .invokevirtual 202, [183, 0, 11], 0), (78, 1, .iconst (-1), [], 0), (79, 3, .if_icmp .ne 5, [84], 0), (82, 1, .iconst (-1), [], 0), (83, 1, .ireturn, [0], 0)]
set_option maxRecDepth 20000 in
theorem b184_74 : z_blk 184 74 84 B184_74 = true := by decide +kernel
def B184_84 : List zOp := [(84, 1, .aload_n 0, [], 0), (85, 1, .iload_n 1, [], 0), (86, 3, .ifCond .eq 7, [93], 0), (89, 1, .iconst 4, [], 0), (90, 3, .goto 4, [94], 0)]
set_option maxRecDepth 20000 in
theorem b184_84 : z_blk 184 84 93 B184_84 = true := by decide +kernel
def B184_93 : List zOp := [(93, 1, .iconst 5, [], 0)]
set_option maxRecDepth 20000 in
theorem b184_93 : z_blk 184 93 94 B184_93 = true := by decide +kernel
def B184_94 : List zOp := [(94, 1, .iconst 0, [], 0), (95, 3, .invokevirtual 195, [182, 2, 11], 0), (98, 3, .goto (-88), [10], 0)]
set_option maxRecDepth 20000 in
theorem b184_94 : z_blk 184 94 101 B184_94 = true := by decide +kernel
def B184_101 : List zOp := [(101, 1, .iconst 0, [], 0), (102, 1, .ireturn, [0], 0)]
set_option maxRecDepth 20000 in
theorem b184_101 : z_blk 184 101 103 B184_101 = true := by decide +kernel
-- 185 yX11_readSum
def B185_0 : List zOp := [(0, 1, .aload_n 0, [], 0), (1, 3, .invokevirtual 209, [184, 0, 11], 0), (4, 1, .iconst (-1), [], 0), (5, 3, .if_icmp .ne 5, [10], 0), (8, 1, .iconst (-1), [], 0), (9, 1, .ireturn, [0], 0)]
set_option maxRecDepth 20000 in
theorem b185_0 : z_blk 185 0 10 B185_0 = true := by decide +kernel
def B185_10 : List zOp := [(10, 1, .aload_n 0, [], 0), (11, 2, .bipush 43, [], 0), (13, 3, .invokevirtual 206, [181, 1, 11], 0), (16, 3, .ifCond .ne 12, [28], 0), (19, 1, .aload_n 0, [], 0), (20, 2, .bipush 45, [], 0), (22, 3, .invokevirtual 206, [181, 1, 11], 0), (25, 3, .ifCond .eq 41, [66], 0)]
set_option maxRecDepth 20000 in
theorem b185_10 : z_blk 185 10 28 B185_10 = true := by decide +kernel
def B185_28 : List zOp := [(28, 1, .aload_n 0, [], 0), (29, 3, .getfield 163, [11, 15, 0], 0), (32, 2, .bipush 43, [], 0), (34, 3, .if_icmp .ne 7, [41], 0), (37, 1, .iconst 2, [], 0), (38, 3, .goto 4, [42], 0)]
set_option maxRecDepth 20000 in
theorem b185_28 : z_blk 185 28 41 B185_28 = true := by decide +kernel
def B185_41 : List zOp := [(41, 1, .iconst 3, [], 0)]
set_option maxRecDepth 20000 in
theorem b185_41 : z_blk 185 41 42 B185_41 = true := by decide +kernel
def B185_42 : List zOp := [(42, 1, .istore_n 1, [], 0), (43, 1, .aload_n 0, [], 0), (44, 3, .invokevirtual 199, [177, 0, 11], 0), (47, 1, .aload_n 0, [], 0), (48, 3, .invokevirtual 209, [184, 0, 11], 0), (51, 1, .iconst (-1), [], 0), (52, 3, .if_icmp .ne 5, [57], 0), (55, 1, .iconst (-1), [], 0), (56, 1, .ireturn, [0], 0)]
set_option maxRecDepth 20000 in
theorem b185_42 : z_blk 185 42 57 B185_42 = true := by decide +kernel
def B185_57 : List zOp := [(57, 1, .aload_n 0, [], 0), (58, 1, .iload_n 1, [], 0), (59, 1, .iconst 0, [], 0), (60, 3, .invokevirtual 195, [182, 2, 11], 0), (63, 3, .goto (-53), [10], 0)]
set_option maxRecDepth 20000 in
theorem b185_57 : z_blk 185 57 66 B185_57 = true := by decide +kernel
def B185_66 : List zOp := [(66, 1, .iconst 0, [], 0), (67, 1, .ireturn, [0], 0)]
set_option maxRecDepth 20000 in
theorem b185_66 : z_blk 185 66 68 B185_66 = true := by decide +kernel
-- 186 yX11_readCompared
def B186_0 : List zOp := [(0, 1, .aload_n 0, [], 0), (1, 2, .bipush 9, [], 0), (3, 3, .invokevirtual 212, [179, 1, 11], 0), (6, 3, .ifCond .eq 36, [42], 0), (9, 1, .aload_n 0, [], 0), (10, 3, .invokevirtual 199, [177, 0, 11], 0), (13, 1, .aload_n 0, [], 0), (14, 3, .invokevirtual 188, [180, 0, 11], 0), (17, 3, .ifCond .ne 9, [26], 0), (20, 1, .aload_n 0, [], 0), (21, 1, .iconst 1, [], 0), (22, 3, .invokevirtual 192, [178, 1, 11], 0), (25, 1, .ireturn, [0], 0)]
set_option maxRecDepth 20000 in
theorem b186_0 : z_blk 186 0 26 B186_0 = true := by decide +kernel
def B186_26 : List zOp := [(26, 1, .aload_n 0, [], 0), (27, 2, .bipush 12, [], 0), (29, 1, .aload_n 0, [], 0), (30, 3, .getfield 163, [11, 15, 0], 0), (33, 3, .invokevirtual 195, [182, 2, 11], 0), (36, 1, .aload_n 0, [], 0), (37, 3, .invokevirtual 199, [177, 0, 11], 0), (40, 1, .iconst 0, [], 0), (41, 1, .ireturn, [0], 0)]
set_option maxRecDepth 20000 in
theorem b186_26 : z_blk 186 26 42 B186_26 = true := by decide +kernel
def B186_42 : List zOp := [(42, 1, .aload_n 0, [], 0), (43, 3, .invokevirtual 215, [185, 0, 11], 0), (46, 1, .iconst (-1), [], 0), (47, 3, .if_icmp .ne 5, [52], 0), (50, 1, .iconst (-1), [], 0), (51, 1, .ireturn, [0], 0)]
set_option maxRecDepth 20000 in
theorem b186_42 : z_blk 186 42 52 B186_42 = true := by decide +kernel
def B186_52 : List zOp := [(52, 1, .aload_n 0, [], 0), (53, 2, .bipush 60, [], 0), (55, 3, .invokevirtual 206, [181, 1, 11], 0), (58, 3, .ifCond .ne 27, [85], 0), (61, 1, .aload_n 0, [], 0), (62, 2, .bipush 61, [], 0), (64, 3, .invokevirtual 206, [181, 1, 11], 0), (67, 3, .ifCond .ne 18, [85], 0), (70, 1, .aload_n 0, [], 0), (71, 2, .bipush 62, [], 0), (73, 3, .invokevirtual 206, [181, 1, 11], 0), (76, 3, .ifCond .ne 9, [85], 0), (79, 1, .aload_n 0, [], 0), (80, 1, .iconst 1, [], 0), (81, 3, .invokevirtual 192, [178, 1, 11], 0), (84, 1, .ireturn, [0], 0)]
set_option maxRecDepth 20000 in
theorem b186_52 : z_blk 186 52 85 B186_52 = true := by decide +kernel
def B186_85 : List zOp := [(85, 1, .aload_n 0, [], 0), (86, 3, .getfield 163, [11, 15, 0], 0), (89, 2, .bipush 60, [], 0), (91, 3, .if_icmp .ne 8, [99], 0), (94, 2, .bipush 6, [], 0), (96, 3, .goto 19, [115], 0)]
set_option maxRecDepth 20000 in
theorem b186_85 : z_blk 186 85 99 B186_85 = true := by decide +kernel
def B186_99 : List zOp := [(99, 1, .aload_n 0, [], 0), (100, 3, .getfield 163, [11, 15, 0], 0), (103, 2, .bipush 61, [], 0), (105, 3, .if_icmp .ne 8, [113], 0), (108, 2, .bipush 7, [], 0), (110, 3, .goto 5, [115], 0)]
set_option maxRecDepth 20000 in
theorem b186_99 : z_blk 186 99 113 B186_99 = true := by decide +kernel
def B186_113 : List zOp := [(113, 2, .bipush 8, [], 0)]
set_option maxRecDepth 20000 in
theorem b186_113 : z_blk 186 113 115 B186_113 = true := by decide +kernel
def B186_115 : List zOp := [(115, 1, .istore_n 1, [], 0), (116, 1, .aload_n 0, [], 0), (117, 3, .invokevirtual 199, [177, 0, 11], 0), (120, 1, .aload_n 0, [], 0), (121, 3, .invokevirtual 215, [185, 0, 11], 0), (124, 1, .iconst (-1), [], 0), (125, 3, .if_icmp .ne 5, [130], 0), (128, 1, .iconst (-1), [], 0), (129, 1, .ireturn, [0], 0)]
set_option maxRecDepth 20000 in
theorem b186_115 : z_blk 186 115 130 B186_115 = true := by decide +kernel
def B186_130 : List zOp := [(130, 1, .aload_n 0, [], 0), (131, 1, .iload_n 1, [], 0), (132, 1, .iconst 0, [], 0), (133, 3, .invokevirtual 195, [182, 2, 11], 0), (136, 1, .iconst 0, [], 0), (137, 1, .ireturn, [0], 0)]
set_option maxRecDepth 20000 in
theorem b186_130 : z_blk 186 130 138 B186_130 = true := by decide +kernel
-- 187 yX11_waits
def B187_0 : List zOp := [(0, 1, .aload_n 0, [], 0), (1, 3, .getfield 47, [11, 24, 2], 0), (4, 1, .aload_n 0, [], 0), (5, 3, .getfield 218, [11, 25, 0], 0), (8, 1, .iload_n 1, [], 0), (9, 1, .iastore, [], 0), (10, 1, .aload_n 0, [], 0), (11, 1, .aload_n 0, [], 0), (12, 3, .getfield 218, [11, 25, 0], 0), (15, 1, .iconst 1, [], 0), (16, 1, .iadd, [], 0), (17, 3, .putfield 218, [11, 25, 0], 0), (20, 1, .return_, [], 0)]
set_option maxRecDepth 20000 in
theorem b187_0 : z_blk 187 0 21 B187_0 = true := by decide +kernel
-- 188 yX11_settles
def B188_0 : List zOp := [(0, 1, .aload_n 0, [], 0), (1, 3, .getfield 218, [11, 25, 0], 0), (4, 3, .ifCond .le 53, [57], 0), (7, 1, .aload_n 0, [], 0), (8, 3, .getfield 47, [11, 24, 2], 0), (11, 1, .aload_n 0, [], 0), (12, 3, .getfield 218, [11, 25, 0], 0), (15, 1, .iconst 1, [], 0), (16, 1, .isub, [], 0), (17, 1, .iaload, [], 0), (18, 1, .iload_n 1, [], 0), (19, 3, .if_icmp .ne 38, [57], 0), (22, 1, .aload_n 0, [], 0), (23, 1, .aload_n 0, [], 0), (24, 3, .getfield 218, [11, 25, 0], 0), (27, 1, .iconst 1, [], 0), (28, 1, .isub, [], 0), (29, 3, .putfield 218, [11, 25, 0], 0), (32, 1, .aload_n 0, [], 0), (33, 1, .iload_n 1, [], 0), (34, 1, .iconst 0, [], 0), (35, 3, .invokevirtual 195, [182, 2, 11], 0), (38, 1, .iload_n 1, [], 0), (39, 2, .bipush 9, [], 0), (41, 3, .if_icmp .ne (-41), [0], 0), (44, 1, .aload_n 0, [], 0), (45, 1, .aload_n 0, [], 0), (46, 3, .getfield 221, [11, 23, 0], 0), (49, 1, .iconst 1, [], 0), (50, 1, .isub, [], 0), (51, 3, .putfield 221, [11, 23, 0], 0), (54, 3, .goto (-54), [0], 0)]
set_option maxRecDepth 20000 in
theorem b188_0 : z_blk 188 0 57 B188_0 = true := by decide +kernel
def B188_57 : List zOp := [(57, 1, .return_, [], 0)]
set_option maxRecDepth 20000 in
theorem b188_57 : z_blk 188 57 58 B188_57 = true := by decide +kernel
-- 189 yX11_readAny
def B189_0 : List zOp := [(0, 1, .iconst 0, [], 0), (1, 1, .istore_n 1, [], 0), (2, 1, .aload_n 0, [], 0), (3, 1, .iconst 0, [], 0), (4, 3, .putfield 218, [11, 25, 0], 0), (7, 1, .iconst 1, [], 0), (8, 1, .istore_n 2, [], 0)]
set_option maxRecDepth 20000 in
theorem b189_0 : z_blk 189 0 9 B189_0 = true := by decide +kernel
def B189_9 : List zOp := [(9, 1, .iload_n 2, [], 0), (10, 3, .ifCond .eq 99, [109], 0), (13, 1, .aload_n 0, [], 0), (14, 2, .bipush 8, [], 0), (16, 3, .invokevirtual 212, [179, 1, 11], 0), (19, 1, .istore_n 3, [], 0), (20, 1, .iload_n 3, [], 0), (21, 3, .ifCond .ne 12, [33], 0), (24, 1, .aload_n 0, [], 0), (25, 2, .bipush 40, [], 0), (27, 3, .invokevirtual 206, [181, 1, 11], 0), (30, 3, .ifCond .eq 58, [88], 0)]
set_option maxRecDepth 20000 in
theorem b189_9 : z_blk 189 9 33 B189_9 = true := by decide +kernel
def B189_33 : List zOp := [(33, 1, .aload_n 0, [], 0), (34, 3, .getfield 221, [11, 23, 0], 0), (37, 2, .bipush 8, [], 0), (39, 3, .if_icmp .ne 9, [48], 0), (42, 1, .aload_n 0, [], 0), (43, 1, .iconst 3, [], 0), (44, 3, .invokevirtual 192, [178, 1, 11], 0), (47, 1, .ireturn, [0], 0)]
set_option maxRecDepth 20000 in
theorem b189_33 : z_blk 189 33 48 B189_33 = true := by decide +kernel
def B189_48 : List zOp := [(48, 1, .aload_n 0, [], 0), (49, 1, .aload_n 0, [], 0), (50, 3, .getfield 221, [11, 23, 0], 0), (53, 1, .iconst 1, [], 0), (54, 1, .iadd, [], 0), (55, 3, .putfield 221, [11, 23, 0], 0), (58, 1, .iload_n 3, [], 0), (59, 3, .ifCond .ne 7, [66], 0), (62, 1, .iload_n 1, [], 0), (63, 1, .iconst 1, [], 0), (64, 1, .iadd, [], 0), (65, 1, .istore_n 1, [], 0)]
set_option maxRecDepth 20000 in
theorem b189_48 : z_blk 189 48 66 B189_48 = true := by decide +kernel
def B189_66 : List zOp := [(66, 1, .aload_n 0, [], 0), (67, 1, .iload_n 3, [], 0), (68, 3, .ifCond .eq 8, [76], 0), (71, 2, .bipush 9, [], 0), (73, 3, .goto 5, [78], 0)]
set_option maxRecDepth 20000 in
theorem b189_66 : z_blk 189 66 76 B189_66 = true := by decide +kernel
def B189_76 : List zOp := [(76, 2, .bipush 13, [], 0)]
set_option maxRecDepth 20000 in
theorem b189_76 : z_blk 189 76 78 B189_76 = true := by decide +kernel
def B189_78 : List zOp := [(78, 3, .invokevirtual 224, [187, 1, 11], 0), (81, 1, .aload_n 0, [], 0), (82, 3, .invokevirtual 199, [177, 0, 11], 0), (85, 3, .goto (-76), [9], 0)]
set_option maxRecDepth 20000 in
theorem b189_78 : z_blk 189 78 88 B189_78 = true := by decide +kernel
def B189_88 : List zOp := [(88, 1, .aload_n 0, [], 0), (89, 3, .invokevirtual 227, [186, 0, 11], 0), (92, 1, .iconst (-1), [], 0), (93, 3, .if_icmp .ne 5, [98], 0), (96, 1, .iconst (-1), [], 0), (97, 1, .ireturn, [0], 0)]
set_option maxRecDepth 20000 in
theorem b189_88 : z_blk 189 88 98 B189_88 = true := by decide +kernel
def B189_98 : List zOp := [(98, 1, .aload_n 0, [], 0), (99, 2, .bipush 9, [], 0), (101, 3, .invokevirtual 230, [188, 1, 11], 0), (104, 1, .iconst 0, [], 0), (105, 1, .istore_n 2, [], 0), (106, 3, .goto (-97), [9], 0)]
set_option maxRecDepth 20000 in
theorem b189_98 : z_blk 189 98 109 B189_98 = true := by decide +kernel
def B189_109 : List zOp := [(109, 1, .aload_n 0, [], 0), (110, 2, .bipush 7, [], 0), (112, 3, .invokevirtual 212, [179, 1, 11], 0), (115, 3, .ifCond .eq 24, [139], 0), (118, 1, .aload_n 0, [], 0), (119, 2, .bipush 10, [], 0), (121, 3, .invokevirtual 230, [188, 1, 11], 0), (124, 1, .aload_n 0, [], 0), (125, 2, .bipush 10, [], 0), (127, 3, .invokevirtual 224, [187, 1, 11], 0), (130, 1, .aload_n 0, [], 0), (131, 3, .invokevirtual 199, [177, 0, 11], 0), (134, 1, .iconst 1, [], 0), (135, 1, .istore_n 2, [], 0), (136, 3, .goto (-127), [9], 0)]
set_option maxRecDepth 20000 in
theorem b189_109 : z_blk 189 109 139 B189_109 = true := by decide +kernel
def B189_139 : List zOp := [(139, 1, .aload_n 0, [], 0), (140, 2, .bipush 6, [], 0), (142, 3, .invokevirtual 212, [179, 1, 11], 0), (145, 3, .ifCond .eq 30, [175], 0), (148, 1, .aload_n 0, [], 0), (149, 2, .bipush 10, [], 0), (151, 3, .invokevirtual 230, [188, 1, 11], 0), (154, 1, .aload_n 0, [], 0), (155, 2, .bipush 11, [], 0), (157, 3, .invokevirtual 230, [188, 1, 11], 0), (160, 1, .aload_n 0, [], 0), (161, 2, .bipush 11, [], 0), (163, 3, .invokevirtual 224, [187, 1, 11], 0), (166, 1, .aload_n 0, [], 0), (167, 3, .invokevirtual 199, [177, 0, 11], 0), (170, 1, .iconst 1, [], 0), (171, 1, .istore_n 2, [], 0), (172, 3, .goto (-163), [9], 0)]
set_option maxRecDepth 20000 in
theorem b189_139 : z_blk 189 139 175 B189_139 = true := by decide +kernel
def B189_175 : List zOp := [(175, 1, .aload_n 0, [], 0), (176, 2, .bipush 10, [], 0), (178, 3, .invokevirtual 230, [188, 1, 11], 0), (181, 1, .aload_n 0, [], 0), (182, 2, .bipush 11, [], 0), (184, 3, .invokevirtual 230, [188, 1, 11], 0), (187, 1, .iload_n 1, [], 0), (188, 3, .ifCond .ne 5, [193], 0), (191, 1, .iconst 0, [], 0), (192, 1, .ireturn, [0], 0)]
set_option maxRecDepth 20000 in
theorem b189_175 : z_blk 189 175 193 B189_175 = true := by decide +kernel
def B189_193 : List zOp := [(193, 1, .aload_n 0, [], 0), (194, 2, .bipush 41, [], 0), (196, 3, .invokevirtual 206, [181, 1, 11], 0), (199, 3, .ifCond .ne 9, [208], 0), (202, 1, .aload_n 0, [], 0), (203, 1, .iconst 1, [], 0), (204, 3, .invokevirtual 192, [178, 1, 11], 0), (207, 1, .ireturn, [0], 0)]
set_option maxRecDepth 20000 in
theorem b189_193 : z_blk 189 193 208 B189_193 = true := by decide +kernel
def B189_208 : List zOp := [(208, 1, .aload_n 0, [], 0), (209, 1, .aload_n 0, [], 0), (210, 3, .getfield 218, [11, 25, 0], 0), (213, 1, .iconst 1, [], 0), (214, 1, .isub, [], 0), (215, 3, .putfield 218, [11, 25, 0], 0), (218, 1, .iload_n 1, [], 0), (219, 1, .iconst 1, [], 0), (220, 1, .isub, [], 0), (221, 1, .istore_n 1, [], 0), (222, 1, .aload_n 0, [], 0), (223, 1, .aload_n 0, [], 0), (224, 3, .getfield 221, [11, 23, 0], 0), (227, 1, .iconst 1, [], 0), (228, 1, .isub, [], 0), (229, 3, .putfield 221, [11, 23, 0], 0), (232, 1, .aload_n 0, [], 0), (233, 2, .bipush 9, [], 0), (235, 3, .invokevirtual 230, [188, 1, 11], 0), (238, 1, .aload_n 0, [], 0), (239, 3, .invokevirtual 199, [177, 0, 11], 0), (242, 3, .goto (-233), [9], 0)]
set_option maxRecDepth 20000 in
theorem b189_208 : z_blk 189 208 245 B189_208 = true := by decide +kernel
-- 190 yX11_reads
def B190_0 : List zOp := [(0, 1, .aload_n 0, [], 0), (1, 1, .iconst 0, [], 0), (2, 3, .putfield 150, [11, 12, 0], 0), (5, 1, .aload_n 0, [], 0), (6, 1, .iconst 0, [], 0), (7, 3, .putfield 185, [11, 22, 0], 0), (10, 1, .aload_n 0, [], 0), (11, 1, .iconst 0, [], 0), (12, 3, .putfield 221, [11, 23, 0], 0), (15, 1, .iconst 0, [], 0), (16, 1, .istore_n 1, [], 0), (17, 1, .aload_n 0, [], 0), (18, 3, .invokevirtual 199, [177, 0, 11], 0)]
set_option maxRecDepth 20000 in
theorem b190_0 : z_blk 190 0 21 B190_0 = true := by decide +kernel
def B190_21 : List zOp := [(21, 1, .aload_n 0, [], 0), (22, 3, .getfield 160, [11, 14, 0], 0), (25, 3, .ifCond .eq 77, [102], 0), (28, 1, .iload_n 1, [], 0), (29, 2, .bipush 12, [], 0), (31, 3, .if_icmp .ne 9, [40], 0), (34, 1, .aload_n 0, [], 0), (35, 1, .iconst 3, [], 0), (36, 3, .invokevirtual 192, [178, 1, 11], 0), (39, 1, .ireturn, [0], 0)]
set_option maxRecDepth 20000 in
theorem b190_21 : z_blk 190 21 40 B190_21 = true := by decide +kernel
def B190_40 : List zOp := [(40, 1, .aload_n 0, [], 0), (41, 3, .getfield 35, [11, 18, 2], 0), (44, 2, .bipush 12, [], 0), (46, 1, .iload_n 1, [], 0), (47, 1, .iadd, [], 0), (48, 1, .aload_n 0, [], 0), (49, 3, .getfield 185, [11, 22, 0], 0), (52, 1, .iastore, [], 0), (53, 1, .aload_n 0, [], 0), (54, 3, .invokevirtual 233, [189, 0, 11], 0), (57, 1, .iconst (-1), [], 0), (58, 3, .if_icmp .ne 5, [63], 0), (61, 1, .iconst (-1), [], 0), (62, 1, .ireturn, [0], 0)]
set_option maxRecDepth 20000 in
theorem b190_40 : z_blk 190 40 63 B190_40 = true := by decide +kernel
def B190_63 : List zOp := [(63, 1, .aload_n 0, [], 0), (64, 3, .getfield 38, [11, 19, 2], 0), (67, 2, .bipush 12, [], 0), (69, 1, .iload_n 1, [], 0), (70, 1, .iadd, [], 0), (71, 1, .aload_n 0, [], 0), (72, 3, .getfield 185, [11, 22, 0], 0), (75, 1, .iastore, [], 0), (76, 1, .iload_n 1, [], 0), (77, 1, .iconst 1, [], 0), (78, 1, .iadd, [], 0), (79, 1, .istore_n 1, [], 0), (80, 1, .aload_n 0, [], 0), (81, 2, .bipush 59, [], 0), (83, 3, .invokevirtual 206, [181, 1, 11], 0), (86, 3, .ifCond .ne 9, [95], 0), (89, 1, .aload_n 0, [], 0), (90, 1, .iconst 1, [], 0), (91, 3, .invokevirtual 192, [178, 1, 11], 0), (94, 1, .ireturn, [0], 0)]
set_option maxRecDepth 20000 in
theorem b190_63 : z_blk 190 63 95 B190_63 = true := by decide +kernel
def B190_95 : List zOp := [(95, 1, .aload_n 0, [], 0), (96, 3, .invokevirtual 199, [177, 0, 11], 0), (99, 3, .goto (-78), [21], 0)]
set_option maxRecDepth 20000 in
theorem b190_95 : z_blk 190 95 102 B190_95 = true := by decide +kernel
def B190_102 : List zOp := [(102, 1, .iload_n 1, [], 0), (103, 1, .ireturn, [0], 0)]
set_option maxRecDepth 20000 in
theorem b190_102 : z_blk 190 102 104 B190_102 = true := by decide +kernel
-- 191 yX11_scales
def B191_0 : List zOp := [(0, 1, .aload_n 0, [], 0), (1, 1, .iconst 0, [], 0), (2, 3, .putfield 113, [11, 0, 0], 0), (5, 1, .aload_n 0, [], 0), (6, 3, .invokevirtual 236, [190, 0, 11], 0), (9, 1, .istore_n 1, [], 0), (10, 1, .aload_n 0, [], 0), (11, 1, .iconst 0, [], 0), (12, 3, .putfield 143, [11, 11, 0], 0), (15, 1, .aload_n 0, [], 0), (16, 1, .iload_n 1, [], 0), (17, 1, .iconst (-1), [], 0), (18, 3, .if_icmp .ne 10, [28], 0), (21, 1, .aload_n 0, [], 0), (22, 3, .getfield 179, [11, 26, 0], 0), (25, 3, .goto 4, [29], 0)]
set_option maxRecDepth 20000 in
theorem b191_0 : z_blk 191 0 28 B191_0 = true := by decide +kernel
def B191_28 : List zOp := [(28, 1, .iconst 0, [], 0)]
set_option maxRecDepth 20000 in
theorem b191_28 : z_blk 191 28 29 B191_28 = true := by decide +kernel
def B191_29 : List zOp := [(29, 3, .putfield 239, [11, 28, 0], 0), (32, 1, .aload_n 0, [], 0), (33, 1, .iload_n 1, [], 0), (34, 1, .iconst (-1), [], 0), (35, 3, .if_icmp .ne 10, [45], 0), (38, 1, .aload_n 0, [], 0), (39, 3, .getfield 182, [11, 27, 0], 0), (42, 3, .goto 4, [46], 0)]
set_option maxRecDepth 20000 in
theorem b191_29 : z_blk 191 29 45 B191_29 = true := by decide +kernel
def B191_45 : List zOp := [(45, 1, .iconst (-1), [], 0)]
set_option maxRecDepth 20000 in
theorem b191_45 : z_blk 191 45 46 B191_45 = true := by decide +kernel
def B191_46 : List zOp := [(46, 3, .putfield 50, [11, 29, 0], 0), (49, 1, .iload_n 1, [], 0), (50, 1, .iconst (-1), [], 0), (51, 3, .if_icmp .ne 5, [56], 0), (54, 1, .iconst (-1), [], 0), (55, 1, .ireturn, [0], 0)]
set_option maxRecDepth 20000 in
theorem b191_46 : z_blk 191 46 56 B191_46 = true := by decide +kernel
def B191_56 : List zOp := [(56, 1, .aload_n 0, [], 0), (57, 1, .iload_n 1, [], 0), (58, 3, .putfield 242, [11, 17, 0], 0), (61, 1, .iconst 0, [], 0), (62, 1, .istore_n 2, [], 0)]
set_option maxRecDepth 20000 in
theorem b191_56 : z_blk 191 56 63 B191_56 = true := by decide +kernel
def B191_63 : List zOp := [(63, 1, .iload_n 2, [], 0), (64, 1, .iload_n 1, [], 0), (65, 3, .if_icmp .ge 39, [104], 0), (68, 1, .aload_n 0, [], 0), (69, 3, .getfield 35, [11, 18, 2], 0), (72, 1, .iload_n 2, [], 0), (73, 1, .aload_n 0, [], 0), (74, 3, .getfield 35, [11, 18, 2], 0), (77, 2, .bipush 12, [], 0), (79, 1, .iload_n 2, [], 0), (80, 1, .iadd, [], 0), (81, 1, .iaload, [], 0), (82, 1, .iastore, [], 0), (83, 1, .aload_n 0, [], 0), (84, 3, .getfield 38, [11, 19, 2], 0), (87, 1, .iload_n 2, [], 0), (88, 1, .aload_n 0, [], 0), (89, 3, .getfield 38, [11, 19, 2], 0), (92, 2, .bipush 12, [], 0), (94, 1, .iload_n 2, [], 0), (95, 1, .iadd, [], 0), (96, 1, .iaload, [], 0), (97, 1, .iastore, [], 0), (98, 3, .iinc 2 1, [], 0), (101, 3, .goto (-38), [63], 0)]
set_option maxRecDepth 20000 in
theorem b191_63 : z_blk 191 63 104 B191_63 = true := by decide +kernel
def B191_104 : List zOp := [(104, 1, .iconst 0, [], 0), (105, 1, .istore_n 2, [], 0)]
set_option maxRecDepth 20000 in
theorem b191_104 : z_blk 191 104 106 B191_104 = true := by decide +kernel
def B191_106 : List zOp := [(106, 1, .iload_n 2, [], 0), (107, 1, .aload_n 0, [], 0), (108, 3, .getfield 185, [11, 22, 0], 0), (111, 3, .if_icmp .ge 41, [152], 0), (114, 1, .aload_n 0, [], 0), (115, 3, .getfield 41, [11, 20, 2], 0), (118, 1, .iload_n 2, [], 0), (119, 1, .aload_n 0, [], 0), (120, 3, .getfield 41, [11, 20, 2], 0), (123, 3, .sipush 900, [], 0), (126, 1, .iload_n 2, [], 0), (127, 1, .iadd, [], 0), (128, 1, .iaload, [], 0), (129, 1, .iastore, [], 0), (130, 1, .aload_n 0, [], 0), (131, 3, .getfield 44, [11, 21, 2], 0), (134, 1, .iload_n 2, [], 0), (135, 1, .aload_n 0, [], 0), (136, 3, .getfield 44, [11, 21, 2], 0), (139, 3, .sipush 900, [], 0), (142, 1, .iload_n 2, [], 0), (143, 1, .iadd, [], 0), (144, 1, .iaload, [], 0), (145, 1, .iastore, [], 0), (146, 3, .iinc 2 1, [], 0), (149, 3, .goto (-43), [106], 0)]
set_option maxRecDepth 20000 in
theorem b191_106 : z_blk 191 106 152 B191_106 = true := by decide +kernel
def B191_152 : List zOp := [(152, 1, .iload_n 1, [], 0), (153, 1, .ireturn, [0], 0)]
set_option maxRecDepth 20000 in
theorem b191_152 : z_blk 191 152 154 B191_152 = true := by decide +kernel
-- 192 yX11_fault
def B192_0 : List zOp := [(0, 1, .aload_n 0, [], 0), (1, 1, .iconst 0, [], 0), (2, 3, .putfield 113, [11, 0, 0], 0), (5, 1, .iload_n 1, [], 0), (6, 3, .ifCond .ne 10, [16], 0), (9, 1, .aload_n 0, [], 0), (10, 3, .getfield 239, [11, 28, 0], 0), (13, 3, .goto 16, [29], 0)]
set_option maxRecDepth 20000 in
theorem b192_0 : z_blk 192 0 16 B192_0 = true := by decide +kernel
def B192_16 : List zOp := [(16, 1, .iload_n 1, [], 0), (17, 1, .iconst 1, [], 0), (18, 3, .if_icmp .ne 10, [28], 0), (21, 1, .aload_n 0, [], 0), (22, 3, .getfield 50, [11, 29, 0], 0), (25, 3, .goto 4, [29], 0)]
set_option maxRecDepth 20000 in
theorem b192_16 : z_blk 192 16 28 B192_16 = true := by decide +kernel
def B192_28 : List zOp := [(28, 1, .iconst (-1), [], 0)]
set_option maxRecDepth 20000 in
theorem b192_28 : z_blk 192 28 29 B192_28 = true := by decide +kernel
def B192_29 : List zOp := [(29, 1, .ireturn, [0], 0)]
set_option maxRecDepth 20000 in
theorem b192_29 : z_blk 192 29 30 B192_29 = true := by decide +kernel
-- 193 yX11_twoOf
def B193_0 : List zOp := [(0, 1, .iload_n 1, [], 0), (1, 1, .iconst 2, [], 0), (2, 3, .if_icmp .ne 7, [9], 0), (5, 1, .iload_n 2, [], 0), (6, 1, .iload_n 3, [], 0), (7, 1, .iadd, [], 0), (8, 1, .ireturn, [0], 0)]
set_option maxRecDepth 20000 in
theorem b193_0 : z_blk 193 0 9 B193_0 = true := by decide +kernel
def B193_9 : List zOp := [(9, 1, .iload_n 1, [], 0), (10, 1, .iconst 3, [], 0), (11, 3, .if_icmp .ne 7, [18], 0), (14, 1, .iload_n 2, [], 0), (15, 1, .iload_n 3, [], 0), (16, 1, .isub, [], 0), (17, 1, .ireturn, [0], 0)]
set_option maxRecDepth 20000 in
theorem b193_9 : z_blk 193 9 18 B193_9 = true := by decide +kernel
def B193_18 : List zOp := [(18, 1, .iload_n 1, [], 0), (19, 1, .iconst 4, [], 0), (20, 3, .if_icmp .ne 7, [27], 0), (23, 1, .iload_n 2, [], 0), (24, 1, .iload_n 3, [], 0), (25, 1, .imul, [], 0), (26, 1, .ireturn, [0], 0)]
set_option maxRecDepth 20000 in
theorem b193_18 : z_blk 193 18 27 B193_18 = true := by decide +kernel
def B193_27 : List zOp := [(27, 1, .iload_n 1, [], 0), (28, 1, .iconst 5, [], 0), (29, 3, .if_icmp .ne 7, [36], 0), (32, 1, .iload_n 2, [], 0), (33, 1, .iload_n 3, [], 0), (34, 1, .idiv, [], 0), (35, 1, .ireturn, [0], 0)]
set_option maxRecDepth 20000 in
theorem b193_27 : z_blk 193 27 36 B193_27 = true := by decide +kernel
def B193_36 : List zOp := [(36, 1, .iload_n 1, [], 0), (37, 2, .bipush 6, [], 0), (39, 3, .if_icmp .ne 14, [53], 0), (42, 1, .iload_n 2, [], 0), (43, 1, .iload_n 3, [], 0), (44, 3, .if_icmp .ge 7, [51], 0), (47, 1, .iconst 1, [], 0), (48, 3, .goto 4, [52], 0)]
set_option maxRecDepth 20000 in
theorem b193_36 : z_blk 193 36 51 B193_36 = true := by decide +kernel
def B193_51 : List zOp := [(51, 1, .iconst 0, [], 0)]
set_option maxRecDepth 20000 in
theorem b193_51 : z_blk 193 51 52 B193_51 = true := by decide +kernel
def B193_52 : List zOp := [(52, 1, .ireturn, [0], 0)]
set_option maxRecDepth 20000 in
theorem b193_52 : z_blk 193 52 53 B193_52 = true := by decide +kernel
def B193_53 : List zOp := [(53, 1, .iload_n 1, [], 0), (54, 2, .bipush 7, [], 0), (56, 3, .if_icmp .ne 14, [70], 0), (59, 1, .iload_n 2, [], 0), (60, 1, .iload_n 3, [], 0), (61, 3, .if_icmp .ne 7, [68], 0), (64, 1, .iconst 1, [], 0), (65, 3, .goto 4, [69], 0)]
set_option maxRecDepth 20000 in
theorem b193_53 : z_blk 193 53 68 B193_53 = true := by decide +kernel
def B193_68 : List zOp := [(68, 1, .iconst 0, [], 0)]
set_option maxRecDepth 20000 in
theorem b193_68 : z_blk 193 68 69 B193_68 = true := by decide +kernel
def B193_69 : List zOp := [(69, 1, .ireturn, [0], 0)]
set_option maxRecDepth 20000 in
theorem b193_69 : z_blk 193 69 70 B193_69 = true := by decide +kernel
def B193_70 : List zOp := [(70, 1, .iload_n 2, [], 0), (71, 1, .iload_n 3, [], 0), (72, 3, .if_icmp .le 7, [79], 0), (75, 1, .iconst 1, [], 0), (76, 3, .goto 4, [80], 0)]
set_option maxRecDepth 20000 in
theorem b193_70 : z_blk 193 70 79 B193_70 = true := by decide +kernel
def B193_79 : List zOp := [(79, 1, .iconst 0, [], 0)]
set_option maxRecDepth 20000 in
theorem b193_79 : z_blk 193 79 80 B193_79 = true := by decide +kernel
def B193_80 : List zOp := [(80, 1, .ireturn, [0], 0)]
set_option maxRecDepth 20000 in
theorem b193_80 : z_blk 193 80 81 B193_80 = true := by decide +kernel
-- 194 yX11_both
def B194_0 : List zOp := [(0, 1, .iload_n 1, [], 0), (1, 3, .ifCond .eq 7, [8], 0), (4, 1, .iload_n 2, [], 0), (5, 3, .ifCond .ne 7, [12], 0)]
set_option maxRecDepth 20000 in
theorem b194_0 : z_blk 194 0 8 B194_0 = true := by decide +kernel
def B194_8 : List zOp := [(8, 1, .iconst 0, [], 0), (9, 3, .goto 18, [27], 0)]
set_option maxRecDepth 20000 in
theorem b194_8 : z_blk 194 8 12 B194_8 = true := by decide +kernel
def B194_12 : List zOp := [(12, 1, .iload_n 1, [], 0), (13, 1, .iconst 2, [], 0), (14, 3, .if_icmp .eq 8, [22], 0), (17, 1, .iload_n 2, [], 0), (18, 1, .iconst 2, [], 0), (19, 3, .if_icmp .ne 7, [26], 0)]
set_option maxRecDepth 20000 in
theorem b194_12 : z_blk 194 12 22 B194_12 = true := by decide +kernel
def B194_22 : List zOp := [(22, 1, .iconst 2, [], 0), (23, 3, .goto 4, [27], 0)]
set_option maxRecDepth 20000 in
theorem b194_22 : z_blk 194 22 26 B194_22 = true := by decide +kernel
def B194_26 : List zOp := [(26, 1, .iconst 1, [], 0)]
set_option maxRecDepth 20000 in
theorem b194_26 : z_blk 194 26 27 B194_26 = true := by decide +kernel
def B194_27 : List zOp := [(27, 1, .ireturn, [0], 0)]
set_option maxRecDepth 20000 in
theorem b194_27 : z_blk 194 27 28 B194_27 = true := by decide +kernel
-- 195 yX11_either
def B195_0 : List zOp := [(0, 1, .iload_n 1, [], 0), (1, 1, .iconst 1, [], 0), (2, 3, .if_icmp .eq 8, [10], 0), (5, 1, .iload_n 2, [], 0), (6, 1, .iconst 1, [], 0), (7, 3, .if_icmp .ne 7, [14], 0)]
set_option maxRecDepth 20000 in
theorem b195_0 : z_blk 195 0 10 B195_0 = true := by decide +kernel
def B195_10 : List zOp := [(10, 1, .iconst 1, [], 0), (11, 3, .goto 18, [29], 0)]
set_option maxRecDepth 20000 in
theorem b195_10 : z_blk 195 10 14 B195_10 = true := by decide +kernel
def B195_14 : List zOp := [(14, 1, .iload_n 1, [], 0), (15, 1, .iconst 2, [], 0), (16, 3, .if_icmp .eq 8, [24], 0), (19, 1, .iload_n 2, [], 0), (20, 1, .iconst 2, [], 0), (21, 3, .if_icmp .ne 7, [28], 0)]
set_option maxRecDepth 20000 in
theorem b195_14 : z_blk 195 14 24 B195_14 = true := by decide +kernel
def B195_24 : List zOp := [(24, 1, .iconst 2, [], 0), (25, 3, .goto 4, [29], 0)]
set_option maxRecDepth 20000 in
theorem b195_24 : z_blk 195 24 28 B195_24 = true := by decide +kernel
def B195_28 : List zOp := [(28, 1, .iconst 0, [], 0)]
set_option maxRecDepth 20000 in
theorem b195_28 : z_blk 195 28 29 B195_28 = true := by decide +kernel
def B195_29 : List zOp := [(29, 1, .ireturn, [0], 0)]
set_option maxRecDepth 20000 in
theorem b195_29 : z_blk 195 29 30 B195_29 = true := by decide +kernel
-- 196 yX11_markOf
def B196_0 : List zOp := [(0, 1, .iconst 0, [], 0), (1, 2, .istore 5, [], 0), (3, 1, .aload_n 0, [], 0), (4, 3, .getfield 35, [11, 18, 2], 0), (7, 1, .iload_n 1, [], 0), (8, 1, .iaload, [], 0), (9, 2, .istore 6, [], 0)]
set_option maxRecDepth 20000 in
theorem b196_0 : z_blk 196 0 11 B196_0 = true := by decide +kernel
def B196_11 : List zOp := [(11, 2, .iload 6, [], 0), (13, 1, .aload_n 0, [], 0), (14, 3, .getfield 38, [11, 19, 2], 0), (17, 1, .iload_n 1, [], 0), (18, 1, .iaload, [], 0), (19, 3, .if_icmp .ge 358, [377], 0), (22, 1, .aload_n 0, [], 0), (23, 3, .getfield 41, [11, 20, 2], 0), (26, 2, .iload 6, [], 0), (28, 1, .iaload, [], 0), (29, 2, .istore 7, [], 0), (31, 2, .iload 7, [], 0), (33, 3, .ifCond .eq 16, [49], 0), (36, 2, .iload 7, [], 0), (38, 1, .iconst 1, [], 0), (39, 3, .if_icmp .eq 10, [49], 0), (42, 2, .iload 7, [], 0), (44, 2, .bipush 12, [], 0), (46, 3, .if_icmp .ne 98, [144], 0)]
set_option maxRecDepth 20000 in
theorem b196_11 : z_blk 196 11 49 B196_11 = true := by decide +kernel
def B196_49 : List zOp := [(49, 2, .iload 7, [], 0), (51, 3, .ifCond .ne 13, [64], 0), (54, 1, .aload_n 0, [], 0), (55, 3, .getfield 44, [11, 21, 2], 0), (58, 2, .iload 6, [], 0), (60, 1, .iaload, [], 0), (61, 3, .goto 18, [79], 0)]
set_option maxRecDepth 20000 in
theorem b196_49 : z_blk 196 49 64 B196_49 = true := by decide +kernel
def B196_64 : List zOp := [(64, 1, .aload_n 0, [], 0), (65, 1, .iload_n 3, [], 0), (66, 1, .iload_n 2, [], 0), (67, 1, .aload_n 0, [], 0), (68, 3, .getfield 44, [11, 21, 2], 0), (71, 2, .iload 6, [], 0), (73, 1, .iaload, [], 0), (74, 2, .iload 4, [], 0), (76, 3, .invokevirtual 140, [167, 4, 11], 0)]
set_option maxRecDepth 20000 in
theorem b196_64 : z_blk 196 64 79 B196_64 = true := by decide +kernel
def B196_79 : List zOp := [(79, 2, .istore 8, [], 0), (81, 1, .aload_n 0, [], 0), (82, 3, .getfield 53, [11, 30, 2], 0), (85, 2, .iload 5, [], 0), (87, 2, .iload 7, [], 0), (89, 2, .bipush 12, [], 0), (91, 3, .if_icmp .ne 17, [108], 0), (94, 2, .iload 8, [], 0), (96, 1, .iconst (-1), [], 0), (97, 3, .if_icmp .ne 7, [104], 0), (100, 1, .iconst 0, [], 0), (101, 3, .goto 9, [110], 0)]
set_option maxRecDepth 20000 in
theorem b196_79 : z_blk 196 79 104 B196_79 = true := by decide +kernel
def B196_104 : List zOp := [(104, 1, .iconst 1, [], 0), (105, 3, .goto 5, [110], 0)]
set_option maxRecDepth 20000 in
theorem b196_104 : z_blk 196 104 108 B196_104 = true := by decide +kernel
def B196_108 : List zOp := [(108, 2, .iload 8, [], 0)]
set_option maxRecDepth 20000 in
theorem b196_108 : z_blk 196 108 110 B196_108 = true := by decide +kernel
def B196_110 : List zOp := [(110, 1, .iastore, [], 0), (111, 1, .aload_n 0, [], 0), (112, 3, .getfield 56, [11, 31, 2], 0), (115, 2, .iload 5, [], 0), (117, 2, .iload 7, [], 0), (119, 1, .iconst 1, [], 0), (120, 3, .if_icmp .ne 9, [129], 0), (123, 2, .iload 8, [], 0), (125, 1, .iconst (-1), [], 0), (126, 3, .if_icmp .eq 7, [133], 0)]
set_option maxRecDepth 20000 in
theorem b196_110 : z_blk 196 110 129 B196_110 = true := by decide +kernel
def B196_129 : List zOp := [(129, 1, .iconst 1, [], 0), (130, 3, .goto 4, [134], 0)]
set_option maxRecDepth 20000 in
theorem b196_129 : z_blk 196 129 133 B196_129 = true := by decide +kernel
def B196_133 : List zOp := [(133, 1, .iconst 0, [], 0)]
set_option maxRecDepth 20000 in
theorem b196_133 : z_blk 196 133 134 B196_133 = true := by decide +kernel
def B196_134 : List zOp := [(134, 1, .bastore, [], 0), (135, 2, .iload 5, [], 0), (137, 1, .iconst 1, [], 0), (138, 1, .iadd, [], 0), (139, 2, .istore 5, [], 0), (141, 3, .goto 230, [371], 0)]
set_option maxRecDepth 20000 in
theorem b196_134 : z_blk 196 134 144 B196_134 = true := by decide +kernel
def B196_144 : List zOp := [(144, 2, .iload 7, [], 0), (146, 2, .bipush 9, [], 0), (148, 3, .if_icmp .ne 39, [187], 0), (151, 1, .aload_n 0, [], 0), (152, 3, .getfield 53, [11, 30, 2], 0), (155, 2, .iload 5, [], 0), (157, 1, .iconst 1, [], 0), (158, 1, .isub, [], 0), (159, 1, .iaload, [], 0), (160, 1, .iconst 2, [], 0), (161, 3, .if_icmp .ge 210, [371], 0), (164, 1, .aload_n 0, [], 0), (165, 3, .getfield 53, [11, 30, 2], 0), (168, 2, .iload 5, [], 0), (170, 1, .iconst 1, [], 0), (171, 1, .isub, [], 0), (172, 1, .iconst 1, [], 0), (173, 1, .aload_n 0, [], 0), (174, 3, .getfield 53, [11, 30, 2], 0), (177, 2, .iload 5, [], 0), (179, 1, .iconst 1, [], 0), (180, 1, .isub, [], 0), (181, 1, .iaload, [], 0), (182, 1, .isub, [], 0), (183, 1, .iastore, [], 0), (184, 3, .goto 187, [371], 0)]
set_option maxRecDepth 20000 in
theorem b196_144 : z_blk 196 144 187 B196_144 = true := by decide +kernel
def B196_187 : List zOp := [(187, 2, .iload 7, [], 0), (189, 2, .bipush 10, [], 0), (191, 3, .if_icmp .eq 10, [201], 0), (194, 2, .iload 7, [], 0), (196, 2, .bipush 11, [], 0), (198, 3, .if_icmp .ne 71, [269], 0)]
set_option maxRecDepth 20000 in
theorem b196_187 : z_blk 196 187 201 B196_187 = true := by decide +kernel
def B196_201 : List zOp := [(201, 2, .iload 5, [], 0), (203, 1, .iconst 1, [], 0), (204, 1, .isub, [], 0), (205, 2, .istore 5, [], 0), (207, 1, .aload_n 0, [], 0), (208, 3, .getfield 53, [11, 30, 2], 0), (211, 2, .iload 5, [], 0), (213, 1, .iconst 1, [], 0), (214, 1, .isub, [], 0), (215, 2, .iload 7, [], 0), (217, 2, .bipush 10, [], 0), (219, 3, .if_icmp .ne 26, [245], 0), (222, 1, .aload_n 0, [], 0), (223, 1, .aload_n 0, [], 0), (224, 3, .getfield 53, [11, 30, 2], 0), (227, 2, .iload 5, [], 0), (229, 1, .iconst 1, [], 0), (230, 1, .isub, [], 0), (231, 1, .iaload, [], 0), (232, 1, .aload_n 0, [], 0), (233, 3, .getfield 53, [11, 30, 2], 0), (236, 2, .iload 5, [], 0), (238, 1, .iaload, [], 0), (239, 3, .invokevirtual 245, [194, 2, 11], 0), (242, 3, .goto 23, [265], 0)]
set_option maxRecDepth 20000 in
theorem b196_201 : z_blk 196 201 245 B196_201 = true := by decide +kernel
def B196_245 : List zOp := [(245, 1, .aload_n 0, [], 0), (246, 1, .aload_n 0, [], 0), (247, 3, .getfield 53, [11, 30, 2], 0), (250, 2, .iload 5, [], 0), (252, 1, .iconst 1, [], 0), (253, 1, .isub, [], 0), (254, 1, .iaload, [], 0), (255, 1, .aload_n 0, [], 0), (256, 3, .getfield 53, [11, 30, 2], 0), (259, 2, .iload 5, [], 0), (261, 1, .iaload, [], 0), (262, 3, .invokevirtual 248, [195, 2, 11], 0)]
set_option maxRecDepth 20000 in
theorem b196_245 : z_blk 196 245 265 B196_245 = true := by decide +kernel
def B196_265 : List zOp := [(265, 1, .iastore, [], 0), (266, 3, .goto 105, [371], 0)]
set_option maxRecDepth 20000 in
theorem b196_265 : z_blk 196 265 269 B196_265 = true := by decide +kernel
def B196_269 : List zOp := [(269, 2, .iload 5, [], 0), (271, 1, .iconst 1, [], 0), (272, 1, .isub, [], 0), (273, 2, .istore 5, [], 0), (275, 1, .aload_n 0, [], 0), (276, 3, .getfield 56, [11, 31, 2], 0), (279, 2, .iload 5, [], 0), (281, 1, .iconst 1, [], 0), (282, 1, .isub, [], 0), (283, 1, .aload_n 0, [], 0), (284, 3, .getfield 56, [11, 31, 2], 0), (287, 2, .iload 5, [], 0), (289, 1, .iconst 1, [], 0), (290, 1, .isub, [], 0), (291, 1, .baload, [], 0), (292, 3, .ifCond .eq 17, [309], 0), (295, 1, .aload_n 0, [], 0), (296, 3, .getfield 56, [11, 31, 2], 0), (299, 2, .iload 5, [], 0), (301, 1, .baload, [], 0), (302, 3, .ifCond .eq 7, [309], 0), (305, 1, .iconst 1, [], 0), (306, 3, .goto 4, [310], 0)]
set_option maxRecDepth 20000 in
theorem b196_269 : z_blk 196 269 309 B196_269 = true := by decide +kernel
def B196_309 : List zOp := [(309, 1, .iconst 0, [], 0)]
set_option maxRecDepth 20000 in
theorem b196_309 : z_blk 196 309 310 B196_309 = true := by decide +kernel
def B196_310 : List zOp := [(310, 1, .bastore, [], 0), (311, 1, .aload_n 0, [], 0), (312, 3, .getfield 53, [11, 30, 2], 0), (315, 2, .iload 5, [], 0), (317, 1, .iconst 1, [], 0), (318, 1, .isub, [], 0), (319, 1, .aload_n 0, [], 0), (320, 2, .iload 7, [], 0), (322, 1, .aload_n 0, [], 0), (323, 3, .getfield 53, [11, 30, 2], 0), (326, 2, .iload 5, [], 0), (328, 1, .iconst 1, [], 0), (329, 1, .isub, [], 0), (330, 1, .iaload, [], 0), (331, 1, .aload_n 0, [], 0), (332, 3, .getfield 53, [11, 30, 2], 0), (335, 2, .iload 5, [], 0), (337, 1, .iaload, [], 0), (338, 3, .invokevirtual 251, [193, 3, 11], 0), (341, 1, .iastore, [], 0), (342, 2, .iload 7, [], 0), (344, 2, .bipush 6, [], 0), (346, 3, .if_icmp .lt 25, [371], 0), (349, 1, .aload_n 0, [], 0), (350, 3, .getfield 56, [11, 31, 2], 0), (353, 2, .iload 5, [], 0), (355, 1, .iconst 1, [], 0), (356, 1, .isub, [], 0), (357, 1, .baload, [], 0), (358, 3, .ifCond .ne 13, [371], 0), (361, 1, .aload_n 0, [], 0), (362, 3, .getfield 53, [11, 30, 2], 0), (365, 2, .iload 5, [], 0), (367, 1, .iconst 1, [], 0), (368, 1, .isub, [], 0), (369, 1, .iconst 2, [], 0), (370, 1, .iastore, [], 0)]
set_option maxRecDepth 20000 in
theorem b196_310 : z_blk 196 310 371 B196_310 = true := by decide +kernel
def B196_371 : List zOp := [(371, 3, .iinc 6 1, [], 0), (374, 3, .goto (-363), [11], 0)]
set_option maxRecDepth 20000 in
theorem b196_371 : z_blk 196 371 377 B196_371 = true := by decide +kernel
def B196_377 : List zOp := [(377, 1, .aload_n 0, [], 0), (378, 3, .getfield 53, [11, 30, 2], 0), (381, 1, .iconst 0, [], 0), (382, 1, .iaload, [], 0), (383, 1, .ireturn, [0], 0)]
set_option maxRecDepth 20000 in
theorem b196_377 : z_blk 196 377 384 B196_377 = true := by decide +kernel
-- 197 yX11_mark
def B197_0 : List zOp := [(0, 1, .aload_n 0, [], 0), (1, 1, .iconst 0, [], 0), (2, 3, .putfield 113, [11, 0, 0], 0), (5, 1, .aload_n 0, [], 0), (6, 1, .iload_n 1, [], 0), (7, 3, .invokevirtual 123, [161, 1, 11], 0), (10, 3, .ifCond .eq 35, [45], 0), (13, 1, .aload_n 0, [], 0), (14, 1, .iload_n 2, [], 0), (15, 1, .iconst 0, [], 0), (16, 1, .aload_n 0, [], 0), (17, 3, .getfield 242, [11, 17, 0], 0), (20, 1, .iconst 1, [], 0), (21, 1, .isub, [], 0), (22, 3, .invokevirtual 119, [160, 3, 11], 0), (25, 3, .ifCond .eq 20, [45], 0), (28, 1, .aload_n 0, [], 0), (29, 1, .iload_n 2, [], 0), (30, 1, .iload_n 1, [], 0), (31, 1, .aload_n 0, [], 0), (32, 3, .getfield 133, [11, 8, 0], 0), (35, 1, .aload_n 0, [], 0), (36, 3, .getfield 25, [11, 9, 0], 0), (39, 3, .invokevirtual 255, [196, 4, 11], 0), (42, 3, .goto 4, [46], 0)]
set_option maxRecDepth 20000 in
theorem b197_0 : z_blk 197 0 45 B197_0 = true := by decide +kernel
def B197_45 : List zOp := [(45, 1, .iconst (-1), [], 0)]
set_option maxRecDepth 20000 in
theorem b197_45 : z_blk 197 45 46 B197_45 = true := by decide +kernel
def B197_46 : List zOp := [(46, 1, .ireturn, [0], 0)]
set_option maxRecDepth 20000 in
theorem b197_46 : z_blk 197 46 47 B197_46 = true := by decide +kernel
-- 198 yX11_findRows
def B198_0 : List zOp := [(0, 1, .iconst 0, [], 0), (1, 1, .istore_n 2, [], 0)]
set_option maxRecDepth 20000 in
theorem b198_0 : z_blk 198 0 2 B198_0 = true := by decide +kernel
def B198_2 : List zOp := [(2, 1, .iload_n 2, [], 0), (3, 1, .aload_n 0, [], 0), (4, 3, .getfield 116, [11, 1, 0], 0), (7, 3, .if_icmp .ge 81, [88], 0), (10, 1, .aload_n 0, [], 0), (11, 3, .getfield 60, [11, 32, 2], 0), (14, 1, .iload_n 2, [], 0), (15, 1, .iconst 0, [], 0), (16, 1, .iastore, [], 0), (17, 1, .iconst 0, [], 0), (18, 1, .istore_n 3, [], 0)]
set_option maxRecDepth 20000 in
theorem b198_2 : z_blk 198 2 19 B198_2 = true := by decide +kernel
def B198_19 : List zOp := [(19, 1, .iload_n 3, [], 0), (20, 1, .aload_n 0, [], 0), (21, 3, .getfield 242, [11, 17, 0], 0), (24, 3, .if_icmp .ge 58, [82], 0), (27, 1, .aload_n 0, [], 0), (28, 1, .iload_n 3, [], 0), (29, 1, .iload_n 2, [], 0), (30, 1, .aload_n 0, [], 0), (31, 3, .getfield 133, [11, 8, 0], 0), (34, 1, .aload_n 0, [], 0), (35, 3, .getfield 25, [11, 9, 0], 0), (38, 3, .invokevirtual 255, [196, 4, 11], 0), (41, 2, .istore 4, [], 0), (43, 2, .iload 4, [], 0), (45, 1, .iconst 1, [], 0), (46, 3, .if_icmp .eq 14, [60], 0), (49, 2, .iload 4, [], 0), (51, 1, .iconst 2, [], 0), (52, 3, .if_icmp .ne 24, [76], 0), (55, 1, .iload_n 1, [], 0), (56, 1, .iconst 1, [], 0), (57, 3, .if_icmp .ne 19, [76], 0)]
set_option maxRecDepth 20000 in
theorem b198_19 : z_blk 198 19 60 B198_19 = true := by decide +kernel
def B198_60 : List zOp := [(60, 1, .aload_n 0, [], 0), (61, 3, .getfield 60, [11, 32, 2], 0), (64, 1, .iload_n 2, [], 0), (65, 1, .aload_n 0, [], 0), (66, 3, .getfield 60, [11, 32, 2], 0), (69, 1, .iload_n 2, [], 0), (70, 1, .iaload, [], 0), (71, 1, .iconst 1, [], 0), (72, 1, .iload_n 3, [], 0), (73, 1, .ishl, [], 0), (74, 1, .ior, [], 0), (75, 1, .iastore, [], 0)]
set_option maxRecDepth 20000 in
theorem b198_60 : z_blk 198 60 76 B198_60 = true := by decide +kernel
def B198_76 : List zOp := [(76, 3, .iinc 3 1, [], 0), (79, 3, .goto (-60), [19], 0)]
set_option maxRecDepth 20000 in
theorem b198_76 : z_blk 198 76 82 B198_76 = true := by decide +kernel
def B198_82 : List zOp := [(82, 3, .iinc 2 1, [], 0), (85, 3, .goto (-83), [2], 0)]
set_option maxRecDepth 20000 in
theorem b198_82 : z_blk 198 82 88 B198_82 = true := by decide +kernel
def B198_88 : List zOp := [(88, 1, .return_, [], 0)]
set_option maxRecDepth 20000 in
theorem b198_88 : z_blk 198 88 89 B198_88 = true := by decide +kernel
-- 199 yX11_isMode
def B199_0 : List zOp := [(0, 1, .iload_n 1, [], 0), (1, 3, .ifCond .eq 8, [9], 0), (4, 1, .iload_n 1, [], 0), (5, 1, .iconst 1, [], 0), (6, 3, .if_icmp .ne 7, [13], 0)]
set_option maxRecDepth 20000 in
theorem b199_0 : z_blk 199 0 9 B199_0 = true := by decide +kernel
def B199_9 : List zOp := [(9, 1, .iconst 1, [], 0), (10, 3, .goto 4, [14], 0)]
set_option maxRecDepth 20000 in
theorem b199_9 : z_blk 199 9 13 B199_9 = true := by decide +kernel
def B199_13 : List zOp := [(13, 1, .iconst 0, [], 0)]
set_option maxRecDepth 20000 in
theorem b199_13 : z_blk 199 13 14 B199_13 = true := by decide +kernel
def B199_14 : List zOp := [(14, 1, .ireturn, [3], 0)]
set_option maxRecDepth 20000 in
theorem b199_14 : z_blk 199 14 15 B199_14 = true := by decide +kernel
-- 200 yX11_isMarks
def B200_0 : List zOp := [(0, 1, .iload_n 1, [], 0), (1, 3, .ifCond .lt 17, [18], 0), (4, 1, .iload_n 1, [], 0), (5, 1, .iconst 1, [], 0), (6, 1, .aload_n 0, [], 0), (7, 3, .getfield 242, [11, 17, 0], 0), (10, 1, .ishl, [], 0), (11, 3, .if_icmp .ge 7, [18], 0), (14, 1, .iconst 1, [], 0), (15, 3, .goto 4, [19], 0)]
set_option maxRecDepth 20000 in
theorem b200_0 : z_blk 200 0 18 B200_0 = true := by decide +kernel
def B200_18 : List zOp := [(18, 1, .iconst 0, [], 0)]
set_option maxRecDepth 20000 in
theorem b200_18 : z_blk 200 18 19 B200_18 = true := by decide +kernel
def B200_19 : List zOp := [(19, 1, .ireturn, [3], 0)]
set_option maxRecDepth 20000 in
theorem b200_19 : z_blk 200 19 20 B200_19 = true := by decide +kernel
-- 201 yX11_isFinds
def B201_0 : List zOp := [(0, 1, .iload_n 1, [], 0), (1, 3, .ifCond .lt 17, [18], 0), (4, 1, .iload_n 1, [], 0), (5, 1, .iconst 1, [], 0), (6, 1, .aload_n 0, [], 0), (7, 3, .getfield 116, [11, 1, 0], 0), (10, 1, .ishl, [], 0), (11, 3, .if_icmp .ge 7, [18], 0), (14, 1, .iconst 1, [], 0), (15, 3, .goto 4, [19], 0)]
set_option maxRecDepth 20000 in
theorem b201_0 : z_blk 201 0 18 B201_0 = true := by decide +kernel
def B201_18 : List zOp := [(18, 1, .iconst 0, [], 0)]
set_option maxRecDepth 20000 in
theorem b201_18 : z_blk 201 18 19 B201_18 = true := by decide +kernel
def B201_19 : List zOp := [(19, 1, .ireturn, [3], 0)]
set_option maxRecDepth 20000 in
theorem b201_19 : z_blk 201 19 20 B201_19 = true := by decide +kernel
-- 202 yX11_row
def B202_0 : List zOp := [(0, 1, .aload_n 0, [], 0), (1, 1, .iconst 0, [], 0), (2, 3, .putfield 113, [11, 0, 0], 0), (5, 1, .aload_n 0, [], 0), (6, 1, .iload_n 1, [], 0), (7, 3, .invokevirtual 123, [161, 1, 11], 0), (10, 3, .ifCond .eq 11, [21], 0), (13, 1, .aload_n 0, [], 0), (14, 1, .iload_n 2, [], 0), (15, 3, .invokevirtual 258, [199, 1, 11], 0), (18, 3, .ifCond .ne 5, [23], 0)]
set_option maxRecDepth 20000 in
theorem b202_0 : z_blk 202 0 21 B202_0 = true := by decide +kernel
def B202_21 : List zOp := [(21, 1, .iconst (-1), [], 0), (22, 1, .ireturn, [0], 0)]
set_option maxRecDepth 20000 in
theorem b202_21 : z_blk 202 21 23 B202_21 = true := by decide +kernel
def B202_23 : List zOp := [(23, 1, .aload_n 0, [], 0), (24, 1, .iload_n 2, [], 0), (25, 3, .invokevirtual 261, [198, 1, 11], 0), (28, 1, .aload_n 0, [], 0), (29, 3, .getfield 60, [11, 32, 2], 0), (32, 1, .iload_n 1, [], 0), (33, 1, .iaload, [], 0), (34, 1, .ireturn, [0], 0)]
set_option maxRecDepth 20000 in
theorem b202_23 : z_blk 202 23 35 B202_23 = true := by decide +kernel
-- 203 yX11_have
def B203_0 : List zOp := [(0, 1, .aload_n 0, [], 0), (1, 1, .iconst 0, [], 0), (2, 3, .putfield 113, [11, 0, 0], 0), (5, 1, .aload_n 0, [], 0), (6, 1, .iload_n 1, [], 0), (7, 3, .invokevirtual 264, [200, 1, 11], 0), (10, 3, .ifCond .eq 11, [21], 0), (13, 1, .aload_n 0, [], 0), (14, 1, .iload_n 2, [], 0), (15, 3, .invokevirtual 258, [199, 1, 11], 0), (18, 3, .ifCond .ne 5, [23], 0)]
set_option maxRecDepth 20000 in
theorem b203_0 : z_blk 203 0 21 B203_0 = true := by decide +kernel
def B203_21 : List zOp := [(21, 1, .iconst (-1), [], 0), (22, 1, .ireturn, [0], 0)]
set_option maxRecDepth 20000 in
theorem b203_21 : z_blk 203 21 23 B203_21 = true := by decide +kernel
def B203_23 : List zOp := [(23, 1, .aload_n 0, [], 0), (24, 1, .iload_n 2, [], 0), (25, 3, .invokevirtual 261, [198, 1, 11], 0), (28, 1, .iconst 0, [], 0), (29, 1, .istore_n 3, [], 0), (30, 1, .iconst 0, [], 0), (31, 2, .istore 4, [], 0)]
set_option maxRecDepth 20000 in
theorem b203_23 : z_blk 203 23 33 B203_23 = true := by decide +kernel
def B203_33 : List zOp := [(33, 2, .iload 4, [], 0), (35, 1, .aload_n 0, [], 0), (36, 3, .getfield 116, [11, 1, 0], 0), (39, 3, .if_icmp .ge 29, [68], 0), (42, 1, .aload_n 0, [], 0), (43, 3, .getfield 60, [11, 32, 2], 0), (46, 2, .iload 4, [], 0), (48, 1, .iaload, [], 0), (49, 1, .iload_n 1, [], 0), (50, 1, .iand, [], 0), (51, 1, .iload_n 1, [], 0), (52, 3, .if_icmp .ne 10, [62], 0), (55, 1, .iload_n 3, [], 0), (56, 1, .iconst 1, [], 0), (57, 2, .iload 4, [], 0), (59, 1, .ishl, [], 0), (60, 1, .ior, [], 0), (61, 1, .istore_n 3, [], 0)]
set_option maxRecDepth 20000 in
theorem b203_33 : z_blk 203 33 62 B203_33 = true := by decide +kernel
def B203_62 : List zOp := [(62, 3, .iinc 4 1, [], 0), (65, 3, .goto (-32), [33], 0)]
set_option maxRecDepth 20000 in
theorem b203_62 : z_blk 203 62 68 B203_62 = true := by decide +kernel
def B203_68 : List zOp := [(68, 1, .iload_n 3, [], 0), (69, 1, .ireturn, [0], 0)]
set_option maxRecDepth 20000 in
theorem b203_68 : z_blk 203 68 70 B203_68 = true := by decide +kernel
-- 204 yX11_closureOf
def B204_0 : List zOp := [(0, 1, .iconst 1, [], 0), (1, 1, .aload_n 0, [], 0), (2, 3, .getfield 242, [11, 17, 0], 0), (5, 1, .ishl, [], 0), (6, 1, .iconst 1, [], 0), (7, 1, .isub, [], 0), (8, 1, .istore_n 2, [], 0), (9, 1, .iconst 0, [], 0), (10, 1, .istore_n 3, [], 0)]
set_option maxRecDepth 20000 in
theorem b204_0 : z_blk 204 0 11 B204_0 = true := by decide +kernel
def B204_11 : List zOp := [(11, 1, .iload_n 3, [], 0), (12, 1, .aload_n 0, [], 0), (13, 3, .getfield 116, [11, 1, 0], 0), (16, 3, .if_icmp .ge 30, [46], 0), (19, 1, .aload_n 0, [], 0), (20, 3, .getfield 60, [11, 32, 2], 0), (23, 1, .iload_n 3, [], 0), (24, 1, .iaload, [], 0), (25, 1, .iload_n 1, [], 0), (26, 1, .iand, [], 0), (27, 1, .iload_n 1, [], 0), (28, 3, .if_icmp .ne 12, [40], 0), (31, 1, .iload_n 2, [], 0), (32, 1, .aload_n 0, [], 0), (33, 3, .getfield 60, [11, 32, 2], 0), (36, 1, .iload_n 3, [], 0), (37, 1, .iaload, [], 0), (38, 1, .iand, [], 0), (39, 1, .istore_n 2, [], 0)]
set_option maxRecDepth 20000 in
theorem b204_11 : z_blk 204 11 40 B204_11 = true := by decide +kernel
def B204_40 : List zOp := [(40, 3, .iinc 3 1, [], 0), (43, 3, .goto (-32), [11], 0)]
set_option maxRecDepth 20000 in
theorem b204_40 : z_blk 204 40 46 B204_40 = true := by decide +kernel
def B204_46 : List zOp := [(46, 1, .iload_n 2, [], 0), (47, 1, .ireturn, [0], 0)]
set_option maxRecDepth 20000 in
theorem b204_46 : z_blk 204 46 48 B204_46 = true := by decide +kernel
-- 205 yX11_close
def B205_0 : List zOp := [(0, 1, .aload_n 0, [], 0), (1, 1, .iconst 0, [], 0), (2, 3, .putfield 113, [11, 0, 0], 0), (5, 1, .aload_n 0, [], 0), (6, 1, .iload_n 1, [], 0), (7, 3, .invokevirtual 264, [200, 1, 11], 0), (10, 3, .ifCond .eq 11, [21], 0), (13, 1, .aload_n 0, [], 0), (14, 1, .iload_n 2, [], 0), (15, 3, .invokevirtual 258, [199, 1, 11], 0), (18, 3, .ifCond .ne 5, [23], 0)]
set_option maxRecDepth 20000 in
theorem b205_0 : z_blk 205 0 21 B205_0 = true := by decide +kernel
def B205_21 : List zOp := [(21, 1, .iconst (-1), [], 0), (22, 1, .ireturn, [0], 0)]
set_option maxRecDepth 20000 in
theorem b205_21 : z_blk 205 21 23 B205_21 = true := by decide +kernel
def B205_23 : List zOp := [(23, 1, .aload_n 0, [], 0), (24, 1, .iload_n 2, [], 0), (25, 3, .invokevirtual 261, [198, 1, 11], 0), (28, 1, .aload_n 0, [], 0), (29, 1, .iload_n 1, [], 0), (30, 3, .invokevirtual 267, [204, 1, 11], 0), (33, 1, .ireturn, [0], 0)]
set_option maxRecDepth 20000 in
theorem b205_23 : z_blk 205 23 34 B205_23 = true := by decide +kernel
-- 206 yX11_setAt
def B206_0 : List zOp := [(0, 1, .iconst 0, [], 0), (1, 1, .istore_n 3, [], 0), (2, 1, .iconst 0, [], 0), (3, 2, .istore 4, [], 0)]
set_option maxRecDepth 20000 in
theorem b206_0 : z_blk 206 0 5 B206_0 = true := by decide +kernel
def B206_5 : List zOp := [(5, 2, .iload 4, [], 0), (7, 1, .iload_n 2, [], 0), (8, 3, .if_icmp .ge 30, [38], 0), (11, 1, .iload_n 1, [], 0), (12, 1, .iload_n 2, [], 0), (13, 1, .iconst 1, [], 0), (14, 1, .isub, [], 0), (15, 2, .iload 4, [], 0), (17, 1, .isub, [], 0), (18, 1, .ishr, [], 0), (19, 1, .iconst 1, [], 0), (20, 1, .iand, [], 0), (21, 1, .iconst 1, [], 0), (22, 3, .if_icmp .ne 10, [32], 0), (25, 1, .iload_n 3, [], 0), (26, 1, .iconst 1, [], 0), (27, 2, .iload 4, [], 0), (29, 1, .ishl, [], 0), (30, 1, .ior, [], 0), (31, 1, .istore_n 3, [], 0)]
set_option maxRecDepth 20000 in
theorem b206_5 : z_blk 206 5 32 B206_5 = true := by decide +kernel
def B206_32 : List zOp := [(32, 3, .iinc 4 1, [], 0), (35, 3, .goto (-30), [5], 0)]
set_option maxRecDepth 20000 in
theorem b206_32 : z_blk 206 32 38 B206_32 = true := by decide +kernel
def B206_38 : List zOp := [(38, 1, .iload_n 3, [], 0), (39, 1, .ireturn, [0], 0)]
set_option maxRecDepth 20000 in
theorem b206_38 : z_blk 206 38 40 B206_38 = true := by decide +kernel
-- 207 yX11_findClosed
def B207_0 : List zOp := [(0, 1, .aload_n 0, [], 0), (1, 1, .iload_n 1, [], 0), (2, 3, .invokevirtual 261, [198, 1, 11], 0), (5, 1, .aload_n 0, [], 0), (6, 1, .iconst 0, [], 0), (7, 3, .putfield 270, [11, 34, 0], 0), (10, 1, .iconst 0, [], 0), (11, 1, .istore_n 2, [], 0)]
set_option maxRecDepth 20000 in
theorem b207_0 : z_blk 207 0 12 B207_0 = true := by decide +kernel
def B207_12 : List zOp := [(12, 1, .iload_n 2, [], 0), (13, 1, .iconst 1, [], 0), (14, 1, .aload_n 0, [], 0), (15, 3, .getfield 242, [11, 17, 0], 0), (18, 1, .ishl, [], 0), (19, 3, .if_icmp .ge 51, [70], 0), (22, 1, .aload_n 0, [], 0), (23, 1, .iload_n 2, [], 0), (24, 1, .aload_n 0, [], 0), (25, 3, .getfield 242, [11, 17, 0], 0), (28, 3, .invokevirtual 273, [206, 2, 11], 0), (31, 1, .istore_n 3, [], 0), (32, 1, .aload_n 0, [], 0), (33, 1, .iload_n 3, [], 0), (34, 3, .invokevirtual 267, [204, 1, 11], 0), (37, 1, .iload_n 3, [], 0), (38, 3, .if_icmp .eq 6, [44], 0), (41, 3, .goto 23, [64], 0)]
set_option maxRecDepth 20000 in
theorem b207_12 : z_blk 207 12 44 B207_12 = true := by decide +kernel
def B207_44 : List zOp := [(44, 1, .aload_n 0, [], 0), (45, 3, .getfield 63, [11, 33, 2], 0), (48, 1, .aload_n 0, [], 0), (49, 3, .getfield 270, [11, 34, 0], 0), (52, 1, .iload_n 3, [], 0), (53, 1, .iastore, [], 0), (54, 1, .aload_n 0, [], 0), (55, 1, .aload_n 0, [], 0), (56, 3, .getfield 270, [11, 34, 0], 0), (59, 1, .iconst 1, [], 0), (60, 1, .iadd, [], 0), (61, 3, .putfield 270, [11, 34, 0], 0)]
set_option maxRecDepth 20000 in
theorem b207_44 : z_blk 207 44 64 B207_44 = true := by decide +kernel
def B207_64 : List zOp := [(64, 3, .iinc 2 1, [], 0), (67, 3, .goto (-55), [12], 0)]
set_option maxRecDepth 20000 in
theorem b207_64 : z_blk 207 64 70 B207_64 = true := by decide +kernel
def B207_70 : List zOp := [(70, 1, .return_, [], 0)]
set_option maxRecDepth 20000 in
theorem b207_70 : z_blk 207 70 71 B207_70 = true := by decide +kernel
-- 208 yX11_concepts
def B208_0 : List zOp := [(0, 1, .aload_n 0, [], 0), (1, 1, .iconst 0, [], 0), (2, 3, .putfield 113, [11, 0, 0], 0), (5, 1, .aload_n 0, [], 0), (6, 1, .iload_n 1, [], 0), (7, 3, .invokevirtual 258, [199, 1, 11], 0), (10, 3, .ifCond .ne 5, [15], 0), (13, 1, .iconst (-1), [], 0), (14, 1, .ireturn, [0], 0)]
set_option maxRecDepth 20000 in
theorem b208_0 : z_blk 208 0 15 B208_0 = true := by decide +kernel
def B208_15 : List zOp := [(15, 1, .aload_n 0, [], 0), (16, 1, .iload_n 1, [], 0), (17, 3, .invokevirtual 276, [207, 1, 11], 0), (20, 1, .aload_n 0, [], 0), (21, 3, .getfield 270, [11, 34, 0], 0), (24, 1, .ireturn, [0], 0)]
set_option maxRecDepth 20000 in
theorem b208_15 : z_blk 208 15 25 B208_15 = true := by decide +kernel
-- 209 yX11_concept
def B209_0 : List zOp := [(0, 1, .aload_n 0, [], 0), (1, 1, .iconst 0, [], 0), (2, 3, .putfield 113, [11, 0, 0], 0), (5, 1, .aload_n 0, [], 0), (6, 1, .iload_n 1, [], 0), (7, 3, .invokevirtual 258, [199, 1, 11], 0), (10, 3, .ifCond .ne 5, [15], 0), (13, 1, .iconst (-1), [], 0), (14, 1, .ireturn, [0], 0)]
set_option maxRecDepth 20000 in
theorem b209_0 : z_blk 209 0 15 B209_0 = true := by decide +kernel
def B209_15 : List zOp := [(15, 1, .aload_n 0, [], 0), (16, 1, .iload_n 1, [], 0), (17, 3, .invokevirtual 276, [207, 1, 11], 0), (20, 1, .aload_n 0, [], 0), (21, 1, .iload_n 2, [], 0), (22, 1, .iconst 0, [], 0), (23, 1, .aload_n 0, [], 0), (24, 3, .getfield 270, [11, 34, 0], 0), (27, 1, .iconst 1, [], 0), (28, 1, .isub, [], 0), (29, 3, .invokevirtual 119, [160, 3, 11], 0), (32, 3, .ifCond .eq 12, [44], 0), (35, 1, .aload_n 0, [], 0), (36, 3, .getfield 63, [11, 33, 2], 0), (39, 1, .iload_n 2, [], 0), (40, 1, .iaload, [], 0), (41, 3, .goto 4, [45], 0)]
set_option maxRecDepth 20000 in
theorem b209_15 : z_blk 209 15 44 B209_15 = true := by decide +kernel
def B209_44 : List zOp := [(44, 1, .iconst (-1), [], 0)]
set_option maxRecDepth 20000 in
theorem b209_44 : z_blk 209 44 45 B209_44 = true := by decide +kernel
def B209_45 : List zOp := [(45, 1, .ireturn, [0], 0)]
set_option maxRecDepth 20000 in
theorem b209_45 : z_blk 209 45 46 B209_45 = true := by decide +kernel
-- 210 yX11_number
def B210_0 : List zOp := [(0, 1, .aload_n 0, [], 0), (1, 1, .iconst 0, [], 0), (2, 3, .putfield 113, [11, 0, 0], 0), (5, 1, .aload_n 0, [], 0), (6, 1, .iload_n 1, [], 0), (7, 3, .invokevirtual 258, [199, 1, 11], 0), (10, 3, .ifCond .eq 11, [21], 0), (13, 1, .aload_n 0, [], 0), (14, 1, .iload_n 2, [], 0), (15, 3, .invokevirtual 264, [200, 1, 11], 0), (18, 3, .ifCond .ne 5, [23], 0)]
set_option maxRecDepth 20000 in
theorem b210_0 : z_blk 210 0 21 B210_0 = true := by decide +kernel
def B210_21 : List zOp := [(21, 1, .iconst (-1), [], 0), (22, 1, .ireturn, [0], 0)]
set_option maxRecDepth 20000 in
theorem b210_21 : z_blk 210 21 23 B210_21 = true := by decide +kernel
def B210_23 : List zOp := [(23, 1, .aload_n 0, [], 0), (24, 1, .iload_n 1, [], 0), (25, 3, .invokevirtual 276, [207, 1, 11], 0), (28, 1, .iconst 0, [], 0), (29, 1, .istore_n 3, [], 0)]
set_option maxRecDepth 20000 in
theorem b210_23 : z_blk 210 23 30 B210_23 = true := by decide +kernel
def B210_30 : List zOp := [(30, 1, .iload_n 3, [], 0), (31, 1, .aload_n 0, [], 0), (32, 3, .getfield 270, [11, 34, 0], 0), (35, 3, .if_icmp .ge 21, [56], 0), (38, 1, .aload_n 0, [], 0), (39, 3, .getfield 63, [11, 33, 2], 0), (42, 1, .iload_n 3, [], 0), (43, 1, .iaload, [], 0), (44, 1, .iload_n 2, [], 0), (45, 3, .if_icmp .ne 5, [50], 0), (48, 1, .iload_n 3, [], 0), (49, 1, .ireturn, [0], 0)]
set_option maxRecDepth 20000 in
theorem b210_30 : z_blk 210 30 50 B210_30 = true := by decide +kernel
def B210_50 : List zOp := [(50, 3, .iinc 3 1, [], 0), (53, 3, .goto (-23), [30], 0)]
set_option maxRecDepth 20000 in
theorem b210_50 : z_blk 210 50 56 B210_50 = true := by decide +kernel
def B210_56 : List zOp := [(56, 1, .iconst (-1), [], 0), (57, 1, .ireturn, [0], 0)]
set_option maxRecDepth 20000 in
theorem b210_56 : z_blk 210 56 58 B210_56 = true := by decide +kernel
-- 211 yX11_findRules
def B211_0 : List zOp := [(0, 1, .aload_n 0, [], 0), (1, 1, .iload_n 1, [], 0), (2, 3, .invokevirtual 261, [198, 1, 11], 0), (5, 1, .aload_n 0, [], 0), (6, 1, .iconst 0, [], 0), (7, 3, .putfield 279, [11, 37, 0], 0), (10, 1, .iconst 0, [], 0), (11, 1, .istore_n 2, [], 0)]
set_option maxRecDepth 20000 in
theorem b211_0 : z_blk 211 0 12 B211_0 = true := by decide +kernel
def B211_12 : List zOp := [(12, 1, .iload_n 2, [], 0), (13, 1, .iconst 1, [], 0), (14, 1, .aload_n 0, [], 0), (15, 3, .getfield 242, [11, 17, 0], 0), (18, 1, .ishl, [], 0), (19, 3, .if_icmp .ge 142, [161], 0), (22, 1, .aload_n 0, [], 0), (23, 1, .iload_n 2, [], 0), (24, 1, .aload_n 0, [], 0), (25, 3, .getfield 242, [11, 17, 0], 0), (28, 3, .invokevirtual 273, [206, 2, 11], 0), (31, 1, .istore_n 3, [], 0), (32, 1, .aload_n 0, [], 0), (33, 1, .iload_n 3, [], 0), (34, 3, .invokevirtual 267, [204, 1, 11], 0), (37, 2, .istore 4, [], 0), (39, 2, .iload 4, [], 0), (41, 1, .iload_n 3, [], 0), (42, 3, .if_icmp .eq 7, [49], 0), (45, 1, .iconst 1, [], 0), (46, 3, .goto 4, [50], 0)]
set_option maxRecDepth 20000 in
theorem b211_12 : z_blk 211 12 49 B211_12 = true := by decide +kernel
def B211_49 : List zOp := [(49, 1, .iconst 0, [], 0)]
set_option maxRecDepth 20000 in
theorem b211_49 : z_blk 211 49 50 B211_49 = true := by decide +kernel
def B211_50 : List zOp := [(50, 2, .istore 5, [], 0), (52, 1, .iconst 0, [], 0), (53, 2, .istore 6, [], 0)]
set_option maxRecDepth 20000 in
theorem b211_50 : z_blk 211 50 55 B211_50 = true := by decide +kernel
def B211_55 : List zOp := [(55, 2, .iload 6, [], 0), (57, 1, .aload_n 0, [], 0), (58, 3, .getfield 279, [11, 37, 0], 0), (61, 3, .if_icmp .ge 55, [116], 0), (64, 2, .iload 5, [], 0), (66, 3, .ifCond .eq 50, [116], 0), (69, 1, .aload_n 0, [], 0), (70, 3, .getfield 66, [11, 35, 2], 0), (73, 2, .iload 6, [], 0), (75, 1, .iaload, [], 0), (76, 1, .iload_n 3, [], 0), (77, 1, .iand, [], 0), (78, 1, .aload_n 0, [], 0), (79, 3, .getfield 66, [11, 35, 2], 0), (82, 2, .iload 6, [], 0), (84, 1, .iaload, [], 0), (85, 3, .if_icmp .ne 25, [110], 0), (88, 1, .aload_n 0, [], 0), (89, 3, .getfield 69, [11, 36, 2], 0), (92, 2, .iload 6, [], 0), (94, 1, .iaload, [], 0), (95, 1, .iload_n 3, [], 0), (96, 1, .iand, [], 0), (97, 1, .aload_n 0, [], 0), (98, 3, .getfield 69, [11, 36, 2], 0), (101, 2, .iload 6, [], 0), (103, 1, .iaload, [], 0), (104, 3, .if_icmp .eq 6, [110], 0), (107, 1, .iconst 0, [], 0), (108, 2, .istore 5, [], 0)]
set_option maxRecDepth 20000 in
theorem b211_55 : z_blk 211 55 110 B211_55 = true := by decide +kernel
def B211_110 : List zOp := [(110, 3, .iinc 6 1, [], 0), (113, 3, .goto (-58), [55], 0)]
set_option maxRecDepth 20000 in
theorem b211_110 : z_blk 211 110 116 B211_110 = true := by decide +kernel
def B211_116 : List zOp := [(116, 2, .iload 5, [], 0), (118, 3, .ifCond .ne 6, [124], 0), (121, 3, .goto 34, [155], 0)]
set_option maxRecDepth 20000 in
theorem b211_116 : z_blk 211 116 124 B211_116 = true := by decide +kernel
def B211_124 : List zOp := [(124, 1, .aload_n 0, [], 0), (125, 3, .getfield 66, [11, 35, 2], 0), (128, 1, .aload_n 0, [], 0), (129, 3, .getfield 279, [11, 37, 0], 0), (132, 1, .iload_n 3, [], 0), (133, 1, .iastore, [], 0), (134, 1, .aload_n 0, [], 0), (135, 3, .getfield 69, [11, 36, 2], 0), (138, 1, .aload_n 0, [], 0), (139, 3, .getfield 279, [11, 37, 0], 0), (142, 2, .iload 4, [], 0), (144, 1, .iastore, [], 0), (145, 1, .aload_n 0, [], 0), (146, 1, .aload_n 0, [], 0), (147, 3, .getfield 279, [11, 37, 0], 0), (150, 1, .iconst 1, [], 0), (151, 1, .iadd, [], 0), (152, 3, .putfield 279, [11, 37, 0], 0)]
set_option maxRecDepth 20000 in
theorem b211_124 : z_blk 211 124 155 B211_124 = true := by decide +kernel
def B211_155 : List zOp := [(155, 3, .iinc 2 1, [], 0), (158, 3, .goto (-146), [12], 0)]
set_option maxRecDepth 20000 in
theorem b211_155 : z_blk 211 155 161 B211_155 = true := by decide +kernel
def B211_161 : List zOp := [(161, 1, .return_, [], 0)]
set_option maxRecDepth 20000 in
theorem b211_161 : z_blk 211 161 162 B211_161 = true := by decide +kernel
-- 212 yX11_rules
def B212_0 : List zOp := [(0, 1, .aload_n 0, [], 0), (1, 1, .iconst 0, [], 0), (2, 3, .putfield 113, [11, 0, 0], 0), (5, 1, .aload_n 0, [], 0), (6, 1, .iload_n 1, [], 0), (7, 3, .invokevirtual 258, [199, 1, 11], 0), (10, 3, .ifCond .ne 5, [15], 0), (13, 1, .iconst (-1), [], 0), (14, 1, .ireturn, [0], 0)]
set_option maxRecDepth 20000 in
theorem b212_0 : z_blk 212 0 15 B212_0 = true := by decide +kernel
def B212_15 : List zOp := [(15, 1, .aload_n 0, [], 0), (16, 1, .iload_n 1, [], 0), (17, 3, .invokevirtual 282, [211, 1, 11], 0), (20, 1, .aload_n 0, [], 0), (21, 3, .getfield 279, [11, 37, 0], 0), (24, 1, .ireturn, [0], 0)]
set_option maxRecDepth 20000 in
theorem b212_15 : z_blk 212 15 25 B212_15 = true := by decide +kernel
-- 213 yX11_rule
def B213_0 : List zOp := [(0, 1, .aload_n 0, [], 0), (1, 1, .iconst 0, [], 0), (2, 3, .putfield 113, [11, 0, 0], 0), (5, 1, .aload_n 0, [], 0), (6, 1, .iload_n 1, [], 0), (7, 3, .invokevirtual 258, [199, 1, 11], 0), (10, 3, .ifCond .eq 13, [23], 0), (13, 1, .aload_n 0, [], 0), (14, 1, .iload_n 3, [], 0), (15, 1, .iconst 0, [], 0), (16, 1, .iconst 1, [], 0), (17, 3, .invokevirtual 119, [160, 3, 11], 0), (20, 3, .ifCond .ne 5, [25], 0)]
set_option maxRecDepth 20000 in
theorem b213_0 : z_blk 213 0 23 B213_0 = true := by decide +kernel
def B213_23 : List zOp := [(23, 1, .iconst (-1), [], 0), (24, 1, .ireturn, [0], 0)]
set_option maxRecDepth 20000 in
theorem b213_23 : z_blk 213 23 25 B213_23 = true := by decide +kernel
def B213_25 : List zOp := [(25, 1, .aload_n 0, [], 0), (26, 1, .iload_n 1, [], 0), (27, 3, .invokevirtual 282, [211, 1, 11], 0), (30, 1, .aload_n 0, [], 0), (31, 1, .iload_n 2, [], 0), (32, 1, .iconst 0, [], 0), (33, 1, .aload_n 0, [], 0), (34, 3, .getfield 279, [11, 37, 0], 0), (37, 1, .iconst 1, [], 0), (38, 1, .isub, [], 0), (39, 3, .invokevirtual 119, [160, 3, 11], 0), (42, 3, .ifCond .ne 5, [47], 0), (45, 1, .iconst (-1), [], 0), (46, 1, .ireturn, [0], 0)]
set_option maxRecDepth 20000 in
theorem b213_25 : z_blk 213 25 47 B213_25 = true := by decide +kernel
def B213_47 : List zOp := [(47, 1, .iload_n 3, [], 0), (48, 3, .ifCond .ne 12, [60], 0), (51, 1, .aload_n 0, [], 0), (52, 3, .getfield 66, [11, 35, 2], 0), (55, 1, .iload_n 2, [], 0), (56, 1, .iaload, [], 0), (57, 3, .goto 9, [66], 0)]
set_option maxRecDepth 20000 in
theorem b213_47 : z_blk 213 47 60 B213_47 = true := by decide +kernel
def B213_60 : List zOp := [(60, 1, .aload_n 0, [], 0), (61, 3, .getfield 69, [11, 36, 2], 0), (64, 1, .iload_n 2, [], 0), (65, 1, .iaload, [], 0)]
set_option maxRecDepth 20000 in
theorem b213_60 : z_blk 213 60 66 B213_60 = true := by decide +kernel
def B213_66 : List zOp := [(66, 1, .ireturn, [0], 0)]
set_option maxRecDepth 20000 in
theorem b213_66 : z_blk 213 66 67 B213_66 = true := by decide +kernel
-- 214 yX11_follow
def B214_0 : List zOp := [(0, 1, .aload_n 0, [], 0), (1, 1, .iconst 0, [], 0), (2, 3, .putfield 113, [11, 0, 0], 0), (5, 1, .aload_n 0, [], 0), (6, 1, .iload_n 1, [], 0), (7, 3, .invokevirtual 258, [199, 1, 11], 0), (10, 3, .ifCond .eq 11, [21], 0), (13, 1, .aload_n 0, [], 0), (14, 1, .iload_n 2, [], 0), (15, 3, .invokevirtual 264, [200, 1, 11], 0), (18, 3, .ifCond .ne 5, [23], 0)]
set_option maxRecDepth 20000 in
theorem b214_0 : z_blk 214 0 21 B214_0 = true := by decide +kernel
def B214_21 : List zOp := [(21, 1, .iconst (-1), [], 0), (22, 1, .ireturn, [0], 0)]
set_option maxRecDepth 20000 in
theorem b214_21 : z_blk 214 21 23 B214_21 = true := by decide +kernel
def B214_23 : List zOp := [(23, 1, .aload_n 0, [], 0), (24, 1, .iload_n 1, [], 0), (25, 3, .invokevirtual 282, [211, 1, 11], 0), (28, 1, .iload_n 2, [], 0), (29, 2, .istore 4, [], 0), (31, 1, .iconst 0, [], 0), (32, 2, .istore 5, [], 0), (34, 1, .iconst (-1), [], 0), (35, 2, .istore 6, [], 0), (37, 1, .iconst 1, [], 0), (38, 2, .istore 7, [], 0)]
set_option maxRecDepth 20000 in
theorem b214_23 : z_blk 214 23 40 B214_23 = true := by decide +kernel
def B214_40 : List zOp := [(40, 2, .iload 7, [], 0), (42, 3, .ifCond .eq 109, [151], 0), (45, 1, .iconst 0, [], 0), (46, 2, .istore 7, [], 0), (48, 1, .iconst 0, [], 0), (49, 2, .istore 8, [], 0)]
set_option maxRecDepth 20000 in
theorem b214_40 : z_blk 214 40 51 B214_40 = true := by decide +kernel
def B214_51 : List zOp := [(51, 2, .iload 8, [], 0), (53, 1, .aload_n 0, [], 0), (54, 3, .getfield 279, [11, 37, 0], 0), (57, 3, .if_icmp .ge 91, [148], 0), (60, 2, .iload 7, [], 0), (62, 3, .ifCond .ne 86, [148], 0), (65, 1, .aload_n 0, [], 0), (66, 3, .getfield 66, [11, 35, 2], 0), (69, 2, .iload 8, [], 0), (71, 1, .iaload, [], 0), (72, 2, .iload 4, [], 0), (74, 1, .iand, [], 0), (75, 1, .aload_n 0, [], 0), (76, 3, .getfield 66, [11, 35, 2], 0), (79, 2, .iload 8, [], 0), (81, 1, .iaload, [], 0), (82, 3, .if_icmp .ne 60, [142], 0), (85, 1, .aload_n 0, [], 0), (86, 3, .getfield 69, [11, 36, 2], 0), (89, 2, .iload 8, [], 0), (91, 1, .iaload, [], 0), (92, 2, .iload 4, [], 0), (94, 1, .iand, [], 0), (95, 1, .aload_n 0, [], 0), (96, 3, .getfield 69, [11, 36, 2], 0), (99, 2, .iload 8, [], 0), (101, 1, .iaload, [], 0), (102, 3, .if_icmp .ne 6, [108], 0), (105, 3, .goto 37, [142], 0)]
set_option maxRecDepth 20000 in
theorem b214_51 : z_blk 214 51 108 B214_51 = true := by decide +kernel
def B214_108 : List zOp := [(108, 2, .iload 4, [], 0), (110, 1, .aload_n 0, [], 0), (111, 3, .getfield 69, [11, 36, 2], 0), (114, 2, .iload 8, [], 0), (116, 1, .iaload, [], 0), (117, 1, .ior, [], 0), (118, 2, .istore 4, [], 0), (120, 1, .iload_n 3, [], 0), (121, 2, .bipush 10, [], 0), (123, 2, .iload 5, [], 0), (125, 1, .iadd, [], 0), (126, 3, .if_icmp .ne 7, [133], 0), (129, 2, .iload 8, [], 0), (131, 2, .istore 6, [], 0)]
set_option maxRecDepth 20000 in
theorem b214_108 : z_blk 214 108 133 B214_108 = true := by decide +kernel
def B214_133 : List zOp := [(133, 2, .iload 5, [], 0), (135, 1, .iconst 1, [], 0), (136, 1, .iadd, [], 0), (137, 2, .istore 5, [], 0), (139, 1, .iconst 1, [], 0), (140, 2, .istore 7, [], 0)]
set_option maxRecDepth 20000 in
theorem b214_133 : z_blk 214 133 142 B214_133 = true := by decide +kernel
def B214_142 : List zOp := [(142, 3, .iinc 8 1, [], 0), (145, 3, .goto (-94), [51], 0)]
set_option maxRecDepth 20000 in
theorem b214_142 : z_blk 214 142 148 B214_142 = true := by decide +kernel
def B214_148 : List zOp := [(148, 3, .goto (-108), [40], 0)]
set_option maxRecDepth 20000 in
theorem b214_148 : z_blk 214 148 151 B214_148 = true := by decide +kernel
def B214_151 : List zOp := [(151, 1, .iload_n 3, [], 0), (152, 3, .ifCond .ne 8, [160], 0), (155, 2, .iload 4, [], 0), (157, 3, .goto 15, [172], 0)]
set_option maxRecDepth 20000 in
theorem b214_151 : z_blk 214 151 160 B214_151 = true := by decide +kernel
def B214_160 : List zOp := [(160, 1, .iload_n 3, [], 0), (161, 1, .iconst 1, [], 0), (162, 3, .if_icmp .ne 8, [170], 0), (165, 2, .iload 5, [], 0), (167, 3, .goto 5, [172], 0)]
set_option maxRecDepth 20000 in
theorem b214_160 : z_blk 214 160 170 B214_160 = true := by decide +kernel
def B214_170 : List zOp := [(170, 2, .iload 6, [], 0)]
set_option maxRecDepth 20000 in
theorem b214_170 : z_blk 214 170 172 B214_170 = true := by decide +kernel
def B214_172 : List zOp := [(172, 1, .ireturn, [0], 0)]
set_option maxRecDepth 20000 in
theorem b214_172 : z_blk 214 172 173 B214_172 = true := by decide +kernel
-- 215 yX11_against
def B215_0 : List zOp := [(0, 1, .aload_n 0, [], 0), (1, 1, .iconst 0, [], 0), (2, 3, .putfield 113, [11, 0, 0], 0), (5, 1, .aload_n 0, [], 0), (6, 1, .iload_n 1, [], 0), (7, 3, .invokevirtual 258, [199, 1, 11], 0), (10, 3, .ifCond .eq 19, [29], 0), (13, 1, .aload_n 0, [], 0), (14, 1, .iload_n 2, [], 0), (15, 3, .invokevirtual 264, [200, 1, 11], 0), (18, 3, .ifCond .eq 11, [29], 0), (21, 1, .aload_n 0, [], 0), (22, 1, .iload_n 3, [], 0), (23, 3, .invokevirtual 264, [200, 1, 11], 0), (26, 3, .ifCond .ne 5, [31], 0)]
set_option maxRecDepth 20000 in
theorem b215_0 : z_blk 215 0 29 B215_0 = true := by decide +kernel
def B215_29 : List zOp := [(29, 1, .iconst (-1), [], 0), (30, 1, .ireturn, [0], 0)]
set_option maxRecDepth 20000 in
theorem b215_29 : z_blk 215 29 31 B215_29 = true := by decide +kernel
def B215_31 : List zOp := [(31, 1, .aload_n 0, [], 0), (32, 1, .iload_n 1, [], 0), (33, 3, .invokevirtual 261, [198, 1, 11], 0), (36, 1, .iconst 0, [], 0), (37, 2, .istore 4, [], 0), (39, 1, .iconst 0, [], 0), (40, 2, .istore 5, [], 0)]
set_option maxRecDepth 20000 in
theorem b215_31 : z_blk 215 31 42 B215_31 = true := by decide +kernel
def B215_42 : List zOp := [(42, 2, .iload 5, [], 0), (44, 1, .aload_n 0, [], 0), (45, 3, .getfield 116, [11, 1, 0], 0), (48, 3, .if_icmp .ge 44, [92], 0), (51, 1, .aload_n 0, [], 0), (52, 3, .getfield 60, [11, 32, 2], 0), (55, 2, .iload 5, [], 0), (57, 1, .iaload, [], 0), (58, 1, .iload_n 2, [], 0), (59, 1, .iand, [], 0), (60, 1, .iload_n 2, [], 0), (61, 3, .if_icmp .ne 25, [86], 0), (64, 1, .aload_n 0, [], 0), (65, 3, .getfield 60, [11, 32, 2], 0), (68, 2, .iload 5, [], 0), (70, 1, .iaload, [], 0), (71, 1, .iload_n 3, [], 0), (72, 1, .iand, [], 0), (73, 1, .iload_n 3, [], 0), (74, 3, .if_icmp .eq 12, [86], 0), (77, 2, .iload 4, [], 0), (79, 1, .iconst 1, [], 0), (80, 2, .iload 5, [], 0), (82, 1, .ishl, [], 0), (83, 1, .ior, [], 0), (84, 2, .istore 4, [], 0)]
set_option maxRecDepth 20000 in
theorem b215_42 : z_blk 215 42 86 B215_42 = true := by decide +kernel
def B215_86 : List zOp := [(86, 3, .iinc 5 1, [], 0), (89, 3, .goto (-47), [42], 0)]
set_option maxRecDepth 20000 in
theorem b215_86 : z_blk 215 86 92 B215_86 = true := by decide +kernel
def B215_92 : List zOp := [(92, 2, .iload 4, [], 0), (94, 1, .ireturn, [0], 0)]
set_option maxRecDepth 20000 in
theorem b215_92 : z_blk 215 92 95 B215_92 = true := by decide +kernel
-- 216 yX11_explore
def B216_0 : List zOp := [(0, 1, .aload_n 0, [], 0), (1, 1, .iconst 0, [], 0), (2, 3, .putfield 113, [11, 0, 0], 0), (5, 1, .aload_n 0, [], 0), (6, 1, .iload_n 1, [], 0), (7, 3, .invokevirtual 258, [199, 1, 11], 0), (10, 3, .ifCond .ne 5, [15], 0), (13, 1, .iconst (-1), [], 0), (14, 1, .ireturn, [0], 0)]
set_option maxRecDepth 20000 in
theorem b216_0 : z_blk 216 0 15 B216_0 = true := by decide +kernel
def B216_15 : List zOp := [(15, 1, .aload_n 0, [], 0), (16, 1, .iload_n 1, [], 0), (17, 3, .invokevirtual 261, [198, 1, 11], 0), (20, 1, .aload_n 0, [], 0), (21, 1, .iconst 1, [], 0), (22, 3, .putfield 285, [11, 38, 3], 0), (25, 1, .aload_n 0, [], 0), (26, 1, .aload_n 0, [], 0), (27, 3, .getfield 242, [11, 17, 0], 0), (30, 3, .putfield 289, [11, 39, 0], 0), (33, 1, .aload_n 0, [], 0), (34, 1, .iconst 0, [], 0), (35, 3, .putfield 292, [11, 42, 0], 0), (38, 1, .aload_n 0, [], 0), (39, 1, .aload_n 0, [], 0), (40, 3, .getfield 116, [11, 1, 0], 0), (43, 3, .putfield 295, [11, 40, 0], 0), (46, 1, .iconst 0, [], 0), (47, 1, .istore_n 2, [], 0)]
set_option maxRecDepth 20000 in
theorem b216_15 : z_blk 216 15 48 B216_15 = true := by decide +kernel
def B216_48 : List zOp := [(48, 1, .iload_n 2, [], 0), (49, 1, .aload_n 0, [], 0), (50, 3, .getfield 116, [11, 1, 0], 0), (53, 3, .if_icmp .ge 21, [74], 0), (56, 1, .aload_n 0, [], 0), (57, 3, .getfield 72, [11, 41, 2], 0), (60, 1, .iload_n 2, [], 0), (61, 1, .aload_n 0, [], 0), (62, 3, .getfield 60, [11, 32, 2], 0), (65, 1, .iload_n 2, [], 0), (66, 1, .iaload, [], 0), (67, 1, .iastore, [], 0), (68, 3, .iinc 2 1, [], 0), (71, 3, .goto (-23), [48], 0)]
set_option maxRecDepth 20000 in
theorem b216_48 : z_blk 216 48 74 B216_48 = true := by decide +kernel
def B216_74 : List zOp := [(74, 1, .aload_n 0, [], 0), (75, 3, .getfield 295, [11, 40, 0], 0), (78, 1, .ireturn, [0], 0)]
set_option maxRecDepth 20000 in
theorem b216_74 : z_blk 216 74 79 B216_74 = true := by decide +kernel
-- 217 yX11_keeps
def B217_0 : List zOp := [(0, 1, .iconst 0, [], 0), (1, 1, .istore_n 2, [], 0)]
set_option maxRecDepth 20000 in
theorem b217_0 : z_blk 217 0 2 B217_0 = true := by decide +kernel
def B217_2 : List zOp := [(2, 1, .iload_n 2, [], 0), (3, 1, .aload_n 0, [], 0), (4, 3, .getfield 292, [11, 42, 0], 0), (7, 3, .if_icmp .ge 45, [52], 0), (10, 1, .aload_n 0, [], 0), (11, 3, .getfield 75, [11, 43, 2], 0), (14, 1, .iload_n 2, [], 0), (15, 1, .iaload, [], 0), (16, 1, .iload_n 1, [], 0), (17, 1, .iand, [], 0), (18, 1, .aload_n 0, [], 0), (19, 3, .getfield 75, [11, 43, 2], 0), (22, 1, .iload_n 2, [], 0), (23, 1, .iaload, [], 0), (24, 3, .if_icmp .ne 22, [46], 0), (27, 1, .aload_n 0, [], 0), (28, 3, .getfield 78, [11, 44, 2], 0), (31, 1, .iload_n 2, [], 0), (32, 1, .iaload, [], 0), (33, 1, .iload_n 1, [], 0), (34, 1, .iand, [], 0), (35, 1, .aload_n 0, [], 0), (36, 3, .getfield 78, [11, 44, 2], 0), (39, 1, .iload_n 2, [], 0), (40, 1, .iaload, [], 0), (41, 3, .if_icmp .eq 5, [46], 0), (44, 1, .iconst 0, [], 0), (45, 1, .ireturn, [3], 0)]
set_option maxRecDepth 20000 in
theorem b217_2 : z_blk 217 2 46 B217_2 = true := by decide +kernel
def B217_46 : List zOp := [(46, 3, .iinc 2 1, [], 0), (49, 3, .goto (-47), [2], 0)]
set_option maxRecDepth 20000 in
theorem b217_46 : z_blk 217 46 52 B217_46 = true := by decide +kernel
def B217_52 : List zOp := [(52, 1, .iconst 1, [], 0), (53, 1, .ireturn, [3], 0)]
set_option maxRecDepth 20000 in
theorem b217_52 : z_blk 217 52 54 B217_52 = true := by decide +kernel
-- 218 yX11_findQuestion
def B218_0 : List zOp := [(0, 1, .aload_n 0, [], 0), (1, 3, .getfield 285, [11, 38, 3], 0), (4, 3, .ifCond .ne 5, [9], 0), (7, 1, .iconst 0, [], 0), (8, 1, .ireturn, [3], 0)]
set_option maxRecDepth 20000 in
theorem b218_0 : z_blk 218 0 9 B218_0 = true := by decide +kernel
def B218_9 : List zOp := [(9, 1, .iconst 0, [], 0), (10, 1, .istore_n 1, [], 0)]
set_option maxRecDepth 20000 in
theorem b218_9 : z_blk 218 9 11 B218_9 = true := by decide +kernel
def B218_11 : List zOp := [(11, 1, .iload_n 1, [], 0), (12, 1, .iconst 1, [], 0), (13, 1, .aload_n 0, [], 0), (14, 3, .getfield 289, [11, 39, 0], 0), (17, 1, .ishl, [], 0), (18, 3, .if_icmp .ge 100, [118], 0), (21, 1, .aload_n 0, [], 0), (22, 1, .iload_n 1, [], 0), (23, 1, .aload_n 0, [], 0), (24, 3, .getfield 289, [11, 39, 0], 0), (27, 3, .invokevirtual 273, [206, 2, 11], 0), (30, 1, .istore_n 2, [], 0), (31, 1, .aload_n 0, [], 0), (32, 1, .iload_n 2, [], 0), (33, 3, .invokevirtual 298, [217, 1, 11], 0), (36, 3, .ifCond .ne 6, [42], 0), (39, 3, .goto 73, [112], 0)]
set_option maxRecDepth 20000 in
theorem b218_11 : z_blk 218 11 42 B218_11 = true := by decide +kernel
def B218_42 : List zOp := [(42, 1, .iconst 1, [], 0), (43, 1, .aload_n 0, [], 0), (44, 3, .getfield 289, [11, 39, 0], 0), (47, 1, .ishl, [], 0), (48, 1, .iconst 1, [], 0), (49, 1, .isub, [], 0), (50, 1, .istore_n 3, [], 0), (51, 1, .iconst 0, [], 0), (52, 2, .istore 4, [], 0)]
set_option maxRecDepth 20000 in
theorem b218_42 : z_blk 218 42 54 B218_42 = true := by decide +kernel
def B218_54 : List zOp := [(54, 2, .iload 4, [], 0), (56, 1, .aload_n 0, [], 0), (57, 3, .getfield 295, [11, 40, 0], 0), (60, 3, .if_icmp .ge 32, [92], 0), (63, 1, .aload_n 0, [], 0), (64, 3, .getfield 72, [11, 41, 2], 0), (67, 2, .iload 4, [], 0), (69, 1, .iaload, [], 0), (70, 1, .iload_n 2, [], 0), (71, 1, .iand, [], 0), (72, 1, .iload_n 2, [], 0), (73, 3, .if_icmp .ne 13, [86], 0), (76, 1, .iload_n 3, [], 0), (77, 1, .aload_n 0, [], 0), (78, 3, .getfield 72, [11, 41, 2], 0), (81, 2, .iload 4, [], 0), (83, 1, .iaload, [], 0), (84, 1, .iand, [], 0), (85, 1, .istore_n 3, [], 0)]
set_option maxRecDepth 20000 in
theorem b218_54 : z_blk 218 54 86 B218_54 = true := by decide +kernel
def B218_86 : List zOp := [(86, 3, .iinc 4 1, [], 0), (89, 3, .goto (-35), [54], 0)]
set_option maxRecDepth 20000 in
theorem b218_86 : z_blk 218 86 92 B218_86 = true := by decide +kernel
def B218_92 : List zOp := [(92, 1, .iload_n 3, [], 0), (93, 1, .iload_n 2, [], 0), (94, 3, .if_icmp .ne 6, [100], 0), (97, 3, .goto 15, [112], 0)]
set_option maxRecDepth 20000 in
theorem b218_92 : z_blk 218 92 100 B218_92 = true := by decide +kernel
def B218_100 : List zOp := [(100, 1, .aload_n 0, [], 0), (101, 1, .iload_n 2, [], 0), (102, 3, .putfield 301, [11, 45, 0], 0), (105, 1, .aload_n 0, [], 0), (106, 1, .iload_n 3, [], 0), (107, 3, .putfield 304, [11, 46, 0], 0), (110, 1, .iconst 1, [], 0), (111, 1, .ireturn, [3], 0)]
set_option maxRecDepth 20000 in
theorem b218_100 : z_blk 218 100 112 B218_100 = true := by decide +kernel
def B218_112 : List zOp := [(112, 3, .iinc 1 1, [], 0), (115, 3, .goto (-104), [11], 0)]
set_option maxRecDepth 20000 in
theorem b218_112 : z_blk 218 112 118 B218_112 = true := by decide +kernel
def B218_118 : List zOp := [(118, 1, .iconst 0, [], 0), (119, 1, .ireturn, [3], 0)]
set_option maxRecDepth 20000 in
theorem b218_118 : z_blk 218 118 120 B218_118 = true := by decide +kernel
-- 219 yX11_question
def B219_0 : List zOp := [(0, 1, .aload_n 0, [], 0), (1, 1, .iconst 0, [], 0), (2, 3, .putfield 113, [11, 0, 0], 0), (5, 1, .aload_n 0, [], 0), (6, 1, .iload_n 1, [], 0), (7, 1, .iconst 0, [], 0), (8, 1, .iconst 1, [], 0), (9, 3, .invokevirtual 119, [160, 3, 11], 0), (12, 3, .ifCond .eq 10, [22], 0), (15, 1, .aload_n 0, [], 0), (16, 3, .invokevirtual 307, [218, 0, 11], 0), (19, 3, .ifCond .ne 5, [24], 0)]
set_option maxRecDepth 20000 in
theorem b219_0 : z_blk 219 0 22 B219_0 = true := by decide +kernel
def B219_22 : List zOp := [(22, 1, .iconst (-1), [], 0), (23, 1, .ireturn, [0], 0)]
set_option maxRecDepth 20000 in
theorem b219_22 : z_blk 219 22 24 B219_22 = true := by decide +kernel
def B219_24 : List zOp := [(24, 1, .iload_n 1, [], 0), (25, 3, .ifCond .ne 10, [35], 0), (28, 1, .aload_n 0, [], 0), (29, 3, .getfield 301, [11, 45, 0], 0), (32, 3, .goto 7, [39], 0)]
set_option maxRecDepth 20000 in
theorem b219_24 : z_blk 219 24 35 B219_24 = true := by decide +kernel
def B219_35 : List zOp := [(35, 1, .aload_n 0, [], 0), (36, 3, .getfield 304, [11, 46, 0], 0)]
set_option maxRecDepth 20000 in
theorem b219_35 : z_blk 219 35 39 B219_35 = true := by decide +kernel
def B219_39 : List zOp := [(39, 1, .ireturn, [0], 0)]
set_option maxRecDepth 20000 in
theorem b219_39 : z_blk 219 39 40 B219_39 = true := by decide +kernel
-- 220 yX11_yes
def B220_0 : List zOp := [(0, 1, .aload_n 0, [], 0), (1, 1, .iconst 0, [], 0), (2, 3, .putfield 113, [11, 0, 0], 0), (5, 1, .aload_n 0, [], 0), (6, 3, .invokevirtual 307, [218, 0, 11], 0), (9, 3, .ifCond .eq 12, [21], 0), (12, 1, .aload_n 0, [], 0), (13, 3, .getfield 292, [11, 42, 0], 0), (16, 2, .bipush 60, [], 0), (18, 3, .if_icmp .ne 5, [23], 0)]
set_option maxRecDepth 20000 in
theorem b220_0 : z_blk 220 0 21 B220_0 = true := by decide +kernel
def B220_21 : List zOp := [(21, 1, .iconst (-1), [], 0), (22, 1, .ireturn, [0], 0)]
set_option maxRecDepth 20000 in
theorem b220_21 : z_blk 220 21 23 B220_21 = true := by decide +kernel
def B220_23 : List zOp := [(23, 1, .aload_n 0, [], 0), (24, 3, .getfield 75, [11, 43, 2], 0), (27, 1, .aload_n 0, [], 0), (28, 3, .getfield 292, [11, 42, 0], 0), (31, 1, .aload_n 0, [], 0), (32, 3, .getfield 301, [11, 45, 0], 0), (35, 1, .iastore, [], 0), (36, 1, .aload_n 0, [], 0), (37, 3, .getfield 78, [11, 44, 2], 0), (40, 1, .aload_n 0, [], 0), (41, 3, .getfield 292, [11, 42, 0], 0), (44, 1, .aload_n 0, [], 0), (45, 3, .getfield 304, [11, 46, 0], 0), (48, 1, .iastore, [], 0), (49, 1, .aload_n 0, [], 0), (50, 1, .aload_n 0, [], 0), (51, 3, .getfield 292, [11, 42, 0], 0), (54, 1, .iconst 1, [], 0), (55, 1, .iadd, [], 0), (56, 3, .putfield 292, [11, 42, 0], 0), (59, 1, .aload_n 0, [], 0), (60, 3, .getfield 292, [11, 42, 0], 0), (63, 1, .ireturn, [0], 0)]
set_option maxRecDepth 20000 in
theorem b220_23 : z_blk 220 23 64 B220_23 = true := by decide +kernel
-- 221 yX11_no
def B221_0 : List zOp := [(0, 1, .aload_n 0, [], 0), (1, 1, .iconst 0, [], 0), (2, 3, .putfield 113, [11, 0, 0], 0), (5, 1, .aload_n 0, [], 0), (6, 3, .invokevirtual 307, [218, 0, 11], 0), (9, 3, .ifCond .eq 26, [35], 0), (12, 1, .aload_n 0, [], 0), (13, 3, .getfield 295, [11, 40, 0], 0), (16, 2, .bipush 40, [], 0), (18, 3, .if_icmp .eq 17, [35], 0), (21, 1, .iload_n 1, [], 0), (22, 3, .ifCond .lt 13, [35], 0), (25, 1, .iload_n 1, [], 0), (26, 1, .iconst 1, [], 0), (27, 1, .aload_n 0, [], 0), (28, 3, .getfield 289, [11, 39, 0], 0), (31, 1, .ishl, [], 0), (32, 3, .if_icmp .lt 5, [37], 0)]
set_option maxRecDepth 20000 in
theorem b221_0 : z_blk 221 0 35 B221_0 = true := by decide +kernel
def B221_35 : List zOp := [(35, 1, .iconst (-1), [], 0), (36, 1, .ireturn, [0], 0)]
set_option maxRecDepth 20000 in
theorem b221_35 : z_blk 221 35 37 B221_35 = true := by decide +kernel
def B221_37 : List zOp := [(37, 1, .iload_n 1, [], 0), (38, 1, .aload_n 0, [], 0), (39, 3, .getfield 301, [11, 45, 0], 0), (42, 1, .iand, [], 0), (43, 1, .aload_n 0, [], 0), (44, 3, .getfield 301, [11, 45, 0], 0), (47, 3, .if_icmp .ne 24, [71], 0), (50, 1, .iload_n 1, [], 0), (51, 1, .aload_n 0, [], 0), (52, 3, .getfield 304, [11, 46, 0], 0), (55, 1, .iand, [], 0), (56, 1, .aload_n 0, [], 0), (57, 3, .getfield 304, [11, 46, 0], 0), (60, 3, .if_icmp .eq 11, [71], 0), (63, 1, .aload_n 0, [], 0), (64, 1, .iload_n 1, [], 0), (65, 3, .invokevirtual 298, [217, 1, 11], 0), (68, 3, .ifCond .ne 5, [73], 0)]
set_option maxRecDepth 20000 in
theorem b221_37 : z_blk 221 37 71 B221_37 = true := by decide +kernel
def B221_71 : List zOp := [(71, 1, .iconst (-1), [], 0), (72, 1, .ireturn, [0], 0)]
set_option maxRecDepth 20000 in
theorem b221_71 : z_blk 221 71 73 B221_71 = true := by decide +kernel
def B221_73 : List zOp := [(73, 1, .aload_n 0, [], 0), (74, 3, .getfield 72, [11, 41, 2], 0), (77, 1, .aload_n 0, [], 0), (78, 3, .getfield 295, [11, 40, 0], 0), (81, 1, .iload_n 1, [], 0), (82, 1, .iastore, [], 0), (83, 1, .aload_n 0, [], 0), (84, 1, .aload_n 0, [], 0), (85, 3, .getfield 295, [11, 40, 0], 0), (88, 1, .iconst 1, [], 0), (89, 1, .iadd, [], 0), (90, 3, .putfield 295, [11, 40, 0], 0), (93, 1, .aload_n 0, [], 0), (94, 3, .getfield 295, [11, 40, 0], 0), (97, 1, .ireturn, [0], 0)]
set_option maxRecDepth 20000 in
theorem b221_73 : z_blk 221 73 98 B221_73 = true := by decide +kernel
-- 222 yX11_accepted
def B222_0 : List zOp := [(0, 1, .aload_n 0, [], 0), (1, 1, .iconst 0, [], 0), (2, 3, .putfield 113, [11, 0, 0], 0), (5, 1, .aload_n 0, [], 0), (6, 3, .getfield 285, [11, 38, 3], 0), (9, 3, .ifCond .eq 28, [37], 0), (12, 1, .aload_n 0, [], 0), (13, 1, .iload_n 1, [], 0), (14, 1, .iconst 0, [], 0), (15, 1, .aload_n 0, [], 0), (16, 3, .getfield 292, [11, 42, 0], 0), (19, 1, .iconst 1, [], 0), (20, 1, .isub, [], 0), (21, 3, .invokevirtual 119, [160, 3, 11], 0), (24, 3, .ifCond .eq 13, [37], 0), (27, 1, .aload_n 0, [], 0), (28, 1, .iload_n 2, [], 0), (29, 1, .iconst 0, [], 0), (30, 1, .iconst 1, [], 0), (31, 3, .invokevirtual 119, [160, 3, 11], 0), (34, 3, .ifCond .ne 5, [39], 0)]
set_option maxRecDepth 20000 in
theorem b222_0 : z_blk 222 0 37 B222_0 = true := by decide +kernel
def B222_37 : List zOp := [(37, 1, .iconst (-1), [], 0), (38, 1, .ireturn, [0], 0)]
set_option maxRecDepth 20000 in
theorem b222_37 : z_blk 222 37 39 B222_37 = true := by decide +kernel
def B222_39 : List zOp := [(39, 1, .iload_n 2, [], 0), (40, 3, .ifCond .ne 12, [52], 0), (43, 1, .aload_n 0, [], 0), (44, 3, .getfield 75, [11, 43, 2], 0), (47, 1, .iload_n 1, [], 0), (48, 1, .iaload, [], 0), (49, 3, .goto 9, [58], 0)]
set_option maxRecDepth 20000 in
theorem b222_39 : z_blk 222 39 52 B222_39 = true := by decide +kernel
def B222_52 : List zOp := [(52, 1, .aload_n 0, [], 0), (53, 3, .getfield 78, [11, 44, 2], 0), (56, 1, .iload_n 1, [], 0), (57, 1, .iaload, [], 0)]
set_option maxRecDepth 20000 in
theorem b222_52 : z_blk 222 52 58 B222_52 = true := by decide +kernel
def B222_58 : List zOp := [(58, 1, .ireturn, [0], 0)]
set_option maxRecDepth 20000 in
theorem b222_58 : z_blk 222 58 59 B222_58 = true := by decide +kernel
-- 223 yX11_look
def B223_0 : List zOp := [(0, 1, .aload_n 0, [], 0), (1, 1, .iconst 0, [], 0), (2, 3, .putfield 113, [11, 0, 0], 0), (5, 1, .iload_n 1, [], 0), (6, 3, .ifCond .ne 8, [14], 0), (9, 1, .aload_n 0, [], 0), (10, 3, .getfield 116, [11, 1, 0], 0), (13, 1, .ireturn, [0], 0)]
set_option maxRecDepth 20000 in
theorem b223_0 : z_blk 223 0 14 B223_0 = true := by decide +kernel
def B223_14 : List zOp := [(14, 1, .iload_n 1, [], 0), (15, 1, .iconst 1, [], 0), (16, 3, .if_icmp .ne 8, [24], 0), (19, 1, .aload_n 0, [], 0), (20, 3, .getfield 242, [11, 17, 0], 0), (23, 1, .ireturn, [0], 0)]
set_option maxRecDepth 20000 in
theorem b223_14 : z_blk 223 14 24 B223_14 = true := by decide +kernel
def B223_24 : List zOp := [(24, 1, .iload_n 1, [], 0), (25, 1, .iconst 2, [], 0), (26, 3, .if_icmp .ne 8, [34], 0), (29, 1, .aload_n 0, [], 0), (30, 3, .getfield 130, [11, 2, 0], 0), (33, 1, .ireturn, [0], 0)]
set_option maxRecDepth 20000 in
theorem b223_24 : z_blk 223 24 34 B223_24 = true := by decide +kernel
def B223_34 : List zOp := [(34, 1, .iload_n 1, [], 0), (35, 1, .iconst 3, [], 0), (36, 3, .if_icmp .ne 8, [44], 0), (39, 1, .aload_n 0, [], 0), (40, 3, .getfield 133, [11, 8, 0], 0), (43, 1, .ireturn, [0], 0)]
set_option maxRecDepth 20000 in
theorem b223_34 : z_blk 223 34 44 B223_34 = true := by decide +kernel
def B223_44 : List zOp := [(44, 1, .iload_n 1, [], 0), (45, 1, .iconst 4, [], 0), (46, 3, .if_icmp .ne 8, [54], 0), (49, 1, .aload_n 0, [], 0), (50, 3, .getfield 25, [11, 9, 0], 0), (53, 1, .ireturn, [0], 0)]
set_option maxRecDepth 20000 in
theorem b223_44 : z_blk 223 44 54 B223_44 = true := by decide +kernel
def B223_54 : List zOp := [(54, 1, .iload_n 1, [], 0), (55, 1, .iconst 5, [], 0), (56, 3, .if_icmp .ne 19, [75], 0), (59, 1, .aload_n 0, [], 0), (60, 3, .getfield 285, [11, 38, 3], 0), (63, 3, .ifCond .eq 10, [73], 0), (66, 1, .aload_n 0, [], 0), (67, 3, .getfield 295, [11, 40, 0], 0), (70, 3, .goto 4, [74], 0)]
set_option maxRecDepth 20000 in
theorem b223_54 : z_blk 223 54 73 B223_54 = true := by decide +kernel
def B223_73 : List zOp := [(73, 1, .iconst (-1), [], 0)]
set_option maxRecDepth 20000 in
theorem b223_73 : z_blk 223 73 74 B223_73 = true := by decide +kernel
def B223_74 : List zOp := [(74, 1, .ireturn, [0], 0)]
set_option maxRecDepth 20000 in
theorem b223_74 : z_blk 223 74 75 B223_74 = true := by decide +kernel
def B223_75 : List zOp := [(75, 1, .iload_n 1, [], 0), (76, 2, .bipush 6, [], 0), (78, 3, .if_icmp .ne 19, [97], 0), (81, 1, .aload_n 0, [], 0), (82, 3, .getfield 285, [11, 38, 3], 0), (85, 3, .ifCond .eq 10, [95], 0), (88, 1, .aload_n 0, [], 0), (89, 3, .getfield 292, [11, 42, 0], 0), (92, 3, .goto 4, [96], 0)]
set_option maxRecDepth 20000 in
theorem b223_75 : z_blk 223 75 95 B223_75 = true := by decide +kernel
def B223_95 : List zOp := [(95, 1, .iconst (-1), [], 0)]
set_option maxRecDepth 20000 in
theorem b223_95 : z_blk 223 95 96 B223_95 = true := by decide +kernel
def B223_96 : List zOp := [(96, 1, .ireturn, [0], 0)]
set_option maxRecDepth 20000 in
theorem b223_96 : z_blk 223 96 97 B223_96 = true := by decide +kernel
def B223_97 : List zOp := [(97, 2, .bipush (-2), [], 0), (99, 1, .ireturn, [0], 0)]
set_option maxRecDepth 20000 in
theorem b223_97 : z_blk 223 97 100 B223_97 = true := by decide +kernel
-- 224 yX11_findHolders
def B224_0 : List zOp := [(0, 1, .iconst 0, [], 0), (1, 1, .istore_n 3, [], 0)]
set_option maxRecDepth 20000 in
theorem b224_0 : z_blk 224 0 2 B224_0 = true := by decide +kernel
def B224_2 : List zOp := [(2, 1, .iload_n 3, [], 0), (3, 1, .aload_n 0, [], 0), (4, 3, .getfield 242, [11, 17, 0], 0), (7, 3, .if_icmp .ge 87, [94], 0), (10, 1, .aload_n 0, [], 0), (11, 3, .getfield 86, [11, 48, 2], 0), (14, 1, .iload_n 3, [], 0), (15, 1, .iconst 0, [], 0), (16, 1, .iastore, [], 0), (17, 1, .iload_n 2, [], 0), (18, 1, .iload_n 3, [], 0), (19, 1, .ishr, [], 0), (20, 1, .iconst 1, [], 0), (21, 1, .iand, [], 0), (22, 3, .ifCond .ne 6, [28], 0), (25, 3, .goto 63, [88], 0)]
set_option maxRecDepth 20000 in
theorem b224_2 : z_blk 224 2 28 B224_2 = true := by decide +kernel
def B224_28 : List zOp := [(28, 1, .iconst 0, [], 0), (29, 2, .istore 4, [], 0)]
set_option maxRecDepth 20000 in
theorem b224_28 : z_blk 224 28 31 B224_28 = true := by decide +kernel
def B224_31 : List zOp := [(31, 2, .iload 4, [], 0), (33, 1, .aload_n 0, [], 0), (34, 3, .getfield 116, [11, 1, 0], 0), (37, 3, .if_icmp .ge 51, [88], 0), (40, 1, .iload_n 1, [], 0), (41, 2, .iload 4, [], 0), (43, 1, .ishr, [], 0), (44, 1, .iconst 1, [], 0), (45, 1, .iand, [], 0), (46, 1, .iconst 1, [], 0), (47, 3, .if_icmp .ne 35, [82], 0), (50, 1, .aload_n 0, [], 0), (51, 3, .getfield 60, [11, 32, 2], 0), (54, 2, .iload 4, [], 0), (56, 1, .iaload, [], 0), (57, 1, .iload_n 3, [], 0), (58, 1, .ishr, [], 0), (59, 1, .iconst 1, [], 0), (60, 1, .iand, [], 0), (61, 1, .iconst 1, [], 0), (62, 3, .if_icmp .ne 20, [82], 0), (65, 1, .aload_n 0, [], 0), (66, 3, .getfield 86, [11, 48, 2], 0), (69, 1, .iload_n 3, [], 0), (70, 1, .aload_n 0, [], 0), (71, 3, .getfield 86, [11, 48, 2], 0), (74, 1, .iload_n 3, [], 0), (75, 1, .iaload, [], 0), (76, 1, .iconst 1, [], 0), (77, 2, .iload 4, [], 0), (79, 1, .ishl, [], 0), (80, 1, .ior, [], 0), (81, 1, .iastore, [], 0)]
set_option maxRecDepth 20000 in
theorem b224_31 : z_blk 224 31 82 B224_31 = true := by decide +kernel
def B224_82 : List zOp := [(82, 3, .iinc 4 1, [], 0), (85, 3, .goto (-54), [31], 0)]
set_option maxRecDepth 20000 in
theorem b224_82 : z_blk 224 82 88 B224_82 = true := by decide +kernel
def B224_88 : List zOp := [(88, 3, .iinc 3 1, [], 0), (91, 3, .goto (-89), [2], 0)]
set_option maxRecDepth 20000 in
theorem b224_88 : z_blk 224 88 94 B224_88 = true := by decide +kernel
def B224_94 : List zOp := [(94, 1, .return_, [], 0)]
set_option maxRecDepth 20000 in
theorem b224_94 : z_blk 224 94 95 B224_94 = true := by decide +kernel
-- 225 yX11_mayStand
def B225_0 : List zOp := [(0, 1, .iload_n 1, [], 0), (1, 1, .iload_n 2, [], 0), (2, 1, .iconst (-1), [], 0), (3, 1, .ixor, [], 0), (4, 1, .iand, [], 0), (5, 1, .istore_n 3, [], 0), (6, 1, .iconst 0, [], 0), (7, 2, .istore 4, [], 0)]
set_option maxRecDepth 20000 in
theorem b225_0 : z_blk 225 0 9 B225_0 = true := by decide +kernel
def B225_9 : List zOp := [(9, 2, .iload 4, [], 0), (11, 1, .aload_n 0, [], 0), (12, 3, .getfield 242, [11, 17, 0], 0), (15, 3, .if_icmp .ge 45, [60], 0), (18, 1, .aload_n 0, [], 0), (19, 3, .getfield 86, [11, 48, 2], 0), (22, 2, .iload 4, [], 0), (24, 1, .iaload, [], 0), (25, 1, .iload_n 2, [], 0), (26, 1, .iand, [], 0), (27, 3, .ifCond .eq 27, [54], 0), (30, 1, .aload_n 0, [], 0), (31, 3, .getfield 86, [11, 48, 2], 0), (34, 2, .iload 4, [], 0), (36, 1, .iaload, [], 0), (37, 1, .iload_n 2, [], 0), (38, 1, .iconst (-1), [], 0), (39, 1, .ixor, [], 0), (40, 1, .iand, [], 0), (41, 3, .ifCond .eq 13, [54], 0), (44, 1, .iload_n 3, [], 0), (45, 1, .aload_n 0, [], 0), (46, 3, .getfield 86, [11, 48, 2], 0), (49, 2, .iload 4, [], 0), (51, 1, .iaload, [], 0), (52, 1, .iand, [], 0), (53, 1, .istore_n 3, [], 0)]
set_option maxRecDepth 20000 in
theorem b225_9 : z_blk 225 9 54 B225_9 = true := by decide +kernel
def B225_54 : List zOp := [(54, 3, .iinc 4 1, [], 0), (57, 3, .goto (-48), [9], 0)]
set_option maxRecDepth 20000 in
theorem b225_54 : z_blk 225 54 60 B225_54 = true := by decide +kernel
def B225_60 : List zOp := [(60, 1, .iload_n 3, [], 0), (61, 1, .ireturn, [0], 0)]
set_option maxRecDepth 20000 in
theorem b225_60 : z_blk 225 60 62 B225_60 = true := by decide +kernel
-- 226 yX11_findOrders
def B226_0 : List zOp := [(0, 1, .aload_n 0, [], 0), (1, 3, .getfield 82, [11, 47, 2], 0), (4, 1, .iload_n 1, [], 0), (5, 1, .lconst 1, [], 0), (6, 1, .lastore, [], 0), (7, 1, .iload_n 1, [], 0), (8, 1, .istore_n 2, [], 0)]
set_option maxRecDepth 20000 in
theorem b226_0 : z_blk 226 0 9 B226_0 = true := by decide +kernel
def B226_9 : List zOp := [(9, 1, .iload_n 2, [], 0), (10, 3, .ifCond .eq 72, [82], 0), (13, 1, .iload_n 2, [], 0), (14, 1, .iconst 1, [], 0), (15, 1, .isub, [], 0), (16, 1, .iload_n 1, [], 0), (17, 1, .iand, [], 0), (18, 1, .istore_n 2, [], 0), (19, 1, .lconst 0, [], 0), (20, 1, .lstore_n 3, [], 0), (21, 1, .aload_n 0, [], 0), (22, 1, .iload_n 1, [], 0), (23, 1, .iload_n 2, [], 0), (24, 3, .invokevirtual 310, [225, 2, 11], 0), (27, 2, .istore 5, [], 0), (29, 1, .iconst 0, [], 0), (30, 2, .istore 6, [], 0)]
set_option maxRecDepth 20000 in
theorem b226_9 : z_blk 226 9 32 B226_9 = true := by decide +kernel
def B226_32 : List zOp := [(32, 2, .iload 6, [], 0), (34, 1, .aload_n 0, [], 0), (35, 3, .getfield 116, [11, 1, 0], 0), (38, 3, .if_icmp .ge 34, [72], 0), (41, 2, .iload 5, [], 0), (43, 2, .iload 6, [], 0), (45, 1, .ishr, [], 0), (46, 1, .iconst 1, [], 0), (47, 1, .iand, [], 0), (48, 1, .iconst 1, [], 0), (49, 3, .if_icmp .ne 17, [66], 0), (52, 1, .lload_n 3, [], 0), (53, 1, .aload_n 0, [], 0), (54, 3, .getfield 82, [11, 47, 2], 0), (57, 1, .iload_n 2, [], 0), (58, 1, .iconst 1, [], 0), (59, 2, .iload 6, [], 0), (61, 1, .ishl, [], 0), (62, 1, .ior, [], 0), (63, 1, .laload, [], 0), (64, 1, .ladd, [], 0), (65, 1, .lstore_n 3, [], 0)]
set_option maxRecDepth 20000 in
theorem b226_32 : z_blk 226 32 66 B226_32 = true := by decide +kernel
def B226_66 : List zOp := [(66, 3, .iinc 6 1, [], 0), (69, 3, .goto (-37), [32], 0)]
set_option maxRecDepth 20000 in
theorem b226_66 : z_blk 226 66 72 B226_66 = true := by decide +kernel
def B226_72 : List zOp := [(72, 1, .aload_n 0, [], 0), (73, 3, .getfield 82, [11, 47, 2], 0), (76, 1, .iload_n 2, [], 0), (77, 1, .lload_n 3, [], 0), (78, 1, .lastore, [], 0), (79, 3, .goto (-70), [9], 0)]
set_option maxRecDepth 20000 in
theorem b226_72 : z_blk 226 72 82 B226_72 = true := by decide +kernel
def B226_82 : List zOp := [(82, 1, .return_, [], 0)]
set_option maxRecDepth 20000 in
theorem b226_82 : z_blk 226 82 83 B226_82 = true := by decide +kernel
-- 227 yX11_canRow
def B227_0 : List zOp := [(0, 1, .aload_n 0, [], 0), (1, 1, .iload_n 1, [], 0), (2, 3, .invokevirtual 258, [199, 1, 11], 0), (5, 3, .ifCond .eq 23, [28], 0), (8, 1, .aload_n 0, [], 0), (9, 1, .iload_n 2, [], 0), (10, 3, .invokevirtual 313, [201, 1, 11], 0), (13, 3, .ifCond .eq 15, [28], 0), (16, 1, .aload_n 0, [], 0), (17, 1, .iload_n 3, [], 0), (18, 3, .invokevirtual 264, [200, 1, 11], 0), (21, 3, .ifCond .eq 7, [28], 0), (24, 1, .iconst 1, [], 0), (25, 3, .goto 4, [29], 0)]
set_option maxRecDepth 20000 in
theorem b227_0 : z_blk 227 0 28 B227_0 = true := by decide +kernel
def B227_28 : List zOp := [(28, 1, .iconst 0, [], 0)]
set_option maxRecDepth 20000 in
theorem b227_28 : z_blk 227 28 29 B227_28 = true := by decide +kernel
def B227_29 : List zOp := [(29, 1, .ireturn, [3], 0)]
set_option maxRecDepth 20000 in
theorem b227_29 : z_blk 227 29 30 B227_29 = true := by decide +kernel
-- 228 yX11_findAll
def B228_0 : List zOp := [(0, 1, .aload_n 0, [], 0), (1, 1, .iload_n 1, [], 0), (2, 3, .invokevirtual 261, [198, 1, 11], 0), (5, 1, .aload_n 0, [], 0), (6, 1, .iload_n 2, [], 0), (7, 1, .iload_n 3, [], 0), (8, 3, .invokevirtual 316, [224, 2, 11], 0), (11, 1, .aload_n 0, [], 0), (12, 1, .iload_n 2, [], 0), (13, 3, .invokevirtual 319, [226, 1, 11], 0), (16, 1, .return_, [], 0)]
set_option maxRecDepth 20000 in
theorem b228_0 : z_blk 228 0 17 B228_0 = true := by decide +kernel
-- 229 yX11_rows
def B229_0 : List zOp := [(0, 1, .aload_n 0, [], 0), (1, 1, .iconst 0, [], 0), (2, 3, .putfield 113, [11, 0, 0], 0), (5, 1, .aload_n 0, [], 0), (6, 1, .iload_n 1, [], 0), (7, 1, .iload_n 2, [], 0), (8, 1, .iload_n 3, [], 0), (9, 3, .invokevirtual 322, [227, 3, 11], 0), (12, 3, .ifCond .ne 7, [19], 0), (15, 3, .ldc2_w 325, [], (-1)), (18, 1, .lreturn, [], 0)]
set_option maxRecDepth 20000 in
theorem b229_0 : z_blk 229 0 19 B229_0 = true := by decide +kernel
def B229_19 : List zOp := [(19, 1, .aload_n 0, [], 0), (20, 1, .iload_n 1, [], 0), (21, 1, .iload_n 2, [], 0), (22, 1, .iload_n 3, [], 0), (23, 3, .invokevirtual 327, [228, 3, 11], 0), (26, 1, .aload_n 0, [], 0), (27, 3, .getfield 82, [11, 47, 2], 0), (30, 1, .iconst 0, [], 0), (31, 1, .laload, [], 0), (32, 1, .lreturn, [], 0)]
set_option maxRecDepth 20000 in
theorem b229_19 : z_blk 229 19 33 B229_19 = true := by decide +kernel
-- 230 yX11_place
def B230_0 : List zOp := [(0, 1, .aload_n 0, [], 0), (1, 1, .iconst 0, [], 0), (2, 3, .putfield 113, [11, 0, 0], 0), (5, 1, .aload_n 0, [], 0), (6, 1, .iload_n 1, [], 0), (7, 1, .iload_n 2, [], 0), (8, 1, .iload_n 3, [], 0), (9, 3, .invokevirtual 322, [227, 3, 11], 0), (12, 3, .ifCond .eq 15, [27], 0), (15, 2, .lload 4, [], 0), (17, 1, .lconst 0, [], 0), (18, 1, .lcmp, [], 0), (19, 3, .ifCond .lt 8, [27], 0), (22, 2, .iload 6, [], 0), (24, 3, .ifCond .ge 5, [29], 0)]
set_option maxRecDepth 20000 in
theorem b230_0 : z_blk 230 0 27 B230_0 = true := by decide +kernel
def B230_27 : List zOp := [(27, 1, .iconst (-1), [], 0), (28, 1, .ireturn, [0], 0)]
set_option maxRecDepth 20000 in
theorem b230_27 : z_blk 230 27 29 B230_27 = true := by decide +kernel
def B230_29 : List zOp := [(29, 1, .aload_n 0, [], 0), (30, 1, .iload_n 1, [], 0), (31, 1, .iload_n 2, [], 0), (32, 1, .iload_n 3, [], 0), (33, 3, .invokevirtual 327, [228, 3, 11], 0), (36, 2, .lload 4, [], 0), (38, 1, .aload_n 0, [], 0), (39, 3, .getfield 82, [11, 47, 2], 0), (42, 1, .iconst 0, [], 0), (43, 1, .laload, [], 0), (44, 1, .lcmp, [], 0), (45, 3, .ifCond .lt 5, [50], 0), (48, 1, .iconst (-1), [], 0), (49, 1, .ireturn, [0], 0)]
set_option maxRecDepth 20000 in
theorem b230_29 : z_blk 230 29 50 B230_29 = true := by decide +kernel
def B230_50 : List zOp := [(50, 2, .lload 4, [], 0), (52, 2, .lstore 7, [], 0), (54, 1, .iconst 0, [], 0), (55, 2, .istore 9, [], 0), (57, 1, .iconst (-1), [], 0), (58, 2, .istore 10, [], 0), (60, 1, .iconst 0, [], 0), (61, 2, .istore 11, [], 0)]
set_option maxRecDepth 20000 in
theorem b230_50 : z_blk 230 50 63 B230_50 = true := by decide +kernel
def B230_63 : List zOp := [(63, 2, .iload 11, [], 0), (65, 2, .iload 6, [], 0), (67, 3, .if_icmp .gt 107, [174], 0), (70, 2, .iload 9, [], 0), (72, 1, .iload_n 2, [], 0), (73, 3, .if_icmp .ne 5, [78], 0), (76, 1, .iconst (-1), [], 0), (77, 1, .ireturn, [0], 0)]
set_option maxRecDepth 20000 in
theorem b230_63 : z_blk 230 63 78 B230_63 = true := by decide +kernel
def B230_78 : List zOp := [(78, 1, .aload_n 0, [], 0), (79, 1, .iload_n 2, [], 0), (80, 2, .iload 9, [], 0), (82, 3, .invokevirtual 310, [225, 2, 11], 0), (85, 2, .istore 12, [], 0), (87, 1, .iconst 0, [], 0), (88, 2, .istore 13, [], 0)]
set_option maxRecDepth 20000 in
theorem b230_78 : z_blk 230 78 90 B230_78 = true := by decide +kernel
def B230_90 : List zOp := [(90, 2, .iload 12, [], 0), (92, 2, .iload 13, [], 0), (94, 1, .ishr, [], 0), (95, 1, .iconst 1, [], 0), (96, 1, .iand, [], 0), (97, 3, .ifCond .eq 21, [118], 0), (100, 2, .lload 7, [], 0), (102, 1, .aload_n 0, [], 0), (103, 3, .getfield 82, [11, 47, 2], 0), (106, 2, .iload 9, [], 0), (108, 1, .iconst 1, [], 0), (109, 2, .iload 13, [], 0), (111, 1, .ishl, [], 0), (112, 1, .ior, [], 0), (113, 1, .laload, [], 0), (114, 1, .lcmp, [], 0), (115, 3, .ifCond .lt 40, [155], 0)]
set_option maxRecDepth 20000 in
theorem b230_90 : z_blk 230 90 118 B230_90 = true := by decide +kernel
def B230_118 : List zOp := [(118, 2, .iload 12, [], 0), (120, 2, .iload 13, [], 0), (122, 1, .ishr, [], 0), (123, 1, .iconst 1, [], 0), (124, 1, .iand, [], 0), (125, 1, .iconst 1, [], 0), (126, 3, .if_icmp .ne 20, [146], 0), (129, 2, .lload 7, [], 0), (131, 1, .aload_n 0, [], 0), (132, 3, .getfield 82, [11, 47, 2], 0), (135, 2, .iload 9, [], 0), (137, 1, .iconst 1, [], 0), (138, 2, .iload 13, [], 0), (140, 1, .ishl, [], 0), (141, 1, .ior, [], 0), (142, 1, .laload, [], 0), (143, 1, .lsub, [], 0), (144, 2, .lstore 7, [], 0)]
set_option maxRecDepth 20000 in
theorem b230_118 : z_blk 230 118 146 B230_118 = true := by decide +kernel
def B230_146 : List zOp := [(146, 2, .iload 13, [], 0), (148, 1, .iconst 1, [], 0), (149, 1, .iadd, [], 0), (150, 2, .istore 13, [], 0), (152, 3, .goto (-62), [90], 0)]
set_option maxRecDepth 20000 in
theorem b230_146 : z_blk 230 146 155 B230_146 = true := by decide +kernel
def B230_155 : List zOp := [(155, 2, .iload 9, [], 0), (157, 1, .iconst 1, [], 0), (158, 2, .iload 13, [], 0), (160, 1, .ishl, [], 0), (161, 1, .ior, [], 0), (162, 2, .istore 9, [], 0), (164, 2, .iload 13, [], 0), (166, 2, .istore 10, [], 0), (168, 3, .iinc 11 1, [], 0), (171, 3, .goto (-108), [63], 0)]
set_option maxRecDepth 20000 in
theorem b230_155 : z_blk 230 155 174 B230_155 = true := by decide +kernel
def B230_174 : List zOp := [(174, 2, .iload 10, [], 0), (176, 1, .ireturn, [0], 0)]
set_option maxRecDepth 20000 in
theorem b230_174 : z_blk 230 174 177 B230_174 = true := by decide +kernel
-- 231 yX11_crossed
def B231_0 : List zOp := [(0, 1, .iconst 0, [], 0), (1, 1, .istore_n 1, [], 0), (2, 1, .iconst 0, [], 0), (3, 1, .istore_n 2, [], 0)]
set_option maxRecDepth 20000 in
theorem b231_0 : z_blk 231 0 4 B231_0 = true := by decide +kernel
def B231_4 : List zOp := [(4, 1, .iload_n 2, [], 0), (5, 1, .aload_n 0, [], 0), (6, 3, .getfield 242, [11, 17, 0], 0), (9, 3, .if_icmp .ge 104, [113], 0), (12, 1, .iconst 0, [], 0), (13, 1, .istore_n 3, [], 0), (14, 1, .iconst 0, [], 0), (15, 2, .istore 4, [], 0), (17, 1, .iconst 0, [], 0), (18, 2, .istore 5, [], 0), (20, 1, .iconst 0, [], 0), (21, 2, .istore 6, [], 0)]
set_option maxRecDepth 20000 in
theorem b231_4 : z_blk 231 4 23 B231_4 = true := by decide +kernel
def B231_23 : List zOp := [(23, 2, .iload 6, [], 0), (25, 1, .aload_n 0, [], 0), (26, 3, .getfield 331, [11, 51, 0], 0), (29, 3, .if_icmp .ge 71, [100], 0), (32, 1, .aload_n 0, [], 0), (33, 3, .getfield 86, [11, 48, 2], 0), (36, 1, .iload_n 2, [], 0), (37, 1, .iaload, [], 0), (38, 1, .aload_n 0, [], 0), (39, 3, .getfield 89, [11, 49, 2], 0), (42, 2, .iload 6, [], 0), (44, 1, .iaload, [], 0), (45, 1, .ishr, [], 0), (46, 1, .iconst 1, [], 0), (47, 1, .iand, [], 0), (48, 1, .iconst 1, [], 0), (49, 3, .if_icmp .ne 7, [56], 0), (52, 1, .iconst 1, [], 0), (53, 3, .goto 4, [57], 0)]
set_option maxRecDepth 20000 in
theorem b231_23 : z_blk 231 23 56 B231_23 = true := by decide +kernel
def B231_56 : List zOp := [(56, 1, .iconst 0, [], 0)]
set_option maxRecDepth 20000 in
theorem b231_56 : z_blk 231 56 57 B231_56 = true := by decide +kernel
def B231_57 : List zOp := [(57, 2, .istore 7, [], 0), (59, 2, .iload 7, [], 0), (61, 3, .ifCond .eq 10, [71], 0), (64, 2, .iload 5, [], 0), (66, 1, .iconst 1, [], 0), (67, 1, .iadd, [], 0), (68, 3, .goto 4, [72], 0)]
set_option maxRecDepth 20000 in
theorem b231_57 : z_blk 231 57 71 B231_57 = true := by decide +kernel
def B231_71 : List zOp := [(71, 1, .iconst 0, [], 0)]
set_option maxRecDepth 20000 in
theorem b231_71 : z_blk 231 71 72 B231_71 = true := by decide +kernel
def B231_72 : List zOp := [(72, 2, .istore 5, [], 0), (74, 2, .iload 7, [], 0), (76, 3, .ifCond .eq 7, [83], 0), (79, 1, .iload_n 3, [], 0), (80, 1, .iconst 1, [], 0), (81, 1, .iadd, [], 0), (82, 1, .istore_n 3, [], 0)]
set_option maxRecDepth 20000 in
theorem b231_72 : z_blk 231 72 83 B231_72 = true := by decide +kernel
def B231_83 : List zOp := [(83, 2, .iload 5, [], 0), (85, 2, .iload 4, [], 0), (87, 3, .if_icmp .le 7, [94], 0), (90, 2, .iload 5, [], 0), (92, 2, .istore 4, [], 0)]
set_option maxRecDepth 20000 in
theorem b231_83 : z_blk 231 83 94 B231_83 = true := by decide +kernel
def B231_94 : List zOp := [(94, 3, .iinc 6 1, [], 0), (97, 3, .goto (-74), [23], 0)]
set_option maxRecDepth 20000 in
theorem b231_94 : z_blk 231 94 100 B231_94 = true := by decide +kernel
def B231_100 : List zOp := [(100, 1, .iload_n 1, [], 0), (101, 1, .iload_n 3, [], 0), (102, 1, .iadd, [], 0), (103, 2, .iload 4, [], 0), (105, 1, .isub, [], 0), (106, 1, .istore_n 1, [], 0), (107, 3, .iinc 2 1, [], 0), (110, 3, .goto (-106), [4], 0)]
set_option maxRecDepth 20000 in
theorem b231_100 : z_blk 231 100 113 B231_100 = true := by decide +kernel
def B231_113 : List zOp := [(113, 1, .iload_n 1, [], 0), (114, 1, .ireturn, [0], 0)]
set_option maxRecDepth 20000 in
theorem b231_113 : z_blk 231 113 115 B231_113 = true := by decide +kernel
-- 232 yX11_nextOrder
def B232_0 : List zOp := [(0, 1, .aload_n 0, [], 0), (1, 3, .getfield 331, [11, 51, 0], 0), (4, 1, .iconst 2, [], 0), (5, 1, .isub, [], 0), (6, 1, .istore_n 1, [], 0)]
set_option maxRecDepth 20000 in
theorem b232_0 : z_blk 232 0 7 B232_0 = true := by decide +kernel
def B232_7 : List zOp := [(7, 1, .iload_n 1, [], 0), (8, 3, .ifCond .lt 27, [35], 0), (11, 1, .aload_n 0, [], 0), (12, 3, .getfield 89, [11, 49, 2], 0), (15, 1, .iload_n 1, [], 0), (16, 1, .iaload, [], 0), (17, 1, .aload_n 0, [], 0), (18, 3, .getfield 89, [11, 49, 2], 0), (21, 1, .iload_n 1, [], 0), (22, 1, .iconst 1, [], 0), (23, 1, .iadd, [], 0), (24, 1, .iaload, [], 0), (25, 3, .if_icmp .le 10, [35], 0), (28, 1, .iload_n 1, [], 0), (29, 1, .iconst 1, [], 0), (30, 1, .isub, [], 0), (31, 1, .istore_n 1, [], 0), (32, 3, .goto (-25), [7], 0)]
set_option maxRecDepth 20000 in
theorem b232_7 : z_blk 232 7 35 B232_7 = true := by decide +kernel
def B232_35 : List zOp := [(35, 1, .iload_n 1, [], 0), (36, 3, .ifCond .ge 5, [41], 0), (39, 1, .iconst 0, [], 0), (40, 1, .ireturn, [3], 0)]
set_option maxRecDepth 20000 in
theorem b232_35 : z_blk 232 35 41 B232_35 = true := by decide +kernel
def B232_41 : List zOp := [(41, 1, .aload_n 0, [], 0), (42, 3, .getfield 331, [11, 51, 0], 0), (45, 1, .iconst 1, [], 0), (46, 1, .isub, [], 0), (47, 1, .istore_n 2, [], 0)]
set_option maxRecDepth 20000 in
theorem b232_41 : z_blk 232 41 48 B232_41 = true := by decide +kernel
def B232_48 : List zOp := [(48, 1, .aload_n 0, [], 0), (49, 3, .getfield 89, [11, 49, 2], 0), (52, 1, .iload_n 2, [], 0), (53, 1, .iaload, [], 0), (54, 1, .aload_n 0, [], 0), (55, 3, .getfield 89, [11, 49, 2], 0), (58, 1, .iload_n 1, [], 0), (59, 1, .iaload, [], 0), (60, 3, .if_icmp .ge 10, [70], 0), (63, 1, .iload_n 2, [], 0), (64, 1, .iconst 1, [], 0), (65, 1, .isub, [], 0), (66, 1, .istore_n 2, [], 0), (67, 3, .goto (-19), [48], 0)]
set_option maxRecDepth 20000 in
theorem b232_48 : z_blk 232 48 70 B232_48 = true := by decide +kernel
def B232_70 : List zOp := [(70, 1, .aload_n 0, [], 0), (71, 3, .getfield 89, [11, 49, 2], 0), (74, 1, .iload_n 1, [], 0), (75, 1, .iaload, [], 0), (76, 1, .istore_n 3, [], 0), (77, 1, .aload_n 0, [], 0), (78, 3, .getfield 89, [11, 49, 2], 0), (81, 1, .iload_n 1, [], 0), (82, 1, .aload_n 0, [], 0), (83, 3, .getfield 89, [11, 49, 2], 0), (86, 1, .iload_n 2, [], 0), (87, 1, .iaload, [], 0), (88, 1, .iastore, [], 0), (89, 1, .aload_n 0, [], 0), (90, 3, .getfield 89, [11, 49, 2], 0), (93, 1, .iload_n 2, [], 0), (94, 1, .iload_n 3, [], 0), (95, 1, .iastore, [], 0), (96, 1, .iload_n 1, [], 0), (97, 1, .iconst 1, [], 0), (98, 1, .iadd, [], 0), (99, 2, .istore 4, [], 0), (101, 1, .aload_n 0, [], 0), (102, 3, .getfield 331, [11, 51, 0], 0), (105, 1, .iconst 1, [], 0), (106, 1, .isub, [], 0), (107, 2, .istore 5, [], 0)]
set_option maxRecDepth 20000 in
theorem b232_70 : z_blk 232 70 109 B232_70 = true := by decide +kernel
def B232_109 : List zOp := [(109, 2, .iload 4, [], 0), (111, 2, .iload 5, [], 0), (113, 3, .if_icmp .ge 48, [161], 0), (116, 1, .aload_n 0, [], 0), (117, 3, .getfield 89, [11, 49, 2], 0), (120, 2, .iload 4, [], 0), (122, 1, .iaload, [], 0), (123, 1, .istore_n 3, [], 0), (124, 1, .aload_n 0, [], 0), (125, 3, .getfield 89, [11, 49, 2], 0), (128, 2, .iload 4, [], 0), (130, 1, .aload_n 0, [], 0), (131, 3, .getfield 89, [11, 49, 2], 0), (134, 2, .iload 5, [], 0), (136, 1, .iaload, [], 0), (137, 1, .iastore, [], 0), (138, 1, .aload_n 0, [], 0), (139, 3, .getfield 89, [11, 49, 2], 0), (142, 2, .iload 5, [], 0), (144, 1, .iload_n 3, [], 0), (145, 1, .iastore, [], 0), (146, 2, .iload 4, [], 0), (148, 1, .iconst 1, [], 0), (149, 1, .iadd, [], 0), (150, 2, .istore 4, [], 0), (152, 2, .iload 5, [], 0), (154, 1, .iconst 1, [], 0), (155, 1, .isub, [], 0), (156, 2, .istore 5, [], 0), (158, 3, .goto (-49), [109], 0)]
set_option maxRecDepth 20000 in
theorem b232_109 : z_blk 232 109 161 B232_109 = true := by decide +kernel
def B232_161 : List zOp := [(161, 1, .iconst 1, [], 0), (162, 1, .ireturn, [3], 0)]
set_option maxRecDepth 20000 in
theorem b232_161 : z_blk 232 161 163 B232_161 = true := by decide +kernel
-- 233 yX11_ones
def B233_0 : List zOp := [(0, 1, .iconst 0, [], 0), (1, 1, .istore_n 2, [], 0), (2, 1, .iload_n 1, [], 0), (3, 1, .istore_n 3, [], 0)]
set_option maxRecDepth 20000 in
theorem b233_0 : z_blk 233 0 4 B233_0 = true := by decide +kernel
def B233_4 : List zOp := [(4, 1, .iload_n 3, [], 0), (5, 3, .ifCond .eq 16, [21], 0), (8, 1, .iload_n 2, [], 0), (9, 1, .iconst 1, [], 0), (10, 1, .iadd, [], 0), (11, 1, .istore_n 2, [], 0), (12, 1, .iload_n 3, [], 0), (13, 1, .iload_n 3, [], 0), (14, 1, .iconst 1, [], 0), (15, 1, .isub, [], 0), (16, 1, .iand, [], 0), (17, 1, .istore_n 3, [], 0), (18, 3, .goto (-14), [4], 0)]
set_option maxRecDepth 20000 in
theorem b233_4 : z_blk 233 4 21 B233_4 = true := by decide +kernel
def B233_21 : List zOp := [(21, 1, .iload_n 2, [], 0), (22, 1, .ireturn, [0], 0)]
set_option maxRecDepth 20000 in
theorem b233_21 : z_blk 233 21 23 B233_21 = true := by decide +kernel
-- 234 yX11_crosses
def B234_0 : List zOp := [(0, 1, .aload_n 0, [], 0), (1, 1, .iconst 0, [], 0), (2, 3, .putfield 113, [11, 0, 0], 0), (5, 1, .aload_n 0, [], 0), (6, 1, .iload_n 1, [], 0), (7, 1, .iload_n 2, [], 0), (8, 1, .iload_n 3, [], 0), (9, 3, .invokevirtual 322, [227, 3, 11], 0), (12, 3, .ifCond .eq 13, [25], 0), (15, 1, .aload_n 0, [], 0), (16, 1, .iload_n 2, [], 0), (17, 3, .invokevirtual 334, [233, 1, 11], 0), (20, 2, .bipush 8, [], 0), (22, 3, .if_icmp .le 5, [27], 0)]
set_option maxRecDepth 20000 in
theorem b234_0 : z_blk 234 0 25 B234_0 = true := by decide +kernel
def B234_25 : List zOp := [(25, 1, .iconst (-1), [], 0), (26, 1, .ireturn, [0], 0)]
set_option maxRecDepth 20000 in
theorem b234_25 : z_blk 234 25 27 B234_25 = true := by decide +kernel
def B234_27 : List zOp := [(27, 1, .aload_n 0, [], 0), (28, 1, .iload_n 1, [], 0), (29, 3, .invokevirtual 261, [198, 1, 11], 0), (32, 1, .aload_n 0, [], 0), (33, 1, .iload_n 2, [], 0), (34, 1, .iload_n 3, [], 0), (35, 3, .invokevirtual 316, [224, 2, 11], 0), (38, 1, .aload_n 0, [], 0), (39, 1, .iconst 0, [], 0), (40, 3, .putfield 331, [11, 51, 0], 0), (43, 1, .iconst 0, [], 0), (44, 2, .istore 5, [], 0)]
set_option maxRecDepth 20000 in
theorem b234_27 : z_blk 234 27 46 B234_27 = true := by decide +kernel
def B234_46 : List zOp := [(46, 2, .iload 5, [], 0), (48, 1, .aload_n 0, [], 0), (49, 3, .getfield 116, [11, 1, 0], 0), (52, 3, .if_icmp .ge 42, [94], 0), (55, 1, .iload_n 2, [], 0), (56, 2, .iload 5, [], 0), (58, 1, .ishr, [], 0), (59, 1, .iconst 1, [], 0), (60, 1, .iand, [], 0), (61, 3, .ifCond .ne 6, [67], 0), (64, 3, .goto 24, [88], 0)]
set_option maxRecDepth 20000 in
theorem b234_46 : z_blk 234 46 67 B234_46 = true := by decide +kernel
def B234_67 : List zOp := [(67, 1, .aload_n 0, [], 0), (68, 3, .getfield 89, [11, 49, 2], 0), (71, 1, .aload_n 0, [], 0), (72, 3, .getfield 331, [11, 51, 0], 0), (75, 2, .iload 5, [], 0), (77, 1, .iastore, [], 0), (78, 1, .aload_n 0, [], 0), (79, 1, .aload_n 0, [], 0), (80, 3, .getfield 331, [11, 51, 0], 0), (83, 1, .iconst 1, [], 0), (84, 1, .iadd, [], 0), (85, 3, .putfield 331, [11, 51, 0], 0)]
set_option maxRecDepth 20000 in
theorem b234_67 : z_blk 234 67 88 B234_67 = true := by decide +kernel
def B234_88 : List zOp := [(88, 3, .iinc 5 1, [], 0), (91, 3, .goto (-45), [46], 0)]
set_option maxRecDepth 20000 in
theorem b234_88 : z_blk 234 88 94 B234_88 = true := by decide +kernel
def B234_94 : List zOp := [(94, 1, .aload_n 0, [], 0), (95, 1, .iconst (-1), [], 0), (96, 3, .putfield 337, [11, 52, 0], 0), (99, 1, .iconst 1, [], 0), (100, 2, .istore 5, [], 0)]
set_option maxRecDepth 20000 in
theorem b234_94 : z_blk 234 94 102 B234_94 = true := by decide +kernel
def B234_102 : List zOp := [(102, 2, .iload 5, [], 0), (104, 3, .ifCond .eq 73, [177], 0), (107, 1, .aload_n 0, [], 0), (108, 3, .invokevirtual 340, [231, 0, 11], 0), (111, 2, .istore 6, [], 0), (113, 1, .aload_n 0, [], 0), (114, 3, .getfield 337, [11, 52, 0], 0), (117, 1, .iconst (-1), [], 0), (118, 3, .if_icmp .eq 12, [130], 0), (121, 2, .iload 6, [], 0), (123, 1, .aload_n 0, [], 0), (124, 3, .getfield 337, [11, 52, 0], 0), (127, 3, .if_icmp .ge 41, [168], 0)]
set_option maxRecDepth 20000 in
theorem b234_102 : z_blk 234 102 130 B234_102 = true := by decide +kernel
def B234_130 : List zOp := [(130, 1, .aload_n 0, [], 0), (131, 2, .iload 6, [], 0), (133, 3, .putfield 337, [11, 52, 0], 0), (136, 1, .iconst 0, [], 0), (137, 2, .istore 7, [], 0)]
set_option maxRecDepth 20000 in
theorem b234_130 : z_blk 234 130 139 B234_130 = true := by decide +kernel
def B234_139 : List zOp := [(139, 2, .iload 7, [], 0), (141, 1, .aload_n 0, [], 0), (142, 3, .getfield 331, [11, 51, 0], 0), (145, 3, .if_icmp .ge 23, [168], 0), (148, 1, .aload_n 0, [], 0), (149, 3, .getfield 92, [11, 50, 2], 0), (152, 2, .iload 7, [], 0), (154, 1, .aload_n 0, [], 0), (155, 3, .getfield 89, [11, 49, 2], 0), (158, 2, .iload 7, [], 0), (160, 1, .iaload, [], 0), (161, 1, .iastore, [], 0), (162, 3, .iinc 7 1, [], 0), (165, 3, .goto (-26), [139], 0)]
set_option maxRecDepth 20000 in
theorem b234_139 : z_blk 234 139 168 B234_139 = true := by decide +kernel
def B234_168 : List zOp := [(168, 1, .aload_n 0, [], 0), (169, 3, .invokevirtual 343, [232, 0, 11], 0), (172, 2, .istore 5, [], 0), (174, 3, .goto (-72), [102], 0)]
set_option maxRecDepth 20000 in
theorem b234_168 : z_blk 234 168 177 B234_168 = true := by decide +kernel
def B234_177 : List zOp := [(177, 2, .iload 4, [], 0), (179, 3, .ifCond .ne 8, [187], 0), (182, 1, .aload_n 0, [], 0), (183, 3, .getfield 337, [11, 52, 0], 0), (186, 1, .ireturn, [0], 0)]
set_option maxRecDepth 20000 in
theorem b234_177 : z_blk 234 177 187 B234_177 = true := by decide +kernel
def B234_187 : List zOp := [(187, 1, .aload_n 0, [], 0), (188, 2, .iload 4, [], 0), (190, 2, .bipush 10, [], 0), (192, 2, .bipush 9, [], 0), (194, 1, .aload_n 0, [], 0), (195, 3, .getfield 331, [11, 51, 0], 0), (198, 1, .iadd, [], 0), (199, 3, .invokevirtual 119, [160, 3, 11], 0), (202, 3, .ifCond .eq 16, [218], 0), (205, 1, .aload_n 0, [], 0), (206, 3, .getfield 92, [11, 50, 2], 0), (209, 2, .iload 4, [], 0), (211, 2, .bipush 10, [], 0), (213, 1, .isub, [], 0), (214, 1, .iaload, [], 0), (215, 3, .goto 4, [219], 0)]
set_option maxRecDepth 20000 in
theorem b234_187 : z_blk 234 187 218 B234_187 = true := by decide +kernel
def B234_218 : List zOp := [(218, 1, .iconst (-1), [], 0)]
set_option maxRecDepth 20000 in
theorem b234_218 : z_blk 234 218 219 B234_218 = true := by decide +kernel
def B234_219 : List zOp := [(219, 1, .ireturn, [0], 0)]
set_option maxRecDepth 20000 in
theorem b234_219 : z_blk 234 219 220 B234_219 = true := by decide +kernel
-- 235 yX11_cost
def B235_0 : List zOp := [(0, 1, .aload_n 0, [], 0), (1, 1, .iconst 0, [], 0), (2, 3, .putfield 113, [11, 0, 0], 0), (5, 1, .aload_n 0, [], 0), (6, 1, .iload_n 1, [], 0), (7, 1, .iconst 0, [], 0), (8, 2, .bipush 11, [], 0), (10, 3, .invokevirtual 119, [160, 3, 11], 0), (13, 3, .ifCond .eq 14, [27], 0), (16, 1, .aload_n 0, [], 0), (17, 1, .iload_n 2, [], 0), (18, 1, .iconst 1, [], 0), (19, 2, .bipush 9, [], 0), (21, 3, .invokevirtual 119, [160, 3, 11], 0), (24, 3, .ifCond .ne 5, [29], 0)]
set_option maxRecDepth 20000 in
theorem b235_0 : z_blk 235 0 27 B235_0 = true := by decide +kernel
def B235_27 : List zOp := [(27, 1, .iconst 0, [], 0), (28, 1, .ireturn, [3], 0)]
set_option maxRecDepth 20000 in
theorem b235_27 : z_blk 235 27 29 B235_27 = true := by decide +kernel
def B235_29 : List zOp := [(29, 1, .aload_n 0, [], 0), (30, 3, .getfield 95, [11, 53, 2], 0), (33, 1, .iload_n 1, [], 0), (34, 1, .iload_n 2, [], 0), (35, 1, .iastore, [], 0), (36, 1, .iconst 1, [], 0), (37, 1, .ireturn, [3], 0)]
set_option maxRecDepth 20000 in
theorem b235_29 : z_blk 235 29 38 B235_29 = true := by decide +kernel
-- 236 yX11_findSplits
def B236_0 : List zOp := [(0, 1, .iconst 0, [], 0), (1, 1, .istore_n 1, [], 0)]
set_option maxRecDepth 20000 in
theorem b236_0 : z_blk 236 0 2 B236_0 = true := by decide +kernel
def B236_2 : List zOp := [(2, 1, .iload_n 1, [], 0), (3, 1, .aload_n 0, [], 0), (4, 3, .getfield 242, [11, 17, 0], 0), (7, 3, .if_icmp .ge 96, [103], 0), (10, 1, .aload_n 0, [], 0), (11, 3, .getfield 107, [11, 57, 2], 0), (14, 1, .iload_n 1, [], 0), (15, 1, .iconst 0, [], 0), (16, 1, .iastore, [], 0), (17, 1, .aload_n 0, [], 0), (18, 3, .getfield 110, [11, 58, 2], 0), (21, 1, .iload_n 1, [], 0), (22, 1, .iconst 0, [], 0), (23, 1, .iastore, [], 0), (24, 1, .iconst 0, [], 0), (25, 1, .istore_n 2, [], 0)]
set_option maxRecDepth 20000 in
theorem b236_2 : z_blk 236 2 26 B236_2 = true := by decide +kernel
def B236_26 : List zOp := [(26, 1, .iload_n 2, [], 0), (27, 1, .aload_n 0, [], 0), (28, 3, .getfield 116, [11, 1, 0], 0), (31, 3, .if_icmp .ge 66, [97], 0), (34, 1, .aload_n 0, [], 0), (35, 1, .iload_n 1, [], 0), (36, 1, .iload_n 2, [], 0), (37, 1, .aload_n 0, [], 0), (38, 3, .getfield 133, [11, 8, 0], 0), (41, 1, .aload_n 0, [], 0), (42, 3, .getfield 25, [11, 9, 0], 0), (45, 3, .invokevirtual 255, [196, 4, 11], 0), (48, 1, .istore_n 3, [], 0), (49, 1, .iload_n 3, [], 0), (50, 1, .iconst 1, [], 0), (51, 3, .if_icmp .ne 19, [70], 0), (54, 1, .aload_n 0, [], 0), (55, 3, .getfield 107, [11, 57, 2], 0), (58, 1, .iload_n 1, [], 0), (59, 1, .aload_n 0, [], 0), (60, 3, .getfield 107, [11, 57, 2], 0), (63, 1, .iload_n 1, [], 0), (64, 1, .iaload, [], 0), (65, 1, .iconst 1, [], 0), (66, 1, .iload_n 2, [], 0), (67, 1, .ishl, [], 0), (68, 1, .ior, [], 0), (69, 1, .iastore, [], 0)]
set_option maxRecDepth 20000 in
theorem b236_26 : z_blk 236 26 70 B236_26 = true := by decide +kernel
def B236_70 : List zOp := [(70, 1, .iload_n 3, [], 0), (71, 1, .iconst 2, [], 0), (72, 3, .if_icmp .ne 19, [91], 0), (75, 1, .aload_n 0, [], 0), (76, 3, .getfield 110, [11, 58, 2], 0), (79, 1, .iload_n 1, [], 0), (80, 1, .aload_n 0, [], 0), (81, 3, .getfield 110, [11, 58, 2], 0), (84, 1, .iload_n 1, [], 0), (85, 1, .iaload, [], 0), (86, 1, .iconst 1, [], 0), (87, 1, .iload_n 2, [], 0), (88, 1, .ishl, [], 0), (89, 1, .ior, [], 0), (90, 1, .iastore, [], 0)]
set_option maxRecDepth 20000 in
theorem b236_70 : z_blk 236 70 91 B236_70 = true := by decide +kernel
def B236_91 : List zOp := [(91, 3, .iinc 2 1, [], 0), (94, 3, .goto (-68), [26], 0)]
set_option maxRecDepth 20000 in
theorem b236_91 : z_blk 236 91 97 B236_91 = true := by decide +kernel
def B236_97 : List zOp := [(97, 3, .iinc 1 1, [], 0), (100, 3, .goto (-98), [2], 0)]
set_option maxRecDepth 20000 in
theorem b236_97 : z_blk 236 97 103 B236_97 = true := by decide +kernel
def B236_103 : List zOp := [(103, 1, .return_, [], 0)]
set_option maxRecDepth 20000 in
theorem b236_103 : z_blk 236 103 104 B236_103 = true := by decide +kernel
-- 237 yX11_findKey
def B237_0 : List zOp := [(0, 1, .aload_n 0, [], 0), (1, 3, .getfield 98, [11, 54, 2], 0), (4, 1, .iload_n 1, [], 0), (5, 1, .iconst 0, [], 0), (6, 1, .iastore, [], 0), (7, 1, .aload_n 0, [], 0), (8, 3, .getfield 101, [11, 55, 2], 0), (11, 1, .iload_n 1, [], 0), (12, 1, .iconst (-1), [], 0), (13, 1, .iastore, [], 0), (14, 1, .aload_n 0, [], 0), (15, 3, .getfield 104, [11, 56, 2], 0), (18, 1, .iload_n 1, [], 0), (19, 1, .iconst 1, [], 0), (20, 1, .iastore, [], 0), (21, 1, .iconst 0, [], 0), (22, 1, .istore_n 2, [], 0)]
set_option maxRecDepth 20000 in
theorem b237_0 : z_blk 237 0 23 B237_0 = true := by decide +kernel
def B237_23 : List zOp := [(23, 1, .iload_n 2, [], 0), (24, 1, .aload_n 0, [], 0), (25, 3, .getfield 242, [11, 17, 0], 0), (28, 3, .if_icmp .ge 153, [181], 0), (31, 1, .iload_n 1, [], 0), (32, 1, .aload_n 0, [], 0), (33, 3, .getfield 107, [11, 57, 2], 0), (36, 1, .iload_n 2, [], 0), (37, 1, .iaload, [], 0), (38, 1, .iand, [], 0), (39, 1, .istore_n 3, [], 0), (40, 1, .iload_n 1, [], 0), (41, 1, .aload_n 0, [], 0), (42, 3, .getfield 107, [11, 57, 2], 0), (45, 1, .iload_n 2, [], 0), (46, 1, .iaload, [], 0), (47, 1, .iconst (-1), [], 0), (48, 1, .ixor, [], 0), (49, 1, .iand, [], 0), (50, 2, .istore 4, [], 0), (52, 1, .iload_n 1, [], 0), (53, 1, .aload_n 0, [], 0), (54, 3, .getfield 110, [11, 58, 2], 0), (57, 1, .iload_n 2, [], 0), (58, 1, .iaload, [], 0), (59, 1, .iand, [], 0), (60, 3, .ifCond .ne 115, [175], 0), (63, 1, .iload_n 3, [], 0), (64, 3, .ifCond .eq 111, [175], 0), (67, 2, .iload 4, [], 0), (69, 3, .ifCond .ne 6, [75], 0), (72, 3, .goto 103, [175], 0)]
set_option maxRecDepth 20000 in
theorem b237_23 : z_blk 237 23 75 B237_23 = true := by decide +kernel
def B237_75 : List zOp := [(75, 1, .aload_n 0, [], 0), (76, 3, .getfield 95, [11, 53, 2], 0), (79, 1, .iload_n 2, [], 0), (80, 1, .iaload, [], 0), (81, 1, .aload_n 0, [], 0), (82, 3, .getfield 98, [11, 54, 2], 0), (85, 1, .iload_n 3, [], 0), (86, 1, .iaload, [], 0), (87, 1, .aload_n 0, [], 0), (88, 3, .getfield 98, [11, 54, 2], 0), (91, 2, .iload 4, [], 0), (93, 1, .iaload, [], 0), (94, 3, .if_icmp .le 12, [106], 0), (97, 1, .aload_n 0, [], 0), (98, 3, .getfield 98, [11, 54, 2], 0), (101, 1, .iload_n 3, [], 0), (102, 1, .iaload, [], 0), (103, 3, .goto 10, [113], 0)]
set_option maxRecDepth 20000 in
theorem b237_75 : z_blk 237 75 106 B237_75 = true := by decide +kernel
def B237_106 : List zOp := [(106, 1, .aload_n 0, [], 0), (107, 3, .getfield 98, [11, 54, 2], 0), (110, 2, .iload 4, [], 0), (112, 1, .iaload, [], 0)]
set_option maxRecDepth 20000 in
theorem b237_106 : z_blk 237 106 113 B237_106 = true := by decide +kernel
def B237_113 : List zOp := [(113, 1, .iadd, [], 0), (114, 2, .istore 5, [], 0), (116, 1, .aload_n 0, [], 0), (117, 3, .getfield 101, [11, 55, 2], 0), (120, 1, .iload_n 1, [], 0), (121, 1, .iaload, [], 0), (122, 1, .iconst (-1), [], 0), (123, 3, .if_icmp .eq 17, [140], 0), (126, 2, .iload 5, [], 0), (128, 1, .aload_n 0, [], 0), (129, 3, .getfield 98, [11, 54, 2], 0), (132, 1, .iload_n 1, [], 0), (133, 1, .iaload, [], 0), (134, 3, .if_icmp .lt 6, [140], 0), (137, 3, .goto 38, [175], 0)]
set_option maxRecDepth 20000 in
theorem b237_113 : z_blk 237 113 140 B237_113 = true := by decide +kernel
def B237_140 : List zOp := [(140, 1, .aload_n 0, [], 0), (141, 3, .getfield 98, [11, 54, 2], 0), (144, 1, .iload_n 1, [], 0), (145, 2, .iload 5, [], 0), (147, 1, .iastore, [], 0), (148, 1, .aload_n 0, [], 0), (149, 3, .getfield 101, [11, 55, 2], 0), (152, 1, .iload_n 1, [], 0), (153, 1, .iload_n 2, [], 0), (154, 1, .iastore, [], 0), (155, 1, .aload_n 0, [], 0), (156, 3, .getfield 104, [11, 56, 2], 0), (159, 1, .iload_n 1, [], 0), (160, 1, .aload_n 0, [], 0), (161, 3, .getfield 104, [11, 56, 2], 0), (164, 1, .iload_n 3, [], 0), (165, 1, .iaload, [], 0), (166, 1, .aload_n 0, [], 0), (167, 3, .getfield 104, [11, 56, 2], 0), (170, 2, .iload 4, [], 0), (172, 1, .iaload, [], 0), (173, 1, .iadd, [], 0), (174, 1, .iastore, [], 0)]
set_option maxRecDepth 20000 in
theorem b237_140 : z_blk 237 140 175 B237_140 = true := by decide +kernel
def B237_175 : List zOp := [(175, 3, .iinc 2 1, [], 0), (178, 3, .goto (-155), [23], 0)]
set_option maxRecDepth 20000 in
theorem b237_175 : z_blk 237 175 181 B237_175 = true := by decide +kernel
def B237_181 : List zOp := [(181, 1, .return_, [], 0)]
set_option maxRecDepth 20000 in
theorem b237_181 : z_blk 237 181 182 B237_181 = true := by decide +kernel
-- 238 yX11_findKeys
def B238_0 : List zOp := [(0, 1, .aload_n 0, [], 0), (1, 3, .invokevirtual 346, [236, 0, 11], 0), (4, 1, .iconst 0, [], 0), (5, 1, .istore_n 2, [], 0)]
set_option maxRecDepth 20000 in
theorem b238_0 : z_blk 238 0 6 B238_0 = true := by decide +kernel
def B238_6 : List zOp := [(6, 1, .iload_n 2, [], 0), (7, 1, .iload_n 1, [], 0), (8, 3, .if_icmp .eq 17, [25], 0), (11, 1, .iload_n 2, [], 0), (12, 1, .iload_n 1, [], 0), (13, 1, .isub, [], 0), (14, 1, .iload_n 1, [], 0), (15, 1, .iand, [], 0), (16, 1, .istore_n 2, [], 0), (17, 1, .aload_n 0, [], 0), (18, 1, .iload_n 2, [], 0), (19, 3, .invokevirtual 349, [237, 1, 11], 0), (22, 3, .goto (-16), [6], 0)]
set_option maxRecDepth 20000 in
theorem b238_6 : z_blk 238 6 25 B238_6 = true := by decide +kernel
def B238_25 : List zOp := [(25, 1, .return_, [], 0)]
set_option maxRecDepth 20000 in
theorem b238_25 : z_blk 238 25 26 B238_25 = true := by decide +kernel
-- 239 yX11_key
def B239_0 : List zOp := [(0, 1, .aload_n 0, [], 0), (1, 1, .iconst 0, [], 0), (2, 3, .putfield 113, [11, 0, 0], 0), (5, 1, .aload_n 0, [], 0), (6, 1, .iload_n 1, [], 0), (7, 3, .invokevirtual 313, [201, 1, 11], 0), (10, 3, .ifCond .eq 17, [27], 0), (13, 1, .iload_n 1, [], 0), (14, 3, .ifCond .eq 13, [27], 0), (17, 1, .aload_n 0, [], 0), (18, 1, .iload_n 2, [], 0), (19, 1, .iconst 0, [], 0), (20, 1, .iconst 2, [], 0), (21, 3, .invokevirtual 119, [160, 3, 11], 0), (24, 3, .ifCond .ne 5, [29], 0)]
set_option maxRecDepth 20000 in
theorem b239_0 : z_blk 239 0 27 B239_0 = true := by decide +kernel
def B239_27 : List zOp := [(27, 1, .iconst (-1), [], 0), (28, 1, .ireturn, [0], 0)]
set_option maxRecDepth 20000 in
theorem b239_27 : z_blk 239 27 29 B239_27 = true := by decide +kernel
def B239_29 : List zOp := [(29, 1, .aload_n 0, [], 0), (30, 1, .iload_n 1, [], 0), (31, 3, .invokevirtual 352, [238, 1, 11], 0), (34, 1, .iload_n 2, [], 0), (35, 3, .ifCond .ne 12, [47], 0), (38, 1, .aload_n 0, [], 0), (39, 3, .getfield 98, [11, 54, 2], 0), (42, 1, .iload_n 1, [], 0), (43, 1, .iaload, [], 0), (44, 3, .goto 23, [67], 0)]
set_option maxRecDepth 20000 in
theorem b239_29 : z_blk 239 29 47 B239_29 = true := by decide +kernel
def B239_47 : List zOp := [(47, 1, .iload_n 2, [], 0), (48, 1, .iconst 1, [], 0), (49, 3, .if_icmp .ne 12, [61], 0), (52, 1, .aload_n 0, [], 0), (53, 3, .getfield 101, [11, 55, 2], 0), (56, 1, .iload_n 1, [], 0), (57, 1, .iaload, [], 0), (58, 3, .goto 9, [67], 0)]
set_option maxRecDepth 20000 in
theorem b239_47 : z_blk 239 47 61 B239_47 = true := by decide +kernel
def B239_61 : List zOp := [(61, 1, .aload_n 0, [], 0), (62, 3, .getfield 104, [11, 56, 2], 0), (65, 1, .iload_n 1, [], 0), (66, 1, .iaload, [], 0)]
set_option maxRecDepth 20000 in
theorem b239_61 : z_blk 239 61 67 B239_61 = true := by decide +kernel
def B239_67 : List zOp := [(67, 1, .ireturn, [0], 0)]
set_option maxRecDepth 20000 in
theorem b239_67 : z_blk 239 67 68 B239_67 = true := by decide +kernel
-- 240 yX11_path
def B240_0 : List zOp := [(0, 1, .aload_n 0, [], 0), (1, 1, .iconst 0, [], 0), (2, 3, .putfield 113, [11, 0, 0], 0), (5, 1, .aload_n 0, [], 0), (6, 1, .iload_n 1, [], 0), (7, 3, .invokevirtual 313, [201, 1, 11], 0), (10, 3, .ifCond .eq 19, [29], 0), (13, 1, .aload_n 0, [], 0), (14, 1, .iload_n 2, [], 0), (15, 3, .invokevirtual 123, [161, 1, 11], 0), (18, 3, .ifCond .eq 11, [29], 0), (21, 1, .iload_n 1, [], 0), (22, 1, .iload_n 2, [], 0), (23, 1, .ishr, [], 0), (24, 1, .iconst 1, [], 0), (25, 1, .iand, [], 0), (26, 3, .ifCond .ne 5, [31], 0)]
set_option maxRecDepth 20000 in
theorem b240_0 : z_blk 240 0 29 B240_0 = true := by decide +kernel
def B240_29 : List zOp := [(29, 1, .iconst (-1), [], 0), (30, 1, .ireturn, [0], 0)]
set_option maxRecDepth 20000 in
theorem b240_29 : z_blk 240 29 31 B240_29 = true := by decide +kernel
def B240_31 : List zOp := [(31, 1, .aload_n 0, [], 0), (32, 1, .iload_n 1, [], 0), (33, 3, .invokevirtual 352, [238, 1, 11], 0), (36, 1, .iload_n 1, [], 0), (37, 2, .istore 4, [], 0), (39, 1, .iconst 0, [], 0), (40, 2, .istore 5, [], 0), (42, 1, .iconst 0, [], 0), (43, 2, .istore 6, [], 0), (45, 1, .iconst (-1), [], 0), (46, 2, .istore 7, [], 0)]
set_option maxRecDepth 20000 in
theorem b240_31 : z_blk 240 31 48 B240_31 = true := by decide +kernel
def B240_48 : List zOp := [(48, 1, .aload_n 0, [], 0), (49, 3, .getfield 101, [11, 55, 2], 0), (52, 2, .iload 4, [], 0), (54, 1, .iaload, [], 0), (55, 1, .iconst (-1), [], 0), (56, 3, .if_icmp .eq 88, [144], 0), (59, 1, .aload_n 0, [], 0), (60, 3, .getfield 101, [11, 55, 2], 0), (63, 2, .iload 4, [], 0), (65, 1, .iaload, [], 0), (66, 2, .istore 8, [], 0), (68, 1, .iload_n 3, [], 0), (69, 2, .bipush 10, [], 0), (71, 2, .iload 5, [], 0), (73, 1, .iadd, [], 0), (74, 3, .if_icmp .ne 7, [81], 0), (77, 2, .iload 8, [], 0), (79, 2, .istore 7, [], 0)]
set_option maxRecDepth 20000 in
theorem b240_48 : z_blk 240 48 81 B240_48 = true := by decide +kernel
def B240_81 : List zOp := [(81, 2, .iload 5, [], 0), (83, 1, .iconst 1, [], 0), (84, 1, .iadd, [], 0), (85, 2, .istore 5, [], 0), (87, 2, .iload 6, [], 0), (89, 1, .aload_n 0, [], 0), (90, 3, .getfield 95, [11, 53, 2], 0), (93, 2, .iload 8, [], 0), (95, 1, .iaload, [], 0), (96, 1, .iadd, [], 0), (97, 2, .istore 6, [], 0), (99, 1, .aload_n 0, [], 0), (100, 3, .getfield 107, [11, 57, 2], 0), (103, 2, .iload 8, [], 0), (105, 1, .iaload, [], 0), (106, 1, .iload_n 2, [], 0), (107, 1, .ishr, [], 0), (108, 1, .iconst 1, [], 0), (109, 1, .iand, [], 0), (110, 1, .iconst 1, [], 0), (111, 3, .if_icmp .ne 16, [127], 0), (114, 2, .iload 4, [], 0), (116, 1, .aload_n 0, [], 0), (117, 3, .getfield 107, [11, 57, 2], 0), (120, 2, .iload 8, [], 0), (122, 1, .iaload, [], 0), (123, 1, .iand, [], 0), (124, 3, .goto 15, [139], 0)]
set_option maxRecDepth 20000 in
theorem b240_81 : z_blk 240 81 127 B240_81 = true := by decide +kernel
def B240_127 : List zOp := [(127, 2, .iload 4, [], 0), (129, 1, .aload_n 0, [], 0), (130, 3, .getfield 107, [11, 57, 2], 0), (133, 2, .iload 8, [], 0), (135, 1, .iaload, [], 0), (136, 1, .iconst (-1), [], 0), (137, 1, .ixor, [], 0), (138, 1, .iand, [], 0)]
set_option maxRecDepth 20000 in
theorem b240_127 : z_blk 240 127 139 B240_127 = true := by decide +kernel
def B240_139 : List zOp := [(139, 2, .istore 4, [], 0), (141, 3, .goto (-93), [48], 0)]
set_option maxRecDepth 20000 in
theorem b240_139 : z_blk 240 139 144 B240_139 = true := by decide +kernel
def B240_144 : List zOp := [(144, 1, .iload_n 3, [], 0), (145, 3, .ifCond .ne 8, [153], 0), (148, 2, .iload 5, [], 0), (150, 3, .goto 25, [175], 0)]
set_option maxRecDepth 20000 in
theorem b240_144 : z_blk 240 144 153 B240_144 = true := by decide +kernel
def B240_153 : List zOp := [(153, 1, .iload_n 3, [], 0), (154, 1, .iconst 1, [], 0), (155, 3, .if_icmp .ne 8, [163], 0), (158, 2, .iload 6, [], 0), (160, 3, .goto 15, [175], 0)]
set_option maxRecDepth 20000 in
theorem b240_153 : z_blk 240 153 163 B240_153 = true := by decide +kernel
def B240_163 : List zOp := [(163, 1, .iload_n 3, [], 0), (164, 1, .iconst 2, [], 0), (165, 3, .if_icmp .ne 8, [173], 0), (168, 2, .iload 4, [], 0), (170, 3, .goto 5, [175], 0)]
set_option maxRecDepth 20000 in
theorem b240_163 : z_blk 240 163 173 B240_163 = true := by decide +kernel
def B240_173 : List zOp := [(173, 2, .iload 7, [], 0)]
set_option maxRecDepth 20000 in
theorem b240_173 : z_blk 240 173 175 B240_173 = true := by decide +kernel
def B240_175 : List zOp := [(175, 1, .ireturn, [0], 0)]
set_option maxRecDepth 20000 in
theorem b240_175 : z_blk 240 175 176 B240_175 = true := by decide +kernel
-- 241 yX11_quarrel
def B241_0 : List zOp := [(0, 1, .aload_n 0, [], 0), (1, 1, .iconst 0, [], 0), (2, 3, .putfield 113, [11, 0, 0], 0), (5, 1, .aload_n 0, [], 0), (6, 1, .iload_n 1, [], 0), (7, 3, .invokevirtual 127, [162, 1, 11], 0), (10, 3, .ifCond .eq 15, [25], 0), (13, 1, .aload_n 0, [], 0), (14, 1, .iload_n 2, [], 0), (15, 1, .iconst 0, [], 0), (16, 3, .sipush 999, [], 0), (19, 3, .invokevirtual 119, [160, 3, 11], 0), (22, 3, .ifCond .ne 5, [27], 0)]
set_option maxRecDepth 20000 in
theorem b241_0 : z_blk 241 0 25 B241_0 = true := by decide +kernel
def B241_25 : List zOp := [(25, 1, .iconst (-1), [], 0), (26, 1, .ireturn, [0], 0)]
set_option maxRecDepth 20000 in
theorem b241_25 : z_blk 241 25 27 B241_25 = true := by decide +kernel
def B241_27 : List zOp := [(27, 1, .iconst 0, [], 0), (28, 2, .istore 4, [], 0), (30, 1, .iconst 0, [], 0), (31, 2, .istore 5, [], 0)]
set_option maxRecDepth 20000 in
theorem b241_27 : z_blk 241 27 33 B241_27 = true := by decide +kernel
def B241_33 : List zOp := [(33, 2, .iload 5, [], 0), (35, 1, .aload_n 0, [], 0), (36, 3, .getfield 116, [11, 1, 0], 0), (39, 3, .if_icmp .ge 116, [155], 0), (42, 1, .iconst 0, [], 0), (43, 2, .istore 6, [], 0)]
set_option maxRecDepth 20000 in
theorem b241_33 : z_blk 241 33 45 B241_33 = true := by decide +kernel
def B241_45 : List zOp := [(45, 2, .iload 6, [], 0), (47, 2, .bipush 6, [], 0), (49, 3, .if_icmp .ge 100, [149], 0), (52, 1, .aload_n 0, [], 0), (53, 1, .iconst 0, [], 0), (54, 2, .iload 5, [], 0), (56, 2, .iload 6, [], 0), (58, 1, .iload_n 1, [], 0), (59, 3, .invokevirtual 136, [166, 4, 11], 0), (62, 2, .istore 7, [], 0), (64, 1, .aload_n 0, [], 0), (65, 1, .iconst 1, [], 0), (66, 2, .iload 5, [], 0), (68, 2, .iload 6, [], 0), (70, 1, .iload_n 1, [], 0), (71, 3, .invokevirtual 136, [166, 4, 11], 0), (74, 2, .istore 8, [], 0), (76, 2, .iload 7, [], 0), (78, 2, .iload 8, [], 0), (80, 3, .if_icmp .le 11, [91], 0), (83, 2, .iload 7, [], 0), (85, 2, .iload 8, [], 0), (87, 1, .isub, [], 0), (88, 3, .goto 8, [96], 0)]
set_option maxRecDepth 20000 in
theorem b241_45 : z_blk 241 45 91 B241_45 = true := by decide +kernel
def B241_91 : List zOp := [(91, 2, .iload 8, [], 0), (93, 2, .iload 7, [], 0), (95, 1, .isub, [], 0)]
set_option maxRecDepth 20000 in
theorem b241_91 : z_blk 241 91 96 B241_91 = true := by decide +kernel
def B241_96 : List zOp := [(96, 2, .istore 9, [], 0), (98, 2, .iload 7, [], 0), (100, 1, .iconst (-1), [], 0), (101, 3, .if_icmp .eq 42, [143], 0), (104, 2, .iload 8, [], 0), (106, 1, .iconst (-1), [], 0), (107, 3, .if_icmp .eq 36, [143], 0), (110, 2, .iload 9, [], 0), (112, 1, .iload_n 2, [], 0), (113, 3, .if_icmp .gt 6, [119], 0), (116, 3, .goto 27, [143], 0)]
set_option maxRecDepth 20000 in
theorem b241_96 : z_blk 241 96 119 B241_96 = true := by decide +kernel
def B241_119 : List zOp := [(119, 1, .iload_n 3, [], 0), (120, 2, .bipush 10, [], 0), (122, 2, .iload 4, [], 0), (124, 1, .iadd, [], 0), (125, 3, .if_icmp .ne 12, [137], 0), (128, 2, .bipush 6, [], 0), (130, 2, .iload 5, [], 0), (132, 1, .imul, [], 0), (133, 2, .iload 6, [], 0), (135, 1, .iadd, [], 0), (136, 1, .ireturn, [0], 0)]
set_option maxRecDepth 20000 in
theorem b241_119 : z_blk 241 119 137 B241_119 = true := by decide +kernel
def B241_137 : List zOp := [(137, 2, .iload 4, [], 0), (139, 1, .iconst 1, [], 0), (140, 1, .iadd, [], 0), (141, 2, .istore 4, [], 0)]
set_option maxRecDepth 20000 in
theorem b241_137 : z_blk 241 137 143 B241_137 = true := by decide +kernel
def B241_143 : List zOp := [(143, 3, .iinc 6 1, [], 0), (146, 3, .goto (-101), [45], 0)]
set_option maxRecDepth 20000 in
theorem b241_143 : z_blk 241 143 149 B241_143 = true := by decide +kernel
def B241_149 : List zOp := [(149, 3, .iinc 5 1, [], 0), (152, 3, .goto (-119), [33], 0)]
set_option maxRecDepth 20000 in
theorem b241_149 : z_blk 241 149 155 B241_149 = true := by decide +kernel
def B241_155 : List zOp := [(155, 1, .iload_n 3, [], 0), (156, 3, .ifCond .ne 8, [164], 0), (159, 2, .iload 4, [], 0), (161, 3, .goto 4, [165], 0)]
set_option maxRecDepth 20000 in
theorem b241_155 : z_blk 241 155 164 B241_155 = true := by decide +kernel
def B241_164 : List zOp := [(164, 1, .iconst (-1), [], 0)]
set_option maxRecDepth 20000 in
theorem b241_164 : z_blk 241 164 165 B241_164 = true := by decide +kernel
def B241_165 : List zOp := [(165, 1, .ireturn, [0], 0)]
set_option maxRecDepth 20000 in
theorem b241_165 : z_blk 241 165 166 B241_165 = true := by decide +kernel
-- 242 yX11_changed
def B242_0 : List zOp := [(0, 1, .aload_n 0, [], 0), (1, 1, .iconst 0, [], 0), (2, 3, .putfield 113, [11, 0, 0], 0), (5, 1, .aload_n 0, [], 0), (6, 1, .iload_n 1, [], 0), (7, 1, .iconst 0, [], 0), (8, 1, .iconst 2, [], 0), (9, 3, .invokevirtual 119, [160, 3, 11], 0), (12, 3, .ifCond .eq 19, [31], 0), (15, 1, .aload_n 0, [], 0), (16, 1, .iload_n 2, [], 0), (17, 3, .invokevirtual 127, [162, 1, 11], 0), (20, 3, .ifCond .eq 11, [31], 0), (23, 1, .aload_n 0, [], 0), (24, 1, .iload_n 3, [], 0), (25, 3, .invokevirtual 127, [162, 1, 11], 0), (28, 3, .ifCond .ne 5, [33], 0)]
set_option maxRecDepth 20000 in
theorem b242_0 : z_blk 242 0 31 B242_0 = true := by decide +kernel
def B242_31 : List zOp := [(31, 1, .iconst (-1), [], 0), (32, 1, .ireturn, [0], 0)]
set_option maxRecDepth 20000 in
theorem b242_31 : z_blk 242 31 33 B242_31 = true := by decide +kernel
def B242_33 : List zOp := [(33, 1, .iconst 0, [], 0), (34, 2, .istore 5, [], 0), (36, 1, .iconst 0, [], 0), (37, 2, .istore 6, [], 0)]
set_option maxRecDepth 20000 in
theorem b242_33 : z_blk 242 33 39 B242_33 = true := by decide +kernel
def B242_39 : List zOp := [(39, 2, .iload 6, [], 0), (41, 1, .aload_n 0, [], 0), (42, 3, .getfield 116, [11, 1, 0], 0), (45, 3, .if_icmp .ge 78, [123], 0), (48, 1, .iconst 0, [], 0), (49, 2, .istore 7, [], 0)]
set_option maxRecDepth 20000 in
theorem b242_39 : z_blk 242 39 51 B242_39 = true := by decide +kernel
def B242_51 : List zOp := [(51, 2, .iload 7, [], 0), (53, 1, .aload_n 0, [], 0), (54, 3, .getfield 242, [11, 17, 0], 0), (57, 3, .if_icmp .ge 60, [117], 0), (60, 1, .aload_n 0, [], 0), (61, 2, .iload 7, [], 0), (63, 2, .iload 6, [], 0), (65, 1, .iload_n 1, [], 0), (66, 1, .iload_n 2, [], 0), (67, 3, .invokevirtual 255, [196, 4, 11], 0), (70, 1, .aload_n 0, [], 0), (71, 2, .iload 7, [], 0), (73, 2, .iload 6, [], 0), (75, 1, .iload_n 1, [], 0), (76, 1, .iload_n 3, [], 0), (77, 3, .invokevirtual 255, [196, 4, 11], 0), (80, 3, .if_icmp .ne 6, [86], 0), (83, 3, .goto 28, [111], 0)]
set_option maxRecDepth 20000 in
theorem b242_51 : z_blk 242 51 86 B242_51 = true := by decide +kernel
def B242_86 : List zOp := [(86, 2, .iload 4, [], 0), (88, 2, .bipush 10, [], 0), (90, 2, .iload 5, [], 0), (92, 1, .iadd, [], 0), (93, 3, .if_icmp .ne 12, [105], 0), (96, 2, .bipush 12, [], 0), (98, 2, .iload 6, [], 0), (100, 1, .imul, [], 0), (101, 2, .iload 7, [], 0), (103, 1, .iadd, [], 0), (104, 1, .ireturn, [0], 0)]
set_option maxRecDepth 20000 in
theorem b242_86 : z_blk 242 86 105 B242_86 = true := by decide +kernel
def B242_105 : List zOp := [(105, 2, .iload 5, [], 0), (107, 1, .iconst 1, [], 0), (108, 1, .iadd, [], 0), (109, 2, .istore 5, [], 0)]
set_option maxRecDepth 20000 in
theorem b242_105 : z_blk 242 105 111 B242_105 = true := by decide +kernel
def B242_111 : List zOp := [(111, 3, .iinc 7 1, [], 0), (114, 3, .goto (-63), [51], 0)]
set_option maxRecDepth 20000 in
theorem b242_111 : z_blk 242 111 117 B242_111 = true := by decide +kernel
def B242_117 : List zOp := [(117, 3, .iinc 6 1, [], 0), (120, 3, .goto (-81), [39], 0)]
set_option maxRecDepth 20000 in
theorem b242_117 : z_blk 242 117 123 B242_117 = true := by decide +kernel
def B242_123 : List zOp := [(123, 2, .iload 4, [], 0), (125, 3, .ifCond .ne 8, [133], 0), (128, 2, .iload 5, [], 0), (130, 3, .goto 4, [134], 0)]
set_option maxRecDepth 20000 in
theorem b242_123 : z_blk 242 123 133 B242_123 = true := by decide +kernel
def B242_133 : List zOp := [(133, 1, .iconst (-1), [], 0)]
set_option maxRecDepth 20000 in
theorem b242_133 : z_blk 242 133 134 B242_133 = true := by decide +kernel
def B242_134 : List zOp := [(134, 1, .ireturn, [0], 0)]
set_option maxRecDepth 20000 in
theorem b242_134 : z_blk 242 134 135 B242_134 = true := by decide +kernel
-- 243 yJ6_bitCount_0f7a4
def B243_0 : List zOp := [(0, 1, .iload_n 0, [], 0), (1, 1, .iload_n 0, [], 0), (2, 1, .iconst 1, [], 0), (3, 1, .iushr, [], 0), (4, 3, .ldc_w 265, [], 1431655765), (7, 1, .iand, [], 0), (8, 1, .isub, [], 0), (9, 1, .istore_n 0, [], 0), (10, 1, .iload_n 0, [], 0), (11, 3, .ldc_w 266, [], 858993459), (14, 1, .iand, [], 0), (15, 1, .iload_n 0, [], 0), (16, 1, .iconst 2, [], 0), (17, 1, .iushr, [], 0), (18, 3, .ldc_w 266, [], 858993459), (21, 1, .iand, [], 0), (22, 1, .iadd, [], 0), (23, 1, .istore_n 0, [], 0), (24, 1, .iload_n 0, [], 0), (25, 1, .iload_n 0, [], 0), (26, 1, .iconst 4, [], 0), (27, 1, .iushr, [], 0), (28, 1, .iadd, [], 0), (29, 3, .ldc_w 267, [], 252645135), (32, 1, .iand, [], 0), (33, 1, .istore_n 0, [], 0), (34, 1, .iload_n 0, [], 0), (35, 1, .iload_n 0, [], 0), (36, 2, .bipush 8, [], 0), (38, 1, .iushr, [], 0), (39, 1, .iadd, [], 0), (40, 1, .istore_n 0, [], 0), (41, 1, .iload_n 0, [], 0), (42, 1, .iload_n 0, [], 0), (43, 2, .bipush 16, [], 0), (45, 1, .iushr, [], 0), (46, 1, .iadd, [], 0), (47, 1, .istore_n 0, [], 0), (48, 1, .iload_n 0, [], 0), (49, 2, .bipush 63, [], 0), (51, 1, .iand, [], 0), (52, 1, .ireturn, [0], 0)]
set_option maxRecDepth 20000 in
theorem b243_0 : z_blk 243 0 53 B243_0 = true := by decide +kernel
-- 256 yJ7_fill_53178
def B256_0 : List zOp := [(0, 1, .iconst 0, [], 0), (1, 1, .istore_n 2, [], 0), (2, 1, .aload_n 0, [], 0), (3, 1, .arraylength, [], 0), (4, 1, .istore_n 3, [], 0)]
set_option maxRecDepth 20000 in
theorem b256_0 : z_blk 256 0 5 B256_0 = true := by decide +kernel
def B256_5 : List zOp := [(5, 1, .iload_n 2, [], 0), (6, 1, .iload_n 3, [], 0), (7, 3, .if_icmp .ge 13, [20], 0), (10, 1, .aload_n 0, [], 0), (11, 1, .iload_n 2, [], 0), (12, 1, .iload_n 1, [], 0), (13, 1, .iastore, [], 0), (14, 3, .iinc 2 1, [], 0), (17, 3, .goto (-12), [5], 0)]
set_option maxRecDepth 20000 in
theorem b256_5 : z_blk 256 5 20 B256_5 = true := by decide +kernel
def B256_20 : List zOp := [(20, 1, .return_, [], 0)]
set_option maxRecDepth 20000 in
theorem b256_20 : z_blk 256 20 21 B256_20 = true := by decide +kernel
