/-! the law's loop -/
abbrev b_W_law : ByteArray := code
def i_W_law_0 : List (Nat × (Instr × Nat)) := [(0, (.new 7, 3)), (3, (.dup, 1)), (4, (.invokespecial 9, 3)), (7, (.astore_n 1, 1)), (8, (.new 10, 3)), (11, (.dup, 1)), (12, (.invokespecial 12, 3)), (15, (.astore_n 2, 1)), (16, (.iconst 0, 1)), (17, (.istore_n 3, 1)), (18, (.iload_n 3, 1)), (19, (.aload_n 0, 1)), (20, (.arraylength, 1)), (21, (.bipush 6, 2)), (23, (.isub, 1)), (24, (.if_icmp .gt 916, 3)), (27, (.aload_n 0, 1)), (28, (.iload_n 3, 1)), (29, (.iaload, 1)), (30, (.bipush 31, 2)), (32, (.iand, 1)), (33, (.tableswitch 901 0 27 #[127, 150, 163, 176, 189, 222, 255, 278, 301, 324, 347, 360, 393, 416, 459, 492, 525, 548, 571, 614, 627, 650, 713, 746, 809, 852, 865, 878], 127)), (160, (.aload_n 1, 1)), (161, (.aload_n 0, 1)), (162, (.iload_n 3, 1)), (163, (.iconst 1, 1)), (164, (.iadd, 1)), (165, (.iaload, 1)), (166, (.invokevirtual 13, 3)), (169, (.aload_n 2, 1))]
theorem k_W_law_0 : i_W_law_0.all (fun q => decide (decode b_W_law q.1 = .ok q.2)) = true := by decide +kernel
def i_W_law_1 : List (Nat × (Instr × Nat)) := [(170, (.aload_n 0, 1)), (171, (.iload_n 3, 1)), (172, (.iconst 1, 1)), (173, (.iadd, 1)), (174, (.iaload, 1)), (175, (.invokevirtual 17, 3)), (178, (.if_icmp .eq 756, 3)), (181, (.iconst 0, 1)), (182, (.ireturn, 1)), (183, (.aload_n 1, 1)), (184, (.invokevirtual 18, 3)), (187, (.aload_n 2, 1)), (188, (.invokevirtual 22, 3)), (191, (.if_icmp .eq 743, 3)), (194, (.iconst 0, 1)), (195, (.ireturn, 1)), (196, (.aload_n 1, 1)), (197, (.invokevirtual 23, 3)), (200, (.aload_n 2, 1)), (201, (.invokevirtual 26, 3)), (204, (.if_icmp .eq 730, 3)), (207, (.iconst 0, 1)), (208, (.ireturn, 1)), (209, (.aload_n 1, 1)), (210, (.invokevirtual 27, 3)), (213, (.aload_n 2, 1)), (214, (.invokevirtual 30, 3)), (217, (.if_icmp .eq 717, 3)), (220, (.iconst 0, 1)), (221, (.ireturn, 1))]
theorem k_W_law_1 : i_W_law_1.all (fun q => decide (decode b_W_law q.1 = .ok q.2)) = true := by decide +kernel
def i_W_law_2 : List (Nat × (Instr × Nat)) := [(222, (.aload_n 1, 1)), (223, (.aload_n 0, 1)), (224, (.iload_n 3, 1)), (225, (.iconst 1, 1)), (226, (.iadd, 1)), (227, (.iaload, 1)), (228, (.aload_n 0, 1)), (229, (.iload_n 3, 1)), (230, (.iconst 2, 1)), (231, (.iadd, 1)), (232, (.iaload, 1)), (233, (.invokevirtual 31, 3)), (236, (.aload_n 2, 1)), (237, (.aload_n 0, 1)), (238, (.iload_n 3, 1)), (239, (.iconst 1, 1)), (240, (.iadd, 1)), (241, (.iaload, 1)), (242, (.aload_n 0, 1)), (243, (.iload_n 3, 1)), (244, (.iconst 2, 1)), (245, (.iadd, 1)), (246, (.iaload, 1)), (247, (.invokevirtual 35, 3)), (250, (.if_icmp .eq 684, 3)), (253, (.iconst 0, 1)), (254, (.ireturn, 1)), (255, (.aload_n 1, 1)), (256, (.aload_n 0, 1)), (257, (.iload_n 3, 1))]
theorem k_W_law_2 : i_W_law_2.all (fun q => decide (decode b_W_law q.1 = .ok q.2)) = true := by decide +kernel
def i_W_law_3 : List (Nat × (Instr × Nat)) := [(258, (.iconst 1, 1)), (259, (.iadd, 1)), (260, (.iaload, 1)), (261, (.aload_n 0, 1)), (262, (.iload_n 3, 1)), (263, (.iconst 2, 1)), (264, (.iadd, 1)), (265, (.iaload, 1)), (266, (.invokevirtual 36, 3)), (269, (.aload_n 2, 1)), (270, (.aload_n 0, 1)), (271, (.iload_n 3, 1)), (272, (.iconst 1, 1)), (273, (.iadd, 1)), (274, (.iaload, 1)), (275, (.aload_n 0, 1)), (276, (.iload_n 3, 1)), (277, (.iconst 2, 1)), (278, (.iadd, 1)), (279, (.iaload, 1)), (280, (.invokevirtual 39, 3)), (283, (.if_icmp .eq 651, 3)), (286, (.iconst 0, 1)), (287, (.ireturn, 1)), (288, (.aload_n 1, 1)), (289, (.aload_n 0, 1)), (290, (.iload_n 3, 1)), (291, (.iconst 1, 1)), (292, (.iadd, 1)), (293, (.iaload, 1))]
theorem k_W_law_3 : i_W_law_3.all (fun q => decide (decode b_W_law q.1 = .ok q.2)) = true := by decide +kernel
def i_W_law_4 : List (Nat × (Instr × Nat)) := [(294, (.invokevirtual 40, 3)), (297, (.aload_n 2, 1)), (298, (.aload_n 0, 1)), (299, (.iload_n 3, 1)), (300, (.iconst 1, 1)), (301, (.iadd, 1)), (302, (.iaload, 1)), (303, (.invokevirtual 43, 3)), (306, (.if_icmp .eq 628, 3)), (309, (.iconst 0, 1)), (310, (.ireturn, 1)), (311, (.aload_n 1, 1)), (312, (.aload_n 0, 1)), (313, (.iload_n 3, 1)), (314, (.iconst 1, 1)), (315, (.iadd, 1)), (316, (.iaload, 1)), (317, (.invokevirtual 44, 3)), (320, (.aload_n 2, 1)), (321, (.aload_n 0, 1)), (322, (.iload_n 3, 1)), (323, (.iconst 1, 1)), (324, (.iadd, 1)), (325, (.iaload, 1)), (326, (.invokevirtual 47, 3)), (329, (.if_icmp .eq 605, 3)), (332, (.iconst 0, 1)), (333, (.ireturn, 1)), (334, (.aload_n 1, 1)), (335, (.aload_n 0, 1))]
theorem k_W_law_4 : i_W_law_4.all (fun q => decide (decode b_W_law q.1 = .ok q.2)) = true := by decide +kernel
def i_W_law_5 : List (Nat × (Instr × Nat)) := [(336, (.iload_n 3, 1)), (337, (.iconst 1, 1)), (338, (.iadd, 1)), (339, (.iaload, 1)), (340, (.invokevirtual 48, 3)), (343, (.aload_n 2, 1)), (344, (.aload_n 0, 1)), (345, (.iload_n 3, 1)), (346, (.iconst 1, 1)), (347, (.iadd, 1)), (348, (.iaload, 1)), (349, (.invokevirtual 51, 3)), (352, (.if_icmp .eq 582, 3)), (355, (.iconst 0, 1)), (356, (.ireturn, 1)), (357, (.aload_n 1, 1)), (358, (.aload_n 0, 1)), (359, (.iload_n 3, 1)), (360, (.iconst 1, 1)), (361, (.iadd, 1)), (362, (.iaload, 1)), (363, (.invokevirtual 52, 3)), (366, (.aload_n 2, 1)), (367, (.aload_n 0, 1)), (368, (.iload_n 3, 1)), (369, (.iconst 1, 1)), (370, (.iadd, 1)), (371, (.iaload, 1)), (372, (.invokevirtual 55, 3)), (375, (.if_icmp .eq 559, 3))]
theorem k_W_law_5 : i_W_law_5.all (fun q => decide (decode b_W_law q.1 = .ok q.2)) = true := by decide +kernel
def i_W_law_6 : List (Nat × (Instr × Nat)) := [(378, (.iconst 0, 1)), (379, (.ireturn, 1)), (380, (.aload_n 1, 1)), (381, (.invokevirtual 56, 3)), (384, (.aload_n 2, 1)), (385, (.invokevirtual 59, 3)), (388, (.if_icmp .eq 546, 3)), (391, (.iconst 0, 1)), (392, (.ireturn, 1)), (393, (.aload_n 1, 1)), (394, (.aload_n 0, 1)), (395, (.iload_n 3, 1)), (396, (.iconst 1, 1)), (397, (.iadd, 1)), (398, (.iaload, 1)), (399, (.aload_n 0, 1)), (400, (.iload_n 3, 1)), (401, (.iconst 2, 1)), (402, (.iadd, 1)), (403, (.iaload, 1)), (404, (.invokevirtual 60, 3)), (407, (.aload_n 2, 1)), (408, (.aload_n 0, 1)), (409, (.iload_n 3, 1)), (410, (.iconst 1, 1)), (411, (.iadd, 1)), (412, (.iaload, 1)), (413, (.aload_n 0, 1)), (414, (.iload_n 3, 1)), (415, (.iconst 2, 1))]
theorem k_W_law_6 : i_W_law_6.all (fun q => decide (decode b_W_law q.1 = .ok q.2)) = true := by decide +kernel
def i_W_law_7 : List (Nat × (Instr × Nat)) := [(416, (.iadd, 1)), (417, (.iaload, 1)), (418, (.invokevirtual 63, 3)), (421, (.if_icmp .eq 513, 3)), (424, (.iconst 0, 1)), (425, (.ireturn, 1)), (426, (.aload_n 1, 1)), (427, (.aload_n 0, 1)), (428, (.iload_n 3, 1)), (429, (.iconst 1, 1)), (430, (.iadd, 1)), (431, (.iaload, 1)), (432, (.invokevirtual 64, 3)), (435, (.aload_n 2, 1)), (436, (.aload_n 0, 1)), (437, (.iload_n 3, 1)), (438, (.iconst 1, 1)), (439, (.iadd, 1)), (440, (.iaload, 1)), (441, (.invokevirtual 67, 3)), (444, (.if_icmp .eq 490, 3)), (447, (.iconst 0, 1)), (448, (.ireturn, 1)), (449, (.aload_n 1, 1)), (450, (.aload_n 0, 1)), (451, (.iload_n 3, 1)), (452, (.iconst 1, 1)), (453, (.iadd, 1)), (454, (.iaload, 1)), (455, (.aload_n 0, 1))]
theorem k_W_law_7 : i_W_law_7.all (fun q => decide (decode b_W_law q.1 = .ok q.2)) = true := by decide +kernel
def i_W_law_8 : List (Nat × (Instr × Nat)) := [(456, (.iload_n 3, 1)), (457, (.iconst 2, 1)), (458, (.iadd, 1)), (459, (.iaload, 1)), (460, (.aload_n 0, 1)), (461, (.iload_n 3, 1)), (462, (.iconst 3, 1)), (463, (.iadd, 1)), (464, (.iaload, 1)), (465, (.invokevirtual 68, 3)), (468, (.aload_n 2, 1)), (469, (.aload_n 0, 1)), (470, (.iload_n 3, 1)), (471, (.iconst 1, 1)), (472, (.iadd, 1)), (473, (.iaload, 1)), (474, (.aload_n 0, 1)), (475, (.iload_n 3, 1)), (476, (.iconst 2, 1)), (477, (.iadd, 1)), (478, (.iaload, 1)), (479, (.aload_n 0, 1)), (480, (.iload_n 3, 1)), (481, (.iconst 3, 1)), (482, (.iadd, 1)), (483, (.iaload, 1)), (484, (.invokevirtual 72, 3)), (487, (.if_icmp .eq 447, 3)), (490, (.iconst 0, 1)), (491, (.ireturn, 1))]
theorem k_W_law_8 : i_W_law_8.all (fun q => decide (decode b_W_law q.1 = .ok q.2)) = true := by decide +kernel
def i_W_law_9 : List (Nat × (Instr × Nat)) := [(492, (.aload_n 1, 1)), (493, (.aload_n 0, 1)), (494, (.iload_n 3, 1)), (495, (.iconst 1, 1)), (496, (.iadd, 1)), (497, (.iaload, 1)), (498, (.aload_n 0, 1)), (499, (.iload_n 3, 1)), (500, (.iconst 2, 1)), (501, (.iadd, 1)), (502, (.iaload, 1)), (503, (.invokevirtual 73, 3)), (506, (.aload_n 2, 1)), (507, (.aload_n 0, 1)), (508, (.iload_n 3, 1)), (509, (.iconst 1, 1)), (510, (.iadd, 1)), (511, (.iaload, 1)), (512, (.aload_n 0, 1)), (513, (.iload_n 3, 1)), (514, (.iconst 2, 1)), (515, (.iadd, 1)), (516, (.iaload, 1)), (517, (.invokevirtual 76, 3)), (520, (.if_icmp .eq 414, 3)), (523, (.iconst 0, 1)), (524, (.ireturn, 1)), (525, (.aload_n 1, 1)), (526, (.aload_n 0, 1)), (527, (.iload_n 3, 1))]
theorem k_W_law_9 : i_W_law_9.all (fun q => decide (decode b_W_law q.1 = .ok q.2)) = true := by decide +kernel
def i_W_law_10 : List (Nat × (Instr × Nat)) := [(528, (.iconst 1, 1)), (529, (.iadd, 1)), (530, (.iaload, 1)), (531, (.aload_n 0, 1)), (532, (.iload_n 3, 1)), (533, (.iconst 2, 1)), (534, (.iadd, 1)), (535, (.iaload, 1)), (536, (.invokevirtual 77, 3)), (539, (.aload_n 2, 1)), (540, (.aload_n 0, 1)), (541, (.iload_n 3, 1)), (542, (.iconst 1, 1)), (543, (.iadd, 1)), (544, (.iaload, 1)), (545, (.aload_n 0, 1)), (546, (.iload_n 3, 1)), (547, (.iconst 2, 1)), (548, (.iadd, 1)), (549, (.iaload, 1)), (550, (.invokevirtual 80, 3)), (553, (.if_icmp .eq 381, 3)), (556, (.iconst 0, 1)), (557, (.ireturn, 1)), (558, (.aload_n 1, 1)), (559, (.aload_n 0, 1)), (560, (.iload_n 3, 1)), (561, (.iconst 1, 1)), (562, (.iadd, 1)), (563, (.iaload, 1))]
theorem k_W_law_10 : i_W_law_10.all (fun q => decide (decode b_W_law q.1 = .ok q.2)) = true := by decide +kernel
def i_W_law_11 : List (Nat × (Instr × Nat)) := [(564, (.invokevirtual 81, 3)), (567, (.aload_n 2, 1)), (568, (.aload_n 0, 1)), (569, (.iload_n 3, 1)), (570, (.iconst 1, 1)), (571, (.iadd, 1)), (572, (.iaload, 1)), (573, (.invokevirtual 84, 3)), (576, (.if_icmp .eq 358, 3)), (579, (.iconst 0, 1)), (580, (.ireturn, 1)), (581, (.aload_n 1, 1)), (582, (.aload_n 0, 1)), (583, (.iload_n 3, 1)), (584, (.iconst 1, 1)), (585, (.iadd, 1)), (586, (.iaload, 1)), (587, (.invokevirtual 85, 3)), (590, (.aload_n 2, 1)), (591, (.aload_n 0, 1)), (592, (.iload_n 3, 1)), (593, (.iconst 1, 1)), (594, (.iadd, 1)), (595, (.iaload, 1)), (596, (.invokevirtual 88, 3)), (599, (.if_icmp .eq 335, 3)), (602, (.iconst 0, 1)), (603, (.ireturn, 1)), (604, (.aload_n 1, 1)), (605, (.aload_n 0, 1))]
theorem k_W_law_11 : i_W_law_11.all (fun q => decide (decode b_W_law q.1 = .ok q.2)) = true := by decide +kernel
def i_W_law_12 : List (Nat × (Instr × Nat)) := [(606, (.iload_n 3, 1)), (607, (.iconst 1, 1)), (608, (.iadd, 1)), (609, (.iaload, 1)), (610, (.aload_n 0, 1)), (611, (.iload_n 3, 1)), (612, (.iconst 2, 1)), (613, (.iadd, 1)), (614, (.iaload, 1)), (615, (.aload_n 0, 1)), (616, (.iload_n 3, 1)), (617, (.iconst 3, 1)), (618, (.iadd, 1)), (619, (.iaload, 1)), (620, (.invokevirtual 89, 3)), (623, (.aload_n 2, 1)), (624, (.aload_n 0, 1)), (625, (.iload_n 3, 1)), (626, (.iconst 1, 1)), (627, (.iadd, 1)), (628, (.iaload, 1)), (629, (.aload_n 0, 1)), (630, (.iload_n 3, 1)), (631, (.iconst 2, 1)), (632, (.iadd, 1)), (633, (.iaload, 1)), (634, (.aload_n 0, 1)), (635, (.iload_n 3, 1)), (636, (.iconst 3, 1)), (637, (.iadd, 1))]
theorem k_W_law_12 : i_W_law_12.all (fun q => decide (decode b_W_law q.1 = .ok q.2)) = true := by decide +kernel
def i_W_law_13 : List (Nat × (Instr × Nat)) := [(638, (.iaload, 1)), (639, (.invokevirtual 92, 3)), (642, (.if_icmp .eq 292, 3)), (645, (.iconst 0, 1)), (646, (.ireturn, 1)), (647, (.aload_n 1, 1)), (648, (.invokevirtual 93, 3)), (651, (.aload_n 2, 1)), (652, (.invokevirtual 96, 3)), (655, (.if_icmp .eq 279, 3)), (658, (.iconst 0, 1)), (659, (.ireturn, 1)), (660, (.aload_n 1, 1)), (661, (.aload_n 0, 1)), (662, (.iload_n 3, 1)), (663, (.iconst 1, 1)), (664, (.iadd, 1)), (665, (.iaload, 1)), (666, (.invokevirtual 97, 3)), (669, (.aload_n 2, 1)), (670, (.aload_n 0, 1)), (671, (.iload_n 3, 1)), (672, (.iconst 1, 1)), (673, (.iadd, 1)), (674, (.iaload, 1)), (675, (.invokevirtual 100, 3)), (678, (.if_icmp .eq 256, 3)), (681, (.iconst 0, 1)), (682, (.ireturn, 1)), (683, (.aload_n 1, 1))]
theorem k_W_law_13 : i_W_law_13.all (fun q => decide (decode b_W_law q.1 = .ok q.2)) = true := by decide +kernel
def i_W_law_14 : List (Nat × (Instr × Nat)) := [(684, (.aload_n 0, 1)), (685, (.iload_n 3, 1)), (686, (.iconst 1, 1)), (687, (.iadd, 1)), (688, (.iaload, 1)), (689, (.aload_n 0, 1)), (690, (.iload_n 3, 1)), (691, (.iconst 2, 1)), (692, (.iadd, 1)), (693, (.iaload, 1)), (694, (.aload_n 0, 1)), (695, (.iload_n 3, 1)), (696, (.iconst 3, 1)), (697, (.iadd, 1)), (698, (.iaload, 1)), (699, (.aload_n 0, 1)), (700, (.iload_n 3, 1)), (701, (.iconst 4, 1)), (702, (.iadd, 1)), (703, (.iaload, 1)), (704, (.aload_n 0, 1)), (705, (.iload_n 3, 1)), (706, (.iconst 5, 1)), (707, (.iadd, 1)), (708, (.iaload, 1)), (709, (.invokevirtual 101, 3)), (712, (.aload_n 2, 1)), (713, (.aload_n 0, 1)), (714, (.iload_n 3, 1)), (715, (.iconst 1, 1))]
theorem k_W_law_14 : i_W_law_14.all (fun q => decide (decode b_W_law q.1 = .ok q.2)) = true := by decide +kernel
def i_W_law_15 : List (Nat × (Instr × Nat)) := [(716, (.iadd, 1)), (717, (.iaload, 1)), (718, (.aload_n 0, 1)), (719, (.iload_n 3, 1)), (720, (.iconst 2, 1)), (721, (.iadd, 1)), (722, (.iaload, 1)), (723, (.aload_n 0, 1)), (724, (.iload_n 3, 1)), (725, (.iconst 3, 1)), (726, (.iadd, 1)), (727, (.iaload, 1)), (728, (.aload_n 0, 1)), (729, (.iload_n 3, 1)), (730, (.iconst 4, 1)), (731, (.iadd, 1)), (732, (.iaload, 1)), (733, (.aload_n 0, 1)), (734, (.iload_n 3, 1)), (735, (.iconst 5, 1)), (736, (.iadd, 1)), (737, (.iaload, 1)), (738, (.invokevirtual 105, 3)), (741, (.if_icmp .eq 193, 3)), (744, (.iconst 0, 1)), (745, (.ireturn, 1)), (746, (.aload_n 1, 1)), (747, (.aload_n 0, 1)), (748, (.iload_n 3, 1)), (749, (.iconst 1, 1))]
theorem k_W_law_15 : i_W_law_15.all (fun q => decide (decode b_W_law q.1 = .ok q.2)) = true := by decide +kernel
def i_W_law_16 : List (Nat × (Instr × Nat)) := [(750, (.iadd, 1)), (751, (.iaload, 1)), (752, (.aload_n 0, 1)), (753, (.iload_n 3, 1)), (754, (.iconst 2, 1)), (755, (.iadd, 1)), (756, (.iaload, 1)), (757, (.invokevirtual 106, 3)), (760, (.aload_n 2, 1)), (761, (.aload_n 0, 1)), (762, (.iload_n 3, 1)), (763, (.iconst 1, 1)), (764, (.iadd, 1)), (765, (.iaload, 1)), (766, (.aload_n 0, 1)), (767, (.iload_n 3, 1)), (768, (.iconst 2, 1)), (769, (.iadd, 1)), (770, (.iaload, 1)), (771, (.invokevirtual 109, 3)), (774, (.if_icmp .eq 160, 3)), (777, (.iconst 0, 1)), (778, (.ireturn, 1)), (779, (.aload_n 1, 1)), (780, (.aload_n 0, 1)), (781, (.iload_n 3, 1)), (782, (.iconst 1, 1)), (783, (.iadd, 1)), (784, (.iaload, 1)), (785, (.aload_n 0, 1))]
theorem k_W_law_16 : i_W_law_16.all (fun q => decide (decode b_W_law q.1 = .ok q.2)) = true := by decide +kernel
def i_W_law_17 : List (Nat × (Instr × Nat)) := [(786, (.iload_n 3, 1)), (787, (.iconst 2, 1)), (788, (.iadd, 1)), (789, (.iaload, 1)), (790, (.aload_n 0, 1)), (791, (.iload_n 3, 1)), (792, (.iconst 3, 1)), (793, (.iadd, 1)), (794, (.iaload, 1)), (795, (.aload_n 0, 1)), (796, (.iload_n 3, 1)), (797, (.iconst 4, 1)), (798, (.iadd, 1)), (799, (.iaload, 1)), (800, (.aload_n 0, 1)), (801, (.iload_n 3, 1)), (802, (.iconst 5, 1)), (803, (.iadd, 1)), (804, (.iaload, 1)), (805, (.invokevirtual 110, 3)), (808, (.aload_n 2, 1)), (809, (.aload_n 0, 1)), (810, (.iload_n 3, 1)), (811, (.iconst 1, 1)), (812, (.iadd, 1)), (813, (.iaload, 1)), (814, (.aload_n 0, 1)), (815, (.iload_n 3, 1)), (816, (.iconst 2, 1)), (817, (.iadd, 1))]
theorem k_W_law_17 : i_W_law_17.all (fun q => decide (decode b_W_law q.1 = .ok q.2)) = true := by decide +kernel
def i_W_law_18 : List (Nat × (Instr × Nat)) := [(818, (.iaload, 1)), (819, (.aload_n 0, 1)), (820, (.iload_n 3, 1)), (821, (.iconst 3, 1)), (822, (.iadd, 1)), (823, (.iaload, 1)), (824, (.aload_n 0, 1)), (825, (.iload_n 3, 1)), (826, (.iconst 4, 1)), (827, (.iadd, 1)), (828, (.iaload, 1)), (829, (.aload_n 0, 1)), (830, (.iload_n 3, 1)), (831, (.iconst 5, 1)), (832, (.iadd, 1)), (833, (.iaload, 1)), (834, (.invokevirtual 113, 3)), (837, (.if_icmp .eq 97, 3)), (840, (.iconst 0, 1)), (841, (.ireturn, 1)), (842, (.aload_n 1, 1)), (843, (.aload_n 0, 1)), (844, (.iload_n 3, 1)), (845, (.iconst 1, 1)), (846, (.iadd, 1)), (847, (.iaload, 1)), (848, (.aload_n 0, 1)), (849, (.iload_n 3, 1)), (850, (.iconst 2, 1)), (851, (.iadd, 1))]
theorem k_W_law_18 : i_W_law_18.all (fun q => decide (decode b_W_law q.1 = .ok q.2)) = true := by decide +kernel
def i_W_law_19 : List (Nat × (Instr × Nat)) := [(852, (.iaload, 1)), (853, (.aload_n 0, 1)), (854, (.iload_n 3, 1)), (855, (.iconst 3, 1)), (856, (.iadd, 1)), (857, (.iaload, 1)), (858, (.invokevirtual 114, 3)), (861, (.aload_n 2, 1)), (862, (.aload_n 0, 1)), (863, (.iload_n 3, 1)), (864, (.iconst 1, 1)), (865, (.iadd, 1)), (866, (.iaload, 1)), (867, (.aload_n 0, 1)), (868, (.iload_n 3, 1)), (869, (.iconst 2, 1)), (870, (.iadd, 1)), (871, (.iaload, 1)), (872, (.aload_n 0, 1)), (873, (.iload_n 3, 1)), (874, (.iconst 3, 1)), (875, (.iadd, 1)), (876, (.iaload, 1)), (877, (.invokevirtual 117, 3)), (880, (.if_icmp .eq 54, 3)), (883, (.iconst 0, 1)), (884, (.ireturn, 1)), (885, (.aload_n 1, 1)), (886, (.invokevirtual 118, 3)), (889, (.aload_n 2, 1))]
theorem k_W_law_19 : i_W_law_19.all (fun q => decide (decode b_W_law q.1 = .ok q.2)) = true := by decide +kernel
def i_W_law_20 : List (Nat × (Instr × Nat)) := [(890, (.invokevirtual 121, 3)), (893, (.if_icmp .eq 41, 3)), (896, (.iconst 0, 1)), (897, (.ireturn, 1)), (898, (.aload_n 1, 1)), (899, (.invokevirtual 122, 3)), (902, (.aload_n 2, 1)), (903, (.invokevirtual 125, 3)), (906, (.if_icmp .eq 28, 3)), (909, (.iconst 0, 1)), (910, (.ireturn, 1)), (911, (.aload_n 1, 1)), (912, (.aload_n 0, 1)), (913, (.iload_n 3, 1)), (914, (.iconst 1, 1)), (915, (.iadd, 1)), (916, (.iaload, 1)), (917, (.invokevirtual 126, 3)), (920, (.aload_n 2, 1)), (921, (.aload_n 0, 1)), (922, (.iload_n 3, 1)), (923, (.iconst 1, 1)), (924, (.iadd, 1)), (925, (.iaload, 1)), (926, (.invokevirtual 129, 3)), (929, (.if_icmp .eq 5, 3)), (932, (.iconst 0, 1)), (933, (.ireturn, 1)), (934, (.iinc 3 6, 3)), (937, (.goto (-919), 3))]
theorem k_W_law_20 : i_W_law_20.all (fun q => decide (decode b_W_law q.1 = .ok q.2)) = true := by decide +kernel
def i_W_law_21 : List (Nat × (Instr × Nat)) := [(940, (.iconst 1, 1)), (941, (.ireturn, 1))]
theorem k_W_law_21 : i_W_law_21.all (fun q => decide (decode b_W_law q.1 = .ok q.2)) = true := by decide +kernel
/-- the script is L ints xs at the cell b, outside the world -/
def LX (X : KX) (b L : Nat) (xs : Nat → Int32) : Prop := match X with
  | (_, _, _, _, s, _, _, _, _, _, G, _, _, _, _) => va_X b L xs s s.heap ∧ b < s.heap.size ∧ ¬ AG G b
theorem CR.fm {σ σ' : Wd} {pl sp : Nat} {π : PL} {x : ST} {us ks : List ST} {lk : List (Int × (Int × Int))} {tx : List Int} (h : CR σ pl sp π x us ks lk tx) (e : Fm σ σ') : CR σ' pl sp π x us ks lk tx := h.fr (fun k hk => e k (by unfold scr at hk; omega))
/-- the class and the model stand for one shop -/
def LI (j : Int) (τ : Wd) : Prop := ∃ (pl sp : Nat) (π : PL) (x : ST) (us ks : List ST) (lk : List (Int × (Int × Int))) (tx : List Int), CR τ pl sp π x us ks lk tx ∧ MR τ π x us ks lk tx ∧ VK π x us ks j
section VL
variable {X : KX} {cc : ByteArray} {own : String} {pc : Nat} {ls : List (Option AV)} {st : List AV} {σ : Wd} {b L : Nat} {xs : Nat → Int32}
theorem VL_len (C : Cx X cc own) (S : LX X b L xs) (d : decode cc pc = .ok (.arraylength, 1)) (k : V X (pc + 1) ls (vI (L : Int) :: st) σ) : V X pc ls (vX (some b) :: st) σ := by
  obtain ⟨p, l, e, R, s, m, args, below, meth, c, G, nL, ck, sk, Q⟩ := X
  obtain ⟨hx, hb, hml, hown, hlk, hts, hPK, hap, hck, hsk⟩ := C
  intro hR H locs sl hP hS hL
  have e : Int32.ofNat L = Int32.ofInt (L : Int) := (Int32.ofInt_eq_ofNat (n := L)).symm
  refine va_slen hx hb S.1 S.2.1 S.2.2 hS d ?_
  rw [e]
  exact k hR H locs sl hP hS hL
theorem VL_ald (C : Cx X cc own) (S : LX X b L xs) {i : Int} {q : Nat} (hq : i = (q : Int)) (h1 : q < L) (hL : L ≤ 384) (d : decode cc pc = .ok (.iaload, 1)) (k : V X (pc + 1) ls (vI (xs q).toInt :: st) σ) : V X pc ls (vI i :: vX (some b) :: st) σ := by
  obtain ⟨p, l, e, R, s, m, args, below, meth, c, G, nL, ck, sk, Q⟩ := X
  obtain ⟨hx, hb, hml, hown, hlk, hts, hPK, hap, hck, hsk⟩ := C
  intro hR H locs sl hP hS hL'
  refine va_sld hx hb S.1 S.2.1 S.2.2 hS (oi_in (n := L) (by omega) (by omega) (by omega)) d ?_
  have K := k hR H locs sl hP hS hL'
  rw [oi_nat (by omega) ⟨by omega, by omega⟩, show i.toNat = q by omega]
  have e : cv G (vI (xs q).toInt) = .int (xs q) := congrArg Value.int (oi_of (xs q))
  rw [List.map_cons, e] at K
  exact K
theorem VL_and (C : Cx X cc own) {a : Int} (d : decode cc pc = .ok (.iand, 1)) (k : ∀ j : Nat, j < 32 → V X (pc + 1) ls (vI (j : Int) :: st) σ) : V X pc ls (vI 31 :: vI a :: st) σ := by
  obtain ⟨p, l, e, R, s, m, args, below, meth, c, G, nL, ck, sk, Q⟩ := X
  obtain ⟨hx, hb, hml, hown, hlk, hts, hPK, hap, hck, hsk⟩ := C
  intro hR H locs sl hP hS hL
  obtain ⟨j, hj, e⟩ := pk_andE (Int32.ofInt a) (m := Int32.ofInt 31) 5 (by decide)
  refine lv_iand hx hb d ?_
  rw [e, ← oi_nI]
  exact k j hj hR H locs sl hP hS hL
theorem VL_same (C : Cx X cc own) {off : Int} (d : decode cc pc = .ok (.if_icmp .eq off, 3)) (tgt : Nat) (ht : (pc : Int) + off = (tgt : Int)) {z : Int} (k : V X tgt ls st σ) : V X pc ls (vI z :: vI z :: st) σ := by
  obtain ⟨p, l, e, R, s, m, args, below, meth, c, G, nL, ck, sk, Q⟩ := X
  obtain ⟨hx, hb, hml, hown, hlk, hts, hPK, hap, hck, hsk⟩ := C
  intro hR H locs sl hP hS hL
  exact lv_icmp_eq hx hb d ht (fun _ => k hR H locs sl hP hS hL) (fun h => absurd rfl h)
/-- a word of the script, counted from the call's own -/
theorem VL_arg {i q : Nat} (S : LX X b L xs) (hL : L ≤ 384) (C : Cx X cc own) (d1 : decode cc pc = .ok (.aload_n 0, 1)) (d2 : decode cc (pc + 1) = .ok (.iload_n 3, 1)) (d3 : decode cc (pc + 2) = .ok (.iconst (q : Int), 1)) (d4 : decode cc (pc + 3) = .ok (.iadd, 1)) (d5 : decode cc (pc + 4) = .ok (.iaload, 1)) (h1 : ls[0]? = some (some (vX (some b)))) (h2 : ls[3]? = some (some (vI (i : Int)))) (hq : i + q < L) (k : V X (pc + 5) ls (vI (xs (i + q)).toInt :: st) σ) : V X pc ls st σ :=
  V_aloadX_n C d1 h1 (V_iload_n C d2 h2 (V_iconst C d3 rfl (V_iadd C d4 (VL_ald C S (q := i + q) (by omega) hq hL d5 k))))
end VL
abbrev lcl (b i : Nat) : List (Option AV) := [some (vX (some b)), some (vR 0), some (vR 128), some (vI (i : Int))]

set_option maxRecDepth 20000 in
theorem law_0 {X : KX} {b L : Nat} {xs : Nat → Int32} {τ : Wd} {n : Nat} (C : Cx X b_W_law "ForgoneShopLaw") (S : LX X b L xs) (hRm : Rm X 8 300) (hL : L ≤ 384) (hn : 6 * n + 6 ≤ L) (hI : LI (n : Int) τ) (k : ∀ τ', LI ((n : Int) + 1) τ' → V X 934 (lcl b (6 * n)) [] τ') : V X 160 (lcl b (6 * n)) [] τ := by
  obtain ⟨pl, sp, π, x, us, ks, lk, tx, hC, hM, hV⟩ := hI
  have hj : (n : Int) ≤ 100 := by omega
  refine V_aload_n (pc := 160) (z := 0) C (dk k_W_law_0 22 rfl) rfl ?_
  refine VL_arg (pc := 161) (i := 6 * n) (q := 1) S hL C (dk k_W_law_0 23 rfl) (dk k_W_law_0 24 rfl) (dk k_W_law_0 25 rfl) (dk k_W_law_0 26 rfl) (dk k_W_law_0 27 rfl) rfl rfl (by omega) ?_
  refine V_callVr (pc := 166) (as := [vI (xs (6 * n + 1)).toInt]) C (dk k_W_law_0 28 rfl) lk_W_13 cm_F_write vm_F_write (c_F_write _ _ _ pl sp π x us ks lk tx (n : Int) hC hV hj (xs (6 * n + 1)).toInt (oi_R _)) kq_0 rfl rfl rfl (Nat.le_of_ble_eq_true rfl) (hRm.mono (by decide) (by decide)) (fun τ1 q1 => ?_)
  have hC1 := q1.1
  have hM1 := hM.fc q1.2
  refine V_aload_n (pc := 169) (z := 128) C (dk k_W_law_0 29 rfl) rfl ?_
  refine VL_arg (pc := 170) (i := 6 * n) (q := 1) S hL C (dk k_W_law_1 0 rfl) (dk k_W_law_1 1 rfl) (dk k_W_law_1 2 rfl) (dk k_W_law_1 3 rfl) (dk k_W_law_1 4 rfl) rfl rfl (by omega) ?_
  refine V_callVr (pc := 175) (as := [vI (xs (6 * n + 1)).toInt]) C (dk k_W_law_1 5 rfl) lk_W_17 cm_Z_write vm_Z_write (c_Z_write _ _ _ π x us ks lk tx (n : Int) hM1 hV hj (xs (6 * n + 1)).toInt (oi_R _)) kq_128 rfl rfl rfl (Nat.le_of_ble_eq_true rfl) (hRm.mono (by decide) (by decide)) (fun τ2 q2 => ?_)
  have hC2 := hC1.fm q2.2
  have hM2 := q2.1
  refine VL_same (pc := 178) C (dk k_W_law_1 6 rfl) 934 rfl ?_
  exact k _ ⟨_, _, _, _, _, _, _, _, hC2, hM2, hV.up⟩
set_option maxRecDepth 20000 in
theorem law_1 {X : KX} {b L : Nat} {xs : Nat → Int32} {τ : Wd} {n : Nat} (C : Cx X b_W_law "ForgoneShopLaw") (S : LX X b L xs) (hRm : Rm X 8 300) (hL : L ≤ 384) (hn : 6 * n + 6 ≤ L) (hI : LI (n : Int) τ) (k : ∀ τ', LI ((n : Int) + 1) τ' → V X 934 (lcl b (6 * n)) [] τ') : V X 183 (lcl b (6 * n)) [] τ := by
  obtain ⟨pl, sp, π, x, us, ks, lk, tx, hC, hM, hV⟩ := hI
  have hj : (n : Int) ≤ 100 := by omega
  refine V_aload_n (pc := 183) (z := 0) C (dk k_W_law_1 9 rfl) rfl ?_
  refine V_callVr (pc := 184) (as := []) C (dk k_W_law_1 10 rfl) lk_W_18 cm_F_wipe vm_F_wipe (c_F_wipe _ _ _ pl sp π x us ks lk tx (n : Int) hC hV hj  ) kq_0 rfl rfl rfl (Nat.le_of_ble_eq_true rfl) (hRm.mono (by decide) (by decide)) (fun τ1 q1 => ?_)
  have hC1 := q1.1
  have hM1 := hM.fc q1.2
  refine V_aload_n (pc := 187) (z := 128) C (dk k_W_law_1 11 rfl) rfl ?_
  refine V_callVr (pc := 188) (as := []) C (dk k_W_law_1 12 rfl) lk_W_22 cm_Z_wipe vm_Z_wipe (c_Z_wipe _ _ _ π x us ks lk tx (n : Int) hM1 hV hj  ) kq_128 rfl rfl rfl (Nat.le_of_ble_eq_true rfl) (hRm.mono (by decide) (by decide)) (fun τ2 q2 => ?_)
  have hC2 := hC1.fm q2.2
  have hM2 := q2.1
  refine VL_same (pc := 191) C (dk k_W_law_1 13 rfl) 934 rfl ?_
  exact k _ ⟨_, _, _, _, _, _, _, _, hC2, hM2, hV.up⟩
set_option maxRecDepth 20000 in
theorem law_2 {X : KX} {b L : Nat} {xs : Nat → Int32} {τ : Wd} {n : Nat} (C : Cx X b_W_law "ForgoneShopLaw") (S : LX X b L xs) (hRm : Rm X 8 300) (hL : L ≤ 384) (hn : 6 * n + 6 ≤ L) (hI : LI (n : Int) τ) (k : ∀ τ', LI ((n : Int) + 1) τ' → V X 934 (lcl b (6 * n)) [] τ') : V X 196 (lcl b (6 * n)) [] τ := by
  obtain ⟨pl, sp, π, x, us, ks, lk, tx, hC, hM, hV⟩ := hI
  have hj : (n : Int) ≤ 100 := by omega
  refine V_aload_n (pc := 196) (z := 0) C (dk k_W_law_1 16 rfl) rfl ?_
  refine V_callVr (pc := 197) (as := []) C (dk k_W_law_1 17 rfl) lk_W_23 cm_F_fault vm_F_fault (c_F_fault _ _ _ pl sp π x us ks lk tx (n : Int) hC hV hj  ) kq_0 rfl rfl rfl (Nat.le_of_ble_eq_true rfl) (hRm.mono (by decide) (by decide)) (fun τ1 q1 => ?_)
  have hC1 := q1.1
  have hM1 := hM.fc q1.2
  refine V_aload_n (pc := 200) (z := 128) C (dk k_W_law_1 18 rfl) rfl ?_
  refine V_callVr (pc := 201) (as := []) C (dk k_W_law_1 19 rfl) lk_W_26 cm_Z_fault vm_Z_fault (c_Z_fault _ _ _ π x us ks lk tx (n : Int) hM1 hV hj  ) kq_128 rfl rfl rfl (Nat.le_of_ble_eq_true rfl) (hRm.mono (by decide) (by decide)) (fun τ2 q2 => ?_)
  have hC2 := hC1.fm q2.2.1
  have hM2 := q2.1
  refine VL_same (pc := 204) C (dk k_W_law_1 20 rfl) 934 rfl ?_
  exact k _ ⟨_, _, _, _, _, _, _, _, hC2, hM2, hV.up⟩
set_option maxRecDepth 20000 in
theorem law_3 {X : KX} {b L : Nat} {xs : Nat → Int32} {τ : Wd} {n : Nat} (C : Cx X b_W_law "ForgoneShopLaw") (S : LX X b L xs) (hRm : Rm X 8 300) (hL : L ≤ 384) (hn : 6 * n + 6 ≤ L) (hI : LI (n : Int) τ) (k : ∀ τ', LI ((n : Int) + 1) τ' → V X 934 (lcl b (6 * n)) [] τ') : V X 209 (lcl b (6 * n)) [] τ := by
  obtain ⟨pl, sp, π, x, us, ks, lk, tx, hC, hM, hV⟩ := hI
  have hj : (n : Int) ≤ 100 := by omega
  by_cases hok : (o_read tx).1 = -4 ∧ dM (o_read tx).2 ≠ []
  · skip
    refine V_aload_n (pc := 209) (z := 0) C (dk k_W_law_1 23 rfl) rfl ?_
    refine V_callVr (pc := 210) (as := []) C (dk k_W_law_1 24 rfl) lk_W_27 cm_F_lay vm_F_lay (c_F_lay _ _ _ pl sp π x us ks lk tx (n : Int) hC hV hj hok  ) kq_0 rfl rfl rfl (Nat.le_of_ble_eq_true rfl) (hRm.mono (by decide) (by decide)) (fun τ1 q1 => ?_)
    have hC1 := q1.1
    have hM1 := hM.fc q1.2
    refine V_aload_n (pc := 213) (z := 128) C (dk k_W_law_1 25 rfl) rfl ?_
    refine V_callVr (pc := 214) (as := []) C (dk k_W_law_1 26 rfl) lk_W_30 cm_Z_lay vm_Z_lay (c_Z_lay _ _ _ π x us ks lk tx (n : Int) hM1 hV hj hok  ) kq_128 rfl rfl rfl (Nat.le_of_ble_eq_true rfl) (hRm.mono (by decide) (by decide)) (fun τ2 q2 => ?_)
    have hC2 := hC1.fm q2.2
    have hM2 := q2.1
    refine VL_same (pc := 217) C (dk k_W_law_1 27 rfl) 934 rfl ?_
    exact k _ ⟨_, _, _, _, _, _, _, _, hC2, hM2, VK.lay hok.2 (by omega)⟩
  · skip
    refine V_aload_n (pc := 209) (z := 0) C (dk k_W_law_1 23 rfl) rfl ?_
    refine V_callVr (pc := 210) (as := []) C (dk k_W_law_1 24 rfl) lk_W_27 cm_F_lay vm_F_lay (c_F_lay0 _ _ _ pl sp π x us ks lk tx (n : Int) hC hV hj hok  ) kq_0 rfl rfl rfl (Nat.le_of_ble_eq_true rfl) (hRm.mono (by decide) (by decide)) (fun τ1 q1 => ?_)
    have hC1 := q1.1
    have hM1 := hM.fc q1.2
    refine V_aload_n (pc := 213) (z := 128) C (dk k_W_law_1 25 rfl) rfl ?_
    refine V_callVr (pc := 214) (as := []) C (dk k_W_law_1 26 rfl) lk_W_30 cm_Z_lay vm_Z_lay (c_Z_lay0 _ _ _ π x us ks lk tx (n : Int) hM1 hV hj hok  ) kq_128 rfl rfl rfl (Nat.le_of_ble_eq_true rfl) (hRm.mono (by decide) (by decide)) (fun τ2 q2 => ?_)
    have hC2 := hC1.fm q2.2
    have hM2 := q2.1
    refine VL_same (pc := 217) C (dk k_W_law_1 27 rfl) 934 rfl ?_
    exact k _ ⟨_, _, _, _, _, _, _, _, hC2, hM2, hV.up⟩
set_option maxRecDepth 20000 in
theorem law_4 {X : KX} {b L : Nat} {xs : Nat → Int32} {τ : Wd} {n : Nat} (C : Cx X b_W_law "ForgoneShopLaw") (S : LX X b L xs) (hRm : Rm X 8 300) (hL : L ≤ 384) (hn : 6 * n + 6 ≤ L) (hI : LI (n : Int) τ) (k : ∀ τ', LI ((n : Int) + 1) τ' → V X 934 (lcl b (6 * n)) [] τ') : V X 222 (lcl b (6 * n)) [] τ := by
  obtain ⟨pl, sp, π, x, us, ks, lk, tx, hC, hM, hV⟩ := hI
  have hj : (n : Int) ≤ 100 := by omega
  refine V_aload_n (pc := 222) (z := 0) C (dk k_W_law_2 0 rfl) rfl ?_
  refine VL_arg (pc := 223) (i := 6 * n) (q := 1) S hL C (dk k_W_law_2 1 rfl) (dk k_W_law_2 2 rfl) (dk k_W_law_2 3 rfl) (dk k_W_law_2 4 rfl) (dk k_W_law_2 5 rfl) rfl rfl (by omega) ?_
  refine VL_arg (pc := 228) (i := 6 * n) (q := 2) S hL C (dk k_W_law_2 6 rfl) (dk k_W_law_2 7 rfl) (dk k_W_law_2 8 rfl) (dk k_W_law_2 9 rfl) (dk k_W_law_2 10 rfl) rfl rfl (by omega) ?_
  refine V_callV (pc := 233) (as := [vI (xs (6 * n + 1)).toInt, vI (xs (6 * n + 2)).toInt]) C (dk k_W_law_2 11 rfl) lk_W_31 cm_F_person vm_F_person (c_F_person _ _ _ pl sp π x us ks lk tx (n : Int) hC hV hj (xs (6 * n + 1)).toInt (xs (6 * n + 2)).toInt (oi_R _) (oi_R _)) kq_0 rfl rfl rfl (Nat.le_of_ble_eq_true rfl) (hRm.mono (by decide) (by decide)) ?_
  have hC1 := hC
  have hM1 := hM
  refine V_aload_n (pc := 236) (z := 128) C (dk k_W_law_2 12 rfl) rfl ?_
  refine VL_arg (pc := 237) (i := 6 * n) (q := 1) S hL C (dk k_W_law_2 13 rfl) (dk k_W_law_2 14 rfl) (dk k_W_law_2 15 rfl) (dk k_W_law_2 16 rfl) (dk k_W_law_2 17 rfl) rfl rfl (by omega) ?_
  refine VL_arg (pc := 242) (i := 6 * n) (q := 2) S hL C (dk k_W_law_2 18 rfl) (dk k_W_law_2 19 rfl) (dk k_W_law_2 20 rfl) (dk k_W_law_2 21 rfl) (dk k_W_law_2 22 rfl) rfl rfl (by omega) ?_
  refine V_callV (pc := 247) (as := [vI (xs (6 * n + 1)).toInt, vI (xs (6 * n + 2)).toInt]) C (dk k_W_law_2 23 rfl) lk_W_35 cm_Z_person vm_Z_person (c_Z_person _ _ _ π x us ks lk tx (n : Int) hM1 hV hj (xs (6 * n + 1)).toInt (xs (6 * n + 2)).toInt (oi_R _) (oi_R _)) kq_128 rfl rfl rfl (Nat.le_of_ble_eq_true rfl) (hRm.mono (by decide) (by decide)) ?_
  have hC2 := hC1
  have hM2 := hM1
  refine VL_same (pc := 250) C (dk k_W_law_2 24 rfl) 934 rfl ?_
  exact k _ ⟨_, _, _, _, _, _, _, _, hC2, hM2, hV.up⟩
set_option maxRecDepth 20000 in
theorem law_5 {X : KX} {b L : Nat} {xs : Nat → Int32} {τ : Wd} {n : Nat} (C : Cx X b_W_law "ForgoneShopLaw") (S : LX X b L xs) (hRm : Rm X 8 300) (hL : L ≤ 384) (hn : 6 * n + 6 ≤ L) (hI : LI (n : Int) τ) (k : ∀ τ', LI ((n : Int) + 1) τ' → V X 934 (lcl b (6 * n)) [] τ') : V X 255 (lcl b (6 * n)) [] τ := by
  obtain ⟨pl, sp, π, x, us, ks, lk, tx, hC, hM, hV⟩ := hI
  have hj : (n : Int) ≤ 100 := by omega
  refine V_aload_n (pc := 255) (z := 0) C (dk k_W_law_2 27 rfl) rfl ?_
  refine VL_arg (pc := 256) (i := 6 * n) (q := 1) S hL C (dk k_W_law_2 28 rfl) (dk k_W_law_2 29 rfl) (dk k_W_law_3 0 rfl) (dk k_W_law_3 1 rfl) (dk k_W_law_3 2 rfl) rfl rfl (by omega) ?_
  refine VL_arg (pc := 261) (i := 6 * n) (q := 2) S hL C (dk k_W_law_3 3 rfl) (dk k_W_law_3 4 rfl) (dk k_W_law_3 5 rfl) (dk k_W_law_3 6 rfl) (dk k_W_law_3 7 rfl) rfl rfl (by omega) ?_
  refine V_callV (pc := 266) (as := [vI (xs (6 * n + 1)).toInt, vI (xs (6 * n + 2)).toInt]) C (dk k_W_law_3 8 rfl) lk_W_36 cm_F_thing vm_F_thing (c_F_thing _ _ _ pl sp π x us ks lk tx (n : Int) hC hV hj (xs (6 * n + 1)).toInt (xs (6 * n + 2)).toInt (oi_R _) (oi_R _)) kq_0 rfl rfl rfl (Nat.le_of_ble_eq_true rfl) (hRm.mono (by decide) (by decide)) ?_
  have hC1 := hC
  have hM1 := hM
  refine V_aload_n (pc := 269) (z := 128) C (dk k_W_law_3 9 rfl) rfl ?_
  refine VL_arg (pc := 270) (i := 6 * n) (q := 1) S hL C (dk k_W_law_3 10 rfl) (dk k_W_law_3 11 rfl) (dk k_W_law_3 12 rfl) (dk k_W_law_3 13 rfl) (dk k_W_law_3 14 rfl) rfl rfl (by omega) ?_
  refine VL_arg (pc := 275) (i := 6 * n) (q := 2) S hL C (dk k_W_law_3 15 rfl) (dk k_W_law_3 16 rfl) (dk k_W_law_3 17 rfl) (dk k_W_law_3 18 rfl) (dk k_W_law_3 19 rfl) rfl rfl (by omega) ?_
  refine V_callV (pc := 280) (as := [vI (xs (6 * n + 1)).toInt, vI (xs (6 * n + 2)).toInt]) C (dk k_W_law_3 20 rfl) lk_W_39 cm_Z_thing vm_Z_thing (c_Z_thing _ _ _ π x us ks lk tx (n : Int) hM1 hV hj (xs (6 * n + 1)).toInt (xs (6 * n + 2)).toInt (oi_R _) (oi_R _)) kq_128 rfl rfl rfl (Nat.le_of_ble_eq_true rfl) (hRm.mono (by decide) (by decide)) ?_
  have hC2 := hC1
  have hM2 := hM1
  refine VL_same (pc := 283) C (dk k_W_law_3 21 rfl) 934 rfl ?_
  exact k _ ⟨_, _, _, _, _, _, _, _, hC2, hM2, hV.up⟩
set_option maxRecDepth 20000 in
theorem law_6 {X : KX} {b L : Nat} {xs : Nat → Int32} {τ : Wd} {n : Nat} (C : Cx X b_W_law "ForgoneShopLaw") (S : LX X b L xs) (hRm : Rm X 8 300) (hL : L ≤ 384) (hn : 6 * n + 6 ≤ L) (hI : LI (n : Int) τ) (k : ∀ τ', LI ((n : Int) + 1) τ' → V X 934 (lcl b (6 * n)) [] τ') : V X 288 (lcl b (6 * n)) [] τ := by
  obtain ⟨pl, sp, π, x, us, ks, lk, tx, hC, hM, hV⟩ := hI
  have hj : (n : Int) ≤ 100 := by omega
  refine V_aload_n (pc := 288) (z := 0) C (dk k_W_law_3 24 rfl) rfl ?_
  refine VL_arg (pc := 289) (i := 6 * n) (q := 1) S hL C (dk k_W_law_3 25 rfl) (dk k_W_law_3 26 rfl) (dk k_W_law_3 27 rfl) (dk k_W_law_3 28 rfl) (dk k_W_law_3 29 rfl) rfl rfl (by omega) ?_
  refine V_callV (pc := 294) (as := [vI (xs (6 * n + 1)).toInt]) C (dk k_W_law_4 0 rfl) lk_W_40 cm_F_pays vm_F_pays (c_F_pays _ _ _ pl sp π x us ks lk tx (n : Int) hC hV hj (xs (6 * n + 1)).toInt (oi_R _)) kq_0 rfl rfl rfl (Nat.le_of_ble_eq_true rfl) (hRm.mono (by decide) (by decide)) ?_
  have hC1 := hC
  have hM1 := hM
  refine V_aload_n (pc := 297) (z := 128) C (dk k_W_law_4 1 rfl) rfl ?_
  refine VL_arg (pc := 298) (i := 6 * n) (q := 1) S hL C (dk k_W_law_4 2 rfl) (dk k_W_law_4 3 rfl) (dk k_W_law_4 4 rfl) (dk k_W_law_4 5 rfl) (dk k_W_law_4 6 rfl) rfl rfl (by omega) ?_
  refine V_callV (pc := 303) (as := [vI (xs (6 * n + 1)).toInt]) C (dk k_W_law_4 7 rfl) lk_W_43 cm_Z_pays vm_Z_pays (c_Z_pays _ _ _ π x us ks lk tx (n : Int) hM1 hV hj (xs (6 * n + 1)).toInt (oi_R _)) kq_128 rfl rfl rfl (Nat.le_of_ble_eq_true rfl) (hRm.mono (by decide) (by decide)) ?_
  have hC2 := hC1
  have hM2 := hM1
  refine VL_same (pc := 306) C (dk k_W_law_4 8 rfl) 934 rfl ?_
  exact k _ ⟨_, _, _, _, _, _, _, _, hC2, hM2, hV.up⟩
set_option maxRecDepth 20000 in
theorem law_7 {X : KX} {b L : Nat} {xs : Nat → Int32} {τ : Wd} {n : Nat} (C : Cx X b_W_law "ForgoneShopLaw") (S : LX X b L xs) (hRm : Rm X 8 300) (hL : L ≤ 384) (hn : 6 * n + 6 ≤ L) (hI : LI (n : Int) τ) (k : ∀ τ', LI ((n : Int) + 1) τ' → V X 934 (lcl b (6 * n)) [] τ') : V X 311 (lcl b (6 * n)) [] τ := by
  obtain ⟨pl, sp, π, x, us, ks, lk, tx, hC, hM, hV⟩ := hI
  have hj : (n : Int) ≤ 100 := by omega
  refine V_aload_n (pc := 311) (z := 0) C (dk k_W_law_4 11 rfl) rfl ?_
  refine VL_arg (pc := 312) (i := 6 * n) (q := 1) S hL C (dk k_W_law_4 12 rfl) (dk k_W_law_4 13 rfl) (dk k_W_law_4 14 rfl) (dk k_W_law_4 15 rfl) (dk k_W_law_4 16 rfl) rfl rfl (by omega) ?_
  refine V_callVr (pc := 317) (as := [vI (xs (6 * n + 1)).toInt]) C (dk k_W_law_4 17 rfl) lk_W_44 cm_F_sell vm_F_sell (c_F_sell _ _ _ pl sp π x us ks lk tx (n : Int) hC hV hj (xs (6 * n + 1)).toInt (oi_R _)) kq_0 rfl rfl rfl (Nat.le_of_ble_eq_true rfl) (hRm.mono (by decide) (by decide)) (fun τ1 q1 => ?_)
  have hC1 := q1.1
  have hM1 := hM.fc q1.2
  refine V_aload_n (pc := 320) (z := 128) C (dk k_W_law_4 18 rfl) rfl ?_
  refine VL_arg (pc := 321) (i := 6 * n) (q := 1) S hL C (dk k_W_law_4 19 rfl) (dk k_W_law_4 20 rfl) (dk k_W_law_4 21 rfl) (dk k_W_law_4 22 rfl) (dk k_W_law_4 23 rfl) rfl rfl (by omega) ?_
  refine V_callVr (pc := 326) (as := [vI (xs (6 * n + 1)).toInt]) C (dk k_W_law_4 24 rfl) lk_W_47 cm_Z_sell vm_Z_sell (c_Z_sell _ _ _ π x us ks lk tx (n : Int) hM1 hV hj (xs (6 * n + 1)).toInt (oi_R _)) kq_128 rfl rfl rfl (Nat.le_of_ble_eq_true rfl) (hRm.mono (by decide) (by decide)) (fun τ2 q2 => ?_)
  have hC2 := hC1.fm q2.2
  have hM2 := q2.1
  refine VL_same (pc := 329) C (dk k_W_law_4 25 rfl) 934 rfl ?_
  exact k _ ⟨_, _, _, _, _, _, _, _, hC2, hM2, hV.sell _⟩
set_option maxRecDepth 20000 in
theorem law_8 {X : KX} {b L : Nat} {xs : Nat → Int32} {τ : Wd} {n : Nat} (C : Cx X b_W_law "ForgoneShopLaw") (S : LX X b L xs) (hRm : Rm X 8 300) (hL : L ≤ 384) (hn : 6 * n + 6 ≤ L) (hI : LI (n : Int) τ) (k : ∀ τ', LI ((n : Int) + 1) τ' → V X 934 (lcl b (6 * n)) [] τ') : V X 334 (lcl b (6 * n)) [] τ := by
  obtain ⟨pl, sp, π, x, us, ks, lk, tx, hC, hM, hV⟩ := hI
  have hj : (n : Int) ≤ 100 := by omega
  refine V_aload_n (pc := 334) (z := 0) C (dk k_W_law_4 28 rfl) rfl ?_
  refine VL_arg (pc := 335) (i := 6 * n) (q := 1) S hL C (dk k_W_law_4 29 rfl) (dk k_W_law_5 0 rfl) (dk k_W_law_5 1 rfl) (dk k_W_law_5 2 rfl) (dk k_W_law_5 3 rfl) rfl rfl (by omega) ?_
  refine V_callVr (pc := 340) (as := [vI (xs (6 * n + 1)).toInt]) C (dk k_W_law_5 4 rfl) lk_W_48 cm_F_buyBack vm_F_buyBack (c_F_buyBack _ _ _ pl sp π x us ks lk tx (n : Int) hC hV hj (xs (6 * n + 1)).toInt (oi_R _)) kq_0 rfl rfl rfl (Nat.le_of_ble_eq_true rfl) (hRm.mono (by decide) (by decide)) (fun τ1 q1 => ?_)
  have hC1 := q1.1
  have hM1 := hM.fc q1.2
  refine V_aload_n (pc := 343) (z := 128) C (dk k_W_law_5 5 rfl) rfl ?_
  refine VL_arg (pc := 344) (i := 6 * n) (q := 1) S hL C (dk k_W_law_5 6 rfl) (dk k_W_law_5 7 rfl) (dk k_W_law_5 8 rfl) (dk k_W_law_5 9 rfl) (dk k_W_law_5 10 rfl) rfl rfl (by omega) ?_
  refine V_callVr (pc := 349) (as := [vI (xs (6 * n + 1)).toInt]) C (dk k_W_law_5 11 rfl) lk_W_51 cm_Z_buyBack vm_Z_buyBack (c_Z_buyBack _ _ _ π x us ks lk tx (n : Int) hM1 hV hj (xs (6 * n + 1)).toInt (oi_R _)) kq_128 rfl rfl rfl (Nat.le_of_ble_eq_true rfl) (hRm.mono (by decide) (by decide)) (fun τ2 q2 => ?_)
  have hC2 := hC1.fm q2.2
  have hM2 := q2.1
  refine VL_same (pc := 352) C (dk k_W_law_5 12 rfl) 934 rfl ?_
  exact k _ ⟨_, _, _, _, _, _, _, _, hC2, hM2, hV.buy _⟩
set_option maxRecDepth 20000 in
theorem law_9 {X : KX} {b L : Nat} {xs : Nat → Int32} {τ : Wd} {n : Nat} (C : Cx X b_W_law "ForgoneShopLaw") (S : LX X b L xs) (hRm : Rm X 8 300) (hL : L ≤ 384) (hn : 6 * n + 6 ≤ L) (hI : LI (n : Int) τ) (k : ∀ τ', LI ((n : Int) + 1) τ' → V X 934 (lcl b (6 * n)) [] τ') : V X 357 (lcl b (6 * n)) [] τ := by
  obtain ⟨pl, sp, π, x, us, ks, lk, tx, hC, hM, hV⟩ := hI
  have hj : (n : Int) ≤ 100 := by omega
  refine V_aload_n (pc := 357) (z := 0) C (dk k_W_law_5 15 rfl) rfl ?_
  refine VL_arg (pc := 358) (i := 6 * n) (q := 1) S hL C (dk k_W_law_5 16 rfl) (dk k_W_law_5 17 rfl) (dk k_W_law_5 18 rfl) (dk k_W_law_5 19 rfl) (dk k_W_law_5 20 rfl) rfl rfl (by omega) ?_
  refine V_callVr (pc := 363) (as := [vI (xs (6 * n + 1)).toInt]) C (dk k_W_law_5 21 rfl) lk_W_52 cm_F_pass vm_F_pass (c_F_pass _ _ _ pl sp π x us ks lk tx (n : Int) hC hV hj (xs (6 * n + 1)).toInt (oi_R _)) kq_0 rfl rfl rfl (Nat.le_of_ble_eq_true rfl) (hRm.mono (by decide) (by decide)) (fun τ1 q1 => ?_)
  have hC1 := q1.1
  have hM1 := hM.fc q1.2
  refine V_aload_n (pc := 366) (z := 128) C (dk k_W_law_5 22 rfl) rfl ?_
  refine VL_arg (pc := 367) (i := 6 * n) (q := 1) S hL C (dk k_W_law_5 23 rfl) (dk k_W_law_5 24 rfl) (dk k_W_law_5 25 rfl) (dk k_W_law_5 26 rfl) (dk k_W_law_5 27 rfl) rfl rfl (by omega) ?_
  refine V_callVr (pc := 372) (as := [vI (xs (6 * n + 1)).toInt]) C (dk k_W_law_5 28 rfl) lk_W_55 cm_Z_pass vm_Z_pass (c_Z_pass _ _ _ π x us ks lk tx (n : Int) hM1 hV hj (xs (6 * n + 1)).toInt (oi_R _)) kq_128 rfl rfl rfl (Nat.le_of_ble_eq_true rfl) (hRm.mono (by decide) (by decide)) (fun τ2 q2 => ?_)
  have hC2 := hC1.fm q2.2
  have hM2 := q2.1
  refine VL_same (pc := 375) C (dk k_W_law_5 29 rfl) 934 rfl ?_
  exact k _ ⟨_, _, _, _, _, _, _, _, hC2, hM2, hV.pass _⟩
set_option maxRecDepth 20000 in
theorem law_10 {X : KX} {b L : Nat} {xs : Nat → Int32} {τ : Wd} {n : Nat} (C : Cx X b_W_law "ForgoneShopLaw") (S : LX X b L xs) (hRm : Rm X 8 300) (hL : L ≤ 384) (hn : 6 * n + 6 ≤ L) (hI : LI (n : Int) τ) (k : ∀ τ', LI ((n : Int) + 1) τ' → V X 934 (lcl b (6 * n)) [] τ') : V X 380 (lcl b (6 * n)) [] τ := by
  obtain ⟨pl, sp, π, x, us, ks, lk, tx, hC, hM, hV⟩ := hI
  have hj : (n : Int) ≤ 100 := by omega
  rcases us with _ | ⟨y, us⟩
  · skip
    refine V_aload_n (pc := 380) (z := 0) C (dk k_W_law_6 2 rfl) rfl ?_
    refine V_callV (pc := 381) (as := []) C (dk k_W_law_6 3 rfl) lk_W_56 cm_F_undo vm_F_undo (c_F_undo0 _ _ _ pl sp π x ks lk tx (n : Int) hC hV hj  ) kq_0 rfl rfl rfl (Nat.le_of_ble_eq_true rfl) (hRm.mono (by decide) (by decide)) ?_
    have hC1 := hC
    have hM1 := hM
    refine V_aload_n (pc := 384) (z := 128) C (dk k_W_law_6 4 rfl) rfl ?_
    refine V_callV (pc := 385) (as := []) C (dk k_W_law_6 5 rfl) lk_W_59 cm_Z_undo vm_Z_undo (c_Z_undo0 _ _ _ π x ks lk tx (n : Int) hM1 hV hj  ) kq_128 rfl rfl rfl (Nat.le_of_ble_eq_true rfl) (hRm.mono (by decide) (by decide)) ?_
    have hC2 := hC1
    have hM2 := hM1
    refine VL_same (pc := 388) C (dk k_W_law_6 6 rfl) 934 rfl ?_
    exact k _ ⟨_, _, _, _, _, _, _, _, hC2, hM2, hV.up⟩
  · skip
    refine V_aload_n (pc := 380) (z := 0) C (dk k_W_law_6 2 rfl) rfl ?_
    refine V_callVr (pc := 381) (as := []) C (dk k_W_law_6 3 rfl) lk_W_56 cm_F_undo vm_F_undo (c_F_undo _ _ _ pl sp π x y us ks lk tx (n : Int) hC hV hj  ) kq_0 rfl rfl rfl (Nat.le_of_ble_eq_true rfl) (hRm.mono (by decide) (by decide)) (fun τ1 q1 => ?_)
    have hC1 := q1.1
    have hM1 := hM.fc q1.2
    refine V_aload_n (pc := 384) (z := 128) C (dk k_W_law_6 4 rfl) rfl ?_
    refine V_callVr (pc := 385) (as := []) C (dk k_W_law_6 5 rfl) lk_W_59 cm_Z_undo vm_Z_undo (c_Z_undo _ _ _ π x y us ks lk tx (n : Int) hM1 hV hj  ) kq_128 rfl rfl rfl (Nat.le_of_ble_eq_true rfl) (hRm.mono (by decide) (by decide)) (fun τ2 q2 => ?_)
    have hC2 := hC1.fm q2.2
    have hM2 := q2.1
    refine VL_same (pc := 388) C (dk k_W_law_6 6 rfl) 934 rfl ?_
    exact k _ ⟨_, _, _, _, _, _, _, _, hC2, hM2, hV.undo⟩
set_option maxRecDepth 20000 in
theorem law_11 {X : KX} {b L : Nat} {xs : Nat → Int32} {τ : Wd} {n : Nat} (C : Cx X b_W_law "ForgoneShopLaw") (S : LX X b L xs) (hRm : Rm X 8 300) (hL : L ≤ 384) (hn : 6 * n + 6 ≤ L) (hI : LI (n : Int) τ) (k : ∀ τ', LI ((n : Int) + 1) τ' → V X 934 (lcl b (6 * n)) [] τ') : V X 393 (lcl b (6 * n)) [] τ := by
  obtain ⟨pl, sp, π, x, us, ks, lk, tx, hC, hM, hV⟩ := hI
  have hj : (n : Int) ≤ 100 := by omega
  refine V_aload_n (pc := 393) (z := 0) C (dk k_W_law_6 9 rfl) rfl ?_
  refine VL_arg (pc := 394) (i := 6 * n) (q := 1) S hL C (dk k_W_law_6 10 rfl) (dk k_W_law_6 11 rfl) (dk k_W_law_6 12 rfl) (dk k_W_law_6 13 rfl) (dk k_W_law_6 14 rfl) rfl rfl (by omega) ?_
  refine VL_arg (pc := 399) (i := 6 * n) (q := 2) S hL C (dk k_W_law_6 15 rfl) (dk k_W_law_6 16 rfl) (dk k_W_law_6 17 rfl) (dk k_W_law_6 18 rfl) (dk k_W_law_6 19 rfl) rfl rfl (by omega) ?_
  refine V_callV (pc := 404) (as := [vI (xs (6 * n + 1)).toInt, vI (xs (6 * n + 2)).toInt]) C (dk k_W_law_6 20 rfl) lk_W_60 cm_F_behind vm_F_behind (c_F_behind _ _ _ pl sp π x us ks lk tx (n : Int) hC hV hj (xs (6 * n + 1)).toInt (xs (6 * n + 2)).toInt (oi_R _) (oi_R _)) kq_0 rfl rfl rfl (Nat.le_of_ble_eq_true rfl) (hRm.mono (by decide) (by decide)) ?_
  have hC1 := hC
  have hM1 := hM
  refine V_aload_n (pc := 407) (z := 128) C (dk k_W_law_6 21 rfl) rfl ?_
  refine VL_arg (pc := 408) (i := 6 * n) (q := 1) S hL C (dk k_W_law_6 22 rfl) (dk k_W_law_6 23 rfl) (dk k_W_law_6 24 rfl) (dk k_W_law_6 25 rfl) (dk k_W_law_6 26 rfl) rfl rfl (by omega) ?_
  refine VL_arg (pc := 413) (i := 6 * n) (q := 2) S hL C (dk k_W_law_6 27 rfl) (dk k_W_law_6 28 rfl) (dk k_W_law_6 29 rfl) (dk k_W_law_7 0 rfl) (dk k_W_law_7 1 rfl) rfl rfl (by omega) ?_
  refine V_callVr (pc := 418) (as := [vI (xs (6 * n + 1)).toInt, vI (xs (6 * n + 2)).toInt]) C (dk k_W_law_7 2 rfl) lk_W_63 cm_Z_behind vm_Z_behind (c_Z_behind _ _ _ π x us ks lk tx (n : Int) hM1 hV hj (xs (6 * n + 1)).toInt (xs (6 * n + 2)).toInt (oi_R _) (oi_R _)) kq_128 rfl rfl rfl (Nat.le_of_ble_eq_true rfl) (hRm.mono (by decide) (by decide)) (fun τ2 q2 => ?_)
  have hC2 := hC1.fm q2.2
  have hM2 := q2.1
  refine VL_same (pc := 421) C (dk k_W_law_7 3 rfl) 934 rfl ?_
  exact k _ ⟨_, _, _, _, _, _, _, _, hC2, hM2, hV.up⟩
set_option maxRecDepth 20000 in
theorem law_12 {X : KX} {b L : Nat} {xs : Nat → Int32} {τ : Wd} {n : Nat} (C : Cx X b_W_law "ForgoneShopLaw") (S : LX X b L xs) (hRm : Rm X 8 300) (hL : L ≤ 384) (hn : 6 * n + 6 ≤ L) (hI : LI (n : Int) τ) (k : ∀ τ', LI ((n : Int) + 1) τ' → V X 934 (lcl b (6 * n)) [] τ') : V X 426 (lcl b (6 * n)) [] τ := by
  obtain ⟨pl, sp, π, x, us, ks, lk, tx, hC, hM, hV⟩ := hI
  have hj : (n : Int) ≤ 100 := by omega
  refine V_aload_n (pc := 426) (z := 0) C (dk k_W_law_7 6 rfl) rfl ?_
  refine VL_arg (pc := 427) (i := 6 * n) (q := 1) S hL C (dk k_W_law_7 7 rfl) (dk k_W_law_7 8 rfl) (dk k_W_law_7 9 rfl) (dk k_W_law_7 10 rfl) (dk k_W_law_7 11 rfl) rfl rfl (by omega) ?_
  refine V_callVr (pc := 432) (as := [vI (xs (6 * n + 1)).toInt]) C (dk k_W_law_7 12 rfl) lk_W_64 cm_F_heard vm_F_heard (c_F_heard _ _ _ pl sp π x us ks lk tx (n : Int) hC hV hj (xs (6 * n + 1)).toInt (oi_R _)) kq_0 rfl rfl rfl (Nat.le_of_ble_eq_true rfl) (hRm.mono (by decide) (by decide)) (fun τ1 q1 => ?_)
  have hC1 := q1.1
  have hM1 := hM.fc q1.2
  refine V_aload_n (pc := 435) (z := 128) C (dk k_W_law_7 13 rfl) rfl ?_
  refine VL_arg (pc := 436) (i := 6 * n) (q := 1) S hL C (dk k_W_law_7 14 rfl) (dk k_W_law_7 15 rfl) (dk k_W_law_7 16 rfl) (dk k_W_law_7 17 rfl) (dk k_W_law_7 18 rfl) rfl rfl (by omega) ?_
  refine V_callVr (pc := 441) (as := [vI (xs (6 * n + 1)).toInt]) C (dk k_W_law_7 19 rfl) lk_W_67 cm_Z_heard vm_Z_heard (c_Z_heard _ _ _ π x us ks lk tx (n : Int) hM1 hV hj (xs (6 * n + 1)).toInt (oi_R _)) kq_128 rfl rfl rfl (Nat.le_of_ble_eq_true rfl) (hRm.mono (by decide) (by decide)) (fun τ2 q2 => ?_)
  have hC2 := hC1.fm q2.2
  have hM2 := q2.1
  refine VL_same (pc := 444) C (dk k_W_law_7 20 rfl) 934 rfl ?_
  exact k _ ⟨_, _, _, _, _, _, _, _, hC2, hM2, hV.up⟩
set_option maxRecDepth 20000 in
theorem law_13 {X : KX} {b L : Nat} {xs : Nat → Int32} {τ : Wd} {n : Nat} (C : Cx X b_W_law "ForgoneShopLaw") (S : LX X b L xs) (hRm : Rm X 8 300) (hL : L ≤ 384) (hn : 6 * n + 6 ≤ L) (hI : LI (n : Int) τ) (k : ∀ τ', LI ((n : Int) + 1) τ' → V X 934 (lcl b (6 * n)) [] τ') : V X 449 (lcl b (6 * n)) [] τ := by
  obtain ⟨pl, sp, π, x, us, ks, lk, tx, hC, hM, hV⟩ := hI
  have hj : (n : Int) ≤ 100 := by omega
  refine V_aload_n (pc := 449) (z := 0) C (dk k_W_law_7 23 rfl) rfl ?_
  refine VL_arg (pc := 450) (i := 6 * n) (q := 1) S hL C (dk k_W_law_7 24 rfl) (dk k_W_law_7 25 rfl) (dk k_W_law_7 26 rfl) (dk k_W_law_7 27 rfl) (dk k_W_law_7 28 rfl) rfl rfl (by omega) ?_
  refine VL_arg (pc := 455) (i := 6 * n) (q := 2) S hL C (dk k_W_law_7 29 rfl) (dk k_W_law_8 0 rfl) (dk k_W_law_8 1 rfl) (dk k_W_law_8 2 rfl) (dk k_W_law_8 3 rfl) rfl rfl (by omega) ?_
  refine VL_arg (pc := 460) (i := 6 * n) (q := 3) S hL C (dk k_W_law_8 4 rfl) (dk k_W_law_8 5 rfl) (dk k_W_law_8 6 rfl) (dk k_W_law_8 7 rfl) (dk k_W_law_8 8 rfl) rfl rfl (by omega) ?_
  refine V_callVr (pc := 465) (as := [vI (xs (6 * n + 1)).toInt, vI (xs (6 * n + 2)).toInt, vI (xs (6 * n + 3)).toInt]) C (dk k_W_law_8 9 rfl) lk_W_68 cm_F_sum vm_F_sum (c_F_sum _ _ _ pl sp π x us ks lk tx (n : Int) hC hV hj (xs (6 * n + 1)).toInt (xs (6 * n + 2)).toInt (xs (6 * n + 3)).toInt (oi_R _) (oi_R _) (oi_R _)) kq_0 rfl rfl rfl (Nat.le_of_ble_eq_true rfl) (hRm.mono (by decide) (by decide)) (fun τ1 q1 => ?_)
  have hC1 := q1.1
  have hM1 := hM.fc q1.2
  refine V_aload_n (pc := 468) (z := 128) C (dk k_W_law_8 10 rfl) rfl ?_
  refine VL_arg (pc := 469) (i := 6 * n) (q := 1) S hL C (dk k_W_law_8 11 rfl) (dk k_W_law_8 12 rfl) (dk k_W_law_8 13 rfl) (dk k_W_law_8 14 rfl) (dk k_W_law_8 15 rfl) rfl rfl (by omega) ?_
  refine VL_arg (pc := 474) (i := 6 * n) (q := 2) S hL C (dk k_W_law_8 16 rfl) (dk k_W_law_8 17 rfl) (dk k_W_law_8 18 rfl) (dk k_W_law_8 19 rfl) (dk k_W_law_8 20 rfl) rfl rfl (by omega) ?_
  refine VL_arg (pc := 479) (i := 6 * n) (q := 3) S hL C (dk k_W_law_8 21 rfl) (dk k_W_law_8 22 rfl) (dk k_W_law_8 23 rfl) (dk k_W_law_8 24 rfl) (dk k_W_law_8 25 rfl) rfl rfl (by omega) ?_
  refine V_callV (pc := 484) (as := [vI (xs (6 * n + 1)).toInt, vI (xs (6 * n + 2)).toInt, vI (xs (6 * n + 3)).toInt]) C (dk k_W_law_8 26 rfl) lk_W_72 cm_Z_sum vm_Z_sum (c_Z_sum _ _ _ π x us ks lk tx (n : Int) hM1 hV hj (xs (6 * n + 1)).toInt (xs (6 * n + 2)).toInt (xs (6 * n + 3)).toInt (oi_R _) (oi_R _) (oi_R _)) kq_128 rfl rfl rfl (Nat.le_of_ble_eq_true rfl) (hRm.mono (by decide) (by decide)) ?_
  have hC2 := hC1
  have hM2 := hM1
  refine VL_same (pc := 487) C (dk k_W_law_8 27 rfl) 934 rfl ?_
  exact k _ ⟨_, _, _, _, _, _, _, _, hC2, hM2, hV.up⟩
set_option maxRecDepth 20000 in
theorem law_14 {X : KX} {b L : Nat} {xs : Nat → Int32} {τ : Wd} {n : Nat} (C : Cx X b_W_law "ForgoneShopLaw") (S : LX X b L xs) (hRm : Rm X 8 300) (hL : L ≤ 384) (hn : 6 * n + 6 ≤ L) (hI : LI (n : Int) τ) (k : ∀ τ', LI ((n : Int) + 1) τ' → V X 934 (lcl b (6 * n)) [] τ') : V X 492 (lcl b (6 * n)) [] τ := by
  obtain ⟨pl, sp, π, x, us, ks, lk, tx, hC, hM, hV⟩ := hI
  have hj : (n : Int) ≤ 100 := by omega
  refine V_aload_n (pc := 492) (z := 0) C (dk k_W_law_9 0 rfl) rfl ?_
  refine VL_arg (pc := 493) (i := 6 * n) (q := 1) S hL C (dk k_W_law_9 1 rfl) (dk k_W_law_9 2 rfl) (dk k_W_law_9 3 rfl) (dk k_W_law_9 4 rfl) (dk k_W_law_9 5 rfl) rfl rfl (by omega) ?_
  refine VL_arg (pc := 498) (i := 6 * n) (q := 2) S hL C (dk k_W_law_9 6 rfl) (dk k_W_law_9 7 rfl) (dk k_W_law_9 8 rfl) (dk k_W_law_9 9 rfl) (dk k_W_law_9 10 rfl) rfl rfl (by omega) ?_
  refine V_callVr (pc := 503) (as := [vI (xs (6 * n + 1)).toInt, vI (xs (6 * n + 2)).toInt]) C (dk k_W_law_9 11 rfl) lk_W_73 cm_F_take vm_F_take (c_F_take _ _ _ pl sp π x us ks lk tx (n : Int) hC hV hj (xs (6 * n + 1)).toInt (xs (6 * n + 2)).toInt (oi_R _) (oi_R _)) kq_0 rfl rfl rfl (Nat.le_of_ble_eq_true rfl) (hRm.mono (by decide) (by decide)) (fun τ1 q1 => ?_)
  have hC1 := q1.1
  have hM1 := hM.fc q1.2
  refine V_aload_n (pc := 506) (z := 128) C (dk k_W_law_9 12 rfl) rfl ?_
  refine VL_arg (pc := 507) (i := 6 * n) (q := 1) S hL C (dk k_W_law_9 13 rfl) (dk k_W_law_9 14 rfl) (dk k_W_law_9 15 rfl) (dk k_W_law_9 16 rfl) (dk k_W_law_9 17 rfl) rfl rfl (by omega) ?_
  refine VL_arg (pc := 512) (i := 6 * n) (q := 2) S hL C (dk k_W_law_9 18 rfl) (dk k_W_law_9 19 rfl) (dk k_W_law_9 20 rfl) (dk k_W_law_9 21 rfl) (dk k_W_law_9 22 rfl) rfl rfl (by omega) ?_
  refine V_callVr (pc := 517) (as := [vI (xs (6 * n + 1)).toInt, vI (xs (6 * n + 2)).toInt]) C (dk k_W_law_9 23 rfl) lk_W_76 cm_Z_take vm_Z_take (c_Z_take _ _ _ π x us ks lk tx (n : Int) hM1 hV hj (xs (6 * n + 1)).toInt (xs (6 * n + 2)).toInt (oi_R _) (oi_R _)) kq_128 rfl rfl rfl (Nat.le_of_ble_eq_true rfl) (hRm.mono (by decide) (by decide)) (fun τ2 q2 => ?_)
  have hC2 := hC1.fm q2.2
  have hM2 := q2.1
  refine VL_same (pc := 520) C (dk k_W_law_9 24 rfl) 934 rfl ?_
  exact k _ ⟨_, _, _, _, _, _, _, _, hC2, hM2, hV.up⟩
set_option maxRecDepth 20000 in
theorem law_15 {X : KX} {b L : Nat} {xs : Nat → Int32} {τ : Wd} {n : Nat} (C : Cx X b_W_law "ForgoneShopLaw") (S : LX X b L xs) (hRm : Rm X 8 300) (hL : L ≤ 384) (hn : 6 * n + 6 ≤ L) (hI : LI (n : Int) τ) (k : ∀ τ', LI ((n : Int) + 1) τ' → V X 934 (lcl b (6 * n)) [] τ') : V X 525 (lcl b (6 * n)) [] τ := by
  obtain ⟨pl, sp, π, x, us, ks, lk, tx, hC, hM, hV⟩ := hI
  have hj : (n : Int) ≤ 100 := by omega
  refine V_aload_n (pc := 525) (z := 0) C (dk k_W_law_9 27 rfl) rfl ?_
  refine VL_arg (pc := 526) (i := 6 * n) (q := 1) S hL C (dk k_W_law_9 28 rfl) (dk k_W_law_9 29 rfl) (dk k_W_law_10 0 rfl) (dk k_W_law_10 1 rfl) (dk k_W_law_10 2 rfl) rfl rfl (by omega) ?_
  refine VL_arg (pc := 531) (i := 6 * n) (q := 2) S hL C (dk k_W_law_10 3 rfl) (dk k_W_law_10 4 rfl) (dk k_W_law_10 5 rfl) (dk k_W_law_10 6 rfl) (dk k_W_law_10 7 rfl) rfl rfl (by omega) ?_
  refine V_callV (pc := 536) (as := [vI (xs (6 * n + 1)).toInt, vI (xs (6 * n + 2)).toInt]) C (dk k_W_law_10 8 rfl) lk_W_77 cm_F_when vm_F_when (c_F_when _ _ _ pl sp π x us ks lk tx (n : Int) hC hV hj (xs (6 * n + 1)).toInt (xs (6 * n + 2)).toInt (oi_R _) (oi_R _)) kq_0 rfl rfl rfl (Nat.le_of_ble_eq_true rfl) (hRm.mono (by decide) (by decide)) ?_
  have hC1 := hC
  have hM1 := hM
  refine V_aload_n (pc := 539) (z := 128) C (dk k_W_law_10 9 rfl) rfl ?_
  refine VL_arg (pc := 540) (i := 6 * n) (q := 1) S hL C (dk k_W_law_10 10 rfl) (dk k_W_law_10 11 rfl) (dk k_W_law_10 12 rfl) (dk k_W_law_10 13 rfl) (dk k_W_law_10 14 rfl) rfl rfl (by omega) ?_
  refine VL_arg (pc := 545) (i := 6 * n) (q := 2) S hL C (dk k_W_law_10 15 rfl) (dk k_W_law_10 16 rfl) (dk k_W_law_10 17 rfl) (dk k_W_law_10 18 rfl) (dk k_W_law_10 19 rfl) rfl rfl (by omega) ?_
  refine V_callV (pc := 550) (as := [vI (xs (6 * n + 1)).toInt, vI (xs (6 * n + 2)).toInt]) C (dk k_W_law_10 20 rfl) lk_W_80 cm_Z_when vm_Z_when (c_Z_when _ _ _ π x us ks lk tx (n : Int) hM1 hV hj (xs (6 * n + 1)).toInt (xs (6 * n + 2)).toInt (oi_R _) (oi_R _)) kq_128 rfl rfl rfl (Nat.le_of_ble_eq_true rfl) (hRm.mono (by decide) (by decide)) ?_
  have hC2 := hC1
  have hM2 := hM1
  refine VL_same (pc := 553) C (dk k_W_law_10 21 rfl) 934 rfl ?_
  exact k _ ⟨_, _, _, _, _, _, _, _, hC2, hM2, hV.up⟩
set_option maxRecDepth 20000 in
theorem law_16 {X : KX} {b L : Nat} {xs : Nat → Int32} {τ : Wd} {n : Nat} (C : Cx X b_W_law "ForgoneShopLaw") (S : LX X b L xs) (hRm : Rm X 8 300) (hL : L ≤ 384) (hn : 6 * n + 6 ≤ L) (hI : LI (n : Int) τ) (k : ∀ τ', LI ((n : Int) + 1) τ' → V X 934 (lcl b (6 * n)) [] τ') : V X 558 (lcl b (6 * n)) [] τ := by
  obtain ⟨pl, sp, π, x, us, ks, lk, tx, hC, hM, hV⟩ := hI
  have hj : (n : Int) ≤ 100 := by omega
  refine V_aload_n (pc := 558) (z := 0) C (dk k_W_law_10 24 rfl) rfl ?_
  refine VL_arg (pc := 559) (i := 6 * n) (q := 1) S hL C (dk k_W_law_10 25 rfl) (dk k_W_law_10 26 rfl) (dk k_W_law_10 27 rfl) (dk k_W_law_10 28 rfl) (dk k_W_law_10 29 rfl) rfl rfl (by omega) ?_
  refine V_callV (pc := 564) (as := [vI (xs (6 * n + 1)).toInt]) C (dk k_W_law_11 0 rfl) lk_W_81 cm_F_pair vm_F_pair (c_F_pair _ _ _ pl sp π x us ks lk tx (n : Int) hC hV hj (xs (6 * n + 1)).toInt (oi_R _)) kq_0 rfl rfl rfl (Nat.le_of_ble_eq_true rfl) (hRm.mono (by decide) (by decide)) ?_
  have hC1 := hC
  have hM1 := hM
  refine V_aload_n (pc := 567) (z := 128) C (dk k_W_law_11 1 rfl) rfl ?_
  refine VL_arg (pc := 568) (i := 6 * n) (q := 1) S hL C (dk k_W_law_11 2 rfl) (dk k_W_law_11 3 rfl) (dk k_W_law_11 4 rfl) (dk k_W_law_11 5 rfl) (dk k_W_law_11 6 rfl) rfl rfl (by omega) ?_
  refine V_callV (pc := 573) (as := [vI (xs (6 * n + 1)).toInt]) C (dk k_W_law_11 7 rfl) lk_W_84 cm_Z_pair vm_Z_pair (c_Z_pair _ _ _ π x us ks lk tx (n : Int) hM1 hV hj (xs (6 * n + 1)).toInt (oi_R _)) kq_128 rfl rfl rfl (Nat.le_of_ble_eq_true rfl) (hRm.mono (by decide) (by decide)) ?_
  have hC2 := hC1
  have hM2 := hM1
  refine VL_same (pc := 576) C (dk k_W_law_11 8 rfl) 934 rfl ?_
  exact k _ ⟨_, _, _, _, _, _, _, _, hC2, hM2, hV.up⟩
set_option maxRecDepth 20000 in
theorem law_17 {X : KX} {b L : Nat} {xs : Nat → Int32} {τ : Wd} {n : Nat} (C : Cx X b_W_law "ForgoneShopLaw") (S : LX X b L xs) (hRm : Rm X 8 300) (hL : L ≤ 384) (hn : 6 * n + 6 ≤ L) (hI : LI (n : Int) τ) (k : ∀ τ', LI ((n : Int) + 1) τ' → V X 934 (lcl b (6 * n)) [] τ') : V X 581 (lcl b (6 * n)) [] τ := by
  obtain ⟨pl, sp, π, x, us, ks, lk, tx, hC, hM, hV⟩ := hI
  have hj : (n : Int) ≤ 100 := by omega
  refine V_aload_n (pc := 581) (z := 0) C (dk k_W_law_11 11 rfl) rfl ?_
  refine VL_arg (pc := 582) (i := 6 * n) (q := 1) S hL C (dk k_W_law_11 12 rfl) (dk k_W_law_11 13 rfl) (dk k_W_law_11 14 rfl) (dk k_W_law_11 15 rfl) (dk k_W_law_11 16 rfl) rfl rfl (by omega) ?_
  refine V_callVr (pc := 587) (as := [vI (xs (6 * n + 1)).toInt]) C (dk k_W_law_11 17 rfl) lk_W_85 cm_F_swap vm_F_swap (c_F_swap _ _ _ pl sp π x us ks lk tx (n : Int) hC hV hj (xs (6 * n + 1)).toInt (oi_R _)) kq_0 rfl rfl rfl (Nat.le_of_ble_eq_true rfl) (hRm.mono (by decide) (by decide)) (fun τ1 q1 => ?_)
  have hC1 := q1.1
  have hM1 := hM.fc q1.2
  refine V_aload_n (pc := 590) (z := 128) C (dk k_W_law_11 18 rfl) rfl ?_
  refine VL_arg (pc := 591) (i := 6 * n) (q := 1) S hL C (dk k_W_law_11 19 rfl) (dk k_W_law_11 20 rfl) (dk k_W_law_11 21 rfl) (dk k_W_law_11 22 rfl) (dk k_W_law_11 23 rfl) rfl rfl (by omega) ?_
  refine V_callVr (pc := 596) (as := [vI (xs (6 * n + 1)).toInt]) C (dk k_W_law_11 24 rfl) lk_W_88 cm_Z_swap vm_Z_swap (c_Z_swap _ _ _ π x us ks lk tx (n : Int) hM1 hV hj (xs (6 * n + 1)).toInt (oi_R _)) kq_128 rfl rfl rfl (Nat.le_of_ble_eq_true rfl) (hRm.mono (by decide) (by decide)) (fun τ2 q2 => ?_)
  have hC2 := hC1.fm q2.2
  have hM2 := q2.1
  refine VL_same (pc := 599) C (dk k_W_law_11 25 rfl) 934 rfl ?_
  exact k _ ⟨_, _, _, _, _, _, _, _, hC2, hM2, hV.up⟩
set_option maxRecDepth 20000 in
theorem law_18 {X : KX} {b L : Nat} {xs : Nat → Int32} {τ : Wd} {n : Nat} (C : Cx X b_W_law "ForgoneShopLaw") (S : LX X b L xs) (hRm : Rm X 8 300) (hL : L ≤ 384) (hn : 6 * n + 6 ≤ L) (hI : LI (n : Int) τ) (k : ∀ τ', LI ((n : Int) + 1) τ' → V X 934 (lcl b (6 * n)) [] τ') : V X 604 (lcl b (6 * n)) [] τ := by
  obtain ⟨pl, sp, π, x, us, ks, lk, tx, hC, hM, hV⟩ := hI
  have hj : (n : Int) ≤ 100 := by omega
  refine V_aload_n (pc := 604) (z := 0) C (dk k_W_law_11 28 rfl) rfl ?_
  refine VL_arg (pc := 605) (i := 6 * n) (q := 1) S hL C (dk k_W_law_11 29 rfl) (dk k_W_law_12 0 rfl) (dk k_W_law_12 1 rfl) (dk k_W_law_12 2 rfl) (dk k_W_law_12 3 rfl) rfl rfl (by omega) ?_
  refine VL_arg (pc := 610) (i := 6 * n) (q := 2) S hL C (dk k_W_law_12 4 rfl) (dk k_W_law_12 5 rfl) (dk k_W_law_12 6 rfl) (dk k_W_law_12 7 rfl) (dk k_W_law_12 8 rfl) rfl rfl (by omega) ?_
  refine VL_arg (pc := 615) (i := 6 * n) (q := 3) S hL C (dk k_W_law_12 9 rfl) (dk k_W_law_12 10 rfl) (dk k_W_law_12 11 rfl) (dk k_W_law_12 12 rfl) (dk k_W_law_12 13 rfl) rfl rfl (by omega) ?_
  refine V_callVr (pc := 620) (as := [vI (xs (6 * n + 1)).toInt, vI (xs (6 * n + 2)).toInt, vI (xs (6 * n + 3)).toInt]) C (dk k_W_law_12 14 rfl) lk_W_89 cm_F_see vm_F_see (c_F_see _ _ _ pl sp π x us ks lk tx (n : Int) hC hV hj (xs (6 * n + 1)).toInt (xs (6 * n + 2)).toInt (xs (6 * n + 3)).toInt (oi_R _) (oi_R _) (oi_R _)) kq_0 rfl rfl rfl (Nat.le_of_ble_eq_true rfl) (hRm.mono (by decide) (by decide)) (fun τ1 q1 => ?_)
  have hC1 := q1.1
  have hM1 := hM.fc q1.2
  refine V_aload_n (pc := 623) (z := 128) C (dk k_W_law_12 15 rfl) rfl ?_
  refine VL_arg (pc := 624) (i := 6 * n) (q := 1) S hL C (dk k_W_law_12 16 rfl) (dk k_W_law_12 17 rfl) (dk k_W_law_12 18 rfl) (dk k_W_law_12 19 rfl) (dk k_W_law_12 20 rfl) rfl rfl (by omega) ?_
  refine VL_arg (pc := 629) (i := 6 * n) (q := 2) S hL C (dk k_W_law_12 21 rfl) (dk k_W_law_12 22 rfl) (dk k_W_law_12 23 rfl) (dk k_W_law_12 24 rfl) (dk k_W_law_12 25 rfl) rfl rfl (by omega) ?_
  refine VL_arg (pc := 634) (i := 6 * n) (q := 3) S hL C (dk k_W_law_12 26 rfl) (dk k_W_law_12 27 rfl) (dk k_W_law_12 28 rfl) (dk k_W_law_12 29 rfl) (dk k_W_law_13 0 rfl) rfl rfl (by omega) ?_
  refine V_callVr (pc := 639) (as := [vI (xs (6 * n + 1)).toInt, vI (xs (6 * n + 2)).toInt, vI (xs (6 * n + 3)).toInt]) C (dk k_W_law_13 1 rfl) lk_W_92 cm_Z_see vm_Z_see (c_Z_see _ _ _ π x us ks lk tx (n : Int) hM1 hV hj (xs (6 * n + 1)).toInt (xs (6 * n + 2)).toInt (xs (6 * n + 3)).toInt (oi_R _) (oi_R _) (oi_R _)) kq_128 rfl rfl rfl (Nat.le_of_ble_eq_true rfl) (hRm.mono (by decide) (by decide)) (fun τ2 q2 => ?_)
  have hC2 := hC1.fm q2.2
  have hM2 := q2.1
  refine VL_same (pc := 642) C (dk k_W_law_13 2 rfl) 934 rfl ?_
  exact k _ ⟨_, _, _, _, _, _, _, _, hC2, hM2, hV.up⟩
set_option maxRecDepth 20000 in
theorem law_19 {X : KX} {b L : Nat} {xs : Nat → Int32} {τ : Wd} {n : Nat} (C : Cx X b_W_law "ForgoneShopLaw") (S : LX X b L xs) (hRm : Rm X 8 300) (hL : L ≤ 384) (hn : 6 * n + 6 ≤ L) (hI : LI (n : Int) τ) (k : ∀ τ', LI ((n : Int) + 1) τ' → V X 934 (lcl b (6 * n)) [] τ') : V X 647 (lcl b (6 * n)) [] τ := by
  obtain ⟨pl, sp, π, x, us, ks, lk, tx, hC, hM, hV⟩ := hI
  have hj : (n : Int) ≤ 100 := by omega
  refine V_aload_n (pc := 647) (z := 0) C (dk k_W_law_13 5 rfl) rfl ?_
  refine V_callVr (pc := 648) (as := []) C (dk k_W_law_13 6 rfl) lk_W_93 cm_F_forget vm_F_forget (c_F_forget _ _ _ pl sp π x us ks lk tx (n : Int) hC hV hj  ) kq_0 rfl rfl rfl (Nat.le_of_ble_eq_true rfl) (hRm.mono (by decide) (by decide)) (fun τ1 q1 => ?_)
  have hC1 := q1.1
  have hM1 := hM.fc q1.2
  refine V_aload_n (pc := 651) (z := 128) C (dk k_W_law_13 7 rfl) rfl ?_
  refine V_callVr (pc := 652) (as := []) C (dk k_W_law_13 8 rfl) lk_W_96 cm_Z_forget vm_Z_forget (c_Z_forget _ _ _ π x us ks lk tx (n : Int) hM1 hV hj  ) kq_128 rfl rfl rfl (Nat.le_of_ble_eq_true rfl) (hRm.mono (by decide) (by decide)) (fun τ2 q2 => ?_)
  have hC2 := hC1.fm q2.2
  have hM2 := q2.1
  refine VL_same (pc := 655) C (dk k_W_law_13 9 rfl) 934 rfl ?_
  exact k _ ⟨_, _, _, _, _, _, _, _, hC2, hM2, hV.up⟩
set_option maxRecDepth 20000 in
theorem law_20 {X : KX} {b L : Nat} {xs : Nat → Int32} {τ : Wd} {n : Nat} (C : Cx X b_W_law "ForgoneShopLaw") (S : LX X b L xs) (hRm : Rm X 8 300) (hL : L ≤ 384) (hn : 6 * n + 6 ≤ L) (hI : LI (n : Int) τ) (k : ∀ τ', LI ((n : Int) + 1) τ' → V X 934 (lcl b (6 * n)) [] τ') : V X 660 (lcl b (6 * n)) [] τ := by
  obtain ⟨pl, sp, π, x, us, ks, lk, tx, hC, hM, hV⟩ := hI
  have hj : (n : Int) ≤ 100 := by omega
  refine V_aload_n (pc := 660) (z := 0) C (dk k_W_law_13 12 rfl) rfl ?_
  refine VL_arg (pc := 661) (i := 6 * n) (q := 1) S hL C (dk k_W_law_13 13 rfl) (dk k_W_law_13 14 rfl) (dk k_W_law_13 15 rfl) (dk k_W_law_13 16 rfl) (dk k_W_law_13 17 rfl) rfl rfl (by omega) ?_
  refine V_callV (pc := 666) (as := [vI (xs (6 * n + 1)).toInt]) C (dk k_W_law_13 18 rfl) lk_W_97 cm_F_kinds vm_F_kinds (c_F_kinds _ _ _ pl sp π x us ks lk tx (n : Int) hC hV hj (xs (6 * n + 1)).toInt (oi_R _)) kq_0 rfl rfl rfl (Nat.le_of_ble_eq_true rfl) (hRm.mono (by decide) (by decide)) ?_
  have hC1 := hC
  have hM1 := hM
  refine V_aload_n (pc := 669) (z := 128) C (dk k_W_law_13 19 rfl) rfl ?_
  refine VL_arg (pc := 670) (i := 6 * n) (q := 1) S hL C (dk k_W_law_13 20 rfl) (dk k_W_law_13 21 rfl) (dk k_W_law_13 22 rfl) (dk k_W_law_13 23 rfl) (dk k_W_law_13 24 rfl) rfl rfl (by omega) ?_
  refine V_callV (pc := 675) (as := [vI (xs (6 * n + 1)).toInt]) C (dk k_W_law_13 25 rfl) lk_W_100 cm_Z_kinds vm_Z_kinds (c_Z_kinds _ _ _ π x us ks lk tx (n : Int) hM1 hV hj (xs (6 * n + 1)).toInt (oi_R _)) kq_128 rfl rfl rfl (Nat.le_of_ble_eq_true rfl) (hRm.mono (by decide) (by decide)) ?_
  have hC2 := hC1
  have hM2 := hM1
  refine VL_same (pc := 678) C (dk k_W_law_13 26 rfl) 934 rfl ?_
  exact k _ ⟨_, _, _, _, _, _, _, _, hC2, hM2, hV.up⟩
set_option maxRecDepth 20000 in
theorem law_21 {X : KX} {b L : Nat} {xs : Nat → Int32} {τ : Wd} {n : Nat} (C : Cx X b_W_law "ForgoneShopLaw") (S : LX X b L xs) (hRm : Rm X 8 300) (hL : L ≤ 384) (hn : 6 * n + 6 ≤ L) (hI : LI (n : Int) τ) (k : ∀ τ', LI ((n : Int) + 1) τ' → V X 934 (lcl b (6 * n)) [] τ') : V X 683 (lcl b (6 * n)) [] τ := by
  obtain ⟨pl, sp, π, x, us, ks, lk, tx, hC, hM, hV⟩ := hI
  have hj : (n : Int) ≤ 100 := by omega
  refine V_aload_n (pc := 683) (z := 0) C (dk k_W_law_13 29 rfl) rfl ?_
  refine VL_arg (pc := 684) (i := 6 * n) (q := 1) S hL C (dk k_W_law_14 0 rfl) (dk k_W_law_14 1 rfl) (dk k_W_law_14 2 rfl) (dk k_W_law_14 3 rfl) (dk k_W_law_14 4 rfl) rfl rfl (by omega) ?_
  refine VL_arg (pc := 689) (i := 6 * n) (q := 2) S hL C (dk k_W_law_14 5 rfl) (dk k_W_law_14 6 rfl) (dk k_W_law_14 7 rfl) (dk k_W_law_14 8 rfl) (dk k_W_law_14 9 rfl) rfl rfl (by omega) ?_
  refine VL_arg (pc := 694) (i := 6 * n) (q := 3) S hL C (dk k_W_law_14 10 rfl) (dk k_W_law_14 11 rfl) (dk k_W_law_14 12 rfl) (dk k_W_law_14 13 rfl) (dk k_W_law_14 14 rfl) rfl rfl (by omega) ?_
  refine VL_arg (pc := 699) (i := 6 * n) (q := 4) S hL C (dk k_W_law_14 15 rfl) (dk k_W_law_14 16 rfl) (dk k_W_law_14 17 rfl) (dk k_W_law_14 18 rfl) (dk k_W_law_14 19 rfl) rfl rfl (by omega) ?_
  refine VL_arg (pc := 704) (i := 6 * n) (q := 5) S hL C (dk k_W_law_14 20 rfl) (dk k_W_law_14 21 rfl) (dk k_W_law_14 22 rfl) (dk k_W_law_14 23 rfl) (dk k_W_law_14 24 rfl) rfl rfl (by omega) ?_
  refine V_callV (pc := 709) (as := [vI (xs (6 * n + 1)).toInt, vI (xs (6 * n + 2)).toInt, vI (xs (6 * n + 3)).toInt, vI (xs (6 * n + 4)).toInt, vI (xs (6 * n + 5)).toInt]) C (dk k_W_law_14 25 rfl) lk_W_101 cm_F_sure vm_F_sure (c_F_sure _ _ _ (xs (6 * n + 1)).toInt (xs (6 * n + 2)).toInt (xs (6 * n + 3)).toInt (xs (6 * n + 4)).toInt (xs (6 * n + 5)).toInt (oi_R _) (oi_R _) (oi_R _) (oi_R _) (oi_R _)) kq_0 rfl rfl rfl (Nat.le_of_ble_eq_true rfl) (hRm.mono (by decide) (by decide)) ?_
  have hC1 := hC
  have hM1 := hM
  refine V_aload_n (pc := 712) (z := 128) C (dk k_W_law_14 26 rfl) rfl ?_
  refine VL_arg (pc := 713) (i := 6 * n) (q := 1) S hL C (dk k_W_law_14 27 rfl) (dk k_W_law_14 28 rfl) (dk k_W_law_14 29 rfl) (dk k_W_law_15 0 rfl) (dk k_W_law_15 1 rfl) rfl rfl (by omega) ?_
  refine VL_arg (pc := 718) (i := 6 * n) (q := 2) S hL C (dk k_W_law_15 2 rfl) (dk k_W_law_15 3 rfl) (dk k_W_law_15 4 rfl) (dk k_W_law_15 5 rfl) (dk k_W_law_15 6 rfl) rfl rfl (by omega) ?_
  refine VL_arg (pc := 723) (i := 6 * n) (q := 3) S hL C (dk k_W_law_15 7 rfl) (dk k_W_law_15 8 rfl) (dk k_W_law_15 9 rfl) (dk k_W_law_15 10 rfl) (dk k_W_law_15 11 rfl) rfl rfl (by omega) ?_
  refine VL_arg (pc := 728) (i := 6 * n) (q := 4) S hL C (dk k_W_law_15 12 rfl) (dk k_W_law_15 13 rfl) (dk k_W_law_15 14 rfl) (dk k_W_law_15 15 rfl) (dk k_W_law_15 16 rfl) rfl rfl (by omega) ?_
  refine VL_arg (pc := 733) (i := 6 * n) (q := 5) S hL C (dk k_W_law_15 17 rfl) (dk k_W_law_15 18 rfl) (dk k_W_law_15 19 rfl) (dk k_W_law_15 20 rfl) (dk k_W_law_15 21 rfl) rfl rfl (by omega) ?_
  refine V_callV (pc := 738) (as := [vI (xs (6 * n + 1)).toInt, vI (xs (6 * n + 2)).toInt, vI (xs (6 * n + 3)).toInt, vI (xs (6 * n + 4)).toInt, vI (xs (6 * n + 5)).toInt]) C (dk k_W_law_15 22 rfl) lk_W_105 cm_Z_sure vm_Z_sure (c_Z_sure _ _ _ (xs (6 * n + 1)).toInt (xs (6 * n + 2)).toInt (xs (6 * n + 3)).toInt (xs (6 * n + 4)).toInt (xs (6 * n + 5)).toInt (oi_R _) (oi_R _) (oi_R _) (oi_R _) (oi_R _)) kq_128 rfl rfl rfl (Nat.le_of_ble_eq_true rfl) (hRm.mono (by decide) (by decide)) ?_
  have hC2 := hC1
  have hM2 := hM1
  refine VL_same (pc := 741) C (dk k_W_law_15 23 rfl) 934 rfl ?_
  exact k _ ⟨_, _, _, _, _, _, _, _, hC2, hM2, hV.up⟩
set_option maxRecDepth 20000 in
theorem law_22 {X : KX} {b L : Nat} {xs : Nat → Int32} {τ : Wd} {n : Nat} (C : Cx X b_W_law "ForgoneShopLaw") (S : LX X b L xs) (hRm : Rm X 8 300) (hL : L ≤ 384) (hn : 6 * n + 6 ≤ L) (hI : LI (n : Int) τ) (k : ∀ τ', LI ((n : Int) + 1) τ' → V X 934 (lcl b (6 * n)) [] τ') : V X 746 (lcl b (6 * n)) [] τ := by
  obtain ⟨pl, sp, π, x, us, ks, lk, tx, hC, hM, hV⟩ := hI
  have hj : (n : Int) ≤ 100 := by omega
  refine V_aload_n (pc := 746) (z := 0) C (dk k_W_law_15 26 rfl) rfl ?_
  refine VL_arg (pc := 747) (i := 6 * n) (q := 1) S hL C (dk k_W_law_15 27 rfl) (dk k_W_law_15 28 rfl) (dk k_W_law_15 29 rfl) (dk k_W_law_16 0 rfl) (dk k_W_law_16 1 rfl) rfl rfl (by omega) ?_
  refine VL_arg (pc := 752) (i := 6 * n) (q := 2) S hL C (dk k_W_law_16 2 rfl) (dk k_W_law_16 3 rfl) (dk k_W_law_16 4 rfl) (dk k_W_law_16 5 rfl) (dk k_W_law_16 6 rfl) rfl rfl (by omega) ?_
  refine V_callV (pc := 757) (as := [vI (xs (6 * n + 1)).toInt, vI (xs (6 * n + 2)).toInt]) C (dk k_W_law_16 7 rfl) lk_W_106 cm_F_fine vm_F_fine (c_F_fine _ _ _ pl sp π x us ks lk tx (n : Int) hC hV hj (xs (6 * n + 1)).toInt (xs (6 * n + 2)).toInt (oi_R _) (oi_R _)) kq_0 rfl rfl rfl (Nat.le_of_ble_eq_true rfl) (hRm.mono (by decide) (by decide)) ?_
  have hC1 := hC
  have hM1 := hM
  refine V_aload_n (pc := 760) (z := 128) C (dk k_W_law_16 8 rfl) rfl ?_
  refine VL_arg (pc := 761) (i := 6 * n) (q := 1) S hL C (dk k_W_law_16 9 rfl) (dk k_W_law_16 10 rfl) (dk k_W_law_16 11 rfl) (dk k_W_law_16 12 rfl) (dk k_W_law_16 13 rfl) rfl rfl (by omega) ?_
  refine VL_arg (pc := 766) (i := 6 * n) (q := 2) S hL C (dk k_W_law_16 14 rfl) (dk k_W_law_16 15 rfl) (dk k_W_law_16 16 rfl) (dk k_W_law_16 17 rfl) (dk k_W_law_16 18 rfl) rfl rfl (by omega) ?_
  refine V_callV (pc := 771) (as := [vI (xs (6 * n + 1)).toInt, vI (xs (6 * n + 2)).toInt]) C (dk k_W_law_16 19 rfl) lk_W_109 cm_Z_fine vm_Z_fine (c_Z_fine _ _ _ π x us ks lk tx (n : Int) hM1 hV hj (xs (6 * n + 1)).toInt (xs (6 * n + 2)).toInt (oi_R _) (oi_R _)) kq_128 rfl rfl rfl (Nat.le_of_ble_eq_true rfl) (hRm.mono (by decide) (by decide)) ?_
  have hC2 := hC1
  have hM2 := hM1
  refine VL_same (pc := 774) C (dk k_W_law_16 20 rfl) 934 rfl ?_
  exact k _ ⟨_, _, _, _, _, _, _, _, hC2, hM2, hV.up⟩
set_option maxRecDepth 20000 in
theorem law_23 {X : KX} {b L : Nat} {xs : Nat → Int32} {τ : Wd} {n : Nat} (C : Cx X b_W_law "ForgoneShopLaw") (S : LX X b L xs) (hRm : Rm X 8 300) (hL : L ≤ 384) (hn : 6 * n + 6 ≤ L) (hI : LI (n : Int) τ) (k : ∀ τ', LI ((n : Int) + 1) τ' → V X 934 (lcl b (6 * n)) [] τ') : V X 779 (lcl b (6 * n)) [] τ := by
  obtain ⟨pl, sp, π, x, us, ks, lk, tx, hC, hM, hV⟩ := hI
  have hj : (n : Int) ≤ 100 := by omega
  refine V_aload_n (pc := 779) (z := 0) C (dk k_W_law_16 23 rfl) rfl ?_
  refine VL_arg (pc := 780) (i := 6 * n) (q := 1) S hL C (dk k_W_law_16 24 rfl) (dk k_W_law_16 25 rfl) (dk k_W_law_16 26 rfl) (dk k_W_law_16 27 rfl) (dk k_W_law_16 28 rfl) rfl rfl (by omega) ?_
  refine VL_arg (pc := 785) (i := 6 * n) (q := 2) S hL C (dk k_W_law_16 29 rfl) (dk k_W_law_17 0 rfl) (dk k_W_law_17 1 rfl) (dk k_W_law_17 2 rfl) (dk k_W_law_17 3 rfl) rfl rfl (by omega) ?_
  refine VL_arg (pc := 790) (i := 6 * n) (q := 3) S hL C (dk k_W_law_17 4 rfl) (dk k_W_law_17 5 rfl) (dk k_W_law_17 6 rfl) (dk k_W_law_17 7 rfl) (dk k_W_law_17 8 rfl) rfl rfl (by omega) ?_
  refine VL_arg (pc := 795) (i := 6 * n) (q := 4) S hL C (dk k_W_law_17 9 rfl) (dk k_W_law_17 10 rfl) (dk k_W_law_17 11 rfl) (dk k_W_law_17 12 rfl) (dk k_W_law_17 13 rfl) rfl rfl (by omega) ?_
  refine VL_arg (pc := 800) (i := 6 * n) (q := 5) S hL C (dk k_W_law_17 14 rfl) (dk k_W_law_17 15 rfl) (dk k_W_law_17 16 rfl) (dk k_W_law_17 17 rfl) (dk k_W_law_17 18 rfl) rfl rfl (by omega) ?_
  refine V_callV (pc := 805) (as := [vI (xs (6 * n + 1)).toInt, vI (xs (6 * n + 2)).toInt, vI (xs (6 * n + 3)).toInt, vI (xs (6 * n + 4)).toInt, vI (xs (6 * n + 5)).toInt]) C (dk k_W_law_17 19 rfl) lk_W_110 cm_F_whims vm_F_whims (c_F_whims _ _ _ pl sp π x us ks lk tx (n : Int) hC hV hj (xs (6 * n + 1)).toInt (xs (6 * n + 2)).toInt (xs (6 * n + 3)).toInt (xs (6 * n + 4)).toInt (xs (6 * n + 5)).toInt (oi_R _) (oi_R _) (oi_R _) (oi_R _) (oi_R _)) kq_0 rfl rfl rfl (Nat.le_of_ble_eq_true rfl) (hRm.mono (by decide) (by decide)) ?_
  have hC1 := hC
  have hM1 := hM
  refine V_aload_n (pc := 808) (z := 128) C (dk k_W_law_17 20 rfl) rfl ?_
  refine VL_arg (pc := 809) (i := 6 * n) (q := 1) S hL C (dk k_W_law_17 21 rfl) (dk k_W_law_17 22 rfl) (dk k_W_law_17 23 rfl) (dk k_W_law_17 24 rfl) (dk k_W_law_17 25 rfl) rfl rfl (by omega) ?_
  refine VL_arg (pc := 814) (i := 6 * n) (q := 2) S hL C (dk k_W_law_17 26 rfl) (dk k_W_law_17 27 rfl) (dk k_W_law_17 28 rfl) (dk k_W_law_17 29 rfl) (dk k_W_law_18 0 rfl) rfl rfl (by omega) ?_
  refine VL_arg (pc := 819) (i := 6 * n) (q := 3) S hL C (dk k_W_law_18 1 rfl) (dk k_W_law_18 2 rfl) (dk k_W_law_18 3 rfl) (dk k_W_law_18 4 rfl) (dk k_W_law_18 5 rfl) rfl rfl (by omega) ?_
  refine VL_arg (pc := 824) (i := 6 * n) (q := 4) S hL C (dk k_W_law_18 6 rfl) (dk k_W_law_18 7 rfl) (dk k_W_law_18 8 rfl) (dk k_W_law_18 9 rfl) (dk k_W_law_18 10 rfl) rfl rfl (by omega) ?_
  refine VL_arg (pc := 829) (i := 6 * n) (q := 5) S hL C (dk k_W_law_18 11 rfl) (dk k_W_law_18 12 rfl) (dk k_W_law_18 13 rfl) (dk k_W_law_18 14 rfl) (dk k_W_law_18 15 rfl) rfl rfl (by omega) ?_
  refine V_callV (pc := 834) (as := [vI (xs (6 * n + 1)).toInt, vI (xs (6 * n + 2)).toInt, vI (xs (6 * n + 3)).toInt, vI (xs (6 * n + 4)).toInt, vI (xs (6 * n + 5)).toInt]) C (dk k_W_law_18 16 rfl) lk_W_113 cm_Z_whims vm_Z_whims (c_Z_whims _ _ _ π x us ks lk tx (n : Int) hM1 hV hj (xs (6 * n + 1)).toInt (xs (6 * n + 2)).toInt (xs (6 * n + 3)).toInt (xs (6 * n + 4)).toInt (xs (6 * n + 5)).toInt (oi_R _) (oi_R _) (oi_R _) (oi_R _) (oi_R _)) kq_128 rfl rfl rfl (Nat.le_of_ble_eq_true rfl) (hRm.mono (by decide) (by decide)) ?_
  have hC2 := hC1
  have hM2 := hM1
  refine VL_same (pc := 837) C (dk k_W_law_18 17 rfl) 934 rfl ?_
  exact k _ ⟨_, _, _, _, _, _, _, _, hC2, hM2, hV.up⟩
set_option maxRecDepth 20000 in
theorem law_24 {X : KX} {b L : Nat} {xs : Nat → Int32} {τ : Wd} {n : Nat} (C : Cx X b_W_law "ForgoneShopLaw") (S : LX X b L xs) (hRm : Rm X 8 300) (hL : L ≤ 384) (hn : 6 * n + 6 ≤ L) (hI : LI (n : Int) τ) (k : ∀ τ', LI ((n : Int) + 1) τ' → V X 934 (lcl b (6 * n)) [] τ') : V X 842 (lcl b (6 * n)) [] τ := by
  obtain ⟨pl, sp, π, x, us, ks, lk, tx, hC, hM, hV⟩ := hI
  have hj : (n : Int) ≤ 100 := by omega
  refine V_aload_n (pc := 842) (z := 0) C (dk k_W_law_18 20 rfl) rfl ?_
  refine VL_arg (pc := 843) (i := 6 * n) (q := 1) S hL C (dk k_W_law_18 21 rfl) (dk k_W_law_18 22 rfl) (dk k_W_law_18 23 rfl) (dk k_W_law_18 24 rfl) (dk k_W_law_18 25 rfl) rfl rfl (by omega) ?_
  refine VL_arg (pc := 848) (i := 6 * n) (q := 2) S hL C (dk k_W_law_18 26 rfl) (dk k_W_law_18 27 rfl) (dk k_W_law_18 28 rfl) (dk k_W_law_18 29 rfl) (dk k_W_law_19 0 rfl) rfl rfl (by omega) ?_
  refine VL_arg (pc := 853) (i := 6 * n) (q := 3) S hL C (dk k_W_law_19 1 rfl) (dk k_W_law_19 2 rfl) (dk k_W_law_19 3 rfl) (dk k_W_law_19 4 rfl) (dk k_W_law_19 5 rfl) rfl rfl (by omega) ?_
  refine V_callVr (pc := 858) (as := [vI (xs (6 * n + 1)).toInt, vI (xs (6 * n + 2)).toInt, vI (xs (6 * n + 3)).toInt]) C (dk k_W_law_19 6 rfl) lk_W_114 cm_F_year vm_F_year (c_F_year _ _ _ pl sp π x us ks lk tx (n : Int) hC hV hj (xs (6 * n + 1)).toInt (xs (6 * n + 2)).toInt (xs (6 * n + 3)).toInt (oi_R _) (oi_R _) (oi_R _)) kq_0 rfl rfl rfl (Nat.le_of_ble_eq_true rfl) (hRm.mono (by decide) (by decide)) (fun τ1 q1 => ?_)
  have hC1 := q1.1
  have hM1 := hM.fc q1.2
  refine V_aload_n (pc := 861) (z := 128) C (dk k_W_law_19 7 rfl) rfl ?_
  refine VL_arg (pc := 862) (i := 6 * n) (q := 1) S hL C (dk k_W_law_19 8 rfl) (dk k_W_law_19 9 rfl) (dk k_W_law_19 10 rfl) (dk k_W_law_19 11 rfl) (dk k_W_law_19 12 rfl) rfl rfl (by omega) ?_
  refine VL_arg (pc := 867) (i := 6 * n) (q := 2) S hL C (dk k_W_law_19 13 rfl) (dk k_W_law_19 14 rfl) (dk k_W_law_19 15 rfl) (dk k_W_law_19 16 rfl) (dk k_W_law_19 17 rfl) rfl rfl (by omega) ?_
  refine VL_arg (pc := 872) (i := 6 * n) (q := 3) S hL C (dk k_W_law_19 18 rfl) (dk k_W_law_19 19 rfl) (dk k_W_law_19 20 rfl) (dk k_W_law_19 21 rfl) (dk k_W_law_19 22 rfl) rfl rfl (by omega) ?_
  refine V_callVr (pc := 877) (as := [vI (xs (6 * n + 1)).toInt, vI (xs (6 * n + 2)).toInt, vI (xs (6 * n + 3)).toInt]) C (dk k_W_law_19 23 rfl) lk_W_117 cm_Z_year vm_Z_year (c_Z_year _ _ _ π x us ks lk tx (n : Int) hM1 hV hj (xs (6 * n + 1)).toInt (xs (6 * n + 2)).toInt (xs (6 * n + 3)).toInt (oi_R _) (oi_R _) (oi_R _)) kq_128 rfl rfl rfl (Nat.le_of_ble_eq_true rfl) (hRm.mono (by decide) (by decide)) (fun τ2 q2 => ?_)
  have hC2 := hC1.fm q2.2
  have hM2 := q2.1
  refine VL_same (pc := 880) C (dk k_W_law_19 24 rfl) 934 rfl ?_
  exact k _ ⟨_, _, _, _, _, _, _, _, hC2, hM2, hV.up⟩
set_option maxRecDepth 20000 in
theorem law_25 {X : KX} {b L : Nat} {xs : Nat → Int32} {τ : Wd} {n : Nat} (C : Cx X b_W_law "ForgoneShopLaw") (S : LX X b L xs) (hRm : Rm X 8 300) (hL : L ≤ 384) (hn : 6 * n + 6 ≤ L) (hI : LI (n : Int) τ) (k : ∀ τ', LI ((n : Int) + 1) τ' → V X 934 (lcl b (6 * n)) [] τ') : V X 885 (lcl b (6 * n)) [] τ := by
  obtain ⟨pl, sp, π, x, us, ks, lk, tx, hC, hM, hV⟩ := hI
  have hj : (n : Int) ≤ 100 := by omega
  refine V_aload_n (pc := 885) (z := 0) C (dk k_W_law_19 27 rfl) rfl ?_
  refine V_callVr (pc := 886) (as := []) C (dk k_W_law_19 28 rfl) lk_W_118 cm_F_keep vm_F_keep (c_F_keep _ _ _ pl sp π x us ks lk tx (n : Int) hC hV hj  ) kq_0 rfl rfl rfl (Nat.le_of_ble_eq_true rfl) (hRm.mono (by decide) (by decide)) (fun τ1 q1 => ?_)
  have hC1 := q1.1
  have hM1 := hM.fc q1.2
  refine V_aload_n (pc := 889) (z := 128) C (dk k_W_law_19 29 rfl) rfl ?_
  refine V_callVr (pc := 890) (as := []) C (dk k_W_law_20 0 rfl) lk_W_121 cm_Z_keep vm_Z_keep (c_Z_keep _ _ _ π x us ks lk tx (n : Int) hM1 hV hj  ) kq_128 rfl rfl rfl (Nat.le_of_ble_eq_true rfl) (hRm.mono (by decide) (by decide)) (fun τ2 q2 => ?_)
  have hC2 := hC1.fm q2.2
  have hM2 := q2.1
  refine VL_same (pc := 893) C (dk k_W_law_20 1 rfl) 934 rfl ?_
  exact k _ ⟨_, _, _, _, _, _, _, _, hC2, hM2, hV.keep⟩
set_option maxRecDepth 20000 in
theorem law_26 {X : KX} {b L : Nat} {xs : Nat → Int32} {τ : Wd} {n : Nat} (C : Cx X b_W_law "ForgoneShopLaw") (S : LX X b L xs) (hRm : Rm X 8 300) (hL : L ≤ 384) (hn : 6 * n + 6 ≤ L) (hI : LI (n : Int) τ) (k : ∀ τ', LI ((n : Int) + 1) τ' → V X 934 (lcl b (6 * n)) [] τ') : V X 898 (lcl b (6 * n)) [] τ := by
  obtain ⟨pl, sp, π, x, us, ks, lk, tx, hC, hM, hV⟩ := hI
  have hj : (n : Int) ≤ 100 := by omega
  rcases ks with _ | ⟨y, ks⟩
  · skip
    refine V_aload_n (pc := 898) (z := 0) C (dk k_W_law_20 4 rfl) rfl ?_
    refine V_callV (pc := 899) (as := []) C (dk k_W_law_20 5 rfl) lk_W_122 cm_F_back vm_F_back (c_F_back0 _ _ _ pl sp π x us lk tx (n : Int) hC hV hj  ) kq_0 rfl rfl rfl (Nat.le_of_ble_eq_true rfl) (hRm.mono (by decide) (by decide)) ?_
    have hC1 := hC
    have hM1 := hM
    refine V_aload_n (pc := 902) (z := 128) C (dk k_W_law_20 6 rfl) rfl ?_
    refine V_callV (pc := 903) (as := []) C (dk k_W_law_20 7 rfl) lk_W_125 cm_Z_back vm_Z_back (c_Z_back0 _ _ _ π x us lk tx (n : Int) hM1 hV hj  ) kq_128 rfl rfl rfl (Nat.le_of_ble_eq_true rfl) (hRm.mono (by decide) (by decide)) ?_
    have hC2 := hC1
    have hM2 := hM1
    refine VL_same (pc := 906) C (dk k_W_law_20 8 rfl) 934 rfl ?_
    exact k _ ⟨_, _, _, _, _, _, _, _, hC2, hM2, hV.up⟩
  · skip
    refine V_aload_n (pc := 898) (z := 0) C (dk k_W_law_20 4 rfl) rfl ?_
    refine V_callVr (pc := 899) (as := []) C (dk k_W_law_20 5 rfl) lk_W_122 cm_F_back vm_F_back (c_F_back _ _ _ pl sp π x y us ks lk tx (n : Int) hC hV hj  ) kq_0 rfl rfl rfl (Nat.le_of_ble_eq_true rfl) (hRm.mono (by decide) (by decide)) (fun τ1 q1 => ?_)
    have hC1 := q1.1
    have hM1 := hM.fc q1.2
    refine V_aload_n (pc := 902) (z := 128) C (dk k_W_law_20 6 rfl) rfl ?_
    refine V_callVr (pc := 903) (as := []) C (dk k_W_law_20 7 rfl) lk_W_125 cm_Z_back vm_Z_back (c_Z_back _ _ _ π x y us ks lk tx (n : Int) hM1 hV hj  ) kq_128 rfl rfl rfl (Nat.le_of_ble_eq_true rfl) (hRm.mono (by decide) (by decide)) (fun τ2 q2 => ?_)
    have hC2 := hC1.fm q2.2
    have hM2 := q2.1
    refine VL_same (pc := 906) C (dk k_W_law_20 8 rfl) 934 rfl ?_
    exact k _ ⟨_, _, _, _, _, _, _, _, hC2, hM2, hV.back⟩
set_option maxRecDepth 20000 in
theorem law_27 {X : KX} {b L : Nat} {xs : Nat → Int32} {τ : Wd} {n : Nat} (C : Cx X b_W_law "ForgoneShopLaw") (S : LX X b L xs) (hRm : Rm X 8 300) (hL : L ≤ 384) (hn : 6 * n + 6 ≤ L) (hI : LI (n : Int) τ) (k : ∀ τ', LI ((n : Int) + 1) τ' → V X 934 (lcl b (6 * n)) [] τ') : V X 911 (lcl b (6 * n)) [] τ := by
  obtain ⟨pl, sp, π, x, us, ks, lk, tx, hC, hM, hV⟩ := hI
  have hj : (n : Int) ≤ 100 := by omega
  refine V_aload_n (pc := 911) (z := 0) C (dk k_W_law_20 11 rfl) rfl ?_
  refine VL_arg (pc := 912) (i := 6 * n) (q := 1) S hL C (dk k_W_law_20 12 rfl) (dk k_W_law_20 13 rfl) (dk k_W_law_20 14 rfl) (dk k_W_law_20 15 rfl) (dk k_W_law_20 16 rfl) rfl rfl (by omega) ?_
  refine V_callV (pc := 917) (as := [vI (xs (6 * n + 1)).toInt]) C (dk k_W_law_20 17 rfl) lk_W_126 cm_F_count vm_F_count (c_F_count _ _ _ pl sp π x us ks lk tx (n : Int) hC hV hj (xs (6 * n + 1)).toInt (oi_R _)) kq_0 rfl rfl rfl (Nat.le_of_ble_eq_true rfl) (hRm.mono (by decide) (by decide)) ?_
  have hC1 := hC
  have hM1 := hM
  refine V_aload_n (pc := 920) (z := 128) C (dk k_W_law_20 18 rfl) rfl ?_
  refine VL_arg (pc := 921) (i := 6 * n) (q := 1) S hL C (dk k_W_law_20 19 rfl) (dk k_W_law_20 20 rfl) (dk k_W_law_20 21 rfl) (dk k_W_law_20 22 rfl) (dk k_W_law_20 23 rfl) rfl rfl (by omega) ?_
  refine V_callV (pc := 926) (as := [vI (xs (6 * n + 1)).toInt]) C (dk k_W_law_20 24 rfl) lk_W_129 cm_Z_count vm_Z_count (c_Z_count _ _ _ π x us ks lk tx (n : Int) hM1 hV hj (xs (6 * n + 1)).toInt (oi_R _)) kq_128 rfl rfl rfl (Nat.le_of_ble_eq_true rfl) (hRm.mono (by decide) (by decide)) ?_
  have hC2 := hC1
  have hM2 := hM1
  refine VL_same (pc := 929) C (dk k_W_law_20 25 rfl) 934 rfl ?_
  exact k _ ⟨_, _, _, _, _, _, _, _, hC2, hM2, hV.up⟩
set_option maxRecDepth 20000 in
/-- the loop: from its head to the law's true end -/
theorem law_loop {X : KX} {b L : Nat} {xs : Nat → Int32} (C : Cx X b_W_law "ForgoneShopLaw") (S : LX X b L xs) (hRm : Rm X 8 300) (hXN : xN X = 4) (hL : L ≤ 384) (hend : ∀ ls τ, V X 941 ls [vI 1] τ) : ∀ (k n : Nat), n + k = 64 → 6 * n ≤ L → ∀ τ, LI (n : Int) τ → V X 18 (lcl b (6 * n)) [] τ := by
  intro k
  induction k with
  | zero =>
    intro n hk hn τ hI
    refine V_iload_n (pc := 18) C (dk k_W_law_0 10 rfl) rfl ?_
    refine V_aloadX_n (pc := 19) C (dk k_W_law_0 11 rfl) rfl ?_
    refine VL_len (pc := 20) C S (dk k_W_law_0 12 rfl) ?_
    refine V_bipush (pc := 21) (n' := 6) C (dk k_W_law_0 13 rfl) rfl ?_
    refine V_isub (pc := 23) C (dk k_W_law_0 14 rfl) ?_
    refine V_icmpgt (pc := 24) C (dk k_W_law_0 15 rfl) 940 rfl ⟨by omega, by omega⟩ ⟨by omega, by omega⟩ (fun h => V_iconst (pc := 940) C (dk k_W_law_21 0 rfl) rfl (hend _ _)) (fun h => ?_)
    exact absurd h (by omega)
  | succ k ih =>
    intro n hk hn τ hI
    refine V_iload_n (pc := 18) C (dk k_W_law_0 10 rfl) rfl ?_
    refine V_aloadX_n (pc := 19) C (dk k_W_law_0 11 rfl) rfl ?_
    refine VL_len (pc := 20) C S (dk k_W_law_0 12 rfl) ?_
    refine V_bipush (pc := 21) (n' := 6) C (dk k_W_law_0 13 rfl) rfl ?_
    refine V_isub (pc := 23) C (dk k_W_law_0 14 rfl) ?_
    refine V_icmpgt (pc := 24) C (dk k_W_law_0 15 rfl) 940 rfl ⟨by omega, by omega⟩ ⟨by omega, by omega⟩ (fun h => V_iconst (pc := 940) C (dk k_W_law_21 0 rfl) rfl (hend _ _)) (fun h => ?_)
    have hn2 : 6 * n + 6 ≤ L := by omega
    have nxt : ∀ τ', LI ((n : Int) + 1) τ' → V X 934 (lcl b (6 * n)) [] τ' := by
      intro τ' hI'
      refine V_iinc (pc := 934) C (dk k_W_law_20 28 rfl) (by rw [hXN]; decide) rfl ?_
      refine V_goto (pc := 937) C (dk k_W_law_20 29 rfl) 18 rfl ?_
      have e : (((6 * n : Nat) : Int) + 6) = ((6 * (n + 1) : Nat) : Int) := by omega
      refine V_eq (ih (n + 1) (by omega) (by omega) τ' hI') ?_ rfl rfl
      show [some (vX (some b)), some (vR 0), some (vR 128), some (vI (((6 * n : Nat) : Int) + 6))] = _
      rw [e]
    refine V_aloadX_n (pc := 27) C (dk k_W_law_0 16 rfl) rfl ?_
    refine V_iload_n (pc := 28) C (dk k_W_law_0 17 rfl) rfl ?_
    refine VL_ald (pc := 29) (q := 6 * n) C S rfl (by omega) hL (dk k_W_law_0 18 rfl) ?_
    refine V_bipush (pc := 30) (n' := 31) C (dk k_W_law_0 19 rfl) rfl ?_
    refine VL_and (pc := 32) C (dk k_W_law_0 20 rfl) (fun j hj => ?_)
    refine V_switch (pc := 33) C (dk k_W_law_0 21 rfl) ⟨by omega, by omega⟩ (fun h tgt ht => ?_) ⟨934, rfl⟩ (fun h h2 => ?_)
    · obtain rfl : tgt = 934 := by omega
      obtain ⟨pl, sp, π, x, us, ks, lk, tx, hC, hM, hV⟩ := hI
      exact nxt τ ⟨pl, sp, π, x, us, ks, lk, tx, hC, hM, hV.up⟩
    · have hc : j = 0 ∨ j = 1 ∨ j = 2 ∨ j = 3 ∨ j = 4 ∨ j = 5 ∨ j = 6 ∨ j = 7 ∨ j = 8 ∨ j = 9 ∨ j = 10 ∨ j = 11 ∨ j = 12 ∨ j = 13 ∨ j = 14 ∨ j = 15 ∨ j = 16 ∨ j = 17 ∨ j = 18 ∨ j = 19 ∨ j = 20 ∨ j = 21 ∨ j = 22 ∨ j = 23 ∨ j = 24 ∨ j = 25 ∨ j = 26 ∨ j = 27 := by omega
      rcases hc with rfl | rfl | rfl | rfl | rfl | rfl | rfl | rfl | rfl | rfl | rfl | rfl | rfl | rfl | rfl | rfl | rfl | rfl | rfl | rfl | rfl | rfl | rfl | rfl | rfl | rfl | rfl | rfl
      · exact ⟨127, 160, rfl, rfl, law_0 C S hRm hL hn2 hI nxt⟩
      · exact ⟨150, 183, rfl, rfl, law_1 C S hRm hL hn2 hI nxt⟩
      · exact ⟨163, 196, rfl, rfl, law_2 C S hRm hL hn2 hI nxt⟩
      · exact ⟨176, 209, rfl, rfl, law_3 C S hRm hL hn2 hI nxt⟩
      · exact ⟨189, 222, rfl, rfl, law_4 C S hRm hL hn2 hI nxt⟩
      · exact ⟨222, 255, rfl, rfl, law_5 C S hRm hL hn2 hI nxt⟩
      · exact ⟨255, 288, rfl, rfl, law_6 C S hRm hL hn2 hI nxt⟩
      · exact ⟨278, 311, rfl, rfl, law_7 C S hRm hL hn2 hI nxt⟩
      · exact ⟨301, 334, rfl, rfl, law_8 C S hRm hL hn2 hI nxt⟩
      · exact ⟨324, 357, rfl, rfl, law_9 C S hRm hL hn2 hI nxt⟩
      · exact ⟨347, 380, rfl, rfl, law_10 C S hRm hL hn2 hI nxt⟩
      · exact ⟨360, 393, rfl, rfl, law_11 C S hRm hL hn2 hI nxt⟩
      · exact ⟨393, 426, rfl, rfl, law_12 C S hRm hL hn2 hI nxt⟩
      · exact ⟨416, 449, rfl, rfl, law_13 C S hRm hL hn2 hI nxt⟩
      · exact ⟨459, 492, rfl, rfl, law_14 C S hRm hL hn2 hI nxt⟩
      · exact ⟨492, 525, rfl, rfl, law_15 C S hRm hL hn2 hI nxt⟩
      · exact ⟨525, 558, rfl, rfl, law_16 C S hRm hL hn2 hI nxt⟩
      · exact ⟨548, 581, rfl, rfl, law_17 C S hRm hL hn2 hI nxt⟩
      · exact ⟨571, 604, rfl, rfl, law_18 C S hRm hL hn2 hI nxt⟩
      · exact ⟨614, 647, rfl, rfl, law_19 C S hRm hL hn2 hI nxt⟩
      · exact ⟨627, 660, rfl, rfl, law_20 C S hRm hL hn2 hI nxt⟩
      · exact ⟨650, 683, rfl, rfl, law_21 C S hRm hL hn2 hI nxt⟩
      · exact ⟨713, 746, rfl, rfl, law_22 C S hRm hL hn2 hI nxt⟩
      · exact ⟨746, 779, rfl, rfl, law_23 C S hRm hL hn2 hI nxt⟩
      · exact ⟨809, 842, rfl, rfl, law_24 C S hRm hL hn2 hI nxt⟩
      · exact ⟨852, 885, rfl, rfl, law_25 C S hRm hL hn2 hI nxt⟩
      · exact ⟨865, 898, rfl, rfl, law_26 C S hRm hL hn2 hI nxt⟩
      · exact ⟨878, 911, rfl, rfl, law_27 C S hRm hL hn2 hI nxt⟩
