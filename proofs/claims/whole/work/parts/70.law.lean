theorem bp_63 : (Int8.ofInt 63).toInt32 = 63 := by decide
theorem ic_6 : Int32.ofInt 6 = 6 := by decide
def m_L_law : mt := (RL, cL_law, 4, some .boolean)
theorem kd_6000 : kd 6000 = 60 := by decide
theorem kd_23 : kd 23 = 11 := by decide
theorem kd_0 : kd 0 = 12 := by decide
def tab_L_law_0 : List (Nat × Instr × Nat) := [(0, .new 7, 3), (3, .dup, 1), (4, .invokespecial 9, 3), (7, .astore_n 1, 1), (8, .new 10, 3), (11, .dup, 1), (12, .invokespecial 12, 3), (15, .astore_n 2, 1), (16, .iconst 0, 1), (17, .istore_n 3, 1), (18, .iload_n 3, 1), (19, .aload_n 0, 1), (20, .arraylength, 1), (21, .bipush 6, 2), (23, .isub, 1), (24, .if_icmp .gt 1700, 3), (27, .aload_n 0, 1), (28, .iload_n 3, 1), (29, .iaload, 1), (30, .bipush 63, 2), (32, .iand, 1), (33, .tableswitch 1685 0 45 #[199, 222, 235, 278, 331, 364, 427, 460, 493, 526, 559, 608, 641, 704, 727, 770, 793, 826, 859, 892, 931, 954, 977, 1000, 1023, 1046, 1095, 1118, 1151, 1194, 1207, 1220, 1243, 1286, 1319, 1332, 1375, 1418, 1461, 1494, 1537, 1570, 1613, 1636, 1659, 1672], 199), (232, .aload_n 1, 1), (233, .aload_n 0, 1), (234, .iload_n 3, 1), (235, .iconst 1, 1), (236, .iadd, 1), (237, .iaload, 1), (238, .invokevirtual 13, 3), (241, .aload_n 2, 1), (242, .aload_n 0, 1), (243, .iload_n 3, 1), (244, .iconst 1, 1), (245, .iadd, 1), (246, .iaload, 1), (247, .invokevirtual 17, 3), (250, .if_icmp .eq 1468, 3), (253, .iconst 0, 1), (254, .ireturn, 1), (255, .aload_n 1, 1), (256, .invokevirtual 18, 3), (259, .aload_n 2, 1), (260, .invokevirtual 22, 3), (263, .if_icmp .eq 1455, 3), (266, .iconst 0, 1), (267, .ireturn, 1), (268, .aload_n 1, 1), (269, .aload_n 0, 1), (270, .iload_n 3, 1), (271, .iconst 1, 1)]
set_option maxRecDepth 100000 in
theorem dt_L_law_0 : ∀ q ∈ tab_L_law_0, decode m_L_law.2.1 q.1 = .ok q.2 := by decide +kernel
def tab_L_law_1 : List (Nat × Instr × Nat) := [(272, .iadd, 1), (273, .iaload, 1), (274, .aload_n 0, 1), (275, .iload_n 3, 1), (276, .iconst 2, 1), (277, .iadd, 1), (278, .iaload, 1), (279, .aload_n 0, 1), (280, .iload_n 3, 1), (281, .iconst 3, 1), (282, .iadd, 1), (283, .iaload, 1), (284, .invokevirtual 23, 3), (287, .aload_n 2, 1), (288, .aload_n 0, 1), (289, .iload_n 3, 1), (290, .iconst 1, 1), (291, .iadd, 1), (292, .iaload, 1), (293, .aload_n 0, 1), (294, .iload_n 3, 1), (295, .iconst 2, 1), (296, .iadd, 1), (297, .iaload, 1), (298, .aload_n 0, 1), (299, .iload_n 3, 1), (300, .iconst 3, 1), (301, .iadd, 1), (302, .iaload, 1), (303, .invokevirtual 27, 3), (306, .if_icmp .eq 1412, 3), (309, .iconst 0, 1), (310, .ireturn, 1), (311, .aload_n 1, 1), (312, .aload_n 0, 1), (313, .iload_n 3, 1), (314, .iconst 1, 1), (315, .iadd, 1), (316, .iaload, 1), (317, .aload_n 0, 1), (318, .iload_n 3, 1), (319, .iconst 2, 1), (320, .iadd, 1), (321, .iaload, 1), (322, .aload_n 0, 1), (323, .iload_n 3, 1), (324, .iconst 3, 1), (325, .iadd, 1), (326, .iaload, 1), (327, .aload_n 0, 1)]
set_option maxRecDepth 100000 in
theorem dt_L_law_1 : ∀ q ∈ tab_L_law_1, decode m_L_law.2.1 q.1 = .ok q.2 := by decide +kernel
def tab_L_law_2 : List (Nat × Instr × Nat) := [(328, .iload_n 3, 1), (329, .iconst 4, 1), (330, .iadd, 1), (331, .iaload, 1), (332, .invokevirtual 28, 3), (335, .aload_n 2, 1), (336, .aload_n 0, 1), (337, .iload_n 3, 1), (338, .iconst 1, 1), (339, .iadd, 1), (340, .iaload, 1), (341, .aload_n 0, 1), (342, .iload_n 3, 1), (343, .iconst 2, 1), (344, .iadd, 1), (345, .iaload, 1), (346, .aload_n 0, 1), (347, .iload_n 3, 1), (348, .iconst 3, 1), (349, .iadd, 1), (350, .iaload, 1), (351, .aload_n 0, 1), (352, .iload_n 3, 1), (353, .iconst 4, 1), (354, .iadd, 1), (355, .iaload, 1), (356, .invokevirtual 32, 3), (359, .if_icmp .eq 1359, 3), (362, .iconst 0, 1), (363, .ireturn, 1), (364, .aload_n 1, 1), (365, .aload_n 0, 1), (366, .iload_n 3, 1), (367, .iconst 1, 1), (368, .iadd, 1), (369, .iaload, 1), (370, .aload_n 0, 1), (371, .iload_n 3, 1), (372, .iconst 2, 1), (373, .iadd, 1), (374, .iaload, 1), (375, .invokevirtual 33, 3), (378, .aload_n 2, 1), (379, .aload_n 0, 1), (380, .iload_n 3, 1), (381, .iconst 1, 1), (382, .iadd, 1), (383, .iaload, 1), (384, .aload_n 0, 1), (385, .iload_n 3, 1)]
set_option maxRecDepth 100000 in
theorem dt_L_law_2 : ∀ q ∈ tab_L_law_2, decode m_L_law.2.1 q.1 = .ok q.2 := by decide +kernel
def tab_L_law_3 : List (Nat × Instr × Nat) := [(386, .iconst 2, 1), (387, .iadd, 1), (388, .iaload, 1), (389, .invokevirtual 37, 3), (392, .if_icmp .eq 1326, 3), (395, .iconst 0, 1), (396, .ireturn, 1), (397, .aload_n 1, 1), (398, .aload_n 0, 1), (399, .iload_n 3, 1), (400, .iconst 1, 1), (401, .iadd, 1), (402, .iaload, 1), (403, .aload_n 0, 1), (404, .iload_n 3, 1), (405, .iconst 2, 1), (406, .iadd, 1), (407, .iaload, 1), (408, .aload_n 0, 1), (409, .iload_n 3, 1), (410, .iconst 3, 1), (411, .iadd, 1), (412, .iaload, 1), (413, .aload_n 0, 1), (414, .iload_n 3, 1), (415, .iconst 4, 1), (416, .iadd, 1), (417, .iaload, 1), (418, .aload_n 0, 1), (419, .iload_n 3, 1), (420, .iconst 5, 1), (421, .iadd, 1), (422, .iaload, 1), (423, .invokevirtual 38, 3), (426, .aload_n 2, 1), (427, .aload_n 0, 1), (428, .iload_n 3, 1), (429, .iconst 1, 1), (430, .iadd, 1), (431, .iaload, 1), (432, .aload_n 0, 1), (433, .iload_n 3, 1), (434, .iconst 2, 1), (435, .iadd, 1), (436, .iaload, 1), (437, .aload_n 0, 1), (438, .iload_n 3, 1), (439, .iconst 3, 1), (440, .iadd, 1), (441, .iaload, 1)]
set_option maxRecDepth 100000 in
theorem dt_L_law_3 : ∀ q ∈ tab_L_law_3, decode m_L_law.2.1 q.1 = .ok q.2 := by decide +kernel
def tab_L_law_4 : List (Nat × Instr × Nat) := [(442, .aload_n 0, 1), (443, .iload_n 3, 1), (444, .iconst 4, 1), (445, .iadd, 1), (446, .iaload, 1), (447, .aload_n 0, 1), (448, .iload_n 3, 1), (449, .iconst 5, 1), (450, .iadd, 1), (451, .iaload, 1), (452, .invokevirtual 42, 3), (455, .if_icmp .eq 1263, 3), (458, .iconst 0, 1), (459, .ireturn, 1), (460, .aload_n 1, 1), (461, .aload_n 0, 1), (462, .iload_n 3, 1), (463, .iconst 1, 1), (464, .iadd, 1), (465, .iaload, 1), (466, .aload_n 0, 1), (467, .iload_n 3, 1), (468, .iconst 2, 1), (469, .iadd, 1), (470, .iaload, 1), (471, .invokevirtual 43, 3), (474, .aload_n 2, 1), (475, .aload_n 0, 1), (476, .iload_n 3, 1), (477, .iconst 1, 1), (478, .iadd, 1), (479, .iaload, 1), (480, .aload_n 0, 1), (481, .iload_n 3, 1), (482, .iconst 2, 1), (483, .iadd, 1), (484, .iaload, 1), (485, .invokevirtual 46, 3), (488, .if_icmp .eq 1230, 3), (491, .iconst 0, 1), (492, .ireturn, 1), (493, .aload_n 1, 1), (494, .aload_n 0, 1), (495, .iload_n 3, 1), (496, .iconst 1, 1), (497, .iadd, 1), (498, .iaload, 1), (499, .aload_n 0, 1), (500, .iload_n 3, 1), (501, .iconst 2, 1)]
set_option maxRecDepth 100000 in
theorem dt_L_law_4 : ∀ q ∈ tab_L_law_4, decode m_L_law.2.1 q.1 = .ok q.2 := by decide +kernel
def tab_L_law_5 : List (Nat × Instr × Nat) := [(502, .iadd, 1), (503, .iaload, 1), (504, .invokevirtual 47, 3), (507, .aload_n 2, 1), (508, .aload_n 0, 1), (509, .iload_n 3, 1), (510, .iconst 1, 1), (511, .iadd, 1), (512, .iaload, 1), (513, .aload_n 0, 1), (514, .iload_n 3, 1), (515, .iconst 2, 1), (516, .iadd, 1), (517, .iaload, 1), (518, .invokevirtual 50, 3), (521, .if_icmp .eq 1197, 3), (524, .iconst 0, 1), (525, .ireturn, 1), (526, .aload_n 1, 1), (527, .aload_n 0, 1), (528, .iload_n 3, 1), (529, .iconst 1, 1), (530, .iadd, 1), (531, .iaload, 1), (532, .aload_n 0, 1), (533, .iload_n 3, 1), (534, .iconst 2, 1), (535, .iadd, 1), (536, .iaload, 1), (537, .invokevirtual 51, 3), (540, .aload_n 2, 1), (541, .aload_n 0, 1), (542, .iload_n 3, 1), (543, .iconst 1, 1), (544, .iadd, 1), (545, .iaload, 1), (546, .aload_n 0, 1), (547, .iload_n 3, 1), (548, .iconst 2, 1), (549, .iadd, 1), (550, .iaload, 1), (551, .invokevirtual 54, 3), (554, .if_icmp .eq 1164, 3), (557, .iconst 0, 1), (558, .ireturn, 1), (559, .aload_n 1, 1), (560, .aload_n 0, 1), (561, .iload_n 3, 1), (562, .iconst 1, 1), (563, .iadd, 1)]
set_option maxRecDepth 100000 in
theorem dt_L_law_5 : ∀ q ∈ tab_L_law_5, decode m_L_law.2.1 q.1 = .ok q.2 := by decide +kernel
def tab_L_law_6 : List (Nat × Instr × Nat) := [(564, .iaload, 1), (565, .aload_n 0, 1), (566, .iload_n 3, 1), (567, .iconst 2, 1), (568, .iadd, 1), (569, .iaload, 1), (570, .invokevirtual 55, 3), (573, .aload_n 2, 1), (574, .aload_n 0, 1), (575, .iload_n 3, 1), (576, .iconst 1, 1), (577, .iadd, 1), (578, .iaload, 1), (579, .aload_n 0, 1), (580, .iload_n 3, 1), (581, .iconst 2, 1), (582, .iadd, 1), (583, .iaload, 1), (584, .invokevirtual 58, 3), (587, .if_icmp .eq 1131, 3), (590, .iconst 0, 1), (591, .ireturn, 1), (592, .aload_n 1, 1), (593, .aload_n 0, 1), (594, .iload_n 3, 1), (595, .iconst 1, 1), (596, .iadd, 1), (597, .iaload, 1), (598, .ifCond .eq 7, 3), (601, .iconst 1, 1), (602, .goto 4, 3), (605, .iconst 0, 1), (606, .aload_n 0, 1), (607, .iload_n 3, 1), (608, .iconst 2, 1), (609, .iadd, 1), (610, .iaload, 1), (611, .invokevirtual 59, 3), (614, .aload_n 2, 1), (615, .aload_n 0, 1), (616, .iload_n 3, 1), (617, .iconst 1, 1), (618, .iadd, 1), (619, .iaload, 1), (620, .ifCond .eq 7, 3), (623, .iconst 1, 1), (624, .goto 4, 3), (627, .iconst 0, 1), (628, .aload_n 0, 1), (629, .iload_n 3, 1)]
set_option maxRecDepth 100000 in
theorem dt_L_law_6 : ∀ q ∈ tab_L_law_6, decode m_L_law.2.1 q.1 = .ok q.2 := by decide +kernel
def tab_L_law_7 : List (Nat × Instr × Nat) := [(630, .iconst 2, 1), (631, .iadd, 1), (632, .iaload, 1), (633, .invokevirtual 63, 3), (636, .if_icmp .eq 1082, 3), (639, .iconst 0, 1), (640, .ireturn, 1), (641, .aload_n 1, 1), (642, .aload_n 0, 1), (643, .iload_n 3, 1), (644, .iconst 1, 1), (645, .iadd, 1), (646, .iaload, 1), (647, .aload_n 0, 1), (648, .iload_n 3, 1), (649, .iconst 2, 1), (650, .iadd, 1), (651, .iaload, 1), (652, .invokevirtual 64, 3), (655, .aload_n 2, 1), (656, .aload_n 0, 1), (657, .iload_n 3, 1), (658, .iconst 1, 1), (659, .iadd, 1), (660, .iaload, 1), (661, .aload_n 0, 1), (662, .iload_n 3, 1), (663, .iconst 2, 1), (664, .iadd, 1), (665, .iaload, 1), (666, .invokevirtual 67, 3), (669, .if_icmp .eq 1049, 3), (672, .iconst 0, 1), (673, .ireturn, 1), (674, .aload_n 1, 1), (675, .aload_n 0, 1), (676, .iload_n 3, 1), (677, .iconst 1, 1), (678, .iadd, 1), (679, .iaload, 1), (680, .i2l, 1), (681, .bipush 32, 2), (683, .lshl, 1), (684, .aload_n 0, 1), (685, .iload_n 3, 1), (686, .iconst 2, 1), (687, .iadd, 1), (688, .iaload, 1), (689, .i2l, 1), (690, .ldc2_w 68, 3)]
set_option maxRecDepth 100000 in
theorem dt_L_law_7 : ∀ q ∈ tab_L_law_7, decode m_L_law.2.1 q.1 = .ok q.2 := by decide +kernel
def tab_L_law_8 : List (Nat × Instr × Nat) := [(693, .land, 1), (694, .lor, 1), (695, .aload_n 0, 1), (696, .iload_n 3, 1), (697, .iconst 3, 1), (698, .iadd, 1), (699, .iaload, 1), (700, .invokevirtual 70, 3), (703, .aload_n 2, 1), (704, .aload_n 0, 1), (705, .iload_n 3, 1), (706, .iconst 1, 1), (707, .iadd, 1), (708, .iaload, 1), (709, .i2l, 1), (710, .bipush 32, 2), (712, .lshl, 1), (713, .aload_n 0, 1), (714, .iload_n 3, 1), (715, .iconst 2, 1), (716, .iadd, 1), (717, .iaload, 1), (718, .i2l, 1), (719, .ldc2_w 68, 3), (722, .land, 1), (723, .lor, 1), (724, .aload_n 0, 1), (725, .iload_n 3, 1), (726, .iconst 3, 1), (727, .iadd, 1), (728, .iaload, 1), (729, .invokevirtual 74, 3), (732, .if_icmp .eq 986, 3), (735, .iconst 0, 1), (736, .ireturn, 1), (737, .aload_n 1, 1), (738, .aload_n 0, 1), (739, .iload_n 3, 1), (740, .iconst 1, 1), (741, .iadd, 1), (742, .iaload, 1), (743, .invokevirtual 75, 3), (746, .aload_n 2, 1), (747, .aload_n 0, 1), (748, .iload_n 3, 1), (749, .iconst 1, 1), (750, .iadd, 1), (751, .iaload, 1), (752, .invokevirtual 78, 3), (755, .if_icmp .eq 963, 3)]
set_option maxRecDepth 100000 in
theorem dt_L_law_8 : ∀ q ∈ tab_L_law_8, decode m_L_law.2.1 q.1 = .ok q.2 := by decide +kernel
def tab_L_law_9 : List (Nat × Instr × Nat) := [(758, .iconst 0, 1), (759, .ireturn, 1), (760, .aload_n 1, 1), (761, .aload_n 0, 1), (762, .iload_n 3, 1), (763, .iconst 1, 1), (764, .iadd, 1), (765, .iaload, 1), (766, .aload_n 0, 1), (767, .iload_n 3, 1), (768, .iconst 2, 1), (769, .iadd, 1), (770, .iaload, 1), (771, .aload_n 0, 1), (772, .iload_n 3, 1), (773, .iconst 3, 1), (774, .iadd, 1), (775, .iaload, 1), (776, .invokevirtual 79, 3), (779, .aload_n 2, 1), (780, .aload_n 0, 1), (781, .iload_n 3, 1), (782, .iconst 1, 1), (783, .iadd, 1), (784, .iaload, 1), (785, .aload_n 0, 1), (786, .iload_n 3, 1), (787, .iconst 2, 1), (788, .iadd, 1), (789, .iaload, 1), (790, .aload_n 0, 1), (791, .iload_n 3, 1), (792, .iconst 3, 1), (793, .iadd, 1), (794, .iaload, 1), (795, .invokevirtual 82, 3), (798, .if_icmp .eq 920, 3), (801, .iconst 0, 1), (802, .ireturn, 1), (803, .aload_n 1, 1), (804, .aload_n 0, 1), (805, .iload_n 3, 1), (806, .iconst 1, 1), (807, .iadd, 1), (808, .iaload, 1), (809, .invokevirtual 83, 3), (812, .aload_n 2, 1), (813, .aload_n 0, 1), (814, .iload_n 3, 1), (815, .iconst 1, 1)]
set_option maxRecDepth 100000 in
theorem dt_L_law_9 : ∀ q ∈ tab_L_law_9, decode m_L_law.2.1 q.1 = .ok q.2 := by decide +kernel
def tab_L_law_10 : List (Nat × Instr × Nat) := [(816, .iadd, 1), (817, .iaload, 1), (818, .invokevirtual 86, 3), (821, .if_icmp .eq 897, 3), (824, .iconst 0, 1), (825, .ireturn, 1), (826, .aload_n 1, 1), (827, .aload_n 0, 1), (828, .iload_n 3, 1), (829, .iconst 1, 1), (830, .iadd, 1), (831, .iaload, 1), (832, .aload_n 0, 1), (833, .iload_n 3, 1), (834, .iconst 2, 1), (835, .iadd, 1), (836, .iaload, 1), (837, .invokevirtual 87, 3), (840, .aload_n 2, 1), (841, .aload_n 0, 1), (842, .iload_n 3, 1), (843, .iconst 1, 1), (844, .iadd, 1), (845, .iaload, 1), (846, .aload_n 0, 1), (847, .iload_n 3, 1), (848, .iconst 2, 1), (849, .iadd, 1), (850, .iaload, 1), (851, .invokevirtual 90, 3), (854, .if_icmp .eq 864, 3), (857, .iconst 0, 1), (858, .ireturn, 1), (859, .aload_n 1, 1), (860, .aload_n 0, 1), (861, .iload_n 3, 1), (862, .iconst 1, 1), (863, .iadd, 1), (864, .iaload, 1), (865, .aload_n 0, 1), (866, .iload_n 3, 1), (867, .iconst 2, 1), (868, .iadd, 1), (869, .iaload, 1), (870, .invokevirtual 91, 3), (873, .aload_n 2, 1), (874, .aload_n 0, 1), (875, .iload_n 3, 1), (876, .iconst 1, 1), (877, .iadd, 1)]
set_option maxRecDepth 100000 in
theorem dt_L_law_10 : ∀ q ∈ tab_L_law_10, decode m_L_law.2.1 q.1 = .ok q.2 := by decide +kernel
def tab_L_law_11 : List (Nat × Instr × Nat) := [(878, .iaload, 1), (879, .aload_n 0, 1), (880, .iload_n 3, 1), (881, .iconst 2, 1), (882, .iadd, 1), (883, .iaload, 1), (884, .invokevirtual 94, 3), (887, .if_icmp .eq 831, 3), (890, .iconst 0, 1), (891, .ireturn, 1), (892, .aload_n 1, 1), (893, .aload_n 0, 1), (894, .iload_n 3, 1), (895, .iconst 1, 1), (896, .iadd, 1), (897, .iaload, 1), (898, .aload_n 0, 1), (899, .iload_n 3, 1), (900, .iconst 2, 1), (901, .iadd, 1), (902, .iaload, 1), (903, .invokevirtual 95, 3), (906, .aload_n 2, 1), (907, .aload_n 0, 1), (908, .iload_n 3, 1), (909, .iconst 1, 1), (910, .iadd, 1), (911, .iaload, 1), (912, .aload_n 0, 1), (913, .iload_n 3, 1), (914, .iconst 2, 1), (915, .iadd, 1), (916, .iaload, 1), (917, .invokevirtual 98, 3), (920, .if_icmp .eq 798, 3), (923, .iconst 0, 1), (924, .ireturn, 1), (925, .aload_n 1, 1), (926, .aload_n 0, 1), (927, .iload_n 3, 1), (928, .iconst 1, 1), (929, .iadd, 1), (930, .iaload, 1), (931, .ifCond .eq 7, 3), (934, .iconst 1, 1), (935, .goto 4, 3), (938, .iconst 0, 1), (939, .invokevirtual 99, 3), (942, .aload_n 2, 1), (943, .aload_n 0, 1)]
set_option maxRecDepth 100000 in
theorem dt_L_law_11 : ∀ q ∈ tab_L_law_11, decode m_L_law.2.1 q.1 = .ok q.2 := by decide +kernel
def tab_L_law_12 : List (Nat × Instr × Nat) := [(944, .iload_n 3, 1), (945, .iconst 1, 1), (946, .iadd, 1), (947, .iaload, 1), (948, .ifCond .eq 7, 3), (951, .iconst 1, 1), (952, .goto 4, 3), (955, .iconst 0, 1), (956, .invokevirtual 103, 3), (959, .if_icmp .eq 759, 3), (962, .iconst 0, 1), (963, .ireturn, 1), (964, .aload_n 1, 1), (965, .aload_n 0, 1), (966, .iload_n 3, 1), (967, .iconst 1, 1), (968, .iadd, 1), (969, .iaload, 1), (970, .invokevirtual 104, 3), (973, .aload_n 2, 1), (974, .aload_n 0, 1), (975, .iload_n 3, 1), (976, .iconst 1, 1), (977, .iadd, 1), (978, .iaload, 1), (979, .invokevirtual 107, 3), (982, .if_icmp .eq 736, 3), (985, .iconst 0, 1), (986, .ireturn, 1), (987, .aload_n 1, 1), (988, .aload_n 0, 1), (989, .iload_n 3, 1), (990, .iconst 1, 1), (991, .iadd, 1), (992, .iaload, 1), (993, .invokevirtual 108, 3), (996, .aload_n 2, 1), (997, .aload_n 0, 1), (998, .iload_n 3, 1), (999, .iconst 1, 1), (1000, .iadd, 1), (1001, .iaload, 1), (1002, .invokevirtual 111, 3), (1005, .if_icmp .eq 713, 3), (1008, .iconst 0, 1), (1009, .ireturn, 1), (1010, .aload_n 1, 1), (1011, .aload_n 0, 1), (1012, .iload_n 3, 1), (1013, .iconst 1, 1)]
set_option maxRecDepth 100000 in
theorem dt_L_law_12 : ∀ q ∈ tab_L_law_12, decode m_L_law.2.1 q.1 = .ok q.2 := by decide +kernel
def tab_L_law_13 : List (Nat × Instr × Nat) := [(1014, .iadd, 1), (1015, .iaload, 1), (1016, .invokevirtual 112, 3), (1019, .aload_n 2, 1), (1020, .aload_n 0, 1), (1021, .iload_n 3, 1), (1022, .iconst 1, 1), (1023, .iadd, 1), (1024, .iaload, 1), (1025, .invokevirtual 115, 3), (1028, .if_icmp .eq 690, 3), (1031, .iconst 0, 1), (1032, .ireturn, 1), (1033, .aload_n 1, 1), (1034, .aload_n 0, 1), (1035, .iload_n 3, 1), (1036, .iconst 1, 1), (1037, .iadd, 1), (1038, .iaload, 1), (1039, .invokevirtual 116, 3), (1042, .aload_n 2, 1), (1043, .aload_n 0, 1), (1044, .iload_n 3, 1), (1045, .iconst 1, 1), (1046, .iadd, 1), (1047, .iaload, 1), (1048, .invokevirtual 119, 3), (1051, .if_icmp .eq 667, 3), (1054, .iconst 0, 1), (1055, .ireturn, 1), (1056, .aload_n 1, 1), (1057, .aload_n 0, 1), (1058, .iload_n 3, 1), (1059, .iconst 1, 1), (1060, .iadd, 1), (1061, .iaload, 1), (1062, .invokevirtual 120, 3), (1065, .aload_n 2, 1), (1066, .aload_n 0, 1), (1067, .iload_n 3, 1), (1068, .iconst 1, 1), (1069, .iadd, 1), (1070, .iaload, 1), (1071, .invokevirtual 123, 3), (1074, .if_icmp .eq 644, 3), (1077, .iconst 0, 1), (1078, .ireturn, 1), (1079, .aload_n 1, 1), (1080, .aload_n 0, 1), (1081, .iload_n 3, 1)]
set_option maxRecDepth 100000 in
theorem dt_L_law_13 : ∀ q ∈ tab_L_law_13, decode m_L_law.2.1 q.1 = .ok q.2 := by decide +kernel
def tab_L_law_14 : List (Nat × Instr × Nat) := [(1082, .iconst 1, 1), (1083, .iadd, 1), (1084, .iaload, 1), (1085, .ifCond .eq 7, 3), (1088, .iconst 1, 1), (1089, .goto 4, 3), (1092, .iconst 0, 1), (1093, .aload_n 0, 1), (1094, .iload_n 3, 1), (1095, .iconst 2, 1), (1096, .iadd, 1), (1097, .iaload, 1), (1098, .invokevirtual 124, 3), (1101, .aload_n 2, 1), (1102, .aload_n 0, 1), (1103, .iload_n 3, 1), (1104, .iconst 1, 1), (1105, .iadd, 1), (1106, .iaload, 1), (1107, .ifCond .eq 7, 3), (1110, .iconst 1, 1), (1111, .goto 4, 3), (1114, .iconst 0, 1), (1115, .aload_n 0, 1), (1116, .iload_n 3, 1), (1117, .iconst 2, 1), (1118, .iadd, 1), (1119, .iaload, 1), (1120, .invokevirtual 127, 3), (1123, .if_icmp .eq 595, 3), (1126, .iconst 0, 1), (1127, .ireturn, 1), (1128, .aload_n 1, 1), (1129, .aload_n 0, 1), (1130, .iload_n 3, 1), (1131, .iconst 1, 1), (1132, .iadd, 1), (1133, .iaload, 1), (1134, .invokevirtual 128, 3), (1137, .aload_n 2, 1), (1138, .aload_n 0, 1), (1139, .iload_n 3, 1), (1140, .iconst 1, 1), (1141, .iadd, 1), (1142, .iaload, 1), (1143, .invokevirtual 131, 3), (1146, .if_icmp .eq 572, 3), (1149, .iconst 0, 1), (1150, .ireturn, 1), (1151, .aload_n 1, 1)]
set_option maxRecDepth 100000 in
theorem dt_L_law_14 : ∀ q ∈ tab_L_law_14, decode m_L_law.2.1 q.1 = .ok q.2 := by decide +kernel
def tab_L_law_15 : List (Nat × Instr × Nat) := [(1152, .aload_n 0, 1), (1153, .iload_n 3, 1), (1154, .iconst 1, 1), (1155, .iadd, 1), (1156, .iaload, 1), (1157, .aload_n 0, 1), (1158, .iload_n 3, 1), (1159, .iconst 2, 1), (1160, .iadd, 1), (1161, .iaload, 1), (1162, .invokevirtual 132, 3), (1165, .aload_n 2, 1), (1166, .aload_n 0, 1), (1167, .iload_n 3, 1), (1168, .iconst 1, 1), (1169, .iadd, 1), (1170, .iaload, 1), (1171, .aload_n 0, 1), (1172, .iload_n 3, 1), (1173, .iconst 2, 1), (1174, .iadd, 1), (1175, .iaload, 1), (1176, .invokevirtual 135, 3), (1179, .if_icmp .eq 539, 3), (1182, .iconst 0, 1), (1183, .ireturn, 1), (1184, .aload_n 1, 1), (1185, .aload_n 0, 1), (1186, .iload_n 3, 1), (1187, .iconst 1, 1), (1188, .iadd, 1), (1189, .iaload, 1), (1190, .aload_n 0, 1), (1191, .iload_n 3, 1), (1192, .iconst 2, 1), (1193, .iadd, 1), (1194, .iaload, 1), (1195, .aload_n 0, 1), (1196, .iload_n 3, 1), (1197, .iconst 3, 1), (1198, .iadd, 1), (1199, .iaload, 1), (1200, .invokevirtual 136, 3), (1203, .aload_n 2, 1), (1204, .aload_n 0, 1), (1205, .iload_n 3, 1), (1206, .iconst 1, 1), (1207, .iadd, 1), (1208, .iaload, 1), (1209, .aload_n 0, 1)]
set_option maxRecDepth 100000 in
theorem dt_L_law_15 : ∀ q ∈ tab_L_law_15, decode m_L_law.2.1 q.1 = .ok q.2 := by decide +kernel
def tab_L_law_16 : List (Nat × Instr × Nat) := [(1210, .iload_n 3, 1), (1211, .iconst 2, 1), (1212, .iadd, 1), (1213, .iaload, 1), (1214, .aload_n 0, 1), (1215, .iload_n 3, 1), (1216, .iconst 3, 1), (1217, .iadd, 1), (1218, .iaload, 1), (1219, .invokevirtual 139, 3), (1222, .if_icmp .eq 496, 3), (1225, .iconst 0, 1), (1226, .ireturn, 1), (1227, .aload_n 1, 1), (1228, .invokevirtual 140, 3), (1231, .aload_n 2, 1), (1232, .invokevirtual 143, 3), (1235, .if_icmp .eq 483, 3), (1238, .iconst 0, 1), (1239, .ireturn, 1), (1240, .aload_n 1, 1), (1241, .invokevirtual 144, 3), (1244, .aload_n 2, 1), (1245, .invokevirtual 147, 3), (1248, .if_icmp .eq 470, 3), (1251, .iconst 0, 1), (1252, .ireturn, 1), (1253, .aload_n 1, 1), (1254, .aload_n 0, 1), (1255, .iload_n 3, 1), (1256, .iconst 1, 1), (1257, .iadd, 1), (1258, .iaload, 1), (1259, .invokevirtual 148, 3), (1262, .aload_n 2, 1), (1263, .aload_n 0, 1), (1264, .iload_n 3, 1), (1265, .iconst 1, 1), (1266, .iadd, 1), (1267, .iaload, 1), (1268, .invokevirtual 151, 3), (1271, .if_icmp .eq 447, 3), (1274, .iconst 0, 1), (1275, .ireturn, 1), (1276, .aload_n 1, 1), (1277, .aload_n 0, 1), (1278, .iload_n 3, 1), (1279, .iconst 1, 1), (1280, .iadd, 1), (1281, .iaload, 1)]
set_option maxRecDepth 100000 in
theorem dt_L_law_16 : ∀ q ∈ tab_L_law_16, decode m_L_law.2.1 q.1 = .ok q.2 := by decide +kernel
def tab_L_law_17 : List (Nat × Instr × Nat) := [(1282, .aload_n 0, 1), (1283, .iload_n 3, 1), (1284, .iconst 2, 1), (1285, .iadd, 1), (1286, .iaload, 1), (1287, .aload_n 0, 1), (1288, .iload_n 3, 1), (1289, .iconst 3, 1), (1290, .iadd, 1), (1291, .iaload, 1), (1292, .invokevirtual 152, 3), (1295, .aload_n 2, 1), (1296, .aload_n 0, 1), (1297, .iload_n 3, 1), (1298, .iconst 1, 1), (1299, .iadd, 1), (1300, .iaload, 1), (1301, .aload_n 0, 1), (1302, .iload_n 3, 1), (1303, .iconst 2, 1), (1304, .iadd, 1), (1305, .iaload, 1), (1306, .aload_n 0, 1), (1307, .iload_n 3, 1), (1308, .iconst 3, 1), (1309, .iadd, 1), (1310, .iaload, 1), (1311, .invokevirtual 155, 3), (1314, .if_icmp .eq 404, 3), (1317, .iconst 0, 1), (1318, .ireturn, 1), (1319, .aload_n 1, 1), (1320, .aload_n 0, 1), (1321, .iload_n 3, 1), (1322, .iconst 1, 1), (1323, .iadd, 1), (1324, .iaload, 1), (1325, .aload_n 0, 1), (1326, .iload_n 3, 1), (1327, .iconst 2, 1), (1328, .iadd, 1), (1329, .iaload, 1), (1330, .invokevirtual 156, 3), (1333, .aload_n 2, 1), (1334, .aload_n 0, 1), (1335, .iload_n 3, 1), (1336, .iconst 1, 1), (1337, .iadd, 1), (1338, .iaload, 1), (1339, .aload_n 0, 1)]
set_option maxRecDepth 100000 in
theorem dt_L_law_17 : ∀ q ∈ tab_L_law_17, decode m_L_law.2.1 q.1 = .ok q.2 := by decide +kernel
def tab_L_law_18 : List (Nat × Instr × Nat) := [(1340, .iload_n 3, 1), (1341, .iconst 2, 1), (1342, .iadd, 1), (1343, .iaload, 1), (1344, .invokevirtual 159, 3), (1347, .if_icmp .eq 371, 3), (1350, .iconst 0, 1), (1351, .ireturn, 1), (1352, .aload_n 1, 1), (1353, .invokevirtual 160, 3), (1356, .aload_n 2, 1), (1357, .invokevirtual 163, 3), (1360, .if_icmp .eq 358, 3), (1363, .iconst 0, 1), (1364, .ireturn, 1), (1365, .aload_n 1, 1), (1366, .aload_n 0, 1), (1367, .iload_n 3, 1), (1368, .iconst 1, 1), (1369, .iadd, 1), (1370, .iaload, 1), (1371, .aload_n 0, 1), (1372, .iload_n 3, 1), (1373, .iconst 2, 1), (1374, .iadd, 1), (1375, .iaload, 1), (1376, .aload_n 0, 1), (1377, .iload_n 3, 1), (1378, .iconst 3, 1), (1379, .iadd, 1), (1380, .iaload, 1), (1381, .invokevirtual 164, 3), (1384, .aload_n 2, 1), (1385, .aload_n 0, 1), (1386, .iload_n 3, 1), (1387, .iconst 1, 1), (1388, .iadd, 1), (1389, .iaload, 1), (1390, .aload_n 0, 1), (1391, .iload_n 3, 1), (1392, .iconst 2, 1), (1393, .iadd, 1), (1394, .iaload, 1), (1395, .aload_n 0, 1), (1396, .iload_n 3, 1), (1397, .iconst 3, 1), (1398, .iadd, 1), (1399, .iaload, 1), (1400, .invokevirtual 167, 3), (1403, .if_icmp .eq 315, 3)]
set_option maxRecDepth 100000 in
theorem dt_L_law_18 : ∀ q ∈ tab_L_law_18, decode m_L_law.2.1 q.1 = .ok q.2 := by decide +kernel
def tab_L_law_19 : List (Nat × Instr × Nat) := [(1406, .iconst 0, 1), (1407, .ireturn, 1), (1408, .aload_n 1, 1), (1409, .aload_n 0, 1), (1410, .iload_n 3, 1), (1411, .iconst 1, 1), (1412, .iadd, 1), (1413, .iaload, 1), (1414, .aload_n 0, 1), (1415, .iload_n 3, 1), (1416, .iconst 2, 1), (1417, .iadd, 1), (1418, .iaload, 1), (1419, .aload_n 0, 1), (1420, .iload_n 3, 1), (1421, .iconst 3, 1), (1422, .iadd, 1), (1423, .iaload, 1), (1424, .invokevirtual 168, 3), (1427, .aload_n 2, 1), (1428, .aload_n 0, 1), (1429, .iload_n 3, 1), (1430, .iconst 1, 1), (1431, .iadd, 1), (1432, .iaload, 1), (1433, .aload_n 0, 1), (1434, .iload_n 3, 1), (1435, .iconst 2, 1), (1436, .iadd, 1), (1437, .iaload, 1), (1438, .aload_n 0, 1), (1439, .iload_n 3, 1), (1440, .iconst 3, 1), (1441, .iadd, 1), (1442, .iaload, 1), (1443, .invokevirtual 171, 3), (1446, .if_icmp .eq 272, 3), (1449, .iconst 0, 1), (1450, .ireturn, 1), (1451, .aload_n 1, 1), (1452, .aload_n 0, 1), (1453, .iload_n 3, 1), (1454, .iconst 1, 1), (1455, .iadd, 1), (1456, .iaload, 1), (1457, .aload_n 0, 1), (1458, .iload_n 3, 1), (1459, .iconst 2, 1), (1460, .iadd, 1), (1461, .iaload, 1)]
set_option maxRecDepth 100000 in
theorem dt_L_law_19 : ∀ q ∈ tab_L_law_19, decode m_L_law.2.1 q.1 = .ok q.2 := by decide +kernel
def tab_L_law_20 : List (Nat × Instr × Nat) := [(1462, .aload_n 0, 1), (1463, .iload_n 3, 1), (1464, .iconst 3, 1), (1465, .iadd, 1), (1466, .iaload, 1), (1467, .invokevirtual 172, 3), (1470, .aload_n 2, 1), (1471, .aload_n 0, 1), (1472, .iload_n 3, 1), (1473, .iconst 1, 1), (1474, .iadd, 1), (1475, .iaload, 1), (1476, .aload_n 0, 1), (1477, .iload_n 3, 1), (1478, .iconst 2, 1), (1479, .iadd, 1), (1480, .iaload, 1), (1481, .aload_n 0, 1), (1482, .iload_n 3, 1), (1483, .iconst 3, 1), (1484, .iadd, 1), (1485, .iaload, 1), (1486, .invokevirtual 175, 3), (1489, .if_icmp .eq 229, 3), (1492, .iconst 0, 1), (1493, .ireturn, 1), (1494, .aload_n 1, 1), (1495, .aload_n 0, 1), (1496, .iload_n 3, 1), (1497, .iconst 1, 1), (1498, .iadd, 1), (1499, .iaload, 1), (1500, .aload_n 0, 1), (1501, .iload_n 3, 1), (1502, .iconst 2, 1), (1503, .iadd, 1), (1504, .iaload, 1), (1505, .invokevirtual 176, 3), (1508, .aload_n 2, 1), (1509, .aload_n 0, 1), (1510, .iload_n 3, 1), (1511, .iconst 1, 1), (1512, .iadd, 1), (1513, .iaload, 1), (1514, .aload_n 0, 1), (1515, .iload_n 3, 1), (1516, .iconst 2, 1), (1517, .iadd, 1), (1518, .iaload, 1), (1519, .invokevirtual 179, 3)]
set_option maxRecDepth 100000 in
theorem dt_L_law_20 : ∀ q ∈ tab_L_law_20, decode m_L_law.2.1 q.1 = .ok q.2 := by decide +kernel
def tab_L_law_21 : List (Nat × Instr × Nat) := [(1522, .if_icmp .eq 196, 3), (1525, .iconst 0, 1), (1526, .ireturn, 1), (1527, .aload_n 1, 1), (1528, .aload_n 0, 1), (1529, .iload_n 3, 1), (1530, .iconst 1, 1), (1531, .iadd, 1), (1532, .iaload, 1), (1533, .aload_n 0, 1), (1534, .iload_n 3, 1), (1535, .iconst 2, 1), (1536, .iadd, 1), (1537, .iaload, 1), (1538, .aload_n 0, 1), (1539, .iload_n 3, 1), (1540, .iconst 3, 1), (1541, .iadd, 1), (1542, .iaload, 1), (1543, .invokevirtual 180, 3), (1546, .aload_n 2, 1), (1547, .aload_n 0, 1), (1548, .iload_n 3, 1), (1549, .iconst 1, 1), (1550, .iadd, 1), (1551, .iaload, 1), (1552, .aload_n 0, 1), (1553, .iload_n 3, 1), (1554, .iconst 2, 1), (1555, .iadd, 1), (1556, .iaload, 1), (1557, .aload_n 0, 1), (1558, .iload_n 3, 1), (1559, .iconst 3, 1), (1560, .iadd, 1), (1561, .iaload, 1), (1562, .invokevirtual 183, 3), (1565, .if_icmp .eq 153, 3), (1568, .iconst 0, 1), (1569, .ireturn, 1), (1570, .aload_n 1, 1), (1571, .aload_n 0, 1), (1572, .iload_n 3, 1), (1573, .iconst 1, 1), (1574, .iadd, 1), (1575, .iaload, 1), (1576, .aload_n 0, 1), (1577, .iload_n 3, 1), (1578, .iconst 2, 1), (1579, .iadd, 1)]
set_option maxRecDepth 100000 in
theorem dt_L_law_21 : ∀ q ∈ tab_L_law_21, decode m_L_law.2.1 q.1 = .ok q.2 := by decide +kernel
def tab_L_law_22 : List (Nat × Instr × Nat) := [(1580, .iaload, 1), (1581, .invokevirtual 184, 3), (1584, .aload_n 2, 1), (1585, .aload_n 0, 1), (1586, .iload_n 3, 1), (1587, .iconst 1, 1), (1588, .iadd, 1), (1589, .iaload, 1), (1590, .aload_n 0, 1), (1591, .iload_n 3, 1), (1592, .iconst 2, 1), (1593, .iadd, 1), (1594, .iaload, 1), (1595, .invokevirtual 187, 3), (1598, .if_icmp .eq 120, 3), (1601, .iconst 0, 1), (1602, .ireturn, 1), (1603, .aload_n 1, 1), (1604, .aload_n 0, 1), (1605, .iload_n 3, 1), (1606, .iconst 1, 1), (1607, .iadd, 1), (1608, .iaload, 1), (1609, .aload_n 0, 1), (1610, .iload_n 3, 1), (1611, .iconst 2, 1), (1612, .iadd, 1), (1613, .iaload, 1), (1614, .aload_n 0, 1), (1615, .iload_n 3, 1), (1616, .iconst 3, 1), (1617, .iadd, 1), (1618, .iaload, 1), (1619, .invokevirtual 188, 3), (1622, .aload_n 2, 1), (1623, .aload_n 0, 1), (1624, .iload_n 3, 1), (1625, .iconst 1, 1), (1626, .iadd, 1), (1627, .iaload, 1), (1628, .aload_n 0, 1), (1629, .iload_n 3, 1), (1630, .iconst 2, 1), (1631, .iadd, 1), (1632, .iaload, 1), (1633, .aload_n 0, 1), (1634, .iload_n 3, 1), (1635, .iconst 3, 1), (1636, .iadd, 1), (1637, .iaload, 1)]
set_option maxRecDepth 100000 in
theorem dt_L_law_22 : ∀ q ∈ tab_L_law_22, decode m_L_law.2.1 q.1 = .ok q.2 := by decide +kernel
def tab_L_law_23 : List (Nat × Instr × Nat) := [(1638, .invokevirtual 191, 3), (1641, .if_icmp .eq 77, 3), (1644, .iconst 0, 1), (1645, .ireturn, 1), (1646, .aload_n 1, 1), (1647, .aload_n 0, 1), (1648, .iload_n 3, 1), (1649, .iconst 1, 1), (1650, .iadd, 1), (1651, .iaload, 1), (1652, .invokevirtual 192, 3), (1655, .aload_n 2, 1), (1656, .aload_n 0, 1), (1657, .iload_n 3, 1), (1658, .iconst 1, 1), (1659, .iadd, 1), (1660, .iaload, 1), (1661, .invokevirtual 195, 3), (1664, .if_icmp .eq 54, 3), (1667, .iconst 0, 1), (1668, .ireturn, 1), (1669, .aload_n 1, 1), (1670, .aload_n 0, 1), (1671, .iload_n 3, 1), (1672, .iconst 1, 1), (1673, .iadd, 1), (1674, .iaload, 1), (1675, .invokevirtual 196, 3), (1678, .aload_n 2, 1), (1679, .aload_n 0, 1), (1680, .iload_n 3, 1), (1681, .iconst 1, 1), (1682, .iadd, 1), (1683, .iaload, 1), (1684, .invokevirtual 199, 3), (1687, .if_icmp .eq 31, 3), (1690, .iconst 0, 1), (1691, .ireturn, 1), (1692, .aload_n 1, 1), (1693, .invokevirtual 200, 3), (1696, .aload_n 2, 1), (1697, .invokevirtual 203, 3), (1700, .if_icmp .eq 18, 3), (1703, .iconst 0, 1), (1704, .ireturn, 1), (1705, .aload_n 1, 1), (1706, .invokevirtual 204, 3), (1709, .aload_n 2, 1), (1710, .invokevirtual 207, 3), (1713, .if_icmp .eq 5, 3)]
set_option maxRecDepth 100000 in
theorem dt_L_law_23 : ∀ q ∈ tab_L_law_23, decode m_L_law.2.1 q.1 = .ok q.2 := by decide +kernel
def tab_L_law_24 : List (Nat × Instr × Nat) := [(1716, .iconst 0, 1), (1717, .ireturn, 1), (1718, .iinc 3 6, 3), (1721, .goto (-1703), 3), (1724, .iconst 1, 1), (1725, .ireturn, 1)]
set_option maxRecDepth 100000 in
theorem dt_L_law_24 : ∀ q ∈ tab_L_law_24, decode m_L_law.2.1 q.1 = .ok q.2 := by decide +kernel
def f_L_law_l18 (L : Nat) (xs : Nat → Int32) (a0 : Nat) (a1 : Nat) (a2 : Nat) : Nat → Int32 → mm → Option (Int32)
  | 0, _, _ => none
  | n + 1, v3, μ => if ((Int32.ofNat L) - 6) < v3 then
      some 1
    else
      (ldx L xs v3).bind fun x1 =>
      if (x1 &&& 63) = 0 then
        (ldx L xs (v3 + 1)).bind fun x3 =>
        (f_11_days a1 x3 μ).bind fun z6 =>
        (ldx L xs (v3 + 1)).bind fun x7 =>
        (f_12_days a2 x7 z6.2).bind fun z10 =>
        if z6.1 = z10.1 then
          f_L_law_l18 L xs a0 a1 a2 n (v3 + 6) z10.2
        else
          some 0
      else if (x1 &&& 63) = 1 then
        (f_11_village a1 μ).bind fun z12 =>
        (f_12_village a2 z12.2).bind fun z14 =>
        if z12.1 = z14.1 then
          f_L_law_l18 L xs a0 a1 a2 n (v3 + 6) z14.2
        else
          some 0
      else if (x1 &&& 63) = 2 then
        (ldx L xs (v3 + 1)).bind fun x15 =>
        (ldx L xs (v3 + 2)).bind fun x17 =>
        (ldx L xs (v3 + 3)).bind fun x19 =>
        (f_11_road a1 x15 x17 x19 μ).bind fun z22 =>
        (ldx L xs (v3 + 1)).bind fun x23 =>
        (ldx L xs (v3 + 2)).bind fun x25 =>
        (ldx L xs (v3 + 3)).bind fun x27 =>
        (f_12_road a2 x23 x25 x27 z22.2).bind fun z30 =>
        if z22.1 = z30.1 then
          f_L_law_l18 L xs a0 a1 a2 n (v3 + 6) z30.2
        else
          some 0
      else if (x1 &&& 63) = 3 then
        (ldx L xs (v3 + 1)).bind fun x31 =>
        (ldx L xs (v3 + 2)).bind fun x33 =>
        (ldx L xs (v3 + 3)).bind fun x35 =>
        (ldx L xs (v3 + 4)).bind fun x37 =>
        (f_11_pit a1 x31 x33 x35 x37 μ).bind fun z40 =>
        (ldx L xs (v3 + 1)).bind fun x41 =>
        (ldx L xs (v3 + 2)).bind fun x43 =>
        (ldx L xs (v3 + 3)).bind fun x45 =>
        (ldx L xs (v3 + 4)).bind fun x47 =>
        (f_12_pit a2 x41 x43 x45 x47 z40.2).bind fun z50 =>
        if z40.1 = z50.1 then
          f_L_law_l18 L xs a0 a1 a2 n (v3 + 6) z50.2
        else
          some 0
      else if (x1 &&& 63) = 4 then
        (ldx L xs (v3 + 1)).bind fun x51 =>
        (ldx L xs (v3 + 2)).bind fun x53 =>
        (f_11_shop a1 x51 x53 μ).bind fun z56 =>
        (ldx L xs (v3 + 1)).bind fun x57 =>
        (ldx L xs (v3 + 2)).bind fun x59 =>
        (f_12_shop a2 x57 x59 z56.2).bind fun z62 =>
        if z56.1 = z62.1 then
          f_L_law_l18 L xs a0 a1 a2 n (v3 + 6) z62.2
        else
          some 0
      else if (x1 &&& 63) = 5 then
        (ldx L xs (v3 + 1)).bind fun x63 =>
        (ldx L xs (v3 + 2)).bind fun x65 =>
        (ldx L xs (v3 + 3)).bind fun x67 =>
        (ldx L xs (v3 + 4)).bind fun x69 =>
        (ldx L xs (v3 + 5)).bind fun x71 =>
        (f_11_household a1 x63 x65 x67 x69 x71 μ).bind fun z74 =>
        (ldx L xs (v3 + 1)).bind fun x75 =>
        (ldx L xs (v3 + 2)).bind fun x77 =>
        (ldx L xs (v3 + 3)).bind fun x79 =>
        (ldx L xs (v3 + 4)).bind fun x81 =>
        (ldx L xs (v3 + 5)).bind fun x83 =>
        (f_12_household a2 x75 x77 x79 x81 x83 z74.2).bind fun z86 =>
        if z74.1 = z86.1 then
          f_L_law_l18 L xs a0 a1 a2 n (v3 + 6) z86.2
        else
          some 0
      else if (x1 &&& 63) = 6 then
        (ldx L xs (v3 + 1)).bind fun x87 =>
        (ldx L xs (v3 + 2)).bind fun x89 =>
        (f_11_of a1 x87 x89 μ).bind fun x92 =>
        (ldx L xs (v3 + 1)).bind fun x93 =>
        (ldx L xs (v3 + 2)).bind fun x95 =>
        (f_12_of a2 x93 x95 μ).bind fun z98 =>
        if x92 = z98.1 then
          f_L_law_l18 L xs a0 a1 a2 n (v3 + 6) z98.2
        else
          some 0
      else if (x1 &&& 63) = 7 then
        (ldx L xs (v3 + 1)).bind fun x99 =>
        (ldx L xs (v3 + 2)).bind fun x101 =>
        (f_11_pitOf a1 x99 x101 μ).bind fun x104 =>
        (ldx L xs (v3 + 1)).bind fun x105 =>
        (ldx L xs (v3 + 2)).bind fun x107 =>
        (f_12_pitOf a2 x105 x107 μ).bind fun x110 =>
        if x104 = x110 then
          f_L_law_l18 L xs a0 a1 a2 n (v3 + 6) μ
        else
          some 0
      else if (x1 &&& 63) = 8 then
        (ldx L xs (v3 + 1)).bind fun x111 =>
        (ldx L xs (v3 + 2)).bind fun x113 =>
        (f_11_shopOf a1 x111 x113 μ).bind fun x116 =>
        (ldx L xs (v3 + 1)).bind fun x117 =>
        (ldx L xs (v3 + 2)).bind fun x119 =>
        (f_12_shopOf a2 x117 x119 μ).bind fun x122 =>
        if x116 = x122 then
          f_L_law_l18 L xs a0 a1 a2 n (v3 + 6) μ
        else
          some 0
      else if (x1 &&& 63) = 9 then
        (ldx L xs (v3 + 1)).bind fun x123 =>
        (ldx L xs (v3 + 2)).bind fun x125 =>
        (f_11_set a1 x123 x125 μ).bind fun z128 =>
        (ldx L xs (v3 + 1)).bind fun x129 =>
        (ldx L xs (v3 + 2)).bind fun x131 =>
        (f_12_set a2 x129 x131 z128.2).bind fun z134 =>
        if z128.1 = z134.1 then
          f_L_law_l18 L xs a0 a1 a2 n (v3 + 6) z134.2
        else
          some 0
      else if (x1 &&& 63) = 10 then
        (ldx L xs (v3 + 1)).bind fun x135 =>
        (if x135 = 0 then
            some 0
          else
            some 1).bind fun (z137 : Int32) =>
        (ldx L xs (v3 + 2)).bind fun x138 =>
        (f_11_gift a1 z137 x138 μ).bind fun z141 =>
        (ldx L xs (v3 + 1)).bind fun x142 =>
        (if x142 = 0 then
            some 0
          else
            some 1).bind fun (z144 : Int32) =>
        (ldx L xs (v3 + 2)).bind fun x145 =>
        (f_12_gift a2 z144 x145 z141.2).bind fun z148 =>
        if z141.1 = z148.1 then
          f_L_law_l18 L xs a0 a1 a2 n (v3 + 6) z148.2
        else
          some 0
      else if (x1 &&& 63) = 11 then
        (ldx L xs (v3 + 1)).bind fun x149 =>
        (ldx L xs (v3 + 2)).bind fun x151 =>
        (f_11_ship a1 x149 x151 μ).bind fun z154 =>
        (ldx L xs (v3 + 1)).bind fun x155 =>
        (ldx L xs (v3 + 2)).bind fun x157 =>
        (f_12_ship a2 x155 x157 z154.2).bind fun z160 =>
        if z154.1 = z160.1 then
          f_L_law_l18 L xs a0 a1 a2 n (v3 + 6) z160.2
        else
          some 0
      else if (x1 &&& 63) = 12 then
        (ldx L xs (v3 + 1)).bind fun x161 =>
        (ldx L xs (v3 + 2)).bind fun x163 =>
        (ldx L xs (v3 + 3)).bind fun x165 =>
        (f_11_feed a1 ((x161.toInt64 <<< ((32 : Int32).toInt64 &&& 63)) ||| (x163.toInt64 &&& 4294967295)) x165 μ).bind fun z168 =>
        (ldx L xs (v3 + 1)).bind fun x169 =>
        (ldx L xs (v3 + 2)).bind fun x171 =>
        (ldx L xs (v3 + 3)).bind fun x173 =>
        (f_12_feed a2 ((x169.toInt64 <<< ((32 : Int32).toInt64 &&& 63)) ||| (x171.toInt64 &&& 4294967295)) x173 z168.2).bind fun z176 =>
        if z168.1 = z176.1 then
          f_L_law_l18 L xs a0 a1 a2 n (v3 + 6) z176.2
        else
          some 0
      else if (x1 &&& 63) = 13 then
        (ldx L xs (v3 + 1)).bind fun x177 =>
        (f_11_read a1 x177 μ).bind fun z180 =>
        (ldx L xs (v3 + 1)).bind fun x181 =>
        (f_12_read a2 x181 z180.2).bind fun z184 =>
        if z180.1 = z184.1 then
          f_L_law_l18 L xs a0 a1 a2 n (v3 + 6) z184.2
        else
          some 0
      else if (x1 &&& 63) = 14 then
        (ldx L xs (v3 + 1)).bind fun x185 =>
        (ldx L xs (v3 + 2)).bind fun x187 =>
        (ldx L xs (v3 + 3)).bind fun x189 =>
        (f_11_line a1 x185 x187 x189 μ).bind fun x192 =>
        (ldx L xs (v3 + 1)).bind fun x193 =>
        (ldx L xs (v3 + 2)).bind fun x195 =>
        (ldx L xs (v3 + 3)).bind fun x197 =>
        (f_12_line a2 x193 x195 x197 μ).bind fun x200 =>
        if x192 = x200 then
          f_L_law_l18 L xs a0 a1 a2 n (v3 + 6) μ
        else
          some 0
      else if (x1 &&& 63) = 15 then
        (ldx L xs (v3 + 1)).bind fun x201 =>
        (f_11_rule a1 x201 μ).bind fun x204 =>
        (ldx L xs (v3 + 1)).bind fun x205 =>
        (f_12_rule a2 x205 μ).bind fun x208 =>
        if x204 = x208 then
          f_L_law_l18 L xs a0 a1 a2 n (v3 + 6) μ
        else
          some 0
      else if (x1 &&& 63) = 16 then
        (ldx L xs (v3 + 1)).bind fun x209 =>
        (ldx L xs (v3 + 2)).bind fun x211 =>
        (f_11_why a1 x209 x211 μ).bind fun x214 =>
        (ldx L xs (v3 + 1)).bind fun x215 =>
        (ldx L xs (v3 + 2)).bind fun x217 =>
        (f_12_why a2 x215 x217 μ).bind fun z220 =>
        if x214 = z220.1 then
          f_L_law_l18 L xs a0 a1 a2 n (v3 + 6) z220.2
        else
          some 0
      else if (x1 &&& 63) = 17 then
        (ldx L xs (v3 + 1)).bind fun x221 =>
        (ldx L xs (v3 + 2)).bind fun x223 =>
        (f_11_news a1 x221 x223 μ).bind fun z226 =>
        (ldx L xs (v3 + 1)).bind fun x227 =>
        (ldx L xs (v3 + 2)).bind fun x229 =>
        (f_12_news a2 x227 x229 z226.2).bind fun z232 =>
        if z226.1 = z232.1 then
          f_L_law_l18 L xs a0 a1 a2 n (v3 + 6) z232.2
        else
          some 0
      else if (x1 &&& 63) = 18 then
        (ldx L xs (v3 + 1)).bind fun x233 =>
        (ldx L xs (v3 + 2)).bind fun x235 =>
        (f_11_hears a1 x233 x235 μ).bind fun x238 =>
        (ldx L xs (v3 + 1)).bind fun x239 =>
        (ldx L xs (v3 + 2)).bind fun x241 =>
        (f_12_hears a2 x239 x241 μ).bind fun x244 =>
        if x238 = x244 then
          f_L_law_l18 L xs a0 a1 a2 n (v3 + 6) μ
        else
          some 0
      else if (x1 &&& 63) = 19 then
        (ldx L xs (v3 + 1)).bind fun x245 =>
        (if x245 = 0 then
            some 0
          else
            some 1).bind fun (z247 : Int32) =>
        (f_11_press a1 z247 μ).bind fun z249 =>
        (ldx L xs (v3 + 1)).bind fun x250 =>
        (if x250 = 0 then
            some 0
          else
            some 1).bind fun (z252 : Int32) =>
        (f_12_press a2 z252 z249.2).bind fun z254 =>
        if z249.1 = z254.1 then
          f_L_law_l18 L xs a0 a1 a2 n (v3 + 6) z254.2
        else
          some 0
      else if (x1 &&& 63) = 20 then
        (ldx L xs (v3 + 1)).bind fun x255 =>
        (f_11_paper a1 x255 μ).bind fun z258 =>
        (ldx L xs (v3 + 1)).bind fun x259 =>
        (f_12_paper a2 x259 z258.2).bind fun z262 =>
        if z258.1 = z262.1 then
          f_L_law_l18 L xs a0 a1 a2 n (v3 + 6) z262.2
        else
          some 0
      else if (x1 &&& 63) = 21 then
        (ldx L xs (v3 + 1)).bind fun x263 =>
        (f_11_evict a1 x263 μ).bind fun z266 =>
        (ldx L xs (v3 + 1)).bind fun x267 =>
        (f_12_evict a2 x267 z266.2).bind fun z270 =>
        if z266.1 = z270.1 then
          f_L_law_l18 L xs a0 a1 a2 n (v3 + 6) z270.2
        else
          some 0
      else if (x1 &&& 63) = 22 then
        (ldx L xs (v3 + 1)).bind fun x271 =>
        (f_11_draws a1 x271 μ).bind fun z274 =>
        (ldx L xs (v3 + 1)).bind fun x275 =>
        (f_12_draws a2 x275 z274.2).bind fun z278 =>
        if z274.1 = z278.1 then
          f_L_law_l18 L xs a0 a1 a2 n (v3 + 6) z278.2
        else
          some 0
      else if (x1 &&& 63) = 23 then
        (ldx L xs (v3 + 1)).bind fun x279 =>
        (f_11_least a1 x279 μ).bind fun x282 =>
        (ldx L xs (v3 + 1)).bind fun x283 =>
        (f_12_least a2 x283 μ).bind fun z286 =>
        if x282 = z286.1 then
          f_L_law_l18 L xs a0 a1 a2 n (v3 + 6) z286.2
        else
          some 0
      else if (x1 &&& 63) = 24 then
        (ldx L xs (v3 + 1)).bind fun x287 =>
        (f_11_last a1 x287 μ).bind fun z290 =>
        (ldx L xs (v3 + 1)).bind fun x291 =>
        (f_12_last a2 x291 z290.2).bind fun z294 =>
        if z290.1 = z294.1 then
          f_L_law_l18 L xs a0 a1 a2 n (v3 + 6) z294.2
        else
          some 0
      else if (x1 &&& 63) = 25 then
        (ldx L xs (v3 + 1)).bind fun x295 =>
        (if x295 = 0 then
            some 0
          else
            some 1).bind fun (z297 : Int32) =>
        (ldx L xs (v3 + 2)).bind fun x298 =>
        (f_11_post a1 z297 x298 μ).bind fun z301 =>
        (ldx L xs (v3 + 1)).bind fun x302 =>
        (if x302 = 0 then
            some 0
          else
            some 1).bind fun (z304 : Int32) =>
        (ldx L xs (v3 + 2)).bind fun x305 =>
        (f_12_post a2 z304 x305 z301.2).bind fun z308 =>
        if z301.1 = z308.1 then
          f_L_law_l18 L xs a0 a1 a2 n (v3 + 6) z308.2
        else
          some 0
      else if (x1 &&& 63) = 26 then
        (ldx L xs (v3 + 1)).bind fun x309 =>
        (f_11_watch a1 x309 μ).bind fun z312 =>
        (ldx L xs (v3 + 1)).bind fun x313 =>
        (f_12_watch a2 x313 z312.2).bind fun z316 =>
        if z312.1 = z316.1 then
          f_L_law_l18 L xs a0 a1 a2 n (v3 + 6) z316.2
        else
          some 0
      else if (x1 &&& 63) = 27 then
        (ldx L xs (v3 + 1)).bind fun x317 =>
        (ldx L xs (v3 + 2)).bind fun x319 =>
        (f_11_row a1 x317 x319 μ).bind fun x322 =>
        (ldx L xs (v3 + 1)).bind fun x323 =>
        (ldx L xs (v3 + 2)).bind fun x325 =>
        (f_12_row a2 x323 x325 μ).bind fun x328 =>
        if x322 = x328 then
          f_L_law_l18 L xs a0 a1 a2 n (v3 + 6) μ
        else
          some 0
      else if (x1 &&& 63) = 28 then
        (ldx L xs (v3 + 1)).bind fun x329 =>
        (ldx L xs (v3 + 2)).bind fun x331 =>
        (ldx L xs (v3 + 3)).bind fun x333 =>
        (f_11_alterRow a1 x329 x331 x333 μ).bind fun z336 =>
        (ldx L xs (v3 + 1)).bind fun x337 =>
        (ldx L xs (v3 + 2)).bind fun x339 =>
        (ldx L xs (v3 + 3)).bind fun x341 =>
        (f_12_alterRow a2 x337 x339 x341 z336.2).bind fun z344 =>
        if z336.1 = z344.1 then
          f_L_law_l18 L xs a0 a1 a2 n (v3 + 6) z344.2
        else
          some 0
      else if (x1 &&& 63) = 29 then
        (f_11_dropRow a1 μ).bind fun z346 =>
        (f_12_dropRow a2 z346.2).bind fun z348 =>
        if z346.1 = z348.1 then
          f_L_law_l18 L xs a0 a1 a2 n (v3 + 6) z348.2
        else
          some 0
      else if (x1 &&& 63) = 30 then
        (f_11_judge a1 μ).bind fun x350 =>
        (f_12_judge a2 μ).bind fun x352 =>
        if x350 = x352 then
          f_L_law_l18 L xs a0 a1 a2 n (v3 + 6) μ
        else
          some 0
      else if (x1 &&& 63) = 31 then
        (ldx L xs (v3 + 1)).bind fun x353 =>
        (f_11_clause a1 x353 μ).bind fun z356 =>
        (ldx L xs (v3 + 1)).bind fun x357 =>
        (f_12_clause a2 x357 z356.2).bind fun z360 =>
        if z356.1 = z360.1 then
          f_L_law_l18 L xs a0 a1 a2 n (v3 + 6) z360.2
        else
          some 0
      else if (x1 &&& 63) = 32 then
        (ldx L xs (v3 + 1)).bind fun x361 =>
        (ldx L xs (v3 + 2)).bind fun x363 =>
        (ldx L xs (v3 + 3)).bind fun x365 =>
        (f_11_worth a1 x361 x363 x365 μ).bind fun z368 =>
        (ldx L xs (v3 + 1)).bind fun x369 =>
        (ldx L xs (v3 + 2)).bind fun x371 =>
        (ldx L xs (v3 + 3)).bind fun x373 =>
        (f_12_worth a2 x369 x371 x373 z368.2).bind fun z376 =>
        if z368.1 = z376.1 then
          f_L_law_l18 L xs a0 a1 a2 n (v3 + 6) z376.2
        else
          some 0
      else if (x1 &&& 63) = 33 then
        (ldx L xs (v3 + 1)).bind fun x377 =>
        (ldx L xs (v3 + 2)).bind fun x379 =>
        (f_11_ballot a1 x377 x379 μ).bind fun z382 =>
        (ldx L xs (v3 + 1)).bind fun x383 =>
        (ldx L xs (v3 + 2)).bind fun x385 =>
        (f_12_ballot a2 x383 x385 z382.2).bind fun z388 =>
        if z382.1 = z388.1 then
          f_L_law_l18 L xs a0 a1 a2 n (v3 + 6) z388.2
        else
          some 0
      else if (x1 &&& 63) = 34 then
        (f_11_offer a1 μ).bind fun z390 =>
        (f_12_offer a2 z390.2).bind fun z392 =>
        if z390.1 = z392.1 then
          f_L_law_l18 L xs a0 a1 a2 n (v3 + 6) z392.2
        else
          some 0
      else if (x1 &&& 63) = 35 then
        (ldx L xs (v3 + 1)).bind fun x393 =>
        (ldx L xs (v3 + 2)).bind fun x395 =>
        (ldx L xs (v3 + 3)).bind fun x397 =>
        (f_11_sheet a1 x393 x395 x397 μ).bind fun z400 =>
        (ldx L xs (v3 + 1)).bind fun x401 =>
        (ldx L xs (v3 + 2)).bind fun x403 =>
        (ldx L xs (v3 + 3)).bind fun x405 =>
        (f_12_sheet a2 x401 x403 x405 z400.2).bind fun z408 =>
        if z400.1 = z408.1 then
          f_L_law_l18 L xs a0 a1 a2 n (v3 + 6) z408.2
        else
          some 0
      else if (x1 &&& 63) = 36 then
        (ldx L xs (v3 + 1)).bind fun x409 =>
        (ldx L xs (v3 + 2)).bind fun x411 =>
        (ldx L xs (v3 + 3)).bind fun x413 =>
        (f_11_put a1 x409 x411 x413 μ).bind fun z416 =>
        (ldx L xs (v3 + 1)).bind fun x417 =>
        (ldx L xs (v3 + 2)).bind fun x419 =>
        (ldx L xs (v3 + 3)).bind fun x421 =>
        (f_12_put a2 x417 x419 x421 z416.2).bind fun z424 =>
        if z416.1 = z424.1 then
          f_L_law_l18 L xs a0 a1 a2 n (v3 + 6) z424.2
        else
          some 0
      else if (x1 &&& 63) = 37 then
        (ldx L xs (v3 + 1)).bind fun x425 =>
        (ldx L xs (v3 + 2)).bind fun x427 =>
        (ldx L xs (v3 + 3)).bind fun x429 =>
        (f_11_item a1 x425 x427 x429 μ).bind fun x432 =>
        (ldx L xs (v3 + 1)).bind fun x433 =>
        (ldx L xs (v3 + 2)).bind fun x435 =>
        (ldx L xs (v3 + 3)).bind fun x437 =>
        (f_12_item a2 x433 x435 x437 μ).bind fun x440 =>
        if x432 = x440 then
          f_L_law_l18 L xs a0 a1 a2 n (v3 + 6) μ
        else
          some 0
      else if (x1 &&& 63) = 38 then
        (ldx L xs (v3 + 1)).bind fun x441 =>
        (ldx L xs (v3 + 2)).bind fun x443 =>
        (f_11_comes a1 x441 x443 μ).bind fun z446 =>
        (ldx L xs (v3 + 1)).bind fun x447 =>
        (ldx L xs (v3 + 2)).bind fun x449 =>
        (f_12_comes a2 x447 x449 z446.2).bind fun z452 =>
        if z446.1 = z452.1 then
          f_L_law_l18 L xs a0 a1 a2 n (v3 + 6) z452.2
        else
          some 0
      else if (x1 &&& 63) = 39 then
        (ldx L xs (v3 + 1)).bind fun x453 =>
        (ldx L xs (v3 + 2)).bind fun x455 =>
        (ldx L xs (v3 + 3)).bind fun x457 =>
        (f_11_shelf a1 x453 x455 x457 μ).bind fun z460 =>
        (ldx L xs (v3 + 1)).bind fun x461 =>
        (ldx L xs (v3 + 2)).bind fun x463 =>
        (ldx L xs (v3 + 3)).bind fun x465 =>
        (f_12_shelf a2 x461 x463 x465 z460.2).bind fun z468 =>
        if z460.1 = z468.1 then
          f_L_law_l18 L xs a0 a1 a2 n (v3 + 6) z468.2
        else
          some 0
      else if (x1 &&& 63) = 40 then
        (ldx L xs (v3 + 1)).bind fun x469 =>
        (ldx L xs (v3 + 2)).bind fun x471 =>
        (f_11_taken a1 x469 x471 μ).bind fun x474 =>
        (ldx L xs (v3 + 1)).bind fun x475 =>
        (ldx L xs (v3 + 2)).bind fun x477 =>
        (f_12_taken a2 x475 x477 μ).bind fun x480 =>
        if x474 = x480 then
          f_L_law_l18 L xs a0 a1 a2 n (v3 + 6) μ
        else
          some 0
      else if (x1 &&& 63) = 41 then
        (ldx L xs (v3 + 1)).bind fun x481 =>
        (ldx L xs (v3 + 2)).bind fun x483 =>
        (ldx L xs (v3 + 3)).bind fun x485 =>
        (f_11_deal a1 x481 x483 x485 μ).bind fun z488 =>
        (ldx L xs (v3 + 1)).bind fun x489 =>
        (ldx L xs (v3 + 2)).bind fun x491 =>
        (ldx L xs (v3 + 3)).bind fun x493 =>
        (f_12_deal a2 x489 x491 x493 z488.2).bind fun z496 =>
        if z488.1 = z496.1 then
          f_L_law_l18 L xs a0 a1 a2 n (v3 + 6) z496.2
        else
          some 0
      else if (x1 &&& 63) = 42 then
        (ldx L xs (v3 + 1)).bind fun x497 =>
        (f_11_trace a1 x497 μ).bind fun x500 =>
        (ldx L xs (v3 + 1)).bind fun x501 =>
        (f_12_trace a2 x501 μ).bind fun x504 =>
        if x500 = x504 then
          f_L_law_l18 L xs a0 a1 a2 n (v3 + 6) μ
        else
          some 0
      else if (x1 &&& 63) = 43 then
        (ldx L xs (v3 + 1)).bind fun x505 =>
        (f_11_many a1 x505 μ).bind fun x508 =>
        (ldx L xs (v3 + 1)).bind fun x509 =>
        (f_12_many a2 x509 μ).bind fun x512 =>
        if x508 = x512 then
          f_L_law_l18 L xs a0 a1 a2 n (v3 + 6) μ
        else
          some 0
      else if (x1 &&& 63) = 44 then
        (f_11_keep a1 μ).bind fun z514 =>
        (f_12_keep a2 z514.2).bind fun z516 =>
        if z514.1 = z516.1 then
          f_L_law_l18 L xs a0 a1 a2 n (v3 + 6) z516.2
        else
          some 0
      else if (x1 &&& 63) = 45 then
        (f_11_again a1 μ).bind fun z518 =>
        (f_12_again a2 z518.2).bind fun z520 =>
        if z518.1 = z520.1 then
          f_L_law_l18 L xs a0 a1 a2 n (v3 + 6) z520.2
        else
          some 0
      else 
        f_L_law_l18 L xs a0 a1 a2 n (v3 + 6) μ
set_option maxRecDepth 100000 in
theorem ok_L_law_l18 {l : Launch} {E : ce} {d : Nat} {Q : Option Value → mm → Prop} (L : Nat) (xs : Nat → Int32) (hE : E.2.2.2 = (L, xs)) (a0 : Nat) (a1 : Nat) (a2 : Nat) (k0 : kd a0 = 60) (k1 : kd a1 = 11) (k2 : kd a2 = 12) : ∀ (n : Nat) (v3 : Int32) (μ : mm) (r : Int32), f_L_law_l18 L xs a0 a1 a2 n v3 μ = some r → (∀ w : mm, Q (some (.int r)) w) → Rj l E (d + 32) m_L_law 18 [some (.ref a0), some (.ref a1), some (.ref a2), some (.int v3)] [] μ Q
  | 0, _, _, z, h, _ => by
    rw [f_L_law_l18] at h
    cases h
  | n + 1, v3, μ, r, h, hQ => by
    rw [f_L_law_l18] at h
    refine R_iload_n (dd dt_L_law_0 10 rfl) 3 rfl rfl ?_
    refine R_aload_n (dd dt_L_law_0 11 rfl) 0 rfl rfl ?_
    refine R_scl hE k0 (dd dt_L_law_0 12 rfl) ?_
    refine R_bipush (v := 6) (dd dt_L_law_0 13 rfl) bp_6 ?_
    refine R_isub (dd dt_L_law_0 14 rfl) ?_
    refine R_cmpgt (dd dt_L_law_0 15 rfl) (tgt := 1724) rfl (fun hc => ?_) (fun hc => ?_)
    · rw [if_pos hc] at h
      refine R_iconst (v := 1) (dd dt_L_law_24 4 rfl) ic_1 ?_
      obtain rfl := Option.some.inj h
      exact R_zret rfl (by decide) (dd dt_L_law_24 5 rfl) (hQ _)
    · rw [if_neg hc] at h
      refine R_aload_n (dd dt_L_law_0 16 rfl) 0 rfl rfl ?_
      refine R_iload_n (dd dt_L_law_0 17 rfl) 3 rfl rfl ?_
      obtain ⟨x1, e2, h⟩ := bi_el h
      refine R_scr hE e2 k0 (dd dt_L_law_0 18 rfl) ?_
      refine R_bipush (v := 63) (dd dt_L_law_0 19 rfl) bp_63 ?_
      refine R_iand (dd dt_L_law_0 20 rfl) ?_
      by_cases hs0 : (x1 &&& 63) = 0
      · refine R_tabIn (off := 199) (tgt := 232) (dd dt_L_law_0 21 rfl) (by rw [hs0]; decide) (by rw [hs0]; decide) (by rw [hs0]; rfl) rfl ?_
        rw [if_pos hs0] at h
        refine R_aload_n (dd dt_L_law_0 22 rfl) 1 rfl rfl ?_
        refine R_aload_n (dd dt_L_law_0 23 rfl) 0 rfl rfl ?_
        refine R_iload_n (dd dt_L_law_0 24 rfl) 3 rfl rfl ?_
        refine R_iconst (v := 1) (dd dt_L_law_0 25 rfl) ic_1 ?_
        refine R_iadd (dd dt_L_law_0 26 rfl) ?_
        obtain ⟨x3, e4, h⟩ := bi_el h
        refine R_scr hE e4 k0 (dd dt_L_law_0 27 rfl) ?_
        obtain ⟨z6, e5, h⟩ := bi_el h
        refine c_L_13 (As := [.int x3]) (st1 := [.int z6.1]) rfl (fun Q1 hq => ok_11_days e5 k1 hq) k1 rfl rfl (Nat.le_of_ble_eq_true rfl) (dd dt_L_law_0 28 rfl) rfl ?_
        refine R_aload_n (dd dt_L_law_0 29 rfl) 2 rfl rfl ?_
        refine R_aload_n (dd dt_L_law_0 30 rfl) 0 rfl rfl ?_
        refine R_iload_n (dd dt_L_law_0 31 rfl) 3 rfl rfl ?_
        refine R_iconst (v := 1) (dd dt_L_law_0 32 rfl) ic_1 ?_
        refine R_iadd (dd dt_L_law_0 33 rfl) ?_
        obtain ⟨x7, e8, h⟩ := bi_el h
        refine R_scr hE e8 k0 (dd dt_L_law_0 34 rfl) ?_
        obtain ⟨z10, e9, h⟩ := bi_el h
        refine c_L_17 (As := [.int x7]) (st1 := [.int z10.1, .int z6.1]) rfl (fun Q1 hq => ok_12_days e9 k2 hq) k2 rfl rfl (Nat.le_of_ble_eq_true rfl) (dd dt_L_law_0 35 rfl) rfl ?_
        refine R_cmpeq (dd dt_L_law_0 36 rfl) (tgt := 1718) rfl (fun hc => ?_) (fun hc => ?_)
        · rw [if_pos hc] at h
          refine R_iinc (v := 6) (lv' := [some (.ref a0), some (.ref a1), some (.ref a2), some (.int (v3 + 6))]) (dd dt_L_law_24 2 rfl) (by decide) rfl rfl ic_6 rfl ?_
          refine R_goto (dd dt_L_law_24 3 rfl) (tgt := 18) rfl ?_
          exact R_mask [true, true, true, true] rfl (ok_L_law_l18 L xs hE a0 a1 a2 k0 k1 k2 n (v3 + 6) z10.2 _ h hQ)
        · rw [if_neg hc] at h
          refine R_iconst (v := 0) (dd dt_L_law_0 37 rfl) ic_0 ?_
          obtain rfl := Option.some.inj h
          exact R_zret rfl (by decide) (dd dt_L_law_0 38 rfl) (hQ _)
      rw [if_neg hs0] at h
      by_cases hs1 : (x1 &&& 63) = 1
      · refine R_tabIn (off := 222) (tgt := 255) (dd dt_L_law_0 21 rfl) (by rw [hs1]; decide) (by rw [hs1]; decide) (by rw [hs1]; rfl) rfl ?_
        rw [if_pos hs1] at h
        refine R_aload_n (dd dt_L_law_0 39 rfl) 1 rfl rfl ?_
        obtain ⟨z12, e11, h⟩ := bi_el h
        refine c_L_18 (As := []) (st1 := [.int z12.1]) rfl (fun Q1 hq => ok_11_village e11 k1 hq) k1 rfl rfl (Nat.le_of_ble_eq_true rfl) (dd dt_L_law_0 40 rfl) rfl ?_
        refine R_aload_n (dd dt_L_law_0 41 rfl) 2 rfl rfl ?_
        obtain ⟨z14, e13, h⟩ := bi_el h
        refine c_L_22 (As := []) (st1 := [.int z14.1, .int z12.1]) rfl (fun Q1 hq => ok_12_village e13 k2 hq) k2 rfl rfl (Nat.le_of_ble_eq_true rfl) (dd dt_L_law_0 42 rfl) rfl ?_
        refine R_cmpeq (dd dt_L_law_0 43 rfl) (tgt := 1718) rfl (fun hc => ?_) (fun hc => ?_)
        · rw [if_pos hc] at h
          refine R_iinc (v := 6) (lv' := [some (.ref a0), some (.ref a1), some (.ref a2), some (.int (v3 + 6))]) (dd dt_L_law_24 2 rfl) (by decide) rfl rfl ic_6 rfl ?_
          refine R_goto (dd dt_L_law_24 3 rfl) (tgt := 18) rfl ?_
          exact R_mask [true, true, true, true] rfl (ok_L_law_l18 L xs hE a0 a1 a2 k0 k1 k2 n (v3 + 6) z14.2 _ h hQ)
        · rw [if_neg hc] at h
          refine R_iconst (v := 0) (dd dt_L_law_0 44 rfl) ic_0 ?_
          obtain rfl := Option.some.inj h
          exact R_zret rfl (by decide) (dd dt_L_law_0 45 rfl) (hQ _)
      rw [if_neg hs1] at h
      by_cases hs2 : (x1 &&& 63) = 2
      · refine R_tabIn (off := 235) (tgt := 268) (dd dt_L_law_0 21 rfl) (by rw [hs2]; decide) (by rw [hs2]; decide) (by rw [hs2]; rfl) rfl ?_
        rw [if_pos hs2] at h
        refine R_aload_n (dd dt_L_law_0 46 rfl) 1 rfl rfl ?_
        refine R_aload_n (dd dt_L_law_0 47 rfl) 0 rfl rfl ?_
        refine R_iload_n (dd dt_L_law_0 48 rfl) 3 rfl rfl ?_
        refine R_iconst (v := 1) (dd dt_L_law_0 49 rfl) ic_1 ?_
        refine R_iadd (dd dt_L_law_1 0 rfl) ?_
        obtain ⟨x15, e16, h⟩ := bi_el h
        refine R_scr hE e16 k0 (dd dt_L_law_1 1 rfl) ?_
        refine R_aload_n (dd dt_L_law_1 2 rfl) 0 rfl rfl ?_
        refine R_iload_n (dd dt_L_law_1 3 rfl) 3 rfl rfl ?_
        refine R_iconst (v := 2) (dd dt_L_law_1 4 rfl) ic_2 ?_
        refine R_iadd (dd dt_L_law_1 5 rfl) ?_
        obtain ⟨x17, e18, h⟩ := bi_el h
        refine R_scr hE e18 k0 (dd dt_L_law_1 6 rfl) ?_
        refine R_aload_n (dd dt_L_law_1 7 rfl) 0 rfl rfl ?_
        refine R_iload_n (dd dt_L_law_1 8 rfl) 3 rfl rfl ?_
        refine R_iconst (v := 3) (dd dt_L_law_1 9 rfl) ic_3 ?_
        refine R_iadd (dd dt_L_law_1 10 rfl) ?_
        obtain ⟨x19, e20, h⟩ := bi_el h
        refine R_scr hE e20 k0 (dd dt_L_law_1 11 rfl) ?_
        obtain ⟨z22, e21, h⟩ := bi_el h
        refine c_L_23 (As := [.int x15, .int x17, .int x19]) (st1 := [.int z22.1]) rfl (fun Q1 hq => ok_11_road e21 k1 hq) k1 rfl rfl (Nat.le_of_ble_eq_true rfl) (dd dt_L_law_1 12 rfl) rfl ?_
        refine R_aload_n (dd dt_L_law_1 13 rfl) 2 rfl rfl ?_
        refine R_aload_n (dd dt_L_law_1 14 rfl) 0 rfl rfl ?_
        refine R_iload_n (dd dt_L_law_1 15 rfl) 3 rfl rfl ?_
        refine R_iconst (v := 1) (dd dt_L_law_1 16 rfl) ic_1 ?_
        refine R_iadd (dd dt_L_law_1 17 rfl) ?_
        obtain ⟨x23, e24, h⟩ := bi_el h
        refine R_scr hE e24 k0 (dd dt_L_law_1 18 rfl) ?_
        refine R_aload_n (dd dt_L_law_1 19 rfl) 0 rfl rfl ?_
        refine R_iload_n (dd dt_L_law_1 20 rfl) 3 rfl rfl ?_
        refine R_iconst (v := 2) (dd dt_L_law_1 21 rfl) ic_2 ?_
        refine R_iadd (dd dt_L_law_1 22 rfl) ?_
        obtain ⟨x25, e26, h⟩ := bi_el h
        refine R_scr hE e26 k0 (dd dt_L_law_1 23 rfl) ?_
        refine R_aload_n (dd dt_L_law_1 24 rfl) 0 rfl rfl ?_
        refine R_iload_n (dd dt_L_law_1 25 rfl) 3 rfl rfl ?_
        refine R_iconst (v := 3) (dd dt_L_law_1 26 rfl) ic_3 ?_
        refine R_iadd (dd dt_L_law_1 27 rfl) ?_
        obtain ⟨x27, e28, h⟩ := bi_el h
        refine R_scr hE e28 k0 (dd dt_L_law_1 28 rfl) ?_
        obtain ⟨z30, e29, h⟩ := bi_el h
        refine c_L_27 (As := [.int x23, .int x25, .int x27]) (st1 := [.int z30.1, .int z22.1]) rfl (fun Q1 hq => ok_12_road e29 k2 hq) k2 rfl rfl (Nat.le_of_ble_eq_true rfl) (dd dt_L_law_1 29 rfl) rfl ?_
        refine R_cmpeq (dd dt_L_law_1 30 rfl) (tgt := 1718) rfl (fun hc => ?_) (fun hc => ?_)
        · rw [if_pos hc] at h
          refine R_iinc (v := 6) (lv' := [some (.ref a0), some (.ref a1), some (.ref a2), some (.int (v3 + 6))]) (dd dt_L_law_24 2 rfl) (by decide) rfl rfl ic_6 rfl ?_
          refine R_goto (dd dt_L_law_24 3 rfl) (tgt := 18) rfl ?_
          exact R_mask [true, true, true, true] rfl (ok_L_law_l18 L xs hE a0 a1 a2 k0 k1 k2 n (v3 + 6) z30.2 _ h hQ)
        · rw [if_neg hc] at h
          refine R_iconst (v := 0) (dd dt_L_law_1 31 rfl) ic_0 ?_
          obtain rfl := Option.some.inj h
          exact R_zret rfl (by decide) (dd dt_L_law_1 32 rfl) (hQ _)
      rw [if_neg hs2] at h
      by_cases hs3 : (x1 &&& 63) = 3
      · refine R_tabIn (off := 278) (tgt := 311) (dd dt_L_law_0 21 rfl) (by rw [hs3]; decide) (by rw [hs3]; decide) (by rw [hs3]; rfl) rfl ?_
        rw [if_pos hs3] at h
        refine R_aload_n (dd dt_L_law_1 33 rfl) 1 rfl rfl ?_
        refine R_aload_n (dd dt_L_law_1 34 rfl) 0 rfl rfl ?_
        refine R_iload_n (dd dt_L_law_1 35 rfl) 3 rfl rfl ?_
        refine R_iconst (v := 1) (dd dt_L_law_1 36 rfl) ic_1 ?_
        refine R_iadd (dd dt_L_law_1 37 rfl) ?_
        obtain ⟨x31, e32, h⟩ := bi_el h
        refine R_scr hE e32 k0 (dd dt_L_law_1 38 rfl) ?_
        refine R_aload_n (dd dt_L_law_1 39 rfl) 0 rfl rfl ?_
        refine R_iload_n (dd dt_L_law_1 40 rfl) 3 rfl rfl ?_
        refine R_iconst (v := 2) (dd dt_L_law_1 41 rfl) ic_2 ?_
        refine R_iadd (dd dt_L_law_1 42 rfl) ?_
        obtain ⟨x33, e34, h⟩ := bi_el h
        refine R_scr hE e34 k0 (dd dt_L_law_1 43 rfl) ?_
        refine R_aload_n (dd dt_L_law_1 44 rfl) 0 rfl rfl ?_
        refine R_iload_n (dd dt_L_law_1 45 rfl) 3 rfl rfl ?_
        refine R_iconst (v := 3) (dd dt_L_law_1 46 rfl) ic_3 ?_
        refine R_iadd (dd dt_L_law_1 47 rfl) ?_
        obtain ⟨x35, e36, h⟩ := bi_el h
        refine R_scr hE e36 k0 (dd dt_L_law_1 48 rfl) ?_
        refine R_aload_n (dd dt_L_law_1 49 rfl) 0 rfl rfl ?_
        refine R_iload_n (dd dt_L_law_2 0 rfl) 3 rfl rfl ?_
        refine R_iconst (v := 4) (dd dt_L_law_2 1 rfl) ic_4 ?_
        refine R_iadd (dd dt_L_law_2 2 rfl) ?_
        obtain ⟨x37, e38, h⟩ := bi_el h
        refine R_scr hE e38 k0 (dd dt_L_law_2 3 rfl) ?_
        obtain ⟨z40, e39, h⟩ := bi_el h
        refine c_L_28 (As := [.int x31, .int x33, .int x35, .int x37]) (st1 := [.int z40.1]) rfl (fun Q1 hq => ok_11_pit e39 k1 hq) k1 rfl rfl (Nat.le_of_ble_eq_true rfl) (dd dt_L_law_2 4 rfl) rfl ?_
        refine R_aload_n (dd dt_L_law_2 5 rfl) 2 rfl rfl ?_
        refine R_aload_n (dd dt_L_law_2 6 rfl) 0 rfl rfl ?_
        refine R_iload_n (dd dt_L_law_2 7 rfl) 3 rfl rfl ?_
        refine R_iconst (v := 1) (dd dt_L_law_2 8 rfl) ic_1 ?_
        refine R_iadd (dd dt_L_law_2 9 rfl) ?_
        obtain ⟨x41, e42, h⟩ := bi_el h
        refine R_scr hE e42 k0 (dd dt_L_law_2 10 rfl) ?_
        refine R_aload_n (dd dt_L_law_2 11 rfl) 0 rfl rfl ?_
        refine R_iload_n (dd dt_L_law_2 12 rfl) 3 rfl rfl ?_
        refine R_iconst (v := 2) (dd dt_L_law_2 13 rfl) ic_2 ?_
        refine R_iadd (dd dt_L_law_2 14 rfl) ?_
        obtain ⟨x43, e44, h⟩ := bi_el h
        refine R_scr hE e44 k0 (dd dt_L_law_2 15 rfl) ?_
        refine R_aload_n (dd dt_L_law_2 16 rfl) 0 rfl rfl ?_
        refine R_iload_n (dd dt_L_law_2 17 rfl) 3 rfl rfl ?_
        refine R_iconst (v := 3) (dd dt_L_law_2 18 rfl) ic_3 ?_
        refine R_iadd (dd dt_L_law_2 19 rfl) ?_
        obtain ⟨x45, e46, h⟩ := bi_el h
        refine R_scr hE e46 k0 (dd dt_L_law_2 20 rfl) ?_
        refine R_aload_n (dd dt_L_law_2 21 rfl) 0 rfl rfl ?_
        refine R_iload_n (dd dt_L_law_2 22 rfl) 3 rfl rfl ?_
        refine R_iconst (v := 4) (dd dt_L_law_2 23 rfl) ic_4 ?_
        refine R_iadd (dd dt_L_law_2 24 rfl) ?_
        obtain ⟨x47, e48, h⟩ := bi_el h
        refine R_scr hE e48 k0 (dd dt_L_law_2 25 rfl) ?_
        obtain ⟨z50, e49, h⟩ := bi_el h
        refine c_L_32 (As := [.int x41, .int x43, .int x45, .int x47]) (st1 := [.int z50.1, .int z40.1]) rfl (fun Q1 hq => ok_12_pit e49 k2 hq) k2 rfl rfl (Nat.le_of_ble_eq_true rfl) (dd dt_L_law_2 26 rfl) rfl ?_
        refine R_cmpeq (dd dt_L_law_2 27 rfl) (tgt := 1718) rfl (fun hc => ?_) (fun hc => ?_)
        · rw [if_pos hc] at h
          refine R_iinc (v := 6) (lv' := [some (.ref a0), some (.ref a1), some (.ref a2), some (.int (v3 + 6))]) (dd dt_L_law_24 2 rfl) (by decide) rfl rfl ic_6 rfl ?_
          refine R_goto (dd dt_L_law_24 3 rfl) (tgt := 18) rfl ?_
          exact R_mask [true, true, true, true] rfl (ok_L_law_l18 L xs hE a0 a1 a2 k0 k1 k2 n (v3 + 6) z50.2 _ h hQ)
        · rw [if_neg hc] at h
          refine R_iconst (v := 0) (dd dt_L_law_2 28 rfl) ic_0 ?_
          obtain rfl := Option.some.inj h
          exact R_zret rfl (by decide) (dd dt_L_law_2 29 rfl) (hQ _)
      rw [if_neg hs3] at h
      by_cases hs4 : (x1 &&& 63) = 4
      · refine R_tabIn (off := 331) (tgt := 364) (dd dt_L_law_0 21 rfl) (by rw [hs4]; decide) (by rw [hs4]; decide) (by rw [hs4]; rfl) rfl ?_
        rw [if_pos hs4] at h
        refine R_aload_n (dd dt_L_law_2 30 rfl) 1 rfl rfl ?_
        refine R_aload_n (dd dt_L_law_2 31 rfl) 0 rfl rfl ?_
        refine R_iload_n (dd dt_L_law_2 32 rfl) 3 rfl rfl ?_
        refine R_iconst (v := 1) (dd dt_L_law_2 33 rfl) ic_1 ?_
        refine R_iadd (dd dt_L_law_2 34 rfl) ?_
        obtain ⟨x51, e52, h⟩ := bi_el h
        refine R_scr hE e52 k0 (dd dt_L_law_2 35 rfl) ?_
        refine R_aload_n (dd dt_L_law_2 36 rfl) 0 rfl rfl ?_
        refine R_iload_n (dd dt_L_law_2 37 rfl) 3 rfl rfl ?_
        refine R_iconst (v := 2) (dd dt_L_law_2 38 rfl) ic_2 ?_
        refine R_iadd (dd dt_L_law_2 39 rfl) ?_
        obtain ⟨x53, e54, h⟩ := bi_el h
        refine R_scr hE e54 k0 (dd dt_L_law_2 40 rfl) ?_
        obtain ⟨z56, e55, h⟩ := bi_el h
        refine c_L_33 (As := [.int x51, .int x53]) (st1 := [.int z56.1]) rfl (fun Q1 hq => ok_11_shop e55 k1 hq) k1 rfl rfl (Nat.le_of_ble_eq_true rfl) (dd dt_L_law_2 41 rfl) rfl ?_
        refine R_aload_n (dd dt_L_law_2 42 rfl) 2 rfl rfl ?_
        refine R_aload_n (dd dt_L_law_2 43 rfl) 0 rfl rfl ?_
        refine R_iload_n (dd dt_L_law_2 44 rfl) 3 rfl rfl ?_
        refine R_iconst (v := 1) (dd dt_L_law_2 45 rfl) ic_1 ?_
        refine R_iadd (dd dt_L_law_2 46 rfl) ?_
        obtain ⟨x57, e58, h⟩ := bi_el h
        refine R_scr hE e58 k0 (dd dt_L_law_2 47 rfl) ?_
        refine R_aload_n (dd dt_L_law_2 48 rfl) 0 rfl rfl ?_
        refine R_iload_n (dd dt_L_law_2 49 rfl) 3 rfl rfl ?_
        refine R_iconst (v := 2) (dd dt_L_law_3 0 rfl) ic_2 ?_
        refine R_iadd (dd dt_L_law_3 1 rfl) ?_
        obtain ⟨x59, e60, h⟩ := bi_el h
        refine R_scr hE e60 k0 (dd dt_L_law_3 2 rfl) ?_
        obtain ⟨z62, e61, h⟩ := bi_el h
        refine c_L_37 (As := [.int x57, .int x59]) (st1 := [.int z62.1, .int z56.1]) rfl (fun Q1 hq => ok_12_shop e61 k2 hq) k2 rfl rfl (Nat.le_of_ble_eq_true rfl) (dd dt_L_law_3 3 rfl) rfl ?_
        refine R_cmpeq (dd dt_L_law_3 4 rfl) (tgt := 1718) rfl (fun hc => ?_) (fun hc => ?_)
        · rw [if_pos hc] at h
          refine R_iinc (v := 6) (lv' := [some (.ref a0), some (.ref a1), some (.ref a2), some (.int (v3 + 6))]) (dd dt_L_law_24 2 rfl) (by decide) rfl rfl ic_6 rfl ?_
          refine R_goto (dd dt_L_law_24 3 rfl) (tgt := 18) rfl ?_
          exact R_mask [true, true, true, true] rfl (ok_L_law_l18 L xs hE a0 a1 a2 k0 k1 k2 n (v3 + 6) z62.2 _ h hQ)
        · rw [if_neg hc] at h
          refine R_iconst (v := 0) (dd dt_L_law_3 5 rfl) ic_0 ?_
          obtain rfl := Option.some.inj h
          exact R_zret rfl (by decide) (dd dt_L_law_3 6 rfl) (hQ _)
      rw [if_neg hs4] at h
      by_cases hs5 : (x1 &&& 63) = 5
      · refine R_tabIn (off := 364) (tgt := 397) (dd dt_L_law_0 21 rfl) (by rw [hs5]; decide) (by rw [hs5]; decide) (by rw [hs5]; rfl) rfl ?_
        rw [if_pos hs5] at h
        refine R_aload_n (dd dt_L_law_3 7 rfl) 1 rfl rfl ?_
        refine R_aload_n (dd dt_L_law_3 8 rfl) 0 rfl rfl ?_
        refine R_iload_n (dd dt_L_law_3 9 rfl) 3 rfl rfl ?_
        refine R_iconst (v := 1) (dd dt_L_law_3 10 rfl) ic_1 ?_
        refine R_iadd (dd dt_L_law_3 11 rfl) ?_
        obtain ⟨x63, e64, h⟩ := bi_el h
        refine R_scr hE e64 k0 (dd dt_L_law_3 12 rfl) ?_
        refine R_aload_n (dd dt_L_law_3 13 rfl) 0 rfl rfl ?_
        refine R_iload_n (dd dt_L_law_3 14 rfl) 3 rfl rfl ?_
        refine R_iconst (v := 2) (dd dt_L_law_3 15 rfl) ic_2 ?_
        refine R_iadd (dd dt_L_law_3 16 rfl) ?_
        obtain ⟨x65, e66, h⟩ := bi_el h
        refine R_scr hE e66 k0 (dd dt_L_law_3 17 rfl) ?_
        refine R_aload_n (dd dt_L_law_3 18 rfl) 0 rfl rfl ?_
        refine R_iload_n (dd dt_L_law_3 19 rfl) 3 rfl rfl ?_
        refine R_iconst (v := 3) (dd dt_L_law_3 20 rfl) ic_3 ?_
        refine R_iadd (dd dt_L_law_3 21 rfl) ?_
        obtain ⟨x67, e68, h⟩ := bi_el h
        refine R_scr hE e68 k0 (dd dt_L_law_3 22 rfl) ?_
        refine R_aload_n (dd dt_L_law_3 23 rfl) 0 rfl rfl ?_
        refine R_iload_n (dd dt_L_law_3 24 rfl) 3 rfl rfl ?_
        refine R_iconst (v := 4) (dd dt_L_law_3 25 rfl) ic_4 ?_
        refine R_iadd (dd dt_L_law_3 26 rfl) ?_
        obtain ⟨x69, e70, h⟩ := bi_el h
        refine R_scr hE e70 k0 (dd dt_L_law_3 27 rfl) ?_
        refine R_aload_n (dd dt_L_law_3 28 rfl) 0 rfl rfl ?_
        refine R_iload_n (dd dt_L_law_3 29 rfl) 3 rfl rfl ?_
        refine R_iconst (v := 5) (dd dt_L_law_3 30 rfl) ic_5 ?_
        refine R_iadd (dd dt_L_law_3 31 rfl) ?_
        obtain ⟨x71, e72, h⟩ := bi_el h
        refine R_scr hE e72 k0 (dd dt_L_law_3 32 rfl) ?_
        obtain ⟨z74, e73, h⟩ := bi_el h
        refine c_L_38 (As := [.int x63, .int x65, .int x67, .int x69, .int x71]) (st1 := [.int z74.1]) rfl (fun Q1 hq => ok_11_household e73 k1 hq) k1 rfl rfl (Nat.le_of_ble_eq_true rfl) (dd dt_L_law_3 33 rfl) rfl ?_
        refine R_aload_n (dd dt_L_law_3 34 rfl) 2 rfl rfl ?_
        refine R_aload_n (dd dt_L_law_3 35 rfl) 0 rfl rfl ?_
        refine R_iload_n (dd dt_L_law_3 36 rfl) 3 rfl rfl ?_
        refine R_iconst (v := 1) (dd dt_L_law_3 37 rfl) ic_1 ?_
        refine R_iadd (dd dt_L_law_3 38 rfl) ?_
        obtain ⟨x75, e76, h⟩ := bi_el h
        refine R_scr hE e76 k0 (dd dt_L_law_3 39 rfl) ?_
        refine R_aload_n (dd dt_L_law_3 40 rfl) 0 rfl rfl ?_
        refine R_iload_n (dd dt_L_law_3 41 rfl) 3 rfl rfl ?_
        refine R_iconst (v := 2) (dd dt_L_law_3 42 rfl) ic_2 ?_
        refine R_iadd (dd dt_L_law_3 43 rfl) ?_
        obtain ⟨x77, e78, h⟩ := bi_el h
        refine R_scr hE e78 k0 (dd dt_L_law_3 44 rfl) ?_
        refine R_aload_n (dd dt_L_law_3 45 rfl) 0 rfl rfl ?_
        refine R_iload_n (dd dt_L_law_3 46 rfl) 3 rfl rfl ?_
        refine R_iconst (v := 3) (dd dt_L_law_3 47 rfl) ic_3 ?_
        refine R_iadd (dd dt_L_law_3 48 rfl) ?_
        obtain ⟨x79, e80, h⟩ := bi_el h
        refine R_scr hE e80 k0 (dd dt_L_law_3 49 rfl) ?_
        refine R_aload_n (dd dt_L_law_4 0 rfl) 0 rfl rfl ?_
        refine R_iload_n (dd dt_L_law_4 1 rfl) 3 rfl rfl ?_
        refine R_iconst (v := 4) (dd dt_L_law_4 2 rfl) ic_4 ?_
        refine R_iadd (dd dt_L_law_4 3 rfl) ?_
        obtain ⟨x81, e82, h⟩ := bi_el h
        refine R_scr hE e82 k0 (dd dt_L_law_4 4 rfl) ?_
        refine R_aload_n (dd dt_L_law_4 5 rfl) 0 rfl rfl ?_
        refine R_iload_n (dd dt_L_law_4 6 rfl) 3 rfl rfl ?_
        refine R_iconst (v := 5) (dd dt_L_law_4 7 rfl) ic_5 ?_
        refine R_iadd (dd dt_L_law_4 8 rfl) ?_
        obtain ⟨x83, e84, h⟩ := bi_el h
        refine R_scr hE e84 k0 (dd dt_L_law_4 9 rfl) ?_
        obtain ⟨z86, e85, h⟩ := bi_el h
        refine c_L_42 (As := [.int x75, .int x77, .int x79, .int x81, .int x83]) (st1 := [.int z86.1, .int z74.1]) rfl (fun Q1 hq => ok_12_household e85 k2 hq) k2 rfl rfl (Nat.le_of_ble_eq_true rfl) (dd dt_L_law_4 10 rfl) rfl ?_
        refine R_cmpeq (dd dt_L_law_4 11 rfl) (tgt := 1718) rfl (fun hc => ?_) (fun hc => ?_)
        · rw [if_pos hc] at h
          refine R_iinc (v := 6) (lv' := [some (.ref a0), some (.ref a1), some (.ref a2), some (.int (v3 + 6))]) (dd dt_L_law_24 2 rfl) (by decide) rfl rfl ic_6 rfl ?_
          refine R_goto (dd dt_L_law_24 3 rfl) (tgt := 18) rfl ?_
          exact R_mask [true, true, true, true] rfl (ok_L_law_l18 L xs hE a0 a1 a2 k0 k1 k2 n (v3 + 6) z86.2 _ h hQ)
        · rw [if_neg hc] at h
          refine R_iconst (v := 0) (dd dt_L_law_4 12 rfl) ic_0 ?_
          obtain rfl := Option.some.inj h
          exact R_zret rfl (by decide) (dd dt_L_law_4 13 rfl) (hQ _)
      rw [if_neg hs5] at h
      by_cases hs6 : (x1 &&& 63) = 6
      · refine R_tabIn (off := 427) (tgt := 460) (dd dt_L_law_0 21 rfl) (by rw [hs6]; decide) (by rw [hs6]; decide) (by rw [hs6]; rfl) rfl ?_
        rw [if_pos hs6] at h
        refine R_aload_n (dd dt_L_law_4 14 rfl) 1 rfl rfl ?_
        refine R_aload_n (dd dt_L_law_4 15 rfl) 0 rfl rfl ?_
        refine R_iload_n (dd dt_L_law_4 16 rfl) 3 rfl rfl ?_
        refine R_iconst (v := 1) (dd dt_L_law_4 17 rfl) ic_1 ?_
        refine R_iadd (dd dt_L_law_4 18 rfl) ?_
        obtain ⟨x87, e88, h⟩ := bi_el h
        refine R_scr hE e88 k0 (dd dt_L_law_4 19 rfl) ?_
        refine R_aload_n (dd dt_L_law_4 20 rfl) 0 rfl rfl ?_
        refine R_iload_n (dd dt_L_law_4 21 rfl) 3 rfl rfl ?_
        refine R_iconst (v := 2) (dd dt_L_law_4 22 rfl) ic_2 ?_
        refine R_iadd (dd dt_L_law_4 23 rfl) ?_
        obtain ⟨x89, e90, h⟩ := bi_el h
        refine R_scr hE e90 k0 (dd dt_L_law_4 24 rfl) ?_
        obtain ⟨x92, e91, h⟩ := bi_el h
        refine c_L_43 (As := [.int x87, .int x89]) (st1 := [.int x92]) rfl (fun Q1 hq => ok_11_of e91 k1 hq) k1 rfl rfl (Nat.le_of_ble_eq_true rfl) (dd dt_L_law_4 25 rfl) rfl ?_
        refine R_aload_n (dd dt_L_law_4 26 rfl) 2 rfl rfl ?_
        refine R_aload_n (dd dt_L_law_4 27 rfl) 0 rfl rfl ?_
        refine R_iload_n (dd dt_L_law_4 28 rfl) 3 rfl rfl ?_
        refine R_iconst (v := 1) (dd dt_L_law_4 29 rfl) ic_1 ?_
        refine R_iadd (dd dt_L_law_4 30 rfl) ?_
        obtain ⟨x93, e94, h⟩ := bi_el h
        refine R_scr hE e94 k0 (dd dt_L_law_4 31 rfl) ?_
        refine R_aload_n (dd dt_L_law_4 32 rfl) 0 rfl rfl ?_
        refine R_iload_n (dd dt_L_law_4 33 rfl) 3 rfl rfl ?_
        refine R_iconst (v := 2) (dd dt_L_law_4 34 rfl) ic_2 ?_
        refine R_iadd (dd dt_L_law_4 35 rfl) ?_
        obtain ⟨x95, e96, h⟩ := bi_el h
        refine R_scr hE e96 k0 (dd dt_L_law_4 36 rfl) ?_
        obtain ⟨z98, e97, h⟩ := bi_el h
        refine c_L_46 (As := [.int x93, .int x95]) (st1 := [.int z98.1, .int x92]) rfl (fun Q1 hq => ok_12_of e97 k2 hq) k2 rfl rfl (Nat.le_of_ble_eq_true rfl) (dd dt_L_law_4 37 rfl) rfl ?_
        refine R_cmpeq (dd dt_L_law_4 38 rfl) (tgt := 1718) rfl (fun hc => ?_) (fun hc => ?_)
        · rw [if_pos hc] at h
          refine R_iinc (v := 6) (lv' := [some (.ref a0), some (.ref a1), some (.ref a2), some (.int (v3 + 6))]) (dd dt_L_law_24 2 rfl) (by decide) rfl rfl ic_6 rfl ?_
          refine R_goto (dd dt_L_law_24 3 rfl) (tgt := 18) rfl ?_
          exact R_mask [true, true, true, true] rfl (ok_L_law_l18 L xs hE a0 a1 a2 k0 k1 k2 n (v3 + 6) z98.2 _ h hQ)
        · rw [if_neg hc] at h
          refine R_iconst (v := 0) (dd dt_L_law_4 39 rfl) ic_0 ?_
          obtain rfl := Option.some.inj h
          exact R_zret rfl (by decide) (dd dt_L_law_4 40 rfl) (hQ _)
      rw [if_neg hs6] at h
      by_cases hs7 : (x1 &&& 63) = 7
      · refine R_tabIn (off := 460) (tgt := 493) (dd dt_L_law_0 21 rfl) (by rw [hs7]; decide) (by rw [hs7]; decide) (by rw [hs7]; rfl) rfl ?_
        rw [if_pos hs7] at h
        refine R_aload_n (dd dt_L_law_4 41 rfl) 1 rfl rfl ?_
        refine R_aload_n (dd dt_L_law_4 42 rfl) 0 rfl rfl ?_
        refine R_iload_n (dd dt_L_law_4 43 rfl) 3 rfl rfl ?_
        refine R_iconst (v := 1) (dd dt_L_law_4 44 rfl) ic_1 ?_
        refine R_iadd (dd dt_L_law_4 45 rfl) ?_
        obtain ⟨x99, e100, h⟩ := bi_el h
        refine R_scr hE e100 k0 (dd dt_L_law_4 46 rfl) ?_
        refine R_aload_n (dd dt_L_law_4 47 rfl) 0 rfl rfl ?_
        refine R_iload_n (dd dt_L_law_4 48 rfl) 3 rfl rfl ?_
        refine R_iconst (v := 2) (dd dt_L_law_4 49 rfl) ic_2 ?_
        refine R_iadd (dd dt_L_law_5 0 rfl) ?_
        obtain ⟨x101, e102, h⟩ := bi_el h
        refine R_scr hE e102 k0 (dd dt_L_law_5 1 rfl) ?_
        obtain ⟨x104, e103, h⟩ := bi_el h
        refine c_L_47 (As := [.int x99, .int x101]) (st1 := [.int x104]) rfl (fun Q1 hq => ok_11_pitOf e103 k1 hq) k1 rfl rfl (Nat.le_of_ble_eq_true rfl) (dd dt_L_law_5 2 rfl) rfl ?_
        refine R_aload_n (dd dt_L_law_5 3 rfl) 2 rfl rfl ?_
        refine R_aload_n (dd dt_L_law_5 4 rfl) 0 rfl rfl ?_
        refine R_iload_n (dd dt_L_law_5 5 rfl) 3 rfl rfl ?_
        refine R_iconst (v := 1) (dd dt_L_law_5 6 rfl) ic_1 ?_
        refine R_iadd (dd dt_L_law_5 7 rfl) ?_
        obtain ⟨x105, e106, h⟩ := bi_el h
        refine R_scr hE e106 k0 (dd dt_L_law_5 8 rfl) ?_
        refine R_aload_n (dd dt_L_law_5 9 rfl) 0 rfl rfl ?_
        refine R_iload_n (dd dt_L_law_5 10 rfl) 3 rfl rfl ?_
        refine R_iconst (v := 2) (dd dt_L_law_5 11 rfl) ic_2 ?_
        refine R_iadd (dd dt_L_law_5 12 rfl) ?_
        obtain ⟨x107, e108, h⟩ := bi_el h
        refine R_scr hE e108 k0 (dd dt_L_law_5 13 rfl) ?_
        obtain ⟨x110, e109, h⟩ := bi_el h
        refine c_L_50 (As := [.int x105, .int x107]) (st1 := [.int x110, .int x104]) rfl (fun Q1 hq => ok_12_pitOf e109 k2 hq) k2 rfl rfl (Nat.le_of_ble_eq_true rfl) (dd dt_L_law_5 14 rfl) rfl ?_
        refine R_cmpeq (dd dt_L_law_5 15 rfl) (tgt := 1718) rfl (fun hc => ?_) (fun hc => ?_)
        · rw [if_pos hc] at h
          refine R_iinc (v := 6) (lv' := [some (.ref a0), some (.ref a1), some (.ref a2), some (.int (v3 + 6))]) (dd dt_L_law_24 2 rfl) (by decide) rfl rfl ic_6 rfl ?_
          refine R_goto (dd dt_L_law_24 3 rfl) (tgt := 18) rfl ?_
          exact R_mask [true, true, true, true] rfl (ok_L_law_l18 L xs hE a0 a1 a2 k0 k1 k2 n (v3 + 6) μ _ h hQ)
        · rw [if_neg hc] at h
          refine R_iconst (v := 0) (dd dt_L_law_5 16 rfl) ic_0 ?_
          obtain rfl := Option.some.inj h
          exact R_zret rfl (by decide) (dd dt_L_law_5 17 rfl) (hQ _)
      rw [if_neg hs7] at h
      by_cases hs8 : (x1 &&& 63) = 8
      · refine R_tabIn (off := 493) (tgt := 526) (dd dt_L_law_0 21 rfl) (by rw [hs8]; decide) (by rw [hs8]; decide) (by rw [hs8]; rfl) rfl ?_
        rw [if_pos hs8] at h
        refine R_aload_n (dd dt_L_law_5 18 rfl) 1 rfl rfl ?_
        refine R_aload_n (dd dt_L_law_5 19 rfl) 0 rfl rfl ?_
        refine R_iload_n (dd dt_L_law_5 20 rfl) 3 rfl rfl ?_
        refine R_iconst (v := 1) (dd dt_L_law_5 21 rfl) ic_1 ?_
        refine R_iadd (dd dt_L_law_5 22 rfl) ?_
        obtain ⟨x111, e112, h⟩ := bi_el h
        refine R_scr hE e112 k0 (dd dt_L_law_5 23 rfl) ?_
        refine R_aload_n (dd dt_L_law_5 24 rfl) 0 rfl rfl ?_
        refine R_iload_n (dd dt_L_law_5 25 rfl) 3 rfl rfl ?_
        refine R_iconst (v := 2) (dd dt_L_law_5 26 rfl) ic_2 ?_
        refine R_iadd (dd dt_L_law_5 27 rfl) ?_
        obtain ⟨x113, e114, h⟩ := bi_el h
        refine R_scr hE e114 k0 (dd dt_L_law_5 28 rfl) ?_
        obtain ⟨x116, e115, h⟩ := bi_el h
        refine c_L_51 (As := [.int x111, .int x113]) (st1 := [.int x116]) rfl (fun Q1 hq => ok_11_shopOf e115 k1 hq) k1 rfl rfl (Nat.le_of_ble_eq_true rfl) (dd dt_L_law_5 29 rfl) rfl ?_
        refine R_aload_n (dd dt_L_law_5 30 rfl) 2 rfl rfl ?_
        refine R_aload_n (dd dt_L_law_5 31 rfl) 0 rfl rfl ?_
        refine R_iload_n (dd dt_L_law_5 32 rfl) 3 rfl rfl ?_
        refine R_iconst (v := 1) (dd dt_L_law_5 33 rfl) ic_1 ?_
        refine R_iadd (dd dt_L_law_5 34 rfl) ?_
        obtain ⟨x117, e118, h⟩ := bi_el h
        refine R_scr hE e118 k0 (dd dt_L_law_5 35 rfl) ?_
        refine R_aload_n (dd dt_L_law_5 36 rfl) 0 rfl rfl ?_
        refine R_iload_n (dd dt_L_law_5 37 rfl) 3 rfl rfl ?_
        refine R_iconst (v := 2) (dd dt_L_law_5 38 rfl) ic_2 ?_
        refine R_iadd (dd dt_L_law_5 39 rfl) ?_
        obtain ⟨x119, e120, h⟩ := bi_el h
        refine R_scr hE e120 k0 (dd dt_L_law_5 40 rfl) ?_
        obtain ⟨x122, e121, h⟩ := bi_el h
        refine c_L_54 (As := [.int x117, .int x119]) (st1 := [.int x122, .int x116]) rfl (fun Q1 hq => ok_12_shopOf e121 k2 hq) k2 rfl rfl (Nat.le_of_ble_eq_true rfl) (dd dt_L_law_5 41 rfl) rfl ?_
        refine R_cmpeq (dd dt_L_law_5 42 rfl) (tgt := 1718) rfl (fun hc => ?_) (fun hc => ?_)
        · rw [if_pos hc] at h
          refine R_iinc (v := 6) (lv' := [some (.ref a0), some (.ref a1), some (.ref a2), some (.int (v3 + 6))]) (dd dt_L_law_24 2 rfl) (by decide) rfl rfl ic_6 rfl ?_
          refine R_goto (dd dt_L_law_24 3 rfl) (tgt := 18) rfl ?_
          exact R_mask [true, true, true, true] rfl (ok_L_law_l18 L xs hE a0 a1 a2 k0 k1 k2 n (v3 + 6) μ _ h hQ)
        · rw [if_neg hc] at h
          refine R_iconst (v := 0) (dd dt_L_law_5 43 rfl) ic_0 ?_
          obtain rfl := Option.some.inj h
          exact R_zret rfl (by decide) (dd dt_L_law_5 44 rfl) (hQ _)
      rw [if_neg hs8] at h
      by_cases hs9 : (x1 &&& 63) = 9
      · refine R_tabIn (off := 526) (tgt := 559) (dd dt_L_law_0 21 rfl) (by rw [hs9]; decide) (by rw [hs9]; decide) (by rw [hs9]; rfl) rfl ?_
        rw [if_pos hs9] at h
        refine R_aload_n (dd dt_L_law_5 45 rfl) 1 rfl rfl ?_
        refine R_aload_n (dd dt_L_law_5 46 rfl) 0 rfl rfl ?_
        refine R_iload_n (dd dt_L_law_5 47 rfl) 3 rfl rfl ?_
        refine R_iconst (v := 1) (dd dt_L_law_5 48 rfl) ic_1 ?_
        refine R_iadd (dd dt_L_law_5 49 rfl) ?_
        obtain ⟨x123, e124, h⟩ := bi_el h
        refine R_scr hE e124 k0 (dd dt_L_law_6 0 rfl) ?_
        refine R_aload_n (dd dt_L_law_6 1 rfl) 0 rfl rfl ?_
        refine R_iload_n (dd dt_L_law_6 2 rfl) 3 rfl rfl ?_
        refine R_iconst (v := 2) (dd dt_L_law_6 3 rfl) ic_2 ?_
        refine R_iadd (dd dt_L_law_6 4 rfl) ?_
        obtain ⟨x125, e126, h⟩ := bi_el h
        refine R_scr hE e126 k0 (dd dt_L_law_6 5 rfl) ?_
        obtain ⟨z128, e127, h⟩ := bi_el h
        refine c_L_55 (As := [.int x123, .int x125]) (st1 := [.int z128.1]) rfl (fun Q1 hq => ok_11_set e127 k1 hq) k1 rfl rfl (Nat.le_of_ble_eq_true rfl) (dd dt_L_law_6 6 rfl) rfl ?_
        refine R_aload_n (dd dt_L_law_6 7 rfl) 2 rfl rfl ?_
        refine R_aload_n (dd dt_L_law_6 8 rfl) 0 rfl rfl ?_
        refine R_iload_n (dd dt_L_law_6 9 rfl) 3 rfl rfl ?_
        refine R_iconst (v := 1) (dd dt_L_law_6 10 rfl) ic_1 ?_
        refine R_iadd (dd dt_L_law_6 11 rfl) ?_
        obtain ⟨x129, e130, h⟩ := bi_el h
        refine R_scr hE e130 k0 (dd dt_L_law_6 12 rfl) ?_
        refine R_aload_n (dd dt_L_law_6 13 rfl) 0 rfl rfl ?_
        refine R_iload_n (dd dt_L_law_6 14 rfl) 3 rfl rfl ?_
        refine R_iconst (v := 2) (dd dt_L_law_6 15 rfl) ic_2 ?_
        refine R_iadd (dd dt_L_law_6 16 rfl) ?_
        obtain ⟨x131, e132, h⟩ := bi_el h
        refine R_scr hE e132 k0 (dd dt_L_law_6 17 rfl) ?_
        obtain ⟨z134, e133, h⟩ := bi_el h
        refine c_L_58 (As := [.int x129, .int x131]) (st1 := [.int z134.1, .int z128.1]) rfl (fun Q1 hq => ok_12_set e133 k2 hq) k2 rfl rfl (Nat.le_of_ble_eq_true rfl) (dd dt_L_law_6 18 rfl) rfl ?_
        refine R_cmpeq (dd dt_L_law_6 19 rfl) (tgt := 1718) rfl (fun hc => ?_) (fun hc => ?_)
        · rw [if_pos hc] at h
          refine R_iinc (v := 6) (lv' := [some (.ref a0), some (.ref a1), some (.ref a2), some (.int (v3 + 6))]) (dd dt_L_law_24 2 rfl) (by decide) rfl rfl ic_6 rfl ?_
          refine R_goto (dd dt_L_law_24 3 rfl) (tgt := 18) rfl ?_
          exact R_mask [true, true, true, true] rfl (ok_L_law_l18 L xs hE a0 a1 a2 k0 k1 k2 n (v3 + 6) z134.2 _ h hQ)
        · rw [if_neg hc] at h
          refine R_iconst (v := 0) (dd dt_L_law_6 20 rfl) ic_0 ?_
          obtain rfl := Option.some.inj h
          exact R_zret rfl (by decide) (dd dt_L_law_6 21 rfl) (hQ _)
      rw [if_neg hs9] at h
      by_cases hs10 : (x1 &&& 63) = 10
      · refine R_tabIn (off := 559) (tgt := 592) (dd dt_L_law_0 21 rfl) (by rw [hs10]; decide) (by rw [hs10]; decide) (by rw [hs10]; rfl) rfl ?_
        rw [if_pos hs10] at h
        refine R_aload_n (dd dt_L_law_6 22 rfl) 1 rfl rfl ?_
        refine R_aload_n (dd dt_L_law_6 23 rfl) 0 rfl rfl ?_
        refine R_iload_n (dd dt_L_law_6 24 rfl) 3 rfl rfl ?_
        refine R_iconst (v := 1) (dd dt_L_law_6 25 rfl) ic_1 ?_
        refine R_iadd (dd dt_L_law_6 26 rfl) ?_
        obtain ⟨x135, e136, h⟩ := bi_el h
        refine R_scr hE e136 k0 (dd dt_L_law_6 27 rfl) ?_
        obtain ⟨z137, hz137, h⟩ := bi_el h
        have K137 : Rj l E (d + 32) m_L_law 606 [some (.ref a0), some (.ref a1), some (.ref a2), some (.int v3)] [.int z137, .ref a1] μ Q := by
          clear hz137
          refine R_aload_n (dd dt_L_law_6 32 rfl) 0 rfl rfl ?_
          refine R_iload_n (dd dt_L_law_6 33 rfl) 3 rfl rfl ?_
          refine R_iconst (v := 2) (dd dt_L_law_6 34 rfl) ic_2 ?_
          refine R_iadd (dd dt_L_law_6 35 rfl) ?_
          obtain ⟨x138, e139, h⟩ := bi_el h
          refine R_scr hE e139 k0 (dd dt_L_law_6 36 rfl) ?_
          obtain ⟨z141, e140, h⟩ := bi_el h
          refine c_L_59 (As := [.int z137, .int x138]) (st1 := [.int z141.1]) rfl (fun Q1 hq => ok_11_gift e140 k1 hq) k1 rfl rfl (Nat.le_of_ble_eq_true rfl) (dd dt_L_law_6 37 rfl) rfl ?_
          refine R_aload_n (dd dt_L_law_6 38 rfl) 2 rfl rfl ?_
          refine R_aload_n (dd dt_L_law_6 39 rfl) 0 rfl rfl ?_
          refine R_iload_n (dd dt_L_law_6 40 rfl) 3 rfl rfl ?_
          refine R_iconst (v := 1) (dd dt_L_law_6 41 rfl) ic_1 ?_
          refine R_iadd (dd dt_L_law_6 42 rfl) ?_
          obtain ⟨x142, e143, h⟩ := bi_el h
          refine R_scr hE e143 k0 (dd dt_L_law_6 43 rfl) ?_
          obtain ⟨z144, hz144, h⟩ := bi_el h
          have K144 : Rj l E (d + 32) m_L_law 628 [some (.ref a0), some (.ref a1), some (.ref a2), some (.int v3)] [.int z144, .ref a2, .int z141.1] z141.2 Q := by
            clear hz144
            refine R_aload_n (dd dt_L_law_6 48 rfl) 0 rfl rfl ?_
            refine R_iload_n (dd dt_L_law_6 49 rfl) 3 rfl rfl ?_
            refine R_iconst (v := 2) (dd dt_L_law_7 0 rfl) ic_2 ?_
            refine R_iadd (dd dt_L_law_7 1 rfl) ?_
            obtain ⟨x145, e146, h⟩ := bi_el h
            refine R_scr hE e146 k0 (dd dt_L_law_7 2 rfl) ?_
            obtain ⟨z148, e147, h⟩ := bi_el h
            refine c_L_63 (As := [.int z144, .int x145]) (st1 := [.int z148.1, .int z141.1]) rfl (fun Q1 hq => ok_12_gift e147 k2 hq) k2 rfl rfl (Nat.le_of_ble_eq_true rfl) (dd dt_L_law_7 3 rfl) rfl ?_
            refine R_cmpeq (dd dt_L_law_7 4 rfl) (tgt := 1718) rfl (fun hc => ?_) (fun hc => ?_)
            · rw [if_pos hc] at h
              refine R_iinc (v := 6) (lv' := [some (.ref a0), some (.ref a1), some (.ref a2), some (.int (v3 + 6))]) (dd dt_L_law_24 2 rfl) (by decide) rfl rfl ic_6 rfl ?_
              refine R_goto (dd dt_L_law_24 3 rfl) (tgt := 18) rfl ?_
              exact R_mask [true, true, true, true] rfl (ok_L_law_l18 L xs hE a0 a1 a2 k0 k1 k2 n (v3 + 6) z148.2 _ h hQ)
            · rw [if_neg hc] at h
              refine R_iconst (v := 0) (dd dt_L_law_7 5 rfl) ic_0 ?_
              obtain rfl := Option.some.inj h
              exact R_zret rfl (by decide) (dd dt_L_law_7 6 rfl) (hQ _)
          clear h
          have h := hz144
          clear hz144
          refine R_ifeq (dd dt_L_law_6 44 rfl) (tgt := 627) rfl (fun hc => ?_) (fun hc => ?_)
          · rw [if_pos hc] at h
            refine R_iconst (v := 0) (dd dt_L_law_6 47 rfl) ic_0 ?_
            obtain rfl := Option.some.inj h
            exact R_mask [true, true, true, true] rfl K144
          · rw [if_neg hc] at h
            refine R_iconst (v := 1) (dd dt_L_law_6 45 rfl) ic_1 ?_
            refine R_goto (dd dt_L_law_6 46 rfl) (tgt := 628) rfl ?_
            obtain rfl := Option.some.inj h
            exact R_mask [true, true, true, true] rfl K144
        clear h
        have h := hz137
        clear hz137
        refine R_ifeq (dd dt_L_law_6 28 rfl) (tgt := 605) rfl (fun hc => ?_) (fun hc => ?_)
        · rw [if_pos hc] at h
          refine R_iconst (v := 0) (dd dt_L_law_6 31 rfl) ic_0 ?_
          obtain rfl := Option.some.inj h
          exact R_mask [true, true, true, true] rfl K137
        · rw [if_neg hc] at h
          refine R_iconst (v := 1) (dd dt_L_law_6 29 rfl) ic_1 ?_
          refine R_goto (dd dt_L_law_6 30 rfl) (tgt := 606) rfl ?_
          obtain rfl := Option.some.inj h
          exact R_mask [true, true, true, true] rfl K137
      rw [if_neg hs10] at h
      by_cases hs11 : (x1 &&& 63) = 11
      · refine R_tabIn (off := 608) (tgt := 641) (dd dt_L_law_0 21 rfl) (by rw [hs11]; decide) (by rw [hs11]; decide) (by rw [hs11]; rfl) rfl ?_
        rw [if_pos hs11] at h
        refine R_aload_n (dd dt_L_law_7 7 rfl) 1 rfl rfl ?_
        refine R_aload_n (dd dt_L_law_7 8 rfl) 0 rfl rfl ?_
        refine R_iload_n (dd dt_L_law_7 9 rfl) 3 rfl rfl ?_
        refine R_iconst (v := 1) (dd dt_L_law_7 10 rfl) ic_1 ?_
        refine R_iadd (dd dt_L_law_7 11 rfl) ?_
        obtain ⟨x149, e150, h⟩ := bi_el h
        refine R_scr hE e150 k0 (dd dt_L_law_7 12 rfl) ?_
        refine R_aload_n (dd dt_L_law_7 13 rfl) 0 rfl rfl ?_
        refine R_iload_n (dd dt_L_law_7 14 rfl) 3 rfl rfl ?_
        refine R_iconst (v := 2) (dd dt_L_law_7 15 rfl) ic_2 ?_
        refine R_iadd (dd dt_L_law_7 16 rfl) ?_
        obtain ⟨x151, e152, h⟩ := bi_el h
        refine R_scr hE e152 k0 (dd dt_L_law_7 17 rfl) ?_
        obtain ⟨z154, e153, h⟩ := bi_el h
        refine c_L_64 (As := [.int x149, .int x151]) (st1 := [.int z154.1]) rfl (fun Q1 hq => ok_11_ship e153 k1 hq) k1 rfl rfl (Nat.le_of_ble_eq_true rfl) (dd dt_L_law_7 18 rfl) rfl ?_
        refine R_aload_n (dd dt_L_law_7 19 rfl) 2 rfl rfl ?_
        refine R_aload_n (dd dt_L_law_7 20 rfl) 0 rfl rfl ?_
        refine R_iload_n (dd dt_L_law_7 21 rfl) 3 rfl rfl ?_
        refine R_iconst (v := 1) (dd dt_L_law_7 22 rfl) ic_1 ?_
        refine R_iadd (dd dt_L_law_7 23 rfl) ?_
        obtain ⟨x155, e156, h⟩ := bi_el h
        refine R_scr hE e156 k0 (dd dt_L_law_7 24 rfl) ?_
        refine R_aload_n (dd dt_L_law_7 25 rfl) 0 rfl rfl ?_
        refine R_iload_n (dd dt_L_law_7 26 rfl) 3 rfl rfl ?_
        refine R_iconst (v := 2) (dd dt_L_law_7 27 rfl) ic_2 ?_
        refine R_iadd (dd dt_L_law_7 28 rfl) ?_
        obtain ⟨x157, e158, h⟩ := bi_el h
        refine R_scr hE e158 k0 (dd dt_L_law_7 29 rfl) ?_
        obtain ⟨z160, e159, h⟩ := bi_el h
        refine c_L_67 (As := [.int x155, .int x157]) (st1 := [.int z160.1, .int z154.1]) rfl (fun Q1 hq => ok_12_ship e159 k2 hq) k2 rfl rfl (Nat.le_of_ble_eq_true rfl) (dd dt_L_law_7 30 rfl) rfl ?_
        refine R_cmpeq (dd dt_L_law_7 31 rfl) (tgt := 1718) rfl (fun hc => ?_) (fun hc => ?_)
        · rw [if_pos hc] at h
          refine R_iinc (v := 6) (lv' := [some (.ref a0), some (.ref a1), some (.ref a2), some (.int (v3 + 6))]) (dd dt_L_law_24 2 rfl) (by decide) rfl rfl ic_6 rfl ?_
          refine R_goto (dd dt_L_law_24 3 rfl) (tgt := 18) rfl ?_
          exact R_mask [true, true, true, true] rfl (ok_L_law_l18 L xs hE a0 a1 a2 k0 k1 k2 n (v3 + 6) z160.2 _ h hQ)
        · rw [if_neg hc] at h
          refine R_iconst (v := 0) (dd dt_L_law_7 32 rfl) ic_0 ?_
          obtain rfl := Option.some.inj h
          exact R_zret rfl (by decide) (dd dt_L_law_7 33 rfl) (hQ _)
      rw [if_neg hs11] at h
      by_cases hs12 : (x1 &&& 63) = 12
      · refine R_tabIn (off := 641) (tgt := 674) (dd dt_L_law_0 21 rfl) (by rw [hs12]; decide) (by rw [hs12]; decide) (by rw [hs12]; rfl) rfl ?_
        rw [if_pos hs12] at h
        refine R_aload_n (dd dt_L_law_7 34 rfl) 1 rfl rfl ?_
        refine R_aload_n (dd dt_L_law_7 35 rfl) 0 rfl rfl ?_
        refine R_iload_n (dd dt_L_law_7 36 rfl) 3 rfl rfl ?_
        refine R_iconst (v := 1) (dd dt_L_law_7 37 rfl) ic_1 ?_
        refine R_iadd (dd dt_L_law_7 38 rfl) ?_
        obtain ⟨x161, e162, h⟩ := bi_el h
        refine R_scr hE e162 k0 (dd dt_L_law_7 39 rfl) ?_
        refine R_i2l (dd dt_L_law_7 40 rfl) ?_
        refine R_bipush (v := 32) (dd dt_L_law_7 41 rfl) bp_32 ?_
        refine R_lshl (dd dt_L_law_7 42 rfl) ?_
        refine R_aload_n (dd dt_L_law_7 43 rfl) 0 rfl rfl ?_
        refine R_iload_n (dd dt_L_law_7 44 rfl) 3 rfl rfl ?_
        refine R_iconst (v := 2) (dd dt_L_law_7 45 rfl) ic_2 ?_
        refine R_iadd (dd dt_L_law_7 46 rfl) ?_
        obtain ⟨x163, e164, h⟩ := bi_el h
        refine R_scr hE e164 k0 (dd dt_L_law_7 47 rfl) ?_
        refine R_i2l (dd dt_L_law_7 48 rfl) ?_
        refine R_ldc2 (dd dt_L_law_7 49 rfl) ct_L_68 ?_
        refine R_land (dd dt_L_law_8 0 rfl) ?_
        refine R_lor (dd dt_L_law_8 1 rfl) ?_
        refine R_aload_n (dd dt_L_law_8 2 rfl) 0 rfl rfl ?_
        refine R_iload_n (dd dt_L_law_8 3 rfl) 3 rfl rfl ?_
        refine R_iconst (v := 3) (dd dt_L_law_8 4 rfl) ic_3 ?_
        refine R_iadd (dd dt_L_law_8 5 rfl) ?_
        obtain ⟨x165, e166, h⟩ := bi_el h
        refine R_scr hE e166 k0 (dd dt_L_law_8 6 rfl) ?_
        obtain ⟨z168, e167, h⟩ := bi_el h
        refine c_L_70 (As := [.long ((x161.toInt64 <<< ((32 : Int32).toInt64 &&& 63)) ||| (x163.toInt64 &&& 4294967295)), .int x165]) (st1 := [.int z168.1]) rfl (fun Q1 hq => ok_11_feed e167 k1 hq) k1 rfl rfl (Nat.le_of_ble_eq_true rfl) (dd dt_L_law_8 7 rfl) rfl ?_
        refine R_aload_n (dd dt_L_law_8 8 rfl) 2 rfl rfl ?_
        refine R_aload_n (dd dt_L_law_8 9 rfl) 0 rfl rfl ?_
        refine R_iload_n (dd dt_L_law_8 10 rfl) 3 rfl rfl ?_
        refine R_iconst (v := 1) (dd dt_L_law_8 11 rfl) ic_1 ?_
        refine R_iadd (dd dt_L_law_8 12 rfl) ?_
        obtain ⟨x169, e170, h⟩ := bi_el h
        refine R_scr hE e170 k0 (dd dt_L_law_8 13 rfl) ?_
        refine R_i2l (dd dt_L_law_8 14 rfl) ?_
        refine R_bipush (v := 32) (dd dt_L_law_8 15 rfl) bp_32 ?_
        refine R_lshl (dd dt_L_law_8 16 rfl) ?_
        refine R_aload_n (dd dt_L_law_8 17 rfl) 0 rfl rfl ?_
        refine R_iload_n (dd dt_L_law_8 18 rfl) 3 rfl rfl ?_
        refine R_iconst (v := 2) (dd dt_L_law_8 19 rfl) ic_2 ?_
        refine R_iadd (dd dt_L_law_8 20 rfl) ?_
        obtain ⟨x171, e172, h⟩ := bi_el h
        refine R_scr hE e172 k0 (dd dt_L_law_8 21 rfl) ?_
        refine R_i2l (dd dt_L_law_8 22 rfl) ?_
        refine R_ldc2 (dd dt_L_law_8 23 rfl) ct_L_68 ?_
        refine R_land (dd dt_L_law_8 24 rfl) ?_
        refine R_lor (dd dt_L_law_8 25 rfl) ?_
        refine R_aload_n (dd dt_L_law_8 26 rfl) 0 rfl rfl ?_
        refine R_iload_n (dd dt_L_law_8 27 rfl) 3 rfl rfl ?_
        refine R_iconst (v := 3) (dd dt_L_law_8 28 rfl) ic_3 ?_
        refine R_iadd (dd dt_L_law_8 29 rfl) ?_
        obtain ⟨x173, e174, h⟩ := bi_el h
        refine R_scr hE e174 k0 (dd dt_L_law_8 30 rfl) ?_
        obtain ⟨z176, e175, h⟩ := bi_el h
        refine c_L_74 (As := [.long ((x169.toInt64 <<< ((32 : Int32).toInt64 &&& 63)) ||| (x171.toInt64 &&& 4294967295)), .int x173]) (st1 := [.int z176.1, .int z168.1]) rfl (fun Q1 hq => ok_12_feed e175 k2 hq) k2 rfl rfl (Nat.le_of_ble_eq_true rfl) (dd dt_L_law_8 31 rfl) rfl ?_
        refine R_cmpeq (dd dt_L_law_8 32 rfl) (tgt := 1718) rfl (fun hc => ?_) (fun hc => ?_)
        · rw [if_pos hc] at h
          refine R_iinc (v := 6) (lv' := [some (.ref a0), some (.ref a1), some (.ref a2), some (.int (v3 + 6))]) (dd dt_L_law_24 2 rfl) (by decide) rfl rfl ic_6 rfl ?_
          refine R_goto (dd dt_L_law_24 3 rfl) (tgt := 18) rfl ?_
          exact R_mask [true, true, true, true] rfl (ok_L_law_l18 L xs hE a0 a1 a2 k0 k1 k2 n (v3 + 6) z176.2 _ h hQ)
        · rw [if_neg hc] at h
          refine R_iconst (v := 0) (dd dt_L_law_8 33 rfl) ic_0 ?_
          obtain rfl := Option.some.inj h
          exact R_zret rfl (by decide) (dd dt_L_law_8 34 rfl) (hQ _)
      rw [if_neg hs12] at h
      by_cases hs13 : (x1 &&& 63) = 13
      · refine R_tabIn (off := 704) (tgt := 737) (dd dt_L_law_0 21 rfl) (by rw [hs13]; decide) (by rw [hs13]; decide) (by rw [hs13]; rfl) rfl ?_
        rw [if_pos hs13] at h
        refine R_aload_n (dd dt_L_law_8 35 rfl) 1 rfl rfl ?_
        refine R_aload_n (dd dt_L_law_8 36 rfl) 0 rfl rfl ?_
        refine R_iload_n (dd dt_L_law_8 37 rfl) 3 rfl rfl ?_
        refine R_iconst (v := 1) (dd dt_L_law_8 38 rfl) ic_1 ?_
        refine R_iadd (dd dt_L_law_8 39 rfl) ?_
        obtain ⟨x177, e178, h⟩ := bi_el h
        refine R_scr hE e178 k0 (dd dt_L_law_8 40 rfl) ?_
        obtain ⟨z180, e179, h⟩ := bi_el h
        refine c_L_75 (As := [.int x177]) (st1 := [.int z180.1]) rfl (fun Q1 hq => ok_11_read e179 k1 hq) k1 rfl rfl (Nat.le_of_ble_eq_true rfl) (dd dt_L_law_8 41 rfl) rfl ?_
        refine R_aload_n (dd dt_L_law_8 42 rfl) 2 rfl rfl ?_
        refine R_aload_n (dd dt_L_law_8 43 rfl) 0 rfl rfl ?_
        refine R_iload_n (dd dt_L_law_8 44 rfl) 3 rfl rfl ?_
        refine R_iconst (v := 1) (dd dt_L_law_8 45 rfl) ic_1 ?_
        refine R_iadd (dd dt_L_law_8 46 rfl) ?_
        obtain ⟨x181, e182, h⟩ := bi_el h
        refine R_scr hE e182 k0 (dd dt_L_law_8 47 rfl) ?_
        obtain ⟨z184, e183, h⟩ := bi_el h
        refine c_L_78 (As := [.int x181]) (st1 := [.int z184.1, .int z180.1]) rfl (fun Q1 hq => ok_12_read e183 k2 hq) k2 rfl rfl (Nat.le_of_ble_eq_true rfl) (dd dt_L_law_8 48 rfl) rfl ?_
        refine R_cmpeq (dd dt_L_law_8 49 rfl) (tgt := 1718) rfl (fun hc => ?_) (fun hc => ?_)
        · rw [if_pos hc] at h
          refine R_iinc (v := 6) (lv' := [some (.ref a0), some (.ref a1), some (.ref a2), some (.int (v3 + 6))]) (dd dt_L_law_24 2 rfl) (by decide) rfl rfl ic_6 rfl ?_
          refine R_goto (dd dt_L_law_24 3 rfl) (tgt := 18) rfl ?_
          exact R_mask [true, true, true, true] rfl (ok_L_law_l18 L xs hE a0 a1 a2 k0 k1 k2 n (v3 + 6) z184.2 _ h hQ)
        · rw [if_neg hc] at h
          refine R_iconst (v := 0) (dd dt_L_law_9 0 rfl) ic_0 ?_
          obtain rfl := Option.some.inj h
          exact R_zret rfl (by decide) (dd dt_L_law_9 1 rfl) (hQ _)
      rw [if_neg hs13] at h
      by_cases hs14 : (x1 &&& 63) = 14
      · refine R_tabIn (off := 727) (tgt := 760) (dd dt_L_law_0 21 rfl) (by rw [hs14]; decide) (by rw [hs14]; decide) (by rw [hs14]; rfl) rfl ?_
        rw [if_pos hs14] at h
        refine R_aload_n (dd dt_L_law_9 2 rfl) 1 rfl rfl ?_
        refine R_aload_n (dd dt_L_law_9 3 rfl) 0 rfl rfl ?_
        refine R_iload_n (dd dt_L_law_9 4 rfl) 3 rfl rfl ?_
        refine R_iconst (v := 1) (dd dt_L_law_9 5 rfl) ic_1 ?_
        refine R_iadd (dd dt_L_law_9 6 rfl) ?_
        obtain ⟨x185, e186, h⟩ := bi_el h
        refine R_scr hE e186 k0 (dd dt_L_law_9 7 rfl) ?_
        refine R_aload_n (dd dt_L_law_9 8 rfl) 0 rfl rfl ?_
        refine R_iload_n (dd dt_L_law_9 9 rfl) 3 rfl rfl ?_
        refine R_iconst (v := 2) (dd dt_L_law_9 10 rfl) ic_2 ?_
        refine R_iadd (dd dt_L_law_9 11 rfl) ?_
        obtain ⟨x187, e188, h⟩ := bi_el h
        refine R_scr hE e188 k0 (dd dt_L_law_9 12 rfl) ?_
        refine R_aload_n (dd dt_L_law_9 13 rfl) 0 rfl rfl ?_
        refine R_iload_n (dd dt_L_law_9 14 rfl) 3 rfl rfl ?_
        refine R_iconst (v := 3) (dd dt_L_law_9 15 rfl) ic_3 ?_
        refine R_iadd (dd dt_L_law_9 16 rfl) ?_
        obtain ⟨x189, e190, h⟩ := bi_el h
        refine R_scr hE e190 k0 (dd dt_L_law_9 17 rfl) ?_
        obtain ⟨x192, e191, h⟩ := bi_el h
        refine c_L_79 (As := [.int x185, .int x187, .int x189]) (st1 := [.int x192]) rfl (fun Q1 hq => ok_11_line e191 k1 hq) k1 rfl rfl (Nat.le_of_ble_eq_true rfl) (dd dt_L_law_9 18 rfl) rfl ?_
        refine R_aload_n (dd dt_L_law_9 19 rfl) 2 rfl rfl ?_
        refine R_aload_n (dd dt_L_law_9 20 rfl) 0 rfl rfl ?_
        refine R_iload_n (dd dt_L_law_9 21 rfl) 3 rfl rfl ?_
        refine R_iconst (v := 1) (dd dt_L_law_9 22 rfl) ic_1 ?_
        refine R_iadd (dd dt_L_law_9 23 rfl) ?_
        obtain ⟨x193, e194, h⟩ := bi_el h
        refine R_scr hE e194 k0 (dd dt_L_law_9 24 rfl) ?_
        refine R_aload_n (dd dt_L_law_9 25 rfl) 0 rfl rfl ?_
        refine R_iload_n (dd dt_L_law_9 26 rfl) 3 rfl rfl ?_
        refine R_iconst (v := 2) (dd dt_L_law_9 27 rfl) ic_2 ?_
        refine R_iadd (dd dt_L_law_9 28 rfl) ?_
        obtain ⟨x195, e196, h⟩ := bi_el h
        refine R_scr hE e196 k0 (dd dt_L_law_9 29 rfl) ?_
        refine R_aload_n (dd dt_L_law_9 30 rfl) 0 rfl rfl ?_
        refine R_iload_n (dd dt_L_law_9 31 rfl) 3 rfl rfl ?_
        refine R_iconst (v := 3) (dd dt_L_law_9 32 rfl) ic_3 ?_
        refine R_iadd (dd dt_L_law_9 33 rfl) ?_
        obtain ⟨x197, e198, h⟩ := bi_el h
        refine R_scr hE e198 k0 (dd dt_L_law_9 34 rfl) ?_
        obtain ⟨x200, e199, h⟩ := bi_el h
        refine c_L_82 (As := [.int x193, .int x195, .int x197]) (st1 := [.int x200, .int x192]) rfl (fun Q1 hq => ok_12_line e199 k2 hq) k2 rfl rfl (Nat.le_of_ble_eq_true rfl) (dd dt_L_law_9 35 rfl) rfl ?_
        refine R_cmpeq (dd dt_L_law_9 36 rfl) (tgt := 1718) rfl (fun hc => ?_) (fun hc => ?_)
        · rw [if_pos hc] at h
          refine R_iinc (v := 6) (lv' := [some (.ref a0), some (.ref a1), some (.ref a2), some (.int (v3 + 6))]) (dd dt_L_law_24 2 rfl) (by decide) rfl rfl ic_6 rfl ?_
          refine R_goto (dd dt_L_law_24 3 rfl) (tgt := 18) rfl ?_
          exact R_mask [true, true, true, true] rfl (ok_L_law_l18 L xs hE a0 a1 a2 k0 k1 k2 n (v3 + 6) μ _ h hQ)
        · rw [if_neg hc] at h
          refine R_iconst (v := 0) (dd dt_L_law_9 37 rfl) ic_0 ?_
          obtain rfl := Option.some.inj h
          exact R_zret rfl (by decide) (dd dt_L_law_9 38 rfl) (hQ _)
      rw [if_neg hs14] at h
      by_cases hs15 : (x1 &&& 63) = 15
      · refine R_tabIn (off := 770) (tgt := 803) (dd dt_L_law_0 21 rfl) (by rw [hs15]; decide) (by rw [hs15]; decide) (by rw [hs15]; rfl) rfl ?_
        rw [if_pos hs15] at h
        refine R_aload_n (dd dt_L_law_9 39 rfl) 1 rfl rfl ?_
        refine R_aload_n (dd dt_L_law_9 40 rfl) 0 rfl rfl ?_
        refine R_iload_n (dd dt_L_law_9 41 rfl) 3 rfl rfl ?_
        refine R_iconst (v := 1) (dd dt_L_law_9 42 rfl) ic_1 ?_
        refine R_iadd (dd dt_L_law_9 43 rfl) ?_
        obtain ⟨x201, e202, h⟩ := bi_el h
        refine R_scr hE e202 k0 (dd dt_L_law_9 44 rfl) ?_
        obtain ⟨x204, e203, h⟩ := bi_el h
        refine c_L_83 (As := [.int x201]) (st1 := [.int x204]) rfl (fun Q1 hq => ok_11_rule e203 k1 hq) k1 rfl rfl (Nat.le_of_ble_eq_true rfl) (dd dt_L_law_9 45 rfl) rfl ?_
        refine R_aload_n (dd dt_L_law_9 46 rfl) 2 rfl rfl ?_
        refine R_aload_n (dd dt_L_law_9 47 rfl) 0 rfl rfl ?_
        refine R_iload_n (dd dt_L_law_9 48 rfl) 3 rfl rfl ?_
        refine R_iconst (v := 1) (dd dt_L_law_9 49 rfl) ic_1 ?_
        refine R_iadd (dd dt_L_law_10 0 rfl) ?_
        obtain ⟨x205, e206, h⟩ := bi_el h
        refine R_scr hE e206 k0 (dd dt_L_law_10 1 rfl) ?_
        obtain ⟨x208, e207, h⟩ := bi_el h
        refine c_L_86 (As := [.int x205]) (st1 := [.int x208, .int x204]) rfl (fun Q1 hq => ok_12_rule e207 k2 hq) k2 rfl rfl (Nat.le_of_ble_eq_true rfl) (dd dt_L_law_10 2 rfl) rfl ?_
        refine R_cmpeq (dd dt_L_law_10 3 rfl) (tgt := 1718) rfl (fun hc => ?_) (fun hc => ?_)
        · rw [if_pos hc] at h
          refine R_iinc (v := 6) (lv' := [some (.ref a0), some (.ref a1), some (.ref a2), some (.int (v3 + 6))]) (dd dt_L_law_24 2 rfl) (by decide) rfl rfl ic_6 rfl ?_
          refine R_goto (dd dt_L_law_24 3 rfl) (tgt := 18) rfl ?_
          exact R_mask [true, true, true, true] rfl (ok_L_law_l18 L xs hE a0 a1 a2 k0 k1 k2 n (v3 + 6) μ _ h hQ)
        · rw [if_neg hc] at h
          refine R_iconst (v := 0) (dd dt_L_law_10 4 rfl) ic_0 ?_
          obtain rfl := Option.some.inj h
          exact R_zret rfl (by decide) (dd dt_L_law_10 5 rfl) (hQ _)
      rw [if_neg hs15] at h
      by_cases hs16 : (x1 &&& 63) = 16
      · refine R_tabIn (off := 793) (tgt := 826) (dd dt_L_law_0 21 rfl) (by rw [hs16]; decide) (by rw [hs16]; decide) (by rw [hs16]; rfl) rfl ?_
        rw [if_pos hs16] at h
        refine R_aload_n (dd dt_L_law_10 6 rfl) 1 rfl rfl ?_
        refine R_aload_n (dd dt_L_law_10 7 rfl) 0 rfl rfl ?_
        refine R_iload_n (dd dt_L_law_10 8 rfl) 3 rfl rfl ?_
        refine R_iconst (v := 1) (dd dt_L_law_10 9 rfl) ic_1 ?_
        refine R_iadd (dd dt_L_law_10 10 rfl) ?_
        obtain ⟨x209, e210, h⟩ := bi_el h
        refine R_scr hE e210 k0 (dd dt_L_law_10 11 rfl) ?_
        refine R_aload_n (dd dt_L_law_10 12 rfl) 0 rfl rfl ?_
        refine R_iload_n (dd dt_L_law_10 13 rfl) 3 rfl rfl ?_
        refine R_iconst (v := 2) (dd dt_L_law_10 14 rfl) ic_2 ?_
        refine R_iadd (dd dt_L_law_10 15 rfl) ?_
        obtain ⟨x211, e212, h⟩ := bi_el h
        refine R_scr hE e212 k0 (dd dt_L_law_10 16 rfl) ?_
        obtain ⟨x214, e213, h⟩ := bi_el h
        refine c_L_87 (As := [.int x209, .int x211]) (st1 := [.int x214]) rfl (fun Q1 hq => ok_11_why e213 k1 hq) k1 rfl rfl (Nat.le_of_ble_eq_true rfl) (dd dt_L_law_10 17 rfl) rfl ?_
        refine R_aload_n (dd dt_L_law_10 18 rfl) 2 rfl rfl ?_
        refine R_aload_n (dd dt_L_law_10 19 rfl) 0 rfl rfl ?_
        refine R_iload_n (dd dt_L_law_10 20 rfl) 3 rfl rfl ?_
        refine R_iconst (v := 1) (dd dt_L_law_10 21 rfl) ic_1 ?_
        refine R_iadd (dd dt_L_law_10 22 rfl) ?_
        obtain ⟨x215, e216, h⟩ := bi_el h
        refine R_scr hE e216 k0 (dd dt_L_law_10 23 rfl) ?_
        refine R_aload_n (dd dt_L_law_10 24 rfl) 0 rfl rfl ?_
        refine R_iload_n (dd dt_L_law_10 25 rfl) 3 rfl rfl ?_
        refine R_iconst (v := 2) (dd dt_L_law_10 26 rfl) ic_2 ?_
        refine R_iadd (dd dt_L_law_10 27 rfl) ?_
        obtain ⟨x217, e218, h⟩ := bi_el h
        refine R_scr hE e218 k0 (dd dt_L_law_10 28 rfl) ?_
        obtain ⟨z220, e219, h⟩ := bi_el h
        refine c_L_90 (As := [.int x215, .int x217]) (st1 := [.int z220.1, .int x214]) rfl (fun Q1 hq => ok_12_why e219 k2 hq) k2 rfl rfl (Nat.le_of_ble_eq_true rfl) (dd dt_L_law_10 29 rfl) rfl ?_
        refine R_cmpeq (dd dt_L_law_10 30 rfl) (tgt := 1718) rfl (fun hc => ?_) (fun hc => ?_)
        · rw [if_pos hc] at h
          refine R_iinc (v := 6) (lv' := [some (.ref a0), some (.ref a1), some (.ref a2), some (.int (v3 + 6))]) (dd dt_L_law_24 2 rfl) (by decide) rfl rfl ic_6 rfl ?_
          refine R_goto (dd dt_L_law_24 3 rfl) (tgt := 18) rfl ?_
          exact R_mask [true, true, true, true] rfl (ok_L_law_l18 L xs hE a0 a1 a2 k0 k1 k2 n (v3 + 6) z220.2 _ h hQ)
        · rw [if_neg hc] at h
          refine R_iconst (v := 0) (dd dt_L_law_10 31 rfl) ic_0 ?_
          obtain rfl := Option.some.inj h
          exact R_zret rfl (by decide) (dd dt_L_law_10 32 rfl) (hQ _)
      rw [if_neg hs16] at h
      by_cases hs17 : (x1 &&& 63) = 17
      · refine R_tabIn (off := 826) (tgt := 859) (dd dt_L_law_0 21 rfl) (by rw [hs17]; decide) (by rw [hs17]; decide) (by rw [hs17]; rfl) rfl ?_
        rw [if_pos hs17] at h
        refine R_aload_n (dd dt_L_law_10 33 rfl) 1 rfl rfl ?_
        refine R_aload_n (dd dt_L_law_10 34 rfl) 0 rfl rfl ?_
        refine R_iload_n (dd dt_L_law_10 35 rfl) 3 rfl rfl ?_
        refine R_iconst (v := 1) (dd dt_L_law_10 36 rfl) ic_1 ?_
        refine R_iadd (dd dt_L_law_10 37 rfl) ?_
        obtain ⟨x221, e222, h⟩ := bi_el h
        refine R_scr hE e222 k0 (dd dt_L_law_10 38 rfl) ?_
        refine R_aload_n (dd dt_L_law_10 39 rfl) 0 rfl rfl ?_
        refine R_iload_n (dd dt_L_law_10 40 rfl) 3 rfl rfl ?_
        refine R_iconst (v := 2) (dd dt_L_law_10 41 rfl) ic_2 ?_
        refine R_iadd (dd dt_L_law_10 42 rfl) ?_
        obtain ⟨x223, e224, h⟩ := bi_el h
        refine R_scr hE e224 k0 (dd dt_L_law_10 43 rfl) ?_
        obtain ⟨z226, e225, h⟩ := bi_el h
        refine c_L_91 (As := [.int x221, .int x223]) (st1 := [.int z226.1]) rfl (fun Q1 hq => ok_11_news e225 k1 hq) k1 rfl rfl (Nat.le_of_ble_eq_true rfl) (dd dt_L_law_10 44 rfl) rfl ?_
        refine R_aload_n (dd dt_L_law_10 45 rfl) 2 rfl rfl ?_
        refine R_aload_n (dd dt_L_law_10 46 rfl) 0 rfl rfl ?_
        refine R_iload_n (dd dt_L_law_10 47 rfl) 3 rfl rfl ?_
        refine R_iconst (v := 1) (dd dt_L_law_10 48 rfl) ic_1 ?_
        refine R_iadd (dd dt_L_law_10 49 rfl) ?_
        obtain ⟨x227, e228, h⟩ := bi_el h
        refine R_scr hE e228 k0 (dd dt_L_law_11 0 rfl) ?_
        refine R_aload_n (dd dt_L_law_11 1 rfl) 0 rfl rfl ?_
        refine R_iload_n (dd dt_L_law_11 2 rfl) 3 rfl rfl ?_
        refine R_iconst (v := 2) (dd dt_L_law_11 3 rfl) ic_2 ?_
        refine R_iadd (dd dt_L_law_11 4 rfl) ?_
        obtain ⟨x229, e230, h⟩ := bi_el h
        refine R_scr hE e230 k0 (dd dt_L_law_11 5 rfl) ?_
        obtain ⟨z232, e231, h⟩ := bi_el h
        refine c_L_94 (As := [.int x227, .int x229]) (st1 := [.int z232.1, .int z226.1]) rfl (fun Q1 hq => ok_12_news e231 k2 hq) k2 rfl rfl (Nat.le_of_ble_eq_true rfl) (dd dt_L_law_11 6 rfl) rfl ?_
        refine R_cmpeq (dd dt_L_law_11 7 rfl) (tgt := 1718) rfl (fun hc => ?_) (fun hc => ?_)
        · rw [if_pos hc] at h
          refine R_iinc (v := 6) (lv' := [some (.ref a0), some (.ref a1), some (.ref a2), some (.int (v3 + 6))]) (dd dt_L_law_24 2 rfl) (by decide) rfl rfl ic_6 rfl ?_
          refine R_goto (dd dt_L_law_24 3 rfl) (tgt := 18) rfl ?_
          exact R_mask [true, true, true, true] rfl (ok_L_law_l18 L xs hE a0 a1 a2 k0 k1 k2 n (v3 + 6) z232.2 _ h hQ)
        · rw [if_neg hc] at h
          refine R_iconst (v := 0) (dd dt_L_law_11 8 rfl) ic_0 ?_
          obtain rfl := Option.some.inj h
          exact R_zret rfl (by decide) (dd dt_L_law_11 9 rfl) (hQ _)
      rw [if_neg hs17] at h
      by_cases hs18 : (x1 &&& 63) = 18
      · refine R_tabIn (off := 859) (tgt := 892) (dd dt_L_law_0 21 rfl) (by rw [hs18]; decide) (by rw [hs18]; decide) (by rw [hs18]; rfl) rfl ?_
        rw [if_pos hs18] at h
        refine R_aload_n (dd dt_L_law_11 10 rfl) 1 rfl rfl ?_
        refine R_aload_n (dd dt_L_law_11 11 rfl) 0 rfl rfl ?_
        refine R_iload_n (dd dt_L_law_11 12 rfl) 3 rfl rfl ?_
        refine R_iconst (v := 1) (dd dt_L_law_11 13 rfl) ic_1 ?_
        refine R_iadd (dd dt_L_law_11 14 rfl) ?_
        obtain ⟨x233, e234, h⟩ := bi_el h
        refine R_scr hE e234 k0 (dd dt_L_law_11 15 rfl) ?_
        refine R_aload_n (dd dt_L_law_11 16 rfl) 0 rfl rfl ?_
        refine R_iload_n (dd dt_L_law_11 17 rfl) 3 rfl rfl ?_
        refine R_iconst (v := 2) (dd dt_L_law_11 18 rfl) ic_2 ?_
        refine R_iadd (dd dt_L_law_11 19 rfl) ?_
        obtain ⟨x235, e236, h⟩ := bi_el h
        refine R_scr hE e236 k0 (dd dt_L_law_11 20 rfl) ?_
        obtain ⟨x238, e237, h⟩ := bi_el h
        refine c_L_95 (As := [.int x233, .int x235]) (st1 := [.int x238]) rfl (fun Q1 hq => ok_11_hears e237 k1 hq) k1 rfl rfl (Nat.le_of_ble_eq_true rfl) (dd dt_L_law_11 21 rfl) rfl ?_
        refine R_aload_n (dd dt_L_law_11 22 rfl) 2 rfl rfl ?_
        refine R_aload_n (dd dt_L_law_11 23 rfl) 0 rfl rfl ?_
        refine R_iload_n (dd dt_L_law_11 24 rfl) 3 rfl rfl ?_
        refine R_iconst (v := 1) (dd dt_L_law_11 25 rfl) ic_1 ?_
        refine R_iadd (dd dt_L_law_11 26 rfl) ?_
        obtain ⟨x239, e240, h⟩ := bi_el h
        refine R_scr hE e240 k0 (dd dt_L_law_11 27 rfl) ?_
        refine R_aload_n (dd dt_L_law_11 28 rfl) 0 rfl rfl ?_
        refine R_iload_n (dd dt_L_law_11 29 rfl) 3 rfl rfl ?_
        refine R_iconst (v := 2) (dd dt_L_law_11 30 rfl) ic_2 ?_
        refine R_iadd (dd dt_L_law_11 31 rfl) ?_
        obtain ⟨x241, e242, h⟩ := bi_el h
        refine R_scr hE e242 k0 (dd dt_L_law_11 32 rfl) ?_
        obtain ⟨x244, e243, h⟩ := bi_el h
        refine c_L_98 (As := [.int x239, .int x241]) (st1 := [.int x244, .int x238]) rfl (fun Q1 hq => ok_12_hears e243 k2 hq) k2 rfl rfl (Nat.le_of_ble_eq_true rfl) (dd dt_L_law_11 33 rfl) rfl ?_
        refine R_cmpeq (dd dt_L_law_11 34 rfl) (tgt := 1718) rfl (fun hc => ?_) (fun hc => ?_)
        · rw [if_pos hc] at h
          refine R_iinc (v := 6) (lv' := [some (.ref a0), some (.ref a1), some (.ref a2), some (.int (v3 + 6))]) (dd dt_L_law_24 2 rfl) (by decide) rfl rfl ic_6 rfl ?_
          refine R_goto (dd dt_L_law_24 3 rfl) (tgt := 18) rfl ?_
          exact R_mask [true, true, true, true] rfl (ok_L_law_l18 L xs hE a0 a1 a2 k0 k1 k2 n (v3 + 6) μ _ h hQ)
        · rw [if_neg hc] at h
          refine R_iconst (v := 0) (dd dt_L_law_11 35 rfl) ic_0 ?_
          obtain rfl := Option.some.inj h
          exact R_zret rfl (by decide) (dd dt_L_law_11 36 rfl) (hQ _)
      rw [if_neg hs18] at h
      by_cases hs19 : (x1 &&& 63) = 19
      · refine R_tabIn (off := 892) (tgt := 925) (dd dt_L_law_0 21 rfl) (by rw [hs19]; decide) (by rw [hs19]; decide) (by rw [hs19]; rfl) rfl ?_
        rw [if_pos hs19] at h
        refine R_aload_n (dd dt_L_law_11 37 rfl) 1 rfl rfl ?_
        refine R_aload_n (dd dt_L_law_11 38 rfl) 0 rfl rfl ?_
        refine R_iload_n (dd dt_L_law_11 39 rfl) 3 rfl rfl ?_
        refine R_iconst (v := 1) (dd dt_L_law_11 40 rfl) ic_1 ?_
        refine R_iadd (dd dt_L_law_11 41 rfl) ?_
        obtain ⟨x245, e246, h⟩ := bi_el h
        refine R_scr hE e246 k0 (dd dt_L_law_11 42 rfl) ?_
        obtain ⟨z247, hz247, h⟩ := bi_el h
        have K247 : Rj l E (d + 32) m_L_law 939 [some (.ref a0), some (.ref a1), some (.ref a2), some (.int v3)] [.int z247, .ref a1] μ Q := by
          clear hz247
          obtain ⟨z249, e248, h⟩ := bi_el h
          refine c_L_99 (As := [.int z247]) (st1 := [.int z249.1]) rfl (fun Q1 hq => ok_11_press e248 k1 hq) k1 rfl rfl (Nat.le_of_ble_eq_true rfl) (dd dt_L_law_11 47 rfl) rfl ?_
          refine R_aload_n (dd dt_L_law_11 48 rfl) 2 rfl rfl ?_
          refine R_aload_n (dd dt_L_law_11 49 rfl) 0 rfl rfl ?_
          refine R_iload_n (dd dt_L_law_12 0 rfl) 3 rfl rfl ?_
          refine R_iconst (v := 1) (dd dt_L_law_12 1 rfl) ic_1 ?_
          refine R_iadd (dd dt_L_law_12 2 rfl) ?_
          obtain ⟨x250, e251, h⟩ := bi_el h
          refine R_scr hE e251 k0 (dd dt_L_law_12 3 rfl) ?_
          obtain ⟨z252, hz252, h⟩ := bi_el h
          have K252 : Rj l E (d + 32) m_L_law 956 [some (.ref a0), some (.ref a1), some (.ref a2), some (.int v3)] [.int z252, .ref a2, .int z249.1] z249.2 Q := by
            clear hz252
            obtain ⟨z254, e253, h⟩ := bi_el h
            refine c_L_103 (As := [.int z252]) (st1 := [.int z254.1, .int z249.1]) rfl (fun Q1 hq => ok_12_press e253 k2 hq) k2 rfl rfl (Nat.le_of_ble_eq_true rfl) (dd dt_L_law_12 8 rfl) rfl ?_
            refine R_cmpeq (dd dt_L_law_12 9 rfl) (tgt := 1718) rfl (fun hc => ?_) (fun hc => ?_)
            · rw [if_pos hc] at h
              refine R_iinc (v := 6) (lv' := [some (.ref a0), some (.ref a1), some (.ref a2), some (.int (v3 + 6))]) (dd dt_L_law_24 2 rfl) (by decide) rfl rfl ic_6 rfl ?_
              refine R_goto (dd dt_L_law_24 3 rfl) (tgt := 18) rfl ?_
              exact R_mask [true, true, true, true] rfl (ok_L_law_l18 L xs hE a0 a1 a2 k0 k1 k2 n (v3 + 6) z254.2 _ h hQ)
            · rw [if_neg hc] at h
              refine R_iconst (v := 0) (dd dt_L_law_12 10 rfl) ic_0 ?_
              obtain rfl := Option.some.inj h
              exact R_zret rfl (by decide) (dd dt_L_law_12 11 rfl) (hQ _)
          clear h
          have h := hz252
          clear hz252
          refine R_ifeq (dd dt_L_law_12 4 rfl) (tgt := 955) rfl (fun hc => ?_) (fun hc => ?_)
          · rw [if_pos hc] at h
            refine R_iconst (v := 0) (dd dt_L_law_12 7 rfl) ic_0 ?_
            obtain rfl := Option.some.inj h
            exact R_mask [true, true, true, true] rfl K252
          · rw [if_neg hc] at h
            refine R_iconst (v := 1) (dd dt_L_law_12 5 rfl) ic_1 ?_
            refine R_goto (dd dt_L_law_12 6 rfl) (tgt := 956) rfl ?_
            obtain rfl := Option.some.inj h
            exact R_mask [true, true, true, true] rfl K252
        clear h
        have h := hz247
        clear hz247
        refine R_ifeq (dd dt_L_law_11 43 rfl) (tgt := 938) rfl (fun hc => ?_) (fun hc => ?_)
        · rw [if_pos hc] at h
          refine R_iconst (v := 0) (dd dt_L_law_11 46 rfl) ic_0 ?_
          obtain rfl := Option.some.inj h
          exact R_mask [true, true, true, true] rfl K247
        · rw [if_neg hc] at h
          refine R_iconst (v := 1) (dd dt_L_law_11 44 rfl) ic_1 ?_
          refine R_goto (dd dt_L_law_11 45 rfl) (tgt := 939) rfl ?_
          obtain rfl := Option.some.inj h
          exact R_mask [true, true, true, true] rfl K247
      rw [if_neg hs19] at h
      by_cases hs20 : (x1 &&& 63) = 20
      · refine R_tabIn (off := 931) (tgt := 964) (dd dt_L_law_0 21 rfl) (by rw [hs20]; decide) (by rw [hs20]; decide) (by rw [hs20]; rfl) rfl ?_
        rw [if_pos hs20] at h
        refine R_aload_n (dd dt_L_law_12 12 rfl) 1 rfl rfl ?_
        refine R_aload_n (dd dt_L_law_12 13 rfl) 0 rfl rfl ?_
        refine R_iload_n (dd dt_L_law_12 14 rfl) 3 rfl rfl ?_
        refine R_iconst (v := 1) (dd dt_L_law_12 15 rfl) ic_1 ?_
        refine R_iadd (dd dt_L_law_12 16 rfl) ?_
        obtain ⟨x255, e256, h⟩ := bi_el h
        refine R_scr hE e256 k0 (dd dt_L_law_12 17 rfl) ?_
        obtain ⟨z258, e257, h⟩ := bi_el h
        refine c_L_104 (As := [.int x255]) (st1 := [.int z258.1]) rfl (fun Q1 hq => ok_11_paper e257 k1 hq) k1 rfl rfl (Nat.le_of_ble_eq_true rfl) (dd dt_L_law_12 18 rfl) rfl ?_
        refine R_aload_n (dd dt_L_law_12 19 rfl) 2 rfl rfl ?_
        refine R_aload_n (dd dt_L_law_12 20 rfl) 0 rfl rfl ?_
        refine R_iload_n (dd dt_L_law_12 21 rfl) 3 rfl rfl ?_
        refine R_iconst (v := 1) (dd dt_L_law_12 22 rfl) ic_1 ?_
        refine R_iadd (dd dt_L_law_12 23 rfl) ?_
        obtain ⟨x259, e260, h⟩ := bi_el h
        refine R_scr hE e260 k0 (dd dt_L_law_12 24 rfl) ?_
        obtain ⟨z262, e261, h⟩ := bi_el h
        refine c_L_107 (As := [.int x259]) (st1 := [.int z262.1, .int z258.1]) rfl (fun Q1 hq => ok_12_paper e261 k2 hq) k2 rfl rfl (Nat.le_of_ble_eq_true rfl) (dd dt_L_law_12 25 rfl) rfl ?_
        refine R_cmpeq (dd dt_L_law_12 26 rfl) (tgt := 1718) rfl (fun hc => ?_) (fun hc => ?_)
        · rw [if_pos hc] at h
          refine R_iinc (v := 6) (lv' := [some (.ref a0), some (.ref a1), some (.ref a2), some (.int (v3 + 6))]) (dd dt_L_law_24 2 rfl) (by decide) rfl rfl ic_6 rfl ?_
          refine R_goto (dd dt_L_law_24 3 rfl) (tgt := 18) rfl ?_
          exact R_mask [true, true, true, true] rfl (ok_L_law_l18 L xs hE a0 a1 a2 k0 k1 k2 n (v3 + 6) z262.2 _ h hQ)
        · rw [if_neg hc] at h
          refine R_iconst (v := 0) (dd dt_L_law_12 27 rfl) ic_0 ?_
          obtain rfl := Option.some.inj h
          exact R_zret rfl (by decide) (dd dt_L_law_12 28 rfl) (hQ _)
      rw [if_neg hs20] at h
      by_cases hs21 : (x1 &&& 63) = 21
      · refine R_tabIn (off := 954) (tgt := 987) (dd dt_L_law_0 21 rfl) (by rw [hs21]; decide) (by rw [hs21]; decide) (by rw [hs21]; rfl) rfl ?_
        rw [if_pos hs21] at h
        refine R_aload_n (dd dt_L_law_12 29 rfl) 1 rfl rfl ?_
        refine R_aload_n (dd dt_L_law_12 30 rfl) 0 rfl rfl ?_
        refine R_iload_n (dd dt_L_law_12 31 rfl) 3 rfl rfl ?_
        refine R_iconst (v := 1) (dd dt_L_law_12 32 rfl) ic_1 ?_
        refine R_iadd (dd dt_L_law_12 33 rfl) ?_
        obtain ⟨x263, e264, h⟩ := bi_el h
        refine R_scr hE e264 k0 (dd dt_L_law_12 34 rfl) ?_
        obtain ⟨z266, e265, h⟩ := bi_el h
        refine c_L_108 (As := [.int x263]) (st1 := [.int z266.1]) rfl (fun Q1 hq => ok_11_evict e265 k1 hq) k1 rfl rfl (Nat.le_of_ble_eq_true rfl) (dd dt_L_law_12 35 rfl) rfl ?_
        refine R_aload_n (dd dt_L_law_12 36 rfl) 2 rfl rfl ?_
        refine R_aload_n (dd dt_L_law_12 37 rfl) 0 rfl rfl ?_
        refine R_iload_n (dd dt_L_law_12 38 rfl) 3 rfl rfl ?_
        refine R_iconst (v := 1) (dd dt_L_law_12 39 rfl) ic_1 ?_
        refine R_iadd (dd dt_L_law_12 40 rfl) ?_
        obtain ⟨x267, e268, h⟩ := bi_el h
        refine R_scr hE e268 k0 (dd dt_L_law_12 41 rfl) ?_
        obtain ⟨z270, e269, h⟩ := bi_el h
        refine c_L_111 (As := [.int x267]) (st1 := [.int z270.1, .int z266.1]) rfl (fun Q1 hq => ok_12_evict e269 k2 hq) k2 rfl rfl (Nat.le_of_ble_eq_true rfl) (dd dt_L_law_12 42 rfl) rfl ?_
        refine R_cmpeq (dd dt_L_law_12 43 rfl) (tgt := 1718) rfl (fun hc => ?_) (fun hc => ?_)
        · rw [if_pos hc] at h
          refine R_iinc (v := 6) (lv' := [some (.ref a0), some (.ref a1), some (.ref a2), some (.int (v3 + 6))]) (dd dt_L_law_24 2 rfl) (by decide) rfl rfl ic_6 rfl ?_
          refine R_goto (dd dt_L_law_24 3 rfl) (tgt := 18) rfl ?_
          exact R_mask [true, true, true, true] rfl (ok_L_law_l18 L xs hE a0 a1 a2 k0 k1 k2 n (v3 + 6) z270.2 _ h hQ)
        · rw [if_neg hc] at h
          refine R_iconst (v := 0) (dd dt_L_law_12 44 rfl) ic_0 ?_
          obtain rfl := Option.some.inj h
          exact R_zret rfl (by decide) (dd dt_L_law_12 45 rfl) (hQ _)
      rw [if_neg hs21] at h
      by_cases hs22 : (x1 &&& 63) = 22
      · refine R_tabIn (off := 977) (tgt := 1010) (dd dt_L_law_0 21 rfl) (by rw [hs22]; decide) (by rw [hs22]; decide) (by rw [hs22]; rfl) rfl ?_
        rw [if_pos hs22] at h
        refine R_aload_n (dd dt_L_law_12 46 rfl) 1 rfl rfl ?_
        refine R_aload_n (dd dt_L_law_12 47 rfl) 0 rfl rfl ?_
        refine R_iload_n (dd dt_L_law_12 48 rfl) 3 rfl rfl ?_
        refine R_iconst (v := 1) (dd dt_L_law_12 49 rfl) ic_1 ?_
        refine R_iadd (dd dt_L_law_13 0 rfl) ?_
        obtain ⟨x271, e272, h⟩ := bi_el h
        refine R_scr hE e272 k0 (dd dt_L_law_13 1 rfl) ?_
        obtain ⟨z274, e273, h⟩ := bi_el h
        refine c_L_112 (As := [.int x271]) (st1 := [.int z274.1]) rfl (fun Q1 hq => ok_11_draws e273 k1 hq) k1 rfl rfl (Nat.le_of_ble_eq_true rfl) (dd dt_L_law_13 2 rfl) rfl ?_
        refine R_aload_n (dd dt_L_law_13 3 rfl) 2 rfl rfl ?_
        refine R_aload_n (dd dt_L_law_13 4 rfl) 0 rfl rfl ?_
        refine R_iload_n (dd dt_L_law_13 5 rfl) 3 rfl rfl ?_
        refine R_iconst (v := 1) (dd dt_L_law_13 6 rfl) ic_1 ?_
        refine R_iadd (dd dt_L_law_13 7 rfl) ?_
        obtain ⟨x275, e276, h⟩ := bi_el h
        refine R_scr hE e276 k0 (dd dt_L_law_13 8 rfl) ?_
        obtain ⟨z278, e277, h⟩ := bi_el h
        refine c_L_115 (As := [.int x275]) (st1 := [.int z278.1, .int z274.1]) rfl (fun Q1 hq => ok_12_draws e277 k2 hq) k2 rfl rfl (Nat.le_of_ble_eq_true rfl) (dd dt_L_law_13 9 rfl) rfl ?_
        refine R_cmpeq (dd dt_L_law_13 10 rfl) (tgt := 1718) rfl (fun hc => ?_) (fun hc => ?_)
        · rw [if_pos hc] at h
          refine R_iinc (v := 6) (lv' := [some (.ref a0), some (.ref a1), some (.ref a2), some (.int (v3 + 6))]) (dd dt_L_law_24 2 rfl) (by decide) rfl rfl ic_6 rfl ?_
          refine R_goto (dd dt_L_law_24 3 rfl) (tgt := 18) rfl ?_
          exact R_mask [true, true, true, true] rfl (ok_L_law_l18 L xs hE a0 a1 a2 k0 k1 k2 n (v3 + 6) z278.2 _ h hQ)
        · rw [if_neg hc] at h
          refine R_iconst (v := 0) (dd dt_L_law_13 11 rfl) ic_0 ?_
          obtain rfl := Option.some.inj h
          exact R_zret rfl (by decide) (dd dt_L_law_13 12 rfl) (hQ _)
      rw [if_neg hs22] at h
      by_cases hs23 : (x1 &&& 63) = 23
      · refine R_tabIn (off := 1000) (tgt := 1033) (dd dt_L_law_0 21 rfl) (by rw [hs23]; decide) (by rw [hs23]; decide) (by rw [hs23]; rfl) rfl ?_
        rw [if_pos hs23] at h
        refine R_aload_n (dd dt_L_law_13 13 rfl) 1 rfl rfl ?_
        refine R_aload_n (dd dt_L_law_13 14 rfl) 0 rfl rfl ?_
        refine R_iload_n (dd dt_L_law_13 15 rfl) 3 rfl rfl ?_
        refine R_iconst (v := 1) (dd dt_L_law_13 16 rfl) ic_1 ?_
        refine R_iadd (dd dt_L_law_13 17 rfl) ?_
        obtain ⟨x279, e280, h⟩ := bi_el h
        refine R_scr hE e280 k0 (dd dt_L_law_13 18 rfl) ?_
        obtain ⟨x282, e281, h⟩ := bi_el h
        refine c_L_116 (As := [.int x279]) (st1 := [.int x282]) rfl (fun Q1 hq => ok_11_least e281 k1 hq) k1 rfl rfl (Nat.le_of_ble_eq_true rfl) (dd dt_L_law_13 19 rfl) rfl ?_
        refine R_aload_n (dd dt_L_law_13 20 rfl) 2 rfl rfl ?_
        refine R_aload_n (dd dt_L_law_13 21 rfl) 0 rfl rfl ?_
        refine R_iload_n (dd dt_L_law_13 22 rfl) 3 rfl rfl ?_
        refine R_iconst (v := 1) (dd dt_L_law_13 23 rfl) ic_1 ?_
        refine R_iadd (dd dt_L_law_13 24 rfl) ?_
        obtain ⟨x283, e284, h⟩ := bi_el h
        refine R_scr hE e284 k0 (dd dt_L_law_13 25 rfl) ?_
        obtain ⟨z286, e285, h⟩ := bi_el h
        refine c_L_119 (As := [.int x283]) (st1 := [.int z286.1, .int x282]) rfl (fun Q1 hq => ok_12_least e285 k2 hq) k2 rfl rfl (Nat.le_of_ble_eq_true rfl) (dd dt_L_law_13 26 rfl) rfl ?_
        refine R_cmpeq (dd dt_L_law_13 27 rfl) (tgt := 1718) rfl (fun hc => ?_) (fun hc => ?_)
        · rw [if_pos hc] at h
          refine R_iinc (v := 6) (lv' := [some (.ref a0), some (.ref a1), some (.ref a2), some (.int (v3 + 6))]) (dd dt_L_law_24 2 rfl) (by decide) rfl rfl ic_6 rfl ?_
          refine R_goto (dd dt_L_law_24 3 rfl) (tgt := 18) rfl ?_
          exact R_mask [true, true, true, true] rfl (ok_L_law_l18 L xs hE a0 a1 a2 k0 k1 k2 n (v3 + 6) z286.2 _ h hQ)
        · rw [if_neg hc] at h
          refine R_iconst (v := 0) (dd dt_L_law_13 28 rfl) ic_0 ?_
          obtain rfl := Option.some.inj h
          exact R_zret rfl (by decide) (dd dt_L_law_13 29 rfl) (hQ _)
      rw [if_neg hs23] at h
      by_cases hs24 : (x1 &&& 63) = 24
      · refine R_tabIn (off := 1023) (tgt := 1056) (dd dt_L_law_0 21 rfl) (by rw [hs24]; decide) (by rw [hs24]; decide) (by rw [hs24]; rfl) rfl ?_
        rw [if_pos hs24] at h
        refine R_aload_n (dd dt_L_law_13 30 rfl) 1 rfl rfl ?_
        refine R_aload_n (dd dt_L_law_13 31 rfl) 0 rfl rfl ?_
        refine R_iload_n (dd dt_L_law_13 32 rfl) 3 rfl rfl ?_
        refine R_iconst (v := 1) (dd dt_L_law_13 33 rfl) ic_1 ?_
        refine R_iadd (dd dt_L_law_13 34 rfl) ?_
        obtain ⟨x287, e288, h⟩ := bi_el h
        refine R_scr hE e288 k0 (dd dt_L_law_13 35 rfl) ?_
        obtain ⟨z290, e289, h⟩ := bi_el h
        refine c_L_120 (As := [.int x287]) (st1 := [.int z290.1]) rfl (fun Q1 hq => ok_11_last e289 k1 hq) k1 rfl rfl (Nat.le_of_ble_eq_true rfl) (dd dt_L_law_13 36 rfl) rfl ?_
        refine R_aload_n (dd dt_L_law_13 37 rfl) 2 rfl rfl ?_
        refine R_aload_n (dd dt_L_law_13 38 rfl) 0 rfl rfl ?_
        refine R_iload_n (dd dt_L_law_13 39 rfl) 3 rfl rfl ?_
        refine R_iconst (v := 1) (dd dt_L_law_13 40 rfl) ic_1 ?_
        refine R_iadd (dd dt_L_law_13 41 rfl) ?_
        obtain ⟨x291, e292, h⟩ := bi_el h
        refine R_scr hE e292 k0 (dd dt_L_law_13 42 rfl) ?_
        obtain ⟨z294, e293, h⟩ := bi_el h
        refine c_L_123 (As := [.int x291]) (st1 := [.int z294.1, .int z290.1]) rfl (fun Q1 hq => ok_12_last e293 k2 hq) k2 rfl rfl (Nat.le_of_ble_eq_true rfl) (dd dt_L_law_13 43 rfl) rfl ?_
        refine R_cmpeq (dd dt_L_law_13 44 rfl) (tgt := 1718) rfl (fun hc => ?_) (fun hc => ?_)
        · rw [if_pos hc] at h
          refine R_iinc (v := 6) (lv' := [some (.ref a0), some (.ref a1), some (.ref a2), some (.int (v3 + 6))]) (dd dt_L_law_24 2 rfl) (by decide) rfl rfl ic_6 rfl ?_
          refine R_goto (dd dt_L_law_24 3 rfl) (tgt := 18) rfl ?_
          exact R_mask [true, true, true, true] rfl (ok_L_law_l18 L xs hE a0 a1 a2 k0 k1 k2 n (v3 + 6) z294.2 _ h hQ)
        · rw [if_neg hc] at h
          refine R_iconst (v := 0) (dd dt_L_law_13 45 rfl) ic_0 ?_
          obtain rfl := Option.some.inj h
          exact R_zret rfl (by decide) (dd dt_L_law_13 46 rfl) (hQ _)
      rw [if_neg hs24] at h
      by_cases hs25 : (x1 &&& 63) = 25
      · refine R_tabIn (off := 1046) (tgt := 1079) (dd dt_L_law_0 21 rfl) (by rw [hs25]; decide) (by rw [hs25]; decide) (by rw [hs25]; rfl) rfl ?_
        rw [if_pos hs25] at h
        refine R_aload_n (dd dt_L_law_13 47 rfl) 1 rfl rfl ?_
        refine R_aload_n (dd dt_L_law_13 48 rfl) 0 rfl rfl ?_
        refine R_iload_n (dd dt_L_law_13 49 rfl) 3 rfl rfl ?_
        refine R_iconst (v := 1) (dd dt_L_law_14 0 rfl) ic_1 ?_
        refine R_iadd (dd dt_L_law_14 1 rfl) ?_
        obtain ⟨x295, e296, h⟩ := bi_el h
        refine R_scr hE e296 k0 (dd dt_L_law_14 2 rfl) ?_
        obtain ⟨z297, hz297, h⟩ := bi_el h
        have K297 : Rj l E (d + 32) m_L_law 1093 [some (.ref a0), some (.ref a1), some (.ref a2), some (.int v3)] [.int z297, .ref a1] μ Q := by
          clear hz297
          refine R_aload_n (dd dt_L_law_14 7 rfl) 0 rfl rfl ?_
          refine R_iload_n (dd dt_L_law_14 8 rfl) 3 rfl rfl ?_
          refine R_iconst (v := 2) (dd dt_L_law_14 9 rfl) ic_2 ?_
          refine R_iadd (dd dt_L_law_14 10 rfl) ?_
          obtain ⟨x298, e299, h⟩ := bi_el h
          refine R_scr hE e299 k0 (dd dt_L_law_14 11 rfl) ?_
          obtain ⟨z301, e300, h⟩ := bi_el h
          refine c_L_124 (As := [.int z297, .int x298]) (st1 := [.int z301.1]) rfl (fun Q1 hq => ok_11_post e300 k1 hq) k1 rfl rfl (Nat.le_of_ble_eq_true rfl) (dd dt_L_law_14 12 rfl) rfl ?_
          refine R_aload_n (dd dt_L_law_14 13 rfl) 2 rfl rfl ?_
          refine R_aload_n (dd dt_L_law_14 14 rfl) 0 rfl rfl ?_
          refine R_iload_n (dd dt_L_law_14 15 rfl) 3 rfl rfl ?_
          refine R_iconst (v := 1) (dd dt_L_law_14 16 rfl) ic_1 ?_
          refine R_iadd (dd dt_L_law_14 17 rfl) ?_
          obtain ⟨x302, e303, h⟩ := bi_el h
          refine R_scr hE e303 k0 (dd dt_L_law_14 18 rfl) ?_
          obtain ⟨z304, hz304, h⟩ := bi_el h
          have K304 : Rj l E (d + 32) m_L_law 1115 [some (.ref a0), some (.ref a1), some (.ref a2), some (.int v3)] [.int z304, .ref a2, .int z301.1] z301.2 Q := by
            clear hz304
            refine R_aload_n (dd dt_L_law_14 23 rfl) 0 rfl rfl ?_
            refine R_iload_n (dd dt_L_law_14 24 rfl) 3 rfl rfl ?_
            refine R_iconst (v := 2) (dd dt_L_law_14 25 rfl) ic_2 ?_
            refine R_iadd (dd dt_L_law_14 26 rfl) ?_
            obtain ⟨x305, e306, h⟩ := bi_el h
            refine R_scr hE e306 k0 (dd dt_L_law_14 27 rfl) ?_
            obtain ⟨z308, e307, h⟩ := bi_el h
            refine c_L_127 (As := [.int z304, .int x305]) (st1 := [.int z308.1, .int z301.1]) rfl (fun Q1 hq => ok_12_post e307 k2 hq) k2 rfl rfl (Nat.le_of_ble_eq_true rfl) (dd dt_L_law_14 28 rfl) rfl ?_
            refine R_cmpeq (dd dt_L_law_14 29 rfl) (tgt := 1718) rfl (fun hc => ?_) (fun hc => ?_)
            · rw [if_pos hc] at h
              refine R_iinc (v := 6) (lv' := [some (.ref a0), some (.ref a1), some (.ref a2), some (.int (v3 + 6))]) (dd dt_L_law_24 2 rfl) (by decide) rfl rfl ic_6 rfl ?_
              refine R_goto (dd dt_L_law_24 3 rfl) (tgt := 18) rfl ?_
              exact R_mask [true, true, true, true] rfl (ok_L_law_l18 L xs hE a0 a1 a2 k0 k1 k2 n (v3 + 6) z308.2 _ h hQ)
            · rw [if_neg hc] at h
              refine R_iconst (v := 0) (dd dt_L_law_14 30 rfl) ic_0 ?_
              obtain rfl := Option.some.inj h
              exact R_zret rfl (by decide) (dd dt_L_law_14 31 rfl) (hQ _)
          clear h
          have h := hz304
          clear hz304
          refine R_ifeq (dd dt_L_law_14 19 rfl) (tgt := 1114) rfl (fun hc => ?_) (fun hc => ?_)
          · rw [if_pos hc] at h
            refine R_iconst (v := 0) (dd dt_L_law_14 22 rfl) ic_0 ?_
            obtain rfl := Option.some.inj h
            exact R_mask [true, true, true, true] rfl K304
          · rw [if_neg hc] at h
            refine R_iconst (v := 1) (dd dt_L_law_14 20 rfl) ic_1 ?_
            refine R_goto (dd dt_L_law_14 21 rfl) (tgt := 1115) rfl ?_
            obtain rfl := Option.some.inj h
            exact R_mask [true, true, true, true] rfl K304
        clear h
        have h := hz297
        clear hz297
        refine R_ifeq (dd dt_L_law_14 3 rfl) (tgt := 1092) rfl (fun hc => ?_) (fun hc => ?_)
        · rw [if_pos hc] at h
          refine R_iconst (v := 0) (dd dt_L_law_14 6 rfl) ic_0 ?_
          obtain rfl := Option.some.inj h
          exact R_mask [true, true, true, true] rfl K297
        · rw [if_neg hc] at h
          refine R_iconst (v := 1) (dd dt_L_law_14 4 rfl) ic_1 ?_
          refine R_goto (dd dt_L_law_14 5 rfl) (tgt := 1093) rfl ?_
          obtain rfl := Option.some.inj h
          exact R_mask [true, true, true, true] rfl K297
      rw [if_neg hs25] at h
      by_cases hs26 : (x1 &&& 63) = 26
      · refine R_tabIn (off := 1095) (tgt := 1128) (dd dt_L_law_0 21 rfl) (by rw [hs26]; decide) (by rw [hs26]; decide) (by rw [hs26]; rfl) rfl ?_
        rw [if_pos hs26] at h
        refine R_aload_n (dd dt_L_law_14 32 rfl) 1 rfl rfl ?_
        refine R_aload_n (dd dt_L_law_14 33 rfl) 0 rfl rfl ?_
        refine R_iload_n (dd dt_L_law_14 34 rfl) 3 rfl rfl ?_
        refine R_iconst (v := 1) (dd dt_L_law_14 35 rfl) ic_1 ?_
        refine R_iadd (dd dt_L_law_14 36 rfl) ?_
        obtain ⟨x309, e310, h⟩ := bi_el h
        refine R_scr hE e310 k0 (dd dt_L_law_14 37 rfl) ?_
        obtain ⟨z312, e311, h⟩ := bi_el h
        refine c_L_128 (As := [.int x309]) (st1 := [.int z312.1]) rfl (fun Q1 hq => ok_11_watch e311 k1 hq) k1 rfl rfl (Nat.le_of_ble_eq_true rfl) (dd dt_L_law_14 38 rfl) rfl ?_
        refine R_aload_n (dd dt_L_law_14 39 rfl) 2 rfl rfl ?_
        refine R_aload_n (dd dt_L_law_14 40 rfl) 0 rfl rfl ?_
        refine R_iload_n (dd dt_L_law_14 41 rfl) 3 rfl rfl ?_
        refine R_iconst (v := 1) (dd dt_L_law_14 42 rfl) ic_1 ?_
        refine R_iadd (dd dt_L_law_14 43 rfl) ?_
        obtain ⟨x313, e314, h⟩ := bi_el h
        refine R_scr hE e314 k0 (dd dt_L_law_14 44 rfl) ?_
        obtain ⟨z316, e315, h⟩ := bi_el h
        refine c_L_131 (As := [.int x313]) (st1 := [.int z316.1, .int z312.1]) rfl (fun Q1 hq => ok_12_watch e315 k2 hq) k2 rfl rfl (Nat.le_of_ble_eq_true rfl) (dd dt_L_law_14 45 rfl) rfl ?_
        refine R_cmpeq (dd dt_L_law_14 46 rfl) (tgt := 1718) rfl (fun hc => ?_) (fun hc => ?_)
        · rw [if_pos hc] at h
          refine R_iinc (v := 6) (lv' := [some (.ref a0), some (.ref a1), some (.ref a2), some (.int (v3 + 6))]) (dd dt_L_law_24 2 rfl) (by decide) rfl rfl ic_6 rfl ?_
          refine R_goto (dd dt_L_law_24 3 rfl) (tgt := 18) rfl ?_
          exact R_mask [true, true, true, true] rfl (ok_L_law_l18 L xs hE a0 a1 a2 k0 k1 k2 n (v3 + 6) z316.2 _ h hQ)
        · rw [if_neg hc] at h
          refine R_iconst (v := 0) (dd dt_L_law_14 47 rfl) ic_0 ?_
          obtain rfl := Option.some.inj h
          exact R_zret rfl (by decide) (dd dt_L_law_14 48 rfl) (hQ _)
      rw [if_neg hs26] at h
      by_cases hs27 : (x1 &&& 63) = 27
      · refine R_tabIn (off := 1118) (tgt := 1151) (dd dt_L_law_0 21 rfl) (by rw [hs27]; decide) (by rw [hs27]; decide) (by rw [hs27]; rfl) rfl ?_
        rw [if_pos hs27] at h
        refine R_aload_n (dd dt_L_law_14 49 rfl) 1 rfl rfl ?_
        refine R_aload_n (dd dt_L_law_15 0 rfl) 0 rfl rfl ?_
        refine R_iload_n (dd dt_L_law_15 1 rfl) 3 rfl rfl ?_
        refine R_iconst (v := 1) (dd dt_L_law_15 2 rfl) ic_1 ?_
        refine R_iadd (dd dt_L_law_15 3 rfl) ?_
        obtain ⟨x317, e318, h⟩ := bi_el h
        refine R_scr hE e318 k0 (dd dt_L_law_15 4 rfl) ?_
        refine R_aload_n (dd dt_L_law_15 5 rfl) 0 rfl rfl ?_
        refine R_iload_n (dd dt_L_law_15 6 rfl) 3 rfl rfl ?_
        refine R_iconst (v := 2) (dd dt_L_law_15 7 rfl) ic_2 ?_
        refine R_iadd (dd dt_L_law_15 8 rfl) ?_
        obtain ⟨x319, e320, h⟩ := bi_el h
        refine R_scr hE e320 k0 (dd dt_L_law_15 9 rfl) ?_
        obtain ⟨x322, e321, h⟩ := bi_el h
        refine c_L_132 (As := [.int x317, .int x319]) (st1 := [.int x322]) rfl (fun Q1 hq => ok_11_row e321 k1 hq) k1 rfl rfl (Nat.le_of_ble_eq_true rfl) (dd dt_L_law_15 10 rfl) rfl ?_
        refine R_aload_n (dd dt_L_law_15 11 rfl) 2 rfl rfl ?_
        refine R_aload_n (dd dt_L_law_15 12 rfl) 0 rfl rfl ?_
        refine R_iload_n (dd dt_L_law_15 13 rfl) 3 rfl rfl ?_
        refine R_iconst (v := 1) (dd dt_L_law_15 14 rfl) ic_1 ?_
        refine R_iadd (dd dt_L_law_15 15 rfl) ?_
        obtain ⟨x323, e324, h⟩ := bi_el h
        refine R_scr hE e324 k0 (dd dt_L_law_15 16 rfl) ?_
        refine R_aload_n (dd dt_L_law_15 17 rfl) 0 rfl rfl ?_
        refine R_iload_n (dd dt_L_law_15 18 rfl) 3 rfl rfl ?_
        refine R_iconst (v := 2) (dd dt_L_law_15 19 rfl) ic_2 ?_
        refine R_iadd (dd dt_L_law_15 20 rfl) ?_
        obtain ⟨x325, e326, h⟩ := bi_el h
        refine R_scr hE e326 k0 (dd dt_L_law_15 21 rfl) ?_
        obtain ⟨x328, e327, h⟩ := bi_el h
        refine c_L_135 (As := [.int x323, .int x325]) (st1 := [.int x328, .int x322]) rfl (fun Q1 hq => ok_12_row e327 k2 hq) k2 rfl rfl (Nat.le_of_ble_eq_true rfl) (dd dt_L_law_15 22 rfl) rfl ?_
        refine R_cmpeq (dd dt_L_law_15 23 rfl) (tgt := 1718) rfl (fun hc => ?_) (fun hc => ?_)
        · rw [if_pos hc] at h
          refine R_iinc (v := 6) (lv' := [some (.ref a0), some (.ref a1), some (.ref a2), some (.int (v3 + 6))]) (dd dt_L_law_24 2 rfl) (by decide) rfl rfl ic_6 rfl ?_
          refine R_goto (dd dt_L_law_24 3 rfl) (tgt := 18) rfl ?_
          exact R_mask [true, true, true, true] rfl (ok_L_law_l18 L xs hE a0 a1 a2 k0 k1 k2 n (v3 + 6) μ _ h hQ)
        · rw [if_neg hc] at h
          refine R_iconst (v := 0) (dd dt_L_law_15 24 rfl) ic_0 ?_
          obtain rfl := Option.some.inj h
          exact R_zret rfl (by decide) (dd dt_L_law_15 25 rfl) (hQ _)
      rw [if_neg hs27] at h
      by_cases hs28 : (x1 &&& 63) = 28
      · refine R_tabIn (off := 1151) (tgt := 1184) (dd dt_L_law_0 21 rfl) (by rw [hs28]; decide) (by rw [hs28]; decide) (by rw [hs28]; rfl) rfl ?_
        rw [if_pos hs28] at h
        refine R_aload_n (dd dt_L_law_15 26 rfl) 1 rfl rfl ?_
        refine R_aload_n (dd dt_L_law_15 27 rfl) 0 rfl rfl ?_
        refine R_iload_n (dd dt_L_law_15 28 rfl) 3 rfl rfl ?_
        refine R_iconst (v := 1) (dd dt_L_law_15 29 rfl) ic_1 ?_
        refine R_iadd (dd dt_L_law_15 30 rfl) ?_
        obtain ⟨x329, e330, h⟩ := bi_el h
        refine R_scr hE e330 k0 (dd dt_L_law_15 31 rfl) ?_
        refine R_aload_n (dd dt_L_law_15 32 rfl) 0 rfl rfl ?_
        refine R_iload_n (dd dt_L_law_15 33 rfl) 3 rfl rfl ?_
        refine R_iconst (v := 2) (dd dt_L_law_15 34 rfl) ic_2 ?_
        refine R_iadd (dd dt_L_law_15 35 rfl) ?_
        obtain ⟨x331, e332, h⟩ := bi_el h
        refine R_scr hE e332 k0 (dd dt_L_law_15 36 rfl) ?_
        refine R_aload_n (dd dt_L_law_15 37 rfl) 0 rfl rfl ?_
        refine R_iload_n (dd dt_L_law_15 38 rfl) 3 rfl rfl ?_
        refine R_iconst (v := 3) (dd dt_L_law_15 39 rfl) ic_3 ?_
        refine R_iadd (dd dt_L_law_15 40 rfl) ?_
        obtain ⟨x333, e334, h⟩ := bi_el h
        refine R_scr hE e334 k0 (dd dt_L_law_15 41 rfl) ?_
        obtain ⟨z336, e335, h⟩ := bi_el h
        refine c_L_136 (As := [.int x329, .int x331, .int x333]) (st1 := [.int z336.1]) rfl (fun Q1 hq => ok_11_alterRow e335 k1 hq) k1 rfl rfl (Nat.le_of_ble_eq_true rfl) (dd dt_L_law_15 42 rfl) rfl ?_
        refine R_aload_n (dd dt_L_law_15 43 rfl) 2 rfl rfl ?_
        refine R_aload_n (dd dt_L_law_15 44 rfl) 0 rfl rfl ?_
        refine R_iload_n (dd dt_L_law_15 45 rfl) 3 rfl rfl ?_
        refine R_iconst (v := 1) (dd dt_L_law_15 46 rfl) ic_1 ?_
        refine R_iadd (dd dt_L_law_15 47 rfl) ?_
        obtain ⟨x337, e338, h⟩ := bi_el h
        refine R_scr hE e338 k0 (dd dt_L_law_15 48 rfl) ?_
        refine R_aload_n (dd dt_L_law_15 49 rfl) 0 rfl rfl ?_
        refine R_iload_n (dd dt_L_law_16 0 rfl) 3 rfl rfl ?_
        refine R_iconst (v := 2) (dd dt_L_law_16 1 rfl) ic_2 ?_
        refine R_iadd (dd dt_L_law_16 2 rfl) ?_
        obtain ⟨x339, e340, h⟩ := bi_el h
        refine R_scr hE e340 k0 (dd dt_L_law_16 3 rfl) ?_
        refine R_aload_n (dd dt_L_law_16 4 rfl) 0 rfl rfl ?_
        refine R_iload_n (dd dt_L_law_16 5 rfl) 3 rfl rfl ?_
        refine R_iconst (v := 3) (dd dt_L_law_16 6 rfl) ic_3 ?_
        refine R_iadd (dd dt_L_law_16 7 rfl) ?_
        obtain ⟨x341, e342, h⟩ := bi_el h
        refine R_scr hE e342 k0 (dd dt_L_law_16 8 rfl) ?_
        obtain ⟨z344, e343, h⟩ := bi_el h
        refine c_L_139 (As := [.int x337, .int x339, .int x341]) (st1 := [.int z344.1, .int z336.1]) rfl (fun Q1 hq => ok_12_alterRow e343 k2 hq) k2 rfl rfl (Nat.le_of_ble_eq_true rfl) (dd dt_L_law_16 9 rfl) rfl ?_
        refine R_cmpeq (dd dt_L_law_16 10 rfl) (tgt := 1718) rfl (fun hc => ?_) (fun hc => ?_)
        · rw [if_pos hc] at h
          refine R_iinc (v := 6) (lv' := [some (.ref a0), some (.ref a1), some (.ref a2), some (.int (v3 + 6))]) (dd dt_L_law_24 2 rfl) (by decide) rfl rfl ic_6 rfl ?_
          refine R_goto (dd dt_L_law_24 3 rfl) (tgt := 18) rfl ?_
          exact R_mask [true, true, true, true] rfl (ok_L_law_l18 L xs hE a0 a1 a2 k0 k1 k2 n (v3 + 6) z344.2 _ h hQ)
        · rw [if_neg hc] at h
          refine R_iconst (v := 0) (dd dt_L_law_16 11 rfl) ic_0 ?_
          obtain rfl := Option.some.inj h
          exact R_zret rfl (by decide) (dd dt_L_law_16 12 rfl) (hQ _)
      rw [if_neg hs28] at h
      by_cases hs29 : (x1 &&& 63) = 29
      · refine R_tabIn (off := 1194) (tgt := 1227) (dd dt_L_law_0 21 rfl) (by rw [hs29]; decide) (by rw [hs29]; decide) (by rw [hs29]; rfl) rfl ?_
        rw [if_pos hs29] at h
        refine R_aload_n (dd dt_L_law_16 13 rfl) 1 rfl rfl ?_
        obtain ⟨z346, e345, h⟩ := bi_el h
        refine c_L_140 (As := []) (st1 := [.int z346.1]) rfl (fun Q1 hq => ok_11_dropRow e345 k1 hq) k1 rfl rfl (Nat.le_of_ble_eq_true rfl) (dd dt_L_law_16 14 rfl) rfl ?_
        refine R_aload_n (dd dt_L_law_16 15 rfl) 2 rfl rfl ?_
        obtain ⟨z348, e347, h⟩ := bi_el h
        refine c_L_143 (As := []) (st1 := [.int z348.1, .int z346.1]) rfl (fun Q1 hq => ok_12_dropRow e347 k2 hq) k2 rfl rfl (Nat.le_of_ble_eq_true rfl) (dd dt_L_law_16 16 rfl) rfl ?_
        refine R_cmpeq (dd dt_L_law_16 17 rfl) (tgt := 1718) rfl (fun hc => ?_) (fun hc => ?_)
        · rw [if_pos hc] at h
          refine R_iinc (v := 6) (lv' := [some (.ref a0), some (.ref a1), some (.ref a2), some (.int (v3 + 6))]) (dd dt_L_law_24 2 rfl) (by decide) rfl rfl ic_6 rfl ?_
          refine R_goto (dd dt_L_law_24 3 rfl) (tgt := 18) rfl ?_
          exact R_mask [true, true, true, true] rfl (ok_L_law_l18 L xs hE a0 a1 a2 k0 k1 k2 n (v3 + 6) z348.2 _ h hQ)
        · rw [if_neg hc] at h
          refine R_iconst (v := 0) (dd dt_L_law_16 18 rfl) ic_0 ?_
          obtain rfl := Option.some.inj h
          exact R_zret rfl (by decide) (dd dt_L_law_16 19 rfl) (hQ _)
      rw [if_neg hs29] at h
      by_cases hs30 : (x1 &&& 63) = 30
      · refine R_tabIn (off := 1207) (tgt := 1240) (dd dt_L_law_0 21 rfl) (by rw [hs30]; decide) (by rw [hs30]; decide) (by rw [hs30]; rfl) rfl ?_
        rw [if_pos hs30] at h
        refine R_aload_n (dd dt_L_law_16 20 rfl) 1 rfl rfl ?_
        obtain ⟨x350, e349, h⟩ := bi_el h
        refine c_L_144 (As := []) (st1 := [.int x350]) rfl (fun Q1 hq => ok_11_judge e349 k1 hq) k1 rfl rfl (Nat.le_of_ble_eq_true rfl) (dd dt_L_law_16 21 rfl) rfl ?_
        refine R_aload_n (dd dt_L_law_16 22 rfl) 2 rfl rfl ?_
        obtain ⟨x352, e351, h⟩ := bi_el h
        refine c_L_147 (As := []) (st1 := [.int x352, .int x350]) rfl (fun Q1 hq => ok_12_judge e351 k2 hq) k2 rfl rfl (Nat.le_of_ble_eq_true rfl) (dd dt_L_law_16 23 rfl) rfl ?_
        refine R_cmpeq (dd dt_L_law_16 24 rfl) (tgt := 1718) rfl (fun hc => ?_) (fun hc => ?_)
        · rw [if_pos hc] at h
          refine R_iinc (v := 6) (lv' := [some (.ref a0), some (.ref a1), some (.ref a2), some (.int (v3 + 6))]) (dd dt_L_law_24 2 rfl) (by decide) rfl rfl ic_6 rfl ?_
          refine R_goto (dd dt_L_law_24 3 rfl) (tgt := 18) rfl ?_
          exact R_mask [true, true, true, true] rfl (ok_L_law_l18 L xs hE a0 a1 a2 k0 k1 k2 n (v3 + 6) μ _ h hQ)
        · rw [if_neg hc] at h
          refine R_iconst (v := 0) (dd dt_L_law_16 25 rfl) ic_0 ?_
          obtain rfl := Option.some.inj h
          exact R_zret rfl (by decide) (dd dt_L_law_16 26 rfl) (hQ _)
      rw [if_neg hs30] at h
      by_cases hs31 : (x1 &&& 63) = 31
      · refine R_tabIn (off := 1220) (tgt := 1253) (dd dt_L_law_0 21 rfl) (by rw [hs31]; decide) (by rw [hs31]; decide) (by rw [hs31]; rfl) rfl ?_
        rw [if_pos hs31] at h
        refine R_aload_n (dd dt_L_law_16 27 rfl) 1 rfl rfl ?_
        refine R_aload_n (dd dt_L_law_16 28 rfl) 0 rfl rfl ?_
        refine R_iload_n (dd dt_L_law_16 29 rfl) 3 rfl rfl ?_
        refine R_iconst (v := 1) (dd dt_L_law_16 30 rfl) ic_1 ?_
        refine R_iadd (dd dt_L_law_16 31 rfl) ?_
        obtain ⟨x353, e354, h⟩ := bi_el h
        refine R_scr hE e354 k0 (dd dt_L_law_16 32 rfl) ?_
        obtain ⟨z356, e355, h⟩ := bi_el h
        refine c_L_148 (As := [.int x353]) (st1 := [.int z356.1]) rfl (fun Q1 hq => ok_11_clause e355 k1 hq) k1 rfl rfl (Nat.le_of_ble_eq_true rfl) (dd dt_L_law_16 33 rfl) rfl ?_
        refine R_aload_n (dd dt_L_law_16 34 rfl) 2 rfl rfl ?_
        refine R_aload_n (dd dt_L_law_16 35 rfl) 0 rfl rfl ?_
        refine R_iload_n (dd dt_L_law_16 36 rfl) 3 rfl rfl ?_
        refine R_iconst (v := 1) (dd dt_L_law_16 37 rfl) ic_1 ?_
        refine R_iadd (dd dt_L_law_16 38 rfl) ?_
        obtain ⟨x357, e358, h⟩ := bi_el h
        refine R_scr hE e358 k0 (dd dt_L_law_16 39 rfl) ?_
        obtain ⟨z360, e359, h⟩ := bi_el h
        refine c_L_151 (As := [.int x357]) (st1 := [.int z360.1, .int z356.1]) rfl (fun Q1 hq => ok_12_clause e359 k2 hq) k2 rfl rfl (Nat.le_of_ble_eq_true rfl) (dd dt_L_law_16 40 rfl) rfl ?_
        refine R_cmpeq (dd dt_L_law_16 41 rfl) (tgt := 1718) rfl (fun hc => ?_) (fun hc => ?_)
        · rw [if_pos hc] at h
          refine R_iinc (v := 6) (lv' := [some (.ref a0), some (.ref a1), some (.ref a2), some (.int (v3 + 6))]) (dd dt_L_law_24 2 rfl) (by decide) rfl rfl ic_6 rfl ?_
          refine R_goto (dd dt_L_law_24 3 rfl) (tgt := 18) rfl ?_
          exact R_mask [true, true, true, true] rfl (ok_L_law_l18 L xs hE a0 a1 a2 k0 k1 k2 n (v3 + 6) z360.2 _ h hQ)
        · rw [if_neg hc] at h
          refine R_iconst (v := 0) (dd dt_L_law_16 42 rfl) ic_0 ?_
          obtain rfl := Option.some.inj h
          exact R_zret rfl (by decide) (dd dt_L_law_16 43 rfl) (hQ _)
      rw [if_neg hs31] at h
      by_cases hs32 : (x1 &&& 63) = 32
      · refine R_tabIn (off := 1243) (tgt := 1276) (dd dt_L_law_0 21 rfl) (by rw [hs32]; decide) (by rw [hs32]; decide) (by rw [hs32]; rfl) rfl ?_
        rw [if_pos hs32] at h
        refine R_aload_n (dd dt_L_law_16 44 rfl) 1 rfl rfl ?_
        refine R_aload_n (dd dt_L_law_16 45 rfl) 0 rfl rfl ?_
        refine R_iload_n (dd dt_L_law_16 46 rfl) 3 rfl rfl ?_
        refine R_iconst (v := 1) (dd dt_L_law_16 47 rfl) ic_1 ?_
        refine R_iadd (dd dt_L_law_16 48 rfl) ?_
        obtain ⟨x361, e362, h⟩ := bi_el h
        refine R_scr hE e362 k0 (dd dt_L_law_16 49 rfl) ?_
        refine R_aload_n (dd dt_L_law_17 0 rfl) 0 rfl rfl ?_
        refine R_iload_n (dd dt_L_law_17 1 rfl) 3 rfl rfl ?_
        refine R_iconst (v := 2) (dd dt_L_law_17 2 rfl) ic_2 ?_
        refine R_iadd (dd dt_L_law_17 3 rfl) ?_
        obtain ⟨x363, e364, h⟩ := bi_el h
        refine R_scr hE e364 k0 (dd dt_L_law_17 4 rfl) ?_
        refine R_aload_n (dd dt_L_law_17 5 rfl) 0 rfl rfl ?_
        refine R_iload_n (dd dt_L_law_17 6 rfl) 3 rfl rfl ?_
        refine R_iconst (v := 3) (dd dt_L_law_17 7 rfl) ic_3 ?_
        refine R_iadd (dd dt_L_law_17 8 rfl) ?_
        obtain ⟨x365, e366, h⟩ := bi_el h
        refine R_scr hE e366 k0 (dd dt_L_law_17 9 rfl) ?_
        obtain ⟨z368, e367, h⟩ := bi_el h
        refine c_L_152 (As := [.int x361, .int x363, .int x365]) (st1 := [.int z368.1]) rfl (fun Q1 hq => ok_11_worth e367 k1 hq) k1 rfl rfl (Nat.le_of_ble_eq_true rfl) (dd dt_L_law_17 10 rfl) rfl ?_
        refine R_aload_n (dd dt_L_law_17 11 rfl) 2 rfl rfl ?_
        refine R_aload_n (dd dt_L_law_17 12 rfl) 0 rfl rfl ?_
        refine R_iload_n (dd dt_L_law_17 13 rfl) 3 rfl rfl ?_
        refine R_iconst (v := 1) (dd dt_L_law_17 14 rfl) ic_1 ?_
        refine R_iadd (dd dt_L_law_17 15 rfl) ?_
        obtain ⟨x369, e370, h⟩ := bi_el h
        refine R_scr hE e370 k0 (dd dt_L_law_17 16 rfl) ?_
        refine R_aload_n (dd dt_L_law_17 17 rfl) 0 rfl rfl ?_
        refine R_iload_n (dd dt_L_law_17 18 rfl) 3 rfl rfl ?_
        refine R_iconst (v := 2) (dd dt_L_law_17 19 rfl) ic_2 ?_
        refine R_iadd (dd dt_L_law_17 20 rfl) ?_
        obtain ⟨x371, e372, h⟩ := bi_el h
        refine R_scr hE e372 k0 (dd dt_L_law_17 21 rfl) ?_
        refine R_aload_n (dd dt_L_law_17 22 rfl) 0 rfl rfl ?_
        refine R_iload_n (dd dt_L_law_17 23 rfl) 3 rfl rfl ?_
        refine R_iconst (v := 3) (dd dt_L_law_17 24 rfl) ic_3 ?_
        refine R_iadd (dd dt_L_law_17 25 rfl) ?_
        obtain ⟨x373, e374, h⟩ := bi_el h
        refine R_scr hE e374 k0 (dd dt_L_law_17 26 rfl) ?_
        obtain ⟨z376, e375, h⟩ := bi_el h
        refine c_L_155 (As := [.int x369, .int x371, .int x373]) (st1 := [.int z376.1, .int z368.1]) rfl (fun Q1 hq => ok_12_worth e375 k2 hq) k2 rfl rfl (Nat.le_of_ble_eq_true rfl) (dd dt_L_law_17 27 rfl) rfl ?_
        refine R_cmpeq (dd dt_L_law_17 28 rfl) (tgt := 1718) rfl (fun hc => ?_) (fun hc => ?_)
        · rw [if_pos hc] at h
          refine R_iinc (v := 6) (lv' := [some (.ref a0), some (.ref a1), some (.ref a2), some (.int (v3 + 6))]) (dd dt_L_law_24 2 rfl) (by decide) rfl rfl ic_6 rfl ?_
          refine R_goto (dd dt_L_law_24 3 rfl) (tgt := 18) rfl ?_
          exact R_mask [true, true, true, true] rfl (ok_L_law_l18 L xs hE a0 a1 a2 k0 k1 k2 n (v3 + 6) z376.2 _ h hQ)
        · rw [if_neg hc] at h
          refine R_iconst (v := 0) (dd dt_L_law_17 29 rfl) ic_0 ?_
          obtain rfl := Option.some.inj h
          exact R_zret rfl (by decide) (dd dt_L_law_17 30 rfl) (hQ _)
      rw [if_neg hs32] at h
      by_cases hs33 : (x1 &&& 63) = 33
      · refine R_tabIn (off := 1286) (tgt := 1319) (dd dt_L_law_0 21 rfl) (by rw [hs33]; decide) (by rw [hs33]; decide) (by rw [hs33]; rfl) rfl ?_
        rw [if_pos hs33] at h
        refine R_aload_n (dd dt_L_law_17 31 rfl) 1 rfl rfl ?_
        refine R_aload_n (dd dt_L_law_17 32 rfl) 0 rfl rfl ?_
        refine R_iload_n (dd dt_L_law_17 33 rfl) 3 rfl rfl ?_
        refine R_iconst (v := 1) (dd dt_L_law_17 34 rfl) ic_1 ?_
        refine R_iadd (dd dt_L_law_17 35 rfl) ?_
        obtain ⟨x377, e378, h⟩ := bi_el h
        refine R_scr hE e378 k0 (dd dt_L_law_17 36 rfl) ?_
        refine R_aload_n (dd dt_L_law_17 37 rfl) 0 rfl rfl ?_
        refine R_iload_n (dd dt_L_law_17 38 rfl) 3 rfl rfl ?_
        refine R_iconst (v := 2) (dd dt_L_law_17 39 rfl) ic_2 ?_
        refine R_iadd (dd dt_L_law_17 40 rfl) ?_
        obtain ⟨x379, e380, h⟩ := bi_el h
        refine R_scr hE e380 k0 (dd dt_L_law_17 41 rfl) ?_
        obtain ⟨z382, e381, h⟩ := bi_el h
        refine c_L_156 (As := [.int x377, .int x379]) (st1 := [.int z382.1]) rfl (fun Q1 hq => ok_11_ballot e381 k1 hq) k1 rfl rfl (Nat.le_of_ble_eq_true rfl) (dd dt_L_law_17 42 rfl) rfl ?_
        refine R_aload_n (dd dt_L_law_17 43 rfl) 2 rfl rfl ?_
        refine R_aload_n (dd dt_L_law_17 44 rfl) 0 rfl rfl ?_
        refine R_iload_n (dd dt_L_law_17 45 rfl) 3 rfl rfl ?_
        refine R_iconst (v := 1) (dd dt_L_law_17 46 rfl) ic_1 ?_
        refine R_iadd (dd dt_L_law_17 47 rfl) ?_
        obtain ⟨x383, e384, h⟩ := bi_el h
        refine R_scr hE e384 k0 (dd dt_L_law_17 48 rfl) ?_
        refine R_aload_n (dd dt_L_law_17 49 rfl) 0 rfl rfl ?_
        refine R_iload_n (dd dt_L_law_18 0 rfl) 3 rfl rfl ?_
        refine R_iconst (v := 2) (dd dt_L_law_18 1 rfl) ic_2 ?_
        refine R_iadd (dd dt_L_law_18 2 rfl) ?_
        obtain ⟨x385, e386, h⟩ := bi_el h
        refine R_scr hE e386 k0 (dd dt_L_law_18 3 rfl) ?_
        obtain ⟨z388, e387, h⟩ := bi_el h
        refine c_L_159 (As := [.int x383, .int x385]) (st1 := [.int z388.1, .int z382.1]) rfl (fun Q1 hq => ok_12_ballot e387 k2 hq) k2 rfl rfl (Nat.le_of_ble_eq_true rfl) (dd dt_L_law_18 4 rfl) rfl ?_
        refine R_cmpeq (dd dt_L_law_18 5 rfl) (tgt := 1718) rfl (fun hc => ?_) (fun hc => ?_)
        · rw [if_pos hc] at h
          refine R_iinc (v := 6) (lv' := [some (.ref a0), some (.ref a1), some (.ref a2), some (.int (v3 + 6))]) (dd dt_L_law_24 2 rfl) (by decide) rfl rfl ic_6 rfl ?_
          refine R_goto (dd dt_L_law_24 3 rfl) (tgt := 18) rfl ?_
          exact R_mask [true, true, true, true] rfl (ok_L_law_l18 L xs hE a0 a1 a2 k0 k1 k2 n (v3 + 6) z388.2 _ h hQ)
        · rw [if_neg hc] at h
          refine R_iconst (v := 0) (dd dt_L_law_18 6 rfl) ic_0 ?_
          obtain rfl := Option.some.inj h
          exact R_zret rfl (by decide) (dd dt_L_law_18 7 rfl) (hQ _)
      rw [if_neg hs33] at h
      by_cases hs34 : (x1 &&& 63) = 34
      · refine R_tabIn (off := 1319) (tgt := 1352) (dd dt_L_law_0 21 rfl) (by rw [hs34]; decide) (by rw [hs34]; decide) (by rw [hs34]; rfl) rfl ?_
        rw [if_pos hs34] at h
        refine R_aload_n (dd dt_L_law_18 8 rfl) 1 rfl rfl ?_
        obtain ⟨z390, e389, h⟩ := bi_el h
        refine c_L_160 (As := []) (st1 := [.int z390.1]) rfl (fun Q1 hq => ok_11_offer e389 k1 hq) k1 rfl rfl (Nat.le_of_ble_eq_true rfl) (dd dt_L_law_18 9 rfl) rfl ?_
        refine R_aload_n (dd dt_L_law_18 10 rfl) 2 rfl rfl ?_
        obtain ⟨z392, e391, h⟩ := bi_el h
        refine c_L_163 (As := []) (st1 := [.int z392.1, .int z390.1]) rfl (fun Q1 hq => ok_12_offer e391 k2 hq) k2 rfl rfl (Nat.le_of_ble_eq_true rfl) (dd dt_L_law_18 11 rfl) rfl ?_
        refine R_cmpeq (dd dt_L_law_18 12 rfl) (tgt := 1718) rfl (fun hc => ?_) (fun hc => ?_)
        · rw [if_pos hc] at h
          refine R_iinc (v := 6) (lv' := [some (.ref a0), some (.ref a1), some (.ref a2), some (.int (v3 + 6))]) (dd dt_L_law_24 2 rfl) (by decide) rfl rfl ic_6 rfl ?_
          refine R_goto (dd dt_L_law_24 3 rfl) (tgt := 18) rfl ?_
          exact R_mask [true, true, true, true] rfl (ok_L_law_l18 L xs hE a0 a1 a2 k0 k1 k2 n (v3 + 6) z392.2 _ h hQ)
        · rw [if_neg hc] at h
          refine R_iconst (v := 0) (dd dt_L_law_18 13 rfl) ic_0 ?_
          obtain rfl := Option.some.inj h
          exact R_zret rfl (by decide) (dd dt_L_law_18 14 rfl) (hQ _)
      rw [if_neg hs34] at h
      by_cases hs35 : (x1 &&& 63) = 35
      · refine R_tabIn (off := 1332) (tgt := 1365) (dd dt_L_law_0 21 rfl) (by rw [hs35]; decide) (by rw [hs35]; decide) (by rw [hs35]; rfl) rfl ?_
        rw [if_pos hs35] at h
        refine R_aload_n (dd dt_L_law_18 15 rfl) 1 rfl rfl ?_
        refine R_aload_n (dd dt_L_law_18 16 rfl) 0 rfl rfl ?_
        refine R_iload_n (dd dt_L_law_18 17 rfl) 3 rfl rfl ?_
        refine R_iconst (v := 1) (dd dt_L_law_18 18 rfl) ic_1 ?_
        refine R_iadd (dd dt_L_law_18 19 rfl) ?_
        obtain ⟨x393, e394, h⟩ := bi_el h
        refine R_scr hE e394 k0 (dd dt_L_law_18 20 rfl) ?_
        refine R_aload_n (dd dt_L_law_18 21 rfl) 0 rfl rfl ?_
        refine R_iload_n (dd dt_L_law_18 22 rfl) 3 rfl rfl ?_
        refine R_iconst (v := 2) (dd dt_L_law_18 23 rfl) ic_2 ?_
        refine R_iadd (dd dt_L_law_18 24 rfl) ?_
        obtain ⟨x395, e396, h⟩ := bi_el h
        refine R_scr hE e396 k0 (dd dt_L_law_18 25 rfl) ?_
        refine R_aload_n (dd dt_L_law_18 26 rfl) 0 rfl rfl ?_
        refine R_iload_n (dd dt_L_law_18 27 rfl) 3 rfl rfl ?_
        refine R_iconst (v := 3) (dd dt_L_law_18 28 rfl) ic_3 ?_
        refine R_iadd (dd dt_L_law_18 29 rfl) ?_
        obtain ⟨x397, e398, h⟩ := bi_el h
        refine R_scr hE e398 k0 (dd dt_L_law_18 30 rfl) ?_
        obtain ⟨z400, e399, h⟩ := bi_el h
        refine c_L_164 (As := [.int x393, .int x395, .int x397]) (st1 := [.int z400.1]) rfl (fun Q1 hq => ok_11_sheet e399 k1 hq) k1 rfl rfl (Nat.le_of_ble_eq_true rfl) (dd dt_L_law_18 31 rfl) rfl ?_
        refine R_aload_n (dd dt_L_law_18 32 rfl) 2 rfl rfl ?_
        refine R_aload_n (dd dt_L_law_18 33 rfl) 0 rfl rfl ?_
        refine R_iload_n (dd dt_L_law_18 34 rfl) 3 rfl rfl ?_
        refine R_iconst (v := 1) (dd dt_L_law_18 35 rfl) ic_1 ?_
        refine R_iadd (dd dt_L_law_18 36 rfl) ?_
        obtain ⟨x401, e402, h⟩ := bi_el h
        refine R_scr hE e402 k0 (dd dt_L_law_18 37 rfl) ?_
        refine R_aload_n (dd dt_L_law_18 38 rfl) 0 rfl rfl ?_
        refine R_iload_n (dd dt_L_law_18 39 rfl) 3 rfl rfl ?_
        refine R_iconst (v := 2) (dd dt_L_law_18 40 rfl) ic_2 ?_
        refine R_iadd (dd dt_L_law_18 41 rfl) ?_
        obtain ⟨x403, e404, h⟩ := bi_el h
        refine R_scr hE e404 k0 (dd dt_L_law_18 42 rfl) ?_
        refine R_aload_n (dd dt_L_law_18 43 rfl) 0 rfl rfl ?_
        refine R_iload_n (dd dt_L_law_18 44 rfl) 3 rfl rfl ?_
        refine R_iconst (v := 3) (dd dt_L_law_18 45 rfl) ic_3 ?_
        refine R_iadd (dd dt_L_law_18 46 rfl) ?_
        obtain ⟨x405, e406, h⟩ := bi_el h
        refine R_scr hE e406 k0 (dd dt_L_law_18 47 rfl) ?_
        obtain ⟨z408, e407, h⟩ := bi_el h
        refine c_L_167 (As := [.int x401, .int x403, .int x405]) (st1 := [.int z408.1, .int z400.1]) rfl (fun Q1 hq => ok_12_sheet e407 k2 hq) k2 rfl rfl (Nat.le_of_ble_eq_true rfl) (dd dt_L_law_18 48 rfl) rfl ?_
        refine R_cmpeq (dd dt_L_law_18 49 rfl) (tgt := 1718) rfl (fun hc => ?_) (fun hc => ?_)
        · rw [if_pos hc] at h
          refine R_iinc (v := 6) (lv' := [some (.ref a0), some (.ref a1), some (.ref a2), some (.int (v3 + 6))]) (dd dt_L_law_24 2 rfl) (by decide) rfl rfl ic_6 rfl ?_
          refine R_goto (dd dt_L_law_24 3 rfl) (tgt := 18) rfl ?_
          exact R_mask [true, true, true, true] rfl (ok_L_law_l18 L xs hE a0 a1 a2 k0 k1 k2 n (v3 + 6) z408.2 _ h hQ)
        · rw [if_neg hc] at h
          refine R_iconst (v := 0) (dd dt_L_law_19 0 rfl) ic_0 ?_
          obtain rfl := Option.some.inj h
          exact R_zret rfl (by decide) (dd dt_L_law_19 1 rfl) (hQ _)
      rw [if_neg hs35] at h
      by_cases hs36 : (x1 &&& 63) = 36
      · refine R_tabIn (off := 1375) (tgt := 1408) (dd dt_L_law_0 21 rfl) (by rw [hs36]; decide) (by rw [hs36]; decide) (by rw [hs36]; rfl) rfl ?_
        rw [if_pos hs36] at h
        refine R_aload_n (dd dt_L_law_19 2 rfl) 1 rfl rfl ?_
        refine R_aload_n (dd dt_L_law_19 3 rfl) 0 rfl rfl ?_
        refine R_iload_n (dd dt_L_law_19 4 rfl) 3 rfl rfl ?_
        refine R_iconst (v := 1) (dd dt_L_law_19 5 rfl) ic_1 ?_
        refine R_iadd (dd dt_L_law_19 6 rfl) ?_
        obtain ⟨x409, e410, h⟩ := bi_el h
        refine R_scr hE e410 k0 (dd dt_L_law_19 7 rfl) ?_
        refine R_aload_n (dd dt_L_law_19 8 rfl) 0 rfl rfl ?_
        refine R_iload_n (dd dt_L_law_19 9 rfl) 3 rfl rfl ?_
        refine R_iconst (v := 2) (dd dt_L_law_19 10 rfl) ic_2 ?_
        refine R_iadd (dd dt_L_law_19 11 rfl) ?_
        obtain ⟨x411, e412, h⟩ := bi_el h
        refine R_scr hE e412 k0 (dd dt_L_law_19 12 rfl) ?_
        refine R_aload_n (dd dt_L_law_19 13 rfl) 0 rfl rfl ?_
        refine R_iload_n (dd dt_L_law_19 14 rfl) 3 rfl rfl ?_
        refine R_iconst (v := 3) (dd dt_L_law_19 15 rfl) ic_3 ?_
        refine R_iadd (dd dt_L_law_19 16 rfl) ?_
        obtain ⟨x413, e414, h⟩ := bi_el h
        refine R_scr hE e414 k0 (dd dt_L_law_19 17 rfl) ?_
        obtain ⟨z416, e415, h⟩ := bi_el h
        refine c_L_168 (As := [.int x409, .int x411, .int x413]) (st1 := [.int z416.1]) rfl (fun Q1 hq => ok_11_put e415 k1 hq) k1 rfl rfl (Nat.le_of_ble_eq_true rfl) (dd dt_L_law_19 18 rfl) rfl ?_
        refine R_aload_n (dd dt_L_law_19 19 rfl) 2 rfl rfl ?_
        refine R_aload_n (dd dt_L_law_19 20 rfl) 0 rfl rfl ?_
        refine R_iload_n (dd dt_L_law_19 21 rfl) 3 rfl rfl ?_
        refine R_iconst (v := 1) (dd dt_L_law_19 22 rfl) ic_1 ?_
        refine R_iadd (dd dt_L_law_19 23 rfl) ?_
        obtain ⟨x417, e418, h⟩ := bi_el h
        refine R_scr hE e418 k0 (dd dt_L_law_19 24 rfl) ?_
        refine R_aload_n (dd dt_L_law_19 25 rfl) 0 rfl rfl ?_
        refine R_iload_n (dd dt_L_law_19 26 rfl) 3 rfl rfl ?_
        refine R_iconst (v := 2) (dd dt_L_law_19 27 rfl) ic_2 ?_
        refine R_iadd (dd dt_L_law_19 28 rfl) ?_
        obtain ⟨x419, e420, h⟩ := bi_el h
        refine R_scr hE e420 k0 (dd dt_L_law_19 29 rfl) ?_
        refine R_aload_n (dd dt_L_law_19 30 rfl) 0 rfl rfl ?_
        refine R_iload_n (dd dt_L_law_19 31 rfl) 3 rfl rfl ?_
        refine R_iconst (v := 3) (dd dt_L_law_19 32 rfl) ic_3 ?_
        refine R_iadd (dd dt_L_law_19 33 rfl) ?_
        obtain ⟨x421, e422, h⟩ := bi_el h
        refine R_scr hE e422 k0 (dd dt_L_law_19 34 rfl) ?_
        obtain ⟨z424, e423, h⟩ := bi_el h
        refine c_L_171 (As := [.int x417, .int x419, .int x421]) (st1 := [.int z424.1, .int z416.1]) rfl (fun Q1 hq => ok_12_put e423 k2 hq) k2 rfl rfl (Nat.le_of_ble_eq_true rfl) (dd dt_L_law_19 35 rfl) rfl ?_
        refine R_cmpeq (dd dt_L_law_19 36 rfl) (tgt := 1718) rfl (fun hc => ?_) (fun hc => ?_)
        · rw [if_pos hc] at h
          refine R_iinc (v := 6) (lv' := [some (.ref a0), some (.ref a1), some (.ref a2), some (.int (v3 + 6))]) (dd dt_L_law_24 2 rfl) (by decide) rfl rfl ic_6 rfl ?_
          refine R_goto (dd dt_L_law_24 3 rfl) (tgt := 18) rfl ?_
          exact R_mask [true, true, true, true] rfl (ok_L_law_l18 L xs hE a0 a1 a2 k0 k1 k2 n (v3 + 6) z424.2 _ h hQ)
        · rw [if_neg hc] at h
          refine R_iconst (v := 0) (dd dt_L_law_19 37 rfl) ic_0 ?_
          obtain rfl := Option.some.inj h
          exact R_zret rfl (by decide) (dd dt_L_law_19 38 rfl) (hQ _)
      rw [if_neg hs36] at h
      by_cases hs37 : (x1 &&& 63) = 37
      · refine R_tabIn (off := 1418) (tgt := 1451) (dd dt_L_law_0 21 rfl) (by rw [hs37]; decide) (by rw [hs37]; decide) (by rw [hs37]; rfl) rfl ?_
        rw [if_pos hs37] at h
        refine R_aload_n (dd dt_L_law_19 39 rfl) 1 rfl rfl ?_
        refine R_aload_n (dd dt_L_law_19 40 rfl) 0 rfl rfl ?_
        refine R_iload_n (dd dt_L_law_19 41 rfl) 3 rfl rfl ?_
        refine R_iconst (v := 1) (dd dt_L_law_19 42 rfl) ic_1 ?_
        refine R_iadd (dd dt_L_law_19 43 rfl) ?_
        obtain ⟨x425, e426, h⟩ := bi_el h
        refine R_scr hE e426 k0 (dd dt_L_law_19 44 rfl) ?_
        refine R_aload_n (dd dt_L_law_19 45 rfl) 0 rfl rfl ?_
        refine R_iload_n (dd dt_L_law_19 46 rfl) 3 rfl rfl ?_
        refine R_iconst (v := 2) (dd dt_L_law_19 47 rfl) ic_2 ?_
        refine R_iadd (dd dt_L_law_19 48 rfl) ?_
        obtain ⟨x427, e428, h⟩ := bi_el h
        refine R_scr hE e428 k0 (dd dt_L_law_19 49 rfl) ?_
        refine R_aload_n (dd dt_L_law_20 0 rfl) 0 rfl rfl ?_
        refine R_iload_n (dd dt_L_law_20 1 rfl) 3 rfl rfl ?_
        refine R_iconst (v := 3) (dd dt_L_law_20 2 rfl) ic_3 ?_
        refine R_iadd (dd dt_L_law_20 3 rfl) ?_
        obtain ⟨x429, e430, h⟩ := bi_el h
        refine R_scr hE e430 k0 (dd dt_L_law_20 4 rfl) ?_
        obtain ⟨x432, e431, h⟩ := bi_el h
        refine c_L_172 (As := [.int x425, .int x427, .int x429]) (st1 := [.int x432]) rfl (fun Q1 hq => ok_11_item e431 k1 hq) k1 rfl rfl (Nat.le_of_ble_eq_true rfl) (dd dt_L_law_20 5 rfl) rfl ?_
        refine R_aload_n (dd dt_L_law_20 6 rfl) 2 rfl rfl ?_
        refine R_aload_n (dd dt_L_law_20 7 rfl) 0 rfl rfl ?_
        refine R_iload_n (dd dt_L_law_20 8 rfl) 3 rfl rfl ?_
        refine R_iconst (v := 1) (dd dt_L_law_20 9 rfl) ic_1 ?_
        refine R_iadd (dd dt_L_law_20 10 rfl) ?_
        obtain ⟨x433, e434, h⟩ := bi_el h
        refine R_scr hE e434 k0 (dd dt_L_law_20 11 rfl) ?_
        refine R_aload_n (dd dt_L_law_20 12 rfl) 0 rfl rfl ?_
        refine R_iload_n (dd dt_L_law_20 13 rfl) 3 rfl rfl ?_
        refine R_iconst (v := 2) (dd dt_L_law_20 14 rfl) ic_2 ?_
        refine R_iadd (dd dt_L_law_20 15 rfl) ?_
        obtain ⟨x435, e436, h⟩ := bi_el h
        refine R_scr hE e436 k0 (dd dt_L_law_20 16 rfl) ?_
        refine R_aload_n (dd dt_L_law_20 17 rfl) 0 rfl rfl ?_
        refine R_iload_n (dd dt_L_law_20 18 rfl) 3 rfl rfl ?_
        refine R_iconst (v := 3) (dd dt_L_law_20 19 rfl) ic_3 ?_
        refine R_iadd (dd dt_L_law_20 20 rfl) ?_
        obtain ⟨x437, e438, h⟩ := bi_el h
        refine R_scr hE e438 k0 (dd dt_L_law_20 21 rfl) ?_
        obtain ⟨x440, e439, h⟩ := bi_el h
        refine c_L_175 (As := [.int x433, .int x435, .int x437]) (st1 := [.int x440, .int x432]) rfl (fun Q1 hq => ok_12_item e439 k2 hq) k2 rfl rfl (Nat.le_of_ble_eq_true rfl) (dd dt_L_law_20 22 rfl) rfl ?_
        refine R_cmpeq (dd dt_L_law_20 23 rfl) (tgt := 1718) rfl (fun hc => ?_) (fun hc => ?_)
        · rw [if_pos hc] at h
          refine R_iinc (v := 6) (lv' := [some (.ref a0), some (.ref a1), some (.ref a2), some (.int (v3 + 6))]) (dd dt_L_law_24 2 rfl) (by decide) rfl rfl ic_6 rfl ?_
          refine R_goto (dd dt_L_law_24 3 rfl) (tgt := 18) rfl ?_
          exact R_mask [true, true, true, true] rfl (ok_L_law_l18 L xs hE a0 a1 a2 k0 k1 k2 n (v3 + 6) μ _ h hQ)
        · rw [if_neg hc] at h
          refine R_iconst (v := 0) (dd dt_L_law_20 24 rfl) ic_0 ?_
          obtain rfl := Option.some.inj h
          exact R_zret rfl (by decide) (dd dt_L_law_20 25 rfl) (hQ _)
      rw [if_neg hs37] at h
      by_cases hs38 : (x1 &&& 63) = 38
      · refine R_tabIn (off := 1461) (tgt := 1494) (dd dt_L_law_0 21 rfl) (by rw [hs38]; decide) (by rw [hs38]; decide) (by rw [hs38]; rfl) rfl ?_
        rw [if_pos hs38] at h
        refine R_aload_n (dd dt_L_law_20 26 rfl) 1 rfl rfl ?_
        refine R_aload_n (dd dt_L_law_20 27 rfl) 0 rfl rfl ?_
        refine R_iload_n (dd dt_L_law_20 28 rfl) 3 rfl rfl ?_
        refine R_iconst (v := 1) (dd dt_L_law_20 29 rfl) ic_1 ?_
        refine R_iadd (dd dt_L_law_20 30 rfl) ?_
        obtain ⟨x441, e442, h⟩ := bi_el h
        refine R_scr hE e442 k0 (dd dt_L_law_20 31 rfl) ?_
        refine R_aload_n (dd dt_L_law_20 32 rfl) 0 rfl rfl ?_
        refine R_iload_n (dd dt_L_law_20 33 rfl) 3 rfl rfl ?_
        refine R_iconst (v := 2) (dd dt_L_law_20 34 rfl) ic_2 ?_
        refine R_iadd (dd dt_L_law_20 35 rfl) ?_
        obtain ⟨x443, e444, h⟩ := bi_el h
        refine R_scr hE e444 k0 (dd dt_L_law_20 36 rfl) ?_
        obtain ⟨z446, e445, h⟩ := bi_el h
        refine c_L_176 (As := [.int x441, .int x443]) (st1 := [.int z446.1]) rfl (fun Q1 hq => ok_11_comes e445 k1 hq) k1 rfl rfl (Nat.le_of_ble_eq_true rfl) (dd dt_L_law_20 37 rfl) rfl ?_
        refine R_aload_n (dd dt_L_law_20 38 rfl) 2 rfl rfl ?_
        refine R_aload_n (dd dt_L_law_20 39 rfl) 0 rfl rfl ?_
        refine R_iload_n (dd dt_L_law_20 40 rfl) 3 rfl rfl ?_
        refine R_iconst (v := 1) (dd dt_L_law_20 41 rfl) ic_1 ?_
        refine R_iadd (dd dt_L_law_20 42 rfl) ?_
        obtain ⟨x447, e448, h⟩ := bi_el h
        refine R_scr hE e448 k0 (dd dt_L_law_20 43 rfl) ?_
        refine R_aload_n (dd dt_L_law_20 44 rfl) 0 rfl rfl ?_
        refine R_iload_n (dd dt_L_law_20 45 rfl) 3 rfl rfl ?_
        refine R_iconst (v := 2) (dd dt_L_law_20 46 rfl) ic_2 ?_
        refine R_iadd (dd dt_L_law_20 47 rfl) ?_
        obtain ⟨x449, e450, h⟩ := bi_el h
        refine R_scr hE e450 k0 (dd dt_L_law_20 48 rfl) ?_
        obtain ⟨z452, e451, h⟩ := bi_el h
        refine c_L_179 (As := [.int x447, .int x449]) (st1 := [.int z452.1, .int z446.1]) rfl (fun Q1 hq => ok_12_comes e451 k2 hq) k2 rfl rfl (Nat.le_of_ble_eq_true rfl) (dd dt_L_law_20 49 rfl) rfl ?_
        refine R_cmpeq (dd dt_L_law_21 0 rfl) (tgt := 1718) rfl (fun hc => ?_) (fun hc => ?_)
        · rw [if_pos hc] at h
          refine R_iinc (v := 6) (lv' := [some (.ref a0), some (.ref a1), some (.ref a2), some (.int (v3 + 6))]) (dd dt_L_law_24 2 rfl) (by decide) rfl rfl ic_6 rfl ?_
          refine R_goto (dd dt_L_law_24 3 rfl) (tgt := 18) rfl ?_
          exact R_mask [true, true, true, true] rfl (ok_L_law_l18 L xs hE a0 a1 a2 k0 k1 k2 n (v3 + 6) z452.2 _ h hQ)
        · rw [if_neg hc] at h
          refine R_iconst (v := 0) (dd dt_L_law_21 1 rfl) ic_0 ?_
          obtain rfl := Option.some.inj h
          exact R_zret rfl (by decide) (dd dt_L_law_21 2 rfl) (hQ _)
      rw [if_neg hs38] at h
      by_cases hs39 : (x1 &&& 63) = 39
      · refine R_tabIn (off := 1494) (tgt := 1527) (dd dt_L_law_0 21 rfl) (by rw [hs39]; decide) (by rw [hs39]; decide) (by rw [hs39]; rfl) rfl ?_
        rw [if_pos hs39] at h
        refine R_aload_n (dd dt_L_law_21 3 rfl) 1 rfl rfl ?_
        refine R_aload_n (dd dt_L_law_21 4 rfl) 0 rfl rfl ?_
        refine R_iload_n (dd dt_L_law_21 5 rfl) 3 rfl rfl ?_
        refine R_iconst (v := 1) (dd dt_L_law_21 6 rfl) ic_1 ?_
        refine R_iadd (dd dt_L_law_21 7 rfl) ?_
        obtain ⟨x453, e454, h⟩ := bi_el h
        refine R_scr hE e454 k0 (dd dt_L_law_21 8 rfl) ?_
        refine R_aload_n (dd dt_L_law_21 9 rfl) 0 rfl rfl ?_
        refine R_iload_n (dd dt_L_law_21 10 rfl) 3 rfl rfl ?_
        refine R_iconst (v := 2) (dd dt_L_law_21 11 rfl) ic_2 ?_
        refine R_iadd (dd dt_L_law_21 12 rfl) ?_
        obtain ⟨x455, e456, h⟩ := bi_el h
        refine R_scr hE e456 k0 (dd dt_L_law_21 13 rfl) ?_
        refine R_aload_n (dd dt_L_law_21 14 rfl) 0 rfl rfl ?_
        refine R_iload_n (dd dt_L_law_21 15 rfl) 3 rfl rfl ?_
        refine R_iconst (v := 3) (dd dt_L_law_21 16 rfl) ic_3 ?_
        refine R_iadd (dd dt_L_law_21 17 rfl) ?_
        obtain ⟨x457, e458, h⟩ := bi_el h
        refine R_scr hE e458 k0 (dd dt_L_law_21 18 rfl) ?_
        obtain ⟨z460, e459, h⟩ := bi_el h
        refine c_L_180 (As := [.int x453, .int x455, .int x457]) (st1 := [.int z460.1]) rfl (fun Q1 hq => ok_11_shelf e459 k1 hq) k1 rfl rfl (Nat.le_of_ble_eq_true rfl) (dd dt_L_law_21 19 rfl) rfl ?_
        refine R_aload_n (dd dt_L_law_21 20 rfl) 2 rfl rfl ?_
        refine R_aload_n (dd dt_L_law_21 21 rfl) 0 rfl rfl ?_
        refine R_iload_n (dd dt_L_law_21 22 rfl) 3 rfl rfl ?_
        refine R_iconst (v := 1) (dd dt_L_law_21 23 rfl) ic_1 ?_
        refine R_iadd (dd dt_L_law_21 24 rfl) ?_
        obtain ⟨x461, e462, h⟩ := bi_el h
        refine R_scr hE e462 k0 (dd dt_L_law_21 25 rfl) ?_
        refine R_aload_n (dd dt_L_law_21 26 rfl) 0 rfl rfl ?_
        refine R_iload_n (dd dt_L_law_21 27 rfl) 3 rfl rfl ?_
        refine R_iconst (v := 2) (dd dt_L_law_21 28 rfl) ic_2 ?_
        refine R_iadd (dd dt_L_law_21 29 rfl) ?_
        obtain ⟨x463, e464, h⟩ := bi_el h
        refine R_scr hE e464 k0 (dd dt_L_law_21 30 rfl) ?_
        refine R_aload_n (dd dt_L_law_21 31 rfl) 0 rfl rfl ?_
        refine R_iload_n (dd dt_L_law_21 32 rfl) 3 rfl rfl ?_
        refine R_iconst (v := 3) (dd dt_L_law_21 33 rfl) ic_3 ?_
        refine R_iadd (dd dt_L_law_21 34 rfl) ?_
        obtain ⟨x465, e466, h⟩ := bi_el h
        refine R_scr hE e466 k0 (dd dt_L_law_21 35 rfl) ?_
        obtain ⟨z468, e467, h⟩ := bi_el h
        refine c_L_183 (As := [.int x461, .int x463, .int x465]) (st1 := [.int z468.1, .int z460.1]) rfl (fun Q1 hq => ok_12_shelf e467 k2 hq) k2 rfl rfl (Nat.le_of_ble_eq_true rfl) (dd dt_L_law_21 36 rfl) rfl ?_
        refine R_cmpeq (dd dt_L_law_21 37 rfl) (tgt := 1718) rfl (fun hc => ?_) (fun hc => ?_)
        · rw [if_pos hc] at h
          refine R_iinc (v := 6) (lv' := [some (.ref a0), some (.ref a1), some (.ref a2), some (.int (v3 + 6))]) (dd dt_L_law_24 2 rfl) (by decide) rfl rfl ic_6 rfl ?_
          refine R_goto (dd dt_L_law_24 3 rfl) (tgt := 18) rfl ?_
          exact R_mask [true, true, true, true] rfl (ok_L_law_l18 L xs hE a0 a1 a2 k0 k1 k2 n (v3 + 6) z468.2 _ h hQ)
        · rw [if_neg hc] at h
          refine R_iconst (v := 0) (dd dt_L_law_21 38 rfl) ic_0 ?_
          obtain rfl := Option.some.inj h
          exact R_zret rfl (by decide) (dd dt_L_law_21 39 rfl) (hQ _)
      rw [if_neg hs39] at h
      by_cases hs40 : (x1 &&& 63) = 40
      · refine R_tabIn (off := 1537) (tgt := 1570) (dd dt_L_law_0 21 rfl) (by rw [hs40]; decide) (by rw [hs40]; decide) (by rw [hs40]; rfl) rfl ?_
        rw [if_pos hs40] at h
        refine R_aload_n (dd dt_L_law_21 40 rfl) 1 rfl rfl ?_
        refine R_aload_n (dd dt_L_law_21 41 rfl) 0 rfl rfl ?_
        refine R_iload_n (dd dt_L_law_21 42 rfl) 3 rfl rfl ?_
        refine R_iconst (v := 1) (dd dt_L_law_21 43 rfl) ic_1 ?_
        refine R_iadd (dd dt_L_law_21 44 rfl) ?_
        obtain ⟨x469, e470, h⟩ := bi_el h
        refine R_scr hE e470 k0 (dd dt_L_law_21 45 rfl) ?_
        refine R_aload_n (dd dt_L_law_21 46 rfl) 0 rfl rfl ?_
        refine R_iload_n (dd dt_L_law_21 47 rfl) 3 rfl rfl ?_
        refine R_iconst (v := 2) (dd dt_L_law_21 48 rfl) ic_2 ?_
        refine R_iadd (dd dt_L_law_21 49 rfl) ?_
        obtain ⟨x471, e472, h⟩ := bi_el h
        refine R_scr hE e472 k0 (dd dt_L_law_22 0 rfl) ?_
        obtain ⟨x474, e473, h⟩ := bi_el h
        refine c_L_184 (As := [.int x469, .int x471]) (st1 := [.int x474]) rfl (fun Q1 hq => ok_11_taken e473 k1 hq) k1 rfl rfl (Nat.le_of_ble_eq_true rfl) (dd dt_L_law_22 1 rfl) rfl ?_
        refine R_aload_n (dd dt_L_law_22 2 rfl) 2 rfl rfl ?_
        refine R_aload_n (dd dt_L_law_22 3 rfl) 0 rfl rfl ?_
        refine R_iload_n (dd dt_L_law_22 4 rfl) 3 rfl rfl ?_
        refine R_iconst (v := 1) (dd dt_L_law_22 5 rfl) ic_1 ?_
        refine R_iadd (dd dt_L_law_22 6 rfl) ?_
        obtain ⟨x475, e476, h⟩ := bi_el h
        refine R_scr hE e476 k0 (dd dt_L_law_22 7 rfl) ?_
        refine R_aload_n (dd dt_L_law_22 8 rfl) 0 rfl rfl ?_
        refine R_iload_n (dd dt_L_law_22 9 rfl) 3 rfl rfl ?_
        refine R_iconst (v := 2) (dd dt_L_law_22 10 rfl) ic_2 ?_
        refine R_iadd (dd dt_L_law_22 11 rfl) ?_
        obtain ⟨x477, e478, h⟩ := bi_el h
        refine R_scr hE e478 k0 (dd dt_L_law_22 12 rfl) ?_
        obtain ⟨x480, e479, h⟩ := bi_el h
        refine c_L_187 (As := [.int x475, .int x477]) (st1 := [.int x480, .int x474]) rfl (fun Q1 hq => ok_12_taken e479 k2 hq) k2 rfl rfl (Nat.le_of_ble_eq_true rfl) (dd dt_L_law_22 13 rfl) rfl ?_
        refine R_cmpeq (dd dt_L_law_22 14 rfl) (tgt := 1718) rfl (fun hc => ?_) (fun hc => ?_)
        · rw [if_pos hc] at h
          refine R_iinc (v := 6) (lv' := [some (.ref a0), some (.ref a1), some (.ref a2), some (.int (v3 + 6))]) (dd dt_L_law_24 2 rfl) (by decide) rfl rfl ic_6 rfl ?_
          refine R_goto (dd dt_L_law_24 3 rfl) (tgt := 18) rfl ?_
          exact R_mask [true, true, true, true] rfl (ok_L_law_l18 L xs hE a0 a1 a2 k0 k1 k2 n (v3 + 6) μ _ h hQ)
        · rw [if_neg hc] at h
          refine R_iconst (v := 0) (dd dt_L_law_22 15 rfl) ic_0 ?_
          obtain rfl := Option.some.inj h
          exact R_zret rfl (by decide) (dd dt_L_law_22 16 rfl) (hQ _)
      rw [if_neg hs40] at h
      by_cases hs41 : (x1 &&& 63) = 41
      · refine R_tabIn (off := 1570) (tgt := 1603) (dd dt_L_law_0 21 rfl) (by rw [hs41]; decide) (by rw [hs41]; decide) (by rw [hs41]; rfl) rfl ?_
        rw [if_pos hs41] at h
        refine R_aload_n (dd dt_L_law_22 17 rfl) 1 rfl rfl ?_
        refine R_aload_n (dd dt_L_law_22 18 rfl) 0 rfl rfl ?_
        refine R_iload_n (dd dt_L_law_22 19 rfl) 3 rfl rfl ?_
        refine R_iconst (v := 1) (dd dt_L_law_22 20 rfl) ic_1 ?_
        refine R_iadd (dd dt_L_law_22 21 rfl) ?_
        obtain ⟨x481, e482, h⟩ := bi_el h
        refine R_scr hE e482 k0 (dd dt_L_law_22 22 rfl) ?_
        refine R_aload_n (dd dt_L_law_22 23 rfl) 0 rfl rfl ?_
        refine R_iload_n (dd dt_L_law_22 24 rfl) 3 rfl rfl ?_
        refine R_iconst (v := 2) (dd dt_L_law_22 25 rfl) ic_2 ?_
        refine R_iadd (dd dt_L_law_22 26 rfl) ?_
        obtain ⟨x483, e484, h⟩ := bi_el h
        refine R_scr hE e484 k0 (dd dt_L_law_22 27 rfl) ?_
        refine R_aload_n (dd dt_L_law_22 28 rfl) 0 rfl rfl ?_
        refine R_iload_n (dd dt_L_law_22 29 rfl) 3 rfl rfl ?_
        refine R_iconst (v := 3) (dd dt_L_law_22 30 rfl) ic_3 ?_
        refine R_iadd (dd dt_L_law_22 31 rfl) ?_
        obtain ⟨x485, e486, h⟩ := bi_el h
        refine R_scr hE e486 k0 (dd dt_L_law_22 32 rfl) ?_
        obtain ⟨z488, e487, h⟩ := bi_el h
        refine c_L_188 (As := [.int x481, .int x483, .int x485]) (st1 := [.int z488.1]) rfl (fun Q1 hq => ok_11_deal e487 k1 hq) k1 rfl rfl (Nat.le_of_ble_eq_true rfl) (dd dt_L_law_22 33 rfl) rfl ?_
        refine R_aload_n (dd dt_L_law_22 34 rfl) 2 rfl rfl ?_
        refine R_aload_n (dd dt_L_law_22 35 rfl) 0 rfl rfl ?_
        refine R_iload_n (dd dt_L_law_22 36 rfl) 3 rfl rfl ?_
        refine R_iconst (v := 1) (dd dt_L_law_22 37 rfl) ic_1 ?_
        refine R_iadd (dd dt_L_law_22 38 rfl) ?_
        obtain ⟨x489, e490, h⟩ := bi_el h
        refine R_scr hE e490 k0 (dd dt_L_law_22 39 rfl) ?_
        refine R_aload_n (dd dt_L_law_22 40 rfl) 0 rfl rfl ?_
        refine R_iload_n (dd dt_L_law_22 41 rfl) 3 rfl rfl ?_
        refine R_iconst (v := 2) (dd dt_L_law_22 42 rfl) ic_2 ?_
        refine R_iadd (dd dt_L_law_22 43 rfl) ?_
        obtain ⟨x491, e492, h⟩ := bi_el h
        refine R_scr hE e492 k0 (dd dt_L_law_22 44 rfl) ?_
        refine R_aload_n (dd dt_L_law_22 45 rfl) 0 rfl rfl ?_
        refine R_iload_n (dd dt_L_law_22 46 rfl) 3 rfl rfl ?_
        refine R_iconst (v := 3) (dd dt_L_law_22 47 rfl) ic_3 ?_
        refine R_iadd (dd dt_L_law_22 48 rfl) ?_
        obtain ⟨x493, e494, h⟩ := bi_el h
        refine R_scr hE e494 k0 (dd dt_L_law_22 49 rfl) ?_
        obtain ⟨z496, e495, h⟩ := bi_el h
        refine c_L_191 (As := [.int x489, .int x491, .int x493]) (st1 := [.int z496.1, .int z488.1]) rfl (fun Q1 hq => ok_12_deal e495 k2 hq) k2 rfl rfl (Nat.le_of_ble_eq_true rfl) (dd dt_L_law_23 0 rfl) rfl ?_
        refine R_cmpeq (dd dt_L_law_23 1 rfl) (tgt := 1718) rfl (fun hc => ?_) (fun hc => ?_)
        · rw [if_pos hc] at h
          refine R_iinc (v := 6) (lv' := [some (.ref a0), some (.ref a1), some (.ref a2), some (.int (v3 + 6))]) (dd dt_L_law_24 2 rfl) (by decide) rfl rfl ic_6 rfl ?_
          refine R_goto (dd dt_L_law_24 3 rfl) (tgt := 18) rfl ?_
          exact R_mask [true, true, true, true] rfl (ok_L_law_l18 L xs hE a0 a1 a2 k0 k1 k2 n (v3 + 6) z496.2 _ h hQ)
        · rw [if_neg hc] at h
          refine R_iconst (v := 0) (dd dt_L_law_23 2 rfl) ic_0 ?_
          obtain rfl := Option.some.inj h
          exact R_zret rfl (by decide) (dd dt_L_law_23 3 rfl) (hQ _)
      rw [if_neg hs41] at h
      by_cases hs42 : (x1 &&& 63) = 42
      · refine R_tabIn (off := 1613) (tgt := 1646) (dd dt_L_law_0 21 rfl) (by rw [hs42]; decide) (by rw [hs42]; decide) (by rw [hs42]; rfl) rfl ?_
        rw [if_pos hs42] at h
        refine R_aload_n (dd dt_L_law_23 4 rfl) 1 rfl rfl ?_
        refine R_aload_n (dd dt_L_law_23 5 rfl) 0 rfl rfl ?_
        refine R_iload_n (dd dt_L_law_23 6 rfl) 3 rfl rfl ?_
        refine R_iconst (v := 1) (dd dt_L_law_23 7 rfl) ic_1 ?_
        refine R_iadd (dd dt_L_law_23 8 rfl) ?_
        obtain ⟨x497, e498, h⟩ := bi_el h
        refine R_scr hE e498 k0 (dd dt_L_law_23 9 rfl) ?_
        obtain ⟨x500, e499, h⟩ := bi_el h
        refine c_L_192 (As := [.int x497]) (st1 := [.int x500]) rfl (fun Q1 hq => ok_11_trace e499 k1 hq) k1 rfl rfl (Nat.le_of_ble_eq_true rfl) (dd dt_L_law_23 10 rfl) rfl ?_
        refine R_aload_n (dd dt_L_law_23 11 rfl) 2 rfl rfl ?_
        refine R_aload_n (dd dt_L_law_23 12 rfl) 0 rfl rfl ?_
        refine R_iload_n (dd dt_L_law_23 13 rfl) 3 rfl rfl ?_
        refine R_iconst (v := 1) (dd dt_L_law_23 14 rfl) ic_1 ?_
        refine R_iadd (dd dt_L_law_23 15 rfl) ?_
        obtain ⟨x501, e502, h⟩ := bi_el h
        refine R_scr hE e502 k0 (dd dt_L_law_23 16 rfl) ?_
        obtain ⟨x504, e503, h⟩ := bi_el h
        refine c_L_195 (As := [.int x501]) (st1 := [.int x504, .int x500]) rfl (fun Q1 hq => ok_12_trace e503 k2 hq) k2 rfl rfl (Nat.le_of_ble_eq_true rfl) (dd dt_L_law_23 17 rfl) rfl ?_
        refine R_cmpeq (dd dt_L_law_23 18 rfl) (tgt := 1718) rfl (fun hc => ?_) (fun hc => ?_)
        · rw [if_pos hc] at h
          refine R_iinc (v := 6) (lv' := [some (.ref a0), some (.ref a1), some (.ref a2), some (.int (v3 + 6))]) (dd dt_L_law_24 2 rfl) (by decide) rfl rfl ic_6 rfl ?_
          refine R_goto (dd dt_L_law_24 3 rfl) (tgt := 18) rfl ?_
          exact R_mask [true, true, true, true] rfl (ok_L_law_l18 L xs hE a0 a1 a2 k0 k1 k2 n (v3 + 6) μ _ h hQ)
        · rw [if_neg hc] at h
          refine R_iconst (v := 0) (dd dt_L_law_23 19 rfl) ic_0 ?_
          obtain rfl := Option.some.inj h
          exact R_zret rfl (by decide) (dd dt_L_law_23 20 rfl) (hQ _)
      rw [if_neg hs42] at h
      by_cases hs43 : (x1 &&& 63) = 43
      · refine R_tabIn (off := 1636) (tgt := 1669) (dd dt_L_law_0 21 rfl) (by rw [hs43]; decide) (by rw [hs43]; decide) (by rw [hs43]; rfl) rfl ?_
        rw [if_pos hs43] at h
        refine R_aload_n (dd dt_L_law_23 21 rfl) 1 rfl rfl ?_
        refine R_aload_n (dd dt_L_law_23 22 rfl) 0 rfl rfl ?_
        refine R_iload_n (dd dt_L_law_23 23 rfl) 3 rfl rfl ?_
        refine R_iconst (v := 1) (dd dt_L_law_23 24 rfl) ic_1 ?_
        refine R_iadd (dd dt_L_law_23 25 rfl) ?_
        obtain ⟨x505, e506, h⟩ := bi_el h
        refine R_scr hE e506 k0 (dd dt_L_law_23 26 rfl) ?_
        obtain ⟨x508, e507, h⟩ := bi_el h
        refine c_L_196 (As := [.int x505]) (st1 := [.int x508]) rfl (fun Q1 hq => ok_11_many e507 k1 hq) k1 rfl rfl (Nat.le_of_ble_eq_true rfl) (dd dt_L_law_23 27 rfl) rfl ?_
        refine R_aload_n (dd dt_L_law_23 28 rfl) 2 rfl rfl ?_
        refine R_aload_n (dd dt_L_law_23 29 rfl) 0 rfl rfl ?_
        refine R_iload_n (dd dt_L_law_23 30 rfl) 3 rfl rfl ?_
        refine R_iconst (v := 1) (dd dt_L_law_23 31 rfl) ic_1 ?_
        refine R_iadd (dd dt_L_law_23 32 rfl) ?_
        obtain ⟨x509, e510, h⟩ := bi_el h
        refine R_scr hE e510 k0 (dd dt_L_law_23 33 rfl) ?_
        obtain ⟨x512, e511, h⟩ := bi_el h
        refine c_L_199 (As := [.int x509]) (st1 := [.int x512, .int x508]) rfl (fun Q1 hq => ok_12_many e511 k2 hq) k2 rfl rfl (Nat.le_of_ble_eq_true rfl) (dd dt_L_law_23 34 rfl) rfl ?_
        refine R_cmpeq (dd dt_L_law_23 35 rfl) (tgt := 1718) rfl (fun hc => ?_) (fun hc => ?_)
        · rw [if_pos hc] at h
          refine R_iinc (v := 6) (lv' := [some (.ref a0), some (.ref a1), some (.ref a2), some (.int (v3 + 6))]) (dd dt_L_law_24 2 rfl) (by decide) rfl rfl ic_6 rfl ?_
          refine R_goto (dd dt_L_law_24 3 rfl) (tgt := 18) rfl ?_
          exact R_mask [true, true, true, true] rfl (ok_L_law_l18 L xs hE a0 a1 a2 k0 k1 k2 n (v3 + 6) μ _ h hQ)
        · rw [if_neg hc] at h
          refine R_iconst (v := 0) (dd dt_L_law_23 36 rfl) ic_0 ?_
          obtain rfl := Option.some.inj h
          exact R_zret rfl (by decide) (dd dt_L_law_23 37 rfl) (hQ _)
      rw [if_neg hs43] at h
      by_cases hs44 : (x1 &&& 63) = 44
      · refine R_tabIn (off := 1659) (tgt := 1692) (dd dt_L_law_0 21 rfl) (by rw [hs44]; decide) (by rw [hs44]; decide) (by rw [hs44]; rfl) rfl ?_
        rw [if_pos hs44] at h
        refine R_aload_n (dd dt_L_law_23 38 rfl) 1 rfl rfl ?_
        obtain ⟨z514, e513, h⟩ := bi_el h
        refine c_L_200 (As := []) (st1 := [.int z514.1]) rfl (fun Q1 hq => ok_11_keep e513 k1 hq) k1 rfl rfl (Nat.le_of_ble_eq_true rfl) (dd dt_L_law_23 39 rfl) rfl ?_
        refine R_aload_n (dd dt_L_law_23 40 rfl) 2 rfl rfl ?_
        obtain ⟨z516, e515, h⟩ := bi_el h
        refine c_L_203 (As := []) (st1 := [.int z516.1, .int z514.1]) rfl (fun Q1 hq => ok_12_keep e515 k2 hq) k2 rfl rfl (Nat.le_of_ble_eq_true rfl) (dd dt_L_law_23 41 rfl) rfl ?_
        refine R_cmpeq (dd dt_L_law_23 42 rfl) (tgt := 1718) rfl (fun hc => ?_) (fun hc => ?_)
        · rw [if_pos hc] at h
          refine R_iinc (v := 6) (lv' := [some (.ref a0), some (.ref a1), some (.ref a2), some (.int (v3 + 6))]) (dd dt_L_law_24 2 rfl) (by decide) rfl rfl ic_6 rfl ?_
          refine R_goto (dd dt_L_law_24 3 rfl) (tgt := 18) rfl ?_
          exact R_mask [true, true, true, true] rfl (ok_L_law_l18 L xs hE a0 a1 a2 k0 k1 k2 n (v3 + 6) z516.2 _ h hQ)
        · rw [if_neg hc] at h
          refine R_iconst (v := 0) (dd dt_L_law_23 43 rfl) ic_0 ?_
          obtain rfl := Option.some.inj h
          exact R_zret rfl (by decide) (dd dt_L_law_23 44 rfl) (hQ _)
      rw [if_neg hs44] at h
      by_cases hs45 : (x1 &&& 63) = 45
      · refine R_tabIn (off := 1672) (tgt := 1705) (dd dt_L_law_0 21 rfl) (by rw [hs45]; decide) (by rw [hs45]; decide) (by rw [hs45]; rfl) rfl ?_
        rw [if_pos hs45] at h
        refine R_aload_n (dd dt_L_law_23 45 rfl) 1 rfl rfl ?_
        obtain ⟨z518, e517, h⟩ := bi_el h
        refine c_L_204 (As := []) (st1 := [.int z518.1]) rfl (fun Q1 hq => ok_11_again e517 k1 hq) k1 rfl rfl (Nat.le_of_ble_eq_true rfl) (dd dt_L_law_23 46 rfl) rfl ?_
        refine R_aload_n (dd dt_L_law_23 47 rfl) 2 rfl rfl ?_
        obtain ⟨z520, e519, h⟩ := bi_el h
        refine c_L_207 (As := []) (st1 := [.int z520.1, .int z518.1]) rfl (fun Q1 hq => ok_12_again e519 k2 hq) k2 rfl rfl (Nat.le_of_ble_eq_true rfl) (dd dt_L_law_23 48 rfl) rfl ?_
        refine R_cmpeq (dd dt_L_law_23 49 rfl) (tgt := 1718) rfl (fun hc => ?_) (fun hc => ?_)
        · rw [if_pos hc] at h
          refine R_iinc (v := 6) (lv' := [some (.ref a0), some (.ref a1), some (.ref a2), some (.int (v3 + 6))]) (dd dt_L_law_24 2 rfl) (by decide) rfl rfl ic_6 rfl ?_
          refine R_goto (dd dt_L_law_24 3 rfl) (tgt := 18) rfl ?_
          exact R_mask [true, true, true, true] rfl (ok_L_law_l18 L xs hE a0 a1 a2 k0 k1 k2 n (v3 + 6) z520.2 _ h hQ)
        · rw [if_neg hc] at h
          refine R_iconst (v := 0) (dd dt_L_law_24 0 rfl) ic_0 ?_
          obtain rfl := Option.some.inj h
          exact R_zret rfl (by decide) (dd dt_L_law_24 1 rfl) (hQ _)
      rw [if_neg hs45] at h
      refine R_tabOut (tgt := 1718) (dd dt_L_law_0 21 rfl) (by have hn0 := lv_neT hs0 (a := 0) (by decide); have hn1 := lv_neT hs1 (a := 1) (by decide); have hn2 := lv_neT hs2 (a := 2) (by decide); have hn3 := lv_neT hs3 (a := 3) (by decide); have hn4 := lv_neT hs4 (a := 4) (by decide); have hn5 := lv_neT hs5 (a := 5) (by decide); have hn6 := lv_neT hs6 (a := 6) (by decide); have hn7 := lv_neT hs7 (a := 7) (by decide); have hn8 := lv_neT hs8 (a := 8) (by decide); have hn9 := lv_neT hs9 (a := 9) (by decide); have hn10 := lv_neT hs10 (a := 10) (by decide); have hn11 := lv_neT hs11 (a := 11) (by decide); have hn12 := lv_neT hs12 (a := 12) (by decide); have hn13 := lv_neT hs13 (a := 13) (by decide); have hn14 := lv_neT hs14 (a := 14) (by decide); have hn15 := lv_neT hs15 (a := 15) (by decide); have hn16 := lv_neT hs16 (a := 16) (by decide); have hn17 := lv_neT hs17 (a := 17) (by decide); have hn18 := lv_neT hs18 (a := 18) (by decide); have hn19 := lv_neT hs19 (a := 19) (by decide); have hn20 := lv_neT hs20 (a := 20) (by decide); have hn21 := lv_neT hs21 (a := 21) (by decide); have hn22 := lv_neT hs22 (a := 22) (by decide); have hn23 := lv_neT hs23 (a := 23) (by decide); have hn24 := lv_neT hs24 (a := 24) (by decide); have hn25 := lv_neT hs25 (a := 25) (by decide); have hn26 := lv_neT hs26 (a := 26) (by decide); have hn27 := lv_neT hs27 (a := 27) (by decide); have hn28 := lv_neT hs28 (a := 28) (by decide); have hn29 := lv_neT hs29 (a := 29) (by decide); have hn30 := lv_neT hs30 (a := 30) (by decide); have hn31 := lv_neT hs31 (a := 31) (by decide); have hn32 := lv_neT hs32 (a := 32) (by decide); have hn33 := lv_neT hs33 (a := 33) (by decide); have hn34 := lv_neT hs34 (a := 34) (by decide); have hn35 := lv_neT hs35 (a := 35) (by decide); have hn36 := lv_neT hs36 (a := 36) (by decide); have hn37 := lv_neT hs37 (a := 37) (by decide); have hn38 := lv_neT hs38 (a := 38) (by decide); have hn39 := lv_neT hs39 (a := 39) (by decide); have hn40 := lv_neT hs40 (a := 40) (by decide); have hn41 := lv_neT hs41 (a := 41) (by decide); have hn42 := lv_neT hs42 (a := 42) (by decide); have hn43 := lv_neT hs43 (a := 43) (by decide); have hn44 := lv_neT hs44 (a := 44) (by decide); have hn45 := lv_neT hs45 (a := 45) (by decide); omega) rfl ?_
      refine R_iinc (v := 6) (lv' := [some (.ref a0), some (.ref a1), some (.ref a2), some (.int (v3 + 6))]) (dd dt_L_law_24 2 rfl) (by decide) rfl rfl ic_6 rfl ?_
      refine R_goto (dd dt_L_law_24 3 rfl) (tgt := 18) rfl ?_
      exact R_mask [true, true, true, true] rfl (ok_L_law_l18 L xs hE a0 a1 a2 k0 k1 k2 n (v3 + 6) μ _ h hQ)
def f_L_law (L : Nat) (xs : Nat → Int32) (μ : mm) : Option (Int32) :=
  f_L_law_l18 L xs 6000 23 0 FU 0 μ
set_option maxRecDepth 100000 in
set_option maxHeartbeats 4000000 in
theorem ok_L_law {l : Launch} {E : ce} {d : Nat} {L : Nat} {xs : Nat → Int32} (hE : E.2.2.2 = (L, xs)) {μ : mm} {r : Int32} {Q : Option Value → mm → Prop} (h : f_L_law L xs μ = some r) (hQ : ∀ μ, Q (some (.int r)) μ) : Rj l E (d + 32) m_L_law 16 [some (.ref 6000), some (.ref 23), some (.ref 0), none] [] μ Q := by
  unfold f_L_law at h
  refine R_iconst (v := 0) (dd dt_L_law_0 8 rfl) ic_0 ?_
  refine R_istore_n (lv' := [some (.ref 6000), some (.ref 23), some (.ref 0), some (.int 0)]) (dd dt_L_law_0 9 rfl) 3 rfl (by decide) rfl rfl ?_
  exact R_mask [true, true, true, true] rfl (ok_L_law_l18 L xs hE 6000 23 0 kd_6000 kd_23 kd_0 FU 0 μ _ h hQ)
