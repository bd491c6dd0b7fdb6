/-! printed by p112.py: the law: its instructions, its calls, the rules of its script -/
def tbL : List (Nat × Instr × Nat) := [(0, .new 7, 3), (3, .dup, 1), (4, .invokespecial 9, 3), (7, .astore_n 1, 1), (8, .new 10, 3), (11, .dup, 1), (12, .invokespecial 12, 3), (15, .astore_n 2, 1), (16, .iconst 0, 1), (17, .istore_n 3, 1), (18, .iload_n 3, 1), (19, .aload_n 0, 1), (20, .arraylength, 1), (21, .bipush 7, 2), (23, .isub, 1), (24, .if_icmp .gt 1228, 3), (27, .aload_n 0, 1), (28, .iload_n 3, 1), (29, .iaload, 1), (30, .bipush 63, 2), (32, .iand, 1), (33, .tableswitch 1213 0 35 #[159, 182, 273, 306, 339, 372, 395, 418, 441, 464, 477, 510, 533, 566, 599, 622, 655, 668, 759, 772, 805, 828, 851, 914, 937, 950, 963, 986, 1019, 1032, 1065, 1098, 1121, 1144, 1167, 1190], 159), (1246, .iinc 3 7, 3), (1249, .goto (-1231), 3), (1252, .iconst 1, 1), (1253, .ireturn, 1)]
set_option maxRecDepth 100000 in
theorem tbL_ok : ∀ q ∈ tbL, decode code q.1 = .ok q.2 := by decide +kernel
def tbL0 : List (Nat × Instr × Nat) := [(192, .aload_n 1, 1), (193, .aload_n 0, 1), (194, .iload_n 3, 1), (195, .iconst 1, 1), (196, .iadd, 1), (197, .iaload, 1), (198, .invokevirtual 13, 3), (201, .aload_n 2, 1), (202, .aload_n 0, 1), (203, .iload_n 3, 1), (204, .iconst 1, 1), (205, .iadd, 1), (206, .iaload, 1), (207, .invokevirtual 17, 3), (210, .if_icmp .eq 1036, 3), (213, .iconst 0, 1), (214, .ireturn, 1)]
set_option maxRecDepth 100000 in
theorem tbL0_ok : ∀ q ∈ tbL0, decode code q.1 = .ok q.2 := by decide +kernel
def tbL1 : List (Nat × Instr × Nat) := [(215, .aload_n 1, 1), (216, .aload_n 0, 1), (217, .iload_n 3, 1), (218, .iconst 1, 1), (219, .iadd, 1), (220, .iaload, 1), (221, .ifCond .eq 7, 3), (224, .iconst 1, 1), (225, .goto 4, 3), (228, .iconst 0, 1), (229, .aload_n 0, 1), (230, .iload_n 3, 1), (231, .iconst 2, 1), (232, .iadd, 1), (233, .iaload, 1), (234, .aload_n 0, 1), (235, .iload_n 3, 1), (236, .iconst 3, 1), (237, .iadd, 1), (238, .iaload, 1), (239, .aload_n 0, 1), (240, .iload_n 3, 1), (241, .iconst 4, 1), (242, .iadd, 1), (243, .iaload, 1), (244, .aload_n 0, 1), (245, .iload_n 3, 1), (246, .iconst 5, 1), (247, .iadd, 1), (248, .iaload, 1), (249, .aload_n 0, 1), (250, .iload_n 3, 1), (251, .bipush 6, 2), (253, .iadd, 1), (254, .iaload, 1), (255, .invokevirtual 18, 3), (258, .aload_n 2, 1), (259, .aload_n 0, 1), (260, .iload_n 3, 1), (261, .iconst 1, 1), (262, .iadd, 1), (263, .iaload, 1), (264, .ifCond .eq 7, 3), (267, .iconst 1, 1), (268, .goto 4, 3), (271, .iconst 0, 1), (272, .aload_n 0, 1), (273, .iload_n 3, 1), (274, .iconst 2, 1), (275, .iadd, 1), (276, .iaload, 1), (277, .aload_n 0, 1), (278, .iload_n 3, 1), (279, .iconst 3, 1), (280, .iadd, 1), (281, .iaload, 1), (282, .aload_n 0, 1), (283, .iload_n 3, 1), (284, .iconst 4, 1), (285, .iadd, 1), (286, .iaload, 1), (287, .aload_n 0, 1), (288, .iload_n 3, 1), (289, .iconst 5, 1), (290, .iadd, 1), (291, .iaload, 1), (292, .aload_n 0, 1), (293, .iload_n 3, 1), (294, .bipush 6, 2), (296, .iadd, 1), (297, .iaload, 1), (298, .invokevirtual 22, 3), (301, .if_icmp .eq 945, 3), (304, .iconst 0, 1), (305, .ireturn, 1)]
set_option maxRecDepth 100000 in
theorem tbL1_ok : ∀ q ∈ tbL1, decode code q.1 = .ok q.2 := by decide +kernel
def tbL2 : List (Nat × Instr × Nat) := [(306, .aload_n 1, 1), (307, .aload_n 0, 1), (308, .iload_n 3, 1), (309, .iconst 1, 1), (310, .iadd, 1), (311, .iaload, 1), (312, .aload_n 0, 1), (313, .iload_n 3, 1), (314, .iconst 2, 1), (315, .iadd, 1), (316, .iaload, 1), (317, .invokevirtual 23, 3), (320, .aload_n 2, 1), (321, .aload_n 0, 1), (322, .iload_n 3, 1), (323, .iconst 1, 1), (324, .iadd, 1), (325, .iaload, 1), (326, .aload_n 0, 1), (327, .iload_n 3, 1), (328, .iconst 2, 1), (329, .iadd, 1), (330, .iaload, 1), (331, .invokevirtual 27, 3), (334, .if_icmp .eq 912, 3), (337, .iconst 0, 1), (338, .ireturn, 1)]
set_option maxRecDepth 100000 in
theorem tbL2_ok : ∀ q ∈ tbL2, decode code q.1 = .ok q.2 := by decide +kernel
def tbL3 : List (Nat × Instr × Nat) := [(339, .aload_n 1, 1), (340, .aload_n 0, 1), (341, .iload_n 3, 1), (342, .iconst 1, 1), (343, .iadd, 1), (344, .iaload, 1), (345, .aload_n 0, 1), (346, .iload_n 3, 1), (347, .iconst 2, 1), (348, .iadd, 1), (349, .iaload, 1), (350, .invokevirtual 28, 3), (353, .aload_n 2, 1), (354, .aload_n 0, 1), (355, .iload_n 3, 1), (356, .iconst 1, 1), (357, .iadd, 1), (358, .iaload, 1), (359, .aload_n 0, 1), (360, .iload_n 3, 1), (361, .iconst 2, 1), (362, .iadd, 1), (363, .iaload, 1), (364, .invokevirtual 31, 3), (367, .if_icmp .eq 879, 3), (370, .iconst 0, 1), (371, .ireturn, 1)]
set_option maxRecDepth 100000 in
theorem tbL3_ok : ∀ q ∈ tbL3, decode code q.1 = .ok q.2 := by decide +kernel
def tbL4 : List (Nat × Instr × Nat) := [(372, .aload_n 1, 1), (373, .aload_n 0, 1), (374, .iload_n 3, 1), (375, .iconst 1, 1), (376, .iadd, 1), (377, .iaload, 1), (378, .aload_n 0, 1), (379, .iload_n 3, 1), (380, .iconst 2, 1), (381, .iadd, 1), (382, .iaload, 1), (383, .invokevirtual 32, 3), (386, .aload_n 2, 1), (387, .aload_n 0, 1), (388, .iload_n 3, 1), (389, .iconst 1, 1), (390, .iadd, 1), (391, .iaload, 1), (392, .aload_n 0, 1), (393, .iload_n 3, 1), (394, .iconst 2, 1), (395, .iadd, 1), (396, .iaload, 1), (397, .invokevirtual 35, 3), (400, .if_icmp .eq 846, 3), (403, .iconst 0, 1), (404, .ireturn, 1)]
set_option maxRecDepth 100000 in
theorem tbL4_ok : ∀ q ∈ tbL4, decode code q.1 = .ok q.2 := by decide +kernel
def tbL5 : List (Nat × Instr × Nat) := [(405, .aload_n 1, 1), (406, .aload_n 0, 1), (407, .iload_n 3, 1), (408, .iconst 1, 1), (409, .iadd, 1), (410, .iaload, 1), (411, .invokevirtual 36, 3), (414, .aload_n 2, 1), (415, .aload_n 0, 1), (416, .iload_n 3, 1), (417, .iconst 1, 1), (418, .iadd, 1), (419, .iaload, 1), (420, .invokevirtual 39, 3), (423, .if_icmp .eq 823, 3), (426, .iconst 0, 1), (427, .ireturn, 1)]
set_option maxRecDepth 100000 in
theorem tbL5_ok : ∀ q ∈ tbL5, decode code q.1 = .ok q.2 := by decide +kernel
def tbL6 : List (Nat × Instr × Nat) := [(428, .aload_n 1, 1), (429, .aload_n 0, 1), (430, .iload_n 3, 1), (431, .iconst 1, 1), (432, .iadd, 1), (433, .iaload, 1), (434, .invokevirtual 40, 3), (437, .aload_n 2, 1), (438, .aload_n 0, 1), (439, .iload_n 3, 1), (440, .iconst 1, 1), (441, .iadd, 1), (442, .iaload, 1), (443, .invokevirtual 43, 3), (446, .if_icmp .eq 800, 3), (449, .iconst 0, 1), (450, .ireturn, 1)]
set_option maxRecDepth 100000 in
theorem tbL6_ok : ∀ q ∈ tbL6, decode code q.1 = .ok q.2 := by decide +kernel
def tbL7 : List (Nat × Instr × Nat) := [(451, .aload_n 1, 1), (452, .aload_n 0, 1), (453, .iload_n 3, 1), (454, .iconst 1, 1), (455, .iadd, 1), (456, .iaload, 1), (457, .invokevirtual 44, 3), (460, .aload_n 2, 1), (461, .aload_n 0, 1), (462, .iload_n 3, 1), (463, .iconst 1, 1), (464, .iadd, 1), (465, .iaload, 1), (466, .invokevirtual 48, 3), (469, .if_icmp .eq 777, 3), (472, .iconst 0, 1), (473, .ireturn, 1)]
set_option maxRecDepth 100000 in
theorem tbL7_ok : ∀ q ∈ tbL7, decode code q.1 = .ok q.2 := by decide +kernel
def tbL8 : List (Nat × Instr × Nat) := [(474, .aload_n 1, 1), (475, .aload_n 0, 1), (476, .iload_n 3, 1), (477, .iconst 1, 1), (478, .iadd, 1), (479, .iaload, 1), (480, .invokevirtual 49, 3), (483, .aload_n 2, 1), (484, .aload_n 0, 1), (485, .iload_n 3, 1), (486, .iconst 1, 1), (487, .iadd, 1), (488, .iaload, 1), (489, .invokevirtual 52, 3), (492, .if_icmp .eq 754, 3), (495, .iconst 0, 1), (496, .ireturn, 1)]
set_option maxRecDepth 100000 in
theorem tbL8_ok : ∀ q ∈ tbL8, decode code q.1 = .ok q.2 := by decide +kernel
def tbL9 : List (Nat × Instr × Nat) := [(497, .aload_n 1, 1), (498, .invokevirtual 53, 3), (501, .aload_n 2, 1), (502, .invokevirtual 57, 3), (505, .if_icmp .eq 741, 3), (508, .iconst 0, 1), (509, .ireturn, 1)]
set_option maxRecDepth 100000 in
theorem tbL9_ok : ∀ q ∈ tbL9, decode code q.1 = .ok q.2 := by decide +kernel
def tbL10 : List (Nat × Instr × Nat) := [(510, .aload_n 1, 1), (511, .aload_n 0, 1), (512, .iload_n 3, 1), (513, .iconst 1, 1), (514, .iadd, 1), (515, .iaload, 1), (516, .aload_n 0, 1), (517, .iload_n 3, 1), (518, .iconst 2, 1), (519, .iadd, 1), (520, .iaload, 1), (521, .invokevirtual 58, 3), (524, .aload_n 2, 1), (525, .aload_n 0, 1), (526, .iload_n 3, 1), (527, .iconst 1, 1), (528, .iadd, 1), (529, .iaload, 1), (530, .aload_n 0, 1), (531, .iload_n 3, 1), (532, .iconst 2, 1), (533, .iadd, 1), (534, .iaload, 1), (535, .invokevirtual 61, 3), (538, .if_icmp .eq 708, 3), (541, .iconst 0, 1), (542, .ireturn, 1)]
set_option maxRecDepth 100000 in
theorem tbL10_ok : ∀ q ∈ tbL10, decode code q.1 = .ok q.2 := by decide +kernel
def tbL11 : List (Nat × Instr × Nat) := [(543, .aload_n 1, 1), (544, .aload_n 0, 1), (545, .iload_n 3, 1), (546, .iconst 1, 1), (547, .iadd, 1), (548, .iaload, 1), (549, .invokevirtual 62, 3), (552, .aload_n 2, 1), (553, .aload_n 0, 1), (554, .iload_n 3, 1), (555, .iconst 1, 1), (556, .iadd, 1), (557, .iaload, 1), (558, .invokevirtual 65, 3), (561, .if_icmp .eq 685, 3), (564, .iconst 0, 1), (565, .ireturn, 1)]
set_option maxRecDepth 100000 in
theorem tbL11_ok : ∀ q ∈ tbL11, decode code q.1 = .ok q.2 := by decide +kernel
def tbL12 : List (Nat × Instr × Nat) := [(566, .aload_n 1, 1), (567, .aload_n 0, 1), (568, .iload_n 3, 1), (569, .iconst 1, 1), (570, .iadd, 1), (571, .iaload, 1), (572, .aload_n 0, 1), (573, .iload_n 3, 1), (574, .iconst 2, 1), (575, .iadd, 1), (576, .iaload, 1), (577, .invokevirtual 66, 3), (580, .aload_n 2, 1), (581, .aload_n 0, 1), (582, .iload_n 3, 1), (583, .iconst 1, 1), (584, .iadd, 1), (585, .iaload, 1), (586, .aload_n 0, 1), (587, .iload_n 3, 1), (588, .iconst 2, 1), (589, .iadd, 1), (590, .iaload, 1), (591, .invokevirtual 69, 3), (594, .if_icmp .eq 652, 3), (597, .iconst 0, 1), (598, .ireturn, 1)]
set_option maxRecDepth 100000 in
theorem tbL12_ok : ∀ q ∈ tbL12, decode code q.1 = .ok q.2 := by decide +kernel
def tbL13 : List (Nat × Instr × Nat) := [(599, .aload_n 1, 1), (600, .aload_n 0, 1), (601, .iload_n 3, 1), (602, .iconst 1, 1), (603, .iadd, 1), (604, .iaload, 1), (605, .aload_n 0, 1), (606, .iload_n 3, 1), (607, .iconst 2, 1), (608, .iadd, 1), (609, .iaload, 1), (610, .invokevirtual 70, 3), (613, .aload_n 2, 1), (614, .aload_n 0, 1), (615, .iload_n 3, 1), (616, .iconst 1, 1), (617, .iadd, 1), (618, .iaload, 1), (619, .aload_n 0, 1), (620, .iload_n 3, 1), (621, .iconst 2, 1), (622, .iadd, 1), (623, .iaload, 1), (624, .invokevirtual 74, 3), (627, .if_icmp .eq 619, 3), (630, .iconst 0, 1), (631, .ireturn, 1)]
set_option maxRecDepth 100000 in
theorem tbL13_ok : ∀ q ∈ tbL13, decode code q.1 = .ok q.2 := by decide +kernel
def tbL14 : List (Nat × Instr × Nat) := [(632, .aload_n 1, 1), (633, .aload_n 0, 1), (634, .iload_n 3, 1), (635, .iconst 1, 1), (636, .iadd, 1), (637, .iaload, 1), (638, .invokevirtual 75, 3), (641, .aload_n 2, 1), (642, .aload_n 0, 1), (643, .iload_n 3, 1), (644, .iconst 1, 1), (645, .iadd, 1), (646, .iaload, 1), (647, .invokevirtual 78, 3), (650, .if_icmp .eq 596, 3), (653, .iconst 0, 1), (654, .ireturn, 1)]
set_option maxRecDepth 100000 in
theorem tbL14_ok : ∀ q ∈ tbL14, decode code q.1 = .ok q.2 := by decide +kernel
def tbL15 : List (Nat × Instr × Nat) := [(655, .aload_n 1, 1), (656, .aload_n 0, 1), (657, .iload_n 3, 1), (658, .iconst 1, 1), (659, .iadd, 1), (660, .iaload, 1), (661, .aload_n 0, 1), (662, .iload_n 3, 1), (663, .iconst 2, 1), (664, .iadd, 1), (665, .iaload, 1), (666, .invokevirtual 79, 3), (669, .aload_n 2, 1), (670, .aload_n 0, 1), (671, .iload_n 3, 1), (672, .iconst 1, 1), (673, .iadd, 1), (674, .iaload, 1), (675, .aload_n 0, 1), (676, .iload_n 3, 1), (677, .iconst 2, 1), (678, .iadd, 1), (679, .iaload, 1), (680, .invokevirtual 82, 3), (683, .if_icmp .eq 563, 3), (686, .iconst 0, 1), (687, .ireturn, 1)]
set_option maxRecDepth 100000 in
theorem tbL15_ok : ∀ q ∈ tbL15, decode code q.1 = .ok q.2 := by decide +kernel
def tbL16 : List (Nat × Instr × Nat) := [(688, .aload_n 1, 1), (689, .invokevirtual 83, 3), (692, .aload_n 2, 1), (693, .invokevirtual 86, 3), (696, .if_icmp .eq 550, 3), (699, .iconst 0, 1), (700, .ireturn, 1)]
set_option maxRecDepth 100000 in
theorem tbL16_ok : ∀ q ∈ tbL16, decode code q.1 = .ok q.2 := by decide +kernel
def tbL17 : List (Nat × Instr × Nat) := [(701, .aload_n 1, 1), (702, .aload_n 0, 1), (703, .iload_n 3, 1), (704, .iconst 1, 1), (705, .iadd, 1), (706, .iaload, 1), (707, .aload_n 0, 1), (708, .iload_n 3, 1), (709, .iconst 2, 1), (710, .iadd, 1), (711, .iaload, 1), (712, .ifCond .eq 7, 3), (715, .iconst 1, 1), (716, .goto 4, 3), (719, .iconst 0, 1), (720, .aload_n 0, 1), (721, .iload_n 3, 1), (722, .iconst 3, 1), (723, .iadd, 1), (724, .iaload, 1), (725, .aload_n 0, 1), (726, .iload_n 3, 1), (727, .iconst 4, 1), (728, .iadd, 1), (729, .iaload, 1), (730, .aload_n 0, 1), (731, .iload_n 3, 1), (732, .iconst 5, 1), (733, .iadd, 1), (734, .iaload, 1), (735, .aload_n 0, 1), (736, .iload_n 3, 1), (737, .bipush 6, 2), (739, .iadd, 1), (740, .iaload, 1), (741, .invokevirtual 87, 3), (744, .aload_n 2, 1), (745, .aload_n 0, 1), (746, .iload_n 3, 1), (747, .iconst 1, 1), (748, .iadd, 1), (749, .iaload, 1), (750, .aload_n 0, 1), (751, .iload_n 3, 1), (752, .iconst 2, 1), (753, .iadd, 1), (754, .iaload, 1), (755, .ifCond .eq 7, 3), (758, .iconst 1, 1), (759, .goto 4, 3), (762, .iconst 0, 1), (763, .aload_n 0, 1), (764, .iload_n 3, 1), (765, .iconst 3, 1), (766, .iadd, 1), (767, .iaload, 1), (768, .aload_n 0, 1), (769, .iload_n 3, 1), (770, .iconst 4, 1), (771, .iadd, 1), (772, .iaload, 1), (773, .aload_n 0, 1), (774, .iload_n 3, 1), (775, .iconst 5, 1), (776, .iadd, 1), (777, .iaload, 1), (778, .aload_n 0, 1), (779, .iload_n 3, 1), (780, .bipush 6, 2), (782, .iadd, 1), (783, .iaload, 1), (784, .invokevirtual 91, 3), (787, .if_icmp .eq 459, 3), (790, .iconst 0, 1), (791, .ireturn, 1)]
set_option maxRecDepth 100000 in
theorem tbL17_ok : ∀ q ∈ tbL17, decode code q.1 = .ok q.2 := by decide +kernel
def tbL18 : List (Nat × Instr × Nat) := [(792, .aload_n 1, 1), (793, .invokevirtual 92, 3), (796, .aload_n 2, 1), (797, .invokevirtual 95, 3), (800, .if_icmp .eq 446, 3), (803, .iconst 0, 1), (804, .ireturn, 1)]
set_option maxRecDepth 100000 in
theorem tbL18_ok : ∀ q ∈ tbL18, decode code q.1 = .ok q.2 := by decide +kernel
def tbL19 : List (Nat × Instr × Nat) := [(805, .aload_n 1, 1), (806, .aload_n 0, 1), (807, .iload_n 3, 1), (808, .iconst 1, 1), (809, .iadd, 1), (810, .iaload, 1), (811, .aload_n 0, 1), (812, .iload_n 3, 1), (813, .iconst 2, 1), (814, .iadd, 1), (815, .iaload, 1), (816, .invokevirtual 96, 3), (819, .aload_n 2, 1), (820, .aload_n 0, 1), (821, .iload_n 3, 1), (822, .iconst 1, 1), (823, .iadd, 1), (824, .iaload, 1), (825, .aload_n 0, 1), (826, .iload_n 3, 1), (827, .iconst 2, 1), (828, .iadd, 1), (829, .iaload, 1), (830, .invokevirtual 99, 3), (833, .if_icmp .eq 413, 3), (836, .iconst 0, 1), (837, .ireturn, 1)]
set_option maxRecDepth 100000 in
theorem tbL19_ok : ∀ q ∈ tbL19, decode code q.1 = .ok q.2 := by decide +kernel
def tbL20 : List (Nat × Instr × Nat) := [(838, .aload_n 1, 1), (839, .aload_n 0, 1), (840, .iload_n 3, 1), (841, .iconst 1, 1), (842, .iadd, 1), (843, .iaload, 1), (844, .invokevirtual 100, 3), (847, .aload_n 2, 1), (848, .aload_n 0, 1), (849, .iload_n 3, 1), (850, .iconst 1, 1), (851, .iadd, 1), (852, .iaload, 1), (853, .invokevirtual 103, 3), (856, .if_icmp .eq 390, 3), (859, .iconst 0, 1), (860, .ireturn, 1)]
set_option maxRecDepth 100000 in
theorem tbL20_ok : ∀ q ∈ tbL20, decode code q.1 = .ok q.2 := by decide +kernel
def tbL21 : List (Nat × Instr × Nat) := [(861, .aload_n 1, 1), (862, .aload_n 0, 1), (863, .iload_n 3, 1), (864, .iconst 1, 1), (865, .iadd, 1), (866, .iaload, 1), (867, .invokevirtual 104, 3), (870, .aload_n 2, 1), (871, .aload_n 0, 1), (872, .iload_n 3, 1), (873, .iconst 1, 1), (874, .iadd, 1), (875, .iaload, 1), (876, .invokevirtual 107, 3), (879, .if_icmp .eq 367, 3), (882, .iconst 0, 1), (883, .ireturn, 1)]
set_option maxRecDepth 100000 in
theorem tbL21_ok : ∀ q ∈ tbL21, decode code q.1 = .ok q.2 := by decide +kernel
def tbL22 : List (Nat × Instr × Nat) := [(884, .aload_n 1, 1), (885, .aload_n 0, 1), (886, .iload_n 3, 1), (887, .iconst 1, 1), (888, .iadd, 1), (889, .iaload, 1), (890, .aload_n 0, 1), (891, .iload_n 3, 1), (892, .iconst 2, 1), (893, .iadd, 1), (894, .iaload, 1), (895, .aload_n 0, 1), (896, .iload_n 3, 1), (897, .iconst 3, 1), (898, .iadd, 1), (899, .iaload, 1), (900, .aload_n 0, 1), (901, .iload_n 3, 1), (902, .iconst 4, 1), (903, .iadd, 1), (904, .iaload, 1), (905, .aload_n 0, 1), (906, .iload_n 3, 1), (907, .iconst 5, 1), (908, .iadd, 1), (909, .iaload, 1), (910, .invokevirtual 108, 3), (913, .aload_n 2, 1), (914, .aload_n 0, 1), (915, .iload_n 3, 1), (916, .iconst 1, 1), (917, .iadd, 1), (918, .iaload, 1), (919, .aload_n 0, 1), (920, .iload_n 3, 1), (921, .iconst 2, 1), (922, .iadd, 1), (923, .iaload, 1), (924, .aload_n 0, 1), (925, .iload_n 3, 1), (926, .iconst 3, 1), (927, .iadd, 1), (928, .iaload, 1), (929, .aload_n 0, 1), (930, .iload_n 3, 1), (931, .iconst 4, 1), (932, .iadd, 1), (933, .iaload, 1), (934, .aload_n 0, 1), (935, .iload_n 3, 1), (936, .iconst 5, 1), (937, .iadd, 1), (938, .iaload, 1), (939, .invokevirtual 112, 3), (942, .if_icmp .eq 304, 3), (945, .iconst 0, 1), (946, .ireturn, 1)]
set_option maxRecDepth 100000 in
theorem tbL22_ok : ∀ q ∈ tbL22, decode code q.1 = .ok q.2 := by decide +kernel
def tbL23 : List (Nat × Instr × Nat) := [(947, .aload_n 1, 1), (948, .aload_n 0, 1), (949, .iload_n 3, 1), (950, .iconst 1, 1), (951, .iadd, 1), (952, .iaload, 1), (953, .invokevirtual 113, 3), (956, .aload_n 2, 1), (957, .aload_n 0, 1), (958, .iload_n 3, 1), (959, .iconst 1, 1), (960, .iadd, 1), (961, .iaload, 1), (962, .invokevirtual 116, 3), (965, .if_icmp .eq 281, 3), (968, .iconst 0, 1), (969, .ireturn, 1)]
set_option maxRecDepth 100000 in
theorem tbL23_ok : ∀ q ∈ tbL23, decode code q.1 = .ok q.2 := by decide +kernel
def tbL24 : List (Nat × Instr × Nat) := [(970, .aload_n 1, 1), (971, .invokevirtual 117, 3), (974, .aload_n 2, 1), (975, .invokevirtual 120, 3), (978, .if_icmp .eq 268, 3), (981, .iconst 0, 1), (982, .ireturn, 1)]
set_option maxRecDepth 100000 in
theorem tbL24_ok : ∀ q ∈ tbL24, decode code q.1 = .ok q.2 := by decide +kernel
def tbL25 : List (Nat × Instr × Nat) := [(983, .aload_n 1, 1), (984, .invokevirtual 121, 3), (987, .aload_n 2, 1), (988, .invokevirtual 124, 3), (991, .if_icmp .eq 255, 3), (994, .iconst 0, 1), (995, .ireturn, 1)]
set_option maxRecDepth 100000 in
theorem tbL25_ok : ∀ q ∈ tbL25, decode code q.1 = .ok q.2 := by decide +kernel
def tbL26 : List (Nat × Instr × Nat) := [(996, .aload_n 1, 1), (997, .aload_n 0, 1), (998, .iload_n 3, 1), (999, .iconst 1, 1), (1000, .iadd, 1), (1001, .iaload, 1), (1002, .invokevirtual 125, 3), (1005, .aload_n 2, 1), (1006, .aload_n 0, 1), (1007, .iload_n 3, 1), (1008, .iconst 1, 1), (1009, .iadd, 1), (1010, .iaload, 1), (1011, .invokevirtual 128, 3), (1014, .if_icmp .eq 232, 3), (1017, .iconst 0, 1), (1018, .ireturn, 1)]
set_option maxRecDepth 100000 in
theorem tbL26_ok : ∀ q ∈ tbL26, decode code q.1 = .ok q.2 := by decide +kernel
def tbL27 : List (Nat × Instr × Nat) := [(1019, .aload_n 1, 1), (1020, .aload_n 0, 1), (1021, .iload_n 3, 1), (1022, .iconst 1, 1), (1023, .iadd, 1), (1024, .iaload, 1), (1025, .aload_n 0, 1), (1026, .iload_n 3, 1), (1027, .iconst 2, 1), (1028, .iadd, 1), (1029, .iaload, 1), (1030, .invokevirtual 129, 3), (1033, .aload_n 2, 1), (1034, .aload_n 0, 1), (1035, .iload_n 3, 1), (1036, .iconst 1, 1), (1037, .iadd, 1), (1038, .iaload, 1), (1039, .aload_n 0, 1), (1040, .iload_n 3, 1), (1041, .iconst 2, 1), (1042, .iadd, 1), (1043, .iaload, 1), (1044, .invokevirtual 132, 3), (1047, .if_icmp .eq 199, 3), (1050, .iconst 0, 1), (1051, .ireturn, 1)]
set_option maxRecDepth 100000 in
theorem tbL27_ok : ∀ q ∈ tbL27, decode code q.1 = .ok q.2 := by decide +kernel
def tbL28 : List (Nat × Instr × Nat) := [(1052, .aload_n 1, 1), (1053, .invokevirtual 133, 3), (1056, .aload_n 2, 1), (1057, .invokevirtual 136, 3), (1060, .if_icmp .eq 186, 3), (1063, .iconst 0, 1), (1064, .ireturn, 1)]
set_option maxRecDepth 100000 in
theorem tbL28_ok : ∀ q ∈ tbL28, decode code q.1 = .ok q.2 := by decide +kernel
def tbL29 : List (Nat × Instr × Nat) := [(1065, .aload_n 1, 1), (1066, .aload_n 0, 1), (1067, .iload_n 3, 1), (1068, .iconst 1, 1), (1069, .iadd, 1), (1070, .iaload, 1), (1071, .aload_n 0, 1), (1072, .iload_n 3, 1), (1073, .iconst 2, 1), (1074, .iadd, 1), (1075, .iaload, 1), (1076, .invokevirtual 137, 3), (1079, .aload_n 2, 1), (1080, .aload_n 0, 1), (1081, .iload_n 3, 1), (1082, .iconst 1, 1), (1083, .iadd, 1), (1084, .iaload, 1), (1085, .aload_n 0, 1), (1086, .iload_n 3, 1), (1087, .iconst 2, 1), (1088, .iadd, 1), (1089, .iaload, 1), (1090, .invokevirtual 140, 3), (1093, .if_icmp .eq 153, 3), (1096, .iconst 0, 1), (1097, .ireturn, 1)]
set_option maxRecDepth 100000 in
theorem tbL29_ok : ∀ q ∈ tbL29, decode code q.1 = .ok q.2 := by decide +kernel
def tbL30 : List (Nat × Instr × Nat) := [(1098, .aload_n 1, 1), (1099, .aload_n 0, 1), (1100, .iload_n 3, 1), (1101, .iconst 1, 1), (1102, .iadd, 1), (1103, .iaload, 1), (1104, .aload_n 0, 1), (1105, .iload_n 3, 1), (1106, .iconst 2, 1), (1107, .iadd, 1), (1108, .iaload, 1), (1109, .invokevirtual 141, 3), (1112, .aload_n 2, 1), (1113, .aload_n 0, 1), (1114, .iload_n 3, 1), (1115, .iconst 1, 1), (1116, .iadd, 1), (1117, .iaload, 1), (1118, .aload_n 0, 1), (1119, .iload_n 3, 1), (1120, .iconst 2, 1), (1121, .iadd, 1), (1122, .iaload, 1), (1123, .invokevirtual 144, 3), (1126, .if_icmp .eq 120, 3), (1129, .iconst 0, 1), (1130, .ireturn, 1)]
set_option maxRecDepth 100000 in
theorem tbL30_ok : ∀ q ∈ tbL30, decode code q.1 = .ok q.2 := by decide +kernel
def tbL31 : List (Nat × Instr × Nat) := [(1131, .aload_n 1, 1), (1132, .aload_n 0, 1), (1133, .iload_n 3, 1), (1134, .iconst 1, 1), (1135, .iadd, 1), (1136, .iaload, 1), (1137, .invokevirtual 145, 3), (1140, .aload_n 2, 1), (1141, .aload_n 0, 1), (1142, .iload_n 3, 1), (1143, .iconst 1, 1), (1144, .iadd, 1), (1145, .iaload, 1), (1146, .invokevirtual 148, 3), (1149, .if_icmp .eq 97, 3), (1152, .iconst 0, 1), (1153, .ireturn, 1)]
set_option maxRecDepth 100000 in
theorem tbL31_ok : ∀ q ∈ tbL31, decode code q.1 = .ok q.2 := by decide +kernel
def tbL32 : List (Nat × Instr × Nat) := [(1154, .aload_n 1, 1), (1155, .aload_n 0, 1), (1156, .iload_n 3, 1), (1157, .iconst 1, 1), (1158, .iadd, 1), (1159, .iaload, 1), (1160, .invokevirtual 149, 3), (1163, .aload_n 2, 1), (1164, .aload_n 0, 1), (1165, .iload_n 3, 1), (1166, .iconst 1, 1), (1167, .iadd, 1), (1168, .iaload, 1), (1169, .invokevirtual 152, 3), (1172, .if_icmp .eq 74, 3), (1175, .iconst 0, 1), (1176, .ireturn, 1)]
set_option maxRecDepth 100000 in
theorem tbL32_ok : ∀ q ∈ tbL32, decode code q.1 = .ok q.2 := by decide +kernel
def tbL33 : List (Nat × Instr × Nat) := [(1177, .aload_n 1, 1), (1178, .aload_n 0, 1), (1179, .iload_n 3, 1), (1180, .iconst 1, 1), (1181, .iadd, 1), (1182, .iaload, 1), (1183, .invokevirtual 153, 3), (1186, .aload_n 2, 1), (1187, .aload_n 0, 1), (1188, .iload_n 3, 1), (1189, .iconst 1, 1), (1190, .iadd, 1), (1191, .iaload, 1), (1192, .invokevirtual 156, 3), (1195, .if_icmp .eq 51, 3), (1198, .iconst 0, 1), (1199, .ireturn, 1)]
set_option maxRecDepth 100000 in
theorem tbL33_ok : ∀ q ∈ tbL33, decode code q.1 = .ok q.2 := by decide +kernel
def tbL34 : List (Nat × Instr × Nat) := [(1200, .aload_n 1, 1), (1201, .aload_n 0, 1), (1202, .iload_n 3, 1), (1203, .iconst 1, 1), (1204, .iadd, 1), (1205, .iaload, 1), (1206, .invokevirtual 157, 3), (1209, .aload_n 2, 1), (1210, .aload_n 0, 1), (1211, .iload_n 3, 1), (1212, .iconst 1, 1), (1213, .iadd, 1), (1214, .iaload, 1), (1215, .invokevirtual 160, 3), (1218, .if_icmp .eq 28, 3), (1221, .iconst 0, 1), (1222, .ireturn, 1)]
set_option maxRecDepth 100000 in
theorem tbL34_ok : ∀ q ∈ tbL34, decode code q.1 = .ok q.2 := by decide +kernel
def tbL35 : List (Nat × Instr × Nat) := [(1223, .aload_n 1, 1), (1224, .aload_n 0, 1), (1225, .iload_n 3, 1), (1226, .iconst 1, 1), (1227, .iadd, 1), (1228, .iaload, 1), (1229, .invokevirtual 161, 3), (1232, .aload_n 2, 1), (1233, .aload_n 0, 1), (1234, .iload_n 3, 1), (1235, .iconst 1, 1), (1236, .iadd, 1), (1237, .iaload, 1), (1238, .invokevirtual 164, 3), (1241, .if_icmp .eq 5, 3), (1244, .iconst 0, 1), (1245, .ireturn, 1)]
set_option maxRecDepth 100000 in
theorem tbL35_ok : ∀ q ∈ tbL35, decode code q.1 = .ok q.2 := by decide +kernel
/-- the law with these instructions; its name is the frame's -/
def YL (nm : String) (tb : List (Nat × Instr × Nat)) : qY := (RL, { cls := RL, name := nm, desc := "([I)Z" }, code, 4, ret, 1, tb, [])
theorem qOKd_L {nm : String} {tb : List (Nat × Instr × Nat)} (h : ∀ q ∈ tb, decode code q.1 = .ok q.2) : qOKd (YL nm tb) := ⟨h, fun q hq => absurd hq List.not_mem_nil⟩
theorem qCx.tb {nm : String} {tb tb' : List (Nat × Instr × Nat)} {d MC MS : Nat} {κ : qK} (h : ∀ q ∈ tb', decode code q.1 = .ok q.2) (hκ : qCx (YL nm tb) d MC MS κ) : qCx (YL nm tb') d MC MS κ := by
  obtain ⟨p, l, e, R, s, m, args, below, meth, c, D, tc, A, φ0, n0⟩ := κ
  obtain ⟨hx, hb, hml, hr, hlk, hnm, hown, hts, hK, hNW, hA, hRO, hR, hY⟩ := hκ
  exact ⟨hx, hb, hml, hr, hlk, hnm, hown, hts, hK, hNW, hA, hRO, hR, qOKd_L h⟩
theorem qJ.tb {nm : String} {tb tb' : List (Nat × Instr × Nat)} {κ : qK} {fin : State → Prop} {h : qH} {cs sl pc : Nat} {ls : List (Option qV)} {st : List qV} (k : qJ (YL nm tb) κ fin h cs sl pc ls st) : qJ (YL nm tb') κ fin h cs sl pc ls st := by
  obtain ⟨p, l, e, R, s, m, args, below, meth, c, D, tc, A, φ0, n0⟩ := κ
  exact k
/-- the script: object number 1300 -/
def qSc (κ : qK) (L : Nat) (xs : Nat → Int32) : Prop := match κ with
  | (_p, _l, _e, _R, s, _m, _args, _below, _meth, _c, _D, _tc, A, φ0, _n0) => va_X (φ0 1300) L xs s s.heap ∧ φ0 1300 < s.heap.size ∧ ¬ A (φ0 1300)
def sc (xs : Nat → Int32) (x : Int) : Int := (xs x.toNat).toInt
theorem sc_r (xs : Nat → Int32) (x : Int) : qr (sc xs x) := by
  have h1 := Int32.le_toInt (xs x.toNat)
  have h2 := Int32.toInt_lt (xs x.toNat)
  unfold sc
  constructor <;> omega
section QL2
variable {Y : qY} {d MC MS : Nat} {κ : qK} {fin : State → Prop} {h : qH} {cs sl pc : Nat} {ls : List (Option qV)} {st : List qV}
theorem qJ.sld {L : Nat} {xs : Nat → Int32} {x : Int} (hκ : qCx Y d MC MS κ) (hX : qSc κ L xs) (hat : q_at Y.tb pc = some (.iaload, 1)) (hL : L < 2147483648) (h0 : 0 ≤ x ∧ x < L) (k : qJ Y κ fin h cs sl (pc + 1) ls (qI (sc xs x) :: st)) : qJ Y κ fin h cs sl pc ls (qI x :: qR 1300 :: st) := by
  obtain ⟨p, l, e, R, s, m, args, below, meth, c, D, tc, A, φ0, n0⟩ := κ
  obtain ⟨hx, hb, hml, hr, hlk, hnm, hown, hts, hK, hNW, hA, hRO, hR, hY⟩ := hκ
  obtain ⟨x1, x2, x3⟩ := hX
  have hdg := qOKd.dec hY hat
  intro H locs φ lc hP hD hS hag hn hl hll
  obtain ⟨g1, g2⟩ := q_ix h0.1 h0.2 hL
  have k' := k H locs φ lc hP hD hS hag hn hl hll
  simp only [List.map_cons, qc] at k' ⊢
  rw [hag 1300 (Or.inr (by omega))]
  refine va_sld hx hb x1 x2 x3 hS g1 hdg ?_
  rw [g2]
  unfold sc at k'
  rw [Int32.ofInt_toInt] at k'
  exact k'
theorem qJ.slen {L : Nat} {xs : Nat → Int32} (hκ : qCx Y d MC MS κ) (hX : qSc κ L xs) (hat : q_at Y.tb pc = some (.arraylength, 1)) (k : qJ Y κ fin h cs sl (pc + 1) ls (qI L :: st)) : qJ Y κ fin h cs sl pc ls (qR 1300 :: st) := by
  obtain ⟨p, l, e, R, s, m, args, below, meth, c, D, tc, A, φ0, n0⟩ := κ
  obtain ⟨hx, hb, hml, hr, hlk, hnm, hown, hts, hK, hNW, hA, hRO, hR, hY⟩ := hκ
  obtain ⟨x1, x2, x3⟩ := hX
  have hdg := qOKd.dec hY hat
  intro H locs φ lc hP hD hS hag hn hl hll
  have k' := k H locs φ lc hP hD hS hag hn hl hll
  simp only [List.map_cons, qc] at k' ⊢
  rw [hag 1300 (Or.inr (by omega))]
  refine va_slen hx hb x1 x2 x3 hS hdg ?_
  rw [show Int32.ofNat L = Int32.ofInt (L : Int) from (Int32.ofInt_eq_ofNat ..).symm]
  exact k'
/-- the same number twice is the same -/
theorem qJ.icmp_same {x off : Int} {tgt : Nat} (hκ : qCx Y d MC MS κ) (hat : q_at Y.tb pc = some (.if_icmp .eq off, 3)) (ht : (pc : Int) + off = (tgt : Int)) (kt : qJ Y κ fin h cs sl tgt ls st) : qJ Y κ fin h cs sl pc ls (qI x :: qI x :: st) := by
  obtain ⟨p, l, e, R, s, m, args, below, meth, c, D, tc, A, φ0, n0⟩ := κ
  obtain ⟨hx, hb, hml, hr, hlk, hnm, hown, hts, hK, hNW, hA, hRO, hR, hY⟩ := hκ
  have hdg := qOKd.dec hY hat
  intro H locs φ lc hP hD hS hag hn hl hll
  exact lv_icmp_eq hx hb hdg ht (fun _ => kt H locs φ lc hP hD hS hag hn hl hll) (fun g => absurd rfl g)
end QL2
theorem law_wf (u : qU) (i : Int) : ([some (qR 1300), some (qR 0), some (qR 77), some (qI i)] : List (Option qV)).all (fun o => o.all (q_wf (qLy u).length)) = true := by
  rw [qLy_len]
  simp only [List.all_cons, List.all_nil, Option.all_some, q_wf, Bool.and_true, Bool.or_eq_true, Bool.and_eq_true, decide_eq_true_eq]
  omega


theorem kL_9 : qCI RL 9 YX11_init := ⟨⟨okX11_init, qT_t1 25 rfl rfl⟩, rfl, rfl, qT_t1 26 rfl rfl⟩
theorem kL_12 : qCI RL 12 YX12_init := ⟨⟨okX12_init, qT_t6 68 rfl rfl⟩, rfl, rfl, qT_t6 69 rfl rfl⟩
theorem kL_13 : qCV RL 13 YX11_site := ⟨⟨okX11_site, qT_t3 30 rfl rfl⟩, qT_t3 31 rfl rfl, qT_t3 32 rfl rfl⟩
theorem kL_17 : qCV RL 17 YX12_site := ⟨⟨okX12_site, qT_t7 27 rfl rfl⟩, qT_t7 28 rfl rfl, qT_t7 29 rfl rfl⟩
theorem kL_18 : qCV RL 18 YX11_word := ⟨⟨okX11_word, qT_t3 34 rfl rfl⟩, qT_t3 35 rfl rfl, qT_t3 36 rfl rfl⟩
theorem kL_22 : qCV RL 22 YX12_word := ⟨⟨okX12_word, qT_t7 34 rfl rfl⟩, qT_t7 35 rfl rfl, qT_t7 36 rfl rfl⟩
theorem kL_23 : qCV RL 23 YX11_tell := ⟨⟨okX11_tell, qT_t3 65 rfl rfl⟩, qT_t3 66 rfl rfl, qT_t3 67 rfl rfl⟩
theorem kL_27 : qCV RL 27 YX12_tell := ⟨⟨okX12_tell, qT_t7 42 rfl rfl⟩, qT_t7 43 rfl rfl, qT_t7 44 rfl rfl⟩
theorem kL_28 : qCV RL 28 YX11_about := ⟨⟨okX11_about, qT_t3 74 rfl rfl⟩, qT_t3 75 rfl rfl, qT_t3 76 rfl rfl⟩
theorem kL_31 : qCV RL 31 YX12_about := ⟨⟨okX12_about, qT_t7 46 rfl rfl⟩, qT_t7 47 rfl rfl, qT_t7 48 rfl rfl⟩
theorem kL_32 : qCV RL 32 YX11_telling := ⟨⟨okX11_telling, qT_t3 94 rfl rfl⟩, qT_t3 95 rfl rfl, qT_t3 96 rfl rfl⟩
theorem kL_35 : qCV RL 35 YX12_telling := ⟨⟨okX12_telling, qT_t7 62 rfl rfl⟩, qT_t7 63 rfl rfl, qT_t7 64 rfl rfl⟩
theorem kL_36 : qCV RL 36 YX11_day := ⟨⟨okX11_day, qT_t3 98 rfl rfl⟩, qT_t3 99 rfl rfl, qT_t3 100 rfl rfl⟩
theorem kL_39 : qCV RL 39 YX12_day := ⟨⟨okX12_day, qT_t7 66 rfl rfl⟩, qT_t7 67 rfl rfl, qT_t7 68 rfl rfl⟩
theorem kL_40 : qCV RL 40 YX11_view := ⟨⟨okX11_view, qT_t3 102 rfl rfl⟩, qT_t3 103 rfl rfl, qT_t3 104 rfl rfl⟩
theorem kL_43 : qCV RL 43 YX12_view := ⟨⟨okX12_view, qT_t7 70 rfl rfl⟩, qT_t7 71 rfl rfl, qT_t7 72 rfl rfl⟩
theorem kL_44 : qCV RL 44 YX11_row := ⟨⟨okX11_row, qT_t3 106 rfl rfl⟩, qT_t3 107 rfl rfl, qT_t3 108 rfl rfl⟩
theorem kL_48 : qCV RL 48 YX12_row := ⟨⟨okX12_row, qT_t7 74 rfl rfl⟩, qT_t7 75 rfl rfl, qT_t7 76 rfl rfl⟩
theorem kL_49 : qCV RL 49 YX11_column := ⟨⟨okX11_column, qT_t3 157 rfl rfl⟩, qT_t3 158 rfl rfl, qT_t3 159 rfl rfl⟩
theorem kL_52 : qCV RL 52 YX12_column := ⟨⟨okX12_column, qT_t7 104 rfl rfl⟩, qT_t7 105 rfl rfl, qT_t7 106 rfl rfl⟩
theorem kL_53 : qCV RL 53 YX11_breaker := ⟨⟨okX11_breaker, qT_t3 161 rfl rfl⟩, qT_t3 162 rfl rfl, qT_t3 163 rfl rfl⟩
theorem kL_57 : qCV RL 57 YX12_breaker := ⟨⟨okX12_breaker, qT_t7 108 rfl rfl⟩, qT_t7 109 rfl rfl, qT_t7 110 rfl rfl⟩
theorem kL_58 : qCV RL 58 YX11_use := ⟨⟨okX11_use, qT_t3 169 rfl rfl⟩, qT_t3 170 rfl rfl, qT_t3 171 rfl rfl⟩
theorem kL_61 : qCV RL 61 YX12_use := ⟨⟨okX12_use, qT_t7 116 rfl rfl⟩, qT_t7 117 rfl rfl, qT_t7 118 rfl rfl⟩
theorem kL_62 : qCV RL 62 YX11_initial := ⟨⟨okX11_initial, qT_t3 191 rfl rfl⟩, qT_t3 192 rfl rfl, qT_t3 193 rfl rfl⟩
theorem kL_65 : qCV RL 65 YX12_initial := ⟨⟨okX12_initial, qT_t7 128 rfl rfl⟩, qT_t7 129 rfl rfl, qT_t7 130 rfl rfl⟩
theorem kL_66 : qCV RL 66 YX11_twins := ⟨⟨okX11_twins, qT_t3 207 rfl rfl⟩, qT_t3 208 rfl rfl, qT_t3 209 rfl rfl⟩
theorem kL_69 : qCV RL 69 YX12_twins := ⟨⟨okX12_twins, qT_t7 136 rfl rfl⟩, qT_t7 137 rfl rfl, qT_t7 138 rfl rfl⟩
theorem kL_70 : qCV RL 70 YX11_one := ⟨⟨okX11_one, qT_t3 224 rfl rfl⟩, qT_t3 225 rfl rfl, qT_t3 226 rfl rfl⟩
theorem kL_74 : qCV RL 74 YX12_one := ⟨⟨okX12_one, qT_t7 144 rfl rfl⟩, qT_t7 145 rfl rfl, qT_t7 146 rfl rfl⟩
theorem kL_75 : qCV RL 75 YX11_fills := ⟨⟨okX11_fills, qT_t3 234 rfl rfl⟩, qT_t3 235 rfl rfl, qT_t3 236 rfl rfl⟩
theorem kL_78 : qCV RL 78 YX12_fills := ⟨⟨okX12_fills, qT_t7 152 rfl rfl⟩, qT_t7 153 rfl rfl, qT_t7 154 rfl rfl⟩
theorem kL_79 : qCV RL 79 YX11_fill := ⟨⟨okX11_fill, qT_t4 17 rfl rfl⟩, qT_t4 18 rfl rfl, qT_t4 19 rfl rfl⟩
theorem kL_82 : qCV RL 82 YX12_fill := ⟨⟨okX12_fill, qT_t7 160 rfl rfl⟩, qT_t7 161 rfl rfl, qT_t7 162 rfl rfl⟩
theorem kL_83 : qCV RL 83 YX11_account := ⟨⟨okX11_account, qT_t4 24 rfl rfl⟩, qT_t4 25 rfl rfl, qT_t4 26 rfl rfl⟩
theorem kL_86 : qCV RL 86 YX12_account := ⟨⟨okX12_account, qT_t7 164 rfl rfl⟩, qT_t7 165 rfl rfl, qT_t7 166 rfl rfl⟩
theorem kL_87 : qCV RL 87 YX11_count := ⟨⟨okX11_count, qT_t4 28 rfl rfl⟩, qT_t4 29 rfl rfl, qT_t4 30 rfl rfl⟩
theorem kL_91 : qCV RL 91 YX12_count := ⟨⟨okX12_count, qT_t7 168 rfl rfl⟩, qT_t7 169 rfl rfl, qT_t7 170 rfl rfl⟩
theorem kL_92 : qCV RL 92 YX11_sets := ⟨⟨okX11_sets, qT_t4 43 rfl rfl⟩, qT_t4 44 rfl rfl, qT_t4 45 rfl rfl⟩
theorem kL_95 : qCV RL 95 YX12_sets := ⟨⟨okX12_sets, qT_t7 172 rfl rfl⟩, qT_t7 173 rfl rfl, qT_t7 174 rfl rfl⟩
theorem kL_96 : qCV RL 96 YX11_ratio := ⟨⟨okX11_ratio, qT_t4 106 rfl rfl⟩, qT_t4 107 rfl rfl, qT_t4 108 rfl rfl⟩
theorem kL_99 : qCV RL 99 YX12_ratio := ⟨⟨okX12_ratio, qT_t7 191 rfl rfl⟩, qT_t7 192 rfl rfl, qT_t7 193 rfl rfl⟩
theorem kL_100 : qCV RL 100 YX11_sureRatio := ⟨⟨okX11_sureRatio, qT_t4 117 rfl rfl⟩, qT_t4 118 rfl rfl, qT_t4 119 rfl rfl⟩
theorem kL_103 : qCV RL 103 YX12_sureRatio := ⟨⟨okX12_sureRatio, qT_t7 195 rfl rfl⟩, qT_t7 196 rfl rfl, qT_t7 197 rfl rfl⟩
theorem kL_104 : qCV RL 104 YX11_odd := ⟨⟨okX11_odd, qT_t4 125 rfl rfl⟩, qT_t4 126 rfl rfl, qT_t4 127 rfl rfl⟩
theorem kL_107 : qCV RL 107 YX12_odd := ⟨⟨okX12_odd, qT_t7 199 rfl rfl⟩, qT_t7 200 rfl rfl, qT_t7 201 rfl rfl⟩
theorem kL_108 : qCV RL 108 YX11_feed := ⟨⟨okX11_feed, qT_t4 133 rfl rfl⟩, qT_t4 134 rfl rfl, qT_t4 135 rfl rfl⟩
theorem kL_112 : qCV RL 112 YX12_feed := ⟨⟨okX12_feed, qT_t7 203 rfl rfl⟩, qT_t7 204 rfl rfl, qT_t7 205 rfl rfl⟩
theorem kL_113 : qCV RL 113 YX11_end := ⟨⟨okX11_end, qT_t4 141 rfl rfl⟩, qT_t4 142 rfl rfl, qT_t4 143 rfl rfl⟩
theorem kL_116 : qCV RL 116 YX12_end := ⟨⟨okX12_end, qT_t7 211 rfl rfl⟩, qT_t7 212 rfl rfl, qT_t7 213 rfl rfl⟩
theorem kL_117 : qCV RL 117 YX11_name := ⟨⟨okX11_name, qT_t4 145 rfl rfl⟩, qT_t4 146 rfl rfl, qT_t4 147 rfl rfl⟩
theorem kL_120 : qCV RL 120 YX12_name := ⟨⟨okX12_name, qT_t7 215 rfl rfl⟩, qT_t7 216 rfl rfl, qT_t7 217 rfl rfl⟩
theorem kL_121 : qCV RL 121 YX11_spelling := ⟨⟨okX11_spelling, qT_t5 10 rfl rfl⟩, qT_t5 11 rfl rfl, qT_t5 12 rfl rfl⟩
theorem kL_124 : qCV RL 124 YX12_spelling := ⟨⟨okX12_spelling, qT_t7 229 rfl rfl⟩, qT_t7 230 rfl rfl, qT_t7 231 rfl rfl⟩
theorem kL_125 : qCV RL 125 YX11_fault := ⟨⟨okX11_fault, qT_t5 115 rfl rfl⟩, qT_t5 116 rfl rfl, qT_t5 117 rfl rfl⟩
theorem kL_128 : qCV RL 128 YX12_fault := ⟨⟨okX12_fault, qT_t8 33 rfl rfl⟩, qT_t8 34 rfl rfl, qT_t8 35 rfl rfl⟩
theorem kL_129 : qCV RL 129 YX11_spelled := ⟨⟨okX11_spelled, qT_t5 119 rfl rfl⟩, qT_t5 120 rfl rfl, qT_t5 121 rfl rfl⟩
theorem kL_132 : qCV RL 132 YX12_spelled := ⟨⟨okX12_spelled, qT_t8 37 rfl rfl⟩, qT_t8 38 rfl rfl, qT_t8 39 rfl rfl⟩
theorem kL_133 : qCV RL 133 YX11_readings := ⟨⟨okX11_readings, qT_t5 168 rfl rfl⟩, qT_t5 169 rfl rfl, qT_t5 170 rfl rfl⟩
theorem kL_136 : qCV RL 136 YX12_readings := ⟨⟨okX12_readings, qT_t8 73 rfl rfl⟩, qT_t8 74 rfl rfl, qT_t8 75 rfl rfl⟩
theorem kL_137 : qCV RL 137 YX11_reading := ⟨⟨okX11_reading, qT_t5 237 rfl rfl⟩, qT_t5 238 rfl rfl, qT_t5 239 rfl rfl⟩
theorem kL_140 : qCV RL 140 YX12_reading := ⟨⟨okX12_reading, qT_t8 89 rfl rfl⟩, qT_t8 90 rfl rfl, qT_t8 91 rfl rfl⟩
theorem kL_141 : qCV RL 141 YX11_value := ⟨⟨okX11_value, qT_t6 14 rfl rfl⟩, qT_t6 15 rfl rfl, qT_t6 16 rfl rfl⟩
theorem kL_144 : qCV RL 144 YX12_value := ⟨⟨okX12_value, qT_t8 97 rfl rfl⟩, qT_t8 98 rfl rfl, qT_t8 99 rfl rfl⟩
theorem kL_145 : qCV RL 145 YX11_sure := ⟨⟨okX11_sure, qT_t6 18 rfl rfl⟩, qT_t6 19 rfl rfl, qT_t6 20 rfl rfl⟩
theorem kL_148 : qCV RL 148 YX12_sure := ⟨⟨okX12_sure, qT_t8 101 rfl rfl⟩, qT_t8 102 rfl rfl, qT_t8 103 rfl rfl⟩
theorem kL_149 : qCV RL 149 YX11_next := ⟨⟨okX11_next, qT_t6 26 rfl rfl⟩, qT_t6 27 rfl rfl, qT_t6 28 rfl rfl⟩
theorem kL_152 : qCV RL 152 YX12_next := ⟨⟨okX12_next, qT_t8 105 rfl rfl⟩, qT_t8 106 rfl rfl, qT_t8 107 rfl rfl⟩
theorem kL_153 : qCV RL 153 YX11_many := ⟨⟨okX11_many, qT_t6 30 rfl rfl⟩, qT_t6 31 rfl rfl, qT_t6 32 rfl rfl⟩
theorem kL_156 : qCV RL 156 YX12_many := ⟨⟨okX12_many, qT_t8 109 rfl rfl⟩, qT_t8 110 rfl rfl, qT_t8 111 rfl rfl⟩
theorem kL_157 : qCV RL 157 YX11_image := ⟨⟨okX11_image, qT_t6 38 rfl rfl⟩, qT_t6 39 rfl rfl, qT_t6 40 rfl rfl⟩
theorem kL_160 : qCV RL 160 YX12_image := ⟨⟨okX12_image, qT_t8 113 rfl rfl⟩, qT_t8 114 rfl rfl, qT_t8 115 rfl rfl⟩
theorem kL_161 : qCV RL 161 YX11_again := ⟨⟨okX11_again, qT_t6 62 rfl rfl⟩, qT_t6 63 rfl rfl, qT_t6 64 rfl rfl⟩
theorem kL_164 : qCV RL 164 YX12_again := ⟨⟨okX12_again, qT_t8 127 rfl rfl⟩, qT_t8 128 rfl rfl, qT_t8 129 rfl rfl⟩
