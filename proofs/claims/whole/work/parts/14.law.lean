def tb_L_law : List (Nat × Instr × Nat) := [(0, (.new 7, 3)), (3, (.dup, 1)), (4, (.invokespecial 9, 3)), (7, (.astore_n 1, 1)), (8, (.new 10, 3)), (11, (.dup, 1)), (12, (.invokespecial 12, 3)), (15, (.astore_n 2, 1)), (16, (.iconst 0, 1)), (17, (.istore_n 3, 1)), (18, (.iload_n 3, 1)), (19, (.aload_n 0, 1)), (20, (.arraylength, 1)), (21, (.bipush 7, 2)), (23, (.isub, 1)), (24, (.if_icmp .gt 1164, 3)), (27, (.aload_n 0, 1)), (28, (.iload_n 3, 1)), (29, (.iaload, 1)), (30, (.bipush 31, 2)), (32, (.iand, 1)), (33, (.tableswitch 1149 0 23 #[111, 164, 197, 260, 283, 316, 359, 402, 425, 458, 501, 534, 577, 640, 703, 746, 789, 832, 885, 992, 1067, 1080, 1093, 1126], 111)), (144, (.aload_n 1, 1)), (145, (.aload_n 0, 1)), (146, (.iload_n 3, 1)), (147, (.iconst 1, 1)), (148, (.iadd, 1)), (149, (.iaload, 1)), (150, (.aload_n 0, 1)), (151, (.iload_n 3, 1)), (152, (.iconst 2, 1)), (153, (.iadd, 1)), (154, (.iaload, 1)), (155, (.aload_n 0, 1)), (156, (.iload_n 3, 1)), (157, (.iconst 3, 1)), (158, (.iadd, 1)), (159, (.iaload, 1)), (160, (.aload_n 0, 1)), (161, (.iload_n 3, 1)), (162, (.iconst 4, 1)), (163, (.iadd, 1)), (164, (.iaload, 1)), (165, (.invokevirtual 13, 3)), (168, (.aload_n 2, 1)), (169, (.aload_n 0, 1)), (170, (.iload_n 3, 1)), (171, (.iconst 1, 1)), (172, (.iadd, 1)), (173, (.iaload, 1)), (174, (.aload_n 0, 1)), (175, (.iload_n 3, 1)), (176, (.iconst 2, 1)), (177, (.iadd, 1)), (178, (.iaload, 1)), (179, (.aload_n 0, 1)), (180, (.iload_n 3, 1)), (181, (.iconst 3, 1)), (182, (.iadd, 1)), (183, (.iaload, 1)), (184, (.aload_n 0, 1)), (185, (.iload_n 3, 1)), (186, (.iconst 4, 1)), (187, (.iadd, 1)), (188, (.iaload, 1)), (189, (.invokevirtual 17, 3)), (192, (.if_icmp .eq 990, 3)), (195, (.iconst 0, 1)), (196, (.ireturn, 1)), (197, (.aload_n 1, 1)), (198, (.aload_n 0, 1)), (199, (.iload_n 3, 1)), (200, (.iconst 1, 1)), (201, (.iadd, 1)), (202, (.iaload, 1)), (203, (.aload_n 0, 1)), (204, (.iload_n 3, 1)), (205, (.iconst 2, 1)), (206, (.iadd, 1)), (207, (.iaload, 1)), (208, (.invokevirtual 18, 3)), (211, (.aload_n 2, 1)), (212, (.aload_n 0, 1)), (213, (.iload_n 3, 1)), (214, (.iconst 1, 1)), (215, (.iadd, 1)), (216, (.iaload, 1)), (217, (.aload_n 0, 1)), (218, (.iload_n 3, 1)), (219, (.iconst 2, 1)), (220, (.iadd, 1)), (221, (.iaload, 1)), (222, (.invokevirtual 22, 3)), (225, (.if_icmp .eq 957, 3)), (228, (.iconst 0, 1)), (229, (.ireturn, 1)), (230, (.aload_n 1, 1)), (231, (.aload_n 0, 1)), (232, (.iload_n 3, 1)), (233, (.iconst 1, 1)), (234, (.iadd, 1)), (235, (.iaload, 1)), (236, (.aload_n 0, 1)), (237, (.iload_n 3, 1)), (238, (.iconst 2, 1)), (239, (.iadd, 1)), (240, (.iaload, 1)), (241, (.aload_n 0, 1)), (242, (.iload_n 3, 1)), (243, (.iconst 3, 1)), (244, (.iadd, 1)), (245, (.iaload, 1)), (246, (.aload_n 0, 1)), (247, (.iload_n 3, 1)), (248, (.iconst 4, 1)), (249, (.iadd, 1)), (250, (.iaload, 1)), (251, (.aload_n 0, 1)), (252, (.iload_n 3, 1)), (253, (.iconst 5, 1)), (254, (.iadd, 1)), (255, (.iaload, 1)), (256, (.invokevirtual 23, 3)), (259, (.aload_n 2, 1)), (260, (.aload_n 0, 1)), (261, (.iload_n 3, 1)), (262, (.iconst 1, 1)), (263, (.iadd, 1)), (264, (.iaload, 1)), (265, (.aload_n 0, 1)), (266, (.iload_n 3, 1)), (267, (.iconst 2, 1)), (268, (.iadd, 1)), (269, (.iaload, 1)), (270, (.aload_n 0, 1)), (271, (.iload_n 3, 1)), (272, (.iconst 3, 1)), (273, (.iadd, 1)), (274, (.iaload, 1)), (275, (.aload_n 0, 1)), (276, (.iload_n 3, 1)), (277, (.iconst 4, 1)), (278, (.iadd, 1)), (279, (.iaload, 1)), (280, (.aload_n 0, 1)), (281, (.iload_n 3, 1)), (282, (.iconst 5, 1)), (283, (.iadd, 1)), (284, (.iaload, 1)), (285, (.invokevirtual 27, 3)), (288, (.if_icmp .eq 894, 3)), (291, (.iconst 0, 1)), (292, (.ireturn, 1)), (293, (.aload_n 1, 1)), (294, (.aload_n 0, 1)), (295, (.iload_n 3, 1)), (296, (.iconst 1, 1)), (297, (.iadd, 1)), (298, (.iaload, 1)), (299, (.invokevirtual 28, 3)), (302, (.aload_n 2, 1)), (303, (.aload_n 0, 1)), (304, (.iload_n 3, 1)), (305, (.iconst 1, 1)), (306, (.iadd, 1)), (307, (.iaload, 1)), (308, (.invokevirtual 32, 3)), (311, (.if_icmp .eq 871, 3)), (314, (.iconst 0, 1)), (315, (.ireturn, 1)), (316, (.aload_n 1, 1)), (317, (.aload_n 0, 1)), (318, (.iload_n 3, 1)), (319, (.iconst 1, 1)), (320, (.iadd, 1)), (321, (.iaload, 1)), (322, (.aload_n 0, 1)), (323, (.iload_n 3, 1)), (324, (.iconst 2, 1)), (325, (.iadd, 1)), (326, (.iaload, 1)), (327, (.invokevirtual 33, 3)), (330, (.aload_n 2, 1)), (331, (.aload_n 0, 1)), (332, (.iload_n 3, 1)), (333, (.iconst 1, 1)), (334, (.iadd, 1)), (335, (.iaload, 1)), (336, (.aload_n 0, 1)), (337, (.iload_n 3, 1)), (338, (.iconst 2, 1)), (339, (.iadd, 1)), (340, (.iaload, 1)), (341, (.invokevirtual 37, 3)), (344, (.if_icmp .eq 838, 3)), (347, (.iconst 0, 1)), (348, (.ireturn, 1)), (349, (.aload_n 1, 1)), (350, (.aload_n 0, 1)), (351, (.iload_n 3, 1)), (352, (.iconst 1, 1)), (353, (.iadd, 1)), (354, (.iaload, 1)), (355, (.aload_n 0, 1)), (356, (.iload_n 3, 1)), (357, (.iconst 2, 1)), (358, (.iadd, 1)), (359, (.iaload, 1)), (360, (.aload_n 0, 1)), (361, (.iload_n 3, 1)), (362, (.iconst 3, 1)), (363, (.iadd, 1)), (364, (.iaload, 1)), (365, (.invokevirtual 38, 3)), (368, (.aload_n 2, 1)), (369, (.aload_n 0, 1)), (370, (.iload_n 3, 1)), (371, (.iconst 1, 1)), (372, (.iadd, 1)), (373, (.iaload, 1)), (374, (.aload_n 0, 1)), (375, (.iload_n 3, 1)), (376, (.iconst 2, 1)), (377, (.iadd, 1)), (378, (.iaload, 1)), (379, (.aload_n 0, 1)), (380, (.iload_n 3, 1)), (381, (.iconst 3, 1)), (382, (.iadd, 1)), (383, (.iaload, 1)), (384, (.invokevirtual 42, 3)), (387, (.if_icmp .eq 795, 3)), (390, (.iconst 0, 1)), (391, (.ireturn, 1)), (392, (.aload_n 1, 1)), (393, (.aload_n 0, 1)), (394, (.iload_n 3, 1)), (395, (.iconst 1, 1)), (396, (.iadd, 1)), (397, (.iaload, 1)), (398, (.aload_n 0, 1)), (399, (.iload_n 3, 1)), (400, (.iconst 2, 1)), (401, (.iadd, 1)), (402, (.iaload, 1)), (403, (.aload_n 0, 1)), (404, (.iload_n 3, 1)), (405, (.iconst 3, 1)), (406, (.iadd, 1)), (407, (.iaload, 1)), (408, (.invokevirtual 43, 3)), (411, (.aload_n 2, 1)), (412, (.aload_n 0, 1)), (413, (.iload_n 3, 1)), (414, (.iconst 1, 1)), (415, (.iadd, 1)), (416, (.iaload, 1)), (417, (.aload_n 0, 1)), (418, (.iload_n 3, 1)), (419, (.iconst 2, 1)), (420, (.iadd, 1)), (421, (.iaload, 1)), (422, (.aload_n 0, 1)), (423, (.iload_n 3, 1)), (424, (.iconst 3, 1)), (425, (.iadd, 1)), (426, (.iaload, 1)), (427, (.invokevirtual 46, 3)), (430, (.if_icmp .eq 752, 3)), (433, (.iconst 0, 1)), (434, (.ireturn, 1)), (435, (.aload_n 1, 1)), (436, (.aload_n 0, 1)), (437, (.iload_n 3, 1)), (438, (.iconst 1, 1)), (439, (.iadd, 1)), (440, (.iaload, 1)), (441, (.invokevirtual 47, 3)), (444, (.aload_n 2, 1)), (445, (.aload_n 0, 1)), (446, (.iload_n 3, 1)), (447, (.iconst 1, 1)), (448, (.iadd, 1)), (449, (.iaload, 1)), (450, (.invokevirtual 50, 3)), (453, (.if_icmp .eq 729, 3)), (456, (.iconst 0, 1)), (457, (.ireturn, 1)), (458, (.aload_n 1, 1)), (459, (.aload_n 0, 1)), (460, (.iload_n 3, 1)), (461, (.iconst 1, 1)), (462, (.iadd, 1)), (463, (.iaload, 1)), (464, (.aload_n 0, 1)), (465, (.iload_n 3, 1)), (466, (.iconst 2, 1)), (467, (.iadd, 1)), (468, (.iaload, 1)), (469, (.invokevirtual 51, 3)), (472, (.aload_n 2, 1)), (473, (.aload_n 0, 1)), (474, (.iload_n 3, 1)), (475, (.iconst 1, 1)), (476, (.iadd, 1)), (477, (.iaload, 1)), (478, (.aload_n 0, 1)), (479, (.iload_n 3, 1)), (480, (.iconst 2, 1)), (481, (.iadd, 1)), (482, (.iaload, 1)), (483, (.invokevirtual 54, 3)), (486, (.if_icmp .eq 696, 3)), (489, (.iconst 0, 1)), (490, (.ireturn, 1)), (491, (.aload_n 1, 1)), (492, (.aload_n 0, 1)), (493, (.iload_n 3, 1)), (494, (.iconst 1, 1)), (495, (.iadd, 1)), (496, (.iaload, 1)), (497, (.aload_n 0, 1)), (498, (.iload_n 3, 1)), (499, (.iconst 2, 1)), (500, (.iadd, 1)), (501, (.iaload, 1)), (502, (.aload_n 0, 1)), (503, (.iload_n 3, 1)), (504, (.iconst 3, 1)), (505, (.iadd, 1)), (506, (.iaload, 1)), (507, (.invokevirtual 55, 3)), (510, (.aload_n 2, 1)), (511, (.aload_n 0, 1)), (512, (.iload_n 3, 1)), (513, (.iconst 1, 1)), (514, (.iadd, 1)), (515, (.iaload, 1)), (516, (.aload_n 0, 1)), (517, (.iload_n 3, 1)), (518, (.iconst 2, 1)), (519, (.iadd, 1)), (520, (.iaload, 1)), (521, (.aload_n 0, 1)), (522, (.iload_n 3, 1)), (523, (.iconst 3, 1)), (524, (.iadd, 1)), (525, (.iaload, 1)), (526, (.invokevirtual 58, 3)), (529, (.if_icmp .eq 653, 3)), (532, (.iconst 0, 1)), (533, (.ireturn, 1)), (534, (.aload_n 1, 1)), (535, (.aload_n 0, 1)), (536, (.iload_n 3, 1)), (537, (.iconst 1, 1)), (538, (.iadd, 1)), (539, (.iaload, 1)), (540, (.aload_n 0, 1)), (541, (.iload_n 3, 1)), (542, (.iconst 2, 1)), (543, (.iadd, 1)), (544, (.iaload, 1)), (545, (.invokevirtual 59, 3)), (548, (.aload_n 2, 1)), (549, (.aload_n 0, 1)), (550, (.iload_n 3, 1)), (551, (.iconst 1, 1)), (552, (.iadd, 1)), (553, (.iaload, 1)), (554, (.aload_n 0, 1)), (555, (.iload_n 3, 1)), (556, (.iconst 2, 1)), (557, (.iadd, 1)), (558, (.iaload, 1)), (559, (.invokevirtual 62, 3)), (562, (.if_icmp .eq 620, 3)), (565, (.iconst 0, 1)), (566, (.ireturn, 1)), (567, (.aload_n 1, 1)), (568, (.aload_n 0, 1)), (569, (.iload_n 3, 1)), (570, (.iconst 1, 1)), (571, (.iadd, 1)), (572, (.iaload, 1)), (573, (.aload_n 0, 1)), (574, (.iload_n 3, 1)), (575, (.iconst 2, 1)), (576, (.iadd, 1)), (577, (.iaload, 1)), (578, (.aload_n 0, 1)), (579, (.iload_n 3, 1)), (580, (.iconst 3, 1)), (581, (.iadd, 1)), (582, (.iaload, 1)), (583, (.invokevirtual 63, 3)), (586, (.aload_n 2, 1)), (587, (.aload_n 0, 1)), (588, (.iload_n 3, 1)), (589, (.iconst 1, 1)), (590, (.iadd, 1)), (591, (.iaload, 1)), (592, (.aload_n 0, 1)), (593, (.iload_n 3, 1)), (594, (.iconst 2, 1)), (595, (.iadd, 1)), (596, (.iaload, 1)), (597, (.aload_n 0, 1)), (598, (.iload_n 3, 1)), (599, (.iconst 3, 1)), (600, (.iadd, 1)), (601, (.iaload, 1)), (602, (.invokevirtual 66, 3)), (605, (.if_icmp .eq 577, 3)), (608, (.iconst 0, 1)), (609, (.ireturn, 1)), (610, (.aload_n 1, 1)), (611, (.aload_n 0, 1)), (612, (.iload_n 3, 1)), (613, (.iconst 1, 1)), (614, (.iadd, 1)), (615, (.iaload, 1)), (616, (.aload_n 0, 1)), (617, (.iload_n 3, 1)), (618, (.iconst 2, 1)), (619, (.iadd, 1)), (620, (.iaload, 1)), (621, (.aload_n 0, 1)), (622, (.iload_n 3, 1)), (623, (.iconst 3, 1)), (624, (.iadd, 1)), (625, (.iaload, 1)), (626, (.aload_n 0, 1)), (627, (.iload_n 3, 1)), (628, (.iconst 4, 1)), (629, (.iadd, 1)), (630, (.iaload, 1)), (631, (.aload_n 0, 1)), (632, (.iload_n 3, 1)), (633, (.iconst 5, 1)), (634, (.iadd, 1)), (635, (.iaload, 1)), (636, (.invokevirtual 67, 3)), (639, (.aload_n 2, 1)), (640, (.aload_n 0, 1)), (641, (.iload_n 3, 1)), (642, (.iconst 1, 1)), (643, (.iadd, 1)), (644, (.iaload, 1)), (645, (.aload_n 0, 1)), (646, (.iload_n 3, 1)), (647, (.iconst 2, 1)), (648, (.iadd, 1)), (649, (.iaload, 1)), (650, (.aload_n 0, 1)), (651, (.iload_n 3, 1)), (652, (.iconst 3, 1)), (653, (.iadd, 1)), (654, (.iaload, 1)), (655, (.aload_n 0, 1)), (656, (.iload_n 3, 1)), (657, (.iconst 4, 1)), (658, (.iadd, 1)), (659, (.iaload, 1)), (660, (.aload_n 0, 1)), (661, (.iload_n 3, 1)), (662, (.iconst 5, 1)), (663, (.iadd, 1)), (664, (.iaload, 1)), (665, (.invokevirtual 70, 3)), (668, (.if_icmp .eq 514, 3)), (671, (.iconst 0, 1)), (672, (.ireturn, 1)), (673, (.aload_n 1, 1)), (674, (.aload_n 0, 1)), (675, (.iload_n 3, 1)), (676, (.iconst 1, 1)), (677, (.iadd, 1)), (678, (.iaload, 1)), (679, (.aload_n 0, 1)), (680, (.iload_n 3, 1)), (681, (.iconst 2, 1)), (682, (.iadd, 1)), (683, (.iaload, 1)), (684, (.aload_n 0, 1)), (685, (.iload_n 3, 1)), (686, (.iconst 3, 1)), (687, (.iadd, 1)), (688, (.iaload, 1)), (689, (.aload_n 0, 1)), (690, (.iload_n 3, 1)), (691, (.iconst 4, 1)), (692, (.iadd, 1)), (693, (.iaload, 1)), (694, (.aload_n 0, 1)), (695, (.iload_n 3, 1)), (696, (.iconst 5, 1)), (697, (.iadd, 1)), (698, (.iaload, 1)), (699, (.invokevirtual 71, 3)), (702, (.aload_n 2, 1)), (703, (.aload_n 0, 1)), (704, (.iload_n 3, 1)), (705, (.iconst 1, 1)), (706, (.iadd, 1)), (707, (.iaload, 1)), (708, (.aload_n 0, 1)), (709, (.iload_n 3, 1)), (710, (.iconst 2, 1)), (711, (.iadd, 1)), (712, (.iaload, 1)), (713, (.aload_n 0, 1)), (714, (.iload_n 3, 1)), (715, (.iconst 3, 1)), (716, (.iadd, 1)), (717, (.iaload, 1)), (718, (.aload_n 0, 1)), (719, (.iload_n 3, 1)), (720, (.iconst 4, 1)), (721, (.iadd, 1)), (722, (.iaload, 1)), (723, (.aload_n 0, 1)), (724, (.iload_n 3, 1)), (725, (.iconst 5, 1)), (726, (.iadd, 1)), (727, (.iaload, 1)), (728, (.invokevirtual 74, 3)), (731, (.if_icmp .eq 451, 3)), (734, (.iconst 0, 1)), (735, (.ireturn, 1)), (736, (.aload_n 1, 1)), (737, (.aload_n 0, 1)), (738, (.iload_n 3, 1)), (739, (.iconst 1, 1)), (740, (.iadd, 1)), (741, (.iaload, 1)), (742, (.aload_n 0, 1)), (743, (.iload_n 3, 1)), (744, (.iconst 2, 1)), (745, (.iadd, 1)), (746, (.iaload, 1)), (747, (.aload_n 0, 1)), (748, (.iload_n 3, 1)), (749, (.iconst 3, 1)), (750, (.iadd, 1)), (751, (.iaload, 1)), (752, (.invokevirtual 75, 3)), (755, (.aload_n 2, 1)), (756, (.aload_n 0, 1)), (757, (.iload_n 3, 1)), (758, (.iconst 1, 1)), (759, (.iadd, 1)), (760, (.iaload, 1)), (761, (.aload_n 0, 1)), (762, (.iload_n 3, 1)), (763, (.iconst 2, 1)), (764, (.iadd, 1)), (765, (.iaload, 1)), (766, (.aload_n 0, 1)), (767, (.iload_n 3, 1)), (768, (.iconst 3, 1)), (769, (.iadd, 1)), (770, (.iaload, 1)), (771, (.invokevirtual 78, 3)), (774, (.if_icmp .eq 408, 3)), (777, (.iconst 0, 1)), (778, (.ireturn, 1)), (779, (.aload_n 1, 1)), (780, (.aload_n 0, 1)), (781, (.iload_n 3, 1)), (782, (.iconst 1, 1)), (783, (.iadd, 1)), (784, (.iaload, 1)), (785, (.aload_n 0, 1)), (786, (.iload_n 3, 1)), (787, (.iconst 2, 1)), (788, (.iadd, 1)), (789, (.iaload, 1)), (790, (.aload_n 0, 1)), (791, (.iload_n 3, 1)), (792, (.iconst 3, 1)), (793, (.iadd, 1)), (794, (.iaload, 1)), (795, (.invokevirtual 79, 3)), (798, (.aload_n 2, 1)), (799, (.aload_n 0, 1)), (800, (.iload_n 3, 1)), (801, (.iconst 1, 1)), (802, (.iadd, 1)), (803, (.iaload, 1)), (804, (.aload_n 0, 1)), (805, (.iload_n 3, 1)), (806, (.iconst 2, 1)), (807, (.iadd, 1)), (808, (.iaload, 1)), (809, (.aload_n 0, 1)), (810, (.iload_n 3, 1)), (811, (.iconst 3, 1)), (812, (.iadd, 1)), (813, (.iaload, 1)), (814, (.invokevirtual 82, 3)), (817, (.if_icmp .eq 365, 3)), (820, (.iconst 0, 1)), (821, (.ireturn, 1)), (822, (.aload_n 1, 1)), (823, (.aload_n 0, 1)), (824, (.iload_n 3, 1)), (825, (.iconst 1, 1)), (826, (.iadd, 1)), (827, (.iaload, 1)), (828, (.aload_n 0, 1)), (829, (.iload_n 3, 1)), (830, (.iconst 2, 1)), (831, (.iadd, 1)), (832, (.iaload, 1)), (833, (.aload_n 0, 1)), (834, (.iload_n 3, 1)), (835, (.iconst 3, 1)), (836, (.iadd, 1)), (837, (.iaload, 1)), (838, (.invokevirtual 83, 3)), (841, (.aload_n 2, 1)), (842, (.aload_n 0, 1)), (843, (.iload_n 3, 1)), (844, (.iconst 1, 1)), (845, (.iadd, 1)), (846, (.iaload, 1)), (847, (.aload_n 0, 1)), (848, (.iload_n 3, 1)), (849, (.iconst 2, 1)), (850, (.iadd, 1)), (851, (.iaload, 1)), (852, (.aload_n 0, 1)), (853, (.iload_n 3, 1)), (854, (.iconst 3, 1)), (855, (.iadd, 1)), (856, (.iaload, 1)), (857, (.invokevirtual 86, 3)), (860, (.if_icmp .eq 322, 3)), (863, (.iconst 0, 1)), (864, (.ireturn, 1)), (865, (.aload_n 1, 1)), (866, (.aload_n 0, 1)), (867, (.iload_n 3, 1)), (868, (.iconst 1, 1)), (869, (.iadd, 1)), (870, (.iaload, 1)), (871, (.aload_n 0, 1)), (872, (.iload_n 3, 1)), (873, (.iconst 2, 1)), (874, (.iadd, 1)), (875, (.iaload, 1)), (876, (.aload_n 0, 1)), (877, (.iload_n 3, 1)), (878, (.iconst 3, 1)), (879, (.iadd, 1)), (880, (.iaload, 1)), (881, (.aload_n 0, 1)), (882, (.iload_n 3, 1)), (883, (.iconst 4, 1)), (884, (.iadd, 1)), (885, (.iaload, 1)), (886, (.invokevirtual 87, 3)), (889, (.aload_n 2, 1)), (890, (.aload_n 0, 1)), (891, (.iload_n 3, 1)), (892, (.iconst 1, 1)), (893, (.iadd, 1)), (894, (.iaload, 1)), (895, (.aload_n 0, 1)), (896, (.iload_n 3, 1)), (897, (.iconst 2, 1)), (898, (.iadd, 1)), (899, (.iaload, 1)), (900, (.aload_n 0, 1)), (901, (.iload_n 3, 1)), (902, (.iconst 3, 1)), (903, (.iadd, 1)), (904, (.iaload, 1)), (905, (.aload_n 0, 1)), (906, (.iload_n 3, 1)), (907, (.iconst 4, 1)), (908, (.iadd, 1)), (909, (.iaload, 1)), (910, (.invokevirtual 91, 3)), (913, (.if_icmp .eq 269, 3)), (916, (.iconst 0, 1)), (917, (.ireturn, 1)), (918, (.aload_n 1, 1)), (919, (.aload_n 0, 1)), (920, (.iload_n 3, 1)), (921, (.iconst 1, 1)), (922, (.iadd, 1)), (923, (.iaload, 1)), (924, (.aload_n 0, 1)), (925, (.iload_n 3, 1)), (926, (.iconst 2, 1)), (927, (.iadd, 1)), (928, (.iaload, 1)), (929, (.aload_n 0, 1)), (930, (.iload_n 3, 1)), (931, (.iconst 3, 1)), (932, (.iadd, 1)), (933, (.iaload, 1)), (934, (.aload_n 0, 1)), (935, (.iload_n 3, 1)), (936, (.iconst 4, 1)), (937, (.iadd, 1)), (938, (.iaload, 1)), (939, (.ifCond .eq 7, 3)), (942, (.iconst 1, 1)), (943, (.goto 4, 3)), (946, (.iconst 0, 1)), (947, (.aload_n 0, 1)), (948, (.iload_n 3, 1)), (949, (.iconst 5, 1)), (950, (.iadd, 1)), (951, (.iaload, 1)), (952, (.ifCond .eq 7, 3)), (955, (.iconst 1, 1)), (956, (.goto 4, 3)), (959, (.iconst 0, 1)), (960, (.aload_n 0, 1)), (961, (.iload_n 3, 1)), (962, (.bipush 6, 2)), (964, (.iadd, 1)), (965, (.iaload, 1)), (966, (.invokevirtual 92, 3)), (969, (.aload_n 2, 1)), (970, (.aload_n 0, 1)), (971, (.iload_n 3, 1)), (972, (.iconst 1, 1)), (973, (.iadd, 1)), (974, (.iaload, 1)), (975, (.aload_n 0, 1)), (976, (.iload_n 3, 1)), (977, (.iconst 2, 1)), (978, (.iadd, 1)), (979, (.iaload, 1)), (980, (.aload_n 0, 1)), (981, (.iload_n 3, 1)), (982, (.iconst 3, 1)), (983, (.iadd, 1)), (984, (.iaload, 1)), (985, (.aload_n 0, 1)), (986, (.iload_n 3, 1)), (987, (.iconst 4, 1)), (988, (.iadd, 1)), (989, (.iaload, 1)), (990, (.ifCond .eq 7, 3)), (993, (.iconst 1, 1)), (994, (.goto 4, 3)), (997, (.iconst 0, 1)), (998, (.aload_n 0, 1)), (999, (.iload_n 3, 1)), (1000, (.iconst 5, 1)), (1001, (.iadd, 1)), (1002, (.iaload, 1)), (1003, (.ifCond .eq 7, 3)), (1006, (.iconst 1, 1)), (1007, (.goto 4, 3)), (1010, (.iconst 0, 1)), (1011, (.aload_n 0, 1)), (1012, (.iload_n 3, 1)), (1013, (.bipush 6, 2)), (1015, (.iadd, 1)), (1016, (.iaload, 1)), (1017, (.invokevirtual 96, 3)), (1020, (.if_icmp .eq 162, 3)), (1023, (.iconst 0, 1)), (1024, (.ireturn, 1)), (1025, (.aload_n 1, 1)), (1026, (.aload_n 0, 1)), (1027, (.iload_n 3, 1)), (1028, (.iconst 1, 1)), (1029, (.iadd, 1)), (1030, (.iaload, 1)), (1031, (.aload_n 0, 1)), (1032, (.iload_n 3, 1)), (1033, (.iconst 2, 1)), (1034, (.iadd, 1)), (1035, (.iaload, 1)), (1036, (.aload_n 0, 1)), (1037, (.iload_n 3, 1)), (1038, (.iconst 3, 1)), (1039, (.iadd, 1)), (1040, (.iaload, 1)), (1041, (.aload_n 0, 1)), (1042, (.iload_n 3, 1)), (1043, (.iconst 4, 1)), (1044, (.iadd, 1)), (1045, (.iaload, 1)), (1046, (.aload_n 0, 1)), (1047, (.iload_n 3, 1)), (1048, (.iconst 5, 1)), (1049, (.iadd, 1)), (1050, (.iaload, 1)), (1051, (.aload_n 0, 1)), (1052, (.iload_n 3, 1)), (1053, (.bipush 6, 2)), (1055, (.iadd, 1)), (1056, (.iaload, 1)), (1057, (.invokevirtual 97, 3)), (1060, (.aload_n 2, 1)), (1061, (.aload_n 0, 1)), (1062, (.iload_n 3, 1)), (1063, (.iconst 1, 1)), (1064, (.iadd, 1)), (1065, (.iaload, 1)), (1066, (.aload_n 0, 1)), (1067, (.iload_n 3, 1)), (1068, (.iconst 2, 1)), (1069, (.iadd, 1)), (1070, (.iaload, 1)), (1071, (.aload_n 0, 1)), (1072, (.iload_n 3, 1)), (1073, (.iconst 3, 1)), (1074, (.iadd, 1)), (1075, (.iaload, 1)), (1076, (.aload_n 0, 1)), (1077, (.iload_n 3, 1)), (1078, (.iconst 4, 1)), (1079, (.iadd, 1)), (1080, (.iaload, 1)), (1081, (.aload_n 0, 1)), (1082, (.iload_n 3, 1)), (1083, (.iconst 5, 1)), (1084, (.iadd, 1)), (1085, (.iaload, 1)), (1086, (.aload_n 0, 1)), (1087, (.iload_n 3, 1)), (1088, (.bipush 6, 2)), (1090, (.iadd, 1)), (1091, (.iaload, 1)), (1092, (.invokevirtual 101, 3)), (1095, (.if_icmp .eq 87, 3)), (1098, (.iconst 0, 1)), (1099, (.ireturn, 1)), (1100, (.aload_n 1, 1)), (1101, (.invokevirtual 102, 3)), (1104, (.aload_n 2, 1)), (1105, (.invokevirtual 106, 3)), (1108, (.if_icmp .eq 74, 3)), (1111, (.iconst 0, 1)), (1112, (.ireturn, 1)), (1113, (.aload_n 1, 1)), (1114, (.invokevirtual 107, 3)), (1117, (.aload_n 2, 1)), (1118, (.invokevirtual 111, 3)), (1121, (.if_icmp .eq 61, 3)), (1124, (.iconst 0, 1)), (1125, (.ireturn, 1)), (1126, (.aload_n 1, 1)), (1127, (.aload_n 0, 1)), (1128, (.iload_n 3, 1)), (1129, (.iconst 1, 1)), (1130, (.iadd, 1)), (1131, (.iaload, 1)), (1132, (.aload_n 0, 1)), (1133, (.iload_n 3, 1)), (1134, (.iconst 2, 1)), (1135, (.iadd, 1)), (1136, (.iaload, 1)), (1137, (.invokevirtual 112, 3)), (1140, (.aload_n 2, 1)), (1141, (.aload_n 0, 1)), (1142, (.iload_n 3, 1)), (1143, (.iconst 1, 1)), (1144, (.iadd, 1)), (1145, (.iaload, 1)), (1146, (.aload_n 0, 1)), (1147, (.iload_n 3, 1)), (1148, (.iconst 2, 1)), (1149, (.iadd, 1)), (1150, (.iaload, 1)), (1151, (.invokevirtual 115, 3)), (1154, (.if_icmp .eq 28, 3)), (1157, (.iconst 0, 1)), (1158, (.ireturn, 1)), (1159, (.aload_n 1, 1)), (1160, (.aload_n 0, 1)), (1161, (.iload_n 3, 1)), (1162, (.iconst 1, 1)), (1163, (.iadd, 1)), (1164, (.iaload, 1)), (1165, (.invokevirtual 116, 3)), (1168, (.aload_n 2, 1)), (1169, (.aload_n 0, 1)), (1170, (.iload_n 3, 1)), (1171, (.iconst 1, 1)), (1172, (.iadd, 1)), (1173, (.iaload, 1)), (1174, (.invokevirtual 119, 3)), (1177, (.if_icmp .eq 5, 3)), (1180, (.iconst 0, 1)), (1181, (.ireturn, 1)), (1182, (.iinc 3 7, 3)), (1185, (.goto (-1167), 3)), (1188, (.iconst 1, 1)), (1189, (.ireturn, 1))]
theorem dm_L_law : ∀ q ∈ tb_L_law, decode zL_law.2.1 q.1 = .ok q.2 := by decide +kernel
def b_L_law (g : qG) (n : Nat) (j r : Nat) (K18 KS : Int32 → qM → qR) (a3 : Int32) (M : qM) : qR :=
  (if ((Int32.ofNat g.2.2.2.2.2.1) - (7 : Int32)) < a3 then some ((1 : Int32), M) else qg a3 g.2.2.2.2.2.1 (qsw ((g.2.2.2.2.2.2 a3.toNatClampNeg) &&& (31 : Int32)) [((0 : Int32), qg (a3 + (1 : Int32)) g.2.2.2.2.2.1 (qg (a3 + (2 : Int32)) g.2.2.2.2.2.1 (qg (a3 + (3 : Int32)) g.2.2.2.2.2.1 (qg (a3 + (4 : Int32)) g.2.2.2.2.2.1 (qc (f_X11_kind n (g.2.2.2.2.2.2 (a3 + (1 : Int32)).toNatClampNeg) (g.2.2.2.2.2.2 (a3 + (2 : Int32)).toNatClampNeg) (g.2.2.2.2.2.2 (a3 + (3 : Int32)).toNatClampNeg) (g.2.2.2.2.2.2 (a3 + (4 : Int32)).toNatClampNeg) M) (fun r2 m3 => qg (a3 + (1 : Int32)) g.2.2.2.2.2.1 (qg (a3 + (2 : Int32)) g.2.2.2.2.2.1 (qg (a3 + (3 : Int32)) g.2.2.2.2.2.1 (qg (a3 + (4 : Int32)) g.2.2.2.2.2.1 (qc (f_X12_kind n (g.2.2.2.2.2.2 (a3 + (1 : Int32)).toNatClampNeg) (g.2.2.2.2.2.2 (a3 + (2 : Int32)).toNatClampNeg) (g.2.2.2.2.2.2 (a3 + (3 : Int32)).toNatClampNeg) (g.2.2.2.2.2.2 (a3 + (4 : Int32)).toNatClampNeg) m3) (fun r4 m5 => (if r2 = r4 then ql (a3 + (7 : Int32)) (fun x6 => K18 x6 m5) else none)))))))))))), ((1 : Int32), qg (a3 + (1 : Int32)) g.2.2.2.2.2.1 (qg (a3 + (2 : Int32)) g.2.2.2.2.2.1 (qc (f_X11_person n (g.2.2.2.2.2.2 (a3 + (1 : Int32)).toNatClampNeg) (g.2.2.2.2.2.2 (a3 + (2 : Int32)).toNatClampNeg) M) (fun r7 m8 => qg (a3 + (1 : Int32)) g.2.2.2.2.2.1 (qg (a3 + (2 : Int32)) g.2.2.2.2.2.1 (qc (f_X12_person n (g.2.2.2.2.2.2 (a3 + (1 : Int32)).toNatClampNeg) (g.2.2.2.2.2.2 (a3 + (2 : Int32)).toNatClampNeg) m8) (fun r9 m10 => (if r7 = r9 then ql (a3 + (7 : Int32)) (fun x11 => K18 x11 m10) else none)))))))), ((2 : Int32), qg (a3 + (1 : Int32)) g.2.2.2.2.2.1 (qg (a3 + (2 : Int32)) g.2.2.2.2.2.1 (qg (a3 + (3 : Int32)) g.2.2.2.2.2.1 (qg (a3 + (4 : Int32)) g.2.2.2.2.2.1 (qg (a3 + (5 : Int32)) g.2.2.2.2.2.1 (qc (f_X11_feed n (g.2.2.2.2.2.2 (a3 + (1 : Int32)).toNatClampNeg) (g.2.2.2.2.2.2 (a3 + (2 : Int32)).toNatClampNeg) (g.2.2.2.2.2.2 (a3 + (3 : Int32)).toNatClampNeg) (g.2.2.2.2.2.2 (a3 + (4 : Int32)).toNatClampNeg) (g.2.2.2.2.2.2 (a3 + (5 : Int32)).toNatClampNeg) M) (fun r12 m13 => qg (a3 + (1 : Int32)) g.2.2.2.2.2.1 (qg (a3 + (2 : Int32)) g.2.2.2.2.2.1 (qg (a3 + (3 : Int32)) g.2.2.2.2.2.1 (qg (a3 + (4 : Int32)) g.2.2.2.2.2.1 (qg (a3 + (5 : Int32)) g.2.2.2.2.2.1 (qc (f_X12_feed n (g.2.2.2.2.2.2 (a3 + (1 : Int32)).toNatClampNeg) (g.2.2.2.2.2.2 (a3 + (2 : Int32)).toNatClampNeg) (g.2.2.2.2.2.2 (a3 + (3 : Int32)).toNatClampNeg) (g.2.2.2.2.2.2 (a3 + (4 : Int32)).toNatClampNeg) (g.2.2.2.2.2.2 (a3 + (5 : Int32)).toNatClampNeg) m13) (fun r14 m15 => (if r12 = r14 then ql (a3 + (7 : Int32)) (fun x16 => K18 x16 m15) else none)))))))))))))), ((3 : Int32), qg (a3 + (1 : Int32)) g.2.2.2.2.2.1 (qc2 (f_X11_law n j r (g.2.2.2.2.2.2 (a3 + (1 : Int32)).toNatClampNeg) M) (f_X11_lawS n j r (g.2.2.2.2.2.2 (a3 + (1 : Int32)).toNatClampNeg) M) (fun r17 m18 => qg (a3 + (1 : Int32)) g.2.2.2.2.2.1 (qc (f_X12_law n (g.2.2.2.2.2.2 (a3 + (1 : Int32)).toNatClampNeg) m18) (fun r19 m20 => (if r17 = r19 then ql (a3 + (7 : Int32)) (fun x21 => K18 x21 m20) else none)))) (fun r17 m18 => qg (a3 + (1 : Int32)) g.2.2.2.2.2.1 (qc (f_X12_law n (g.2.2.2.2.2.2 (a3 + (1 : Int32)).toNatClampNeg) m18) (fun r22 m23 => (if r17 = r22 then ql (a3 + (7 : Int32)) (fun x24 => KS x24 m23) else none)))))), ((4 : Int32), qg (a3 + (1 : Int32)) g.2.2.2.2.2.1 (qg (a3 + (2 : Int32)) g.2.2.2.2.2.1 (qc (f_X11_plan n (g.2.2.2.2.2.2 (a3 + (1 : Int32)).toNatClampNeg) (g.2.2.2.2.2.2 (a3 + (2 : Int32)).toNatClampNeg) M) (fun r25 m26 => qg (a3 + (1 : Int32)) g.2.2.2.2.2.1 (qg (a3 + (2 : Int32)) g.2.2.2.2.2.1 (qc (f_X12_plan n (g.2.2.2.2.2.2 (a3 + (1 : Int32)).toNatClampNeg) (g.2.2.2.2.2.2 (a3 + (2 : Int32)).toNatClampNeg) m26) (fun r27 m28 => (if r25 = r27 then ql (a3 + (7 : Int32)) (fun x29 => K18 x29 m28) else none)))))))), ((5 : Int32), qg (a3 + (1 : Int32)) g.2.2.2.2.2.1 (qg (a3 + (2 : Int32)) g.2.2.2.2.2.1 (qg (a3 + (3 : Int32)) g.2.2.2.2.2.1 (qc (f_X11_tries n j (g.2.2.2.2.2.2 (a3 + (1 : Int32)).toNatClampNeg) (g.2.2.2.2.2.2 (a3 + (2 : Int32)).toNatClampNeg) (g.2.2.2.2.2.2 (a3 + (3 : Int32)).toNatClampNeg) M) (fun r30 m31 => qg (a3 + (1 : Int32)) g.2.2.2.2.2.1 (qg (a3 + (2 : Int32)) g.2.2.2.2.2.1 (qg (a3 + (3 : Int32)) g.2.2.2.2.2.1 (qc (f_X12_tries n (g.2.2.2.2.2.2 (a3 + (1 : Int32)).toNatClampNeg) (g.2.2.2.2.2.2 (a3 + (2 : Int32)).toNatClampNeg) (g.2.2.2.2.2.2 (a3 + (3 : Int32)).toNatClampNeg) m31) (fun r32 m33 => (if r30 = r32 then ql (a3 + (7 : Int32)) (fun x34 => K18 x34 m33) else none)))))))))), ((6 : Int32), qg (a3 + (1 : Int32)) g.2.2.2.2.2.1 (qg (a3 + (2 : Int32)) g.2.2.2.2.2.1 (qg (a3 + (3 : Int32)) g.2.2.2.2.2.1 (qc (f_X11_buys n j (g.2.2.2.2.2.2 (a3 + (1 : Int32)).toNatClampNeg) (g.2.2.2.2.2.2 (a3 + (2 : Int32)).toNatClampNeg) (g.2.2.2.2.2.2 (a3 + (3 : Int32)).toNatClampNeg) M) (fun r35 m36 => qg (a3 + (1 : Int32)) g.2.2.2.2.2.1 (qg (a3 + (2 : Int32)) g.2.2.2.2.2.1 (qg (a3 + (3 : Int32)) g.2.2.2.2.2.1 (qc (f_X12_buys n (g.2.2.2.2.2.2 (a3 + (1 : Int32)).toNatClampNeg) (g.2.2.2.2.2.2 (a3 + (2 : Int32)).toNatClampNeg) (g.2.2.2.2.2.2 (a3 + (3 : Int32)).toNatClampNeg) m36) (fun r37 m38 => (if r35 = r37 then ql (a3 + (7 : Int32)) (fun x39 => K18 x39 m38) else none)))))))))), ((7 : Int32), qg (a3 + (1 : Int32)) g.2.2.2.2.2.1 (qc (f_X11_days n j (g.2.2.2.2.2.2 (a3 + (1 : Int32)).toNatClampNeg) M) (fun r40 m41 => qg (a3 + (1 : Int32)) g.2.2.2.2.2.1 (qc (f_X12_days n (g.2.2.2.2.2.2 (a3 + (1 : Int32)).toNatClampNeg) m41) (fun r42 m43 => (if r40 = r42 then ql (a3 + (7 : Int32)) (fun x44 => K18 x44 m43) else none)))))), ((8 : Int32), qg (a3 + (1 : Int32)) g.2.2.2.2.2.1 (qg (a3 + (2 : Int32)) g.2.2.2.2.2.1 (qc (f_X11_tried n j (g.2.2.2.2.2.2 (a3 + (1 : Int32)).toNatClampNeg) (g.2.2.2.2.2.2 (a3 + (2 : Int32)).toNatClampNeg) M) (fun r45 m46 => qg (a3 + (1 : Int32)) g.2.2.2.2.2.1 (qg (a3 + (2 : Int32)) g.2.2.2.2.2.1 (qc (f_X12_tried n (g.2.2.2.2.2.2 (a3 + (1 : Int32)).toNatClampNeg) (g.2.2.2.2.2.2 (a3 + (2 : Int32)).toNatClampNeg) m46) (fun r47 m48 => (if r45 = r47 then ql (a3 + (7 : Int32)) (fun x49 => K18 x49 m48) else none)))))))), ((9 : Int32), qg (a3 + (1 : Int32)) g.2.2.2.2.2.1 (qg (a3 + (2 : Int32)) g.2.2.2.2.2.1 (qg (a3 + (3 : Int32)) g.2.2.2.2.2.1 (qc (f_X11_has n j (g.2.2.2.2.2.2 (a3 + (1 : Int32)).toNatClampNeg) (g.2.2.2.2.2.2 (a3 + (2 : Int32)).toNatClampNeg) (g.2.2.2.2.2.2 (a3 + (3 : Int32)).toNatClampNeg) M) (fun r50 m51 => qg (a3 + (1 : Int32)) g.2.2.2.2.2.1 (qg (a3 + (2 : Int32)) g.2.2.2.2.2.1 (qg (a3 + (3 : Int32)) g.2.2.2.2.2.1 (qc (f_X12_has n (g.2.2.2.2.2.2 (a3 + (1 : Int32)).toNatClampNeg) (g.2.2.2.2.2.2 (a3 + (2 : Int32)).toNatClampNeg) (g.2.2.2.2.2.2 (a3 + (3 : Int32)).toNatClampNeg) m51) (fun r52 m53 => (if r50 = r52 then ql (a3 + (7 : Int32)) (fun x54 => K18 x54 m53) else none)))))))))), ((10 : Int32), qg (a3 + (1 : Int32)) g.2.2.2.2.2.1 (qg (a3 + (2 : Int32)) g.2.2.2.2.2.1 (qc (f_X11_alike n j (g.2.2.2.2.2.2 (a3 + (1 : Int32)).toNatClampNeg) (g.2.2.2.2.2.2 (a3 + (2 : Int32)).toNatClampNeg) M) (fun r55 m56 => qg (a3 + (1 : Int32)) g.2.2.2.2.2.1 (qg (a3 + (2 : Int32)) g.2.2.2.2.2.1 (qc (f_X12_alike n (g.2.2.2.2.2.2 (a3 + (1 : Int32)).toNatClampNeg) (g.2.2.2.2.2.2 (a3 + (2 : Int32)).toNatClampNeg) m56) (fun r57 m58 => (if r55 = r57 then ql (a3 + (7 : Int32)) (fun x59 => K18 x59 m58) else none)))))))), ((11 : Int32), qg (a3 + (1 : Int32)) g.2.2.2.2.2.1 (qg (a3 + (2 : Int32)) g.2.2.2.2.2.1 (qg (a3 + (3 : Int32)) g.2.2.2.2.2.1 (qc (f_X11_cost n j (g.2.2.2.2.2.2 (a3 + (1 : Int32)).toNatClampNeg) (g.2.2.2.2.2.2 (a3 + (2 : Int32)).toNatClampNeg) (g.2.2.2.2.2.2 (a3 + (3 : Int32)).toNatClampNeg) M) (fun r60 m61 => qg (a3 + (1 : Int32)) g.2.2.2.2.2.1 (qg (a3 + (2 : Int32)) g.2.2.2.2.2.1 (qg (a3 + (3 : Int32)) g.2.2.2.2.2.1 (qc (f_X12_cost n (g.2.2.2.2.2.2 (a3 + (1 : Int32)).toNatClampNeg) (g.2.2.2.2.2.2 (a3 + (2 : Int32)).toNatClampNeg) (g.2.2.2.2.2.2 (a3 + (3 : Int32)).toNatClampNeg) m61) (fun r62 m63 => (if r60 = r62 then ql (a3 + (7 : Int32)) (fun x64 => K18 x64 m63) else none)))))))))), ((12 : Int32), qg (a3 + (1 : Int32)) g.2.2.2.2.2.1 (qg (a3 + (2 : Int32)) g.2.2.2.2.2.1 (qg (a3 + (3 : Int32)) g.2.2.2.2.2.1 (qg (a3 + (4 : Int32)) g.2.2.2.2.2.1 (qg (a3 + (5 : Int32)) g.2.2.2.2.2.1 (qc (f_X11_soonest n j (g.2.2.2.2.2.2 (a3 + (1 : Int32)).toNatClampNeg) (g.2.2.2.2.2.2 (a3 + (2 : Int32)).toNatClampNeg) (g.2.2.2.2.2.2 (a3 + (3 : Int32)).toNatClampNeg) (g.2.2.2.2.2.2 (a3 + (4 : Int32)).toNatClampNeg) (g.2.2.2.2.2.2 (a3 + (5 : Int32)).toNatClampNeg) M) (fun r65 m66 => qg (a3 + (1 : Int32)) g.2.2.2.2.2.1 (qg (a3 + (2 : Int32)) g.2.2.2.2.2.1 (qg (a3 + (3 : Int32)) g.2.2.2.2.2.1 (qg (a3 + (4 : Int32)) g.2.2.2.2.2.1 (qg (a3 + (5 : Int32)) g.2.2.2.2.2.1 (qc (f_X12_soonest n (g.2.2.2.2.2.2 (a3 + (1 : Int32)).toNatClampNeg) (g.2.2.2.2.2.2 (a3 + (2 : Int32)).toNatClampNeg) (g.2.2.2.2.2.2 (a3 + (3 : Int32)).toNatClampNeg) (g.2.2.2.2.2.2 (a3 + (4 : Int32)).toNatClampNeg) (g.2.2.2.2.2.2 (a3 + (5 : Int32)).toNatClampNeg) m66) (fun r67 m68 => (if r65 = r67 then ql (a3 + (7 : Int32)) (fun x69 => K18 x69 m68) else none)))))))))))))), ((13 : Int32), qg (a3 + (1 : Int32)) g.2.2.2.2.2.1 (qg (a3 + (2 : Int32)) g.2.2.2.2.2.1 (qg (a3 + (3 : Int32)) g.2.2.2.2.2.1 (qg (a3 + (4 : Int32)) g.2.2.2.2.2.1 (qg (a3 + (5 : Int32)) g.2.2.2.2.2.1 (qc (f_X11_cheapest n j (g.2.2.2.2.2.2 (a3 + (1 : Int32)).toNatClampNeg) (g.2.2.2.2.2.2 (a3 + (2 : Int32)).toNatClampNeg) (g.2.2.2.2.2.2 (a3 + (3 : Int32)).toNatClampNeg) (g.2.2.2.2.2.2 (a3 + (4 : Int32)).toNatClampNeg) (g.2.2.2.2.2.2 (a3 + (5 : Int32)).toNatClampNeg) M) (fun r70 m71 => qg (a3 + (1 : Int32)) g.2.2.2.2.2.1 (qg (a3 + (2 : Int32)) g.2.2.2.2.2.1 (qg (a3 + (3 : Int32)) g.2.2.2.2.2.1 (qg (a3 + (4 : Int32)) g.2.2.2.2.2.1 (qg (a3 + (5 : Int32)) g.2.2.2.2.2.1 (qc (f_X12_cheapest n (g.2.2.2.2.2.2 (a3 + (1 : Int32)).toNatClampNeg) (g.2.2.2.2.2.2 (a3 + (2 : Int32)).toNatClampNeg) (g.2.2.2.2.2.2 (a3 + (3 : Int32)).toNatClampNeg) (g.2.2.2.2.2.2 (a3 + (4 : Int32)).toNatClampNeg) (g.2.2.2.2.2.2 (a3 + (5 : Int32)).toNatClampNeg) m71) (fun r72 m73 => (if r70 = r72 then ql (a3 + (7 : Int32)) (fun x74 => K18 x74 m73) else none)))))))))))))), ((14 : Int32), qg (a3 + (1 : Int32)) g.2.2.2.2.2.1 (qg (a3 + (2 : Int32)) g.2.2.2.2.2.1 (qg (a3 + (3 : Int32)) g.2.2.2.2.2.1 (qc (f_X11_loophole n j (g.2.2.2.2.2.2 (a3 + (1 : Int32)).toNatClampNeg) (g.2.2.2.2.2.2 (a3 + (2 : Int32)).toNatClampNeg) (g.2.2.2.2.2.2 (a3 + (3 : Int32)).toNatClampNeg) M) (fun r75 m76 => qg (a3 + (1 : Int32)) g.2.2.2.2.2.1 (qg (a3 + (2 : Int32)) g.2.2.2.2.2.1 (qg (a3 + (3 : Int32)) g.2.2.2.2.2.1 (qc (f_X12_loophole n (g.2.2.2.2.2.2 (a3 + (1 : Int32)).toNatClampNeg) (g.2.2.2.2.2.2 (a3 + (2 : Int32)).toNatClampNeg) (g.2.2.2.2.2.2 (a3 + (3 : Int32)).toNatClampNeg) m76) (fun r77 m78 => (if r75 = r77 then ql (a3 + (7 : Int32)) (fun x79 => K18 x79 m78) else none)))))))))), ((15 : Int32), qg (a3 + (1 : Int32)) g.2.2.2.2.2.1 (qg (a3 + (2 : Int32)) g.2.2.2.2.2.1 (qg (a3 + (3 : Int32)) g.2.2.2.2.2.1 (qc (f_X11_jobs n j (g.2.2.2.2.2.2 (a3 + (1 : Int32)).toNatClampNeg) (g.2.2.2.2.2.2 (a3 + (2 : Int32)).toNatClampNeg) (g.2.2.2.2.2.2 (a3 + (3 : Int32)).toNatClampNeg) M) (fun r80 m81 => qg (a3 + (1 : Int32)) g.2.2.2.2.2.1 (qg (a3 + (2 : Int32)) g.2.2.2.2.2.1 (qg (a3 + (3 : Int32)) g.2.2.2.2.2.1 (qc (f_X12_jobs n (g.2.2.2.2.2.2 (a3 + (1 : Int32)).toNatClampNeg) (g.2.2.2.2.2.2 (a3 + (2 : Int32)).toNatClampNeg) (g.2.2.2.2.2.2 (a3 + (3 : Int32)).toNatClampNeg) m81) (fun r82 m83 => (if r80 = r82 then ql (a3 + (7 : Int32)) (fun x84 => K18 x84 m83) else none)))))))))), ((16 : Int32), qg (a3 + (1 : Int32)) g.2.2.2.2.2.1 (qg (a3 + (2 : Int32)) g.2.2.2.2.2.1 (qg (a3 + (3 : Int32)) g.2.2.2.2.2.1 (qc (f_X11_rivals n (g.2.2.2.2.2.2 (a3 + (1 : Int32)).toNatClampNeg) (g.2.2.2.2.2.2 (a3 + (2 : Int32)).toNatClampNeg) (g.2.2.2.2.2.2 (a3 + (3 : Int32)).toNatClampNeg) M) (fun r85 m86 => qg (a3 + (1 : Int32)) g.2.2.2.2.2.1 (qg (a3 + (2 : Int32)) g.2.2.2.2.2.1 (qg (a3 + (3 : Int32)) g.2.2.2.2.2.1 (qc (f_X12_rivals n (g.2.2.2.2.2.2 (a3 + (1 : Int32)).toNatClampNeg) (g.2.2.2.2.2.2 (a3 + (2 : Int32)).toNatClampNeg) (g.2.2.2.2.2.2 (a3 + (3 : Int32)).toNatClampNeg) m86) (fun r87 m88 => (if r85 = r87 then ql (a3 + (7 : Int32)) (fun x89 => K18 x89 m88) else none)))))))))), ((17 : Int32), qg (a3 + (1 : Int32)) g.2.2.2.2.2.1 (qg (a3 + (2 : Int32)) g.2.2.2.2.2.1 (qg (a3 + (3 : Int32)) g.2.2.2.2.2.1 (qg (a3 + (4 : Int32)) g.2.2.2.2.2.1 (qc (f_X11_histories n j (g.2.2.2.2.2.2 (a3 + (1 : Int32)).toNatClampNeg) (g.2.2.2.2.2.2 (a3 + (2 : Int32)).toNatClampNeg) (g.2.2.2.2.2.2 (a3 + (3 : Int32)).toNatClampNeg) (g.2.2.2.2.2.2 (a3 + (4 : Int32)).toNatClampNeg) M) (fun r90 m91 => qg (a3 + (1 : Int32)) g.2.2.2.2.2.1 (qg (a3 + (2 : Int32)) g.2.2.2.2.2.1 (qg (a3 + (3 : Int32)) g.2.2.2.2.2.1 (qg (a3 + (4 : Int32)) g.2.2.2.2.2.1 (qc (f_X12_histories n (g.2.2.2.2.2.2 (a3 + (1 : Int32)).toNatClampNeg) (g.2.2.2.2.2.2 (a3 + (2 : Int32)).toNatClampNeg) (g.2.2.2.2.2.2 (a3 + (3 : Int32)).toNatClampNeg) (g.2.2.2.2.2.2 (a3 + (4 : Int32)).toNatClampNeg) m91) (fun r92 m93 => (if r90 = r92 then ql (a3 + (7 : Int32)) (fun x94 => K18 x94 m93) else none)))))))))))), ((18 : Int32), qg (a3 + (1 : Int32)) g.2.2.2.2.2.1 (qg (a3 + (2 : Int32)) g.2.2.2.2.2.1 (qg (a3 + (3 : Int32)) g.2.2.2.2.2.1 (qg (a3 + (4 : Int32)) g.2.2.2.2.2.1 ((if (g.2.2.2.2.2.2 (a3 + (4 : Int32)).toNatClampNeg) = (0 : Int32) then qg (a3 + (5 : Int32)) g.2.2.2.2.2.1 ((if (g.2.2.2.2.2.2 (a3 + (5 : Int32)).toNatClampNeg) = (0 : Int32) then qg (a3 + (6 : Int32)) g.2.2.2.2.2.1 (qc (f_X11_game n (g.2.2.2.2.2.2 (a3 + (1 : Int32)).toNatClampNeg) (g.2.2.2.2.2.2 (a3 + (2 : Int32)).toNatClampNeg) (g.2.2.2.2.2.2 (a3 + (3 : Int32)).toNatClampNeg) (0 : Int32) (0 : Int32) (g.2.2.2.2.2.2 (a3 + (6 : Int32)).toNatClampNeg) M) (fun r95 m96 => qg (a3 + (1 : Int32)) g.2.2.2.2.2.1 (qg (a3 + (2 : Int32)) g.2.2.2.2.2.1 (qg (a3 + (3 : Int32)) g.2.2.2.2.2.1 (qg (a3 + (4 : Int32)) g.2.2.2.2.2.1 ((if (g.2.2.2.2.2.2 (a3 + (4 : Int32)).toNatClampNeg) = (0 : Int32) then qg (a3 + (5 : Int32)) g.2.2.2.2.2.1 ((if (g.2.2.2.2.2.2 (a3 + (5 : Int32)).toNatClampNeg) = (0 : Int32) then qg (a3 + (6 : Int32)) g.2.2.2.2.2.1 (qc (f_X12_game n (g.2.2.2.2.2.2 (a3 + (1 : Int32)).toNatClampNeg) (g.2.2.2.2.2.2 (a3 + (2 : Int32)).toNatClampNeg) (g.2.2.2.2.2.2 (a3 + (3 : Int32)).toNatClampNeg) (0 : Int32) (0 : Int32) (g.2.2.2.2.2.2 (a3 + (6 : Int32)).toNatClampNeg) m96) (fun r97 m98 => (if r95 = r97 then ql (a3 + (7 : Int32)) (fun x99 => K18 x99 m98) else none))) else qg (a3 + (6 : Int32)) g.2.2.2.2.2.1 (qc (f_X12_game n (g.2.2.2.2.2.2 (a3 + (1 : Int32)).toNatClampNeg) (g.2.2.2.2.2.2 (a3 + (2 : Int32)).toNatClampNeg) (g.2.2.2.2.2.2 (a3 + (3 : Int32)).toNatClampNeg) (0 : Int32) (1 : Int32) (g.2.2.2.2.2.2 (a3 + (6 : Int32)).toNatClampNeg) m96) (fun r100 m101 => (if r95 = r100 then ql (a3 + (7 : Int32)) (fun x102 => K18 x102 m101) else none))))) else qg (a3 + (5 : Int32)) g.2.2.2.2.2.1 ((if (g.2.2.2.2.2.2 (a3 + (5 : Int32)).toNatClampNeg) = (0 : Int32) then qg (a3 + (6 : Int32)) g.2.2.2.2.2.1 (qc (f_X12_game n (g.2.2.2.2.2.2 (a3 + (1 : Int32)).toNatClampNeg) (g.2.2.2.2.2.2 (a3 + (2 : Int32)).toNatClampNeg) (g.2.2.2.2.2.2 (a3 + (3 : Int32)).toNatClampNeg) (1 : Int32) (0 : Int32) (g.2.2.2.2.2.2 (a3 + (6 : Int32)).toNatClampNeg) m96) (fun r103 m104 => (if r95 = r103 then ql (a3 + (7 : Int32)) (fun x105 => K18 x105 m104) else none))) else qg (a3 + (6 : Int32)) g.2.2.2.2.2.1 (qc (f_X12_game n (g.2.2.2.2.2.2 (a3 + (1 : Int32)).toNatClampNeg) (g.2.2.2.2.2.2 (a3 + (2 : Int32)).toNatClampNeg) (g.2.2.2.2.2.2 (a3 + (3 : Int32)).toNatClampNeg) (1 : Int32) (1 : Int32) (g.2.2.2.2.2.2 (a3 + (6 : Int32)).toNatClampNeg) m96) (fun r106 m107 => (if r95 = r106 then ql (a3 + (7 : Int32)) (fun x108 => K18 x108 m107) else none)))))))))))) else qg (a3 + (6 : Int32)) g.2.2.2.2.2.1 (qc (f_X11_game n (g.2.2.2.2.2.2 (a3 + (1 : Int32)).toNatClampNeg) (g.2.2.2.2.2.2 (a3 + (2 : Int32)).toNatClampNeg) (g.2.2.2.2.2.2 (a3 + (3 : Int32)).toNatClampNeg) (0 : Int32) (1 : Int32) (g.2.2.2.2.2.2 (a3 + (6 : Int32)).toNatClampNeg) M) (fun r109 m110 => qg (a3 + (1 : Int32)) g.2.2.2.2.2.1 (qg (a3 + (2 : Int32)) g.2.2.2.2.2.1 (qg (a3 + (3 : Int32)) g.2.2.2.2.2.1 (qg (a3 + (4 : Int32)) g.2.2.2.2.2.1 ((if (g.2.2.2.2.2.2 (a3 + (4 : Int32)).toNatClampNeg) = (0 : Int32) then qg (a3 + (5 : Int32)) g.2.2.2.2.2.1 ((if (g.2.2.2.2.2.2 (a3 + (5 : Int32)).toNatClampNeg) = (0 : Int32) then qg (a3 + (6 : Int32)) g.2.2.2.2.2.1 (qc (f_X12_game n (g.2.2.2.2.2.2 (a3 + (1 : Int32)).toNatClampNeg) (g.2.2.2.2.2.2 (a3 + (2 : Int32)).toNatClampNeg) (g.2.2.2.2.2.2 (a3 + (3 : Int32)).toNatClampNeg) (0 : Int32) (0 : Int32) (g.2.2.2.2.2.2 (a3 + (6 : Int32)).toNatClampNeg) m110) (fun r111 m112 => (if r109 = r111 then ql (a3 + (7 : Int32)) (fun x113 => K18 x113 m112) else none))) else qg (a3 + (6 : Int32)) g.2.2.2.2.2.1 (qc (f_X12_game n (g.2.2.2.2.2.2 (a3 + (1 : Int32)).toNatClampNeg) (g.2.2.2.2.2.2 (a3 + (2 : Int32)).toNatClampNeg) (g.2.2.2.2.2.2 (a3 + (3 : Int32)).toNatClampNeg) (0 : Int32) (1 : Int32) (g.2.2.2.2.2.2 (a3 + (6 : Int32)).toNatClampNeg) m110) (fun r114 m115 => (if r109 = r114 then ql (a3 + (7 : Int32)) (fun x116 => K18 x116 m115) else none))))) else qg (a3 + (5 : Int32)) g.2.2.2.2.2.1 ((if (g.2.2.2.2.2.2 (a3 + (5 : Int32)).toNatClampNeg) = (0 : Int32) then qg (a3 + (6 : Int32)) g.2.2.2.2.2.1 (qc (f_X12_game n (g.2.2.2.2.2.2 (a3 + (1 : Int32)).toNatClampNeg) (g.2.2.2.2.2.2 (a3 + (2 : Int32)).toNatClampNeg) (g.2.2.2.2.2.2 (a3 + (3 : Int32)).toNatClampNeg) (1 : Int32) (0 : Int32) (g.2.2.2.2.2.2 (a3 + (6 : Int32)).toNatClampNeg) m110) (fun r117 m118 => (if r109 = r117 then ql (a3 + (7 : Int32)) (fun x119 => K18 x119 m118) else none))) else qg (a3 + (6 : Int32)) g.2.2.2.2.2.1 (qc (f_X12_game n (g.2.2.2.2.2.2 (a3 + (1 : Int32)).toNatClampNeg) (g.2.2.2.2.2.2 (a3 + (2 : Int32)).toNatClampNeg) (g.2.2.2.2.2.2 (a3 + (3 : Int32)).toNatClampNeg) (1 : Int32) (1 : Int32) (g.2.2.2.2.2.2 (a3 + (6 : Int32)).toNatClampNeg) m110) (fun r120 m121 => (if r109 = r120 then ql (a3 + (7 : Int32)) (fun x122 => K18 x122 m121) else none)))))))))))))) else qg (a3 + (5 : Int32)) g.2.2.2.2.2.1 ((if (g.2.2.2.2.2.2 (a3 + (5 : Int32)).toNatClampNeg) = (0 : Int32) then qg (a3 + (6 : Int32)) g.2.2.2.2.2.1 (qc (f_X11_game n (g.2.2.2.2.2.2 (a3 + (1 : Int32)).toNatClampNeg) (g.2.2.2.2.2.2 (a3 + (2 : Int32)).toNatClampNeg) (g.2.2.2.2.2.2 (a3 + (3 : Int32)).toNatClampNeg) (1 : Int32) (0 : Int32) (g.2.2.2.2.2.2 (a3 + (6 : Int32)).toNatClampNeg) M) (fun r123 m124 => qg (a3 + (1 : Int32)) g.2.2.2.2.2.1 (qg (a3 + (2 : Int32)) g.2.2.2.2.2.1 (qg (a3 + (3 : Int32)) g.2.2.2.2.2.1 (qg (a3 + (4 : Int32)) g.2.2.2.2.2.1 ((if (g.2.2.2.2.2.2 (a3 + (4 : Int32)).toNatClampNeg) = (0 : Int32) then qg (a3 + (5 : Int32)) g.2.2.2.2.2.1 ((if (g.2.2.2.2.2.2 (a3 + (5 : Int32)).toNatClampNeg) = (0 : Int32) then qg (a3 + (6 : Int32)) g.2.2.2.2.2.1 (qc (f_X12_game n (g.2.2.2.2.2.2 (a3 + (1 : Int32)).toNatClampNeg) (g.2.2.2.2.2.2 (a3 + (2 : Int32)).toNatClampNeg) (g.2.2.2.2.2.2 (a3 + (3 : Int32)).toNatClampNeg) (0 : Int32) (0 : Int32) (g.2.2.2.2.2.2 (a3 + (6 : Int32)).toNatClampNeg) m124) (fun r125 m126 => (if r123 = r125 then ql (a3 + (7 : Int32)) (fun x127 => K18 x127 m126) else none))) else qg (a3 + (6 : Int32)) g.2.2.2.2.2.1 (qc (f_X12_game n (g.2.2.2.2.2.2 (a3 + (1 : Int32)).toNatClampNeg) (g.2.2.2.2.2.2 (a3 + (2 : Int32)).toNatClampNeg) (g.2.2.2.2.2.2 (a3 + (3 : Int32)).toNatClampNeg) (0 : Int32) (1 : Int32) (g.2.2.2.2.2.2 (a3 + (6 : Int32)).toNatClampNeg) m124) (fun r128 m129 => (if r123 = r128 then ql (a3 + (7 : Int32)) (fun x130 => K18 x130 m129) else none))))) else qg (a3 + (5 : Int32)) g.2.2.2.2.2.1 ((if (g.2.2.2.2.2.2 (a3 + (5 : Int32)).toNatClampNeg) = (0 : Int32) then qg (a3 + (6 : Int32)) g.2.2.2.2.2.1 (qc (f_X12_game n (g.2.2.2.2.2.2 (a3 + (1 : Int32)).toNatClampNeg) (g.2.2.2.2.2.2 (a3 + (2 : Int32)).toNatClampNeg) (g.2.2.2.2.2.2 (a3 + (3 : Int32)).toNatClampNeg) (1 : Int32) (0 : Int32) (g.2.2.2.2.2.2 (a3 + (6 : Int32)).toNatClampNeg) m124) (fun r131 m132 => (if r123 = r131 then ql (a3 + (7 : Int32)) (fun x133 => K18 x133 m132) else none))) else qg (a3 + (6 : Int32)) g.2.2.2.2.2.1 (qc (f_X12_game n (g.2.2.2.2.2.2 (a3 + (1 : Int32)).toNatClampNeg) (g.2.2.2.2.2.2 (a3 + (2 : Int32)).toNatClampNeg) (g.2.2.2.2.2.2 (a3 + (3 : Int32)).toNatClampNeg) (1 : Int32) (1 : Int32) (g.2.2.2.2.2.2 (a3 + (6 : Int32)).toNatClampNeg) m124) (fun r134 m135 => (if r123 = r134 then ql (a3 + (7 : Int32)) (fun x136 => K18 x136 m135) else none)))))))))))) else qg (a3 + (6 : Int32)) g.2.2.2.2.2.1 (qc (f_X11_game n (g.2.2.2.2.2.2 (a3 + (1 : Int32)).toNatClampNeg) (g.2.2.2.2.2.2 (a3 + (2 : Int32)).toNatClampNeg) (g.2.2.2.2.2.2 (a3 + (3 : Int32)).toNatClampNeg) (1 : Int32) (1 : Int32) (g.2.2.2.2.2.2 (a3 + (6 : Int32)).toNatClampNeg) M) (fun r137 m138 => qg (a3 + (1 : Int32)) g.2.2.2.2.2.1 (qg (a3 + (2 : Int32)) g.2.2.2.2.2.1 (qg (a3 + (3 : Int32)) g.2.2.2.2.2.1 (qg (a3 + (4 : Int32)) g.2.2.2.2.2.1 ((if (g.2.2.2.2.2.2 (a3 + (4 : Int32)).toNatClampNeg) = (0 : Int32) then qg (a3 + (5 : Int32)) g.2.2.2.2.2.1 ((if (g.2.2.2.2.2.2 (a3 + (5 : Int32)).toNatClampNeg) = (0 : Int32) then qg (a3 + (6 : Int32)) g.2.2.2.2.2.1 (qc (f_X12_game n (g.2.2.2.2.2.2 (a3 + (1 : Int32)).toNatClampNeg) (g.2.2.2.2.2.2 (a3 + (2 : Int32)).toNatClampNeg) (g.2.2.2.2.2.2 (a3 + (3 : Int32)).toNatClampNeg) (0 : Int32) (0 : Int32) (g.2.2.2.2.2.2 (a3 + (6 : Int32)).toNatClampNeg) m138) (fun r139 m140 => (if r137 = r139 then ql (a3 + (7 : Int32)) (fun x141 => K18 x141 m140) else none))) else qg (a3 + (6 : Int32)) g.2.2.2.2.2.1 (qc (f_X12_game n (g.2.2.2.2.2.2 (a3 + (1 : Int32)).toNatClampNeg) (g.2.2.2.2.2.2 (a3 + (2 : Int32)).toNatClampNeg) (g.2.2.2.2.2.2 (a3 + (3 : Int32)).toNatClampNeg) (0 : Int32) (1 : Int32) (g.2.2.2.2.2.2 (a3 + (6 : Int32)).toNatClampNeg) m138) (fun r142 m143 => (if r137 = r142 then ql (a3 + (7 : Int32)) (fun x144 => K18 x144 m143) else none))))) else qg (a3 + (5 : Int32)) g.2.2.2.2.2.1 ((if (g.2.2.2.2.2.2 (a3 + (5 : Int32)).toNatClampNeg) = (0 : Int32) then qg (a3 + (6 : Int32)) g.2.2.2.2.2.1 (qc (f_X12_game n (g.2.2.2.2.2.2 (a3 + (1 : Int32)).toNatClampNeg) (g.2.2.2.2.2.2 (a3 + (2 : Int32)).toNatClampNeg) (g.2.2.2.2.2.2 (a3 + (3 : Int32)).toNatClampNeg) (1 : Int32) (0 : Int32) (g.2.2.2.2.2.2 (a3 + (6 : Int32)).toNatClampNeg) m138) (fun r145 m146 => (if r137 = r145 then ql (a3 + (7 : Int32)) (fun x147 => K18 x147 m146) else none))) else qg (a3 + (6 : Int32)) g.2.2.2.2.2.1 (qc (f_X12_game n (g.2.2.2.2.2.2 (a3 + (1 : Int32)).toNatClampNeg) (g.2.2.2.2.2.2 (a3 + (2 : Int32)).toNatClampNeg) (g.2.2.2.2.2.2 (a3 + (3 : Int32)).toNatClampNeg) (1 : Int32) (1 : Int32) (g.2.2.2.2.2.2 (a3 + (6 : Int32)).toNatClampNeg) m138) (fun r148 m149 => (if r137 = r148 then ql (a3 + (7 : Int32)) (fun x150 => K18 x150 m149) else none)))))))))))))))))))), ((19 : Int32), qg (a3 + (1 : Int32)) g.2.2.2.2.2.1 (qg (a3 + (2 : Int32)) g.2.2.2.2.2.1 (qg (a3 + (3 : Int32)) g.2.2.2.2.2.1 (qg (a3 + (4 : Int32)) g.2.2.2.2.2.1 (qg (a3 + (5 : Int32)) g.2.2.2.2.2.1 (qg (a3 + (6 : Int32)) g.2.2.2.2.2.1 (qc (f_X11_court n (g.2.2.2.2.2.2 (a3 + (1 : Int32)).toNatClampNeg) (g.2.2.2.2.2.2 (a3 + (2 : Int32)).toNatClampNeg) (g.2.2.2.2.2.2 (a3 + (3 : Int32)).toNatClampNeg) (g.2.2.2.2.2.2 (a3 + (4 : Int32)).toNatClampNeg) (g.2.2.2.2.2.2 (a3 + (5 : Int32)).toNatClampNeg) (g.2.2.2.2.2.2 (a3 + (6 : Int32)).toNatClampNeg) M) (fun r151 m152 => qg (a3 + (1 : Int32)) g.2.2.2.2.2.1 (qg (a3 + (2 : Int32)) g.2.2.2.2.2.1 (qg (a3 + (3 : Int32)) g.2.2.2.2.2.1 (qg (a3 + (4 : Int32)) g.2.2.2.2.2.1 (qg (a3 + (5 : Int32)) g.2.2.2.2.2.1 (qg (a3 + (6 : Int32)) g.2.2.2.2.2.1 (qc (f_X12_court n (g.2.2.2.2.2.2 (a3 + (1 : Int32)).toNatClampNeg) (g.2.2.2.2.2.2 (a3 + (2 : Int32)).toNatClampNeg) (g.2.2.2.2.2.2 (a3 + (3 : Int32)).toNatClampNeg) (g.2.2.2.2.2.2 (a3 + (4 : Int32)).toNatClampNeg) (g.2.2.2.2.2.2 (a3 + (5 : Int32)).toNatClampNeg) (g.2.2.2.2.2.2 (a3 + (6 : Int32)).toNatClampNeg) m152) (fun r153 m154 => (if r151 = r153 then ql (a3 + (7 : Int32)) (fun x155 => K18 x155 m154) else none)))))))))))))))), ((20 : Int32), qc (f_X11_keep n  M) (fun r156 m157 => qc (f_X12_keep n  m157) (fun r158 m159 => (if r156 = r158 then ql (a3 + (7 : Int32)) (fun x160 => K18 x160 m159) else none)))), ((21 : Int32), qc (f_X11_undo n  M) (fun r161 m162 => qc (f_X12_undo n  m162) (fun r163 m164 => (if r161 = r163 then ql (a3 + (7 : Int32)) (fun x165 => K18 x165 m164) else none)))), ((22 : Int32), qg (a3 + (1 : Int32)) g.2.2.2.2.2.1 (qg (a3 + (2 : Int32)) g.2.2.2.2.2.1 (qc (f_X11_check n (g.2.2.2.2.2.2 (a3 + (1 : Int32)).toNatClampNeg) (g.2.2.2.2.2.2 (a3 + (2 : Int32)).toNatClampNeg) M) (fun r166 m167 => qg (a3 + (1 : Int32)) g.2.2.2.2.2.1 (qg (a3 + (2 : Int32)) g.2.2.2.2.2.1 (qc (f_X12_check n (g.2.2.2.2.2.2 (a3 + (1 : Int32)).toNatClampNeg) (g.2.2.2.2.2.2 (a3 + (2 : Int32)).toNatClampNeg) m167) (fun r168 m169 => (if r166 = r168 then ql (a3 + (7 : Int32)) (fun x170 => K18 x170 m169) else none)))))))), ((23 : Int32), qg (a3 + (1 : Int32)) g.2.2.2.2.2.1 (qc (f_X11_count n j (g.2.2.2.2.2.2 (a3 + (1 : Int32)).toNatClampNeg) M) (fun r171 m172 => qg (a3 + (1 : Int32)) g.2.2.2.2.2.1 (qc (f_X12_count n (g.2.2.2.2.2.2 (a3 + (1 : Int32)).toNatClampNeg) m172) (fun r173 m174 => (if r171 = r173 then ql (a3 + (7 : Int32)) (fun x175 => K18 x175 m174) else none))))))] (ql (a3 + (7 : Int32)) (fun x1 => K18 x1 M))))
set_option maxRecDepth 8000 in
set_option maxHeartbeats 4000000 in
theorem wb_L_law {g : qG} {k : qK} {Z : List qSh} (hR : ∀ (Z : List qSh) (M : qM), qRT g k zL_law 1 (Z, M)) (n : Nat) (j r : Nat) (hj : q_isLaw j) (hr : q_isLaw r) (o : qOk g 68 zL_law k) (K18 KS : Int32 → qM → qR) (hK18 : ∀ (a3 : Int32) (M : qM), qAE g k zL_law Z 18 [some (.inr (some 1000)), some (.inr (some 0)), some (.inr (some 77)), some (.inl a3)] [] (qL j r, M) (K18 a3 M)) (hKS : ∀ (a3 : Int32) (M : qM), qAE g k zL_law Z 18 [some (.inr (some 1000)), some (.inr (some 0)), some (.inr (some 77)), some (.inl a3)] [] (qL r j, M) (KS a3 M)) (a3 : Int32) (M : qM) : qAE g k zL_law Z 18 [some (.inr (some 1000)), some (.inr (some 0)), some (.inr (some 77)), some (.inl a3)] [] (qL j r, M) (b_L_law g n j r K18 KS a3 M) := by
  unfold b_L_law
  refine qr_iload_n o (q_dm dm_L_law 10 rfl) rfl ?_
  refine qr_aload_n o (q_dm dm_L_law 11 rfl) rfl ?_
  refine qr_slen o (q_dm dm_L_law 12 rfl) ?_
  refine qr_bipush o (q_dm dm_L_law 13 rfl) bi_7 ?_
  refine qr_isub o (q_dm dm_L_law 14 rfl) ?_
  refine qr_icmp_gt (tgt := 1188) o (q_dm dm_L_law 15 rfl) (by decide) ?_ ?_
  · refine qr_iconst o (q_dm dm_L_law 898 rfl) ic_1 ?_
    exact qr_one o hR (q_dm dm_L_law 899 rfl)
  · refine qr_aload_n o (q_dm dm_L_law 16 rfl) rfl ?_
    refine qr_iload_n o (q_dm dm_L_law 17 rfl) rfl ?_
    refine qr_sald o (q_dm dm_L_law 18 rfl) ?_
    refine qr_bipush o (q_dm dm_L_law 19 rfl) bi_31 ?_
    refine qr_iand o (q_dm dm_L_law 20 rfl) ?_
    refine qr_tablep (tgt := 1182) o (q_dm dm_L_law 21 rfl) (by show (_ : Int) + (24 : Nat) = _; decide) (by decide) ?_ (q_tbc (111) 144 (by decide) rfl (by decide) ?_ (q_tbc (164) 197 (by decide) rfl (by decide) ?_ (q_tbc (197) 230 (by decide) rfl (by decide) ?_ (q_tbc (260) 293 (by decide) rfl (by decide) ?_ (q_tbc (283) 316 (by decide) rfl (by decide) ?_ (q_tbc (316) 349 (by decide) rfl (by decide) ?_ (q_tbc (359) 392 (by decide) rfl (by decide) ?_ (q_tbc (402) 435 (by decide) rfl (by decide) ?_ (q_tbc (425) 458 (by decide) rfl (by decide) ?_ (q_tbc (458) 491 (by decide) rfl (by decide) ?_ (q_tbc (501) 534 (by decide) rfl (by decide) ?_ (q_tbc (534) 567 (by decide) rfl (by decide) ?_ (q_tbc (577) 610 (by decide) rfl (by decide) ?_ (q_tbc (640) 673 (by decide) rfl (by decide) ?_ (q_tbc (703) 736 (by decide) rfl (by decide) ?_ (q_tbc (746) 779 (by decide) rfl (by decide) ?_ (q_tbc (789) 822 (by decide) rfl (by decide) ?_ (q_tbc (832) 865 (by decide) rfl (by decide) ?_ (q_tbc (885) 918 (by decide) rfl (by decide) ?_ (q_tbc (992) 1025 (by decide) rfl (by decide) ?_ (q_tbc (1067) 1100 (by decide) rfl (by decide) ?_ (q_tbc (1080) 1113 (by decide) rfl (by decide) ?_ (q_tbc (1093) 1126 (by decide) rfl (by decide) ?_ (q_tbc (1126) 1159 (by decide) rfl (by decide) ?_ q_tbn))))))))))))))))))))))))
    · refine qs_iincl2 (L' := fun x1 => [some (.inr (some 1000)), some (.inr (some 0)), some (.inr (some 77)), some (.inl x1)]) o (q_dm dm_L_law 896 rfl) rfl ic_7 (Nat.le_of_ble_eq_true rfl) (fun _ => rfl) (fun x1 => ?_)
      refine qr_goto (tgt := 18) o (q_dm dm_L_law 897 rfl) (by decide) ?_
      exact qr_loc (q_leS (q_leS (q_leS (q_leS q_le0)))) (hK18 x1 M)
    · refine qr_aload_n o (q_dm dm_L_law 22 rfl) rfl ?_
      refine qr_aload_n o (q_dm dm_L_law 23 rfl) rfl ?_
      refine qr_iload_n o (q_dm dm_L_law 24 rfl) rfl ?_
      refine qr_iconst o (q_dm dm_L_law 25 rfl) ic_1 ?_
      refine qr_iadd o (q_dm dm_L_law 26 rfl) ?_
      refine qr_sald o (q_dm dm_L_law 27 rfl) ?_
      refine qr_aload_n o (q_dm dm_L_law 28 rfl) rfl ?_
      refine qr_iload_n o (q_dm dm_L_law 29 rfl) rfl ?_
      refine qr_iconst o (q_dm dm_L_law 30 rfl) ic_2 ?_
      refine qr_iadd o (q_dm dm_L_law 31 rfl) ?_
      refine qr_sald o (q_dm dm_L_law 32 rfl) ?_
      refine qr_aload_n o (q_dm dm_L_law 33 rfl) rfl ?_
      refine qr_iload_n o (q_dm dm_L_law 34 rfl) rfl ?_
      refine qr_iconst o (q_dm dm_L_law 35 rfl) ic_3 ?_
      refine qr_iadd o (q_dm dm_L_law 36 rfl) ?_
      refine qr_sald o (q_dm dm_L_law 37 rfl) ?_
      refine qr_aload_n o (q_dm dm_L_law 38 rfl) rfl ?_
      refine qr_iload_n o (q_dm dm_L_law 39 rfl) rfl ?_
      refine qr_iconst o (q_dm dm_L_law 40 rfl) ic_4 ?_
      refine qr_iadd o (q_dm dm_L_law 41 rfl) ?_
      refine qr_sald o (q_dm dm_L_law 42 rfl) ?_
      refine qr_callv_i (As := [.inl (g.2.2.2.2.2.2 (a3 + (1 : Int32)).toNatClampNeg), .inl (g.2.2.2.2.2.2 (a3 + (2 : Int32)).toNatClampNeg), .inl (g.2.2.2.2.2.2 (a3 + (3 : Int32)).toNatClampNeg), .inl (g.2.2.2.2.2.2 (a3 + (4 : Int32)).toNatClampNeg)]) (S := []) o (a_X11_kind g k.2.1 n j r hj hr (g.2.2.2.2.2.2 (a3 + (1 : Int32)).toNatClampNeg) (g.2.2.2.2.2.2 (a3 + (2 : Int32)).toNatClampNeg) (g.2.2.2.2.2.2 (a3 + (3 : Int32)).toNatClampNeg) (g.2.2.2.2.2.2 (a3 + (4 : Int32)).toNatClampNeg) M) (Nat.le_of_ble_eq_true rfl) zv_X11_kind rfl cf_X11 (sh0 j r) ml_L_13 (Nat.le_of_ble_eq_true rfl) (q_dm dm_L_law 43 rfl) (fun r2 m3 => ?_)
      refine qr_aload_n o (q_dm dm_L_law 44 rfl) rfl ?_
      refine qr_aload_n o (q_dm dm_L_law 45 rfl) rfl ?_
      refine qr_iload_n o (q_dm dm_L_law 46 rfl) rfl ?_
      refine qr_iconst o (q_dm dm_L_law 47 rfl) ic_1 ?_
      refine qr_iadd o (q_dm dm_L_law 48 rfl) ?_
      refine qr_sald o (q_dm dm_L_law 49 rfl) ?_
      refine qr_aload_n o (q_dm dm_L_law 50 rfl) rfl ?_
      refine qr_iload_n o (q_dm dm_L_law 51 rfl) rfl ?_
      refine qr_iconst o (q_dm dm_L_law 52 rfl) ic_2 ?_
      refine qr_iadd o (q_dm dm_L_law 53 rfl) ?_
      refine qr_sald o (q_dm dm_L_law 54 rfl) ?_
      refine qr_aload_n o (q_dm dm_L_law 55 rfl) rfl ?_
      refine qr_iload_n o (q_dm dm_L_law 56 rfl) rfl ?_
      refine qr_iconst o (q_dm dm_L_law 57 rfl) ic_3 ?_
      refine qr_iadd o (q_dm dm_L_law 58 rfl) ?_
      refine qr_sald o (q_dm dm_L_law 59 rfl) ?_
      refine qr_aload_n o (q_dm dm_L_law 60 rfl) rfl ?_
      refine qr_iload_n o (q_dm dm_L_law 61 rfl) rfl ?_
      refine qr_iconst o (q_dm dm_L_law 62 rfl) ic_4 ?_
      refine qr_iadd o (q_dm dm_L_law 63 rfl) ?_
      refine qr_sald o (q_dm dm_L_law 64 rfl) ?_
      refine qr_callv_i (As := [.inl (g.2.2.2.2.2.2 (a3 + (1 : Int32)).toNatClampNeg), .inl (g.2.2.2.2.2.2 (a3 + (2 : Int32)).toNatClampNeg), .inl (g.2.2.2.2.2.2 (a3 + (3 : Int32)).toNatClampNeg), .inl (g.2.2.2.2.2.2 (a3 + (4 : Int32)).toNatClampNeg)]) (S := [.inl r2]) o (a_X12_kind g k.2.1 n j r hj hr (g.2.2.2.2.2.2 (a3 + (1 : Int32)).toNatClampNeg) (g.2.2.2.2.2.2 (a3 + (2 : Int32)).toNatClampNeg) (g.2.2.2.2.2.2 (a3 + (3 : Int32)).toNatClampNeg) (g.2.2.2.2.2.2 (a3 + (4 : Int32)).toNatClampNeg) m3) (Nat.le_of_ble_eq_true rfl) zv_X12_kind rfl cf_X12 (sh77 j r) ml_L_17 (Nat.le_of_ble_eq_true rfl) (q_dm dm_L_law 65 rfl) (fun r4 m5 => ?_)
      refine qr_icmp_eq (tgt := 1182) o (q_dm dm_L_law 66 rfl) (by decide) ?_ ?_
      · refine qs_iincl2 (L' := fun x6 => [some (.inr (some 1000)), some (.inr (some 0)), some (.inr (some 77)), some (.inl x6)]) o (q_dm dm_L_law 896 rfl) rfl ic_7 (Nat.le_of_ble_eq_true rfl) (fun _ => rfl) (fun x6 => ?_)
        refine qr_goto (tgt := 18) o (q_dm dm_L_law 897 rfl) (by decide) ?_
        exact qr_loc (q_leS (q_leS (q_leS (q_leS q_le0)))) (hK18 x6 m5)
      · refine qr_iconst o (q_dm dm_L_law 67 rfl) ic_0 ?_
        exact qr_none
    · refine qr_aload_n o (q_dm dm_L_law 69 rfl) rfl ?_
      refine qr_aload_n o (q_dm dm_L_law 70 rfl) rfl ?_
      refine qr_iload_n o (q_dm dm_L_law 71 rfl) rfl ?_
      refine qr_iconst o (q_dm dm_L_law 72 rfl) ic_1 ?_
      refine qr_iadd o (q_dm dm_L_law 73 rfl) ?_
      refine qr_sald o (q_dm dm_L_law 74 rfl) ?_
      refine qr_aload_n o (q_dm dm_L_law 75 rfl) rfl ?_
      refine qr_iload_n o (q_dm dm_L_law 76 rfl) rfl ?_
      refine qr_iconst o (q_dm dm_L_law 77 rfl) ic_2 ?_
      refine qr_iadd o (q_dm dm_L_law 78 rfl) ?_
      refine qr_sald o (q_dm dm_L_law 79 rfl) ?_
      refine qr_callv_i (As := [.inl (g.2.2.2.2.2.2 (a3 + (1 : Int32)).toNatClampNeg), .inl (g.2.2.2.2.2.2 (a3 + (2 : Int32)).toNatClampNeg)]) (S := []) o (a_X11_person g k.2.1 n j r hj hr (g.2.2.2.2.2.2 (a3 + (1 : Int32)).toNatClampNeg) (g.2.2.2.2.2.2 (a3 + (2 : Int32)).toNatClampNeg) M) (Nat.le_of_ble_eq_true rfl) zv_X11_person rfl cf_X11 (sh0 j r) ml_L_18 (Nat.le_of_ble_eq_true rfl) (q_dm dm_L_law 80 rfl) (fun r7 m8 => ?_)
      refine qr_aload_n o (q_dm dm_L_law 81 rfl) rfl ?_
      refine qr_aload_n o (q_dm dm_L_law 82 rfl) rfl ?_
      refine qr_iload_n o (q_dm dm_L_law 83 rfl) rfl ?_
      refine qr_iconst o (q_dm dm_L_law 84 rfl) ic_1 ?_
      refine qr_iadd o (q_dm dm_L_law 85 rfl) ?_
      refine qr_sald o (q_dm dm_L_law 86 rfl) ?_
      refine qr_aload_n o (q_dm dm_L_law 87 rfl) rfl ?_
      refine qr_iload_n o (q_dm dm_L_law 88 rfl) rfl ?_
      refine qr_iconst o (q_dm dm_L_law 89 rfl) ic_2 ?_
      refine qr_iadd o (q_dm dm_L_law 90 rfl) ?_
      refine qr_sald o (q_dm dm_L_law 91 rfl) ?_
      refine qr_callv_i (As := [.inl (g.2.2.2.2.2.2 (a3 + (1 : Int32)).toNatClampNeg), .inl (g.2.2.2.2.2.2 (a3 + (2 : Int32)).toNatClampNeg)]) (S := [.inl r7]) o (a_X12_person g k.2.1 n j r hj hr (g.2.2.2.2.2.2 (a3 + (1 : Int32)).toNatClampNeg) (g.2.2.2.2.2.2 (a3 + (2 : Int32)).toNatClampNeg) m8) (Nat.le_of_ble_eq_true rfl) zv_X12_person rfl cf_X12 (sh77 j r) ml_L_22 (Nat.le_of_ble_eq_true rfl) (q_dm dm_L_law 92 rfl) (fun r9 m10 => ?_)
      refine qr_icmp_eq (tgt := 1182) o (q_dm dm_L_law 93 rfl) (by decide) ?_ ?_
      · refine qs_iincl2 (L' := fun x11 => [some (.inr (some 1000)), some (.inr (some 0)), some (.inr (some 77)), some (.inl x11)]) o (q_dm dm_L_law 896 rfl) rfl ic_7 (Nat.le_of_ble_eq_true rfl) (fun _ => rfl) (fun x11 => ?_)
        refine qr_goto (tgt := 18) o (q_dm dm_L_law 897 rfl) (by decide) ?_
        exact qr_loc (q_leS (q_leS (q_leS (q_leS q_le0)))) (hK18 x11 m10)
      · refine qr_iconst o (q_dm dm_L_law 94 rfl) ic_0 ?_
        exact qr_none
    · refine qr_aload_n o (q_dm dm_L_law 96 rfl) rfl ?_
      refine qr_aload_n o (q_dm dm_L_law 97 rfl) rfl ?_
      refine qr_iload_n o (q_dm dm_L_law 98 rfl) rfl ?_
      refine qr_iconst o (q_dm dm_L_law 99 rfl) ic_1 ?_
      refine qr_iadd o (q_dm dm_L_law 100 rfl) ?_
      refine qr_sald o (q_dm dm_L_law 101 rfl) ?_
      refine qr_aload_n o (q_dm dm_L_law 102 rfl) rfl ?_
      refine qr_iload_n o (q_dm dm_L_law 103 rfl) rfl ?_
      refine qr_iconst o (q_dm dm_L_law 104 rfl) ic_2 ?_
      refine qr_iadd o (q_dm dm_L_law 105 rfl) ?_
      refine qr_sald o (q_dm dm_L_law 106 rfl) ?_
      refine qr_aload_n o (q_dm dm_L_law 107 rfl) rfl ?_
      refine qr_iload_n o (q_dm dm_L_law 108 rfl) rfl ?_
      refine qr_iconst o (q_dm dm_L_law 109 rfl) ic_3 ?_
      refine qr_iadd o (q_dm dm_L_law 110 rfl) ?_
      refine qr_sald o (q_dm dm_L_law 111 rfl) ?_
      refine qr_aload_n o (q_dm dm_L_law 112 rfl) rfl ?_
      refine qr_iload_n o (q_dm dm_L_law 113 rfl) rfl ?_
      refine qr_iconst o (q_dm dm_L_law 114 rfl) ic_4 ?_
      refine qr_iadd o (q_dm dm_L_law 115 rfl) ?_
      refine qr_sald o (q_dm dm_L_law 116 rfl) ?_
      refine qr_aload_n o (q_dm dm_L_law 117 rfl) rfl ?_
      refine qr_iload_n o (q_dm dm_L_law 118 rfl) rfl ?_
      refine qr_iconst o (q_dm dm_L_law 119 rfl) ic_5 ?_
      refine qr_iadd o (q_dm dm_L_law 120 rfl) ?_
      refine qr_sald o (q_dm dm_L_law 121 rfl) ?_
      refine qr_callv_i (As := [.inl (g.2.2.2.2.2.2 (a3 + (1 : Int32)).toNatClampNeg), .inl (g.2.2.2.2.2.2 (a3 + (2 : Int32)).toNatClampNeg), .inl (g.2.2.2.2.2.2 (a3 + (3 : Int32)).toNatClampNeg), .inl (g.2.2.2.2.2.2 (a3 + (4 : Int32)).toNatClampNeg), .inl (g.2.2.2.2.2.2 (a3 + (5 : Int32)).toNatClampNeg)]) (S := []) o (a_X11_feed g k.2.1 n j r hj hr (g.2.2.2.2.2.2 (a3 + (1 : Int32)).toNatClampNeg) (g.2.2.2.2.2.2 (a3 + (2 : Int32)).toNatClampNeg) (g.2.2.2.2.2.2 (a3 + (3 : Int32)).toNatClampNeg) (g.2.2.2.2.2.2 (a3 + (4 : Int32)).toNatClampNeg) (g.2.2.2.2.2.2 (a3 + (5 : Int32)).toNatClampNeg) M) (Nat.le_of_ble_eq_true rfl) zv_X11_feed rfl cf_X11 (sh0 j r) ml_L_23 (Nat.le_of_ble_eq_true rfl) (q_dm dm_L_law 122 rfl) (fun r12 m13 => ?_)
      refine qr_aload_n o (q_dm dm_L_law 123 rfl) rfl ?_
      refine qr_aload_n o (q_dm dm_L_law 124 rfl) rfl ?_
      refine qr_iload_n o (q_dm dm_L_law 125 rfl) rfl ?_
      refine qr_iconst o (q_dm dm_L_law 126 rfl) ic_1 ?_
      refine qr_iadd o (q_dm dm_L_law 127 rfl) ?_
      refine qr_sald o (q_dm dm_L_law 128 rfl) ?_
      refine qr_aload_n o (q_dm dm_L_law 129 rfl) rfl ?_
      refine qr_iload_n o (q_dm dm_L_law 130 rfl) rfl ?_
      refine qr_iconst o (q_dm dm_L_law 131 rfl) ic_2 ?_
      refine qr_iadd o (q_dm dm_L_law 132 rfl) ?_
      refine qr_sald o (q_dm dm_L_law 133 rfl) ?_
      refine qr_aload_n o (q_dm dm_L_law 134 rfl) rfl ?_
      refine qr_iload_n o (q_dm dm_L_law 135 rfl) rfl ?_
      refine qr_iconst o (q_dm dm_L_law 136 rfl) ic_3 ?_
      refine qr_iadd o (q_dm dm_L_law 137 rfl) ?_
      refine qr_sald o (q_dm dm_L_law 138 rfl) ?_
      refine qr_aload_n o (q_dm dm_L_law 139 rfl) rfl ?_
      refine qr_iload_n o (q_dm dm_L_law 140 rfl) rfl ?_
      refine qr_iconst o (q_dm dm_L_law 141 rfl) ic_4 ?_
      refine qr_iadd o (q_dm dm_L_law 142 rfl) ?_
      refine qr_sald o (q_dm dm_L_law 143 rfl) ?_
      refine qr_aload_n o (q_dm dm_L_law 144 rfl) rfl ?_
      refine qr_iload_n o (q_dm dm_L_law 145 rfl) rfl ?_
      refine qr_iconst o (q_dm dm_L_law 146 rfl) ic_5 ?_
      refine qr_iadd o (q_dm dm_L_law 147 rfl) ?_
      refine qr_sald o (q_dm dm_L_law 148 rfl) ?_
      refine qr_callv_i (As := [.inl (g.2.2.2.2.2.2 (a3 + (1 : Int32)).toNatClampNeg), .inl (g.2.2.2.2.2.2 (a3 + (2 : Int32)).toNatClampNeg), .inl (g.2.2.2.2.2.2 (a3 + (3 : Int32)).toNatClampNeg), .inl (g.2.2.2.2.2.2 (a3 + (4 : Int32)).toNatClampNeg), .inl (g.2.2.2.2.2.2 (a3 + (5 : Int32)).toNatClampNeg)]) (S := [.inl r12]) o (a_X12_feed g k.2.1 n j r hj hr (g.2.2.2.2.2.2 (a3 + (1 : Int32)).toNatClampNeg) (g.2.2.2.2.2.2 (a3 + (2 : Int32)).toNatClampNeg) (g.2.2.2.2.2.2 (a3 + (3 : Int32)).toNatClampNeg) (g.2.2.2.2.2.2 (a3 + (4 : Int32)).toNatClampNeg) (g.2.2.2.2.2.2 (a3 + (5 : Int32)).toNatClampNeg) m13) (Nat.le_of_ble_eq_true rfl) zv_X12_feed rfl cf_X12 (sh77 j r) ml_L_27 (Nat.le_of_ble_eq_true rfl) (q_dm dm_L_law 149 rfl) (fun r14 m15 => ?_)
      refine qr_icmp_eq (tgt := 1182) o (q_dm dm_L_law 150 rfl) (by decide) ?_ ?_
      · refine qs_iincl2 (L' := fun x16 => [some (.inr (some 1000)), some (.inr (some 0)), some (.inr (some 77)), some (.inl x16)]) o (q_dm dm_L_law 896 rfl) rfl ic_7 (Nat.le_of_ble_eq_true rfl) (fun _ => rfl) (fun x16 => ?_)
        refine qr_goto (tgt := 18) o (q_dm dm_L_law 897 rfl) (by decide) ?_
        exact qr_loc (q_leS (q_leS (q_leS (q_leS q_le0)))) (hK18 x16 m15)
      · refine qr_iconst o (q_dm dm_L_law 151 rfl) ic_0 ?_
        exact qr_none
    · refine qr_aload_n o (q_dm dm_L_law 153 rfl) rfl ?_
      refine qr_aload_n o (q_dm dm_L_law 154 rfl) rfl ?_
      refine qr_iload_n o (q_dm dm_L_law 155 rfl) rfl ?_
      refine qr_iconst o (q_dm dm_L_law 156 rfl) ic_1 ?_
      refine qr_iadd o (q_dm dm_L_law 157 rfl) ?_
      refine qr_sald o (q_dm dm_L_law 158 rfl) ?_
      refine qr_law2 (As := [.inl (g.2.2.2.2.2.2 (a3 + (1 : Int32)).toNatClampNeg)]) (S := []) o (a_X11_law g k.2.1 n j r hj hr (g.2.2.2.2.2.2 (a3 + (1 : Int32)).toNatClampNeg) M) (a_X11_lawS g k.2.1 n j r hj hr (g.2.2.2.2.2.2 (a3 + (1 : Int32)).toNatClampNeg) M) (Nat.le_of_ble_eq_true rfl) zv_X11_law rfl cf_X11 (sh0 j r) ml_L_28 (Nat.le_of_ble_eq_true rfl) (q_dm dm_L_law 159 rfl) (fun r17 m18 => ?_) (fun r17 m18 => ?_)
      · refine qr_aload_n o (q_dm dm_L_law 160 rfl) rfl ?_
        refine qr_aload_n o (q_dm dm_L_law 161 rfl) rfl ?_
        refine qr_iload_n o (q_dm dm_L_law 162 rfl) rfl ?_
        refine qr_iconst o (q_dm dm_L_law 163 rfl) ic_1 ?_
        refine qr_iadd o (q_dm dm_L_law 164 rfl) ?_
        refine qr_sald o (q_dm dm_L_law 165 rfl) ?_
        refine qr_callv_i (As := [.inl (g.2.2.2.2.2.2 (a3 + (1 : Int32)).toNatClampNeg)]) (S := [.inl r17]) o (a_X12_law g k.2.1 n j r hj hr (g.2.2.2.2.2.2 (a3 + (1 : Int32)).toNatClampNeg) m18) (Nat.le_of_ble_eq_true rfl) zv_X12_law rfl cf_X12 (sh77 j r) ml_L_32 (Nat.le_of_ble_eq_true rfl) (q_dm dm_L_law 166 rfl) (fun r19 m20 => ?_)
        refine qr_icmp_eq (tgt := 1182) o (q_dm dm_L_law 167 rfl) (by decide) ?_ ?_
        · refine qs_iincl2 (L' := fun x21 => [some (.inr (some 1000)), some (.inr (some 0)), some (.inr (some 77)), some (.inl x21)]) o (q_dm dm_L_law 896 rfl) rfl ic_7 (Nat.le_of_ble_eq_true rfl) (fun _ => rfl) (fun x21 => ?_)
          refine qr_goto (tgt := 18) o (q_dm dm_L_law 897 rfl) (by decide) ?_
          exact qr_loc (q_leS (q_leS (q_leS (q_leS q_le0)))) (hK18 x21 m20)
        · refine qr_iconst o (q_dm dm_L_law 168 rfl) ic_0 ?_
          exact qr_none
      · refine qr_aload_n o (q_dm dm_L_law 160 rfl) rfl ?_
        refine qr_aload_n o (q_dm dm_L_law 161 rfl) rfl ?_
        refine qr_iload_n o (q_dm dm_L_law 162 rfl) rfl ?_
        refine qr_iconst o (q_dm dm_L_law 163 rfl) ic_1 ?_
        refine qr_iadd o (q_dm dm_L_law 164 rfl) ?_
        refine qr_sald o (q_dm dm_L_law 165 rfl) ?_
        refine qr_callv_i (As := [.inl (g.2.2.2.2.2.2 (a3 + (1 : Int32)).toNatClampNeg)]) (S := [.inl r17]) o (a_X12_law g k.2.1 n r j hr hj (g.2.2.2.2.2.2 (a3 + (1 : Int32)).toNatClampNeg) m18) (Nat.le_of_ble_eq_true rfl) zv_X12_law rfl cf_X12 (sh77 r j) ml_L_32 (Nat.le_of_ble_eq_true rfl) (q_dm dm_L_law 166 rfl) (fun r22 m23 => ?_)
        refine qr_icmp_eq (tgt := 1182) o (q_dm dm_L_law 167 rfl) (by decide) ?_ ?_
        · refine qs_iincl2 (L' := fun x24 => [some (.inr (some 1000)), some (.inr (some 0)), some (.inr (some 77)), some (.inl x24)]) o (q_dm dm_L_law 896 rfl) rfl ic_7 (Nat.le_of_ble_eq_true rfl) (fun _ => rfl) (fun x24 => ?_)
          refine qr_goto (tgt := 18) o (q_dm dm_L_law 897 rfl) (by decide) ?_
          exact qr_loc (q_leS (q_leS (q_leS (q_leS q_le0)))) (hKS x24 m23)
        · refine qr_iconst o (q_dm dm_L_law 168 rfl) ic_0 ?_
          exact qr_none
    · refine qr_aload_n o (q_dm dm_L_law 170 rfl) rfl ?_
      refine qr_aload_n o (q_dm dm_L_law 171 rfl) rfl ?_
      refine qr_iload_n o (q_dm dm_L_law 172 rfl) rfl ?_
      refine qr_iconst o (q_dm dm_L_law 173 rfl) ic_1 ?_
      refine qr_iadd o (q_dm dm_L_law 174 rfl) ?_
      refine qr_sald o (q_dm dm_L_law 175 rfl) ?_
      refine qr_aload_n o (q_dm dm_L_law 176 rfl) rfl ?_
      refine qr_iload_n o (q_dm dm_L_law 177 rfl) rfl ?_
      refine qr_iconst o (q_dm dm_L_law 178 rfl) ic_2 ?_
      refine qr_iadd o (q_dm dm_L_law 179 rfl) ?_
      refine qr_sald o (q_dm dm_L_law 180 rfl) ?_
      refine qr_callv_i (As := [.inl (g.2.2.2.2.2.2 (a3 + (1 : Int32)).toNatClampNeg), .inl (g.2.2.2.2.2.2 (a3 + (2 : Int32)).toNatClampNeg)]) (S := []) o (a_X11_plan g k.2.1 n j r hj hr (g.2.2.2.2.2.2 (a3 + (1 : Int32)).toNatClampNeg) (g.2.2.2.2.2.2 (a3 + (2 : Int32)).toNatClampNeg) M) (Nat.le_of_ble_eq_true rfl) zv_X11_plan rfl cf_X11 (sh0 j r) ml_L_33 (Nat.le_of_ble_eq_true rfl) (q_dm dm_L_law 181 rfl) (fun r25 m26 => ?_)
      refine qr_aload_n o (q_dm dm_L_law 182 rfl) rfl ?_
      refine qr_aload_n o (q_dm dm_L_law 183 rfl) rfl ?_
      refine qr_iload_n o (q_dm dm_L_law 184 rfl) rfl ?_
      refine qr_iconst o (q_dm dm_L_law 185 rfl) ic_1 ?_
      refine qr_iadd o (q_dm dm_L_law 186 rfl) ?_
      refine qr_sald o (q_dm dm_L_law 187 rfl) ?_
      refine qr_aload_n o (q_dm dm_L_law 188 rfl) rfl ?_
      refine qr_iload_n o (q_dm dm_L_law 189 rfl) rfl ?_
      refine qr_iconst o (q_dm dm_L_law 190 rfl) ic_2 ?_
      refine qr_iadd o (q_dm dm_L_law 191 rfl) ?_
      refine qr_sald o (q_dm dm_L_law 192 rfl) ?_
      refine qr_callv_i (As := [.inl (g.2.2.2.2.2.2 (a3 + (1 : Int32)).toNatClampNeg), .inl (g.2.2.2.2.2.2 (a3 + (2 : Int32)).toNatClampNeg)]) (S := [.inl r25]) o (a_X12_plan g k.2.1 n j r hj hr (g.2.2.2.2.2.2 (a3 + (1 : Int32)).toNatClampNeg) (g.2.2.2.2.2.2 (a3 + (2 : Int32)).toNatClampNeg) m26) (Nat.le_of_ble_eq_true rfl) zv_X12_plan rfl cf_X12 (sh77 j r) ml_L_37 (Nat.le_of_ble_eq_true rfl) (q_dm dm_L_law 193 rfl) (fun r27 m28 => ?_)
      refine qr_icmp_eq (tgt := 1182) o (q_dm dm_L_law 194 rfl) (by decide) ?_ ?_
      · refine qs_iincl2 (L' := fun x29 => [some (.inr (some 1000)), some (.inr (some 0)), some (.inr (some 77)), some (.inl x29)]) o (q_dm dm_L_law 896 rfl) rfl ic_7 (Nat.le_of_ble_eq_true rfl) (fun _ => rfl) (fun x29 => ?_)
        refine qr_goto (tgt := 18) o (q_dm dm_L_law 897 rfl) (by decide) ?_
        exact qr_loc (q_leS (q_leS (q_leS (q_leS q_le0)))) (hK18 x29 m28)
      · refine qr_iconst o (q_dm dm_L_law 195 rfl) ic_0 ?_
        exact qr_none
    · refine qr_aload_n o (q_dm dm_L_law 197 rfl) rfl ?_
      refine qr_aload_n o (q_dm dm_L_law 198 rfl) rfl ?_
      refine qr_iload_n o (q_dm dm_L_law 199 rfl) rfl ?_
      refine qr_iconst o (q_dm dm_L_law 200 rfl) ic_1 ?_
      refine qr_iadd o (q_dm dm_L_law 201 rfl) ?_
      refine qr_sald o (q_dm dm_L_law 202 rfl) ?_
      refine qr_aload_n o (q_dm dm_L_law 203 rfl) rfl ?_
      refine qr_iload_n o (q_dm dm_L_law 204 rfl) rfl ?_
      refine qr_iconst o (q_dm dm_L_law 205 rfl) ic_2 ?_
      refine qr_iadd o (q_dm dm_L_law 206 rfl) ?_
      refine qr_sald o (q_dm dm_L_law 207 rfl) ?_
      refine qr_aload_n o (q_dm dm_L_law 208 rfl) rfl ?_
      refine qr_iload_n o (q_dm dm_L_law 209 rfl) rfl ?_
      refine qr_iconst o (q_dm dm_L_law 210 rfl) ic_3 ?_
      refine qr_iadd o (q_dm dm_L_law 211 rfl) ?_
      refine qr_sald o (q_dm dm_L_law 212 rfl) ?_
      refine qr_callv_i (As := [.inl (g.2.2.2.2.2.2 (a3 + (1 : Int32)).toNatClampNeg), .inl (g.2.2.2.2.2.2 (a3 + (2 : Int32)).toNatClampNeg), .inl (g.2.2.2.2.2.2 (a3 + (3 : Int32)).toNatClampNeg)]) (S := []) o (a_X11_tries g k.2.1 n j r hj hr (g.2.2.2.2.2.2 (a3 + (1 : Int32)).toNatClampNeg) (g.2.2.2.2.2.2 (a3 + (2 : Int32)).toNatClampNeg) (g.2.2.2.2.2.2 (a3 + (3 : Int32)).toNatClampNeg) M) (Nat.le_of_ble_eq_true rfl) zv_X11_tries rfl cf_X11 (sh0 j r) ml_L_38 (Nat.le_of_ble_eq_true rfl) (q_dm dm_L_law 213 rfl) (fun r30 m31 => ?_)
      refine qr_aload_n o (q_dm dm_L_law 214 rfl) rfl ?_
      refine qr_aload_n o (q_dm dm_L_law 215 rfl) rfl ?_
      refine qr_iload_n o (q_dm dm_L_law 216 rfl) rfl ?_
      refine qr_iconst o (q_dm dm_L_law 217 rfl) ic_1 ?_
      refine qr_iadd o (q_dm dm_L_law 218 rfl) ?_
      refine qr_sald o (q_dm dm_L_law 219 rfl) ?_
      refine qr_aload_n o (q_dm dm_L_law 220 rfl) rfl ?_
      refine qr_iload_n o (q_dm dm_L_law 221 rfl) rfl ?_
      refine qr_iconst o (q_dm dm_L_law 222 rfl) ic_2 ?_
      refine qr_iadd o (q_dm dm_L_law 223 rfl) ?_
      refine qr_sald o (q_dm dm_L_law 224 rfl) ?_
      refine qr_aload_n o (q_dm dm_L_law 225 rfl) rfl ?_
      refine qr_iload_n o (q_dm dm_L_law 226 rfl) rfl ?_
      refine qr_iconst o (q_dm dm_L_law 227 rfl) ic_3 ?_
      refine qr_iadd o (q_dm dm_L_law 228 rfl) ?_
      refine qr_sald o (q_dm dm_L_law 229 rfl) ?_
      refine qr_callv_i (As := [.inl (g.2.2.2.2.2.2 (a3 + (1 : Int32)).toNatClampNeg), .inl (g.2.2.2.2.2.2 (a3 + (2 : Int32)).toNatClampNeg), .inl (g.2.2.2.2.2.2 (a3 + (3 : Int32)).toNatClampNeg)]) (S := [.inl r30]) o (a_X12_tries g k.2.1 n j r hj hr (g.2.2.2.2.2.2 (a3 + (1 : Int32)).toNatClampNeg) (g.2.2.2.2.2.2 (a3 + (2 : Int32)).toNatClampNeg) (g.2.2.2.2.2.2 (a3 + (3 : Int32)).toNatClampNeg) m31) (Nat.le_of_ble_eq_true rfl) zv_X12_tries rfl cf_X12 (sh77 j r) ml_L_42 (Nat.le_of_ble_eq_true rfl) (q_dm dm_L_law 230 rfl) (fun r32 m33 => ?_)
      refine qr_icmp_eq (tgt := 1182) o (q_dm dm_L_law 231 rfl) (by decide) ?_ ?_
      · refine qs_iincl2 (L' := fun x34 => [some (.inr (some 1000)), some (.inr (some 0)), some (.inr (some 77)), some (.inl x34)]) o (q_dm dm_L_law 896 rfl) rfl ic_7 (Nat.le_of_ble_eq_true rfl) (fun _ => rfl) (fun x34 => ?_)
        refine qr_goto (tgt := 18) o (q_dm dm_L_law 897 rfl) (by decide) ?_
        exact qr_loc (q_leS (q_leS (q_leS (q_leS q_le0)))) (hK18 x34 m33)
      · refine qr_iconst o (q_dm dm_L_law 232 rfl) ic_0 ?_
        exact qr_none
    · refine qr_aload_n o (q_dm dm_L_law 234 rfl) rfl ?_
      refine qr_aload_n o (q_dm dm_L_law 235 rfl) rfl ?_
      refine qr_iload_n o (q_dm dm_L_law 236 rfl) rfl ?_
      refine qr_iconst o (q_dm dm_L_law 237 rfl) ic_1 ?_
      refine qr_iadd o (q_dm dm_L_law 238 rfl) ?_
      refine qr_sald o (q_dm dm_L_law 239 rfl) ?_
      refine qr_aload_n o (q_dm dm_L_law 240 rfl) rfl ?_
      refine qr_iload_n o (q_dm dm_L_law 241 rfl) rfl ?_
      refine qr_iconst o (q_dm dm_L_law 242 rfl) ic_2 ?_
      refine qr_iadd o (q_dm dm_L_law 243 rfl) ?_
      refine qr_sald o (q_dm dm_L_law 244 rfl) ?_
      refine qr_aload_n o (q_dm dm_L_law 245 rfl) rfl ?_
      refine qr_iload_n o (q_dm dm_L_law 246 rfl) rfl ?_
      refine qr_iconst o (q_dm dm_L_law 247 rfl) ic_3 ?_
      refine qr_iadd o (q_dm dm_L_law 248 rfl) ?_
      refine qr_sald o (q_dm dm_L_law 249 rfl) ?_
      refine qr_callv_i (As := [.inl (g.2.2.2.2.2.2 (a3 + (1 : Int32)).toNatClampNeg), .inl (g.2.2.2.2.2.2 (a3 + (2 : Int32)).toNatClampNeg), .inl (g.2.2.2.2.2.2 (a3 + (3 : Int32)).toNatClampNeg)]) (S := []) o (a_X11_buys g k.2.1 n j r hj hr (g.2.2.2.2.2.2 (a3 + (1 : Int32)).toNatClampNeg) (g.2.2.2.2.2.2 (a3 + (2 : Int32)).toNatClampNeg) (g.2.2.2.2.2.2 (a3 + (3 : Int32)).toNatClampNeg) M) (Nat.le_of_ble_eq_true rfl) zv_X11_buys rfl cf_X11 (sh0 j r) ml_L_43 (Nat.le_of_ble_eq_true rfl) (q_dm dm_L_law 250 rfl) (fun r35 m36 => ?_)
      refine qr_aload_n o (q_dm dm_L_law 251 rfl) rfl ?_
      refine qr_aload_n o (q_dm dm_L_law 252 rfl) rfl ?_
      refine qr_iload_n o (q_dm dm_L_law 253 rfl) rfl ?_
      refine qr_iconst o (q_dm dm_L_law 254 rfl) ic_1 ?_
      refine qr_iadd o (q_dm dm_L_law 255 rfl) ?_
      refine qr_sald o (q_dm dm_L_law 256 rfl) ?_
      refine qr_aload_n o (q_dm dm_L_law 257 rfl) rfl ?_
      refine qr_iload_n o (q_dm dm_L_law 258 rfl) rfl ?_
      refine qr_iconst o (q_dm dm_L_law 259 rfl) ic_2 ?_
      refine qr_iadd o (q_dm dm_L_law 260 rfl) ?_
      refine qr_sald o (q_dm dm_L_law 261 rfl) ?_
      refine qr_aload_n o (q_dm dm_L_law 262 rfl) rfl ?_
      refine qr_iload_n o (q_dm dm_L_law 263 rfl) rfl ?_
      refine qr_iconst o (q_dm dm_L_law 264 rfl) ic_3 ?_
      refine qr_iadd o (q_dm dm_L_law 265 rfl) ?_
      refine qr_sald o (q_dm dm_L_law 266 rfl) ?_
      refine qr_callv_i (As := [.inl (g.2.2.2.2.2.2 (a3 + (1 : Int32)).toNatClampNeg), .inl (g.2.2.2.2.2.2 (a3 + (2 : Int32)).toNatClampNeg), .inl (g.2.2.2.2.2.2 (a3 + (3 : Int32)).toNatClampNeg)]) (S := [.inl r35]) o (a_X12_buys g k.2.1 n j r hj hr (g.2.2.2.2.2.2 (a3 + (1 : Int32)).toNatClampNeg) (g.2.2.2.2.2.2 (a3 + (2 : Int32)).toNatClampNeg) (g.2.2.2.2.2.2 (a3 + (3 : Int32)).toNatClampNeg) m36) (Nat.le_of_ble_eq_true rfl) zv_X12_buys rfl cf_X12 (sh77 j r) ml_L_46 (Nat.le_of_ble_eq_true rfl) (q_dm dm_L_law 267 rfl) (fun r37 m38 => ?_)
      refine qr_icmp_eq (tgt := 1182) o (q_dm dm_L_law 268 rfl) (by decide) ?_ ?_
      · refine qs_iincl2 (L' := fun x39 => [some (.inr (some 1000)), some (.inr (some 0)), some (.inr (some 77)), some (.inl x39)]) o (q_dm dm_L_law 896 rfl) rfl ic_7 (Nat.le_of_ble_eq_true rfl) (fun _ => rfl) (fun x39 => ?_)
        refine qr_goto (tgt := 18) o (q_dm dm_L_law 897 rfl) (by decide) ?_
        exact qr_loc (q_leS (q_leS (q_leS (q_leS q_le0)))) (hK18 x39 m38)
      · refine qr_iconst o (q_dm dm_L_law 269 rfl) ic_0 ?_
        exact qr_none
    · refine qr_aload_n o (q_dm dm_L_law 271 rfl) rfl ?_
      refine qr_aload_n o (q_dm dm_L_law 272 rfl) rfl ?_
      refine qr_iload_n o (q_dm dm_L_law 273 rfl) rfl ?_
      refine qr_iconst o (q_dm dm_L_law 274 rfl) ic_1 ?_
      refine qr_iadd o (q_dm dm_L_law 275 rfl) ?_
      refine qr_sald o (q_dm dm_L_law 276 rfl) ?_
      refine qr_callv_i (As := [.inl (g.2.2.2.2.2.2 (a3 + (1 : Int32)).toNatClampNeg)]) (S := []) o (a_X11_days g k.2.1 n j r hj hr (g.2.2.2.2.2.2 (a3 + (1 : Int32)).toNatClampNeg) M) (Nat.le_of_ble_eq_true rfl) zv_X11_days rfl cf_X11 (sh0 j r) ml_L_47 (Nat.le_of_ble_eq_true rfl) (q_dm dm_L_law 277 rfl) (fun r40 m41 => ?_)
      refine qr_aload_n o (q_dm dm_L_law 278 rfl) rfl ?_
      refine qr_aload_n o (q_dm dm_L_law 279 rfl) rfl ?_
      refine qr_iload_n o (q_dm dm_L_law 280 rfl) rfl ?_
      refine qr_iconst o (q_dm dm_L_law 281 rfl) ic_1 ?_
      refine qr_iadd o (q_dm dm_L_law 282 rfl) ?_
      refine qr_sald o (q_dm dm_L_law 283 rfl) ?_
      refine qr_callv_i (As := [.inl (g.2.2.2.2.2.2 (a3 + (1 : Int32)).toNatClampNeg)]) (S := [.inl r40]) o (a_X12_days g k.2.1 n j r hj hr (g.2.2.2.2.2.2 (a3 + (1 : Int32)).toNatClampNeg) m41) (Nat.le_of_ble_eq_true rfl) zv_X12_days rfl cf_X12 (sh77 j r) ml_L_50 (Nat.le_of_ble_eq_true rfl) (q_dm dm_L_law 284 rfl) (fun r42 m43 => ?_)
      refine qr_icmp_eq (tgt := 1182) o (q_dm dm_L_law 285 rfl) (by decide) ?_ ?_
      · refine qs_iincl2 (L' := fun x44 => [some (.inr (some 1000)), some (.inr (some 0)), some (.inr (some 77)), some (.inl x44)]) o (q_dm dm_L_law 896 rfl) rfl ic_7 (Nat.le_of_ble_eq_true rfl) (fun _ => rfl) (fun x44 => ?_)
        refine qr_goto (tgt := 18) o (q_dm dm_L_law 897 rfl) (by decide) ?_
        exact qr_loc (q_leS (q_leS (q_leS (q_leS q_le0)))) (hK18 x44 m43)
      · refine qr_iconst o (q_dm dm_L_law 286 rfl) ic_0 ?_
        exact qr_none
    · refine qr_aload_n o (q_dm dm_L_law 288 rfl) rfl ?_
      refine qr_aload_n o (q_dm dm_L_law 289 rfl) rfl ?_
      refine qr_iload_n o (q_dm dm_L_law 290 rfl) rfl ?_
      refine qr_iconst o (q_dm dm_L_law 291 rfl) ic_1 ?_
      refine qr_iadd o (q_dm dm_L_law 292 rfl) ?_
      refine qr_sald o (q_dm dm_L_law 293 rfl) ?_
      refine qr_aload_n o (q_dm dm_L_law 294 rfl) rfl ?_
      refine qr_iload_n o (q_dm dm_L_law 295 rfl) rfl ?_
      refine qr_iconst o (q_dm dm_L_law 296 rfl) ic_2 ?_
      refine qr_iadd o (q_dm dm_L_law 297 rfl) ?_
      refine qr_sald o (q_dm dm_L_law 298 rfl) ?_
      refine qr_callv_i (As := [.inl (g.2.2.2.2.2.2 (a3 + (1 : Int32)).toNatClampNeg), .inl (g.2.2.2.2.2.2 (a3 + (2 : Int32)).toNatClampNeg)]) (S := []) o (a_X11_tried g k.2.1 n j r hj hr (g.2.2.2.2.2.2 (a3 + (1 : Int32)).toNatClampNeg) (g.2.2.2.2.2.2 (a3 + (2 : Int32)).toNatClampNeg) M) (Nat.le_of_ble_eq_true rfl) zv_X11_tried rfl cf_X11 (sh0 j r) ml_L_51 (Nat.le_of_ble_eq_true rfl) (q_dm dm_L_law 299 rfl) (fun r45 m46 => ?_)
      refine qr_aload_n o (q_dm dm_L_law 300 rfl) rfl ?_
      refine qr_aload_n o (q_dm dm_L_law 301 rfl) rfl ?_
      refine qr_iload_n o (q_dm dm_L_law 302 rfl) rfl ?_
      refine qr_iconst o (q_dm dm_L_law 303 rfl) ic_1 ?_
      refine qr_iadd o (q_dm dm_L_law 304 rfl) ?_
      refine qr_sald o (q_dm dm_L_law 305 rfl) ?_
      refine qr_aload_n o (q_dm dm_L_law 306 rfl) rfl ?_
      refine qr_iload_n o (q_dm dm_L_law 307 rfl) rfl ?_
      refine qr_iconst o (q_dm dm_L_law 308 rfl) ic_2 ?_
      refine qr_iadd o (q_dm dm_L_law 309 rfl) ?_
      refine qr_sald o (q_dm dm_L_law 310 rfl) ?_
      refine qr_callv_i (As := [.inl (g.2.2.2.2.2.2 (a3 + (1 : Int32)).toNatClampNeg), .inl (g.2.2.2.2.2.2 (a3 + (2 : Int32)).toNatClampNeg)]) (S := [.inl r45]) o (a_X12_tried g k.2.1 n j r hj hr (g.2.2.2.2.2.2 (a3 + (1 : Int32)).toNatClampNeg) (g.2.2.2.2.2.2 (a3 + (2 : Int32)).toNatClampNeg) m46) (Nat.le_of_ble_eq_true rfl) zv_X12_tried rfl cf_X12 (sh77 j r) ml_L_54 (Nat.le_of_ble_eq_true rfl) (q_dm dm_L_law 311 rfl) (fun r47 m48 => ?_)
      refine qr_icmp_eq (tgt := 1182) o (q_dm dm_L_law 312 rfl) (by decide) ?_ ?_
      · refine qs_iincl2 (L' := fun x49 => [some (.inr (some 1000)), some (.inr (some 0)), some (.inr (some 77)), some (.inl x49)]) o (q_dm dm_L_law 896 rfl) rfl ic_7 (Nat.le_of_ble_eq_true rfl) (fun _ => rfl) (fun x49 => ?_)
        refine qr_goto (tgt := 18) o (q_dm dm_L_law 897 rfl) (by decide) ?_
        exact qr_loc (q_leS (q_leS (q_leS (q_leS q_le0)))) (hK18 x49 m48)
      · refine qr_iconst o (q_dm dm_L_law 313 rfl) ic_0 ?_
        exact qr_none
    · refine qr_aload_n o (q_dm dm_L_law 315 rfl) rfl ?_
      refine qr_aload_n o (q_dm dm_L_law 316 rfl) rfl ?_
      refine qr_iload_n o (q_dm dm_L_law 317 rfl) rfl ?_
      refine qr_iconst o (q_dm dm_L_law 318 rfl) ic_1 ?_
      refine qr_iadd o (q_dm dm_L_law 319 rfl) ?_
      refine qr_sald o (q_dm dm_L_law 320 rfl) ?_
      refine qr_aload_n o (q_dm dm_L_law 321 rfl) rfl ?_
      refine qr_iload_n o (q_dm dm_L_law 322 rfl) rfl ?_
      refine qr_iconst o (q_dm dm_L_law 323 rfl) ic_2 ?_
      refine qr_iadd o (q_dm dm_L_law 324 rfl) ?_
      refine qr_sald o (q_dm dm_L_law 325 rfl) ?_
      refine qr_aload_n o (q_dm dm_L_law 326 rfl) rfl ?_
      refine qr_iload_n o (q_dm dm_L_law 327 rfl) rfl ?_
      refine qr_iconst o (q_dm dm_L_law 328 rfl) ic_3 ?_
      refine qr_iadd o (q_dm dm_L_law 329 rfl) ?_
      refine qr_sald o (q_dm dm_L_law 330 rfl) ?_
      refine qr_callv_i (As := [.inl (g.2.2.2.2.2.2 (a3 + (1 : Int32)).toNatClampNeg), .inl (g.2.2.2.2.2.2 (a3 + (2 : Int32)).toNatClampNeg), .inl (g.2.2.2.2.2.2 (a3 + (3 : Int32)).toNatClampNeg)]) (S := []) o (a_X11_has g k.2.1 n j r hj hr (g.2.2.2.2.2.2 (a3 + (1 : Int32)).toNatClampNeg) (g.2.2.2.2.2.2 (a3 + (2 : Int32)).toNatClampNeg) (g.2.2.2.2.2.2 (a3 + (3 : Int32)).toNatClampNeg) M) (Nat.le_of_ble_eq_true rfl) zv_X11_has rfl cf_X11 (sh0 j r) ml_L_55 (Nat.le_of_ble_eq_true rfl) (q_dm dm_L_law 331 rfl) (fun r50 m51 => ?_)
      refine qr_aload_n o (q_dm dm_L_law 332 rfl) rfl ?_
      refine qr_aload_n o (q_dm dm_L_law 333 rfl) rfl ?_
      refine qr_iload_n o (q_dm dm_L_law 334 rfl) rfl ?_
      refine qr_iconst o (q_dm dm_L_law 335 rfl) ic_1 ?_
      refine qr_iadd o (q_dm dm_L_law 336 rfl) ?_
      refine qr_sald o (q_dm dm_L_law 337 rfl) ?_
      refine qr_aload_n o (q_dm dm_L_law 338 rfl) rfl ?_
      refine qr_iload_n o (q_dm dm_L_law 339 rfl) rfl ?_
      refine qr_iconst o (q_dm dm_L_law 340 rfl) ic_2 ?_
      refine qr_iadd o (q_dm dm_L_law 341 rfl) ?_
      refine qr_sald o (q_dm dm_L_law 342 rfl) ?_
      refine qr_aload_n o (q_dm dm_L_law 343 rfl) rfl ?_
      refine qr_iload_n o (q_dm dm_L_law 344 rfl) rfl ?_
      refine qr_iconst o (q_dm dm_L_law 345 rfl) ic_3 ?_
      refine qr_iadd o (q_dm dm_L_law 346 rfl) ?_
      refine qr_sald o (q_dm dm_L_law 347 rfl) ?_
      refine qr_callv_i (As := [.inl (g.2.2.2.2.2.2 (a3 + (1 : Int32)).toNatClampNeg), .inl (g.2.2.2.2.2.2 (a3 + (2 : Int32)).toNatClampNeg), .inl (g.2.2.2.2.2.2 (a3 + (3 : Int32)).toNatClampNeg)]) (S := [.inl r50]) o (a_X12_has g k.2.1 n j r hj hr (g.2.2.2.2.2.2 (a3 + (1 : Int32)).toNatClampNeg) (g.2.2.2.2.2.2 (a3 + (2 : Int32)).toNatClampNeg) (g.2.2.2.2.2.2 (a3 + (3 : Int32)).toNatClampNeg) m51) (Nat.le_of_ble_eq_true rfl) zv_X12_has rfl cf_X12 (sh77 j r) ml_L_58 (Nat.le_of_ble_eq_true rfl) (q_dm dm_L_law 348 rfl) (fun r52 m53 => ?_)
      refine qr_icmp_eq (tgt := 1182) o (q_dm dm_L_law 349 rfl) (by decide) ?_ ?_
      · refine qs_iincl2 (L' := fun x54 => [some (.inr (some 1000)), some (.inr (some 0)), some (.inr (some 77)), some (.inl x54)]) o (q_dm dm_L_law 896 rfl) rfl ic_7 (Nat.le_of_ble_eq_true rfl) (fun _ => rfl) (fun x54 => ?_)
        refine qr_goto (tgt := 18) o (q_dm dm_L_law 897 rfl) (by decide) ?_
        exact qr_loc (q_leS (q_leS (q_leS (q_leS q_le0)))) (hK18 x54 m53)
      · refine qr_iconst o (q_dm dm_L_law 350 rfl) ic_0 ?_
        exact qr_none
    · refine qr_aload_n o (q_dm dm_L_law 352 rfl) rfl ?_
      refine qr_aload_n o (q_dm dm_L_law 353 rfl) rfl ?_
      refine qr_iload_n o (q_dm dm_L_law 354 rfl) rfl ?_
      refine qr_iconst o (q_dm dm_L_law 355 rfl) ic_1 ?_
      refine qr_iadd o (q_dm dm_L_law 356 rfl) ?_
      refine qr_sald o (q_dm dm_L_law 357 rfl) ?_
      refine qr_aload_n o (q_dm dm_L_law 358 rfl) rfl ?_
      refine qr_iload_n o (q_dm dm_L_law 359 rfl) rfl ?_
      refine qr_iconst o (q_dm dm_L_law 360 rfl) ic_2 ?_
      refine qr_iadd o (q_dm dm_L_law 361 rfl) ?_
      refine qr_sald o (q_dm dm_L_law 362 rfl) ?_
      refine qr_callv_i (As := [.inl (g.2.2.2.2.2.2 (a3 + (1 : Int32)).toNatClampNeg), .inl (g.2.2.2.2.2.2 (a3 + (2 : Int32)).toNatClampNeg)]) (S := []) o (a_X11_alike g k.2.1 n j r hj hr (g.2.2.2.2.2.2 (a3 + (1 : Int32)).toNatClampNeg) (g.2.2.2.2.2.2 (a3 + (2 : Int32)).toNatClampNeg) M) (Nat.le_of_ble_eq_true rfl) zv_X11_alike rfl cf_X11 (sh0 j r) ml_L_59 (Nat.le_of_ble_eq_true rfl) (q_dm dm_L_law 363 rfl) (fun r55 m56 => ?_)
      refine qr_aload_n o (q_dm dm_L_law 364 rfl) rfl ?_
      refine qr_aload_n o (q_dm dm_L_law 365 rfl) rfl ?_
      refine qr_iload_n o (q_dm dm_L_law 366 rfl) rfl ?_
      refine qr_iconst o (q_dm dm_L_law 367 rfl) ic_1 ?_
      refine qr_iadd o (q_dm dm_L_law 368 rfl) ?_
      refine qr_sald o (q_dm dm_L_law 369 rfl) ?_
      refine qr_aload_n o (q_dm dm_L_law 370 rfl) rfl ?_
      refine qr_iload_n o (q_dm dm_L_law 371 rfl) rfl ?_
      refine qr_iconst o (q_dm dm_L_law 372 rfl) ic_2 ?_
      refine qr_iadd o (q_dm dm_L_law 373 rfl) ?_
      refine qr_sald o (q_dm dm_L_law 374 rfl) ?_
      refine qr_callv_i (As := [.inl (g.2.2.2.2.2.2 (a3 + (1 : Int32)).toNatClampNeg), .inl (g.2.2.2.2.2.2 (a3 + (2 : Int32)).toNatClampNeg)]) (S := [.inl r55]) o (a_X12_alike g k.2.1 n j r hj hr (g.2.2.2.2.2.2 (a3 + (1 : Int32)).toNatClampNeg) (g.2.2.2.2.2.2 (a3 + (2 : Int32)).toNatClampNeg) m56) (Nat.le_of_ble_eq_true rfl) zv_X12_alike rfl cf_X12 (sh77 j r) ml_L_62 (Nat.le_of_ble_eq_true rfl) (q_dm dm_L_law 375 rfl) (fun r57 m58 => ?_)
      refine qr_icmp_eq (tgt := 1182) o (q_dm dm_L_law 376 rfl) (by decide) ?_ ?_
      · refine qs_iincl2 (L' := fun x59 => [some (.inr (some 1000)), some (.inr (some 0)), some (.inr (some 77)), some (.inl x59)]) o (q_dm dm_L_law 896 rfl) rfl ic_7 (Nat.le_of_ble_eq_true rfl) (fun _ => rfl) (fun x59 => ?_)
        refine qr_goto (tgt := 18) o (q_dm dm_L_law 897 rfl) (by decide) ?_
        exact qr_loc (q_leS (q_leS (q_leS (q_leS q_le0)))) (hK18 x59 m58)
      · refine qr_iconst o (q_dm dm_L_law 377 rfl) ic_0 ?_
        exact qr_none
    · refine qr_aload_n o (q_dm dm_L_law 379 rfl) rfl ?_
      refine qr_aload_n o (q_dm dm_L_law 380 rfl) rfl ?_
      refine qr_iload_n o (q_dm dm_L_law 381 rfl) rfl ?_
      refine qr_iconst o (q_dm dm_L_law 382 rfl) ic_1 ?_
      refine qr_iadd o (q_dm dm_L_law 383 rfl) ?_
      refine qr_sald o (q_dm dm_L_law 384 rfl) ?_
      refine qr_aload_n o (q_dm dm_L_law 385 rfl) rfl ?_
      refine qr_iload_n o (q_dm dm_L_law 386 rfl) rfl ?_
      refine qr_iconst o (q_dm dm_L_law 387 rfl) ic_2 ?_
      refine qr_iadd o (q_dm dm_L_law 388 rfl) ?_
      refine qr_sald o (q_dm dm_L_law 389 rfl) ?_
      refine qr_aload_n o (q_dm dm_L_law 390 rfl) rfl ?_
      refine qr_iload_n o (q_dm dm_L_law 391 rfl) rfl ?_
      refine qr_iconst o (q_dm dm_L_law 392 rfl) ic_3 ?_
      refine qr_iadd o (q_dm dm_L_law 393 rfl) ?_
      refine qr_sald o (q_dm dm_L_law 394 rfl) ?_
      refine qr_callv_i (As := [.inl (g.2.2.2.2.2.2 (a3 + (1 : Int32)).toNatClampNeg), .inl (g.2.2.2.2.2.2 (a3 + (2 : Int32)).toNatClampNeg), .inl (g.2.2.2.2.2.2 (a3 + (3 : Int32)).toNatClampNeg)]) (S := []) o (a_X11_cost g k.2.1 n j r hj hr (g.2.2.2.2.2.2 (a3 + (1 : Int32)).toNatClampNeg) (g.2.2.2.2.2.2 (a3 + (2 : Int32)).toNatClampNeg) (g.2.2.2.2.2.2 (a3 + (3 : Int32)).toNatClampNeg) M) (Nat.le_of_ble_eq_true rfl) zv_X11_cost rfl cf_X11 (sh0 j r) ml_L_63 (Nat.le_of_ble_eq_true rfl) (q_dm dm_L_law 395 rfl) (fun r60 m61 => ?_)
      refine qr_aload_n o (q_dm dm_L_law 396 rfl) rfl ?_
      refine qr_aload_n o (q_dm dm_L_law 397 rfl) rfl ?_
      refine qr_iload_n o (q_dm dm_L_law 398 rfl) rfl ?_
      refine qr_iconst o (q_dm dm_L_law 399 rfl) ic_1 ?_
      refine qr_iadd o (q_dm dm_L_law 400 rfl) ?_
      refine qr_sald o (q_dm dm_L_law 401 rfl) ?_
      refine qr_aload_n o (q_dm dm_L_law 402 rfl) rfl ?_
      refine qr_iload_n o (q_dm dm_L_law 403 rfl) rfl ?_
      refine qr_iconst o (q_dm dm_L_law 404 rfl) ic_2 ?_
      refine qr_iadd o (q_dm dm_L_law 405 rfl) ?_
      refine qr_sald o (q_dm dm_L_law 406 rfl) ?_
      refine qr_aload_n o (q_dm dm_L_law 407 rfl) rfl ?_
      refine qr_iload_n o (q_dm dm_L_law 408 rfl) rfl ?_
      refine qr_iconst o (q_dm dm_L_law 409 rfl) ic_3 ?_
      refine qr_iadd o (q_dm dm_L_law 410 rfl) ?_
      refine qr_sald o (q_dm dm_L_law 411 rfl) ?_
      refine qr_callv_i (As := [.inl (g.2.2.2.2.2.2 (a3 + (1 : Int32)).toNatClampNeg), .inl (g.2.2.2.2.2.2 (a3 + (2 : Int32)).toNatClampNeg), .inl (g.2.2.2.2.2.2 (a3 + (3 : Int32)).toNatClampNeg)]) (S := [.inl r60]) o (a_X12_cost g k.2.1 n j r hj hr (g.2.2.2.2.2.2 (a3 + (1 : Int32)).toNatClampNeg) (g.2.2.2.2.2.2 (a3 + (2 : Int32)).toNatClampNeg) (g.2.2.2.2.2.2 (a3 + (3 : Int32)).toNatClampNeg) m61) (Nat.le_of_ble_eq_true rfl) zv_X12_cost rfl cf_X12 (sh77 j r) ml_L_66 (Nat.le_of_ble_eq_true rfl) (q_dm dm_L_law 412 rfl) (fun r62 m63 => ?_)
      refine qr_icmp_eq (tgt := 1182) o (q_dm dm_L_law 413 rfl) (by decide) ?_ ?_
      · refine qs_iincl2 (L' := fun x64 => [some (.inr (some 1000)), some (.inr (some 0)), some (.inr (some 77)), some (.inl x64)]) o (q_dm dm_L_law 896 rfl) rfl ic_7 (Nat.le_of_ble_eq_true rfl) (fun _ => rfl) (fun x64 => ?_)
        refine qr_goto (tgt := 18) o (q_dm dm_L_law 897 rfl) (by decide) ?_
        exact qr_loc (q_leS (q_leS (q_leS (q_leS q_le0)))) (hK18 x64 m63)
      · refine qr_iconst o (q_dm dm_L_law 414 rfl) ic_0 ?_
        exact qr_none
    · refine qr_aload_n o (q_dm dm_L_law 416 rfl) rfl ?_
      refine qr_aload_n o (q_dm dm_L_law 417 rfl) rfl ?_
      refine qr_iload_n o (q_dm dm_L_law 418 rfl) rfl ?_
      refine qr_iconst o (q_dm dm_L_law 419 rfl) ic_1 ?_
      refine qr_iadd o (q_dm dm_L_law 420 rfl) ?_
      refine qr_sald o (q_dm dm_L_law 421 rfl) ?_
      refine qr_aload_n o (q_dm dm_L_law 422 rfl) rfl ?_
      refine qr_iload_n o (q_dm dm_L_law 423 rfl) rfl ?_
      refine qr_iconst o (q_dm dm_L_law 424 rfl) ic_2 ?_
      refine qr_iadd o (q_dm dm_L_law 425 rfl) ?_
      refine qr_sald o (q_dm dm_L_law 426 rfl) ?_
      refine qr_aload_n o (q_dm dm_L_law 427 rfl) rfl ?_
      refine qr_iload_n o (q_dm dm_L_law 428 rfl) rfl ?_
      refine qr_iconst o (q_dm dm_L_law 429 rfl) ic_3 ?_
      refine qr_iadd o (q_dm dm_L_law 430 rfl) ?_
      refine qr_sald o (q_dm dm_L_law 431 rfl) ?_
      refine qr_aload_n o (q_dm dm_L_law 432 rfl) rfl ?_
      refine qr_iload_n o (q_dm dm_L_law 433 rfl) rfl ?_
      refine qr_iconst o (q_dm dm_L_law 434 rfl) ic_4 ?_
      refine qr_iadd o (q_dm dm_L_law 435 rfl) ?_
      refine qr_sald o (q_dm dm_L_law 436 rfl) ?_
      refine qr_aload_n o (q_dm dm_L_law 437 rfl) rfl ?_
      refine qr_iload_n o (q_dm dm_L_law 438 rfl) rfl ?_
      refine qr_iconst o (q_dm dm_L_law 439 rfl) ic_5 ?_
      refine qr_iadd o (q_dm dm_L_law 440 rfl) ?_
      refine qr_sald o (q_dm dm_L_law 441 rfl) ?_
      refine qr_callv_i (As := [.inl (g.2.2.2.2.2.2 (a3 + (1 : Int32)).toNatClampNeg), .inl (g.2.2.2.2.2.2 (a3 + (2 : Int32)).toNatClampNeg), .inl (g.2.2.2.2.2.2 (a3 + (3 : Int32)).toNatClampNeg), .inl (g.2.2.2.2.2.2 (a3 + (4 : Int32)).toNatClampNeg), .inl (g.2.2.2.2.2.2 (a3 + (5 : Int32)).toNatClampNeg)]) (S := []) o (a_X11_soonest g k.2.1 n j r hj hr (g.2.2.2.2.2.2 (a3 + (1 : Int32)).toNatClampNeg) (g.2.2.2.2.2.2 (a3 + (2 : Int32)).toNatClampNeg) (g.2.2.2.2.2.2 (a3 + (3 : Int32)).toNatClampNeg) (g.2.2.2.2.2.2 (a3 + (4 : Int32)).toNatClampNeg) (g.2.2.2.2.2.2 (a3 + (5 : Int32)).toNatClampNeg) M) (Nat.le_of_ble_eq_true rfl) zv_X11_soonest rfl cf_X11 (sh0 j r) ml_L_67 (Nat.le_of_ble_eq_true rfl) (q_dm dm_L_law 442 rfl) (fun r65 m66 => ?_)
      refine qr_aload_n o (q_dm dm_L_law 443 rfl) rfl ?_
      refine qr_aload_n o (q_dm dm_L_law 444 rfl) rfl ?_
      refine qr_iload_n o (q_dm dm_L_law 445 rfl) rfl ?_
      refine qr_iconst o (q_dm dm_L_law 446 rfl) ic_1 ?_
      refine qr_iadd o (q_dm dm_L_law 447 rfl) ?_
      refine qr_sald o (q_dm dm_L_law 448 rfl) ?_
      refine qr_aload_n o (q_dm dm_L_law 449 rfl) rfl ?_
      refine qr_iload_n o (q_dm dm_L_law 450 rfl) rfl ?_
      refine qr_iconst o (q_dm dm_L_law 451 rfl) ic_2 ?_
      refine qr_iadd o (q_dm dm_L_law 452 rfl) ?_
      refine qr_sald o (q_dm dm_L_law 453 rfl) ?_
      refine qr_aload_n o (q_dm dm_L_law 454 rfl) rfl ?_
      refine qr_iload_n o (q_dm dm_L_law 455 rfl) rfl ?_
      refine qr_iconst o (q_dm dm_L_law 456 rfl) ic_3 ?_
      refine qr_iadd o (q_dm dm_L_law 457 rfl) ?_
      refine qr_sald o (q_dm dm_L_law 458 rfl) ?_
      refine qr_aload_n o (q_dm dm_L_law 459 rfl) rfl ?_
      refine qr_iload_n o (q_dm dm_L_law 460 rfl) rfl ?_
      refine qr_iconst o (q_dm dm_L_law 461 rfl) ic_4 ?_
      refine qr_iadd o (q_dm dm_L_law 462 rfl) ?_
      refine qr_sald o (q_dm dm_L_law 463 rfl) ?_
      refine qr_aload_n o (q_dm dm_L_law 464 rfl) rfl ?_
      refine qr_iload_n o (q_dm dm_L_law 465 rfl) rfl ?_
      refine qr_iconst o (q_dm dm_L_law 466 rfl) ic_5 ?_
      refine qr_iadd o (q_dm dm_L_law 467 rfl) ?_
      refine qr_sald o (q_dm dm_L_law 468 rfl) ?_
      refine qr_callv_i (As := [.inl (g.2.2.2.2.2.2 (a3 + (1 : Int32)).toNatClampNeg), .inl (g.2.2.2.2.2.2 (a3 + (2 : Int32)).toNatClampNeg), .inl (g.2.2.2.2.2.2 (a3 + (3 : Int32)).toNatClampNeg), .inl (g.2.2.2.2.2.2 (a3 + (4 : Int32)).toNatClampNeg), .inl (g.2.2.2.2.2.2 (a3 + (5 : Int32)).toNatClampNeg)]) (S := [.inl r65]) o (a_X12_soonest g k.2.1 n j r hj hr (g.2.2.2.2.2.2 (a3 + (1 : Int32)).toNatClampNeg) (g.2.2.2.2.2.2 (a3 + (2 : Int32)).toNatClampNeg) (g.2.2.2.2.2.2 (a3 + (3 : Int32)).toNatClampNeg) (g.2.2.2.2.2.2 (a3 + (4 : Int32)).toNatClampNeg) (g.2.2.2.2.2.2 (a3 + (5 : Int32)).toNatClampNeg) m66) (Nat.le_of_ble_eq_true rfl) zv_X12_soonest rfl cf_X12 (sh77 j r) ml_L_70 (Nat.le_of_ble_eq_true rfl) (q_dm dm_L_law 469 rfl) (fun r67 m68 => ?_)
      refine qr_icmp_eq (tgt := 1182) o (q_dm dm_L_law 470 rfl) (by decide) ?_ ?_
      · refine qs_iincl2 (L' := fun x69 => [some (.inr (some 1000)), some (.inr (some 0)), some (.inr (some 77)), some (.inl x69)]) o (q_dm dm_L_law 896 rfl) rfl ic_7 (Nat.le_of_ble_eq_true rfl) (fun _ => rfl) (fun x69 => ?_)
        refine qr_goto (tgt := 18) o (q_dm dm_L_law 897 rfl) (by decide) ?_
        exact qr_loc (q_leS (q_leS (q_leS (q_leS q_le0)))) (hK18 x69 m68)
      · refine qr_iconst o (q_dm dm_L_law 471 rfl) ic_0 ?_
        exact qr_none
    · refine qr_aload_n o (q_dm dm_L_law 473 rfl) rfl ?_
      refine qr_aload_n o (q_dm dm_L_law 474 rfl) rfl ?_
      refine qr_iload_n o (q_dm dm_L_law 475 rfl) rfl ?_
      refine qr_iconst o (q_dm dm_L_law 476 rfl) ic_1 ?_
      refine qr_iadd o (q_dm dm_L_law 477 rfl) ?_
      refine qr_sald o (q_dm dm_L_law 478 rfl) ?_
      refine qr_aload_n o (q_dm dm_L_law 479 rfl) rfl ?_
      refine qr_iload_n o (q_dm dm_L_law 480 rfl) rfl ?_
      refine qr_iconst o (q_dm dm_L_law 481 rfl) ic_2 ?_
      refine qr_iadd o (q_dm dm_L_law 482 rfl) ?_
      refine qr_sald o (q_dm dm_L_law 483 rfl) ?_
      refine qr_aload_n o (q_dm dm_L_law 484 rfl) rfl ?_
      refine qr_iload_n o (q_dm dm_L_law 485 rfl) rfl ?_
      refine qr_iconst o (q_dm dm_L_law 486 rfl) ic_3 ?_
      refine qr_iadd o (q_dm dm_L_law 487 rfl) ?_
      refine qr_sald o (q_dm dm_L_law 488 rfl) ?_
      refine qr_aload_n o (q_dm dm_L_law 489 rfl) rfl ?_
      refine qr_iload_n o (q_dm dm_L_law 490 rfl) rfl ?_
      refine qr_iconst o (q_dm dm_L_law 491 rfl) ic_4 ?_
      refine qr_iadd o (q_dm dm_L_law 492 rfl) ?_
      refine qr_sald o (q_dm dm_L_law 493 rfl) ?_
      refine qr_aload_n o (q_dm dm_L_law 494 rfl) rfl ?_
      refine qr_iload_n o (q_dm dm_L_law 495 rfl) rfl ?_
      refine qr_iconst o (q_dm dm_L_law 496 rfl) ic_5 ?_
      refine qr_iadd o (q_dm dm_L_law 497 rfl) ?_
      refine qr_sald o (q_dm dm_L_law 498 rfl) ?_
      refine qr_callv_i (As := [.inl (g.2.2.2.2.2.2 (a3 + (1 : Int32)).toNatClampNeg), .inl (g.2.2.2.2.2.2 (a3 + (2 : Int32)).toNatClampNeg), .inl (g.2.2.2.2.2.2 (a3 + (3 : Int32)).toNatClampNeg), .inl (g.2.2.2.2.2.2 (a3 + (4 : Int32)).toNatClampNeg), .inl (g.2.2.2.2.2.2 (a3 + (5 : Int32)).toNatClampNeg)]) (S := []) o (a_X11_cheapest g k.2.1 n j r hj hr (g.2.2.2.2.2.2 (a3 + (1 : Int32)).toNatClampNeg) (g.2.2.2.2.2.2 (a3 + (2 : Int32)).toNatClampNeg) (g.2.2.2.2.2.2 (a3 + (3 : Int32)).toNatClampNeg) (g.2.2.2.2.2.2 (a3 + (4 : Int32)).toNatClampNeg) (g.2.2.2.2.2.2 (a3 + (5 : Int32)).toNatClampNeg) M) (Nat.le_of_ble_eq_true rfl) zv_X11_cheapest rfl cf_X11 (sh0 j r) ml_L_71 (Nat.le_of_ble_eq_true rfl) (q_dm dm_L_law 499 rfl) (fun r70 m71 => ?_)
      refine qr_aload_n o (q_dm dm_L_law 500 rfl) rfl ?_
      refine qr_aload_n o (q_dm dm_L_law 501 rfl) rfl ?_
      refine qr_iload_n o (q_dm dm_L_law 502 rfl) rfl ?_
      refine qr_iconst o (q_dm dm_L_law 503 rfl) ic_1 ?_
      refine qr_iadd o (q_dm dm_L_law 504 rfl) ?_
      refine qr_sald o (q_dm dm_L_law 505 rfl) ?_
      refine qr_aload_n o (q_dm dm_L_law 506 rfl) rfl ?_
      refine qr_iload_n o (q_dm dm_L_law 507 rfl) rfl ?_
      refine qr_iconst o (q_dm dm_L_law 508 rfl) ic_2 ?_
      refine qr_iadd o (q_dm dm_L_law 509 rfl) ?_
      refine qr_sald o (q_dm dm_L_law 510 rfl) ?_
      refine qr_aload_n o (q_dm dm_L_law 511 rfl) rfl ?_
      refine qr_iload_n o (q_dm dm_L_law 512 rfl) rfl ?_
      refine qr_iconst o (q_dm dm_L_law 513 rfl) ic_3 ?_
      refine qr_iadd o (q_dm dm_L_law 514 rfl) ?_
      refine qr_sald o (q_dm dm_L_law 515 rfl) ?_
      refine qr_aload_n o (q_dm dm_L_law 516 rfl) rfl ?_
      refine qr_iload_n o (q_dm dm_L_law 517 rfl) rfl ?_
      refine qr_iconst o (q_dm dm_L_law 518 rfl) ic_4 ?_
      refine qr_iadd o (q_dm dm_L_law 519 rfl) ?_
      refine qr_sald o (q_dm dm_L_law 520 rfl) ?_
      refine qr_aload_n o (q_dm dm_L_law 521 rfl) rfl ?_
      refine qr_iload_n o (q_dm dm_L_law 522 rfl) rfl ?_
      refine qr_iconst o (q_dm dm_L_law 523 rfl) ic_5 ?_
      refine qr_iadd o (q_dm dm_L_law 524 rfl) ?_
      refine qr_sald o (q_dm dm_L_law 525 rfl) ?_
      refine qr_callv_i (As := [.inl (g.2.2.2.2.2.2 (a3 + (1 : Int32)).toNatClampNeg), .inl (g.2.2.2.2.2.2 (a3 + (2 : Int32)).toNatClampNeg), .inl (g.2.2.2.2.2.2 (a3 + (3 : Int32)).toNatClampNeg), .inl (g.2.2.2.2.2.2 (a3 + (4 : Int32)).toNatClampNeg), .inl (g.2.2.2.2.2.2 (a3 + (5 : Int32)).toNatClampNeg)]) (S := [.inl r70]) o (a_X12_cheapest g k.2.1 n j r hj hr (g.2.2.2.2.2.2 (a3 + (1 : Int32)).toNatClampNeg) (g.2.2.2.2.2.2 (a3 + (2 : Int32)).toNatClampNeg) (g.2.2.2.2.2.2 (a3 + (3 : Int32)).toNatClampNeg) (g.2.2.2.2.2.2 (a3 + (4 : Int32)).toNatClampNeg) (g.2.2.2.2.2.2 (a3 + (5 : Int32)).toNatClampNeg) m71) (Nat.le_of_ble_eq_true rfl) zv_X12_cheapest rfl cf_X12 (sh77 j r) ml_L_74 (Nat.le_of_ble_eq_true rfl) (q_dm dm_L_law 526 rfl) (fun r72 m73 => ?_)
      refine qr_icmp_eq (tgt := 1182) o (q_dm dm_L_law 527 rfl) (by decide) ?_ ?_
      · refine qs_iincl2 (L' := fun x74 => [some (.inr (some 1000)), some (.inr (some 0)), some (.inr (some 77)), some (.inl x74)]) o (q_dm dm_L_law 896 rfl) rfl ic_7 (Nat.le_of_ble_eq_true rfl) (fun _ => rfl) (fun x74 => ?_)
        refine qr_goto (tgt := 18) o (q_dm dm_L_law 897 rfl) (by decide) ?_
        exact qr_loc (q_leS (q_leS (q_leS (q_leS q_le0)))) (hK18 x74 m73)
      · refine qr_iconst o (q_dm dm_L_law 528 rfl) ic_0 ?_
        exact qr_none
    · refine qr_aload_n o (q_dm dm_L_law 530 rfl) rfl ?_
      refine qr_aload_n o (q_dm dm_L_law 531 rfl) rfl ?_
      refine qr_iload_n o (q_dm dm_L_law 532 rfl) rfl ?_
      refine qr_iconst o (q_dm dm_L_law 533 rfl) ic_1 ?_
      refine qr_iadd o (q_dm dm_L_law 534 rfl) ?_
      refine qr_sald o (q_dm dm_L_law 535 rfl) ?_
      refine qr_aload_n o (q_dm dm_L_law 536 rfl) rfl ?_
      refine qr_iload_n o (q_dm dm_L_law 537 rfl) rfl ?_
      refine qr_iconst o (q_dm dm_L_law 538 rfl) ic_2 ?_
      refine qr_iadd o (q_dm dm_L_law 539 rfl) ?_
      refine qr_sald o (q_dm dm_L_law 540 rfl) ?_
      refine qr_aload_n o (q_dm dm_L_law 541 rfl) rfl ?_
      refine qr_iload_n o (q_dm dm_L_law 542 rfl) rfl ?_
      refine qr_iconst o (q_dm dm_L_law 543 rfl) ic_3 ?_
      refine qr_iadd o (q_dm dm_L_law 544 rfl) ?_
      refine qr_sald o (q_dm dm_L_law 545 rfl) ?_
      refine qr_callv_i (As := [.inl (g.2.2.2.2.2.2 (a3 + (1 : Int32)).toNatClampNeg), .inl (g.2.2.2.2.2.2 (a3 + (2 : Int32)).toNatClampNeg), .inl (g.2.2.2.2.2.2 (a3 + (3 : Int32)).toNatClampNeg)]) (S := []) o (a_X11_loophole g k.2.1 n j r hj hr (g.2.2.2.2.2.2 (a3 + (1 : Int32)).toNatClampNeg) (g.2.2.2.2.2.2 (a3 + (2 : Int32)).toNatClampNeg) (g.2.2.2.2.2.2 (a3 + (3 : Int32)).toNatClampNeg) M) (Nat.le_of_ble_eq_true rfl) zv_X11_loophole rfl cf_X11 (sh0 j r) ml_L_75 (Nat.le_of_ble_eq_true rfl) (q_dm dm_L_law 546 rfl) (fun r75 m76 => ?_)
      refine qr_aload_n o (q_dm dm_L_law 547 rfl) rfl ?_
      refine qr_aload_n o (q_dm dm_L_law 548 rfl) rfl ?_
      refine qr_iload_n o (q_dm dm_L_law 549 rfl) rfl ?_
      refine qr_iconst o (q_dm dm_L_law 550 rfl) ic_1 ?_
      refine qr_iadd o (q_dm dm_L_law 551 rfl) ?_
      refine qr_sald o (q_dm dm_L_law 552 rfl) ?_
      refine qr_aload_n o (q_dm dm_L_law 553 rfl) rfl ?_
      refine qr_iload_n o (q_dm dm_L_law 554 rfl) rfl ?_
      refine qr_iconst o (q_dm dm_L_law 555 rfl) ic_2 ?_
      refine qr_iadd o (q_dm dm_L_law 556 rfl) ?_
      refine qr_sald o (q_dm dm_L_law 557 rfl) ?_
      refine qr_aload_n o (q_dm dm_L_law 558 rfl) rfl ?_
      refine qr_iload_n o (q_dm dm_L_law 559 rfl) rfl ?_
      refine qr_iconst o (q_dm dm_L_law 560 rfl) ic_3 ?_
      refine qr_iadd o (q_dm dm_L_law 561 rfl) ?_
      refine qr_sald o (q_dm dm_L_law 562 rfl) ?_
      refine qr_callv_i (As := [.inl (g.2.2.2.2.2.2 (a3 + (1 : Int32)).toNatClampNeg), .inl (g.2.2.2.2.2.2 (a3 + (2 : Int32)).toNatClampNeg), .inl (g.2.2.2.2.2.2 (a3 + (3 : Int32)).toNatClampNeg)]) (S := [.inl r75]) o (a_X12_loophole g k.2.1 n j r hj hr (g.2.2.2.2.2.2 (a3 + (1 : Int32)).toNatClampNeg) (g.2.2.2.2.2.2 (a3 + (2 : Int32)).toNatClampNeg) (g.2.2.2.2.2.2 (a3 + (3 : Int32)).toNatClampNeg) m76) (Nat.le_of_ble_eq_true rfl) zv_X12_loophole rfl cf_X12 (sh77 j r) ml_L_78 (Nat.le_of_ble_eq_true rfl) (q_dm dm_L_law 563 rfl) (fun r77 m78 => ?_)
      refine qr_icmp_eq (tgt := 1182) o (q_dm dm_L_law 564 rfl) (by decide) ?_ ?_
      · refine qs_iincl2 (L' := fun x79 => [some (.inr (some 1000)), some (.inr (some 0)), some (.inr (some 77)), some (.inl x79)]) o (q_dm dm_L_law 896 rfl) rfl ic_7 (Nat.le_of_ble_eq_true rfl) (fun _ => rfl) (fun x79 => ?_)
        refine qr_goto (tgt := 18) o (q_dm dm_L_law 897 rfl) (by decide) ?_
        exact qr_loc (q_leS (q_leS (q_leS (q_leS q_le0)))) (hK18 x79 m78)
      · refine qr_iconst o (q_dm dm_L_law 565 rfl) ic_0 ?_
        exact qr_none
    · refine qr_aload_n o (q_dm dm_L_law 567 rfl) rfl ?_
      refine qr_aload_n o (q_dm dm_L_law 568 rfl) rfl ?_
      refine qr_iload_n o (q_dm dm_L_law 569 rfl) rfl ?_
      refine qr_iconst o (q_dm dm_L_law 570 rfl) ic_1 ?_
      refine qr_iadd o (q_dm dm_L_law 571 rfl) ?_
      refine qr_sald o (q_dm dm_L_law 572 rfl) ?_
      refine qr_aload_n o (q_dm dm_L_law 573 rfl) rfl ?_
      refine qr_iload_n o (q_dm dm_L_law 574 rfl) rfl ?_
      refine qr_iconst o (q_dm dm_L_law 575 rfl) ic_2 ?_
      refine qr_iadd o (q_dm dm_L_law 576 rfl) ?_
      refine qr_sald o (q_dm dm_L_law 577 rfl) ?_
      refine qr_aload_n o (q_dm dm_L_law 578 rfl) rfl ?_
      refine qr_iload_n o (q_dm dm_L_law 579 rfl) rfl ?_
      refine qr_iconst o (q_dm dm_L_law 580 rfl) ic_3 ?_
      refine qr_iadd o (q_dm dm_L_law 581 rfl) ?_
      refine qr_sald o (q_dm dm_L_law 582 rfl) ?_
      refine qr_callv_i (As := [.inl (g.2.2.2.2.2.2 (a3 + (1 : Int32)).toNatClampNeg), .inl (g.2.2.2.2.2.2 (a3 + (2 : Int32)).toNatClampNeg), .inl (g.2.2.2.2.2.2 (a3 + (3 : Int32)).toNatClampNeg)]) (S := []) o (a_X11_jobs g k.2.1 n j r hj hr (g.2.2.2.2.2.2 (a3 + (1 : Int32)).toNatClampNeg) (g.2.2.2.2.2.2 (a3 + (2 : Int32)).toNatClampNeg) (g.2.2.2.2.2.2 (a3 + (3 : Int32)).toNatClampNeg) M) (Nat.le_of_ble_eq_true rfl) zv_X11_jobs rfl cf_X11 (sh0 j r) ml_L_79 (Nat.le_of_ble_eq_true rfl) (q_dm dm_L_law 583 rfl) (fun r80 m81 => ?_)
      refine qr_aload_n o (q_dm dm_L_law 584 rfl) rfl ?_
      refine qr_aload_n o (q_dm dm_L_law 585 rfl) rfl ?_
      refine qr_iload_n o (q_dm dm_L_law 586 rfl) rfl ?_
      refine qr_iconst o (q_dm dm_L_law 587 rfl) ic_1 ?_
      refine qr_iadd o (q_dm dm_L_law 588 rfl) ?_
      refine qr_sald o (q_dm dm_L_law 589 rfl) ?_
      refine qr_aload_n o (q_dm dm_L_law 590 rfl) rfl ?_
      refine qr_iload_n o (q_dm dm_L_law 591 rfl) rfl ?_
      refine qr_iconst o (q_dm dm_L_law 592 rfl) ic_2 ?_
      refine qr_iadd o (q_dm dm_L_law 593 rfl) ?_
      refine qr_sald o (q_dm dm_L_law 594 rfl) ?_
      refine qr_aload_n o (q_dm dm_L_law 595 rfl) rfl ?_
      refine qr_iload_n o (q_dm dm_L_law 596 rfl) rfl ?_
      refine qr_iconst o (q_dm dm_L_law 597 rfl) ic_3 ?_
      refine qr_iadd o (q_dm dm_L_law 598 rfl) ?_
      refine qr_sald o (q_dm dm_L_law 599 rfl) ?_
      refine qr_callv_i (As := [.inl (g.2.2.2.2.2.2 (a3 + (1 : Int32)).toNatClampNeg), .inl (g.2.2.2.2.2.2 (a3 + (2 : Int32)).toNatClampNeg), .inl (g.2.2.2.2.2.2 (a3 + (3 : Int32)).toNatClampNeg)]) (S := [.inl r80]) o (a_X12_jobs g k.2.1 n j r hj hr (g.2.2.2.2.2.2 (a3 + (1 : Int32)).toNatClampNeg) (g.2.2.2.2.2.2 (a3 + (2 : Int32)).toNatClampNeg) (g.2.2.2.2.2.2 (a3 + (3 : Int32)).toNatClampNeg) m81) (Nat.le_of_ble_eq_true rfl) zv_X12_jobs rfl cf_X12 (sh77 j r) ml_L_82 (Nat.le_of_ble_eq_true rfl) (q_dm dm_L_law 600 rfl) (fun r82 m83 => ?_)
      refine qr_icmp_eq (tgt := 1182) o (q_dm dm_L_law 601 rfl) (by decide) ?_ ?_
      · refine qs_iincl2 (L' := fun x84 => [some (.inr (some 1000)), some (.inr (some 0)), some (.inr (some 77)), some (.inl x84)]) o (q_dm dm_L_law 896 rfl) rfl ic_7 (Nat.le_of_ble_eq_true rfl) (fun _ => rfl) (fun x84 => ?_)
        refine qr_goto (tgt := 18) o (q_dm dm_L_law 897 rfl) (by decide) ?_
        exact qr_loc (q_leS (q_leS (q_leS (q_leS q_le0)))) (hK18 x84 m83)
      · refine qr_iconst o (q_dm dm_L_law 602 rfl) ic_0 ?_
        exact qr_none
    · refine qr_aload_n o (q_dm dm_L_law 604 rfl) rfl ?_
      refine qr_aload_n o (q_dm dm_L_law 605 rfl) rfl ?_
      refine qr_iload_n o (q_dm dm_L_law 606 rfl) rfl ?_
      refine qr_iconst o (q_dm dm_L_law 607 rfl) ic_1 ?_
      refine qr_iadd o (q_dm dm_L_law 608 rfl) ?_
      refine qr_sald o (q_dm dm_L_law 609 rfl) ?_
      refine qr_aload_n o (q_dm dm_L_law 610 rfl) rfl ?_
      refine qr_iload_n o (q_dm dm_L_law 611 rfl) rfl ?_
      refine qr_iconst o (q_dm dm_L_law 612 rfl) ic_2 ?_
      refine qr_iadd o (q_dm dm_L_law 613 rfl) ?_
      refine qr_sald o (q_dm dm_L_law 614 rfl) ?_
      refine qr_aload_n o (q_dm dm_L_law 615 rfl) rfl ?_
      refine qr_iload_n o (q_dm dm_L_law 616 rfl) rfl ?_
      refine qr_iconst o (q_dm dm_L_law 617 rfl) ic_3 ?_
      refine qr_iadd o (q_dm dm_L_law 618 rfl) ?_
      refine qr_sald o (q_dm dm_L_law 619 rfl) ?_
      refine qr_callv_i (As := [.inl (g.2.2.2.2.2.2 (a3 + (1 : Int32)).toNatClampNeg), .inl (g.2.2.2.2.2.2 (a3 + (2 : Int32)).toNatClampNeg), .inl (g.2.2.2.2.2.2 (a3 + (3 : Int32)).toNatClampNeg)]) (S := []) o (a_X11_rivals g k.2.1 n j r hj hr (g.2.2.2.2.2.2 (a3 + (1 : Int32)).toNatClampNeg) (g.2.2.2.2.2.2 (a3 + (2 : Int32)).toNatClampNeg) (g.2.2.2.2.2.2 (a3 + (3 : Int32)).toNatClampNeg) M) (Nat.le_of_ble_eq_true rfl) zv_X11_rivals rfl cf_X11 (sh0 j r) ml_L_83 (Nat.le_of_ble_eq_true rfl) (q_dm dm_L_law 620 rfl) (fun r85 m86 => ?_)
      refine qr_aload_n o (q_dm dm_L_law 621 rfl) rfl ?_
      refine qr_aload_n o (q_dm dm_L_law 622 rfl) rfl ?_
      refine qr_iload_n o (q_dm dm_L_law 623 rfl) rfl ?_
      refine qr_iconst o (q_dm dm_L_law 624 rfl) ic_1 ?_
      refine qr_iadd o (q_dm dm_L_law 625 rfl) ?_
      refine qr_sald o (q_dm dm_L_law 626 rfl) ?_
      refine qr_aload_n o (q_dm dm_L_law 627 rfl) rfl ?_
      refine qr_iload_n o (q_dm dm_L_law 628 rfl) rfl ?_
      refine qr_iconst o (q_dm dm_L_law 629 rfl) ic_2 ?_
      refine qr_iadd o (q_dm dm_L_law 630 rfl) ?_
      refine qr_sald o (q_dm dm_L_law 631 rfl) ?_
      refine qr_aload_n o (q_dm dm_L_law 632 rfl) rfl ?_
      refine qr_iload_n o (q_dm dm_L_law 633 rfl) rfl ?_
      refine qr_iconst o (q_dm dm_L_law 634 rfl) ic_3 ?_
      refine qr_iadd o (q_dm dm_L_law 635 rfl) ?_
      refine qr_sald o (q_dm dm_L_law 636 rfl) ?_
      refine qr_callv_i (As := [.inl (g.2.2.2.2.2.2 (a3 + (1 : Int32)).toNatClampNeg), .inl (g.2.2.2.2.2.2 (a3 + (2 : Int32)).toNatClampNeg), .inl (g.2.2.2.2.2.2 (a3 + (3 : Int32)).toNatClampNeg)]) (S := [.inl r85]) o (a_X12_rivals g k.2.1 n j r hj hr (g.2.2.2.2.2.2 (a3 + (1 : Int32)).toNatClampNeg) (g.2.2.2.2.2.2 (a3 + (2 : Int32)).toNatClampNeg) (g.2.2.2.2.2.2 (a3 + (3 : Int32)).toNatClampNeg) m86) (Nat.le_of_ble_eq_true rfl) zv_X12_rivals rfl cf_X12 (sh77 j r) ml_L_86 (Nat.le_of_ble_eq_true rfl) (q_dm dm_L_law 637 rfl) (fun r87 m88 => ?_)
      refine qr_icmp_eq (tgt := 1182) o (q_dm dm_L_law 638 rfl) (by decide) ?_ ?_
      · refine qs_iincl2 (L' := fun x89 => [some (.inr (some 1000)), some (.inr (some 0)), some (.inr (some 77)), some (.inl x89)]) o (q_dm dm_L_law 896 rfl) rfl ic_7 (Nat.le_of_ble_eq_true rfl) (fun _ => rfl) (fun x89 => ?_)
        refine qr_goto (tgt := 18) o (q_dm dm_L_law 897 rfl) (by decide) ?_
        exact qr_loc (q_leS (q_leS (q_leS (q_leS q_le0)))) (hK18 x89 m88)
      · refine qr_iconst o (q_dm dm_L_law 639 rfl) ic_0 ?_
        exact qr_none
    · refine qr_aload_n o (q_dm dm_L_law 641 rfl) rfl ?_
      refine qr_aload_n o (q_dm dm_L_law 642 rfl) rfl ?_
      refine qr_iload_n o (q_dm dm_L_law 643 rfl) rfl ?_
      refine qr_iconst o (q_dm dm_L_law 644 rfl) ic_1 ?_
      refine qr_iadd o (q_dm dm_L_law 645 rfl) ?_
      refine qr_sald o (q_dm dm_L_law 646 rfl) ?_
      refine qr_aload_n o (q_dm dm_L_law 647 rfl) rfl ?_
      refine qr_iload_n o (q_dm dm_L_law 648 rfl) rfl ?_
      refine qr_iconst o (q_dm dm_L_law 649 rfl) ic_2 ?_
      refine qr_iadd o (q_dm dm_L_law 650 rfl) ?_
      refine qr_sald o (q_dm dm_L_law 651 rfl) ?_
      refine qr_aload_n o (q_dm dm_L_law 652 rfl) rfl ?_
      refine qr_iload_n o (q_dm dm_L_law 653 rfl) rfl ?_
      refine qr_iconst o (q_dm dm_L_law 654 rfl) ic_3 ?_
      refine qr_iadd o (q_dm dm_L_law 655 rfl) ?_
      refine qr_sald o (q_dm dm_L_law 656 rfl) ?_
      refine qr_aload_n o (q_dm dm_L_law 657 rfl) rfl ?_
      refine qr_iload_n o (q_dm dm_L_law 658 rfl) rfl ?_
      refine qr_iconst o (q_dm dm_L_law 659 rfl) ic_4 ?_
      refine qr_iadd o (q_dm dm_L_law 660 rfl) ?_
      refine qr_sald o (q_dm dm_L_law 661 rfl) ?_
      refine qr_callv_i (As := [.inl (g.2.2.2.2.2.2 (a3 + (1 : Int32)).toNatClampNeg), .inl (g.2.2.2.2.2.2 (a3 + (2 : Int32)).toNatClampNeg), .inl (g.2.2.2.2.2.2 (a3 + (3 : Int32)).toNatClampNeg), .inl (g.2.2.2.2.2.2 (a3 + (4 : Int32)).toNatClampNeg)]) (S := []) o (a_X11_histories g k.2.1 n j r hj hr (g.2.2.2.2.2.2 (a3 + (1 : Int32)).toNatClampNeg) (g.2.2.2.2.2.2 (a3 + (2 : Int32)).toNatClampNeg) (g.2.2.2.2.2.2 (a3 + (3 : Int32)).toNatClampNeg) (g.2.2.2.2.2.2 (a3 + (4 : Int32)).toNatClampNeg) M) (Nat.le_of_ble_eq_true rfl) zv_X11_histories rfl cf_X11 (sh0 j r) ml_L_87 (Nat.le_of_ble_eq_true rfl) (q_dm dm_L_law 662 rfl) (fun r90 m91 => ?_)
      refine qr_aload_n o (q_dm dm_L_law 663 rfl) rfl ?_
      refine qr_aload_n o (q_dm dm_L_law 664 rfl) rfl ?_
      refine qr_iload_n o (q_dm dm_L_law 665 rfl) rfl ?_
      refine qr_iconst o (q_dm dm_L_law 666 rfl) ic_1 ?_
      refine qr_iadd o (q_dm dm_L_law 667 rfl) ?_
      refine qr_sald o (q_dm dm_L_law 668 rfl) ?_
      refine qr_aload_n o (q_dm dm_L_law 669 rfl) rfl ?_
      refine qr_iload_n o (q_dm dm_L_law 670 rfl) rfl ?_
      refine qr_iconst o (q_dm dm_L_law 671 rfl) ic_2 ?_
      refine qr_iadd o (q_dm dm_L_law 672 rfl) ?_
      refine qr_sald o (q_dm dm_L_law 673 rfl) ?_
      refine qr_aload_n o (q_dm dm_L_law 674 rfl) rfl ?_
      refine qr_iload_n o (q_dm dm_L_law 675 rfl) rfl ?_
      refine qr_iconst o (q_dm dm_L_law 676 rfl) ic_3 ?_
      refine qr_iadd o (q_dm dm_L_law 677 rfl) ?_
      refine qr_sald o (q_dm dm_L_law 678 rfl) ?_
      refine qr_aload_n o (q_dm dm_L_law 679 rfl) rfl ?_
      refine qr_iload_n o (q_dm dm_L_law 680 rfl) rfl ?_
      refine qr_iconst o (q_dm dm_L_law 681 rfl) ic_4 ?_
      refine qr_iadd o (q_dm dm_L_law 682 rfl) ?_
      refine qr_sald o (q_dm dm_L_law 683 rfl) ?_
      refine qr_callv_i (As := [.inl (g.2.2.2.2.2.2 (a3 + (1 : Int32)).toNatClampNeg), .inl (g.2.2.2.2.2.2 (a3 + (2 : Int32)).toNatClampNeg), .inl (g.2.2.2.2.2.2 (a3 + (3 : Int32)).toNatClampNeg), .inl (g.2.2.2.2.2.2 (a3 + (4 : Int32)).toNatClampNeg)]) (S := [.inl r90]) o (a_X12_histories g k.2.1 n j r hj hr (g.2.2.2.2.2.2 (a3 + (1 : Int32)).toNatClampNeg) (g.2.2.2.2.2.2 (a3 + (2 : Int32)).toNatClampNeg) (g.2.2.2.2.2.2 (a3 + (3 : Int32)).toNatClampNeg) (g.2.2.2.2.2.2 (a3 + (4 : Int32)).toNatClampNeg) m91) (Nat.le_of_ble_eq_true rfl) zv_X12_histories rfl cf_X12 (sh77 j r) ml_L_91 (Nat.le_of_ble_eq_true rfl) (q_dm dm_L_law 684 rfl) (fun r92 m93 => ?_)
      refine qr_icmp_eq (tgt := 1182) o (q_dm dm_L_law 685 rfl) (by decide) ?_ ?_
      · refine qs_iincl2 (L' := fun x94 => [some (.inr (some 1000)), some (.inr (some 0)), some (.inr (some 77)), some (.inl x94)]) o (q_dm dm_L_law 896 rfl) rfl ic_7 (Nat.le_of_ble_eq_true rfl) (fun _ => rfl) (fun x94 => ?_)
        refine qr_goto (tgt := 18) o (q_dm dm_L_law 897 rfl) (by decide) ?_
        exact qr_loc (q_leS (q_leS (q_leS (q_leS q_le0)))) (hK18 x94 m93)
      · refine qr_iconst o (q_dm dm_L_law 686 rfl) ic_0 ?_
        exact qr_none
    · refine qr_aload_n o (q_dm dm_L_law 688 rfl) rfl ?_
      refine qr_aload_n o (q_dm dm_L_law 689 rfl) rfl ?_
      refine qr_iload_n o (q_dm dm_L_law 690 rfl) rfl ?_
      refine qr_iconst o (q_dm dm_L_law 691 rfl) ic_1 ?_
      refine qr_iadd o (q_dm dm_L_law 692 rfl) ?_
      refine qr_sald o (q_dm dm_L_law 693 rfl) ?_
      refine qr_aload_n o (q_dm dm_L_law 694 rfl) rfl ?_
      refine qr_iload_n o (q_dm dm_L_law 695 rfl) rfl ?_
      refine qr_iconst o (q_dm dm_L_law 696 rfl) ic_2 ?_
      refine qr_iadd o (q_dm dm_L_law 697 rfl) ?_
      refine qr_sald o (q_dm dm_L_law 698 rfl) ?_
      refine qr_aload_n o (q_dm dm_L_law 699 rfl) rfl ?_
      refine qr_iload_n o (q_dm dm_L_law 700 rfl) rfl ?_
      refine qr_iconst o (q_dm dm_L_law 701 rfl) ic_3 ?_
      refine qr_iadd o (q_dm dm_L_law 702 rfl) ?_
      refine qr_sald o (q_dm dm_L_law 703 rfl) ?_
      refine qr_aload_n o (q_dm dm_L_law 704 rfl) rfl ?_
      refine qr_iload_n o (q_dm dm_L_law 705 rfl) rfl ?_
      refine qr_iconst o (q_dm dm_L_law 706 rfl) ic_4 ?_
      refine qr_iadd o (q_dm dm_L_law 707 rfl) ?_
      refine qr_sald o (q_dm dm_L_law 708 rfl) ?_
      refine qr_if_eq (tgt := 946) o (q_dm dm_L_law 709 rfl) (by decide) ?_ ?_
      · refine qr_iconst o (q_dm dm_L_law 712 rfl) ic_0 ?_
        refine qr_aload_n o (q_dm dm_L_law 713 rfl) rfl ?_
        refine qr_iload_n o (q_dm dm_L_law 714 rfl) rfl ?_
        refine qr_iconst o (q_dm dm_L_law 715 rfl) ic_5 ?_
        refine qr_iadd o (q_dm dm_L_law 716 rfl) ?_
        refine qr_sald o (q_dm dm_L_law 717 rfl) ?_
        refine qr_if_eq (tgt := 959) o (q_dm dm_L_law 718 rfl) (by decide) ?_ ?_
        · refine qr_iconst o (q_dm dm_L_law 721 rfl) ic_0 ?_
          refine qr_aload_n o (q_dm dm_L_law 722 rfl) rfl ?_
          refine qr_iload_n o (q_dm dm_L_law 723 rfl) rfl ?_
          refine qr_bipush o (q_dm dm_L_law 724 rfl) bi_6 ?_
          refine qr_iadd o (q_dm dm_L_law 725 rfl) ?_
          refine qr_sald o (q_dm dm_L_law 726 rfl) ?_
          refine qr_callv_i (As := [.inl (g.2.2.2.2.2.2 (a3 + (1 : Int32)).toNatClampNeg), .inl (g.2.2.2.2.2.2 (a3 + (2 : Int32)).toNatClampNeg), .inl (g.2.2.2.2.2.2 (a3 + (3 : Int32)).toNatClampNeg), .inl (0 : Int32), .inl (0 : Int32), .inl (g.2.2.2.2.2.2 (a3 + (6 : Int32)).toNatClampNeg)]) (S := []) o (a_X11_game g k.2.1 n j r hj hr (g.2.2.2.2.2.2 (a3 + (1 : Int32)).toNatClampNeg) (g.2.2.2.2.2.2 (a3 + (2 : Int32)).toNatClampNeg) (g.2.2.2.2.2.2 (a3 + (3 : Int32)).toNatClampNeg) (0 : Int32) (0 : Int32) (g.2.2.2.2.2.2 (a3 + (6 : Int32)).toNatClampNeg) M) (Nat.le_of_ble_eq_true rfl) zv_X11_game rfl cf_X11 (sh0 j r) ml_L_92 (Nat.le_of_ble_eq_true rfl) (q_dm dm_L_law 727 rfl) (fun r95 m96 => ?_)
          refine qr_aload_n o (q_dm dm_L_law 728 rfl) rfl ?_
          refine qr_aload_n o (q_dm dm_L_law 729 rfl) rfl ?_
          refine qr_iload_n o (q_dm dm_L_law 730 rfl) rfl ?_
          refine qr_iconst o (q_dm dm_L_law 731 rfl) ic_1 ?_
          refine qr_iadd o (q_dm dm_L_law 732 rfl) ?_
          refine qr_sald o (q_dm dm_L_law 733 rfl) ?_
          refine qr_aload_n o (q_dm dm_L_law 734 rfl) rfl ?_
          refine qr_iload_n o (q_dm dm_L_law 735 rfl) rfl ?_
          refine qr_iconst o (q_dm dm_L_law 736 rfl) ic_2 ?_
          refine qr_iadd o (q_dm dm_L_law 737 rfl) ?_
          refine qr_sald o (q_dm dm_L_law 738 rfl) ?_
          refine qr_aload_n o (q_dm dm_L_law 739 rfl) rfl ?_
          refine qr_iload_n o (q_dm dm_L_law 740 rfl) rfl ?_
          refine qr_iconst o (q_dm dm_L_law 741 rfl) ic_3 ?_
          refine qr_iadd o (q_dm dm_L_law 742 rfl) ?_
          refine qr_sald o (q_dm dm_L_law 743 rfl) ?_
          refine qr_aload_n o (q_dm dm_L_law 744 rfl) rfl ?_
          refine qr_iload_n o (q_dm dm_L_law 745 rfl) rfl ?_
          refine qr_iconst o (q_dm dm_L_law 746 rfl) ic_4 ?_
          refine qr_iadd o (q_dm dm_L_law 747 rfl) ?_
          refine qr_sald o (q_dm dm_L_law 748 rfl) ?_
          refine qr_if_eq (tgt := 997) o (q_dm dm_L_law 749 rfl) (by decide) ?_ ?_
          · refine qr_iconst o (q_dm dm_L_law 752 rfl) ic_0 ?_
            refine qr_aload_n o (q_dm dm_L_law 753 rfl) rfl ?_
            refine qr_iload_n o (q_dm dm_L_law 754 rfl) rfl ?_
            refine qr_iconst o (q_dm dm_L_law 755 rfl) ic_5 ?_
            refine qr_iadd o (q_dm dm_L_law 756 rfl) ?_
            refine qr_sald o (q_dm dm_L_law 757 rfl) ?_
            refine qr_if_eq (tgt := 1010) o (q_dm dm_L_law 758 rfl) (by decide) ?_ ?_
            · refine qr_iconst o (q_dm dm_L_law 761 rfl) ic_0 ?_
              refine qr_aload_n o (q_dm dm_L_law 762 rfl) rfl ?_
              refine qr_iload_n o (q_dm dm_L_law 763 rfl) rfl ?_
              refine qr_bipush o (q_dm dm_L_law 764 rfl) bi_6 ?_
              refine qr_iadd o (q_dm dm_L_law 765 rfl) ?_
              refine qr_sald o (q_dm dm_L_law 766 rfl) ?_
              refine qr_callv_i (As := [.inl (g.2.2.2.2.2.2 (a3 + (1 : Int32)).toNatClampNeg), .inl (g.2.2.2.2.2.2 (a3 + (2 : Int32)).toNatClampNeg), .inl (g.2.2.2.2.2.2 (a3 + (3 : Int32)).toNatClampNeg), .inl (0 : Int32), .inl (0 : Int32), .inl (g.2.2.2.2.2.2 (a3 + (6 : Int32)).toNatClampNeg)]) (S := [.inl r95]) o (a_X12_game g k.2.1 n j r hj hr (g.2.2.2.2.2.2 (a3 + (1 : Int32)).toNatClampNeg) (g.2.2.2.2.2.2 (a3 + (2 : Int32)).toNatClampNeg) (g.2.2.2.2.2.2 (a3 + (3 : Int32)).toNatClampNeg) (0 : Int32) (0 : Int32) (g.2.2.2.2.2.2 (a3 + (6 : Int32)).toNatClampNeg) m96) (Nat.le_of_ble_eq_true rfl) zv_X12_game rfl cf_X12 (sh77 j r) ml_L_96 (Nat.le_of_ble_eq_true rfl) (q_dm dm_L_law 767 rfl) (fun r97 m98 => ?_)
              refine qr_icmp_eq (tgt := 1182) o (q_dm dm_L_law 768 rfl) (by decide) ?_ ?_
              · refine qs_iincl2 (L' := fun x99 => [some (.inr (some 1000)), some (.inr (some 0)), some (.inr (some 77)), some (.inl x99)]) o (q_dm dm_L_law 896 rfl) rfl ic_7 (Nat.le_of_ble_eq_true rfl) (fun _ => rfl) (fun x99 => ?_)
                refine qr_goto (tgt := 18) o (q_dm dm_L_law 897 rfl) (by decide) ?_
                exact qr_loc (q_leS (q_leS (q_leS (q_leS q_le0)))) (hK18 x99 m98)
              · refine qr_iconst o (q_dm dm_L_law 769 rfl) ic_0 ?_
                exact qr_none
            · refine qr_iconst o (q_dm dm_L_law 759 rfl) ic_1 ?_
              refine qr_goto (tgt := 1011) o (q_dm dm_L_law 760 rfl) (by decide) ?_
              refine qr_aload_n o (q_dm dm_L_law 762 rfl) rfl ?_
              refine qr_iload_n o (q_dm dm_L_law 763 rfl) rfl ?_
              refine qr_bipush o (q_dm dm_L_law 764 rfl) bi_6 ?_
              refine qr_iadd o (q_dm dm_L_law 765 rfl) ?_
              refine qr_sald o (q_dm dm_L_law 766 rfl) ?_
              refine qr_callv_i (As := [.inl (g.2.2.2.2.2.2 (a3 + (1 : Int32)).toNatClampNeg), .inl (g.2.2.2.2.2.2 (a3 + (2 : Int32)).toNatClampNeg), .inl (g.2.2.2.2.2.2 (a3 + (3 : Int32)).toNatClampNeg), .inl (0 : Int32), .inl (1 : Int32), .inl (g.2.2.2.2.2.2 (a3 + (6 : Int32)).toNatClampNeg)]) (S := [.inl r95]) o (a_X12_game g k.2.1 n j r hj hr (g.2.2.2.2.2.2 (a3 + (1 : Int32)).toNatClampNeg) (g.2.2.2.2.2.2 (a3 + (2 : Int32)).toNatClampNeg) (g.2.2.2.2.2.2 (a3 + (3 : Int32)).toNatClampNeg) (0 : Int32) (1 : Int32) (g.2.2.2.2.2.2 (a3 + (6 : Int32)).toNatClampNeg) m96) (Nat.le_of_ble_eq_true rfl) zv_X12_game rfl cf_X12 (sh77 j r) ml_L_96 (Nat.le_of_ble_eq_true rfl) (q_dm dm_L_law 767 rfl) (fun r100 m101 => ?_)
              refine qr_icmp_eq (tgt := 1182) o (q_dm dm_L_law 768 rfl) (by decide) ?_ ?_
              · refine qs_iincl2 (L' := fun x102 => [some (.inr (some 1000)), some (.inr (some 0)), some (.inr (some 77)), some (.inl x102)]) o (q_dm dm_L_law 896 rfl) rfl ic_7 (Nat.le_of_ble_eq_true rfl) (fun _ => rfl) (fun x102 => ?_)
                refine qr_goto (tgt := 18) o (q_dm dm_L_law 897 rfl) (by decide) ?_
                exact qr_loc (q_leS (q_leS (q_leS (q_leS q_le0)))) (hK18 x102 m101)
              · refine qr_iconst o (q_dm dm_L_law 769 rfl) ic_0 ?_
                exact qr_none
          · refine qr_iconst o (q_dm dm_L_law 750 rfl) ic_1 ?_
            refine qr_goto (tgt := 998) o (q_dm dm_L_law 751 rfl) (by decide) ?_
            refine qr_aload_n o (q_dm dm_L_law 753 rfl) rfl ?_
            refine qr_iload_n o (q_dm dm_L_law 754 rfl) rfl ?_
            refine qr_iconst o (q_dm dm_L_law 755 rfl) ic_5 ?_
            refine qr_iadd o (q_dm dm_L_law 756 rfl) ?_
            refine qr_sald o (q_dm dm_L_law 757 rfl) ?_
            refine qr_if_eq (tgt := 1010) o (q_dm dm_L_law 758 rfl) (by decide) ?_ ?_
            · refine qr_iconst o (q_dm dm_L_law 761 rfl) ic_0 ?_
              refine qr_aload_n o (q_dm dm_L_law 762 rfl) rfl ?_
              refine qr_iload_n o (q_dm dm_L_law 763 rfl) rfl ?_
              refine qr_bipush o (q_dm dm_L_law 764 rfl) bi_6 ?_
              refine qr_iadd o (q_dm dm_L_law 765 rfl) ?_
              refine qr_sald o (q_dm dm_L_law 766 rfl) ?_
              refine qr_callv_i (As := [.inl (g.2.2.2.2.2.2 (a3 + (1 : Int32)).toNatClampNeg), .inl (g.2.2.2.2.2.2 (a3 + (2 : Int32)).toNatClampNeg), .inl (g.2.2.2.2.2.2 (a3 + (3 : Int32)).toNatClampNeg), .inl (1 : Int32), .inl (0 : Int32), .inl (g.2.2.2.2.2.2 (a3 + (6 : Int32)).toNatClampNeg)]) (S := [.inl r95]) o (a_X12_game g k.2.1 n j r hj hr (g.2.2.2.2.2.2 (a3 + (1 : Int32)).toNatClampNeg) (g.2.2.2.2.2.2 (a3 + (2 : Int32)).toNatClampNeg) (g.2.2.2.2.2.2 (a3 + (3 : Int32)).toNatClampNeg) (1 : Int32) (0 : Int32) (g.2.2.2.2.2.2 (a3 + (6 : Int32)).toNatClampNeg) m96) (Nat.le_of_ble_eq_true rfl) zv_X12_game rfl cf_X12 (sh77 j r) ml_L_96 (Nat.le_of_ble_eq_true rfl) (q_dm dm_L_law 767 rfl) (fun r103 m104 => ?_)
              refine qr_icmp_eq (tgt := 1182) o (q_dm dm_L_law 768 rfl) (by decide) ?_ ?_
              · refine qs_iincl2 (L' := fun x105 => [some (.inr (some 1000)), some (.inr (some 0)), some (.inr (some 77)), some (.inl x105)]) o (q_dm dm_L_law 896 rfl) rfl ic_7 (Nat.le_of_ble_eq_true rfl) (fun _ => rfl) (fun x105 => ?_)
                refine qr_goto (tgt := 18) o (q_dm dm_L_law 897 rfl) (by decide) ?_
                exact qr_loc (q_leS (q_leS (q_leS (q_leS q_le0)))) (hK18 x105 m104)
              · refine qr_iconst o (q_dm dm_L_law 769 rfl) ic_0 ?_
                exact qr_none
            · refine qr_iconst o (q_dm dm_L_law 759 rfl) ic_1 ?_
              refine qr_goto (tgt := 1011) o (q_dm dm_L_law 760 rfl) (by decide) ?_
              refine qr_aload_n o (q_dm dm_L_law 762 rfl) rfl ?_
              refine qr_iload_n o (q_dm dm_L_law 763 rfl) rfl ?_
              refine qr_bipush o (q_dm dm_L_law 764 rfl) bi_6 ?_
              refine qr_iadd o (q_dm dm_L_law 765 rfl) ?_
              refine qr_sald o (q_dm dm_L_law 766 rfl) ?_
              refine qr_callv_i (As := [.inl (g.2.2.2.2.2.2 (a3 + (1 : Int32)).toNatClampNeg), .inl (g.2.2.2.2.2.2 (a3 + (2 : Int32)).toNatClampNeg), .inl (g.2.2.2.2.2.2 (a3 + (3 : Int32)).toNatClampNeg), .inl (1 : Int32), .inl (1 : Int32), .inl (g.2.2.2.2.2.2 (a3 + (6 : Int32)).toNatClampNeg)]) (S := [.inl r95]) o (a_X12_game g k.2.1 n j r hj hr (g.2.2.2.2.2.2 (a3 + (1 : Int32)).toNatClampNeg) (g.2.2.2.2.2.2 (a3 + (2 : Int32)).toNatClampNeg) (g.2.2.2.2.2.2 (a3 + (3 : Int32)).toNatClampNeg) (1 : Int32) (1 : Int32) (g.2.2.2.2.2.2 (a3 + (6 : Int32)).toNatClampNeg) m96) (Nat.le_of_ble_eq_true rfl) zv_X12_game rfl cf_X12 (sh77 j r) ml_L_96 (Nat.le_of_ble_eq_true rfl) (q_dm dm_L_law 767 rfl) (fun r106 m107 => ?_)
              refine qr_icmp_eq (tgt := 1182) o (q_dm dm_L_law 768 rfl) (by decide) ?_ ?_
              · refine qs_iincl2 (L' := fun x108 => [some (.inr (some 1000)), some (.inr (some 0)), some (.inr (some 77)), some (.inl x108)]) o (q_dm dm_L_law 896 rfl) rfl ic_7 (Nat.le_of_ble_eq_true rfl) (fun _ => rfl) (fun x108 => ?_)
                refine qr_goto (tgt := 18) o (q_dm dm_L_law 897 rfl) (by decide) ?_
                exact qr_loc (q_leS (q_leS (q_leS (q_leS q_le0)))) (hK18 x108 m107)
              · refine qr_iconst o (q_dm dm_L_law 769 rfl) ic_0 ?_
                exact qr_none
        · refine qr_iconst o (q_dm dm_L_law 719 rfl) ic_1 ?_
          refine qr_goto (tgt := 960) o (q_dm dm_L_law 720 rfl) (by decide) ?_
          refine qr_aload_n o (q_dm dm_L_law 722 rfl) rfl ?_
          refine qr_iload_n o (q_dm dm_L_law 723 rfl) rfl ?_
          refine qr_bipush o (q_dm dm_L_law 724 rfl) bi_6 ?_
          refine qr_iadd o (q_dm dm_L_law 725 rfl) ?_
          refine qr_sald o (q_dm dm_L_law 726 rfl) ?_
          refine qr_callv_i (As := [.inl (g.2.2.2.2.2.2 (a3 + (1 : Int32)).toNatClampNeg), .inl (g.2.2.2.2.2.2 (a3 + (2 : Int32)).toNatClampNeg), .inl (g.2.2.2.2.2.2 (a3 + (3 : Int32)).toNatClampNeg), .inl (0 : Int32), .inl (1 : Int32), .inl (g.2.2.2.2.2.2 (a3 + (6 : Int32)).toNatClampNeg)]) (S := []) o (a_X11_game g k.2.1 n j r hj hr (g.2.2.2.2.2.2 (a3 + (1 : Int32)).toNatClampNeg) (g.2.2.2.2.2.2 (a3 + (2 : Int32)).toNatClampNeg) (g.2.2.2.2.2.2 (a3 + (3 : Int32)).toNatClampNeg) (0 : Int32) (1 : Int32) (g.2.2.2.2.2.2 (a3 + (6 : Int32)).toNatClampNeg) M) (Nat.le_of_ble_eq_true rfl) zv_X11_game rfl cf_X11 (sh0 j r) ml_L_92 (Nat.le_of_ble_eq_true rfl) (q_dm dm_L_law 727 rfl) (fun r109 m110 => ?_)
          refine qr_aload_n o (q_dm dm_L_law 728 rfl) rfl ?_
          refine qr_aload_n o (q_dm dm_L_law 729 rfl) rfl ?_
          refine qr_iload_n o (q_dm dm_L_law 730 rfl) rfl ?_
          refine qr_iconst o (q_dm dm_L_law 731 rfl) ic_1 ?_
          refine qr_iadd o (q_dm dm_L_law 732 rfl) ?_
          refine qr_sald o (q_dm dm_L_law 733 rfl) ?_
          refine qr_aload_n o (q_dm dm_L_law 734 rfl) rfl ?_
          refine qr_iload_n o (q_dm dm_L_law 735 rfl) rfl ?_
          refine qr_iconst o (q_dm dm_L_law 736 rfl) ic_2 ?_
          refine qr_iadd o (q_dm dm_L_law 737 rfl) ?_
          refine qr_sald o (q_dm dm_L_law 738 rfl) ?_
          refine qr_aload_n o (q_dm dm_L_law 739 rfl) rfl ?_
          refine qr_iload_n o (q_dm dm_L_law 740 rfl) rfl ?_
          refine qr_iconst o (q_dm dm_L_law 741 rfl) ic_3 ?_
          refine qr_iadd o (q_dm dm_L_law 742 rfl) ?_
          refine qr_sald o (q_dm dm_L_law 743 rfl) ?_
          refine qr_aload_n o (q_dm dm_L_law 744 rfl) rfl ?_
          refine qr_iload_n o (q_dm dm_L_law 745 rfl) rfl ?_
          refine qr_iconst o (q_dm dm_L_law 746 rfl) ic_4 ?_
          refine qr_iadd o (q_dm dm_L_law 747 rfl) ?_
          refine qr_sald o (q_dm dm_L_law 748 rfl) ?_
          refine qr_if_eq (tgt := 997) o (q_dm dm_L_law 749 rfl) (by decide) ?_ ?_
          · refine qr_iconst o (q_dm dm_L_law 752 rfl) ic_0 ?_
            refine qr_aload_n o (q_dm dm_L_law 753 rfl) rfl ?_
            refine qr_iload_n o (q_dm dm_L_law 754 rfl) rfl ?_
            refine qr_iconst o (q_dm dm_L_law 755 rfl) ic_5 ?_
            refine qr_iadd o (q_dm dm_L_law 756 rfl) ?_
            refine qr_sald o (q_dm dm_L_law 757 rfl) ?_
            refine qr_if_eq (tgt := 1010) o (q_dm dm_L_law 758 rfl) (by decide) ?_ ?_
            · refine qr_iconst o (q_dm dm_L_law 761 rfl) ic_0 ?_
              refine qr_aload_n o (q_dm dm_L_law 762 rfl) rfl ?_
              refine qr_iload_n o (q_dm dm_L_law 763 rfl) rfl ?_
              refine qr_bipush o (q_dm dm_L_law 764 rfl) bi_6 ?_
              refine qr_iadd o (q_dm dm_L_law 765 rfl) ?_
              refine qr_sald o (q_dm dm_L_law 766 rfl) ?_
              refine qr_callv_i (As := [.inl (g.2.2.2.2.2.2 (a3 + (1 : Int32)).toNatClampNeg), .inl (g.2.2.2.2.2.2 (a3 + (2 : Int32)).toNatClampNeg), .inl (g.2.2.2.2.2.2 (a3 + (3 : Int32)).toNatClampNeg), .inl (0 : Int32), .inl (0 : Int32), .inl (g.2.2.2.2.2.2 (a3 + (6 : Int32)).toNatClampNeg)]) (S := [.inl r109]) o (a_X12_game g k.2.1 n j r hj hr (g.2.2.2.2.2.2 (a3 + (1 : Int32)).toNatClampNeg) (g.2.2.2.2.2.2 (a3 + (2 : Int32)).toNatClampNeg) (g.2.2.2.2.2.2 (a3 + (3 : Int32)).toNatClampNeg) (0 : Int32) (0 : Int32) (g.2.2.2.2.2.2 (a3 + (6 : Int32)).toNatClampNeg) m110) (Nat.le_of_ble_eq_true rfl) zv_X12_game rfl cf_X12 (sh77 j r) ml_L_96 (Nat.le_of_ble_eq_true rfl) (q_dm dm_L_law 767 rfl) (fun r111 m112 => ?_)
              refine qr_icmp_eq (tgt := 1182) o (q_dm dm_L_law 768 rfl) (by decide) ?_ ?_
              · refine qs_iincl2 (L' := fun x113 => [some (.inr (some 1000)), some (.inr (some 0)), some (.inr (some 77)), some (.inl x113)]) o (q_dm dm_L_law 896 rfl) rfl ic_7 (Nat.le_of_ble_eq_true rfl) (fun _ => rfl) (fun x113 => ?_)
                refine qr_goto (tgt := 18) o (q_dm dm_L_law 897 rfl) (by decide) ?_
                exact qr_loc (q_leS (q_leS (q_leS (q_leS q_le0)))) (hK18 x113 m112)
              · refine qr_iconst o (q_dm dm_L_law 769 rfl) ic_0 ?_
                exact qr_none
            · refine qr_iconst o (q_dm dm_L_law 759 rfl) ic_1 ?_
              refine qr_goto (tgt := 1011) o (q_dm dm_L_law 760 rfl) (by decide) ?_
              refine qr_aload_n o (q_dm dm_L_law 762 rfl) rfl ?_
              refine qr_iload_n o (q_dm dm_L_law 763 rfl) rfl ?_
              refine qr_bipush o (q_dm dm_L_law 764 rfl) bi_6 ?_
              refine qr_iadd o (q_dm dm_L_law 765 rfl) ?_
              refine qr_sald o (q_dm dm_L_law 766 rfl) ?_
              refine qr_callv_i (As := [.inl (g.2.2.2.2.2.2 (a3 + (1 : Int32)).toNatClampNeg), .inl (g.2.2.2.2.2.2 (a3 + (2 : Int32)).toNatClampNeg), .inl (g.2.2.2.2.2.2 (a3 + (3 : Int32)).toNatClampNeg), .inl (0 : Int32), .inl (1 : Int32), .inl (g.2.2.2.2.2.2 (a3 + (6 : Int32)).toNatClampNeg)]) (S := [.inl r109]) o (a_X12_game g k.2.1 n j r hj hr (g.2.2.2.2.2.2 (a3 + (1 : Int32)).toNatClampNeg) (g.2.2.2.2.2.2 (a3 + (2 : Int32)).toNatClampNeg) (g.2.2.2.2.2.2 (a3 + (3 : Int32)).toNatClampNeg) (0 : Int32) (1 : Int32) (g.2.2.2.2.2.2 (a3 + (6 : Int32)).toNatClampNeg) m110) (Nat.le_of_ble_eq_true rfl) zv_X12_game rfl cf_X12 (sh77 j r) ml_L_96 (Nat.le_of_ble_eq_true rfl) (q_dm dm_L_law 767 rfl) (fun r114 m115 => ?_)
              refine qr_icmp_eq (tgt := 1182) o (q_dm dm_L_law 768 rfl) (by decide) ?_ ?_
              · refine qs_iincl2 (L' := fun x116 => [some (.inr (some 1000)), some (.inr (some 0)), some (.inr (some 77)), some (.inl x116)]) o (q_dm dm_L_law 896 rfl) rfl ic_7 (Nat.le_of_ble_eq_true rfl) (fun _ => rfl) (fun x116 => ?_)
                refine qr_goto (tgt := 18) o (q_dm dm_L_law 897 rfl) (by decide) ?_
                exact qr_loc (q_leS (q_leS (q_leS (q_leS q_le0)))) (hK18 x116 m115)
              · refine qr_iconst o (q_dm dm_L_law 769 rfl) ic_0 ?_
                exact qr_none
          · refine qr_iconst o (q_dm dm_L_law 750 rfl) ic_1 ?_
            refine qr_goto (tgt := 998) o (q_dm dm_L_law 751 rfl) (by decide) ?_
            refine qr_aload_n o (q_dm dm_L_law 753 rfl) rfl ?_
            refine qr_iload_n o (q_dm dm_L_law 754 rfl) rfl ?_
            refine qr_iconst o (q_dm dm_L_law 755 rfl) ic_5 ?_
            refine qr_iadd o (q_dm dm_L_law 756 rfl) ?_
            refine qr_sald o (q_dm dm_L_law 757 rfl) ?_
            refine qr_if_eq (tgt := 1010) o (q_dm dm_L_law 758 rfl) (by decide) ?_ ?_
            · refine qr_iconst o (q_dm dm_L_law 761 rfl) ic_0 ?_
              refine qr_aload_n o (q_dm dm_L_law 762 rfl) rfl ?_
              refine qr_iload_n o (q_dm dm_L_law 763 rfl) rfl ?_
              refine qr_bipush o (q_dm dm_L_law 764 rfl) bi_6 ?_
              refine qr_iadd o (q_dm dm_L_law 765 rfl) ?_
              refine qr_sald o (q_dm dm_L_law 766 rfl) ?_
              refine qr_callv_i (As := [.inl (g.2.2.2.2.2.2 (a3 + (1 : Int32)).toNatClampNeg), .inl (g.2.2.2.2.2.2 (a3 + (2 : Int32)).toNatClampNeg), .inl (g.2.2.2.2.2.2 (a3 + (3 : Int32)).toNatClampNeg), .inl (1 : Int32), .inl (0 : Int32), .inl (g.2.2.2.2.2.2 (a3 + (6 : Int32)).toNatClampNeg)]) (S := [.inl r109]) o (a_X12_game g k.2.1 n j r hj hr (g.2.2.2.2.2.2 (a3 + (1 : Int32)).toNatClampNeg) (g.2.2.2.2.2.2 (a3 + (2 : Int32)).toNatClampNeg) (g.2.2.2.2.2.2 (a3 + (3 : Int32)).toNatClampNeg) (1 : Int32) (0 : Int32) (g.2.2.2.2.2.2 (a3 + (6 : Int32)).toNatClampNeg) m110) (Nat.le_of_ble_eq_true rfl) zv_X12_game rfl cf_X12 (sh77 j r) ml_L_96 (Nat.le_of_ble_eq_true rfl) (q_dm dm_L_law 767 rfl) (fun r117 m118 => ?_)
              refine qr_icmp_eq (tgt := 1182) o (q_dm dm_L_law 768 rfl) (by decide) ?_ ?_
              · refine qs_iincl2 (L' := fun x119 => [some (.inr (some 1000)), some (.inr (some 0)), some (.inr (some 77)), some (.inl x119)]) o (q_dm dm_L_law 896 rfl) rfl ic_7 (Nat.le_of_ble_eq_true rfl) (fun _ => rfl) (fun x119 => ?_)
                refine qr_goto (tgt := 18) o (q_dm dm_L_law 897 rfl) (by decide) ?_
                exact qr_loc (q_leS (q_leS (q_leS (q_leS q_le0)))) (hK18 x119 m118)
              · refine qr_iconst o (q_dm dm_L_law 769 rfl) ic_0 ?_
                exact qr_none
            · refine qr_iconst o (q_dm dm_L_law 759 rfl) ic_1 ?_
              refine qr_goto (tgt := 1011) o (q_dm dm_L_law 760 rfl) (by decide) ?_
              refine qr_aload_n o (q_dm dm_L_law 762 rfl) rfl ?_
              refine qr_iload_n o (q_dm dm_L_law 763 rfl) rfl ?_
              refine qr_bipush o (q_dm dm_L_law 764 rfl) bi_6 ?_
              refine qr_iadd o (q_dm dm_L_law 765 rfl) ?_
              refine qr_sald o (q_dm dm_L_law 766 rfl) ?_
              refine qr_callv_i (As := [.inl (g.2.2.2.2.2.2 (a3 + (1 : Int32)).toNatClampNeg), .inl (g.2.2.2.2.2.2 (a3 + (2 : Int32)).toNatClampNeg), .inl (g.2.2.2.2.2.2 (a3 + (3 : Int32)).toNatClampNeg), .inl (1 : Int32), .inl (1 : Int32), .inl (g.2.2.2.2.2.2 (a3 + (6 : Int32)).toNatClampNeg)]) (S := [.inl r109]) o (a_X12_game g k.2.1 n j r hj hr (g.2.2.2.2.2.2 (a3 + (1 : Int32)).toNatClampNeg) (g.2.2.2.2.2.2 (a3 + (2 : Int32)).toNatClampNeg) (g.2.2.2.2.2.2 (a3 + (3 : Int32)).toNatClampNeg) (1 : Int32) (1 : Int32) (g.2.2.2.2.2.2 (a3 + (6 : Int32)).toNatClampNeg) m110) (Nat.le_of_ble_eq_true rfl) zv_X12_game rfl cf_X12 (sh77 j r) ml_L_96 (Nat.le_of_ble_eq_true rfl) (q_dm dm_L_law 767 rfl) (fun r120 m121 => ?_)
              refine qr_icmp_eq (tgt := 1182) o (q_dm dm_L_law 768 rfl) (by decide) ?_ ?_
              · refine qs_iincl2 (L' := fun x122 => [some (.inr (some 1000)), some (.inr (some 0)), some (.inr (some 77)), some (.inl x122)]) o (q_dm dm_L_law 896 rfl) rfl ic_7 (Nat.le_of_ble_eq_true rfl) (fun _ => rfl) (fun x122 => ?_)
                refine qr_goto (tgt := 18) o (q_dm dm_L_law 897 rfl) (by decide) ?_
                exact qr_loc (q_leS (q_leS (q_leS (q_leS q_le0)))) (hK18 x122 m121)
              · refine qr_iconst o (q_dm dm_L_law 769 rfl) ic_0 ?_
                exact qr_none
      · refine qr_iconst o (q_dm dm_L_law 710 rfl) ic_1 ?_
        refine qr_goto (tgt := 947) o (q_dm dm_L_law 711 rfl) (by decide) ?_
        refine qr_aload_n o (q_dm dm_L_law 713 rfl) rfl ?_
        refine qr_iload_n o (q_dm dm_L_law 714 rfl) rfl ?_
        refine qr_iconst o (q_dm dm_L_law 715 rfl) ic_5 ?_
        refine qr_iadd o (q_dm dm_L_law 716 rfl) ?_
        refine qr_sald o (q_dm dm_L_law 717 rfl) ?_
        refine qr_if_eq (tgt := 959) o (q_dm dm_L_law 718 rfl) (by decide) ?_ ?_
        · refine qr_iconst o (q_dm dm_L_law 721 rfl) ic_0 ?_
          refine qr_aload_n o (q_dm dm_L_law 722 rfl) rfl ?_
          refine qr_iload_n o (q_dm dm_L_law 723 rfl) rfl ?_
          refine qr_bipush o (q_dm dm_L_law 724 rfl) bi_6 ?_
          refine qr_iadd o (q_dm dm_L_law 725 rfl) ?_
          refine qr_sald o (q_dm dm_L_law 726 rfl) ?_
          refine qr_callv_i (As := [.inl (g.2.2.2.2.2.2 (a3 + (1 : Int32)).toNatClampNeg), .inl (g.2.2.2.2.2.2 (a3 + (2 : Int32)).toNatClampNeg), .inl (g.2.2.2.2.2.2 (a3 + (3 : Int32)).toNatClampNeg), .inl (1 : Int32), .inl (0 : Int32), .inl (g.2.2.2.2.2.2 (a3 + (6 : Int32)).toNatClampNeg)]) (S := []) o (a_X11_game g k.2.1 n j r hj hr (g.2.2.2.2.2.2 (a3 + (1 : Int32)).toNatClampNeg) (g.2.2.2.2.2.2 (a3 + (2 : Int32)).toNatClampNeg) (g.2.2.2.2.2.2 (a3 + (3 : Int32)).toNatClampNeg) (1 : Int32) (0 : Int32) (g.2.2.2.2.2.2 (a3 + (6 : Int32)).toNatClampNeg) M) (Nat.le_of_ble_eq_true rfl) zv_X11_game rfl cf_X11 (sh0 j r) ml_L_92 (Nat.le_of_ble_eq_true rfl) (q_dm dm_L_law 727 rfl) (fun r123 m124 => ?_)
          refine qr_aload_n o (q_dm dm_L_law 728 rfl) rfl ?_
          refine qr_aload_n o (q_dm dm_L_law 729 rfl) rfl ?_
          refine qr_iload_n o (q_dm dm_L_law 730 rfl) rfl ?_
          refine qr_iconst o (q_dm dm_L_law 731 rfl) ic_1 ?_
          refine qr_iadd o (q_dm dm_L_law 732 rfl) ?_
          refine qr_sald o (q_dm dm_L_law 733 rfl) ?_
          refine qr_aload_n o (q_dm dm_L_law 734 rfl) rfl ?_
          refine qr_iload_n o (q_dm dm_L_law 735 rfl) rfl ?_
          refine qr_iconst o (q_dm dm_L_law 736 rfl) ic_2 ?_
          refine qr_iadd o (q_dm dm_L_law 737 rfl) ?_
          refine qr_sald o (q_dm dm_L_law 738 rfl) ?_
          refine qr_aload_n o (q_dm dm_L_law 739 rfl) rfl ?_
          refine qr_iload_n o (q_dm dm_L_law 740 rfl) rfl ?_
          refine qr_iconst o (q_dm dm_L_law 741 rfl) ic_3 ?_
          refine qr_iadd o (q_dm dm_L_law 742 rfl) ?_
          refine qr_sald o (q_dm dm_L_law 743 rfl) ?_
          refine qr_aload_n o (q_dm dm_L_law 744 rfl) rfl ?_
          refine qr_iload_n o (q_dm dm_L_law 745 rfl) rfl ?_
          refine qr_iconst o (q_dm dm_L_law 746 rfl) ic_4 ?_
          refine qr_iadd o (q_dm dm_L_law 747 rfl) ?_
          refine qr_sald o (q_dm dm_L_law 748 rfl) ?_
          refine qr_if_eq (tgt := 997) o (q_dm dm_L_law 749 rfl) (by decide) ?_ ?_
          · refine qr_iconst o (q_dm dm_L_law 752 rfl) ic_0 ?_
            refine qr_aload_n o (q_dm dm_L_law 753 rfl) rfl ?_
            refine qr_iload_n o (q_dm dm_L_law 754 rfl) rfl ?_
            refine qr_iconst o (q_dm dm_L_law 755 rfl) ic_5 ?_
            refine qr_iadd o (q_dm dm_L_law 756 rfl) ?_
            refine qr_sald o (q_dm dm_L_law 757 rfl) ?_
            refine qr_if_eq (tgt := 1010) o (q_dm dm_L_law 758 rfl) (by decide) ?_ ?_
            · refine qr_iconst o (q_dm dm_L_law 761 rfl) ic_0 ?_
              refine qr_aload_n o (q_dm dm_L_law 762 rfl) rfl ?_
              refine qr_iload_n o (q_dm dm_L_law 763 rfl) rfl ?_
              refine qr_bipush o (q_dm dm_L_law 764 rfl) bi_6 ?_
              refine qr_iadd o (q_dm dm_L_law 765 rfl) ?_
              refine qr_sald o (q_dm dm_L_law 766 rfl) ?_
              refine qr_callv_i (As := [.inl (g.2.2.2.2.2.2 (a3 + (1 : Int32)).toNatClampNeg), .inl (g.2.2.2.2.2.2 (a3 + (2 : Int32)).toNatClampNeg), .inl (g.2.2.2.2.2.2 (a3 + (3 : Int32)).toNatClampNeg), .inl (0 : Int32), .inl (0 : Int32), .inl (g.2.2.2.2.2.2 (a3 + (6 : Int32)).toNatClampNeg)]) (S := [.inl r123]) o (a_X12_game g k.2.1 n j r hj hr (g.2.2.2.2.2.2 (a3 + (1 : Int32)).toNatClampNeg) (g.2.2.2.2.2.2 (a3 + (2 : Int32)).toNatClampNeg) (g.2.2.2.2.2.2 (a3 + (3 : Int32)).toNatClampNeg) (0 : Int32) (0 : Int32) (g.2.2.2.2.2.2 (a3 + (6 : Int32)).toNatClampNeg) m124) (Nat.le_of_ble_eq_true rfl) zv_X12_game rfl cf_X12 (sh77 j r) ml_L_96 (Nat.le_of_ble_eq_true rfl) (q_dm dm_L_law 767 rfl) (fun r125 m126 => ?_)
              refine qr_icmp_eq (tgt := 1182) o (q_dm dm_L_law 768 rfl) (by decide) ?_ ?_
              · refine qs_iincl2 (L' := fun x127 => [some (.inr (some 1000)), some (.inr (some 0)), some (.inr (some 77)), some (.inl x127)]) o (q_dm dm_L_law 896 rfl) rfl ic_7 (Nat.le_of_ble_eq_true rfl) (fun _ => rfl) (fun x127 => ?_)
                refine qr_goto (tgt := 18) o (q_dm dm_L_law 897 rfl) (by decide) ?_
                exact qr_loc (q_leS (q_leS (q_leS (q_leS q_le0)))) (hK18 x127 m126)
              · refine qr_iconst o (q_dm dm_L_law 769 rfl) ic_0 ?_
                exact qr_none
            · refine qr_iconst o (q_dm dm_L_law 759 rfl) ic_1 ?_
              refine qr_goto (tgt := 1011) o (q_dm dm_L_law 760 rfl) (by decide) ?_
              refine qr_aload_n o (q_dm dm_L_law 762 rfl) rfl ?_
              refine qr_iload_n o (q_dm dm_L_law 763 rfl) rfl ?_
              refine qr_bipush o (q_dm dm_L_law 764 rfl) bi_6 ?_
              refine qr_iadd o (q_dm dm_L_law 765 rfl) ?_
              refine qr_sald o (q_dm dm_L_law 766 rfl) ?_
              refine qr_callv_i (As := [.inl (g.2.2.2.2.2.2 (a3 + (1 : Int32)).toNatClampNeg), .inl (g.2.2.2.2.2.2 (a3 + (2 : Int32)).toNatClampNeg), .inl (g.2.2.2.2.2.2 (a3 + (3 : Int32)).toNatClampNeg), .inl (0 : Int32), .inl (1 : Int32), .inl (g.2.2.2.2.2.2 (a3 + (6 : Int32)).toNatClampNeg)]) (S := [.inl r123]) o (a_X12_game g k.2.1 n j r hj hr (g.2.2.2.2.2.2 (a3 + (1 : Int32)).toNatClampNeg) (g.2.2.2.2.2.2 (a3 + (2 : Int32)).toNatClampNeg) (g.2.2.2.2.2.2 (a3 + (3 : Int32)).toNatClampNeg) (0 : Int32) (1 : Int32) (g.2.2.2.2.2.2 (a3 + (6 : Int32)).toNatClampNeg) m124) (Nat.le_of_ble_eq_true rfl) zv_X12_game rfl cf_X12 (sh77 j r) ml_L_96 (Nat.le_of_ble_eq_true rfl) (q_dm dm_L_law 767 rfl) (fun r128 m129 => ?_)
              refine qr_icmp_eq (tgt := 1182) o (q_dm dm_L_law 768 rfl) (by decide) ?_ ?_
              · refine qs_iincl2 (L' := fun x130 => [some (.inr (some 1000)), some (.inr (some 0)), some (.inr (some 77)), some (.inl x130)]) o (q_dm dm_L_law 896 rfl) rfl ic_7 (Nat.le_of_ble_eq_true rfl) (fun _ => rfl) (fun x130 => ?_)
                refine qr_goto (tgt := 18) o (q_dm dm_L_law 897 rfl) (by decide) ?_
                exact qr_loc (q_leS (q_leS (q_leS (q_leS q_le0)))) (hK18 x130 m129)
              · refine qr_iconst o (q_dm dm_L_law 769 rfl) ic_0 ?_
                exact qr_none
          · refine qr_iconst o (q_dm dm_L_law 750 rfl) ic_1 ?_
            refine qr_goto (tgt := 998) o (q_dm dm_L_law 751 rfl) (by decide) ?_
            refine qr_aload_n o (q_dm dm_L_law 753 rfl) rfl ?_
            refine qr_iload_n o (q_dm dm_L_law 754 rfl) rfl ?_
            refine qr_iconst o (q_dm dm_L_law 755 rfl) ic_5 ?_
            refine qr_iadd o (q_dm dm_L_law 756 rfl) ?_
            refine qr_sald o (q_dm dm_L_law 757 rfl) ?_
            refine qr_if_eq (tgt := 1010) o (q_dm dm_L_law 758 rfl) (by decide) ?_ ?_
            · refine qr_iconst o (q_dm dm_L_law 761 rfl) ic_0 ?_
              refine qr_aload_n o (q_dm dm_L_law 762 rfl) rfl ?_
              refine qr_iload_n o (q_dm dm_L_law 763 rfl) rfl ?_
              refine qr_bipush o (q_dm dm_L_law 764 rfl) bi_6 ?_
              refine qr_iadd o (q_dm dm_L_law 765 rfl) ?_
              refine qr_sald o (q_dm dm_L_law 766 rfl) ?_
              refine qr_callv_i (As := [.inl (g.2.2.2.2.2.2 (a3 + (1 : Int32)).toNatClampNeg), .inl (g.2.2.2.2.2.2 (a3 + (2 : Int32)).toNatClampNeg), .inl (g.2.2.2.2.2.2 (a3 + (3 : Int32)).toNatClampNeg), .inl (1 : Int32), .inl (0 : Int32), .inl (g.2.2.2.2.2.2 (a3 + (6 : Int32)).toNatClampNeg)]) (S := [.inl r123]) o (a_X12_game g k.2.1 n j r hj hr (g.2.2.2.2.2.2 (a3 + (1 : Int32)).toNatClampNeg) (g.2.2.2.2.2.2 (a3 + (2 : Int32)).toNatClampNeg) (g.2.2.2.2.2.2 (a3 + (3 : Int32)).toNatClampNeg) (1 : Int32) (0 : Int32) (g.2.2.2.2.2.2 (a3 + (6 : Int32)).toNatClampNeg) m124) (Nat.le_of_ble_eq_true rfl) zv_X12_game rfl cf_X12 (sh77 j r) ml_L_96 (Nat.le_of_ble_eq_true rfl) (q_dm dm_L_law 767 rfl) (fun r131 m132 => ?_)
              refine qr_icmp_eq (tgt := 1182) o (q_dm dm_L_law 768 rfl) (by decide) ?_ ?_
              · refine qs_iincl2 (L' := fun x133 => [some (.inr (some 1000)), some (.inr (some 0)), some (.inr (some 77)), some (.inl x133)]) o (q_dm dm_L_law 896 rfl) rfl ic_7 (Nat.le_of_ble_eq_true rfl) (fun _ => rfl) (fun x133 => ?_)
                refine qr_goto (tgt := 18) o (q_dm dm_L_law 897 rfl) (by decide) ?_
                exact qr_loc (q_leS (q_leS (q_leS (q_leS q_le0)))) (hK18 x133 m132)
              · refine qr_iconst o (q_dm dm_L_law 769 rfl) ic_0 ?_
                exact qr_none
            · refine qr_iconst o (q_dm dm_L_law 759 rfl) ic_1 ?_
              refine qr_goto (tgt := 1011) o (q_dm dm_L_law 760 rfl) (by decide) ?_
              refine qr_aload_n o (q_dm dm_L_law 762 rfl) rfl ?_
              refine qr_iload_n o (q_dm dm_L_law 763 rfl) rfl ?_
              refine qr_bipush o (q_dm dm_L_law 764 rfl) bi_6 ?_
              refine qr_iadd o (q_dm dm_L_law 765 rfl) ?_
              refine qr_sald o (q_dm dm_L_law 766 rfl) ?_
              refine qr_callv_i (As := [.inl (g.2.2.2.2.2.2 (a3 + (1 : Int32)).toNatClampNeg), .inl (g.2.2.2.2.2.2 (a3 + (2 : Int32)).toNatClampNeg), .inl (g.2.2.2.2.2.2 (a3 + (3 : Int32)).toNatClampNeg), .inl (1 : Int32), .inl (1 : Int32), .inl (g.2.2.2.2.2.2 (a3 + (6 : Int32)).toNatClampNeg)]) (S := [.inl r123]) o (a_X12_game g k.2.1 n j r hj hr (g.2.2.2.2.2.2 (a3 + (1 : Int32)).toNatClampNeg) (g.2.2.2.2.2.2 (a3 + (2 : Int32)).toNatClampNeg) (g.2.2.2.2.2.2 (a3 + (3 : Int32)).toNatClampNeg) (1 : Int32) (1 : Int32) (g.2.2.2.2.2.2 (a3 + (6 : Int32)).toNatClampNeg) m124) (Nat.le_of_ble_eq_true rfl) zv_X12_game rfl cf_X12 (sh77 j r) ml_L_96 (Nat.le_of_ble_eq_true rfl) (q_dm dm_L_law 767 rfl) (fun r134 m135 => ?_)
              refine qr_icmp_eq (tgt := 1182) o (q_dm dm_L_law 768 rfl) (by decide) ?_ ?_
              · refine qs_iincl2 (L' := fun x136 => [some (.inr (some 1000)), some (.inr (some 0)), some (.inr (some 77)), some (.inl x136)]) o (q_dm dm_L_law 896 rfl) rfl ic_7 (Nat.le_of_ble_eq_true rfl) (fun _ => rfl) (fun x136 => ?_)
                refine qr_goto (tgt := 18) o (q_dm dm_L_law 897 rfl) (by decide) ?_
                exact qr_loc (q_leS (q_leS (q_leS (q_leS q_le0)))) (hK18 x136 m135)
              · refine qr_iconst o (q_dm dm_L_law 769 rfl) ic_0 ?_
                exact qr_none
        · refine qr_iconst o (q_dm dm_L_law 719 rfl) ic_1 ?_
          refine qr_goto (tgt := 960) o (q_dm dm_L_law 720 rfl) (by decide) ?_
          refine qr_aload_n o (q_dm dm_L_law 722 rfl) rfl ?_
          refine qr_iload_n o (q_dm dm_L_law 723 rfl) rfl ?_
          refine qr_bipush o (q_dm dm_L_law 724 rfl) bi_6 ?_
          refine qr_iadd o (q_dm dm_L_law 725 rfl) ?_
          refine qr_sald o (q_dm dm_L_law 726 rfl) ?_
          refine qr_callv_i (As := [.inl (g.2.2.2.2.2.2 (a3 + (1 : Int32)).toNatClampNeg), .inl (g.2.2.2.2.2.2 (a3 + (2 : Int32)).toNatClampNeg), .inl (g.2.2.2.2.2.2 (a3 + (3 : Int32)).toNatClampNeg), .inl (1 : Int32), .inl (1 : Int32), .inl (g.2.2.2.2.2.2 (a3 + (6 : Int32)).toNatClampNeg)]) (S := []) o (a_X11_game g k.2.1 n j r hj hr (g.2.2.2.2.2.2 (a3 + (1 : Int32)).toNatClampNeg) (g.2.2.2.2.2.2 (a3 + (2 : Int32)).toNatClampNeg) (g.2.2.2.2.2.2 (a3 + (3 : Int32)).toNatClampNeg) (1 : Int32) (1 : Int32) (g.2.2.2.2.2.2 (a3 + (6 : Int32)).toNatClampNeg) M) (Nat.le_of_ble_eq_true rfl) zv_X11_game rfl cf_X11 (sh0 j r) ml_L_92 (Nat.le_of_ble_eq_true rfl) (q_dm dm_L_law 727 rfl) (fun r137 m138 => ?_)
          refine qr_aload_n o (q_dm dm_L_law 728 rfl) rfl ?_
          refine qr_aload_n o (q_dm dm_L_law 729 rfl) rfl ?_
          refine qr_iload_n o (q_dm dm_L_law 730 rfl) rfl ?_
          refine qr_iconst o (q_dm dm_L_law 731 rfl) ic_1 ?_
          refine qr_iadd o (q_dm dm_L_law 732 rfl) ?_
          refine qr_sald o (q_dm dm_L_law 733 rfl) ?_
          refine qr_aload_n o (q_dm dm_L_law 734 rfl) rfl ?_
          refine qr_iload_n o (q_dm dm_L_law 735 rfl) rfl ?_
          refine qr_iconst o (q_dm dm_L_law 736 rfl) ic_2 ?_
          refine qr_iadd o (q_dm dm_L_law 737 rfl) ?_
          refine qr_sald o (q_dm dm_L_law 738 rfl) ?_
          refine qr_aload_n o (q_dm dm_L_law 739 rfl) rfl ?_
          refine qr_iload_n o (q_dm dm_L_law 740 rfl) rfl ?_
          refine qr_iconst o (q_dm dm_L_law 741 rfl) ic_3 ?_
          refine qr_iadd o (q_dm dm_L_law 742 rfl) ?_
          refine qr_sald o (q_dm dm_L_law 743 rfl) ?_
          refine qr_aload_n o (q_dm dm_L_law 744 rfl) rfl ?_
          refine qr_iload_n o (q_dm dm_L_law 745 rfl) rfl ?_
          refine qr_iconst o (q_dm dm_L_law 746 rfl) ic_4 ?_
          refine qr_iadd o (q_dm dm_L_law 747 rfl) ?_
          refine qr_sald o (q_dm dm_L_law 748 rfl) ?_
          refine qr_if_eq (tgt := 997) o (q_dm dm_L_law 749 rfl) (by decide) ?_ ?_
          · refine qr_iconst o (q_dm dm_L_law 752 rfl) ic_0 ?_
            refine qr_aload_n o (q_dm dm_L_law 753 rfl) rfl ?_
            refine qr_iload_n o (q_dm dm_L_law 754 rfl) rfl ?_
            refine qr_iconst o (q_dm dm_L_law 755 rfl) ic_5 ?_
            refine qr_iadd o (q_dm dm_L_law 756 rfl) ?_
            refine qr_sald o (q_dm dm_L_law 757 rfl) ?_
            refine qr_if_eq (tgt := 1010) o (q_dm dm_L_law 758 rfl) (by decide) ?_ ?_
            · refine qr_iconst o (q_dm dm_L_law 761 rfl) ic_0 ?_
              refine qr_aload_n o (q_dm dm_L_law 762 rfl) rfl ?_
              refine qr_iload_n o (q_dm dm_L_law 763 rfl) rfl ?_
              refine qr_bipush o (q_dm dm_L_law 764 rfl) bi_6 ?_
              refine qr_iadd o (q_dm dm_L_law 765 rfl) ?_
              refine qr_sald o (q_dm dm_L_law 766 rfl) ?_
              refine qr_callv_i (As := [.inl (g.2.2.2.2.2.2 (a3 + (1 : Int32)).toNatClampNeg), .inl (g.2.2.2.2.2.2 (a3 + (2 : Int32)).toNatClampNeg), .inl (g.2.2.2.2.2.2 (a3 + (3 : Int32)).toNatClampNeg), .inl (0 : Int32), .inl (0 : Int32), .inl (g.2.2.2.2.2.2 (a3 + (6 : Int32)).toNatClampNeg)]) (S := [.inl r137]) o (a_X12_game g k.2.1 n j r hj hr (g.2.2.2.2.2.2 (a3 + (1 : Int32)).toNatClampNeg) (g.2.2.2.2.2.2 (a3 + (2 : Int32)).toNatClampNeg) (g.2.2.2.2.2.2 (a3 + (3 : Int32)).toNatClampNeg) (0 : Int32) (0 : Int32) (g.2.2.2.2.2.2 (a3 + (6 : Int32)).toNatClampNeg) m138) (Nat.le_of_ble_eq_true rfl) zv_X12_game rfl cf_X12 (sh77 j r) ml_L_96 (Nat.le_of_ble_eq_true rfl) (q_dm dm_L_law 767 rfl) (fun r139 m140 => ?_)
              refine qr_icmp_eq (tgt := 1182) o (q_dm dm_L_law 768 rfl) (by decide) ?_ ?_
              · refine qs_iincl2 (L' := fun x141 => [some (.inr (some 1000)), some (.inr (some 0)), some (.inr (some 77)), some (.inl x141)]) o (q_dm dm_L_law 896 rfl) rfl ic_7 (Nat.le_of_ble_eq_true rfl) (fun _ => rfl) (fun x141 => ?_)
                refine qr_goto (tgt := 18) o (q_dm dm_L_law 897 rfl) (by decide) ?_
                exact qr_loc (q_leS (q_leS (q_leS (q_leS q_le0)))) (hK18 x141 m140)
              · refine qr_iconst o (q_dm dm_L_law 769 rfl) ic_0 ?_
                exact qr_none
            · refine qr_iconst o (q_dm dm_L_law 759 rfl) ic_1 ?_
              refine qr_goto (tgt := 1011) o (q_dm dm_L_law 760 rfl) (by decide) ?_
              refine qr_aload_n o (q_dm dm_L_law 762 rfl) rfl ?_
              refine qr_iload_n o (q_dm dm_L_law 763 rfl) rfl ?_
              refine qr_bipush o (q_dm dm_L_law 764 rfl) bi_6 ?_
              refine qr_iadd o (q_dm dm_L_law 765 rfl) ?_
              refine qr_sald o (q_dm dm_L_law 766 rfl) ?_
              refine qr_callv_i (As := [.inl (g.2.2.2.2.2.2 (a3 + (1 : Int32)).toNatClampNeg), .inl (g.2.2.2.2.2.2 (a3 + (2 : Int32)).toNatClampNeg), .inl (g.2.2.2.2.2.2 (a3 + (3 : Int32)).toNatClampNeg), .inl (0 : Int32), .inl (1 : Int32), .inl (g.2.2.2.2.2.2 (a3 + (6 : Int32)).toNatClampNeg)]) (S := [.inl r137]) o (a_X12_game g k.2.1 n j r hj hr (g.2.2.2.2.2.2 (a3 + (1 : Int32)).toNatClampNeg) (g.2.2.2.2.2.2 (a3 + (2 : Int32)).toNatClampNeg) (g.2.2.2.2.2.2 (a3 + (3 : Int32)).toNatClampNeg) (0 : Int32) (1 : Int32) (g.2.2.2.2.2.2 (a3 + (6 : Int32)).toNatClampNeg) m138) (Nat.le_of_ble_eq_true rfl) zv_X12_game rfl cf_X12 (sh77 j r) ml_L_96 (Nat.le_of_ble_eq_true rfl) (q_dm dm_L_law 767 rfl) (fun r142 m143 => ?_)
              refine qr_icmp_eq (tgt := 1182) o (q_dm dm_L_law 768 rfl) (by decide) ?_ ?_
              · refine qs_iincl2 (L' := fun x144 => [some (.inr (some 1000)), some (.inr (some 0)), some (.inr (some 77)), some (.inl x144)]) o (q_dm dm_L_law 896 rfl) rfl ic_7 (Nat.le_of_ble_eq_true rfl) (fun _ => rfl) (fun x144 => ?_)
                refine qr_goto (tgt := 18) o (q_dm dm_L_law 897 rfl) (by decide) ?_
                exact qr_loc (q_leS (q_leS (q_leS (q_leS q_le0)))) (hK18 x144 m143)
              · refine qr_iconst o (q_dm dm_L_law 769 rfl) ic_0 ?_
                exact qr_none
          · refine qr_iconst o (q_dm dm_L_law 750 rfl) ic_1 ?_
            refine qr_goto (tgt := 998) o (q_dm dm_L_law 751 rfl) (by decide) ?_
            refine qr_aload_n o (q_dm dm_L_law 753 rfl) rfl ?_
            refine qr_iload_n o (q_dm dm_L_law 754 rfl) rfl ?_
            refine qr_iconst o (q_dm dm_L_law 755 rfl) ic_5 ?_
            refine qr_iadd o (q_dm dm_L_law 756 rfl) ?_
            refine qr_sald o (q_dm dm_L_law 757 rfl) ?_
            refine qr_if_eq (tgt := 1010) o (q_dm dm_L_law 758 rfl) (by decide) ?_ ?_
            · refine qr_iconst o (q_dm dm_L_law 761 rfl) ic_0 ?_
              refine qr_aload_n o (q_dm dm_L_law 762 rfl) rfl ?_
              refine qr_iload_n o (q_dm dm_L_law 763 rfl) rfl ?_
              refine qr_bipush o (q_dm dm_L_law 764 rfl) bi_6 ?_
              refine qr_iadd o (q_dm dm_L_law 765 rfl) ?_
              refine qr_sald o (q_dm dm_L_law 766 rfl) ?_
              refine qr_callv_i (As := [.inl (g.2.2.2.2.2.2 (a3 + (1 : Int32)).toNatClampNeg), .inl (g.2.2.2.2.2.2 (a3 + (2 : Int32)).toNatClampNeg), .inl (g.2.2.2.2.2.2 (a3 + (3 : Int32)).toNatClampNeg), .inl (1 : Int32), .inl (0 : Int32), .inl (g.2.2.2.2.2.2 (a3 + (6 : Int32)).toNatClampNeg)]) (S := [.inl r137]) o (a_X12_game g k.2.1 n j r hj hr (g.2.2.2.2.2.2 (a3 + (1 : Int32)).toNatClampNeg) (g.2.2.2.2.2.2 (a3 + (2 : Int32)).toNatClampNeg) (g.2.2.2.2.2.2 (a3 + (3 : Int32)).toNatClampNeg) (1 : Int32) (0 : Int32) (g.2.2.2.2.2.2 (a3 + (6 : Int32)).toNatClampNeg) m138) (Nat.le_of_ble_eq_true rfl) zv_X12_game rfl cf_X12 (sh77 j r) ml_L_96 (Nat.le_of_ble_eq_true rfl) (q_dm dm_L_law 767 rfl) (fun r145 m146 => ?_)
              refine qr_icmp_eq (tgt := 1182) o (q_dm dm_L_law 768 rfl) (by decide) ?_ ?_
              · refine qs_iincl2 (L' := fun x147 => [some (.inr (some 1000)), some (.inr (some 0)), some (.inr (some 77)), some (.inl x147)]) o (q_dm dm_L_law 896 rfl) rfl ic_7 (Nat.le_of_ble_eq_true rfl) (fun _ => rfl) (fun x147 => ?_)
                refine qr_goto (tgt := 18) o (q_dm dm_L_law 897 rfl) (by decide) ?_
                exact qr_loc (q_leS (q_leS (q_leS (q_leS q_le0)))) (hK18 x147 m146)
              · refine qr_iconst o (q_dm dm_L_law 769 rfl) ic_0 ?_
                exact qr_none
            · refine qr_iconst o (q_dm dm_L_law 759 rfl) ic_1 ?_
              refine qr_goto (tgt := 1011) o (q_dm dm_L_law 760 rfl) (by decide) ?_
              refine qr_aload_n o (q_dm dm_L_law 762 rfl) rfl ?_
              refine qr_iload_n o (q_dm dm_L_law 763 rfl) rfl ?_
              refine qr_bipush o (q_dm dm_L_law 764 rfl) bi_6 ?_
              refine qr_iadd o (q_dm dm_L_law 765 rfl) ?_
              refine qr_sald o (q_dm dm_L_law 766 rfl) ?_
              refine qr_callv_i (As := [.inl (g.2.2.2.2.2.2 (a3 + (1 : Int32)).toNatClampNeg), .inl (g.2.2.2.2.2.2 (a3 + (2 : Int32)).toNatClampNeg), .inl (g.2.2.2.2.2.2 (a3 + (3 : Int32)).toNatClampNeg), .inl (1 : Int32), .inl (1 : Int32), .inl (g.2.2.2.2.2.2 (a3 + (6 : Int32)).toNatClampNeg)]) (S := [.inl r137]) o (a_X12_game g k.2.1 n j r hj hr (g.2.2.2.2.2.2 (a3 + (1 : Int32)).toNatClampNeg) (g.2.2.2.2.2.2 (a3 + (2 : Int32)).toNatClampNeg) (g.2.2.2.2.2.2 (a3 + (3 : Int32)).toNatClampNeg) (1 : Int32) (1 : Int32) (g.2.2.2.2.2.2 (a3 + (6 : Int32)).toNatClampNeg) m138) (Nat.le_of_ble_eq_true rfl) zv_X12_game rfl cf_X12 (sh77 j r) ml_L_96 (Nat.le_of_ble_eq_true rfl) (q_dm dm_L_law 767 rfl) (fun r148 m149 => ?_)
              refine qr_icmp_eq (tgt := 1182) o (q_dm dm_L_law 768 rfl) (by decide) ?_ ?_
              · refine qs_iincl2 (L' := fun x150 => [some (.inr (some 1000)), some (.inr (some 0)), some (.inr (some 77)), some (.inl x150)]) o (q_dm dm_L_law 896 rfl) rfl ic_7 (Nat.le_of_ble_eq_true rfl) (fun _ => rfl) (fun x150 => ?_)
                refine qr_goto (tgt := 18) o (q_dm dm_L_law 897 rfl) (by decide) ?_
                exact qr_loc (q_leS (q_leS (q_leS (q_leS q_le0)))) (hK18 x150 m149)
              · refine qr_iconst o (q_dm dm_L_law 769 rfl) ic_0 ?_
                exact qr_none
    · refine qr_aload_n o (q_dm dm_L_law 771 rfl) rfl ?_
      refine qr_aload_n o (q_dm dm_L_law 772 rfl) rfl ?_
      refine qr_iload_n o (q_dm dm_L_law 773 rfl) rfl ?_
      refine qr_iconst o (q_dm dm_L_law 774 rfl) ic_1 ?_
      refine qr_iadd o (q_dm dm_L_law 775 rfl) ?_
      refine qr_sald o (q_dm dm_L_law 776 rfl) ?_
      refine qr_aload_n o (q_dm dm_L_law 777 rfl) rfl ?_
      refine qr_iload_n o (q_dm dm_L_law 778 rfl) rfl ?_
      refine qr_iconst o (q_dm dm_L_law 779 rfl) ic_2 ?_
      refine qr_iadd o (q_dm dm_L_law 780 rfl) ?_
      refine qr_sald o (q_dm dm_L_law 781 rfl) ?_
      refine qr_aload_n o (q_dm dm_L_law 782 rfl) rfl ?_
      refine qr_iload_n o (q_dm dm_L_law 783 rfl) rfl ?_
      refine qr_iconst o (q_dm dm_L_law 784 rfl) ic_3 ?_
      refine qr_iadd o (q_dm dm_L_law 785 rfl) ?_
      refine qr_sald o (q_dm dm_L_law 786 rfl) ?_
      refine qr_aload_n o (q_dm dm_L_law 787 rfl) rfl ?_
      refine qr_iload_n o (q_dm dm_L_law 788 rfl) rfl ?_
      refine qr_iconst o (q_dm dm_L_law 789 rfl) ic_4 ?_
      refine qr_iadd o (q_dm dm_L_law 790 rfl) ?_
      refine qr_sald o (q_dm dm_L_law 791 rfl) ?_
      refine qr_aload_n o (q_dm dm_L_law 792 rfl) rfl ?_
      refine qr_iload_n o (q_dm dm_L_law 793 rfl) rfl ?_
      refine qr_iconst o (q_dm dm_L_law 794 rfl) ic_5 ?_
      refine qr_iadd o (q_dm dm_L_law 795 rfl) ?_
      refine qr_sald o (q_dm dm_L_law 796 rfl) ?_
      refine qr_aload_n o (q_dm dm_L_law 797 rfl) rfl ?_
      refine qr_iload_n o (q_dm dm_L_law 798 rfl) rfl ?_
      refine qr_bipush o (q_dm dm_L_law 799 rfl) bi_6 ?_
      refine qr_iadd o (q_dm dm_L_law 800 rfl) ?_
      refine qr_sald o (q_dm dm_L_law 801 rfl) ?_
      refine qr_callv_i (As := [.inl (g.2.2.2.2.2.2 (a3 + (1 : Int32)).toNatClampNeg), .inl (g.2.2.2.2.2.2 (a3 + (2 : Int32)).toNatClampNeg), .inl (g.2.2.2.2.2.2 (a3 + (3 : Int32)).toNatClampNeg), .inl (g.2.2.2.2.2.2 (a3 + (4 : Int32)).toNatClampNeg), .inl (g.2.2.2.2.2.2 (a3 + (5 : Int32)).toNatClampNeg), .inl (g.2.2.2.2.2.2 (a3 + (6 : Int32)).toNatClampNeg)]) (S := []) o (a_X11_court g k.2.1 n j r hj hr (g.2.2.2.2.2.2 (a3 + (1 : Int32)).toNatClampNeg) (g.2.2.2.2.2.2 (a3 + (2 : Int32)).toNatClampNeg) (g.2.2.2.2.2.2 (a3 + (3 : Int32)).toNatClampNeg) (g.2.2.2.2.2.2 (a3 + (4 : Int32)).toNatClampNeg) (g.2.2.2.2.2.2 (a3 + (5 : Int32)).toNatClampNeg) (g.2.2.2.2.2.2 (a3 + (6 : Int32)).toNatClampNeg) M) (Nat.le_of_ble_eq_true rfl) zv_X11_court rfl cf_X11 (sh0 j r) ml_L_97 (Nat.le_of_ble_eq_true rfl) (q_dm dm_L_law 802 rfl) (fun r151 m152 => ?_)
      refine qr_aload_n o (q_dm dm_L_law 803 rfl) rfl ?_
      refine qr_aload_n o (q_dm dm_L_law 804 rfl) rfl ?_
      refine qr_iload_n o (q_dm dm_L_law 805 rfl) rfl ?_
      refine qr_iconst o (q_dm dm_L_law 806 rfl) ic_1 ?_
      refine qr_iadd o (q_dm dm_L_law 807 rfl) ?_
      refine qr_sald o (q_dm dm_L_law 808 rfl) ?_
      refine qr_aload_n o (q_dm dm_L_law 809 rfl) rfl ?_
      refine qr_iload_n o (q_dm dm_L_law 810 rfl) rfl ?_
      refine qr_iconst o (q_dm dm_L_law 811 rfl) ic_2 ?_
      refine qr_iadd o (q_dm dm_L_law 812 rfl) ?_
      refine qr_sald o (q_dm dm_L_law 813 rfl) ?_
      refine qr_aload_n o (q_dm dm_L_law 814 rfl) rfl ?_
      refine qr_iload_n o (q_dm dm_L_law 815 rfl) rfl ?_
      refine qr_iconst o (q_dm dm_L_law 816 rfl) ic_3 ?_
      refine qr_iadd o (q_dm dm_L_law 817 rfl) ?_
      refine qr_sald o (q_dm dm_L_law 818 rfl) ?_
      refine qr_aload_n o (q_dm dm_L_law 819 rfl) rfl ?_
      refine qr_iload_n o (q_dm dm_L_law 820 rfl) rfl ?_
      refine qr_iconst o (q_dm dm_L_law 821 rfl) ic_4 ?_
      refine qr_iadd o (q_dm dm_L_law 822 rfl) ?_
      refine qr_sald o (q_dm dm_L_law 823 rfl) ?_
      refine qr_aload_n o (q_dm dm_L_law 824 rfl) rfl ?_
      refine qr_iload_n o (q_dm dm_L_law 825 rfl) rfl ?_
      refine qr_iconst o (q_dm dm_L_law 826 rfl) ic_5 ?_
      refine qr_iadd o (q_dm dm_L_law 827 rfl) ?_
      refine qr_sald o (q_dm dm_L_law 828 rfl) ?_
      refine qr_aload_n o (q_dm dm_L_law 829 rfl) rfl ?_
      refine qr_iload_n o (q_dm dm_L_law 830 rfl) rfl ?_
      refine qr_bipush o (q_dm dm_L_law 831 rfl) bi_6 ?_
      refine qr_iadd o (q_dm dm_L_law 832 rfl) ?_
      refine qr_sald o (q_dm dm_L_law 833 rfl) ?_
      refine qr_callv_i (As := [.inl (g.2.2.2.2.2.2 (a3 + (1 : Int32)).toNatClampNeg), .inl (g.2.2.2.2.2.2 (a3 + (2 : Int32)).toNatClampNeg), .inl (g.2.2.2.2.2.2 (a3 + (3 : Int32)).toNatClampNeg), .inl (g.2.2.2.2.2.2 (a3 + (4 : Int32)).toNatClampNeg), .inl (g.2.2.2.2.2.2 (a3 + (5 : Int32)).toNatClampNeg), .inl (g.2.2.2.2.2.2 (a3 + (6 : Int32)).toNatClampNeg)]) (S := [.inl r151]) o (a_X12_court g k.2.1 n j r hj hr (g.2.2.2.2.2.2 (a3 + (1 : Int32)).toNatClampNeg) (g.2.2.2.2.2.2 (a3 + (2 : Int32)).toNatClampNeg) (g.2.2.2.2.2.2 (a3 + (3 : Int32)).toNatClampNeg) (g.2.2.2.2.2.2 (a3 + (4 : Int32)).toNatClampNeg) (g.2.2.2.2.2.2 (a3 + (5 : Int32)).toNatClampNeg) (g.2.2.2.2.2.2 (a3 + (6 : Int32)).toNatClampNeg) m152) (Nat.le_of_ble_eq_true rfl) zv_X12_court rfl cf_X12 (sh77 j r) ml_L_101 (Nat.le_of_ble_eq_true rfl) (q_dm dm_L_law 834 rfl) (fun r153 m154 => ?_)
      refine qr_icmp_eq (tgt := 1182) o (q_dm dm_L_law 835 rfl) (by decide) ?_ ?_
      · refine qs_iincl2 (L' := fun x155 => [some (.inr (some 1000)), some (.inr (some 0)), some (.inr (some 77)), some (.inl x155)]) o (q_dm dm_L_law 896 rfl) rfl ic_7 (Nat.le_of_ble_eq_true rfl) (fun _ => rfl) (fun x155 => ?_)
        refine qr_goto (tgt := 18) o (q_dm dm_L_law 897 rfl) (by decide) ?_
        exact qr_loc (q_leS (q_leS (q_leS (q_leS q_le0)))) (hK18 x155 m154)
      · refine qr_iconst o (q_dm dm_L_law 836 rfl) ic_0 ?_
        exact qr_none
    · refine qr_aload_n o (q_dm dm_L_law 838 rfl) rfl ?_
      refine qr_callv_i (As := []) (S := []) o (a_X11_keep g k.2.1 n j r hj hr  M) (Nat.le_of_ble_eq_true rfl) zv_X11_keep rfl cf_X11 (sh0 j r) ml_L_102 (Nat.le_of_ble_eq_true rfl) (q_dm dm_L_law 839 rfl) (fun r156 m157 => ?_)
      refine qr_aload_n o (q_dm dm_L_law 840 rfl) rfl ?_
      refine qr_callv_i (As := []) (S := [.inl r156]) o (a_X12_keep g k.2.1 n j r hj hr  m157) (Nat.le_of_ble_eq_true rfl) zv_X12_keep rfl cf_X12 (sh77 j r) ml_L_106 (Nat.le_of_ble_eq_true rfl) (q_dm dm_L_law 841 rfl) (fun r158 m159 => ?_)
      refine qr_icmp_eq (tgt := 1182) o (q_dm dm_L_law 842 rfl) (by decide) ?_ ?_
      · refine qs_iincl2 (L' := fun x160 => [some (.inr (some 1000)), some (.inr (some 0)), some (.inr (some 77)), some (.inl x160)]) o (q_dm dm_L_law 896 rfl) rfl ic_7 (Nat.le_of_ble_eq_true rfl) (fun _ => rfl) (fun x160 => ?_)
        refine qr_goto (tgt := 18) o (q_dm dm_L_law 897 rfl) (by decide) ?_
        exact qr_loc (q_leS (q_leS (q_leS (q_leS q_le0)))) (hK18 x160 m159)
      · refine qr_iconst o (q_dm dm_L_law 843 rfl) ic_0 ?_
        exact qr_none
    · refine qr_aload_n o (q_dm dm_L_law 845 rfl) rfl ?_
      refine qr_callv_i (As := []) (S := []) o (a_X11_undo g k.2.1 n j r hj hr  M) (Nat.le_of_ble_eq_true rfl) zv_X11_undo rfl cf_X11 (sh0 j r) ml_L_107 (Nat.le_of_ble_eq_true rfl) (q_dm dm_L_law 846 rfl) (fun r161 m162 => ?_)
      refine qr_aload_n o (q_dm dm_L_law 847 rfl) rfl ?_
      refine qr_callv_i (As := []) (S := [.inl r161]) o (a_X12_undo g k.2.1 n j r hj hr  m162) (Nat.le_of_ble_eq_true rfl) zv_X12_undo rfl cf_X12 (sh77 j r) ml_L_111 (Nat.le_of_ble_eq_true rfl) (q_dm dm_L_law 848 rfl) (fun r163 m164 => ?_)
      refine qr_icmp_eq (tgt := 1182) o (q_dm dm_L_law 849 rfl) (by decide) ?_ ?_
      · refine qs_iincl2 (L' := fun x165 => [some (.inr (some 1000)), some (.inr (some 0)), some (.inr (some 77)), some (.inl x165)]) o (q_dm dm_L_law 896 rfl) rfl ic_7 (Nat.le_of_ble_eq_true rfl) (fun _ => rfl) (fun x165 => ?_)
        refine qr_goto (tgt := 18) o (q_dm dm_L_law 897 rfl) (by decide) ?_
        exact qr_loc (q_leS (q_leS (q_leS (q_leS q_le0)))) (hK18 x165 m164)
      · refine qr_iconst o (q_dm dm_L_law 850 rfl) ic_0 ?_
        exact qr_none
    · refine qr_aload_n o (q_dm dm_L_law 852 rfl) rfl ?_
      refine qr_aload_n o (q_dm dm_L_law 853 rfl) rfl ?_
      refine qr_iload_n o (q_dm dm_L_law 854 rfl) rfl ?_
      refine qr_iconst o (q_dm dm_L_law 855 rfl) ic_1 ?_
      refine qr_iadd o (q_dm dm_L_law 856 rfl) ?_
      refine qr_sald o (q_dm dm_L_law 857 rfl) ?_
      refine qr_aload_n o (q_dm dm_L_law 858 rfl) rfl ?_
      refine qr_iload_n o (q_dm dm_L_law 859 rfl) rfl ?_
      refine qr_iconst o (q_dm dm_L_law 860 rfl) ic_2 ?_
      refine qr_iadd o (q_dm dm_L_law 861 rfl) ?_
      refine qr_sald o (q_dm dm_L_law 862 rfl) ?_
      refine qr_callv_i (As := [.inl (g.2.2.2.2.2.2 (a3 + (1 : Int32)).toNatClampNeg), .inl (g.2.2.2.2.2.2 (a3 + (2 : Int32)).toNatClampNeg)]) (S := []) o (a_X11_check g k.2.1 n j r hj hr (g.2.2.2.2.2.2 (a3 + (1 : Int32)).toNatClampNeg) (g.2.2.2.2.2.2 (a3 + (2 : Int32)).toNatClampNeg) M) (Nat.le_of_ble_eq_true rfl) zv_X11_check rfl cf_X11 (sh0 j r) ml_L_112 (Nat.le_of_ble_eq_true rfl) (q_dm dm_L_law 863 rfl) (fun r166 m167 => ?_)
      refine qr_aload_n o (q_dm dm_L_law 864 rfl) rfl ?_
      refine qr_aload_n o (q_dm dm_L_law 865 rfl) rfl ?_
      refine qr_iload_n o (q_dm dm_L_law 866 rfl) rfl ?_
      refine qr_iconst o (q_dm dm_L_law 867 rfl) ic_1 ?_
      refine qr_iadd o (q_dm dm_L_law 868 rfl) ?_
      refine qr_sald o (q_dm dm_L_law 869 rfl) ?_
      refine qr_aload_n o (q_dm dm_L_law 870 rfl) rfl ?_
      refine qr_iload_n o (q_dm dm_L_law 871 rfl) rfl ?_
      refine qr_iconst o (q_dm dm_L_law 872 rfl) ic_2 ?_
      refine qr_iadd o (q_dm dm_L_law 873 rfl) ?_
      refine qr_sald o (q_dm dm_L_law 874 rfl) ?_
      refine qr_callv_i (As := [.inl (g.2.2.2.2.2.2 (a3 + (1 : Int32)).toNatClampNeg), .inl (g.2.2.2.2.2.2 (a3 + (2 : Int32)).toNatClampNeg)]) (S := [.inl r166]) o (a_X12_check g k.2.1 n j r hj hr (g.2.2.2.2.2.2 (a3 + (1 : Int32)).toNatClampNeg) (g.2.2.2.2.2.2 (a3 + (2 : Int32)).toNatClampNeg) m167) (Nat.le_of_ble_eq_true rfl) zv_X12_check rfl cf_X12 (sh77 j r) ml_L_115 (Nat.le_of_ble_eq_true rfl) (q_dm dm_L_law 875 rfl) (fun r168 m169 => ?_)
      refine qr_icmp_eq (tgt := 1182) o (q_dm dm_L_law 876 rfl) (by decide) ?_ ?_
      · refine qs_iincl2 (L' := fun x170 => [some (.inr (some 1000)), some (.inr (some 0)), some (.inr (some 77)), some (.inl x170)]) o (q_dm dm_L_law 896 rfl) rfl ic_7 (Nat.le_of_ble_eq_true rfl) (fun _ => rfl) (fun x170 => ?_)
        refine qr_goto (tgt := 18) o (q_dm dm_L_law 897 rfl) (by decide) ?_
        exact qr_loc (q_leS (q_leS (q_leS (q_leS q_le0)))) (hK18 x170 m169)
      · refine qr_iconst o (q_dm dm_L_law 877 rfl) ic_0 ?_
        exact qr_none
    · refine qr_aload_n o (q_dm dm_L_law 879 rfl) rfl ?_
      refine qr_aload_n o (q_dm dm_L_law 880 rfl) rfl ?_
      refine qr_iload_n o (q_dm dm_L_law 881 rfl) rfl ?_
      refine qr_iconst o (q_dm dm_L_law 882 rfl) ic_1 ?_
      refine qr_iadd o (q_dm dm_L_law 883 rfl) ?_
      refine qr_sald o (q_dm dm_L_law 884 rfl) ?_
      refine qr_callv_i (As := [.inl (g.2.2.2.2.2.2 (a3 + (1 : Int32)).toNatClampNeg)]) (S := []) o (a_X11_count g k.2.1 n j r hj hr (g.2.2.2.2.2.2 (a3 + (1 : Int32)).toNatClampNeg) M) (Nat.le_of_ble_eq_true rfl) zv_X11_count rfl cf_X11 (sh0 j r) ml_L_116 (Nat.le_of_ble_eq_true rfl) (q_dm dm_L_law 885 rfl) (fun r171 m172 => ?_)
      refine qr_aload_n o (q_dm dm_L_law 886 rfl) rfl ?_
      refine qr_aload_n o (q_dm dm_L_law 887 rfl) rfl ?_
      refine qr_iload_n o (q_dm dm_L_law 888 rfl) rfl ?_
      refine qr_iconst o (q_dm dm_L_law 889 rfl) ic_1 ?_
      refine qr_iadd o (q_dm dm_L_law 890 rfl) ?_
      refine qr_sald o (q_dm dm_L_law 891 rfl) ?_
      refine qr_callv_i (As := [.inl (g.2.2.2.2.2.2 (a3 + (1 : Int32)).toNatClampNeg)]) (S := [.inl r171]) o (a_X12_count g k.2.1 n j r hj hr (g.2.2.2.2.2.2 (a3 + (1 : Int32)).toNatClampNeg) m172) (Nat.le_of_ble_eq_true rfl) zv_X12_count rfl cf_X12 (sh77 j r) ml_L_119 (Nat.le_of_ble_eq_true rfl) (q_dm dm_L_law 892 rfl) (fun r173 m174 => ?_)
      refine qr_icmp_eq (tgt := 1182) o (q_dm dm_L_law 893 rfl) (by decide) ?_ ?_
      · refine qs_iincl2 (L' := fun x175 => [some (.inr (some 1000)), some (.inr (some 0)), some (.inr (some 77)), some (.inl x175)]) o (q_dm dm_L_law 896 rfl) rfl ic_7 (Nat.le_of_ble_eq_true rfl) (fun _ => rfl) (fun x175 => ?_)
        refine qr_goto (tgt := 18) o (q_dm dm_L_law 897 rfl) (by decide) ?_
        exact qr_loc (q_leS (q_leS (q_leS (q_leS q_le0)))) (hK18 x175 m174)
      · refine qr_iconst o (q_dm dm_L_law 894 rfl) ic_0 ?_
        exact qr_none

def f_L_law (g : qG) (n : Nat) : Nat → Nat → Nat → Int32 → qM → qR
  | 0, _, _, _, _ => none
  | m + 1, j, r, a3, M => b_L_law g n j r (f_L_law g n m j r) (f_L_law g n m r j) a3 M
theorem w_L_law {g : qG} {k : qK} (hR : ∀ (Z : List qSh) (M : qM), qRT g k zL_law 1 (Z, M)) (n : Nat) (o : qOk g 68 zL_law k) : ∀ (m : Nat) (Z : List qSh) (j r : Nat), q_isLaw j → q_isLaw r → ∀ (a3 : Int32) (M : qM), qAE g k zL_law Z 18 [some (.inr (some 1000)), some (.inr (some 0)), some (.inr (some 77)), some (.inl a3)] [] (qL j r, M) (f_L_law g n m j r a3 M) := by
  intro m
  induction m with
  | zero =>
    intro Z j r hj hr a3 M
    exact qr_none
  | succ m ih =>
    intro Z j r hj hr a3 M
    exact wb_L_law hR n j r hj hr o (f_L_law g n m j r) (f_L_law g n m r j) (ih Z j r hj hr) (ih Z r j hr hj) a3 M
