def in_323_0 : List zIns := [(0, .new 7, 3), (3, .dup, 1), (4, .invokespecial 9, 3), (7, .astore_n 1, 1), (8, .new 10, 3), (11, .dup, 1), (12, .invokespecial 12, 3), (15, .astore_n 2, 1),
  (16, .iconst 0, 1), (17, .istore_n 3, 1), (18, .iload_n 3, 1), (19, .aload_n 0, 1), (20, .arraylength, 1), (21, .bipush 7, 2), (23, .isub, 1), (24, .if_icmp .gt 2073, 3),
  (27, .aload_n 0, 1), (28, .iload_n 3, 1), (29, .iaload, 1), (30, .bipush 63, 2), (32, .iand, 1), (33, .tableswitch 2058 0 38 #[171, 234, 257, 290, 313, 346, 425, 468, 501, 554, 629, 682, 751, 794, 817, 860, 923, 966, 1009, 1089, 1142, 1205, 1268, 1311, 1364, 1417, 1476, 1535, 1568, 1611, 1644, 1703, 1746, 1838, 1897, 1930, 1989, 2012, 2035], 171), (204, .aload_n 1, 1), (205, .aload_n 0, 1),
  (206, .iload_n 3, 1), (207, .iconst 1, 1), (208, .iadd, 1), (209, .iaload, 1), (210, .aload_n 0, 1), (211, .iload_n 3, 1), (212, .iconst 2, 1), (213, .iadd, 1),
  (214, .iaload, 1), (215, .aload_n 0, 1), (216, .iload_n 3, 1), (217, .iconst 3, 1), (218, .iadd, 1), (219, .iaload, 1), (220, .aload_n 0, 1), (221, .iload_n 3, 1),
  (222, .iconst 4, 1), (223, .iadd, 1), (224, .iaload, 1), (225, .aload_n 0, 1), (226, .iload_n 3, 1), (227, .iconst 5, 1), (228, .iadd, 1), (229, .iaload, 1),
  (230, .invokevirtual 13, 3), (233, .aload_n 2, 1), (234, .aload_n 0, 1), (235, .iload_n 3, 1), (236, .iconst 1, 1), (237, .iadd, 1), (238, .iaload, 1), (239, .aload_n 0, 1),
  (240, .iload_n 3, 1), (241, .iconst 2, 1), (242, .iadd, 1), (243, .iaload, 1), (244, .aload_n 0, 1), (245, .iload_n 3, 1), (246, .iconst 3, 1), (247, .iadd, 1),
  (248, .iaload, 1), (249, .aload_n 0, 1), (250, .iload_n 3, 1), (251, .iconst 4, 1), (252, .iadd, 1), (253, .iaload, 1), (254, .aload_n 0, 1), (255, .iload_n 3, 1),
  (256, .iconst 5, 1), (257, .iadd, 1), (258, .iaload, 1), (259, .invokevirtual 17, 3), (262, .if_icmp .eq 1829, 3), (265, .iconst 0, 1), (266, .ireturn, 1), (267, .aload_n 1, 1)]
def in_323_1 : List zIns := [(268, .aload_n 0, 1), (269, .iload_n 3, 1), (270, .iconst 1, 1), (271, .iadd, 1), (272, .iaload, 1), (273, .invokevirtual 18, 3), (276, .aload_n 2, 1), (277, .aload_n 0, 1),
  (278, .iload_n 3, 1), (279, .iconst 1, 1), (280, .iadd, 1), (281, .iaload, 1), (282, .invokevirtual 22, 3), (285, .if_icmp .eq 1806, 3), (288, .iconst 0, 1), (289, .ireturn, 1),
  (290, .aload_n 1, 1), (291, .aload_n 0, 1), (292, .iload_n 3, 1), (293, .iconst 1, 1), (294, .iadd, 1), (295, .iaload, 1), (296, .aload_n 0, 1), (297, .iload_n 3, 1),
  (298, .iconst 2, 1), (299, .iadd, 1), (300, .iaload, 1), (301, .invokevirtual 23, 3), (304, .aload_n 2, 1), (305, .aload_n 0, 1), (306, .iload_n 3, 1), (307, .iconst 1, 1),
  (308, .iadd, 1), (309, .iaload, 1), (310, .aload_n 0, 1), (311, .iload_n 3, 1), (312, .iconst 2, 1), (313, .iadd, 1), (314, .iaload, 1), (315, .invokevirtual 27, 3),
  (318, .if_icmp .eq 1773, 3), (321, .iconst 0, 1), (322, .ireturn, 1), (323, .aload_n 1, 1), (324, .aload_n 0, 1), (325, .iload_n 3, 1), (326, .iconst 1, 1), (327, .iadd, 1),
  (328, .iaload, 1), (329, .invokevirtual 28, 3), (332, .aload_n 2, 1), (333, .aload_n 0, 1), (334, .iload_n 3, 1), (335, .iconst 1, 1), (336, .iadd, 1), (337, .iaload, 1),
  (338, .invokevirtual 31, 3), (341, .if_icmp .eq 1750, 3), (344, .iconst 0, 1), (345, .ireturn, 1), (346, .aload_n 1, 1), (347, .aload_n 0, 1), (348, .iload_n 3, 1), (349, .iconst 1, 1),
  (350, .iadd, 1), (351, .iaload, 1), (352, .aload_n 0, 1), (353, .iload_n 3, 1), (354, .iconst 2, 1), (355, .iadd, 1), (356, .iaload, 1), (357, .invokevirtual 32, 3),
  (360, .aload_n 2, 1), (361, .aload_n 0, 1), (362, .iload_n 3, 1), (363, .iconst 1, 1), (364, .iadd, 1), (365, .iaload, 1), (366, .aload_n 0, 1), (367, .iload_n 3, 1)]
def in_323_2 : List zIns := [(368, .iconst 2, 1), (369, .iadd, 1), (370, .iaload, 1), (371, .invokevirtual 35, 3), (374, .if_icmp .eq 1717, 3), (377, .iconst 0, 1), (378, .ireturn, 1), (379, .aload_n 1, 1),
  (380, .aload_n 0, 1), (381, .iload_n 3, 1), (382, .iconst 1, 1), (383, .iadd, 1), (384, .iaload, 1), (385, .aload_n 0, 1), (386, .iload_n 3, 1), (387, .iconst 2, 1),
  (388, .iadd, 1), (389, .iaload, 1), (390, .aload_n 0, 1), (391, .iload_n 3, 1), (392, .iconst 3, 1), (393, .iadd, 1), (394, .iaload, 1), (395, .aload_n 0, 1),
  (396, .iload_n 3, 1), (397, .iconst 4, 1), (398, .iadd, 1), (399, .iaload, 1), (400, .aload_n 0, 1), (401, .iload_n 3, 1), (402, .iconst 5, 1), (403, .iadd, 1),
  (404, .iaload, 1), (405, .ifCond .eq 7, 3), (408, .iconst 1, 1), (409, .goto 4, 3), (412, .iconst 0, 1), (413, .invokevirtual 36, 3), (416, .aload_n 2, 1), (417, .aload_n 0, 1),
  (418, .iload_n 3, 1), (419, .iconst 1, 1), (420, .iadd, 1), (421, .iaload, 1), (422, .aload_n 0, 1), (423, .iload_n 3, 1), (424, .iconst 2, 1), (425, .iadd, 1),
  (426, .iaload, 1), (427, .aload_n 0, 1), (428, .iload_n 3, 1), (429, .iconst 3, 1), (430, .iadd, 1), (431, .iaload, 1), (432, .aload_n 0, 1), (433, .iload_n 3, 1),
  (434, .iconst 4, 1), (435, .iadd, 1), (436, .iaload, 1), (437, .aload_n 0, 1), (438, .iload_n 3, 1), (439, .iconst 5, 1), (440, .iadd, 1), (441, .iaload, 1),
  (442, .ifCond .eq 7, 3), (445, .iconst 1, 1), (446, .goto 4, 3), (449, .iconst 0, 1), (450, .invokevirtual 40, 3), (453, .if_icmp .eq 1638, 3), (456, .iconst 0, 1), (457, .ireturn, 1),
  (458, .aload_n 1, 1), (459, .aload_n 0, 1), (460, .iload_n 3, 1), (461, .iconst 1, 1), (462, .iadd, 1), (463, .iaload, 1), (464, .aload_n 0, 1), (465, .iload_n 3, 1)]
def in_323_3 : List zIns := [(466, .iconst 2, 1), (467, .iadd, 1), (468, .iaload, 1), (469, .aload_n 0, 1), (470, .iload_n 3, 1), (471, .iconst 3, 1), (472, .iadd, 1), (473, .iaload, 1),
  (474, .invokevirtual 41, 3), (477, .aload_n 2, 1), (478, .aload_n 0, 1), (479, .iload_n 3, 1), (480, .iconst 1, 1), (481, .iadd, 1), (482, .iaload, 1), (483, .aload_n 0, 1),
  (484, .iload_n 3, 1), (485, .iconst 2, 1), (486, .iadd, 1), (487, .iaload, 1), (488, .aload_n 0, 1), (489, .iload_n 3, 1), (490, .iconst 3, 1), (491, .iadd, 1),
  (492, .iaload, 1), (493, .invokevirtual 45, 3), (496, .if_icmp .eq 1595, 3), (499, .iconst 0, 1), (500, .ireturn, 1), (501, .aload_n 1, 1), (502, .aload_n 0, 1), (503, .iload_n 3, 1),
  (504, .iconst 1, 1), (505, .iadd, 1), (506, .iaload, 1), (507, .aload_n 0, 1), (508, .iload_n 3, 1), (509, .iconst 2, 1), (510, .iadd, 1), (511, .iaload, 1),
  (512, .invokevirtual 46, 3), (515, .aload_n 2, 1), (516, .aload_n 0, 1), (517, .iload_n 3, 1), (518, .iconst 1, 1), (519, .iadd, 1), (520, .iaload, 1), (521, .aload_n 0, 1),
  (522, .iload_n 3, 1), (523, .iconst 2, 1), (524, .iadd, 1), (525, .iaload, 1), (526, .invokevirtual 49, 3), (529, .if_icmp .eq 1562, 3), (532, .iconst 0, 1), (533, .ireturn, 1),
  (534, .aload_n 1, 1), (535, .aload_n 0, 1), (536, .iload_n 3, 1), (537, .iconst 1, 1), (538, .iadd, 1), (539, .iaload, 1), (540, .aload_n 0, 1), (541, .iload_n 3, 1),
  (542, .iconst 2, 1), (543, .iadd, 1), (544, .iaload, 1), (545, .aload_n 0, 1), (546, .iload_n 3, 1), (547, .iconst 3, 1), (548, .iadd, 1), (549, .iaload, 1),
  (550, .aload_n 0, 1), (551, .iload_n 3, 1), (552, .iconst 4, 1), (553, .iadd, 1), (554, .iaload, 1), (555, .invokevirtual 50, 3), (558, .aload_n 2, 1), (559, .aload_n 0, 1)]
def in_323_4 : List zIns := [(560, .iload_n 3, 1), (561, .iconst 1, 1), (562, .iadd, 1), (563, .iaload, 1), (564, .aload_n 0, 1), (565, .iload_n 3, 1), (566, .iconst 2, 1), (567, .iadd, 1),
  (568, .iaload, 1), (569, .aload_n 0, 1), (570, .iload_n 3, 1), (571, .iconst 3, 1), (572, .iadd, 1), (573, .iaload, 1), (574, .aload_n 0, 1), (575, .iload_n 3, 1),
  (576, .iconst 4, 1), (577, .iadd, 1), (578, .iaload, 1), (579, .invokevirtual 54, 3), (582, .if_icmp .eq 1509, 3), (585, .iconst 0, 1), (586, .ireturn, 1), (587, .aload_n 1, 1),
  (588, .aload_n 0, 1), (589, .iload_n 3, 1), (590, .iconst 1, 1), (591, .iadd, 1), (592, .iaload, 1), (593, .aload_n 0, 1), (594, .iload_n 3, 1), (595, .iconst 2, 1),
  (596, .iadd, 1), (597, .iaload, 1), (598, .aload_n 0, 1), (599, .iload_n 3, 1), (600, .iconst 3, 1), (601, .iadd, 1), (602, .iaload, 1), (603, .aload_n 0, 1),
  (604, .iload_n 3, 1), (605, .iconst 4, 1), (606, .iadd, 1), (607, .iaload, 1), (608, .aload_n 0, 1), (609, .iload_n 3, 1), (610, .iconst 5, 1), (611, .iadd, 1),
  (612, .iaload, 1), (613, .aload_n 0, 1), (614, .iload_n 3, 1), (615, .bipush 6, 2), (617, .iadd, 1), (618, .iaload, 1), (619, .invokevirtual 55, 3), (622, .aload_n 2, 1),
  (623, .aload_n 0, 1), (624, .iload_n 3, 1), (625, .iconst 1, 1), (626, .iadd, 1), (627, .iaload, 1), (628, .aload_n 0, 1), (629, .iload_n 3, 1), (630, .iconst 2, 1),
  (631, .iadd, 1), (632, .iaload, 1), (633, .aload_n 0, 1), (634, .iload_n 3, 1), (635, .iconst 3, 1), (636, .iadd, 1), (637, .iaload, 1), (638, .aload_n 0, 1),
  (639, .iload_n 3, 1), (640, .iconst 4, 1), (641, .iadd, 1), (642, .iaload, 1), (643, .aload_n 0, 1), (644, .iload_n 3, 1), (645, .iconst 5, 1), (646, .iadd, 1)]
def in_323_5 : List zIns := [(647, .iaload, 1), (648, .aload_n 0, 1), (649, .iload_n 3, 1), (650, .bipush 6, 2), (652, .iadd, 1), (653, .iaload, 1), (654, .invokevirtual 59, 3), (657, .if_icmp .eq 1434, 3),
  (660, .iconst 0, 1), (661, .ireturn, 1), (662, .aload_n 1, 1), (663, .aload_n 0, 1), (664, .iload_n 3, 1), (665, .iconst 1, 1), (666, .iadd, 1), (667, .iaload, 1),
  (668, .aload_n 0, 1), (669, .iload_n 3, 1), (670, .iconst 2, 1), (671, .iadd, 1), (672, .iaload, 1), (673, .aload_n 0, 1), (674, .iload_n 3, 1), (675, .iconst 3, 1),
  (676, .iadd, 1), (677, .iaload, 1), (678, .aload_n 0, 1), (679, .iload_n 3, 1), (680, .iconst 4, 1), (681, .iadd, 1), (682, .iaload, 1), (683, .invokevirtual 60, 3),
  (686, .aload_n 2, 1), (687, .aload_n 0, 1), (688, .iload_n 3, 1), (689, .iconst 1, 1), (690, .iadd, 1), (691, .iaload, 1), (692, .aload_n 0, 1), (693, .iload_n 3, 1),
  (694, .iconst 2, 1), (695, .iadd, 1), (696, .iaload, 1), (697, .aload_n 0, 1), (698, .iload_n 3, 1), (699, .iconst 3, 1), (700, .iadd, 1), (701, .iaload, 1),
  (702, .aload_n 0, 1), (703, .iload_n 3, 1), (704, .iconst 4, 1), (705, .iadd, 1), (706, .iaload, 1), (707, .invokevirtual 63, 3), (710, .if_icmp .eq 1381, 3), (713, .iconst 0, 1),
  (714, .ireturn, 1), (715, .aload_n 1, 1), (716, .aload_n 0, 1), (717, .iload_n 3, 1), (718, .iconst 1, 1), (719, .iadd, 1), (720, .iaload, 1), (721, .aload_n 0, 1),
  (722, .iload_n 3, 1), (723, .iconst 2, 1), (724, .iadd, 1), (725, .iaload, 1), (726, .aload_n 0, 1), (727, .iload_n 3, 1), (728, .iconst 3, 1), (729, .iadd, 1),
  (730, .iaload, 1), (731, .aload_n 0, 1), (732, .iload_n 3, 1), (733, .iconst 4, 1), (734, .iadd, 1), (735, .iaload, 1), (736, .ifCond .eq 7, 3), (739, .iconst 1, 1)]
def in_323_6 : List zIns := [(740, .goto 4, 3), (743, .iconst 0, 1), (744, .invokevirtual 64, 3), (747, .aload_n 2, 1), (748, .aload_n 0, 1), (749, .iload_n 3, 1), (750, .iconst 1, 1), (751, .iadd, 1),
  (752, .iaload, 1), (753, .aload_n 0, 1), (754, .iload_n 3, 1), (755, .iconst 2, 1), (756, .iadd, 1), (757, .iaload, 1), (758, .aload_n 0, 1), (759, .iload_n 3, 1),
  (760, .iconst 3, 1), (761, .iadd, 1), (762, .iaload, 1), (763, .aload_n 0, 1), (764, .iload_n 3, 1), (765, .iconst 4, 1), (766, .iadd, 1), (767, .iaload, 1),
  (768, .ifCond .eq 7, 3), (771, .iconst 1, 1), (772, .goto 4, 3), (775, .iconst 0, 1), (776, .invokevirtual 68, 3), (779, .if_icmp .eq 1312, 3), (782, .iconst 0, 1), (783, .ireturn, 1),
  (784, .aload_n 1, 1), (785, .aload_n 0, 1), (786, .iload_n 3, 1), (787, .iconst 1, 1), (788, .iadd, 1), (789, .iaload, 1), (790, .aload_n 0, 1), (791, .iload_n 3, 1),
  (792, .iconst 2, 1), (793, .iadd, 1), (794, .iaload, 1), (795, .aload_n 0, 1), (796, .iload_n 3, 1), (797, .iconst 3, 1), (798, .iadd, 1), (799, .iaload, 1),
  (800, .invokevirtual 69, 3), (803, .aload_n 2, 1), (804, .aload_n 0, 1), (805, .iload_n 3, 1), (806, .iconst 1, 1), (807, .iadd, 1), (808, .iaload, 1), (809, .aload_n 0, 1),
  (810, .iload_n 3, 1), (811, .iconst 2, 1), (812, .iadd, 1), (813, .iaload, 1), (814, .aload_n 0, 1), (815, .iload_n 3, 1), (816, .iconst 3, 1), (817, .iadd, 1),
  (818, .iaload, 1), (819, .invokevirtual 72, 3), (822, .if_icmp .eq 1269, 3), (825, .iconst 0, 1), (826, .ireturn, 1), (827, .aload_n 1, 1), (828, .aload_n 0, 1), (829, .iload_n 3, 1),
  (830, .iconst 1, 1), (831, .iadd, 1), (832, .iaload, 1), (833, .invokevirtual 73, 3), (836, .aload_n 2, 1), (837, .aload_n 0, 1), (838, .iload_n 3, 1), (839, .iconst 1, 1)]
def in_323_7 : List zIns := [(840, .iadd, 1), (841, .iaload, 1), (842, .invokevirtual 76, 3), (845, .if_icmp .eq 1246, 3), (848, .iconst 0, 1), (849, .ireturn, 1), (850, .aload_n 1, 1), (851, .aload_n 0, 1),
  (852, .iload_n 3, 1), (853, .iconst 1, 1), (854, .iadd, 1), (855, .iaload, 1), (856, .aload_n 0, 1), (857, .iload_n 3, 1), (858, .iconst 2, 1), (859, .iadd, 1),
  (860, .iaload, 1), (861, .aload_n 0, 1), (862, .iload_n 3, 1), (863, .iconst 3, 1), (864, .iadd, 1), (865, .iaload, 1), (866, .invokevirtual 77, 3), (869, .aload_n 2, 1),
  (870, .aload_n 0, 1), (871, .iload_n 3, 1), (872, .iconst 1, 1), (873, .iadd, 1), (874, .iaload, 1), (875, .aload_n 0, 1), (876, .iload_n 3, 1), (877, .iconst 2, 1),
  (878, .iadd, 1), (879, .iaload, 1), (880, .aload_n 0, 1), (881, .iload_n 3, 1), (882, .iconst 3, 1), (883, .iadd, 1), (884, .iaload, 1), (885, .invokevirtual 80, 3),
  (888, .if_icmp .eq 1203, 3), (891, .iconst 0, 1), (892, .ireturn, 1), (893, .aload_n 1, 1), (894, .aload_n 0, 1), (895, .iload_n 3, 1), (896, .iconst 1, 1), (897, .iadd, 1),
  (898, .iaload, 1), (899, .aload_n 0, 1), (900, .iload_n 3, 1), (901, .iconst 2, 1), (902, .iadd, 1), (903, .iaload, 1), (904, .aload_n 0, 1), (905, .iload_n 3, 1),
  (906, .iconst 3, 1), (907, .iadd, 1), (908, .iaload, 1), (909, .aload_n 0, 1), (910, .iload_n 3, 1), (911, .iconst 4, 1), (912, .iadd, 1), (913, .iaload, 1),
  (914, .aload_n 0, 1), (915, .iload_n 3, 1), (916, .iconst 5, 1), (917, .iadd, 1), (918, .iaload, 1), (919, .invokevirtual 81, 3), (922, .aload_n 2, 1), (923, .aload_n 0, 1),
  (924, .iload_n 3, 1), (925, .iconst 1, 1), (926, .iadd, 1), (927, .iaload, 1), (928, .aload_n 0, 1), (929, .iload_n 3, 1), (930, .iconst 2, 1), (931, .iadd, 1)]
def in_323_8 : List zIns := [(932, .iaload, 1), (933, .aload_n 0, 1), (934, .iload_n 3, 1), (935, .iconst 3, 1), (936, .iadd, 1), (937, .iaload, 1), (938, .aload_n 0, 1), (939, .iload_n 3, 1),
  (940, .iconst 4, 1), (941, .iadd, 1), (942, .iaload, 1), (943, .aload_n 0, 1), (944, .iload_n 3, 1), (945, .iconst 5, 1), (946, .iadd, 1), (947, .iaload, 1),
  (948, .invokevirtual 84, 3), (951, .if_icmp .eq 1140, 3), (954, .iconst 0, 1), (955, .ireturn, 1), (956, .aload_n 1, 1), (957, .aload_n 0, 1), (958, .iload_n 3, 1), (959, .iconst 1, 1),
  (960, .iadd, 1), (961, .iaload, 1), (962, .aload_n 0, 1), (963, .iload_n 3, 1), (964, .iconst 2, 1), (965, .iadd, 1), (966, .iaload, 1), (967, .aload_n 0, 1),
  (968, .iload_n 3, 1), (969, .iconst 3, 1), (970, .iadd, 1), (971, .iaload, 1), (972, .invokevirtual 85, 3), (975, .aload_n 2, 1), (976, .aload_n 0, 1), (977, .iload_n 3, 1),
  (978, .iconst 1, 1), (979, .iadd, 1), (980, .iaload, 1), (981, .aload_n 0, 1), (982, .iload_n 3, 1), (983, .iconst 2, 1), (984, .iadd, 1), (985, .iaload, 1),
  (986, .aload_n 0, 1), (987, .iload_n 3, 1), (988, .iconst 3, 1), (989, .iadd, 1), (990, .iaload, 1), (991, .invokevirtual 88, 3), (994, .if_icmp .eq 1097, 3), (997, .iconst 0, 1),
  (998, .ireturn, 1), (999, .aload_n 1, 1), (1000, .aload_n 0, 1), (1001, .iload_n 3, 1), (1002, .iconst 1, 1), (1003, .iadd, 1), (1004, .iaload, 1), (1005, .aload_n 0, 1),
  (1006, .iload_n 3, 1), (1007, .iconst 2, 1), (1008, .iadd, 1), (1009, .iaload, 1), (1010, .aload_n 0, 1), (1011, .iload_n 3, 1), (1012, .iconst 3, 1), (1013, .iadd, 1),
  (1014, .iaload, 1), (1015, .invokevirtual 89, 3), (1018, .aload_n 2, 1), (1019, .aload_n 0, 1), (1020, .iload_n 3, 1), (1021, .iconst 1, 1), (1022, .iadd, 1), (1023, .iaload, 1)]
def in_323_9 : List zIns := [(1024, .aload_n 0, 1), (1025, .iload_n 3, 1), (1026, .iconst 2, 1), (1027, .iadd, 1), (1028, .iaload, 1), (1029, .aload_n 0, 1), (1030, .iload_n 3, 1), (1031, .iconst 3, 1),
  (1032, .iadd, 1), (1033, .iaload, 1), (1034, .invokevirtual 92, 3), (1037, .if_icmp .eq 1054, 3), (1040, .iconst 0, 1), (1041, .ireturn, 1), (1042, .aload_n 1, 1), (1043, .aload_n 0, 1),
  (1044, .iload_n 3, 1), (1045, .iconst 1, 1), (1046, .iadd, 1), (1047, .iaload, 1), (1048, .aload_n 0, 1), (1049, .iload_n 3, 1), (1050, .iconst 2, 1), (1051, .iadd, 1),
  (1052, .iaload, 1), (1053, .aload_n 0, 1), (1054, .iload_n 3, 1), (1055, .iconst 3, 1), (1056, .iadd, 1), (1057, .iaload, 1), (1058, .aload_n 0, 1), (1059, .iload_n 3, 1),
  (1060, .iconst 4, 1), (1061, .iadd, 1), (1062, .iaload, 1), (1063, .aload_n 0, 1), (1064, .iload_n 3, 1), (1065, .iconst 5, 1), (1066, .iadd, 1), (1067, .iaload, 1),
  (1068, .ifCond .eq 7, 3), (1071, .iconst 1, 1), (1072, .goto 4, 3), (1075, .iconst 0, 1), (1076, .invokevirtual 93, 3), (1079, .aload_n 2, 1), (1080, .aload_n 0, 1), (1081, .iload_n 3, 1),
  (1082, .iconst 1, 1), (1083, .iadd, 1), (1084, .iaload, 1), (1085, .aload_n 0, 1), (1086, .iload_n 3, 1), (1087, .iconst 2, 1), (1088, .iadd, 1), (1089, .iaload, 1),
  (1090, .aload_n 0, 1), (1091, .iload_n 3, 1), (1092, .iconst 3, 1), (1093, .iadd, 1), (1094, .iaload, 1), (1095, .aload_n 0, 1), (1096, .iload_n 3, 1), (1097, .iconst 4, 1),
  (1098, .iadd, 1), (1099, .iaload, 1), (1100, .aload_n 0, 1), (1101, .iload_n 3, 1), (1102, .iconst 5, 1), (1103, .iadd, 1), (1104, .iaload, 1), (1105, .ifCond .eq 7, 3),
  (1108, .iconst 1, 1), (1109, .goto 4, 3), (1112, .iconst 0, 1), (1113, .invokevirtual 97, 3), (1116, .lcmp, 1), (1117, .ifCond .eq 974, 3), (1120, .iconst 0, 1), (1121, .ireturn, 1)]
def in_323_10 : List zIns := [(1122, .aload_n 1, 1), (1123, .aload_n 0, 1), (1124, .iload_n 3, 1), (1125, .iconst 1, 1), (1126, .iadd, 1), (1127, .iaload, 1), (1128, .aload_n 0, 1), (1129, .iload_n 3, 1),
  (1130, .iconst 2, 1), (1131, .iadd, 1), (1132, .iaload, 1), (1133, .aload_n 0, 1), (1134, .iload_n 3, 1), (1135, .iconst 3, 1), (1136, .iadd, 1), (1137, .iaload, 1),
  (1138, .aload_n 0, 1), (1139, .iload_n 3, 1), (1140, .iconst 4, 1), (1141, .iadd, 1), (1142, .iaload, 1), (1143, .invokevirtual 98, 3), (1146, .aload_n 2, 1), (1147, .aload_n 0, 1),
  (1148, .iload_n 3, 1), (1149, .iconst 1, 1), (1150, .iadd, 1), (1151, .iaload, 1), (1152, .aload_n 0, 1), (1153, .iload_n 3, 1), (1154, .iconst 2, 1), (1155, .iadd, 1),
  (1156, .iaload, 1), (1157, .aload_n 0, 1), (1158, .iload_n 3, 1), (1159, .iconst 3, 1), (1160, .iadd, 1), (1161, .iaload, 1), (1162, .aload_n 0, 1), (1163, .iload_n 3, 1),
  (1164, .iconst 4, 1), (1165, .iadd, 1), (1166, .iaload, 1), (1167, .invokevirtual 101, 3), (1170, .if_icmp .eq 921, 3), (1173, .iconst 0, 1), (1174, .ireturn, 1), (1175, .aload_n 1, 1),
  (1176, .aload_n 0, 1), (1177, .iload_n 3, 1), (1178, .iconst 1, 1), (1179, .iadd, 1), (1180, .iaload, 1), (1181, .aload_n 0, 1), (1182, .iload_n 3, 1), (1183, .iconst 2, 1),
  (1184, .iadd, 1), (1185, .iaload, 1), (1186, .aload_n 0, 1), (1187, .iload_n 3, 1), (1188, .iconst 3, 1), (1189, .iadd, 1), (1190, .iaload, 1), (1191, .aload_n 0, 1),
  (1192, .iload_n 3, 1), (1193, .iconst 4, 1), (1194, .iadd, 1), (1195, .iaload, 1), (1196, .aload_n 0, 1), (1197, .iload_n 3, 1), (1198, .iconst 5, 1), (1199, .iadd, 1),
  (1200, .iaload, 1), (1201, .invokevirtual 102, 3), (1204, .aload_n 2, 1), (1205, .aload_n 0, 1), (1206, .iload_n 3, 1), (1207, .iconst 1, 1), (1208, .iadd, 1), (1209, .iaload, 1)]
def in_323_11 : List zIns := [(1210, .aload_n 0, 1), (1211, .iload_n 3, 1), (1212, .iconst 2, 1), (1213, .iadd, 1), (1214, .iaload, 1), (1215, .aload_n 0, 1), (1216, .iload_n 3, 1), (1217, .iconst 3, 1),
  (1218, .iadd, 1), (1219, .iaload, 1), (1220, .aload_n 0, 1), (1221, .iload_n 3, 1), (1222, .iconst 4, 1), (1223, .iadd, 1), (1224, .iaload, 1), (1225, .aload_n 0, 1),
  (1226, .iload_n 3, 1), (1227, .iconst 5, 1), (1228, .iadd, 1), (1229, .iaload, 1), (1230, .invokevirtual 105, 3), (1233, .if_icmp .eq 858, 3), (1236, .iconst 0, 1), (1237, .ireturn, 1),
  (1238, .aload_n 1, 1), (1239, .aload_n 0, 1), (1240, .iload_n 3, 1), (1241, .iconst 1, 1), (1242, .iadd, 1), (1243, .iaload, 1), (1244, .aload_n 0, 1), (1245, .iload_n 3, 1),
  (1246, .iconst 2, 1), (1247, .iadd, 1), (1248, .iaload, 1), (1249, .aload_n 0, 1), (1250, .iload_n 3, 1), (1251, .iconst 3, 1), (1252, .iadd, 1), (1253, .iaload, 1),
  (1254, .aload_n 0, 1), (1255, .iload_n 3, 1), (1256, .iconst 4, 1), (1257, .iadd, 1), (1258, .iaload, 1), (1259, .aload_n 0, 1), (1260, .iload_n 3, 1), (1261, .iconst 5, 1),
  (1262, .iadd, 1), (1263, .iaload, 1), (1264, .invokevirtual 106, 3), (1267, .aload_n 2, 1), (1268, .aload_n 0, 1), (1269, .iload_n 3, 1), (1270, .iconst 1, 1), (1271, .iadd, 1),
  (1272, .iaload, 1), (1273, .aload_n 0, 1), (1274, .iload_n 3, 1), (1275, .iconst 2, 1), (1276, .iadd, 1), (1277, .iaload, 1), (1278, .aload_n 0, 1), (1279, .iload_n 3, 1),
  (1280, .iconst 3, 1), (1281, .iadd, 1), (1282, .iaload, 1), (1283, .aload_n 0, 1), (1284, .iload_n 3, 1), (1285, .iconst 4, 1), (1286, .iadd, 1), (1287, .iaload, 1),
  (1288, .aload_n 0, 1), (1289, .iload_n 3, 1), (1290, .iconst 5, 1), (1291, .iadd, 1), (1292, .iaload, 1), (1293, .invokevirtual 109, 3), (1296, .if_icmp .eq 795, 3), (1299, .iconst 0, 1)]
def in_323_12 : List zIns := [(1300, .ireturn, 1), (1301, .aload_n 1, 1), (1302, .aload_n 0, 1), (1303, .iload_n 3, 1), (1304, .iconst 1, 1), (1305, .iadd, 1), (1306, .iaload, 1), (1307, .aload_n 0, 1),
  (1308, .iload_n 3, 1), (1309, .iconst 2, 1), (1310, .iadd, 1), (1311, .iaload, 1), (1312, .aload_n 0, 1), (1313, .iload_n 3, 1), (1314, .iconst 3, 1), (1315, .iadd, 1),
  (1316, .iaload, 1), (1317, .invokevirtual 110, 3), (1320, .aload_n 2, 1), (1321, .aload_n 0, 1), (1322, .iload_n 3, 1), (1323, .iconst 1, 1), (1324, .iadd, 1), (1325, .iaload, 1),
  (1326, .aload_n 0, 1), (1327, .iload_n 3, 1), (1328, .iconst 2, 1), (1329, .iadd, 1), (1330, .iaload, 1), (1331, .aload_n 0, 1), (1332, .iload_n 3, 1), (1333, .iconst 3, 1),
  (1334, .iadd, 1), (1335, .iaload, 1), (1336, .invokevirtual 113, 3), (1339, .if_icmp .eq 752, 3), (1342, .iconst 0, 1), (1343, .ireturn, 1), (1344, .aload_n 1, 1), (1345, .aload_n 0, 1),
  (1346, .iload_n 3, 1), (1347, .iconst 1, 1), (1348, .iadd, 1), (1349, .iaload, 1), (1350, .aload_n 0, 1), (1351, .iload_n 3, 1), (1352, .iconst 2, 1), (1353, .iadd, 1),
  (1354, .iaload, 1), (1355, .aload_n 0, 1), (1356, .iload_n 3, 1), (1357, .iconst 3, 1), (1358, .iadd, 1), (1359, .iaload, 1), (1360, .aload_n 0, 1), (1361, .iload_n 3, 1),
  (1362, .iconst 4, 1), (1363, .iadd, 1), (1364, .iaload, 1), (1365, .invokevirtual 114, 3), (1368, .aload_n 2, 1), (1369, .aload_n 0, 1), (1370, .iload_n 3, 1), (1371, .iconst 1, 1),
  (1372, .iadd, 1), (1373, .iaload, 1), (1374, .aload_n 0, 1), (1375, .iload_n 3, 1), (1376, .iconst 2, 1), (1377, .iadd, 1), (1378, .iaload, 1), (1379, .aload_n 0, 1),
  (1380, .iload_n 3, 1), (1381, .iconst 3, 1), (1382, .iadd, 1), (1383, .iaload, 1), (1384, .aload_n 0, 1), (1385, .iload_n 3, 1), (1386, .iconst 4, 1), (1387, .iadd, 1)]
def in_323_13 : List zIns := [(1388, .iaload, 1), (1389, .invokevirtual 117, 3), (1392, .if_icmp .eq 699, 3), (1395, .iconst 0, 1), (1396, .ireturn, 1), (1397, .aload_n 1, 1), (1398, .aload_n 0, 1), (1399, .iload_n 3, 1),
  (1400, .iconst 1, 1), (1401, .iadd, 1), (1402, .iaload, 1), (1403, .aload_n 0, 1), (1404, .iload_n 3, 1), (1405, .iconst 2, 1), (1406, .iadd, 1), (1407, .iaload, 1),
  (1408, .aload_n 0, 1), (1409, .iload_n 3, 1), (1410, .iconst 3, 1), (1411, .iadd, 1), (1412, .iaload, 1), (1413, .aload_n 0, 1), (1414, .iload_n 3, 1), (1415, .iconst 4, 1),
  (1416, .iadd, 1), (1417, .iaload, 1), (1418, .invokevirtual 118, 3), (1421, .aload_n 2, 1), (1422, .aload_n 0, 1), (1423, .iload_n 3, 1), (1424, .iconst 1, 1), (1425, .iadd, 1),
  (1426, .iaload, 1), (1427, .aload_n 0, 1), (1428, .iload_n 3, 1), (1429, .iconst 2, 1), (1430, .iadd, 1), (1431, .iaload, 1), (1432, .aload_n 0, 1), (1433, .iload_n 3, 1),
  (1434, .iconst 3, 1), (1435, .iadd, 1), (1436, .iaload, 1), (1437, .aload_n 0, 1), (1438, .iload_n 3, 1), (1439, .iconst 4, 1), (1440, .iadd, 1), (1441, .iaload, 1),
  (1442, .invokevirtual 121, 3), (1445, .if_icmp .eq 646, 3), (1448, .iconst 0, 1), (1449, .ireturn, 1), (1450, .aload_n 1, 1), (1451, .aload_n 0, 1), (1452, .iload_n 3, 1), (1453, .iconst 1, 1),
  (1454, .iadd, 1), (1455, .iaload, 1), (1456, .aload_n 0, 1), (1457, .iload_n 3, 1), (1458, .iconst 2, 1), (1459, .iadd, 1), (1460, .iaload, 1), (1461, .aload_n 0, 1),
  (1462, .iload_n 3, 1), (1463, .iconst 3, 1), (1464, .iadd, 1), (1465, .iaload, 1), (1466, .ifCond .eq 7, 3), (1469, .iconst 1, 1), (1470, .goto 4, 3), (1473, .iconst 0, 1),
  (1474, .invokevirtual 122, 3), (1477, .aload_n 2, 1), (1478, .aload_n 0, 1), (1479, .iload_n 3, 1), (1480, .iconst 1, 1), (1481, .iadd, 1), (1482, .iaload, 1), (1483, .aload_n 0, 1)]
def in_323_14 : List zIns := [(1484, .iload_n 3, 1), (1485, .iconst 2, 1), (1486, .iadd, 1), (1487, .iaload, 1), (1488, .aload_n 0, 1), (1489, .iload_n 3, 1), (1490, .iconst 3, 1), (1491, .iadd, 1),
  (1492, .iaload, 1), (1493, .ifCond .eq 7, 3), (1496, .iconst 1, 1), (1497, .goto 4, 3), (1500, .iconst 0, 1), (1501, .invokevirtual 126, 3), (1504, .if_icmp .eq 587, 3), (1507, .iconst 0, 1),
  (1508, .ireturn, 1), (1509, .aload_n 1, 1), (1510, .aload_n 0, 1), (1511, .iload_n 3, 1), (1512, .iconst 1, 1), (1513, .iadd, 1), (1514, .iaload, 1), (1515, .aload_n 0, 1),
  (1516, .iload_n 3, 1), (1517, .iconst 2, 1), (1518, .iadd, 1), (1519, .iaload, 1), (1520, .aload_n 0, 1), (1521, .iload_n 3, 1), (1522, .iconst 3, 1), (1523, .iadd, 1),
  (1524, .iaload, 1), (1525, .ifCond .eq 7, 3), (1528, .iconst 1, 1), (1529, .goto 4, 3), (1532, .iconst 0, 1), (1533, .invokevirtual 127, 3), (1536, .aload_n 2, 1), (1537, .aload_n 0, 1),
  (1538, .iload_n 3, 1), (1539, .iconst 1, 1), (1540, .iadd, 1), (1541, .iaload, 1), (1542, .aload_n 0, 1), (1543, .iload_n 3, 1), (1544, .iconst 2, 1), (1545, .iadd, 1),
  (1546, .iaload, 1), (1547, .aload_n 0, 1), (1548, .iload_n 3, 1), (1549, .iconst 3, 1), (1550, .iadd, 1), (1551, .iaload, 1), (1552, .ifCond .eq 7, 3), (1555, .iconst 1, 1),
  (1556, .goto 4, 3), (1559, .iconst 0, 1), (1560, .invokevirtual 130, 3), (1563, .if_icmp .eq 528, 3), (1566, .iconst 0, 1), (1567, .ireturn, 1), (1568, .aload_n 1, 1), (1569, .aload_n 0, 1),
  (1570, .iload_n 3, 1), (1571, .iconst 1, 1), (1572, .iadd, 1), (1573, .iaload, 1), (1574, .aload_n 0, 1), (1575, .iload_n 3, 1), (1576, .iconst 2, 1), (1577, .iadd, 1),
  (1578, .iaload, 1), (1579, .invokevirtual 131, 3), (1582, .aload_n 2, 1), (1583, .aload_n 0, 1), (1584, .iload_n 3, 1), (1585, .iconst 1, 1), (1586, .iadd, 1), (1587, .iaload, 1)]
def in_323_15 : List zIns := [(1588, .aload_n 0, 1), (1589, .iload_n 3, 1), (1590, .iconst 2, 1), (1591, .iadd, 1), (1592, .iaload, 1), (1593, .invokevirtual 134, 3), (1596, .if_icmp .eq 495, 3), (1599, .iconst 0, 1),
  (1600, .ireturn, 1), (1601, .aload_n 1, 1), (1602, .aload_n 0, 1), (1603, .iload_n 3, 1), (1604, .iconst 1, 1), (1605, .iadd, 1), (1606, .iaload, 1), (1607, .aload_n 0, 1),
  (1608, .iload_n 3, 1), (1609, .iconst 2, 1), (1610, .iadd, 1), (1611, .iaload, 1), (1612, .aload_n 0, 1), (1613, .iload_n 3, 1), (1614, .iconst 3, 1), (1615, .iadd, 1),
  (1616, .iaload, 1), (1617, .invokevirtual 135, 3), (1620, .aload_n 2, 1), (1621, .aload_n 0, 1), (1622, .iload_n 3, 1), (1623, .iconst 1, 1), (1624, .iadd, 1), (1625, .iaload, 1),
  (1626, .aload_n 0, 1), (1627, .iload_n 3, 1), (1628, .iconst 2, 1), (1629, .iadd, 1), (1630, .iaload, 1), (1631, .aload_n 0, 1), (1632, .iload_n 3, 1), (1633, .iconst 3, 1),
  (1634, .iadd, 1), (1635, .iaload, 1), (1636, .invokevirtual 138, 3), (1639, .if_icmp .eq 452, 3), (1642, .iconst 0, 1), (1643, .ireturn, 1), (1644, .aload_n 1, 1), (1645, .aload_n 0, 1),
  (1646, .iload_n 3, 1), (1647, .iconst 1, 1), (1648, .iadd, 1), (1649, .iaload, 1), (1650, .aload_n 0, 1), (1651, .iload_n 3, 1), (1652, .iconst 2, 1), (1653, .iadd, 1),
  (1654, .iaload, 1), (1655, .invokevirtual 139, 3), (1658, .aload_n 2, 1), (1659, .aload_n 0, 1), (1660, .iload_n 3, 1), (1661, .iconst 1, 1), (1662, .iadd, 1), (1663, .iaload, 1),
  (1664, .aload_n 0, 1), (1665, .iload_n 3, 1), (1666, .iconst 2, 1), (1667, .iadd, 1), (1668, .iaload, 1), (1669, .invokevirtual 142, 3), (1672, .if_icmp .eq 419, 3), (1675, .iconst 0, 1),
  (1676, .ireturn, 1), (1677, .aload_n 1, 1), (1678, .aload_n 0, 1), (1679, .iload_n 3, 1), (1680, .iconst 1, 1), (1681, .iadd, 1), (1682, .iaload, 1), (1683, .aload_n 0, 1)]
def in_323_16 : List zIns := [(1684, .iload_n 3, 1), (1685, .iconst 2, 1), (1686, .iadd, 1), (1687, .iaload, 1), (1688, .aload_n 0, 1), (1689, .iload_n 3, 1), (1690, .iconst 3, 1), (1691, .iadd, 1),
  (1692, .iaload, 1), (1693, .ifCond .eq 7, 3), (1696, .iconst 1, 1), (1697, .goto 4, 3), (1700, .iconst 0, 1), (1701, .invokevirtual 143, 3), (1704, .aload_n 2, 1), (1705, .aload_n 0, 1),
  (1706, .iload_n 3, 1), (1707, .iconst 1, 1), (1708, .iadd, 1), (1709, .iaload, 1), (1710, .aload_n 0, 1), (1711, .iload_n 3, 1), (1712, .iconst 2, 1), (1713, .iadd, 1),
  (1714, .iaload, 1), (1715, .aload_n 0, 1), (1716, .iload_n 3, 1), (1717, .iconst 3, 1), (1718, .iadd, 1), (1719, .iaload, 1), (1720, .ifCond .eq 7, 3), (1723, .iconst 1, 1),
  (1724, .goto 4, 3), (1727, .iconst 0, 1), (1728, .invokevirtual 146, 3), (1731, .if_icmp .eq 360, 3), (1734, .iconst 0, 1), (1735, .ireturn, 1), (1736, .aload_n 1, 1), (1737, .aload_n 0, 1),
  (1738, .iload_n 3, 1), (1739, .iconst 1, 1), (1740, .iadd, 1), (1741, .iaload, 1), (1742, .aload_n 0, 1), (1743, .iload_n 3, 1), (1744, .iconst 2, 1), (1745, .iadd, 1),
  (1746, .iaload, 1), (1747, .aload_n 0, 1), (1748, .iload_n 3, 1), (1749, .iconst 3, 1), (1750, .iadd, 1), (1751, .iaload, 1), (1752, .invokevirtual 147, 3), (1755, .aload_n 2, 1),
  (1756, .aload_n 0, 1), (1757, .iload_n 3, 1), (1758, .iconst 1, 1), (1759, .iadd, 1), (1760, .iaload, 1), (1761, .aload_n 0, 1), (1762, .iload_n 3, 1), (1763, .iconst 2, 1),
  (1764, .iadd, 1), (1765, .iaload, 1), (1766, .aload_n 0, 1), (1767, .iload_n 3, 1), (1768, .iconst 3, 1), (1769, .iadd, 1), (1770, .iaload, 1), (1771, .invokevirtual 150, 3),
  (1774, .if_icmp .eq 317, 3), (1777, .iconst 0, 1), (1778, .ireturn, 1), (1779, .aload_n 1, 1), (1780, .aload_n 0, 1), (1781, .iload_n 3, 1), (1782, .iconst 1, 1), (1783, .iadd, 1)]
def in_323_17 : List zIns := [(1784, .iaload, 1), (1785, .aload_n 0, 1), (1786, .iload_n 3, 1), (1787, .iconst 2, 1), (1788, .iadd, 1), (1789, .iaload, 1), (1790, .aload_n 0, 1), (1791, .iload_n 3, 1),
  (1792, .iconst 3, 1), (1793, .iadd, 1), (1794, .iaload, 1), (1795, .aload_n 0, 1), (1796, .iload_n 3, 1), (1797, .iconst 4, 1), (1798, .iadd, 1), (1799, .iaload, 1),
  (1800, .aload_n 0, 1), (1801, .iload_n 3, 1), (1802, .iconst 5, 1), (1803, .iadd, 1), (1804, .iaload, 1), (1805, .aload_n 0, 1), (1806, .iload_n 3, 1), (1807, .bipush 6, 2),
  (1809, .iadd, 1), (1810, .iaload, 1), (1811, .ifCond .eq 7, 3), (1814, .iconst 1, 1), (1815, .goto 4, 3), (1818, .iconst 0, 1), (1819, .invokevirtual 151, 3), (1822, .aload_n 2, 1),
  (1823, .aload_n 0, 1), (1824, .iload_n 3, 1), (1825, .iconst 1, 1), (1826, .iadd, 1), (1827, .iaload, 1), (1828, .aload_n 0, 1), (1829, .iload_n 3, 1), (1830, .iconst 2, 1),
  (1831, .iadd, 1), (1832, .iaload, 1), (1833, .aload_n 0, 1), (1834, .iload_n 3, 1), (1835, .iconst 3, 1), (1836, .iadd, 1), (1837, .iaload, 1), (1838, .aload_n 0, 1),
  (1839, .iload_n 3, 1), (1840, .iconst 4, 1), (1841, .iadd, 1), (1842, .iaload, 1), (1843, .aload_n 0, 1), (1844, .iload_n 3, 1), (1845, .iconst 5, 1), (1846, .iadd, 1),
  (1847, .iaload, 1), (1848, .aload_n 0, 1), (1849, .iload_n 3, 1), (1850, .bipush 6, 2), (1852, .iadd, 1), (1853, .iaload, 1), (1854, .ifCond .eq 7, 3), (1857, .iconst 1, 1),
  (1858, .goto 4, 3), (1861, .iconst 0, 1), (1862, .invokevirtual 155, 3), (1865, .lcmp, 1), (1866, .ifCond .eq 225, 3), (1869, .iconst 0, 1), (1870, .ireturn, 1), (1871, .aload_n 1, 1),
  (1872, .aload_n 0, 1), (1873, .iload_n 3, 1), (1874, .iconst 1, 1), (1875, .iadd, 1), (1876, .iaload, 1), (1877, .aload_n 0, 1), (1878, .iload_n 3, 1), (1879, .iconst 2, 1)]
def in_323_18 : List zIns := [(1880, .iadd, 1), (1881, .iaload, 1), (1882, .aload_n 0, 1), (1883, .iload_n 3, 1), (1884, .iconst 3, 1), (1885, .iadd, 1), (1886, .iaload, 1), (1887, .ifCond .eq 7, 3),
  (1890, .iconst 1, 1), (1891, .goto 4, 3), (1894, .iconst 0, 1), (1895, .invokevirtual 156, 3), (1898, .aload_n 2, 1), (1899, .aload_n 0, 1), (1900, .iload_n 3, 1), (1901, .iconst 1, 1),
  (1902, .iadd, 1), (1903, .iaload, 1), (1904, .aload_n 0, 1), (1905, .iload_n 3, 1), (1906, .iconst 2, 1), (1907, .iadd, 1), (1908, .iaload, 1), (1909, .aload_n 0, 1),
  (1910, .iload_n 3, 1), (1911, .iconst 3, 1), (1912, .iadd, 1), (1913, .iaload, 1), (1914, .ifCond .eq 7, 3), (1917, .iconst 1, 1), (1918, .goto 4, 3), (1921, .iconst 0, 1),
  (1922, .invokevirtual 159, 3), (1925, .if_icmp .eq 166, 3), (1928, .iconst 0, 1), (1929, .ireturn, 1), (1930, .aload_n 1, 1), (1931, .aload_n 0, 1), (1932, .iload_n 3, 1), (1933, .iconst 1, 1),
  (1934, .iadd, 1), (1935, .iaload, 1), (1936, .aload_n 0, 1), (1937, .iload_n 3, 1), (1938, .iconst 2, 1), (1939, .iadd, 1), (1940, .iaload, 1), (1941, .invokevirtual 160, 3),
  (1944, .aload_n 2, 1), (1945, .aload_n 0, 1), (1946, .iload_n 3, 1), (1947, .iconst 1, 1), (1948, .iadd, 1), (1949, .iaload, 1), (1950, .aload_n 0, 1), (1951, .iload_n 3, 1),
  (1952, .iconst 2, 1), (1953, .iadd, 1), (1954, .iaload, 1), (1955, .invokevirtual 163, 3), (1958, .if_icmp .eq 133, 3), (1961, .iconst 0, 1), (1962, .ireturn, 1), (1963, .aload_n 1, 1),
  (1964, .aload_n 0, 1), (1965, .iload_n 3, 1), (1966, .iconst 1, 1), (1967, .iadd, 1), (1968, .iaload, 1), (1969, .aload_n 0, 1), (1970, .iload_n 3, 1), (1971, .iconst 2, 1),
  (1972, .iadd, 1), (1973, .iaload, 1), (1974, .aload_n 0, 1), (1975, .iload_n 3, 1), (1976, .iconst 3, 1), (1977, .iadd, 1), (1978, .iaload, 1), (1979, .ifCond .eq 7, 3)]
def in_323_19 : List zIns := [(1982, .iconst 1, 1), (1983, .goto 4, 3), (1986, .iconst 0, 1), (1987, .invokevirtual 164, 3), (1990, .aload_n 2, 1), (1991, .aload_n 0, 1), (1992, .iload_n 3, 1), (1993, .iconst 1, 1),
  (1994, .iadd, 1), (1995, .iaload, 1), (1996, .aload_n 0, 1), (1997, .iload_n 3, 1), (1998, .iconst 2, 1), (1999, .iadd, 1), (2000, .iaload, 1), (2001, .aload_n 0, 1),
  (2002, .iload_n 3, 1), (2003, .iconst 3, 1), (2004, .iadd, 1), (2005, .iaload, 1), (2006, .ifCond .eq 7, 3), (2009, .iconst 1, 1), (2010, .goto 4, 3), (2013, .iconst 0, 1),
  (2014, .invokevirtual 167, 3), (2017, .if_icmp .eq 74, 3), (2020, .iconst 0, 1), (2021, .ireturn, 1), (2022, .aload_n 1, 1), (2023, .aload_n 0, 1), (2024, .iload_n 3, 1), (2025, .iconst 1, 1),
  (2026, .iadd, 1), (2027, .iaload, 1), (2028, .invokevirtual 168, 3), (2031, .aload_n 2, 1), (2032, .aload_n 0, 1), (2033, .iload_n 3, 1), (2034, .iconst 1, 1), (2035, .iadd, 1),
  (2036, .iaload, 1), (2037, .invokevirtual 171, 3), (2040, .if_icmp .eq 51, 3), (2043, .iconst 0, 1), (2044, .ireturn, 1), (2045, .aload_n 1, 1), (2046, .aload_n 0, 1), (2047, .iload_n 3, 1),
  (2048, .iconst 1, 1), (2049, .iadd, 1), (2050, .iaload, 1), (2051, .invokevirtual 172, 3), (2054, .aload_n 2, 1), (2055, .aload_n 0, 1), (2056, .iload_n 3, 1), (2057, .iconst 1, 1),
  (2058, .iadd, 1), (2059, .iaload, 1), (2060, .invokevirtual 176, 3), (2063, .if_icmp .eq 28, 3), (2066, .iconst 0, 1), (2067, .ireturn, 1), (2068, .aload_n 1, 1), (2069, .aload_n 0, 1),
  (2070, .iload_n 3, 1), (2071, .iconst 1, 1), (2072, .iadd, 1), (2073, .iaload, 1), (2074, .invokevirtual 177, 3), (2077, .aload_n 2, 1), (2078, .aload_n 0, 1), (2079, .iload_n 3, 1),
  (2080, .iconst 1, 1), (2081, .iadd, 1), (2082, .iaload, 1), (2083, .invokevirtual 180, 3), (2086, .if_icmp .eq 5, 3), (2089, .iconst 0, 1), (2090, .ireturn, 1), (2091, .iinc 3 7, 3)]
def in_323_20 : List zIns := [(2094, .goto (-2076), 3), (2097, .iconst 1, 1), (2098, .ireturn, 1)]
def in_323 : List zIns := in_323_0 ++ (in_323_1 ++ (in_323_2 ++ (in_323_3 ++ (in_323_4 ++ (in_323_5 ++ (in_323_6 ++ (in_323_7 ++ (in_323_8 ++ (in_323_9 ++ (in_323_10 ++ (in_323_11 ++ (in_323_12 ++ (in_323_13 ++ (in_323_14 ++ (in_323_15 ++ (in_323_16 ++ (in_323_17 ++ (in_323_18 ++ (in_323_19 ++ (in_323_20))))))))))))))))))))
theorem tl_24_2073 : ztg in_323 24 2073 = 1601 := by decide +kernel
theorem tl_33_171 : ztg in_323 33 171 = 22 := by decide +kernel
theorem tl_33_234 : ztg in_323 33 234 = 79 := by decide +kernel
theorem tl_33_257 : ztg in_323 33 257 = 96 := by decide +kernel
theorem tl_33_290 : ztg in_323 33 290 = 123 := by decide +kernel
theorem tl_33_313 : ztg in_323 33 313 = 140 := by decide +kernel
theorem tl_33_346 : ztg in_323 33 346 = 167 := by decide +kernel
theorem tl_33_425 : ztg in_323 33 425 = 232 := by decide +kernel
theorem tl_33_468 : ztg in_323 33 468 = 269 := by decide +kernel
theorem tl_33_501 : ztg in_323 33 501 = 296 := by decide +kernel
theorem tl_33_554 : ztg in_323 33 554 = 343 := by decide +kernel
theorem tl_33_629 : ztg in_323 33 629 = 410 := by decide +kernel
theorem tl_33_682 : ztg in_323 33 682 = 457 := by decide +kernel
theorem tl_33_751 : ztg in_323 33 751 = 512 := by decide +kernel
theorem tl_33_794 : ztg in_323 33 794 = 549 := by decide +kernel
theorem tl_33_817 : ztg in_323 33 817 = 566 := by decide +kernel
theorem tl_33_860 : ztg in_323 33 860 = 603 := by decide +kernel
theorem tl_33_923 : ztg in_323 33 923 = 660 := by decide +kernel
theorem tl_33_966 : ztg in_323 33 966 = 697 := by decide +kernel
theorem tl_33_1009 : ztg in_323 33 1009 = 734 := by decide +kernel
theorem tl_33_1089 : ztg in_323 33 1089 = 800 := by decide +kernel
theorem tl_33_1142 : ztg in_323 33 1142 = 847 := by decide +kernel
theorem tl_33_1205 : ztg in_323 33 1205 = 904 := by decide +kernel
theorem tl_33_1268 : ztg in_323 33 1268 = 961 := by decide +kernel
theorem tl_33_1311 : ztg in_323 33 1311 = 998 := by decide +kernel
theorem tl_33_1364 : ztg in_323 33 1364 = 1045 := by decide +kernel
theorem tl_33_1417 : ztg in_323 33 1417 = 1092 := by decide +kernel
theorem tl_33_1476 : ztg in_323 33 1476 = 1137 := by decide +kernel
theorem tl_33_1535 : ztg in_323 33 1535 = 1182 := by decide +kernel
theorem tl_33_1568 : ztg in_323 33 1568 = 1209 := by decide +kernel
theorem tl_33_1611 : ztg in_323 33 1611 = 1246 := by decide +kernel
theorem tl_33_1644 : ztg in_323 33 1644 = 1273 := by decide +kernel
theorem tl_33_1703 : ztg in_323 33 1703 = 1318 := by decide +kernel
theorem tl_33_1746 : ztg in_323 33 1746 = 1355 := by decide +kernel
theorem tl_33_1838 : ztg in_323 33 1838 = 1431 := by decide +kernel
theorem tl_33_1897 : ztg in_323 33 1897 = 1476 := by decide +kernel
theorem tl_33_1930 : ztg in_323 33 1930 = 1503 := by decide +kernel
theorem tl_33_1989 : ztg in_323 33 1989 = 1548 := by decide +kernel
theorem tl_33_2012 : ztg in_323 33 2012 = 1565 := by decide +kernel
theorem tl_33_2035 : ztg in_323 33 2035 = 1582 := by decide +kernel
theorem tl_33_2058 : ztg in_323 33 2058 = 1599 := by decide +kernel
theorem tl_262_1829 : ztg in_323 262 1829 = 1599 := by decide +kernel
theorem tl_285_1806 : ztg in_323 285 1806 = 1599 := by decide +kernel
theorem tl_318_1773 : ztg in_323 318 1773 = 1599 := by decide +kernel
theorem tl_341_1750 : ztg in_323 341 1750 = 1599 := by decide +kernel
theorem tl_374_1717 : ztg in_323 374 1717 = 1599 := by decide +kernel
theorem tl_405_7 : ztg in_323 405 7 = 196 := by decide +kernel
theorem tl_409_4 : ztg in_323 409 4 = 197 := by decide +kernel
theorem tl_442_7 : ztg in_323 442 7 = 227 := by decide +kernel
theorem tl_446_4 : ztg in_323 446 4 = 228 := by decide +kernel
theorem tl_453_1638 : ztg in_323 453 1638 = 1599 := by decide +kernel
theorem tl_496_1595 : ztg in_323 496 1595 = 1599 := by decide +kernel
theorem tl_529_1562 : ztg in_323 529 1562 = 1599 := by decide +kernel
theorem tl_582_1509 : ztg in_323 582 1509 = 1599 := by decide +kernel
theorem tl_657_1434 : ztg in_323 657 1434 = 1599 := by decide +kernel
theorem tl_710_1381 : ztg in_323 710 1381 = 1599 := by decide +kernel
theorem tl_736_7 : ztg in_323 736 7 = 481 := by decide +kernel
theorem tl_740_4 : ztg in_323 740 4 = 482 := by decide +kernel
theorem tl_768_7 : ztg in_323 768 7 = 507 := by decide +kernel
theorem tl_772_4 : ztg in_323 772 4 = 508 := by decide +kernel
theorem tl_779_1312 : ztg in_323 779 1312 = 1599 := by decide +kernel
theorem tl_822_1269 : ztg in_323 822 1269 = 1599 := by decide +kernel
theorem tl_845_1246 : ztg in_323 845 1246 = 1599 := by decide +kernel
theorem tl_888_1203 : ztg in_323 888 1203 = 1599 := by decide +kernel
theorem tl_951_1140 : ztg in_323 951 1140 = 1599 := by decide +kernel
theorem tl_994_1097 : ztg in_323 994 1097 = 1599 := by decide +kernel
theorem tl_1037_1054 : ztg in_323 1037 1054 = 1599 := by decide +kernel
theorem tl_1068_7 : ztg in_323 1068 7 = 763 := by decide +kernel
theorem tl_1072_4 : ztg in_323 1072 4 = 764 := by decide +kernel
theorem tl_1105_7 : ztg in_323 1105 7 = 794 := by decide +kernel
theorem tl_1109_4 : ztg in_323 1109 4 = 795 := by decide +kernel
theorem tl_1117_974 : ztg in_323 1117 974 = 1599 := by decide +kernel
theorem tl_1170_921 : ztg in_323 1170 921 = 1599 := by decide +kernel
theorem tl_1233_858 : ztg in_323 1233 858 = 1599 := by decide +kernel
theorem tl_1296_795 : ztg in_323 1296 795 = 1599 := by decide +kernel
theorem tl_1339_752 : ztg in_323 1339 752 = 1599 := by decide +kernel
theorem tl_1392_699 : ztg in_323 1392 699 = 1599 := by decide +kernel
theorem tl_1445_646 : ztg in_323 1445 646 = 1599 := by decide +kernel
theorem tl_1466_7 : ztg in_323 1466 7 = 1111 := by decide +kernel
theorem tl_1470_4 : ztg in_323 1470 4 = 1112 := by decide +kernel
theorem tl_1493_7 : ztg in_323 1493 7 = 1132 := by decide +kernel
theorem tl_1497_4 : ztg in_323 1497 4 = 1133 := by decide +kernel
theorem tl_1504_587 : ztg in_323 1504 587 = 1599 := by decide +kernel
theorem tl_1525_7 : ztg in_323 1525 7 = 1156 := by decide +kernel
theorem tl_1529_4 : ztg in_323 1529 4 = 1157 := by decide +kernel
theorem tl_1552_7 : ztg in_323 1552 7 = 1177 := by decide +kernel
theorem tl_1556_4 : ztg in_323 1556 4 = 1178 := by decide +kernel
theorem tl_1563_528 : ztg in_323 1563 528 = 1599 := by decide +kernel
theorem tl_1596_495 : ztg in_323 1596 495 = 1599 := by decide +kernel
theorem tl_1639_452 : ztg in_323 1639 452 = 1599 := by decide +kernel
theorem tl_1672_419 : ztg in_323 1672 419 = 1599 := by decide +kernel
theorem tl_1693_7 : ztg in_323 1693 7 = 1292 := by decide +kernel
theorem tl_1697_4 : ztg in_323 1697 4 = 1293 := by decide +kernel
theorem tl_1720_7 : ztg in_323 1720 7 = 1313 := by decide +kernel
theorem tl_1724_4 : ztg in_323 1724 4 = 1314 := by decide +kernel
theorem tl_1731_360 : ztg in_323 1731 360 = 1599 := by decide +kernel
theorem tl_1774_317 : ztg in_323 1774 317 = 1599 := by decide +kernel
theorem tl_1811_7 : ztg in_323 1811 7 = 1389 := by decide +kernel
theorem tl_1815_4 : ztg in_323 1815 4 = 1390 := by decide +kernel
theorem tl_1854_7 : ztg in_323 1854 7 = 1425 := by decide +kernel
theorem tl_1858_4 : ztg in_323 1858 4 = 1426 := by decide +kernel
theorem tl_1866_225 : ztg in_323 1866 225 = 1599 := by decide +kernel
theorem tl_1887_7 : ztg in_323 1887 7 = 1450 := by decide +kernel
theorem tl_1891_4 : ztg in_323 1891 4 = 1451 := by decide +kernel
theorem tl_1914_7 : ztg in_323 1914 7 = 1471 := by decide +kernel
theorem tl_1918_4 : ztg in_323 1918 4 = 1472 := by decide +kernel
theorem tl_1925_166 : ztg in_323 1925 166 = 1599 := by decide +kernel
theorem tl_1958_133 : ztg in_323 1958 133 = 1599 := by decide +kernel
theorem tl_1979_7 : ztg in_323 1979 7 = 1522 := by decide +kernel
theorem tl_1983_4 : ztg in_323 1983 4 = 1523 := by decide +kernel
theorem tl_2006_7 : ztg in_323 2006 7 = 1543 := by decide +kernel
theorem tl_2010_4 : ztg in_323 2010 4 = 1544 := by decide +kernel
theorem tl_2017_74 : ztg in_323 2017 74 = 1599 := by decide +kernel
theorem tl_2040_51 : ztg in_323 2040 51 = 1599 := by decide +kernel
theorem tl_2063_28 : ztg in_323 2063 28 = 1599 := by decide +kernel
theorem tl_2086_5 : ztg in_323 2086 5 = 1599 := by decide +kernel
theorem tl_2094_m2076 : ztg in_323 2094 (-2076) = 10 := by decide +kernel
def ct_323_0 (T : Nat → Int → Nat) : List zSem := [sNw (nO zTb 11), sP fDup, sCV 149 1 (some 11) 1, sP (fAst 1), sNw (nO zTb 12), sP fDup,
  sCV 199 1 (some 12) 1, sP (fAst 2), sP (fCon 0), sP (fIst 3), sP (fIld 3), sP (fAld 0),
  sRI gAN, sP (fCon 7), sP (fII (fun x y => x - y)), sBr (c2 (zcI .gt)) (T 24 2073), sP (fAld 0), sP (fIld 3),
  sRI gAI, sP (fCon 63), sP (fII (fun x y => x &&& y)), sSw [(0, T 33 171), (1, T 33 234), (2, T 33 257), (3, T 33 290), (4, T 33 313), (5, T 33 346), (6, T 33 425), (7, T 33 468), (8, T 33 501), (9, T 33 554), (10, T 33 629), (11, T 33 682), (12, T 33 751), (13, T 33 794), (14, T 33 817), (15, T 33 860), (16, T 33 923), (17, T 33 966), (18, T 33 1009), (19, T 33 1089), (20, T 33 1142), (21, T 33 1205), (22, T 33 1268), (23, T 33 1311), (24, T 33 1364), (25, T 33 1417), (26, T 33 1476), (27, T 33 1535), (28, T 33 1568), (29, T 33 1611), (30, T 33 1644), (31, T 33 1703), (32, T 33 1746), (33, T 33 1838), (34, T 33 1897), (35, T 33 1930), (36, T 33 1989), (37, T 33 2012), (38, T 33 2035)] (T 33 2058), sP (fAld 1), sP (fAld 0),
  sP (fIld 3), sP (fCon 1), sP (fII (fun x y => x + y)), sRI gAI, sP (fAld 0), sP (fIld 3),
  sP (fCon 2), sP (fII (fun x y => x + y)), sRI gAI, sP (fAld 0), sP (fIld 3), sP (fCon 3),
  sP (fII (fun x y => x + y)), sRI gAI, sP (fAld 0), sP (fIld 3), sP (fCon 4), sP (fII (fun x y => x + y)),
  sRI gAI, sP (fAld 0), sP (fIld 3), sP (fCon 5), sP (fII (fun x y => x + y)), sRI gAI,
  sCI 150 6 (some 11) 7, sP (fAld 2), sP (fAld 0), sP (fIld 3), sP (fCon 1), sP (fII (fun x y => x + y)),
  sRI gAI, sP (fAld 0), sP (fIld 3), sP (fCon 2), sP (fII (fun x y => x + y)), sRI gAI,
  sP (fAld 0), sP (fIld 3), sP (fCon 3), sP (fII (fun x y => x + y)), sRI gAI, sP (fAld 0),
  sP (fIld 3), sP (fCon 4), sP (fII (fun x y => x + y)), sRI gAI, sP (fAld 0), sP (fIld 3),
  sP (fCon 5), sP (fII (fun x y => x + y)), sRI gAI, sCI 201 6 (some 12) 8, sBr (c2 (zcI .eq)) (T 262 1829), sP (fCon 0),
  sRz, sP (fAld 1)]
def cd_323_0 : List zSem := [sNw (nO zTb 11), sP fDup, sCV 149 1 (some 11) 1, sP (fAst 1), sNw (nO zTb 12), sP fDup,
  sCV 199 1 (some 12) 1, sP (fAst 2), sP (fCon 0), sP (fIst 3), sP (fIld 3), sP (fAld 0),
  sRI gAN, sP (fCon 7), sP (fII (fun x y => x - y)), sBr (c2 (zcI .gt)) 1601, sP (fAld 0), sP (fIld 3),
  sRI gAI, sP (fCon 63), sP (fII (fun x y => x &&& y)), sSw [(0, 22), (1, 79), (2, 96), (3, 123), (4, 140), (5, 167), (6, 232), (7, 269), (8, 296), (9, 343), (10, 410), (11, 457), (12, 512), (13, 549), (14, 566), (15, 603), (16, 660), (17, 697), (18, 734), (19, 800), (20, 847), (21, 904), (22, 961), (23, 998), (24, 1045), (25, 1092), (26, 1137), (27, 1182), (28, 1209), (29, 1246), (30, 1273), (31, 1318), (32, 1355), (33, 1431), (34, 1476), (35, 1503), (36, 1548), (37, 1565), (38, 1582)] 1599, sP (fAld 1), sP (fAld 0),
  sP (fIld 3), sP (fCon 1), sP (fII (fun x y => x + y)), sRI gAI, sP (fAld 0), sP (fIld 3),
  sP (fCon 2), sP (fII (fun x y => x + y)), sRI gAI, sP (fAld 0), sP (fIld 3), sP (fCon 3),
  sP (fII (fun x y => x + y)), sRI gAI, sP (fAld 0), sP (fIld 3), sP (fCon 4), sP (fII (fun x y => x + y)),
  sRI gAI, sP (fAld 0), sP (fIld 3), sP (fCon 5), sP (fII (fun x y => x + y)), sRI gAI,
  sCI 150 6 (some 11) 7, sP (fAld 2), sP (fAld 0), sP (fIld 3), sP (fCon 1), sP (fII (fun x y => x + y)),
  sRI gAI, sP (fAld 0), sP (fIld 3), sP (fCon 2), sP (fII (fun x y => x + y)), sRI gAI,
  sP (fAld 0), sP (fIld 3), sP (fCon 3), sP (fII (fun x y => x + y)), sRI gAI, sP (fAld 0),
  sP (fIld 3), sP (fCon 4), sP (fII (fun x y => x + y)), sRI gAI, sP (fAld 0), sP (fIld 3),
  sP (fCon 5), sP (fII (fun x y => x + y)), sRI gAI, sCI 201 6 (some 12) 8, sBr (c2 (zcI .eq)) 1599, sP (fCon 0),
  sRz, sP (fAld 1)]
set_option maxRecDepth 100000 in
theorem ck_323_0 : in_323_0.map (fun q => zsem zTb (zlk zPl_13) (ztg in_323 q.1) true q.2.1) = cd_323_0.map some := by
  have h1 : ∀ T : Nat → Int → Nat, in_323_0.map (fun q => zsem zTb (zlk zPl_13) (T q.1) true q.2.1) = (ct_323_0 T).map some := fun _ => rfl
  rw [h1 (ztg in_323)]
  unfold ct_323_0
  simp only [tl_24_2073, tl_262_1829, tl_33_1009, tl_33_1089, tl_33_1142, tl_33_1205, tl_33_1268, tl_33_1311, tl_33_1364, tl_33_1417, tl_33_1476, tl_33_1535, tl_33_1568, tl_33_1611, tl_33_1644, tl_33_1703, tl_33_171, tl_33_1746, tl_33_1838, tl_33_1897, tl_33_1930, tl_33_1989, tl_33_2012, tl_33_2035, tl_33_2058, tl_33_234, tl_33_257, tl_33_290, tl_33_313, tl_33_346, tl_33_425, tl_33_468, tl_33_501, tl_33_554, tl_33_629, tl_33_682, tl_33_751, tl_33_794, tl_33_817, tl_33_860, tl_33_923, tl_33_966]
  unfold cd_323_0
  rfl
def ct_323_1 (T : Nat → Int → Nat) : List zSem := [sP (fAld 0), sP (fIld 3), sP (fCon 1), sP (fII (fun x y => x + y)), sRI gAI, sCI 151 2 (some 11) 2,
  sP (fAld 2), sP (fAld 0), sP (fIld 3), sP (fCon 1), sP (fII (fun x y => x + y)), sRI gAI,
  sCI 202 2 (some 12) 2, sBr (c2 (zcI .eq)) (T 285 1806), sP (fCon 0), sRz, sP (fAld 1), sP (fAld 0),
  sP (fIld 3), sP (fCon 1), sP (fII (fun x y => x + y)), sRI gAI, sP (fAld 0), sP (fIld 3),
  sP (fCon 2), sP (fII (fun x y => x + y)), sRI gAI, sCI 152 3 (some 11) 4, sP (fAld 2), sP (fAld 0),
  sP (fIld 3), sP (fCon 1), sP (fII (fun x y => x + y)), sRI gAI, sP (fAld 0), sP (fIld 3),
  sP (fCon 2), sP (fII (fun x y => x + y)), sRI gAI, sCI 224 3 (some 12) 5, sBr (c2 (zcI .eq)) (T 318 1773), sP (fCon 0),
  sRz, sP (fAld 1), sP (fAld 0), sP (fIld 3), sP (fCon 1), sP (fII (fun x y => x + y)),
  sRI gAI, sCI 153 2 (some 11) 2, sP (fAld 2), sP (fAld 0), sP (fIld 3), sP (fCon 1),
  sP (fII (fun x y => x + y)), sRI gAI, sCI 225 2 (some 12) 2, sBr (c2 (zcI .eq)) (T 341 1750), sP (fCon 0), sRz,
  sP (fAld 1), sP (fAld 0), sP (fIld 3), sP (fCon 1), sP (fII (fun x y => x + y)), sRI gAI,
  sP (fAld 0), sP (fIld 3), sP (fCon 2), sP (fII (fun x y => x + y)), sRI gAI, sCI 154 3 (some 11) 4,
  sP (fAld 2), sP (fAld 0), sP (fIld 3), sP (fCon 1), sP (fII (fun x y => x + y)), sRI gAI,
  sP (fAld 0), sP (fIld 3)]
def cd_323_1 : List zSem := [sP (fAld 0), sP (fIld 3), sP (fCon 1), sP (fII (fun x y => x + y)), sRI gAI, sCI 151 2 (some 11) 2,
  sP (fAld 2), sP (fAld 0), sP (fIld 3), sP (fCon 1), sP (fII (fun x y => x + y)), sRI gAI,
  sCI 202 2 (some 12) 2, sBr (c2 (zcI .eq)) 1599, sP (fCon 0), sRz, sP (fAld 1), sP (fAld 0),
  sP (fIld 3), sP (fCon 1), sP (fII (fun x y => x + y)), sRI gAI, sP (fAld 0), sP (fIld 3),
  sP (fCon 2), sP (fII (fun x y => x + y)), sRI gAI, sCI 152 3 (some 11) 4, sP (fAld 2), sP (fAld 0),
  sP (fIld 3), sP (fCon 1), sP (fII (fun x y => x + y)), sRI gAI, sP (fAld 0), sP (fIld 3),
  sP (fCon 2), sP (fII (fun x y => x + y)), sRI gAI, sCI 224 3 (some 12) 5, sBr (c2 (zcI .eq)) 1599, sP (fCon 0),
  sRz, sP (fAld 1), sP (fAld 0), sP (fIld 3), sP (fCon 1), sP (fII (fun x y => x + y)),
  sRI gAI, sCI 153 2 (some 11) 2, sP (fAld 2), sP (fAld 0), sP (fIld 3), sP (fCon 1),
  sP (fII (fun x y => x + y)), sRI gAI, sCI 225 2 (some 12) 2, sBr (c2 (zcI .eq)) 1599, sP (fCon 0), sRz,
  sP (fAld 1), sP (fAld 0), sP (fIld 3), sP (fCon 1), sP (fII (fun x y => x + y)), sRI gAI,
  sP (fAld 0), sP (fIld 3), sP (fCon 2), sP (fII (fun x y => x + y)), sRI gAI, sCI 154 3 (some 11) 4,
  sP (fAld 2), sP (fAld 0), sP (fIld 3), sP (fCon 1), sP (fII (fun x y => x + y)), sRI gAI,
  sP (fAld 0), sP (fIld 3)]
set_option maxRecDepth 100000 in
theorem ck_323_1 : in_323_1.map (fun q => zsem zTb (zlk zPl_13) (ztg in_323 q.1) true q.2.1) = cd_323_1.map some := by
  have h1 : ∀ T : Nat → Int → Nat, in_323_1.map (fun q => zsem zTb (zlk zPl_13) (T q.1) true q.2.1) = (ct_323_1 T).map some := fun _ => rfl
  rw [h1 (ztg in_323)]
  unfold ct_323_1
  simp only [tl_285_1806, tl_318_1773, tl_341_1750]
  unfold cd_323_1
  rfl
def ct_323_2 (T : Nat → Int → Nat) : List zSem := [sP (fCon 2), sP (fII (fun x y => x + y)), sRI gAI, sCI 235 3 (some 12) 4, sBr (c2 (zcI .eq)) (T 374 1717), sP (fCon 0),
  sRz, sP (fAld 1), sP (fAld 0), sP (fIld 3), sP (fCon 1), sP (fII (fun x y => x + y)),
  sRI gAI, sP (fAld 0), sP (fIld 3), sP (fCon 2), sP (fII (fun x y => x + y)), sRI gAI,
  sP (fAld 0), sP (fIld 3), sP (fCon 3), sP (fII (fun x y => x + y)), sRI gAI, sP (fAld 0),
  sP (fIld 3), sP (fCon 4), sP (fII (fun x y => x + y)), sRI gAI, sP (fAld 0), sP (fIld 3),
  sP (fCon 5), sP (fII (fun x y => x + y)), sRI gAI, sBr (c1 (zc0 .eq)) (T 405 7), sP (fCon 1), sGo (T 409 4),
  sP (fCon 0), sCI 155 6 (some 11) 8, sP (fAld 2), sP (fAld 0), sP (fIld 3), sP (fCon 1),
  sP (fII (fun x y => x + y)), sRI gAI, sP (fAld 0), sP (fIld 3), sP (fCon 2), sP (fII (fun x y => x + y)),
  sRI gAI, sP (fAld 0), sP (fIld 3), sP (fCon 3), sP (fII (fun x y => x + y)), sRI gAI,
  sP (fAld 0), sP (fIld 3), sP (fCon 4), sP (fII (fun x y => x + y)), sRI gAI, sP (fAld 0),
  sP (fIld 3), sP (fCon 5), sP (fII (fun x y => x + y)), sRI gAI, sBr (c1 (zc0 .eq)) (T 442 7), sP (fCon 1),
  sGo (T 446 4), sP (fCon 0), sCI 241 6 (some 12) 6, sBr (c2 (zcI .eq)) (T 453 1638), sP (fCon 0), sRz,
  sP (fAld 1), sP (fAld 0), sP (fIld 3), sP (fCon 1), sP (fII (fun x y => x + y)), sRI gAI,
  sP (fAld 0), sP (fIld 3)]
def cd_323_2 : List zSem := [sP (fCon 2), sP (fII (fun x y => x + y)), sRI gAI, sCI 235 3 (some 12) 4, sBr (c2 (zcI .eq)) 1599, sP (fCon 0),
  sRz, sP (fAld 1), sP (fAld 0), sP (fIld 3), sP (fCon 1), sP (fII (fun x y => x + y)),
  sRI gAI, sP (fAld 0), sP (fIld 3), sP (fCon 2), sP (fII (fun x y => x + y)), sRI gAI,
  sP (fAld 0), sP (fIld 3), sP (fCon 3), sP (fII (fun x y => x + y)), sRI gAI, sP (fAld 0),
  sP (fIld 3), sP (fCon 4), sP (fII (fun x y => x + y)), sRI gAI, sP (fAld 0), sP (fIld 3),
  sP (fCon 5), sP (fII (fun x y => x + y)), sRI gAI, sBr (c1 (zc0 .eq)) 196, sP (fCon 1), sGo 197,
  sP (fCon 0), sCI 155 6 (some 11) 8, sP (fAld 2), sP (fAld 0), sP (fIld 3), sP (fCon 1),
  sP (fII (fun x y => x + y)), sRI gAI, sP (fAld 0), sP (fIld 3), sP (fCon 2), sP (fII (fun x y => x + y)),
  sRI gAI, sP (fAld 0), sP (fIld 3), sP (fCon 3), sP (fII (fun x y => x + y)), sRI gAI,
  sP (fAld 0), sP (fIld 3), sP (fCon 4), sP (fII (fun x y => x + y)), sRI gAI, sP (fAld 0),
  sP (fIld 3), sP (fCon 5), sP (fII (fun x y => x + y)), sRI gAI, sBr (c1 (zc0 .eq)) 227, sP (fCon 1),
  sGo 228, sP (fCon 0), sCI 241 6 (some 12) 6, sBr (c2 (zcI .eq)) 1599, sP (fCon 0), sRz,
  sP (fAld 1), sP (fAld 0), sP (fIld 3), sP (fCon 1), sP (fII (fun x y => x + y)), sRI gAI,
  sP (fAld 0), sP (fIld 3)]
set_option maxRecDepth 100000 in
theorem ck_323_2 : in_323_2.map (fun q => zsem zTb (zlk zPl_13) (ztg in_323 q.1) true q.2.1) = cd_323_2.map some := by
  have h1 : ∀ T : Nat → Int → Nat, in_323_2.map (fun q => zsem zTb (zlk zPl_13) (T q.1) true q.2.1) = (ct_323_2 T).map some := fun _ => rfl
  rw [h1 (ztg in_323)]
  unfold ct_323_2
  simp only [tl_374_1717, tl_405_7, tl_409_4, tl_442_7, tl_446_4, tl_453_1638]
  unfold cd_323_2
  rfl
def ct_323_3 (T : Nat → Int → Nat) : List zSem := [sP (fCon 2), sP (fII (fun x y => x + y)), sRI gAI, sP (fAld 0), sP (fIld 3), sP (fCon 3),
  sP (fII (fun x y => x + y)), sRI gAI, sCI 156 4 (some 11) 5, sP (fAld 2), sP (fAld 0), sP (fIld 3),
  sP (fCon 1), sP (fII (fun x y => x + y)), sRI gAI, sP (fAld 0), sP (fIld 3), sP (fCon 2),
  sP (fII (fun x y => x + y)), sRI gAI, sP (fAld 0), sP (fIld 3), sP (fCon 3), sP (fII (fun x y => x + y)),
  sRI gAI, sCI 287 4 (some 12) 4, sBr (c2 (zcI .eq)) (T 496 1595), sP (fCon 0), sRz, sP (fAld 1),
  sP (fAld 0), sP (fIld 3), sP (fCon 1), sP (fII (fun x y => x + y)), sRI gAI, sP (fAld 0),
  sP (fIld 3), sP (fCon 2), sP (fII (fun x y => x + y)), sRI gAI, sCI 157 3 (some 11) 5, sP (fAld 2),
  sP (fAld 0), sP (fIld 3), sP (fCon 1), sP (fII (fun x y => x + y)), sRI gAI, sP (fAld 0),
  sP (fIld 3), sP (fCon 2), sP (fII (fun x y => x + y)), sRI gAI, sCI 299 3 (some 12) 3, sBr (c2 (zcI .eq)) (T 529 1562),
  sP (fCon 0), sRz, sP (fAld 1), sP (fAld 0), sP (fIld 3), sP (fCon 1),
  sP (fII (fun x y => x + y)), sRI gAI, sP (fAld 0), sP (fIld 3), sP (fCon 2), sP (fII (fun x y => x + y)),
  sRI gAI, sP (fAld 0), sP (fIld 3), sP (fCon 3), sP (fII (fun x y => x + y)), sRI gAI,
  sP (fAld 0), sP (fIld 3), sP (fCon 4), sP (fII (fun x y => x + y)), sRI gAI, sCI 158 5 (some 11) 7,
  sP (fAld 2), sP (fAld 0)]
def cd_323_3 : List zSem := [sP (fCon 2), sP (fII (fun x y => x + y)), sRI gAI, sP (fAld 0), sP (fIld 3), sP (fCon 3),
  sP (fII (fun x y => x + y)), sRI gAI, sCI 156 4 (some 11) 5, sP (fAld 2), sP (fAld 0), sP (fIld 3),
  sP (fCon 1), sP (fII (fun x y => x + y)), sRI gAI, sP (fAld 0), sP (fIld 3), sP (fCon 2),
  sP (fII (fun x y => x + y)), sRI gAI, sP (fAld 0), sP (fIld 3), sP (fCon 3), sP (fII (fun x y => x + y)),
  sRI gAI, sCI 287 4 (some 12) 4, sBr (c2 (zcI .eq)) 1599, sP (fCon 0), sRz, sP (fAld 1),
  sP (fAld 0), sP (fIld 3), sP (fCon 1), sP (fII (fun x y => x + y)), sRI gAI, sP (fAld 0),
  sP (fIld 3), sP (fCon 2), sP (fII (fun x y => x + y)), sRI gAI, sCI 157 3 (some 11) 5, sP (fAld 2),
  sP (fAld 0), sP (fIld 3), sP (fCon 1), sP (fII (fun x y => x + y)), sRI gAI, sP (fAld 0),
  sP (fIld 3), sP (fCon 2), sP (fII (fun x y => x + y)), sRI gAI, sCI 299 3 (some 12) 3, sBr (c2 (zcI .eq)) 1599,
  sP (fCon 0), sRz, sP (fAld 1), sP (fAld 0), sP (fIld 3), sP (fCon 1),
  sP (fII (fun x y => x + y)), sRI gAI, sP (fAld 0), sP (fIld 3), sP (fCon 2), sP (fII (fun x y => x + y)),
  sRI gAI, sP (fAld 0), sP (fIld 3), sP (fCon 3), sP (fII (fun x y => x + y)), sRI gAI,
  sP (fAld 0), sP (fIld 3), sP (fCon 4), sP (fII (fun x y => x + y)), sRI gAI, sCI 158 5 (some 11) 7,
  sP (fAld 2), sP (fAld 0)]
set_option maxRecDepth 100000 in
theorem ck_323_3 : in_323_3.map (fun q => zsem zTb (zlk zPl_13) (ztg in_323 q.1) true q.2.1) = cd_323_3.map some := by
  have h1 : ∀ T : Nat → Int → Nat, in_323_3.map (fun q => zsem zTb (zlk zPl_13) (T q.1) true q.2.1) = (ct_323_3 T).map some := fun _ => rfl
  rw [h1 (ztg in_323)]
  unfold ct_323_3
  simp only [tl_496_1595, tl_529_1562]
  unfold cd_323_3
  rfl
def ct_323_4 (T : Nat → Int → Nat) : List zSem := [sP (fIld 3), sP (fCon 1), sP (fII (fun x y => x + y)), sRI gAI, sP (fAld 0), sP (fIld 3),
  sP (fCon 2), sP (fII (fun x y => x + y)), sRI gAI, sP (fAld 0), sP (fIld 3), sP (fCon 3),
  sP (fII (fun x y => x + y)), sRI gAI, sP (fAld 0), sP (fIld 3), sP (fCon 4), sP (fII (fun x y => x + y)),
  sRI gAI, sCI 303 5 (some 12) 5, sBr (c2 (zcI .eq)) (T 582 1509), sP (fCon 0), sRz, sP (fAld 1),
  sP (fAld 0), sP (fIld 3), sP (fCon 1), sP (fII (fun x y => x + y)), sRI gAI, sP (fAld 0),
  sP (fIld 3), sP (fCon 2), sP (fII (fun x y => x + y)), sRI gAI, sP (fAld 0), sP (fIld 3),
  sP (fCon 3), sP (fII (fun x y => x + y)), sRI gAI, sP (fAld 0), sP (fIld 3), sP (fCon 4),
  sP (fII (fun x y => x + y)), sRI gAI, sP (fAld 0), sP (fIld 3), sP (fCon 5), sP (fII (fun x y => x + y)),
  sRI gAI, sP (fAld 0), sP (fIld 3), sP (fCon 6), sP (fII (fun x y => x + y)), sRI gAI,
  sCI 159 7 (some 11) 8, sP (fAld 2), sP (fAld 0), sP (fIld 3), sP (fCon 1), sP (fII (fun x y => x + y)),
  sRI gAI, sP (fAld 0), sP (fIld 3), sP (fCon 2), sP (fII (fun x y => x + y)), sRI gAI,
  sP (fAld 0), sP (fIld 3), sP (fCon 3), sP (fII (fun x y => x + y)), sRI gAI, sP (fAld 0),
  sP (fIld 3), sP (fCon 4), sP (fII (fun x y => x + y)), sRI gAI, sP (fAld 0), sP (fIld 3),
  sP (fCon 5), sP (fII (fun x y => x + y))]
def cd_323_4 : List zSem := [sP (fIld 3), sP (fCon 1), sP (fII (fun x y => x + y)), sRI gAI, sP (fAld 0), sP (fIld 3),
  sP (fCon 2), sP (fII (fun x y => x + y)), sRI gAI, sP (fAld 0), sP (fIld 3), sP (fCon 3),
  sP (fII (fun x y => x + y)), sRI gAI, sP (fAld 0), sP (fIld 3), sP (fCon 4), sP (fII (fun x y => x + y)),
  sRI gAI, sCI 303 5 (some 12) 5, sBr (c2 (zcI .eq)) 1599, sP (fCon 0), sRz, sP (fAld 1),
  sP (fAld 0), sP (fIld 3), sP (fCon 1), sP (fII (fun x y => x + y)), sRI gAI, sP (fAld 0),
  sP (fIld 3), sP (fCon 2), sP (fII (fun x y => x + y)), sRI gAI, sP (fAld 0), sP (fIld 3),
  sP (fCon 3), sP (fII (fun x y => x + y)), sRI gAI, sP (fAld 0), sP (fIld 3), sP (fCon 4),
  sP (fII (fun x y => x + y)), sRI gAI, sP (fAld 0), sP (fIld 3), sP (fCon 5), sP (fII (fun x y => x + y)),
  sRI gAI, sP (fAld 0), sP (fIld 3), sP (fCon 6), sP (fII (fun x y => x + y)), sRI gAI,
  sCI 159 7 (some 11) 8, sP (fAld 2), sP (fAld 0), sP (fIld 3), sP (fCon 1), sP (fII (fun x y => x + y)),
  sRI gAI, sP (fAld 0), sP (fIld 3), sP (fCon 2), sP (fII (fun x y => x + y)), sRI gAI,
  sP (fAld 0), sP (fIld 3), sP (fCon 3), sP (fII (fun x y => x + y)), sRI gAI, sP (fAld 0),
  sP (fIld 3), sP (fCon 4), sP (fII (fun x y => x + y)), sRI gAI, sP (fAld 0), sP (fIld 3),
  sP (fCon 5), sP (fII (fun x y => x + y))]
set_option maxRecDepth 100000 in
theorem ck_323_4 : in_323_4.map (fun q => zsem zTb (zlk zPl_13) (ztg in_323 q.1) true q.2.1) = cd_323_4.map some := by
  have h1 : ∀ T : Nat → Int → Nat, in_323_4.map (fun q => zsem zTb (zlk zPl_13) (T q.1) true q.2.1) = (ct_323_4 T).map some := fun _ => rfl
  rw [h1 (ztg in_323)]
  unfold ct_323_4
  simp only [tl_582_1509]
  unfold cd_323_4
  rfl
def ct_323_5 (T : Nat → Int → Nat) : List zSem := [sRI gAI, sP (fAld 0), sP (fIld 3), sP (fCon 6), sP (fII (fun x y => x + y)), sRI gAI,
  sCI 244 7 (some 12) 10, sBr (c2 (zcI .eq)) (T 657 1434), sP (fCon 0), sRz, sP (fAld 1), sP (fAld 0),
  sP (fIld 3), sP (fCon 1), sP (fII (fun x y => x + y)), sRI gAI, sP (fAld 0), sP (fIld 3),
  sP (fCon 2), sP (fII (fun x y => x + y)), sRI gAI, sP (fAld 0), sP (fIld 3), sP (fCon 3),
  sP (fII (fun x y => x + y)), sRI gAI, sP (fAld 0), sP (fIld 3), sP (fCon 4), sP (fII (fun x y => x + y)),
  sRI gAI, sCI 160 5 (some 11) 6, sP (fAld 2), sP (fAld 0), sP (fIld 3), sP (fCon 1),
  sP (fII (fun x y => x + y)), sRI gAI, sP (fAld 0), sP (fIld 3), sP (fCon 2), sP (fII (fun x y => x + y)),
  sRI gAI, sP (fAld 0), sP (fIld 3), sP (fCon 3), sP (fII (fun x y => x + y)), sRI gAI,
  sP (fAld 0), sP (fIld 3), sP (fCon 4), sP (fII (fun x y => x + y)), sRI gAI, sCI 248 5 (some 12) 9,
  sBr (c2 (zcI .eq)) (T 710 1381), sP (fCon 0), sRz, sP (fAld 1), sP (fAld 0), sP (fIld 3),
  sP (fCon 1), sP (fII (fun x y => x + y)), sRI gAI, sP (fAld 0), sP (fIld 3), sP (fCon 2),
  sP (fII (fun x y => x + y)), sRI gAI, sP (fAld 0), sP (fIld 3), sP (fCon 3), sP (fII (fun x y => x + y)),
  sRI gAI, sP (fAld 0), sP (fIld 3), sP (fCon 4), sP (fII (fun x y => x + y)), sRI gAI,
  sBr (c1 (zc0 .eq)) (T 736 7), sP (fCon 1)]
def cd_323_5 : List zSem := [sRI gAI, sP (fAld 0), sP (fIld 3), sP (fCon 6), sP (fII (fun x y => x + y)), sRI gAI,
  sCI 244 7 (some 12) 10, sBr (c2 (zcI .eq)) 1599, sP (fCon 0), sRz, sP (fAld 1), sP (fAld 0),
  sP (fIld 3), sP (fCon 1), sP (fII (fun x y => x + y)), sRI gAI, sP (fAld 0), sP (fIld 3),
  sP (fCon 2), sP (fII (fun x y => x + y)), sRI gAI, sP (fAld 0), sP (fIld 3), sP (fCon 3),
  sP (fII (fun x y => x + y)), sRI gAI, sP (fAld 0), sP (fIld 3), sP (fCon 4), sP (fII (fun x y => x + y)),
  sRI gAI, sCI 160 5 (some 11) 6, sP (fAld 2), sP (fAld 0), sP (fIld 3), sP (fCon 1),
  sP (fII (fun x y => x + y)), sRI gAI, sP (fAld 0), sP (fIld 3), sP (fCon 2), sP (fII (fun x y => x + y)),
  sRI gAI, sP (fAld 0), sP (fIld 3), sP (fCon 3), sP (fII (fun x y => x + y)), sRI gAI,
  sP (fAld 0), sP (fIld 3), sP (fCon 4), sP (fII (fun x y => x + y)), sRI gAI, sCI 248 5 (some 12) 9,
  sBr (c2 (zcI .eq)) 1599, sP (fCon 0), sRz, sP (fAld 1), sP (fAld 0), sP (fIld 3),
  sP (fCon 1), sP (fII (fun x y => x + y)), sRI gAI, sP (fAld 0), sP (fIld 3), sP (fCon 2),
  sP (fII (fun x y => x + y)), sRI gAI, sP (fAld 0), sP (fIld 3), sP (fCon 3), sP (fII (fun x y => x + y)),
  sRI gAI, sP (fAld 0), sP (fIld 3), sP (fCon 4), sP (fII (fun x y => x + y)), sRI gAI,
  sBr (c1 (zc0 .eq)) 481, sP (fCon 1)]
set_option maxRecDepth 100000 in
theorem ck_323_5 : in_323_5.map (fun q => zsem zTb (zlk zPl_13) (ztg in_323 q.1) true q.2.1) = cd_323_5.map some := by
  have h1 : ∀ T : Nat → Int → Nat, in_323_5.map (fun q => zsem zTb (zlk zPl_13) (T q.1) true q.2.1) = (ct_323_5 T).map some := fun _ => rfl
  rw [h1 (ztg in_323)]
  unfold ct_323_5
  simp only [tl_657_1434, tl_710_1381, tl_736_7]
  unfold cd_323_5
  rfl
def ct_323_6 (T : Nat → Int → Nat) : List zSem := [sGo (T 740 4), sP (fCon 0), sCI 161 5 (some 11) 6, sP (fAld 2), sP (fAld 0), sP (fIld 3),
  sP (fCon 1), sP (fII (fun x y => x + y)), sRI gAI, sP (fAld 0), sP (fIld 3), sP (fCon 2),
  sP (fII (fun x y => x + y)), sRI gAI, sP (fAld 0), sP (fIld 3), sP (fCon 3), sP (fII (fun x y => x + y)),
  sRI gAI, sP (fAld 0), sP (fIld 3), sP (fCon 4), sP (fII (fun x y => x + y)), sRI gAI,
  sBr (c1 (zc0 .eq)) (T 768 7), sP (fCon 1), sGo (T 772 4), sP (fCon 0), sCI 251 5 (some 12) 5, sBr (c2 (zcI .eq)) (T 779 1312),
  sP (fCon 0), sRz, sP (fAld 1), sP (fAld 0), sP (fIld 3), sP (fCon 1),
  sP (fII (fun x y => x + y)), sRI gAI, sP (fAld 0), sP (fIld 3), sP (fCon 2), sP (fII (fun x y => x + y)),
  sRI gAI, sP (fAld 0), sP (fIld 3), sP (fCon 3), sP (fII (fun x y => x + y)), sRI gAI,
  sCI 162 4 (some 11) 5, sP (fAld 2), sP (fAld 0), sP (fIld 3), sP (fCon 1), sP (fII (fun x y => x + y)),
  sRI gAI, sP (fAld 0), sP (fIld 3), sP (fCon 2), sP (fII (fun x y => x + y)), sRI gAI,
  sP (fAld 0), sP (fIld 3), sP (fCon 3), sP (fII (fun x y => x + y)), sRI gAI, sCI 252 4 (some 12) 8,
  sBr (c2 (zcI .eq)) (T 822 1269), sP (fCon 0), sRz, sP (fAld 1), sP (fAld 0), sP (fIld 3),
  sP (fCon 1), sP (fII (fun x y => x + y)), sRI gAI, sCI 163 2 (some 11) 3, sP (fAld 2), sP (fAld 0),
  sP (fIld 3), sP (fCon 1)]
def cd_323_6 : List zSem := [sGo 482, sP (fCon 0), sCI 161 5 (some 11) 6, sP (fAld 2), sP (fAld 0), sP (fIld 3),
  sP (fCon 1), sP (fII (fun x y => x + y)), sRI gAI, sP (fAld 0), sP (fIld 3), sP (fCon 2),
  sP (fII (fun x y => x + y)), sRI gAI, sP (fAld 0), sP (fIld 3), sP (fCon 3), sP (fII (fun x y => x + y)),
  sRI gAI, sP (fAld 0), sP (fIld 3), sP (fCon 4), sP (fII (fun x y => x + y)), sRI gAI,
  sBr (c1 (zc0 .eq)) 507, sP (fCon 1), sGo 508, sP (fCon 0), sCI 251 5 (some 12) 5, sBr (c2 (zcI .eq)) 1599,
  sP (fCon 0), sRz, sP (fAld 1), sP (fAld 0), sP (fIld 3), sP (fCon 1),
  sP (fII (fun x y => x + y)), sRI gAI, sP (fAld 0), sP (fIld 3), sP (fCon 2), sP (fII (fun x y => x + y)),
  sRI gAI, sP (fAld 0), sP (fIld 3), sP (fCon 3), sP (fII (fun x y => x + y)), sRI gAI,
  sCI 162 4 (some 11) 5, sP (fAld 2), sP (fAld 0), sP (fIld 3), sP (fCon 1), sP (fII (fun x y => x + y)),
  sRI gAI, sP (fAld 0), sP (fIld 3), sP (fCon 2), sP (fII (fun x y => x + y)), sRI gAI,
  sP (fAld 0), sP (fIld 3), sP (fCon 3), sP (fII (fun x y => x + y)), sRI gAI, sCI 252 4 (some 12) 8,
  sBr (c2 (zcI .eq)) 1599, sP (fCon 0), sRz, sP (fAld 1), sP (fAld 0), sP (fIld 3),
  sP (fCon 1), sP (fII (fun x y => x + y)), sRI gAI, sCI 163 2 (some 11) 3, sP (fAld 2), sP (fAld 0),
  sP (fIld 3), sP (fCon 1)]
set_option maxRecDepth 100000 in
theorem ck_323_6 : in_323_6.map (fun q => zsem zTb (zlk zPl_13) (ztg in_323 q.1) true q.2.1) = cd_323_6.map some := by
  have h1 : ∀ T : Nat → Int → Nat, in_323_6.map (fun q => zsem zTb (zlk zPl_13) (T q.1) true q.2.1) = (ct_323_6 T).map some := fun _ => rfl
  rw [h1 (ztg in_323)]
  unfold ct_323_6
  simp only [tl_740_4, tl_768_7, tl_772_4, tl_779_1312, tl_822_1269]
  unfold cd_323_6
  rfl
def ct_323_7 (T : Nat → Int → Nat) : List zSem := [sP (fII (fun x y => x + y)), sRI gAI, sCI 253 2 (some 12) 6, sBr (c2 (zcI .eq)) (T 845 1246), sP (fCon 0), sRz,
  sP (fAld 1), sP (fAld 0), sP (fIld 3), sP (fCon 1), sP (fII (fun x y => x + y)), sRI gAI,
  sP (fAld 0), sP (fIld 3), sP (fCon 2), sP (fII (fun x y => x + y)), sRI gAI, sP (fAld 0),
  sP (fIld 3), sP (fCon 3), sP (fII (fun x y => x + y)), sRI gAI, sCI 164 4 (some 11) 5, sP (fAld 2),
  sP (fAld 0), sP (fIld 3), sP (fCon 1), sP (fII (fun x y => x + y)), sRI gAI, sP (fAld 0),
  sP (fIld 3), sP (fCon 2), sP (fII (fun x y => x + y)), sRI gAI, sP (fAld 0), sP (fIld 3),
  sP (fCon 3), sP (fII (fun x y => x + y)), sRI gAI, sCI 254 4 (some 12) 7, sBr (c2 (zcI .eq)) (T 888 1203), sP (fCon 0),
  sRz, sP (fAld 1), sP (fAld 0), sP (fIld 3), sP (fCon 1), sP (fII (fun x y => x + y)),
  sRI gAI, sP (fAld 0), sP (fIld 3), sP (fCon 2), sP (fII (fun x y => x + y)), sRI gAI,
  sP (fAld 0), sP (fIld 3), sP (fCon 3), sP (fII (fun x y => x + y)), sRI gAI, sP (fAld 0),
  sP (fIld 3), sP (fCon 4), sP (fII (fun x y => x + y)), sRI gAI, sP (fAld 0), sP (fIld 3),
  sP (fCon 5), sP (fII (fun x y => x + y)), sRI gAI, sCI 165 6 (some 11) 7, sP (fAld 2), sP (fAld 0),
  sP (fIld 3), sP (fCon 1), sP (fII (fun x y => x + y)), sRI gAI, sP (fAld 0), sP (fIld 3),
  sP (fCon 2), sP (fII (fun x y => x + y))]
def cd_323_7 : List zSem := [sP (fII (fun x y => x + y)), sRI gAI, sCI 253 2 (some 12) 6, sBr (c2 (zcI .eq)) 1599, sP (fCon 0), sRz,
  sP (fAld 1), sP (fAld 0), sP (fIld 3), sP (fCon 1), sP (fII (fun x y => x + y)), sRI gAI,
  sP (fAld 0), sP (fIld 3), sP (fCon 2), sP (fII (fun x y => x + y)), sRI gAI, sP (fAld 0),
  sP (fIld 3), sP (fCon 3), sP (fII (fun x y => x + y)), sRI gAI, sCI 164 4 (some 11) 5, sP (fAld 2),
  sP (fAld 0), sP (fIld 3), sP (fCon 1), sP (fII (fun x y => x + y)), sRI gAI, sP (fAld 0),
  sP (fIld 3), sP (fCon 2), sP (fII (fun x y => x + y)), sRI gAI, sP (fAld 0), sP (fIld 3),
  sP (fCon 3), sP (fII (fun x y => x + y)), sRI gAI, sCI 254 4 (some 12) 7, sBr (c2 (zcI .eq)) 1599, sP (fCon 0),
  sRz, sP (fAld 1), sP (fAld 0), sP (fIld 3), sP (fCon 1), sP (fII (fun x y => x + y)),
  sRI gAI, sP (fAld 0), sP (fIld 3), sP (fCon 2), sP (fII (fun x y => x + y)), sRI gAI,
  sP (fAld 0), sP (fIld 3), sP (fCon 3), sP (fII (fun x y => x + y)), sRI gAI, sP (fAld 0),
  sP (fIld 3), sP (fCon 4), sP (fII (fun x y => x + y)), sRI gAI, sP (fAld 0), sP (fIld 3),
  sP (fCon 5), sP (fII (fun x y => x + y)), sRI gAI, sCI 165 6 (some 11) 7, sP (fAld 2), sP (fAld 0),
  sP (fIld 3), sP (fCon 1), sP (fII (fun x y => x + y)), sRI gAI, sP (fAld 0), sP (fIld 3),
  sP (fCon 2), sP (fII (fun x y => x + y))]
set_option maxRecDepth 100000 in
theorem ck_323_7 : in_323_7.map (fun q => zsem zTb (zlk zPl_13) (ztg in_323 q.1) true q.2.1) = cd_323_7.map some := by
  have h1 : ∀ T : Nat → Int → Nat, in_323_7.map (fun q => zsem zTb (zlk zPl_13) (T q.1) true q.2.1) = (ct_323_7 T).map some := fun _ => rfl
  rw [h1 (ztg in_323)]
  unfold ct_323_7
  simp only [tl_845_1246, tl_888_1203]
  unfold cd_323_7
  rfl
def ct_323_8 (T : Nat → Int → Nat) : List zSem := [sRI gAI, sP (fAld 0), sP (fIld 3), sP (fCon 3), sP (fII (fun x y => x + y)), sRI gAI,
  sP (fAld 0), sP (fIld 3), sP (fCon 4), sP (fII (fun x y => x + y)), sRI gAI, sP (fAld 0),
  sP (fIld 3), sP (fCon 5), sP (fII (fun x y => x + y)), sRI gAI, sCI 255 6 (some 12) 7, sBr (c2 (zcI .eq)) (T 951 1140),
  sP (fCon 0), sRz, sP (fAld 1), sP (fAld 0), sP (fIld 3), sP (fCon 1),
  sP (fII (fun x y => x + y)), sRI gAI, sP (fAld 0), sP (fIld 3), sP (fCon 2), sP (fII (fun x y => x + y)),
  sRI gAI, sP (fAld 0), sP (fIld 3), sP (fCon 3), sP (fII (fun x y => x + y)), sRI gAI,
  sCI 166 4 (some 11) 5, sP (fAld 2), sP (fAld 0), sP (fIld 3), sP (fCon 1), sP (fII (fun x y => x + y)),
  sRI gAI, sP (fAld 0), sP (fIld 3), sP (fCon 2), sP (fII (fun x y => x + y)), sRI gAI,
  sP (fAld 0), sP (fIld 3), sP (fCon 3), sP (fII (fun x y => x + y)), sRI gAI, sCI 305 4 (some 12) 4,
  sBr (c2 (zcI .eq)) (T 994 1097), sP (fCon 0), sRz, sP (fAld 1), sP (fAld 0), sP (fIld 3),
  sP (fCon 1), sP (fII (fun x y => x + y)), sRI gAI, sP (fAld 0), sP (fIld 3), sP (fCon 2),
  sP (fII (fun x y => x + y)), sRI gAI, sP (fAld 0), sP (fIld 3), sP (fCon 3), sP (fII (fun x y => x + y)),
  sRI gAI, sCI 167 4 (some 11) 6, sP (fAld 2), sP (fAld 0), sP (fIld 3), sP (fCon 1),
  sP (fII (fun x y => x + y)), sRI gAI]
def cd_323_8 : List zSem := [sRI gAI, sP (fAld 0), sP (fIld 3), sP (fCon 3), sP (fII (fun x y => x + y)), sRI gAI,
  sP (fAld 0), sP (fIld 3), sP (fCon 4), sP (fII (fun x y => x + y)), sRI gAI, sP (fAld 0),
  sP (fIld 3), sP (fCon 5), sP (fII (fun x y => x + y)), sRI gAI, sCI 255 6 (some 12) 7, sBr (c2 (zcI .eq)) 1599,
  sP (fCon 0), sRz, sP (fAld 1), sP (fAld 0), sP (fIld 3), sP (fCon 1),
  sP (fII (fun x y => x + y)), sRI gAI, sP (fAld 0), sP (fIld 3), sP (fCon 2), sP (fII (fun x y => x + y)),
  sRI gAI, sP (fAld 0), sP (fIld 3), sP (fCon 3), sP (fII (fun x y => x + y)), sRI gAI,
  sCI 166 4 (some 11) 5, sP (fAld 2), sP (fAld 0), sP (fIld 3), sP (fCon 1), sP (fII (fun x y => x + y)),
  sRI gAI, sP (fAld 0), sP (fIld 3), sP (fCon 2), sP (fII (fun x y => x + y)), sRI gAI,
  sP (fAld 0), sP (fIld 3), sP (fCon 3), sP (fII (fun x y => x + y)), sRI gAI, sCI 305 4 (some 12) 4,
  sBr (c2 (zcI .eq)) 1599, sP (fCon 0), sRz, sP (fAld 1), sP (fAld 0), sP (fIld 3),
  sP (fCon 1), sP (fII (fun x y => x + y)), sRI gAI, sP (fAld 0), sP (fIld 3), sP (fCon 2),
  sP (fII (fun x y => x + y)), sRI gAI, sP (fAld 0), sP (fIld 3), sP (fCon 3), sP (fII (fun x y => x + y)),
  sRI gAI, sCI 167 4 (some 11) 6, sP (fAld 2), sP (fAld 0), sP (fIld 3), sP (fCon 1),
  sP (fII (fun x y => x + y)), sRI gAI]
set_option maxRecDepth 100000 in
theorem ck_323_8 : in_323_8.map (fun q => zsem zTb (zlk zPl_13) (ztg in_323 q.1) true q.2.1) = cd_323_8.map some := by
  have h1 : ∀ T : Nat → Int → Nat, in_323_8.map (fun q => zsem zTb (zlk zPl_13) (T q.1) true q.2.1) = (ct_323_8 T).map some := fun _ => rfl
  rw [h1 (ztg in_323)]
  unfold ct_323_8
  simp only [tl_951_1140, tl_994_1097]
  unfold cd_323_8
  rfl
def ct_323_9 (T : Nat → Int → Nat) : List zSem := [sP (fAld 0), sP (fIld 3), sP (fCon 2), sP (fII (fun x y => x + y)), sRI gAI, sP (fAld 0),
  sP (fIld 3), sP (fCon 3), sP (fII (fun x y => x + y)), sRI gAI, sCI 312 4 (some 12) 8, sBr (c2 (zcI .eq)) (T 1037 1054),
  sP (fCon 0), sRz, sP (fAld 1), sP (fAld 0), sP (fIld 3), sP (fCon 1),
  sP (fII (fun x y => x + y)), sRI gAI, sP (fAld 0), sP (fIld 3), sP (fCon 2), sP (fII (fun x y => x + y)),
  sRI gAI, sP (fAld 0), sP (fIld 3), sP (fCon 3), sP (fII (fun x y => x + y)), sRI gAI,
  sP (fAld 0), sP (fIld 3), sP (fCon 4), sP (fII (fun x y => x + y)), sRI gAI, sP (fAld 0),
  sP (fIld 3), sP (fCon 5), sP (fII (fun x y => x + y)), sRI gAI, sBr (c1 (zc0 .eq)) (T 1068 7), sP (fCon 1),
  sGo (T 1072 4), sP (fCon 0), sCL 168 6 (some 11) 13, sP (fAld 2), sP (fAld 0), sP (fIld 3),
  sP (fCon 1), sP (fII (fun x y => x + y)), sRI gAI, sP (fAld 0), sP (fIld 3), sP (fCon 2),
  sP (fII (fun x y => x + y)), sRI gAI, sP (fAld 0), sP (fIld 3), sP (fCon 3), sP (fII (fun x y => x + y)),
  sRI gAI, sP (fAld 0), sP (fIld 3), sP (fCon 4), sP (fII (fun x y => x + y)), sRI gAI,
  sP (fAld 0), sP (fIld 3), sP (fCon 5), sP (fII (fun x y => x + y)), sRI gAI, sBr (c1 (zc0 .eq)) (T 1105 7),
  sP (fCon 1), sGo (T 1109 4), sP (fCon 0), sCL 316 6 (some 12) 14, sP fLc, sBr (c1 (zc0 .eq)) (T 1117 974),
  sP (fCon 0), sRz]
def cd_323_9 : List zSem := [sP (fAld 0), sP (fIld 3), sP (fCon 2), sP (fII (fun x y => x + y)), sRI gAI, sP (fAld 0),
  sP (fIld 3), sP (fCon 3), sP (fII (fun x y => x + y)), sRI gAI, sCI 312 4 (some 12) 8, sBr (c2 (zcI .eq)) 1599,
  sP (fCon 0), sRz, sP (fAld 1), sP (fAld 0), sP (fIld 3), sP (fCon 1),
  sP (fII (fun x y => x + y)), sRI gAI, sP (fAld 0), sP (fIld 3), sP (fCon 2), sP (fII (fun x y => x + y)),
  sRI gAI, sP (fAld 0), sP (fIld 3), sP (fCon 3), sP (fII (fun x y => x + y)), sRI gAI,
  sP (fAld 0), sP (fIld 3), sP (fCon 4), sP (fII (fun x y => x + y)), sRI gAI, sP (fAld 0),
  sP (fIld 3), sP (fCon 5), sP (fII (fun x y => x + y)), sRI gAI, sBr (c1 (zc0 .eq)) 763, sP (fCon 1),
  sGo 764, sP (fCon 0), sCL 168 6 (some 11) 13, sP (fAld 2), sP (fAld 0), sP (fIld 3),
  sP (fCon 1), sP (fII (fun x y => x + y)), sRI gAI, sP (fAld 0), sP (fIld 3), sP (fCon 2),
  sP (fII (fun x y => x + y)), sRI gAI, sP (fAld 0), sP (fIld 3), sP (fCon 3), sP (fII (fun x y => x + y)),
  sRI gAI, sP (fAld 0), sP (fIld 3), sP (fCon 4), sP (fII (fun x y => x + y)), sRI gAI,
  sP (fAld 0), sP (fIld 3), sP (fCon 5), sP (fII (fun x y => x + y)), sRI gAI, sBr (c1 (zc0 .eq)) 794,
  sP (fCon 1), sGo 795, sP (fCon 0), sCL 316 6 (some 12) 14, sP fLc, sBr (c1 (zc0 .eq)) 1599,
  sP (fCon 0), sRz]
set_option maxRecDepth 100000 in
theorem ck_323_9 : in_323_9.map (fun q => zsem zTb (zlk zPl_13) (ztg in_323 q.1) true q.2.1) = cd_323_9.map some := by
  have h1 : ∀ T : Nat → Int → Nat, in_323_9.map (fun q => zsem zTb (zlk zPl_13) (T q.1) true q.2.1) = (ct_323_9 T).map some := fun _ => rfl
  rw [h1 (ztg in_323)]
  unfold ct_323_9
  simp only [tl_1037_1054, tl_1068_7, tl_1072_4, tl_1105_7, tl_1109_4, tl_1117_974]
  unfold cd_323_9
  rfl
def ct_323_10 (T : Nat → Int → Nat) : List zSem := [sP (fAld 1), sP (fAld 0), sP (fIld 3), sP (fCon 1), sP (fII (fun x y => x + y)), sRI gAI,
  sP (fAld 0), sP (fIld 3), sP (fCon 2), sP (fII (fun x y => x + y)), sRI gAI, sP (fAld 0),
  sP (fIld 3), sP (fCon 3), sP (fII (fun x y => x + y)), sRI gAI, sP (fAld 0), sP (fIld 3),
  sP (fCon 4), sP (fII (fun x y => x + y)), sRI gAI, sCI 169 5 (some 11) 6, sP (fAld 2), sP (fAld 0),
  sP (fIld 3), sP (fCon 1), sP (fII (fun x y => x + y)), sRI gAI, sP (fAld 0), sP (fIld 3),
  sP (fCon 2), sP (fII (fun x y => x + y)), sRI gAI, sP (fAld 0), sP (fIld 3), sP (fCon 3),
  sP (fII (fun x y => x + y)), sRI gAI, sP (fAld 0), sP (fIld 3), sP (fCon 4), sP (fII (fun x y => x + y)),
  sRI gAI, sCI 319 5 (some 12) 6, sBr (c2 (zcI .eq)) (T 1170 921), sP (fCon 0), sRz, sP (fAld 1),
  sP (fAld 0), sP (fIld 3), sP (fCon 1), sP (fII (fun x y => x + y)), sRI gAI, sP (fAld 0),
  sP (fIld 3), sP (fCon 2), sP (fII (fun x y => x + y)), sRI gAI, sP (fAld 0), sP (fIld 3),
  sP (fCon 3), sP (fII (fun x y => x + y)), sRI gAI, sP (fAld 0), sP (fIld 3), sP (fCon 4),
  sP (fII (fun x y => x + y)), sRI gAI, sP (fAld 0), sP (fIld 3), sP (fCon 5), sP (fII (fun x y => x + y)),
  sRI gAI, sCI 170 6 (some 11) 7, sP (fAld 2), sP (fAld 0), sP (fIld 3), sP (fCon 1),
  sP (fII (fun x y => x + y)), sRI gAI]
def cd_323_10 : List zSem := [sP (fAld 1), sP (fAld 0), sP (fIld 3), sP (fCon 1), sP (fII (fun x y => x + y)), sRI gAI,
  sP (fAld 0), sP (fIld 3), sP (fCon 2), sP (fII (fun x y => x + y)), sRI gAI, sP (fAld 0),
  sP (fIld 3), sP (fCon 3), sP (fII (fun x y => x + y)), sRI gAI, sP (fAld 0), sP (fIld 3),
  sP (fCon 4), sP (fII (fun x y => x + y)), sRI gAI, sCI 169 5 (some 11) 6, sP (fAld 2), sP (fAld 0),
  sP (fIld 3), sP (fCon 1), sP (fII (fun x y => x + y)), sRI gAI, sP (fAld 0), sP (fIld 3),
  sP (fCon 2), sP (fII (fun x y => x + y)), sRI gAI, sP (fAld 0), sP (fIld 3), sP (fCon 3),
  sP (fII (fun x y => x + y)), sRI gAI, sP (fAld 0), sP (fIld 3), sP (fCon 4), sP (fII (fun x y => x + y)),
  sRI gAI, sCI 319 5 (some 12) 6, sBr (c2 (zcI .eq)) 1599, sP (fCon 0), sRz, sP (fAld 1),
  sP (fAld 0), sP (fIld 3), sP (fCon 1), sP (fII (fun x y => x + y)), sRI gAI, sP (fAld 0),
  sP (fIld 3), sP (fCon 2), sP (fII (fun x y => x + y)), sRI gAI, sP (fAld 0), sP (fIld 3),
  sP (fCon 3), sP (fII (fun x y => x + y)), sRI gAI, sP (fAld 0), sP (fIld 3), sP (fCon 4),
  sP (fII (fun x y => x + y)), sRI gAI, sP (fAld 0), sP (fIld 3), sP (fCon 5), sP (fII (fun x y => x + y)),
  sRI gAI, sCI 170 6 (some 11) 7, sP (fAld 2), sP (fAld 0), sP (fIld 3), sP (fCon 1),
  sP (fII (fun x y => x + y)), sRI gAI]
set_option maxRecDepth 100000 in
theorem ck_323_10 : in_323_10.map (fun q => zsem zTb (zlk zPl_13) (ztg in_323 q.1) true q.2.1) = cd_323_10.map some := by
  have h1 : ∀ T : Nat → Int → Nat, in_323_10.map (fun q => zsem zTb (zlk zPl_13) (T q.1) true q.2.1) = (ct_323_10 T).map some := fun _ => rfl
  rw [h1 (ztg in_323)]
  unfold ct_323_10
  simp only [tl_1170_921]
  unfold cd_323_10
  rfl
def ct_323_11 (T : Nat → Int → Nat) : List zSem := [sP (fAld 0), sP (fIld 3), sP (fCon 2), sP (fII (fun x y => x + y)), sRI gAI, sP (fAld 0),
  sP (fIld 3), sP (fCon 3), sP (fII (fun x y => x + y)), sRI gAI, sP (fAld 0), sP (fIld 3),
  sP (fCon 4), sP (fII (fun x y => x + y)), sRI gAI, sP (fAld 0), sP (fIld 3), sP (fCon 5),
  sP (fII (fun x y => x + y)), sRI gAI, sCI 257 6 (some 12) 6, sBr (c2 (zcI .eq)) (T 1233 858), sP (fCon 0), sRz,
  sP (fAld 1), sP (fAld 0), sP (fIld 3), sP (fCon 1), sP (fII (fun x y => x + y)), sRI gAI,
  sP (fAld 0), sP (fIld 3), sP (fCon 2), sP (fII (fun x y => x + y)), sRI gAI, sP (fAld 0),
  sP (fIld 3), sP (fCon 3), sP (fII (fun x y => x + y)), sRI gAI, sP (fAld 0), sP (fIld 3),
  sP (fCon 4), sP (fII (fun x y => x + y)), sRI gAI, sP (fAld 0), sP (fIld 3), sP (fCon 5),
  sP (fII (fun x y => x + y)), sRI gAI, sCI 171 6 (some 11) 7, sP (fAld 2), sP (fAld 0), sP (fIld 3),
  sP (fCon 1), sP (fII (fun x y => x + y)), sRI gAI, sP (fAld 0), sP (fIld 3), sP (fCon 2),
  sP (fII (fun x y => x + y)), sRI gAI, sP (fAld 0), sP (fIld 3), sP (fCon 3), sP (fII (fun x y => x + y)),
  sRI gAI, sP (fAld 0), sP (fIld 3), sP (fCon 4), sP (fII (fun x y => x + y)), sRI gAI,
  sP (fAld 0), sP (fIld 3), sP (fCon 5), sP (fII (fun x y => x + y)), sRI gAI, sCI 258 6 (some 12) 7,
  sBr (c2 (zcI .eq)) (T 1296 795), sP (fCon 0)]
def cd_323_11 : List zSem := [sP (fAld 0), sP (fIld 3), sP (fCon 2), sP (fII (fun x y => x + y)), sRI gAI, sP (fAld 0),
  sP (fIld 3), sP (fCon 3), sP (fII (fun x y => x + y)), sRI gAI, sP (fAld 0), sP (fIld 3),
  sP (fCon 4), sP (fII (fun x y => x + y)), sRI gAI, sP (fAld 0), sP (fIld 3), sP (fCon 5),
  sP (fII (fun x y => x + y)), sRI gAI, sCI 257 6 (some 12) 6, sBr (c2 (zcI .eq)) 1599, sP (fCon 0), sRz,
  sP (fAld 1), sP (fAld 0), sP (fIld 3), sP (fCon 1), sP (fII (fun x y => x + y)), sRI gAI,
  sP (fAld 0), sP (fIld 3), sP (fCon 2), sP (fII (fun x y => x + y)), sRI gAI, sP (fAld 0),
  sP (fIld 3), sP (fCon 3), sP (fII (fun x y => x + y)), sRI gAI, sP (fAld 0), sP (fIld 3),
  sP (fCon 4), sP (fII (fun x y => x + y)), sRI gAI, sP (fAld 0), sP (fIld 3), sP (fCon 5),
  sP (fII (fun x y => x + y)), sRI gAI, sCI 171 6 (some 11) 7, sP (fAld 2), sP (fAld 0), sP (fIld 3),
  sP (fCon 1), sP (fII (fun x y => x + y)), sRI gAI, sP (fAld 0), sP (fIld 3), sP (fCon 2),
  sP (fII (fun x y => x + y)), sRI gAI, sP (fAld 0), sP (fIld 3), sP (fCon 3), sP (fII (fun x y => x + y)),
  sRI gAI, sP (fAld 0), sP (fIld 3), sP (fCon 4), sP (fII (fun x y => x + y)), sRI gAI,
  sP (fAld 0), sP (fIld 3), sP (fCon 5), sP (fII (fun x y => x + y)), sRI gAI, sCI 258 6 (some 12) 7,
  sBr (c2 (zcI .eq)) 1599, sP (fCon 0)]
set_option maxRecDepth 100000 in
theorem ck_323_11 : in_323_11.map (fun q => zsem zTb (zlk zPl_13) (ztg in_323 q.1) true q.2.1) = cd_323_11.map some := by
  have h1 : ∀ T : Nat → Int → Nat, in_323_11.map (fun q => zsem zTb (zlk zPl_13) (T q.1) true q.2.1) = (ct_323_11 T).map some := fun _ => rfl
  rw [h1 (ztg in_323)]
  unfold ct_323_11
  simp only [tl_1233_858, tl_1296_795]
  unfold cd_323_11
  rfl
def ct_323_12 (T : Nat → Int → Nat) : List zSem := [sRz, sP (fAld 1), sP (fAld 0), sP (fIld 3), sP (fCon 1), sP (fII (fun x y => x + y)),
  sRI gAI, sP (fAld 0), sP (fIld 3), sP (fCon 2), sP (fII (fun x y => x + y)), sRI gAI,
  sP (fAld 0), sP (fIld 3), sP (fCon 3), sP (fII (fun x y => x + y)), sRI gAI, sCI 172 4 (some 11) 5,
  sP (fAld 2), sP (fAld 0), sP (fIld 3), sP (fCon 1), sP (fII (fun x y => x + y)), sRI gAI,
  sP (fAld 0), sP (fIld 3), sP (fCon 2), sP (fII (fun x y => x + y)), sRI gAI, sP (fAld 0),
  sP (fIld 3), sP (fCon 3), sP (fII (fun x y => x + y)), sRI gAI, sCI 259 4 (some 12) 6, sBr (c2 (zcI .eq)) (T 1339 752),
  sP (fCon 0), sRz, sP (fAld 1), sP (fAld 0), sP (fIld 3), sP (fCon 1),
  sP (fII (fun x y => x + y)), sRI gAI, sP (fAld 0), sP (fIld 3), sP (fCon 2), sP (fII (fun x y => x + y)),
  sRI gAI, sP (fAld 0), sP (fIld 3), sP (fCon 3), sP (fII (fun x y => x + y)), sRI gAI,
  sP (fAld 0), sP (fIld 3), sP (fCon 4), sP (fII (fun x y => x + y)), sRI gAI, sCI 173 5 (some 11) 6,
  sP (fAld 2), sP (fAld 0), sP (fIld 3), sP (fCon 1), sP (fII (fun x y => x + y)), sRI gAI,
  sP (fAld 0), sP (fIld 3), sP (fCon 2), sP (fII (fun x y => x + y)), sRI gAI, sP (fAld 0),
  sP (fIld 3), sP (fCon 3), sP (fII (fun x y => x + y)), sRI gAI, sP (fAld 0), sP (fIld 3),
  sP (fCon 4), sP (fII (fun x y => x + y))]
def cd_323_12 : List zSem := [sRz, sP (fAld 1), sP (fAld 0), sP (fIld 3), sP (fCon 1), sP (fII (fun x y => x + y)),
  sRI gAI, sP (fAld 0), sP (fIld 3), sP (fCon 2), sP (fII (fun x y => x + y)), sRI gAI,
  sP (fAld 0), sP (fIld 3), sP (fCon 3), sP (fII (fun x y => x + y)), sRI gAI, sCI 172 4 (some 11) 5,
  sP (fAld 2), sP (fAld 0), sP (fIld 3), sP (fCon 1), sP (fII (fun x y => x + y)), sRI gAI,
  sP (fAld 0), sP (fIld 3), sP (fCon 2), sP (fII (fun x y => x + y)), sRI gAI, sP (fAld 0),
  sP (fIld 3), sP (fCon 3), sP (fII (fun x y => x + y)), sRI gAI, sCI 259 4 (some 12) 6, sBr (c2 (zcI .eq)) 1599,
  sP (fCon 0), sRz, sP (fAld 1), sP (fAld 0), sP (fIld 3), sP (fCon 1),
  sP (fII (fun x y => x + y)), sRI gAI, sP (fAld 0), sP (fIld 3), sP (fCon 2), sP (fII (fun x y => x + y)),
  sRI gAI, sP (fAld 0), sP (fIld 3), sP (fCon 3), sP (fII (fun x y => x + y)), sRI gAI,
  sP (fAld 0), sP (fIld 3), sP (fCon 4), sP (fII (fun x y => x + y)), sRI gAI, sCI 173 5 (some 11) 6,
  sP (fAld 2), sP (fAld 0), sP (fIld 3), sP (fCon 1), sP (fII (fun x y => x + y)), sRI gAI,
  sP (fAld 0), sP (fIld 3), sP (fCon 2), sP (fII (fun x y => x + y)), sRI gAI, sP (fAld 0),
  sP (fIld 3), sP (fCon 3), sP (fII (fun x y => x + y)), sRI gAI, sP (fAld 0), sP (fIld 3),
  sP (fCon 4), sP (fII (fun x y => x + y))]
set_option maxRecDepth 100000 in
theorem ck_323_12 : in_323_12.map (fun q => zsem zTb (zlk zPl_13) (ztg in_323 q.1) true q.2.1) = cd_323_12.map some := by
  have h1 : ∀ T : Nat → Int → Nat, in_323_12.map (fun q => zsem zTb (zlk zPl_13) (T q.1) true q.2.1) = (ct_323_12 T).map some := fun _ => rfl
  rw [h1 (ztg in_323)]
  unfold ct_323_12
  simp only [tl_1339_752]
  unfold cd_323_12
  rfl
def ct_323_13 (T : Nat → Int → Nat) : List zSem := [sRI gAI, sCI 261 5 (some 12) 8, sBr (c2 (zcI .eq)) (T 1392 699), sP (fCon 0), sRz, sP (fAld 1),
  sP (fAld 0), sP (fIld 3), sP (fCon 1), sP (fII (fun x y => x + y)), sRI gAI, sP (fAld 0),
  sP (fIld 3), sP (fCon 2), sP (fII (fun x y => x + y)), sRI gAI, sP (fAld 0), sP (fIld 3),
  sP (fCon 3), sP (fII (fun x y => x + y)), sRI gAI, sP (fAld 0), sP (fIld 3), sP (fCon 4),
  sP (fII (fun x y => x + y)), sRI gAI, sCI 174 5 (some 11) 6, sP (fAld 2), sP (fAld 0), sP (fIld 3),
  sP (fCon 1), sP (fII (fun x y => x + y)), sRI gAI, sP (fAld 0), sP (fIld 3), sP (fCon 2),
  sP (fII (fun x y => x + y)), sRI gAI, sP (fAld 0), sP (fIld 3), sP (fCon 3), sP (fII (fun x y => x + y)),
  sRI gAI, sP (fAld 0), sP (fIld 3), sP (fCon 4), sP (fII (fun x y => x + y)), sRI gAI,
  sCI 262 5 (some 12) 9, sBr (c2 (zcI .eq)) (T 1445 646), sP (fCon 0), sRz, sP (fAld 1), sP (fAld 0),
  sP (fIld 3), sP (fCon 1), sP (fII (fun x y => x + y)), sRI gAI, sP (fAld 0), sP (fIld 3),
  sP (fCon 2), sP (fII (fun x y => x + y)), sRI gAI, sP (fAld 0), sP (fIld 3), sP (fCon 3),
  sP (fII (fun x y => x + y)), sRI gAI, sBr (c1 (zc0 .eq)) (T 1466 7), sP (fCon 1), sGo (T 1470 4), sP (fCon 0),
  sCI 175 4 (some 11) 6, sP (fAld 2), sP (fAld 0), sP (fIld 3), sP (fCon 1), sP (fII (fun x y => x + y)),
  sRI gAI, sP (fAld 0)]
def cd_323_13 : List zSem := [sRI gAI, sCI 261 5 (some 12) 8, sBr (c2 (zcI .eq)) 1599, sP (fCon 0), sRz, sP (fAld 1),
  sP (fAld 0), sP (fIld 3), sP (fCon 1), sP (fII (fun x y => x + y)), sRI gAI, sP (fAld 0),
  sP (fIld 3), sP (fCon 2), sP (fII (fun x y => x + y)), sRI gAI, sP (fAld 0), sP (fIld 3),
  sP (fCon 3), sP (fII (fun x y => x + y)), sRI gAI, sP (fAld 0), sP (fIld 3), sP (fCon 4),
  sP (fII (fun x y => x + y)), sRI gAI, sCI 174 5 (some 11) 6, sP (fAld 2), sP (fAld 0), sP (fIld 3),
  sP (fCon 1), sP (fII (fun x y => x + y)), sRI gAI, sP (fAld 0), sP (fIld 3), sP (fCon 2),
  sP (fII (fun x y => x + y)), sRI gAI, sP (fAld 0), sP (fIld 3), sP (fCon 3), sP (fII (fun x y => x + y)),
  sRI gAI, sP (fAld 0), sP (fIld 3), sP (fCon 4), sP (fII (fun x y => x + y)), sRI gAI,
  sCI 262 5 (some 12) 9, sBr (c2 (zcI .eq)) 1599, sP (fCon 0), sRz, sP (fAld 1), sP (fAld 0),
  sP (fIld 3), sP (fCon 1), sP (fII (fun x y => x + y)), sRI gAI, sP (fAld 0), sP (fIld 3),
  sP (fCon 2), sP (fII (fun x y => x + y)), sRI gAI, sP (fAld 0), sP (fIld 3), sP (fCon 3),
  sP (fII (fun x y => x + y)), sRI gAI, sBr (c1 (zc0 .eq)) 1111, sP (fCon 1), sGo 1112, sP (fCon 0),
  sCI 175 4 (some 11) 6, sP (fAld 2), sP (fAld 0), sP (fIld 3), sP (fCon 1), sP (fII (fun x y => x + y)),
  sRI gAI, sP (fAld 0)]
set_option maxRecDepth 100000 in
theorem ck_323_13 : in_323_13.map (fun q => zsem zTb (zlk zPl_13) (ztg in_323 q.1) true q.2.1) = cd_323_13.map some := by
  have h1 : ∀ T : Nat → Int → Nat, in_323_13.map (fun q => zsem zTb (zlk zPl_13) (T q.1) true q.2.1) = (ct_323_13 T).map some := fun _ => rfl
  rw [h1 (ztg in_323)]
  unfold ct_323_13
  simp only [tl_1392_699, tl_1445_646, tl_1466_7, tl_1470_4]
  unfold cd_323_13
  rfl
def ct_323_14 (T : Nat → Int → Nat) : List zSem := [sP (fIld 3), sP (fCon 2), sP (fII (fun x y => x + y)), sRI gAI, sP (fAld 0), sP (fIld 3),
  sP (fCon 3), sP (fII (fun x y => x + y)), sRI gAI, sBr (c1 (zc0 .eq)) (T 1493 7), sP (fCon 1), sGo (T 1497 4),
  sP (fCon 0), sCI 264 4 (some 12) 6, sBr (c2 (zcI .eq)) (T 1504 587), sP (fCon 0), sRz, sP (fAld 1),
  sP (fAld 0), sP (fIld 3), sP (fCon 1), sP (fII (fun x y => x + y)), sRI gAI, sP (fAld 0),
  sP (fIld 3), sP (fCon 2), sP (fII (fun x y => x + y)), sRI gAI, sP (fAld 0), sP (fIld 3),
  sP (fCon 3), sP (fII (fun x y => x + y)), sRI gAI, sBr (c1 (zc0 .eq)) (T 1525 7), sP (fCon 1), sGo (T 1529 4),
  sP (fCon 0), sCI 176 4 (some 11) 6, sP (fAld 2), sP (fAld 0), sP (fIld 3), sP (fCon 1),
  sP (fII (fun x y => x + y)), sRI gAI, sP (fAld 0), sP (fIld 3), sP (fCon 2), sP (fII (fun x y => x + y)),
  sRI gAI, sP (fAld 0), sP (fIld 3), sP (fCon 3), sP (fII (fun x y => x + y)), sRI gAI,
  sBr (c1 (zc0 .eq)) (T 1552 7), sP (fCon 1), sGo (T 1556 4), sP (fCon 0), sCI 267 4 (some 12) 6, sBr (c2 (zcI .eq)) (T 1563 528),
  sP (fCon 0), sRz, sP (fAld 1), sP (fAld 0), sP (fIld 3), sP (fCon 1),
  sP (fII (fun x y => x + y)), sRI gAI, sP (fAld 0), sP (fIld 3), sP (fCon 2), sP (fII (fun x y => x + y)),
  sRI gAI, sCI 177 3 (some 11) 4, sP (fAld 2), sP (fAld 0), sP (fIld 3), sP (fCon 1),
  sP (fII (fun x y => x + y)), sRI gAI]
def cd_323_14 : List zSem := [sP (fIld 3), sP (fCon 2), sP (fII (fun x y => x + y)), sRI gAI, sP (fAld 0), sP (fIld 3),
  sP (fCon 3), sP (fII (fun x y => x + y)), sRI gAI, sBr (c1 (zc0 .eq)) 1132, sP (fCon 1), sGo 1133,
  sP (fCon 0), sCI 264 4 (some 12) 6, sBr (c2 (zcI .eq)) 1599, sP (fCon 0), sRz, sP (fAld 1),
  sP (fAld 0), sP (fIld 3), sP (fCon 1), sP (fII (fun x y => x + y)), sRI gAI, sP (fAld 0),
  sP (fIld 3), sP (fCon 2), sP (fII (fun x y => x + y)), sRI gAI, sP (fAld 0), sP (fIld 3),
  sP (fCon 3), sP (fII (fun x y => x + y)), sRI gAI, sBr (c1 (zc0 .eq)) 1156, sP (fCon 1), sGo 1157,
  sP (fCon 0), sCI 176 4 (some 11) 6, sP (fAld 2), sP (fAld 0), sP (fIld 3), sP (fCon 1),
  sP (fII (fun x y => x + y)), sRI gAI, sP (fAld 0), sP (fIld 3), sP (fCon 2), sP (fII (fun x y => x + y)),
  sRI gAI, sP (fAld 0), sP (fIld 3), sP (fCon 3), sP (fII (fun x y => x + y)), sRI gAI,
  sBr (c1 (zc0 .eq)) 1177, sP (fCon 1), sGo 1178, sP (fCon 0), sCI 267 4 (some 12) 6, sBr (c2 (zcI .eq)) 1599,
  sP (fCon 0), sRz, sP (fAld 1), sP (fAld 0), sP (fIld 3), sP (fCon 1),
  sP (fII (fun x y => x + y)), sRI gAI, sP (fAld 0), sP (fIld 3), sP (fCon 2), sP (fII (fun x y => x + y)),
  sRI gAI, sCI 177 3 (some 11) 4, sP (fAld 2), sP (fAld 0), sP (fIld 3), sP (fCon 1),
  sP (fII (fun x y => x + y)), sRI gAI]
set_option maxRecDepth 100000 in
theorem ck_323_14 : in_323_14.map (fun q => zsem zTb (zlk zPl_13) (ztg in_323 q.1) true q.2.1) = cd_323_14.map some := by
  have h1 : ∀ T : Nat → Int → Nat, in_323_14.map (fun q => zsem zTb (zlk zPl_13) (T q.1) true q.2.1) = (ct_323_14 T).map some := fun _ => rfl
  rw [h1 (ztg in_323)]
  unfold ct_323_14
  simp only [tl_1493_7, tl_1497_4, tl_1504_587, tl_1525_7, tl_1529_4, tl_1552_7, tl_1556_4, tl_1563_528]
  unfold cd_323_14
  rfl
def ct_323_15 (T : Nat → Int → Nat) : List zSem := [sP (fAld 0), sP (fIld 3), sP (fCon 2), sP (fII (fun x y => x + y)), sRI gAI, sCI 270 3 (some 12) 8,
  sBr (c2 (zcI .eq)) (T 1596 495), sP (fCon 0), sRz, sP (fAld 1), sP (fAld 0), sP (fIld 3),
  sP (fCon 1), sP (fII (fun x y => x + y)), sRI gAI, sP (fAld 0), sP (fIld 3), sP (fCon 2),
  sP (fII (fun x y => x + y)), sRI gAI, sP (fAld 0), sP (fIld 3), sP (fCon 3), sP (fII (fun x y => x + y)),
  sRI gAI, sCI 178 4 (some 11) 5, sP (fAld 2), sP (fAld 0), sP (fIld 3), sP (fCon 1),
  sP (fII (fun x y => x + y)), sRI gAI, sP (fAld 0), sP (fIld 3), sP (fCon 2), sP (fII (fun x y => x + y)),
  sRI gAI, sP (fAld 0), sP (fIld 3), sP (fCon 3), sP (fII (fun x y => x + y)), sRI gAI,
  sCI 272 4 (some 12) 8, sBr (c2 (zcI .eq)) (T 1639 452), sP (fCon 0), sRz, sP (fAld 1), sP (fAld 0),
  sP (fIld 3), sP (fCon 1), sP (fII (fun x y => x + y)), sRI gAI, sP (fAld 0), sP (fIld 3),
  sP (fCon 2), sP (fII (fun x y => x + y)), sRI gAI, sCI 179 3 (some 11) 5, sP (fAld 2), sP (fAld 0),
  sP (fIld 3), sP (fCon 1), sP (fII (fun x y => x + y)), sRI gAI, sP (fAld 0), sP (fIld 3),
  sP (fCon 2), sP (fII (fun x y => x + y)), sRI gAI, sCI 275 3 (some 12) 6, sBr (c2 (zcI .eq)) (T 1672 419), sP (fCon 0),
  sRz, sP (fAld 1), sP (fAld 0), sP (fIld 3), sP (fCon 1), sP (fII (fun x y => x + y)),
  sRI gAI, sP (fAld 0)]
def cd_323_15 : List zSem := [sP (fAld 0), sP (fIld 3), sP (fCon 2), sP (fII (fun x y => x + y)), sRI gAI, sCI 270 3 (some 12) 8,
  sBr (c2 (zcI .eq)) 1599, sP (fCon 0), sRz, sP (fAld 1), sP (fAld 0), sP (fIld 3),
  sP (fCon 1), sP (fII (fun x y => x + y)), sRI gAI, sP (fAld 0), sP (fIld 3), sP (fCon 2),
  sP (fII (fun x y => x + y)), sRI gAI, sP (fAld 0), sP (fIld 3), sP (fCon 3), sP (fII (fun x y => x + y)),
  sRI gAI, sCI 178 4 (some 11) 5, sP (fAld 2), sP (fAld 0), sP (fIld 3), sP (fCon 1),
  sP (fII (fun x y => x + y)), sRI gAI, sP (fAld 0), sP (fIld 3), sP (fCon 2), sP (fII (fun x y => x + y)),
  sRI gAI, sP (fAld 0), sP (fIld 3), sP (fCon 3), sP (fII (fun x y => x + y)), sRI gAI,
  sCI 272 4 (some 12) 8, sBr (c2 (zcI .eq)) 1599, sP (fCon 0), sRz, sP (fAld 1), sP (fAld 0),
  sP (fIld 3), sP (fCon 1), sP (fII (fun x y => x + y)), sRI gAI, sP (fAld 0), sP (fIld 3),
  sP (fCon 2), sP (fII (fun x y => x + y)), sRI gAI, sCI 179 3 (some 11) 5, sP (fAld 2), sP (fAld 0),
  sP (fIld 3), sP (fCon 1), sP (fII (fun x y => x + y)), sRI gAI, sP (fAld 0), sP (fIld 3),
  sP (fCon 2), sP (fII (fun x y => x + y)), sRI gAI, sCI 275 3 (some 12) 6, sBr (c2 (zcI .eq)) 1599, sP (fCon 0),
  sRz, sP (fAld 1), sP (fAld 0), sP (fIld 3), sP (fCon 1), sP (fII (fun x y => x + y)),
  sRI gAI, sP (fAld 0)]
set_option maxRecDepth 100000 in
theorem ck_323_15 : in_323_15.map (fun q => zsem zTb (zlk zPl_13) (ztg in_323 q.1) true q.2.1) = cd_323_15.map some := by
  have h1 : ∀ T : Nat → Int → Nat, in_323_15.map (fun q => zsem zTb (zlk zPl_13) (T q.1) true q.2.1) = (ct_323_15 T).map some := fun _ => rfl
  rw [h1 (ztg in_323)]
  unfold ct_323_15
  simp only [tl_1596_495, tl_1639_452, tl_1672_419]
  unfold cd_323_15
  rfl
def ct_323_16 (T : Nat → Int → Nat) : List zSem := [sP (fIld 3), sP (fCon 2), sP (fII (fun x y => x + y)), sRI gAI, sP (fAld 0), sP (fIld 3),
  sP (fCon 3), sP (fII (fun x y => x + y)), sRI gAI, sBr (c1 (zc0 .eq)) (T 1693 7), sP (fCon 1), sGo (T 1697 4),
  sP (fCon 0), sCI 180 4 (some 11) 6, sP (fAld 2), sP (fAld 0), sP (fIld 3), sP (fCon 1),
  sP (fII (fun x y => x + y)), sRI gAI, sP (fAld 0), sP (fIld 3), sP (fCon 2), sP (fII (fun x y => x + y)),
  sRI gAI, sP (fAld 0), sP (fIld 3), sP (fCon 3), sP (fII (fun x y => x + y)), sRI gAI,
  sBr (c1 (zc0 .eq)) (T 1720 7), sP (fCon 1), sGo (T 1724 4), sP (fCon 0), sCI 285 4 (some 12) 6, sBr (c2 (zcI .eq)) (T 1731 360),
  sP (fCon 0), sRz, sP (fAld 1), sP (fAld 0), sP (fIld 3), sP (fCon 1),
  sP (fII (fun x y => x + y)), sRI gAI, sP (fAld 0), sP (fIld 3), sP (fCon 2), sP (fII (fun x y => x + y)),
  sRI gAI, sP (fAld 0), sP (fIld 3), sP (fCon 3), sP (fII (fun x y => x + y)), sRI gAI,
  sCI 181 4 (some 11) 6, sP (fAld 2), sP (fAld 0), sP (fIld 3), sP (fCon 1), sP (fII (fun x y => x + y)),
  sRI gAI, sP (fAld 0), sP (fIld 3), sP (fCon 2), sP (fII (fun x y => x + y)), sRI gAI,
  sP (fAld 0), sP (fIld 3), sP (fCon 3), sP (fII (fun x y => x + y)), sRI gAI, sCI 301 4 (some 12) 7,
  sBr (c2 (zcI .eq)) (T 1774 317), sP (fCon 0), sRz, sP (fAld 1), sP (fAld 0), sP (fIld 3),
  sP (fCon 1), sP (fII (fun x y => x + y))]
def cd_323_16 : List zSem := [sP (fIld 3), sP (fCon 2), sP (fII (fun x y => x + y)), sRI gAI, sP (fAld 0), sP (fIld 3),
  sP (fCon 3), sP (fII (fun x y => x + y)), sRI gAI, sBr (c1 (zc0 .eq)) 1292, sP (fCon 1), sGo 1293,
  sP (fCon 0), sCI 180 4 (some 11) 6, sP (fAld 2), sP (fAld 0), sP (fIld 3), sP (fCon 1),
  sP (fII (fun x y => x + y)), sRI gAI, sP (fAld 0), sP (fIld 3), sP (fCon 2), sP (fII (fun x y => x + y)),
  sRI gAI, sP (fAld 0), sP (fIld 3), sP (fCon 3), sP (fII (fun x y => x + y)), sRI gAI,
  sBr (c1 (zc0 .eq)) 1313, sP (fCon 1), sGo 1314, sP (fCon 0), sCI 285 4 (some 12) 6, sBr (c2 (zcI .eq)) 1599,
  sP (fCon 0), sRz, sP (fAld 1), sP (fAld 0), sP (fIld 3), sP (fCon 1),
  sP (fII (fun x y => x + y)), sRI gAI, sP (fAld 0), sP (fIld 3), sP (fCon 2), sP (fII (fun x y => x + y)),
  sRI gAI, sP (fAld 0), sP (fIld 3), sP (fCon 3), sP (fII (fun x y => x + y)), sRI gAI,
  sCI 181 4 (some 11) 6, sP (fAld 2), sP (fAld 0), sP (fIld 3), sP (fCon 1), sP (fII (fun x y => x + y)),
  sRI gAI, sP (fAld 0), sP (fIld 3), sP (fCon 2), sP (fII (fun x y => x + y)), sRI gAI,
  sP (fAld 0), sP (fIld 3), sP (fCon 3), sP (fII (fun x y => x + y)), sRI gAI, sCI 301 4 (some 12) 7,
  sBr (c2 (zcI .eq)) 1599, sP (fCon 0), sRz, sP (fAld 1), sP (fAld 0), sP (fIld 3),
  sP (fCon 1), sP (fII (fun x y => x + y))]
set_option maxRecDepth 100000 in
theorem ck_323_16 : in_323_16.map (fun q => zsem zTb (zlk zPl_13) (ztg in_323 q.1) true q.2.1) = cd_323_16.map some := by
  have h1 : ∀ T : Nat → Int → Nat, in_323_16.map (fun q => zsem zTb (zlk zPl_13) (T q.1) true q.2.1) = (ct_323_16 T).map some := fun _ => rfl
  rw [h1 (ztg in_323)]
  unfold ct_323_16
  simp only [tl_1693_7, tl_1697_4, tl_1720_7, tl_1724_4, tl_1731_360, tl_1774_317]
  unfold cd_323_16
  rfl
def ct_323_17 (T : Nat → Int → Nat) : List zSem := [sRI gAI, sP (fAld 0), sP (fIld 3), sP (fCon 2), sP (fII (fun x y => x + y)), sRI gAI,
  sP (fAld 0), sP (fIld 3), sP (fCon 3), sP (fII (fun x y => x + y)), sRI gAI, sP (fAld 0),
  sP (fIld 3), sP (fCon 4), sP (fII (fun x y => x + y)), sRI gAI, sP (fAld 0), sP (fIld 3),
  sP (fCon 5), sP (fII (fun x y => x + y)), sRI gAI, sP (fAld 0), sP (fIld 3), sP (fCon 6),
  sP (fII (fun x y => x + y)), sRI gAI, sBr (c1 (zc0 .eq)) (T 1811 7), sP (fCon 1), sGo (T 1815 4), sP (fCon 0),
  sCL 182 7 (some 11) 10, sP (fAld 2), sP (fAld 0), sP (fIld 3), sP (fCon 1), sP (fII (fun x y => x + y)),
  sRI gAI, sP (fAld 0), sP (fIld 3), sP (fCon 2), sP (fII (fun x y => x + y)), sRI gAI,
  sP (fAld 0), sP (fIld 3), sP (fCon 3), sP (fII (fun x y => x + y)), sRI gAI, sP (fAld 0),
  sP (fIld 3), sP (fCon 4), sP (fII (fun x y => x + y)), sRI gAI, sP (fAld 0), sP (fIld 3),
  sP (fCon 5), sP (fII (fun x y => x + y)), sRI gAI, sP (fAld 0), sP (fIld 3), sP (fCon 6),
  sP (fII (fun x y => x + y)), sRI gAI, sBr (c1 (zc0 .eq)) (T 1854 7), sP (fCon 1), sGo (T 1858 4), sP (fCon 0),
  sCL 315 7 (some 12) 12, sP fLc, sBr (c1 (zc0 .eq)) (T 1866 225), sP (fCon 0), sRz, sP (fAld 1),
  sP (fAld 0), sP (fIld 3), sP (fCon 1), sP (fII (fun x y => x + y)), sRI gAI, sP (fAld 0),
  sP (fIld 3), sP (fCon 2)]
def cd_323_17 : List zSem := [sRI gAI, sP (fAld 0), sP (fIld 3), sP (fCon 2), sP (fII (fun x y => x + y)), sRI gAI,
  sP (fAld 0), sP (fIld 3), sP (fCon 3), sP (fII (fun x y => x + y)), sRI gAI, sP (fAld 0),
  sP (fIld 3), sP (fCon 4), sP (fII (fun x y => x + y)), sRI gAI, sP (fAld 0), sP (fIld 3),
  sP (fCon 5), sP (fII (fun x y => x + y)), sRI gAI, sP (fAld 0), sP (fIld 3), sP (fCon 6),
  sP (fII (fun x y => x + y)), sRI gAI, sBr (c1 (zc0 .eq)) 1389, sP (fCon 1), sGo 1390, sP (fCon 0),
  sCL 182 7 (some 11) 10, sP (fAld 2), sP (fAld 0), sP (fIld 3), sP (fCon 1), sP (fII (fun x y => x + y)),
  sRI gAI, sP (fAld 0), sP (fIld 3), sP (fCon 2), sP (fII (fun x y => x + y)), sRI gAI,
  sP (fAld 0), sP (fIld 3), sP (fCon 3), sP (fII (fun x y => x + y)), sRI gAI, sP (fAld 0),
  sP (fIld 3), sP (fCon 4), sP (fII (fun x y => x + y)), sRI gAI, sP (fAld 0), sP (fIld 3),
  sP (fCon 5), sP (fII (fun x y => x + y)), sRI gAI, sP (fAld 0), sP (fIld 3), sP (fCon 6),
  sP (fII (fun x y => x + y)), sRI gAI, sBr (c1 (zc0 .eq)) 1425, sP (fCon 1), sGo 1426, sP (fCon 0),
  sCL 315 7 (some 12) 12, sP fLc, sBr (c1 (zc0 .eq)) 1599, sP (fCon 0), sRz, sP (fAld 1),
  sP (fAld 0), sP (fIld 3), sP (fCon 1), sP (fII (fun x y => x + y)), sRI gAI, sP (fAld 0),
  sP (fIld 3), sP (fCon 2)]
set_option maxRecDepth 100000 in
theorem ck_323_17 : in_323_17.map (fun q => zsem zTb (zlk zPl_13) (ztg in_323 q.1) true q.2.1) = cd_323_17.map some := by
  have h1 : ∀ T : Nat → Int → Nat, in_323_17.map (fun q => zsem zTb (zlk zPl_13) (T q.1) true q.2.1) = (ct_323_17 T).map some := fun _ => rfl
  rw [h1 (ztg in_323)]
  unfold ct_323_17
  simp only [tl_1811_7, tl_1815_4, tl_1854_7, tl_1858_4, tl_1866_225]
  unfold cd_323_17
  rfl
def ct_323_18 (T : Nat → Int → Nat) : List zSem := [sP (fII (fun x y => x + y)), sRI gAI, sP (fAld 0), sP (fIld 3), sP (fCon 3), sP (fII (fun x y => x + y)),
  sRI gAI, sBr (c1 (zc0 .eq)) (T 1887 7), sP (fCon 1), sGo (T 1891 4), sP (fCon 0), sCI 183 4 (some 11) 5,
  sP (fAld 2), sP (fAld 0), sP (fIld 3), sP (fCon 1), sP (fII (fun x y => x + y)), sRI gAI,
  sP (fAld 0), sP (fIld 3), sP (fCon 2), sP (fII (fun x y => x + y)), sRI gAI, sP (fAld 0),
  sP (fIld 3), sP (fCon 3), sP (fII (fun x y => x + y)), sRI gAI, sBr (c1 (zc0 .eq)) (T 1914 7), sP (fCon 1),
  sGo (T 1918 4), sP (fCon 0), sCI 280 4 (some 12) 6, sBr (c2 (zcI .eq)) (T 1925 166), sP (fCon 0), sRz,
  sP (fAld 1), sP (fAld 0), sP (fIld 3), sP (fCon 1), sP (fII (fun x y => x + y)), sRI gAI,
  sP (fAld 0), sP (fIld 3), sP (fCon 2), sP (fII (fun x y => x + y)), sRI gAI, sCI 184 3 (some 11) 4,
  sP (fAld 2), sP (fAld 0), sP (fIld 3), sP (fCon 1), sP (fII (fun x y => x + y)), sRI gAI,
  sP (fAld 0), sP (fIld 3), sP (fCon 2), sP (fII (fun x y => x + y)), sRI gAI, sCI 281 3 (some 12) 7,
  sBr (c2 (zcI .eq)) (T 1958 133), sP (fCon 0), sRz, sP (fAld 1), sP (fAld 0), sP (fIld 3),
  sP (fCon 1), sP (fII (fun x y => x + y)), sRI gAI, sP (fAld 0), sP (fIld 3), sP (fCon 2),
  sP (fII (fun x y => x + y)), sRI gAI, sP (fAld 0), sP (fIld 3), sP (fCon 3), sP (fII (fun x y => x + y)),
  sRI gAI, sBr (c1 (zc0 .eq)) (T 1979 7)]
def cd_323_18 : List zSem := [sP (fII (fun x y => x + y)), sRI gAI, sP (fAld 0), sP (fIld 3), sP (fCon 3), sP (fII (fun x y => x + y)),
  sRI gAI, sBr (c1 (zc0 .eq)) 1450, sP (fCon 1), sGo 1451, sP (fCon 0), sCI 183 4 (some 11) 5,
  sP (fAld 2), sP (fAld 0), sP (fIld 3), sP (fCon 1), sP (fII (fun x y => x + y)), sRI gAI,
  sP (fAld 0), sP (fIld 3), sP (fCon 2), sP (fII (fun x y => x + y)), sRI gAI, sP (fAld 0),
  sP (fIld 3), sP (fCon 3), sP (fII (fun x y => x + y)), sRI gAI, sBr (c1 (zc0 .eq)) 1471, sP (fCon 1),
  sGo 1472, sP (fCon 0), sCI 280 4 (some 12) 6, sBr (c2 (zcI .eq)) 1599, sP (fCon 0), sRz,
  sP (fAld 1), sP (fAld 0), sP (fIld 3), sP (fCon 1), sP (fII (fun x y => x + y)), sRI gAI,
  sP (fAld 0), sP (fIld 3), sP (fCon 2), sP (fII (fun x y => x + y)), sRI gAI, sCI 184 3 (some 11) 4,
  sP (fAld 2), sP (fAld 0), sP (fIld 3), sP (fCon 1), sP (fII (fun x y => x + y)), sRI gAI,
  sP (fAld 0), sP (fIld 3), sP (fCon 2), sP (fII (fun x y => x + y)), sRI gAI, sCI 281 3 (some 12) 7,
  sBr (c2 (zcI .eq)) 1599, sP (fCon 0), sRz, sP (fAld 1), sP (fAld 0), sP (fIld 3),
  sP (fCon 1), sP (fII (fun x y => x + y)), sRI gAI, sP (fAld 0), sP (fIld 3), sP (fCon 2),
  sP (fII (fun x y => x + y)), sRI gAI, sP (fAld 0), sP (fIld 3), sP (fCon 3), sP (fII (fun x y => x + y)),
  sRI gAI, sBr (c1 (zc0 .eq)) 1522]
set_option maxRecDepth 100000 in
theorem ck_323_18 : in_323_18.map (fun q => zsem zTb (zlk zPl_13) (ztg in_323 q.1) true q.2.1) = cd_323_18.map some := by
  have h1 : ∀ T : Nat → Int → Nat, in_323_18.map (fun q => zsem zTb (zlk zPl_13) (T q.1) true q.2.1) = (ct_323_18 T).map some := fun _ => rfl
  rw [h1 (ztg in_323)]
  unfold ct_323_18
  simp only [tl_1887_7, tl_1891_4, tl_1914_7, tl_1918_4, tl_1925_166, tl_1958_133, tl_1979_7]
  unfold cd_323_18
  rfl
def ct_323_19 (T : Nat → Int → Nat) : List zSem := [sP (fCon 1), sGo (T 1983 4), sP (fCon 0), sCI 185 4 (some 11) 6, sP (fAld 2), sP (fAld 0),
  sP (fIld 3), sP (fCon 1), sP (fII (fun x y => x + y)), sRI gAI, sP (fAld 0), sP (fIld 3),
  sP (fCon 2), sP (fII (fun x y => x + y)), sRI gAI, sP (fAld 0), sP (fIld 3), sP (fCon 3),
  sP (fII (fun x y => x + y)), sRI gAI, sBr (c1 (zc0 .eq)) (T 2006 7), sP (fCon 1), sGo (T 2010 4), sP (fCon 0),
  sCI 283 4 (some 12) 6, sBr (c2 (zcI .eq)) (T 2017 74), sP (fCon 0), sRz, sP (fAld 1), sP (fAld 0),
  sP (fIld 3), sP (fCon 1), sP (fII (fun x y => x + y)), sRI gAI, sCI 186 2 (some 11) 2, sP (fAld 2),
  sP (fAld 0), sP (fIld 3), sP (fCon 1), sP (fII (fun x y => x + y)), sRI gAI, sCI 320 2 (some 12) 2,
  sBr (c2 (zcI .eq)) (T 2040 51), sP (fCon 0), sRz, sP (fAld 1), sP (fAld 0), sP (fIld 3),
  sP (fCon 1), sP (fII (fun x y => x + y)), sRI gAI, sCI 187 2 (some 11) 2, sP (fAld 2), sP (fAld 0),
  sP (fIld 3), sP (fCon 1), sP (fII (fun x y => x + y)), sRI gAI, sCI 321 2 (some 12) 3, sBr (c2 (zcI .eq)) (T 2063 28),
  sP (fCon 0), sRz, sP (fAld 1), sP (fAld 0), sP (fIld 3), sP (fCon 1),
  sP (fII (fun x y => x + y)), sRI gAI, sCI 188 2 (some 11) 2, sP (fAld 2), sP (fAld 0), sP (fIld 3),
  sP (fCon 1), sP (fII (fun x y => x + y)), sRI gAI, sCI 322 2 (some 12) 3, sBr (c2 (zcI .eq)) (T 2086 5), sP (fCon 0),
  sRz, sP (fInc 3 7)]
def cd_323_19 : List zSem := [sP (fCon 1), sGo 1523, sP (fCon 0), sCI 185 4 (some 11) 6, sP (fAld 2), sP (fAld 0),
  sP (fIld 3), sP (fCon 1), sP (fII (fun x y => x + y)), sRI gAI, sP (fAld 0), sP (fIld 3),
  sP (fCon 2), sP (fII (fun x y => x + y)), sRI gAI, sP (fAld 0), sP (fIld 3), sP (fCon 3),
  sP (fII (fun x y => x + y)), sRI gAI, sBr (c1 (zc0 .eq)) 1543, sP (fCon 1), sGo 1544, sP (fCon 0),
  sCI 283 4 (some 12) 6, sBr (c2 (zcI .eq)) 1599, sP (fCon 0), sRz, sP (fAld 1), sP (fAld 0),
  sP (fIld 3), sP (fCon 1), sP (fII (fun x y => x + y)), sRI gAI, sCI 186 2 (some 11) 2, sP (fAld 2),
  sP (fAld 0), sP (fIld 3), sP (fCon 1), sP (fII (fun x y => x + y)), sRI gAI, sCI 320 2 (some 12) 2,
  sBr (c2 (zcI .eq)) 1599, sP (fCon 0), sRz, sP (fAld 1), sP (fAld 0), sP (fIld 3),
  sP (fCon 1), sP (fII (fun x y => x + y)), sRI gAI, sCI 187 2 (some 11) 2, sP (fAld 2), sP (fAld 0),
  sP (fIld 3), sP (fCon 1), sP (fII (fun x y => x + y)), sRI gAI, sCI 321 2 (some 12) 3, sBr (c2 (zcI .eq)) 1599,
  sP (fCon 0), sRz, sP (fAld 1), sP (fAld 0), sP (fIld 3), sP (fCon 1),
  sP (fII (fun x y => x + y)), sRI gAI, sCI 188 2 (some 11) 2, sP (fAld 2), sP (fAld 0), sP (fIld 3),
  sP (fCon 1), sP (fII (fun x y => x + y)), sRI gAI, sCI 322 2 (some 12) 3, sBr (c2 (zcI .eq)) 1599, sP (fCon 0),
  sRz, sP (fInc 3 7)]
set_option maxRecDepth 100000 in
theorem ck_323_19 : in_323_19.map (fun q => zsem zTb (zlk zPl_13) (ztg in_323 q.1) true q.2.1) = cd_323_19.map some := by
  have h1 : ∀ T : Nat → Int → Nat, in_323_19.map (fun q => zsem zTb (zlk zPl_13) (T q.1) true q.2.1) = (ct_323_19 T).map some := fun _ => rfl
  rw [h1 (ztg in_323)]
  unfold ct_323_19
  simp only [tl_1983_4, tl_2006_7, tl_2010_4, tl_2017_74, tl_2040_51, tl_2063_28, tl_2086_5]
  unfold cd_323_19
  rfl
def ct_323_20 (T : Nat → Int → Nat) : List zSem := [sGo (T 2094 (-2076)), sP (fCon 1), sRz]
def cd_323_20 : List zSem := [sGo 10, sP (fCon 1), sRz]
set_option maxRecDepth 100000 in
theorem ck_323_20 : in_323_20.map (fun q => zsem zTb (zlk zPl_13) (ztg in_323 q.1) true q.2.1) = cd_323_20.map some := by
  have h1 : ∀ T : Nat → Int → Nat, in_323_20.map (fun q => zsem zTb (zlk zPl_13) (T q.1) true q.2.1) = (ct_323_20 T).map some := fun _ => rfl
  rw [h1 (ztg in_323)]
  unfold ct_323_20
  simp only [tl_2094_m2076]
  unfold cd_323_20
  rfl
def cd_323 : List zSem := cd_323_0 ++ (cd_323_1 ++ (cd_323_2 ++ (cd_323_3 ++ (cd_323_4 ++ (cd_323_5 ++ (cd_323_6 ++ (cd_323_7 ++ (cd_323_8 ++ (cd_323_9 ++ (cd_323_10 ++ (cd_323_11 ++ (cd_323_12 ++ (cd_323_13 ++ (cd_323_14 ++ (cd_323_15 ++ (cd_323_16 ++ (cd_323_17 ++ (cd_323_18 ++ (cd_323_19 ++ (cd_323_20))))))))))))))))))))
theorem ck_323 : in_323.map (fun q => zsem zTb (zlk zPl_13) (ztg in_323 q.1) true q.2.1) = cd_323.map some := by
  unfold cd_323
  show List.map (fun q => zsem zTb (zlk zPl_13) (ztg in_323 q.1) true q.2.1) (in_323_0 ++ (in_323_1 ++ (in_323_2 ++ (in_323_3 ++ (in_323_4 ++ (in_323_5 ++ (in_323_6 ++ (in_323_7 ++ (in_323_8 ++ (in_323_9 ++ (in_323_10 ++ (in_323_11 ++ (in_323_12 ++ (in_323_13 ++ (in_323_14 ++ (in_323_15 ++ (in_323_16 ++ (in_323_17 ++ (in_323_18 ++ (in_323_19 ++ (in_323_20))))))))))))))))))))) = _
  simp only [List.map_append, ck_323_0, ck_323_1, ck_323_2, ck_323_3, ck_323_4, ck_323_5, ck_323_6, ck_323_7, ck_323_8, ck_323_9, ck_323_10, ck_323_11, ck_323_12, ck_323_13, ck_323_14, ck_323_15, ck_323_16, ck_323_17, ck_323_18, ck_323_19, ck_323_20]
