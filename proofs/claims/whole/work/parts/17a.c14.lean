/-! code lists and step rows, written by program -/
section CD
variable {S : Nat → mv_Sp} {P : mv_Post} {L : mv_Loc} {st : List Value} {sh : mv_Shp} {M : mv_Mem} {c s : Nat}
-- 155: TurnedTabletsModel.<init>()V
def mk155 : mv_Cd := [
  (0, .aload_n 0, 1, []),
  (1, .invokespecial 1, 3, [13, 976, 127, 128]),
  (4, .aload_n 0, 1, []),
  (5, .sipush 9588, 3, []),
  (8, .newarray .int, 2, [210, 0]),
  (10, .putfield 7, 3, [1025, 2, 5, 0, 3]),
  (13, .aload_n 0, 1, []),
  (14, .bipush 6, 2, []),
  (16, .newarray .int, 2, [210, 0]),
  (18, .putfield 13, 3, [1029, 2, 5, 4, 3]),
  (21, .aload_n 0, 1, []),
  (22, .bipush 24, 2, []),
  (24, .newarray .int, 2, [210, 0]),
  (26, .putfield 16, 3, [1030, 2, 5, 5, 3]),
  (29, .aload_n 0, 1, []),
  (30, .bipush 6, 2, []),
  (32, .newarray .int, 2, [210, 0]),
  (34, .putfield 19, 3, [1031, 2, 5, 6, 3]),
  (37, .aload_n 0, 1, []),
  (38, .bipush 6, 2, []),
  (40, .newarray .int, 2, [210, 0]),
  (42, .putfield 22, 3, [1033, 2, 5, 8, 3]),
  (45, .aload_n 0, 1, []),
  (46, .bipush 8, 2, []),
  (48, .newarray .int, 2, [210, 0]),
  (50, .putfield 25, 3, [1036, 2, 5, 11, 3]),
  (53, .aload_n 0, 1, []),
  (54, .sipush 200, 3, []),
  (57, .newarray .int, 2, [210, 0]),
  (59, .putfield 28, 3, [1037, 2, 5, 12, 3]),
  (62, .aload_n 0, 1, []),
  (63, .bipush 6, 2, []),
  (65, .newarray .int, 2, [210, 0]),
  (67, .putfield 31, 3, [1040, 2, 5, 15, 3]),
  (70, .aload_n 0, 1, []),
  (71, .bipush 96, 2, []),
  (73, .newarray .int, 2, [210, 0]),
  (75, .dup, 1, []),
  (76, .iconst 0, 1, []),
  (77, .bipush 116, 2, []),
  (79, .iastore, 1, []),
  (80, .dup, 1, []),
  (81, .iconst 1, 1, []),
  (82, .bipush 48, 2, []),
  (84, .iastore, 1, []),
  (85, .dup, 1, []),
  (86, .iconst 2, 1, []),
  (87, .bipush 44, 2, []),
  (89, .iastore, 1, []),
  (90, .dup, 1, []),
  (91, .iconst 3, 1, []),
  (92, .bipush 48, 2, []),
  (94, .iastore, 1, []),
  (95, .dup, 1, []),
  (96, .iconst 4, 1, []),
  (97, .bipush 44, 2, []),
  (99, .iastore, 1, []),
  (100, .dup, 1, []),
  (101, .iconst 5, 1, []),
  (102, .bipush 49, 2, []),
  (104, .iastore, 1, []),
  (105, .dup, 1, []),
  (106, .bipush 6, 2, []),
  (108, .bipush 49, 2, []),
  (110, .iastore, 1, []),
  (111, .dup, 1, []),
  (112, .bipush 7, 2, []),
  (114, .bipush 50, 2, []),
  (116, .iastore, 1, []),
  (117, .dup, 1, []),
  (118, .bipush 8, 2, []),
  (120, .bipush 51, 2, []),
  (122, .iastore, 1, []),
  (123, .dup, 1, []),
  (124, .bipush 9, 2, []),
  (126, .bipush 59, 2, []),
  (128, .iastore, 1, []),
  (129, .dup, 1, []),
  (130, .bipush 10, 2, []),
  (132, .bipush 116, 2, []),
  (134, .iastore, 1, []),
  (135, .dup, 1, []),
  (136, .bipush 11, 2, []),
  (138, .bipush 48, 2, []),
  (140, .iastore, 1, []),
  (141, .dup, 1, []),
  (142, .bipush 12, 2, []),
  (144, .bipush 44, 2, []),
  (146, .iastore, 1, []),
  (147, .dup, 1, []),
  (148, .bipush 13, 2, []),
  (150, .bipush 49, 2, []),
  (152, .iastore, 1, []),
  (153, .dup, 1, []),
  (154, .bipush 14, 2, []),
  (156, .bipush 44, 2, []),
  (158, .iastore, 1, []),
  (159, .dup, 1, []),
  (160, .bipush 15, 2, []),
  (162, .bipush 50, 2, []),
  (164, .iastore, 1, []),
  (165, .dup, 1, []),
  (166, .bipush 16, 2, []),
  (168, .bipush 50, 2, []),
  (170, .iastore, 1, []),
  (171, .dup, 1, []),
  (172, .bipush 17, 2, []),
  (174, .bipush 51, 2, []),
  (176, .iastore, 1, []),
  (177, .dup, 1, []),
  (178, .bipush 18, 2, []),
  (180, .bipush 49, 2, []),
  (182, .iastore, 1, []),
  (183, .dup, 1, []),
  (184, .bipush 19, 2, []),
  (186, .bipush 59, 2, []),
  (188, .iastore, 1, []),
  (189, .dup, 1, []),
  (190, .bipush 20, 2, []),
  (192, .bipush 116, 2, []),
  (194, .iastore, 1, []),
  (195, .dup, 1, []),
  (196, .bipush 21, 2, []),
  (198, .bipush 49, 2, []),
  (200, .iastore, 1, []),
  (201, .dup, 1, []),
  (202, .bipush 22, 2, []),
  (204, .bipush 44, 2, []),
  (206, .iastore, 1, []),
  (207, .dup, 1, []),
  (208, .bipush 23, 2, []),
  (210, .bipush 48, 2, []),
  (212, .iastore, 1, []),
  (213, .dup, 1, []),
  (214, .bipush 24, 2, []),
  (216, .bipush 44, 2, []),
  (218, .iastore, 1, []),
  (219, .dup, 1, []),
  (220, .bipush 25, 2, []),
  (222, .bipush 49, 2, []),
  (224, .iastore, 1, []),
  (225, .dup, 1, []),
  (226, .bipush 26, 2, []),
  (228, .bipush 50, 2, []),
  (230, .iastore, 1, []),
  (231, .dup, 1, []),
  (232, .bipush 27, 2, []),
  (234, .bipush 49, 2, []),
  (236, .iastore, 1, []),
  (237, .dup, 1, []),
  (238, .bipush 28, 2, []),
  (240, .bipush 50, 2, []),
  (242, .iastore, 1, []),
  (243, .dup, 1, []),
  (244, .bipush 29, 2, []),
  (246, .bipush 59, 2, []),
  (248, .iastore, 1, []),
  (249, .dup, 1, []),
  (250, .bipush 30, 2, []),
  (252, .bipush 116, 2, []),
  (254, .iastore, 1, []),
  (255, .dup, 1, []),
  (256, .bipush 31, 2, []),
  (258, .bipush 50, 2, []),
  (260, .iastore, 1, []),
  (261, .dup, 1, []),
  (262, .bipush 32, 2, []),
  (264, .bipush 44, 2, []),
  (266, .iastore, 1, []),
  (267, .dup, 1, []),
  (268, .bipush 33, 2, []),
  (270, .bipush 49, 2, []),
  (272, .iastore, 1, []),
  (273, .dup, 1, []),
  (274, .bipush 34, 2, []),
  (276, .bipush 44, 2, []),
  (278, .iastore, 1, []),
  (279, .dup, 1, []),
  (280, .bipush 35, 2, []),
  (282, .bipush 51, 2, []),
  (284, .iastore, 1, []),
  (285, .dup, 1, []),
  (286, .bipush 36, 2, []),
  (288, .bipush 51, 2, []),
  (290, .iastore, 1, []),
  (291, .dup, 1, []),
  (292, .bipush 37, 2, []),
  (294, .bipush 49, 2, []),
  (296, .iastore, 1, []),
  (297, .dup, 1, []),
  (298, .bipush 38, 2, []),
  (300, .bipush 50, 2, []),
  (302, .iastore, 1, []),
  (303, .dup, 1, []),
  (304, .bipush 39, 2, []),
  (306, .bipush 59, 2, []),
  (308, .iastore, 1, []),
  (309, .dup, 1, []),
  (310, .bipush 40, 2, []),
  (312, .bipush 116, 2, []),
  (314, .iastore, 1, []),
  (315, .dup, 1, []),
  (316, .bipush 41, 2, []),
  (318, .bipush 48, 2, []),
  (320, .iastore, 1, []),
  (321, .dup, 1, []),
  (322, .bipush 42, 2, []),
  (324, .bipush 44, 2, []),
  (326, .iastore, 1, []),
  (327, .dup, 1, []),
  (328, .bipush 43, 2, []),
  (330, .bipush 48, 2, []),
  (332, .iastore, 1, []),
  (333, .dup, 1, []),
  (334, .bipush 44, 2, []),
  (336, .bipush 44, 2, []),
  (338, .iastore, 1, []),
  (339, .dup, 1, []),
  (340, .bipush 45, 2, []),
  (342, .bipush 49, 2, []),
  (344, .iastore, 1, []),
  (345, .dup, 1, []),
  (346, .bipush 46, 2, []),
  (348, .bipush 50, 2, []),
  (350, .iastore, 1, []),
  (351, .dup, 1, []),
  (352, .bipush 47, 2, []),
  (354, .bipush 51, 2, []),
  (356, .iastore, 1, []),
  (357, .dup, 1, []),
  (358, .bipush 48, 2, []),
  (360, .bipush 49, 2, []),
  (362, .iastore, 1, []),
  (363, .dup, 1, []),
  (364, .bipush 49, 2, []),
  (366, .bipush 59, 2, []),
  (368, .iastore, 1, []),
  (369, .dup, 1, []),
  (370, .bipush 50, 2, []),
  (372, .bipush 116, 2, []),
  (374, .iastore, 1, []),
  (375, .dup, 1, []),
  (376, .bipush 51, 2, []),
  (378, .bipush 51, 2, []),
  (380, .iastore, 1, []),
  (381, .dup, 1, []),
  (382, .bipush 52, 2, []),
  (384, .bipush 44, 2, []),
  (386, .iastore, 1, []),
  (387, .dup, 1, []),
  (388, .bipush 53, 2, []),
  (390, .bipush 49, 2, []),
  (392, .iastore, 1, []),
  (393, .dup, 1, []),
  (394, .bipush 54, 2, []),
  (396, .bipush 44, 2, []),
  (398, .iastore, 1, []),
  (399, .dup, 1, []),
  (400, .bipush 55, 2, []),
  (402, .bipush 50, 2, []),
  (404, .iastore, 1, []),
  (405, .dup, 1, []),
  (406, .bipush 56, 2, []),
  (408, .bipush 50, 2, []),
  (410, .iastore, 1, []),
  (411, .dup, 1, []),
  (412, .bipush 57, 2, []),
  (414, .bipush 49, 2, []),
  (416, .iastore, 1, []),
  (417, .dup, 1, []),
  (418, .bipush 58, 2, []),
  (420, .bipush 51, 2, []),
  (422, .iastore, 1, []),
  (423, .dup, 1, []),
  (424, .bipush 59, 2, []),
  (426, .bipush 59, 2, []),
  (428, .iastore, 1, []),
  (429, .dup, 1, []),
  (430, .bipush 60, 2, []),
  (432, .bipush 112, 2, []),
  (434, .iastore, 1, []),
  (435, .dup, 1, []),
  (436, .bipush 61, 2, []),
  (438, .bipush 48, 2, []),
  (440, .iastore, 1, []),
  (441, .dup, 1, []),
  (442, .bipush 62, 2, []),
  (444, .bipush 49, 2, []),
  (446, .iastore, 1, []),
  (447, .dup, 1, []),
  (448, .bipush 63, 2, []),
  (450, .bipush 50, 2, []),
  (452, .iastore, 1, []),
  (453, .dup, 1, []),
  (454, .bipush 64, 2, []),
  (456, .bipush 51, 2, []),
  (458, .iastore, 1, []),
  (459, .dup, 1, []),
  (460, .bipush 65, 2, []),
  (462, .bipush 52, 2, []),
  (464, .iastore, 1, []),
  (465, .dup, 1, []),
  (466, .bipush 66, 2, []),
  (468, .bipush 53, 2, []),
  (470, .iastore, 1, []),
  (471, .dup, 1, []),
  (472, .bipush 67, 2, []),
  (474, .bipush 59, 2, []),
  (476, .iastore, 1, []),
  (477, .dup, 1, []),
  (478, .bipush 68, 2, []),
  (480, .bipush 112, 2, []),
  (482, .iastore, 1, []),
  (483, .dup, 1, []),
  (484, .bipush 69, 2, []),
  (486, .bipush 48, 2, []),
  (488, .iastore, 1, []),
  (489, .dup, 1, []),
  (490, .bipush 70, 2, []),
  (492, .bipush 50, 2, []),
  (494, .iastore, 1, []),
  (495, .dup, 1, []),
  (496, .bipush 71, 2, []),
  (498, .bipush 52, 2, []),
  (500, .iastore, 1, []),
  (501, .dup, 1, []),
  (502, .bipush 72, 2, []),
  (504, .bipush 59, 2, []),
  (506, .iastore, 1, []),
  (507, .dup, 1, []),
  (508, .bipush 73, 2, []),
  (510, .bipush 112, 2, []),
  (512, .iastore, 1, []),
  (513, .dup, 1, []),
  (514, .bipush 74, 2, []),
  (516, .bipush 49, 2, []),
  (518, .iastore, 1, []),
  (519, .dup, 1, []),
  (520, .bipush 75, 2, []),
  (522, .bipush 51, 2, []),
  (524, .iastore, 1, []),
  (525, .dup, 1, []),
  (526, .bipush 76, 2, []),
  (528, .bipush 53, 2, []),
  (530, .iastore, 1, []),
  (531, .dup, 1, []),
  (532, .bipush 77, 2, []),
  (534, .bipush 59, 2, []),
  (536, .iastore, 1, []),
  (537, .dup, 1, []),
  (538, .bipush 78, 2, []),
  (540, .bipush 112, 2, []),
  (542, .iastore, 1, []),
  (543, .dup, 1, []),
  (544, .bipush 79, 2, []),
  (546, .bipush 48, 2, []),
  (548, .iastore, 1, []),
  (549, .dup, 1, []),
  (550, .bipush 80, 2, []),
  (552, .bipush 53, 2, []),
  (554, .iastore, 1, []),
  (555, .dup, 1, []),
  (556, .bipush 81, 2, []),
  (558, .bipush 59, 2, []),
  (560, .iastore, 1, []),
  (561, .dup, 1, []),
  (562, .bipush 82, 2, []),
  (564, .bipush 108, 2, []),
  (566, .iastore, 1, []),
  (567, .dup, 1, []),
  (568, .bipush 83, 2, []),
  (570, .bipush 49, 2, []),
  (572, .iastore, 1, []),
  (573, .dup, 1, []),
  (574, .bipush 84, 2, []),
  (576, .bipush 54, 2, []),
  (578, .iastore, 1, []),
  (579, .dup, 1, []),
  (580, .bipush 85, 2, []),
  (582, .bipush 59, 2, []),
  (584, .iastore, 1, []),
  (585, .dup, 1, []),
  (586, .bipush 86, 2, []),
  (588, .bipush 100, 2, []),
  (590, .iastore, 1, []),
  (591, .dup, 1, []),
  (592, .bipush 87, 2, []),
  (594, .bipush 48, 2, []),
  (596, .iastore, 1, []),
  (597, .dup, 1, []),
  (598, .bipush 88, 2, []),
  (600, .bipush 102, 2, []),
  (602, .iastore, 1, []),
  (603, .dup, 1, []),
  (604, .bipush 89, 2, []),
  (606, .bipush 49, 2, []),
  (608, .iastore, 1, []),
  (609, .dup, 1, []),
  (610, .bipush 90, 2, []),
  (612, .bipush 102, 2, []),
  (614, .iastore, 1, []),
  (615, .dup, 1, []),
  (616, .bipush 91, 2, []),
  (618, .bipush 50, 2, []),
  (620, .iastore, 1, []),
  (621, .dup, 1, []),
  (622, .bipush 92, 2, []),
  (624, .bipush 98, 2, []),
  (626, .iastore, 1, []),
  (627, .dup, 1, []),
  (628, .bipush 93, 2, []),
  (630, .bipush 48, 2, []),
  (632, .iastore, 1, []),
  (633, .dup, 1, []),
  (634, .bipush 94, 2, []),
  (636, .bipush 102, 2, []),
  (638, .iastore, 1, []),
  (639, .dup, 1, []),
  (640, .bipush 95, 2, []),
  (642, .bipush 59, 2, []),
  (644, .iastore, 1, []),
  (645, .putfield 34, 3, [1041, 2, 5, 16, 3]),
  (648, .aload_n 0, 1, []),
  (649, .bipush 6, 2, []),
  (651, .newarray .int, 2, [210, 0]),
  (653, .putfield 37, 3, [1045, 2, 5, 20, 3]),
  (656, .aload_n 0, 1, []),
  (657, .bipush 6, 2, []),
  (659, .newarray .int, 2, [210, 0]),
  (661, .putfield 40, 3, [1046, 2, 5, 21, 3]),
  (664, .aload_n 0, 1, []),
  (665, .bipush 24, 2, []),
  (667, .newarray .int, 2, [210, 0]),
  (669, .putfield 43, 3, [1047, 2, 5, 22, 3]),
  (672, .aload_n 0, 1, []),
  (673, .bipush 6, 2, []),
  (675, .newarray .int, 2, [210, 0]),
  (677, .putfield 46, 3, [1049, 2, 5, 24, 3]),
  (680, .aload_n 0, 1, []),
  (681, .bipush 8, 2, []),
  (683, .newarray .int, 2, [210, 0]),
  (685, .putfield 49, 3, [1052, 2, 5, 27, 3]),
  (688, .aload_n 0, 1, []),
  (689, .bipush 12, 2, []),
  (691, .newarray .int, 2, [210, 0]),
  (693, .putfield 52, 3, [1053, 2, 5, 28, 3]),
  (696, .aload_n 0, 1, []),
  (697, .sipush 4096, 3, []),
  (700, .newarray .int, 2, [210, 0]),
  (702, .putfield 55, 3, [1054, 2, 5, 29, 3]),
  (705, .aload_n 0, 1, []),
  (706, .sipush 4096, 3, []),
  (709, .newarray .int, 2, [210, 0]),
  (711, .putfield 58, 3, [1055, 2, 5, 30, 3]),
  (714, .aload_n 0, 1, []),
  (715, .sipush 4096, 3, []),
  (718, .newarray .boolean, 2, [1143, 2]),
  (720, .putfield 61, 3, [1056, 2, 5, 31, 3]),
  (723, .aload_n 0, 1, []),
  (724, .sipush 4096, 3, []),
  (727, .newarray .int, 2, [210, 0]),
  (729, .putfield 65, 3, [1058, 2, 5, 33, 3]),
  (732, .aload_n 0, 1, []),
  (733, .sipush 4096, 3, []),
  (736, .newarray .int, 2, [210, 0]),
  (738, .putfield 68, 3, [1059, 2, 5, 34, 3]),
  (741, .aload_n 0, 1, []),
  (742, .sipush 4096, 3, []),
  (745, .newarray .int, 2, [210, 0]),
  (747, .putfield 71, 3, [1060, 2, 5, 35, 3]),
  (750, .aload_n 0, 1, []),
  (751, .sipush 4096, 3, []),
  (754, .newarray .int, 2, [210, 0]),
  (756, .putfield 74, 3, [1062, 2, 5, 37, 3]),
  (759, .aload_n 0, 1, []),
  (760, .sipush 4096, 3, []),
  (763, .newarray .int, 2, [210, 0]),
  (765, .putfield 77, 3, [1063, 2, 5, 38, 3]),
  (768, .iconst 0, 1, []),
  (769, .istore_n 1, 1, []),
  (770, .iload_n 1, 1, []),
  (771, .bipush 96, 2, []),
  (773, .if_icmp .ge 21, 3, [794]),
  (776, .aload_n 0, 1, []),
  (777, .getfield 28, 3, [1037, 0, 5, 12]),
  (780, .iload_n 1, 1, []),
  (781, .aload_n 0, 1, []),
  (782, .getfield 34, 3, [1041, 0, 5, 16]),
  (785, .iload_n 1, 1, []),
  (786, .iaload, 1, []),
  (787, .iastore, 1, []),
  (788, .iinc 1 1, 3, []),
  (791, .goto (-21), 3, [770]),
  (794, .aload_n 0, 1, []),
  (795, .bipush 96, 2, []),
  (797, .putfield 80, 3, [1038, 0, 5, 13, 0]),
  (800, .aload_n 0, 1, []),
  (801, .invokevirtual 84, 3, [0, 154, 1, 5, 0, 0, 0, 977, 978, 979, 119, 980]),
  (804, .pop, 1, []),
  (805, .aload_n 0, 1, []),
  (806, .iconst 0, 1, []),
  (807, .putfield 80, 3, [1038, 0, 5, 13, 0]),
  (810, .return_, 1, [])]
def mr155 (S : Nat → mv_Sp) (P : mv_Post) : mv_Kt := mv_R mv_DF mk155 S (23, 42770) P
theorem e155_0 : mr155 S P 0 L st sh M c s = (q_isA (q_gv L 0) ∧ mr155 S P 1 L (q_gv L 0 :: st) sh M c s) := (propext (mv_R_iff (i := .aload_n 0) (len := 1) (ax := []) (by decide +kernel))).trans (q_ldA_eq (K := fun st => mr155 S P 1 L st sh M c s))
theorem e155_1 {x : Nat} : mr155 S P 1 L (.ref x :: st) sh M c s = (mv_ss st + 1 ≤ 8 ∧ mr155 S P 4 L st sh M c s) := propext (mv_R_iff (i := .invokespecial 1) (len := 3) (ax := [13, 976, 127, 128]) (by decide +kernel))
theorem e155_4 : mr155 S P 4 L st sh M c s = (q_isA (q_gv L 0) ∧ mr155 S P 5 L (q_gv L 0 :: st) sh M c s) := (propext (mv_R_iff (i := .aload_n 0) (len := 1) (ax := []) (by decide +kernel))).trans (q_ldA_eq (K := fun st => mr155 S P 5 L st sh M c s))
theorem e155_5 : mr155 S P 5 L st sh M c s = (mr155 S P 8 L (.int (nI 9588) :: st) sh M c s) := propext (mv_R_iff (i := .sipush 9588) (len := 3) (ax := []) (by decide +kernel))
theorem e155_8 {n : Int32} : mr155 S P 8 L (.int n :: st) sh M c s = ((sh.length < 900 ∧ ¬ n < 0 ∧ n.toNatClampNeg ≤ 10000 ∧ c + 1 ≤ 23 ∧ s + n.toNatClampNeg ≤ 42770) ∧ mr155 S P 10 L (.ref sh.length :: st) (sh ++ [.inl (0, n.toNatClampNeg)]) (mv_wr M sh.length (fun _ => 0)) (c + 1) (s + n.toNatClampNeg)) := propext (mv_R_iff (i := .newarray .int) (len := 2) (ax := [210, 0]) (by decide +kernel))
theorem e155_10 {x : Nat} {a : Nat} : mr155 S P 10 L (.ref x :: .ref a :: st) sh M c s = (mv_kpr sh M a 5 0 x (mr155 S P) 13 L st c s) := (propext (mv_R_iff (i := .putfield 7) (len := 3) (ax := [1025, 2, 5, 0, 3]) (by decide +kernel))).trans (q_tt)
theorem e155_13 : mr155 S P 13 L st sh M c s = (q_isA (q_gv L 0) ∧ mr155 S P 14 L (q_gv L 0 :: st) sh M c s) := (propext (mv_R_iff (i := .aload_n 0) (len := 1) (ax := []) (by decide +kernel))).trans (q_ldA_eq (K := fun st => mr155 S P 14 L st sh M c s))
theorem e155_14 : mr155 S P 14 L st sh M c s = (mr155 S P 16 L (.int (nI 6) :: st) sh M c s) := propext (mv_R_iff (i := .bipush 6) (len := 2) (ax := []) (by decide +kernel))
theorem e155_16 {n : Int32} : mr155 S P 16 L (.int n :: st) sh M c s = ((sh.length < 900 ∧ ¬ n < 0 ∧ n.toNatClampNeg ≤ 10000 ∧ c + 1 ≤ 23 ∧ s + n.toNatClampNeg ≤ 42770) ∧ mr155 S P 18 L (.ref sh.length :: st) (sh ++ [.inl (0, n.toNatClampNeg)]) (mv_wr M sh.length (fun _ => 0)) (c + 1) (s + n.toNatClampNeg)) := propext (mv_R_iff (i := .newarray .int) (len := 2) (ax := [210, 0]) (by decide +kernel))
theorem e155_18 {x : Nat} {a : Nat} : mr155 S P 18 L (.ref x :: .ref a :: st) sh M c s = (mv_kpr sh M a 5 4 x (mr155 S P) 21 L st c s) := (propext (mv_R_iff (i := .putfield 13) (len := 3) (ax := [1029, 2, 5, 4, 3]) (by decide +kernel))).trans (q_tt)
theorem e155_21 : mr155 S P 21 L st sh M c s = (q_isA (q_gv L 0) ∧ mr155 S P 22 L (q_gv L 0 :: st) sh M c s) := (propext (mv_R_iff (i := .aload_n 0) (len := 1) (ax := []) (by decide +kernel))).trans (q_ldA_eq (K := fun st => mr155 S P 22 L st sh M c s))
theorem e155_22 : mr155 S P 22 L st sh M c s = (mr155 S P 24 L (.int (nI 24) :: st) sh M c s) := propext (mv_R_iff (i := .bipush 24) (len := 2) (ax := []) (by decide +kernel))
theorem e155_24 {n : Int32} : mr155 S P 24 L (.int n :: st) sh M c s = ((sh.length < 900 ∧ ¬ n < 0 ∧ n.toNatClampNeg ≤ 10000 ∧ c + 1 ≤ 23 ∧ s + n.toNatClampNeg ≤ 42770) ∧ mr155 S P 26 L (.ref sh.length :: st) (sh ++ [.inl (0, n.toNatClampNeg)]) (mv_wr M sh.length (fun _ => 0)) (c + 1) (s + n.toNatClampNeg)) := propext (mv_R_iff (i := .newarray .int) (len := 2) (ax := [210, 0]) (by decide +kernel))
theorem e155_26 {x : Nat} {a : Nat} : mr155 S P 26 L (.ref x :: .ref a :: st) sh M c s = (mv_kpr sh M a 5 5 x (mr155 S P) 29 L st c s) := (propext (mv_R_iff (i := .putfield 16) (len := 3) (ax := [1030, 2, 5, 5, 3]) (by decide +kernel))).trans (q_tt)
theorem e155_29 : mr155 S P 29 L st sh M c s = (q_isA (q_gv L 0) ∧ mr155 S P 30 L (q_gv L 0 :: st) sh M c s) := (propext (mv_R_iff (i := .aload_n 0) (len := 1) (ax := []) (by decide +kernel))).trans (q_ldA_eq (K := fun st => mr155 S P 30 L st sh M c s))
theorem e155_30 : mr155 S P 30 L st sh M c s = (mr155 S P 32 L (.int (nI 6) :: st) sh M c s) := propext (mv_R_iff (i := .bipush 6) (len := 2) (ax := []) (by decide +kernel))
theorem e155_32 {n : Int32} : mr155 S P 32 L (.int n :: st) sh M c s = ((sh.length < 900 ∧ ¬ n < 0 ∧ n.toNatClampNeg ≤ 10000 ∧ c + 1 ≤ 23 ∧ s + n.toNatClampNeg ≤ 42770) ∧ mr155 S P 34 L (.ref sh.length :: st) (sh ++ [.inl (0, n.toNatClampNeg)]) (mv_wr M sh.length (fun _ => 0)) (c + 1) (s + n.toNatClampNeg)) := propext (mv_R_iff (i := .newarray .int) (len := 2) (ax := [210, 0]) (by decide +kernel))
theorem e155_34 {x : Nat} {a : Nat} : mr155 S P 34 L (.ref x :: .ref a :: st) sh M c s = (mv_kpr sh M a 5 6 x (mr155 S P) 37 L st c s) := (propext (mv_R_iff (i := .putfield 19) (len := 3) (ax := [1031, 2, 5, 6, 3]) (by decide +kernel))).trans (q_tt)
theorem e155_37 : mr155 S P 37 L st sh M c s = (q_isA (q_gv L 0) ∧ mr155 S P 38 L (q_gv L 0 :: st) sh M c s) := (propext (mv_R_iff (i := .aload_n 0) (len := 1) (ax := []) (by decide +kernel))).trans (q_ldA_eq (K := fun st => mr155 S P 38 L st sh M c s))
theorem e155_38 : mr155 S P 38 L st sh M c s = (mr155 S P 40 L (.int (nI 6) :: st) sh M c s) := propext (mv_R_iff (i := .bipush 6) (len := 2) (ax := []) (by decide +kernel))
theorem e155_40 {n : Int32} : mr155 S P 40 L (.int n :: st) sh M c s = ((sh.length < 900 ∧ ¬ n < 0 ∧ n.toNatClampNeg ≤ 10000 ∧ c + 1 ≤ 23 ∧ s + n.toNatClampNeg ≤ 42770) ∧ mr155 S P 42 L (.ref sh.length :: st) (sh ++ [.inl (0, n.toNatClampNeg)]) (mv_wr M sh.length (fun _ => 0)) (c + 1) (s + n.toNatClampNeg)) := propext (mv_R_iff (i := .newarray .int) (len := 2) (ax := [210, 0]) (by decide +kernel))
theorem e155_42 {x : Nat} {a : Nat} : mr155 S P 42 L (.ref x :: .ref a :: st) sh M c s = (mv_kpr sh M a 5 8 x (mr155 S P) 45 L st c s) := (propext (mv_R_iff (i := .putfield 22) (len := 3) (ax := [1033, 2, 5, 8, 3]) (by decide +kernel))).trans (q_tt)
theorem e155_45 : mr155 S P 45 L st sh M c s = (q_isA (q_gv L 0) ∧ mr155 S P 46 L (q_gv L 0 :: st) sh M c s) := (propext (mv_R_iff (i := .aload_n 0) (len := 1) (ax := []) (by decide +kernel))).trans (q_ldA_eq (K := fun st => mr155 S P 46 L st sh M c s))
theorem e155_46 : mr155 S P 46 L st sh M c s = (mr155 S P 48 L (.int (nI 8) :: st) sh M c s) := propext (mv_R_iff (i := .bipush 8) (len := 2) (ax := []) (by decide +kernel))
theorem e155_48 {n : Int32} : mr155 S P 48 L (.int n :: st) sh M c s = ((sh.length < 900 ∧ ¬ n < 0 ∧ n.toNatClampNeg ≤ 10000 ∧ c + 1 ≤ 23 ∧ s + n.toNatClampNeg ≤ 42770) ∧ mr155 S P 50 L (.ref sh.length :: st) (sh ++ [.inl (0, n.toNatClampNeg)]) (mv_wr M sh.length (fun _ => 0)) (c + 1) (s + n.toNatClampNeg)) := propext (mv_R_iff (i := .newarray .int) (len := 2) (ax := [210, 0]) (by decide +kernel))
theorem e155_50 {x : Nat} {a : Nat} : mr155 S P 50 L (.ref x :: .ref a :: st) sh M c s = (mv_kpr sh M a 5 11 x (mr155 S P) 53 L st c s) := (propext (mv_R_iff (i := .putfield 25) (len := 3) (ax := [1036, 2, 5, 11, 3]) (by decide +kernel))).trans (q_tt)
theorem e155_53 : mr155 S P 53 L st sh M c s = (q_isA (q_gv L 0) ∧ mr155 S P 54 L (q_gv L 0 :: st) sh M c s) := (propext (mv_R_iff (i := .aload_n 0) (len := 1) (ax := []) (by decide +kernel))).trans (q_ldA_eq (K := fun st => mr155 S P 54 L st sh M c s))
theorem e155_54 : mr155 S P 54 L st sh M c s = (mr155 S P 57 L (.int (nI 200) :: st) sh M c s) := propext (mv_R_iff (i := .sipush 200) (len := 3) (ax := []) (by decide +kernel))
theorem e155_57 {n : Int32} : mr155 S P 57 L (.int n :: st) sh M c s = ((sh.length < 900 ∧ ¬ n < 0 ∧ n.toNatClampNeg ≤ 10000 ∧ c + 1 ≤ 23 ∧ s + n.toNatClampNeg ≤ 42770) ∧ mr155 S P 59 L (.ref sh.length :: st) (sh ++ [.inl (0, n.toNatClampNeg)]) (mv_wr M sh.length (fun _ => 0)) (c + 1) (s + n.toNatClampNeg)) := propext (mv_R_iff (i := .newarray .int) (len := 2) (ax := [210, 0]) (by decide +kernel))
theorem e155_59 {x : Nat} {a : Nat} : mr155 S P 59 L (.ref x :: .ref a :: st) sh M c s = (mv_kpr sh M a 5 12 x (mr155 S P) 62 L st c s) := (propext (mv_R_iff (i := .putfield 28) (len := 3) (ax := [1037, 2, 5, 12, 3]) (by decide +kernel))).trans (q_tt)
theorem e155_62 : mr155 S P 62 L st sh M c s = (q_isA (q_gv L 0) ∧ mr155 S P 63 L (q_gv L 0 :: st) sh M c s) := (propext (mv_R_iff (i := .aload_n 0) (len := 1) (ax := []) (by decide +kernel))).trans (q_ldA_eq (K := fun st => mr155 S P 63 L st sh M c s))
theorem e155_63 : mr155 S P 63 L st sh M c s = (mr155 S P 65 L (.int (nI 6) :: st) sh M c s) := propext (mv_R_iff (i := .bipush 6) (len := 2) (ax := []) (by decide +kernel))
theorem e155_65 {n : Int32} : mr155 S P 65 L (.int n :: st) sh M c s = ((sh.length < 900 ∧ ¬ n < 0 ∧ n.toNatClampNeg ≤ 10000 ∧ c + 1 ≤ 23 ∧ s + n.toNatClampNeg ≤ 42770) ∧ mr155 S P 67 L (.ref sh.length :: st) (sh ++ [.inl (0, n.toNatClampNeg)]) (mv_wr M sh.length (fun _ => 0)) (c + 1) (s + n.toNatClampNeg)) := propext (mv_R_iff (i := .newarray .int) (len := 2) (ax := [210, 0]) (by decide +kernel))
theorem e155_67 {x : Nat} {a : Nat} : mr155 S P 67 L (.ref x :: .ref a :: st) sh M c s = (mv_kpr sh M a 5 15 x (mr155 S P) 70 L st c s) := (propext (mv_R_iff (i := .putfield 31) (len := 3) (ax := [1040, 2, 5, 15, 3]) (by decide +kernel))).trans (q_tt)
theorem e155_70 : mr155 S P 70 L st sh M c s = (q_isA (q_gv L 0) ∧ mr155 S P 71 L (q_gv L 0 :: st) sh M c s) := (propext (mv_R_iff (i := .aload_n 0) (len := 1) (ax := []) (by decide +kernel))).trans (q_ldA_eq (K := fun st => mr155 S P 71 L st sh M c s))
theorem e155_71 : mr155 S P 71 L st sh M c s = (mr155 S P 73 L (.int (nI 96) :: st) sh M c s) := propext (mv_R_iff (i := .bipush 96) (len := 2) (ax := []) (by decide +kernel))
theorem e155_73 {n : Int32} : mr155 S P 73 L (.int n :: st) sh M c s = ((sh.length < 900 ∧ ¬ n < 0 ∧ n.toNatClampNeg ≤ 10000 ∧ c + 1 ≤ 23 ∧ s + n.toNatClampNeg ≤ 42770) ∧ mr155 S P 75 L (.ref sh.length :: st) (sh ++ [.inl (0, n.toNatClampNeg)]) (mv_wr M sh.length (fun _ => 0)) (c + 1) (s + n.toNatClampNeg)) := propext (mv_R_iff (i := .newarray .int) (len := 2) (ax := [210, 0]) (by decide +kernel))
theorem e155_75 {x : Int32} : mr155 S P 75 L (.int x :: st) sh M c s = (mr155 S P 76 L (.int x :: .int x :: st) sh M c s) := propext (mv_R_iff (i := .dup) (len := 1) (ax := []) (by decide +kernel))
theorem e155_75r {x : Nat} : mr155 S P 75 L (.ref x :: st) sh M c s = (mr155 S P 76 L (.ref x :: .ref x :: st) sh M c s) := propext (mv_R_iff (i := .dup) (len := 1) (ax := []) (by decide +kernel))
theorem e155_76 : mr155 S P 76 L st sh M c s = (mr155 S P 77 L (.int (nI 0) :: st) sh M c s) := propext (mv_R_iff (i := .iconst 0) (len := 1) (ax := []) (by decide +kernel))
theorem e155_77 : mr155 S P 77 L st sh M c s = (mr155 S P 79 L (.int (nI 116) :: st) sh M c s) := propext (mv_R_iff (i := .bipush 116) (len := 2) (ax := []) (by decide +kernel))
theorem e155_79 {x : Int32} {i : Int32} {a : Nat} : mr155 S P 79 L (.int x :: .int i :: .ref a :: st) sh M c s = (mv_kst sh M a i x (mr155 S P) 80 L st c s) := propext (mv_R_iff (i := .iastore) (len := 1) (ax := []) (by decide +kernel))
theorem e155_80 {x : Int32} : mr155 S P 80 L (.int x :: st) sh M c s = (mr155 S P 81 L (.int x :: .int x :: st) sh M c s) := propext (mv_R_iff (i := .dup) (len := 1) (ax := []) (by decide +kernel))
theorem e155_80r {x : Nat} : mr155 S P 80 L (.ref x :: st) sh M c s = (mr155 S P 81 L (.ref x :: .ref x :: st) sh M c s) := propext (mv_R_iff (i := .dup) (len := 1) (ax := []) (by decide +kernel))
theorem e155_81 : mr155 S P 81 L st sh M c s = (mr155 S P 82 L (.int (nI 1) :: st) sh M c s) := propext (mv_R_iff (i := .iconst 1) (len := 1) (ax := []) (by decide +kernel))
theorem e155_82 : mr155 S P 82 L st sh M c s = (mr155 S P 84 L (.int (nI 48) :: st) sh M c s) := propext (mv_R_iff (i := .bipush 48) (len := 2) (ax := []) (by decide +kernel))
theorem e155_84 {x : Int32} {i : Int32} {a : Nat} : mr155 S P 84 L (.int x :: .int i :: .ref a :: st) sh M c s = (mv_kst sh M a i x (mr155 S P) 85 L st c s) := propext (mv_R_iff (i := .iastore) (len := 1) (ax := []) (by decide +kernel))
theorem e155_85 {x : Int32} : mr155 S P 85 L (.int x :: st) sh M c s = (mr155 S P 86 L (.int x :: .int x :: st) sh M c s) := propext (mv_R_iff (i := .dup) (len := 1) (ax := []) (by decide +kernel))
theorem e155_85r {x : Nat} : mr155 S P 85 L (.ref x :: st) sh M c s = (mr155 S P 86 L (.ref x :: .ref x :: st) sh M c s) := propext (mv_R_iff (i := .dup) (len := 1) (ax := []) (by decide +kernel))
theorem e155_86 : mr155 S P 86 L st sh M c s = (mr155 S P 87 L (.int (nI 2) :: st) sh M c s) := propext (mv_R_iff (i := .iconst 2) (len := 1) (ax := []) (by decide +kernel))
theorem e155_87 : mr155 S P 87 L st sh M c s = (mr155 S P 89 L (.int (nI 44) :: st) sh M c s) := propext (mv_R_iff (i := .bipush 44) (len := 2) (ax := []) (by decide +kernel))
theorem e155_89 {x : Int32} {i : Int32} {a : Nat} : mr155 S P 89 L (.int x :: .int i :: .ref a :: st) sh M c s = (mv_kst sh M a i x (mr155 S P) 90 L st c s) := propext (mv_R_iff (i := .iastore) (len := 1) (ax := []) (by decide +kernel))
theorem e155_90 {x : Int32} : mr155 S P 90 L (.int x :: st) sh M c s = (mr155 S P 91 L (.int x :: .int x :: st) sh M c s) := propext (mv_R_iff (i := .dup) (len := 1) (ax := []) (by decide +kernel))
theorem e155_90r {x : Nat} : mr155 S P 90 L (.ref x :: st) sh M c s = (mr155 S P 91 L (.ref x :: .ref x :: st) sh M c s) := propext (mv_R_iff (i := .dup) (len := 1) (ax := []) (by decide +kernel))
theorem e155_91 : mr155 S P 91 L st sh M c s = (mr155 S P 92 L (.int (nI 3) :: st) sh M c s) := propext (mv_R_iff (i := .iconst 3) (len := 1) (ax := []) (by decide +kernel))
theorem e155_92 : mr155 S P 92 L st sh M c s = (mr155 S P 94 L (.int (nI 48) :: st) sh M c s) := propext (mv_R_iff (i := .bipush 48) (len := 2) (ax := []) (by decide +kernel))
theorem e155_94 {x : Int32} {i : Int32} {a : Nat} : mr155 S P 94 L (.int x :: .int i :: .ref a :: st) sh M c s = (mv_kst sh M a i x (mr155 S P) 95 L st c s) := propext (mv_R_iff (i := .iastore) (len := 1) (ax := []) (by decide +kernel))
theorem e155_95 {x : Int32} : mr155 S P 95 L (.int x :: st) sh M c s = (mr155 S P 96 L (.int x :: .int x :: st) sh M c s) := propext (mv_R_iff (i := .dup) (len := 1) (ax := []) (by decide +kernel))
theorem e155_95r {x : Nat} : mr155 S P 95 L (.ref x :: st) sh M c s = (mr155 S P 96 L (.ref x :: .ref x :: st) sh M c s) := propext (mv_R_iff (i := .dup) (len := 1) (ax := []) (by decide +kernel))
theorem e155_96 : mr155 S P 96 L st sh M c s = (mr155 S P 97 L (.int (nI 4) :: st) sh M c s) := propext (mv_R_iff (i := .iconst 4) (len := 1) (ax := []) (by decide +kernel))
theorem e155_97 : mr155 S P 97 L st sh M c s = (mr155 S P 99 L (.int (nI 44) :: st) sh M c s) := propext (mv_R_iff (i := .bipush 44) (len := 2) (ax := []) (by decide +kernel))
theorem e155_99 {x : Int32} {i : Int32} {a : Nat} : mr155 S P 99 L (.int x :: .int i :: .ref a :: st) sh M c s = (mv_kst sh M a i x (mr155 S P) 100 L st c s) := propext (mv_R_iff (i := .iastore) (len := 1) (ax := []) (by decide +kernel))
theorem e155_100 {x : Int32} : mr155 S P 100 L (.int x :: st) sh M c s = (mr155 S P 101 L (.int x :: .int x :: st) sh M c s) := propext (mv_R_iff (i := .dup) (len := 1) (ax := []) (by decide +kernel))
theorem e155_100r {x : Nat} : mr155 S P 100 L (.ref x :: st) sh M c s = (mr155 S P 101 L (.ref x :: .ref x :: st) sh M c s) := propext (mv_R_iff (i := .dup) (len := 1) (ax := []) (by decide +kernel))
theorem e155_101 : mr155 S P 101 L st sh M c s = (mr155 S P 102 L (.int (nI 5) :: st) sh M c s) := propext (mv_R_iff (i := .iconst 5) (len := 1) (ax := []) (by decide +kernel))
theorem e155_102 : mr155 S P 102 L st sh M c s = (mr155 S P 104 L (.int (nI 49) :: st) sh M c s) := propext (mv_R_iff (i := .bipush 49) (len := 2) (ax := []) (by decide +kernel))
theorem e155_104 {x : Int32} {i : Int32} {a : Nat} : mr155 S P 104 L (.int x :: .int i :: .ref a :: st) sh M c s = (mv_kst sh M a i x (mr155 S P) 105 L st c s) := propext (mv_R_iff (i := .iastore) (len := 1) (ax := []) (by decide +kernel))
theorem e155_105 {x : Int32} : mr155 S P 105 L (.int x :: st) sh M c s = (mr155 S P 106 L (.int x :: .int x :: st) sh M c s) := propext (mv_R_iff (i := .dup) (len := 1) (ax := []) (by decide +kernel))
theorem e155_105r {x : Nat} : mr155 S P 105 L (.ref x :: st) sh M c s = (mr155 S P 106 L (.ref x :: .ref x :: st) sh M c s) := propext (mv_R_iff (i := .dup) (len := 1) (ax := []) (by decide +kernel))
theorem e155_106 : mr155 S P 106 L st sh M c s = (mr155 S P 108 L (.int (nI 6) :: st) sh M c s) := propext (mv_R_iff (i := .bipush 6) (len := 2) (ax := []) (by decide +kernel))
theorem e155_108 : mr155 S P 108 L st sh M c s = (mr155 S P 110 L (.int (nI 49) :: st) sh M c s) := propext (mv_R_iff (i := .bipush 49) (len := 2) (ax := []) (by decide +kernel))
theorem e155_110 {x : Int32} {i : Int32} {a : Nat} : mr155 S P 110 L (.int x :: .int i :: .ref a :: st) sh M c s = (mv_kst sh M a i x (mr155 S P) 111 L st c s) := propext (mv_R_iff (i := .iastore) (len := 1) (ax := []) (by decide +kernel))
theorem e155_111 {x : Int32} : mr155 S P 111 L (.int x :: st) sh M c s = (mr155 S P 112 L (.int x :: .int x :: st) sh M c s) := propext (mv_R_iff (i := .dup) (len := 1) (ax := []) (by decide +kernel))
theorem e155_111r {x : Nat} : mr155 S P 111 L (.ref x :: st) sh M c s = (mr155 S P 112 L (.ref x :: .ref x :: st) sh M c s) := propext (mv_R_iff (i := .dup) (len := 1) (ax := []) (by decide +kernel))
theorem e155_112 : mr155 S P 112 L st sh M c s = (mr155 S P 114 L (.int (nI 7) :: st) sh M c s) := propext (mv_R_iff (i := .bipush 7) (len := 2) (ax := []) (by decide +kernel))
theorem e155_114 : mr155 S P 114 L st sh M c s = (mr155 S P 116 L (.int (nI 50) :: st) sh M c s) := propext (mv_R_iff (i := .bipush 50) (len := 2) (ax := []) (by decide +kernel))
theorem e155_116 {x : Int32} {i : Int32} {a : Nat} : mr155 S P 116 L (.int x :: .int i :: .ref a :: st) sh M c s = (mv_kst sh M a i x (mr155 S P) 117 L st c s) := propext (mv_R_iff (i := .iastore) (len := 1) (ax := []) (by decide +kernel))
theorem e155_117 {x : Int32} : mr155 S P 117 L (.int x :: st) sh M c s = (mr155 S P 118 L (.int x :: .int x :: st) sh M c s) := propext (mv_R_iff (i := .dup) (len := 1) (ax := []) (by decide +kernel))
theorem e155_117r {x : Nat} : mr155 S P 117 L (.ref x :: st) sh M c s = (mr155 S P 118 L (.ref x :: .ref x :: st) sh M c s) := propext (mv_R_iff (i := .dup) (len := 1) (ax := []) (by decide +kernel))
theorem e155_118 : mr155 S P 118 L st sh M c s = (mr155 S P 120 L (.int (nI 8) :: st) sh M c s) := propext (mv_R_iff (i := .bipush 8) (len := 2) (ax := []) (by decide +kernel))
theorem e155_120 : mr155 S P 120 L st sh M c s = (mr155 S P 122 L (.int (nI 51) :: st) sh M c s) := propext (mv_R_iff (i := .bipush 51) (len := 2) (ax := []) (by decide +kernel))
theorem e155_122 {x : Int32} {i : Int32} {a : Nat} : mr155 S P 122 L (.int x :: .int i :: .ref a :: st) sh M c s = (mv_kst sh M a i x (mr155 S P) 123 L st c s) := propext (mv_R_iff (i := .iastore) (len := 1) (ax := []) (by decide +kernel))
theorem e155_123 {x : Int32} : mr155 S P 123 L (.int x :: st) sh M c s = (mr155 S P 124 L (.int x :: .int x :: st) sh M c s) := propext (mv_R_iff (i := .dup) (len := 1) (ax := []) (by decide +kernel))
theorem e155_123r {x : Nat} : mr155 S P 123 L (.ref x :: st) sh M c s = (mr155 S P 124 L (.ref x :: .ref x :: st) sh M c s) := propext (mv_R_iff (i := .dup) (len := 1) (ax := []) (by decide +kernel))
theorem e155_124 : mr155 S P 124 L st sh M c s = (mr155 S P 126 L (.int (nI 9) :: st) sh M c s) := propext (mv_R_iff (i := .bipush 9) (len := 2) (ax := []) (by decide +kernel))
theorem e155_126 : mr155 S P 126 L st sh M c s = (mr155 S P 128 L (.int (nI 59) :: st) sh M c s) := propext (mv_R_iff (i := .bipush 59) (len := 2) (ax := []) (by decide +kernel))
theorem e155_128 {x : Int32} {i : Int32} {a : Nat} : mr155 S P 128 L (.int x :: .int i :: .ref a :: st) sh M c s = (mv_kst sh M a i x (mr155 S P) 129 L st c s) := propext (mv_R_iff (i := .iastore) (len := 1) (ax := []) (by decide +kernel))
theorem e155_129 {x : Int32} : mr155 S P 129 L (.int x :: st) sh M c s = (mr155 S P 130 L (.int x :: .int x :: st) sh M c s) := propext (mv_R_iff (i := .dup) (len := 1) (ax := []) (by decide +kernel))
theorem e155_129r {x : Nat} : mr155 S P 129 L (.ref x :: st) sh M c s = (mr155 S P 130 L (.ref x :: .ref x :: st) sh M c s) := propext (mv_R_iff (i := .dup) (len := 1) (ax := []) (by decide +kernel))
theorem e155_130 : mr155 S P 130 L st sh M c s = (mr155 S P 132 L (.int (nI 10) :: st) sh M c s) := propext (mv_R_iff (i := .bipush 10) (len := 2) (ax := []) (by decide +kernel))
theorem e155_132 : mr155 S P 132 L st sh M c s = (mr155 S P 134 L (.int (nI 116) :: st) sh M c s) := propext (mv_R_iff (i := .bipush 116) (len := 2) (ax := []) (by decide +kernel))
theorem e155_134 {x : Int32} {i : Int32} {a : Nat} : mr155 S P 134 L (.int x :: .int i :: .ref a :: st) sh M c s = (mv_kst sh M a i x (mr155 S P) 135 L st c s) := propext (mv_R_iff (i := .iastore) (len := 1) (ax := []) (by decide +kernel))
theorem e155_135 {x : Int32} : mr155 S P 135 L (.int x :: st) sh M c s = (mr155 S P 136 L (.int x :: .int x :: st) sh M c s) := propext (mv_R_iff (i := .dup) (len := 1) (ax := []) (by decide +kernel))
theorem e155_135r {x : Nat} : mr155 S P 135 L (.ref x :: st) sh M c s = (mr155 S P 136 L (.ref x :: .ref x :: st) sh M c s) := propext (mv_R_iff (i := .dup) (len := 1) (ax := []) (by decide +kernel))
theorem e155_136 : mr155 S P 136 L st sh M c s = (mr155 S P 138 L (.int (nI 11) :: st) sh M c s) := propext (mv_R_iff (i := .bipush 11) (len := 2) (ax := []) (by decide +kernel))
theorem e155_138 : mr155 S P 138 L st sh M c s = (mr155 S P 140 L (.int (nI 48) :: st) sh M c s) := propext (mv_R_iff (i := .bipush 48) (len := 2) (ax := []) (by decide +kernel))
theorem e155_140 {x : Int32} {i : Int32} {a : Nat} : mr155 S P 140 L (.int x :: .int i :: .ref a :: st) sh M c s = (mv_kst sh M a i x (mr155 S P) 141 L st c s) := propext (mv_R_iff (i := .iastore) (len := 1) (ax := []) (by decide +kernel))
theorem e155_141 {x : Int32} : mr155 S P 141 L (.int x :: st) sh M c s = (mr155 S P 142 L (.int x :: .int x :: st) sh M c s) := propext (mv_R_iff (i := .dup) (len := 1) (ax := []) (by decide +kernel))
theorem e155_141r {x : Nat} : mr155 S P 141 L (.ref x :: st) sh M c s = (mr155 S P 142 L (.ref x :: .ref x :: st) sh M c s) := propext (mv_R_iff (i := .dup) (len := 1) (ax := []) (by decide +kernel))
theorem e155_142 : mr155 S P 142 L st sh M c s = (mr155 S P 144 L (.int (nI 12) :: st) sh M c s) := propext (mv_R_iff (i := .bipush 12) (len := 2) (ax := []) (by decide +kernel))
theorem e155_144 : mr155 S P 144 L st sh M c s = (mr155 S P 146 L (.int (nI 44) :: st) sh M c s) := propext (mv_R_iff (i := .bipush 44) (len := 2) (ax := []) (by decide +kernel))
theorem e155_146 {x : Int32} {i : Int32} {a : Nat} : mr155 S P 146 L (.int x :: .int i :: .ref a :: st) sh M c s = (mv_kst sh M a i x (mr155 S P) 147 L st c s) := propext (mv_R_iff (i := .iastore) (len := 1) (ax := []) (by decide +kernel))
theorem e155_147 {x : Int32} : mr155 S P 147 L (.int x :: st) sh M c s = (mr155 S P 148 L (.int x :: .int x :: st) sh M c s) := propext (mv_R_iff (i := .dup) (len := 1) (ax := []) (by decide +kernel))
theorem e155_147r {x : Nat} : mr155 S P 147 L (.ref x :: st) sh M c s = (mr155 S P 148 L (.ref x :: .ref x :: st) sh M c s) := propext (mv_R_iff (i := .dup) (len := 1) (ax := []) (by decide +kernel))
theorem e155_148 : mr155 S P 148 L st sh M c s = (mr155 S P 150 L (.int (nI 13) :: st) sh M c s) := propext (mv_R_iff (i := .bipush 13) (len := 2) (ax := []) (by decide +kernel))
theorem e155_150 : mr155 S P 150 L st sh M c s = (mr155 S P 152 L (.int (nI 49) :: st) sh M c s) := propext (mv_R_iff (i := .bipush 49) (len := 2) (ax := []) (by decide +kernel))
theorem e155_152 {x : Int32} {i : Int32} {a : Nat} : mr155 S P 152 L (.int x :: .int i :: .ref a :: st) sh M c s = (mv_kst sh M a i x (mr155 S P) 153 L st c s) := propext (mv_R_iff (i := .iastore) (len := 1) (ax := []) (by decide +kernel))
theorem e155_153 {x : Int32} : mr155 S P 153 L (.int x :: st) sh M c s = (mr155 S P 154 L (.int x :: .int x :: st) sh M c s) := propext (mv_R_iff (i := .dup) (len := 1) (ax := []) (by decide +kernel))
theorem e155_153r {x : Nat} : mr155 S P 153 L (.ref x :: st) sh M c s = (mr155 S P 154 L (.ref x :: .ref x :: st) sh M c s) := propext (mv_R_iff (i := .dup) (len := 1) (ax := []) (by decide +kernel))
theorem e155_154 : mr155 S P 154 L st sh M c s = (mr155 S P 156 L (.int (nI 14) :: st) sh M c s) := propext (mv_R_iff (i := .bipush 14) (len := 2) (ax := []) (by decide +kernel))
theorem e155_156 : mr155 S P 156 L st sh M c s = (mr155 S P 158 L (.int (nI 44) :: st) sh M c s) := propext (mv_R_iff (i := .bipush 44) (len := 2) (ax := []) (by decide +kernel))
theorem e155_158 {x : Int32} {i : Int32} {a : Nat} : mr155 S P 158 L (.int x :: .int i :: .ref a :: st) sh M c s = (mv_kst sh M a i x (mr155 S P) 159 L st c s) := propext (mv_R_iff (i := .iastore) (len := 1) (ax := []) (by decide +kernel))
theorem e155_159 {x : Int32} : mr155 S P 159 L (.int x :: st) sh M c s = (mr155 S P 160 L (.int x :: .int x :: st) sh M c s) := propext (mv_R_iff (i := .dup) (len := 1) (ax := []) (by decide +kernel))
theorem e155_159r {x : Nat} : mr155 S P 159 L (.ref x :: st) sh M c s = (mr155 S P 160 L (.ref x :: .ref x :: st) sh M c s) := propext (mv_R_iff (i := .dup) (len := 1) (ax := []) (by decide +kernel))
theorem e155_160 : mr155 S P 160 L st sh M c s = (mr155 S P 162 L (.int (nI 15) :: st) sh M c s) := propext (mv_R_iff (i := .bipush 15) (len := 2) (ax := []) (by decide +kernel))
theorem e155_162 : mr155 S P 162 L st sh M c s = (mr155 S P 164 L (.int (nI 50) :: st) sh M c s) := propext (mv_R_iff (i := .bipush 50) (len := 2) (ax := []) (by decide +kernel))
theorem e155_164 {x : Int32} {i : Int32} {a : Nat} : mr155 S P 164 L (.int x :: .int i :: .ref a :: st) sh M c s = (mv_kst sh M a i x (mr155 S P) 165 L st c s) := propext (mv_R_iff (i := .iastore) (len := 1) (ax := []) (by decide +kernel))
theorem e155_165 {x : Int32} : mr155 S P 165 L (.int x :: st) sh M c s = (mr155 S P 166 L (.int x :: .int x :: st) sh M c s) := propext (mv_R_iff (i := .dup) (len := 1) (ax := []) (by decide +kernel))
theorem e155_165r {x : Nat} : mr155 S P 165 L (.ref x :: st) sh M c s = (mr155 S P 166 L (.ref x :: .ref x :: st) sh M c s) := propext (mv_R_iff (i := .dup) (len := 1) (ax := []) (by decide +kernel))
theorem e155_166 : mr155 S P 166 L st sh M c s = (mr155 S P 168 L (.int (nI 16) :: st) sh M c s) := propext (mv_R_iff (i := .bipush 16) (len := 2) (ax := []) (by decide +kernel))
theorem e155_168 : mr155 S P 168 L st sh M c s = (mr155 S P 170 L (.int (nI 50) :: st) sh M c s) := propext (mv_R_iff (i := .bipush 50) (len := 2) (ax := []) (by decide +kernel))
theorem e155_170 {x : Int32} {i : Int32} {a : Nat} : mr155 S P 170 L (.int x :: .int i :: .ref a :: st) sh M c s = (mv_kst sh M a i x (mr155 S P) 171 L st c s) := propext (mv_R_iff (i := .iastore) (len := 1) (ax := []) (by decide +kernel))
theorem e155_171 {x : Int32} : mr155 S P 171 L (.int x :: st) sh M c s = (mr155 S P 172 L (.int x :: .int x :: st) sh M c s) := propext (mv_R_iff (i := .dup) (len := 1) (ax := []) (by decide +kernel))
theorem e155_171r {x : Nat} : mr155 S P 171 L (.ref x :: st) sh M c s = (mr155 S P 172 L (.ref x :: .ref x :: st) sh M c s) := propext (mv_R_iff (i := .dup) (len := 1) (ax := []) (by decide +kernel))
theorem e155_172 : mr155 S P 172 L st sh M c s = (mr155 S P 174 L (.int (nI 17) :: st) sh M c s) := propext (mv_R_iff (i := .bipush 17) (len := 2) (ax := []) (by decide +kernel))
theorem e155_174 : mr155 S P 174 L st sh M c s = (mr155 S P 176 L (.int (nI 51) :: st) sh M c s) := propext (mv_R_iff (i := .bipush 51) (len := 2) (ax := []) (by decide +kernel))
theorem e155_176 {x : Int32} {i : Int32} {a : Nat} : mr155 S P 176 L (.int x :: .int i :: .ref a :: st) sh M c s = (mv_kst sh M a i x (mr155 S P) 177 L st c s) := propext (mv_R_iff (i := .iastore) (len := 1) (ax := []) (by decide +kernel))
theorem e155_177 {x : Int32} : mr155 S P 177 L (.int x :: st) sh M c s = (mr155 S P 178 L (.int x :: .int x :: st) sh M c s) := propext (mv_R_iff (i := .dup) (len := 1) (ax := []) (by decide +kernel))
theorem e155_177r {x : Nat} : mr155 S P 177 L (.ref x :: st) sh M c s = (mr155 S P 178 L (.ref x :: .ref x :: st) sh M c s) := propext (mv_R_iff (i := .dup) (len := 1) (ax := []) (by decide +kernel))
theorem e155_178 : mr155 S P 178 L st sh M c s = (mr155 S P 180 L (.int (nI 18) :: st) sh M c s) := propext (mv_R_iff (i := .bipush 18) (len := 2) (ax := []) (by decide +kernel))
theorem e155_180 : mr155 S P 180 L st sh M c s = (mr155 S P 182 L (.int (nI 49) :: st) sh M c s) := propext (mv_R_iff (i := .bipush 49) (len := 2) (ax := []) (by decide +kernel))
theorem e155_182 {x : Int32} {i : Int32} {a : Nat} : mr155 S P 182 L (.int x :: .int i :: .ref a :: st) sh M c s = (mv_kst sh M a i x (mr155 S P) 183 L st c s) := propext (mv_R_iff (i := .iastore) (len := 1) (ax := []) (by decide +kernel))
theorem e155_183 {x : Int32} : mr155 S P 183 L (.int x :: st) sh M c s = (mr155 S P 184 L (.int x :: .int x :: st) sh M c s) := propext (mv_R_iff (i := .dup) (len := 1) (ax := []) (by decide +kernel))
theorem e155_183r {x : Nat} : mr155 S P 183 L (.ref x :: st) sh M c s = (mr155 S P 184 L (.ref x :: .ref x :: st) sh M c s) := propext (mv_R_iff (i := .dup) (len := 1) (ax := []) (by decide +kernel))
theorem e155_184 : mr155 S P 184 L st sh M c s = (mr155 S P 186 L (.int (nI 19) :: st) sh M c s) := propext (mv_R_iff (i := .bipush 19) (len := 2) (ax := []) (by decide +kernel))
theorem e155_186 : mr155 S P 186 L st sh M c s = (mr155 S P 188 L (.int (nI 59) :: st) sh M c s) := propext (mv_R_iff (i := .bipush 59) (len := 2) (ax := []) (by decide +kernel))
theorem e155_188 {x : Int32} {i : Int32} {a : Nat} : mr155 S P 188 L (.int x :: .int i :: .ref a :: st) sh M c s = (mv_kst sh M a i x (mr155 S P) 189 L st c s) := propext (mv_R_iff (i := .iastore) (len := 1) (ax := []) (by decide +kernel))
theorem e155_189 {x : Int32} : mr155 S P 189 L (.int x :: st) sh M c s = (mr155 S P 190 L (.int x :: .int x :: st) sh M c s) := propext (mv_R_iff (i := .dup) (len := 1) (ax := []) (by decide +kernel))
theorem e155_189r {x : Nat} : mr155 S P 189 L (.ref x :: st) sh M c s = (mr155 S P 190 L (.ref x :: .ref x :: st) sh M c s) := propext (mv_R_iff (i := .dup) (len := 1) (ax := []) (by decide +kernel))
theorem e155_190 : mr155 S P 190 L st sh M c s = (mr155 S P 192 L (.int (nI 20) :: st) sh M c s) := propext (mv_R_iff (i := .bipush 20) (len := 2) (ax := []) (by decide +kernel))
theorem e155_192 : mr155 S P 192 L st sh M c s = (mr155 S P 194 L (.int (nI 116) :: st) sh M c s) := propext (mv_R_iff (i := .bipush 116) (len := 2) (ax := []) (by decide +kernel))
theorem e155_194 {x : Int32} {i : Int32} {a : Nat} : mr155 S P 194 L (.int x :: .int i :: .ref a :: st) sh M c s = (mv_kst sh M a i x (mr155 S P) 195 L st c s) := propext (mv_R_iff (i := .iastore) (len := 1) (ax := []) (by decide +kernel))
theorem e155_195 {x : Int32} : mr155 S P 195 L (.int x :: st) sh M c s = (mr155 S P 196 L (.int x :: .int x :: st) sh M c s) := propext (mv_R_iff (i := .dup) (len := 1) (ax := []) (by decide +kernel))
theorem e155_195r {x : Nat} : mr155 S P 195 L (.ref x :: st) sh M c s = (mr155 S P 196 L (.ref x :: .ref x :: st) sh M c s) := propext (mv_R_iff (i := .dup) (len := 1) (ax := []) (by decide +kernel))
theorem e155_196 : mr155 S P 196 L st sh M c s = (mr155 S P 198 L (.int (nI 21) :: st) sh M c s) := propext (mv_R_iff (i := .bipush 21) (len := 2) (ax := []) (by decide +kernel))
theorem e155_198 : mr155 S P 198 L st sh M c s = (mr155 S P 200 L (.int (nI 49) :: st) sh M c s) := propext (mv_R_iff (i := .bipush 49) (len := 2) (ax := []) (by decide +kernel))
theorem e155_200 {x : Int32} {i : Int32} {a : Nat} : mr155 S P 200 L (.int x :: .int i :: .ref a :: st) sh M c s = (mv_kst sh M a i x (mr155 S P) 201 L st c s) := propext (mv_R_iff (i := .iastore) (len := 1) (ax := []) (by decide +kernel))
theorem e155_201 {x : Int32} : mr155 S P 201 L (.int x :: st) sh M c s = (mr155 S P 202 L (.int x :: .int x :: st) sh M c s) := propext (mv_R_iff (i := .dup) (len := 1) (ax := []) (by decide +kernel))
theorem e155_201r {x : Nat} : mr155 S P 201 L (.ref x :: st) sh M c s = (mr155 S P 202 L (.ref x :: .ref x :: st) sh M c s) := propext (mv_R_iff (i := .dup) (len := 1) (ax := []) (by decide +kernel))
theorem e155_202 : mr155 S P 202 L st sh M c s = (mr155 S P 204 L (.int (nI 22) :: st) sh M c s) := propext (mv_R_iff (i := .bipush 22) (len := 2) (ax := []) (by decide +kernel))
theorem e155_204 : mr155 S P 204 L st sh M c s = (mr155 S P 206 L (.int (nI 44) :: st) sh M c s) := propext (mv_R_iff (i := .bipush 44) (len := 2) (ax := []) (by decide +kernel))
theorem e155_206 {x : Int32} {i : Int32} {a : Nat} : mr155 S P 206 L (.int x :: .int i :: .ref a :: st) sh M c s = (mv_kst sh M a i x (mr155 S P) 207 L st c s) := propext (mv_R_iff (i := .iastore) (len := 1) (ax := []) (by decide +kernel))
theorem e155_207 {x : Int32} : mr155 S P 207 L (.int x :: st) sh M c s = (mr155 S P 208 L (.int x :: .int x :: st) sh M c s) := propext (mv_R_iff (i := .dup) (len := 1) (ax := []) (by decide +kernel))
theorem e155_207r {x : Nat} : mr155 S P 207 L (.ref x :: st) sh M c s = (mr155 S P 208 L (.ref x :: .ref x :: st) sh M c s) := propext (mv_R_iff (i := .dup) (len := 1) (ax := []) (by decide +kernel))
theorem e155_208 : mr155 S P 208 L st sh M c s = (mr155 S P 210 L (.int (nI 23) :: st) sh M c s) := propext (mv_R_iff (i := .bipush 23) (len := 2) (ax := []) (by decide +kernel))
theorem e155_210 : mr155 S P 210 L st sh M c s = (mr155 S P 212 L (.int (nI 48) :: st) sh M c s) := propext (mv_R_iff (i := .bipush 48) (len := 2) (ax := []) (by decide +kernel))
theorem e155_212 {x : Int32} {i : Int32} {a : Nat} : mr155 S P 212 L (.int x :: .int i :: .ref a :: st) sh M c s = (mv_kst sh M a i x (mr155 S P) 213 L st c s) := propext (mv_R_iff (i := .iastore) (len := 1) (ax := []) (by decide +kernel))
theorem e155_213 {x : Int32} : mr155 S P 213 L (.int x :: st) sh M c s = (mr155 S P 214 L (.int x :: .int x :: st) sh M c s) := propext (mv_R_iff (i := .dup) (len := 1) (ax := []) (by decide +kernel))
theorem e155_213r {x : Nat} : mr155 S P 213 L (.ref x :: st) sh M c s = (mr155 S P 214 L (.ref x :: .ref x :: st) sh M c s) := propext (mv_R_iff (i := .dup) (len := 1) (ax := []) (by decide +kernel))
theorem e155_214 : mr155 S P 214 L st sh M c s = (mr155 S P 216 L (.int (nI 24) :: st) sh M c s) := propext (mv_R_iff (i := .bipush 24) (len := 2) (ax := []) (by decide +kernel))
theorem e155_216 : mr155 S P 216 L st sh M c s = (mr155 S P 218 L (.int (nI 44) :: st) sh M c s) := propext (mv_R_iff (i := .bipush 44) (len := 2) (ax := []) (by decide +kernel))
theorem e155_218 {x : Int32} {i : Int32} {a : Nat} : mr155 S P 218 L (.int x :: .int i :: .ref a :: st) sh M c s = (mv_kst sh M a i x (mr155 S P) 219 L st c s) := propext (mv_R_iff (i := .iastore) (len := 1) (ax := []) (by decide +kernel))
theorem e155_219 {x : Int32} : mr155 S P 219 L (.int x :: st) sh M c s = (mr155 S P 220 L (.int x :: .int x :: st) sh M c s) := propext (mv_R_iff (i := .dup) (len := 1) (ax := []) (by decide +kernel))
theorem e155_219r {x : Nat} : mr155 S P 219 L (.ref x :: st) sh M c s = (mr155 S P 220 L (.ref x :: .ref x :: st) sh M c s) := propext (mv_R_iff (i := .dup) (len := 1) (ax := []) (by decide +kernel))
theorem e155_220 : mr155 S P 220 L st sh M c s = (mr155 S P 222 L (.int (nI 25) :: st) sh M c s) := propext (mv_R_iff (i := .bipush 25) (len := 2) (ax := []) (by decide +kernel))
theorem e155_222 : mr155 S P 222 L st sh M c s = (mr155 S P 224 L (.int (nI 49) :: st) sh M c s) := propext (mv_R_iff (i := .bipush 49) (len := 2) (ax := []) (by decide +kernel))
theorem e155_224 {x : Int32} {i : Int32} {a : Nat} : mr155 S P 224 L (.int x :: .int i :: .ref a :: st) sh M c s = (mv_kst sh M a i x (mr155 S P) 225 L st c s) := propext (mv_R_iff (i := .iastore) (len := 1) (ax := []) (by decide +kernel))
theorem e155_225 {x : Int32} : mr155 S P 225 L (.int x :: st) sh M c s = (mr155 S P 226 L (.int x :: .int x :: st) sh M c s) := propext (mv_R_iff (i := .dup) (len := 1) (ax := []) (by decide +kernel))
theorem e155_225r {x : Nat} : mr155 S P 225 L (.ref x :: st) sh M c s = (mr155 S P 226 L (.ref x :: .ref x :: st) sh M c s) := propext (mv_R_iff (i := .dup) (len := 1) (ax := []) (by decide +kernel))
theorem e155_226 : mr155 S P 226 L st sh M c s = (mr155 S P 228 L (.int (nI 26) :: st) sh M c s) := propext (mv_R_iff (i := .bipush 26) (len := 2) (ax := []) (by decide +kernel))
theorem e155_228 : mr155 S P 228 L st sh M c s = (mr155 S P 230 L (.int (nI 50) :: st) sh M c s) := propext (mv_R_iff (i := .bipush 50) (len := 2) (ax := []) (by decide +kernel))
theorem e155_230 {x : Int32} {i : Int32} {a : Nat} : mr155 S P 230 L (.int x :: .int i :: .ref a :: st) sh M c s = (mv_kst sh M a i x (mr155 S P) 231 L st c s) := propext (mv_R_iff (i := .iastore) (len := 1) (ax := []) (by decide +kernel))
theorem e155_231 {x : Int32} : mr155 S P 231 L (.int x :: st) sh M c s = (mr155 S P 232 L (.int x :: .int x :: st) sh M c s) := propext (mv_R_iff (i := .dup) (len := 1) (ax := []) (by decide +kernel))
theorem e155_231r {x : Nat} : mr155 S P 231 L (.ref x :: st) sh M c s = (mr155 S P 232 L (.ref x :: .ref x :: st) sh M c s) := propext (mv_R_iff (i := .dup) (len := 1) (ax := []) (by decide +kernel))
theorem e155_232 : mr155 S P 232 L st sh M c s = (mr155 S P 234 L (.int (nI 27) :: st) sh M c s) := propext (mv_R_iff (i := .bipush 27) (len := 2) (ax := []) (by decide +kernel))
theorem e155_234 : mr155 S P 234 L st sh M c s = (mr155 S P 236 L (.int (nI 49) :: st) sh M c s) := propext (mv_R_iff (i := .bipush 49) (len := 2) (ax := []) (by decide +kernel))
theorem e155_236 {x : Int32} {i : Int32} {a : Nat} : mr155 S P 236 L (.int x :: .int i :: .ref a :: st) sh M c s = (mv_kst sh M a i x (mr155 S P) 237 L st c s) := propext (mv_R_iff (i := .iastore) (len := 1) (ax := []) (by decide +kernel))
theorem e155_237 {x : Int32} : mr155 S P 237 L (.int x :: st) sh M c s = (mr155 S P 238 L (.int x :: .int x :: st) sh M c s) := propext (mv_R_iff (i := .dup) (len := 1) (ax := []) (by decide +kernel))
theorem e155_237r {x : Nat} : mr155 S P 237 L (.ref x :: st) sh M c s = (mr155 S P 238 L (.ref x :: .ref x :: st) sh M c s) := propext (mv_R_iff (i := .dup) (len := 1) (ax := []) (by decide +kernel))
theorem e155_238 : mr155 S P 238 L st sh M c s = (mr155 S P 240 L (.int (nI 28) :: st) sh M c s) := propext (mv_R_iff (i := .bipush 28) (len := 2) (ax := []) (by decide +kernel))
theorem e155_240 : mr155 S P 240 L st sh M c s = (mr155 S P 242 L (.int (nI 50) :: st) sh M c s) := propext (mv_R_iff (i := .bipush 50) (len := 2) (ax := []) (by decide +kernel))
theorem e155_242 {x : Int32} {i : Int32} {a : Nat} : mr155 S P 242 L (.int x :: .int i :: .ref a :: st) sh M c s = (mv_kst sh M a i x (mr155 S P) 243 L st c s) := propext (mv_R_iff (i := .iastore) (len := 1) (ax := []) (by decide +kernel))
theorem e155_243 {x : Int32} : mr155 S P 243 L (.int x :: st) sh M c s = (mr155 S P 244 L (.int x :: .int x :: st) sh M c s) := propext (mv_R_iff (i := .dup) (len := 1) (ax := []) (by decide +kernel))
theorem e155_243r {x : Nat} : mr155 S P 243 L (.ref x :: st) sh M c s = (mr155 S P 244 L (.ref x :: .ref x :: st) sh M c s) := propext (mv_R_iff (i := .dup) (len := 1) (ax := []) (by decide +kernel))
theorem e155_244 : mr155 S P 244 L st sh M c s = (mr155 S P 246 L (.int (nI 29) :: st) sh M c s) := propext (mv_R_iff (i := .bipush 29) (len := 2) (ax := []) (by decide +kernel))
theorem e155_246 : mr155 S P 246 L st sh M c s = (mr155 S P 248 L (.int (nI 59) :: st) sh M c s) := propext (mv_R_iff (i := .bipush 59) (len := 2) (ax := []) (by decide +kernel))
theorem e155_248 {x : Int32} {i : Int32} {a : Nat} : mr155 S P 248 L (.int x :: .int i :: .ref a :: st) sh M c s = (mv_kst sh M a i x (mr155 S P) 249 L st c s) := propext (mv_R_iff (i := .iastore) (len := 1) (ax := []) (by decide +kernel))
theorem e155_249 {x : Int32} : mr155 S P 249 L (.int x :: st) sh M c s = (mr155 S P 250 L (.int x :: .int x :: st) sh M c s) := propext (mv_R_iff (i := .dup) (len := 1) (ax := []) (by decide +kernel))
theorem e155_249r {x : Nat} : mr155 S P 249 L (.ref x :: st) sh M c s = (mr155 S P 250 L (.ref x :: .ref x :: st) sh M c s) := propext (mv_R_iff (i := .dup) (len := 1) (ax := []) (by decide +kernel))
theorem e155_250 : mr155 S P 250 L st sh M c s = (mr155 S P 252 L (.int (nI 30) :: st) sh M c s) := propext (mv_R_iff (i := .bipush 30) (len := 2) (ax := []) (by decide +kernel))
theorem e155_252 : mr155 S P 252 L st sh M c s = (mr155 S P 254 L (.int (nI 116) :: st) sh M c s) := propext (mv_R_iff (i := .bipush 116) (len := 2) (ax := []) (by decide +kernel))
theorem e155_254 {x : Int32} {i : Int32} {a : Nat} : mr155 S P 254 L (.int x :: .int i :: .ref a :: st) sh M c s = (mv_kst sh M a i x (mr155 S P) 255 L st c s) := propext (mv_R_iff (i := .iastore) (len := 1) (ax := []) (by decide +kernel))
theorem e155_255 {x : Int32} : mr155 S P 255 L (.int x :: st) sh M c s = (mr155 S P 256 L (.int x :: .int x :: st) sh M c s) := propext (mv_R_iff (i := .dup) (len := 1) (ax := []) (by decide +kernel))
theorem e155_255r {x : Nat} : mr155 S P 255 L (.ref x :: st) sh M c s = (mr155 S P 256 L (.ref x :: .ref x :: st) sh M c s) := propext (mv_R_iff (i := .dup) (len := 1) (ax := []) (by decide +kernel))
theorem e155_256 : mr155 S P 256 L st sh M c s = (mr155 S P 258 L (.int (nI 31) :: st) sh M c s) := propext (mv_R_iff (i := .bipush 31) (len := 2) (ax := []) (by decide +kernel))
theorem e155_258 : mr155 S P 258 L st sh M c s = (mr155 S P 260 L (.int (nI 50) :: st) sh M c s) := propext (mv_R_iff (i := .bipush 50) (len := 2) (ax := []) (by decide +kernel))
theorem e155_260 {x : Int32} {i : Int32} {a : Nat} : mr155 S P 260 L (.int x :: .int i :: .ref a :: st) sh M c s = (mv_kst sh M a i x (mr155 S P) 261 L st c s) := propext (mv_R_iff (i := .iastore) (len := 1) (ax := []) (by decide +kernel))
theorem e155_261 {x : Int32} : mr155 S P 261 L (.int x :: st) sh M c s = (mr155 S P 262 L (.int x :: .int x :: st) sh M c s) := propext (mv_R_iff (i := .dup) (len := 1) (ax := []) (by decide +kernel))
theorem e155_261r {x : Nat} : mr155 S P 261 L (.ref x :: st) sh M c s = (mr155 S P 262 L (.ref x :: .ref x :: st) sh M c s) := propext (mv_R_iff (i := .dup) (len := 1) (ax := []) (by decide +kernel))
theorem e155_262 : mr155 S P 262 L st sh M c s = (mr155 S P 264 L (.int (nI 32) :: st) sh M c s) := propext (mv_R_iff (i := .bipush 32) (len := 2) (ax := []) (by decide +kernel))
theorem e155_264 : mr155 S P 264 L st sh M c s = (mr155 S P 266 L (.int (nI 44) :: st) sh M c s) := propext (mv_R_iff (i := .bipush 44) (len := 2) (ax := []) (by decide +kernel))
theorem e155_266 {x : Int32} {i : Int32} {a : Nat} : mr155 S P 266 L (.int x :: .int i :: .ref a :: st) sh M c s = (mv_kst sh M a i x (mr155 S P) 267 L st c s) := propext (mv_R_iff (i := .iastore) (len := 1) (ax := []) (by decide +kernel))
theorem e155_267 {x : Int32} : mr155 S P 267 L (.int x :: st) sh M c s = (mr155 S P 268 L (.int x :: .int x :: st) sh M c s) := propext (mv_R_iff (i := .dup) (len := 1) (ax := []) (by decide +kernel))
theorem e155_267r {x : Nat} : mr155 S P 267 L (.ref x :: st) sh M c s = (mr155 S P 268 L (.ref x :: .ref x :: st) sh M c s) := propext (mv_R_iff (i := .dup) (len := 1) (ax := []) (by decide +kernel))
theorem e155_268 : mr155 S P 268 L st sh M c s = (mr155 S P 270 L (.int (nI 33) :: st) sh M c s) := propext (mv_R_iff (i := .bipush 33) (len := 2) (ax := []) (by decide +kernel))
theorem e155_270 : mr155 S P 270 L st sh M c s = (mr155 S P 272 L (.int (nI 49) :: st) sh M c s) := propext (mv_R_iff (i := .bipush 49) (len := 2) (ax := []) (by decide +kernel))
theorem e155_272 {x : Int32} {i : Int32} {a : Nat} : mr155 S P 272 L (.int x :: .int i :: .ref a :: st) sh M c s = (mv_kst sh M a i x (mr155 S P) 273 L st c s) := propext (mv_R_iff (i := .iastore) (len := 1) (ax := []) (by decide +kernel))
theorem e155_273 {x : Int32} : mr155 S P 273 L (.int x :: st) sh M c s = (mr155 S P 274 L (.int x :: .int x :: st) sh M c s) := propext (mv_R_iff (i := .dup) (len := 1) (ax := []) (by decide +kernel))
theorem e155_273r {x : Nat} : mr155 S P 273 L (.ref x :: st) sh M c s = (mr155 S P 274 L (.ref x :: .ref x :: st) sh M c s) := propext (mv_R_iff (i := .dup) (len := 1) (ax := []) (by decide +kernel))
theorem e155_274 : mr155 S P 274 L st sh M c s = (mr155 S P 276 L (.int (nI 34) :: st) sh M c s) := propext (mv_R_iff (i := .bipush 34) (len := 2) (ax := []) (by decide +kernel))
theorem e155_276 : mr155 S P 276 L st sh M c s = (mr155 S P 278 L (.int (nI 44) :: st) sh M c s) := propext (mv_R_iff (i := .bipush 44) (len := 2) (ax := []) (by decide +kernel))
theorem e155_278 {x : Int32} {i : Int32} {a : Nat} : mr155 S P 278 L (.int x :: .int i :: .ref a :: st) sh M c s = (mv_kst sh M a i x (mr155 S P) 279 L st c s) := propext (mv_R_iff (i := .iastore) (len := 1) (ax := []) (by decide +kernel))
theorem e155_279 {x : Int32} : mr155 S P 279 L (.int x :: st) sh M c s = (mr155 S P 280 L (.int x :: .int x :: st) sh M c s) := propext (mv_R_iff (i := .dup) (len := 1) (ax := []) (by decide +kernel))
theorem e155_279r {x : Nat} : mr155 S P 279 L (.ref x :: st) sh M c s = (mr155 S P 280 L (.ref x :: .ref x :: st) sh M c s) := propext (mv_R_iff (i := .dup) (len := 1) (ax := []) (by decide +kernel))
theorem e155_280 : mr155 S P 280 L st sh M c s = (mr155 S P 282 L (.int (nI 35) :: st) sh M c s) := propext (mv_R_iff (i := .bipush 35) (len := 2) (ax := []) (by decide +kernel))
theorem e155_282 : mr155 S P 282 L st sh M c s = (mr155 S P 284 L (.int (nI 51) :: st) sh M c s) := propext (mv_R_iff (i := .bipush 51) (len := 2) (ax := []) (by decide +kernel))
theorem e155_284 {x : Int32} {i : Int32} {a : Nat} : mr155 S P 284 L (.int x :: .int i :: .ref a :: st) sh M c s = (mv_kst sh M a i x (mr155 S P) 285 L st c s) := propext (mv_R_iff (i := .iastore) (len := 1) (ax := []) (by decide +kernel))
theorem e155_285 {x : Int32} : mr155 S P 285 L (.int x :: st) sh M c s = (mr155 S P 286 L (.int x :: .int x :: st) sh M c s) := propext (mv_R_iff (i := .dup) (len := 1) (ax := []) (by decide +kernel))
theorem e155_285r {x : Nat} : mr155 S P 285 L (.ref x :: st) sh M c s = (mr155 S P 286 L (.ref x :: .ref x :: st) sh M c s) := propext (mv_R_iff (i := .dup) (len := 1) (ax := []) (by decide +kernel))
theorem e155_286 : mr155 S P 286 L st sh M c s = (mr155 S P 288 L (.int (nI 36) :: st) sh M c s) := propext (mv_R_iff (i := .bipush 36) (len := 2) (ax := []) (by decide +kernel))
theorem e155_288 : mr155 S P 288 L st sh M c s = (mr155 S P 290 L (.int (nI 51) :: st) sh M c s) := propext (mv_R_iff (i := .bipush 51) (len := 2) (ax := []) (by decide +kernel))
theorem e155_290 {x : Int32} {i : Int32} {a : Nat} : mr155 S P 290 L (.int x :: .int i :: .ref a :: st) sh M c s = (mv_kst sh M a i x (mr155 S P) 291 L st c s) := propext (mv_R_iff (i := .iastore) (len := 1) (ax := []) (by decide +kernel))
theorem e155_291 {x : Int32} : mr155 S P 291 L (.int x :: st) sh M c s = (mr155 S P 292 L (.int x :: .int x :: st) sh M c s) := propext (mv_R_iff (i := .dup) (len := 1) (ax := []) (by decide +kernel))
theorem e155_291r {x : Nat} : mr155 S P 291 L (.ref x :: st) sh M c s = (mr155 S P 292 L (.ref x :: .ref x :: st) sh M c s) := propext (mv_R_iff (i := .dup) (len := 1) (ax := []) (by decide +kernel))
theorem e155_292 : mr155 S P 292 L st sh M c s = (mr155 S P 294 L (.int (nI 37) :: st) sh M c s) := propext (mv_R_iff (i := .bipush 37) (len := 2) (ax := []) (by decide +kernel))
theorem e155_294 : mr155 S P 294 L st sh M c s = (mr155 S P 296 L (.int (nI 49) :: st) sh M c s) := propext (mv_R_iff (i := .bipush 49) (len := 2) (ax := []) (by decide +kernel))
theorem e155_296 {x : Int32} {i : Int32} {a : Nat} : mr155 S P 296 L (.int x :: .int i :: .ref a :: st) sh M c s = (mv_kst sh M a i x (mr155 S P) 297 L st c s) := propext (mv_R_iff (i := .iastore) (len := 1) (ax := []) (by decide +kernel))
theorem e155_297 {x : Int32} : mr155 S P 297 L (.int x :: st) sh M c s = (mr155 S P 298 L (.int x :: .int x :: st) sh M c s) := propext (mv_R_iff (i := .dup) (len := 1) (ax := []) (by decide +kernel))
theorem e155_297r {x : Nat} : mr155 S P 297 L (.ref x :: st) sh M c s = (mr155 S P 298 L (.ref x :: .ref x :: st) sh M c s) := propext (mv_R_iff (i := .dup) (len := 1) (ax := []) (by decide +kernel))
theorem e155_298 : mr155 S P 298 L st sh M c s = (mr155 S P 300 L (.int (nI 38) :: st) sh M c s) := propext (mv_R_iff (i := .bipush 38) (len := 2) (ax := []) (by decide +kernel))
theorem e155_300 : mr155 S P 300 L st sh M c s = (mr155 S P 302 L (.int (nI 50) :: st) sh M c s) := propext (mv_R_iff (i := .bipush 50) (len := 2) (ax := []) (by decide +kernel))
theorem e155_302 {x : Int32} {i : Int32} {a : Nat} : mr155 S P 302 L (.int x :: .int i :: .ref a :: st) sh M c s = (mv_kst sh M a i x (mr155 S P) 303 L st c s) := propext (mv_R_iff (i := .iastore) (len := 1) (ax := []) (by decide +kernel))
theorem e155_303 {x : Int32} : mr155 S P 303 L (.int x :: st) sh M c s = (mr155 S P 304 L (.int x :: .int x :: st) sh M c s) := propext (mv_R_iff (i := .dup) (len := 1) (ax := []) (by decide +kernel))
theorem e155_303r {x : Nat} : mr155 S P 303 L (.ref x :: st) sh M c s = (mr155 S P 304 L (.ref x :: .ref x :: st) sh M c s) := propext (mv_R_iff (i := .dup) (len := 1) (ax := []) (by decide +kernel))
theorem e155_304 : mr155 S P 304 L st sh M c s = (mr155 S P 306 L (.int (nI 39) :: st) sh M c s) := propext (mv_R_iff (i := .bipush 39) (len := 2) (ax := []) (by decide +kernel))
theorem e155_306 : mr155 S P 306 L st sh M c s = (mr155 S P 308 L (.int (nI 59) :: st) sh M c s) := propext (mv_R_iff (i := .bipush 59) (len := 2) (ax := []) (by decide +kernel))
theorem e155_308 {x : Int32} {i : Int32} {a : Nat} : mr155 S P 308 L (.int x :: .int i :: .ref a :: st) sh M c s = (mv_kst sh M a i x (mr155 S P) 309 L st c s) := propext (mv_R_iff (i := .iastore) (len := 1) (ax := []) (by decide +kernel))
theorem e155_309 {x : Int32} : mr155 S P 309 L (.int x :: st) sh M c s = (mr155 S P 310 L (.int x :: .int x :: st) sh M c s) := propext (mv_R_iff (i := .dup) (len := 1) (ax := []) (by decide +kernel))
theorem e155_309r {x : Nat} : mr155 S P 309 L (.ref x :: st) sh M c s = (mr155 S P 310 L (.ref x :: .ref x :: st) sh M c s) := propext (mv_R_iff (i := .dup) (len := 1) (ax := []) (by decide +kernel))
theorem e155_310 : mr155 S P 310 L st sh M c s = (mr155 S P 312 L (.int (nI 40) :: st) sh M c s) := propext (mv_R_iff (i := .bipush 40) (len := 2) (ax := []) (by decide +kernel))
theorem e155_312 : mr155 S P 312 L st sh M c s = (mr155 S P 314 L (.int (nI 116) :: st) sh M c s) := propext (mv_R_iff (i := .bipush 116) (len := 2) (ax := []) (by decide +kernel))
theorem e155_314 {x : Int32} {i : Int32} {a : Nat} : mr155 S P 314 L (.int x :: .int i :: .ref a :: st) sh M c s = (mv_kst sh M a i x (mr155 S P) 315 L st c s) := propext (mv_R_iff (i := .iastore) (len := 1) (ax := []) (by decide +kernel))
theorem e155_315 {x : Int32} : mr155 S P 315 L (.int x :: st) sh M c s = (mr155 S P 316 L (.int x :: .int x :: st) sh M c s) := propext (mv_R_iff (i := .dup) (len := 1) (ax := []) (by decide +kernel))
theorem e155_315r {x : Nat} : mr155 S P 315 L (.ref x :: st) sh M c s = (mr155 S P 316 L (.ref x :: .ref x :: st) sh M c s) := propext (mv_R_iff (i := .dup) (len := 1) (ax := []) (by decide +kernel))
theorem e155_316 : mr155 S P 316 L st sh M c s = (mr155 S P 318 L (.int (nI 41) :: st) sh M c s) := propext (mv_R_iff (i := .bipush 41) (len := 2) (ax := []) (by decide +kernel))
theorem e155_318 : mr155 S P 318 L st sh M c s = (mr155 S P 320 L (.int (nI 48) :: st) sh M c s) := propext (mv_R_iff (i := .bipush 48) (len := 2) (ax := []) (by decide +kernel))
theorem e155_320 {x : Int32} {i : Int32} {a : Nat} : mr155 S P 320 L (.int x :: .int i :: .ref a :: st) sh M c s = (mv_kst sh M a i x (mr155 S P) 321 L st c s) := propext (mv_R_iff (i := .iastore) (len := 1) (ax := []) (by decide +kernel))
theorem e155_321 {x : Int32} : mr155 S P 321 L (.int x :: st) sh M c s = (mr155 S P 322 L (.int x :: .int x :: st) sh M c s) := propext (mv_R_iff (i := .dup) (len := 1) (ax := []) (by decide +kernel))
theorem e155_321r {x : Nat} : mr155 S P 321 L (.ref x :: st) sh M c s = (mr155 S P 322 L (.ref x :: .ref x :: st) sh M c s) := propext (mv_R_iff (i := .dup) (len := 1) (ax := []) (by decide +kernel))
theorem e155_322 : mr155 S P 322 L st sh M c s = (mr155 S P 324 L (.int (nI 42) :: st) sh M c s) := propext (mv_R_iff (i := .bipush 42) (len := 2) (ax := []) (by decide +kernel))
theorem e155_324 : mr155 S P 324 L st sh M c s = (mr155 S P 326 L (.int (nI 44) :: st) sh M c s) := propext (mv_R_iff (i := .bipush 44) (len := 2) (ax := []) (by decide +kernel))
theorem e155_326 {x : Int32} {i : Int32} {a : Nat} : mr155 S P 326 L (.int x :: .int i :: .ref a :: st) sh M c s = (mv_kst sh M a i x (mr155 S P) 327 L st c s) := propext (mv_R_iff (i := .iastore) (len := 1) (ax := []) (by decide +kernel))
theorem e155_327 {x : Int32} : mr155 S P 327 L (.int x :: st) sh M c s = (mr155 S P 328 L (.int x :: .int x :: st) sh M c s) := propext (mv_R_iff (i := .dup) (len := 1) (ax := []) (by decide +kernel))
theorem e155_327r {x : Nat} : mr155 S P 327 L (.ref x :: st) sh M c s = (mr155 S P 328 L (.ref x :: .ref x :: st) sh M c s) := propext (mv_R_iff (i := .dup) (len := 1) (ax := []) (by decide +kernel))
theorem e155_328 : mr155 S P 328 L st sh M c s = (mr155 S P 330 L (.int (nI 43) :: st) sh M c s) := propext (mv_R_iff (i := .bipush 43) (len := 2) (ax := []) (by decide +kernel))
theorem e155_330 : mr155 S P 330 L st sh M c s = (mr155 S P 332 L (.int (nI 48) :: st) sh M c s) := propext (mv_R_iff (i := .bipush 48) (len := 2) (ax := []) (by decide +kernel))
theorem e155_332 {x : Int32} {i : Int32} {a : Nat} : mr155 S P 332 L (.int x :: .int i :: .ref a :: st) sh M c s = (mv_kst sh M a i x (mr155 S P) 333 L st c s) := propext (mv_R_iff (i := .iastore) (len := 1) (ax := []) (by decide +kernel))
theorem e155_333 {x : Int32} : mr155 S P 333 L (.int x :: st) sh M c s = (mr155 S P 334 L (.int x :: .int x :: st) sh M c s) := propext (mv_R_iff (i := .dup) (len := 1) (ax := []) (by decide +kernel))
theorem e155_333r {x : Nat} : mr155 S P 333 L (.ref x :: st) sh M c s = (mr155 S P 334 L (.ref x :: .ref x :: st) sh M c s) := propext (mv_R_iff (i := .dup) (len := 1) (ax := []) (by decide +kernel))
theorem e155_334 : mr155 S P 334 L st sh M c s = (mr155 S P 336 L (.int (nI 44) :: st) sh M c s) := propext (mv_R_iff (i := .bipush 44) (len := 2) (ax := []) (by decide +kernel))
theorem e155_336 : mr155 S P 336 L st sh M c s = (mr155 S P 338 L (.int (nI 44) :: st) sh M c s) := propext (mv_R_iff (i := .bipush 44) (len := 2) (ax := []) (by decide +kernel))
theorem e155_338 {x : Int32} {i : Int32} {a : Nat} : mr155 S P 338 L (.int x :: .int i :: .ref a :: st) sh M c s = (mv_kst sh M a i x (mr155 S P) 339 L st c s) := propext (mv_R_iff (i := .iastore) (len := 1) (ax := []) (by decide +kernel))
theorem e155_339 {x : Int32} : mr155 S P 339 L (.int x :: st) sh M c s = (mr155 S P 340 L (.int x :: .int x :: st) sh M c s) := propext (mv_R_iff (i := .dup) (len := 1) (ax := []) (by decide +kernel))
theorem e155_339r {x : Nat} : mr155 S P 339 L (.ref x :: st) sh M c s = (mr155 S P 340 L (.ref x :: .ref x :: st) sh M c s) := propext (mv_R_iff (i := .dup) (len := 1) (ax := []) (by decide +kernel))
theorem e155_340 : mr155 S P 340 L st sh M c s = (mr155 S P 342 L (.int (nI 45) :: st) sh M c s) := propext (mv_R_iff (i := .bipush 45) (len := 2) (ax := []) (by decide +kernel))
theorem e155_342 : mr155 S P 342 L st sh M c s = (mr155 S P 344 L (.int (nI 49) :: st) sh M c s) := propext (mv_R_iff (i := .bipush 49) (len := 2) (ax := []) (by decide +kernel))
theorem e155_344 {x : Int32} {i : Int32} {a : Nat} : mr155 S P 344 L (.int x :: .int i :: .ref a :: st) sh M c s = (mv_kst sh M a i x (mr155 S P) 345 L st c s) := propext (mv_R_iff (i := .iastore) (len := 1) (ax := []) (by decide +kernel))
theorem e155_345 {x : Int32} : mr155 S P 345 L (.int x :: st) sh M c s = (mr155 S P 346 L (.int x :: .int x :: st) sh M c s) := propext (mv_R_iff (i := .dup) (len := 1) (ax := []) (by decide +kernel))
theorem e155_345r {x : Nat} : mr155 S P 345 L (.ref x :: st) sh M c s = (mr155 S P 346 L (.ref x :: .ref x :: st) sh M c s) := propext (mv_R_iff (i := .dup) (len := 1) (ax := []) (by decide +kernel))
theorem e155_346 : mr155 S P 346 L st sh M c s = (mr155 S P 348 L (.int (nI 46) :: st) sh M c s) := propext (mv_R_iff (i := .bipush 46) (len := 2) (ax := []) (by decide +kernel))
theorem e155_348 : mr155 S P 348 L st sh M c s = (mr155 S P 350 L (.int (nI 50) :: st) sh M c s) := propext (mv_R_iff (i := .bipush 50) (len := 2) (ax := []) (by decide +kernel))
theorem e155_350 {x : Int32} {i : Int32} {a : Nat} : mr155 S P 350 L (.int x :: .int i :: .ref a :: st) sh M c s = (mv_kst sh M a i x (mr155 S P) 351 L st c s) := propext (mv_R_iff (i := .iastore) (len := 1) (ax := []) (by decide +kernel))
theorem e155_351 {x : Int32} : mr155 S P 351 L (.int x :: st) sh M c s = (mr155 S P 352 L (.int x :: .int x :: st) sh M c s) := propext (mv_R_iff (i := .dup) (len := 1) (ax := []) (by decide +kernel))
theorem e155_351r {x : Nat} : mr155 S P 351 L (.ref x :: st) sh M c s = (mr155 S P 352 L (.ref x :: .ref x :: st) sh M c s) := propext (mv_R_iff (i := .dup) (len := 1) (ax := []) (by decide +kernel))
theorem e155_352 : mr155 S P 352 L st sh M c s = (mr155 S P 354 L (.int (nI 47) :: st) sh M c s) := propext (mv_R_iff (i := .bipush 47) (len := 2) (ax := []) (by decide +kernel))
theorem e155_354 : mr155 S P 354 L st sh M c s = (mr155 S P 356 L (.int (nI 51) :: st) sh M c s) := propext (mv_R_iff (i := .bipush 51) (len := 2) (ax := []) (by decide +kernel))
theorem e155_356 {x : Int32} {i : Int32} {a : Nat} : mr155 S P 356 L (.int x :: .int i :: .ref a :: st) sh M c s = (mv_kst sh M a i x (mr155 S P) 357 L st c s) := propext (mv_R_iff (i := .iastore) (len := 1) (ax := []) (by decide +kernel))
theorem e155_357 {x : Int32} : mr155 S P 357 L (.int x :: st) sh M c s = (mr155 S P 358 L (.int x :: .int x :: st) sh M c s) := propext (mv_R_iff (i := .dup) (len := 1) (ax := []) (by decide +kernel))
theorem e155_357r {x : Nat} : mr155 S P 357 L (.ref x :: st) sh M c s = (mr155 S P 358 L (.ref x :: .ref x :: st) sh M c s) := propext (mv_R_iff (i := .dup) (len := 1) (ax := []) (by decide +kernel))
theorem e155_358 : mr155 S P 358 L st sh M c s = (mr155 S P 360 L (.int (nI 48) :: st) sh M c s) := propext (mv_R_iff (i := .bipush 48) (len := 2) (ax := []) (by decide +kernel))
theorem e155_360 : mr155 S P 360 L st sh M c s = (mr155 S P 362 L (.int (nI 49) :: st) sh M c s) := propext (mv_R_iff (i := .bipush 49) (len := 2) (ax := []) (by decide +kernel))
theorem e155_362 {x : Int32} {i : Int32} {a : Nat} : mr155 S P 362 L (.int x :: .int i :: .ref a :: st) sh M c s = (mv_kst sh M a i x (mr155 S P) 363 L st c s) := propext (mv_R_iff (i := .iastore) (len := 1) (ax := []) (by decide +kernel))
theorem e155_363 {x : Int32} : mr155 S P 363 L (.int x :: st) sh M c s = (mr155 S P 364 L (.int x :: .int x :: st) sh M c s) := propext (mv_R_iff (i := .dup) (len := 1) (ax := []) (by decide +kernel))
theorem e155_363r {x : Nat} : mr155 S P 363 L (.ref x :: st) sh M c s = (mr155 S P 364 L (.ref x :: .ref x :: st) sh M c s) := propext (mv_R_iff (i := .dup) (len := 1) (ax := []) (by decide +kernel))
theorem e155_364 : mr155 S P 364 L st sh M c s = (mr155 S P 366 L (.int (nI 49) :: st) sh M c s) := propext (mv_R_iff (i := .bipush 49) (len := 2) (ax := []) (by decide +kernel))
theorem e155_366 : mr155 S P 366 L st sh M c s = (mr155 S P 368 L (.int (nI 59) :: st) sh M c s) := propext (mv_R_iff (i := .bipush 59) (len := 2) (ax := []) (by decide +kernel))
theorem e155_368 {x : Int32} {i : Int32} {a : Nat} : mr155 S P 368 L (.int x :: .int i :: .ref a :: st) sh M c s = (mv_kst sh M a i x (mr155 S P) 369 L st c s) := propext (mv_R_iff (i := .iastore) (len := 1) (ax := []) (by decide +kernel))
theorem e155_369 {x : Int32} : mr155 S P 369 L (.int x :: st) sh M c s = (mr155 S P 370 L (.int x :: .int x :: st) sh M c s) := propext (mv_R_iff (i := .dup) (len := 1) (ax := []) (by decide +kernel))
theorem e155_369r {x : Nat} : mr155 S P 369 L (.ref x :: st) sh M c s = (mr155 S P 370 L (.ref x :: .ref x :: st) sh M c s) := propext (mv_R_iff (i := .dup) (len := 1) (ax := []) (by decide +kernel))
theorem e155_370 : mr155 S P 370 L st sh M c s = (mr155 S P 372 L (.int (nI 50) :: st) sh M c s) := propext (mv_R_iff (i := .bipush 50) (len := 2) (ax := []) (by decide +kernel))
theorem e155_372 : mr155 S P 372 L st sh M c s = (mr155 S P 374 L (.int (nI 116) :: st) sh M c s) := propext (mv_R_iff (i := .bipush 116) (len := 2) (ax := []) (by decide +kernel))
theorem e155_374 {x : Int32} {i : Int32} {a : Nat} : mr155 S P 374 L (.int x :: .int i :: .ref a :: st) sh M c s = (mv_kst sh M a i x (mr155 S P) 375 L st c s) := propext (mv_R_iff (i := .iastore) (len := 1) (ax := []) (by decide +kernel))
theorem e155_375 {x : Int32} : mr155 S P 375 L (.int x :: st) sh M c s = (mr155 S P 376 L (.int x :: .int x :: st) sh M c s) := propext (mv_R_iff (i := .dup) (len := 1) (ax := []) (by decide +kernel))
theorem e155_375r {x : Nat} : mr155 S P 375 L (.ref x :: st) sh M c s = (mr155 S P 376 L (.ref x :: .ref x :: st) sh M c s) := propext (mv_R_iff (i := .dup) (len := 1) (ax := []) (by decide +kernel))
theorem e155_376 : mr155 S P 376 L st sh M c s = (mr155 S P 378 L (.int (nI 51) :: st) sh M c s) := propext (mv_R_iff (i := .bipush 51) (len := 2) (ax := []) (by decide +kernel))
theorem e155_378 : mr155 S P 378 L st sh M c s = (mr155 S P 380 L (.int (nI 51) :: st) sh M c s) := propext (mv_R_iff (i := .bipush 51) (len := 2) (ax := []) (by decide +kernel))
theorem e155_380 {x : Int32} {i : Int32} {a : Nat} : mr155 S P 380 L (.int x :: .int i :: .ref a :: st) sh M c s = (mv_kst sh M a i x (mr155 S P) 381 L st c s) := propext (mv_R_iff (i := .iastore) (len := 1) (ax := []) (by decide +kernel))
theorem e155_381 {x : Int32} : mr155 S P 381 L (.int x :: st) sh M c s = (mr155 S P 382 L (.int x :: .int x :: st) sh M c s) := propext (mv_R_iff (i := .dup) (len := 1) (ax := []) (by decide +kernel))
theorem e155_381r {x : Nat} : mr155 S P 381 L (.ref x :: st) sh M c s = (mr155 S P 382 L (.ref x :: .ref x :: st) sh M c s) := propext (mv_R_iff (i := .dup) (len := 1) (ax := []) (by decide +kernel))
theorem e155_382 : mr155 S P 382 L st sh M c s = (mr155 S P 384 L (.int (nI 52) :: st) sh M c s) := propext (mv_R_iff (i := .bipush 52) (len := 2) (ax := []) (by decide +kernel))
theorem e155_384 : mr155 S P 384 L st sh M c s = (mr155 S P 386 L (.int (nI 44) :: st) sh M c s) := propext (mv_R_iff (i := .bipush 44) (len := 2) (ax := []) (by decide +kernel))
theorem e155_386 {x : Int32} {i : Int32} {a : Nat} : mr155 S P 386 L (.int x :: .int i :: .ref a :: st) sh M c s = (mv_kst sh M a i x (mr155 S P) 387 L st c s) := propext (mv_R_iff (i := .iastore) (len := 1) (ax := []) (by decide +kernel))
theorem e155_387 {x : Int32} : mr155 S P 387 L (.int x :: st) sh M c s = (mr155 S P 388 L (.int x :: .int x :: st) sh M c s) := propext (mv_R_iff (i := .dup) (len := 1) (ax := []) (by decide +kernel))
theorem e155_387r {x : Nat} : mr155 S P 387 L (.ref x :: st) sh M c s = (mr155 S P 388 L (.ref x :: .ref x :: st) sh M c s) := propext (mv_R_iff (i := .dup) (len := 1) (ax := []) (by decide +kernel))
theorem e155_388 : mr155 S P 388 L st sh M c s = (mr155 S P 390 L (.int (nI 53) :: st) sh M c s) := propext (mv_R_iff (i := .bipush 53) (len := 2) (ax := []) (by decide +kernel))
theorem e155_390 : mr155 S P 390 L st sh M c s = (mr155 S P 392 L (.int (nI 49) :: st) sh M c s) := propext (mv_R_iff (i := .bipush 49) (len := 2) (ax := []) (by decide +kernel))
theorem e155_392 {x : Int32} {i : Int32} {a : Nat} : mr155 S P 392 L (.int x :: .int i :: .ref a :: st) sh M c s = (mv_kst sh M a i x (mr155 S P) 393 L st c s) := propext (mv_R_iff (i := .iastore) (len := 1) (ax := []) (by decide +kernel))
theorem e155_393 {x : Int32} : mr155 S P 393 L (.int x :: st) sh M c s = (mr155 S P 394 L (.int x :: .int x :: st) sh M c s) := propext (mv_R_iff (i := .dup) (len := 1) (ax := []) (by decide +kernel))
theorem e155_393r {x : Nat} : mr155 S P 393 L (.ref x :: st) sh M c s = (mr155 S P 394 L (.ref x :: .ref x :: st) sh M c s) := propext (mv_R_iff (i := .dup) (len := 1) (ax := []) (by decide +kernel))
theorem e155_394 : mr155 S P 394 L st sh M c s = (mr155 S P 396 L (.int (nI 54) :: st) sh M c s) := propext (mv_R_iff (i := .bipush 54) (len := 2) (ax := []) (by decide +kernel))
theorem e155_396 : mr155 S P 396 L st sh M c s = (mr155 S P 398 L (.int (nI 44) :: st) sh M c s) := propext (mv_R_iff (i := .bipush 44) (len := 2) (ax := []) (by decide +kernel))
theorem e155_398 {x : Int32} {i : Int32} {a : Nat} : mr155 S P 398 L (.int x :: .int i :: .ref a :: st) sh M c s = (mv_kst sh M a i x (mr155 S P) 399 L st c s) := propext (mv_R_iff (i := .iastore) (len := 1) (ax := []) (by decide +kernel))
theorem e155_399 {x : Int32} : mr155 S P 399 L (.int x :: st) sh M c s = (mr155 S P 400 L (.int x :: .int x :: st) sh M c s) := propext (mv_R_iff (i := .dup) (len := 1) (ax := []) (by decide +kernel))
theorem e155_399r {x : Nat} : mr155 S P 399 L (.ref x :: st) sh M c s = (mr155 S P 400 L (.ref x :: .ref x :: st) sh M c s) := propext (mv_R_iff (i := .dup) (len := 1) (ax := []) (by decide +kernel))
theorem e155_400 : mr155 S P 400 L st sh M c s = (mr155 S P 402 L (.int (nI 55) :: st) sh M c s) := propext (mv_R_iff (i := .bipush 55) (len := 2) (ax := []) (by decide +kernel))
theorem e155_402 : mr155 S P 402 L st sh M c s = (mr155 S P 404 L (.int (nI 50) :: st) sh M c s) := propext (mv_R_iff (i := .bipush 50) (len := 2) (ax := []) (by decide +kernel))
theorem e155_404 {x : Int32} {i : Int32} {a : Nat} : mr155 S P 404 L (.int x :: .int i :: .ref a :: st) sh M c s = (mv_kst sh M a i x (mr155 S P) 405 L st c s) := propext (mv_R_iff (i := .iastore) (len := 1) (ax := []) (by decide +kernel))
theorem e155_405 {x : Int32} : mr155 S P 405 L (.int x :: st) sh M c s = (mr155 S P 406 L (.int x :: .int x :: st) sh M c s) := propext (mv_R_iff (i := .dup) (len := 1) (ax := []) (by decide +kernel))
theorem e155_405r {x : Nat} : mr155 S P 405 L (.ref x :: st) sh M c s = (mr155 S P 406 L (.ref x :: .ref x :: st) sh M c s) := propext (mv_R_iff (i := .dup) (len := 1) (ax := []) (by decide +kernel))
theorem e155_406 : mr155 S P 406 L st sh M c s = (mr155 S P 408 L (.int (nI 56) :: st) sh M c s) := propext (mv_R_iff (i := .bipush 56) (len := 2) (ax := []) (by decide +kernel))
theorem e155_408 : mr155 S P 408 L st sh M c s = (mr155 S P 410 L (.int (nI 50) :: st) sh M c s) := propext (mv_R_iff (i := .bipush 50) (len := 2) (ax := []) (by decide +kernel))
theorem e155_410 {x : Int32} {i : Int32} {a : Nat} : mr155 S P 410 L (.int x :: .int i :: .ref a :: st) sh M c s = (mv_kst sh M a i x (mr155 S P) 411 L st c s) := propext (mv_R_iff (i := .iastore) (len := 1) (ax := []) (by decide +kernel))
theorem e155_411 {x : Int32} : mr155 S P 411 L (.int x :: st) sh M c s = (mr155 S P 412 L (.int x :: .int x :: st) sh M c s) := propext (mv_R_iff (i := .dup) (len := 1) (ax := []) (by decide +kernel))
theorem e155_411r {x : Nat} : mr155 S P 411 L (.ref x :: st) sh M c s = (mr155 S P 412 L (.ref x :: .ref x :: st) sh M c s) := propext (mv_R_iff (i := .dup) (len := 1) (ax := []) (by decide +kernel))
theorem e155_412 : mr155 S P 412 L st sh M c s = (mr155 S P 414 L (.int (nI 57) :: st) sh M c s) := propext (mv_R_iff (i := .bipush 57) (len := 2) (ax := []) (by decide +kernel))
theorem e155_414 : mr155 S P 414 L st sh M c s = (mr155 S P 416 L (.int (nI 49) :: st) sh M c s) := propext (mv_R_iff (i := .bipush 49) (len := 2) (ax := []) (by decide +kernel))
theorem e155_416 {x : Int32} {i : Int32} {a : Nat} : mr155 S P 416 L (.int x :: .int i :: .ref a :: st) sh M c s = (mv_kst sh M a i x (mr155 S P) 417 L st c s) := propext (mv_R_iff (i := .iastore) (len := 1) (ax := []) (by decide +kernel))
theorem e155_417 {x : Int32} : mr155 S P 417 L (.int x :: st) sh M c s = (mr155 S P 418 L (.int x :: .int x :: st) sh M c s) := propext (mv_R_iff (i := .dup) (len := 1) (ax := []) (by decide +kernel))
theorem e155_417r {x : Nat} : mr155 S P 417 L (.ref x :: st) sh M c s = (mr155 S P 418 L (.ref x :: .ref x :: st) sh M c s) := propext (mv_R_iff (i := .dup) (len := 1) (ax := []) (by decide +kernel))
theorem e155_418 : mr155 S P 418 L st sh M c s = (mr155 S P 420 L (.int (nI 58) :: st) sh M c s) := propext (mv_R_iff (i := .bipush 58) (len := 2) (ax := []) (by decide +kernel))
theorem e155_420 : mr155 S P 420 L st sh M c s = (mr155 S P 422 L (.int (nI 51) :: st) sh M c s) := propext (mv_R_iff (i := .bipush 51) (len := 2) (ax := []) (by decide +kernel))
theorem e155_422 {x : Int32} {i : Int32} {a : Nat} : mr155 S P 422 L (.int x :: .int i :: .ref a :: st) sh M c s = (mv_kst sh M a i x (mr155 S P) 423 L st c s) := propext (mv_R_iff (i := .iastore) (len := 1) (ax := []) (by decide +kernel))
theorem e155_423 {x : Int32} : mr155 S P 423 L (.int x :: st) sh M c s = (mr155 S P 424 L (.int x :: .int x :: st) sh M c s) := propext (mv_R_iff (i := .dup) (len := 1) (ax := []) (by decide +kernel))
theorem e155_423r {x : Nat} : mr155 S P 423 L (.ref x :: st) sh M c s = (mr155 S P 424 L (.ref x :: .ref x :: st) sh M c s) := propext (mv_R_iff (i := .dup) (len := 1) (ax := []) (by decide +kernel))
theorem e155_424 : mr155 S P 424 L st sh M c s = (mr155 S P 426 L (.int (nI 59) :: st) sh M c s) := propext (mv_R_iff (i := .bipush 59) (len := 2) (ax := []) (by decide +kernel))
theorem e155_426 : mr155 S P 426 L st sh M c s = (mr155 S P 428 L (.int (nI 59) :: st) sh M c s) := propext (mv_R_iff (i := .bipush 59) (len := 2) (ax := []) (by decide +kernel))
theorem e155_428 {x : Int32} {i : Int32} {a : Nat} : mr155 S P 428 L (.int x :: .int i :: .ref a :: st) sh M c s = (mv_kst sh M a i x (mr155 S P) 429 L st c s) := propext (mv_R_iff (i := .iastore) (len := 1) (ax := []) (by decide +kernel))
theorem e155_429 {x : Int32} : mr155 S P 429 L (.int x :: st) sh M c s = (mr155 S P 430 L (.int x :: .int x :: st) sh M c s) := propext (mv_R_iff (i := .dup) (len := 1) (ax := []) (by decide +kernel))
theorem e155_429r {x : Nat} : mr155 S P 429 L (.ref x :: st) sh M c s = (mr155 S P 430 L (.ref x :: .ref x :: st) sh M c s) := propext (mv_R_iff (i := .dup) (len := 1) (ax := []) (by decide +kernel))
theorem e155_430 : mr155 S P 430 L st sh M c s = (mr155 S P 432 L (.int (nI 60) :: st) sh M c s) := propext (mv_R_iff (i := .bipush 60) (len := 2) (ax := []) (by decide +kernel))
theorem e155_432 : mr155 S P 432 L st sh M c s = (mr155 S P 434 L (.int (nI 112) :: st) sh M c s) := propext (mv_R_iff (i := .bipush 112) (len := 2) (ax := []) (by decide +kernel))
theorem e155_434 {x : Int32} {i : Int32} {a : Nat} : mr155 S P 434 L (.int x :: .int i :: .ref a :: st) sh M c s = (mv_kst sh M a i x (mr155 S P) 435 L st c s) := propext (mv_R_iff (i := .iastore) (len := 1) (ax := []) (by decide +kernel))
theorem e155_435 {x : Int32} : mr155 S P 435 L (.int x :: st) sh M c s = (mr155 S P 436 L (.int x :: .int x :: st) sh M c s) := propext (mv_R_iff (i := .dup) (len := 1) (ax := []) (by decide +kernel))
theorem e155_435r {x : Nat} : mr155 S P 435 L (.ref x :: st) sh M c s = (mr155 S P 436 L (.ref x :: .ref x :: st) sh M c s) := propext (mv_R_iff (i := .dup) (len := 1) (ax := []) (by decide +kernel))
theorem e155_436 : mr155 S P 436 L st sh M c s = (mr155 S P 438 L (.int (nI 61) :: st) sh M c s) := propext (mv_R_iff (i := .bipush 61) (len := 2) (ax := []) (by decide +kernel))
theorem e155_438 : mr155 S P 438 L st sh M c s = (mr155 S P 440 L (.int (nI 48) :: st) sh M c s) := propext (mv_R_iff (i := .bipush 48) (len := 2) (ax := []) (by decide +kernel))
theorem e155_440 {x : Int32} {i : Int32} {a : Nat} : mr155 S P 440 L (.int x :: .int i :: .ref a :: st) sh M c s = (mv_kst sh M a i x (mr155 S P) 441 L st c s) := propext (mv_R_iff (i := .iastore) (len := 1) (ax := []) (by decide +kernel))
theorem e155_441 {x : Int32} : mr155 S P 441 L (.int x :: st) sh M c s = (mr155 S P 442 L (.int x :: .int x :: st) sh M c s) := propext (mv_R_iff (i := .dup) (len := 1) (ax := []) (by decide +kernel))
theorem e155_441r {x : Nat} : mr155 S P 441 L (.ref x :: st) sh M c s = (mr155 S P 442 L (.ref x :: .ref x :: st) sh M c s) := propext (mv_R_iff (i := .dup) (len := 1) (ax := []) (by decide +kernel))
theorem e155_442 : mr155 S P 442 L st sh M c s = (mr155 S P 444 L (.int (nI 62) :: st) sh M c s) := propext (mv_R_iff (i := .bipush 62) (len := 2) (ax := []) (by decide +kernel))
theorem e155_444 : mr155 S P 444 L st sh M c s = (mr155 S P 446 L (.int (nI 49) :: st) sh M c s) := propext (mv_R_iff (i := .bipush 49) (len := 2) (ax := []) (by decide +kernel))
theorem e155_446 {x : Int32} {i : Int32} {a : Nat} : mr155 S P 446 L (.int x :: .int i :: .ref a :: st) sh M c s = (mv_kst sh M a i x (mr155 S P) 447 L st c s) := propext (mv_R_iff (i := .iastore) (len := 1) (ax := []) (by decide +kernel))
theorem e155_447 {x : Int32} : mr155 S P 447 L (.int x :: st) sh M c s = (mr155 S P 448 L (.int x :: .int x :: st) sh M c s) := propext (mv_R_iff (i := .dup) (len := 1) (ax := []) (by decide +kernel))
theorem e155_447r {x : Nat} : mr155 S P 447 L (.ref x :: st) sh M c s = (mr155 S P 448 L (.ref x :: .ref x :: st) sh M c s) := propext (mv_R_iff (i := .dup) (len := 1) (ax := []) (by decide +kernel))
theorem e155_448 : mr155 S P 448 L st sh M c s = (mr155 S P 450 L (.int (nI 63) :: st) sh M c s) := propext (mv_R_iff (i := .bipush 63) (len := 2) (ax := []) (by decide +kernel))
theorem e155_450 : mr155 S P 450 L st sh M c s = (mr155 S P 452 L (.int (nI 50) :: st) sh M c s) := propext (mv_R_iff (i := .bipush 50) (len := 2) (ax := []) (by decide +kernel))
theorem e155_452 {x : Int32} {i : Int32} {a : Nat} : mr155 S P 452 L (.int x :: .int i :: .ref a :: st) sh M c s = (mv_kst sh M a i x (mr155 S P) 453 L st c s) := propext (mv_R_iff (i := .iastore) (len := 1) (ax := []) (by decide +kernel))
theorem e155_453 {x : Int32} : mr155 S P 453 L (.int x :: st) sh M c s = (mr155 S P 454 L (.int x :: .int x :: st) sh M c s) := propext (mv_R_iff (i := .dup) (len := 1) (ax := []) (by decide +kernel))
theorem e155_453r {x : Nat} : mr155 S P 453 L (.ref x :: st) sh M c s = (mr155 S P 454 L (.ref x :: .ref x :: st) sh M c s) := propext (mv_R_iff (i := .dup) (len := 1) (ax := []) (by decide +kernel))
theorem e155_454 : mr155 S P 454 L st sh M c s = (mr155 S P 456 L (.int (nI 64) :: st) sh M c s) := propext (mv_R_iff (i := .bipush 64) (len := 2) (ax := []) (by decide +kernel))
theorem e155_456 : mr155 S P 456 L st sh M c s = (mr155 S P 458 L (.int (nI 51) :: st) sh M c s) := propext (mv_R_iff (i := .bipush 51) (len := 2) (ax := []) (by decide +kernel))
theorem e155_458 {x : Int32} {i : Int32} {a : Nat} : mr155 S P 458 L (.int x :: .int i :: .ref a :: st) sh M c s = (mv_kst sh M a i x (mr155 S P) 459 L st c s) := propext (mv_R_iff (i := .iastore) (len := 1) (ax := []) (by decide +kernel))
theorem e155_459 {x : Int32} : mr155 S P 459 L (.int x :: st) sh M c s = (mr155 S P 460 L (.int x :: .int x :: st) sh M c s) := propext (mv_R_iff (i := .dup) (len := 1) (ax := []) (by decide +kernel))
theorem e155_459r {x : Nat} : mr155 S P 459 L (.ref x :: st) sh M c s = (mr155 S P 460 L (.ref x :: .ref x :: st) sh M c s) := propext (mv_R_iff (i := .dup) (len := 1) (ax := []) (by decide +kernel))
theorem e155_460 : mr155 S P 460 L st sh M c s = (mr155 S P 462 L (.int (nI 65) :: st) sh M c s) := propext (mv_R_iff (i := .bipush 65) (len := 2) (ax := []) (by decide +kernel))
theorem e155_462 : mr155 S P 462 L st sh M c s = (mr155 S P 464 L (.int (nI 52) :: st) sh M c s) := propext (mv_R_iff (i := .bipush 52) (len := 2) (ax := []) (by decide +kernel))
theorem e155_464 {x : Int32} {i : Int32} {a : Nat} : mr155 S P 464 L (.int x :: .int i :: .ref a :: st) sh M c s = (mv_kst sh M a i x (mr155 S P) 465 L st c s) := propext (mv_R_iff (i := .iastore) (len := 1) (ax := []) (by decide +kernel))
theorem e155_465 {x : Int32} : mr155 S P 465 L (.int x :: st) sh M c s = (mr155 S P 466 L (.int x :: .int x :: st) sh M c s) := propext (mv_R_iff (i := .dup) (len := 1) (ax := []) (by decide +kernel))
theorem e155_465r {x : Nat} : mr155 S P 465 L (.ref x :: st) sh M c s = (mr155 S P 466 L (.ref x :: .ref x :: st) sh M c s) := propext (mv_R_iff (i := .dup) (len := 1) (ax := []) (by decide +kernel))
theorem e155_466 : mr155 S P 466 L st sh M c s = (mr155 S P 468 L (.int (nI 66) :: st) sh M c s) := propext (mv_R_iff (i := .bipush 66) (len := 2) (ax := []) (by decide +kernel))
theorem e155_468 : mr155 S P 468 L st sh M c s = (mr155 S P 470 L (.int (nI 53) :: st) sh M c s) := propext (mv_R_iff (i := .bipush 53) (len := 2) (ax := []) (by decide +kernel))
theorem e155_470 {x : Int32} {i : Int32} {a : Nat} : mr155 S P 470 L (.int x :: .int i :: .ref a :: st) sh M c s = (mv_kst sh M a i x (mr155 S P) 471 L st c s) := propext (mv_R_iff (i := .iastore) (len := 1) (ax := []) (by decide +kernel))
theorem e155_471 {x : Int32} : mr155 S P 471 L (.int x :: st) sh M c s = (mr155 S P 472 L (.int x :: .int x :: st) sh M c s) := propext (mv_R_iff (i := .dup) (len := 1) (ax := []) (by decide +kernel))
theorem e155_471r {x : Nat} : mr155 S P 471 L (.ref x :: st) sh M c s = (mr155 S P 472 L (.ref x :: .ref x :: st) sh M c s) := propext (mv_R_iff (i := .dup) (len := 1) (ax := []) (by decide +kernel))
theorem e155_472 : mr155 S P 472 L st sh M c s = (mr155 S P 474 L (.int (nI 67) :: st) sh M c s) := propext (mv_R_iff (i := .bipush 67) (len := 2) (ax := []) (by decide +kernel))
theorem e155_474 : mr155 S P 474 L st sh M c s = (mr155 S P 476 L (.int (nI 59) :: st) sh M c s) := propext (mv_R_iff (i := .bipush 59) (len := 2) (ax := []) (by decide +kernel))
theorem e155_476 {x : Int32} {i : Int32} {a : Nat} : mr155 S P 476 L (.int x :: .int i :: .ref a :: st) sh M c s = (mv_kst sh M a i x (mr155 S P) 477 L st c s) := propext (mv_R_iff (i := .iastore) (len := 1) (ax := []) (by decide +kernel))
theorem e155_477 {x : Int32} : mr155 S P 477 L (.int x :: st) sh M c s = (mr155 S P 478 L (.int x :: .int x :: st) sh M c s) := propext (mv_R_iff (i := .dup) (len := 1) (ax := []) (by decide +kernel))
theorem e155_477r {x : Nat} : mr155 S P 477 L (.ref x :: st) sh M c s = (mr155 S P 478 L (.ref x :: .ref x :: st) sh M c s) := propext (mv_R_iff (i := .dup) (len := 1) (ax := []) (by decide +kernel))
theorem e155_478 : mr155 S P 478 L st sh M c s = (mr155 S P 480 L (.int (nI 68) :: st) sh M c s) := propext (mv_R_iff (i := .bipush 68) (len := 2) (ax := []) (by decide +kernel))
theorem e155_480 : mr155 S P 480 L st sh M c s = (mr155 S P 482 L (.int (nI 112) :: st) sh M c s) := propext (mv_R_iff (i := .bipush 112) (len := 2) (ax := []) (by decide +kernel))
theorem e155_482 {x : Int32} {i : Int32} {a : Nat} : mr155 S P 482 L (.int x :: .int i :: .ref a :: st) sh M c s = (mv_kst sh M a i x (mr155 S P) 483 L st c s) := propext (mv_R_iff (i := .iastore) (len := 1) (ax := []) (by decide +kernel))
theorem e155_483 {x : Int32} : mr155 S P 483 L (.int x :: st) sh M c s = (mr155 S P 484 L (.int x :: .int x :: st) sh M c s) := propext (mv_R_iff (i := .dup) (len := 1) (ax := []) (by decide +kernel))
theorem e155_483r {x : Nat} : mr155 S P 483 L (.ref x :: st) sh M c s = (mr155 S P 484 L (.ref x :: .ref x :: st) sh M c s) := propext (mv_R_iff (i := .dup) (len := 1) (ax := []) (by decide +kernel))
theorem e155_484 : mr155 S P 484 L st sh M c s = (mr155 S P 486 L (.int (nI 69) :: st) sh M c s) := propext (mv_R_iff (i := .bipush 69) (len := 2) (ax := []) (by decide +kernel))
theorem e155_486 : mr155 S P 486 L st sh M c s = (mr155 S P 488 L (.int (nI 48) :: st) sh M c s) := propext (mv_R_iff (i := .bipush 48) (len := 2) (ax := []) (by decide +kernel))
theorem e155_488 {x : Int32} {i : Int32} {a : Nat} : mr155 S P 488 L (.int x :: .int i :: .ref a :: st) sh M c s = (mv_kst sh M a i x (mr155 S P) 489 L st c s) := propext (mv_R_iff (i := .iastore) (len := 1) (ax := []) (by decide +kernel))
theorem e155_489 {x : Int32} : mr155 S P 489 L (.int x :: st) sh M c s = (mr155 S P 490 L (.int x :: .int x :: st) sh M c s) := propext (mv_R_iff (i := .dup) (len := 1) (ax := []) (by decide +kernel))
theorem e155_489r {x : Nat} : mr155 S P 489 L (.ref x :: st) sh M c s = (mr155 S P 490 L (.ref x :: .ref x :: st) sh M c s) := propext (mv_R_iff (i := .dup) (len := 1) (ax := []) (by decide +kernel))
theorem e155_490 : mr155 S P 490 L st sh M c s = (mr155 S P 492 L (.int (nI 70) :: st) sh M c s) := propext (mv_R_iff (i := .bipush 70) (len := 2) (ax := []) (by decide +kernel))
theorem e155_492 : mr155 S P 492 L st sh M c s = (mr155 S P 494 L (.int (nI 50) :: st) sh M c s) := propext (mv_R_iff (i := .bipush 50) (len := 2) (ax := []) (by decide +kernel))
theorem e155_494 {x : Int32} {i : Int32} {a : Nat} : mr155 S P 494 L (.int x :: .int i :: .ref a :: st) sh M c s = (mv_kst sh M a i x (mr155 S P) 495 L st c s) := propext (mv_R_iff (i := .iastore) (len := 1) (ax := []) (by decide +kernel))
theorem e155_495 {x : Int32} : mr155 S P 495 L (.int x :: st) sh M c s = (mr155 S P 496 L (.int x :: .int x :: st) sh M c s) := propext (mv_R_iff (i := .dup) (len := 1) (ax := []) (by decide +kernel))
theorem e155_495r {x : Nat} : mr155 S P 495 L (.ref x :: st) sh M c s = (mr155 S P 496 L (.ref x :: .ref x :: st) sh M c s) := propext (mv_R_iff (i := .dup) (len := 1) (ax := []) (by decide +kernel))
theorem e155_496 : mr155 S P 496 L st sh M c s = (mr155 S P 498 L (.int (nI 71) :: st) sh M c s) := propext (mv_R_iff (i := .bipush 71) (len := 2) (ax := []) (by decide +kernel))
theorem e155_498 : mr155 S P 498 L st sh M c s = (mr155 S P 500 L (.int (nI 52) :: st) sh M c s) := propext (mv_R_iff (i := .bipush 52) (len := 2) (ax := []) (by decide +kernel))
theorem e155_500 {x : Int32} {i : Int32} {a : Nat} : mr155 S P 500 L (.int x :: .int i :: .ref a :: st) sh M c s = (mv_kst sh M a i x (mr155 S P) 501 L st c s) := propext (mv_R_iff (i := .iastore) (len := 1) (ax := []) (by decide +kernel))
theorem e155_501 {x : Int32} : mr155 S P 501 L (.int x :: st) sh M c s = (mr155 S P 502 L (.int x :: .int x :: st) sh M c s) := propext (mv_R_iff (i := .dup) (len := 1) (ax := []) (by decide +kernel))
theorem e155_501r {x : Nat} : mr155 S P 501 L (.ref x :: st) sh M c s = (mr155 S P 502 L (.ref x :: .ref x :: st) sh M c s) := propext (mv_R_iff (i := .dup) (len := 1) (ax := []) (by decide +kernel))
theorem e155_502 : mr155 S P 502 L st sh M c s = (mr155 S P 504 L (.int (nI 72) :: st) sh M c s) := propext (mv_R_iff (i := .bipush 72) (len := 2) (ax := []) (by decide +kernel))
theorem e155_504 : mr155 S P 504 L st sh M c s = (mr155 S P 506 L (.int (nI 59) :: st) sh M c s) := propext (mv_R_iff (i := .bipush 59) (len := 2) (ax := []) (by decide +kernel))
theorem e155_506 {x : Int32} {i : Int32} {a : Nat} : mr155 S P 506 L (.int x :: .int i :: .ref a :: st) sh M c s = (mv_kst sh M a i x (mr155 S P) 507 L st c s) := propext (mv_R_iff (i := .iastore) (len := 1) (ax := []) (by decide +kernel))
theorem e155_507 {x : Int32} : mr155 S P 507 L (.int x :: st) sh M c s = (mr155 S P 508 L (.int x :: .int x :: st) sh M c s) := propext (mv_R_iff (i := .dup) (len := 1) (ax := []) (by decide +kernel))
theorem e155_507r {x : Nat} : mr155 S P 507 L (.ref x :: st) sh M c s = (mr155 S P 508 L (.ref x :: .ref x :: st) sh M c s) := propext (mv_R_iff (i := .dup) (len := 1) (ax := []) (by decide +kernel))
theorem e155_508 : mr155 S P 508 L st sh M c s = (mr155 S P 510 L (.int (nI 73) :: st) sh M c s) := propext (mv_R_iff (i := .bipush 73) (len := 2) (ax := []) (by decide +kernel))
theorem e155_510 : mr155 S P 510 L st sh M c s = (mr155 S P 512 L (.int (nI 112) :: st) sh M c s) := propext (mv_R_iff (i := .bipush 112) (len := 2) (ax := []) (by decide +kernel))
theorem e155_512 {x : Int32} {i : Int32} {a : Nat} : mr155 S P 512 L (.int x :: .int i :: .ref a :: st) sh M c s = (mv_kst sh M a i x (mr155 S P) 513 L st c s) := propext (mv_R_iff (i := .iastore) (len := 1) (ax := []) (by decide +kernel))
theorem e155_513 {x : Int32} : mr155 S P 513 L (.int x :: st) sh M c s = (mr155 S P 514 L (.int x :: .int x :: st) sh M c s) := propext (mv_R_iff (i := .dup) (len := 1) (ax := []) (by decide +kernel))
theorem e155_513r {x : Nat} : mr155 S P 513 L (.ref x :: st) sh M c s = (mr155 S P 514 L (.ref x :: .ref x :: st) sh M c s) := propext (mv_R_iff (i := .dup) (len := 1) (ax := []) (by decide +kernel))
theorem e155_514 : mr155 S P 514 L st sh M c s = (mr155 S P 516 L (.int (nI 74) :: st) sh M c s) := propext (mv_R_iff (i := .bipush 74) (len := 2) (ax := []) (by decide +kernel))
theorem e155_516 : mr155 S P 516 L st sh M c s = (mr155 S P 518 L (.int (nI 49) :: st) sh M c s) := propext (mv_R_iff (i := .bipush 49) (len := 2) (ax := []) (by decide +kernel))
theorem e155_518 {x : Int32} {i : Int32} {a : Nat} : mr155 S P 518 L (.int x :: .int i :: .ref a :: st) sh M c s = (mv_kst sh M a i x (mr155 S P) 519 L st c s) := propext (mv_R_iff (i := .iastore) (len := 1) (ax := []) (by decide +kernel))
theorem e155_519 {x : Int32} : mr155 S P 519 L (.int x :: st) sh M c s = (mr155 S P 520 L (.int x :: .int x :: st) sh M c s) := propext (mv_R_iff (i := .dup) (len := 1) (ax := []) (by decide +kernel))
theorem e155_519r {x : Nat} : mr155 S P 519 L (.ref x :: st) sh M c s = (mr155 S P 520 L (.ref x :: .ref x :: st) sh M c s) := propext (mv_R_iff (i := .dup) (len := 1) (ax := []) (by decide +kernel))
theorem e155_520 : mr155 S P 520 L st sh M c s = (mr155 S P 522 L (.int (nI 75) :: st) sh M c s) := propext (mv_R_iff (i := .bipush 75) (len := 2) (ax := []) (by decide +kernel))
theorem e155_522 : mr155 S P 522 L st sh M c s = (mr155 S P 524 L (.int (nI 51) :: st) sh M c s) := propext (mv_R_iff (i := .bipush 51) (len := 2) (ax := []) (by decide +kernel))
theorem e155_524 {x : Int32} {i : Int32} {a : Nat} : mr155 S P 524 L (.int x :: .int i :: .ref a :: st) sh M c s = (mv_kst sh M a i x (mr155 S P) 525 L st c s) := propext (mv_R_iff (i := .iastore) (len := 1) (ax := []) (by decide +kernel))
theorem e155_525 {x : Int32} : mr155 S P 525 L (.int x :: st) sh M c s = (mr155 S P 526 L (.int x :: .int x :: st) sh M c s) := propext (mv_R_iff (i := .dup) (len := 1) (ax := []) (by decide +kernel))
theorem e155_525r {x : Nat} : mr155 S P 525 L (.ref x :: st) sh M c s = (mr155 S P 526 L (.ref x :: .ref x :: st) sh M c s) := propext (mv_R_iff (i := .dup) (len := 1) (ax := []) (by decide +kernel))
theorem e155_526 : mr155 S P 526 L st sh M c s = (mr155 S P 528 L (.int (nI 76) :: st) sh M c s) := propext (mv_R_iff (i := .bipush 76) (len := 2) (ax := []) (by decide +kernel))
theorem e155_528 : mr155 S P 528 L st sh M c s = (mr155 S P 530 L (.int (nI 53) :: st) sh M c s) := propext (mv_R_iff (i := .bipush 53) (len := 2) (ax := []) (by decide +kernel))
theorem e155_530 {x : Int32} {i : Int32} {a : Nat} : mr155 S P 530 L (.int x :: .int i :: .ref a :: st) sh M c s = (mv_kst sh M a i x (mr155 S P) 531 L st c s) := propext (mv_R_iff (i := .iastore) (len := 1) (ax := []) (by decide +kernel))
theorem e155_531 {x : Int32} : mr155 S P 531 L (.int x :: st) sh M c s = (mr155 S P 532 L (.int x :: .int x :: st) sh M c s) := propext (mv_R_iff (i := .dup) (len := 1) (ax := []) (by decide +kernel))
theorem e155_531r {x : Nat} : mr155 S P 531 L (.ref x :: st) sh M c s = (mr155 S P 532 L (.ref x :: .ref x :: st) sh M c s) := propext (mv_R_iff (i := .dup) (len := 1) (ax := []) (by decide +kernel))
theorem e155_532 : mr155 S P 532 L st sh M c s = (mr155 S P 534 L (.int (nI 77) :: st) sh M c s) := propext (mv_R_iff (i := .bipush 77) (len := 2) (ax := []) (by decide +kernel))
theorem e155_534 : mr155 S P 534 L st sh M c s = (mr155 S P 536 L (.int (nI 59) :: st) sh M c s) := propext (mv_R_iff (i := .bipush 59) (len := 2) (ax := []) (by decide +kernel))
theorem e155_536 {x : Int32} {i : Int32} {a : Nat} : mr155 S P 536 L (.int x :: .int i :: .ref a :: st) sh M c s = (mv_kst sh M a i x (mr155 S P) 537 L st c s) := propext (mv_R_iff (i := .iastore) (len := 1) (ax := []) (by decide +kernel))
theorem e155_537 {x : Int32} : mr155 S P 537 L (.int x :: st) sh M c s = (mr155 S P 538 L (.int x :: .int x :: st) sh M c s) := propext (mv_R_iff (i := .dup) (len := 1) (ax := []) (by decide +kernel))
theorem e155_537r {x : Nat} : mr155 S P 537 L (.ref x :: st) sh M c s = (mr155 S P 538 L (.ref x :: .ref x :: st) sh M c s) := propext (mv_R_iff (i := .dup) (len := 1) (ax := []) (by decide +kernel))
theorem e155_538 : mr155 S P 538 L st sh M c s = (mr155 S P 540 L (.int (nI 78) :: st) sh M c s) := propext (mv_R_iff (i := .bipush 78) (len := 2) (ax := []) (by decide +kernel))
theorem e155_540 : mr155 S P 540 L st sh M c s = (mr155 S P 542 L (.int (nI 112) :: st) sh M c s) := propext (mv_R_iff (i := .bipush 112) (len := 2) (ax := []) (by decide +kernel))
theorem e155_542 {x : Int32} {i : Int32} {a : Nat} : mr155 S P 542 L (.int x :: .int i :: .ref a :: st) sh M c s = (mv_kst sh M a i x (mr155 S P) 543 L st c s) := propext (mv_R_iff (i := .iastore) (len := 1) (ax := []) (by decide +kernel))
theorem e155_543 {x : Int32} : mr155 S P 543 L (.int x :: st) sh M c s = (mr155 S P 544 L (.int x :: .int x :: st) sh M c s) := propext (mv_R_iff (i := .dup) (len := 1) (ax := []) (by decide +kernel))
theorem e155_543r {x : Nat} : mr155 S P 543 L (.ref x :: st) sh M c s = (mr155 S P 544 L (.ref x :: .ref x :: st) sh M c s) := propext (mv_R_iff (i := .dup) (len := 1) (ax := []) (by decide +kernel))
theorem e155_544 : mr155 S P 544 L st sh M c s = (mr155 S P 546 L (.int (nI 79) :: st) sh M c s) := propext (mv_R_iff (i := .bipush 79) (len := 2) (ax := []) (by decide +kernel))
theorem e155_546 : mr155 S P 546 L st sh M c s = (mr155 S P 548 L (.int (nI 48) :: st) sh M c s) := propext (mv_R_iff (i := .bipush 48) (len := 2) (ax := []) (by decide +kernel))
theorem e155_548 {x : Int32} {i : Int32} {a : Nat} : mr155 S P 548 L (.int x :: .int i :: .ref a :: st) sh M c s = (mv_kst sh M a i x (mr155 S P) 549 L st c s) := propext (mv_R_iff (i := .iastore) (len := 1) (ax := []) (by decide +kernel))
theorem e155_549 {x : Int32} : mr155 S P 549 L (.int x :: st) sh M c s = (mr155 S P 550 L (.int x :: .int x :: st) sh M c s) := propext (mv_R_iff (i := .dup) (len := 1) (ax := []) (by decide +kernel))
theorem e155_549r {x : Nat} : mr155 S P 549 L (.ref x :: st) sh M c s = (mr155 S P 550 L (.ref x :: .ref x :: st) sh M c s) := propext (mv_R_iff (i := .dup) (len := 1) (ax := []) (by decide +kernel))
theorem e155_550 : mr155 S P 550 L st sh M c s = (mr155 S P 552 L (.int (nI 80) :: st) sh M c s) := propext (mv_R_iff (i := .bipush 80) (len := 2) (ax := []) (by decide +kernel))
theorem e155_552 : mr155 S P 552 L st sh M c s = (mr155 S P 554 L (.int (nI 53) :: st) sh M c s) := propext (mv_R_iff (i := .bipush 53) (len := 2) (ax := []) (by decide +kernel))
theorem e155_554 {x : Int32} {i : Int32} {a : Nat} : mr155 S P 554 L (.int x :: .int i :: .ref a :: st) sh M c s = (mv_kst sh M a i x (mr155 S P) 555 L st c s) := propext (mv_R_iff (i := .iastore) (len := 1) (ax := []) (by decide +kernel))
theorem e155_555 {x : Int32} : mr155 S P 555 L (.int x :: st) sh M c s = (mr155 S P 556 L (.int x :: .int x :: st) sh M c s) := propext (mv_R_iff (i := .dup) (len := 1) (ax := []) (by decide +kernel))
theorem e155_555r {x : Nat} : mr155 S P 555 L (.ref x :: st) sh M c s = (mr155 S P 556 L (.ref x :: .ref x :: st) sh M c s) := propext (mv_R_iff (i := .dup) (len := 1) (ax := []) (by decide +kernel))
theorem e155_556 : mr155 S P 556 L st sh M c s = (mr155 S P 558 L (.int (nI 81) :: st) sh M c s) := propext (mv_R_iff (i := .bipush 81) (len := 2) (ax := []) (by decide +kernel))
theorem e155_558 : mr155 S P 558 L st sh M c s = (mr155 S P 560 L (.int (nI 59) :: st) sh M c s) := propext (mv_R_iff (i := .bipush 59) (len := 2) (ax := []) (by decide +kernel))
theorem e155_560 {x : Int32} {i : Int32} {a : Nat} : mr155 S P 560 L (.int x :: .int i :: .ref a :: st) sh M c s = (mv_kst sh M a i x (mr155 S P) 561 L st c s) := propext (mv_R_iff (i := .iastore) (len := 1) (ax := []) (by decide +kernel))
theorem e155_561 {x : Int32} : mr155 S P 561 L (.int x :: st) sh M c s = (mr155 S P 562 L (.int x :: .int x :: st) sh M c s) := propext (mv_R_iff (i := .dup) (len := 1) (ax := []) (by decide +kernel))
theorem e155_561r {x : Nat} : mr155 S P 561 L (.ref x :: st) sh M c s = (mr155 S P 562 L (.ref x :: .ref x :: st) sh M c s) := propext (mv_R_iff (i := .dup) (len := 1) (ax := []) (by decide +kernel))
theorem e155_562 : mr155 S P 562 L st sh M c s = (mr155 S P 564 L (.int (nI 82) :: st) sh M c s) := propext (mv_R_iff (i := .bipush 82) (len := 2) (ax := []) (by decide +kernel))
theorem e155_564 : mr155 S P 564 L st sh M c s = (mr155 S P 566 L (.int (nI 108) :: st) sh M c s) := propext (mv_R_iff (i := .bipush 108) (len := 2) (ax := []) (by decide +kernel))
theorem e155_566 {x : Int32} {i : Int32} {a : Nat} : mr155 S P 566 L (.int x :: .int i :: .ref a :: st) sh M c s = (mv_kst sh M a i x (mr155 S P) 567 L st c s) := propext (mv_R_iff (i := .iastore) (len := 1) (ax := []) (by decide +kernel))
theorem e155_567 {x : Int32} : mr155 S P 567 L (.int x :: st) sh M c s = (mr155 S P 568 L (.int x :: .int x :: st) sh M c s) := propext (mv_R_iff (i := .dup) (len := 1) (ax := []) (by decide +kernel))
theorem e155_567r {x : Nat} : mr155 S P 567 L (.ref x :: st) sh M c s = (mr155 S P 568 L (.ref x :: .ref x :: st) sh M c s) := propext (mv_R_iff (i := .dup) (len := 1) (ax := []) (by decide +kernel))
theorem e155_568 : mr155 S P 568 L st sh M c s = (mr155 S P 570 L (.int (nI 83) :: st) sh M c s) := propext (mv_R_iff (i := .bipush 83) (len := 2) (ax := []) (by decide +kernel))
theorem e155_570 : mr155 S P 570 L st sh M c s = (mr155 S P 572 L (.int (nI 49) :: st) sh M c s) := propext (mv_R_iff (i := .bipush 49) (len := 2) (ax := []) (by decide +kernel))
theorem e155_572 {x : Int32} {i : Int32} {a : Nat} : mr155 S P 572 L (.int x :: .int i :: .ref a :: st) sh M c s = (mv_kst sh M a i x (mr155 S P) 573 L st c s) := propext (mv_R_iff (i := .iastore) (len := 1) (ax := []) (by decide +kernel))
theorem e155_573 {x : Int32} : mr155 S P 573 L (.int x :: st) sh M c s = (mr155 S P 574 L (.int x :: .int x :: st) sh M c s) := propext (mv_R_iff (i := .dup) (len := 1) (ax := []) (by decide +kernel))
theorem e155_573r {x : Nat} : mr155 S P 573 L (.ref x :: st) sh M c s = (mr155 S P 574 L (.ref x :: .ref x :: st) sh M c s) := propext (mv_R_iff (i := .dup) (len := 1) (ax := []) (by decide +kernel))
theorem e155_574 : mr155 S P 574 L st sh M c s = (mr155 S P 576 L (.int (nI 84) :: st) sh M c s) := propext (mv_R_iff (i := .bipush 84) (len := 2) (ax := []) (by decide +kernel))
theorem e155_576 : mr155 S P 576 L st sh M c s = (mr155 S P 578 L (.int (nI 54) :: st) sh M c s) := propext (mv_R_iff (i := .bipush 54) (len := 2) (ax := []) (by decide +kernel))
theorem e155_578 {x : Int32} {i : Int32} {a : Nat} : mr155 S P 578 L (.int x :: .int i :: .ref a :: st) sh M c s = (mv_kst sh M a i x (mr155 S P) 579 L st c s) := propext (mv_R_iff (i := .iastore) (len := 1) (ax := []) (by decide +kernel))
theorem e155_579 {x : Int32} : mr155 S P 579 L (.int x :: st) sh M c s = (mr155 S P 580 L (.int x :: .int x :: st) sh M c s) := propext (mv_R_iff (i := .dup) (len := 1) (ax := []) (by decide +kernel))
theorem e155_579r {x : Nat} : mr155 S P 579 L (.ref x :: st) sh M c s = (mr155 S P 580 L (.ref x :: .ref x :: st) sh M c s) := propext (mv_R_iff (i := .dup) (len := 1) (ax := []) (by decide +kernel))
theorem e155_580 : mr155 S P 580 L st sh M c s = (mr155 S P 582 L (.int (nI 85) :: st) sh M c s) := propext (mv_R_iff (i := .bipush 85) (len := 2) (ax := []) (by decide +kernel))
theorem e155_582 : mr155 S P 582 L st sh M c s = (mr155 S P 584 L (.int (nI 59) :: st) sh M c s) := propext (mv_R_iff (i := .bipush 59) (len := 2) (ax := []) (by decide +kernel))
theorem e155_584 {x : Int32} {i : Int32} {a : Nat} : mr155 S P 584 L (.int x :: .int i :: .ref a :: st) sh M c s = (mv_kst sh M a i x (mr155 S P) 585 L st c s) := propext (mv_R_iff (i := .iastore) (len := 1) (ax := []) (by decide +kernel))
theorem e155_585 {x : Int32} : mr155 S P 585 L (.int x :: st) sh M c s = (mr155 S P 586 L (.int x :: .int x :: st) sh M c s) := propext (mv_R_iff (i := .dup) (len := 1) (ax := []) (by decide +kernel))
theorem e155_585r {x : Nat} : mr155 S P 585 L (.ref x :: st) sh M c s = (mr155 S P 586 L (.ref x :: .ref x :: st) sh M c s) := propext (mv_R_iff (i := .dup) (len := 1) (ax := []) (by decide +kernel))
theorem e155_586 : mr155 S P 586 L st sh M c s = (mr155 S P 588 L (.int (nI 86) :: st) sh M c s) := propext (mv_R_iff (i := .bipush 86) (len := 2) (ax := []) (by decide +kernel))
theorem e155_588 : mr155 S P 588 L st sh M c s = (mr155 S P 590 L (.int (nI 100) :: st) sh M c s) := propext (mv_R_iff (i := .bipush 100) (len := 2) (ax := []) (by decide +kernel))
theorem e155_590 {x : Int32} {i : Int32} {a : Nat} : mr155 S P 590 L (.int x :: .int i :: .ref a :: st) sh M c s = (mv_kst sh M a i x (mr155 S P) 591 L st c s) := propext (mv_R_iff (i := .iastore) (len := 1) (ax := []) (by decide +kernel))
theorem e155_591 {x : Int32} : mr155 S P 591 L (.int x :: st) sh M c s = (mr155 S P 592 L (.int x :: .int x :: st) sh M c s) := propext (mv_R_iff (i := .dup) (len := 1) (ax := []) (by decide +kernel))
theorem e155_591r {x : Nat} : mr155 S P 591 L (.ref x :: st) sh M c s = (mr155 S P 592 L (.ref x :: .ref x :: st) sh M c s) := propext (mv_R_iff (i := .dup) (len := 1) (ax := []) (by decide +kernel))
theorem e155_592 : mr155 S P 592 L st sh M c s = (mr155 S P 594 L (.int (nI 87) :: st) sh M c s) := propext (mv_R_iff (i := .bipush 87) (len := 2) (ax := []) (by decide +kernel))
theorem e155_594 : mr155 S P 594 L st sh M c s = (mr155 S P 596 L (.int (nI 48) :: st) sh M c s) := propext (mv_R_iff (i := .bipush 48) (len := 2) (ax := []) (by decide +kernel))
theorem e155_596 {x : Int32} {i : Int32} {a : Nat} : mr155 S P 596 L (.int x :: .int i :: .ref a :: st) sh M c s = (mv_kst sh M a i x (mr155 S P) 597 L st c s) := propext (mv_R_iff (i := .iastore) (len := 1) (ax := []) (by decide +kernel))
theorem e155_597 {x : Int32} : mr155 S P 597 L (.int x :: st) sh M c s = (mr155 S P 598 L (.int x :: .int x :: st) sh M c s) := propext (mv_R_iff (i := .dup) (len := 1) (ax := []) (by decide +kernel))
theorem e155_597r {x : Nat} : mr155 S P 597 L (.ref x :: st) sh M c s = (mr155 S P 598 L (.ref x :: .ref x :: st) sh M c s) := propext (mv_R_iff (i := .dup) (len := 1) (ax := []) (by decide +kernel))
theorem e155_598 : mr155 S P 598 L st sh M c s = (mr155 S P 600 L (.int (nI 88) :: st) sh M c s) := propext (mv_R_iff (i := .bipush 88) (len := 2) (ax := []) (by decide +kernel))
theorem e155_600 : mr155 S P 600 L st sh M c s = (mr155 S P 602 L (.int (nI 102) :: st) sh M c s) := propext (mv_R_iff (i := .bipush 102) (len := 2) (ax := []) (by decide +kernel))
theorem e155_602 {x : Int32} {i : Int32} {a : Nat} : mr155 S P 602 L (.int x :: .int i :: .ref a :: st) sh M c s = (mv_kst sh M a i x (mr155 S P) 603 L st c s) := propext (mv_R_iff (i := .iastore) (len := 1) (ax := []) (by decide +kernel))
theorem e155_603 {x : Int32} : mr155 S P 603 L (.int x :: st) sh M c s = (mr155 S P 604 L (.int x :: .int x :: st) sh M c s) := propext (mv_R_iff (i := .dup) (len := 1) (ax := []) (by decide +kernel))
theorem e155_603r {x : Nat} : mr155 S P 603 L (.ref x :: st) sh M c s = (mr155 S P 604 L (.ref x :: .ref x :: st) sh M c s) := propext (mv_R_iff (i := .dup) (len := 1) (ax := []) (by decide +kernel))
theorem e155_604 : mr155 S P 604 L st sh M c s = (mr155 S P 606 L (.int (nI 89) :: st) sh M c s) := propext (mv_R_iff (i := .bipush 89) (len := 2) (ax := []) (by decide +kernel))
theorem e155_606 : mr155 S P 606 L st sh M c s = (mr155 S P 608 L (.int (nI 49) :: st) sh M c s) := propext (mv_R_iff (i := .bipush 49) (len := 2) (ax := []) (by decide +kernel))
theorem e155_608 {x : Int32} {i : Int32} {a : Nat} : mr155 S P 608 L (.int x :: .int i :: .ref a :: st) sh M c s = (mv_kst sh M a i x (mr155 S P) 609 L st c s) := propext (mv_R_iff (i := .iastore) (len := 1) (ax := []) (by decide +kernel))
theorem e155_609 {x : Int32} : mr155 S P 609 L (.int x :: st) sh M c s = (mr155 S P 610 L (.int x :: .int x :: st) sh M c s) := propext (mv_R_iff (i := .dup) (len := 1) (ax := []) (by decide +kernel))
theorem e155_609r {x : Nat} : mr155 S P 609 L (.ref x :: st) sh M c s = (mr155 S P 610 L (.ref x :: .ref x :: st) sh M c s) := propext (mv_R_iff (i := .dup) (len := 1) (ax := []) (by decide +kernel))
theorem e155_610 : mr155 S P 610 L st sh M c s = (mr155 S P 612 L (.int (nI 90) :: st) sh M c s) := propext (mv_R_iff (i := .bipush 90) (len := 2) (ax := []) (by decide +kernel))
theorem e155_612 : mr155 S P 612 L st sh M c s = (mr155 S P 614 L (.int (nI 102) :: st) sh M c s) := propext (mv_R_iff (i := .bipush 102) (len := 2) (ax := []) (by decide +kernel))
theorem e155_614 {x : Int32} {i : Int32} {a : Nat} : mr155 S P 614 L (.int x :: .int i :: .ref a :: st) sh M c s = (mv_kst sh M a i x (mr155 S P) 615 L st c s) := propext (mv_R_iff (i := .iastore) (len := 1) (ax := []) (by decide +kernel))
theorem e155_615 {x : Int32} : mr155 S P 615 L (.int x :: st) sh M c s = (mr155 S P 616 L (.int x :: .int x :: st) sh M c s) := propext (mv_R_iff (i := .dup) (len := 1) (ax := []) (by decide +kernel))
theorem e155_615r {x : Nat} : mr155 S P 615 L (.ref x :: st) sh M c s = (mr155 S P 616 L (.ref x :: .ref x :: st) sh M c s) := propext (mv_R_iff (i := .dup) (len := 1) (ax := []) (by decide +kernel))
theorem e155_616 : mr155 S P 616 L st sh M c s = (mr155 S P 618 L (.int (nI 91) :: st) sh M c s) := propext (mv_R_iff (i := .bipush 91) (len := 2) (ax := []) (by decide +kernel))
theorem e155_618 : mr155 S P 618 L st sh M c s = (mr155 S P 620 L (.int (nI 50) :: st) sh M c s) := propext (mv_R_iff (i := .bipush 50) (len := 2) (ax := []) (by decide +kernel))
theorem e155_620 {x : Int32} {i : Int32} {a : Nat} : mr155 S P 620 L (.int x :: .int i :: .ref a :: st) sh M c s = (mv_kst sh M a i x (mr155 S P) 621 L st c s) := propext (mv_R_iff (i := .iastore) (len := 1) (ax := []) (by decide +kernel))
theorem e155_621 {x : Int32} : mr155 S P 621 L (.int x :: st) sh M c s = (mr155 S P 622 L (.int x :: .int x :: st) sh M c s) := propext (mv_R_iff (i := .dup) (len := 1) (ax := []) (by decide +kernel))
theorem e155_621r {x : Nat} : mr155 S P 621 L (.ref x :: st) sh M c s = (mr155 S P 622 L (.ref x :: .ref x :: st) sh M c s) := propext (mv_R_iff (i := .dup) (len := 1) (ax := []) (by decide +kernel))
theorem e155_622 : mr155 S P 622 L st sh M c s = (mr155 S P 624 L (.int (nI 92) :: st) sh M c s) := propext (mv_R_iff (i := .bipush 92) (len := 2) (ax := []) (by decide +kernel))
theorem e155_624 : mr155 S P 624 L st sh M c s = (mr155 S P 626 L (.int (nI 98) :: st) sh M c s) := propext (mv_R_iff (i := .bipush 98) (len := 2) (ax := []) (by decide +kernel))
theorem e155_626 {x : Int32} {i : Int32} {a : Nat} : mr155 S P 626 L (.int x :: .int i :: .ref a :: st) sh M c s = (mv_kst sh M a i x (mr155 S P) 627 L st c s) := propext (mv_R_iff (i := .iastore) (len := 1) (ax := []) (by decide +kernel))
theorem e155_627 {x : Int32} : mr155 S P 627 L (.int x :: st) sh M c s = (mr155 S P 628 L (.int x :: .int x :: st) sh M c s) := propext (mv_R_iff (i := .dup) (len := 1) (ax := []) (by decide +kernel))
theorem e155_627r {x : Nat} : mr155 S P 627 L (.ref x :: st) sh M c s = (mr155 S P 628 L (.ref x :: .ref x :: st) sh M c s) := propext (mv_R_iff (i := .dup) (len := 1) (ax := []) (by decide +kernel))
theorem e155_628 : mr155 S P 628 L st sh M c s = (mr155 S P 630 L (.int (nI 93) :: st) sh M c s) := propext (mv_R_iff (i := .bipush 93) (len := 2) (ax := []) (by decide +kernel))
theorem e155_630 : mr155 S P 630 L st sh M c s = (mr155 S P 632 L (.int (nI 48) :: st) sh M c s) := propext (mv_R_iff (i := .bipush 48) (len := 2) (ax := []) (by decide +kernel))
theorem e155_632 {x : Int32} {i : Int32} {a : Nat} : mr155 S P 632 L (.int x :: .int i :: .ref a :: st) sh M c s = (mv_kst sh M a i x (mr155 S P) 633 L st c s) := propext (mv_R_iff (i := .iastore) (len := 1) (ax := []) (by decide +kernel))
theorem e155_633 {x : Int32} : mr155 S P 633 L (.int x :: st) sh M c s = (mr155 S P 634 L (.int x :: .int x :: st) sh M c s) := propext (mv_R_iff (i := .dup) (len := 1) (ax := []) (by decide +kernel))
theorem e155_633r {x : Nat} : mr155 S P 633 L (.ref x :: st) sh M c s = (mr155 S P 634 L (.ref x :: .ref x :: st) sh M c s) := propext (mv_R_iff (i := .dup) (len := 1) (ax := []) (by decide +kernel))
theorem e155_634 : mr155 S P 634 L st sh M c s = (mr155 S P 636 L (.int (nI 94) :: st) sh M c s) := propext (mv_R_iff (i := .bipush 94) (len := 2) (ax := []) (by decide +kernel))
theorem e155_636 : mr155 S P 636 L st sh M c s = (mr155 S P 638 L (.int (nI 102) :: st) sh M c s) := propext (mv_R_iff (i := .bipush 102) (len := 2) (ax := []) (by decide +kernel))
theorem e155_638 {x : Int32} {i : Int32} {a : Nat} : mr155 S P 638 L (.int x :: .int i :: .ref a :: st) sh M c s = (mv_kst sh M a i x (mr155 S P) 639 L st c s) := propext (mv_R_iff (i := .iastore) (len := 1) (ax := []) (by decide +kernel))
theorem e155_639 {x : Int32} : mr155 S P 639 L (.int x :: st) sh M c s = (mr155 S P 640 L (.int x :: .int x :: st) sh M c s) := propext (mv_R_iff (i := .dup) (len := 1) (ax := []) (by decide +kernel))
theorem e155_639r {x : Nat} : mr155 S P 639 L (.ref x :: st) sh M c s = (mr155 S P 640 L (.ref x :: .ref x :: st) sh M c s) := propext (mv_R_iff (i := .dup) (len := 1) (ax := []) (by decide +kernel))
theorem e155_640 : mr155 S P 640 L st sh M c s = (mr155 S P 642 L (.int (nI 95) :: st) sh M c s) := propext (mv_R_iff (i := .bipush 95) (len := 2) (ax := []) (by decide +kernel))
theorem e155_642 : mr155 S P 642 L st sh M c s = (mr155 S P 644 L (.int (nI 59) :: st) sh M c s) := propext (mv_R_iff (i := .bipush 59) (len := 2) (ax := []) (by decide +kernel))
theorem e155_644 {x : Int32} {i : Int32} {a : Nat} : mr155 S P 644 L (.int x :: .int i :: .ref a :: st) sh M c s = (mv_kst sh M a i x (mr155 S P) 645 L st c s) := propext (mv_R_iff (i := .iastore) (len := 1) (ax := []) (by decide +kernel))
theorem e155_645 {x : Nat} {a : Nat} : mr155 S P 645 L (.ref x :: .ref a :: st) sh M c s = (mv_kpr sh M a 5 16 x (mr155 S P) 648 L st c s) := (propext (mv_R_iff (i := .putfield 34) (len := 3) (ax := [1041, 2, 5, 16, 3]) (by decide +kernel))).trans (q_tt)
theorem e155_648 : mr155 S P 648 L st sh M c s = (q_isA (q_gv L 0) ∧ mr155 S P 649 L (q_gv L 0 :: st) sh M c s) := (propext (mv_R_iff (i := .aload_n 0) (len := 1) (ax := []) (by decide +kernel))).trans (q_ldA_eq (K := fun st => mr155 S P 649 L st sh M c s))
theorem e155_649 : mr155 S P 649 L st sh M c s = (mr155 S P 651 L (.int (nI 6) :: st) sh M c s) := propext (mv_R_iff (i := .bipush 6) (len := 2) (ax := []) (by decide +kernel))
theorem e155_651 {n : Int32} : mr155 S P 651 L (.int n :: st) sh M c s = ((sh.length < 900 ∧ ¬ n < 0 ∧ n.toNatClampNeg ≤ 10000 ∧ c + 1 ≤ 23 ∧ s + n.toNatClampNeg ≤ 42770) ∧ mr155 S P 653 L (.ref sh.length :: st) (sh ++ [.inl (0, n.toNatClampNeg)]) (mv_wr M sh.length (fun _ => 0)) (c + 1) (s + n.toNatClampNeg)) := propext (mv_R_iff (i := .newarray .int) (len := 2) (ax := [210, 0]) (by decide +kernel))
theorem e155_653 {x : Nat} {a : Nat} : mr155 S P 653 L (.ref x :: .ref a :: st) sh M c s = (mv_kpr sh M a 5 20 x (mr155 S P) 656 L st c s) := (propext (mv_R_iff (i := .putfield 37) (len := 3) (ax := [1045, 2, 5, 20, 3]) (by decide +kernel))).trans (q_tt)
theorem e155_656 : mr155 S P 656 L st sh M c s = (q_isA (q_gv L 0) ∧ mr155 S P 657 L (q_gv L 0 :: st) sh M c s) := (propext (mv_R_iff (i := .aload_n 0) (len := 1) (ax := []) (by decide +kernel))).trans (q_ldA_eq (K := fun st => mr155 S P 657 L st sh M c s))
theorem e155_657 : mr155 S P 657 L st sh M c s = (mr155 S P 659 L (.int (nI 6) :: st) sh M c s) := propext (mv_R_iff (i := .bipush 6) (len := 2) (ax := []) (by decide +kernel))
theorem e155_659 {n : Int32} : mr155 S P 659 L (.int n :: st) sh M c s = ((sh.length < 900 ∧ ¬ n < 0 ∧ n.toNatClampNeg ≤ 10000 ∧ c + 1 ≤ 23 ∧ s + n.toNatClampNeg ≤ 42770) ∧ mr155 S P 661 L (.ref sh.length :: st) (sh ++ [.inl (0, n.toNatClampNeg)]) (mv_wr M sh.length (fun _ => 0)) (c + 1) (s + n.toNatClampNeg)) := propext (mv_R_iff (i := .newarray .int) (len := 2) (ax := [210, 0]) (by decide +kernel))
theorem e155_661 {x : Nat} {a : Nat} : mr155 S P 661 L (.ref x :: .ref a :: st) sh M c s = (mv_kpr sh M a 5 21 x (mr155 S P) 664 L st c s) := (propext (mv_R_iff (i := .putfield 40) (len := 3) (ax := [1046, 2, 5, 21, 3]) (by decide +kernel))).trans (q_tt)
theorem e155_664 : mr155 S P 664 L st sh M c s = (q_isA (q_gv L 0) ∧ mr155 S P 665 L (q_gv L 0 :: st) sh M c s) := (propext (mv_R_iff (i := .aload_n 0) (len := 1) (ax := []) (by decide +kernel))).trans (q_ldA_eq (K := fun st => mr155 S P 665 L st sh M c s))
theorem e155_665 : mr155 S P 665 L st sh M c s = (mr155 S P 667 L (.int (nI 24) :: st) sh M c s) := propext (mv_R_iff (i := .bipush 24) (len := 2) (ax := []) (by decide +kernel))
theorem e155_667 {n : Int32} : mr155 S P 667 L (.int n :: st) sh M c s = ((sh.length < 900 ∧ ¬ n < 0 ∧ n.toNatClampNeg ≤ 10000 ∧ c + 1 ≤ 23 ∧ s + n.toNatClampNeg ≤ 42770) ∧ mr155 S P 669 L (.ref sh.length :: st) (sh ++ [.inl (0, n.toNatClampNeg)]) (mv_wr M sh.length (fun _ => 0)) (c + 1) (s + n.toNatClampNeg)) := propext (mv_R_iff (i := .newarray .int) (len := 2) (ax := [210, 0]) (by decide +kernel))
theorem e155_669 {x : Nat} {a : Nat} : mr155 S P 669 L (.ref x :: .ref a :: st) sh M c s = (mv_kpr sh M a 5 22 x (mr155 S P) 672 L st c s) := (propext (mv_R_iff (i := .putfield 43) (len := 3) (ax := [1047, 2, 5, 22, 3]) (by decide +kernel))).trans (q_tt)
theorem e155_672 : mr155 S P 672 L st sh M c s = (q_isA (q_gv L 0) ∧ mr155 S P 673 L (q_gv L 0 :: st) sh M c s) := (propext (mv_R_iff (i := .aload_n 0) (len := 1) (ax := []) (by decide +kernel))).trans (q_ldA_eq (K := fun st => mr155 S P 673 L st sh M c s))
theorem e155_673 : mr155 S P 673 L st sh M c s = (mr155 S P 675 L (.int (nI 6) :: st) sh M c s) := propext (mv_R_iff (i := .bipush 6) (len := 2) (ax := []) (by decide +kernel))
theorem e155_675 {n : Int32} : mr155 S P 675 L (.int n :: st) sh M c s = ((sh.length < 900 ∧ ¬ n < 0 ∧ n.toNatClampNeg ≤ 10000 ∧ c + 1 ≤ 23 ∧ s + n.toNatClampNeg ≤ 42770) ∧ mr155 S P 677 L (.ref sh.length :: st) (sh ++ [.inl (0, n.toNatClampNeg)]) (mv_wr M sh.length (fun _ => 0)) (c + 1) (s + n.toNatClampNeg)) := propext (mv_R_iff (i := .newarray .int) (len := 2) (ax := [210, 0]) (by decide +kernel))
theorem e155_677 {x : Nat} {a : Nat} : mr155 S P 677 L (.ref x :: .ref a :: st) sh M c s = (mv_kpr sh M a 5 24 x (mr155 S P) 680 L st c s) := (propext (mv_R_iff (i := .putfield 46) (len := 3) (ax := [1049, 2, 5, 24, 3]) (by decide +kernel))).trans (q_tt)
theorem e155_680 : mr155 S P 680 L st sh M c s = (q_isA (q_gv L 0) ∧ mr155 S P 681 L (q_gv L 0 :: st) sh M c s) := (propext (mv_R_iff (i := .aload_n 0) (len := 1) (ax := []) (by decide +kernel))).trans (q_ldA_eq (K := fun st => mr155 S P 681 L st sh M c s))
theorem e155_681 : mr155 S P 681 L st sh M c s = (mr155 S P 683 L (.int (nI 8) :: st) sh M c s) := propext (mv_R_iff (i := .bipush 8) (len := 2) (ax := []) (by decide +kernel))
theorem e155_683 {n : Int32} : mr155 S P 683 L (.int n :: st) sh M c s = ((sh.length < 900 ∧ ¬ n < 0 ∧ n.toNatClampNeg ≤ 10000 ∧ c + 1 ≤ 23 ∧ s + n.toNatClampNeg ≤ 42770) ∧ mr155 S P 685 L (.ref sh.length :: st) (sh ++ [.inl (0, n.toNatClampNeg)]) (mv_wr M sh.length (fun _ => 0)) (c + 1) (s + n.toNatClampNeg)) := propext (mv_R_iff (i := .newarray .int) (len := 2) (ax := [210, 0]) (by decide +kernel))
theorem e155_685 {x : Nat} {a : Nat} : mr155 S P 685 L (.ref x :: .ref a :: st) sh M c s = (mv_kpr sh M a 5 27 x (mr155 S P) 688 L st c s) := (propext (mv_R_iff (i := .putfield 49) (len := 3) (ax := [1052, 2, 5, 27, 3]) (by decide +kernel))).trans (q_tt)
theorem e155_688 : mr155 S P 688 L st sh M c s = (q_isA (q_gv L 0) ∧ mr155 S P 689 L (q_gv L 0 :: st) sh M c s) := (propext (mv_R_iff (i := .aload_n 0) (len := 1) (ax := []) (by decide +kernel))).trans (q_ldA_eq (K := fun st => mr155 S P 689 L st sh M c s))
theorem e155_689 : mr155 S P 689 L st sh M c s = (mr155 S P 691 L (.int (nI 12) :: st) sh M c s) := propext (mv_R_iff (i := .bipush 12) (len := 2) (ax := []) (by decide +kernel))
theorem e155_691 {n : Int32} : mr155 S P 691 L (.int n :: st) sh M c s = ((sh.length < 900 ∧ ¬ n < 0 ∧ n.toNatClampNeg ≤ 10000 ∧ c + 1 ≤ 23 ∧ s + n.toNatClampNeg ≤ 42770) ∧ mr155 S P 693 L (.ref sh.length :: st) (sh ++ [.inl (0, n.toNatClampNeg)]) (mv_wr M sh.length (fun _ => 0)) (c + 1) (s + n.toNatClampNeg)) := propext (mv_R_iff (i := .newarray .int) (len := 2) (ax := [210, 0]) (by decide +kernel))
theorem e155_693 {x : Nat} {a : Nat} : mr155 S P 693 L (.ref x :: .ref a :: st) sh M c s = (mv_kpr sh M a 5 28 x (mr155 S P) 696 L st c s) := (propext (mv_R_iff (i := .putfield 52) (len := 3) (ax := [1053, 2, 5, 28, 3]) (by decide +kernel))).trans (q_tt)
theorem e155_696 : mr155 S P 696 L st sh M c s = (q_isA (q_gv L 0) ∧ mr155 S P 697 L (q_gv L 0 :: st) sh M c s) := (propext (mv_R_iff (i := .aload_n 0) (len := 1) (ax := []) (by decide +kernel))).trans (q_ldA_eq (K := fun st => mr155 S P 697 L st sh M c s))
theorem e155_697 : mr155 S P 697 L st sh M c s = (mr155 S P 700 L (.int (nI 4096) :: st) sh M c s) := propext (mv_R_iff (i := .sipush 4096) (len := 3) (ax := []) (by decide +kernel))
theorem e155_700 {n : Int32} : mr155 S P 700 L (.int n :: st) sh M c s = ((sh.length < 900 ∧ ¬ n < 0 ∧ n.toNatClampNeg ≤ 10000 ∧ c + 1 ≤ 23 ∧ s + n.toNatClampNeg ≤ 42770) ∧ mr155 S P 702 L (.ref sh.length :: st) (sh ++ [.inl (0, n.toNatClampNeg)]) (mv_wr M sh.length (fun _ => 0)) (c + 1) (s + n.toNatClampNeg)) := propext (mv_R_iff (i := .newarray .int) (len := 2) (ax := [210, 0]) (by decide +kernel))
theorem e155_702 {x : Nat} {a : Nat} : mr155 S P 702 L (.ref x :: .ref a :: st) sh M c s = (mv_kpr sh M a 5 29 x (mr155 S P) 705 L st c s) := (propext (mv_R_iff (i := .putfield 55) (len := 3) (ax := [1054, 2, 5, 29, 3]) (by decide +kernel))).trans (q_tt)
theorem e155_705 : mr155 S P 705 L st sh M c s = (q_isA (q_gv L 0) ∧ mr155 S P 706 L (q_gv L 0 :: st) sh M c s) := (propext (mv_R_iff (i := .aload_n 0) (len := 1) (ax := []) (by decide +kernel))).trans (q_ldA_eq (K := fun st => mr155 S P 706 L st sh M c s))
theorem e155_706 : mr155 S P 706 L st sh M c s = (mr155 S P 709 L (.int (nI 4096) :: st) sh M c s) := propext (mv_R_iff (i := .sipush 4096) (len := 3) (ax := []) (by decide +kernel))
theorem e155_709 {n : Int32} : mr155 S P 709 L (.int n :: st) sh M c s = ((sh.length < 900 ∧ ¬ n < 0 ∧ n.toNatClampNeg ≤ 10000 ∧ c + 1 ≤ 23 ∧ s + n.toNatClampNeg ≤ 42770) ∧ mr155 S P 711 L (.ref sh.length :: st) (sh ++ [.inl (0, n.toNatClampNeg)]) (mv_wr M sh.length (fun _ => 0)) (c + 1) (s + n.toNatClampNeg)) := propext (mv_R_iff (i := .newarray .int) (len := 2) (ax := [210, 0]) (by decide +kernel))
theorem e155_711 {x : Nat} {a : Nat} : mr155 S P 711 L (.ref x :: .ref a :: st) sh M c s = (mv_kpr sh M a 5 30 x (mr155 S P) 714 L st c s) := (propext (mv_R_iff (i := .putfield 58) (len := 3) (ax := [1055, 2, 5, 30, 3]) (by decide +kernel))).trans (q_tt)
theorem e155_714 : mr155 S P 714 L st sh M c s = (q_isA (q_gv L 0) ∧ mr155 S P 715 L (q_gv L 0 :: st) sh M c s) := (propext (mv_R_iff (i := .aload_n 0) (len := 1) (ax := []) (by decide +kernel))).trans (q_ldA_eq (K := fun st => mr155 S P 715 L st sh M c s))
theorem e155_715 : mr155 S P 715 L st sh M c s = (mr155 S P 718 L (.int (nI 4096) :: st) sh M c s) := propext (mv_R_iff (i := .sipush 4096) (len := 3) (ax := []) (by decide +kernel))
theorem e155_718 {n : Int32} : mr155 S P 718 L (.int n :: st) sh M c s = ((sh.length < 900 ∧ ¬ n < 0 ∧ n.toNatClampNeg ≤ 10000 ∧ c + 1 ≤ 23 ∧ s + n.toNatClampNeg ≤ 42770) ∧ mr155 S P 720 L (.ref sh.length :: st) (sh ++ [.inl (2, n.toNatClampNeg)]) (mv_wr M sh.length (fun _ => 0)) (c + 1) (s + n.toNatClampNeg)) := propext (mv_R_iff (i := .newarray .boolean) (len := 2) (ax := [1143, 2]) (by decide +kernel))
theorem e155_720 {x : Nat} {a : Nat} : mr155 S P 720 L (.ref x :: .ref a :: st) sh M c s = (mv_kpr sh M a 5 31 x (mr155 S P) 723 L st c s) := (propext (mv_R_iff (i := .putfield 61) (len := 3) (ax := [1056, 2, 5, 31, 3]) (by decide +kernel))).trans (q_tt)
theorem e155_723 : mr155 S P 723 L st sh M c s = (q_isA (q_gv L 0) ∧ mr155 S P 724 L (q_gv L 0 :: st) sh M c s) := (propext (mv_R_iff (i := .aload_n 0) (len := 1) (ax := []) (by decide +kernel))).trans (q_ldA_eq (K := fun st => mr155 S P 724 L st sh M c s))
theorem e155_724 : mr155 S P 724 L st sh M c s = (mr155 S P 727 L (.int (nI 4096) :: st) sh M c s) := propext (mv_R_iff (i := .sipush 4096) (len := 3) (ax := []) (by decide +kernel))
theorem e155_727 {n : Int32} : mr155 S P 727 L (.int n :: st) sh M c s = ((sh.length < 900 ∧ ¬ n < 0 ∧ n.toNatClampNeg ≤ 10000 ∧ c + 1 ≤ 23 ∧ s + n.toNatClampNeg ≤ 42770) ∧ mr155 S P 729 L (.ref sh.length :: st) (sh ++ [.inl (0, n.toNatClampNeg)]) (mv_wr M sh.length (fun _ => 0)) (c + 1) (s + n.toNatClampNeg)) := propext (mv_R_iff (i := .newarray .int) (len := 2) (ax := [210, 0]) (by decide +kernel))
theorem e155_729 {x : Nat} {a : Nat} : mr155 S P 729 L (.ref x :: .ref a :: st) sh M c s = (mv_kpr sh M a 5 33 x (mr155 S P) 732 L st c s) := (propext (mv_R_iff (i := .putfield 65) (len := 3) (ax := [1058, 2, 5, 33, 3]) (by decide +kernel))).trans (q_tt)
theorem e155_732 : mr155 S P 732 L st sh M c s = (q_isA (q_gv L 0) ∧ mr155 S P 733 L (q_gv L 0 :: st) sh M c s) := (propext (mv_R_iff (i := .aload_n 0) (len := 1) (ax := []) (by decide +kernel))).trans (q_ldA_eq (K := fun st => mr155 S P 733 L st sh M c s))
theorem e155_733 : mr155 S P 733 L st sh M c s = (mr155 S P 736 L (.int (nI 4096) :: st) sh M c s) := propext (mv_R_iff (i := .sipush 4096) (len := 3) (ax := []) (by decide +kernel))
theorem e155_736 {n : Int32} : mr155 S P 736 L (.int n :: st) sh M c s = ((sh.length < 900 ∧ ¬ n < 0 ∧ n.toNatClampNeg ≤ 10000 ∧ c + 1 ≤ 23 ∧ s + n.toNatClampNeg ≤ 42770) ∧ mr155 S P 738 L (.ref sh.length :: st) (sh ++ [.inl (0, n.toNatClampNeg)]) (mv_wr M sh.length (fun _ => 0)) (c + 1) (s + n.toNatClampNeg)) := propext (mv_R_iff (i := .newarray .int) (len := 2) (ax := [210, 0]) (by decide +kernel))
theorem e155_738 {x : Nat} {a : Nat} : mr155 S P 738 L (.ref x :: .ref a :: st) sh M c s = (mv_kpr sh M a 5 34 x (mr155 S P) 741 L st c s) := (propext (mv_R_iff (i := .putfield 68) (len := 3) (ax := [1059, 2, 5, 34, 3]) (by decide +kernel))).trans (q_tt)
theorem e155_741 : mr155 S P 741 L st sh M c s = (q_isA (q_gv L 0) ∧ mr155 S P 742 L (q_gv L 0 :: st) sh M c s) := (propext (mv_R_iff (i := .aload_n 0) (len := 1) (ax := []) (by decide +kernel))).trans (q_ldA_eq (K := fun st => mr155 S P 742 L st sh M c s))
theorem e155_742 : mr155 S P 742 L st sh M c s = (mr155 S P 745 L (.int (nI 4096) :: st) sh M c s) := propext (mv_R_iff (i := .sipush 4096) (len := 3) (ax := []) (by decide +kernel))
theorem e155_745 {n : Int32} : mr155 S P 745 L (.int n :: st) sh M c s = ((sh.length < 900 ∧ ¬ n < 0 ∧ n.toNatClampNeg ≤ 10000 ∧ c + 1 ≤ 23 ∧ s + n.toNatClampNeg ≤ 42770) ∧ mr155 S P 747 L (.ref sh.length :: st) (sh ++ [.inl (0, n.toNatClampNeg)]) (mv_wr M sh.length (fun _ => 0)) (c + 1) (s + n.toNatClampNeg)) := propext (mv_R_iff (i := .newarray .int) (len := 2) (ax := [210, 0]) (by decide +kernel))
theorem e155_747 {x : Nat} {a : Nat} : mr155 S P 747 L (.ref x :: .ref a :: st) sh M c s = (mv_kpr sh M a 5 35 x (mr155 S P) 750 L st c s) := (propext (mv_R_iff (i := .putfield 71) (len := 3) (ax := [1060, 2, 5, 35, 3]) (by decide +kernel))).trans (q_tt)
theorem e155_750 : mr155 S P 750 L st sh M c s = (q_isA (q_gv L 0) ∧ mr155 S P 751 L (q_gv L 0 :: st) sh M c s) := (propext (mv_R_iff (i := .aload_n 0) (len := 1) (ax := []) (by decide +kernel))).trans (q_ldA_eq (K := fun st => mr155 S P 751 L st sh M c s))
theorem e155_751 : mr155 S P 751 L st sh M c s = (mr155 S P 754 L (.int (nI 4096) :: st) sh M c s) := propext (mv_R_iff (i := .sipush 4096) (len := 3) (ax := []) (by decide +kernel))
theorem e155_754 {n : Int32} : mr155 S P 754 L (.int n :: st) sh M c s = ((sh.length < 900 ∧ ¬ n < 0 ∧ n.toNatClampNeg ≤ 10000 ∧ c + 1 ≤ 23 ∧ s + n.toNatClampNeg ≤ 42770) ∧ mr155 S P 756 L (.ref sh.length :: st) (sh ++ [.inl (0, n.toNatClampNeg)]) (mv_wr M sh.length (fun _ => 0)) (c + 1) (s + n.toNatClampNeg)) := propext (mv_R_iff (i := .newarray .int) (len := 2) (ax := [210, 0]) (by decide +kernel))
theorem e155_756 {x : Nat} {a : Nat} : mr155 S P 756 L (.ref x :: .ref a :: st) sh M c s = (mv_kpr sh M a 5 37 x (mr155 S P) 759 L st c s) := (propext (mv_R_iff (i := .putfield 74) (len := 3) (ax := [1062, 2, 5, 37, 3]) (by decide +kernel))).trans (q_tt)
theorem e155_759 : mr155 S P 759 L st sh M c s = (q_isA (q_gv L 0) ∧ mr155 S P 760 L (q_gv L 0 :: st) sh M c s) := (propext (mv_R_iff (i := .aload_n 0) (len := 1) (ax := []) (by decide +kernel))).trans (q_ldA_eq (K := fun st => mr155 S P 760 L st sh M c s))
theorem e155_760 : mr155 S P 760 L st sh M c s = (mr155 S P 763 L (.int (nI 4096) :: st) sh M c s) := propext (mv_R_iff (i := .sipush 4096) (len := 3) (ax := []) (by decide +kernel))
theorem e155_763 {n : Int32} : mr155 S P 763 L (.int n :: st) sh M c s = ((sh.length < 900 ∧ ¬ n < 0 ∧ n.toNatClampNeg ≤ 10000 ∧ c + 1 ≤ 23 ∧ s + n.toNatClampNeg ≤ 42770) ∧ mr155 S P 765 L (.ref sh.length :: st) (sh ++ [.inl (0, n.toNatClampNeg)]) (mv_wr M sh.length (fun _ => 0)) (c + 1) (s + n.toNatClampNeg)) := propext (mv_R_iff (i := .newarray .int) (len := 2) (ax := [210, 0]) (by decide +kernel))
theorem e155_765 {x : Nat} {a : Nat} : mr155 S P 765 L (.ref x :: .ref a :: st) sh M c s = (mv_kpr sh M a 5 38 x (mr155 S P) 768 L st c s) := (propext (mv_R_iff (i := .putfield 77) (len := 3) (ax := [1063, 2, 5, 38, 3]) (by decide +kernel))).trans (q_tt)
theorem e155_768 : mr155 S P 768 L st sh M c s = (mr155 S P 769 L (.int (nI 0) :: st) sh M c s) := propext (mv_R_iff (i := .iconst 0) (len := 1) (ax := []) (by decide +kernel))
theorem e155_769 {x : Int32} : mr155 S P 769 L (.int x :: st) sh M c s = (q_hs L 1 ∧ mr155 S P 770 (L.set 1 (some (.int x))) st sh M c s) := (propext (mv_R_iff (i := .istore_n 1) (len := 1) (ax := []) (by decide +kernel))).trans (q_st_eq (K := fun L => mr155 S P 770 L st sh M c s))
theorem e155_770 : mr155 S P 770 L st sh M c s = (q_isI (q_gv L 1) ∧ mr155 S P 771 L (q_gv L 1 :: st) sh M c s) := (propext (mv_R_iff (i := .iload_n 1) (len := 1) (ax := []) (by decide +kernel))).trans (q_ldI_eq (K := fun st => mr155 S P 771 L st sh M c s))
theorem e155_771 : mr155 S P 771 L st sh M c s = (mr155 S P 773 L (.int (nI 96) :: st) sh M c s) := propext (mv_R_iff (i := .bipush 96) (len := 2) (ax := []) (by decide +kernel))
theorem e155_773 {y : Int32} {x : Int32} : mr155 S P 773 L (.int y :: .int x :: st) sh M c s = (if y ≤ x then mr155 S P 794 L st sh M c s else mr155 S P 776 L st sh M c s) := (propext (mv_R_iff (i := .if_icmp .ge 21) (len := 3) (ax := [794]) (by decide +kernel))).trans (q_br)
theorem e155_776 : mr155 S P 776 L st sh M c s = (q_isA (q_gv L 0) ∧ mr155 S P 777 L (q_gv L 0 :: st) sh M c s) := (propext (mv_R_iff (i := .aload_n 0) (len := 1) (ax := []) (by decide +kernel))).trans (q_ldA_eq (K := fun st => mr155 S P 777 L st sh M c s))
theorem e155_777 {a : Nat} : mr155 S P 777 L (.ref a :: st) sh M c s = (mv_kgf sh M a 5 12 (mr155 S P) 780 L st c s) := propext (mv_R_iff (i := .getfield 28) (len := 3) (ax := [1037, 0, 5, 12]) (by decide +kernel))
theorem e155_780 : mr155 S P 780 L st sh M c s = (q_isI (q_gv L 1) ∧ mr155 S P 781 L (q_gv L 1 :: st) sh M c s) := (propext (mv_R_iff (i := .iload_n 1) (len := 1) (ax := []) (by decide +kernel))).trans (q_ldI_eq (K := fun st => mr155 S P 781 L st sh M c s))
theorem e155_781 : mr155 S P 781 L st sh M c s = (q_isA (q_gv L 0) ∧ mr155 S P 782 L (q_gv L 0 :: st) sh M c s) := (propext (mv_R_iff (i := .aload_n 0) (len := 1) (ax := []) (by decide +kernel))).trans (q_ldA_eq (K := fun st => mr155 S P 782 L st sh M c s))
theorem e155_782 {a : Nat} : mr155 S P 782 L (.ref a :: st) sh M c s = (mv_kgf sh M a 5 16 (mr155 S P) 785 L st c s) := propext (mv_R_iff (i := .getfield 34) (len := 3) (ax := [1041, 0, 5, 16]) (by decide +kernel))
theorem e155_785 : mr155 S P 785 L st sh M c s = (q_isI (q_gv L 1) ∧ mr155 S P 786 L (q_gv L 1 :: st) sh M c s) := (propext (mv_R_iff (i := .iload_n 1) (len := 1) (ax := []) (by decide +kernel))).trans (q_ldI_eq (K := fun st => mr155 S P 786 L st sh M c s))
theorem e155_786 {i : Int32} {a : Nat} : mr155 S P 786 L (.int i :: .ref a :: st) sh M c s = (mv_kld sh M a i (mr155 S P) 787 L st c s) := propext (mv_R_iff (i := .iaload) (len := 1) (ax := []) (by decide +kernel))
theorem e155_787 {x : Int32} {i : Int32} {a : Nat} : mr155 S P 787 L (.int x :: .int i :: .ref a :: st) sh M c s = (mv_kst sh M a i x (mr155 S P) 788 L st c s) := propext (mv_R_iff (i := .iastore) (len := 1) (ax := []) (by decide +kernel))
theorem e155_788 : mr155 S P 788 L st sh M c s = ((q_isI (q_gv L 1) ∧ q_hs L 1) ∧ mr155 S P 791 (L.set 1 (some (q_inc (q_gv L 1) (nI 1)))) st sh M c s) := (propext (mv_R_iff (i := .iinc 1 1) (len := 3) (ax := []) (by decide +kernel))).trans (q_inc_eq (K := fun L => mr155 S P 791 L st sh M c s))
theorem e155_791 : mr155 S P 791 L st sh M c s = (mr155 S P 770 L st sh M c s) := propext (mv_R_iff (i := .goto (-21)) (len := 3) (ax := [770]) (by decide +kernel))
theorem e155_794 : mr155 S P 794 L st sh M c s = (q_isA (q_gv L 0) ∧ mr155 S P 795 L (q_gv L 0 :: st) sh M c s) := (propext (mv_R_iff (i := .aload_n 0) (len := 1) (ax := []) (by decide +kernel))).trans (q_ldA_eq (K := fun st => mr155 S P 795 L st sh M c s))
theorem e155_795 : mr155 S P 795 L st sh M c s = (mr155 S P 797 L (.int (nI 96) :: st) sh M c s) := propext (mv_R_iff (i := .bipush 96) (len := 2) (ax := []) (by decide +kernel))
theorem e155_797 {x : Int32} {a : Nat} : mr155 S P 797 L (.int x :: .ref a :: st) sh M c s = (True ∧ mv_kpf sh M a 5 13 x (mr155 S P) 800 L st c s) := propext (mv_R_iff (i := .putfield 80) (len := 3) (ax := [1038, 0, 5, 13, 0]) (by decide +kernel))
theorem e155_800 : mr155 S P 800 L st sh M c s = (q_isA (q_gv L 0) ∧ mr155 S P 801 L (q_gv L 0 :: st) sh M c s) := (propext (mv_R_iff (i := .aload_n 0) (len := 1) (ax := []) (by decide +kernel))).trans (q_ldA_eq (K := fun st => mr155 S P 801 L st sh M c s))
theorem e155_801 {v1 : Value} : mr155 S P 801 L (v1 :: st) sh M c s = (mv_ss st ≤ 8 ∧ c ≤ 23 ∧ s ≤ 42770 ∧ mv_isO sh (some v1) 5 ∧ mv_kal S 154 [v1] sh M (mr155 S P) 804 L st c s) := (propext (mv_R_iff (i := .invokevirtual 84) (len := 3) (ax := [0, 154, 1, 5, 0, 0, 0, 977, 978, 979, 119, 980]) (by decide +kernel))).trans (q_call0)
theorem e155_804 {x : Int32} : mr155 S P 804 L (.int x :: st) sh M c s = (mr155 S P 805 L st sh M c s) := propext (mv_R_iff (i := .pop) (len := 1) (ax := []) (by decide +kernel))
theorem e155_804r {x : Nat} : mr155 S P 804 L (.ref x :: st) sh M c s = (mr155 S P 805 L st sh M c s) := propext (mv_R_iff (i := .pop) (len := 1) (ax := []) (by decide +kernel))
theorem e155_805 : mr155 S P 805 L st sh M c s = (q_isA (q_gv L 0) ∧ mr155 S P 806 L (q_gv L 0 :: st) sh M c s) := (propext (mv_R_iff (i := .aload_n 0) (len := 1) (ax := []) (by decide +kernel))).trans (q_ldA_eq (K := fun st => mr155 S P 806 L st sh M c s))
theorem e155_806 : mr155 S P 806 L st sh M c s = (mr155 S P 807 L (.int (nI 0) :: st) sh M c s) := propext (mv_R_iff (i := .iconst 0) (len := 1) (ax := []) (by decide +kernel))
theorem e155_807 {x : Int32} {a : Nat} : mr155 S P 807 L (.int x :: .ref a :: st) sh M c s = (True ∧ mv_kpf sh M a 5 13 x (mr155 S P) 810 L st c s) := propext (mv_R_iff (i := .putfield 80) (len := 3) (ax := [1038, 0, 5, 13, 0]) (by decide +kernel))
theorem e155_810 : mr155 S P 810 L [] sh M c s = (P none sh M) := propext (mv_R_iff (i := .return_) (len := 1) (ax := []) (by decide +kernel))
end CD
