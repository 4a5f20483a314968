theorem fp_RX12_7 : ix_fpb 1566 0 false RX12 7 "ClauseCourtModel" [11] 2 "[I" true = true := by decide +kernel
theorem fp_RX12_13 : ix_fpb 1567 0 false RX12 13 "ClauseCourtModel" [11] 3 "[Z" true = true := by decide +kernel
theorem fp_RX12_17 : ix_fpb 1569 0 false RX12 17 "ClauseCourtModel" [11] 5 "[I" true = true := by decide +kernel
theorem fp_RX12_20 : ix_fpb 1570 0 false RX12 20 "ClauseCourtModel" [11] 6 "[I" true = true := by decide +kernel
theorem fp_RX12_23 : ix_fpb 1571 0 false RX12 23 "ClauseCourtModel" [11] 7 "[I" true = true := by decide +kernel
theorem fp_RX12_26 : ix_fpb 1573 0 false RX12 26 "ClauseCourtModel" [11] 9 "[I" true = true := by decide +kernel
theorem fp_RX12_29 : ix_fpb 1576 0 false RX12 29 "ClauseCourtModel" [11] 12 "[I" true = true := by decide +kernel
theorem fp_RX12_32 : ix_fpb 1577 0 false RX12 32 "ClauseCourtModel" [11] 13 "[I" true = true := by decide +kernel
theorem fp_RX12_35 : ix_fpb 1578 0 false RX12 35 "ClauseCourtModel" [11] 14 "[Z" true = true := by decide +kernel
theorem fp_RX12_38 : ix_fpb 1579 0 false RX12 38 "ClauseCourtModel" [11] 15 "[I" true = true := by decide +kernel
theorem fp_RX12_41 : ix_fpb 1580 0 false RX12 41 "ClauseCourtModel" [11] 16 "[I" true = true := by decide +kernel
theorem fp_RX12_44 : ix_fpb 1581 0 false RX12 44 "ClauseCourtModel" [11] 17 "[I" true = true := by decide +kernel
theorem fp_RX12_47 : ix_fpb 1582 0 false RX12 47 "ClauseCourtModel" [11] 18 "[I" true = true := by decide +kernel
theorem fp_RX12_50 : ix_fpb 1583 0 false RX12 50 "ClauseCourtModel" [11] 19 "[I" true = true := by decide +kernel
theorem fp_RX12_53 : ix_fpb 1584 0 false RX12 53 "ClauseCourtModel" [11] 20 "[I" true = true := by decide +kernel
theorem fp_RX12_56 : ix_fpb 1585 0 false RX12 56 "ClauseCourtModel" [11] 21 "[I" true = true := by decide +kernel
theorem fp_RX12_59 : ix_fpb 1586 0 false RX12 59 "ClauseCourtModel" [11] 22 "[I" true = true := by decide +kernel
theorem fp_RX12_62 : ix_fpb 1588 0 false RX12 62 "ClauseCourtModel" [11] 24 "[I" true = true := by decide +kernel
theorem fp_RX12_65 : ix_fpb 1589 0 false RX12 65 "ClauseCourtModel" [11] 25 "[I" true = true := by decide +kernel
theorem fp_RX12_68 : ix_fpb 1590 0 false RX12 68 "ClauseCourtModel" [11] 26 "[I" true = true := by decide +kernel
theorem fp_RX12_71 : ix_fpb 1592 0 false RX12 71 "ClauseCourtModel" [11] 28 "[I" true = true := by decide +kernel
theorem fp_RX12_74 : ix_fpb 1597 0 false RX12 74 "ClauseCourtModel" [11] 33 "[I" true = true := by decide +kernel
theorem fp_RX12_77 : ix_fpb 1598 0 false RX12 77 "ClauseCourtModel" [11] 34 "[I" true = true := by decide +kernel
theorem fp_RX12_80 : ix_fpb 1599 0 false RX12 80 "ClauseCourtModel" [11] 35 "[I" true = true := by decide +kernel
theorem fp_RX12_83 : ix_fpb 1603 0 false RX12 83 "ClauseCourtModel" [11] 39 "[I" true = true := by decide +kernel
theorem fp_RX12_86 : ix_fpb 1605 0 false RX12 86 "ClauseCourtModel" [11] 41 "[I" true = true := by decide +kernel
theorem fp_RX12_89 : ix_fpb 1607 0 false RX12 89 "ClauseCourtModel" [11] 43 "[I" true = true := by decide +kernel
theorem fp_RX12_92 : ix_fpb 1608 0 false RX12 92 "ClauseCourtModel" [11] 44 "[I" true = true := by decide +kernel
theorem fp_RX12_95 : ix_fpb 1609 0 false RX12 95 "ClauseCourtModel" [11] 45 "[I" true = true := by decide +kernel
theorem fp_RX12_98 : ix_fpb 1611 0 false RX12 98 "ClauseCourtModel" [11] 47 "[I" true = true := by decide +kernel
theorem fp_RX12_101 : ix_fpb 1612 0 false RX12 101 "ClauseCourtModel" [11] 48 "[I" true = true := by decide +kernel
theorem fp_RX12_104 : ix_fpb 1617 0 false RX12 104 "ClauseCourtModel" [11] 53 "[I" true = true := by decide +kernel
theorem fp_RX12_107 : ix_fpb 1619 0 false RX12 107 "ClauseCourtModel" [11] 55 "[Z" true = true := by decide +kernel
theorem fp_RX12_110 : ix_fpb 1620 0 false RX12 110 "ClauseCourtModel" [11] 56 "[I" true = true := by decide +kernel
theorem fp_RX12_113 : ix_fpb 1624 0 false RX12 113 "ClauseCourtModel" [11] 60 "[I" true = true := by decide +kernel
theorem fp_RX12_116 : ix_fpb 1625 0 false RX12 116 "ClauseCourtModel" [11] 61 "[I" true = true := by decide +kernel
theorem fp_RX12_119 : ix_fpb 1626 0 false RX12 119 "ClauseCourtModel" [11] 62 "[I" true = true := by decide +kernel
theorem fp_RX12_122 : ix_fpb 1627 0 false RX12 122 "ClauseCourtModel" [11] 63 "[Z" true = true := by decide +kernel
theorem fp_RX12_125 : ix_fpb 1628 0 false RX12 125 "ClauseCourtModel" [11] 64 "[I" true = true := by decide +kernel
theorem fp_RX12_128 : ix_fpb 1629 0 false RX12 128 "ClauseCourtModel" [11] 65 "[I" true = true := by decide +kernel
theorem fp_RX12_131 : ix_fpb 1632 0 false RX12 131 "ClauseCourtModel" [11] 68 "[I" true = true := by decide +kernel
theorem fp_RX12_134 : ix_fpb 1633 0 false RX12 134 "ClauseCourtModel" [11] 69 "[I" true = true := by decide +kernel
theorem fp_RX12_137 : ix_fpb 1634 0 false RX12 137 "ClauseCourtModel" [11] 70 "[I" true = true := by decide +kernel
theorem fp_RX12_140 : ix_fpb 1635 0 false RX12 140 "ClauseCourtModel" [11] 71 "[I" true = true := by decide +kernel
theorem fp_RX12_143 : ix_fpb 1636 0 false RX12 143 "ClauseCourtModel" [11] 72 "[I" true = true := by decide +kernel
theorem fp_RX12_146 : ix_fpb 1637 0 false RX12 146 "ClauseCourtModel" [11] 73 "[J" true = true := by decide +kernel
theorem fp_RX12_150 : ix_fpb 1638 0 false RX12 150 "ClauseCourtModel" [11] 74 "[J" true = true := by decide +kernel
theorem fp_RX12_153 : ix_fpb 1639 0 false RX12 153 "ClauseCourtModel" [11] 75 "[I" true = true := by decide +kernel
theorem fp_RX12_156 : ix_fpb 1640 0 false RX12 156 "ClauseCourtModel" [11] 76 "[I" true = true := by decide +kernel
theorem fp_RX12_159 : ix_fpb 1641 0 false RX12 159 "ClauseCourtModel" [11] 77 "[I" true = true := by decide +kernel
theorem fp_RX12_162 : ix_fpb 1642 0 false RX12 162 "ClauseCourtModel" [11] 78 "[I" true = true := by decide +kernel
theorem fp_RX12_165 : ix_fpb 1643 0 false RX12 165 "ClauseCourtModel" [11] 79 "[I" true = true := by decide +kernel
theorem fp_RX12_168 : ix_fpb 1644 0 false RX12 168 "ClauseCourtModel" [11] 80 "[I" true = true := by decide +kernel
theorem fp_RX12_171 : ix_fpb 1645 0 false RX12 171 "ClauseCourtModel" [11] 81 "[I" true = true := by decide +kernel
theorem fp_RX12_174 : ix_fpb 1646 0 false RX12 174 "ClauseCourtModel" [11] 82 "[Z" true = true := by decide +kernel
theorem fp_RX12_177 : ix_fpb 1647 0 false RX12 177 "ClauseCourtModel" [11] 83 "[I" true = true := by decide +kernel
theorem fp_RX12_180 : ix_fpb 1648 0 false RX12 180 "ClauseCourtModel" [11] 84 "[J" true = true := by decide +kernel
theorem fp_RX12_183 : ix_fpb 1649 0 false RX12 183 "ClauseCourtModel" [11] 85 "[J" true = true := by decide +kernel
theorem fp_RX12_186 : ix_fpb 1650 0 false RX12 186 "ClauseCourtModel" [11] 86 "[J" true = true := by decide +kernel
theorem fp_RX12_189 : ix_fpb 1651 0 false RX12 189 "ClauseCourtModel" [11] 87 "[I" true = true := by decide +kernel
theorem fp_RX12_192 : ix_fpb 1652 0 false RX12 192 "ClauseCourtModel" [11] 88 "[I" true = true := by decide +kernel
theorem fp_RX12_195 : ix_fpb 1654 0 false RX12 195 "ClauseCourtModel" [11] 90 "[I" true = true := by decide +kernel
theorem fp_RX12_198 : ix_fpb 1656 0 false RX12 198 "ClauseCourtModel" [11] 92 "[I" true = true := by decide +kernel
theorem fp_RX12_201 : ix_fpb 1657 0 false RX12 201 "ClauseCourtModel" [11] 93 "[I" true = true := by decide +kernel
theorem fp_RX12_204 : ix_fpb 1659 0 false RX12 204 "ClauseCourtModel" [11] 95 "[I" true = true := by decide +kernel
theorem fp_RX12_207 : ix_fpb 1665 0 false RX12 207 "ClauseCourtModel" [11] 101 "[I" true = true := by decide +kernel
theorem fp_RX12_210 : ix_fpb 1666 0 false RX12 210 "ClauseCourtModel" [11] 102 "[Z" true = true := by decide +kernel
theorem fp_RX12_213 : ix_fpb 1667 0 false RX12 213 "ClauseCourtModel" [11] 103 "[Z" true = true := by decide +kernel
theorem fp_RX12_216 : ix_fpb 1669 0 false RX12 216 "ClauseCourtModel" [11] 105 "[I" true = true := by decide +kernel
theorem fp_RX12_219 : ix_fpb 1671 0 false RX12 219 "ClauseCourtModel" [11] 107 "[Z" true = true := by decide +kernel
theorem fp_RX12_222 : ix_fpb 1673 0 false RX12 222 "ClauseCourtModel" [11] 109 "[I" true = true := by decide +kernel
theorem fp_RX12_225 : ix_fpb 1674 0 false RX12 225 "ClauseCourtModel" [11] 110 "[I" true = true := by decide +kernel
theorem fp_RX12_228 : ix_fpb 1676 0 false RX12 228 "ClauseCourtModel" [11] 112 "[I" true = true := by decide +kernel
theorem fl_RX12_131 : ix_flb 1632 0 false RX12 131 "ClauseCourtModel" [11] 68 2 = true := by decide +kernel
theorem fp_RX12_231 : ix_fpb 1675 0 false RX12 231 "ClauseCourtModel" [11] 111 "I" false = true := by decide +kernel
theorem fl_RX12_17 : ix_flb 1569 0 false RX12 17 "ClauseCourtModel" [11] 5 2 = true := by decide +kernel
set_option maxRecDepth 100000 in
theorem mf_X12_init : ix_mf yX12_init cX12_init 2 (none : Option Jvm.ClassFile.FieldType) 0 := ⟨List.mem_append_right _ (show _ ∈ tables_1 from List.mem_append_right _ (List.mem_append_right _ (List.mem_append_right _ (List.mem_append_right _ (List.mem_append_right _ (List.mem_append_right _ (List.mem_append_left _ (List.mem_of_getElem? (i := 122) rfl)))))))), ix_wm (i := 8) (by decide +kernel), ⟨by decide +kernel, by decide +kernel⟩, by decide +kernel, by decide +kernel⟩
theorem mi_X12_init : Cond.instanceMethod yX12_init ∈ lw_tbl := ix_wm (i := 1561) (by decide +kernel)
def tab_X12_init : List (Nat × Instr × Nat) := [(0, .aload_n 0, 1), (1, .invokespecial 1, 3), (4, .aload_n 0, 1), (5, .sipush 301, 3), (8, .newarray .int, 2), (10, .putfield 7, 3), (13, .aload_n 0, 1), (14, .sipush 301, 3), (17, .newarray .boolean, 2), (19, .putfield 13, 3), (22, .aload_n 0, 1), (23, .bipush 40, 2), (25, .newarray .int, 2), (27, .putfield 17, 3), (30, .aload_n 0, 1), (31, .sipush 480, 3), (34, .newarray .int, 2), (36, .putfield 20, 3), (39, .aload_n 0, 1), (40, .bipush 60, 2), (42, .newarray .int, 2), (44, .putfield 23, 3), (47, .aload_n 0, 1), (48, .sipush 16384, 3), (51, .newarray .int, 2), (53, .putfield 26, 3), (56, .aload_n 0, 1), (57, .bipush 60, 2), (59, .newarray .int, 2), (61, .putfield 29, 3), (64, .aload_n 0, 1), (65, .bipush 60, 2), (67, .newarray .int, 2), (69, .putfield 32, 3), (72, .aload_n 0, 1), (73, .bipush 60, 2), (75, .newarray .boolean, 2), (77, .putfield 35, 3), (80, .aload_n 0, 1), (81, .bipush 60, 2), (83, .newarray .int, 2), (85, .putfield 38, 3), (88, .aload_n 0, 1), (89, .sipush 1800, 3), (92, .newarray .int, 2), (94, .putfield 41, 3), (97, .aload_n 0, 1), (98, .bipush 60, 2), (100, .newarray .int, 2), (102, .putfield 44, 3), (105, .aload_n 0, 1), (106, .bipush 60, 2), (108, .newarray .int, 2), (110, .putfield 47, 3), (113, .aload_n 0, 1), (114, .sipush 3600, 3), (117, .newarray .int, 2), (119, .putfield 50, 3), (122, .aload_n 0, 1), (123, .bipush 60, 2), (125, .newarray .int, 2), (127, .putfield 53, 3), (130, .aload_n 0, 1), (131, .sipush 3600, 3), (134, .newarray .int, 2), (136, .putfield 56, 3), (139, .aload_n 0, 1), (140, .bipush 60, 2), (142, .newarray .int, 2), (144, .putfield 59, 3), (147, .aload_n 0, 1), (148, .sipush 501, 3), (151, .newarray .int, 2), (153, .putfield 62, 3), (156, .aload_n 0, 1), (157, .sipush 2600, 3), (160, .newarray .int, 2), (162, .putfield 65, 3), (165, .aload_n 0, 1), (166, .bipush 100, 2), (168, .newarray .int, 2), (170, .putfield 68, 3), (173, .aload_n 0, 1), (174, .bipush 20, 2), (176, .newarray .int, 2), (178, .putfield 71, 3), (181, .aload_n 0, 1), (182, .sipush 130, 3), (185, .newarray .int, 2), (187, .putfield 74, 3), (190, .aload_n 0, 1), (191, .sipush 2600, 3), (194, .newarray .int, 2), (196, .putfield 77, 3), (199, .aload_n 0, 1), (200, .bipush 12, 2), (202, .newarray .int, 2), (204, .putfield 80, 3), (207, .aload_n 0, 1), (208, .bipush 40, 2), (210, .newarray .int, 2), (212, .putfield 83, 3), (215, .aload_n 0, 1), (216, .bipush 40, 2), (218, .newarray .int, 2), (220, .putfield 86, 3), (223, .aload_n 0, 1), (224, .bipush 14, 2), (226, .newarray .int, 2), (228, .putfield 89, 3), (231, .aload_n 0, 1), (232, .bipush 14, 2), (234, .newarray .int, 2), (236, .putfield 92, 3), (239, .aload_n 0, 1), (240, .bipush 60, 2), (242, .newarray .int, 2), (244, .putfield 95, 3), (247, .aload_n 0, 1), (248, .bipush 60, 2), (250, .newarray .int, 2), (252, .putfield 98, 3), (255, .aload_n 0, 1), (256, .bipush 60, 2), (258, .newarray .int, 2), (260, .putfield 101, 3), (263, .aload_n 0, 1), (264, .bipush 60, 2), (266, .newarray .int, 2), (268, .putfield 104, 3), (271, .aload_n 0, 1), (272, .bipush 60, 2), (274, .newarray .boolean, 2), (276, .putfield 107, 3), (279, .aload_n 0, 1), (280, .bipush 26, 2), (282, .newarray .int, 2), (284, .dup, 1), (285, .iconst 0, 1), (286, .bipush 115, 2), (288, .iastore, 1), (289, .dup, 1), (290, .iconst 1, 1), (291, .bipush 111, 2), (293, .iastore, 1), (294, .dup, 1), (295, .iconst 2, 1), (296, .bipush 109, 2), (298, .iastore, 1), (299, .dup, 1), (300, .iconst 3, 1), (301, .bipush 101, 2), (303, .iastore, 1), (304, .dup, 1), (305, .iconst 4, 1), (306, .iconst 0, 1), (307, .iastore, 1), (308, .dup, 1), (309, .iconst 5, 1), (310, .bipush 109, 2), (312, .iastore, 1), (313, .dup, 1), (314, .bipush 6, 2), (316, .bipush 111, 2), (318, .iastore, 1), (319, .dup, 1), (320, .bipush 7, 2), (322, .bipush 115, 2), (324, .iastore, 1), (325, .dup, 1), (326, .bipush 8, 2), (328, .bipush 116, 2), (330, .iastore, 1), (331, .dup, 1), (332, .bipush 9, 2), (334, .bipush 32, 2), (336, .iastore, 1), (337, .dup, 1), (338, .bipush 10, 2), (340, .iconst 0, 1), (341, .iastore, 1), (342, .dup, 1), (343, .bipush 11, 2), (345, .bipush 106, 2), (347, .iastore, 1), (348, .dup, 1), (349, .bipush 12, 2), (351, .bipush 117, 2), (353, .iastore, 1), (354, .dup, 1), (355, .bipush 13, 2), (357, .bipush 115, 2), (359, .iastore, 1), (360, .dup, 1), (361, .bipush 14, 2), (363, .bipush 116, 2), (365, .iastore, 1), (366, .dup, 1), (367, .bipush 15, 2), (369, .bipush 32, 2), (371, .iastore, 1), (372, .dup, 1), (373, .bipush 16, 2), (375, .iconst 0, 1), (376, .iastore, 1), (377, .dup, 1), (378, .bipush 17, 2), (380, .bipush 111, 2), (382, .iastore, 1), (383, .dup, 1), (384, .bipush 18, 2), (386, .bipush 100, 2), (388, .iastore, 1), (389, .dup, 1), (390, .bipush 19, 2), (392, .bipush 100, 2), (394, .iastore, 1), (395, .dup, 1), (396, .bipush 20, 2), (398, .iconst 0, 1), (399, .iastore, 1), (400, .dup, 1), (401, .bipush 21, 2), (403, .bipush 101, 2), (405, .iastore, 1), (406, .dup, 1), (407, .bipush 22, 2), (409, .bipush 118, 2), (411, .iastore, 1), (412, .dup, 1), (413, .bipush 23, 2), (415, .bipush 101, 2), (417, .iastore, 1), (418, .dup, 1), (419, .bipush 24, 2), (421, .bipush 110, 2), (423, .iastore, 1), (424, .dup, 1), (425, .bipush 25, 2), (427, .iconst 0, 1), (428, .iastore, 1), (429, .putfield 110, 3), (432, .aload_n 0, 1), (433, .sipush 301, 3), (436, .newarray .int, 2), (438, .putfield 113, 3), (441, .aload_n 0, 1), (442, .iconst 2, 1), (443, .newarray .int, 2), (445, .putfield 116, 3), (448, .aload_n 0, 1), (449, .iconst 2, 1), (450, .newarray .int, 2), (452, .putfield 119, 3), (455, .aload_n 0, 1), (456, .sipush 1000, 3), (459, .newarray .boolean, 2), (461, .putfield 122, 3), (464, .aload_n 0, 1), (465, .bipush 40, 2), (467, .newarray .int, 2), (469, .putfield 125, 3), (472, .aload_n 0, 1), (473, .iconst 2, 1), (474, .newarray .int, 2), (476, .putfield 128, 3), (479, .aload_n 0, 1), (480, .iconst 2, 1), (481, .newarray .int, 2), (483, .putfield 131, 3), (486, .aload_n 0, 1), (487, .sipush 602, 3), (490, .newarray .int, 2), (492, .putfield 134, 3), (495, .aload_n 0, 1), (496, .sipush 602, 3), (499, .newarray .int, 2), (501, .putfield 137, 3), (504, .aload_n 0, 1), (505, .sipush 602, 3), (508, .newarray .int, 2), (510, .putfield 140, 3), (513, .aload_n 0, 1), (514, .sipush 602, 3), (517, .newarray .int, 2), (519, .putfield 143, 3), (522, .aload_n 0, 1), (523, .sipush 602, 3), (526, .newarray .long, 2), (528, .putfield 146, 3), (531, .aload_n 0, 1), (532, .iconst 2, 1), (533, .newarray .long, 2), (535, .putfield 150, 3), (538, .aload_n 0, 1), (539, .sipush 600, 3), (542, .newarray .int, 2), (544, .putfield 153, 3), (547, .aload_n 0, 1), (548, .iconst 2, 1), (549, .newarray .int, 2), (551, .putfield 156, 3), (554, .aload_n 0, 1), (555, .iconst 2, 1), (556, .newarray .int, 2), (558, .putfield 159, 3), (561, .aload_n 0, 1), (562, .sipush 1602, 3), (565, .newarray .int, 2), (567, .putfield 162, 3), (570, .aload_n 0, 1), (571, .sipush 16100, 3), (574, .newarray .int, 2), (576, .putfield 165, 3), (579, .aload_n 0, 1), (580, .iconst 2, 1), (581, .newarray .int, 2), (583, .putfield 168, 3), (586, .aload_n 0, 1), (587, .iconst 2, 1), (588, .newarray .int, 2), (590, .putfield 171, 3), (593, .aload_n 0, 1), (594, .sipush 1600, 3), (597, .newarray .boolean, 2), (599, .putfield 174, 3), (602, .aload_n 0, 1), (603, .sipush 1600, 3), (606, .newarray .int, 2), (608, .putfield 177, 3), (611, .aload_n 0, 1), (612, .sipush 12800, 3), (615, .newarray .long, 2), (617, .putfield 180, 3), (620, .aload_n 0, 1), (621, .sipush 4816, 3), (624, .newarray .long, 2), (626, .putfield 183, 3), (629, .aload_n 0, 1), (630, .bipush 8, 2), (632, .newarray .long, 2), (634, .putfield 186, 3), (637, .aload_n 0, 1), (638, .iconst 2, 1), (639, .newarray .int, 2), (641, .putfield 189, 3), (644, .aload_n 0, 1), (645, .iconst 2, 1), (646, .newarray .int, 2), (648, .putfield 192, 3), (651, .aload_n 0, 1), (652, .bipush 20, 2), (654, .newarray .int, 2), (656, .putfield 195, 3), (659, .aload_n 0, 1), (660, .iconst 5, 1), (661, .newarray .int, 2), (663, .putfield 198, 3), (666, .aload_n 0, 1), (667, .sipush 500, 3), (670, .newarray .int, 2), (672, .putfield 201, 3), (675, .aload_n 0, 1), (676, .bipush 20, 2), (678, .newarray .int, 2), (680, .putfield 204, 3), (683, .aload_n 0, 1), (684, .sipush 320, 3), (687, .newarray .int, 2), (689, .putfield 207, 3), (692, .aload_n 0, 1), (693, .sipush 301, 3), (696, .newarray .boolean, 2), (698, .putfield 210, 3), (701, .aload_n 0, 1), (702, .sipush 301, 3), (705, .newarray .boolean, 2), (707, .putfield 213, 3), (710, .aload_n 0, 1), (711, .sipush 320, 3), (714, .newarray .int, 2), (716, .putfield 216, 3), (719, .aload_n 0, 1), (720, .sipush 800, 3), (723, .newarray .boolean, 2), (725, .putfield 219, 3), (728, .aload_n 0, 1), (729, .sipush 801, 3), (732, .newarray .int, 2), (734, .putfield 222, 3), (737, .aload_n 0, 1), (738, .sipush 8100, 3), (741, .newarray .int, 2), (743, .putfield 225, 3), (746, .aload_n 0, 1), (747, .sipush 301, 3), (750, .newarray .int, 2), (752, .putfield 228, 3), (755, .iconst 0, 1), (756, .istore_n 1, 1), (757, .iload_n 1, 1), (758, .bipush 40, 2), (760, .if_icmp .ge 18, 3), (763, .aload_n 0, 1), (764, .getfield 17, 3), (767, .iload_n 1, 1), (768, .sipush (-1005), 3), (771, .iastore, 1), (772, .iinc 1 1, 3), (775, .goto (-18), 3), (778, .aload_n 0, 1), (779, .getfield 131, 3), (782, .iconst 0, 1), (783, .sipush (-1005), 3), (786, .iastore, 1), (787, .aload_n 0, 1), (788, .getfield 131, 3), (791, .iconst 1, 1), (792, .sipush (-1005), 3), (795, .iastore, 1), (796, .aload_n 0, 1), (797, .sipush (-1005), 3), (800, .putfield 231, 3), (803, .return_, 1)]
theorem tb_X12_init : ix_tab cX12_init tab_X12_init := by
  unfold ix_tab
  decide +kernel
noncomputable def b_X12_init_757 (n : Nat) (z : ix_Z)  (a0 : Nat) (rec757 : Int32 → ix_D2 → Option (ix_Z × ix_D2)) (x1 : Int32) (d : ix_D2) : Option (ix_Z × ix_D2) :=
  ix_if (40 ≤ x1) (ix_ck (ix_ok z [11] a0) (ix_bd1 (z.1 a0 68) (fun b_592 => ix_ck (ix_ix z 20 b_592 0) (ix_lt (ix_di d b_592 (ix_n 0) ((-1005))) (fun d_595 => ix_ck (ix_ix z 20 b_592 1) (ix_lt (ix_di d_595 b_592 (ix_n 1) ((-1005))) (fun d_598 => ix_lt (ix_di d_598 a0 111 ((-1005))) (fun d_600 => some (z, d_600))))))))) (ix_ck (ix_ok z [11] a0) (ix_bd1 (z.1 a0 5) (fun b_603 => ix_ck (ix_ix z 20 b_603 x1) (ix_lt (ix_di d b_603 (ix_n x1) ((-1005))) (fun d_606 => ix_lt (x1 + 1) (fun x1_608 => rec757 x1_608 d_606))))))
noncomputable def f_X12_init_757 (n : Nat) (z : ix_Z)  (a0 : Nat) (x1 : Int32) (d : ix_D2) : Option (ix_Z × ix_D2) := ix_fix (b_X12_init_757 n z  a0) (fun _ _ => none) n x1 d
set_option maxRecDepth 100000 in
noncomputable def f_X12_init (n : Nat) (z : ix_Z) (a0 : Nat) (d : ix_D2) : Option (ix_Z × ix_D2) :=
  ix_lt (ix_zn z 20 (ix_n 301)) (fun z_1 => ix_lt (ix_dn d z.2.2) (fun d_3 => ix_ck (ix_ok z_1 [11] a0) (ix_lt (ix_zr z_1 a0 2 (some (z.2.2))) (fun z_6 => ix_lt (ix_zn z_6 22 (ix_n 301)) (fun z_8 => ix_lt (ix_dn d_3 z_6.2.2) (fun d_10 => ix_ck (ix_ok z_8 [11] a0) (ix_lt (ix_zr z_8 a0 3 (some z_6.2.2)) (fun z_13 => ix_lt (ix_zn z_13 20 (ix_n 40)) (fun z_15 => ix_lt (ix_dn d_10 z_13.2.2) (fun d_17 => ix_ck (ix_ok z_15 [11] a0) (ix_lt (ix_zr z_15 a0 5 (some z_13.2.2)) (fun z_20 => ix_lt (ix_zn z_20 20 (ix_n 480)) (fun z_22 => ix_lt (ix_dn d_17 z_20.2.2) (fun d_24 => ix_ck (ix_ok z_22 [11] a0) (ix_lt (ix_zr z_22 a0 6 (some z_20.2.2)) (fun z_27 => ix_lt (ix_zn z_27 20 (ix_n 60)) (fun z_29 => ix_lt (ix_dn d_24 z_27.2.2) (fun d_31 => ix_ck (ix_ok z_29 [11] a0) (ix_lt (ix_zr z_29 a0 7 (some z_27.2.2)) (fun z_34 => ix_lt (ix_zn z_34 20 (ix_n 16384)) (fun z_36 => ix_lt (ix_dn d_31 z_34.2.2) (fun d_38 => ix_ck (ix_ok z_36 [11] a0) (ix_lt (ix_zr z_36 a0 9 (some z_34.2.2)) (fun z_41 => ix_lt (ix_zn z_41 20 (ix_n 60)) (fun z_43 => ix_lt (ix_dn d_38 z_41.2.2) (fun d_45 => ix_ck (ix_ok z_43 [11] a0) (ix_lt (ix_zr z_43 a0 12 (some z_41.2.2)) (fun z_48 => ix_lt (ix_zn z_48 20 (ix_n 60)) (fun z_50 => ix_lt (ix_dn d_45 z_48.2.2) (fun d_52 => ix_ck (ix_ok z_50 [11] a0) (ix_lt (ix_zr z_50 a0 13 (some z_48.2.2)) (fun z_55 => ix_lt (ix_zn z_55 22 (ix_n 60)) (fun z_57 => ix_lt (ix_dn d_52 z_55.2.2) (fun d_59 => ix_ck (ix_ok z_57 [11] a0) (ix_lt (ix_zr z_57 a0 14 (some z_55.2.2)) (fun z_62 => ix_lt (ix_zn z_62 20 (ix_n 60)) (fun z_64 => ix_lt (ix_dn d_59 z_62.2.2) (fun d_66 => ix_ck (ix_ok z_64 [11] a0) (ix_lt (ix_zr z_64 a0 15 (some z_62.2.2)) (fun z_69 => ix_lt (ix_zn z_69 20 (ix_n 1800)) (fun z_71 => ix_lt (ix_dn d_66 z_69.2.2) (fun d_73 => ix_ck (ix_ok z_71 [11] a0) (ix_lt (ix_zr z_71 a0 16 (some z_69.2.2)) (fun z_76 => ix_lt (ix_zn z_76 20 (ix_n 60)) (fun z_78 => ix_lt (ix_dn d_73 z_76.2.2) (fun d_80 => ix_ck (ix_ok z_78 [11] a0) (ix_lt (ix_zr z_78 a0 17 (some z_76.2.2)) (fun z_83 => ix_lt (ix_zn z_83 20 (ix_n 60)) (fun z_85 => ix_lt (ix_dn d_80 z_83.2.2) (fun d_87 => ix_ck (ix_ok z_85 [11] a0) (ix_lt (ix_zr z_85 a0 18 (some z_83.2.2)) (fun z_90 => ix_lt (ix_zn z_90 20 (ix_n 3600)) (fun z_92 => ix_lt (ix_dn d_87 z_90.2.2) (fun d_94 => ix_ck (ix_ok z_92 [11] a0) (ix_lt (ix_zr z_92 a0 19 (some z_90.2.2)) (fun z_97 => ix_lt (ix_zn z_97 20 (ix_n 60)) (fun z_99 => ix_lt (ix_dn d_94 z_97.2.2) (fun d_101 => ix_ck (ix_ok z_99 [11] a0) (ix_lt (ix_zr z_99 a0 20 (some z_97.2.2)) (fun z_104 => ix_lt (ix_zn z_104 20 (ix_n 3600)) (fun z_106 => ix_lt (ix_dn d_101 z_104.2.2) (fun d_108 => ix_ck (ix_ok z_106 [11] a0) (ix_lt (ix_zr z_106 a0 21 (some z_104.2.2)) (fun z_111 => ix_lt (ix_zn z_111 20 (ix_n 60)) (fun z_113 => ix_lt (ix_dn d_108 z_111.2.2) (fun d_115 => ix_ck (ix_ok z_113 [11] a0) (ix_lt (ix_zr z_113 a0 22 (some z_111.2.2)) (fun z_118 => ix_lt (ix_zn z_118 20 (ix_n 501)) (fun z_120 => ix_lt (ix_dn d_115 z_118.2.2) (fun d_122 => ix_ck (ix_ok z_120 [11] a0) (ix_lt (ix_zr z_120 a0 24 (some z_118.2.2)) (fun z_125 => ix_lt (ix_zn z_125 20 (ix_n 2600)) (fun z_127 => ix_lt (ix_dn d_122 z_125.2.2) (fun d_129 => ix_ck (ix_ok z_127 [11] a0) (ix_lt (ix_zr z_127 a0 25 (some z_125.2.2)) (fun z_132 => ix_lt (ix_zn z_132 20 (ix_n 100)) (fun z_134 => ix_lt (ix_dn d_129 z_132.2.2) (fun d_136 => ix_ck (ix_ok z_134 [11] a0) (ix_lt (ix_zr z_134 a0 26 (some z_132.2.2)) (fun z_139 => ix_lt (ix_zn z_139 20 (ix_n 20)) (fun z_141 => ix_lt (ix_dn d_136 z_139.2.2) (fun d_143 => ix_ck (ix_ok z_141 [11] a0) (ix_lt (ix_zr z_141 a0 28 (some z_139.2.2)) (fun z_146 => ix_lt (ix_zn z_146 20 (ix_n 130)) (fun z_148 => ix_lt (ix_dn d_143 z_146.2.2) (fun d_150 => ix_ck (ix_ok z_148 [11] a0) (ix_lt (ix_zr z_148 a0 33 (some z_146.2.2)) (fun z_153 => ix_lt (ix_zn z_153 20 (ix_n 2600)) (fun z_155 => ix_lt (ix_dn d_150 z_153.2.2) (fun d_157 => ix_ck (ix_ok z_155 [11] a0) (ix_lt (ix_zr z_155 a0 34 (some z_153.2.2)) (fun z_160 => ix_lt (ix_zn z_160 20 (ix_n 12)) (fun z_162 => ix_lt (ix_dn d_157 z_160.2.2) (fun d_164 => ix_ck (ix_ok z_162 [11] a0) (ix_lt (ix_zr z_162 a0 35 (some z_160.2.2)) (fun z_167 => ix_lt (ix_zn z_167 20 (ix_n 40)) (fun z_169 => ix_lt (ix_dn d_164 z_167.2.2) (fun d_171 => ix_ck (ix_ok z_169 [11] a0) (ix_lt (ix_zr z_169 a0 39 (some z_167.2.2)) (fun z_174 => ix_lt (ix_zn z_174 20 (ix_n 40)) (fun z_176 => ix_lt (ix_dn d_171 z_174.2.2) (fun d_178 => ix_ck (ix_ok z_176 [11] a0) (ix_lt (ix_zr z_176 a0 41 (some z_174.2.2)) (fun z_181 => ix_lt (ix_zn z_181 20 (ix_n 14)) (fun z_183 => ix_lt (ix_dn d_178 z_181.2.2) (fun d_185 => ix_ck (ix_ok z_183 [11] a0) (ix_lt (ix_zr z_183 a0 43 (some z_181.2.2)) (fun z_188 => ix_lt (ix_zn z_188 20 (ix_n 14)) (fun z_190 => ix_lt (ix_dn d_185 z_188.2.2) (fun d_192 => ix_ck (ix_ok z_190 [11] a0) (ix_lt (ix_zr z_190 a0 44 (some z_188.2.2)) (fun z_195 => ix_lt (ix_zn z_195 20 (ix_n 60)) (fun z_197 => ix_lt (ix_dn d_192 z_195.2.2) (fun d_199 => ix_ck (ix_ok z_197 [11] a0) (ix_lt (ix_zr z_197 a0 45 (some z_195.2.2)) (fun z_202 => ix_lt (ix_zn z_202 20 (ix_n 60)) (fun z_204 => ix_lt (ix_dn d_199 z_202.2.2) (fun d_206 => ix_ck (ix_ok z_204 [11] a0) (ix_lt (ix_zr z_204 a0 47 (some z_202.2.2)) (fun z_209 => ix_lt (ix_zn z_209 20 (ix_n 60)) (fun z_211 => ix_lt (ix_dn d_206 z_209.2.2) (fun d_213 => ix_ck (ix_ok z_211 [11] a0) (ix_lt (ix_zr z_211 a0 48 (some z_209.2.2)) (fun z_216 => ix_lt (ix_zn z_216 20 (ix_n 60)) (fun z_218 => ix_lt (ix_dn d_213 z_216.2.2) (fun d_220 => ix_ck (ix_ok z_218 [11] a0) (ix_lt (ix_zr z_218 a0 53 (some z_216.2.2)) (fun z_223 => ix_lt (ix_zn z_223 22 (ix_n 60)) (fun z_225 => ix_lt (ix_dn d_220 z_223.2.2) (fun d_227 => ix_ck (ix_ok z_225 [11] a0) (ix_lt (ix_zr z_225 a0 55 (some z_223.2.2)) (fun z_230 => ix_lt (ix_zn z_230 20 (ix_n 26)) (fun z_232 => ix_lt (ix_dn d_227 z_230.2.2) (fun d_234 => ix_ck (ix_ix z_232 20 z_230.2.2 0) (ix_lt (ix_di d_234 z_230.2.2 (ix_n 0) 115) (fun d_237 => ix_ck (ix_ix z_232 20 z_230.2.2 1) (ix_lt (ix_di d_237 z_230.2.2 (ix_n 1) 111) (fun d_240 => ix_ck (ix_ix z_232 20 z_230.2.2 2) (ix_lt (ix_di d_240 z_230.2.2 (ix_n 2) 109) (fun d_243 => ix_ck (ix_ix z_232 20 z_230.2.2 3) (ix_lt (ix_di d_243 z_230.2.2 (ix_n 3) 101) (fun d_246 => ix_ck (ix_ix z_232 20 z_230.2.2 4) (ix_lt (ix_di d_246 z_230.2.2 (ix_n 4) 0) (fun d_249 => ix_ck (ix_ix z_232 20 z_230.2.2 5) (ix_lt (ix_di d_249 z_230.2.2 (ix_n 5) 109) (fun d_252 => ix_ck (ix_ix z_232 20 z_230.2.2 6) (ix_lt (ix_di d_252 z_230.2.2 (ix_n 6) 111) (fun d_255 => ix_ck (ix_ix z_232 20 z_230.2.2 7) (ix_lt (ix_di d_255 z_230.2.2 (ix_n 7) 115) (fun d_258 => ix_ck (ix_ix z_232 20 z_230.2.2 8) (ix_lt (ix_di d_258 z_230.2.2 (ix_n 8) 116) (fun d_261 => ix_ck (ix_ix z_232 20 z_230.2.2 9) (ix_lt (ix_di d_261 z_230.2.2 (ix_n 9) 32) (fun d_264 => ix_ck (ix_ix z_232 20 z_230.2.2 10) (ix_lt (ix_di d_264 z_230.2.2 (ix_n 10) 0) (fun d_267 => ix_ck (ix_ix z_232 20 z_230.2.2 11) (ix_lt (ix_di d_267 z_230.2.2 (ix_n 11) 106) (fun d_270 => ix_ck (ix_ix z_232 20 z_230.2.2 12) (ix_lt (ix_di d_270 z_230.2.2 (ix_n 12) 117) (fun d_273 => ix_ck (ix_ix z_232 20 z_230.2.2 13) (ix_lt (ix_di d_273 z_230.2.2 (ix_n 13) 115) (fun d_276 => ix_ck (ix_ix z_232 20 z_230.2.2 14) (ix_lt (ix_di d_276 z_230.2.2 (ix_n 14) 116) (fun d_279 => ix_ck (ix_ix z_232 20 z_230.2.2 15) (ix_lt (ix_di d_279 z_230.2.2 (ix_n 15) 32) (fun d_282 => ix_ck (ix_ix z_232 20 z_230.2.2 16) (ix_lt (ix_di d_282 z_230.2.2 (ix_n 16) 0) (fun d_285 => ix_ck (ix_ix z_232 20 z_230.2.2 17) (ix_lt (ix_di d_285 z_230.2.2 (ix_n 17) 111) (fun d_288 => ix_ck (ix_ix z_232 20 z_230.2.2 18) (ix_lt (ix_di d_288 z_230.2.2 (ix_n 18) 100) (fun d_291 => ix_ck (ix_ix z_232 20 z_230.2.2 19) (ix_lt (ix_di d_291 z_230.2.2 (ix_n 19) 100) (fun d_294 => ix_ck (ix_ix z_232 20 z_230.2.2 20) (ix_lt (ix_di d_294 z_230.2.2 (ix_n 20) 0) (fun d_297 => ix_ck (ix_ix z_232 20 z_230.2.2 21) (ix_lt (ix_di d_297 z_230.2.2 (ix_n 21) 101) (fun d_300 => ix_ck (ix_ix z_232 20 z_230.2.2 22) (ix_lt (ix_di d_300 z_230.2.2 (ix_n 22) 118) (fun d_303 => ix_ck (ix_ix z_232 20 z_230.2.2 23) (ix_lt (ix_di d_303 z_230.2.2 (ix_n 23) 101) (fun d_306 => ix_ck (ix_ix z_232 20 z_230.2.2 24) (ix_lt (ix_di d_306 z_230.2.2 (ix_n 24) 110) (fun d_309 => ix_ck (ix_ix z_232 20 z_230.2.2 25) (ix_lt (ix_di d_309 z_230.2.2 (ix_n 25) 0) (fun d_312 => ix_ck (ix_ok z_232 [11] a0) (ix_lt (ix_zr z_232 a0 56 (some z_230.2.2)) (fun z_315 => ix_lt (ix_zn z_315 20 (ix_n 301)) (fun z_317 => ix_lt (ix_dn d_312 z_315.2.2) (fun d_319 => ix_ck (ix_ok z_317 [11] a0) (ix_lt (ix_zr z_317 a0 60 (some z_315.2.2)) (fun z_322 => ix_lt (ix_zn z_322 20 (ix_n 2)) (fun z_324 => ix_lt (ix_dn d_319 z_322.2.2) (fun d_326 => ix_ck (ix_ok z_324 [11] a0) (ix_lt (ix_zr z_324 a0 61 (some z_322.2.2)) (fun z_329 => ix_lt (ix_zn z_329 20 (ix_n 2)) (fun z_331 => ix_lt (ix_dn d_326 z_329.2.2) (fun d_333 => ix_ck (ix_ok z_331 [11] a0) (ix_lt (ix_zr z_331 a0 62 (some z_329.2.2)) (fun z_336 => ix_lt (ix_zn z_336 22 (ix_n 1000)) (fun z_338 => ix_lt (ix_dn d_333 z_336.2.2) (fun d_340 => ix_ck (ix_ok z_338 [11] a0) (ix_lt (ix_zr z_338 a0 63 (some z_336.2.2)) (fun z_343 => ix_lt (ix_zn z_343 20 (ix_n 40)) (fun z_345 => ix_lt (ix_dn d_340 z_343.2.2) (fun d_347 => ix_ck (ix_ok z_345 [11] a0) (ix_lt (ix_zr z_345 a0 64 (some z_343.2.2)) (fun z_350 => ix_lt (ix_zn z_350 20 (ix_n 2)) (fun z_352 => ix_lt (ix_dn d_347 z_350.2.2) (fun d_354 => ix_ck (ix_ok z_352 [11] a0) (ix_lt (ix_zr z_352 a0 65 (some z_350.2.2)) (fun z_357 => ix_lt (ix_zn z_357 20 (ix_n 2)) (fun z_359 => ix_lt (ix_dn d_354 z_357.2.2) (fun d_361 => ix_ck (ix_ok z_359 [11] a0) (ix_lt (ix_zr z_359 a0 68 (some z_357.2.2)) (fun z_364 => ix_lt (ix_zn z_364 20 (ix_n 602)) (fun z_366 => ix_lt (ix_dn d_361 z_364.2.2) (fun d_368 => ix_ck (ix_ok z_366 [11] a0) (ix_lt (ix_zr z_366 a0 69 (some z_364.2.2)) (fun z_371 => ix_lt (ix_zn z_371 20 (ix_n 602)) (fun z_373 => ix_lt (ix_dn d_368 z_371.2.2) (fun d_375 => ix_ck (ix_ok z_373 [11] a0) (ix_lt (ix_zr z_373 a0 70 (some z_371.2.2)) (fun z_378 => ix_lt (ix_zn z_378 20 (ix_n 602)) (fun z_380 => ix_lt (ix_dn d_375 z_378.2.2) (fun d_382 => ix_ck (ix_ok z_380 [11] a0) (ix_lt (ix_zr z_380 a0 71 (some z_378.2.2)) (fun z_385 => ix_lt (ix_zn z_385 20 (ix_n 602)) (fun z_387 => ix_lt (ix_dn d_382 z_385.2.2) (fun d_389 => ix_ck (ix_ok z_387 [11] a0) (ix_lt (ix_zr z_387 a0 72 (some z_385.2.2)) (fun z_392 => ix_lt (ix_zn z_392 23 (ix_n 602)) (fun z_394 => ix_lt (ix_dn d_389 z_392.2.2) (fun d_396 => ix_ck (ix_ok z_394 [11] a0) (ix_lt (ix_zr z_394 a0 73 (some z_392.2.2)) (fun z_399 => ix_lt (ix_zn z_399 23 (ix_n 2)) (fun z_401 => ix_lt (ix_dn d_396 z_399.2.2) (fun d_403 => ix_ck (ix_ok z_401 [11] a0) (ix_lt (ix_zr z_401 a0 74 (some z_399.2.2)) (fun z_406 => ix_lt (ix_zn z_406 20 (ix_n 600)) (fun z_408 => ix_lt (ix_dn d_403 z_406.2.2) (fun d_410 => ix_ck (ix_ok z_408 [11] a0) (ix_lt (ix_zr z_408 a0 75 (some z_406.2.2)) (fun z_413 => ix_lt (ix_zn z_413 20 (ix_n 2)) (fun z_415 => ix_lt (ix_dn d_410 z_413.2.2) (fun d_417 => ix_ck (ix_ok z_415 [11] a0) (ix_lt (ix_zr z_415 a0 76 (some z_413.2.2)) (fun z_420 => ix_lt (ix_zn z_420 20 (ix_n 2)) (fun z_422 => ix_lt (ix_dn d_417 z_420.2.2) (fun d_424 => ix_ck (ix_ok z_422 [11] a0) (ix_lt (ix_zr z_422 a0 77 (some z_420.2.2)) (fun z_427 => ix_lt (ix_zn z_427 20 (ix_n 1602)) (fun z_429 => ix_lt (ix_dn d_424 z_427.2.2) (fun d_431 => ix_ck (ix_ok z_429 [11] a0) (ix_lt (ix_zr z_429 a0 78 (some z_427.2.2)) (fun z_434 => ix_lt (ix_zn z_434 20 (ix_n 16100)) (fun z_436 => ix_lt (ix_dn d_431 z_434.2.2) (fun d_438 => ix_ck (ix_ok z_436 [11] a0) (ix_lt (ix_zr z_436 a0 79 (some z_434.2.2)) (fun z_441 => ix_lt (ix_zn z_441 20 (ix_n 2)) (fun z_443 => ix_lt (ix_dn d_438 z_441.2.2) (fun d_445 => ix_ck (ix_ok z_443 [11] a0) (ix_lt (ix_zr z_443 a0 80 (some z_441.2.2)) (fun z_448 => ix_lt (ix_zn z_448 20 (ix_n 2)) (fun z_450 => ix_lt (ix_dn d_445 z_448.2.2) (fun d_452 => ix_ck (ix_ok z_450 [11] a0) (ix_lt (ix_zr z_450 a0 81 (some z_448.2.2)) (fun z_455 => ix_lt (ix_zn z_455 22 (ix_n 1600)) (fun z_457 => ix_lt (ix_dn d_452 z_455.2.2) (fun d_459 => ix_ck (ix_ok z_457 [11] a0) (ix_lt (ix_zr z_457 a0 82 (some z_455.2.2)) (fun z_462 => ix_lt (ix_zn z_462 20 (ix_n 1600)) (fun z_464 => ix_lt (ix_dn d_459 z_462.2.2) (fun d_466 => ix_ck (ix_ok z_464 [11] a0) (ix_lt (ix_zr z_464 a0 83 (some z_462.2.2)) (fun z_469 => ix_lt (ix_zn z_469 23 (ix_n 12800)) (fun z_471 => ix_lt (ix_dn d_466 z_469.2.2) (fun d_473 => ix_ck (ix_ok z_471 [11] a0) (ix_lt (ix_zr z_471 a0 84 (some z_469.2.2)) (fun z_476 => ix_lt (ix_zn z_476 23 (ix_n 4816)) (fun z_478 => ix_lt (ix_dn d_473 z_476.2.2) (fun d_480 => ix_ck (ix_ok z_478 [11] a0) (ix_lt (ix_zr z_478 a0 85 (some z_476.2.2)) (fun z_483 => ix_lt (ix_zn z_483 23 (ix_n 8)) (fun z_485 => ix_lt (ix_dn d_480 z_483.2.2) (fun d_487 => ix_ck (ix_ok z_485 [11] a0) (ix_lt (ix_zr z_485 a0 86 (some z_483.2.2)) (fun z_490 => ix_lt (ix_zn z_490 20 (ix_n 2)) (fun z_492 => ix_lt (ix_dn d_487 z_490.2.2) (fun d_494 => ix_ck (ix_ok z_492 [11] a0) (ix_lt (ix_zr z_492 a0 87 (some z_490.2.2)) (fun z_497 => ix_lt (ix_zn z_497 20 (ix_n 2)) (fun z_499 => ix_lt (ix_dn d_494 z_497.2.2) (fun d_501 => ix_ck (ix_ok z_499 [11] a0) (ix_lt (ix_zr z_499 a0 88 (some z_497.2.2)) (fun z_504 => ix_lt (ix_zn z_504 20 (ix_n 20)) (fun z_506 => ix_lt (ix_dn d_501 z_504.2.2) (fun d_508 => ix_ck (ix_ok z_506 [11] a0) (ix_lt (ix_zr z_506 a0 90 (some z_504.2.2)) (fun z_511 => ix_lt (ix_zn z_511 20 (ix_n 5)) (fun z_513 => ix_lt (ix_dn d_508 z_511.2.2) (fun d_515 => ix_ck (ix_ok z_513 [11] a0) (ix_lt (ix_zr z_513 a0 92 (some z_511.2.2)) (fun z_518 => ix_lt (ix_zn z_518 20 (ix_n 500)) (fun z_520 => ix_lt (ix_dn d_515 z_518.2.2) (fun d_522 => ix_ck (ix_ok z_520 [11] a0) (ix_lt (ix_zr z_520 a0 93 (some z_518.2.2)) (fun z_525 => ix_lt (ix_zn z_525 20 (ix_n 20)) (fun z_527 => ix_lt (ix_dn d_522 z_525.2.2) (fun d_529 => ix_ck (ix_ok z_527 [11] a0) (ix_lt (ix_zr z_527 a0 95 (some z_525.2.2)) (fun z_532 => ix_lt (ix_zn z_532 20 (ix_n 320)) (fun z_534 => ix_lt (ix_dn d_529 z_532.2.2) (fun d_536 => ix_ck (ix_ok z_534 [11] a0) (ix_lt (ix_zr z_534 a0 101 (some z_532.2.2)) (fun z_539 => ix_lt (ix_zn z_539 22 (ix_n 301)) (fun z_541 => ix_lt (ix_dn d_536 z_539.2.2) (fun d_543 => ix_ck (ix_ok z_541 [11] a0) (ix_lt (ix_zr z_541 a0 102 (some z_539.2.2)) (fun z_546 => ix_lt (ix_zn z_546 22 (ix_n 301)) (fun z_548 => ix_lt (ix_dn d_543 z_546.2.2) (fun d_550 => ix_ck (ix_ok z_548 [11] a0) (ix_lt (ix_zr z_548 a0 103 (some z_546.2.2)) (fun z_553 => ix_lt (ix_zn z_553 20 (ix_n 320)) (fun z_555 => ix_lt (ix_dn d_550 z_553.2.2) (fun d_557 => ix_ck (ix_ok z_555 [11] a0) (ix_lt (ix_zr z_555 a0 105 (some z_553.2.2)) (fun z_560 => ix_lt (ix_zn z_560 22 (ix_n 800)) (fun z_562 => ix_lt (ix_dn d_557 z_560.2.2) (fun d_564 => ix_ck (ix_ok z_562 [11] a0) (ix_lt (ix_zr z_562 a0 107 (some z_560.2.2)) (fun z_567 => ix_lt (ix_zn z_567 20 (ix_n 801)) (fun z_569 => ix_lt (ix_dn d_564 z_567.2.2) (fun d_571 => ix_ck (ix_ok z_569 [11] a0) (ix_lt (ix_zr z_569 a0 109 (some z_567.2.2)) (fun z_574 => ix_lt (ix_zn z_574 20 (ix_n 8100)) (fun z_576 => ix_lt (ix_dn d_571 z_574.2.2) (fun d_578 => ix_ck (ix_ok z_576 [11] a0) (ix_lt (ix_zr z_576 a0 110 (some z_574.2.2)) (fun z_581 => ix_lt (ix_zn z_581 20 (ix_n 301)) (fun z_583 => ix_lt (ix_dn d_578 z_581.2.2) (fun d_585 => ix_ck (ix_ok z_583 [11] a0) (ix_lt (ix_zr z_583 a0 112 (some z_581.2.2)) (fun z_588 => f_X12_init_757 n z_588  a0 0 d_585))))))))))))))))))))))))))))))))))))))))))))))))))))))))))))))))))))))))))))))))))))))))))))))))))))))))))))))))))))))))))))))))))))))))))))))))))))))))))))))))))))))))))))))))))))))))))))))))))))))))))))))))))))))))))))))))))))))))))))))))))))))))))))))))))))))))))))))))))))))))))))))))))))))))))))))))))))))))))))))))))))))))))))))))))))))))
set_option maxRecDepth 20000 in
theorem tb_X12_init_757 {l : Launch} {p : Program} {e : Env} {s : State} {m : MethodId} {args : Array Value} {below : List Frame} {meth : Method} {c : Code} {K : ix_Cx} (hKp : ix_Kp K) {n : Nat} {z : ix_Z} (hnm : meth.name = "<init>") (X : ix_X p s m args c K cX12_init RX12 2) (hr : meth.sig.returnType = (none : Option Jvm.ClassFile.FieldType)) (hlk : meth.locks = false)  {a0 : Nat} {rec757 : Int32 → ix_D2 → Option (ix_Z × ix_D2)} {z1 : ix_Z} {d1 : ix_D2} (hrec757 : ∀ (x1 : Int32) (d : ix_D2), rec757 x1 d = some (z1, d1) → ix_G p l e (ix_rm 1 23 73 88731) s m args below meth c (MQ below (ix_Post K none (ix_w z1 d1)) args s 73 88731 (ix_A K)) K 2 73 88731 757 [(0, .ref (K.2.2.1 + a0)), (1, .int x1)] [] (ix_w z d)) {x1 : Int32} {d : ix_D2} (h : b_X12_init_757 n z  a0 rec757 x1 d = some (z1, d1)) : ix_G p l e (ix_rm 1 23 73 88731) s m args below meth c (MQ below (ix_Post K none (ix_w z1 d1)) args s 73 88731 (ix_A K)) K 2 73 88731 757 [(0, .ref (K.2.2.1 + a0)), (1, .int x1)] [] (ix_w z d) := by
  unfold b_X12_init_757 at h
  refine ix_iload_n (i := 1) (j := 1) X (ix_tb_at tb_X12_init 400 rfl) rfl rfl (pc1 := 758) rfl ?_
  refine ix_bipush (v := 40) X (ix_tb_at tb_X12_init 401 rfl) (by decide) (pc1 := 760) rfl ?_
  refine ix_icmp_ge (tgt := 778) X (ix_tb_at tb_X12_init 402 rfl) (by decide) (pc1 := 763) rfl (fun q_590 => ?_) (fun q_590 => ?_)
  · have h := ix_ift q_590 h
    refine ix_aload_n (i := 0) (j := 0) X (ix_tb_at tb_X12_init 410 rfl) rfl rfl (pc1 := 779) rfl ?_
    obtain ⟨k_591, h⟩ := ix_ck_some h
    obtain ⟨b_592, q_593, h⟩ := ix_bd1_ex h
    refine iz_getR X fl_RX12_131 k_591 q_593 (ix_tb_at tb_X12_init 411 rfl) (pc1 := 782) rfl ?_
    refine ix_iconst (v := 0) X (ix_tb_at tb_X12_init 412 rfl) (by decide) (pc1 := 783) rfl ?_
    refine ix_sipush (v := (-1005)) X (ix_tb_at tb_X12_init 413 rfl) (by decide) (pc1 := 786) rfl ?_
    obtain ⟨k_594, h⟩ := ix_ck_some h
    obtain ⟨d_595, e_596, h⟩ := ix_lt_ex h
    refine iz_iast X k_594 (ix_tb_at tb_X12_init 414 rfl) e_596 (pc1 := 787) rfl ?_
    refine ix_aload_n (i := 0) (j := 0) X (ix_tb_at tb_X12_init 415 rfl) rfl rfl (pc1 := 788) rfl ?_
    refine iz_getR X fl_RX12_131 k_591 q_593 (ix_tb_at tb_X12_init 416 rfl) (pc1 := 791) rfl ?_
    refine ix_iconst (v := 1) X (ix_tb_at tb_X12_init 417 rfl) (by decide) (pc1 := 792) rfl ?_
    refine ix_sipush (v := (-1005)) X (ix_tb_at tb_X12_init 418 rfl) (by decide) (pc1 := 795) rfl ?_
    obtain ⟨k_597, h⟩ := ix_ck_some h
    obtain ⟨d_598, e_599, h⟩ := ix_lt_ex h
    refine iz_iast X k_597 (ix_tb_at tb_X12_init 419 rfl) e_599 (pc1 := 796) rfl ?_
    refine ix_aload_n (i := 0) (j := 0) X (ix_tb_at tb_X12_init 420 rfl) rfl rfl (pc1 := 797) rfl ?_
    refine ix_sipush (v := (-1005)) X (ix_tb_at tb_X12_init 421 rfl) (by decide) (pc1 := 800) rfl ?_
    obtain ⟨d_600, e_601, h⟩ := ix_lt_ex h
    refine iz_putI X fp_RX12_231 k_591 (ix_tb_at tb_X12_init 422 rfl) e_601 (pc1 := 803) rfl ?_
    exact ix_vret X hr hlk (ix_r2v (g := ix_w) h) (ix_tb_at tb_X12_init 423 rfl)
  · have h := ix_iff q_590 h
    refine ix_aload_n (i := 0) (j := 0) X (ix_tb_at tb_X12_init 403 rfl) rfl rfl (pc1 := 764) rfl ?_
    obtain ⟨k_602, h⟩ := ix_ck_some h
    obtain ⟨b_603, q_604, h⟩ := ix_bd1_ex h
    refine iz_getR X fl_RX12_17 k_602 q_604 (ix_tb_at tb_X12_init 404 rfl) (pc1 := 767) rfl ?_
    refine ix_iload_n (i := 1) (j := 1) X (ix_tb_at tb_X12_init 405 rfl) rfl rfl (pc1 := 768) rfl ?_
    refine ix_sipush (v := (-1005)) X (ix_tb_at tb_X12_init 406 rfl) (by decide) (pc1 := 771) rfl ?_
    obtain ⟨k_605, h⟩ := ix_ck_some h
    obtain ⟨d_606, e_607, h⟩ := ix_lt_ex h
    refine iz_iast X k_605 (ix_tb_at tb_X12_init 407 rfl) e_607 (pc1 := 772) rfl ?_
    obtain ⟨x1_608, e_609, h⟩ := ix_lt_ex h
    refine ix_iinc (i := 1) (j := 1) (v := x1_608) (L1 := [(1, .int x1_608), (0, .ref (K.2.2.1 + a0))]) X (ix_tb_at tb_X12_init 408 rfl) rfl (by rw [oi_1]; exact e_609.symm) (Nat.le_of_ble_eq_true rfl) rfl (pc1 := 775) rfl ?_
    refine ix_goto (tgt := 757) X (ix_tb_at tb_X12_init 409 rfl) (by decide) ?_
    refine ix_sub (L1 := [(0, .ref (K.2.2.1 + a0)), (1, .int x1_608)]) [1, 0] rfl ?_
    exact hrec757 x1_608 d_606 h
theorem t_X12_init_757 {l : Launch} {p : Program} {e : Env} {s : State} {m : MethodId} {args : Array Value} {below : List Frame} {meth : Method} {c : Code} {K : ix_Cx} (hKp : ix_Kp K) {n : Nat} {z : ix_Z} (hnm : meth.name = "<init>") (X : ix_X p s m args c K cX12_init RX12 2) (hr : meth.sig.returnType = (none : Option Jvm.ClassFile.FieldType)) (hlk : meth.locks = false)  {a0 : Nat} {z1 : ix_Z} {d1 : ix_D2}  {x1 : Int32} {d : ix_D2} (h : f_X12_init_757 n z  a0 x1 d = some (z1, d1)) : ix_G p l e (ix_rm 1 23 73 88731) s m args below meth c (MQ below (ix_Post K none (ix_w z1 d1)) args s 73 88731 (ix_A K)) K 2 73 88731 757 [(0, .ref (K.2.2.1 + a0)), (1, .int x1)] [] (ix_w z d) := by
  have key : ∀ (f : Nat) (x1 : Int32) (d : ix_D2), ix_fix (b_X12_init_757 n z  a0) (fun _ _ => none) f x1 d = some (z1, d1) → ix_G p l e (ix_rm 1 23 73 88731) s m args below meth c (MQ below (ix_Post K none (ix_w z1 d1)) args s 73 88731 (ix_A K)) K 2 73 88731 757 [(0, .ref (K.2.2.1 + a0)), (1, .int x1)] [] (ix_w z d) := by
    intro f
    induction f with
    | zero =>
      intro x1 d h
      have h : (none : Option (ix_Z × ix_D2)) = some (z1, d1) := h
      cases h
    | succ f ih =>
      intro x1 d h
      exact tb_X12_init_757 hKp hnm X hr hlk (rec757 := ix_fix (b_X12_init_757 n z  a0) (fun _ _ => none) f)  ih h
  exact key n x1 d h
set_option maxRecDepth 100000 in
theorem c_X12_init {l : Launch} {K : ix_Cx} (hKp : ix_Kp K) {n : Nat} {z : ix_Z} {a0 : Nat} {d : ix_D2} {z1 : ix_Z} {d1 : ix_D2} (h : f_X12_init n z a0 d = some (z1, d1)) : ix_M l K yX12_init cX12_init 2 (none : Option Jvm.ClassFile.FieldType) 1 23 73 88731 [.ref (K.2.2.1 + a0)] (ix_w z d) none (ix_w z1 d1) := by
  refine ix_met mf_X12_init hKp (Nat.le_of_ble_eq_true rfl) ?_
  intro p e s m args below meth c hr hlk hnm X
  have X : ix_X p s m args c K cX12_init RX12 2 := X
  have hnm : meth.name = "<init>" := hnm
  show ix_G p l e (ix_rm 1 23 73 88731) s m args below meth c (MQ below (ix_Post K none (ix_w z1 d1)) args s 73 88731 (ix_A K)) K 2 0 0 0 [(0, .ref (K.2.2.1 + a0))] [] (ix_w z d)
  unfold f_X12_init at h
  refine ix_aload_n (i := 0) (j := 0) X (ix_tb_at tb_X12_init 0 rfl) rfl rfl (pc1 := 1) rfl ?_
  refine ix_objI (pl := 1563) X (by decide +kernel) (Nat.le_of_ble_eq_true rfl) (Nat.le_of_ble_eq_true rfl) (ix_tb_at tb_X12_init 1 rfl) (pc1 := 4) rfl ?_
  refine ix_aload_n (i := 0) (j := 0) X (ix_tb_at tb_X12_init 2 rfl) rfl rfl (pc1 := 5) rfl ?_
  refine ix_sipush (v := 301) X (ix_tb_at tb_X12_init 3 rfl) (by decide) (pc1 := 8) rfl ?_
  obtain ⟨z_1, e_2, h⟩ := ix_lt_ex h
  obtain ⟨d_3, e_4, h⟩ := ix_lt_ex h
  refine iz_newa_int (pl := 98) X (by decide +kernel) (by decide) (by decide) (Nat.le_of_ble_eq_true rfl) (Nat.le_of_ble_eq_true rfl) (ix_tb_at tb_X12_init 4 rfl) e_2 e_4 (pc1 := 10) rfl ?_
  refine ix_widen (k1 := 1) (n1 := 301) (Nat.le_of_ble_eq_true rfl) (Nat.le_of_ble_eq_true rfl) ?_
  obtain ⟨k_5, h⟩ := ix_ck_some h
  obtain ⟨z_6, e_7, h⟩ := ix_lt_ex h
  refine iz_putR (ty := .array .int) X fp_RX12_7 (fun _ => ⟨rfl, hnm⟩) k_5 (by decide +kernel) (by decide +kernel) (Or.inr ⟨_, rfl⟩) (ix_tb_at tb_X12_init 5 rfl) e_7 (pc1 := 13) rfl ?_
  refine ix_aload_n (i := 0) (j := 0) X (ix_tb_at tb_X12_init 6 rfl) rfl rfl (pc1 := 14) rfl ?_
  refine ix_sipush (v := 301) X (ix_tb_at tb_X12_init 7 rfl) (by decide) (pc1 := 17) rfl ?_
  obtain ⟨z_8, e_9, h⟩ := ix_lt_ex h
  obtain ⟨d_10, e_11, h⟩ := ix_lt_ex h
  refine iz_newa_boolean (pl := 183) X (by decide +kernel) (by decide) (by decide) (Nat.le_of_ble_eq_true rfl) (Nat.le_of_ble_eq_true rfl) (ix_tb_at tb_X12_init 8 rfl) e_9 e_11 (pc1 := 19) rfl ?_
  refine ix_widen (k1 := 2) (n1 := 602) (Nat.le_of_ble_eq_true rfl) (Nat.le_of_ble_eq_true rfl) ?_
  obtain ⟨k_12, h⟩ := ix_ck_some h
  obtain ⟨z_13, e_14, h⟩ := ix_lt_ex h
  refine iz_putR (ty := .array .boolean) X fp_RX12_13 (fun _ => ⟨rfl, hnm⟩) k_12 (by decide +kernel) (by decide +kernel) (Or.inr ⟨_, rfl⟩) (ix_tb_at tb_X12_init 9 rfl) e_14 (pc1 := 22) rfl ?_
  refine ix_aload_n (i := 0) (j := 0) X (ix_tb_at tb_X12_init 10 rfl) rfl rfl (pc1 := 23) rfl ?_
  refine ix_bipush (v := 40) X (ix_tb_at tb_X12_init 11 rfl) (by decide) (pc1 := 25) rfl ?_
  obtain ⟨z_15, e_16, h⟩ := ix_lt_ex h
  obtain ⟨d_17, e_18, h⟩ := ix_lt_ex h
  refine iz_newa_int (pl := 98) X (by decide +kernel) (by decide) (by decide) (Nat.le_of_ble_eq_true rfl) (Nat.le_of_ble_eq_true rfl) (ix_tb_at tb_X12_init 12 rfl) e_16 e_18 (pc1 := 27) rfl ?_
  refine ix_widen (k1 := 3) (n1 := 642) (Nat.le_of_ble_eq_true rfl) (Nat.le_of_ble_eq_true rfl) ?_
  obtain ⟨k_19, h⟩ := ix_ck_some h
  obtain ⟨z_20, e_21, h⟩ := ix_lt_ex h
  refine iz_putR (ty := .array .int) X fp_RX12_17 (fun _ => ⟨rfl, hnm⟩) k_19 (by decide +kernel) (by decide +kernel) (Or.inr ⟨_, rfl⟩) (ix_tb_at tb_X12_init 13 rfl) e_21 (pc1 := 30) rfl ?_
  refine ix_aload_n (i := 0) (j := 0) X (ix_tb_at tb_X12_init 14 rfl) rfl rfl (pc1 := 31) rfl ?_
  refine ix_sipush (v := 480) X (ix_tb_at tb_X12_init 15 rfl) (by decide) (pc1 := 34) rfl ?_
  obtain ⟨z_22, e_23, h⟩ := ix_lt_ex h
  obtain ⟨d_24, e_25, h⟩ := ix_lt_ex h
  refine iz_newa_int (pl := 98) X (by decide +kernel) (by decide) (by decide) (Nat.le_of_ble_eq_true rfl) (Nat.le_of_ble_eq_true rfl) (ix_tb_at tb_X12_init 16 rfl) e_23 e_25 (pc1 := 36) rfl ?_
  refine ix_widen (k1 := 4) (n1 := 1122) (Nat.le_of_ble_eq_true rfl) (Nat.le_of_ble_eq_true rfl) ?_
  obtain ⟨k_26, h⟩ := ix_ck_some h
  obtain ⟨z_27, e_28, h⟩ := ix_lt_ex h
  refine iz_putR (ty := .array .int) X fp_RX12_20 (fun _ => ⟨rfl, hnm⟩) k_26 (by decide +kernel) (by decide +kernel) (Or.inr ⟨_, rfl⟩) (ix_tb_at tb_X12_init 17 rfl) e_28 (pc1 := 39) rfl ?_
  refine ix_aload_n (i := 0) (j := 0) X (ix_tb_at tb_X12_init 18 rfl) rfl rfl (pc1 := 40) rfl ?_
  refine ix_bipush (v := 60) X (ix_tb_at tb_X12_init 19 rfl) (by decide) (pc1 := 42) rfl ?_
  obtain ⟨z_29, e_30, h⟩ := ix_lt_ex h
  obtain ⟨d_31, e_32, h⟩ := ix_lt_ex h
  refine iz_newa_int (pl := 98) X (by decide +kernel) (by decide) (by decide) (Nat.le_of_ble_eq_true rfl) (Nat.le_of_ble_eq_true rfl) (ix_tb_at tb_X12_init 20 rfl) e_30 e_32 (pc1 := 44) rfl ?_
  refine ix_widen (k1 := 5) (n1 := 1182) (Nat.le_of_ble_eq_true rfl) (Nat.le_of_ble_eq_true rfl) ?_
  obtain ⟨k_33, h⟩ := ix_ck_some h
  obtain ⟨z_34, e_35, h⟩ := ix_lt_ex h
  refine iz_putR (ty := .array .int) X fp_RX12_23 (fun _ => ⟨rfl, hnm⟩) k_33 (by decide +kernel) (by decide +kernel) (Or.inr ⟨_, rfl⟩) (ix_tb_at tb_X12_init 21 rfl) e_35 (pc1 := 47) rfl ?_
  refine ix_aload_n (i := 0) (j := 0) X (ix_tb_at tb_X12_init 22 rfl) rfl rfl (pc1 := 48) rfl ?_
  refine ix_sipush (v := 16384) X (ix_tb_at tb_X12_init 23 rfl) (by decide) (pc1 := 51) rfl ?_
  obtain ⟨z_36, e_37, h⟩ := ix_lt_ex h
  obtain ⟨d_38, e_39, h⟩ := ix_lt_ex h
  refine iz_newa_int (pl := 98) X (by decide +kernel) (by decide) (by decide) (Nat.le_of_ble_eq_true rfl) (Nat.le_of_ble_eq_true rfl) (ix_tb_at tb_X12_init 24 rfl) e_37 e_39 (pc1 := 53) rfl ?_
  refine ix_widen (k1 := 6) (n1 := 17566) (Nat.le_of_ble_eq_true rfl) (Nat.le_of_ble_eq_true rfl) ?_
  obtain ⟨k_40, h⟩ := ix_ck_some h
  obtain ⟨z_41, e_42, h⟩ := ix_lt_ex h
  refine iz_putR (ty := .array .int) X fp_RX12_26 (fun _ => ⟨rfl, hnm⟩) k_40 (by decide +kernel) (by decide +kernel) (Or.inr ⟨_, rfl⟩) (ix_tb_at tb_X12_init 25 rfl) e_42 (pc1 := 56) rfl ?_
  refine ix_aload_n (i := 0) (j := 0) X (ix_tb_at tb_X12_init 26 rfl) rfl rfl (pc1 := 57) rfl ?_
  refine ix_bipush (v := 60) X (ix_tb_at tb_X12_init 27 rfl) (by decide) (pc1 := 59) rfl ?_
  obtain ⟨z_43, e_44, h⟩ := ix_lt_ex h
  obtain ⟨d_45, e_46, h⟩ := ix_lt_ex h
  refine iz_newa_int (pl := 98) X (by decide +kernel) (by decide) (by decide) (Nat.le_of_ble_eq_true rfl) (Nat.le_of_ble_eq_true rfl) (ix_tb_at tb_X12_init 28 rfl) e_44 e_46 (pc1 := 61) rfl ?_
  refine ix_widen (k1 := 7) (n1 := 17626) (Nat.le_of_ble_eq_true rfl) (Nat.le_of_ble_eq_true rfl) ?_
  obtain ⟨k_47, h⟩ := ix_ck_some h
  obtain ⟨z_48, e_49, h⟩ := ix_lt_ex h
  refine iz_putR (ty := .array .int) X fp_RX12_29 (fun _ => ⟨rfl, hnm⟩) k_47 (by decide +kernel) (by decide +kernel) (Or.inr ⟨_, rfl⟩) (ix_tb_at tb_X12_init 29 rfl) e_49 (pc1 := 64) rfl ?_
  refine ix_aload_n (i := 0) (j := 0) X (ix_tb_at tb_X12_init 30 rfl) rfl rfl (pc1 := 65) rfl ?_
  refine ix_bipush (v := 60) X (ix_tb_at tb_X12_init 31 rfl) (by decide) (pc1 := 67) rfl ?_
  obtain ⟨z_50, e_51, h⟩ := ix_lt_ex h
  obtain ⟨d_52, e_53, h⟩ := ix_lt_ex h
  refine iz_newa_int (pl := 98) X (by decide +kernel) (by decide) (by decide) (Nat.le_of_ble_eq_true rfl) (Nat.le_of_ble_eq_true rfl) (ix_tb_at tb_X12_init 32 rfl) e_51 e_53 (pc1 := 69) rfl ?_
  refine ix_widen (k1 := 8) (n1 := 17686) (Nat.le_of_ble_eq_true rfl) (Nat.le_of_ble_eq_true rfl) ?_
  obtain ⟨k_54, h⟩ := ix_ck_some h
  obtain ⟨z_55, e_56, h⟩ := ix_lt_ex h
  refine iz_putR (ty := .array .int) X fp_RX12_32 (fun _ => ⟨rfl, hnm⟩) k_54 (by decide +kernel) (by decide +kernel) (Or.inr ⟨_, rfl⟩) (ix_tb_at tb_X12_init 33 rfl) e_56 (pc1 := 72) rfl ?_
  refine ix_aload_n (i := 0) (j := 0) X (ix_tb_at tb_X12_init 34 rfl) rfl rfl (pc1 := 73) rfl ?_
  refine ix_bipush (v := 60) X (ix_tb_at tb_X12_init 35 rfl) (by decide) (pc1 := 75) rfl ?_
  obtain ⟨z_57, e_58, h⟩ := ix_lt_ex h
  obtain ⟨d_59, e_60, h⟩ := ix_lt_ex h
  refine iz_newa_boolean (pl := 183) X (by decide +kernel) (by decide) (by decide) (Nat.le_of_ble_eq_true rfl) (Nat.le_of_ble_eq_true rfl) (ix_tb_at tb_X12_init 36 rfl) e_58 e_60 (pc1 := 77) rfl ?_
  refine ix_widen (k1 := 9) (n1 := 17746) (Nat.le_of_ble_eq_true rfl) (Nat.le_of_ble_eq_true rfl) ?_
  obtain ⟨k_61, h⟩ := ix_ck_some h
  obtain ⟨z_62, e_63, h⟩ := ix_lt_ex h
  refine iz_putR (ty := .array .boolean) X fp_RX12_35 (fun _ => ⟨rfl, hnm⟩) k_61 (by decide +kernel) (by decide +kernel) (Or.inr ⟨_, rfl⟩) (ix_tb_at tb_X12_init 37 rfl) e_63 (pc1 := 80) rfl ?_
  refine ix_aload_n (i := 0) (j := 0) X (ix_tb_at tb_X12_init 38 rfl) rfl rfl (pc1 := 81) rfl ?_
  refine ix_bipush (v := 60) X (ix_tb_at tb_X12_init 39 rfl) (by decide) (pc1 := 83) rfl ?_
  obtain ⟨z_64, e_65, h⟩ := ix_lt_ex h
  obtain ⟨d_66, e_67, h⟩ := ix_lt_ex h
  refine iz_newa_int (pl := 98) X (by decide +kernel) (by decide) (by decide) (Nat.le_of_ble_eq_true rfl) (Nat.le_of_ble_eq_true rfl) (ix_tb_at tb_X12_init 40 rfl) e_65 e_67 (pc1 := 85) rfl ?_
  refine ix_widen (k1 := 10) (n1 := 17806) (Nat.le_of_ble_eq_true rfl) (Nat.le_of_ble_eq_true rfl) ?_
  obtain ⟨k_68, h⟩ := ix_ck_some h
  obtain ⟨z_69, e_70, h⟩ := ix_lt_ex h
  refine iz_putR (ty := .array .int) X fp_RX12_38 (fun _ => ⟨rfl, hnm⟩) k_68 (by decide +kernel) (by decide +kernel) (Or.inr ⟨_, rfl⟩) (ix_tb_at tb_X12_init 41 rfl) e_70 (pc1 := 88) rfl ?_
  refine ix_aload_n (i := 0) (j := 0) X (ix_tb_at tb_X12_init 42 rfl) rfl rfl (pc1 := 89) rfl ?_
  refine ix_sipush (v := 1800) X (ix_tb_at tb_X12_init 43 rfl) (by decide) (pc1 := 92) rfl ?_
  obtain ⟨z_71, e_72, h⟩ := ix_lt_ex h
  obtain ⟨d_73, e_74, h⟩ := ix_lt_ex h
  refine iz_newa_int (pl := 98) X (by decide +kernel) (by decide) (by decide) (Nat.le_of_ble_eq_true rfl) (Nat.le_of_ble_eq_true rfl) (ix_tb_at tb_X12_init 44 rfl) e_72 e_74 (pc1 := 94) rfl ?_
  refine ix_widen (k1 := 11) (n1 := 19606) (Nat.le_of_ble_eq_true rfl) (Nat.le_of_ble_eq_true rfl) ?_
  obtain ⟨k_75, h⟩ := ix_ck_some h
  obtain ⟨z_76, e_77, h⟩ := ix_lt_ex h
  refine iz_putR (ty := .array .int) X fp_RX12_41 (fun _ => ⟨rfl, hnm⟩) k_75 (by decide +kernel) (by decide +kernel) (Or.inr ⟨_, rfl⟩) (ix_tb_at tb_X12_init 45 rfl) e_77 (pc1 := 97) rfl ?_
  refine ix_aload_n (i := 0) (j := 0) X (ix_tb_at tb_X12_init 46 rfl) rfl rfl (pc1 := 98) rfl ?_
  refine ix_bipush (v := 60) X (ix_tb_at tb_X12_init 47 rfl) (by decide) (pc1 := 100) rfl ?_
  obtain ⟨z_78, e_79, h⟩ := ix_lt_ex h
  obtain ⟨d_80, e_81, h⟩ := ix_lt_ex h
  refine iz_newa_int (pl := 98) X (by decide +kernel) (by decide) (by decide) (Nat.le_of_ble_eq_true rfl) (Nat.le_of_ble_eq_true rfl) (ix_tb_at tb_X12_init 48 rfl) e_79 e_81 (pc1 := 102) rfl ?_
  refine ix_widen (k1 := 12) (n1 := 19666) (Nat.le_of_ble_eq_true rfl) (Nat.le_of_ble_eq_true rfl) ?_
  obtain ⟨k_82, h⟩ := ix_ck_some h
  obtain ⟨z_83, e_84, h⟩ := ix_lt_ex h
  refine iz_putR (ty := .array .int) X fp_RX12_44 (fun _ => ⟨rfl, hnm⟩) k_82 (by decide +kernel) (by decide +kernel) (Or.inr ⟨_, rfl⟩) (ix_tb_at tb_X12_init 49 rfl) e_84 (pc1 := 105) rfl ?_
  refine ix_aload_n (i := 0) (j := 0) X (ix_tb_at tb_X12_init 50 rfl) rfl rfl (pc1 := 106) rfl ?_
  refine ix_bipush (v := 60) X (ix_tb_at tb_X12_init 51 rfl) (by decide) (pc1 := 108) rfl ?_
  obtain ⟨z_85, e_86, h⟩ := ix_lt_ex h
  obtain ⟨d_87, e_88, h⟩ := ix_lt_ex h
  refine iz_newa_int (pl := 98) X (by decide +kernel) (by decide) (by decide) (Nat.le_of_ble_eq_true rfl) (Nat.le_of_ble_eq_true rfl) (ix_tb_at tb_X12_init 52 rfl) e_86 e_88 (pc1 := 110) rfl ?_
  refine ix_widen (k1 := 13) (n1 := 19726) (Nat.le_of_ble_eq_true rfl) (Nat.le_of_ble_eq_true rfl) ?_
  obtain ⟨k_89, h⟩ := ix_ck_some h
  obtain ⟨z_90, e_91, h⟩ := ix_lt_ex h
  refine iz_putR (ty := .array .int) X fp_RX12_47 (fun _ => ⟨rfl, hnm⟩) k_89 (by decide +kernel) (by decide +kernel) (Or.inr ⟨_, rfl⟩) (ix_tb_at tb_X12_init 53 rfl) e_91 (pc1 := 113) rfl ?_
  refine ix_aload_n (i := 0) (j := 0) X (ix_tb_at tb_X12_init 54 rfl) rfl rfl (pc1 := 114) rfl ?_
  refine ix_sipush (v := 3600) X (ix_tb_at tb_X12_init 55 rfl) (by decide) (pc1 := 117) rfl ?_
  obtain ⟨z_92, e_93, h⟩ := ix_lt_ex h
  obtain ⟨d_94, e_95, h⟩ := ix_lt_ex h
  refine iz_newa_int (pl := 98) X (by decide +kernel) (by decide) (by decide) (Nat.le_of_ble_eq_true rfl) (Nat.le_of_ble_eq_true rfl) (ix_tb_at tb_X12_init 56 rfl) e_93 e_95 (pc1 := 119) rfl ?_
  refine ix_widen (k1 := 14) (n1 := 23326) (Nat.le_of_ble_eq_true rfl) (Nat.le_of_ble_eq_true rfl) ?_
  obtain ⟨k_96, h⟩ := ix_ck_some h
  obtain ⟨z_97, e_98, h⟩ := ix_lt_ex h
  refine iz_putR (ty := .array .int) X fp_RX12_50 (fun _ => ⟨rfl, hnm⟩) k_96 (by decide +kernel) (by decide +kernel) (Or.inr ⟨_, rfl⟩) (ix_tb_at tb_X12_init 57 rfl) e_98 (pc1 := 122) rfl ?_
  refine ix_aload_n (i := 0) (j := 0) X (ix_tb_at tb_X12_init 58 rfl) rfl rfl (pc1 := 123) rfl ?_
  refine ix_bipush (v := 60) X (ix_tb_at tb_X12_init 59 rfl) (by decide) (pc1 := 125) rfl ?_
  obtain ⟨z_99, e_100, h⟩ := ix_lt_ex h
  obtain ⟨d_101, e_102, h⟩ := ix_lt_ex h
  refine iz_newa_int (pl := 98) X (by decide +kernel) (by decide) (by decide) (Nat.le_of_ble_eq_true rfl) (Nat.le_of_ble_eq_true rfl) (ix_tb_at tb_X12_init 60 rfl) e_100 e_102 (pc1 := 127) rfl ?_
  refine ix_widen (k1 := 15) (n1 := 23386) (Nat.le_of_ble_eq_true rfl) (Nat.le_of_ble_eq_true rfl) ?_
  obtain ⟨k_103, h⟩ := ix_ck_some h
  obtain ⟨z_104, e_105, h⟩ := ix_lt_ex h
  refine iz_putR (ty := .array .int) X fp_RX12_53 (fun _ => ⟨rfl, hnm⟩) k_103 (by decide +kernel) (by decide +kernel) (Or.inr ⟨_, rfl⟩) (ix_tb_at tb_X12_init 61 rfl) e_105 (pc1 := 130) rfl ?_
  refine ix_aload_n (i := 0) (j := 0) X (ix_tb_at tb_X12_init 62 rfl) rfl rfl (pc1 := 131) rfl ?_
  refine ix_sipush (v := 3600) X (ix_tb_at tb_X12_init 63 rfl) (by decide) (pc1 := 134) rfl ?_
  obtain ⟨z_106, e_107, h⟩ := ix_lt_ex h
  obtain ⟨d_108, e_109, h⟩ := ix_lt_ex h
  refine iz_newa_int (pl := 98) X (by decide +kernel) (by decide) (by decide) (Nat.le_of_ble_eq_true rfl) (Nat.le_of_ble_eq_true rfl) (ix_tb_at tb_X12_init 64 rfl) e_107 e_109 (pc1 := 136) rfl ?_
  refine ix_widen (k1 := 16) (n1 := 26986) (Nat.le_of_ble_eq_true rfl) (Nat.le_of_ble_eq_true rfl) ?_
  obtain ⟨k_110, h⟩ := ix_ck_some h
  obtain ⟨z_111, e_112, h⟩ := ix_lt_ex h
  refine iz_putR (ty := .array .int) X fp_RX12_56 (fun _ => ⟨rfl, hnm⟩) k_110 (by decide +kernel) (by decide +kernel) (Or.inr ⟨_, rfl⟩) (ix_tb_at tb_X12_init 65 rfl) e_112 (pc1 := 139) rfl ?_
  refine ix_aload_n (i := 0) (j := 0) X (ix_tb_at tb_X12_init 66 rfl) rfl rfl (pc1 := 140) rfl ?_
  refine ix_bipush (v := 60) X (ix_tb_at tb_X12_init 67 rfl) (by decide) (pc1 := 142) rfl ?_
  obtain ⟨z_113, e_114, h⟩ := ix_lt_ex h
  obtain ⟨d_115, e_116, h⟩ := ix_lt_ex h
  refine iz_newa_int (pl := 98) X (by decide +kernel) (by decide) (by decide) (Nat.le_of_ble_eq_true rfl) (Nat.le_of_ble_eq_true rfl) (ix_tb_at tb_X12_init 68 rfl) e_114 e_116 (pc1 := 144) rfl ?_
  refine ix_widen (k1 := 17) (n1 := 27046) (Nat.le_of_ble_eq_true rfl) (Nat.le_of_ble_eq_true rfl) ?_
  obtain ⟨k_117, h⟩ := ix_ck_some h
  obtain ⟨z_118, e_119, h⟩ := ix_lt_ex h
  refine iz_putR (ty := .array .int) X fp_RX12_59 (fun _ => ⟨rfl, hnm⟩) k_117 (by decide +kernel) (by decide +kernel) (Or.inr ⟨_, rfl⟩) (ix_tb_at tb_X12_init 69 rfl) e_119 (pc1 := 147) rfl ?_
  refine ix_aload_n (i := 0) (j := 0) X (ix_tb_at tb_X12_init 70 rfl) rfl rfl (pc1 := 148) rfl ?_
  refine ix_sipush (v := 501) X (ix_tb_at tb_X12_init 71 rfl) (by decide) (pc1 := 151) rfl ?_
  obtain ⟨z_120, e_121, h⟩ := ix_lt_ex h
  obtain ⟨d_122, e_123, h⟩ := ix_lt_ex h
  refine iz_newa_int (pl := 98) X (by decide +kernel) (by decide) (by decide) (Nat.le_of_ble_eq_true rfl) (Nat.le_of_ble_eq_true rfl) (ix_tb_at tb_X12_init 72 rfl) e_121 e_123 (pc1 := 153) rfl ?_
  refine ix_widen (k1 := 18) (n1 := 27547) (Nat.le_of_ble_eq_true rfl) (Nat.le_of_ble_eq_true rfl) ?_
  obtain ⟨k_124, h⟩ := ix_ck_some h
  obtain ⟨z_125, e_126, h⟩ := ix_lt_ex h
  refine iz_putR (ty := .array .int) X fp_RX12_62 (fun _ => ⟨rfl, hnm⟩) k_124 (by decide +kernel) (by decide +kernel) (Or.inr ⟨_, rfl⟩) (ix_tb_at tb_X12_init 73 rfl) e_126 (pc1 := 156) rfl ?_
  refine ix_aload_n (i := 0) (j := 0) X (ix_tb_at tb_X12_init 74 rfl) rfl rfl (pc1 := 157) rfl ?_
  refine ix_sipush (v := 2600) X (ix_tb_at tb_X12_init 75 rfl) (by decide) (pc1 := 160) rfl ?_
  obtain ⟨z_127, e_128, h⟩ := ix_lt_ex h
  obtain ⟨d_129, e_130, h⟩ := ix_lt_ex h
  refine iz_newa_int (pl := 98) X (by decide +kernel) (by decide) (by decide) (Nat.le_of_ble_eq_true rfl) (Nat.le_of_ble_eq_true rfl) (ix_tb_at tb_X12_init 76 rfl) e_128 e_130 (pc1 := 162) rfl ?_
  refine ix_widen (k1 := 19) (n1 := 30147) (Nat.le_of_ble_eq_true rfl) (Nat.le_of_ble_eq_true rfl) ?_
  obtain ⟨k_131, h⟩ := ix_ck_some h
  obtain ⟨z_132, e_133, h⟩ := ix_lt_ex h
  refine iz_putR (ty := .array .int) X fp_RX12_65 (fun _ => ⟨rfl, hnm⟩) k_131 (by decide +kernel) (by decide +kernel) (Or.inr ⟨_, rfl⟩) (ix_tb_at tb_X12_init 77 rfl) e_133 (pc1 := 165) rfl ?_
  refine ix_aload_n (i := 0) (j := 0) X (ix_tb_at tb_X12_init 78 rfl) rfl rfl (pc1 := 166) rfl ?_
  refine ix_bipush (v := 100) X (ix_tb_at tb_X12_init 79 rfl) (by decide) (pc1 := 168) rfl ?_
  obtain ⟨z_134, e_135, h⟩ := ix_lt_ex h
  obtain ⟨d_136, e_137, h⟩ := ix_lt_ex h
  refine iz_newa_int (pl := 98) X (by decide +kernel) (by decide) (by decide) (Nat.le_of_ble_eq_true rfl) (Nat.le_of_ble_eq_true rfl) (ix_tb_at tb_X12_init 80 rfl) e_135 e_137 (pc1 := 170) rfl ?_
  refine ix_widen (k1 := 20) (n1 := 30247) (Nat.le_of_ble_eq_true rfl) (Nat.le_of_ble_eq_true rfl) ?_
  obtain ⟨k_138, h⟩ := ix_ck_some h
  obtain ⟨z_139, e_140, h⟩ := ix_lt_ex h
  refine iz_putR (ty := .array .int) X fp_RX12_68 (fun _ => ⟨rfl, hnm⟩) k_138 (by decide +kernel) (by decide +kernel) (Or.inr ⟨_, rfl⟩) (ix_tb_at tb_X12_init 81 rfl) e_140 (pc1 := 173) rfl ?_
  refine ix_aload_n (i := 0) (j := 0) X (ix_tb_at tb_X12_init 82 rfl) rfl rfl (pc1 := 174) rfl ?_
  refine ix_bipush (v := 20) X (ix_tb_at tb_X12_init 83 rfl) (by decide) (pc1 := 176) rfl ?_
  obtain ⟨z_141, e_142, h⟩ := ix_lt_ex h
  obtain ⟨d_143, e_144, h⟩ := ix_lt_ex h
  refine iz_newa_int (pl := 98) X (by decide +kernel) (by decide) (by decide) (Nat.le_of_ble_eq_true rfl) (Nat.le_of_ble_eq_true rfl) (ix_tb_at tb_X12_init 84 rfl) e_142 e_144 (pc1 := 178) rfl ?_
  refine ix_widen (k1 := 21) (n1 := 30267) (Nat.le_of_ble_eq_true rfl) (Nat.le_of_ble_eq_true rfl) ?_
  obtain ⟨k_145, h⟩ := ix_ck_some h
  obtain ⟨z_146, e_147, h⟩ := ix_lt_ex h
  refine iz_putR (ty := .array .int) X fp_RX12_71 (fun _ => ⟨rfl, hnm⟩) k_145 (by decide +kernel) (by decide +kernel) (Or.inr ⟨_, rfl⟩) (ix_tb_at tb_X12_init 85 rfl) e_147 (pc1 := 181) rfl ?_
  refine ix_aload_n (i := 0) (j := 0) X (ix_tb_at tb_X12_init 86 rfl) rfl rfl (pc1 := 182) rfl ?_
  refine ix_sipush (v := 130) X (ix_tb_at tb_X12_init 87 rfl) (by decide) (pc1 := 185) rfl ?_
  obtain ⟨z_148, e_149, h⟩ := ix_lt_ex h
  obtain ⟨d_150, e_151, h⟩ := ix_lt_ex h
  refine iz_newa_int (pl := 98) X (by decide +kernel) (by decide) (by decide) (Nat.le_of_ble_eq_true rfl) (Nat.le_of_ble_eq_true rfl) (ix_tb_at tb_X12_init 88 rfl) e_149 e_151 (pc1 := 187) rfl ?_
  refine ix_widen (k1 := 22) (n1 := 30397) (Nat.le_of_ble_eq_true rfl) (Nat.le_of_ble_eq_true rfl) ?_
  obtain ⟨k_152, h⟩ := ix_ck_some h
  obtain ⟨z_153, e_154, h⟩ := ix_lt_ex h
  refine iz_putR (ty := .array .int) X fp_RX12_74 (fun _ => ⟨rfl, hnm⟩) k_152 (by decide +kernel) (by decide +kernel) (Or.inr ⟨_, rfl⟩) (ix_tb_at tb_X12_init 89 rfl) e_154 (pc1 := 190) rfl ?_
  refine ix_aload_n (i := 0) (j := 0) X (ix_tb_at tb_X12_init 90 rfl) rfl rfl (pc1 := 191) rfl ?_
  refine ix_sipush (v := 2600) X (ix_tb_at tb_X12_init 91 rfl) (by decide) (pc1 := 194) rfl ?_
  obtain ⟨z_155, e_156, h⟩ := ix_lt_ex h
  obtain ⟨d_157, e_158, h⟩ := ix_lt_ex h
  refine iz_newa_int (pl := 98) X (by decide +kernel) (by decide) (by decide) (Nat.le_of_ble_eq_true rfl) (Nat.le_of_ble_eq_true rfl) (ix_tb_at tb_X12_init 92 rfl) e_156 e_158 (pc1 := 196) rfl ?_
  refine ix_widen (k1 := 23) (n1 := 32997) (Nat.le_of_ble_eq_true rfl) (Nat.le_of_ble_eq_true rfl) ?_
  obtain ⟨k_159, h⟩ := ix_ck_some h
  obtain ⟨z_160, e_161, h⟩ := ix_lt_ex h
  refine iz_putR (ty := .array .int) X fp_RX12_77 (fun _ => ⟨rfl, hnm⟩) k_159 (by decide +kernel) (by decide +kernel) (Or.inr ⟨_, rfl⟩) (ix_tb_at tb_X12_init 93 rfl) e_161 (pc1 := 199) rfl ?_
  refine ix_aload_n (i := 0) (j := 0) X (ix_tb_at tb_X12_init 94 rfl) rfl rfl (pc1 := 200) rfl ?_
  refine ix_bipush (v := 12) X (ix_tb_at tb_X12_init 95 rfl) (by decide) (pc1 := 202) rfl ?_
  obtain ⟨z_162, e_163, h⟩ := ix_lt_ex h
  obtain ⟨d_164, e_165, h⟩ := ix_lt_ex h
  refine iz_newa_int (pl := 98) X (by decide +kernel) (by decide) (by decide) (Nat.le_of_ble_eq_true rfl) (Nat.le_of_ble_eq_true rfl) (ix_tb_at tb_X12_init 96 rfl) e_163 e_165 (pc1 := 204) rfl ?_
  refine ix_widen (k1 := 24) (n1 := 33009) (Nat.le_of_ble_eq_true rfl) (Nat.le_of_ble_eq_true rfl) ?_
  obtain ⟨k_166, h⟩ := ix_ck_some h
  obtain ⟨z_167, e_168, h⟩ := ix_lt_ex h
  refine iz_putR (ty := .array .int) X fp_RX12_80 (fun _ => ⟨rfl, hnm⟩) k_166 (by decide +kernel) (by decide +kernel) (Or.inr ⟨_, rfl⟩) (ix_tb_at tb_X12_init 97 rfl) e_168 (pc1 := 207) rfl ?_
  refine ix_aload_n (i := 0) (j := 0) X (ix_tb_at tb_X12_init 98 rfl) rfl rfl (pc1 := 208) rfl ?_
  refine ix_bipush (v := 40) X (ix_tb_at tb_X12_init 99 rfl) (by decide) (pc1 := 210) rfl ?_
  obtain ⟨z_169, e_170, h⟩ := ix_lt_ex h
  obtain ⟨d_171, e_172, h⟩ := ix_lt_ex h
  refine iz_newa_int (pl := 98) X (by decide +kernel) (by decide) (by decide) (Nat.le_of_ble_eq_true rfl) (Nat.le_of_ble_eq_true rfl) (ix_tb_at tb_X12_init 100 rfl) e_170 e_172 (pc1 := 212) rfl ?_
  refine ix_widen (k1 := 25) (n1 := 33049) (Nat.le_of_ble_eq_true rfl) (Nat.le_of_ble_eq_true rfl) ?_
  obtain ⟨k_173, h⟩ := ix_ck_some h
  obtain ⟨z_174, e_175, h⟩ := ix_lt_ex h
  refine iz_putR (ty := .array .int) X fp_RX12_83 (fun _ => ⟨rfl, hnm⟩) k_173 (by decide +kernel) (by decide +kernel) (Or.inr ⟨_, rfl⟩) (ix_tb_at tb_X12_init 101 rfl) e_175 (pc1 := 215) rfl ?_
  refine ix_aload_n (i := 0) (j := 0) X (ix_tb_at tb_X12_init 102 rfl) rfl rfl (pc1 := 216) rfl ?_
  refine ix_bipush (v := 40) X (ix_tb_at tb_X12_init 103 rfl) (by decide) (pc1 := 218) rfl ?_
  obtain ⟨z_176, e_177, h⟩ := ix_lt_ex h
  obtain ⟨d_178, e_179, h⟩ := ix_lt_ex h
  refine iz_newa_int (pl := 98) X (by decide +kernel) (by decide) (by decide) (Nat.le_of_ble_eq_true rfl) (Nat.le_of_ble_eq_true rfl) (ix_tb_at tb_X12_init 104 rfl) e_177 e_179 (pc1 := 220) rfl ?_
  refine ix_widen (k1 := 26) (n1 := 33089) (Nat.le_of_ble_eq_true rfl) (Nat.le_of_ble_eq_true rfl) ?_
  obtain ⟨k_180, h⟩ := ix_ck_some h
  obtain ⟨z_181, e_182, h⟩ := ix_lt_ex h
  refine iz_putR (ty := .array .int) X fp_RX12_86 (fun _ => ⟨rfl, hnm⟩) k_180 (by decide +kernel) (by decide +kernel) (Or.inr ⟨_, rfl⟩) (ix_tb_at tb_X12_init 105 rfl) e_182 (pc1 := 223) rfl ?_
  refine ix_aload_n (i := 0) (j := 0) X (ix_tb_at tb_X12_init 106 rfl) rfl rfl (pc1 := 224) rfl ?_
  refine ix_bipush (v := 14) X (ix_tb_at tb_X12_init 107 rfl) (by decide) (pc1 := 226) rfl ?_
  obtain ⟨z_183, e_184, h⟩ := ix_lt_ex h
  obtain ⟨d_185, e_186, h⟩ := ix_lt_ex h
  refine iz_newa_int (pl := 98) X (by decide +kernel) (by decide) (by decide) (Nat.le_of_ble_eq_true rfl) (Nat.le_of_ble_eq_true rfl) (ix_tb_at tb_X12_init 108 rfl) e_184 e_186 (pc1 := 228) rfl ?_
  refine ix_widen (k1 := 27) (n1 := 33103) (Nat.le_of_ble_eq_true rfl) (Nat.le_of_ble_eq_true rfl) ?_
  obtain ⟨k_187, h⟩ := ix_ck_some h
  obtain ⟨z_188, e_189, h⟩ := ix_lt_ex h
  refine iz_putR (ty := .array .int) X fp_RX12_89 (fun _ => ⟨rfl, hnm⟩) k_187 (by decide +kernel) (by decide +kernel) (Or.inr ⟨_, rfl⟩) (ix_tb_at tb_X12_init 109 rfl) e_189 (pc1 := 231) rfl ?_
  refine ix_aload_n (i := 0) (j := 0) X (ix_tb_at tb_X12_init 110 rfl) rfl rfl (pc1 := 232) rfl ?_
  refine ix_bipush (v := 14) X (ix_tb_at tb_X12_init 111 rfl) (by decide) (pc1 := 234) rfl ?_
  obtain ⟨z_190, e_191, h⟩ := ix_lt_ex h
  obtain ⟨d_192, e_193, h⟩ := ix_lt_ex h
  refine iz_newa_int (pl := 98) X (by decide +kernel) (by decide) (by decide) (Nat.le_of_ble_eq_true rfl) (Nat.le_of_ble_eq_true rfl) (ix_tb_at tb_X12_init 112 rfl) e_191 e_193 (pc1 := 236) rfl ?_
  refine ix_widen (k1 := 28) (n1 := 33117) (Nat.le_of_ble_eq_true rfl) (Nat.le_of_ble_eq_true rfl) ?_
  obtain ⟨k_194, h⟩ := ix_ck_some h
  obtain ⟨z_195, e_196, h⟩ := ix_lt_ex h
  refine iz_putR (ty := .array .int) X fp_RX12_92 (fun _ => ⟨rfl, hnm⟩) k_194 (by decide +kernel) (by decide +kernel) (Or.inr ⟨_, rfl⟩) (ix_tb_at tb_X12_init 113 rfl) e_196 (pc1 := 239) rfl ?_
  refine ix_aload_n (i := 0) (j := 0) X (ix_tb_at tb_X12_init 114 rfl) rfl rfl (pc1 := 240) rfl ?_
  refine ix_bipush (v := 60) X (ix_tb_at tb_X12_init 115 rfl) (by decide) (pc1 := 242) rfl ?_
  obtain ⟨z_197, e_198, h⟩ := ix_lt_ex h
  obtain ⟨d_199, e_200, h⟩ := ix_lt_ex h
  refine iz_newa_int (pl := 98) X (by decide +kernel) (by decide) (by decide) (Nat.le_of_ble_eq_true rfl) (Nat.le_of_ble_eq_true rfl) (ix_tb_at tb_X12_init 116 rfl) e_198 e_200 (pc1 := 244) rfl ?_
  refine ix_widen (k1 := 29) (n1 := 33177) (Nat.le_of_ble_eq_true rfl) (Nat.le_of_ble_eq_true rfl) ?_
  obtain ⟨k_201, h⟩ := ix_ck_some h
  obtain ⟨z_202, e_203, h⟩ := ix_lt_ex h
  refine iz_putR (ty := .array .int) X fp_RX12_95 (fun _ => ⟨rfl, hnm⟩) k_201 (by decide +kernel) (by decide +kernel) (Or.inr ⟨_, rfl⟩) (ix_tb_at tb_X12_init 117 rfl) e_203 (pc1 := 247) rfl ?_
  refine ix_aload_n (i := 0) (j := 0) X (ix_tb_at tb_X12_init 118 rfl) rfl rfl (pc1 := 248) rfl ?_
  refine ix_bipush (v := 60) X (ix_tb_at tb_X12_init 119 rfl) (by decide) (pc1 := 250) rfl ?_
  obtain ⟨z_204, e_205, h⟩ := ix_lt_ex h
  obtain ⟨d_206, e_207, h⟩ := ix_lt_ex h
  refine iz_newa_int (pl := 98) X (by decide +kernel) (by decide) (by decide) (Nat.le_of_ble_eq_true rfl) (Nat.le_of_ble_eq_true rfl) (ix_tb_at tb_X12_init 120 rfl) e_205 e_207 (pc1 := 252) rfl ?_
  refine ix_widen (k1 := 30) (n1 := 33237) (Nat.le_of_ble_eq_true rfl) (Nat.le_of_ble_eq_true rfl) ?_
  obtain ⟨k_208, h⟩ := ix_ck_some h
  obtain ⟨z_209, e_210, h⟩ := ix_lt_ex h
  refine iz_putR (ty := .array .int) X fp_RX12_98 (fun _ => ⟨rfl, hnm⟩) k_208 (by decide +kernel) (by decide +kernel) (Or.inr ⟨_, rfl⟩) (ix_tb_at tb_X12_init 121 rfl) e_210 (pc1 := 255) rfl ?_
  refine ix_aload_n (i := 0) (j := 0) X (ix_tb_at tb_X12_init 122 rfl) rfl rfl (pc1 := 256) rfl ?_
  refine ix_bipush (v := 60) X (ix_tb_at tb_X12_init 123 rfl) (by decide) (pc1 := 258) rfl ?_
  obtain ⟨z_211, e_212, h⟩ := ix_lt_ex h
  obtain ⟨d_213, e_214, h⟩ := ix_lt_ex h
  refine iz_newa_int (pl := 98) X (by decide +kernel) (by decide) (by decide) (Nat.le_of_ble_eq_true rfl) (Nat.le_of_ble_eq_true rfl) (ix_tb_at tb_X12_init 124 rfl) e_212 e_214 (pc1 := 260) rfl ?_
  refine ix_widen (k1 := 31) (n1 := 33297) (Nat.le_of_ble_eq_true rfl) (Nat.le_of_ble_eq_true rfl) ?_
  obtain ⟨k_215, h⟩ := ix_ck_some h
  obtain ⟨z_216, e_217, h⟩ := ix_lt_ex h
  refine iz_putR (ty := .array .int) X fp_RX12_101 (fun _ => ⟨rfl, hnm⟩) k_215 (by decide +kernel) (by decide +kernel) (Or.inr ⟨_, rfl⟩) (ix_tb_at tb_X12_init 125 rfl) e_217 (pc1 := 263) rfl ?_
  refine ix_aload_n (i := 0) (j := 0) X (ix_tb_at tb_X12_init 126 rfl) rfl rfl (pc1 := 264) rfl ?_
  refine ix_bipush (v := 60) X (ix_tb_at tb_X12_init 127 rfl) (by decide) (pc1 := 266) rfl ?_
  obtain ⟨z_218, e_219, h⟩ := ix_lt_ex h
  obtain ⟨d_220, e_221, h⟩ := ix_lt_ex h
  refine iz_newa_int (pl := 98) X (by decide +kernel) (by decide) (by decide) (Nat.le_of_ble_eq_true rfl) (Nat.le_of_ble_eq_true rfl) (ix_tb_at tb_X12_init 128 rfl) e_219 e_221 (pc1 := 268) rfl ?_
  refine ix_widen (k1 := 32) (n1 := 33357) (Nat.le_of_ble_eq_true rfl) (Nat.le_of_ble_eq_true rfl) ?_
  obtain ⟨k_222, h⟩ := ix_ck_some h
  obtain ⟨z_223, e_224, h⟩ := ix_lt_ex h
  refine iz_putR (ty := .array .int) X fp_RX12_104 (fun _ => ⟨rfl, hnm⟩) k_222 (by decide +kernel) (by decide +kernel) (Or.inr ⟨_, rfl⟩) (ix_tb_at tb_X12_init 129 rfl) e_224 (pc1 := 271) rfl ?_
  refine ix_aload_n (i := 0) (j := 0) X (ix_tb_at tb_X12_init 130 rfl) rfl rfl (pc1 := 272) rfl ?_
  refine ix_bipush (v := 60) X (ix_tb_at tb_X12_init 131 rfl) (by decide) (pc1 := 274) rfl ?_
  obtain ⟨z_225, e_226, h⟩ := ix_lt_ex h
  obtain ⟨d_227, e_228, h⟩ := ix_lt_ex h
  refine iz_newa_boolean (pl := 183) X (by decide +kernel) (by decide) (by decide) (Nat.le_of_ble_eq_true rfl) (Nat.le_of_ble_eq_true rfl) (ix_tb_at tb_X12_init 132 rfl) e_226 e_228 (pc1 := 276) rfl ?_
  refine ix_widen (k1 := 33) (n1 := 33417) (Nat.le_of_ble_eq_true rfl) (Nat.le_of_ble_eq_true rfl) ?_
  obtain ⟨k_229, h⟩ := ix_ck_some h
  obtain ⟨z_230, e_231, h⟩ := ix_lt_ex h
  refine iz_putR (ty := .array .boolean) X fp_RX12_107 (fun _ => ⟨rfl, hnm⟩) k_229 (by decide +kernel) (by decide +kernel) (Or.inr ⟨_, rfl⟩) (ix_tb_at tb_X12_init 133 rfl) e_231 (pc1 := 279) rfl ?_
  refine ix_aload_n (i := 0) (j := 0) X (ix_tb_at tb_X12_init 134 rfl) rfl rfl (pc1 := 280) rfl ?_
  refine ix_bipush (v := 26) X (ix_tb_at tb_X12_init 135 rfl) (by decide) (pc1 := 282) rfl ?_
  obtain ⟨z_232, e_233, h⟩ := ix_lt_ex h
  obtain ⟨d_234, e_235, h⟩ := ix_lt_ex h
  refine iz_newa_int (pl := 98) X (by decide +kernel) (by decide) (by decide) (Nat.le_of_ble_eq_true rfl) (Nat.le_of_ble_eq_true rfl) (ix_tb_at tb_X12_init 136 rfl) e_233 e_235 (pc1 := 284) rfl ?_
  refine ix_widen (k1 := 34) (n1 := 33443) (Nat.le_of_ble_eq_true rfl) (Nat.le_of_ble_eq_true rfl) ?_
  refine ix_dup X (ix_tb_at tb_X12_init 137 rfl) rfl (pc1 := 285) rfl ?_
  refine ix_iconst (v := 0) X (ix_tb_at tb_X12_init 138 rfl) (by decide) (pc1 := 286) rfl ?_
  refine ix_bipush (v := 115) X (ix_tb_at tb_X12_init 139 rfl) (by decide) (pc1 := 288) rfl ?_
  obtain ⟨k_236, h⟩ := ix_ck_some h
  obtain ⟨d_237, e_238, h⟩ := ix_lt_ex h
  refine iz_iast X k_236 (ix_tb_at tb_X12_init 140 rfl) e_238 (pc1 := 289) rfl ?_
  refine ix_dup X (ix_tb_at tb_X12_init 141 rfl) rfl (pc1 := 290) rfl ?_
  refine ix_iconst (v := 1) X (ix_tb_at tb_X12_init 142 rfl) (by decide) (pc1 := 291) rfl ?_
  refine ix_bipush (v := 111) X (ix_tb_at tb_X12_init 143 rfl) (by decide) (pc1 := 293) rfl ?_
  obtain ⟨k_239, h⟩ := ix_ck_some h
  obtain ⟨d_240, e_241, h⟩ := ix_lt_ex h
  refine iz_iast X k_239 (ix_tb_at tb_X12_init 144 rfl) e_241 (pc1 := 294) rfl ?_
  refine ix_dup X (ix_tb_at tb_X12_init 145 rfl) rfl (pc1 := 295) rfl ?_
  refine ix_iconst (v := 2) X (ix_tb_at tb_X12_init 146 rfl) (by decide) (pc1 := 296) rfl ?_
  refine ix_bipush (v := 109) X (ix_tb_at tb_X12_init 147 rfl) (by decide) (pc1 := 298) rfl ?_
  obtain ⟨k_242, h⟩ := ix_ck_some h
  obtain ⟨d_243, e_244, h⟩ := ix_lt_ex h
  refine iz_iast X k_242 (ix_tb_at tb_X12_init 148 rfl) e_244 (pc1 := 299) rfl ?_
  refine ix_dup X (ix_tb_at tb_X12_init 149 rfl) rfl (pc1 := 300) rfl ?_
  refine ix_iconst (v := 3) X (ix_tb_at tb_X12_init 150 rfl) (by decide) (pc1 := 301) rfl ?_
  refine ix_bipush (v := 101) X (ix_tb_at tb_X12_init 151 rfl) (by decide) (pc1 := 303) rfl ?_
  obtain ⟨k_245, h⟩ := ix_ck_some h
  obtain ⟨d_246, e_247, h⟩ := ix_lt_ex h
  refine iz_iast X k_245 (ix_tb_at tb_X12_init 152 rfl) e_247 (pc1 := 304) rfl ?_
  refine ix_dup X (ix_tb_at tb_X12_init 153 rfl) rfl (pc1 := 305) rfl ?_
  refine ix_iconst (v := 4) X (ix_tb_at tb_X12_init 154 rfl) (by decide) (pc1 := 306) rfl ?_
  refine ix_iconst (v := 0) X (ix_tb_at tb_X12_init 155 rfl) (by decide) (pc1 := 307) rfl ?_
  obtain ⟨k_248, h⟩ := ix_ck_some h
  obtain ⟨d_249, e_250, h⟩ := ix_lt_ex h
  refine iz_iast X k_248 (ix_tb_at tb_X12_init 156 rfl) e_250 (pc1 := 308) rfl ?_
  refine ix_dup X (ix_tb_at tb_X12_init 157 rfl) rfl (pc1 := 309) rfl ?_
  refine ix_iconst (v := 5) X (ix_tb_at tb_X12_init 158 rfl) (by decide) (pc1 := 310) rfl ?_
  refine ix_bipush (v := 109) X (ix_tb_at tb_X12_init 159 rfl) (by decide) (pc1 := 312) rfl ?_
  obtain ⟨k_251, h⟩ := ix_ck_some h
  obtain ⟨d_252, e_253, h⟩ := ix_lt_ex h
  refine iz_iast X k_251 (ix_tb_at tb_X12_init 160 rfl) e_253 (pc1 := 313) rfl ?_
  refine ix_dup X (ix_tb_at tb_X12_init 161 rfl) rfl (pc1 := 314) rfl ?_
  refine ix_bipush (v := 6) X (ix_tb_at tb_X12_init 162 rfl) (by decide) (pc1 := 316) rfl ?_
  refine ix_bipush (v := 111) X (ix_tb_at tb_X12_init 163 rfl) (by decide) (pc1 := 318) rfl ?_
  obtain ⟨k_254, h⟩ := ix_ck_some h
  obtain ⟨d_255, e_256, h⟩ := ix_lt_ex h
  refine iz_iast X k_254 (ix_tb_at tb_X12_init 164 rfl) e_256 (pc1 := 319) rfl ?_
  refine ix_dup X (ix_tb_at tb_X12_init 165 rfl) rfl (pc1 := 320) rfl ?_
  refine ix_bipush (v := 7) X (ix_tb_at tb_X12_init 166 rfl) (by decide) (pc1 := 322) rfl ?_
  refine ix_bipush (v := 115) X (ix_tb_at tb_X12_init 167 rfl) (by decide) (pc1 := 324) rfl ?_
  obtain ⟨k_257, h⟩ := ix_ck_some h
  obtain ⟨d_258, e_259, h⟩ := ix_lt_ex h
  refine iz_iast X k_257 (ix_tb_at tb_X12_init 168 rfl) e_259 (pc1 := 325) rfl ?_
  refine ix_dup X (ix_tb_at tb_X12_init 169 rfl) rfl (pc1 := 326) rfl ?_
  refine ix_bipush (v := 8) X (ix_tb_at tb_X12_init 170 rfl) (by decide) (pc1 := 328) rfl ?_
  refine ix_bipush (v := 116) X (ix_tb_at tb_X12_init 171 rfl) (by decide) (pc1 := 330) rfl ?_
  obtain ⟨k_260, h⟩ := ix_ck_some h
  obtain ⟨d_261, e_262, h⟩ := ix_lt_ex h
  refine iz_iast X k_260 (ix_tb_at tb_X12_init 172 rfl) e_262 (pc1 := 331) rfl ?_
  refine ix_dup X (ix_tb_at tb_X12_init 173 rfl) rfl (pc1 := 332) rfl ?_
  refine ix_bipush (v := 9) X (ix_tb_at tb_X12_init 174 rfl) (by decide) (pc1 := 334) rfl ?_
  refine ix_bipush (v := 32) X (ix_tb_at tb_X12_init 175 rfl) (by decide) (pc1 := 336) rfl ?_
  obtain ⟨k_263, h⟩ := ix_ck_some h
  obtain ⟨d_264, e_265, h⟩ := ix_lt_ex h
  refine iz_iast X k_263 (ix_tb_at tb_X12_init 176 rfl) e_265 (pc1 := 337) rfl ?_
  refine ix_dup X (ix_tb_at tb_X12_init 177 rfl) rfl (pc1 := 338) rfl ?_
  refine ix_bipush (v := 10) X (ix_tb_at tb_X12_init 178 rfl) (by decide) (pc1 := 340) rfl ?_
  refine ix_iconst (v := 0) X (ix_tb_at tb_X12_init 179 rfl) (by decide) (pc1 := 341) rfl ?_
  obtain ⟨k_266, h⟩ := ix_ck_some h
  obtain ⟨d_267, e_268, h⟩ := ix_lt_ex h
  refine iz_iast X k_266 (ix_tb_at tb_X12_init 180 rfl) e_268 (pc1 := 342) rfl ?_
  refine ix_dup X (ix_tb_at tb_X12_init 181 rfl) rfl (pc1 := 343) rfl ?_
  refine ix_bipush (v := 11) X (ix_tb_at tb_X12_init 182 rfl) (by decide) (pc1 := 345) rfl ?_
  refine ix_bipush (v := 106) X (ix_tb_at tb_X12_init 183 rfl) (by decide) (pc1 := 347) rfl ?_
  obtain ⟨k_269, h⟩ := ix_ck_some h
  obtain ⟨d_270, e_271, h⟩ := ix_lt_ex h
  refine iz_iast X k_269 (ix_tb_at tb_X12_init 184 rfl) e_271 (pc1 := 348) rfl ?_
  refine ix_dup X (ix_tb_at tb_X12_init 185 rfl) rfl (pc1 := 349) rfl ?_
  refine ix_bipush (v := 12) X (ix_tb_at tb_X12_init 186 rfl) (by decide) (pc1 := 351) rfl ?_
  refine ix_bipush (v := 117) X (ix_tb_at tb_X12_init 187 rfl) (by decide) (pc1 := 353) rfl ?_
  obtain ⟨k_272, h⟩ := ix_ck_some h
  obtain ⟨d_273, e_274, h⟩ := ix_lt_ex h
  refine iz_iast X k_272 (ix_tb_at tb_X12_init 188 rfl) e_274 (pc1 := 354) rfl ?_
  refine ix_dup X (ix_tb_at tb_X12_init 189 rfl) rfl (pc1 := 355) rfl ?_
  refine ix_bipush (v := 13) X (ix_tb_at tb_X12_init 190 rfl) (by decide) (pc1 := 357) rfl ?_
  refine ix_bipush (v := 115) X (ix_tb_at tb_X12_init 191 rfl) (by decide) (pc1 := 359) rfl ?_
  obtain ⟨k_275, h⟩ := ix_ck_some h
  obtain ⟨d_276, e_277, h⟩ := ix_lt_ex h
  refine iz_iast X k_275 (ix_tb_at tb_X12_init 192 rfl) e_277 (pc1 := 360) rfl ?_
  refine ix_dup X (ix_tb_at tb_X12_init 193 rfl) rfl (pc1 := 361) rfl ?_
  refine ix_bipush (v := 14) X (ix_tb_at tb_X12_init 194 rfl) (by decide) (pc1 := 363) rfl ?_
  refine ix_bipush (v := 116) X (ix_tb_at tb_X12_init 195 rfl) (by decide) (pc1 := 365) rfl ?_
  obtain ⟨k_278, h⟩ := ix_ck_some h
  obtain ⟨d_279, e_280, h⟩ := ix_lt_ex h
  refine iz_iast X k_278 (ix_tb_at tb_X12_init 196 rfl) e_280 (pc1 := 366) rfl ?_
  refine ix_dup X (ix_tb_at tb_X12_init 197 rfl) rfl (pc1 := 367) rfl ?_
  refine ix_bipush (v := 15) X (ix_tb_at tb_X12_init 198 rfl) (by decide) (pc1 := 369) rfl ?_
  refine ix_bipush (v := 32) X (ix_tb_at tb_X12_init 199 rfl) (by decide) (pc1 := 371) rfl ?_
  obtain ⟨k_281, h⟩ := ix_ck_some h
  obtain ⟨d_282, e_283, h⟩ := ix_lt_ex h
  refine iz_iast X k_281 (ix_tb_at tb_X12_init 200 rfl) e_283 (pc1 := 372) rfl ?_
  refine ix_dup X (ix_tb_at tb_X12_init 201 rfl) rfl (pc1 := 373) rfl ?_
  refine ix_bipush (v := 16) X (ix_tb_at tb_X12_init 202 rfl) (by decide) (pc1 := 375) rfl ?_
  refine ix_iconst (v := 0) X (ix_tb_at tb_X12_init 203 rfl) (by decide) (pc1 := 376) rfl ?_
  obtain ⟨k_284, h⟩ := ix_ck_some h
  obtain ⟨d_285, e_286, h⟩ := ix_lt_ex h
  refine iz_iast X k_284 (ix_tb_at tb_X12_init 204 rfl) e_286 (pc1 := 377) rfl ?_
  refine ix_dup X (ix_tb_at tb_X12_init 205 rfl) rfl (pc1 := 378) rfl ?_
  refine ix_bipush (v := 17) X (ix_tb_at tb_X12_init 206 rfl) (by decide) (pc1 := 380) rfl ?_
  refine ix_bipush (v := 111) X (ix_tb_at tb_X12_init 207 rfl) (by decide) (pc1 := 382) rfl ?_
  obtain ⟨k_287, h⟩ := ix_ck_some h
  obtain ⟨d_288, e_289, h⟩ := ix_lt_ex h
  refine iz_iast X k_287 (ix_tb_at tb_X12_init 208 rfl) e_289 (pc1 := 383) rfl ?_
  refine ix_dup X (ix_tb_at tb_X12_init 209 rfl) rfl (pc1 := 384) rfl ?_
  refine ix_bipush (v := 18) X (ix_tb_at tb_X12_init 210 rfl) (by decide) (pc1 := 386) rfl ?_
  refine ix_bipush (v := 100) X (ix_tb_at tb_X12_init 211 rfl) (by decide) (pc1 := 388) rfl ?_
  obtain ⟨k_290, h⟩ := ix_ck_some h
  obtain ⟨d_291, e_292, h⟩ := ix_lt_ex h
  refine iz_iast X k_290 (ix_tb_at tb_X12_init 212 rfl) e_292 (pc1 := 389) rfl ?_
  refine ix_dup X (ix_tb_at tb_X12_init 213 rfl) rfl (pc1 := 390) rfl ?_
  refine ix_bipush (v := 19) X (ix_tb_at tb_X12_init 214 rfl) (by decide) (pc1 := 392) rfl ?_
  refine ix_bipush (v := 100) X (ix_tb_at tb_X12_init 215 rfl) (by decide) (pc1 := 394) rfl ?_
  obtain ⟨k_293, h⟩ := ix_ck_some h
  obtain ⟨d_294, e_295, h⟩ := ix_lt_ex h
  refine iz_iast X k_293 (ix_tb_at tb_X12_init 216 rfl) e_295 (pc1 := 395) rfl ?_
  refine ix_dup X (ix_tb_at tb_X12_init 217 rfl) rfl (pc1 := 396) rfl ?_
  refine ix_bipush (v := 20) X (ix_tb_at tb_X12_init 218 rfl) (by decide) (pc1 := 398) rfl ?_
  refine ix_iconst (v := 0) X (ix_tb_at tb_X12_init 219 rfl) (by decide) (pc1 := 399) rfl ?_
  obtain ⟨k_296, h⟩ := ix_ck_some h
  obtain ⟨d_297, e_298, h⟩ := ix_lt_ex h
  refine iz_iast X k_296 (ix_tb_at tb_X12_init 220 rfl) e_298 (pc1 := 400) rfl ?_
  refine ix_dup X (ix_tb_at tb_X12_init 221 rfl) rfl (pc1 := 401) rfl ?_
  refine ix_bipush (v := 21) X (ix_tb_at tb_X12_init 222 rfl) (by decide) (pc1 := 403) rfl ?_
  refine ix_bipush (v := 101) X (ix_tb_at tb_X12_init 223 rfl) (by decide) (pc1 := 405) rfl ?_
  obtain ⟨k_299, h⟩ := ix_ck_some h
  obtain ⟨d_300, e_301, h⟩ := ix_lt_ex h
  refine iz_iast X k_299 (ix_tb_at tb_X12_init 224 rfl) e_301 (pc1 := 406) rfl ?_
  refine ix_dup X (ix_tb_at tb_X12_init 225 rfl) rfl (pc1 := 407) rfl ?_
  refine ix_bipush (v := 22) X (ix_tb_at tb_X12_init 226 rfl) (by decide) (pc1 := 409) rfl ?_
  refine ix_bipush (v := 118) X (ix_tb_at tb_X12_init 227 rfl) (by decide) (pc1 := 411) rfl ?_
  obtain ⟨k_302, h⟩ := ix_ck_some h
  obtain ⟨d_303, e_304, h⟩ := ix_lt_ex h
  refine iz_iast X k_302 (ix_tb_at tb_X12_init 228 rfl) e_304 (pc1 := 412) rfl ?_
  refine ix_dup X (ix_tb_at tb_X12_init 229 rfl) rfl (pc1 := 413) rfl ?_
  refine ix_bipush (v := 23) X (ix_tb_at tb_X12_init 230 rfl) (by decide) (pc1 := 415) rfl ?_
  refine ix_bipush (v := 101) X (ix_tb_at tb_X12_init 231 rfl) (by decide) (pc1 := 417) rfl ?_
  obtain ⟨k_305, h⟩ := ix_ck_some h
  obtain ⟨d_306, e_307, h⟩ := ix_lt_ex h
  refine iz_iast X k_305 (ix_tb_at tb_X12_init 232 rfl) e_307 (pc1 := 418) rfl ?_
  refine ix_dup X (ix_tb_at tb_X12_init 233 rfl) rfl (pc1 := 419) rfl ?_
  refine ix_bipush (v := 24) X (ix_tb_at tb_X12_init 234 rfl) (by decide) (pc1 := 421) rfl ?_
  refine ix_bipush (v := 110) X (ix_tb_at tb_X12_init 235 rfl) (by decide) (pc1 := 423) rfl ?_
  obtain ⟨k_308, h⟩ := ix_ck_some h
  obtain ⟨d_309, e_310, h⟩ := ix_lt_ex h
  refine iz_iast X k_308 (ix_tb_at tb_X12_init 236 rfl) e_310 (pc1 := 424) rfl ?_
  refine ix_dup X (ix_tb_at tb_X12_init 237 rfl) rfl (pc1 := 425) rfl ?_
  refine ix_bipush (v := 25) X (ix_tb_at tb_X12_init 238 rfl) (by decide) (pc1 := 427) rfl ?_
  refine ix_iconst (v := 0) X (ix_tb_at tb_X12_init 239 rfl) (by decide) (pc1 := 428) rfl ?_
  obtain ⟨k_311, h⟩ := ix_ck_some h
  obtain ⟨d_312, e_313, h⟩ := ix_lt_ex h
  refine iz_iast X k_311 (ix_tb_at tb_X12_init 240 rfl) e_313 (pc1 := 429) rfl ?_
  obtain ⟨k_314, h⟩ := ix_ck_some h
  obtain ⟨z_315, e_316, h⟩ := ix_lt_ex h
  refine iz_putR (ty := .array .int) X fp_RX12_110 (fun _ => ⟨rfl, hnm⟩) k_314 (by decide +kernel) (by decide +kernel) (Or.inr ⟨_, rfl⟩) (ix_tb_at tb_X12_init 241 rfl) e_316 (pc1 := 432) rfl ?_
  refine ix_aload_n (i := 0) (j := 0) X (ix_tb_at tb_X12_init 242 rfl) rfl rfl (pc1 := 433) rfl ?_
  refine ix_sipush (v := 301) X (ix_tb_at tb_X12_init 243 rfl) (by decide) (pc1 := 436) rfl ?_
  obtain ⟨z_317, e_318, h⟩ := ix_lt_ex h
  obtain ⟨d_319, e_320, h⟩ := ix_lt_ex h
  refine iz_newa_int (pl := 98) X (by decide +kernel) (by decide) (by decide) (Nat.le_of_ble_eq_true rfl) (Nat.le_of_ble_eq_true rfl) (ix_tb_at tb_X12_init 244 rfl) e_318 e_320 (pc1 := 438) rfl ?_
  refine ix_widen (k1 := 35) (n1 := 33744) (Nat.le_of_ble_eq_true rfl) (Nat.le_of_ble_eq_true rfl) ?_
  obtain ⟨k_321, h⟩ := ix_ck_some h
  obtain ⟨z_322, e_323, h⟩ := ix_lt_ex h
  refine iz_putR (ty := .array .int) X fp_RX12_113 (fun _ => ⟨rfl, hnm⟩) k_321 (by decide +kernel) (by decide +kernel) (Or.inr ⟨_, rfl⟩) (ix_tb_at tb_X12_init 245 rfl) e_323 (pc1 := 441) rfl ?_
  refine ix_aload_n (i := 0) (j := 0) X (ix_tb_at tb_X12_init 246 rfl) rfl rfl (pc1 := 442) rfl ?_
  refine ix_iconst (v := 2) X (ix_tb_at tb_X12_init 247 rfl) (by decide) (pc1 := 443) rfl ?_
  obtain ⟨z_324, e_325, h⟩ := ix_lt_ex h
  obtain ⟨d_326, e_327, h⟩ := ix_lt_ex h
  refine iz_newa_int (pl := 98) X (by decide +kernel) (by decide) (by decide) (Nat.le_of_ble_eq_true rfl) (Nat.le_of_ble_eq_true rfl) (ix_tb_at tb_X12_init 248 rfl) e_325 e_327 (pc1 := 445) rfl ?_
  refine ix_widen (k1 := 36) (n1 := 33746) (Nat.le_of_ble_eq_true rfl) (Nat.le_of_ble_eq_true rfl) ?_
  obtain ⟨k_328, h⟩ := ix_ck_some h
  obtain ⟨z_329, e_330, h⟩ := ix_lt_ex h
  refine iz_putR (ty := .array .int) X fp_RX12_116 (fun _ => ⟨rfl, hnm⟩) k_328 (by decide +kernel) (by decide +kernel) (Or.inr ⟨_, rfl⟩) (ix_tb_at tb_X12_init 249 rfl) e_330 (pc1 := 448) rfl ?_
  refine ix_aload_n (i := 0) (j := 0) X (ix_tb_at tb_X12_init 250 rfl) rfl rfl (pc1 := 449) rfl ?_
  refine ix_iconst (v := 2) X (ix_tb_at tb_X12_init 251 rfl) (by decide) (pc1 := 450) rfl ?_
  obtain ⟨z_331, e_332, h⟩ := ix_lt_ex h
  obtain ⟨d_333, e_334, h⟩ := ix_lt_ex h
  refine iz_newa_int (pl := 98) X (by decide +kernel) (by decide) (by decide) (Nat.le_of_ble_eq_true rfl) (Nat.le_of_ble_eq_true rfl) (ix_tb_at tb_X12_init 252 rfl) e_332 e_334 (pc1 := 452) rfl ?_
  refine ix_widen (k1 := 37) (n1 := 33748) (Nat.le_of_ble_eq_true rfl) (Nat.le_of_ble_eq_true rfl) ?_
  obtain ⟨k_335, h⟩ := ix_ck_some h
  obtain ⟨z_336, e_337, h⟩ := ix_lt_ex h
  refine iz_putR (ty := .array .int) X fp_RX12_119 (fun _ => ⟨rfl, hnm⟩) k_335 (by decide +kernel) (by decide +kernel) (Or.inr ⟨_, rfl⟩) (ix_tb_at tb_X12_init 253 rfl) e_337 (pc1 := 455) rfl ?_
  refine ix_aload_n (i := 0) (j := 0) X (ix_tb_at tb_X12_init 254 rfl) rfl rfl (pc1 := 456) rfl ?_
  refine ix_sipush (v := 1000) X (ix_tb_at tb_X12_init 255 rfl) (by decide) (pc1 := 459) rfl ?_
  obtain ⟨z_338, e_339, h⟩ := ix_lt_ex h
  obtain ⟨d_340, e_341, h⟩ := ix_lt_ex h
  refine iz_newa_boolean (pl := 183) X (by decide +kernel) (by decide) (by decide) (Nat.le_of_ble_eq_true rfl) (Nat.le_of_ble_eq_true rfl) (ix_tb_at tb_X12_init 256 rfl) e_339 e_341 (pc1 := 461) rfl ?_
  refine ix_widen (k1 := 38) (n1 := 34748) (Nat.le_of_ble_eq_true rfl) (Nat.le_of_ble_eq_true rfl) ?_
  obtain ⟨k_342, h⟩ := ix_ck_some h
  obtain ⟨z_343, e_344, h⟩ := ix_lt_ex h
  refine iz_putR (ty := .array .boolean) X fp_RX12_122 (fun _ => ⟨rfl, hnm⟩) k_342 (by decide +kernel) (by decide +kernel) (Or.inr ⟨_, rfl⟩) (ix_tb_at tb_X12_init 257 rfl) e_344 (pc1 := 464) rfl ?_
  refine ix_aload_n (i := 0) (j := 0) X (ix_tb_at tb_X12_init 258 rfl) rfl rfl (pc1 := 465) rfl ?_
  refine ix_bipush (v := 40) X (ix_tb_at tb_X12_init 259 rfl) (by decide) (pc1 := 467) rfl ?_
  obtain ⟨z_345, e_346, h⟩ := ix_lt_ex h
  obtain ⟨d_347, e_348, h⟩ := ix_lt_ex h
  refine iz_newa_int (pl := 98) X (by decide +kernel) (by decide) (by decide) (Nat.le_of_ble_eq_true rfl) (Nat.le_of_ble_eq_true rfl) (ix_tb_at tb_X12_init 260 rfl) e_346 e_348 (pc1 := 469) rfl ?_
  refine ix_widen (k1 := 39) (n1 := 34788) (Nat.le_of_ble_eq_true rfl) (Nat.le_of_ble_eq_true rfl) ?_
  obtain ⟨k_349, h⟩ := ix_ck_some h
  obtain ⟨z_350, e_351, h⟩ := ix_lt_ex h
  refine iz_putR (ty := .array .int) X fp_RX12_125 (fun _ => ⟨rfl, hnm⟩) k_349 (by decide +kernel) (by decide +kernel) (Or.inr ⟨_, rfl⟩) (ix_tb_at tb_X12_init 261 rfl) e_351 (pc1 := 472) rfl ?_
  refine ix_aload_n (i := 0) (j := 0) X (ix_tb_at tb_X12_init 262 rfl) rfl rfl (pc1 := 473) rfl ?_
  refine ix_iconst (v := 2) X (ix_tb_at tb_X12_init 263 rfl) (by decide) (pc1 := 474) rfl ?_
  obtain ⟨z_352, e_353, h⟩ := ix_lt_ex h
  obtain ⟨d_354, e_355, h⟩ := ix_lt_ex h
  refine iz_newa_int (pl := 98) X (by decide +kernel) (by decide) (by decide) (Nat.le_of_ble_eq_true rfl) (Nat.le_of_ble_eq_true rfl) (ix_tb_at tb_X12_init 264 rfl) e_353 e_355 (pc1 := 476) rfl ?_
  refine ix_widen (k1 := 40) (n1 := 34790) (Nat.le_of_ble_eq_true rfl) (Nat.le_of_ble_eq_true rfl) ?_
  obtain ⟨k_356, h⟩ := ix_ck_some h
  obtain ⟨z_357, e_358, h⟩ := ix_lt_ex h
  refine iz_putR (ty := .array .int) X fp_RX12_128 (fun _ => ⟨rfl, hnm⟩) k_356 (by decide +kernel) (by decide +kernel) (Or.inr ⟨_, rfl⟩) (ix_tb_at tb_X12_init 265 rfl) e_358 (pc1 := 479) rfl ?_
  refine ix_aload_n (i := 0) (j := 0) X (ix_tb_at tb_X12_init 266 rfl) rfl rfl (pc1 := 480) rfl ?_
  refine ix_iconst (v := 2) X (ix_tb_at tb_X12_init 267 rfl) (by decide) (pc1 := 481) rfl ?_
  obtain ⟨z_359, e_360, h⟩ := ix_lt_ex h
  obtain ⟨d_361, e_362, h⟩ := ix_lt_ex h
  refine iz_newa_int (pl := 98) X (by decide +kernel) (by decide) (by decide) (Nat.le_of_ble_eq_true rfl) (Nat.le_of_ble_eq_true rfl) (ix_tb_at tb_X12_init 268 rfl) e_360 e_362 (pc1 := 483) rfl ?_
  refine ix_widen (k1 := 41) (n1 := 34792) (Nat.le_of_ble_eq_true rfl) (Nat.le_of_ble_eq_true rfl) ?_
  obtain ⟨k_363, h⟩ := ix_ck_some h
  obtain ⟨z_364, e_365, h⟩ := ix_lt_ex h
  refine iz_putR (ty := .array .int) X fp_RX12_131 (fun _ => ⟨rfl, hnm⟩) k_363 (by decide +kernel) (by decide +kernel) (Or.inr ⟨_, rfl⟩) (ix_tb_at tb_X12_init 269 rfl) e_365 (pc1 := 486) rfl ?_
  refine ix_aload_n (i := 0) (j := 0) X (ix_tb_at tb_X12_init 270 rfl) rfl rfl (pc1 := 487) rfl ?_
  refine ix_sipush (v := 602) X (ix_tb_at tb_X12_init 271 rfl) (by decide) (pc1 := 490) rfl ?_
  obtain ⟨z_366, e_367, h⟩ := ix_lt_ex h
  obtain ⟨d_368, e_369, h⟩ := ix_lt_ex h
  refine iz_newa_int (pl := 98) X (by decide +kernel) (by decide) (by decide) (Nat.le_of_ble_eq_true rfl) (Nat.le_of_ble_eq_true rfl) (ix_tb_at tb_X12_init 272 rfl) e_367 e_369 (pc1 := 492) rfl ?_
  refine ix_widen (k1 := 42) (n1 := 35394) (Nat.le_of_ble_eq_true rfl) (Nat.le_of_ble_eq_true rfl) ?_
  obtain ⟨k_370, h⟩ := ix_ck_some h
  obtain ⟨z_371, e_372, h⟩ := ix_lt_ex h
  refine iz_putR (ty := .array .int) X fp_RX12_134 (fun _ => ⟨rfl, hnm⟩) k_370 (by decide +kernel) (by decide +kernel) (Or.inr ⟨_, rfl⟩) (ix_tb_at tb_X12_init 273 rfl) e_372 (pc1 := 495) rfl ?_
  refine ix_aload_n (i := 0) (j := 0) X (ix_tb_at tb_X12_init 274 rfl) rfl rfl (pc1 := 496) rfl ?_
  refine ix_sipush (v := 602) X (ix_tb_at tb_X12_init 275 rfl) (by decide) (pc1 := 499) rfl ?_
  obtain ⟨z_373, e_374, h⟩ := ix_lt_ex h
  obtain ⟨d_375, e_376, h⟩ := ix_lt_ex h
  refine iz_newa_int (pl := 98) X (by decide +kernel) (by decide) (by decide) (Nat.le_of_ble_eq_true rfl) (Nat.le_of_ble_eq_true rfl) (ix_tb_at tb_X12_init 276 rfl) e_374 e_376 (pc1 := 501) rfl ?_
  refine ix_widen (k1 := 43) (n1 := 35996) (Nat.le_of_ble_eq_true rfl) (Nat.le_of_ble_eq_true rfl) ?_
  obtain ⟨k_377, h⟩ := ix_ck_some h
  obtain ⟨z_378, e_379, h⟩ := ix_lt_ex h
  refine iz_putR (ty := .array .int) X fp_RX12_137 (fun _ => ⟨rfl, hnm⟩) k_377 (by decide +kernel) (by decide +kernel) (Or.inr ⟨_, rfl⟩) (ix_tb_at tb_X12_init 277 rfl) e_379 (pc1 := 504) rfl ?_
  refine ix_aload_n (i := 0) (j := 0) X (ix_tb_at tb_X12_init 278 rfl) rfl rfl (pc1 := 505) rfl ?_
  refine ix_sipush (v := 602) X (ix_tb_at tb_X12_init 279 rfl) (by decide) (pc1 := 508) rfl ?_
  obtain ⟨z_380, e_381, h⟩ := ix_lt_ex h
  obtain ⟨d_382, e_383, h⟩ := ix_lt_ex h
  refine iz_newa_int (pl := 98) X (by decide +kernel) (by decide) (by decide) (Nat.le_of_ble_eq_true rfl) (Nat.le_of_ble_eq_true rfl) (ix_tb_at tb_X12_init 280 rfl) e_381 e_383 (pc1 := 510) rfl ?_
  refine ix_widen (k1 := 44) (n1 := 36598) (Nat.le_of_ble_eq_true rfl) (Nat.le_of_ble_eq_true rfl) ?_
  obtain ⟨k_384, h⟩ := ix_ck_some h
  obtain ⟨z_385, e_386, h⟩ := ix_lt_ex h
  refine iz_putR (ty := .array .int) X fp_RX12_140 (fun _ => ⟨rfl, hnm⟩) k_384 (by decide +kernel) (by decide +kernel) (Or.inr ⟨_, rfl⟩) (ix_tb_at tb_X12_init 281 rfl) e_386 (pc1 := 513) rfl ?_
  refine ix_aload_n (i := 0) (j := 0) X (ix_tb_at tb_X12_init 282 rfl) rfl rfl (pc1 := 514) rfl ?_
  refine ix_sipush (v := 602) X (ix_tb_at tb_X12_init 283 rfl) (by decide) (pc1 := 517) rfl ?_
  obtain ⟨z_387, e_388, h⟩ := ix_lt_ex h
  obtain ⟨d_389, e_390, h⟩ := ix_lt_ex h
  refine iz_newa_int (pl := 98) X (by decide +kernel) (by decide) (by decide) (Nat.le_of_ble_eq_true rfl) (Nat.le_of_ble_eq_true rfl) (ix_tb_at tb_X12_init 284 rfl) e_388 e_390 (pc1 := 519) rfl ?_
  refine ix_widen (k1 := 45) (n1 := 37200) (Nat.le_of_ble_eq_true rfl) (Nat.le_of_ble_eq_true rfl) ?_
  obtain ⟨k_391, h⟩ := ix_ck_some h
  obtain ⟨z_392, e_393, h⟩ := ix_lt_ex h
  refine iz_putR (ty := .array .int) X fp_RX12_143 (fun _ => ⟨rfl, hnm⟩) k_391 (by decide +kernel) (by decide +kernel) (Or.inr ⟨_, rfl⟩) (ix_tb_at tb_X12_init 285 rfl) e_393 (pc1 := 522) rfl ?_
  refine ix_aload_n (i := 0) (j := 0) X (ix_tb_at tb_X12_init 286 rfl) rfl rfl (pc1 := 523) rfl ?_
  refine ix_sipush (v := 602) X (ix_tb_at tb_X12_init 287 rfl) (by decide) (pc1 := 526) rfl ?_
  obtain ⟨z_394, e_395, h⟩ := ix_lt_ex h
  obtain ⟨d_396, e_397, h⟩ := ix_lt_ex h
  refine iz_newa_long (pl := 270) X (by decide +kernel) (by decide) (by decide) (Nat.le_of_ble_eq_true rfl) (Nat.le_of_ble_eq_true rfl) (ix_tb_at tb_X12_init 288 rfl) e_395 e_397 (pc1 := 528) rfl ?_
  refine ix_widen (k1 := 46) (n1 := 37802) (Nat.le_of_ble_eq_true rfl) (Nat.le_of_ble_eq_true rfl) ?_
  obtain ⟨k_398, h⟩ := ix_ck_some h
  obtain ⟨z_399, e_400, h⟩ := ix_lt_ex h
  refine iz_putR (ty := .array .long) X fp_RX12_146 (fun _ => ⟨rfl, hnm⟩) k_398 (by decide +kernel) (by decide +kernel) (Or.inr ⟨_, rfl⟩) (ix_tb_at tb_X12_init 289 rfl) e_400 (pc1 := 531) rfl ?_
  refine ix_aload_n (i := 0) (j := 0) X (ix_tb_at tb_X12_init 290 rfl) rfl rfl (pc1 := 532) rfl ?_
  refine ix_iconst (v := 2) X (ix_tb_at tb_X12_init 291 rfl) (by decide) (pc1 := 533) rfl ?_
  obtain ⟨z_401, e_402, h⟩ := ix_lt_ex h
  obtain ⟨d_403, e_404, h⟩ := ix_lt_ex h
  refine iz_newa_long (pl := 270) X (by decide +kernel) (by decide) (by decide) (Nat.le_of_ble_eq_true rfl) (Nat.le_of_ble_eq_true rfl) (ix_tb_at tb_X12_init 292 rfl) e_402 e_404 (pc1 := 535) rfl ?_
  refine ix_widen (k1 := 47) (n1 := 37804) (Nat.le_of_ble_eq_true rfl) (Nat.le_of_ble_eq_true rfl) ?_
  obtain ⟨k_405, h⟩ := ix_ck_some h
  obtain ⟨z_406, e_407, h⟩ := ix_lt_ex h
  refine iz_putR (ty := .array .long) X fp_RX12_150 (fun _ => ⟨rfl, hnm⟩) k_405 (by decide +kernel) (by decide +kernel) (Or.inr ⟨_, rfl⟩) (ix_tb_at tb_X12_init 293 rfl) e_407 (pc1 := 538) rfl ?_
  refine ix_aload_n (i := 0) (j := 0) X (ix_tb_at tb_X12_init 294 rfl) rfl rfl (pc1 := 539) rfl ?_
  refine ix_sipush (v := 600) X (ix_tb_at tb_X12_init 295 rfl) (by decide) (pc1 := 542) rfl ?_
  obtain ⟨z_408, e_409, h⟩ := ix_lt_ex h
  obtain ⟨d_410, e_411, h⟩ := ix_lt_ex h
  refine iz_newa_int (pl := 98) X (by decide +kernel) (by decide) (by decide) (Nat.le_of_ble_eq_true rfl) (Nat.le_of_ble_eq_true rfl) (ix_tb_at tb_X12_init 296 rfl) e_409 e_411 (pc1 := 544) rfl ?_
  refine ix_widen (k1 := 48) (n1 := 38404) (Nat.le_of_ble_eq_true rfl) (Nat.le_of_ble_eq_true rfl) ?_
  obtain ⟨k_412, h⟩ := ix_ck_some h
  obtain ⟨z_413, e_414, h⟩ := ix_lt_ex h
  refine iz_putR (ty := .array .int) X fp_RX12_153 (fun _ => ⟨rfl, hnm⟩) k_412 (by decide +kernel) (by decide +kernel) (Or.inr ⟨_, rfl⟩) (ix_tb_at tb_X12_init 297 rfl) e_414 (pc1 := 547) rfl ?_
  refine ix_aload_n (i := 0) (j := 0) X (ix_tb_at tb_X12_init 298 rfl) rfl rfl (pc1 := 548) rfl ?_
  refine ix_iconst (v := 2) X (ix_tb_at tb_X12_init 299 rfl) (by decide) (pc1 := 549) rfl ?_
  obtain ⟨z_415, e_416, h⟩ := ix_lt_ex h
  obtain ⟨d_417, e_418, h⟩ := ix_lt_ex h
  refine iz_newa_int (pl := 98) X (by decide +kernel) (by decide) (by decide) (Nat.le_of_ble_eq_true rfl) (Nat.le_of_ble_eq_true rfl) (ix_tb_at tb_X12_init 300 rfl) e_416 e_418 (pc1 := 551) rfl ?_
  refine ix_widen (k1 := 49) (n1 := 38406) (Nat.le_of_ble_eq_true rfl) (Nat.le_of_ble_eq_true rfl) ?_
  obtain ⟨k_419, h⟩ := ix_ck_some h
  obtain ⟨z_420, e_421, h⟩ := ix_lt_ex h
  refine iz_putR (ty := .array .int) X fp_RX12_156 (fun _ => ⟨rfl, hnm⟩) k_419 (by decide +kernel) (by decide +kernel) (Or.inr ⟨_, rfl⟩) (ix_tb_at tb_X12_init 301 rfl) e_421 (pc1 := 554) rfl ?_
  refine ix_aload_n (i := 0) (j := 0) X (ix_tb_at tb_X12_init 302 rfl) rfl rfl (pc1 := 555) rfl ?_
  refine ix_iconst (v := 2) X (ix_tb_at tb_X12_init 303 rfl) (by decide) (pc1 := 556) rfl ?_
  obtain ⟨z_422, e_423, h⟩ := ix_lt_ex h
  obtain ⟨d_424, e_425, h⟩ := ix_lt_ex h
  refine iz_newa_int (pl := 98) X (by decide +kernel) (by decide) (by decide) (Nat.le_of_ble_eq_true rfl) (Nat.le_of_ble_eq_true rfl) (ix_tb_at tb_X12_init 304 rfl) e_423 e_425 (pc1 := 558) rfl ?_
  refine ix_widen (k1 := 50) (n1 := 38408) (Nat.le_of_ble_eq_true rfl) (Nat.le_of_ble_eq_true rfl) ?_
  obtain ⟨k_426, h⟩ := ix_ck_some h
  obtain ⟨z_427, e_428, h⟩ := ix_lt_ex h
  refine iz_putR (ty := .array .int) X fp_RX12_159 (fun _ => ⟨rfl, hnm⟩) k_426 (by decide +kernel) (by decide +kernel) (Or.inr ⟨_, rfl⟩) (ix_tb_at tb_X12_init 305 rfl) e_428 (pc1 := 561) rfl ?_
  refine ix_aload_n (i := 0) (j := 0) X (ix_tb_at tb_X12_init 306 rfl) rfl rfl (pc1 := 562) rfl ?_
  refine ix_sipush (v := 1602) X (ix_tb_at tb_X12_init 307 rfl) (by decide) (pc1 := 565) rfl ?_
  obtain ⟨z_429, e_430, h⟩ := ix_lt_ex h
  obtain ⟨d_431, e_432, h⟩ := ix_lt_ex h
  refine iz_newa_int (pl := 98) X (by decide +kernel) (by decide) (by decide) (Nat.le_of_ble_eq_true rfl) (Nat.le_of_ble_eq_true rfl) (ix_tb_at tb_X12_init 308 rfl) e_430 e_432 (pc1 := 567) rfl ?_
  refine ix_widen (k1 := 51) (n1 := 40010) (Nat.le_of_ble_eq_true rfl) (Nat.le_of_ble_eq_true rfl) ?_
  obtain ⟨k_433, h⟩ := ix_ck_some h
  obtain ⟨z_434, e_435, h⟩ := ix_lt_ex h
  refine iz_putR (ty := .array .int) X fp_RX12_162 (fun _ => ⟨rfl, hnm⟩) k_433 (by decide +kernel) (by decide +kernel) (Or.inr ⟨_, rfl⟩) (ix_tb_at tb_X12_init 309 rfl) e_435 (pc1 := 570) rfl ?_
  refine ix_aload_n (i := 0) (j := 0) X (ix_tb_at tb_X12_init 310 rfl) rfl rfl (pc1 := 571) rfl ?_
  refine ix_sipush (v := 16100) X (ix_tb_at tb_X12_init 311 rfl) (by decide) (pc1 := 574) rfl ?_
  obtain ⟨z_436, e_437, h⟩ := ix_lt_ex h
  obtain ⟨d_438, e_439, h⟩ := ix_lt_ex h
  refine iz_newa_int (pl := 98) X (by decide +kernel) (by decide) (by decide) (Nat.le_of_ble_eq_true rfl) (Nat.le_of_ble_eq_true rfl) (ix_tb_at tb_X12_init 312 rfl) e_437 e_439 (pc1 := 576) rfl ?_
  refine ix_widen (k1 := 52) (n1 := 56110) (Nat.le_of_ble_eq_true rfl) (Nat.le_of_ble_eq_true rfl) ?_
  obtain ⟨k_440, h⟩ := ix_ck_some h
  obtain ⟨z_441, e_442, h⟩ := ix_lt_ex h
  refine iz_putR (ty := .array .int) X fp_RX12_165 (fun _ => ⟨rfl, hnm⟩) k_440 (by decide +kernel) (by decide +kernel) (Or.inr ⟨_, rfl⟩) (ix_tb_at tb_X12_init 313 rfl) e_442 (pc1 := 579) rfl ?_
  refine ix_aload_n (i := 0) (j := 0) X (ix_tb_at tb_X12_init 314 rfl) rfl rfl (pc1 := 580) rfl ?_
  refine ix_iconst (v := 2) X (ix_tb_at tb_X12_init 315 rfl) (by decide) (pc1 := 581) rfl ?_
  obtain ⟨z_443, e_444, h⟩ := ix_lt_ex h
  obtain ⟨d_445, e_446, h⟩ := ix_lt_ex h
  refine iz_newa_int (pl := 98) X (by decide +kernel) (by decide) (by decide) (Nat.le_of_ble_eq_true rfl) (Nat.le_of_ble_eq_true rfl) (ix_tb_at tb_X12_init 316 rfl) e_444 e_446 (pc1 := 583) rfl ?_
  refine ix_widen (k1 := 53) (n1 := 56112) (Nat.le_of_ble_eq_true rfl) (Nat.le_of_ble_eq_true rfl) ?_
  obtain ⟨k_447, h⟩ := ix_ck_some h
  obtain ⟨z_448, e_449, h⟩ := ix_lt_ex h
  refine iz_putR (ty := .array .int) X fp_RX12_168 (fun _ => ⟨rfl, hnm⟩) k_447 (by decide +kernel) (by decide +kernel) (Or.inr ⟨_, rfl⟩) (ix_tb_at tb_X12_init 317 rfl) e_449 (pc1 := 586) rfl ?_
  refine ix_aload_n (i := 0) (j := 0) X (ix_tb_at tb_X12_init 318 rfl) rfl rfl (pc1 := 587) rfl ?_
  refine ix_iconst (v := 2) X (ix_tb_at tb_X12_init 319 rfl) (by decide) (pc1 := 588) rfl ?_
  obtain ⟨z_450, e_451, h⟩ := ix_lt_ex h
  obtain ⟨d_452, e_453, h⟩ := ix_lt_ex h
  refine iz_newa_int (pl := 98) X (by decide +kernel) (by decide) (by decide) (Nat.le_of_ble_eq_true rfl) (Nat.le_of_ble_eq_true rfl) (ix_tb_at tb_X12_init 320 rfl) e_451 e_453 (pc1 := 590) rfl ?_
  refine ix_widen (k1 := 54) (n1 := 56114) (Nat.le_of_ble_eq_true rfl) (Nat.le_of_ble_eq_true rfl) ?_
  obtain ⟨k_454, h⟩ := ix_ck_some h
  obtain ⟨z_455, e_456, h⟩ := ix_lt_ex h
  refine iz_putR (ty := .array .int) X fp_RX12_171 (fun _ => ⟨rfl, hnm⟩) k_454 (by decide +kernel) (by decide +kernel) (Or.inr ⟨_, rfl⟩) (ix_tb_at tb_X12_init 321 rfl) e_456 (pc1 := 593) rfl ?_
  refine ix_aload_n (i := 0) (j := 0) X (ix_tb_at tb_X12_init 322 rfl) rfl rfl (pc1 := 594) rfl ?_
  refine ix_sipush (v := 1600) X (ix_tb_at tb_X12_init 323 rfl) (by decide) (pc1 := 597) rfl ?_
  obtain ⟨z_457, e_458, h⟩ := ix_lt_ex h
  obtain ⟨d_459, e_460, h⟩ := ix_lt_ex h
  refine iz_newa_boolean (pl := 183) X (by decide +kernel) (by decide) (by decide) (Nat.le_of_ble_eq_true rfl) (Nat.le_of_ble_eq_true rfl) (ix_tb_at tb_X12_init 324 rfl) e_458 e_460 (pc1 := 599) rfl ?_
  refine ix_widen (k1 := 55) (n1 := 57714) (Nat.le_of_ble_eq_true rfl) (Nat.le_of_ble_eq_true rfl) ?_
  obtain ⟨k_461, h⟩ := ix_ck_some h
  obtain ⟨z_462, e_463, h⟩ := ix_lt_ex h
  refine iz_putR (ty := .array .boolean) X fp_RX12_174 (fun _ => ⟨rfl, hnm⟩) k_461 (by decide +kernel) (by decide +kernel) (Or.inr ⟨_, rfl⟩) (ix_tb_at tb_X12_init 325 rfl) e_463 (pc1 := 602) rfl ?_
  refine ix_aload_n (i := 0) (j := 0) X (ix_tb_at tb_X12_init 326 rfl) rfl rfl (pc1 := 603) rfl ?_
  refine ix_sipush (v := 1600) X (ix_tb_at tb_X12_init 327 rfl) (by decide) (pc1 := 606) rfl ?_
  obtain ⟨z_464, e_465, h⟩ := ix_lt_ex h
  obtain ⟨d_466, e_467, h⟩ := ix_lt_ex h
  refine iz_newa_int (pl := 98) X (by decide +kernel) (by decide) (by decide) (Nat.le_of_ble_eq_true rfl) (Nat.le_of_ble_eq_true rfl) (ix_tb_at tb_X12_init 328 rfl) e_465 e_467 (pc1 := 608) rfl ?_
  refine ix_widen (k1 := 56) (n1 := 59314) (Nat.le_of_ble_eq_true rfl) (Nat.le_of_ble_eq_true rfl) ?_
  obtain ⟨k_468, h⟩ := ix_ck_some h
  obtain ⟨z_469, e_470, h⟩ := ix_lt_ex h
  refine iz_putR (ty := .array .int) X fp_RX12_177 (fun _ => ⟨rfl, hnm⟩) k_468 (by decide +kernel) (by decide +kernel) (Or.inr ⟨_, rfl⟩) (ix_tb_at tb_X12_init 329 rfl) e_470 (pc1 := 611) rfl ?_
  refine ix_aload_n (i := 0) (j := 0) X (ix_tb_at tb_X12_init 330 rfl) rfl rfl (pc1 := 612) rfl ?_
  refine ix_sipush (v := 12800) X (ix_tb_at tb_X12_init 331 rfl) (by decide) (pc1 := 615) rfl ?_
  obtain ⟨z_471, e_472, h⟩ := ix_lt_ex h
  obtain ⟨d_473, e_474, h⟩ := ix_lt_ex h
  refine iz_newa_long (pl := 270) X (by decide +kernel) (by decide) (by decide) (Nat.le_of_ble_eq_true rfl) (Nat.le_of_ble_eq_true rfl) (ix_tb_at tb_X12_init 332 rfl) e_472 e_474 (pc1 := 617) rfl ?_
  refine ix_widen (k1 := 57) (n1 := 72114) (Nat.le_of_ble_eq_true rfl) (Nat.le_of_ble_eq_true rfl) ?_
  obtain ⟨k_475, h⟩ := ix_ck_some h
  obtain ⟨z_476, e_477, h⟩ := ix_lt_ex h
  refine iz_putR (ty := .array .long) X fp_RX12_180 (fun _ => ⟨rfl, hnm⟩) k_475 (by decide +kernel) (by decide +kernel) (Or.inr ⟨_, rfl⟩) (ix_tb_at tb_X12_init 333 rfl) e_477 (pc1 := 620) rfl ?_
  refine ix_aload_n (i := 0) (j := 0) X (ix_tb_at tb_X12_init 334 rfl) rfl rfl (pc1 := 621) rfl ?_
  refine ix_sipush (v := 4816) X (ix_tb_at tb_X12_init 335 rfl) (by decide) (pc1 := 624) rfl ?_
  obtain ⟨z_478, e_479, h⟩ := ix_lt_ex h
  obtain ⟨d_480, e_481, h⟩ := ix_lt_ex h
  refine iz_newa_long (pl := 270) X (by decide +kernel) (by decide) (by decide) (Nat.le_of_ble_eq_true rfl) (Nat.le_of_ble_eq_true rfl) (ix_tb_at tb_X12_init 336 rfl) e_479 e_481 (pc1 := 626) rfl ?_
  refine ix_widen (k1 := 58) (n1 := 76930) (Nat.le_of_ble_eq_true rfl) (Nat.le_of_ble_eq_true rfl) ?_
  obtain ⟨k_482, h⟩ := ix_ck_some h
  obtain ⟨z_483, e_484, h⟩ := ix_lt_ex h
  refine iz_putR (ty := .array .long) X fp_RX12_183 (fun _ => ⟨rfl, hnm⟩) k_482 (by decide +kernel) (by decide +kernel) (Or.inr ⟨_, rfl⟩) (ix_tb_at tb_X12_init 337 rfl) e_484 (pc1 := 629) rfl ?_
  refine ix_aload_n (i := 0) (j := 0) X (ix_tb_at tb_X12_init 338 rfl) rfl rfl (pc1 := 630) rfl ?_
  refine ix_bipush (v := 8) X (ix_tb_at tb_X12_init 339 rfl) (by decide) (pc1 := 632) rfl ?_
  obtain ⟨z_485, e_486, h⟩ := ix_lt_ex h
  obtain ⟨d_487, e_488, h⟩ := ix_lt_ex h
  refine iz_newa_long (pl := 270) X (by decide +kernel) (by decide) (by decide) (Nat.le_of_ble_eq_true rfl) (Nat.le_of_ble_eq_true rfl) (ix_tb_at tb_X12_init 340 rfl) e_486 e_488 (pc1 := 634) rfl ?_
  refine ix_widen (k1 := 59) (n1 := 76938) (Nat.le_of_ble_eq_true rfl) (Nat.le_of_ble_eq_true rfl) ?_
  obtain ⟨k_489, h⟩ := ix_ck_some h
  obtain ⟨z_490, e_491, h⟩ := ix_lt_ex h
  refine iz_putR (ty := .array .long) X fp_RX12_186 (fun _ => ⟨rfl, hnm⟩) k_489 (by decide +kernel) (by decide +kernel) (Or.inr ⟨_, rfl⟩) (ix_tb_at tb_X12_init 341 rfl) e_491 (pc1 := 637) rfl ?_
  refine ix_aload_n (i := 0) (j := 0) X (ix_tb_at tb_X12_init 342 rfl) rfl rfl (pc1 := 638) rfl ?_
  refine ix_iconst (v := 2) X (ix_tb_at tb_X12_init 343 rfl) (by decide) (pc1 := 639) rfl ?_
  obtain ⟨z_492, e_493, h⟩ := ix_lt_ex h
  obtain ⟨d_494, e_495, h⟩ := ix_lt_ex h
  refine iz_newa_int (pl := 98) X (by decide +kernel) (by decide) (by decide) (Nat.le_of_ble_eq_true rfl) (Nat.le_of_ble_eq_true rfl) (ix_tb_at tb_X12_init 344 rfl) e_493 e_495 (pc1 := 641) rfl ?_
  refine ix_widen (k1 := 60) (n1 := 76940) (Nat.le_of_ble_eq_true rfl) (Nat.le_of_ble_eq_true rfl) ?_
  obtain ⟨k_496, h⟩ := ix_ck_some h
  obtain ⟨z_497, e_498, h⟩ := ix_lt_ex h
  refine iz_putR (ty := .array .int) X fp_RX12_189 (fun _ => ⟨rfl, hnm⟩) k_496 (by decide +kernel) (by decide +kernel) (Or.inr ⟨_, rfl⟩) (ix_tb_at tb_X12_init 345 rfl) e_498 (pc1 := 644) rfl ?_
  refine ix_aload_n (i := 0) (j := 0) X (ix_tb_at tb_X12_init 346 rfl) rfl rfl (pc1 := 645) rfl ?_
  refine ix_iconst (v := 2) X (ix_tb_at tb_X12_init 347 rfl) (by decide) (pc1 := 646) rfl ?_
  obtain ⟨z_499, e_500, h⟩ := ix_lt_ex h
  obtain ⟨d_501, e_502, h⟩ := ix_lt_ex h
  refine iz_newa_int (pl := 98) X (by decide +kernel) (by decide) (by decide) (Nat.le_of_ble_eq_true rfl) (Nat.le_of_ble_eq_true rfl) (ix_tb_at tb_X12_init 348 rfl) e_500 e_502 (pc1 := 648) rfl ?_
  refine ix_widen (k1 := 61) (n1 := 76942) (Nat.le_of_ble_eq_true rfl) (Nat.le_of_ble_eq_true rfl) ?_
  obtain ⟨k_503, h⟩ := ix_ck_some h
  obtain ⟨z_504, e_505, h⟩ := ix_lt_ex h
  refine iz_putR (ty := .array .int) X fp_RX12_192 (fun _ => ⟨rfl, hnm⟩) k_503 (by decide +kernel) (by decide +kernel) (Or.inr ⟨_, rfl⟩) (ix_tb_at tb_X12_init 349 rfl) e_505 (pc1 := 651) rfl ?_
  refine ix_aload_n (i := 0) (j := 0) X (ix_tb_at tb_X12_init 350 rfl) rfl rfl (pc1 := 652) rfl ?_
  refine ix_bipush (v := 20) X (ix_tb_at tb_X12_init 351 rfl) (by decide) (pc1 := 654) rfl ?_
  obtain ⟨z_506, e_507, h⟩ := ix_lt_ex h
  obtain ⟨d_508, e_509, h⟩ := ix_lt_ex h
  refine iz_newa_int (pl := 98) X (by decide +kernel) (by decide) (by decide) (Nat.le_of_ble_eq_true rfl) (Nat.le_of_ble_eq_true rfl) (ix_tb_at tb_X12_init 352 rfl) e_507 e_509 (pc1 := 656) rfl ?_
  refine ix_widen (k1 := 62) (n1 := 76962) (Nat.le_of_ble_eq_true rfl) (Nat.le_of_ble_eq_true rfl) ?_
  obtain ⟨k_510, h⟩ := ix_ck_some h
  obtain ⟨z_511, e_512, h⟩ := ix_lt_ex h
  refine iz_putR (ty := .array .int) X fp_RX12_195 (fun _ => ⟨rfl, hnm⟩) k_510 (by decide +kernel) (by decide +kernel) (Or.inr ⟨_, rfl⟩) (ix_tb_at tb_X12_init 353 rfl) e_512 (pc1 := 659) rfl ?_
  refine ix_aload_n (i := 0) (j := 0) X (ix_tb_at tb_X12_init 354 rfl) rfl rfl (pc1 := 660) rfl ?_
  refine ix_iconst (v := 5) X (ix_tb_at tb_X12_init 355 rfl) (by decide) (pc1 := 661) rfl ?_
  obtain ⟨z_513, e_514, h⟩ := ix_lt_ex h
  obtain ⟨d_515, e_516, h⟩ := ix_lt_ex h
  refine iz_newa_int (pl := 98) X (by decide +kernel) (by decide) (by decide) (Nat.le_of_ble_eq_true rfl) (Nat.le_of_ble_eq_true rfl) (ix_tb_at tb_X12_init 356 rfl) e_514 e_516 (pc1 := 663) rfl ?_
  refine ix_widen (k1 := 63) (n1 := 76967) (Nat.le_of_ble_eq_true rfl) (Nat.le_of_ble_eq_true rfl) ?_
  obtain ⟨k_517, h⟩ := ix_ck_some h
  obtain ⟨z_518, e_519, h⟩ := ix_lt_ex h
  refine iz_putR (ty := .array .int) X fp_RX12_198 (fun _ => ⟨rfl, hnm⟩) k_517 (by decide +kernel) (by decide +kernel) (Or.inr ⟨_, rfl⟩) (ix_tb_at tb_X12_init 357 rfl) e_519 (pc1 := 666) rfl ?_
  refine ix_aload_n (i := 0) (j := 0) X (ix_tb_at tb_X12_init 358 rfl) rfl rfl (pc1 := 667) rfl ?_
  refine ix_sipush (v := 500) X (ix_tb_at tb_X12_init 359 rfl) (by decide) (pc1 := 670) rfl ?_
  obtain ⟨z_520, e_521, h⟩ := ix_lt_ex h
  obtain ⟨d_522, e_523, h⟩ := ix_lt_ex h
  refine iz_newa_int (pl := 98) X (by decide +kernel) (by decide) (by decide) (Nat.le_of_ble_eq_true rfl) (Nat.le_of_ble_eq_true rfl) (ix_tb_at tb_X12_init 360 rfl) e_521 e_523 (pc1 := 672) rfl ?_
  refine ix_widen (k1 := 64) (n1 := 77467) (Nat.le_of_ble_eq_true rfl) (Nat.le_of_ble_eq_true rfl) ?_
  obtain ⟨k_524, h⟩ := ix_ck_some h
  obtain ⟨z_525, e_526, h⟩ := ix_lt_ex h
  refine iz_putR (ty := .array .int) X fp_RX12_201 (fun _ => ⟨rfl, hnm⟩) k_524 (by decide +kernel) (by decide +kernel) (Or.inr ⟨_, rfl⟩) (ix_tb_at tb_X12_init 361 rfl) e_526 (pc1 := 675) rfl ?_
  refine ix_aload_n (i := 0) (j := 0) X (ix_tb_at tb_X12_init 362 rfl) rfl rfl (pc1 := 676) rfl ?_
  refine ix_bipush (v := 20) X (ix_tb_at tb_X12_init 363 rfl) (by decide) (pc1 := 678) rfl ?_
  obtain ⟨z_527, e_528, h⟩ := ix_lt_ex h
  obtain ⟨d_529, e_530, h⟩ := ix_lt_ex h
  refine iz_newa_int (pl := 98) X (by decide +kernel) (by decide) (by decide) (Nat.le_of_ble_eq_true rfl) (Nat.le_of_ble_eq_true rfl) (ix_tb_at tb_X12_init 364 rfl) e_528 e_530 (pc1 := 680) rfl ?_
  refine ix_widen (k1 := 65) (n1 := 77487) (Nat.le_of_ble_eq_true rfl) (Nat.le_of_ble_eq_true rfl) ?_
  obtain ⟨k_531, h⟩ := ix_ck_some h
  obtain ⟨z_532, e_533, h⟩ := ix_lt_ex h
  refine iz_putR (ty := .array .int) X fp_RX12_204 (fun _ => ⟨rfl, hnm⟩) k_531 (by decide +kernel) (by decide +kernel) (Or.inr ⟨_, rfl⟩) (ix_tb_at tb_X12_init 365 rfl) e_533 (pc1 := 683) rfl ?_
  refine ix_aload_n (i := 0) (j := 0) X (ix_tb_at tb_X12_init 366 rfl) rfl rfl (pc1 := 684) rfl ?_
  refine ix_sipush (v := 320) X (ix_tb_at tb_X12_init 367 rfl) (by decide) (pc1 := 687) rfl ?_
  obtain ⟨z_534, e_535, h⟩ := ix_lt_ex h
  obtain ⟨d_536, e_537, h⟩ := ix_lt_ex h
  refine iz_newa_int (pl := 98) X (by decide +kernel) (by decide) (by decide) (Nat.le_of_ble_eq_true rfl) (Nat.le_of_ble_eq_true rfl) (ix_tb_at tb_X12_init 368 rfl) e_535 e_537 (pc1 := 689) rfl ?_
  refine ix_widen (k1 := 66) (n1 := 77807) (Nat.le_of_ble_eq_true rfl) (Nat.le_of_ble_eq_true rfl) ?_
  obtain ⟨k_538, h⟩ := ix_ck_some h
  obtain ⟨z_539, e_540, h⟩ := ix_lt_ex h
  refine iz_putR (ty := .array .int) X fp_RX12_207 (fun _ => ⟨rfl, hnm⟩) k_538 (by decide +kernel) (by decide +kernel) (Or.inr ⟨_, rfl⟩) (ix_tb_at tb_X12_init 369 rfl) e_540 (pc1 := 692) rfl ?_
  refine ix_aload_n (i := 0) (j := 0) X (ix_tb_at tb_X12_init 370 rfl) rfl rfl (pc1 := 693) rfl ?_
  refine ix_sipush (v := 301) X (ix_tb_at tb_X12_init 371 rfl) (by decide) (pc1 := 696) rfl ?_
  obtain ⟨z_541, e_542, h⟩ := ix_lt_ex h
  obtain ⟨d_543, e_544, h⟩ := ix_lt_ex h
  refine iz_newa_boolean (pl := 183) X (by decide +kernel) (by decide) (by decide) (Nat.le_of_ble_eq_true rfl) (Nat.le_of_ble_eq_true rfl) (ix_tb_at tb_X12_init 372 rfl) e_542 e_544 (pc1 := 698) rfl ?_
  refine ix_widen (k1 := 67) (n1 := 78108) (Nat.le_of_ble_eq_true rfl) (Nat.le_of_ble_eq_true rfl) ?_
  obtain ⟨k_545, h⟩ := ix_ck_some h
  obtain ⟨z_546, e_547, h⟩ := ix_lt_ex h
  refine iz_putR (ty := .array .boolean) X fp_RX12_210 (fun _ => ⟨rfl, hnm⟩) k_545 (by decide +kernel) (by decide +kernel) (Or.inr ⟨_, rfl⟩) (ix_tb_at tb_X12_init 373 rfl) e_547 (pc1 := 701) rfl ?_
  refine ix_aload_n (i := 0) (j := 0) X (ix_tb_at tb_X12_init 374 rfl) rfl rfl (pc1 := 702) rfl ?_
  refine ix_sipush (v := 301) X (ix_tb_at tb_X12_init 375 rfl) (by decide) (pc1 := 705) rfl ?_
  obtain ⟨z_548, e_549, h⟩ := ix_lt_ex h
  obtain ⟨d_550, e_551, h⟩ := ix_lt_ex h
  refine iz_newa_boolean (pl := 183) X (by decide +kernel) (by decide) (by decide) (Nat.le_of_ble_eq_true rfl) (Nat.le_of_ble_eq_true rfl) (ix_tb_at tb_X12_init 376 rfl) e_549 e_551 (pc1 := 707) rfl ?_
  refine ix_widen (k1 := 68) (n1 := 78409) (Nat.le_of_ble_eq_true rfl) (Nat.le_of_ble_eq_true rfl) ?_
  obtain ⟨k_552, h⟩ := ix_ck_some h
  obtain ⟨z_553, e_554, h⟩ := ix_lt_ex h
  refine iz_putR (ty := .array .boolean) X fp_RX12_213 (fun _ => ⟨rfl, hnm⟩) k_552 (by decide +kernel) (by decide +kernel) (Or.inr ⟨_, rfl⟩) (ix_tb_at tb_X12_init 377 rfl) e_554 (pc1 := 710) rfl ?_
  refine ix_aload_n (i := 0) (j := 0) X (ix_tb_at tb_X12_init 378 rfl) rfl rfl (pc1 := 711) rfl ?_
  refine ix_sipush (v := 320) X (ix_tb_at tb_X12_init 379 rfl) (by decide) (pc1 := 714) rfl ?_
  obtain ⟨z_555, e_556, h⟩ := ix_lt_ex h
  obtain ⟨d_557, e_558, h⟩ := ix_lt_ex h
  refine iz_newa_int (pl := 98) X (by decide +kernel) (by decide) (by decide) (Nat.le_of_ble_eq_true rfl) (Nat.le_of_ble_eq_true rfl) (ix_tb_at tb_X12_init 380 rfl) e_556 e_558 (pc1 := 716) rfl ?_
  refine ix_widen (k1 := 69) (n1 := 78729) (Nat.le_of_ble_eq_true rfl) (Nat.le_of_ble_eq_true rfl) ?_
  obtain ⟨k_559, h⟩ := ix_ck_some h
  obtain ⟨z_560, e_561, h⟩ := ix_lt_ex h
  refine iz_putR (ty := .array .int) X fp_RX12_216 (fun _ => ⟨rfl, hnm⟩) k_559 (by decide +kernel) (by decide +kernel) (Or.inr ⟨_, rfl⟩) (ix_tb_at tb_X12_init 381 rfl) e_561 (pc1 := 719) rfl ?_
  refine ix_aload_n (i := 0) (j := 0) X (ix_tb_at tb_X12_init 382 rfl) rfl rfl (pc1 := 720) rfl ?_
  refine ix_sipush (v := 800) X (ix_tb_at tb_X12_init 383 rfl) (by decide) (pc1 := 723) rfl ?_
  obtain ⟨z_562, e_563, h⟩ := ix_lt_ex h
  obtain ⟨d_564, e_565, h⟩ := ix_lt_ex h
  refine iz_newa_boolean (pl := 183) X (by decide +kernel) (by decide) (by decide) (Nat.le_of_ble_eq_true rfl) (Nat.le_of_ble_eq_true rfl) (ix_tb_at tb_X12_init 384 rfl) e_563 e_565 (pc1 := 725) rfl ?_
  refine ix_widen (k1 := 70) (n1 := 79529) (Nat.le_of_ble_eq_true rfl) (Nat.le_of_ble_eq_true rfl) ?_
  obtain ⟨k_566, h⟩ := ix_ck_some h
  obtain ⟨z_567, e_568, h⟩ := ix_lt_ex h
  refine iz_putR (ty := .array .boolean) X fp_RX12_219 (fun _ => ⟨rfl, hnm⟩) k_566 (by decide +kernel) (by decide +kernel) (Or.inr ⟨_, rfl⟩) (ix_tb_at tb_X12_init 385 rfl) e_568 (pc1 := 728) rfl ?_
  refine ix_aload_n (i := 0) (j := 0) X (ix_tb_at tb_X12_init 386 rfl) rfl rfl (pc1 := 729) rfl ?_
  refine ix_sipush (v := 801) X (ix_tb_at tb_X12_init 387 rfl) (by decide) (pc1 := 732) rfl ?_
  obtain ⟨z_569, e_570, h⟩ := ix_lt_ex h
  obtain ⟨d_571, e_572, h⟩ := ix_lt_ex h
  refine iz_newa_int (pl := 98) X (by decide +kernel) (by decide) (by decide) (Nat.le_of_ble_eq_true rfl) (Nat.le_of_ble_eq_true rfl) (ix_tb_at tb_X12_init 388 rfl) e_570 e_572 (pc1 := 734) rfl ?_
  refine ix_widen (k1 := 71) (n1 := 80330) (Nat.le_of_ble_eq_true rfl) (Nat.le_of_ble_eq_true rfl) ?_
  obtain ⟨k_573, h⟩ := ix_ck_some h
  obtain ⟨z_574, e_575, h⟩ := ix_lt_ex h
  refine iz_putR (ty := .array .int) X fp_RX12_222 (fun _ => ⟨rfl, hnm⟩) k_573 (by decide +kernel) (by decide +kernel) (Or.inr ⟨_, rfl⟩) (ix_tb_at tb_X12_init 389 rfl) e_575 (pc1 := 737) rfl ?_
  refine ix_aload_n (i := 0) (j := 0) X (ix_tb_at tb_X12_init 390 rfl) rfl rfl (pc1 := 738) rfl ?_
  refine ix_sipush (v := 8100) X (ix_tb_at tb_X12_init 391 rfl) (by decide) (pc1 := 741) rfl ?_
  obtain ⟨z_576, e_577, h⟩ := ix_lt_ex h
  obtain ⟨d_578, e_579, h⟩ := ix_lt_ex h
  refine iz_newa_int (pl := 98) X (by decide +kernel) (by decide) (by decide) (Nat.le_of_ble_eq_true rfl) (Nat.le_of_ble_eq_true rfl) (ix_tb_at tb_X12_init 392 rfl) e_577 e_579 (pc1 := 743) rfl ?_
  refine ix_widen (k1 := 72) (n1 := 88430) (Nat.le_of_ble_eq_true rfl) (Nat.le_of_ble_eq_true rfl) ?_
  obtain ⟨k_580, h⟩ := ix_ck_some h
  obtain ⟨z_581, e_582, h⟩ := ix_lt_ex h
  refine iz_putR (ty := .array .int) X fp_RX12_225 (fun _ => ⟨rfl, hnm⟩) k_580 (by decide +kernel) (by decide +kernel) (Or.inr ⟨_, rfl⟩) (ix_tb_at tb_X12_init 393 rfl) e_582 (pc1 := 746) rfl ?_
  refine ix_aload_n (i := 0) (j := 0) X (ix_tb_at tb_X12_init 394 rfl) rfl rfl (pc1 := 747) rfl ?_
  refine ix_sipush (v := 301) X (ix_tb_at tb_X12_init 395 rfl) (by decide) (pc1 := 750) rfl ?_
  obtain ⟨z_583, e_584, h⟩ := ix_lt_ex h
  obtain ⟨d_585, e_586, h⟩ := ix_lt_ex h
  refine iz_newa_int (pl := 98) X (by decide +kernel) (by decide) (by decide) (Nat.le_of_ble_eq_true rfl) (Nat.le_of_ble_eq_true rfl) (ix_tb_at tb_X12_init 396 rfl) e_584 e_586 (pc1 := 752) rfl ?_
  refine ix_widen (k1 := 73) (n1 := 88731) (Nat.le_of_ble_eq_true rfl) (Nat.le_of_ble_eq_true rfl) ?_
  obtain ⟨k_587, h⟩ := ix_ck_some h
  obtain ⟨z_588, e_589, h⟩ := ix_lt_ex h
  refine iz_putR (ty := .array .int) X fp_RX12_228 (fun _ => ⟨rfl, hnm⟩) k_587 (by decide +kernel) (by decide +kernel) (Or.inr ⟨_, rfl⟩) (ix_tb_at tb_X12_init 397 rfl) e_589 (pc1 := 755) rfl ?_
  refine ix_iconst (v := 0) X (ix_tb_at tb_X12_init 398 rfl) (by decide) (pc1 := 756) rfl ?_
  refine ix_istore_n (i := 1) (L1 := [(1, .int 0), (0, .ref (K.2.2.1 + a0))]) X (ix_tb_at tb_X12_init 399 rfl) rfl (Nat.le_of_ble_eq_true rfl) rfl (pc1 := 757) rfl ?_
  refine ix_sub (L1 := [(0, .ref (K.2.2.1 + a0)), (1, .int 0)]) [1, 0] rfl ?_
  exact t_X12_init_757 hKp hnm X hr hlk  h
