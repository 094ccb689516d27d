/-! the cells, in the order in which the two constructors make them: kind (0 int, 1 long, 2 byte, 3 boolean, 4 and 5 arrays of objects; 10 and more: an object of class k - 10) and length; where references lead -/
def qKL : List (Nat × Nat) := [(21, 20), (11, 17), (1, 8), (0, 8), (0, 8), (0, 8), (0, 8), (0, 8), (0, 8), (0, 10), (0, 10), (0, 10), (0, 10), (11, 17), (1, 8), (0, 8), (0, 8), (0, 8), (0, 8), (0, 8), (0, 8), (0, 10), (0, 10), (0, 10), (0, 10), (10, 4), (11, 17), (1, 8), (0, 8), (0, 8), (0, 8), (0, 8), (0, 8), (0, 8), (0, 10), (0, 10), (0, 10), (0, 10), (0, 8), (0, 10), (16, 3), (13, 6), (0, 20), (0, 20), (0, 248), (14, 2), (18, 3), (0, 4), (0, 4), (1, 240), (17, 14), (2, 900), (1, 22), (12, 4), (11, 17), (1, 8), (0, 8), (0, 8), (0, 8), (0, 8), (0, 8), (0, 8), (0, 10), (0, 10), (0, 10), (0, 10), (20, 4), (19, 8), (0, 60), (0, 60), (0, 60), (0, 60), (0, 60), (0, 3), (19, 8), (0, 60), (0, 60), (0, 60), (0, 60), (0, 60), (15, 8), (0, 60), (0, 5), (4, 3), (5, 3), (11, 17), (1, 8), (0, 8), (0, 8), (0, 8), (0, 8), (0, 8), (0, 8), (0, 10), (0, 10), (0, 10), (0, 10), (19, 8), (0, 60), (0, 60), (0, 60), (0, 60), (0, 60), (11, 17), (1, 8), (0, 8), (0, 8), (0, 8), (0, 8), (0, 8), (0, 8), (0, 10), (0, 10), (0, 10), (0, 10), (19, 8), (0, 60), (0, 60), (0, 60), (0, 60), (0, 60), (11, 17), (1, 8), (0, 8), (0, 8), (0, 8), (0, 8), (0, 8), (0, 8), (0, 10), (0, 10), (0, 10), (0, 10), (19, 8), (0, 60), (0, 60), (0, 60), (0, 60), (0, 60), (22, 44), (0, 3088), (1, 48), (0, 4), (0, 4), (1, 240), (2, 900), (2, 900), (0, 3), (0, 8), (0, 248), (3, 31), (0, 4), (0, 4), (0, 4), (1, 11), (0, 80), (0, 5), (0, 5)]
def qKd (k : Nat) : Nat × Nat := qKL.getD k (0, 0)
def qRL : List (List (Option Nat)) := [[some 1, some 13, some 25, some 40, some 41, some 45, some 46, some 50, some 53, some 66, some 74, some 80, some 82, none, some 83, some 84, none, none, none, none], [none, none, none, none, none, none, some 2, some 3, some 4, some 5, some 6, some 7, some 8, some 9, some 10, some 11, some 12], [], [], [], [], [], [], [], [], [], [], [], [none, none, none, none, none, none, some 14, some 15, some 16, some 17, some 18, some 19, some 20, some 21, some 22, some 23, some 24], [], [], [], [], [], [], [], [], [], [], [], [some 26, some 38, some 39, none], [none, none, none, none, none, none, some 27, some 28, some 29, some 30, some 31, some 32, some 33, some 34, some 35, some 36, some 37], [], [], [], [], [], [], [], [], [], [], [], [], [], [some 13, some 25, none], [some 13, some 25, some 42, some 43, none, some 44], [], [], [], [some 13, some 25], [some 47, some 48, some 49], [], [], [], [some 51, none, none, none, none, none, none, none, none, none, none, none, none, some 52], [], [], [some 50, some 54, none, none], [none, none, none, none, none, none, some 55, some 56, some 57, some 58, some 59, some 60, some 61, some 62, some 63, some 64, some 65], [], [], [], [], [], [], [], [], [], [], [], [some 50, some 67, some 73, none], [none, none, none, some 68, some 69, some 70, some 71, some 72], [], [], [], [], [], [], [none, none, none, some 75, some 76, some 77, some 78, some 79], [], [], [], [], [], [none, none, none, none, none, none, none, some 81], [], [], [some 85, some 103, some 121], [some 97, some 115, some 133], [none, none, none, none, none, none, some 86, some 87, some 88, some 89, some 90, some 91, some 92, some 93, some 94, some 95, some 96], [], [], [], [], [], [], [], [], [], [], [], [none, none, none, some 98, some 99, some 100, some 101, some 102], [], [], [], [], [], [none, none, none, none, none, none, some 104, some 105, some 106, some 107, some 108, some 109, some 110, some 111, some 112, some 113, some 114], [], [], [], [], [], [], [], [], [], [], [], [none, none, none, some 116, some 117, some 118, some 119, some 120], [], [], [], [], [], [none, none, none, none, none, none, some 122, some 123, some 124, some 125, some 126, some 127, some 128, some 129, some 130, some 131, some 132], [], [], [], [], [], [], [], [], [], [], [], [none, none, none, some 134, some 135, some 136, some 137, some 138], [], [], [], [], [], [some 140, some 141, none, none, none, some 142, some 143, some 144, some 145, some 146, none, none, none, none, none, none, none, none, none, none, none, some 147, none, none, none, some 148, none, none, none, none, some 149, some 150, none, some 151, some 152, some 153, some 154, none, none, some 155, some 156, some 157, none, none], [], [], [], [], [], [], [], [], [], [], [], [], [], [], [], [], [], []]
def qRf (k j : Nat) : Option Nat := ((qRL.getD k []).getD j none)
theorem qK_0 : qKd 0 = (21, 20) := rfl
theorem qK_1 : qKd 1 = (11, 17) := rfl
theorem qK_2 : qKd 2 = (1, 8) := rfl
theorem qK_3 : qKd 3 = (0, 8) := rfl
theorem qK_4 : qKd 4 = (0, 8) := rfl
theorem qK_5 : qKd 5 = (0, 8) := rfl
theorem qK_6 : qKd 6 = (0, 8) := rfl
theorem qK_7 : qKd 7 = (0, 8) := rfl
theorem qK_8 : qKd 8 = (0, 8) := rfl
theorem qK_9 : qKd 9 = (0, 10) := rfl
theorem qK_10 : qKd 10 = (0, 10) := rfl
theorem qK_11 : qKd 11 = (0, 10) := rfl
theorem qK_12 : qKd 12 = (0, 10) := rfl
theorem qK_13 : qKd 13 = (11, 17) := rfl
theorem qK_14 : qKd 14 = (1, 8) := rfl
theorem qK_15 : qKd 15 = (0, 8) := rfl
theorem qK_16 : qKd 16 = (0, 8) := rfl
theorem qK_17 : qKd 17 = (0, 8) := rfl
theorem qK_18 : qKd 18 = (0, 8) := rfl
theorem qK_19 : qKd 19 = (0, 8) := rfl
theorem qK_20 : qKd 20 = (0, 8) := rfl
theorem qK_21 : qKd 21 = (0, 10) := rfl
theorem qK_22 : qKd 22 = (0, 10) := rfl
theorem qK_23 : qKd 23 = (0, 10) := rfl
theorem qK_24 : qKd 24 = (0, 10) := rfl
theorem qK_25 : qKd 25 = (10, 4) := rfl
theorem qK_26 : qKd 26 = (11, 17) := rfl
theorem qK_27 : qKd 27 = (1, 8) := rfl
theorem qK_28 : qKd 28 = (0, 8) := rfl
theorem qK_29 : qKd 29 = (0, 8) := rfl
theorem qK_30 : qKd 30 = (0, 8) := rfl
theorem qK_31 : qKd 31 = (0, 8) := rfl
theorem qK_32 : qKd 32 = (0, 8) := rfl
theorem qK_33 : qKd 33 = (0, 8) := rfl
theorem qK_34 : qKd 34 = (0, 10) := rfl
theorem qK_35 : qKd 35 = (0, 10) := rfl
theorem qK_36 : qKd 36 = (0, 10) := rfl
theorem qK_37 : qKd 37 = (0, 10) := rfl
theorem qK_38 : qKd 38 = (0, 8) := rfl
theorem qK_39 : qKd 39 = (0, 10) := rfl
theorem qK_40 : qKd 40 = (16, 3) := rfl
theorem qK_41 : qKd 41 = (13, 6) := rfl
theorem qK_42 : qKd 42 = (0, 20) := rfl
theorem qK_43 : qKd 43 = (0, 20) := rfl
theorem qK_44 : qKd 44 = (0, 248) := rfl
theorem qK_45 : qKd 45 = (14, 2) := rfl
theorem qK_46 : qKd 46 = (18, 3) := rfl
theorem qK_47 : qKd 47 = (0, 4) := rfl
theorem qK_48 : qKd 48 = (0, 4) := rfl
theorem qK_49 : qKd 49 = (1, 240) := rfl
theorem qK_50 : qKd 50 = (17, 14) := rfl
theorem qK_51 : qKd 51 = (2, 900) := rfl
theorem qK_52 : qKd 52 = (1, 22) := rfl
theorem qK_53 : qKd 53 = (12, 4) := rfl
theorem qK_54 : qKd 54 = (11, 17) := rfl
theorem qK_55 : qKd 55 = (1, 8) := rfl
theorem qK_56 : qKd 56 = (0, 8) := rfl
theorem qK_57 : qKd 57 = (0, 8) := rfl
theorem qK_58 : qKd 58 = (0, 8) := rfl
theorem qK_59 : qKd 59 = (0, 8) := rfl
theorem qK_60 : qKd 60 = (0, 8) := rfl
theorem qK_61 : qKd 61 = (0, 8) := rfl
theorem qK_62 : qKd 62 = (0, 10) := rfl
theorem qK_63 : qKd 63 = (0, 10) := rfl
theorem qK_64 : qKd 64 = (0, 10) := rfl
theorem qK_65 : qKd 65 = (0, 10) := rfl
theorem qK_66 : qKd 66 = (20, 4) := rfl
theorem qK_67 : qKd 67 = (19, 8) := rfl
theorem qK_68 : qKd 68 = (0, 60) := rfl
theorem qK_69 : qKd 69 = (0, 60) := rfl
theorem qK_70 : qKd 70 = (0, 60) := rfl
theorem qK_71 : qKd 71 = (0, 60) := rfl
theorem qK_72 : qKd 72 = (0, 60) := rfl
theorem qK_73 : qKd 73 = (0, 3) := rfl
theorem qK_74 : qKd 74 = (19, 8) := rfl
theorem qK_75 : qKd 75 = (0, 60) := rfl
theorem qK_76 : qKd 76 = (0, 60) := rfl
theorem qK_77 : qKd 77 = (0, 60) := rfl
theorem qK_78 : qKd 78 = (0, 60) := rfl
theorem qK_79 : qKd 79 = (0, 60) := rfl
theorem qK_80 : qKd 80 = (15, 8) := rfl
theorem qK_81 : qKd 81 = (0, 60) := rfl
theorem qK_82 : qKd 82 = (0, 5) := rfl
theorem qK_83 : qKd 83 = (4, 3) := rfl
theorem qK_84 : qKd 84 = (5, 3) := rfl
theorem qK_85 : qKd 85 = (11, 17) := rfl
theorem qK_86 : qKd 86 = (1, 8) := rfl
theorem qK_87 : qKd 87 = (0, 8) := rfl
theorem qK_88 : qKd 88 = (0, 8) := rfl
theorem qK_89 : qKd 89 = (0, 8) := rfl
theorem qK_90 : qKd 90 = (0, 8) := rfl
theorem qK_91 : qKd 91 = (0, 8) := rfl
theorem qK_92 : qKd 92 = (0, 8) := rfl
theorem qK_93 : qKd 93 = (0, 10) := rfl
theorem qK_94 : qKd 94 = (0, 10) := rfl
theorem qK_95 : qKd 95 = (0, 10) := rfl
theorem qK_96 : qKd 96 = (0, 10) := rfl
theorem qK_97 : qKd 97 = (19, 8) := rfl
theorem qK_98 : qKd 98 = (0, 60) := rfl
theorem qK_99 : qKd 99 = (0, 60) := rfl
theorem qK_100 : qKd 100 = (0, 60) := rfl
theorem qK_101 : qKd 101 = (0, 60) := rfl
theorem qK_102 : qKd 102 = (0, 60) := rfl
theorem qK_103 : qKd 103 = (11, 17) := rfl
theorem qK_104 : qKd 104 = (1, 8) := rfl
theorem qK_105 : qKd 105 = (0, 8) := rfl
theorem qK_106 : qKd 106 = (0, 8) := rfl
theorem qK_107 : qKd 107 = (0, 8) := rfl
theorem qK_108 : qKd 108 = (0, 8) := rfl
theorem qK_109 : qKd 109 = (0, 8) := rfl
theorem qK_110 : qKd 110 = (0, 8) := rfl
theorem qK_111 : qKd 111 = (0, 10) := rfl
theorem qK_112 : qKd 112 = (0, 10) := rfl
theorem qK_113 : qKd 113 = (0, 10) := rfl
theorem qK_114 : qKd 114 = (0, 10) := rfl
theorem qK_115 : qKd 115 = (19, 8) := rfl
theorem qK_116 : qKd 116 = (0, 60) := rfl
theorem qK_117 : qKd 117 = (0, 60) := rfl
theorem qK_118 : qKd 118 = (0, 60) := rfl
theorem qK_119 : qKd 119 = (0, 60) := rfl
theorem qK_120 : qKd 120 = (0, 60) := rfl
theorem qK_121 : qKd 121 = (11, 17) := rfl
theorem qK_122 : qKd 122 = (1, 8) := rfl
theorem qK_123 : qKd 123 = (0, 8) := rfl
theorem qK_124 : qKd 124 = (0, 8) := rfl
theorem qK_125 : qKd 125 = (0, 8) := rfl
theorem qK_126 : qKd 126 = (0, 8) := rfl
theorem qK_127 : qKd 127 = (0, 8) := rfl
theorem qK_128 : qKd 128 = (0, 8) := rfl
theorem qK_129 : qKd 129 = (0, 10) := rfl
theorem qK_130 : qKd 130 = (0, 10) := rfl
theorem qK_131 : qKd 131 = (0, 10) := rfl
theorem qK_132 : qKd 132 = (0, 10) := rfl
theorem qK_133 : qKd 133 = (19, 8) := rfl
theorem qK_134 : qKd 134 = (0, 60) := rfl
theorem qK_135 : qKd 135 = (0, 60) := rfl
theorem qK_136 : qKd 136 = (0, 60) := rfl
theorem qK_137 : qKd 137 = (0, 60) := rfl
theorem qK_138 : qKd 138 = (0, 60) := rfl
theorem qK_139 : qKd 139 = (22, 44) := rfl
theorem qK_140 : qKd 140 = (0, 3088) := rfl
theorem qK_141 : qKd 141 = (1, 48) := rfl
theorem qK_142 : qKd 142 = (0, 4) := rfl
theorem qK_143 : qKd 143 = (0, 4) := rfl
theorem qK_144 : qKd 144 = (1, 240) := rfl
theorem qK_145 : qKd 145 = (2, 900) := rfl
theorem qK_146 : qKd 146 = (2, 900) := rfl
theorem qK_147 : qKd 147 = (0, 3) := rfl
theorem qK_148 : qKd 148 = (0, 8) := rfl
theorem qK_149 : qKd 149 = (0, 248) := rfl
theorem qK_150 : qKd 150 = (3, 31) := rfl
theorem qK_151 : qKd 151 = (0, 4) := rfl
theorem qK_152 : qKd 152 = (0, 4) := rfl
theorem qK_153 : qKd 153 = (0, 4) := rfl
theorem qK_154 : qKd 154 = (1, 11) := rfl
theorem qK_155 : qKd 155 = (0, 80) := rfl
theorem qK_156 : qKd 156 = (0, 5) := rfl
theorem qK_157 : qKd 157 = (0, 5) := rfl
theorem qR_0_0 : qRf 0 0 = some 1 := rfl
theorem qR_0_1 : qRf 0 1 = some 13 := rfl
theorem qR_0_2 : qRf 0 2 = some 25 := rfl
theorem qR_0_3 : qRf 0 3 = some 40 := rfl
theorem qR_0_4 : qRf 0 4 = some 41 := rfl
theorem qR_0_5 : qRf 0 5 = some 45 := rfl
theorem qR_0_6 : qRf 0 6 = some 46 := rfl
theorem qR_0_7 : qRf 0 7 = some 50 := rfl
theorem qR_0_8 : qRf 0 8 = some 53 := rfl
theorem qR_0_9 : qRf 0 9 = some 66 := rfl
theorem qR_0_10 : qRf 0 10 = some 74 := rfl
theorem qR_0_11 : qRf 0 11 = some 80 := rfl
theorem qR_0_12 : qRf 0 12 = some 82 := rfl
theorem qR_0_14 : qRf 0 14 = some 83 := rfl
theorem qR_0_15 : qRf 0 15 = some 84 := rfl
theorem qR_1_6 : qRf 1 6 = some 2 := rfl
theorem qR_1_7 : qRf 1 7 = some 3 := rfl
theorem qR_1_8 : qRf 1 8 = some 4 := rfl
theorem qR_1_9 : qRf 1 9 = some 5 := rfl
theorem qR_1_10 : qRf 1 10 = some 6 := rfl
theorem qR_1_11 : qRf 1 11 = some 7 := rfl
theorem qR_1_12 : qRf 1 12 = some 8 := rfl
theorem qR_1_13 : qRf 1 13 = some 9 := rfl
theorem qR_1_14 : qRf 1 14 = some 10 := rfl
theorem qR_1_15 : qRf 1 15 = some 11 := rfl
theorem qR_1_16 : qRf 1 16 = some 12 := rfl
theorem qR_13_6 : qRf 13 6 = some 14 := rfl
theorem qR_13_7 : qRf 13 7 = some 15 := rfl
theorem qR_13_8 : qRf 13 8 = some 16 := rfl
theorem qR_13_9 : qRf 13 9 = some 17 := rfl
theorem qR_13_10 : qRf 13 10 = some 18 := rfl
theorem qR_13_11 : qRf 13 11 = some 19 := rfl
theorem qR_13_12 : qRf 13 12 = some 20 := rfl
theorem qR_13_13 : qRf 13 13 = some 21 := rfl
theorem qR_13_14 : qRf 13 14 = some 22 := rfl
theorem qR_13_15 : qRf 13 15 = some 23 := rfl
theorem qR_13_16 : qRf 13 16 = some 24 := rfl
theorem qR_25_0 : qRf 25 0 = some 26 := rfl
theorem qR_25_1 : qRf 25 1 = some 38 := rfl
theorem qR_25_2 : qRf 25 2 = some 39 := rfl
theorem qR_26_6 : qRf 26 6 = some 27 := rfl
theorem qR_26_7 : qRf 26 7 = some 28 := rfl
theorem qR_26_8 : qRf 26 8 = some 29 := rfl
theorem qR_26_9 : qRf 26 9 = some 30 := rfl
theorem qR_26_10 : qRf 26 10 = some 31 := rfl
theorem qR_26_11 : qRf 26 11 = some 32 := rfl
theorem qR_26_12 : qRf 26 12 = some 33 := rfl
theorem qR_26_13 : qRf 26 13 = some 34 := rfl
theorem qR_26_14 : qRf 26 14 = some 35 := rfl
theorem qR_26_15 : qRf 26 15 = some 36 := rfl
theorem qR_26_16 : qRf 26 16 = some 37 := rfl
theorem qR_40_0 : qRf 40 0 = some 13 := rfl
theorem qR_40_1 : qRf 40 1 = some 25 := rfl
theorem qR_41_0 : qRf 41 0 = some 13 := rfl
theorem qR_41_1 : qRf 41 1 = some 25 := rfl
theorem qR_41_2 : qRf 41 2 = some 42 := rfl
theorem qR_41_3 : qRf 41 3 = some 43 := rfl
theorem qR_41_5 : qRf 41 5 = some 44 := rfl
theorem qR_45_0 : qRf 45 0 = some 13 := rfl
theorem qR_45_1 : qRf 45 1 = some 25 := rfl
theorem qR_46_0 : qRf 46 0 = some 47 := rfl
theorem qR_46_1 : qRf 46 1 = some 48 := rfl
theorem qR_46_2 : qRf 46 2 = some 49 := rfl
theorem qR_50_0 : qRf 50 0 = some 51 := rfl
theorem qR_50_13 : qRf 50 13 = some 52 := rfl
theorem qR_53_0 : qRf 53 0 = some 50 := rfl
theorem qR_53_1 : qRf 53 1 = some 54 := rfl
theorem qR_54_6 : qRf 54 6 = some 55 := rfl
theorem qR_54_7 : qRf 54 7 = some 56 := rfl
theorem qR_54_8 : qRf 54 8 = some 57 := rfl
theorem qR_54_9 : qRf 54 9 = some 58 := rfl
theorem qR_54_10 : qRf 54 10 = some 59 := rfl
theorem qR_54_11 : qRf 54 11 = some 60 := rfl
theorem qR_54_12 : qRf 54 12 = some 61 := rfl
theorem qR_54_13 : qRf 54 13 = some 62 := rfl
theorem qR_54_14 : qRf 54 14 = some 63 := rfl
theorem qR_54_15 : qRf 54 15 = some 64 := rfl
theorem qR_54_16 : qRf 54 16 = some 65 := rfl
theorem qR_66_0 : qRf 66 0 = some 50 := rfl
theorem qR_66_1 : qRf 66 1 = some 67 := rfl
theorem qR_66_2 : qRf 66 2 = some 73 := rfl
theorem qR_67_3 : qRf 67 3 = some 68 := rfl
theorem qR_67_4 : qRf 67 4 = some 69 := rfl
theorem qR_67_5 : qRf 67 5 = some 70 := rfl
theorem qR_67_6 : qRf 67 6 = some 71 := rfl
theorem qR_67_7 : qRf 67 7 = some 72 := rfl
theorem qR_74_3 : qRf 74 3 = some 75 := rfl
theorem qR_74_4 : qRf 74 4 = some 76 := rfl
theorem qR_74_5 : qRf 74 5 = some 77 := rfl
theorem qR_74_6 : qRf 74 6 = some 78 := rfl
theorem qR_74_7 : qRf 74 7 = some 79 := rfl
theorem qR_80_7 : qRf 80 7 = some 81 := rfl
theorem qR_83_0 : qRf 83 0 = some 85 := rfl
theorem qR_83_1 : qRf 83 1 = some 103 := rfl
theorem qR_83_2 : qRf 83 2 = some 121 := rfl
theorem qR_84_0 : qRf 84 0 = some 97 := rfl
theorem qR_84_1 : qRf 84 1 = some 115 := rfl
theorem qR_84_2 : qRf 84 2 = some 133 := rfl
theorem qR_85_6 : qRf 85 6 = some 86 := rfl
theorem qR_85_7 : qRf 85 7 = some 87 := rfl
theorem qR_85_8 : qRf 85 8 = some 88 := rfl
theorem qR_85_9 : qRf 85 9 = some 89 := rfl
theorem qR_85_10 : qRf 85 10 = some 90 := rfl
theorem qR_85_11 : qRf 85 11 = some 91 := rfl
theorem qR_85_12 : qRf 85 12 = some 92 := rfl
theorem qR_85_13 : qRf 85 13 = some 93 := rfl
theorem qR_85_14 : qRf 85 14 = some 94 := rfl
theorem qR_85_15 : qRf 85 15 = some 95 := rfl
theorem qR_85_16 : qRf 85 16 = some 96 := rfl
theorem qR_97_3 : qRf 97 3 = some 98 := rfl
theorem qR_97_4 : qRf 97 4 = some 99 := rfl
theorem qR_97_5 : qRf 97 5 = some 100 := rfl
theorem qR_97_6 : qRf 97 6 = some 101 := rfl
theorem qR_97_7 : qRf 97 7 = some 102 := rfl
theorem qR_103_6 : qRf 103 6 = some 104 := rfl
theorem qR_103_7 : qRf 103 7 = some 105 := rfl
theorem qR_103_8 : qRf 103 8 = some 106 := rfl
theorem qR_103_9 : qRf 103 9 = some 107 := rfl
theorem qR_103_10 : qRf 103 10 = some 108 := rfl
theorem qR_103_11 : qRf 103 11 = some 109 := rfl
theorem qR_103_12 : qRf 103 12 = some 110 := rfl
theorem qR_103_13 : qRf 103 13 = some 111 := rfl
theorem qR_103_14 : qRf 103 14 = some 112 := rfl
theorem qR_103_15 : qRf 103 15 = some 113 := rfl
theorem qR_103_16 : qRf 103 16 = some 114 := rfl
theorem qR_115_3 : qRf 115 3 = some 116 := rfl
theorem qR_115_4 : qRf 115 4 = some 117 := rfl
theorem qR_115_5 : qRf 115 5 = some 118 := rfl
theorem qR_115_6 : qRf 115 6 = some 119 := rfl
theorem qR_115_7 : qRf 115 7 = some 120 := rfl
theorem qR_121_6 : qRf 121 6 = some 122 := rfl
theorem qR_121_7 : qRf 121 7 = some 123 := rfl
theorem qR_121_8 : qRf 121 8 = some 124 := rfl
theorem qR_121_9 : qRf 121 9 = some 125 := rfl
theorem qR_121_10 : qRf 121 10 = some 126 := rfl
theorem qR_121_11 : qRf 121 11 = some 127 := rfl
theorem qR_121_12 : qRf 121 12 = some 128 := rfl
theorem qR_121_13 : qRf 121 13 = some 129 := rfl
theorem qR_121_14 : qRf 121 14 = some 130 := rfl
theorem qR_121_15 : qRf 121 15 = some 131 := rfl
theorem qR_121_16 : qRf 121 16 = some 132 := rfl
theorem qR_133_3 : qRf 133 3 = some 134 := rfl
theorem qR_133_4 : qRf 133 4 = some 135 := rfl
theorem qR_133_5 : qRf 133 5 = some 136 := rfl
theorem qR_133_6 : qRf 133 6 = some 137 := rfl
theorem qR_133_7 : qRf 133 7 = some 138 := rfl
theorem qR_139_0 : qRf 139 0 = some 140 := rfl
theorem qR_139_1 : qRf 139 1 = some 141 := rfl
theorem qR_139_5 : qRf 139 5 = some 142 := rfl
theorem qR_139_6 : qRf 139 6 = some 143 := rfl
theorem qR_139_7 : qRf 139 7 = some 144 := rfl
theorem qR_139_8 : qRf 139 8 = some 145 := rfl
theorem qR_139_9 : qRf 139 9 = some 146 := rfl
theorem qR_139_21 : qRf 139 21 = some 147 := rfl
theorem qR_139_25 : qRf 139 25 = some 148 := rfl
theorem qR_139_30 : qRf 139 30 = some 149 := rfl
theorem qR_139_31 : qRf 139 31 = some 150 := rfl
theorem qR_139_33 : qRf 139 33 = some 151 := rfl
theorem qR_139_34 : qRf 139 34 = some 152 := rfl
theorem qR_139_35 : qRf 139 35 = some 153 := rfl
theorem qR_139_36 : qRf 139 36 = some 154 := rfl
theorem qR_139_39 : qRf 139 39 = some 155 := rfl
theorem qR_139_40 : qRf 139 40 = some 156 := rfl
theorem qR_139_41 : qRf 139 41 = some 157 := rfl
def qKEYS : String := " field odds boy quarrel by at pride soft ears grudge minute dawn yield pitch any when loop end stop up open now "
def qKEYi : Nat := 181
def qh_sys : Nat := 274
def qh_math : Nat := 275
def qh_cpyS : Nat := 910
def qh_cpyN : Nat := 911
def qh_maxS : Nat := 941
def qh_maxC : Nat := 942
def qh_minS : Nat := 938
def qh_minC : Nat := 939
def qh_absS : Nat := 1054
def qh_absC : Nat := 1055
def qKEYb : List Int32 := [32, 102, 105, 101, 108, 100, 32, 111, 100, 100, 115, 32, 98, 111, 121, 32, 113, 117, 97, 114, 114, 101, 108, 32, 98, 121, 32, 97, 116, 32, 112, 114, 105, 100, 101, 32, 115, 111, 102, 116, 32, 101, 97, 114, 115, 32, 103, 114, 117, 100, 103, 101, 32, 109, 105, 110, 117, 116, 101, 32, 100, 97, 119, 110, 32, 121, 105, 101, 108, 100, 32, 112, 105, 116, 99, 104, 32, 97, 110, 121, 32, 119, 104, 101, 110, 32, 108, 111, 111, 112, 32, 101, 110, 100, 32, 115, 116, 111, 112, 32, 117, 112, 32, 111, 112, 101, 110, 32, 110, 111, 119, 32]
