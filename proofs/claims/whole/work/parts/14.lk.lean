/-! generated: links by number -/
set_option maxRecDepth 100000 in
theorem lkV_8_13 : lkup tV 8 13 = some (mX6_row, [380, 381, 382, 383, 94]) := rfl
set_option maxRecDepth 100000 in
theorem lkV_6_65 : lkup tV 6 65 = some (mX6_finding, [388, 390, 0, 391, 94]) := rfl
set_option maxRecDepth 100000 in
theorem lkV_6_69 : lkup tV 6 69 = some (mX3_lay, [393, 395, 1, 396, 95]) := rfl
set_option maxRecDepth 100000 in
theorem lkV_6_73 : lkup tV 6 73 = some (mX6_clean, [397, 399, 2, 400, 94]) := rfl
set_option maxRecDepth 100000 in
theorem lkV_8_18 : lkup tV 8 18 = some (mX6_set, [401, 402, 403, 404, 94]) := rfl
set_option maxRecDepth 100000 in
theorem lkV_6_80 : lkup tV 6 80 = some (mX3_holds, [405, 407, 3, 408, 95]) := rfl
set_option maxRecDepth 100000 in
theorem lkV_6_84 : lkup tV 6 84 = some (mX3_put, [409, 411, 4, 412, 95]) := rfl
set_option maxRecDepth 100000 in
theorem lkV_8_22 : lkup tV 8 22 = some (mX6_copy, [413, 414, 415, 416, 94]) := rfl
set_option maxRecDepth 100000 in
theorem lkV_6_92 : lkup tV 6 92 = some (mX3_carry, [417, 419, 5, 420, 95]) := rfl
set_option maxRecDepth 100000 in
theorem lkV_8_27 : lkup tV 8 27 = some (mX6_drop, [424, 425, 426, 427, 94]) := rfl
set_option maxRecDepth 100000 in
theorem lkV_8_32 : lkup tV 8 32 = some (mX6_feed, [428, 429, 430, 431, 94]) := rfl
set_option maxRecDepth 100000 in
theorem lkV_6_104 : lkup tV 6 104 = some (mX4_append, [433, 435, 6, 436, 96]) := rfl
set_option maxRecDepth 100000 in
theorem lkV_8_36 : lkup tV 8 36 = some (mX6_trial, [437, 438, 439, 440, 94]) := rfl
set_option maxRecDepth 100000 in
theorem lkV_6_107 : lkup tV 6 107 = some (mX4_readInto, [441, 443, 7, 444, 96]) := rfl
set_option maxRecDepth 100000 in
theorem lkV_4_19 : lkup tV 4 19 = some (mX5_clear, [445, 447, 8, 448, 97]) := rfl
set_option maxRecDepth 100000 in
theorem lkV_4_27 : lkup tV 4 27 = some (mX4_readLaw, [449, 451, 9, 452, 96]) := rfl
set_option maxRecDepth 100000 in
theorem lkV_4_45 : lkup tV 4 45 = some (mX4_readLetter, [453, 455, 10, 456, 96]) := rfl
set_option maxRecDepth 100000 in
theorem lkV_4_70 : lkup tV 4 70 = some (mX4_letterAt, [457, 459, 11, 460, 96]) := rfl
set_option maxRecDepth 100000 in
theorem lkV_4_37 : lkup tV 4 37 = some (mX4_fail, [461, 463, 12, 464, 96]) := rfl
set_option maxRecDepth 100000 in
theorem lkV_4_48 : lkup tV 4 48 = some (mX4_readThree, [465, 467, 13, 468, 96]) := rfl
set_option maxRecDepth 100000 in
theorem lkV_4_95 : lkup tV 4 95 = some (mX4_readNumber, [469, 471, 14, 472, 96]) := rfl
set_option maxRecDepth 100000 in
theorem lkV_4_31 : lkup tV 4 31 = some (mX4_readOne, [476, 478, 15, 479, 96]) := rfl
set_option maxRecDepth 100000 in
theorem lkV_4_80 : lkup tV 4 80 = some (mX4_readPart, [483, 485, 16, 486, 96]) := rfl
set_option maxRecDepth 100000 in
theorem lkV_4_87 : lkup tV 4 87 = some (mX5_addPart, [487, 489, 17, 490, 97]) := rfl
set_option maxRecDepth 100000 in
theorem lkV_4_84 : lkup tV 4 84 = some (mX4_readElder, [491, 493, 18, 494, 96]) := rfl
set_option maxRecDepth 100000 in
theorem lkV_4_91 : lkup tV 4 91 = some (mX5_addElder, [495, 497, 19, 498, 97]) := rfl
set_option maxRecDepth 100000 in
theorem lkV_6_121 : lkup tV 6 121 = some (mX5_copyFrom, [503, 505, 20, 506, 97]) := rfl
set_option maxRecDepth 100000 in
theorem lkV_6_125 : lkup tV 6 125 = some (mX0_forget, [507, 509, 21, 510, 98]) := rfl
set_option maxRecDepth 100000 in
theorem lkV_8_41 : lkup tV 8 41 = some (mX6_fault, [511, 512, 513, 514, 94]) := rfl
set_option maxRecDepth 100000 in
theorem lkV_8_45 : lkup tV 8 45 = some (mX6_undo, [515, 516, 517, 518, 94]) := rfl
set_option maxRecDepth 100000 in
theorem lkV_6_135 : lkup tV 6 135 = some (mX0_takeBack, [520, 522, 22, 523, 98]) := rfl
set_option maxRecDepth 100000 in
theorem lkV_8_49 : lkup tV 8 49 = some (mX6_make, [524, 525, 526, 527, 94]) := rfl
set_option maxRecDepth 100000 in
theorem lkV_6_139 : lkup tV 6 139 = some (mX6_isPart, [528, 530, 23, 531, 94]) := rfl
set_option maxRecDepth 100000 in
theorem lkV_6_142 : lkup tV 6 142 = some (mX5_mayBuild, [532, 534, 24, 535, 97]) := rfl
set_option maxRecDepth 100000 in
theorem lkV_5_73 : lkup tV 5 73 = some (mX5_isReady, [539, 541, 25, 542, 97]) := rfl
set_option maxRecDepth 100000 in
theorem lkV_6_145 : lkup tV 6 145 = some (mX0_keep, [546, 548, 26, 549, 98]) := rfl
set_option maxRecDepth 100000 in
theorem lkV_6_148 : lkup tV 6 148 = some (mX5_build, [553, 555, 27, 556, 97]) := rfl
set_option maxRecDepth 100000 in
theorem lkV_8_53 : lkup tV 8 53 = some (mX6_mend, [564, 565, 566, 567, 94]) := rfl
set_option maxRecDepth 100000 in
theorem lkV_6_161 : lkup tV 6 161 = some (mX5_mendingDays, [569, 571, 28, 572, 97]) := rfl
set_option maxRecDepth 100000 in
theorem lkV_8_57 : lkup tV 8 57 = some (mX6_feast, [573, 574, 575, 576, 94]) := rfl
set_option maxRecDepth 100000 in
theorem lkV_6_164 : lkup tV 6 164 = some (mX6_isElder, [577, 579, 29, 580, 94]) := rfl
set_option maxRecDepth 100000 in
theorem lkV_8_61 : lkup tV 8 61 = some (mX6_idle, [581, 582, 583, 584, 94]) := rfl
set_option maxRecDepth 100000 in
theorem lkV_8_65 : lkup tV 8 65 = some (mX6_lesson, [585, 586, 587, 588, 94]) := rfl
set_option maxRecDepth 100000 in
theorem lkV_8_69 : lkup tV 8 69 = some (mX6_part, [589, 590, 591, 592, 94]) := rfl
set_option maxRecDepth 100000 in
theorem lkV_8_74 : lkup tV 8 74 = some (mX6_elder, [596, 597, 598, 599, 94]) := rfl
set_option maxRecDepth 100000 in
theorem lkV_6_212 : lkup tV 6 212 = some (mX5_finds, [600, 602, 30, 603, 97]) := rfl
set_option maxRecDepth 100000 in
theorem lkV_6_215 : lkup tV 6 215 = some (mX5_votes, [610, 612, 31, 613, 97]) := rfl
set_option maxRecDepth 100000 in
theorem lkV_5_105 : lkup tV 5 105 = some (mX5_finds, [614, 602, 30, 603, 97]) := rfl
set_option maxRecDepth 100000 in
theorem lkV_8_78 : lkup tV 8 78 = some (mX6_stand, [615, 616, 617, 618, 94]) := rfl
set_option maxRecDepth 100000 in
theorem lkV_6_218 : lkup tV 6 218 = some (mX5_passes, [619, 621, 32, 622, 97]) := rfl
set_option maxRecDepth 100000 in
theorem lkV_5_108 : lkup tV 5 108 = some (mX5_votes, [623, 612, 31, 613, 97]) := rfl
set_option maxRecDepth 100000 in
theorem lkV_5_111 : lkup tV 5 111 = some (mX5_wins, [624, 626, 33, 627, 97]) := rfl
set_option maxRecDepth 100000 in
theorem lkV_8_82 : lkup tV 8 82 = some (mX6_fewest, [628, 629, 630, 631, 94]) := rfl
set_option maxRecDepth 100000 in
theorem lkV_6_222 : lkup tV 6 222 = some (mX2_reckon, [632, 634, 34, 635, 99]) := rfl
set_option maxRecDepth 100000 in
theorem lkV_2_39 : lkup tV 2 39 = some (mX2_isReached, [637, 639, 35, 640, 99]) := rfl
set_option maxRecDepth 100000 in
theorem lkV_2_43 : lkup tV 2 43 = some (mX2_goOnFrom, [641, 643, 36, 644, 99]) := rfl
set_option maxRecDepth 100000 in
theorem lkV_2_77 : lkup tV 2 77 = some (mX5_isReady, [648, 541, 25, 542, 97]) := rfl
set_option maxRecDepth 100000 in
theorem lkV_2_85 : lkup tV 2 85 = some (mX2_addPart, [650, 652, 37, 653, 99]) := rfl
set_option maxRecDepth 100000 in
theorem lkV_2_47 : lkup tV 2 47 = some (mX2_conclude, [657, 659, 38, 660, 99]) := rfl
set_option maxRecDepth 100000 in
theorem lkV_8_86 : lkup tV 8 86 = some (mX6_can, [661, 662, 663, 664, 94]) := rfl
set_option maxRecDepth 100000 in
theorem lkV_8_90 : lkup tV 8 90 = some (mX6_feasts, [665, 666, 667, 668, 94]) := rfl
set_option maxRecDepth 100000 in
theorem lkV_6_242 : lkup tV 6 242 = some (mX6_cheapestFeasts, [672, 674, 39, 675, 94]) := rfl
set_option maxRecDepth 100000 in
theorem lkV_6_332 : lkup tV 6 332 = some (mX5_feastingMoney, [677, 679, 40, 680, 97]) := rfl
set_option maxRecDepth 100000 in
theorem lkV_6_254 : lkup tV 6 254 = some (mX5_wins, [681, 626, 33, 627, 97]) := rfl
set_option maxRecDepth 100000 in
theorem lkV_8_94 : lkup tV 8 94 = some (mX6_mends, [682, 683, 684, 685, 94]) := rfl
set_option maxRecDepth 100000 in
theorem lkV_6_251 : lkup tV 6 251 = some (mX6_leastMends, [686, 688, 41, 689, 94]) := rfl
set_option maxRecDepth 100000 in
theorem lkV_6_335 : lkup tV 6 335 = some (mX5_mendingDaysOf, [690, 692, 42, 693, 97]) := rfl
set_option maxRecDepth 100000 in
theorem lkV_5_97 : lkup tV 5 97 = some (mX5_mendingDays, [694, 571, 28, 572, 97]) := rfl
set_option maxRecDepth 100000 in
theorem lkV_8_98 : lkup tV 8 98 = some (mX6_decides, [695, 696, 697, 698, 94]) := rfl
set_option maxRecDepth 100000 in
theorem lkV_8_102 : lkup tV 8 102 = some (mX6_whereIs, [699, 700, 701, 702, 94]) := rfl
set_option maxRecDepth 100000 in
theorem lkV_6_260 : lkup tV 6 260 = some (mX6_isFoundAsTold, [703, 705, 43, 706, 94]) := rfl
set_option maxRecDepth 100000 in
theorem lkV_6_263 : lkup tV 6 263 = some (mX3_item, [707, 709, 44, 710, 95]) := rfl
set_option maxRecDepth 100000 in
theorem lkV_3_23 : lkup tV 3 23 = some (mX3_holds, [711, 407, 3, 408, 95]) := rfl
set_option maxRecDepth 100000 in
theorem lkV_8_106 : lkup tV 8 106 = some (mX6_skills, [712, 713, 714, 715, 94]) := rfl
set_option maxRecDepth 100000 in
theorem lkV_6_266 : lkup tV 6 266 = some (mX6_isMadeAsTold, [716, 718, 45, 719, 94]) := rfl
set_option maxRecDepth 100000 in
theorem lkV_6_338 : lkup tV 6 338 = some (mX5_isReady, [720, 541, 25, 542, 97]) := rfl
set_option maxRecDepth 100000 in
theorem lkV_8_110 : lkup tV 8 110 = some (mX6_who, [722, 723, 724, 725, 94]) := rfl
set_option maxRecDepth 100000 in
theorem lkV_6_270 : lkup tV 6 270 = some (mX6_isTakenAsTold, [726, 728, 46, 729, 94]) := rfl
set_option maxRecDepth 100000 in
theorem lkV_8_115 : lkup tV 8 115 = some (mX6_err, [730, 731, 732, 733, 94]) := rfl
set_option maxRecDepth 100000 in
theorem lkV_6_280 : lkup tV 6 280 = some (mX6_casesOf, [737, 739, 47, 740, 94]) := rfl
set_option maxRecDepth 100000 in
theorem lkV_8_120 : lkup tV 8 120 = some (mX6_worth, [744, 745, 746, 747, 94]) := rfl
set_option maxRecDepth 100000 in
theorem lkV_8_124 : lkup tV 8 124 = some (mX6_drawn, [748, 749, 750, 751, 94]) := rfl
set_option maxRecDepth 100000 in
theorem lkV_6_293 : lkup tV 6 293 = some (mX5_buildDrawn, [755, 757, 48, 758, 97]) := rfl
set_option maxRecDepth 100000 in
theorem lkV_5_87 : lkup tV 5 87 = some (mX5_mayBuild, [759, 534, 24, 535, 97]) := rfl
set_option maxRecDepth 100000 in
theorem lkV_5_91 : lkup tV 5 91 = some (mX5_build, [760, 555, 27, 556, 97]) := rfl
set_option maxRecDepth 100000 in
theorem lkV_8_128 : lkup tV 8 128 = some (mX6_image, [762, 763, 764, 765, 94]) := rfl
set_option maxRecDepth 100000 in
theorem lkV_6_297 : lkup tV 6 297 = some (mX6_imageOf, [766, 768, 49, 769, 94]) := rfl
set_option maxRecDepth 100000 in
theorem lkV_8_132 : lkup tV 8 132 = some (mX6_restore, [770, 771, 772, 773, 94]) := rfl
set_option maxRecDepth 100000 in
theorem lkV_8_136 : lkup tV 8 136 = some (mX6_kind, [774, 775, 776, 777, 94]) := rfl
set_option maxRecDepth 100000 in
theorem lkV_8_140 : lkup tV 8 140 = some (mX6_as, [778, 779, 780, 781, 94]) := rfl
set_option maxRecDepth 100000 in
theorem lkV_8_144 : lkup tV 8 144 = some (mX6_ask, [785, 786, 787, 788, 94]) := rfl
set_option maxRecDepth 100000 in
theorem lkV_6_304 : lkup tV 6 304 = some (mX1_takeUp, [789, 791, 50, 792, 100]) := rfl
set_option maxRecDepth 100000 in
theorem lkV_6_313 : lkup tV 6 313 = some (mX1_give, [799, 801, 51, 802, 100]) := rfl
set_option maxRecDepth 100000 in
theorem lkV_1_43 : lkup tV 1 43 = some (mX1_begin, [804, 806, 52, 807, 100]) := rfl
set_option maxRecDepth 100000 in
theorem lkV_1_47 : lkup tV 1 47 = some (mX1_give, [808, 801, 51, 802, 100]) := rfl
set_option maxRecDepth 100000 in
theorem lkV_8_148 : lkup tV 8 148 = some (mX6_trace, [811, 812, 813, 814, 94]) := rfl
set_option maxRecDepth 100000 in
theorem lkV_8_152 : lkup tV 8 152 = some (mX6_count, [815, 816, 817, 818, 94]) := rfl
set_option maxRecDepth 100000 in
theorem lkV_6_320 : lkup tV 6 320 = some (mX3_howMany, [819, 821, 53, 822, 95]) := rfl
set_option maxRecDepth 100000 in
theorem lkV_8_156 : lkup tV 8 156 = some (mX6_status, [823, 824, 825, 826, 94]) := rfl
set_option maxRecDepth 100000 in
theorem lkV_8_17 : lkup tV 8 17 = some (mX7_row, [912, 913, 914, 915, 101]) := rfl
set_option maxRecDepth 100000 in
theorem lkV_7_74 : lkup tV 7 74 = some (mX7_found, [925, 927, 54, 928, 101]) := rfl
set_option maxRecDepth 100000 in
theorem lkV_7_78 : lkup tV 7 78 = some (mX7_good, [930, 932, 55, 933, 101]) := rfl
set_option maxRecDepth 100000 in
theorem lkV_8_21 : lkup tV 8 21 = some (mX7_set, [934, 935, 936, 937, 101]) := rfl
set_option maxRecDepth 100000 in
theorem lkV_8_26 : lkup tV 8 26 = some (mX7_copy, [938, 939, 940, 941, 101]) := rfl
set_option maxRecDepth 100000 in
theorem lkV_8_31 : lkup tV 8 31 = some (mX7_drop, [945, 946, 947, 948, 101]) := rfl
set_option maxRecDepth 100000 in
theorem lkV_8_35 : lkup tV 8 35 = some (mX7_feed, [949, 950, 951, 952, 101]) := rfl
set_option maxRecDepth 100000 in
theorem lkV_8_40 : lkup tV 8 40 = some (mX7_trial, [955, 956, 957, 958, 101]) := rfl
set_option maxRecDepth 100000 in
theorem lkV_7_130 : lkup tV 7 130 = some (mX7_takesLaw, [959, 961, 56, 962, 101]) := rfl
set_option maxRecDepth 100000 in
theorem lkV_7_114 : lkup tV 7 114 = some (mX7_takes, [963, 965, 57, 966, 101]) := rfl
set_option maxRecDepth 100000 in
theorem lkV_7_100 : lkup tV 7 100 = some (mX7_byteAt, [967, 969, 58, 970, 101]) := rfl
set_option maxRecDepth 100000 in
theorem lkV_7_103 : lkup tV 7 103 = some (mX7_fails, [971, 973, 59, 974, 101]) := rfl
set_option maxRecDepth 100000 in
theorem lkV_7_117 : lkup tV 7 117 = some (mX7_takesNumber, [975, 977, 60, 978, 101]) := rfl
set_option maxRecDepth 100000 in
theorem lkV_7_133 : lkup tV 7 133 = some (mX7_takesMore, [981, 983, 61, 984, 101]) := rfl
set_option maxRecDepth 100000 in
theorem lkV_7_123 : lkup tV 7 123 = some (mX7_takesPart, [988, 990, 62, 991, 101]) := rfl
set_option maxRecDepth 100000 in
theorem lkV_7_126 : lkup tV 7 126 = some (mX7_takesElder, [992, 994, 63, 995, 101]) := rfl
set_option maxRecDepth 100000 in
theorem lkV_7_137 : lkup tV 7 137 = some (mX7_copyAll, [997, 999, 64, 1000, 101]) := rfl
set_option maxRecDepth 100000 in
theorem lkV_8_44 : lkup tV 8 44 = some (mX7_fault, [1001, 1002, 1003, 1004, 101]) := rfl
set_option maxRecDepth 100000 in
theorem lkV_8_48 : lkup tV 8 48 = some (mX7_undo, [1005, 1006, 1007, 1008, 101]) := rfl
set_option maxRecDepth 100000 in
theorem lkV_8_52 : lkup tV 8 52 = some (mX7_make, [1010, 1011, 1012, 1013, 101]) := rfl
set_option maxRecDepth 100000 in
theorem lkV_7_172 : lkup tV 7 172 = some (mX7_isPart, [1014, 1016, 65, 1017, 101]) := rfl
set_option maxRecDepth 100000 in
theorem lkV_7_175 : lkup tV 7 175 = some (mX7_mayNow, [1018, 1020, 66, 1021, 101]) := rfl
set_option maxRecDepth 100000 in
theorem lkV_7_161 : lkup tV 7 161 = some (mX7_mayBe, [1022, 1024, 67, 1025, 101]) := rfl
set_option maxRecDepth 100000 in
theorem lkV_7_154 : lkup tV 7 154 = some (mX7_takesNow, [1026, 1028, 68, 1029, 101]) := rfl
set_option maxRecDepth 100000 in
theorem lkV_7_158 : lkup tV 7 158 = some (mX7_isAheadMade, [1036, 1038, 69, 1039, 101]) := rfl
set_option maxRecDepth 100000 in
theorem lkV_7_178 : lkup tV 7 178 = some (mX7_minds, [1040, 1042, 70, 1043, 101]) := rfl
set_option maxRecDepth 100000 in
theorem lkV_7_181 : lkup tV 7 181 = some (mX7_makes, [1044, 1046, 71, 1047, 101]) := rfl
set_option maxRecDepth 100000 in
theorem lkV_7_165 : lkup tV 7 165 = some (mX7_isFaultyNow, [1048, 1050, 72, 1051, 101]) := rfl
set_option maxRecDepth 100000 in
theorem lkV_8_56 : lkup tV 8 56 = some (mX7_mend, [1058, 1059, 1060, 1061, 101]) := rfl
set_option maxRecDepth 100000 in
theorem lkV_8_60 : lkup tV 8 60 = some (mX7_feast, [1062, 1063, 1064, 1065, 101]) := rfl
set_option maxRecDepth 100000 in
theorem lkV_7_185 : lkup tV 7 185 = some (mX7_isElder, [1066, 1068, 73, 1069, 101]) := rfl
set_option maxRecDepth 100000 in
theorem lkV_8_64 : lkup tV 8 64 = some (mX7_idle, [1070, 1071, 1072, 1073, 101]) := rfl
set_option maxRecDepth 100000 in
theorem lkV_7_188 : lkup tV 7 188 = some (mX7_isTrial, [1074, 1076, 74, 1077, 101]) := rfl
set_option maxRecDepth 100000 in
theorem lkV_8_68 : lkup tV 8 68 = some (mX7_lesson, [1079, 1080, 1081, 1082, 101]) := rfl
set_option maxRecDepth 100000 in
theorem lkV_8_73 : lkup tV 8 73 = some (mX7_part, [1083, 1084, 1085, 1086, 101]) := rfl
set_option maxRecDepth 100000 in
theorem lkV_8_77 : lkup tV 8 77 = some (mX7_elder, [1088, 1089, 1090, 1091, 101]) := rfl
set_option maxRecDepth 100000 in
theorem lkV_7_196 : lkup tV 7 196 = some (mX7_findsOf, [1092, 1094, 75, 1095, 101]) := rfl
set_option maxRecDepth 100000 in
theorem lkV_7_193 : lkup tV 7 193 = some (mX7_isFound, [1096, 1098, 76, 1099, 101]) := rfl
set_option maxRecDepth 100000 in
theorem lkV_7_206 : lkup tV 7 206 = some (mX7_votesNow, [1100, 1102, 77, 1103, 101]) := rfl
set_option maxRecDepth 100000 in
theorem lkV_7_202 : lkup tV 7 202 = some (mX7_votesBy, [1104, 1106, 78, 1107, 101]) := rfl
set_option maxRecDepth 100000 in
theorem lkV_8_81 : lkup tV 8 81 = some (mX7_stand, [1108, 1109, 1110, 1111, 101]) := rfl
set_option maxRecDepth 100000 in
theorem lkV_7_212 : lkup tV 7 212 = some (mX7_isWhole, [1113, 1115, 79, 1116, 101]) := rfl
set_option maxRecDepth 100000 in
theorem lkV_7_215 : lkup tV 7 215 = some (mX7_isMost, [1117, 1119, 80, 1120, 101]) := rfl
set_option maxRecDepth 100000 in
theorem lkV_8_85 : lkup tV 8 85 = some (mX7_fewest, [1124, 1125, 1126, 1127, 101]) := rfl
set_option maxRecDepth 100000 in
theorem lkV_7_235 : lkup tV 7 235 = some (mX7_findFewest, [1128, 1130, 81, 1131, 101]) := rfl
set_option maxRecDepth 100000 in
theorem lkV_7_228 : lkup tV 7 228 = some (mX7_nextPart, [1133, 1135, 82, 1136, 101]) := rfl
set_option maxRecDepth 100000 in
theorem lkV_7_232 : lkup tV 7 232 = some (mX7_goesDeeper, [1137, 1139, 83, 1140, 101]) := rfl
set_option maxRecDepth 100000 in
theorem lkV_8_89 : lkup tV 8 89 = some (mX7_can, [1141, 1142, 1143, 1144, 101]) := rfl
set_option maxRecDepth 100000 in
theorem lkV_8_93 : lkup tV 8 93 = some (mX7_feasts, [1145, 1146, 1147, 1148, 101]) := rfl
set_option maxRecDepth 100000 in
theorem lkV_7_238 : lkup tV 7 238 = some (mX7_pricesOf, [1149, 1151, 84, 1152, 101]) := rfl
set_option maxRecDepth 100000 in
theorem lkV_8_97 : lkup tV 8 97 = some (mX7_mends, [1153, 1154, 1155, 1156, 101]) := rfl
set_option maxRecDepth 100000 in
theorem lkV_8_101 : lkup tV 8 101 = some (mX7_decides, [1157, 1158, 1159, 1160, 101]) := rfl
set_option maxRecDepth 100000 in
theorem lkV_8_105 : lkup tV 8 105 = some (mX7_whereIs, [1161, 1162, 1163, 1164, 101]) := rfl
set_option maxRecDepth 100000 in
theorem lkV_7_241 : lkup tV 7 241 = some (mX7_against, [1165, 1167, 85, 1168, 101]) := rfl
set_option maxRecDepth 100000 in
theorem lkV_8_109 : lkup tV 8 109 = some (mX7_skills, [1169, 1170, 1171, 1172, 101]) := rfl
set_option maxRecDepth 100000 in
theorem lkV_8_114 : lkup tV 8 114 = some (mX7_who, [1173, 1174, 1175, 1176, 101]) := rfl
set_option maxRecDepth 100000 in
theorem lkV_8_119 : lkup tV 8 119 = some (mX7_err, [1178, 1179, 1180, 1181, 101]) := rfl
set_option maxRecDepth 100000 in
theorem lkV_8_123 : lkup tV 8 123 = some (mX7_worth, [1185, 1186, 1187, 1188, 101]) := rfl
set_option maxRecDepth 100000 in
theorem lkV_8_127 : lkup tV 8 127 = some (mX7_drawn, [1189, 1190, 1191, 1192, 101]) := rfl
set_option maxRecDepth 100000 in
theorem lkV_8_131 : lkup tV 8 131 = some (mX7_image, [1198, 1199, 1200, 1201, 101]) := rfl
set_option maxRecDepth 100000 in
theorem lkV_8_135 : lkup tV 8 135 = some (mX7_restore, [1202, 1203, 1204, 1205, 101]) := rfl
set_option maxRecDepth 100000 in
theorem lkV_8_139 : lkup tV 8 139 = some (mX7_kind, [1206, 1207, 1208, 1209, 101]) := rfl
set_option maxRecDepth 100000 in
theorem lkV_8_143 : lkup tV 8 143 = some (mX7_as, [1210, 1211, 1212, 1213, 101]) := rfl
set_option maxRecDepth 100000 in
theorem lkV_8_147 : lkup tV 8 147 = some (mX7_ask, [1214, 1215, 1216, 1217, 101]) := rfl
set_option maxRecDepth 100000 in
theorem lkV_7_284 : lkup tV 7 284 = some (mX7_size, [1218, 1220, 86, 1221, 101]) := rfl
set_option maxRecDepth 100000 in
theorem lkV_7_265 : lkup tV 7 265 = some (mX7_leaves, [1222, 1224, 87, 1225, 101]) := rfl
set_option maxRecDepth 100000 in
theorem lkV_7_281 : lkup tV 7 281 = some (mX7_sizeJoint, [1226, 1228, 88, 1229, 101]) := rfl
set_option maxRecDepth 100000 in
theorem lkV_7_278 : lkup tV 7 278 = some (mX7_mark, [1230, 1232, 89, 1233, 101]) := rfl
set_option maxRecDepth 100000 in
theorem lkV_7_271 : lkup tV 7 271 = some (mX7_markJoint, [1234, 1236, 90, 1237, 101]) := rfl
set_option maxRecDepth 100000 in
theorem lkV_7_268 : lkup tV 7 268 = some (mX7_markLent, [1238, 1240, 91, 1241, 101]) := rfl
set_option maxRecDepth 100000 in
theorem lkV_7_274 : lkup tV 7 274 = some (mX7_sizeWax, [1242, 1244, 92, 1245, 101]) := rfl
set_option maxRecDepth 100000 in
theorem lkV_8_151 : lkup tV 8 151 = some (mX7_trace, [1246, 1247, 1248, 1249, 101]) := rfl
set_option maxRecDepth 100000 in
theorem lkV_8_155 : lkup tV 8 155 = some (mX7_count, [1250, 1251, 1252, 1253, 101]) := rfl
set_option maxRecDepth 100000 in
theorem lkV_8_159 : lkup tV 8 159 = some (mX7_status, [1254, 1255, 1256, 1257, 101]) := rfl
set_option maxRecDepth 100000 in
theorem lkS_6_60 : lkup tS 6 60 = some (mX6_isRow, [384, 385, 386, 94]) := rfl
set_option maxRecDepth 100000 in
theorem lkS_4_102 : lkup tS 4 102 = some (mX4_isFigure, [473, 474, 475, 96]) := rfl
set_option maxRecDepth 100000 in
theorem lkS_4_74 : lkup tS 4 74 = some (mX4_kindOf, [480, 481, 482, 96]) := rfl
set_option maxRecDepth 100000 in
theorem lkS_5_65 : lkup tS 5 65 = some (mX6_seen, [499, 500, 501, 94]) := rfl
set_option maxRecDepth 100000 in
theorem lkS_5_69 : lkup tS 5 69 = some (mX6_bit, [536, 537, 538, 94]) := rfl
set_option maxRecDepth 100000 in
theorem lkS_5_77 : lkup tS 5 77 = some (mX6_taken, [543, 544, 545, 94]) := rfl
set_option maxRecDepth 100000 in
theorem lkS_5_81 : lkup tS 5 81 = some (mX6_flawed, [557, 558, 559, 94]) := rfl
set_option maxRecDepth 100000 in
theorem lkS_5_84 : lkup tS 5 84 = some (mX6_skillBehind, [560, 561, 562, 94]) := rfl
set_option maxRecDepth 100000 in
theorem lkS_6_154 : lkup tS 6 154 = some (mX6_bit, [568, 537, 538, 94]) := rfl
set_option maxRecDepth 100000 in
theorem lkS_6_199 : lkup tS 6 199 = some (mX6_taken, [594, 544, 545, 94]) := rfl
set_option maxRecDepth 100000 in
theorem lkS_6_203 : lkup tS 6 203 = some (mX6_flawed, [595, 558, 559, 94]) := rfl
set_option maxRecDepth 100000 in
theorem lkS_5_100 : lkup tS 5 100 = some (mJ6_bitCount_0f7a4, [604, 605, 606, 104]) := rfl
set_option maxRecDepth 100000 in
theorem lkS_2_27 : lkup tS 2 27 = some (mJ6_bitCount_0f7a4, [636, 605, 606, 104]) := rfl
set_option maxRecDepth 100000 in
theorem lkS_2_57 : lkup tS 2 57 = some (mX6_bit, [645, 537, 538, 94]) := rfl
set_option maxRecDepth 100000 in
theorem lkS_2_64 : lkup tS 2 64 = some (mX6_skillBehind, [646, 561, 562, 94]) := rfl
set_option maxRecDepth 100000 in
theorem lkS_2_73 : lkup tS 2 73 = some (mX6_taken, [647, 544, 545, 94]) := rfl
set_option maxRecDepth 100000 in
theorem lkS_2_81 : lkup tS 2 81 = some (mX6_flawed, [649, 558, 559, 94]) := rfl
set_option maxRecDepth 100000 in
theorem lkS_6_239 : lkup tS 6 239 = some (mX6_isOneOfTwo, [669, 670, 671, 94]) := rfl
set_option maxRecDepth 100000 in
theorem lkS_6_246 : lkup tS 6 246 = some (mJ6_bitCount_0f7a4, [676, 605, 606, 104]) := rfl
set_option maxRecDepth 100000 in
theorem lkS_6_342 : lkup tS 6 342 = some (mX6_skillBehind, [721, 561, 562, 94]) := rfl
set_option maxRecDepth 100000 in
theorem lkS_6_284 : lkup tS 6 284 = some (mX6_commonDivisor, [741, 742, 743, 94]) := rfl
set_option maxRecDepth 100000 in
theorem lkS_6_301 : lkup tS 6 301 = some (mX6_kindsThatAre, [782, 783, 784, 94]) := rfl
set_option maxRecDepth 100000 in
theorem lkS_6_307 : lkup tS 6 307 = some (mX1_ofSize, [793, 794, 795, 100]) := rfl
set_option maxRecDepth 100000 in
theorem lkS_6_310 : lkup tS 6 310 = some (mX1_ofMark, [796, 797, 798, 100]) := rfl
set_option maxRecDepth 100000 in
theorem lkS_1_51 : lkup tS 1 51 = some (mX1_ofMark, [809, 797, 798, 100]) := rfl
set_option maxRecDepth 100000 in
theorem lkS_1_55 : lkup tS 1 55 = some (mX1_ofSize, [810, 794, 795, 100]) := rfl
set_option maxRecDepth 100000 in
theorem lkS_7_67 : lkup tS 7 67 = some (mX7_isRow, [916, 917, 918, 101]) := rfl
set_option maxRecDepth 100000 in
theorem lkS_7_63 : lkup tS 7 63 = some (mX7_in, [920, 921, 922, 101]) := rfl
set_option maxRecDepth 100000 in
theorem lkS_7_81 : lkup tS 7 81 = some (mX7_fits, [942, 943, 944, 101]) := rfl
set_option maxRecDepth 100000 in
theorem lkS_7_120 : lkup tS 7 120 = some (mX7_kindOf, [985, 986, 987, 101]) := rfl
set_option maxRecDepth 100000 in
theorem lkS_7_144 : lkup tS 7 144 = some (mX7_takesOf, [1030, 1031, 1032, 101]) := rfl
set_option maxRecDepth 100000 in
theorem lkS_7_151 : lkup tS 7 151 = some (mX7_has, [1033, 1034, 1035, 101]) := rfl
set_option maxRecDepth 100000 in
theorem lkS_7_148 : lkup tS 7 148 = some (mX7_isFaulty, [1052, 1053, 1054, 101]) := rfl
set_option maxRecDepth 100000 in
theorem lkS_7_168 : lkup tS 7 168 = some (mX7_more, [1055, 1056, 1057, 101]) := rfl
set_option maxRecDepth 100000 in
theorem lkS_7_199 : lkup tS 7 199 = some (mX7_ones, [1121, 1122, 1123, 101]) := rfl
