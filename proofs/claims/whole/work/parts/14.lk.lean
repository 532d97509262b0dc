/-! generated: links by number -/
set_option maxRecDepth 100000 in
theorem lkV_8_13 : lkup tV 8 13 = some (mX6_row, [394, 395, 396, 397, 108]) := rfl
set_option maxRecDepth 100000 in
theorem lkV_6_65 : lkup tV 6 65 = some (mX6_finding, [402, 404, 0, 405, 108]) := rfl
set_option maxRecDepth 100000 in
theorem lkV_6_69 : lkup tV 6 69 = some (mX3_lay, [407, 409, 1, 410, 109]) := rfl
set_option maxRecDepth 100000 in
theorem lkV_6_73 : lkup tV 6 73 = some (mX6_clean, [411, 413, 2, 414, 108]) := rfl
set_option maxRecDepth 100000 in
theorem lkV_8_18 : lkup tV 8 18 = some (mX6_set, [415, 416, 417, 418, 108]) := rfl
set_option maxRecDepth 100000 in
theorem lkV_6_80 : lkup tV 6 80 = some (mX3_holds, [419, 421, 3, 422, 109]) := rfl
set_option maxRecDepth 100000 in
theorem lkV_6_84 : lkup tV 6 84 = some (mX3_put, [423, 425, 4, 426, 109]) := rfl
set_option maxRecDepth 100000 in
theorem lkV_8_22 : lkup tV 8 22 = some (mX6_copy, [427, 428, 429, 430, 108]) := rfl
set_option maxRecDepth 100000 in
theorem lkV_6_92 : lkup tV 6 92 = some (mX3_carry, [431, 433, 5, 434, 109]) := rfl
set_option maxRecDepth 100000 in
theorem lkV_8_27 : lkup tV 8 27 = some (mX6_drop, [438, 439, 440, 441, 108]) := rfl
set_option maxRecDepth 100000 in
theorem lkV_8_32 : lkup tV 8 32 = some (mX6_feed, [442, 443, 444, 445, 108]) := rfl
set_option maxRecDepth 100000 in
theorem lkV_6_104 : lkup tV 6 104 = some (mX4_append, [447, 449, 6, 450, 110]) := rfl
set_option maxRecDepth 100000 in
theorem lkV_8_36 : lkup tV 8 36 = some (mX6_trial, [451, 452, 453, 454, 108]) := rfl
set_option maxRecDepth 100000 in
theorem lkV_6_107 : lkup tV 6 107 = some (mX4_readInto, [455, 457, 7, 458, 110]) := rfl
set_option maxRecDepth 100000 in
theorem lkV_4_19 : lkup tV 4 19 = some (mX5_clear, [459, 461, 8, 462, 111]) := rfl
set_option maxRecDepth 100000 in
theorem lkV_4_27 : lkup tV 4 27 = some (mX4_readLaw, [463, 465, 9, 466, 110]) := rfl
set_option maxRecDepth 100000 in
theorem lkV_4_45 : lkup tV 4 45 = some (mX4_readLetter, [467, 469, 10, 470, 110]) := rfl
set_option maxRecDepth 100000 in
theorem lkV_4_70 : lkup tV 4 70 = some (mX4_letterAt, [471, 473, 11, 474, 110]) := rfl
set_option maxRecDepth 100000 in
theorem lkV_4_37 : lkup tV 4 37 = some (mX4_fail, [475, 477, 12, 478, 110]) := rfl
set_option maxRecDepth 100000 in
theorem lkV_4_48 : lkup tV 4 48 = some (mX4_readThree, [479, 481, 13, 482, 110]) := rfl
set_option maxRecDepth 100000 in
theorem lkV_4_95 : lkup tV 4 95 = some (mX4_readNumber, [483, 485, 14, 486, 110]) := rfl
set_option maxRecDepth 100000 in
theorem lkV_4_102 : lkup tV 4 102 = some (mX4_figuresAt, [487, 489, 15, 490, 110]) := rfl
set_option maxRecDepth 100000 in
theorem lkV_4_115 : lkup tV 4 115 = some (mX4_isFigure, [491, 493, 16, 494, 110]) := rfl
set_option maxRecDepth 100000 in
theorem lkV_4_105 : lkup tV 4 105 = some (mX4_valueAt, [495, 497, 17, 498, 110]) := rfl
set_option maxRecDepth 100000 in
theorem lkV_4_31 : lkup tV 4 31 = some (mX4_readOne, [499, 501, 18, 502, 110]) := rfl
set_option maxRecDepth 100000 in
theorem lkV_4_80 : lkup tV 4 80 = some (mX4_readPart, [506, 508, 19, 509, 110]) := rfl
set_option maxRecDepth 100000 in
theorem lkV_4_87 : lkup tV 4 87 = some (mX5_addPart, [510, 512, 20, 513, 111]) := rfl
set_option maxRecDepth 100000 in
theorem lkV_4_84 : lkup tV 4 84 = some (mX4_readElder, [514, 516, 21, 517, 110]) := rfl
set_option maxRecDepth 100000 in
theorem lkV_4_91 : lkup tV 4 91 = some (mX5_addElder, [518, 520, 22, 521, 111]) := rfl
set_option maxRecDepth 100000 in
theorem lkV_6_121 : lkup tV 6 121 = some (mX5_copyFrom, [526, 528, 23, 529, 111]) := rfl
set_option maxRecDepth 100000 in
theorem lkV_6_125 : lkup tV 6 125 = some (mX0_forget, [530, 532, 24, 533, 112]) := rfl
set_option maxRecDepth 100000 in
theorem lkV_8_41 : lkup tV 8 41 = some (mX6_fault, [534, 535, 536, 537, 108]) := rfl
set_option maxRecDepth 100000 in
theorem lkV_8_45 : lkup tV 8 45 = some (mX6_undo, [538, 539, 540, 541, 108]) := rfl
set_option maxRecDepth 100000 in
theorem lkV_6_135 : lkup tV 6 135 = some (mX0_takeBack, [543, 545, 25, 546, 112]) := rfl
set_option maxRecDepth 100000 in
theorem lkV_8_49 : lkup tV 8 49 = some (mX6_make, [547, 548, 549, 550, 108]) := rfl
set_option maxRecDepth 100000 in
theorem lkV_6_139 : lkup tV 6 139 = some (mX6_isPart, [551, 553, 26, 554, 108]) := rfl
set_option maxRecDepth 100000 in
theorem lkV_6_142 : lkup tV 6 142 = some (mX5_mayBuild, [555, 557, 27, 558, 111]) := rfl
set_option maxRecDepth 100000 in
theorem lkV_5_73 : lkup tV 5 73 = some (mX5_isReady, [562, 564, 28, 565, 111]) := rfl
set_option maxRecDepth 100000 in
theorem lkV_6_145 : lkup tV 6 145 = some (mX0_keep, [569, 571, 29, 572, 112]) := rfl
set_option maxRecDepth 100000 in
theorem lkV_6_148 : lkup tV 6 148 = some (mX5_build, [576, 578, 30, 579, 111]) := rfl
set_option maxRecDepth 100000 in
theorem lkV_8_53 : lkup tV 8 53 = some (mX6_mend, [587, 588, 589, 590, 108]) := rfl
set_option maxRecDepth 100000 in
theorem lkV_6_161 : lkup tV 6 161 = some (mX5_mendingDays, [592, 594, 31, 595, 111]) := rfl
set_option maxRecDepth 100000 in
theorem lkV_8_57 : lkup tV 8 57 = some (mX6_feast, [596, 597, 598, 599, 108]) := rfl
set_option maxRecDepth 100000 in
theorem lkV_6_164 : lkup tV 6 164 = some (mX6_isElder, [600, 602, 32, 603, 108]) := rfl
set_option maxRecDepth 100000 in
theorem lkV_8_61 : lkup tV 8 61 = some (mX6_idle, [604, 605, 606, 607, 108]) := rfl
set_option maxRecDepth 100000 in
theorem lkV_8_65 : lkup tV 8 65 = some (mX6_lesson, [608, 609, 610, 611, 108]) := rfl
set_option maxRecDepth 100000 in
theorem lkV_8_69 : lkup tV 8 69 = some (mX6_part, [612, 613, 614, 615, 108]) := rfl
set_option maxRecDepth 100000 in
theorem lkV_8_74 : lkup tV 8 74 = some (mX6_elder, [619, 620, 621, 622, 108]) := rfl
set_option maxRecDepth 100000 in
theorem lkV_6_212 : lkup tV 6 212 = some (mX5_finds, [623, 625, 33, 626, 111]) := rfl
set_option maxRecDepth 100000 in
theorem lkV_6_215 : lkup tV 6 215 = some (mX5_votes, [633, 635, 34, 636, 111]) := rfl
set_option maxRecDepth 100000 in
theorem lkV_5_105 : lkup tV 5 105 = some (mX5_finds, [637, 625, 33, 626, 111]) := rfl
set_option maxRecDepth 100000 in
theorem lkV_8_78 : lkup tV 8 78 = some (mX6_stand, [638, 639, 640, 641, 108]) := rfl
set_option maxRecDepth 100000 in
theorem lkV_6_218 : lkup tV 6 218 = some (mX5_passes, [642, 644, 35, 645, 111]) := rfl
set_option maxRecDepth 100000 in
theorem lkV_5_108 : lkup tV 5 108 = some (mX5_votes, [646, 635, 34, 636, 111]) := rfl
set_option maxRecDepth 100000 in
theorem lkV_5_111 : lkup tV 5 111 = some (mX5_wins, [647, 649, 36, 650, 111]) := rfl
set_option maxRecDepth 100000 in
theorem lkV_8_82 : lkup tV 8 82 = some (mX6_fewest, [651, 652, 653, 654, 108]) := rfl
set_option maxRecDepth 100000 in
theorem lkV_6_222 : lkup tV 6 222 = some (mX2_reckon, [655, 657, 37, 658, 113]) := rfl
set_option maxRecDepth 100000 in
theorem lkV_2_39 : lkup tV 2 39 = some (mX2_isReached, [660, 662, 38, 663, 113]) := rfl
set_option maxRecDepth 100000 in
theorem lkV_2_43 : lkup tV 2 43 = some (mX2_goOnFrom, [664, 666, 39, 667, 113]) := rfl
set_option maxRecDepth 100000 in
theorem lkV_2_77 : lkup tV 2 77 = some (mX5_isReady, [671, 564, 28, 565, 111]) := rfl
set_option maxRecDepth 100000 in
theorem lkV_2_85 : lkup tV 2 85 = some (mX2_addPart, [673, 675, 40, 676, 113]) := rfl
set_option maxRecDepth 100000 in
theorem lkV_2_47 : lkup tV 2 47 = some (mX2_conclude, [680, 682, 41, 683, 113]) := rfl
set_option maxRecDepth 100000 in
theorem lkV_8_86 : lkup tV 8 86 = some (mX6_can, [684, 685, 686, 687, 108]) := rfl
set_option maxRecDepth 100000 in
theorem lkV_8_90 : lkup tV 8 90 = some (mX6_feasts, [688, 689, 690, 691, 108]) := rfl
set_option maxRecDepth 100000 in
theorem lkV_6_242 : lkup tV 6 242 = some (mX6_cheapestFeasts, [695, 697, 42, 698, 108]) := rfl
set_option maxRecDepth 100000 in
theorem lkV_6_329 : lkup tV 6 329 = some (mX5_feastingMoney, [700, 702, 43, 703, 111]) := rfl
set_option maxRecDepth 100000 in
theorem lkV_6_254 : lkup tV 6 254 = some (mX5_wins, [704, 649, 36, 650, 111]) := rfl
set_option maxRecDepth 100000 in
theorem lkV_8_94 : lkup tV 8 94 = some (mX6_mends, [705, 706, 707, 708, 108]) := rfl
set_option maxRecDepth 100000 in
theorem lkV_6_251 : lkup tV 6 251 = some (mX6_leastMends, [709, 711, 44, 712, 108]) := rfl
set_option maxRecDepth 100000 in
theorem lkV_6_332 : lkup tV 6 332 = some (mX5_mendingDaysOf, [713, 715, 45, 716, 111]) := rfl
set_option maxRecDepth 100000 in
theorem lkV_5_97 : lkup tV 5 97 = some (mX5_mendingDays, [717, 594, 31, 595, 111]) := rfl
set_option maxRecDepth 100000 in
theorem lkV_8_98 : lkup tV 8 98 = some (mX6_decides, [718, 719, 720, 721, 108]) := rfl
set_option maxRecDepth 100000 in
theorem lkV_8_102 : lkup tV 8 102 = some (mX6_whereIs, [722, 723, 724, 725, 108]) := rfl
set_option maxRecDepth 100000 in
theorem lkV_6_260 : lkup tV 6 260 = some (mX6_isFoundAsTold, [726, 728, 46, 729, 108]) := rfl
set_option maxRecDepth 100000 in
theorem lkV_6_263 : lkup tV 6 263 = some (mX3_item, [730, 732, 47, 733, 109]) := rfl
set_option maxRecDepth 100000 in
theorem lkV_3_23 : lkup tV 3 23 = some (mX3_holds, [734, 421, 3, 422, 109]) := rfl
set_option maxRecDepth 100000 in
theorem lkV_8_106 : lkup tV 8 106 = some (mX6_skills, [735, 736, 737, 738, 108]) := rfl
set_option maxRecDepth 100000 in
theorem lkV_6_266 : lkup tV 6 266 = some (mX6_isMadeAsTold, [739, 741, 48, 742, 108]) := rfl
set_option maxRecDepth 100000 in
theorem lkV_6_335 : lkup tV 6 335 = some (mX5_isReady, [743, 564, 28, 565, 111]) := rfl
set_option maxRecDepth 100000 in
theorem lkV_8_110 : lkup tV 8 110 = some (mX6_who, [745, 746, 747, 748, 108]) := rfl
set_option maxRecDepth 100000 in
theorem lkV_6_270 : lkup tV 6 270 = some (mX6_isTakenAsTold, [749, 751, 49, 752, 108]) := rfl
set_option maxRecDepth 100000 in
theorem lkV_8_115 : lkup tV 8 115 = some (mX6_err, [753, 754, 755, 756, 108]) := rfl
set_option maxRecDepth 100000 in
theorem lkV_6_280 : lkup tV 6 280 = some (mX6_casesOf, [760, 762, 50, 763, 108]) := rfl
set_option maxRecDepth 100000 in
theorem lkV_8_120 : lkup tV 8 120 = some (mX6_worth, [767, 768, 769, 770, 108]) := rfl
set_option maxRecDepth 100000 in
theorem lkV_8_124 : lkup tV 8 124 = some (mX6_drawn, [771, 772, 773, 774, 108]) := rfl
set_option maxRecDepth 100000 in
theorem lkV_6_293 : lkup tV 6 293 = some (mX5_buildDrawn, [778, 780, 51, 781, 111]) := rfl
set_option maxRecDepth 100000 in
theorem lkV_5_87 : lkup tV 5 87 = some (mX5_mayBuild, [782, 557, 27, 558, 111]) := rfl
set_option maxRecDepth 100000 in
theorem lkV_5_91 : lkup tV 5 91 = some (mX5_build, [783, 578, 30, 579, 111]) := rfl
set_option maxRecDepth 100000 in
theorem lkV_8_128 : lkup tV 8 128 = some (mX6_image, [785, 786, 787, 788, 108]) := rfl
set_option maxRecDepth 100000 in
theorem lkV_6_297 : lkup tV 6 297 = some (mX6_imageOf, [789, 791, 52, 792, 108]) := rfl
set_option maxRecDepth 100000 in
theorem lkV_8_132 : lkup tV 8 132 = some (mX6_restore, [793, 794, 795, 796, 108]) := rfl
set_option maxRecDepth 100000 in
theorem lkV_8_136 : lkup tV 8 136 = some (mX6_kind, [797, 798, 799, 800, 108]) := rfl
set_option maxRecDepth 100000 in
theorem lkV_8_140 : lkup tV 8 140 = some (mX6_as, [801, 802, 803, 804, 108]) := rfl
set_option maxRecDepth 100000 in
theorem lkV_8_144 : lkup tV 8 144 = some (mX6_ask, [808, 809, 810, 811, 108]) := rfl
set_option maxRecDepth 100000 in
theorem lkV_6_304 : lkup tV 6 304 = some (mX1_takeUp, [812, 814, 53, 815, 114]) := rfl
set_option maxRecDepth 100000 in
theorem lkV_6_307 : lkup tV 6 307 = some (mX1_askSize, [816, 818, 54, 819, 114]) := rfl
set_option maxRecDepth 100000 in
theorem lkV_1_43 : lkup tV 1 43 = some (mX1_sizeOfJoint, [821, 823, 55, 824, 114]) := rfl
set_option maxRecDepth 100000 in
theorem lkV_1_75 : lkup tV 1 75 = some (mX1_begin, [825, 827, 56, 828, 114]) := rfl
set_option maxRecDepth 100000 in
theorem lkV_1_57 : lkup tV 1 57 = some (mX1_sizeLent, [829, 831, 57, 832, 114]) := rfl
set_option maxRecDepth 100000 in
theorem lkV_1_79 : lkup tV 1 79 = some (mX1_askMark, [833, 835, 58, 836, 114]) := rfl
set_option maxRecDepth 100000 in
theorem lkV_1_60 : lkup tV 1 60 = some (mX1_markOfJoint, [837, 839, 59, 840, 114]) := rfl
set_option maxRecDepth 100000 in
theorem lkV_1_72 : lkup tV 1 72 = some (mX1_markLent, [841, 843, 60, 844, 114]) := rfl
set_option maxRecDepth 100000 in
theorem lkV_1_63 : lkup tV 1 63 = some (mX1_markOfCarved, [845, 847, 61, 848, 114]) := rfl
set_option maxRecDepth 100000 in
theorem lkV_1_66 : lkup tV 1 66 = some (mX1_markOfHidden, [849, 851, 62, 852, 114]) := rfl
set_option maxRecDepth 100000 in
theorem lkV_1_69 : lkup tV 1 69 = some (mX1_markOfWax, [853, 855, 63, 856, 114]) := rfl
set_option maxRecDepth 100000 in
theorem lkV_1_82 : lkup tV 1 82 = some (mX1_askSize, [857, 818, 54, 819, 114]) := rfl
set_option maxRecDepth 100000 in
theorem lkV_1_47 : lkup tV 1 47 = some (mX1_sizeOfCarved, [858, 860, 64, 861, 114]) := rfl
set_option maxRecDepth 100000 in
theorem lkV_1_50 : lkup tV 1 50 = some (mX1_sizeOfWax, [862, 864, 65, 865, 114]) := rfl
set_option maxRecDepth 100000 in
theorem lkV_1_54 : lkup tV 1 54 = some (mX1_sizeOfBought, [866, 868, 66, 869, 114]) := rfl
set_option maxRecDepth 100000 in
theorem lkV_6_310 : lkup tV 6 310 = some (mX1_askMark, [870, 835, 58, 836, 114]) := rfl
set_option maxRecDepth 100000 in
theorem lkV_8_148 : lkup tV 8 148 = some (mX6_trace, [871, 872, 873, 874, 108]) := rfl
set_option maxRecDepth 100000 in
theorem lkV_8_152 : lkup tV 8 152 = some (mX6_count, [875, 876, 877, 878, 108]) := rfl
set_option maxRecDepth 100000 in
theorem lkV_6_317 : lkup tV 6 317 = some (mX3_howMany, [879, 881, 67, 882, 109]) := rfl
set_option maxRecDepth 100000 in
theorem lkV_8_156 : lkup tV 8 156 = some (mX6_status, [883, 884, 885, 886, 108]) := rfl
set_option maxRecDepth 100000 in
theorem lkV_8_17 : lkup tV 8 17 = some (mX7_row, [972, 973, 974, 975, 115]) := rfl
set_option maxRecDepth 100000 in
theorem lkV_7_74 : lkup tV 7 74 = some (mX7_found, [985, 987, 68, 988, 115]) := rfl
set_option maxRecDepth 100000 in
theorem lkV_7_78 : lkup tV 7 78 = some (mX7_good, [990, 992, 69, 993, 115]) := rfl
set_option maxRecDepth 100000 in
theorem lkV_8_21 : lkup tV 8 21 = some (mX7_set, [994, 995, 996, 997, 115]) := rfl
set_option maxRecDepth 100000 in
theorem lkV_8_26 : lkup tV 8 26 = some (mX7_copy, [998, 999, 1000, 1001, 115]) := rfl
set_option maxRecDepth 100000 in
theorem lkV_8_31 : lkup tV 8 31 = some (mX7_drop, [1005, 1006, 1007, 1008, 115]) := rfl
set_option maxRecDepth 100000 in
theorem lkV_8_35 : lkup tV 8 35 = some (mX7_feed, [1009, 1010, 1011, 1012, 115]) := rfl
set_option maxRecDepth 100000 in
theorem lkV_8_40 : lkup tV 8 40 = some (mX7_trial, [1015, 1016, 1017, 1018, 115]) := rfl
set_option maxRecDepth 100000 in
theorem lkV_7_130 : lkup tV 7 130 = some (mX7_takesLaw, [1019, 1021, 70, 1022, 115]) := rfl
set_option maxRecDepth 100000 in
theorem lkV_7_114 : lkup tV 7 114 = some (mX7_takes, [1023, 1025, 71, 1026, 115]) := rfl
set_option maxRecDepth 100000 in
theorem lkV_7_100 : lkup tV 7 100 = some (mX7_byteAt, [1027, 1029, 72, 1030, 115]) := rfl
set_option maxRecDepth 100000 in
theorem lkV_7_103 : lkup tV 7 103 = some (mX7_fails, [1031, 1033, 73, 1034, 115]) := rfl
set_option maxRecDepth 100000 in
theorem lkV_7_117 : lkup tV 7 117 = some (mX7_takesNumber, [1035, 1037, 74, 1038, 115]) := rfl
set_option maxRecDepth 100000 in
theorem lkV_7_133 : lkup tV 7 133 = some (mX7_takesMore, [1041, 1043, 75, 1044, 115]) := rfl
set_option maxRecDepth 100000 in
theorem lkV_7_123 : lkup tV 7 123 = some (mX7_takesPart, [1048, 1050, 76, 1051, 115]) := rfl
set_option maxRecDepth 100000 in
theorem lkV_7_126 : lkup tV 7 126 = some (mX7_takesElder, [1052, 1054, 77, 1055, 115]) := rfl
set_option maxRecDepth 100000 in
theorem lkV_7_137 : lkup tV 7 137 = some (mX7_copyAll, [1057, 1059, 78, 1060, 115]) := rfl
set_option maxRecDepth 100000 in
theorem lkV_8_44 : lkup tV 8 44 = some (mX7_fault, [1061, 1062, 1063, 1064, 115]) := rfl
set_option maxRecDepth 100000 in
theorem lkV_8_48 : lkup tV 8 48 = some (mX7_undo, [1065, 1066, 1067, 1068, 115]) := rfl
set_option maxRecDepth 100000 in
theorem lkV_8_52 : lkup tV 8 52 = some (mX7_make, [1070, 1071, 1072, 1073, 115]) := rfl
set_option maxRecDepth 100000 in
theorem lkV_7_172 : lkup tV 7 172 = some (mX7_isPart, [1074, 1076, 79, 1077, 115]) := rfl
set_option maxRecDepth 100000 in
theorem lkV_7_175 : lkup tV 7 175 = some (mX7_mayNow, [1078, 1080, 80, 1081, 115]) := rfl
set_option maxRecDepth 100000 in
theorem lkV_7_161 : lkup tV 7 161 = some (mX7_mayBe, [1082, 1084, 81, 1085, 115]) := rfl
set_option maxRecDepth 100000 in
theorem lkV_7_154 : lkup tV 7 154 = some (mX7_takesNow, [1086, 1088, 82, 1089, 115]) := rfl
set_option maxRecDepth 100000 in
theorem lkV_7_158 : lkup tV 7 158 = some (mX7_isAheadMade, [1096, 1098, 83, 1099, 115]) := rfl
set_option maxRecDepth 100000 in
theorem lkV_7_178 : lkup tV 7 178 = some (mX7_minds, [1100, 1102, 84, 1103, 115]) := rfl
set_option maxRecDepth 100000 in
theorem lkV_7_181 : lkup tV 7 181 = some (mX7_makes, [1104, 1106, 85, 1107, 115]) := rfl
set_option maxRecDepth 100000 in
theorem lkV_7_165 : lkup tV 7 165 = some (mX7_isFaultyNow, [1108, 1110, 86, 1111, 115]) := rfl
set_option maxRecDepth 100000 in
theorem lkV_8_56 : lkup tV 8 56 = some (mX7_mend, [1118, 1119, 1120, 1121, 115]) := rfl
set_option maxRecDepth 100000 in
theorem lkV_8_60 : lkup tV 8 60 = some (mX7_feast, [1122, 1123, 1124, 1125, 115]) := rfl
set_option maxRecDepth 100000 in
theorem lkV_7_185 : lkup tV 7 185 = some (mX7_isElder, [1126, 1128, 87, 1129, 115]) := rfl
set_option maxRecDepth 100000 in
theorem lkV_8_64 : lkup tV 8 64 = some (mX7_idle, [1130, 1131, 1132, 1133, 115]) := rfl
set_option maxRecDepth 100000 in
theorem lkV_7_188 : lkup tV 7 188 = some (mX7_isTrial, [1134, 1136, 88, 1137, 115]) := rfl
set_option maxRecDepth 100000 in
theorem lkV_8_68 : lkup tV 8 68 = some (mX7_lesson, [1139, 1140, 1141, 1142, 115]) := rfl
set_option maxRecDepth 100000 in
theorem lkV_8_73 : lkup tV 8 73 = some (mX7_part, [1143, 1144, 1145, 1146, 115]) := rfl
set_option maxRecDepth 100000 in
theorem lkV_8_77 : lkup tV 8 77 = some (mX7_elder, [1148, 1149, 1150, 1151, 115]) := rfl
set_option maxRecDepth 100000 in
theorem lkV_7_196 : lkup tV 7 196 = some (mX7_findsOf, [1152, 1154, 89, 1155, 115]) := rfl
set_option maxRecDepth 100000 in
theorem lkV_7_193 : lkup tV 7 193 = some (mX7_isFound, [1156, 1158, 90, 1159, 115]) := rfl
set_option maxRecDepth 100000 in
theorem lkV_7_206 : lkup tV 7 206 = some (mX7_votesNow, [1160, 1162, 91, 1163, 115]) := rfl
set_option maxRecDepth 100000 in
theorem lkV_7_202 : lkup tV 7 202 = some (mX7_votesBy, [1164, 1166, 92, 1167, 115]) := rfl
set_option maxRecDepth 100000 in
theorem lkV_8_81 : lkup tV 8 81 = some (mX7_stand, [1168, 1169, 1170, 1171, 115]) := rfl
set_option maxRecDepth 100000 in
theorem lkV_7_212 : lkup tV 7 212 = some (mX7_isWhole, [1173, 1175, 93, 1176, 115]) := rfl
set_option maxRecDepth 100000 in
theorem lkV_7_215 : lkup tV 7 215 = some (mX7_isMost, [1177, 1179, 94, 1180, 115]) := rfl
set_option maxRecDepth 100000 in
theorem lkV_8_85 : lkup tV 8 85 = some (mX7_fewest, [1184, 1185, 1186, 1187, 115]) := rfl
set_option maxRecDepth 100000 in
theorem lkV_7_235 : lkup tV 7 235 = some (mX7_findFewest, [1188, 1190, 95, 1191, 115]) := rfl
set_option maxRecDepth 100000 in
theorem lkV_7_228 : lkup tV 7 228 = some (mX7_nextPart, [1193, 1195, 96, 1196, 115]) := rfl
set_option maxRecDepth 100000 in
theorem lkV_7_232 : lkup tV 7 232 = some (mX7_goesDeeper, [1197, 1199, 97, 1200, 115]) := rfl
set_option maxRecDepth 100000 in
theorem lkV_8_89 : lkup tV 8 89 = some (mX7_can, [1201, 1202, 1203, 1204, 115]) := rfl
set_option maxRecDepth 100000 in
theorem lkV_8_93 : lkup tV 8 93 = some (mX7_feasts, [1205, 1206, 1207, 1208, 115]) := rfl
set_option maxRecDepth 100000 in
theorem lkV_7_238 : lkup tV 7 238 = some (mX7_pricesOf, [1209, 1211, 98, 1212, 115]) := rfl
set_option maxRecDepth 100000 in
theorem lkV_8_97 : lkup tV 8 97 = some (mX7_mends, [1213, 1214, 1215, 1216, 115]) := rfl
set_option maxRecDepth 100000 in
theorem lkV_8_101 : lkup tV 8 101 = some (mX7_decides, [1217, 1218, 1219, 1220, 115]) := rfl
set_option maxRecDepth 100000 in
theorem lkV_8_105 : lkup tV 8 105 = some (mX7_whereIs, [1221, 1222, 1223, 1224, 115]) := rfl
set_option maxRecDepth 100000 in
theorem lkV_7_241 : lkup tV 7 241 = some (mX7_against, [1225, 1227, 99, 1228, 115]) := rfl
set_option maxRecDepth 100000 in
theorem lkV_8_109 : lkup tV 8 109 = some (mX7_skills, [1229, 1230, 1231, 1232, 115]) := rfl
set_option maxRecDepth 100000 in
theorem lkV_8_114 : lkup tV 8 114 = some (mX7_who, [1233, 1234, 1235, 1236, 115]) := rfl
set_option maxRecDepth 100000 in
theorem lkV_8_119 : lkup tV 8 119 = some (mX7_err, [1238, 1239, 1240, 1241, 115]) := rfl
set_option maxRecDepth 100000 in
theorem lkV_8_123 : lkup tV 8 123 = some (mX7_worth, [1245, 1246, 1247, 1248, 115]) := rfl
set_option maxRecDepth 100000 in
theorem lkV_8_127 : lkup tV 8 127 = some (mX7_drawn, [1249, 1250, 1251, 1252, 115]) := rfl
set_option maxRecDepth 100000 in
theorem lkV_8_131 : lkup tV 8 131 = some (mX7_image, [1258, 1259, 1260, 1261, 115]) := rfl
set_option maxRecDepth 100000 in
theorem lkV_8_135 : lkup tV 8 135 = some (mX7_restore, [1262, 1263, 1264, 1265, 115]) := rfl
set_option maxRecDepth 100000 in
theorem lkV_8_139 : lkup tV 8 139 = some (mX7_kind, [1266, 1267, 1268, 1269, 115]) := rfl
set_option maxRecDepth 100000 in
theorem lkV_8_143 : lkup tV 8 143 = some (mX7_as, [1270, 1271, 1272, 1273, 115]) := rfl
set_option maxRecDepth 100000 in
theorem lkV_8_147 : lkup tV 8 147 = some (mX7_ask, [1274, 1275, 1276, 1277, 115]) := rfl
set_option maxRecDepth 100000 in
theorem lkV_7_284 : lkup tV 7 284 = some (mX7_size, [1278, 1280, 100, 1281, 115]) := rfl
set_option maxRecDepth 100000 in
theorem lkV_7_265 : lkup tV 7 265 = some (mX7_leaves, [1282, 1284, 101, 1285, 115]) := rfl
set_option maxRecDepth 100000 in
theorem lkV_7_281 : lkup tV 7 281 = some (mX7_sizeJoint, [1286, 1288, 102, 1289, 115]) := rfl
set_option maxRecDepth 100000 in
theorem lkV_7_278 : lkup tV 7 278 = some (mX7_mark, [1290, 1292, 103, 1293, 115]) := rfl
set_option maxRecDepth 100000 in
theorem lkV_7_271 : lkup tV 7 271 = some (mX7_markJoint, [1294, 1296, 104, 1297, 115]) := rfl
set_option maxRecDepth 100000 in
theorem lkV_7_268 : lkup tV 7 268 = some (mX7_markLent, [1298, 1300, 105, 1301, 115]) := rfl
set_option maxRecDepth 100000 in
theorem lkV_7_274 : lkup tV 7 274 = some (mX7_sizeWax, [1302, 1304, 106, 1305, 115]) := rfl
set_option maxRecDepth 100000 in
theorem lkV_8_151 : lkup tV 8 151 = some (mX7_trace, [1306, 1307, 1308, 1309, 115]) := rfl
set_option maxRecDepth 100000 in
theorem lkV_8_155 : lkup tV 8 155 = some (mX7_count, [1310, 1311, 1312, 1313, 115]) := rfl
set_option maxRecDepth 100000 in
theorem lkV_8_159 : lkup tV 8 159 = some (mX7_status, [1314, 1315, 1316, 1317, 115]) := rfl
set_option maxRecDepth 100000 in
theorem lkS_6_60 : lkup tS 6 60 = some (mX6_isRow, [398, 399, 400, 108]) := rfl
set_option maxRecDepth 100000 in
theorem lkS_4_74 : lkup tS 4 74 = some (mX4_kindOf, [503, 504, 505, 110]) := rfl
set_option maxRecDepth 100000 in
theorem lkS_5_65 : lkup tS 5 65 = some (mX6_seen, [522, 523, 524, 108]) := rfl
set_option maxRecDepth 100000 in
theorem lkS_5_69 : lkup tS 5 69 = some (mX6_bit, [559, 560, 561, 108]) := rfl
set_option maxRecDepth 100000 in
theorem lkS_5_77 : lkup tS 5 77 = some (mX6_taken, [566, 567, 568, 108]) := rfl
set_option maxRecDepth 100000 in
theorem lkS_5_81 : lkup tS 5 81 = some (mX6_flawed, [580, 581, 582, 108]) := rfl
set_option maxRecDepth 100000 in
theorem lkS_5_84 : lkup tS 5 84 = some (mX6_skillBehind, [583, 584, 585, 108]) := rfl
set_option maxRecDepth 100000 in
theorem lkS_6_154 : lkup tS 6 154 = some (mX6_bit, [591, 560, 561, 108]) := rfl
set_option maxRecDepth 100000 in
theorem lkS_6_199 : lkup tS 6 199 = some (mX6_taken, [617, 567, 568, 108]) := rfl
set_option maxRecDepth 100000 in
theorem lkS_6_203 : lkup tS 6 203 = some (mX6_flawed, [618, 581, 582, 108]) := rfl
set_option maxRecDepth 100000 in
theorem lkS_5_100 : lkup tS 5 100 = some (mJ6_bitCount_0f7a4, [627, 628, 629, 118]) := rfl
set_option maxRecDepth 100000 in
theorem lkS_2_27 : lkup tS 2 27 = some (mJ6_bitCount_0f7a4, [659, 628, 629, 118]) := rfl
set_option maxRecDepth 100000 in
theorem lkS_2_57 : lkup tS 2 57 = some (mX6_bit, [668, 560, 561, 108]) := rfl
set_option maxRecDepth 100000 in
theorem lkS_2_64 : lkup tS 2 64 = some (mX6_skillBehind, [669, 584, 585, 108]) := rfl
set_option maxRecDepth 100000 in
theorem lkS_2_73 : lkup tS 2 73 = some (mX6_taken, [670, 567, 568, 108]) := rfl
set_option maxRecDepth 100000 in
theorem lkS_2_81 : lkup tS 2 81 = some (mX6_flawed, [672, 581, 582, 108]) := rfl
set_option maxRecDepth 100000 in
theorem lkS_6_239 : lkup tS 6 239 = some (mX6_isOneOfTwo, [692, 693, 694, 108]) := rfl
set_option maxRecDepth 100000 in
theorem lkS_6_246 : lkup tS 6 246 = some (mJ6_bitCount_0f7a4, [699, 628, 629, 118]) := rfl
set_option maxRecDepth 100000 in
theorem lkS_6_339 : lkup tS 6 339 = some (mX6_skillBehind, [744, 584, 585, 108]) := rfl
set_option maxRecDepth 100000 in
theorem lkS_6_284 : lkup tS 6 284 = some (mX6_commonDivisor, [764, 765, 766, 108]) := rfl
set_option maxRecDepth 100000 in
theorem lkS_6_301 : lkup tS 6 301 = some (mX6_kindsThatAre, [805, 806, 807, 108]) := rfl
set_option maxRecDepth 100000 in
theorem lkS_7_67 : lkup tS 7 67 = some (mX7_isRow, [976, 977, 978, 115]) := rfl
set_option maxRecDepth 100000 in
theorem lkS_7_63 : lkup tS 7 63 = some (mX7_in, [980, 981, 982, 115]) := rfl
set_option maxRecDepth 100000 in
theorem lkS_7_81 : lkup tS 7 81 = some (mX7_fits, [1002, 1003, 1004, 115]) := rfl
set_option maxRecDepth 100000 in
theorem lkS_7_120 : lkup tS 7 120 = some (mX7_kindOf, [1045, 1046, 1047, 115]) := rfl
set_option maxRecDepth 100000 in
theorem lkS_7_144 : lkup tS 7 144 = some (mX7_takesOf, [1090, 1091, 1092, 115]) := rfl
set_option maxRecDepth 100000 in
theorem lkS_7_151 : lkup tS 7 151 = some (mX7_has, [1093, 1094, 1095, 115]) := rfl
set_option maxRecDepth 100000 in
theorem lkS_7_148 : lkup tS 7 148 = some (mX7_isFaulty, [1112, 1113, 1114, 115]) := rfl
set_option maxRecDepth 100000 in
theorem lkS_7_168 : lkup tS 7 168 = some (mX7_more, [1115, 1116, 1117, 115]) := rfl
set_option maxRecDepth 100000 in
theorem lkS_7_199 : lkup tS 7 199 = some (mX7_ones, [1181, 1182, 1183, 115]) := rfl
