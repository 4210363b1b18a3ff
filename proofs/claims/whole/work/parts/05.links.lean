/-! owners, codes and links by number (gen_lnk.py writes this), and the rows that hold them against the tables -/
def zO : List String := [RX0, RX1, RX2, RX3, RX4, RX5, RX6, RX7, RX8, RX9, RX10, RX11, RX12, RJ0, RJ6, RJ9, RJ1, RJ2, RJ7, RJ3, RL]
def zOw : List Nat := [0, 0, 1, 2, 2, 2, 2, 2, 2, 2, 2, 2, 2, 3, 3, 3, 3, 3, 4, 4, 4, 4, 5, 6, 6, 6, 6, 6, 6, 6, 6, 6, 7, 7, 8, 8, 8, 8, 8, 8, 8, 8, 8, 8, 9, 9, 9, 9, 9, 9, 9, 9, 9, 9, 9, 9, 9, 9, 9, 9, 9, 9, 9, 10, 11, 11, 11, 11, 11, 11, 11, 11, 11, 11, 11, 11, 11, 11, 11, 11, 11, 11, 11, 11, 11, 11, 11, 11, 11, 11, 11, 11, 11, 11, 11, 11, 11, 11, 11, 11, 11, 11, 11, 11, 11, 11, 11, 11, 11, 11, 11, 11, 11, 11, 11, 11, 11, 11, 11, 11, 11, 11, 11, 11, 11, 11, 11, 11, 11, 11, 11, 11, 11, 11, 11, 11, 11, 11, 11, 11, 11, 11, 11, 11, 11, 11, 12, 12, 12, 12, 12, 12, 12, 12, 12, 12, 12, 12, 12, 12, 12, 12, 12, 12, 12, 12, 12, 12, 12, 12, 12, 12, 12, 12, 12, 12, 12, 12, 12, 12, 12, 12, 12, 12, 12, 12, 12, 12, 12, 12, 12, 12, 12, 12, 12, 12, 12, 12, 12, 12, 12, 12, 12, 12, 12, 12, 12, 12, 12, 12, 12, 12, 12, 12, 12, 12, 12, 12, 12, 12, 12, 12, 12, 12, 12, 14, 15, 15, 15, 15, 13, 13, 13, 13, 13, 16, 17, 17, 17, 17, 18, 19, 20]
def zCd : List ByteArray := [cX0_init, cX0_fits, cX1_init, cX2_init, cX2_keep, cX2_weigh, cX2_caseAt, cX2_measure, cX2_weightOf, cX2_ranked, cX2_liker, cX2_isLiker, cX2_binding, cX3_init, cX3_has, cX3_build, cX3_enlist, cX3_gradeOf, cX4_init, cX4_bringProof, cX4_isMetBy, cX4_verdictFor, cX5_init, cX6_init, cX6_rule, cX6_mayComeNext, cX6_leastNext, cX6_leftOver, cX6_bar, cX6_rows, cX6_ordersOf, cX6_placed, cX7_init, cX7_ageOn, cX8_init, cX8_lay, cX8_holds, cX8_item, cX8_write, cX8_narrowed, cX8_hasPairs, cX8_sumOver, cX8_hasHeights, cX8_height, cX9_init, cX9_append, cX9_begin, cX9_isOver, cX9_byteAt, cX9_isLetter, cX9_isFigure, cX9_advance, cX9_scanName, cX9_scanNumber, cX9_refuse, cX9_placeAmong, cX9_isName, cX9_seesWord, cX9_takeWord, cX9_refuseWord, cX9_takeNumber, cX9_value, cX9_takeSign, cX10_init, cX11_init, cX11_sheet, cX11_set, cX11_copy, cX11_drop, cX11_house, cX11_list, cX11_grade, cX11_part, cX11_told, cX11_feed, cX11_acts, cX11_fault, cX11_needs, cX11_leave, cX11_prove, cX11_ahead, cX11_conditions, cX11_row, cX11_work, cX11_judged, cX11_grant, cX11_fund, cX11_use, cX11_enter, cX11_weight, cX11_like, cX11_binds, cX11_sight, cX11_day, cX11_kind, cX11_as, cX11_ask, cX11_trace, cX11_count, cX11_status, cX11_within, cX11_isDay, cX11_isGrade, cX11_isWork, cX11_isCondition, cX11_isMarks, cX11_isPlace, cX11_holdsBit, cX11_oneIf, cX11_yearOf, cX11_sheetAt, cX11_partAt, cX11_leaveAt, cX11_workAt, cX11_found, cX11_fine, cX11_gradeOn, cX11_kindOn, cX11_isOfKind, cX11_partsOfKind, cX11_presentSheets, cX11_readActs, cX11_readAct, cX11_decidingAct, cX11_needsLeave, cX11_verdictOn, cX11_isPutBackDue, cX11_grantFor, cX11_hardship, cX11_laySteps, cX11_leastMember, cX11_worthiestSet, cX11_cheapestSet, cX11_isSeen, cX11_rounded, cX11_begin, cX11_askSize, cX11_lentSize, cX11_keptSize, cX11_primeSize, cX11_youngSize, cX11_askMark, cX11_lentMark, cX11_keptMark, cX11_primeMark, cX11_youngMark, cX12_in, cX12_found, cX12_init, cX12_isSheet, cX12_sheet, cX12_set, cX12_copy, cX12_drop, cX12_lookPairs, cX12_isDay, cX12_isHouse, cX12_house, cX12_list, cX12_gradeOf, cX12_grade, cX12_part, cX12_isPart, cX12_ageOn, cX12_gradeOn, cX12_told, cX12_kindOn, cX12_feed, cX12_byteAt, cX12_isLetter, cX12_isFigure, cX12_step, cX12_bad, cX12_need, cX12_word, cX12_numberIn, cX12_sortOfWord, cX12_workOfWord, cX12_readAct, cX12_acts, cX12_fault, cX12_actFor, cX12_isWork, cX12_isNeeded, cX12_needs, cX12_leave, cX12_isLeave, cX12_prove, cX12_ahead, cX12_rowsOf, cX12_lowest, cX12_leftOf, cX12_conditions, cX12_row, cX12_work, cX12_isMet, cX12_judgedOf, cX12_judged, cX12_grantOf, cX12_grant, cX12_sumOf, cX12_fund, cX12_use, cX12_isMarks, cX12_enter, cX12_weight, cX12_farOf, cX12_isLiker, cX12_likeCase, cX12_like, cX12_binds, cX12_down, cX12_size, cX12_sight, cX12_day, cX12_isOf, cX12_kind, cX12_as, cX12_began, cX12_sizeOf, cX12_markOf, cX12_ask, cX12_trace, cX12_count, cX12_status, cJ6_bitCount_0f7a4, cJ9_floorDiv_7cf53, cJ9_abs_0f7a4, cJ9_max_7cf53, cJ9_min_7cf53, cJ0_length_8abf5, cJ0_charAt_5068e, cJ0_coder_7d493, cJ0_isLatin1_aae02, cJ0_checkIndex_df160, cJ1_charAt_3b067, cJ2_getChar_3b067, cJ2_length_9d52b, cJ2_charAt_3b067, cJ2_checkIndex_2214a, cJ7_fill_53178, cJ3_checkIndex_8e157, cL_law]
def zisN : Cond → Bool
  | .fieldLinkNest _ _ _ _ _ _ => true
  | .methodLinkNest _ _ _ _ => true
  | _ => false
def zNW : List Cond := tables_1.filter zisN
def zG : List Cond := lw_tbl.filter goodWord
/-- a word stands at a place of the tables -/
def zin (k : Nat) (w : Cond) : Bool := decide (tables_1[k]? = some w) && goodWord w
theorem zin_G {k : Nat} {w : Cond} (h : zin k w = true) : w ∈ zG := by
  simp only [zin, Bool.and_eq_true, decide_eq_true_eq] at h
  exact List.mem_filter.mpr ⟨List.mem_append_right _ (List.mem_of_getElem? h.1), h.2⟩
def zinN (k : Nat) (w : Cond) : Bool := decide (tables_1[k]? = some w) && zisN w
theorem zinN_G {k : Nat} {w : Cond} (h : zinN k w = true) : w ∈ zNW := by
  simp only [zinN, Bool.and_eq_true, decide_eq_true_eq] at h
  exact List.mem_filter.mpr ⟨List.mem_of_getElem? h.1, h.2⟩
def zFL : List (Nat × Nat × Nat × Bool) := [(0, 9, 0, false), (0, 15, 1, false), (0, 18, 2, false), (0, 21, 3, false), (0, 24, 4, false), (0, 27, 5, false), (0, 31, 701, true), (1, 7, 100, false), (1, 13, 101, false), (1, 16, 102, false), (2, 11, 200, false), (2, 17, 201, false), (2, 27, 202, false), (2, 41, 102, true), (2, 44, 103, true), (2, 48, 100, true), (2, 55, 104, true), (2, 74, 101, true), (3, 11, 300, false), (3, 17, 302, false), (3, 22, 301, false), (3, 25, 500, true), (3, 28, 503, true), (3, 31, 502, true), (3, 34, 501, true), (4, 9, 405, false), (4, 15, 400, false), (4, 19, 401, false), (4, 22, 402, false), (4, 25, 403, false), (4, 28, 404, false), (4, 35, 406, false), (5, 7, 500, false), (5, 13, 501, false), (5, 16, 502, false), (5, 19, 503, false), (6, 9, 600, false), (6, 15, 601, false), (6, 18, 602, false), (7, 7, 700, false), (7, 13, 701, false), (7, 16, 702, false), (7, 19, 703, false), (8, 9, 800, false), (8, 21, 801, false), (8, 25, 802, false), (8, 29, 803, false), (9, 9, 900, false), (9, 15, 901, false), (9, 22, 905, false), (9, 25, 906, false), (9, 28, 904, false), (9, 34, 902, false), (9, 37, 903, false), (10, 7, 1000, false), (10, 13, 1001, false), (10, 16, 1002, false), (11, 11, 1100, false), (11, 18, 1101, false), (11, 24, 1102, false), (11, 31, 1104, false), (11, 37, 1105, false), (11, 43, 1108, false), (11, 50, 1110, false), (11, 56, 1111, false), (11, 60, 1113, false), (11, 64, 1114, false), (11, 70, 1115, false), (11, 74, 1117, false), (11, 98, 801, true), (11, 110, 802, true), (11, 114, 800, true), (11, 123, 803, true), (11, 153, 1103, false), (11, 162, 700, true), (11, 165, 701, true), (11, 168, 702, true), (11, 171, 703, true), (11, 174, 1116, false), (11, 191, 905, true), (11, 194, 901, true), (11, 197, 1107, false), (11, 201, 906, true), (11, 204, 1106, false), (11, 222, 1109, false), (11, 235, 404, true), (11, 241, 406, true), (11, 265, 1112, false), (11, 327, 104, true), (11, 330, 100, true), (11, 353, 1118, false), (11, 366, 302, true), (11, 372, 202, true), (11, 375, 1119, false), (11, 423, 0, true), (11, 426, 1, true), (11, 431, 5, true), (11, 433, 1000, true), (11, 436, 1001, true), (11, 439, 1002, true), (11, 440, 400, true), (11, 441, 401, true), (12, 1, 1200, false), (12, 7, 1201, false), (12, 17, 1202, false), (12, 21, 1203, false), (12, 24, 1204, false), (12, 27, 1207, false), (12, 30, 1208, false), (12, 33, 1209, false), (12, 36, 1210, false), (12, 39, 1212, false), (12, 42, 1213, false), (12, 45, 1214, false), (12, 48, 1215, false), (12, 51, 1218, false), (12, 54, 1220, false), (12, 57, 1231, false), (12, 60, 1232, false), (12, 63, 1233, false), (12, 66, 1234, false), (12, 69, 1235, false), (12, 72, 1236, false), (12, 75, 1238, false), (12, 78, 1239, false), (12, 81, 1241, false), (12, 84, 1242, false), (12, 87, 1243, false), (12, 90, 1245, false), (12, 93, 1246, false), (12, 96, 1247, false), (12, 99, 1248, false), (12, 102, 1249, false), (12, 124, 1205, false), (12, 136, 1206, false), (12, 152, 1211, false), (12, 160, 1216, false), (12, 172, 1221, false), (12, 177, 1223, false), (12, 180, 1224, false), (12, 186, 1226, false), (12, 189, 1225, false), (12, 198, 1227, false), (12, 201, 1228, false), (12, 204, 1229, false), (12, 244, 1219, false), (12, 266, 1217, false), (12, 272, 1222, false), (12, 286, 1230, false), (12, 293, 1237, false), (12, 305, 1240, false), (12, 341, 1244, false), (12, 367, 1250, false), (13, 9, 1300, false), (13, 15, 1301, false)]
def zFLh : List Nat := [526, 528, 530, 531, 532, 533, 342, 807, 810, 812, 119, 120, 121, 813, 814, 808, 815, 811, 40, 42, 41, 301, 307, 305, 303, 595, 587, 589, 591, 592, 593, 596, 300, 302, 304, 306, 95, 96, 97, 339, 341, 344, 346, 135, 137, 139, 141, 59, 60, 65, 67, 64, 62, 63, 698, 700, 702, 152, 153, 154, 156, 157, 160, 162, 163, 165, 166, 167, 169, 138, 140, 136, 142, 155, 340, 343, 345, 347, 168, 66, 61, 159, 68, 158, 161, 594, 597, 164, 816, 809, 170, 43, 122, 171, 527, 529, 534, 699, 701, 703, 588, 590, 995, 996, 997, 998, 999, 1002, 1003, 1004, 1005, 1007, 1008, 1009, 1010, 1013, 1015, 1026, 1027, 1028, 1029, 1030, 1031, 1033, 1034, 1036, 1037, 1038, 1040, 1041, 1042, 1043, 1044, 1000, 1001, 1006, 1011, 1016, 1018, 1019, 1021, 1020, 1022, 1023, 1024, 1014, 1012, 1017, 1025, 1032, 1035, 1039, 1045, 1491, 1492]
def zML : List (Nat × Nat × Nat × Bool) := [(0, 34, 33, true), (2, 21, 240, false), (2, 32, 100, true), (2, 37, 6, false), (2, 51, 8, false), (2, 58, 107, true), (2, 62, 10, false), (2, 67, 11, false), (2, 71, 9, false), (4, 31, 104, true), (4, 38, 107, true), (4, 42, 20, false), (6, 23, 104, true), (6, 27, 107, true), (6, 31, 25, false), (6, 35, 26, false), (6, 39, 27, false), (6, 42, 30, false), (6, 45, 100, true), (6, 49, 225, false), (7, 22, 109, true), (8, 15, 240, false), (8, 32, 39, false), (8, 36, 37, false), (8, 39, 100, true), (8, 43, 107, true), (9, 31, 51, false), (9, 40, 48, false), (9, 44, 49, false), (9, 48, 52, false), (9, 51, 50, false), (9, 54, 53, false), (9, 58, 230, false), (9, 63, 231, false), (9, 66, 56, false), (9, 70, 55, false), (9, 74, 54, false), (9, 78, 57, false), (9, 82, 61, false), (9, 85, 100, true), (11, 17, 13, true), (11, 30, 44, true), (11, 49, 23, true), (11, 69, 3, true), (11, 77, 34, true), (11, 78, 110, false), (11, 82, 100, false), (11, 87, 114, false), (11, 91, 35, true), (11, 95, 115, false), (11, 102, 36, true), (11, 106, 38, true), (11, 126, 15, true), (11, 130, 14, true), (11, 134, 102, false), (11, 137, 101, false), (11, 142, 22, true), (11, 145, 16, true), (11, 149, 17, true), (11, 157, 32, true), (11, 158, 111, false), (11, 177, 33, true), (11, 180, 116, false), (11, 184, 45, true), (11, 188, 121, false), (11, 207, 103, false), (11, 210, 124, false), (11, 214, 108, false), (11, 218, 123, false), (11, 225, 18, true), (11, 228, 112, false), (11, 232, 104, false), (11, 238, 107, false), (11, 245, 19, true), (11, 248, 24, true), (11, 251, 225, false), (11, 256, 29, true), (11, 259, 28, true), (11, 262, 31, true), (11, 268, 63, true), (11, 271, 113, false), (11, 275, 125, false), (11, 279, 126, false), (11, 284, 127, false), (11, 287, 40, true), (11, 290, 131, false), (11, 294, 41, true), (11, 297, 132, false), (11, 301, 128, false), (11, 304, 105, false), (11, 309, 2, true), (11, 310, 4, true), (11, 314, 5, true), (11, 317, 7, true), (11, 320, 9, true), (11, 323, 6, true), (11, 333, 12, true), (11, 336, 106, false), (11, 339, 42, true), (11, 343, 133, false), (11, 347, 117, false), (11, 350, 118, false), (11, 356, 136, false), (11, 360, 141, false), (11, 363, 120, false), (11, 369, 119, false), (11, 380, 46, true), (11, 383, 47, true), (11, 388, 59, true), (11, 392, 122, false), (11, 396, 58, true), (11, 400, 60, true), (11, 411, 57, true), (11, 417, 62, true), (11, 420, 0, true), (11, 428, 1, true), (11, 442, 21, true), (11, 445, 229, false), (11, 450, 228, false), (11, 453, 37, true), (11, 456, 129, false), (11, 460, 130, false), (11, 463, 227, false), (11, 466, 43, true), (11, 469, 134, false), (11, 472, 226, false), (11, 475, 139, false), (11, 478, 138, false), (11, 481, 140, false), (11, 484, 137, false), (11, 487, 135, false), (11, 490, 144, false), (11, 493, 143, false), (11, 496, 145, false), (11, 499, 142, false), (12, 107, 146, false), (12, 111, 149, false), (12, 118, 147, false), (12, 128, 156, false), (12, 133, 155, false), (12, 140, 159, false), (12, 155, 162, false), (12, 163, 163, false), (12, 167, 164, false), (12, 183, 168, false), (12, 192, 169, false), (12, 195, 170, false), (12, 207, 172, false), (12, 211, 171, false), (12, 214, 173, false), (12, 218, 174, false), (12, 248, 175, false), (12, 253, 176, false), (12, 257, 177, false), (12, 269, 178, false), (12, 276, 181, false), (12, 279, 182, false), (12, 282, 183, false), (12, 289, 186, false), (12, 296, 191, false), (12, 299, 189, false), (12, 302, 190, false), (12, 308, 195, false), (12, 312, 196, false), (12, 315, 166, false), (12, 320, 198, false), (12, 327, 154, false), (12, 331, 200, false), (12, 338, 203, false), (12, 348, 206, false), (12, 351, 207, false), (12, 354, 208, false), (12, 359, 212, false), (12, 361, 211, false), (12, 364, 215, false), (12, 370, 218, false), (12, 373, 219, false), (12, 376, 220, false), (13, 335, 232, false), (13, 492, 233, false), (13, 495, 235, false), (13, 498, 238, false), (13, 1059, 241, false), (16, 9, 234, false), (20, 9, 64, false), (20, 12, 148, false), (20, 13, 65, false), (20, 17, 150, false), (20, 18, 66, false), (20, 21, 151, false), (20, 22, 67, false), (20, 26, 152, false), (20, 27, 68, false), (20, 31, 153, false), (20, 32, 69, false), (20, 36, 157, false), (20, 37, 70, false), (20, 41, 158, false), (20, 42, 71, false), (20, 45, 160, false), (20, 46, 72, false), (20, 49, 161, false), (20, 50, 73, false), (20, 54, 165, false), (20, 57, 74, false), (20, 61, 167, false), (20, 62, 75, false), (20, 65, 179, false), (20, 66, 76, false), (20, 69, 180, false), (20, 70, 77, false), (20, 73, 184, false), (20, 74, 78, false), (20, 77, 185, false), (20, 78, 79, false), (20, 81, 187, false), (20, 82, 80, false), (20, 85, 188, false), (20, 86, 81, false), (20, 89, 192, false), (20, 90, 82, false), (20, 93, 193, false), (20, 94, 83, false), (20, 97, 194, false), (20, 98, 84, false), (20, 101, 197, false), (20, 102, 85, false), (20, 105, 199, false), (20, 106, 86, false), (20, 109, 201, false), (20, 110, 87, false), (20, 114, 202, false), (20, 115, 88, false), (20, 118, 204, false), (20, 119, 89, false), (20, 122, 205, false), (20, 123, 90, false), (20, 126, 209, false), (20, 127, 91, false), (20, 130, 210, false), (20, 131, 92, false), (20, 134, 213, false), (20, 135, 93, false), (20, 138, 214, false), (20, 139, 94, false), (20, 142, 216, false), (20, 143, 95, false), (20, 146, 217, false), (20, 147, 96, false), (20, 150, 221, false), (20, 151, 97, false), (20, 154, 222, false), (20, 155, 98, false), (20, 158, 223, false), (20, 159, 99, false), (20, 162, 224, false)]
def zMLh : List Nat := [574, 116, 841, 851, 855, 859, 864, 868, 881, 632, 731, 727, 642, 665, 661, 675, 671, 657, 666, 688, 369, 234, 251, 255, 762, 779, 398, 402, 406, 409, 413, 416, 438, 448, 486, 433, 490, 429, 506, 510, 34, 55, 91, 110, 131, 217, 221, 225, 230, 235, 243, 247, 274, 283, 287, 290, 296, 317, 325, 335, 361, 365, 372, 380, 390, 558, 561, 575, 565, 583, 617, 621, 624, 628, 637, 647, 653, 667, 684, 694, 715, 719, 735, 751, 758, 763, 775, 784, 788, 798, 803, 828, 837, 847, 860, 872, 877, 886, 889, 893, 739, 743, 925, 949, 977, 981, 394, 420, 425, 494, 498, 502, 515, 517, 522, 570, 723, 732, 791, 771, 767, 772, 896, 899, 903, 906, 929, 937, 945, 941, 933, 953, 957, 965, 961, 1157, 1153, 1162, 1188, 1193, 1201, 1218, 1223, 1227, 1245, 1249, 1252, 1264, 1241, 1268, 1259, 1273, 1278, 1288, 1255, 1311, 1308, 1315, 1327, 1340, 1344, 1348, 1367, 1363, 1371, 1380, 1389, 1393, 1406, 1428, 1424, 1420, 1441, 1444, 1459, 1470, 1466, 1474, 442, 452, 456, 467, 464, 459, 24, 991, 213, 1149, 239, 1167, 259, 1171, 266, 1175, 270, 1179, 279, 1184, 321, 1197, 329, 1206, 357, 1214, 376, 1231, 386, 1237, 550, 1300, 554, 1304, 578, 1319, 613, 1323, 633, 1332, 643, 1336, 680, 1351, 689, 1355, 711, 1359, 746, 1375, 754, 1383, 780, 1397, 794, 1402, 833, 1410, 843, 1416, 873, 1432, 882, 1436, 909, 1447, 913, 1451, 917, 1455, 921, 1462, 969, 1478, 973, 1482, 985, 1486]
def zOI : List (Nat × Nat) := [(0, 3), (1, 1), (2, 3), (3, 3), (4, 3), (5, 1), (6, 3), (7, 1), (8, 3), (9, 3), (10, 1), (11, 1), (12, 11)]
def zOIh : List Nat := [525, 806, 113, 37, 586, 299, 94, 338, 134, 58, 697, 27, 994]
def zAC : List (Nat × Nat) := [(11, 117)]
def zACh : List Nat := [263]
def zCL : List (Nat × Nat × Nat) := [(2, 9, 1), (3, 9, 5), (11, 9, 8), (11, 15, 3), (11, 22, 7), (11, 28, 9), (11, 35, 0), (11, 41, 4), (11, 47, 6), (11, 54, 10), (11, 67, 2), (11, 140, 5), (11, 307, 1), (20, 7, 11), (20, 10, 12)]
def zCLh : List Nat := [114, 38, 30, 32, 51, 53, 85, 87, 89, 106, 108, 294, 801, 22, 989]
def zKL : List (Nat × Nat × Int) := [(2, 31, -1000003), (2, 36, -1000001), (2, 66, -1000000), (3, 21, -1000003), (6, 22, -1000003), (6, 34, -1000000), (9, 19, -1000003), (9, 57, -1000000), (11, 86, -1000001), (11, 156, -1000003), (11, 200, -1000100), (11, 244, -1000002), (11, 283, 100000), (11, 300, -1000000), (11, 378, 99999), (11, 379, -1000010), (12, 10, -1000010), (12, 117, -1000001), (12, 127, -1000003), (12, 139, -1000000), (12, 247, 99999), (12, 275, -1000100), (12, 292, -1000002), (14, 265, 1431655765), (14, 266, 858993459), (14, 267, 252645135)]
def zKLh : List Nat := [832, 842, 871, 278, 641, 679, 384, 437, 224, 333, 549, 627, 750, 569, 293, 229, 1166, 1161, 1183, 1205, 1272, 1299, 1331, 650, 651, 652]
def zLL : List (Nat × Nat × Nat) := [(9, 20, 255), (12, 105, 7), (12, 115, 2), (12, 122, 99999), (12, 131, 3), (12, 144, 4), (12, 146, 1000), (12, 148, 1999), (12, 150, 10000), (12, 158, 5), (12, 170, 8), (12, 175, 255), (12, 222, 131294707347319), (12, 224, 2002873452), (12, 226, 1919905638), (12, 228, 1685024626), (12, 230, 439905906546), (12, 232, 6385273), (12, 234, 125780002695538), (12, 236, 109299962373989), (12, 238, 125779953284709), (12, 240, 482670636660), (12, 242, 6382452), (12, 251, 444300616805), (12, 260, 478559888754), (12, 262, 474147546227), (12, 264, 1718773093), (12, 318, 100000), (12, 323, 12), (12, 325, 500), (12, 334, 5000), (12, 336, 4095), (12, 344, 11), (12, 346, 9), (12, 357, 100), (20, 55, 4294967295)]
def zLLh : List Nat := [385, 1156, 1160, 1196, 1192, 1210, 1211, 1212, 1213, 1222, 1235, 1236, 1282, 1283, 1284, 1285, 1286, 1287, 1292, 1293, 1294, 1295, 1263, 1277, 1296, 1297, 1298, 1379, 1387, 1388, 1401, 1409, 1414, 1415, 1440, 1490]
def zSL : List (Nat × Nat × Nat) := [(11, 386, 0), (11, 403, 1), (11, 405, 2), (11, 407, 3), (11, 409, 4), (11, 415, 5)]
def zSLh : List Nat := [424, 511, 512, 513, 514, 516]
def zGL : List (Nat × Nat × Nat) := [(13, 38, 0), (13, 1053, 1)]
def zGLh : List Nat := [446, 462]
/-- each row of a table by a test that has its hint -/
theorem zall {α : Type} {L : List α} {hs : List Nat} {f : α → Nat → Bool} (hl : L.length = hs.length) (h : (List.zipWith f L hs).all id = true) : ∀ x ∈ L, ∃ k, f x k = true := by
  induction L generalizing hs with
  | nil => intro x hx; cases hx
  | cons a L ih =>
    cases hs with
    | nil => cases hl
    | cons k hs =>
      simp only [List.zipWith_cons_cons, List.all_cons, Bool.and_eq_true, id] at h
      intro x hx
      rcases List.mem_cons.mp hx with rfl | hx
      · exact ⟨k, h.1⟩
      · exact ih (Nat.succ.inj hl) h.2 x hx
def zFok (e : Nat × Nat × Nat × Bool) (h : Nat) : Bool := match vwCl[e.2.2.1 / 100]? with
  | some (_, T, N) => decide (e.2.2.1 % 100 < N) && (if e.2.2.2 then zinN h (Cond.fieldLinkNest (zO.getD e.1 "") e.2.1 (T (e.2.2.1 % 100)).1 (T (e.2.2.1 % 100)).2.1 (T (e.2.2.1 % 100)).2.2.1 RX11) else zin h (Cond.fieldLink (zO.getD e.1 "") e.2.1 (T (e.2.2.1 % 100)).1 (T (e.2.2.1 % 100)).2.1 (T (e.2.2.1 % 100)).2.2.1))
  | none => !e.2.2.2 && ((e.2.2.1 == 1300 && zin h (Cond.fieldLink (zO.getD e.1 "") e.2.1 RJ0 "value" "[B")) || (e.2.2.1 == 1301 && zin h (Cond.fieldLink (zO.getD e.1 "") e.2.1 RJ0 "coder" "B")))
set_option maxRecDepth 100000 in
theorem zFL_ok : ∀ e ∈ zFL, ∃ k, zFok e k = true := zall (hs := zFLh) (by decide +kernel) (by decide +kernel)
def zMok (e : Nat × Nat × Nat × Bool) (h : Nat) : Bool := match zN[e.2.2.1]? with
  | some y => if e.2.2.2 then zinN h (Cond.methodLinkNest (zO.getD e.1 "") e.2.1 y RX11) else zin h (Cond.methodLink (zO.getD e.1 "") e.2.1 y)
  | none => false
set_option maxRecDepth 100000 in
theorem zML_ok : ∀ e ∈ zML, ∃ k, zMok e k = true := zall (hs := zMLh) (by decide +kernel) (by decide +kernel)
set_option maxRecDepth 100000 in
theorem zOI_ok : ∀ e ∈ zOI, ∃ k, zin k (Cond.methodLink (zO.getD e.1 "") e.2 objectInit) = true := zall (L := zOI) (f := fun e k => zin k (Cond.methodLink (zO.getD e.1 "") e.2 objectInit)) (hs := zOIh) (by decide +kernel) (by decide +kernel)
set_option maxRecDepth 100000 in
theorem zAC_ok : ∀ e ∈ zAC, ∃ k, zin k (Cond.methodLink (zO.getD e.1 "") e.2 arraycopyName) = true := zall (L := zAC) (f := fun e k => zin k (Cond.methodLink (zO.getD e.1 "") e.2 arraycopyName)) (hs := zACh) (by decide +kernel) (by decide +kernel)
def zCok (e : Nat × Nat × Nat) (h : Nat) : Bool := match vwCl[e.2.2]? with
  | some (C, _, _) => zin h (Cond.classLink (zO.getD e.1 "") e.2.1 C)
  | none => false
set_option maxRecDepth 100000 in
theorem zCL_ok : ∀ e ∈ zCL, ∃ k, zCok e k = true := zall (hs := zCLh) (by decide +kernel) (by decide +kernel)
set_option maxRecDepth 100000 in
theorem zKL_ok : ∀ e ∈ zKL, ∃ k, zin k (Cond.constant (zO.getD e.1 "") e.2.1 (Int32.ofInt e.2.2)) = true := zall (L := zKL) (f := fun e k => zin k (Cond.constant (zO.getD e.1 "") e.2.1 (Int32.ofInt e.2.2))) (hs := zKLh) (by decide +kernel) (by decide +kernel)
set_option maxRecDepth 100000 in
theorem zLL_ok : ∀ e ∈ zLL, ∃ k, zin k (Cond.constantLong (zO.getD e.1 "") e.2.1 (Int64.ofNat e.2.2)) = true := zall (L := zLL) (f := fun e k => zin k (Cond.constantLong (zO.getD e.1 "") e.2.1 (Int64.ofNat e.2.2))) (hs := zLLh) (by decide +kernel) (by decide +kernel)
set_option maxRecDepth 100000 in
theorem zSL_ok : ∀ e ∈ zSL, ∃ k : Nat, (decide (tables_1[k]? = some (Cond.stringRef (zO.getD e.1 "") e.2.1 (zS.getD e.2.2 "")))) = true := zall (L := zSL) (f := fun e (k : Nat) => decide (tables_1[k]? = some (Cond.stringRef (zO.getD e.1 "") e.2.1 (zS.getD e.2.2 "")))) (hs := zSLh) (by decide +kernel) (by decide +kernel)
def zGok (e : Nat × Nat × Nat) (h : Nat) : Bool := (e.2.2 == 0 && zin h (Cond.fieldLink (zO.getD e.1 "") e.2.1 RJ0 "COMPACT_STRINGS" "Z")) || (e.2.2 == 1 && zin h (Cond.fieldLink (zO.getD e.1 "") e.2.1 RJ3 "SIOOBE_FORMATTER" "Ljava/util/function/BiFunction;"))
set_option maxRecDepth 100000 in
theorem zGL_ok : ∀ e ∈ zGL, ∃ k, zGok e k = true := zall (hs := zGLh) (by decide +kernel) (by decide +kernel)
theorem zw_oi : Cond.instanceMethod objectInit ∈ zG := zin_G (k := 28) (by decide +kernel)
theorem zw_oc : Cond.code objectInit ⟨#[0xb1]⟩ 1 none ∈ zG := zin_G (k := 29) (by decide +kernel)
theorem zw_an : Cond.native arraycopyName ∈ zG := zin_G (k := 265) (by decide +kernel)
theorem zw_as : Cond.static arraycopyName ∈ zG := zin_G (k := 264) (by decide +kernel)
theorem zw_ai : Cond.initialized "java/lang/System" ∈ zG := zin_G (k := 9) (by decide +kernel)
theorem zw_ins0 : Cond.instantiable RX0 6 ∈ zG := zin_G (k := 521) (by decide +kernel)
theorem zw_ini0 : Cond.initialized RX0 ∈ zG := zin_G (k := 16) (by decide +kernel)
set_option maxRecDepth 100000 in
theorem zw_fld0 : ∀ w ∈ u_ws RX0 TX0 6, w ∈ zG := fun w hw => by
  obtain ⟨k, hk⟩ := zall (L := u_ws RX0 TX0 6) (hs := [535, 537, 539, 541, 543, 545]) (f := fun w k => zin k w) (by decide +kernel) (by decide +kernel) w hw
  exact zin_G hk
theorem zw_ins1 : Cond.instantiable RX1 5 ∈ zG := zin_G (k := 802) (by decide +kernel)
theorem zw_ini1 : Cond.initialized RX1 ∈ zG := zin_G (k := 21) (by decide +kernel)
set_option maxRecDepth 100000 in
theorem zw_fld1 : ∀ w ∈ u_ws RX1 TX1 5, w ∈ zG := fun w hw => by
  obtain ⟨k, hk⟩ := zall (L := u_ws RX1 TX1 5) (hs := [817, 819, 821, 823, 825]) (f := fun w k => zin k w) (by decide +kernel) (by decide +kernel) w hw
  exact zin_G hk
theorem zw_ins2 : Cond.instantiable RX2 3 ∈ zG := zin_G (k := 109) (by decide +kernel)
theorem zw_ini2 : Cond.initialized RX2 ∈ zG := zin_G (k := 5) (by decide +kernel)
set_option maxRecDepth 100000 in
theorem zw_fld2 : ∀ w ∈ u_ws RX2 TX2 3, w ∈ zG := fun w hw => by
  obtain ⟨k, hk⟩ := zall (L := u_ws RX2 TX2 3) (hs := [123, 125, 127]) (f := fun w k => zin k w) (by decide +kernel) (by decide +kernel) w hw
  exact zin_G hk
theorem zw_ins3 : Cond.instantiable RX3 3 ∈ zG := zin_G (k := 33) (by decide +kernel)
theorem zw_ini3 : Cond.initialized RX3 ∈ zG := zin_G (k := 2) (by decide +kernel)
set_option maxRecDepth 100000 in
theorem zw_fld3 : ∀ w ∈ u_ws RX3 TX3 3, w ∈ zG := fun w hw => by
  obtain ⟨k, hk⟩ := zall (L := u_ws RX3 TX3 3) (hs := [44, 46, 48]) (f := fun w k => zin k w) (by decide +kernel) (by decide +kernel) w hw
  exact zin_G hk
theorem zw_ins4 : Cond.instantiable RX4 7 ∈ zG := zin_G (k := 582) (by decide +kernel)
theorem zw_ini4 : Cond.initialized RX4 ∈ zG := zin_G (k := 17) (by decide +kernel)
set_option maxRecDepth 100000 in
theorem zw_fld4 : ∀ w ∈ u_ws RX4 TX4 7, w ∈ zG := fun w hw => by
  obtain ⟨k, hk⟩ := zall (L := u_ws RX4 TX4 7) (hs := [598, 600, 602, 604, 606, 608, 610]) (f := fun w k => zin k w) (by decide +kernel) (by decide +kernel) w hw
  exact zin_G hk
theorem zw_ins5 : Cond.instantiable RX5 4 ∈ zG := zin_G (k := 295) (by decide +kernel)
theorem zw_ini5 : Cond.initialized RX5 ∈ zG := zin_G (k := 10) (by decide +kernel)
set_option maxRecDepth 100000 in
theorem zw_fld5 : ∀ w ∈ u_ws RX5 TX5 4, w ∈ zG := fun w hw => by
  obtain ⟨k, hk⟩ := zall (L := u_ws RX5 TX5 4) (hs := [308, 310, 312, 314]) (f := fun w k => zin k w) (by decide +kernel) (by decide +kernel) w hw
  exact zin_G hk
theorem zw_ins6 : Cond.instantiable RX6 3 ∈ zG := zin_G (k := 90) (by decide +kernel)
theorem zw_ini6 : Cond.initialized RX6 ∈ zG := zin_G (k := 4) (by decide +kernel)
set_option maxRecDepth 100000 in
theorem zw_fld6 : ∀ w ∈ u_ws RX6 TX6 3, w ∈ zG := fun w hw => by
  obtain ⟨k, hk⟩ := zall (L := u_ws RX6 TX6 3) (hs := [98, 100, 102]) (f := fun w k => zin k w) (by decide +kernel) (by decide +kernel) w hw
  exact zin_G hk
theorem zw_ins7 : Cond.instantiable RX7 4 ∈ zG := zin_G (k := 334) (by decide +kernel)
theorem zw_ini7 : Cond.initialized RX7 ∈ zG := zin_G (k := 11) (by decide +kernel)
set_option maxRecDepth 100000 in
theorem zw_fld7 : ∀ w ∈ u_ws RX7 TX7 4, w ∈ zG := fun w hw => by
  obtain ⟨k, hk⟩ := zall (L := u_ws RX7 TX7 4) (hs := [348, 350, 352, 354]) (f := fun w k => zin k w) (by decide +kernel) (by decide +kernel) w hw
  exact zin_G hk
theorem zw_ins8 : Cond.instantiable RX8 4 ∈ zG := zin_G (k := 130) (by decide +kernel)
theorem zw_ini8 : Cond.initialized RX8 ∈ zG := zin_G (k := 7) (by decide +kernel)
set_option maxRecDepth 100000 in
theorem zw_fld8 : ∀ w ∈ u_ws RX8 TX8 4, w ∈ zG := fun w hw => by
  obtain ⟨k, hk⟩ := zall (L := u_ws RX8 TX8 4) (hs := [143, 145, 147, 149]) (f := fun w k => zin k w) (by decide +kernel) (by decide +kernel) w hw
  exact zin_G hk
theorem zw_ins9 : Cond.instantiable RX9 7 ∈ zG := zin_G (k := 54) (by decide +kernel)
theorem zw_ini9 : Cond.initialized RX9 ∈ zG := zin_G (k := 3) (by decide +kernel)
set_option maxRecDepth 100000 in
theorem zw_fld9 : ∀ w ∈ u_ws RX9 TX9 7, w ∈ zG := fun w hw => by
  obtain ⟨k, hk⟩ := zall (L := u_ws RX9 TX9 7) (hs := [69, 71, 73, 75, 77, 79, 81]) (f := fun w k => zin k w) (by decide +kernel) (by decide +kernel) w hw
  exact zin_G hk
theorem zw_ins10 : Cond.instantiable RX10 3 ∈ zG := zin_G (k := 693) (by decide +kernel)
theorem zw_ini10 : Cond.initialized RX10 ∈ zG := zin_G (k := 19) (by decide +kernel)
set_option maxRecDepth 100000 in
theorem zw_fld10 : ∀ w ∈ u_ws RX10 TX10 3, w ∈ zG := fun w hw => by
  obtain ⟨k, hk⟩ := zall (L := u_ws RX10 TX10 3) (hs := [704, 706, 708]) (f := fun w k => zin k w) (by decide +kernel) (by decide +kernel) w hw
  exact zin_G hk
theorem zw_ins11 : Cond.instantiable RX11 20 ∈ zG := zin_G (k := 23) (by decide +kernel)
theorem zw_ini11 : Cond.initialized RX11 ∈ zG := zin_G (k := 1) (by decide +kernel)
set_option maxRecDepth 100000 in
theorem zw_fld11 : ∀ w ∈ u_ws RX11 TX11 20, w ∈ zG := fun w hw => by
  obtain ⟨k, hk⟩ := zall (L := u_ws RX11 TX11 20) (hs := [172, 174, 176, 178, 180, 182, 184, 186, 188, 190, 192, 194, 196, 198, 200, 202, 204, 206, 208, 210]) (f := fun w k => zin k w) (by decide +kernel) (by decide +kernel) w hw
  exact zin_G hk
theorem zw_ins12 : Cond.instantiable RX12 51 ∈ zG := zin_G (k := 990) (by decide +kernel)
theorem zw_ini12 : Cond.initialized RX12 ∈ zG := zin_G (k := 8) (by decide +kernel)
set_option maxRecDepth 100000 in
theorem zw_fld12 : ∀ w ∈ u_ws RX12 TX12 51, w ∈ zG := fun w hw => by
  obtain ⟨k, hk⟩ := zall (L := u_ws RX12 TX12 51) (hs := [1046, 1048, 1050, 1052, 1054, 1056, 1058, 1060, 1062, 1064, 1066, 1068, 1070, 1072, 1074, 1076, 1078, 1080, 1082, 1084, 1086, 1088, 1090, 1092, 1094, 1096, 1098, 1100, 1102, 1104, 1106, 1108, 1110, 1112, 1114, 1116, 1118, 1120, 1122, 1124, 1126, 1128, 1130, 1132, 1134, 1136, 1138, 1140, 1142, 1144, 1146]) (f := fun w k => zin k w) (by decide +kernel) (by decide +kernel) w hw
  exact zin_G hk
/-- methods, by number: what a call wants of the tables -/
def zinL (k : Nat) (w : Cond) : Bool := decide (lw_tbl[k]? = some w) && goodWord w
theorem zinL_G {k : Nat} {w : Cond} (h : zinL k w = true) : w ∈ zG := by
  simp only [zinL, Bool.and_eq_true, decide_eq_true_eq] at h
  exact List.mem_filter.mpr ⟨List.mem_of_getElem? h.1, h.2⟩
def zMh : List (Nat × Nat × Nat) := [(16, 523, 0), (16, 572, 35), (21, 804, 0), (5, 111, 0), (5, 830, 57), (5, 839, 58), (5, 853, 60), (5, 849, 59), (5, 857, 61), (5, 862, 62), (5, 866, 63), (5, 869, 0), (5, 879, 64), (2, 35, 0), (2, 285, 9), (2, 276, 8), (2, 319, 10), (2, 327, 11), (17, 584, 0), (17, 630, 37), (17, 729, 49), (17, 725, 48), (10, 297, 0), (4, 92, 0), (4, 639, 38), (4, 663, 41), (4, 677, 44), (4, 673, 43), (4, 669, 42), (4, 655, 39), (4, 659, 40), (4, 686, 45), (11, 336, 0), (11, 367, 13), (7, 132, 0), (7, 232, 2), (7, 245, 4), (7, 257, 7), (7, 249, 5), (7, 253, 6), (7, 760, 52), (7, 777, 55), (7, 891, 65), (7, 901, 66), (3, 56, 0), (3, 382, 15), (3, 396, 17), (3, 422, 22), (3, 404, 19), (3, 407, 0), (3, 414, 0), (3, 400, 18), (3, 411, 20), (3, 418, 21), (3, 492, 27), (3, 435, 25), (3, 488, 26), (3, 431, 24), (3, 500, 29), (3, 427, 23), (3, 504, 30), (3, 508, 31), (3, 519, 32), (19, 695, 0), (1, 25, 0), (1, 214, 326), (1, 240, 352), (1, 260, 372), (1, 267, 379), (1, 271, 383), (1, 280, 392), (1, 322, 434), (1, 330, 442), (1, 358, 470), (1, 377, 489), (1, 387, 499), (1, 551, 663), (1, 555, 667), (1, 579, 691), (1, 614, 726), (1, 634, 746), (1, 644, 756), (1, 681, 793), (1, 690, 802), (1, 712, 824), (1, 747, 859), (1, 755, 867), (1, 781, 893), (1, 795, 907), (1, 834, 946), (1, 844, 956), (1, 874, 986), (1, 883, 995), (1, 910, 1022), (1, 914, 1026), (1, 918, 1030), (1, 922, 1034), (1, 970, 1082), (1, 974, 1086), (1, 986, 1098), (1, 222, 0), (1, 291, 0), (1, 288, 0), (1, 559, 0), (1, 622, 0), (1, 799, 0), (1, 887, 0), (1, 625, 0), (1, 576, 0), (1, 370, 0), (1, 219, 0), (1, 363, 12), (1, 619, 36), (1, 717, 46), (1, 227, 1), (1, 237, 3), (1, 374, 14), (1, 741, 51), (1, 744, 0), (1, 983, 79), (1, 979, 78), (1, 392, 16), (1, 496, 28), (1, 567, 34), (1, 563, 33), (1, 721, 47), (1, 737, 50), (1, 752, 0), (1, 789, 0), (1, 769, 54), (1, 773, 0), (1, 765, 53), (1, 786, 56), (1, 894, 0), (1, 904, 0), (1, 935, 69), (1, 927, 67), (1, 943, 71), (1, 939, 70), (1, 931, 68), (1, 947, 72), (1, 951, 73), (1, 963, 76), (1, 959, 75), (1, 955, 74), (1, 967, 77), (8, 1158, 0), (8, 1164, 80), (8, 992, 0), (8, 1154, 0), (8, 1150, 1262), (8, 1168, 1280), (8, 1172, 1284), (8, 1176, 1288), (8, 1391, 103), (8, 1194, 0), (8, 1190, 81), (8, 1180, 1292), (8, 1185, 1297), (8, 1203, 82), (8, 1198, 1310), (8, 1207, 1319), (8, 1220, 83), (8, 1225, 84), (8, 1229, 85), (8, 1215, 1327), (8, 1373, 102), (8, 1232, 1344), (8, 1247, 87), (8, 1250, 0), (8, 1253, 0), (8, 1243, 86), (8, 1266, 90), (8, 1270, 91), (8, 1261, 89), (8, 1275, 92), (8, 1280, 93), (8, 1290, 94), (8, 1257, 88), (8, 1238, 1350), (8, 1301, 1413), (8, 1313, 95), (8, 1309, 0), (8, 1317, 96), (8, 1305, 1417), (8, 1320, 1432), (8, 1329, 97), (8, 1324, 1436), (8, 1333, 1445), (8, 1346, 99), (8, 1349, 0), (8, 1342, 98), (8, 1337, 1449), (8, 1352, 1464), (8, 1356, 1468), (8, 1369, 101), (8, 1365, 100), (8, 1360, 1472), (8, 1381, 0), (8, 1376, 1488), (8, 1395, 104), (8, 1384, 1496), (8, 1398, 1510), (8, 1407, 0), (8, 1403, 1515), (8, 1411, 1523), (8, 1430, 107), (8, 1426, 106), (8, 1422, 105), (8, 1417, 1529), (8, 1433, 1545), (8, 1445, 0), (8, 1442, 0), (8, 1437, 1549), (8, 1448, 1560), (8, 1460, 0), (8, 1452, 1564), (8, 1456, 1568), (8, 1472, 109), (8, 1468, 108), (8, 1476, 110), (8, 1463, 1575), (8, 1479, 1591), (8, 1483, 1595), (8, 1487, 1599), (18, 648, 0), (20, 907, 0), (20, 897, 0), (20, 792, 0), (20, 733, 0), (12, 439, 551), (12, 449, 561), (12, 443, 555), (12, 453, 565), (12, 460, 0), (13, 457, 0), (15, 478, 0), (15, 474, 0), (15, 468, 0), (15, 471, 0), (6, 117, 0), (14, 465, 0)]
def zYok (n : Nat) (h : Nat × Nat × Nat) : Bool := match zN[n]?, zM[n]? with
  | some y, some (k, np, _) => zin h.1 (Cond.initialized y.cls) && decide (y.cls ≠ "java/lang/invoke/MethodHandle") && decide (y.cls ≠ "java/lang/invoke/VarHandle") && decide ((parseMethodDescriptor y.desc).map (fun d => d.parameters.length) = some np) && decide (zO[zOw.getD n 0]? = some y.cls) &&
    (if k = 99 then zin h.2.1 (Cond.static y) else zin h.2.1 (Cond.instanceMethod y) && (decide (y.name = "<init>") || (decide (zO[k]? = some y.cls) && zinL h.2.2 (Cond.selects y.cls y y))))
  | _, _ => false
set_option maxRecDepth 100000 in
theorem zY_ok : ((List.range 242).all fun n => zYok n (zMh.getD n (0, 0, 0))) = true := by decide +kernel
set_option maxRecDepth 100000 in
theorem zpl_J9_floorDiv_7cf53 : plainFor yJ9_floorDiv_7cf53 = true := by decide +kernel
set_option maxRecDepth 100000 in
theorem zpl_J9_abs_0f7a4 : plainFor yJ9_abs_0f7a4 = true := by decide +kernel
set_option maxRecDepth 100000 in
theorem zpl_J9_max_7cf53 : plainFor yJ9_max_7cf53 = true := by decide +kernel
set_option maxRecDepth 100000 in
theorem zpl_J9_min_7cf53 : plainFor yJ9_min_7cf53 = true := by decide +kernel
set_option maxRecDepth 100000 in
theorem zpl_all : ((List.range 242).all fun n => decide (n = 226 ∨ n = 227 ∨ n = 228 ∨ n = 229) || plainName (zN.getD n objectInit).cls) = true := by decide +kernel
theorem zpl (n : Nat) (hn : n < 242) : plainFor (zN.getD n objectInit) = true := by
  have h := List.all_eq_true.mp zpl_all n (List.mem_range.mpr hn)
  simp only [Bool.or_eq_true, decide_eq_true_eq] at h
  rcases h with (h | h | h | h) | h
  · subst h; exact zpl_J9_floorDiv_7cf53
  · subst h; exact zpl_J9_abs_0f7a4
  · subst h; exact zpl_J9_max_7cf53
  · subst h; exact zpl_J9_min_7cf53
  · exact plainFor_of_name h
def zch : List Nat := [524, 573, 805, 112, 831, 840, 854, 850, 858, 863, 867, 870, 880, 36, 286, 277, 320, 328, 585, 631, 730, 726, 298, 93, 640, 664, 678, 674, 670, 656, 660, 687, 337, 368, 133, 233, 246, 258, 250, 254, 761, 778, 892, 902, 57, 383, 397, 423, 405, 408, 415, 401, 412, 419, 493, 436, 489, 432, 501, 428, 505, 509, 520, 696, 26, 216, 242, 262, 269, 273, 282, 324, 332, 360, 379, 389, 553, 557, 581, 616, 636, 646, 683, 692, 714, 749, 757, 783, 797, 836, 846, 876, 885, 912, 916, 920, 924, 972, 976, 988, 223, 292, 289, 560, 623, 800, 888, 626, 577, 371, 220, 364, 620, 718, 228, 238, 375, 742, 745, 984, 980, 393, 497, 568, 564, 722, 738, 753, 790, 770, 774, 766, 787, 895, 905, 936, 928, 944, 940, 932, 948, 952, 964, 960, 956, 968, 1159, 1165, 993, 1155, 1152, 1170, 1174, 1178, 1392, 1195, 1191, 1182, 1187, 1204, 1200, 1209, 1221, 1226, 1230, 1217, 1374, 1234, 1248, 1251, 1254, 1244, 1267, 1271, 1262, 1276, 1281, 1291, 1258, 1240, 1303, 1314, 1310, 1318, 1307, 1322, 1330, 1326, 1335, 1347, 1350, 1343, 1339, 1354, 1358, 1370, 1366, 1362, 1382, 1378, 1396, 1386, 1400, 1408, 1405, 1413, 1431, 1427, 1423, 1419, 1435, 1446, 1443, 1439, 1450, 1461, 1454, 1458, 1473, 1469, 1477, 1465, 1481, 1485, 1489, 649, 908, 898, 793, 734, 441, 451, 445, 455, 461, 458, 479, 475, 469, 472, 118, 466]
def zcw (n : Nat) : Cond := Cond.code (zN.getD n objectInit) (zCd.getD n ⟨#[]⟩) (zM.getD n (0, 0, 0)).2.2 (zQ.getD n none)
set_option maxRecDepth 100000 in
theorem zcw_ok0 : (List.range' 0 22).map (fun n => some (zcw n)) = ((zch.drop 0).take 22).map (fun k => tables_1[k]?) := by rfl
set_option maxRecDepth 100000 in
theorem zcw_ok22 : (List.range' 22 22).map (fun n => some (zcw n)) = ((zch.drop 22).take 22).map (fun k => tables_1[k]?) := by rfl
set_option maxRecDepth 100000 in
theorem zcw_ok44 : (List.range' 44 22).map (fun n => some (zcw n)) = ((zch.drop 44).take 22).map (fun k => tables_1[k]?) := by rfl
set_option maxRecDepth 100000 in
theorem zcw_ok66 : (List.range' 66 22).map (fun n => some (zcw n)) = ((zch.drop 66).take 22).map (fun k => tables_1[k]?) := by rfl
set_option maxRecDepth 100000 in
theorem zcw_ok88 : (List.range' 88 22).map (fun n => some (zcw n)) = ((zch.drop 88).take 22).map (fun k => tables_1[k]?) := by rfl
set_option maxRecDepth 100000 in
theorem zcw_ok110 : (List.range' 110 22).map (fun n => some (zcw n)) = ((zch.drop 110).take 22).map (fun k => tables_1[k]?) := by rfl
set_option maxRecDepth 100000 in
theorem zcw_ok132 : (List.range' 132 22).map (fun n => some (zcw n)) = ((zch.drop 132).take 22).map (fun k => tables_1[k]?) := by rfl
set_option maxRecDepth 100000 in
theorem zcw_ok154 : (List.range' 154 22).map (fun n => some (zcw n)) = ((zch.drop 154).take 22).map (fun k => tables_1[k]?) := by rfl
set_option maxRecDepth 100000 in
theorem zcw_ok176 : (List.range' 176 22).map (fun n => some (zcw n)) = ((zch.drop 176).take 22).map (fun k => tables_1[k]?) := by rfl
set_option maxRecDepth 100000 in
theorem zcw_ok198 : (List.range' 198 22).map (fun n => some (zcw n)) = ((zch.drop 198).take 22).map (fun k => tables_1[k]?) := by rfl
set_option maxRecDepth 100000 in
theorem zcw_ok220 : (List.range' 220 22).map (fun n => some (zcw n)) = ((zch.drop 220).take 22).map (fun k => tables_1[k]?) := by rfl
