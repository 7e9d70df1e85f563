/-! THE LAW'S WORDS among the tables' -/
set_option maxRecDepth 20000 in
theorem lw0_1 : ∀ w ∈ wsL_law0_r1, w ∈ lw_tbl := fun w h => (goodIn_p wsL_law0_r1 [85, 88] (by decide +kernel) (by decide +kernel) w h).1
set_option maxRecDepth 20000 in
theorem lw0_2 : ∀ w ∈ wsL_law0_r2, w ∈ lw_tbl := fun w h => (goodIn_p wsL_law0_r2 [93] (by decide +kernel) (by decide +kernel) w h).1
set_option maxRecDepth 20000 in
theorem lw0_3 : ∀ w ∈ wsL_law0_r3, w ∈ lw_tbl := fun w h => (goodIn_p wsL_law0_r3 [99, 113, 188, 255] (by decide +kernel) (by decide +kernel) w h).1
set_option maxRecDepth 20000 in
theorem lw0_4 : ∀ w ∈ wsL_law0_r4, w ∈ lw_tbl := fun w h => (goodIn_p wsL_law0_r4 [275, 1143] (by decide +kernel) (by decide +kernel) w h).1
set_option maxRecDepth 20000 in
theorem lw0_5 : ∀ w ∈ wsL_law0_r5, w ∈ lw_tbl := fun w h => (goodIn_p wsL_law0_r5 [450, 453, 456, 459] (by decide +kernel) (by decide +kernel) w h).1
set_option maxRecDepth 20000 in
theorem lw0_6 : ∀ w ∈ wsL_law0_r6, w ∈ lw_tbl := fun w h => (goodIn_p wsL_law0_r6 [475, 495, 340, 344] (by decide +kernel) (by decide +kernel) w h).1
set_option maxRecDepth 20000 in
theorem lw0_7 : ∀ w ∈ wsL_law0_r7, w ∈ lw_tbl := fun w h => (goodIn_p wsL_law0_r7 [351, 356] (by decide +kernel) (by decide +kernel) w h).1
set_option maxRecDepth 20000 in
theorem lw0_8 : ∀ w ∈ wsL_law0_r8, w ∈ lw_tbl := fun w h => (goodIn_p wsL_law0_r8 [360, 499, 504] (by decide +kernel) (by decide +kernel) w h).1
set_option maxRecDepth 20000 in
theorem lw0_9 : ∀ w ∈ wsL_law0_r9, w ∈ lw_tbl := fun w h => (goodIn_p wsL_law0_r9 [508, 512, 516, 520, 524, 528, 531] (by decide +kernel) (by decide +kernel) w h).1
set_option maxRecDepth 20000 in
theorem lw0_10 : ∀ w ∈ wsL_law0_r10, w ∈ lw_tbl := fun w h => (goodIn_p wsL_law0_r10 [534, 555, 1424, 1427, 1211] (by decide +kernel) (by decide +kernel) w h).1
set_option maxRecDepth 20000 in
theorem lw0_11 : ∀ w ∈ wsL_law0_r11, w ∈ lw_tbl := fun w h => (goodIn_p wsL_law0_r11 [1207, 1431, 1226, 1279, 1283, 1254] (by decide +kernel) (by decide +kernel) w h).1
set_option maxRecDepth 20000 in
theorem lw0_12 : ∀ w ∈ wsL_law0_r12, w ∈ lw_tbl := fun w h => (goodIn_p wsL_law0_r12 [1258, 1261, 1264, 1268, 1271, 1286, 1289] (by decide +kernel) (by decide +kernel) w h).1
set_option maxRecDepth 20000 in
theorem lw0_13 : ∀ w ∈ wsL_law0_r13, w ∈ lw_tbl := fun w h => (goodIn_p wsL_law0_r13 [1200, 562, 1435, 569] (by decide +kernel) (by decide +kernel) w h).1
set_option maxRecDepth 20000 in
theorem lw0_14 : ∀ w ∈ wsL_law0_r14, w ∈ lw_tbl := fun w h => (goodIn_p wsL_law0_r14 [574, 578, 1439, 1320, 587] (by decide +kernel) (by decide +kernel) w h).1
set_option maxRecDepth 20000 in
theorem lw0_15 : ∀ w ∈ wsL_law0_r15, w ∈ lw_tbl := fun w h => (goodIn_p wsL_law0_r15 [591, 596, 1443, 1412, 603, 607] (by decide +kernel) (by decide +kernel) w h).1
set_option maxRecDepth 20000 in
theorem lw0_16 : ∀ w ∈ wsL_law0_r16, w ∈ lw_tbl := fun w h => (goodIn_p wsL_law0_r16 [1447, 614, 1451, 621] (by decide +kernel) (by decide +kernel) w h).1
set_option maxRecDepth 20000 in
theorem lw0_17 : ∀ w ∈ wsL_law0_r17, w ∈ lw_tbl := fun w h => (goodIn_p wsL_law0_r17 [1455, 628, 1459, 1332] (by decide +kernel) (by decide +kernel) w h).1
set_option maxRecDepth 20000 in
theorem lw0_18 : ∀ w ∈ wsL_law0_r18, w ∈ lw_tbl := fun w h => (goodIn_p wsL_law0_r18 [637, 641, 646, 1463, 1467] (by decide +kernel) (by decide +kernel) w h).1
set_option maxRecDepth 20000 in
theorem lw0_19 : ∀ w ∈ wsL_law0_r19, w ∈ lw_tbl := fun w h => (goodIn_p wsL_law0_r19 [1238, 653, 657, 1471] (by decide +kernel) (by decide +kernel) w h).1
set_option maxRecDepth 20000 in
theorem lw0_20 : ∀ w ∈ wsL_law0_r20, w ∈ lw_tbl := fun w h => (goodIn_p wsL_law0_r20 [664, 668, 1475, 675, 1479] (by decide +kernel) (by decide +kernel) w h).1
set_option maxRecDepth 20000 in
theorem lw0_21 : ∀ w ∈ wsL_law0_r21, w ∈ lw_tbl := fun w h => (goodIn_p wsL_law0_r21 [1482, 687, 691, 695, 699] (by decide +kernel) (by decide +kernel) w h).1
set_option maxRecDepth 20000 in
theorem lw0_22 : ∀ w ∈ wsL_law0_r22, w ∈ lw_tbl := fun w h => (goodIn_p wsL_law0_r22 [703, 707, 711, 715, 719] (by decide +kernel) (by decide +kernel) w h).1
set_option maxRecDepth 20000 in
theorem lw0_23 : ∀ w ∈ wsL_law0_r23, w ∈ lw_tbl := fun w h => (goodIn_p wsL_law0_r23 [722, 726, 731, 736, 740] (by decide +kernel) (by decide +kernel) w h).1
set_option maxRecDepth 20000 in
theorem lw0_24 : ∀ w ∈ wsL_law0_r24, w ∈ lw_tbl := fun w h => (goodIn_p wsL_law0_r24 [744, 748, 752, 756, 760, 764] (by decide +kernel) (by decide +kernel) w h).1
set_option maxRecDepth 20000 in
theorem lw0_25 : ∀ w ∈ wsL_law0_r25, w ∈ lw_tbl := fun w h => (goodIn_p wsL_law0_r25 [768, 772, 776, 780, 784] (by decide +kernel) (by decide +kernel) w h).1
set_option maxRecDepth 20000 in
theorem lw0_26 : ∀ w ∈ wsL_law0_r26, w ∈ lw_tbl := fun w h => (goodIn_p wsL_law0_r26 [789, 793, 796, 801, 805, 809] (by decide +kernel) (by decide +kernel) w h).1
set_option maxRecDepth 20000 in
theorem lw0_27 : ∀ w ∈ wsL_law0_r27, w ∈ lw_tbl := fun w h => (goodIn_p wsL_law0_r27 [813, 817, 821, 825, 829, 833] (by decide +kernel) (by decide +kernel) w h).1
set_option maxRecDepth 20000 in
theorem lw0_28 : ∀ w ∈ wsL_law0_r28, w ∈ lw_tbl := fun w h => (goodIn_p wsL_law0_r28 [837, 842, 846, 850, 1204] (by decide +kernel) (by decide +kernel) w h).1
set_option maxRecDepth 20000 in
theorem lw0_29 : ∀ w ∈ wsL_law0_r29, w ∈ lw_tbl := fun w h => (goodIn_p wsL_law0_r29 [1215, 1218, 1222, 1230, 1234, 1242] (by decide +kernel) (by decide +kernel) w h).1
set_option maxRecDepth 20000 in
theorem lw0_30 : ∀ w ∈ wsL_law0_r30, w ∈ lw_tbl := fun w h => (goodIn_p wsL_law0_r30 [1246, 1250, 1275, 1293, 1297, 1301] (by decide +kernel) (by decide +kernel) w h).1
set_option maxRecDepth 20000 in
theorem lw0_31 : ∀ w ∈ wsL_law0_r31, w ∈ lw_tbl := fun w h => (goodIn_p wsL_law0_r31 [1305, 1309, 1313, 1316, 1324, 1328] (by decide +kernel) (by decide +kernel) w h).1
set_option maxRecDepth 20000 in
theorem lw0_32 : ∀ w ∈ wsL_law0_r32, w ∈ lw_tbl := fun w h => (goodIn_p wsL_law0_r32 [1336, 1340, 1344, 1348, 1352, 1356] (by decide +kernel) (by decide +kernel) w h).1
set_option maxRecDepth 20000 in
theorem lw0_33 : ∀ w ∈ wsL_law0_r33, w ∈ lw_tbl := fun w h => (goodIn_p wsL_law0_r33 [1360, 1364, 1368, 1372, 1376, 1380] (by decide +kernel) (by decide +kernel) w h).1
set_option maxRecDepth 20000 in
theorem lw0_34 : ∀ w ∈ wsL_law0_r34, w ∈ lw_tbl := fun w h => (goodIn_p wsL_law0_r34 [1384, 1388, 1392, 1396, 1400, 1404] (by decide +kernel) (by decide +kernel) w h).1
set_option maxRecDepth 20000 in
theorem lw0_35 : ∀ w ∈ wsL_law0_r35, w ∈ lw_tbl := fun w h => (goodIn_p wsL_law0_r35 [858, 1408, 882, 887] (by decide +kernel) (by decide +kernel) w h).1
set_option maxRecDepth 20000 in
theorem lw0_36 : ∀ w ∈ wsL_law0_r36, w ∈ lw_tbl := fun w h => (goodIn_p wsL_law0_r36 [1416, 328, 1420, 894] (by decide +kernel) (by decide +kernel) w h).1
set_option maxRecDepth 20000 in
theorem lw0_37 : ∀ w ∈ wsL_law0_r37, w ∈ lw_tbl := fun w h => (goodIn_p wsL_law0_r37 [1486, 902, 1490, 1494, 909] (by decide +kernel) (by decide +kernel) w h).1
set_option maxRecDepth 20000 in
theorem lw0_38 : ∀ w ∈ wsL_law0_r38, w ∈ lw_tbl := fun w h => (goodIn_p wsL_law0_r38 [1498, 917, 1502, 924] (by decide +kernel) (by decide +kernel) w h).1
set_option maxRecDepth 20000 in
theorem lw0_39 : ∀ w ∈ wsL_law0_r39, w ∈ lw_tbl := fun w h => (goodIn_p wsL_law0_r39 [1506, 932, 1510, 939] (by decide +kernel) (by decide +kernel) w h).1
set_option maxRecDepth 20000 in
theorem lw0_40 : ∀ w ∈ wsL_law0_r40, w ∈ lw_tbl := fun w h => (goodIn_p wsL_law0_r40 [943, 948, 1514, 956, 960] (by decide +kernel) (by decide +kernel) w h).1
set_option maxRecDepth 20000 in
theorem lw0_41 : ∀ w ∈ wsL_law0_r41, w ∈ lw_tbl := fun w h => (goodIn_p wsL_law0_r41 [1518, 1522, 968, 1526, 975] (by decide +kernel) (by decide +kernel) w h).1
set_option maxRecDepth 20000 in
theorem lw0_42 : ∀ w ∈ wsL_law0_r42, w ∈ lw_tbl := fun w h => (goodIn_p wsL_law0_r42 [1530, 983, 1534] (by decide +kernel) (by decide +kernel) w h).1
set_option maxRecDepth 20000 in
theorem lw0_43 : ∀ w ∈ wsL_law0_r43, w ∈ lw_tbl := fun w h => (goodIn_p wsL_law0_r43 [1004, 1538, 1014, 1018, 1542] (by decide +kernel) (by decide +kernel) w h).1
set_option maxRecDepth 20000 in
theorem lw0_44 : ∀ w ∈ wsL_law0_r44, w ∈ lw_tbl := fun w h => (goodIn_p wsL_law0_r44 [1026, 1030, 1034, 1038, 1042] (by decide +kernel) (by decide +kernel) w h).1
set_option maxRecDepth 20000 in
theorem lw0_45 : ∀ w ∈ wsL_law0_r45, w ∈ lw_tbl := fun w h => (goodIn_p wsL_law0_r45 [1046, 1050, 1056, 1060, 1063] (by decide +kernel) (by decide +kernel) w h).1
set_option maxRecDepth 20000 in
theorem lw0_46 : ∀ w ∈ wsL_law0_r46, w ∈ lw_tbl := fun w h => (goodIn_p wsL_law0_r46 [1066, 1071, 1074, 1077, 1080, 1084] (by decide +kernel) (by decide +kernel) w h).1
set_option maxRecDepth 20000 in
theorem lw0_47 : ∀ w ∈ wsL_law0_r47, w ∈ lw_tbl := fun w h => (goodIn_p wsL_law0_r47 [1546, 1550, 1553, 1100] (by decide +kernel) (by decide +kernel) w h).1
set_option maxRecDepth 20000 in
theorem lw0_48 : ∀ w ∈ wsL_law0_r48, w ∈ lw_tbl := fun w h => (goodIn_p wsL_law0_r48 [1104, 1107, 1112, 1557, 1561] (by decide +kernel) (by decide +kernel) w h).1
set_option maxRecDepth 20000 in
theorem lw0_49 : ∀ w ∈ wsL_law0_r49, w ∈ lw_tbl := fun w h => (goodIn_p wsL_law0_r49 [1564, 1568, 332, 1572, 336, 1576] (by decide +kernel) (by decide +kernel) w h).1
set_option maxRecDepth 20000 in
theorem lw0_50 : ∀ w ∈ wsL_law0_r50, w ∈ lw_tbl := fun w h => (goodIn_p wsL_law0_r50 [1137, 1580] (by decide +kernel) (by decide +kernel) w h).1
set_option maxRecDepth 20000 in
theorem lw0_X6 : ∀ w ∈ wsX60, w ∈ lw_tbl := fun w h => (goodIn_of wsX60 (by decide +kernel) w h).1
set_option maxRecDepth 20000 in
theorem lw0_X7 : ∀ w ∈ wsX70, w ∈ lw_tbl := fun w h => (goodIn_of wsX70 (by decide +kernel) w h).1
set_option maxRecDepth 20000 in
theorem lw0_X5 : ∀ w ∈ wsX50, w ∈ lw_tbl := fun w h => (goodIn_of wsX50 (by decide +kernel) w h).1
set_option maxRecDepth 20000 in
theorem lw0_X1 : ∀ w ∈ wsX10, w ∈ lw_tbl := fun w h => (goodIn_of wsX10 (by decide +kernel) w h).1
set_option maxRecDepth 20000 in
theorem lw0_X3 : ∀ w ∈ wsX30, w ∈ lw_tbl := fun w h => (goodIn_of wsX30 (by decide +kernel) w h).1
set_option maxRecDepth 20000 in
theorem lw0_X4 : ∀ w ∈ wsX40, w ∈ lw_tbl := fun w h => (goodIn_of wsX40 (by decide +kernel) w h).1
set_option maxRecDepth 20000 in
theorem lw0_X0 : ∀ w ∈ wsX00, w ∈ lw_tbl := fun w h => (goodIn_of wsX00 (by decide +kernel) w h).1
set_option maxRecDepth 20000 in
theorem lw0_X2 : ∀ w ∈ wsX20, w ∈ lw_tbl := fun w h => (goodIn_of wsX20 (by decide +kernel) w h).1
set_option maxRecDepth 20000 in
theorem lw0_J0 : ∀ w ∈ wsJ00, w ∈ lw_tbl := fun w h => (goodIn_of wsJ00 (by decide +kernel) w h).1
theorem wsL_law_in0 : ∀ w ∈ wsL_law0, w ∈ lw_tbl := (fun w h => (List.mem_append.mp h).elim (fun h => (fun w h => (List.mem_append.mp h).elim (fun h => (fun w h => (List.mem_append.mp h).elim (fun h => (fun w h => (List.mem_append.mp h).elim (fun h => (fun w h => (List.mem_append.mp h).elim (fun h => (fun w h => (List.mem_append.mp h).elim (fun h => (fun w h => (List.mem_append.mp h).elim (fun h => (fun w h => (List.mem_append.mp h).elim (fun h => (fun w h => (List.mem_append.mp h).elim (fun h => (fun w h => (List.mem_append.mp h).elim (fun h => (fun w h => (List.mem_append.mp h).elim (fun h => lw0_1 w h) (fun h => (List.mem_append.mp h).elim (fun h => lw0_2 w h) (fun h => (List.mem_append.mp h).elim (fun h => lw0_3 w h) (fun h => (List.mem_append.mp h).elim (fun h => lw0_4 w h) (fun h => (List.mem_append.mp h).elim (fun h => lw0_5 w h) (fun h => (List.mem_append.mp h).elim (fun h => lw0_6 w h) (fun h => (List.mem_append.mp h).elim (fun h => lw0_7 w h) (fun h => (List.mem_append.mp h).elim (fun h => lw0_8 w h) (fun h => (List.mem_append.mp h).elim (fun h => lw0_9 w h) (fun h => (List.mem_append.mp h).elim (fun h => lw0_10 w h) (fun h => (List.mem_append.mp h).elim (fun h => lw0_11 w h) (fun h => (List.mem_append.mp h).elim (fun h => lw0_12 w h) (fun h => (List.mem_append.mp h).elim (fun h => lw0_13 w h) (fun h => (List.mem_append.mp h).elim (fun h => lw0_14 w h) (fun h => (List.mem_append.mp h).elim (fun h => lw0_15 w h) (fun h => (List.mem_append.mp h).elim (fun h => lw0_16 w h) (fun h => (List.mem_append.mp h).elim (fun h => lw0_17 w h) (fun h => (List.mem_append.mp h).elim (fun h => lw0_18 w h) (fun h => (List.mem_append.mp h).elim (fun h => lw0_19 w h) (fun h => (List.mem_append.mp h).elim (fun h => lw0_20 w h) (fun h => (List.mem_append.mp h).elim (fun h => lw0_21 w h) (fun h => (List.mem_append.mp h).elim (fun h => lw0_22 w h) (fun h => (List.mem_append.mp h).elim (fun h => lw0_23 w h) (fun h => (List.mem_append.mp h).elim (fun h => lw0_24 w h) (fun h => (List.mem_append.mp h).elim (fun h => lw0_25 w h) (fun h => (List.mem_append.mp h).elim (fun h => lw0_26 w h) (fun h => (List.mem_append.mp h).elim (fun h => lw0_27 w h) (fun h => (List.mem_append.mp h).elim (fun h => lw0_28 w h) (fun h => (List.mem_append.mp h).elim (fun h => lw0_29 w h) (fun h => (List.mem_append.mp h).elim (fun h => lw0_30 w h) (fun h => (List.mem_append.mp h).elim (fun h => lw0_31 w h) (fun h => (List.mem_append.mp h).elim (fun h => lw0_32 w h) (fun h => (List.mem_append.mp h).elim (fun h => lw0_33 w h) (fun h => (List.mem_append.mp h).elim (fun h => lw0_34 w h) (fun h => (List.mem_append.mp h).elim (fun h => lw0_35 w h) (fun h => (List.mem_append.mp h).elim (fun h => lw0_36 w h) (fun h => (List.mem_append.mp h).elim (fun h => lw0_37 w h) (fun h => (List.mem_append.mp h).elim (fun h => lw0_38 w h) (fun h => (List.mem_append.mp h).elim (fun h => lw0_39 w h) (fun h => (List.mem_append.mp h).elim (fun h => lw0_40 w h) (fun h => (List.mem_append.mp h).elim (fun h => lw0_41 w h) (fun h => (List.mem_append.mp h).elim (fun h => lw0_42 w h) (fun h => (List.mem_append.mp h).elim (fun h => lw0_43 w h) (fun h => (List.mem_append.mp h).elim (fun h => lw0_44 w h) (fun h => (List.mem_append.mp h).elim (fun h => lw0_45 w h) (fun h => (List.mem_append.mp h).elim (fun h => lw0_46 w h) (fun h => (List.mem_append.mp h).elim (fun h => lw0_47 w h) (fun h => (List.mem_append.mp h).elim (fun h => lw0_48 w h) (fun h => (List.mem_append.mp h).elim (fun h => lw0_49 w h) (fun h => lw0_50 w h)))))))))))))))))))))))))))))))))))))))))))))))))) w h) (fun h => lw0_X6 w h)) w h) (fun h => lw0_X7 w h)) w h) (fun h => lw0_X5 w h)) w h) (fun h => lw0_X1 w h)) w h) (fun h => lw0_X3 w h)) w h) (fun h => lw0_X4 w h)) w h) (fun h => lw0_X0 w h)) w h) (fun h => lw0_X2 w h)) w h) (fun h => lw0_J0 w h)) w h) (fun h => nomatch h))
theorem wsL_law_x0 : ∀ w ∈ (vx_atM "java/lang/ArrayIndexOutOfBoundsException" ["java/lang/IndexOutOfBoundsException", "java/lang/RuntimeException", "java/lang/Exception"]).filter goodWord, w ∈ lw_tbl := by decide +kernel
theorem wsL_law_x1 : ∀ w ∈ (vx_atS RX6 172 "java/lang/IndexOutOfBoundsException" ["java/lang/RuntimeException", "java/lang/Exception"]).filter goodWord, w ∈ lw_tbl := by decide +kernel
theorem wsL_law_x2 : ∀ w ∈ (vx_atS RX6 300 "java/lang/IllegalArgumentException" ["java/lang/RuntimeException", "java/lang/Exception"]).filter goodWord, w ∈ lw_tbl := by decide +kernel
theorem wsL_law_x3 : ∀ w ∈ (vx_atS RX6 99 "java/lang/IllegalStateException" ["java/lang/RuntimeException", "java/lang/Exception"]).filter goodWord, w ∈ lw_tbl := by decide +kernel
theorem wsL_law_x4 : ∀ w ∈ (nx_at RX6 197 "java/util/NoSuchElementException" "java/lang/RuntimeException" 13 nxB ["java/lang/Exception"]).filter goodWord, w ∈ lw_tbl := by decide +kernel
theorem wsL_law_x5 : ∀ w ∈ (vx_atS RX6 249 "java/lang/ArithmeticException" ["java/lang/RuntimeException", "java/lang/Exception"]).filter goodWord, w ∈ lw_tbl := by decide +kernel
theorem wsL_law_x6 : ∀ w ∈ (vx_atS RX6 278 "java/lang/UnsupportedOperationException" ["java/lang/RuntimeException", "java/lang/Exception"]).filter goodWord, w ∈ lw_tbl := by decide +kernel
theorem wsM_law_in : ∀ w ∈ wsM_law, w ∈ lw_tbl := (fun w h => (List.mem_append.mp h).elim (fun h => (fun w h => (List.mem_append.mp h).elim (fun h => (fun w h => (List.mem_append.mp h).elim (fun h => (fun w h => (List.mem_append.mp h).elim (fun h => (fun w h => (List.mem_append.mp h).elim (fun h => (fun w h => (List.mem_append.mp h).elim (fun h => (fun w h => (List.mem_append.mp h).elim (fun h => (fun w h => wsL_law_in0 w h) w h) (fun h => wsL_law_x0 w h)) w h) (fun h => wsL_law_x1 w h)) w h) (fun h => wsL_law_x2 w h)) w h) (fun h => wsL_law_x3 w h)) w h) (fun h => wsL_law_x4 w h)) w h) (fun h => wsL_law_x5 w h)) w h) (fun h => wsL_law_x6 w h))
