def wsM_tickUntilStanding : List Cond := .codeWith yL_tickUntilStanding cL_tickUntilStanding 5 (some .int) [(0, 10, 13, 13), (0, 10, 17, 15), (0, 10, 21, 62)] :: ((wsL_tickUntilStanding_r1 ++ (wsL_tickUntilStanding_r2 ++ (wsL_tickUntilStanding_r3 ++ (wsL_tickUntilStanding_r4 ++ (wsL_tickUntilStanding_r5 ++ (wsL_tickUntilStanding_r6 ++ (wsL_tickUntilStanding_r7 ++ (wsL_tickUntilStanding_r8 ++ (wsL_tickUntilStanding_r9 ++ (wsL_tickUntilStanding_r10 ++ (wsL_tickUntilStanding_r11 ++ (wsL_tickUntilStanding_r12 ++ wsL_tickUntilStanding_r13)))))))))))) ++ wsX60 ++ wsX50 ++ wsX00 ++ wsX40 ++ wsX20 ++ wsX10 ++ (vx_atM "java/lang/ArrayIndexOutOfBoundsException" ["java/lang/IndexOutOfBoundsException", "java/lang/RuntimeException", "java/lang/Exception"]).filter goodWord ++ (nx_at RX6 197 "java/util/NoSuchElementException" "java/lang/RuntimeException" 13 nxB ["java/lang/Exception"]).filter goodWord ++ (vx_atS RX6 172 "java/lang/IndexOutOfBoundsException" ["java/lang/RuntimeException", "java/lang/Exception"]).filter goodWord ++ (vx_atS RX6 300 "java/lang/IllegalArgumentException" ["java/lang/RuntimeException", "java/lang/Exception"]).filter goodWord)
def wsM_law : List Cond := wsL_law0 ++ (vx_atM "java/lang/ArrayIndexOutOfBoundsException" ["java/lang/IndexOutOfBoundsException", "java/lang/RuntimeException", "java/lang/Exception"]).filter goodWord ++ (vx_atS RX6 172 "java/lang/IndexOutOfBoundsException" ["java/lang/RuntimeException", "java/lang/Exception"]).filter goodWord ++ (vx_atS RX6 300 "java/lang/IllegalArgumentException" ["java/lang/RuntimeException", "java/lang/Exception"]).filter goodWord ++ (vx_atS RX6 99 "java/lang/IllegalStateException" ["java/lang/RuntimeException", "java/lang/Exception"]).filter goodWord ++ (nx_at RX6 197 "java/util/NoSuchElementException" "java/lang/RuntimeException" 13 nxB ["java/lang/Exception"]).filter goodWord ++ (vx_atS RX6 249 "java/lang/ArithmeticException" ["java/lang/RuntimeException", "java/lang/Exception"]).filter goodWord ++ (vx_atS RX6 278 "java/lang/UnsupportedOperationException" ["java/lang/RuntimeException", "java/lang/Exception"]).filter goodWord
set_option maxRecDepth 20000 in
theorem ggM_tickUntilStanding_X6_tickUntilStanding : GoodIn wsM_tickUntilStanding wsN_tickUntilStanding := goodIn_ca (goodIn_ca (goodIn_ca (goodIn_ca (goodIn_r _ [8, 9, 10, 11, 12, 13, 14, 15, 16, 17, 7, 18, 19, 20, 21, 22, 23, 24, 25, 26, 27, 28, 29, 30, 31, 32, 33, 34, 35, 36, 37, 38, 39, 40, 41, 42, 43, 44, 45, 46, 47, 48, 49, 50, 51, 52, 53, 54, 55, 56, 57, 58, 59, 60, 61, 62, 63, 64, 65, 66, 67, 68, 69, 70, 71, 72, 73, 74, 75, 76, 77, 78, 79, 80, 81, 82, 83, 84, 85, 86, 87, 88, 89, 90, 91, 92, 93, 94, 95, 96, 97, 98, 99, 100, 101, 102, 103, 104, 105, 106, 107, 108, 109, 110, 111, 112, 113, 114, 115, 116, 117, 118, 119, 120, 121, 122, 123, 124, 125, 126, 127, 128, 129, 130, 131, 132, 133, 134, 135, 136, 137, 138, 139, 140, 141, 142, 143, 144, 145, 146, 147, 148, 149, 150, 151, 152, 153, 154, 155, 156, 157, 158, 159, 160, 161, 162, 163, 164, 165, 166, 167, 168, 169, 170, 171, 172, 173, 174, 175, 176, 177, 178, 179, 180, 181, 182, 183, 184, 185, 186, 187, 188, 189, 190, 191, 192, 193, 194, 195, 196, 197, 198, 199, 200, 201, 202, 203, 204, 205, 206, 207, 208, 209, 210, 211, 212, 213, 214, 215, 216, 217, 218, 219, 220, 221, 222, 223, 224, 225, 226, 227, 228, 229, 230, 231, 232, 233, 234, 235, 236, 237, 238, 239, 240, 241, 242, 243, 244, 245, 246, 247, 248, 249, 250, 251, 252, 253, 254, 255, 256, 257, 258, 259, 260, 261, 262, 263, 264, 265, 266, 267, 268, 269, 270, 271, 272, 273, 274, 275, 276, 277, 278, 279, 280, 281, 282, 283, 284, 285, 286, 287, 288, 289, 290, 291, 292, 293, 294, 295, 296, 297, 298, 299, 300, 301, 302, 303, 304, 305, 306, 307, 308, 309, 310, 311, 312, 313, 314, 315, 316, 317, 318, 319, 320, 321, 322, 323, 324, 325, 326, 327, 328, 329, 330, 331, 332, 333, 334, 335, 336, 337, 338, 339, 340, 341, 342, 343, 344, 345, 346, 347, 348, 349, 350, 351] (by decide +kernel) (by decide +kernel)) (goodIn_sub (fun _ h => List.mem_cons_of_mem _ (List.mem_append_left _ (List.mem_append_left _ (List.mem_append_right _ h)))) (by decide +kernel))) (goodIn_sub (fun _ h => List.mem_cons_of_mem _ (List.mem_append_left _ (List.mem_append_right _ h))) (by decide +kernel))) (goodIn_sub (fun _ h => List.mem_cons_of_mem _ (List.mem_append_right _ h)) (by decide +kernel))) (goodIn_sub (fun _ h => List.mem_cons_of_mem _ (List.mem_append_left _ (List.mem_append_left _ (List.mem_append_left _ (List.mem_append_right _ h))))) (by decide +kernel))
set_option maxRecDepth 20000 in
theorem gM_tickUntilStanding_X6_tickUntilStanding : GoodIn wsM_tickUntilStanding (wsV RL 59 RX6 yX6_tickUntilStanding wsN_tickUntilStanding) := goodIn_app (goodIn_of _ (by decide +kernel)) ggM_tickUntilStanding_X6_tickUntilStanding
theorem dL_isBlocked_0 : decode cL_isBlocked 0 = .ok (.aload 4, 2) := by decide +kernel
theorem dL_isBlocked_2 : decode cL_isBlocked 2 = .ok (.iconst 0, 1) := by decide +kernel
theorem dL_isBlocked_3 : decode cL_isBlocked 3 = .ok (.aload_n 0, 1) := by decide +kernel
theorem dL_isBlocked_4 : decode cL_isBlocked 4 = .ok (.iload_n 1, 1) := by decide +kernel
theorem dL_isBlocked_5 : decode cL_isBlocked 5 = .ok (.iload_n 2, 1) := by decide +kernel
theorem dL_isBlocked_6 : decode cL_isBlocked 6 = .ok (.iload_n 3, 1) := by decide +kernel
theorem dL_isBlocked_7 : decode cL_isBlocked 7 = .ok (.invokevirtual 78, 3) := by decide +kernel
theorem dL_isBlocked_10 : decode cL_isBlocked 10 = .ok (.ifCond .eq 7, 3) := by decide +kernel
theorem dL_isBlocked_13 : decode cL_isBlocked 13 = .ok (.lconst 1, 1) := by decide +kernel
theorem dL_isBlocked_14 : decode cL_isBlocked 14 = .ok (.goto 4, 3) := by decide +kernel
theorem dL_isBlocked_17 : decode cL_isBlocked 17 = .ok (.lconst 0, 1) := by decide +kernel
theorem dL_isBlocked_18 : decode cL_isBlocked 18 = .ok (.lastore, 1) := by decide +kernel
theorem dL_isBlocked_19 : decode cL_isBlocked 19 = .ok (.goto 11, 3) := by decide +kernel
theorem dL_isBlocked_22 : decode cL_isBlocked 22 = .ok (.astore 5, 2) := by decide +kernel
theorem dL_isBlocked_24 : decode cL_isBlocked 24 = .ok (.iconst 1, 1) := by decide +kernel
theorem dL_isBlocked_25 : decode cL_isBlocked 25 = .ok (.ireturn, 1) := by decide +kernel
theorem dL_isBlocked_26 : decode cL_isBlocked 26 = .ok (.astore 5, 2) := by decide +kernel
theorem dL_isBlocked_28 : decode cL_isBlocked 28 = .ok (.iconst 2, 1) := by decide +kernel
theorem dL_isBlocked_29 : decode cL_isBlocked 29 = .ok (.ireturn, 1) := by decide +kernel
theorem dL_isBlocked_30 : decode cL_isBlocked 30 = .ok (.iconst 0, 1) := by decide +kernel
theorem dL_isBlocked_31 : decode cL_isBlocked 31 = .ok (.ireturn, 1) := by decide +kernel
set_option maxRecDepth 20000 in
theorem ggL_clearance_X6_clearance : GoodIn wsL_clearance wsX6_clearance := goodIn_ca (goodIn_ca (goodIn_ca (goodIn_r _ [7, 8, 9, 10, 11, 12, 13, 6, 14, 15, 16, 17, 18, 19, 20, 21, 22, 23, 24, 25, 26, 27, 28, 29, 30, 31, 32, 33, 34, 35, 36, 37, 38, 39, 40, 41, 42, 43, 44, 45, 46, 47, 48, 49, 50, 51, 52, 53, 54, 55, 56, 57, 58, 59, 60, 61, 62, 63, 64, 65, 66, 67, 68, 69, 70, 71, 72, 73, 74, 75, 76, 77, 78, 79, 80, 81, 82, 83, 84, 85, 86, 87, 88, 89, 90, 91, 92, 93, 94, 95, 96, 97, 98, 99, 100, 101, 102, 103, 104, 105, 106, 107, 108, 109, 110, 111, 112, 113, 114, 115, 116, 117, 118, 119, 120, 121, 122, 123, 124, 125, 126, 127, 128, 129, 130, 131, 132, 133, 134, 135, 136, 137, 138, 139, 140, 141, 142, 143, 144, 145, 146, 147, 148, 149, 150, 151, 152, 153, 154, 155, 156, 157, 158, 159, 160, 161, 162, 163, 164, 165, 166, 167, 168, 169, 170, 171, 172, 173, 174, 175, 176, 177, 178, 179, 180, 181, 182, 183, 184, 185] (by decide +kernel) (by decide +kernel)) (goodIn_sub (fun _ h => List.mem_cons_of_mem _ (List.mem_append_left _ (List.mem_append_right _ h))) (by decide +kernel))) (goodIn_sub (fun _ h => List.mem_cons_of_mem _ (List.mem_append_right _ h)) (by decide +kernel))) (goodIn_sub (fun _ h => List.mem_cons_of_mem _ (List.mem_append_left _ (List.mem_append_left _ (List.mem_append_right _ h)))) (by decide +kernel))
set_option maxRecDepth 20000 in
theorem gL_clearance_X6_clearance : GoodIn wsL_clearance (wsV RL 82 RX6 yX6_clearance wsX6_clearance) := goodIn_app (goodIn_of _ (by decide +kernel)) ggL_clearance_X6_clearance
theorem dL_clearance_0 : decode cL_clearance 0 = .ok (.aload_n 3, 1) := by decide +kernel
theorem dL_clearance_1 : decode cL_clearance 1 = .ok (.iconst 0, 1) := by decide +kernel
theorem dL_clearance_2 : decode cL_clearance 2 = .ok (.aload_n 0, 1) := by decide +kernel
theorem dL_clearance_3 : decode cL_clearance 3 = .ok (.iload_n 1, 1) := by decide +kernel
theorem dL_clearance_4 : decode cL_clearance 4 = .ok (.iload_n 2, 1) := by decide +kernel
theorem dL_clearance_5 : decode cL_clearance 5 = .ok (.invokevirtual 82, 3) := by decide +kernel
theorem dL_clearance_8 : decode cL_clearance 8 = .ok (.i2l, 1) := by decide +kernel
theorem dL_clearance_9 : decode cL_clearance 9 = .ok (.lastore, 1) := by decide +kernel
theorem dL_clearance_10 : decode cL_clearance 10 = .ok (.goto 11, 3) := by decide +kernel
theorem dL_clearance_13 : decode cL_clearance 13 = .ok (.astore 4, 2) := by decide +kernel
theorem dL_clearance_15 : decode cL_clearance 15 = .ok (.iconst 1, 1) := by decide +kernel
theorem dL_clearance_16 : decode cL_clearance 16 = .ok (.ireturn, 1) := by decide +kernel
theorem dL_clearance_17 : decode cL_clearance 17 = .ok (.astore 4, 2) := by decide +kernel
theorem dL_clearance_19 : decode cL_clearance 19 = .ok (.iconst 2, 1) := by decide +kernel
theorem dL_clearance_20 : decode cL_clearance 20 = .ok (.ireturn, 1) := by decide +kernel
theorem dL_clearance_21 : decode cL_clearance 21 = .ok (.iconst 0, 1) := by decide +kernel
theorem dL_clearance_22 : decode cL_clearance 22 = .ok (.ireturn, 1) := by decide +kernel
set_option maxRecDepth 20000 in
theorem ggL_drop_X6_drop : GoodIn wsL_drop wsX6_drop := goodIn_ca (goodIn_ca (goodIn_r _ [6, 7, 8, 9, 10, 11, 12, 13, 5, 14, 15, 16, 17, 18, 19, 20, 21, 22, 23, 24, 25, 26, 27, 28, 29, 30, 31, 32, 33, 34, 35, 36, 37, 38, 39, 40, 41, 42, 43, 44, 45, 46, 47, 48, 49, 50, 51, 52, 53, 54, 55, 56, 57, 58, 59, 60, 61, 62, 63, 64, 65, 66, 67, 68, 69, 70, 71, 72, 73, 74, 75, 76, 77, 78, 79, 80, 81, 82, 83, 84, 85, 86, 87, 88, 89, 90, 91, 92, 93, 94, 95, 96, 97, 98, 99, 100, 101, 102, 103, 104, 105, 106, 107, 108, 109, 110, 111, 112, 113, 114, 115, 116, 117, 118, 119] (by decide +kernel) (by decide +kernel)) (goodIn_sub (fun _ h => List.mem_cons_of_mem _ (List.mem_append_right _ h)) (by decide +kernel))) (goodIn_sub (fun _ h => List.mem_cons_of_mem _ (List.mem_append_left _ (List.mem_append_right _ h))) (by decide +kernel))
set_option maxRecDepth 20000 in
theorem gL_drop_X6_drop : GoodIn wsL_drop (wsV RL 85 RX6 yX6_drop wsX6_drop) := goodIn_app (goodIn_of _ (by decide +kernel)) ggL_drop_X6_drop
theorem dL_drop_0 : decode cL_drop 0 = .ok (.aload_n 2, 1) := by decide +kernel
theorem dL_drop_1 : decode cL_drop 1 = .ok (.iconst 0, 1) := by decide +kernel
theorem dL_drop_2 : decode cL_drop 2 = .ok (.aload_n 0, 1) := by decide +kernel
theorem dL_drop_3 : decode cL_drop 3 = .ok (.iload_n 1, 1) := by decide +kernel
theorem dL_drop_4 : decode cL_drop 4 = .ok (.invokevirtual 85, 3) := by decide +kernel
theorem dL_drop_7 : decode cL_drop 7 = .ok (.i2l, 1) := by decide +kernel
theorem dL_drop_8 : decode cL_drop 8 = .ok (.lastore, 1) := by decide +kernel
theorem dL_drop_9 : decode cL_drop 9 = .ok (.goto 6, 3) := by decide +kernel
theorem dL_drop_12 : decode cL_drop 12 = .ok (.astore_n 3, 1) := by decide +kernel
theorem dL_drop_13 : decode cL_drop 13 = .ok (.iconst 1, 1) := by decide +kernel
theorem dL_drop_14 : decode cL_drop 14 = .ok (.ireturn, 1) := by decide +kernel
theorem dL_drop_15 : decode cL_drop 15 = .ok (.iconst 0, 1) := by decide +kernel
theorem dL_drop_16 : decode cL_drop 16 = .ok (.ireturn, 1) := by decide +kernel
set_option maxRecDepth 20000 in
theorem ggL_look_X6_look : GoodIn wsL_look wsX6_look := goodIn_ca (goodIn_ca (goodIn_r _ [6, 7, 8, 9, 10, 11, 12, 13, 14, 5, 15, 16, 17, 18, 19, 20, 21, 22, 23, 24, 25, 26, 27, 28, 29, 30, 31, 32, 33, 34, 35, 36, 37, 38, 39, 40, 41, 42, 43, 44, 45, 46, 47, 48, 49, 50, 51, 52, 53, 54, 55, 56, 57, 58, 59, 60, 61, 62, 63, 64, 65, 66, 67, 68, 69, 70, 71, 72, 73, 74, 75, 76, 77, 78, 79, 80, 81, 82, 83] (by decide +kernel) (by decide +kernel)) (goodIn_sub (fun _ h => List.mem_cons_of_mem _ (List.mem_append_right _ h)) (by decide +kernel))) (goodIn_sub (fun _ h => List.mem_cons_of_mem _ (List.mem_append_left _ (List.mem_append_right _ h))) (by decide +kernel))
set_option maxRecDepth 20000 in
theorem gL_look_X6_look : GoodIn wsL_look (wsV RL 88 RX6 yX6_look wsX6_look) := goodIn_app (goodIn_of _ (by decide +kernel)) ggL_look_X6_look
theorem dL_look_0 : decode cL_look 0 = .ok (.aload_n 3, 1) := by decide +kernel
theorem dL_look_1 : decode cL_look 1 = .ok (.iconst 0, 1) := by decide +kernel
theorem dL_look_2 : decode cL_look 2 = .ok (.aload_n 0, 1) := by decide +kernel
theorem dL_look_3 : decode cL_look 3 = .ok (.iload_n 1, 1) := by decide +kernel
theorem dL_look_4 : decode cL_look 4 = .ok (.iload_n 2, 1) := by decide +kernel
theorem dL_look_5 : decode cL_look 5 = .ok (.invokevirtual 88, 3) := by decide +kernel
theorem dL_look_8 : decode cL_look 8 = .ok (.i2l, 1) := by decide +kernel
theorem dL_look_9 : decode cL_look 9 = .ok (.lastore, 1) := by decide +kernel
theorem dL_look_10 : decode cL_look 10 = .ok (.goto 7, 3) := by decide +kernel
theorem dL_look_13 : decode cL_look 13 = .ok (.astore 4, 2) := by decide +kernel
theorem dL_look_15 : decode cL_look 15 = .ok (.iconst 1, 1) := by decide +kernel
theorem dL_look_16 : decode cL_look 16 = .ok (.ireturn, 1) := by decide +kernel
theorem dL_look_17 : decode cL_look 17 = .ok (.iconst 0, 1) := by decide +kernel
theorem dL_look_18 : decode cL_look 18 = .ok (.ireturn, 1) := by decide +kernel
set_option maxRecDepth 20000 in
theorem ggL_ray_X6_ray : GoodIn wsL_ray wsX6_ray := goodIn_ca (goodIn_ca (goodIn_r _ [6, 7, 8, 9, 10, 5, 11, 12, 13, 14, 15, 16, 17, 18, 19, 20, 21, 22, 23, 24, 25, 26, 27, 28, 29, 30, 31, 32, 33, 34, 35, 36, 37, 38, 39, 40, 41, 42, 43, 44, 45, 46, 47, 48, 49, 50] (by decide +kernel) (by decide +kernel)) (goodIn_sub (fun _ h => List.mem_cons_of_mem _ (List.mem_append_right _ h)) (by decide +kernel))) (goodIn_sub (fun _ h => List.mem_cons_of_mem _ (List.mem_append_left _ (List.mem_append_right _ h))) (by decide +kernel))
set_option maxRecDepth 20000 in
theorem gL_ray_X6_ray : GoodIn wsL_ray (wsV RL 91 RX6 yX6_ray wsX6_ray) := goodIn_app (goodIn_of _ (by decide +kernel)) ggL_ray_X6_ray
theorem dL_ray_0 : decode cL_ray 0 = .ok (.aload 4, 2) := by decide +kernel
theorem dL_ray_2 : decode cL_ray 2 = .ok (.iconst 0, 1) := by decide +kernel
theorem dL_ray_3 : decode cL_ray 3 = .ok (.aload_n 0, 1) := by decide +kernel
theorem dL_ray_4 : decode cL_ray 4 = .ok (.iload_n 1, 1) := by decide +kernel
theorem dL_ray_5 : decode cL_ray 5 = .ok (.iload_n 2, 1) := by decide +kernel
theorem dL_ray_6 : decode cL_ray 6 = .ok (.iload_n 3, 1) := by decide +kernel
theorem dL_ray_7 : decode cL_ray 7 = .ok (.invokevirtual 91, 3) := by decide +kernel
theorem dL_ray_10 : decode cL_ray 10 = .ok (.i2l, 1) := by decide +kernel
theorem dL_ray_11 : decode cL_ray 11 = .ok (.lastore, 1) := by decide +kernel
theorem dL_ray_12 : decode cL_ray 12 = .ok (.goto 7, 3) := by decide +kernel
theorem dL_ray_15 : decode cL_ray 15 = .ok (.astore 5, 2) := by decide +kernel
theorem dL_ray_17 : decode cL_ray 17 = .ok (.iconst 1, 1) := by decide +kernel
theorem dL_ray_18 : decode cL_ray 18 = .ok (.ireturn, 1) := by decide +kernel
theorem dL_ray_19 : decode cL_ray 19 = .ok (.iconst 0, 1) := by decide +kernel
theorem dL_ray_20 : decode cL_ray 20 = .ok (.ireturn, 1) := by decide +kernel
set_option maxRecDepth 20000 in
theorem ggL_predict_X6_predict : GoodIn wsL_predict wsX6_predict := goodIn_ca (goodIn_ca (goodIn_ca (goodIn_r _ [7, 8, 9, 10, 11, 12, 13, 14, 15, 6, 16, 17, 18, 19, 20, 21, 22, 23, 24, 25, 26, 27, 28, 29, 30, 31, 32, 33, 34, 35, 36, 37, 38, 39, 40, 41, 42, 43, 44, 45, 46, 47, 48, 49, 50, 51, 52, 53, 54, 55, 56, 57, 58, 59, 60, 61, 62, 63, 64, 65, 66, 67, 68, 69, 70, 71, 72, 73, 74, 75, 76, 77, 78, 79, 80, 81, 82, 83, 84, 85, 86, 87, 88, 89, 90, 91, 92, 93, 94, 95, 96, 97, 98, 99, 100, 101, 102, 103, 104, 105, 106, 107, 108, 109, 110, 111, 112, 113, 114, 115, 116, 117, 118, 119, 120, 121, 122, 123, 124, 125, 126, 127, 128, 129, 130, 131, 132, 133, 134, 135, 136, 137, 138, 139, 140, 141, 142, 143, 144, 145, 146, 147, 148, 149, 150, 151, 152, 153, 154, 155, 156, 157, 158, 159, 160, 161, 162, 163, 164, 165, 166, 167, 168, 169, 170, 171, 172, 173, 174, 175, 176, 177, 178, 179, 180, 181, 182, 183, 184, 185, 186, 187, 188, 189, 190, 191, 192, 193, 194, 195, 196, 197, 198, 199, 200, 201, 202, 203, 204, 205, 206, 207, 208, 209, 210, 211, 212, 213, 214, 215, 216, 217, 218, 219, 220, 221, 222, 223, 224, 225, 226, 227, 228, 229, 230, 231, 232, 233, 234, 235, 236, 237, 238, 239, 240, 241, 242, 243, 244, 245, 246, 247, 248, 249, 250, 251, 252, 253, 254, 255, 256, 257, 258, 259, 260, 261, 262, 263, 264, 265, 266, 267, 268, 269, 270, 271, 272, 273, 274, 275, 276, 277, 278, 279, 280, 281, 282, 283, 284, 285, 286, 287, 288, 289, 290, 291, 292, 293, 294, 295, 296, 297, 298, 299, 300, 301, 302, 303, 304, 305, 306, 307, 308, 309, 310, 311, 312, 313, 314, 315, 316, 317, 318, 319, 320, 321, 322, 323, 324, 325, 326, 327, 328, 329, 330, 331, 332, 333, 334, 335, 336, 337, 338, 339, 340] (by decide +kernel) (by decide +kernel)) (goodIn_sub (fun _ h => List.mem_cons_of_mem _ (List.mem_append_left _ (List.mem_append_right _ h))) (by decide +kernel))) (goodIn_sub (fun _ h => List.mem_cons_of_mem _ (List.mem_append_right _ h)) (by decide +kernel))) (goodIn_sub (fun _ h => List.mem_cons_of_mem _ (List.mem_append_left _ (List.mem_append_left _ (List.mem_append_right _ h)))) (by decide +kernel))
set_option maxRecDepth 20000 in
theorem gL_predict_X6_predict : GoodIn wsL_predict (wsV RL 94 RX6 yX6_predict wsX6_predict) := goodIn_app (goodIn_of _ (by decide +kernel)) ggL_predict_X6_predict
theorem dL_predict_0 : decode cL_predict 0 = .ok (.aload 5, 2) := by decide +kernel
theorem dL_predict_2 : decode cL_predict 2 = .ok (.iconst 0, 1) := by decide +kernel
theorem dL_predict_3 : decode cL_predict 3 = .ok (.aload_n 0, 1) := by decide +kernel
theorem dL_predict_4 : decode cL_predict 4 = .ok (.iload_n 1, 1) := by decide +kernel
theorem dL_predict_5 : decode cL_predict 5 = .ok (.iload_n 2, 1) := by decide +kernel
theorem dL_predict_6 : decode cL_predict 6 = .ok (.iload_n 3, 1) := by decide +kernel
theorem dL_predict_7 : decode cL_predict 7 = .ok (.iload 4, 2) := by decide +kernel
theorem dL_predict_9 : decode cL_predict 9 = .ok (.invokevirtual 94, 3) := by decide +kernel
theorem dL_predict_12 : decode cL_predict 12 = .ok (.i2l, 1) := by decide +kernel
theorem dL_predict_13 : decode cL_predict 13 = .ok (.lastore, 1) := by decide +kernel
theorem dL_predict_14 : decode cL_predict 14 = .ok (.goto 11, 3) := by decide +kernel
theorem dL_predict_17 : decode cL_predict 17 = .ok (.astore 6, 2) := by decide +kernel
theorem dL_predict_19 : decode cL_predict 19 = .ok (.iconst 1, 1) := by decide +kernel
theorem dL_predict_20 : decode cL_predict 20 = .ok (.ireturn, 1) := by decide +kernel
theorem dL_predict_21 : decode cL_predict 21 = .ok (.astore 6, 2) := by decide +kernel
theorem dL_predict_23 : decode cL_predict 23 = .ok (.iconst 2, 1) := by decide +kernel
theorem dL_predict_24 : decode cL_predict 24 = .ok (.ireturn, 1) := by decide +kernel
theorem dL_predict_25 : decode cL_predict 25 = .ok (.iconst 0, 1) := by decide +kernel
theorem dL_predict_26 : decode cL_predict 26 = .ok (.ireturn, 1) := by decide +kernel
set_option maxRecDepth 20000 in
theorem ggL_apex_X6_apex : GoodIn wsL_apex wsX6_apex := goodIn_ca (goodIn_ca (goodIn_ca (goodIn_r _ [7, 8, 9, 10, 11, 12, 13, 14, 15, 16, 17, 18, 19, 20, 6, 21, 22, 23, 24, 25, 26, 27, 28, 29, 30, 31, 32, 33, 34, 35, 36, 37, 38, 39, 40, 41, 42, 43, 44, 45, 46, 47, 48, 49, 50, 51, 52, 53, 54, 55, 56, 57, 58, 59, 60, 61, 62, 63, 64, 65, 66, 67, 68, 69, 70, 71, 72, 73, 74, 75, 76, 77, 78, 79, 80, 81, 82, 83, 84, 85, 86, 87, 88, 89, 90, 91, 92, 93, 94, 95, 96, 97, 98, 99, 100, 101, 102, 103, 104, 105, 106, 107, 108, 109, 110, 111, 112, 113, 114, 115, 116, 117, 118, 119, 120, 121, 122, 123, 124, 125, 126, 127, 128, 129, 130, 131, 132, 133, 134, 135, 136, 137, 138, 139, 140, 141, 142, 143, 144, 145, 146, 147, 148, 149, 150, 151, 152, 153, 154, 155, 156, 157, 158, 159, 160, 161, 162, 163, 164, 165, 166, 167, 168, 169, 170, 171, 172, 173, 174, 175, 176, 177, 178, 179, 180, 181, 182, 183, 184, 185, 186, 187, 188, 189, 190, 191, 192, 193, 194, 195, 196, 197, 198, 199, 200, 201, 202, 203, 204, 205, 206, 207, 208, 209, 210, 211, 212, 213, 214, 215, 216, 217, 218, 219, 220, 221, 222, 223, 224, 225, 226, 227, 228, 229, 230, 231, 232, 233, 234, 235, 236, 237, 238, 239, 240, 241, 242, 243, 244, 245, 246, 247, 248, 249, 250, 251, 252, 253, 254, 255, 256, 257, 258, 259, 260, 261, 262, 263, 264, 265, 266, 267, 268, 269, 270, 271, 272, 273, 274, 275, 276, 277, 278, 279, 280, 281, 282, 283, 284, 285, 286, 287, 288, 289, 290, 291, 292, 293, 294, 295, 296, 297, 298, 299, 300, 301, 302, 303, 304, 305, 306, 307, 308, 309, 310, 311, 312, 313, 314, 315, 316, 317, 318, 319, 320, 321, 322, 323, 324, 325, 326, 327, 328, 329, 330, 331, 332, 333, 334, 335, 336, 337, 338] (by decide +kernel) (by decide +kernel)) (goodIn_sub (fun _ h => List.mem_cons_of_mem _ (List.mem_append_left _ (List.mem_append_right _ h))) (by decide +kernel))) (goodIn_sub (fun _ h => List.mem_cons_of_mem _ (List.mem_append_right _ h)) (by decide +kernel))) (goodIn_sub (fun _ h => List.mem_cons_of_mem _ (List.mem_append_left _ (List.mem_append_left _ (List.mem_append_right _ h)))) (by decide +kernel))
set_option maxRecDepth 20000 in
theorem gL_apex_X6_apex : GoodIn wsL_apex (wsV RL 97 RX6 yX6_apex wsX6_apex) := goodIn_app (goodIn_of _ (by decide +kernel)) ggL_apex_X6_apex
theorem dL_apex_0 : decode cL_apex 0 = .ok (.aload 4, 2) := by decide +kernel
theorem dL_apex_2 : decode cL_apex 2 = .ok (.iconst 0, 1) := by decide +kernel
theorem dL_apex_3 : decode cL_apex 3 = .ok (.aload_n 0, 1) := by decide +kernel
theorem dL_apex_4 : decode cL_apex 4 = .ok (.iload_n 1, 1) := by decide +kernel
theorem dL_apex_5 : decode cL_apex 5 = .ok (.iload_n 2, 1) := by decide +kernel
theorem dL_apex_6 : decode cL_apex 6 = .ok (.iload_n 3, 1) := by decide +kernel
theorem dL_apex_7 : decode cL_apex 7 = .ok (.invokevirtual 97, 3) := by decide +kernel
theorem dL_apex_10 : decode cL_apex 10 = .ok (.i2l, 1) := by decide +kernel
theorem dL_apex_11 : decode cL_apex 11 = .ok (.lastore, 1) := by decide +kernel
theorem dL_apex_12 : decode cL_apex 12 = .ok (.goto 11, 3) := by decide +kernel
theorem dL_apex_15 : decode cL_apex 15 = .ok (.astore 5, 2) := by decide +kernel
theorem dL_apex_17 : decode cL_apex 17 = .ok (.iconst 1, 1) := by decide +kernel
theorem dL_apex_18 : decode cL_apex 18 = .ok (.ireturn, 1) := by decide +kernel
theorem dL_apex_19 : decode cL_apex 19 = .ok (.astore 5, 2) := by decide +kernel
theorem dL_apex_21 : decode cL_apex 21 = .ok (.iconst 2, 1) := by decide +kernel
theorem dL_apex_22 : decode cL_apex 22 = .ok (.ireturn, 1) := by decide +kernel
theorem dL_apex_23 : decode cL_apex 23 = .ok (.iconst 0, 1) := by decide +kernel
theorem dL_apex_24 : decode cL_apex 24 = .ok (.ireturn, 1) := by decide +kernel
set_option maxRecDepth 20000 in
theorem ggL_statistic_X6_statistic : GoodIn wsL_statistic wsX6_statistic := goodIn_ca (goodIn_ca (goodIn_ca (goodIn_r _ [7, 8, 9, 10, 11, 12, 13, 6, 14, 15, 16, 17, 18, 19, 20, 21, 22, 23, 24, 25, 26, 27, 28, 29, 30, 31, 32, 33, 34, 35, 36, 37, 38, 39, 40, 41, 42, 43, 44, 45, 46, 47, 48, 49, 50, 51, 52, 53, 54, 55, 56, 57] (by decide +kernel) (by decide +kernel)) (goodIn_sub (fun _ h => List.mem_cons_of_mem _ (List.mem_append_left _ (List.mem_append_left _ (List.mem_append_right _ h)))) (by decide +kernel))) (goodIn_sub (fun _ h => List.mem_cons_of_mem _ (List.mem_append_left _ (List.mem_append_right _ h))) (by decide +kernel))) (goodIn_sub (fun _ h => List.mem_cons_of_mem _ (List.mem_append_right _ h)) (by decide +kernel))
set_option maxRecDepth 20000 in
theorem gL_statistic_X6_statistic : GoodIn wsL_statistic (wsV RL 100 RX6 yX6_statistic wsX6_statistic) := goodIn_app (goodIn_of _ (by decide +kernel)) ggL_statistic_X6_statistic
theorem dL_statistic_0 : decode cL_statistic 0 = .ok (.aload_n 3, 1) := by decide +kernel
theorem dL_statistic_1 : decode cL_statistic 1 = .ok (.iconst 0, 1) := by decide +kernel
theorem dL_statistic_2 : decode cL_statistic 2 = .ok (.aload_n 0, 1) := by decide +kernel
theorem dL_statistic_3 : decode cL_statistic 3 = .ok (.iload_n 1, 1) := by decide +kernel
theorem dL_statistic_4 : decode cL_statistic 4 = .ok (.iload_n 2, 1) := by decide +kernel
theorem dL_statistic_5 : decode cL_statistic 5 = .ok (.invokevirtual 100, 3) := by decide +kernel
theorem dL_statistic_8 : decode cL_statistic 8 = .ok (.i2l, 1) := by decide +kernel
theorem dL_statistic_9 : decode cL_statistic 9 = .ok (.lastore, 1) := by decide +kernel
theorem dL_statistic_10 : decode cL_statistic 10 = .ok (.goto 11, 3) := by decide +kernel
theorem dL_statistic_13 : decode cL_statistic 13 = .ok (.astore 4, 2) := by decide +kernel
theorem dL_statistic_15 : decode cL_statistic 15 = .ok (.iconst 1, 1) := by decide +kernel
theorem dL_statistic_16 : decode cL_statistic 16 = .ok (.ireturn, 1) := by decide +kernel
theorem dL_statistic_17 : decode cL_statistic 17 = .ok (.astore 4, 2) := by decide +kernel
theorem dL_statistic_19 : decode cL_statistic 19 = .ok (.iconst 2, 1) := by decide +kernel
theorem dL_statistic_20 : decode cL_statistic 20 = .ok (.ireturn, 1) := by decide +kernel
theorem dL_statistic_21 : decode cL_statistic 21 = .ok (.iconst 0, 1) := by decide +kernel
theorem dL_statistic_22 : decode cL_statistic 22 = .ok (.ireturn, 1) := by decide +kernel
set_option maxRecDepth 20000 in
theorem ggL_meanMoves_X6_meanMoves : GoodIn wsL_meanMoves wsX6_meanMoves := goodIn_ca (goodIn_ca (goodIn_ca (goodIn_r _ [7, 8, 9, 10, 11, 12, 13, 14, 15, 16, 6, 17, 18, 19, 20, 21, 22, 23, 24, 25, 26, 27, 28, 29, 30, 31, 32, 33, 34, 35, 36, 37, 38, 39, 40, 41, 42, 43, 44, 45, 46, 47, 48, 49, 50, 51, 52, 53, 54, 55] (by decide +kernel) (by decide +kernel)) (goodIn_sub (fun _ h => List.mem_cons_of_mem _ (List.mem_append_left _ (List.mem_append_right _ h))) (by decide +kernel))) (goodIn_sub (fun _ h => List.mem_cons_of_mem _ (List.mem_append_left _ (List.mem_append_left _ (List.mem_append_right _ h)))) (by decide +kernel))) (goodIn_sub (fun _ h => List.mem_cons_of_mem _ (List.mem_append_right _ h)) (by decide +kernel))
set_option maxRecDepth 20000 in
theorem gL_meanMoves_X6_meanMoves : GoodIn wsL_meanMoves (wsV RL 103 RX6 yX6_meanMoves wsX6_meanMoves) := goodIn_app (goodIn_of _ (by decide +kernel)) ggL_meanMoves_X6_meanMoves
theorem dL_meanMoves_0 : decode cL_meanMoves 0 = .ok (.aload_n 2, 1) := by decide +kernel
theorem dL_meanMoves_1 : decode cL_meanMoves 1 = .ok (.iconst 0, 1) := by decide +kernel
theorem dL_meanMoves_2 : decode cL_meanMoves 2 = .ok (.aload_n 0, 1) := by decide +kernel
theorem dL_meanMoves_3 : decode cL_meanMoves 3 = .ok (.iload_n 1, 1) := by decide +kernel
theorem dL_meanMoves_4 : decode cL_meanMoves 4 = .ok (.invokevirtual 103, 3) := by decide +kernel
theorem dL_meanMoves_7 : decode cL_meanMoves 7 = .ok (.f2d, 1) := by decide +kernel
theorem dL_meanMoves_8 : decode cL_meanMoves 8 = .ok (.dastore, 1) := by decide +kernel
theorem dL_meanMoves_9 : decode cL_meanMoves 9 = .ok (.goto 9, 3) := by decide +kernel
theorem dL_meanMoves_12 : decode cL_meanMoves 12 = .ok (.astore_n 3, 1) := by decide +kernel
theorem dL_meanMoves_13 : decode cL_meanMoves 13 = .ok (.iconst 1, 1) := by decide +kernel
theorem dL_meanMoves_14 : decode cL_meanMoves 14 = .ok (.ireturn, 1) := by decide +kernel
theorem dL_meanMoves_15 : decode cL_meanMoves 15 = .ok (.astore_n 3, 1) := by decide +kernel
theorem dL_meanMoves_16 : decode cL_meanMoves 16 = .ok (.iconst 2, 1) := by decide +kernel
theorem dL_meanMoves_17 : decode cL_meanMoves 17 = .ok (.ireturn, 1) := by decide +kernel
theorem dL_meanMoves_18 : decode cL_meanMoves 18 = .ok (.iconst 0, 1) := by decide +kernel
theorem dL_meanMoves_19 : decode cL_meanMoves 19 = .ok (.ireturn, 1) := by decide +kernel
set_option maxRecDepth 20000 in
theorem ggL_append_X6_append : GoodIn wsL_append wsX6_append := goodIn_ca (goodIn_ca (goodIn_r _ [6, 7, 8, 9, 10, 11, 12, 13, 14, 15, 16, 17, 18, 19, 20, 21, 22, 23, 24, 25, 26, 27, 28, 29, 30] (by decide +kernel) (by decide +kernel)) (goodIn_sub (fun _ h => List.mem_cons_of_mem _ (List.mem_append_left _ (List.mem_append_right _ h))) (by decide +kernel))) (goodIn_sub (fun _ h => List.mem_cons_of_mem _ (List.mem_append_right _ h)) (by decide +kernel))
set_option maxRecDepth 20000 in
theorem gL_append_X6_append : GoodIn wsL_append (wsV RL 109 RX6 yX6_append wsX6_append) := goodIn_app (goodIn_of _ (by decide +kernel)) ggL_append_X6_append
theorem dL_append_0 : decode cL_append 0 = .ok (.aload_n 0, 1) := by decide +kernel
theorem dL_append_1 : decode cL_append 1 = .ok (.iload_n 1, 1) := by decide +kernel
theorem dL_append_2 : decode cL_append 2 = .ok (.invokevirtual 109, 3) := by decide +kernel
theorem dL_append_5 : decode cL_append 5 = .ok (.goto 6, 3) := by decide +kernel
theorem dL_append_8 : decode cL_append 8 = .ok (.astore_n 2, 1) := by decide +kernel
theorem dL_append_9 : decode cL_append 9 = .ok (.iconst 1, 1) := by decide +kernel
theorem dL_append_10 : decode cL_append 10 = .ok (.ireturn, 1) := by decide +kernel
theorem dL_append_11 : decode cL_append 11 = .ok (.iconst 0, 1) := by decide +kernel
theorem dL_append_12 : decode cL_append 12 = .ok (.ireturn, 1) := by decide +kernel
set_option maxRecDepth 20000 in
theorem ggL_readTiles_X6_readTiles : GoodIn wsL_readTiles wsX6_readTiles := goodIn_ca (goodIn_ca (goodIn_ca (goodIn_ca (goodIn_r _ [8, 9, 10, 11, 12, 13, 14, 15, 16, 17, 18, 19, 20, 21, 22, 23, 7, 24, 25, 26, 27, 28, 29, 30, 31, 32, 33, 34, 35, 36, 37, 38, 39, 40, 41, 42, 43, 44, 45, 46, 47, 48, 49, 50, 51, 52, 53, 54, 55, 56, 57, 58, 59, 60, 61, 62, 63, 64, 65, 66, 67, 68, 69, 70, 71, 72, 73, 74, 75, 76, 77, 78, 79, 80, 81, 82, 83, 84, 85, 86, 87, 88, 89, 90, 91, 92, 93, 94, 95, 96, 97, 98, 99, 100, 101, 102, 103, 104, 105, 106, 107, 108, 109, 110, 111, 112, 113, 114, 115, 116, 117, 118, 119, 120, 121, 122, 123, 124, 125, 126, 127, 128, 129, 130, 131, 132, 133, 134, 135, 136, 137, 138, 139, 140, 141, 142, 143, 144, 145, 146, 147, 148, 149, 150, 151, 152, 153, 154, 155, 156, 157, 158, 159, 160, 161, 162, 163, 164, 165, 166, 167, 168, 169, 170, 171, 172, 173, 174, 175, 176, 177, 178, 179, 180, 181, 182, 183, 184, 185, 186, 187, 188, 189, 190, 191, 192, 193, 194, 195, 196, 197, 198, 199, 200, 201, 202, 203, 204, 205, 206, 207, 208, 209, 210, 211, 212, 213, 214, 215, 216, 217, 218, 219, 220, 221, 222, 223, 224, 225, 226, 227, 228, 229, 230, 231, 232, 233, 234, 235, 236, 237, 238, 239, 240, 241, 242, 243, 244, 245, 246, 247, 248, 249, 250, 251, 252, 253, 254, 255, 256, 257] (by decide +kernel) (by decide +kernel)) (goodIn_sub (fun _ h => List.mem_cons_of_mem _ (List.mem_append_left _ (List.mem_append_left _ (List.mem_append_right _ h)))) (by decide +kernel))) (goodIn_sub (fun _ h => List.mem_cons_of_mem _ (List.mem_append_left _ (List.mem_append_right _ h))) (by decide +kernel))) (goodIn_sub (fun _ h => List.mem_cons_of_mem _ (List.mem_append_left _ (List.mem_append_left _ (List.mem_append_left _ (List.mem_append_right _ h))))) (by decide +kernel))) (goodIn_sub (fun _ h => List.mem_cons_of_mem _ (List.mem_append_right _ h)) (by decide +kernel))
set_option maxRecDepth 20000 in
theorem gL_readTiles_X6_readTiles : GoodIn wsL_readTiles (wsV RL 113 RX6 yX6_readTiles wsX6_readTiles) := goodIn_app (goodIn_of _ (by decide +kernel)) ggL_readTiles_X6_readTiles
theorem dL_readTiles_0 : decode cL_readTiles 0 = .ok (.aload_n 3, 1) := by decide +kernel
theorem dL_readTiles_1 : decode cL_readTiles 1 = .ok (.iconst 0, 1) := by decide +kernel
theorem dL_readTiles_2 : decode cL_readTiles 2 = .ok (.aload_n 0, 1) := by decide +kernel
theorem dL_readTiles_3 : decode cL_readTiles 3 = .ok (.iload_n 1, 1) := by decide +kernel
theorem dL_readTiles_4 : decode cL_readTiles 4 = .ok (.iload_n 2, 1) := by decide +kernel
theorem dL_readTiles_5 : decode cL_readTiles 5 = .ok (.invokevirtual 113, 3) := by decide +kernel
theorem dL_readTiles_8 : decode cL_readTiles 8 = .ok (.i2l, 1) := by decide +kernel
theorem dL_readTiles_9 : decode cL_readTiles 9 = .ok (.lastore, 1) := by decide +kernel
theorem dL_readTiles_10 : decode cL_readTiles 10 = .ok (.goto 15, 3) := by decide +kernel
theorem dL_readTiles_13 : decode cL_readTiles 13 = .ok (.astore 4, 2) := by decide +kernel
theorem dL_readTiles_15 : decode cL_readTiles 15 = .ok (.iconst 1, 1) := by decide +kernel
theorem dL_readTiles_16 : decode cL_readTiles 16 = .ok (.ireturn, 1) := by decide +kernel
theorem dL_readTiles_17 : decode cL_readTiles 17 = .ok (.astore 4, 2) := by decide +kernel
theorem dL_readTiles_19 : decode cL_readTiles 19 = .ok (.iconst 2, 1) := by decide +kernel
theorem dL_readTiles_20 : decode cL_readTiles 20 = .ok (.ireturn, 1) := by decide +kernel
theorem dL_readTiles_21 : decode cL_readTiles 21 = .ok (.astore 4, 2) := by decide +kernel
theorem dL_readTiles_23 : decode cL_readTiles 23 = .ok (.iconst 3, 1) := by decide +kernel
theorem dL_readTiles_24 : decode cL_readTiles 24 = .ok (.ireturn, 1) := by decide +kernel
theorem dL_readTiles_25 : decode cL_readTiles 25 = .ok (.iconst 0, 1) := by decide +kernel
theorem dL_readTiles_26 : decode cL_readTiles 26 = .ok (.ireturn, 1) := by decide +kernel
set_option maxRecDepth 20000 in
theorem ggL_play_X6_play : GoodIn wsL_play wsX6_play := goodIn_ca (goodIn_ca (goodIn_ca (goodIn_ca (goodIn_r _ [8, 9, 10, 11, 12, 13, 14, 15, 16, 17, 18, 19, 20, 21, 22, 23, 24, 25, 26, 27, 28, 29, 7, 30, 31, 32, 33, 34, 35, 36, 37, 38, 39, 40, 41, 42, 43, 44, 45, 46, 47, 48, 49, 50, 51, 52, 53, 54, 55, 56, 57, 58, 59, 60, 61, 62, 63, 64, 65, 66, 67, 68, 69, 70, 71, 72, 73, 74, 75, 76, 77, 78, 79, 80, 81, 82, 83, 84, 85, 86, 87, 88, 89, 90, 91, 92, 93, 94, 95, 96, 97, 98, 99, 100, 101, 102, 103, 104, 105, 106, 107, 108, 109, 110, 111, 112, 113, 114, 115, 116, 117, 118, 119, 120, 121, 122, 123, 124, 125, 126, 127, 128, 129, 130, 131, 132, 133, 134, 135, 136, 137, 138, 139, 140, 141, 142, 143, 144, 145, 146, 147, 148, 149, 150, 151, 152, 153, 154, 155, 156, 157, 158, 159, 160, 161, 162, 163, 164, 165, 166, 167, 168, 169, 170, 171, 172, 173, 174, 175, 176, 177, 178, 179, 180, 181, 182, 183, 184, 185, 186, 187, 188, 189, 190, 191, 192, 193, 194, 195, 196, 197, 198, 199, 200, 201, 202, 203, 204, 205, 206, 207, 208, 209, 210, 211, 212, 213, 214, 215, 216, 217, 218, 219, 220, 221, 222, 223, 224, 225, 226, 227, 228, 229, 230, 231, 232, 233, 234, 235, 236, 237, 238, 239, 240, 241, 242, 243, 244, 245, 246, 247, 248, 249, 250, 251, 252, 253, 254, 255, 256, 257, 258, 259, 260, 261, 262, 263, 264, 265, 266, 267, 268, 269, 270, 271, 272, 273, 274, 275, 276, 277, 278, 279, 280, 281, 282, 283, 284, 285, 286, 287, 288, 289, 290, 291, 292, 293, 294, 295, 296, 297, 298, 299, 300, 301, 302, 303, 304, 305, 306, 307, 308, 309, 310, 311, 312, 313, 314, 315, 316, 317, 318, 319, 320, 321, 322, 323, 324, 325, 326, 327, 328, 329, 330, 331, 332, 333, 334, 335, 336, 337, 338, 339, 340, 341, 342, 343, 344, 345, 346, 347, 348, 349, 350, 351, 352, 353, 354, 355, 356, 357, 358, 359, 360, 361, 362, 363, 364, 365, 366, 367, 368, 369, 370, 371, 372, 373, 374, 375, 376, 377, 378, 379, 380, 381, 382, 383, 384, 385, 386, 387, 388, 389, 390, 391, 392, 393, 394, 395, 396, 397, 398, 399, 400, 401, 402, 403, 404, 405, 406, 407, 408, 409, 410, 411, 412, 413, 414, 415, 416, 417, 418, 419, 420, 421, 422, 423, 424, 425, 426, 427, 428, 429, 430, 431, 432, 433, 434, 435, 436] (by decide +kernel) (by decide +kernel)) (goodIn_sub (fun _ h => List.mem_cons_of_mem _ (List.mem_append_left _ (List.mem_append_left _ (List.mem_append_right _ h)))) (by decide +kernel))) (goodIn_sub (fun _ h => List.mem_cons_of_mem _ (List.mem_append_left _ (List.mem_append_left _ (List.mem_append_left _ (List.mem_append_right _ h))))) (by decide +kernel))) (goodIn_sub (fun _ h => List.mem_cons_of_mem _ (List.mem_append_left _ (List.mem_append_right _ h))) (by decide +kernel))) (goodIn_sub (fun _ h => List.mem_cons_of_mem _ (List.mem_append_right _ h)) (by decide +kernel))
set_option maxRecDepth 20000 in
theorem gL_play_X6_play : GoodIn wsL_play (wsV RL 116 RX6 yX6_play wsX6_play) := goodIn_app (goodIn_of _ (by decide +kernel)) ggL_play_X6_play
theorem dL_play_0 : decode cL_play 0 = .ok (.aload_n 2, 1) := by decide +kernel
theorem dL_play_1 : decode cL_play 1 = .ok (.iconst 0, 1) := by decide +kernel
theorem dL_play_2 : decode cL_play 2 = .ok (.aload_n 0, 1) := by decide +kernel
theorem dL_play_3 : decode cL_play 3 = .ok (.iload_n 1, 1) := by decide +kernel
theorem dL_play_4 : decode cL_play 4 = .ok (.invokevirtual 116, 3) := by decide +kernel
theorem dL_play_7 : decode cL_play 7 = .ok (.i2l, 1) := by decide +kernel
theorem dL_play_8 : decode cL_play 8 = .ok (.lastore, 1) := by decide +kernel
theorem dL_play_9 : decode cL_play 9 = .ok (.goto 12, 3) := by decide +kernel
theorem dL_play_12 : decode cL_play 12 = .ok (.astore_n 3, 1) := by decide +kernel
theorem dL_play_13 : decode cL_play 13 = .ok (.iconst 1, 1) := by decide +kernel
theorem dL_play_14 : decode cL_play 14 = .ok (.ireturn, 1) := by decide +kernel
theorem dL_play_15 : decode cL_play 15 = .ok (.astore_n 3, 1) := by decide +kernel
theorem dL_play_16 : decode cL_play 16 = .ok (.iconst 2, 1) := by decide +kernel
theorem dL_play_17 : decode cL_play 17 = .ok (.ireturn, 1) := by decide +kernel
theorem dL_play_18 : decode cL_play 18 = .ok (.astore_n 3, 1) := by decide +kernel
theorem dL_play_19 : decode cL_play 19 = .ok (.iconst 3, 1) := by decide +kernel
theorem dL_play_20 : decode cL_play 20 = .ok (.ireturn, 1) := by decide +kernel
theorem dL_play_21 : decode cL_play 21 = .ok (.iconst 0, 1) := by decide +kernel
theorem dL_play_22 : decode cL_play 22 = .ok (.ireturn, 1) := by decide +kernel
set_option maxRecDepth 20000 in
theorem ggL_restore_X6_restore : GoodIn wsL_restore wsX6_restore := goodIn_ca (goodIn_r _ [6, 7, 8, 9, 10, 11, 12, 13, 14, 15, 16, 17, 18, 19, 20, 21, 22, 23, 24, 25, 26, 27, 28, 29, 30, 31, 32, 33, 34, 35, 36, 37, 38, 39, 40, 41, 42, 43, 44, 45, 46, 47, 48, 49, 50, 51, 52, 53, 54, 55, 56, 57, 58, 59, 60, 61, 62, 63, 64, 65, 66, 67, 68, 69, 70, 71, 72, 73, 74, 75, 76, 77, 78, 79, 80, 81, 82, 83, 84, 85, 86, 87, 88, 89, 90, 91, 92, 93, 94, 95, 96, 97, 98, 99, 100, 101, 102, 103, 104, 105, 106, 107, 108, 109, 110, 111, 112, 113, 114, 115, 116, 117, 118, 119, 120, 121, 122, 123] (by decide +kernel) (by decide +kernel)) (goodIn_sub (fun _ h => List.mem_cons_of_mem _ (List.mem_append_right _ h)) (by decide +kernel))
set_option maxRecDepth 20000 in
theorem gL_restore_X6_restore : GoodIn wsL_restore (wsV RL 121 RX6 yX6_restore wsX6_restore) := goodIn_app (goodIn_of _ (by decide +kernel)) ggL_restore_X6_restore
theorem dL_restore_0 : decode cL_restore 0 = .ok (.aload_n 0, 1) := by decide +kernel
theorem dL_restore_1 : decode cL_restore 1 = .ok (.invokevirtual 121, 3) := by decide +kernel
theorem dL_restore_4 : decode cL_restore 4 = .ok (.goto 6, 3) := by decide +kernel
theorem dL_restore_7 : decode cL_restore 7 = .ok (.astore_n 1, 1) := by decide +kernel
theorem dL_restore_8 : decode cL_restore 8 = .ok (.iconst 1, 1) := by decide +kernel
theorem dL_restore_9 : decode cL_restore 9 = .ok (.ireturn, 1) := by decide +kernel
theorem dL_restore_10 : decode cL_restore 10 = .ok (.iconst 0, 1) := by decide +kernel
theorem dL_restore_11 : decode cL_restore 11 = .ok (.ireturn, 1) := by decide +kernel
