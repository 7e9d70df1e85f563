theorem dX7_hasOneWay_6 : decode cX7_hasOneWay 6 = .ok (.ifCond .eq 5, 3) := by decide +kernel
theorem dX7_hasOneWay_9 : decode cX7_hasOneWay 9 = .ok (.iconst 0, 1) := by decide +kernel
theorem dX7_hasOneWay_10 : decode cX7_hasOneWay 10 = .ok (.ireturn, 1) := by decide +kernel
theorem dX7_hasOneWay_11 : decode cX7_hasOneWay 11 = .ok (.iload_n 2, 1) := by decide +kernel
theorem dX7_hasOneWay_12 : decode cX7_hasOneWay 12 = .ok (.bipush 16, 2) := by decide +kernel
theorem dX7_hasOneWay_14 : decode cX7_hasOneWay 14 = .ok (.invokestatic 48, 3) := by decide +kernel
theorem dX7_hasOneWay_17 : decode cX7_hasOneWay 17 = .ok (.istore 4, 2) := by decide +kernel
theorem dX7_hasOneWay_19 : decode cX7_hasOneWay 19 = .ok (.iload 4, 2) := by decide +kernel
theorem dX7_hasOneWay_21 : decode cX7_hasOneWay 21 = .ok (.iload_n 2, 1) := by decide +kernel
theorem dX7_hasOneWay_22 : decode cX7_hasOneWay 22 = .ok (.aload_n 0, 1) := by decide +kernel
theorem dX7_hasOneWay_23 : decode cX7_hasOneWay 23 = .ok (.iload_n 1, 1) := by decide +kernel
theorem dX7_hasOneWay_24 : decode cX7_hasOneWay 24 = .ok (.bipush 7, 2) := by decide +kernel
theorem dX7_hasOneWay_26 : decode cX7_hasOneWay 26 = .ok (.invokevirtual 68, 3) := by decide +kernel
theorem dX7_hasOneWay_29 : decode cX7_hasOneWay 29 = .ok (.iadd, 1) := by decide +kernel
theorem dX7_hasOneWay_30 : decode cX7_hasOneWay 30 = .ok (.iconst 1, 1) := by decide +kernel
theorem dX7_hasOneWay_31 : decode cX7_hasOneWay 31 = .ok (.isub, 1) := by decide +kernel
theorem dX7_hasOneWay_32 : decode cX7_hasOneWay 32 = .ok (.bipush 16, 2) := by decide +kernel
theorem dX7_hasOneWay_34 : decode cX7_hasOneWay 34 = .ok (.invokestatic 48, 3) := by decide +kernel
theorem dX7_hasOneWay_37 : decode cX7_hasOneWay 37 = .ok (.if_icmp .gt 27, 3) := by decide +kernel
theorem dX7_hasOneWay_40 : decode cX7_hasOneWay 40 = .ok (.aload_n 0, 1) := by decide +kernel
theorem dX7_hasOneWay_41 : decode cX7_hasOneWay 41 = .ok (.iload 4, 2) := by decide +kernel
theorem dX7_hasOneWay_43 : decode cX7_hasOneWay 43 = .ok (.iload_n 3, 1) := by decide +kernel
theorem dX7_hasOneWay_44 : decode cX7_hasOneWay 44 = .ok (.iconst 1, 1) := by decide +kernel
theorem dX7_hasOneWay_45 : decode cX7_hasOneWay 45 = .ok (.isub, 1) := by decide +kernel
theorem dX7_hasOneWay_46 : decode cX7_hasOneWay 46 = .ok (.invokestatic 54, 3) := by decide +kernel
theorem dX7_hasOneWay_49 : decode cX7_hasOneWay 49 = .ok (.invokevirtual 58, 3) := by decide +kernel
theorem dX7_hasOneWay_52 : decode cX7_hasOneWay 52 = .ok (.iconst 2, 1) := by decide +kernel
theorem dX7_hasOneWay_53 : decode cX7_hasOneWay 53 = .ok (.if_icmp .ne 5, 3) := by decide +kernel
theorem dX7_hasOneWay_56 : decode cX7_hasOneWay 56 = .ok (.iconst 1, 1) := by decide +kernel
theorem dX7_hasOneWay_57 : decode cX7_hasOneWay 57 = .ok (.ireturn, 1) := by decide +kernel
theorem dX7_hasOneWay_58 : decode cX7_hasOneWay 58 = .ok (.iinc 4 1, 3) := by decide +kernel
theorem dX7_hasOneWay_61 : decode cX7_hasOneWay 61 = .ok (.goto (-42), 3) := by decide +kernel
theorem dX7_hasOneWay_64 : decode cX7_hasOneWay 64 = .ok (.iconst 0, 1) := by decide +kernel
theorem dX7_hasOneWay_65 : decode cX7_hasOneWay 65 = .ok (.ireturn, 1) := by decide +kernel
set_option maxRecDepth 20000 in
theorem ggX7_isOnSlope_X7_foot : GoodIn wsX7_isOnSlope wsX7_foot := goodIn_ca (goodIn_r _ [5, 6, 7, 8, 4, 9, 10, 33, 34, 35, 36, 37, 38, 39, 40, 41, 42, 43, 44, 45, 46, 47, 48, 49] (by decide +kernel) (by decide +kernel)) (goodIn_sub (fun _ h => List.mem_cons_of_mem _ (List.mem_append_right _ h)) (by decide +kernel))
set_option maxRecDepth 20000 in
theorem gX7_isOnSlope_X7_foot : GoodIn wsX7_isOnSlope (wsV RX7 71 RX7 yX7_foot wsX7_foot) := goodIn_app (goodIn_of _ (by decide +kernel)) ggX7_isOnSlope_X7_foot
set_option maxRecDepth 20000 in
theorem ggX7_isOnSlope_X7_kindAt : GoodIn wsX7_isOnSlope wsX7_kindAt := goodIn_ca (goodIn_r _ [14, 15, 16, 17, 18, 19, 20, 4, 21, 22, 23, 24, 25, 10, 33, 34, 35, 36, 37, 38, 39, 40, 41, 42, 43, 44, 45, 46, 47, 48, 49] (by decide +kernel) (by decide +kernel)) (goodIn_sub (fun _ h => List.mem_cons_of_mem _ (List.mem_append_right _ h)) (by decide +kernel))
set_option maxRecDepth 20000 in
theorem gX7_isOnSlope_X7_kindAt : GoodIn wsX7_isOnSlope (wsV RX7 65 RX7 yX7_kindAt wsX7_kindAt) := goodIn_app (goodIn_of _ (by decide +kernel)) ggX7_isOnSlope_X7_kindAt
set_option maxRecDepth 20000 in
theorem ggX7_isOnSlope_X7_isSlope : GoodIn wsX7_isOnSlope wsX7_isSlope := goodIn_r _ [28] (by decide +kernel) (by decide +kernel)
set_option maxRecDepth 20000 in
theorem gX7_isOnSlope_X7_isSlope : GoodIn wsX7_isOnSlope (va_wsS RX7 74 yX7_isSlope wsX7_isSlope) := goodIn_app (goodIn_of _ (by decide +kernel)) ggX7_isOnSlope_X7_isSlope
set_option maxRecDepth 20000 in
theorem ggX7_isOnSlope_X7_surfaceAt : GoodIn wsX7_isOnSlope wsX7_surfaceAt := goodIn_ca (goodIn_r _ [32, 19, 20, 4, 21, 15, 16, 17, 18, 11, 12, 13, 14, 22, 23, 24, 25, 10, 33, 34, 35, 36, 37, 38, 39, 40, 41, 42, 43, 44, 45, 46, 47, 48, 49] (by decide +kernel) (by decide +kernel)) (goodIn_sub (fun _ h => List.mem_cons_of_mem _ (List.mem_append_right _ h)) (by decide +kernel))
set_option maxRecDepth 20000 in
theorem gX7_isOnSlope_X7_surfaceAt : GoodIn wsX7_isOnSlope (wsV RX7 91 RX7 yX7_surfaceAt wsX7_surfaceAt) := goodIn_app (goodIn_of _ (by decide +kernel)) ggX7_isOnSlope_X7_surfaceAt
theorem dX7_isOnSlope_0 : decode cX7_isOnSlope 0 = .ok (.aload_n 0, 1) := by decide +kernel
theorem dX7_isOnSlope_1 : decode cX7_isOnSlope 1 = .ok (.aload_n 0, 1) := by decide +kernel
theorem dX7_isOnSlope_2 : decode cX7_isOnSlope 2 = .ok (.iload_n 1, 1) := by decide +kernel
theorem dX7_isOnSlope_3 : decode cX7_isOnSlope 3 = .ok (.iload_n 2, 1) := by decide +kernel
theorem dX7_isOnSlope_4 : decode cX7_isOnSlope 4 = .ok (.invokevirtual 71, 3) := by decide +kernel
theorem dX7_isOnSlope_7 : decode cX7_isOnSlope 7 = .ok (.iload_n 3, 1) := by decide +kernel
theorem dX7_isOnSlope_8 : decode cX7_isOnSlope 8 = .ok (.iconst 1, 1) := by decide +kernel
theorem dX7_isOnSlope_9 : decode cX7_isOnSlope 9 = .ok (.isub, 1) := by decide +kernel
theorem dX7_isOnSlope_10 : decode cX7_isOnSlope 10 = .ok (.invokevirtual 65, 3) := by decide +kernel
theorem dX7_isOnSlope_13 : decode cX7_isOnSlope 13 = .ok (.invokestatic 74, 3) := by decide +kernel
theorem dX7_isOnSlope_16 : decode cX7_isOnSlope 16 = .ok (.ifCond .eq 24, 3) := by decide +kernel
theorem dX7_isOnSlope_19 : decode cX7_isOnSlope 19 = .ok (.aload_n 0, 1) := by decide +kernel
theorem dX7_isOnSlope_20 : decode cX7_isOnSlope 20 = .ok (.aload_n 0, 1) := by decide +kernel
theorem dX7_isOnSlope_21 : decode cX7_isOnSlope 21 = .ok (.iload_n 1, 1) := by decide +kernel
theorem dX7_isOnSlope_22 : decode cX7_isOnSlope 22 = .ok (.iload_n 2, 1) := by decide +kernel
theorem dX7_isOnSlope_23 : decode cX7_isOnSlope 23 = .ok (.invokevirtual 71, 3) := by decide +kernel
theorem dX7_isOnSlope_26 : decode cX7_isOnSlope 26 = .ok (.iload_n 3, 1) := by decide +kernel
theorem dX7_isOnSlope_27 : decode cX7_isOnSlope 27 = .ok (.iconst 1, 1) := by decide +kernel
theorem dX7_isOnSlope_28 : decode cX7_isOnSlope 28 = .ok (.isub, 1) := by decide +kernel
theorem dX7_isOnSlope_29 : decode cX7_isOnSlope 29 = .ok (.invokevirtual 91, 3) := by decide +kernel
theorem dX7_isOnSlope_32 : decode cX7_isOnSlope 32 = .ok (.iload_n 3, 1) := by decide +kernel
theorem dX7_isOnSlope_33 : decode cX7_isOnSlope 33 = .ok (.if_icmp .ne 7, 3) := by decide +kernel
theorem dX7_isOnSlope_36 : decode cX7_isOnSlope 36 = .ok (.iconst 1, 1) := by decide +kernel
theorem dX7_isOnSlope_37 : decode cX7_isOnSlope 37 = .ok (.goto 4, 3) := by decide +kernel
theorem dX7_isOnSlope_40 : decode cX7_isOnSlope 40 = .ok (.iconst 0, 1) := by decide +kernel
theorem dX7_isOnSlope_41 : decode cX7_isOnSlope 41 = .ok (.ireturn, 1) := by decide +kernel
set_option maxRecDepth 20000 in
theorem ggX7_isOn_X7_plate : GoodIn wsX7_isOn wsX7_plate := goodIn_ca (goodIn_r _ [5, 6, 11, 12, 13, 14, 15, 16, 17, 18, 19, 20, 21, 22, 23, 24, 25, 26, 27] (by decide +kernel) (by decide +kernel)) (goodIn_sub (fun _ h => List.mem_cons_of_mem _ (List.mem_append_right _ h)) (by decide +kernel))
set_option maxRecDepth 20000 in
theorem gX7_isOn_X7_plate : GoodIn wsX7_isOn (wsV RX7 94 RX7 yX7_plate wsX7_plate) := goodIn_app (goodIn_of _ (by decide +kernel)) ggX7_isOn_X7_plate
set_option maxRecDepth 20000 in
theorem ggX7_isOn_X7_of : GoodIn wsX7_isOn wsX7_of := goodIn_ca (goodIn_r _ [10, 6, 11, 12, 13, 14, 15, 16, 17, 18, 19, 20, 21, 22, 23, 24, 25, 26, 27] (by decide +kernel) (by decide +kernel)) (goodIn_sub (fun _ h => List.mem_cons_of_mem _ (List.mem_append_right _ h)) (by decide +kernel))
set_option maxRecDepth 20000 in
theorem gX7_isOn_X7_of : GoodIn wsX7_isOn (wsV RX7 68 RX7 yX7_of wsX7_of) := goodIn_app (goodIn_of _ (by decide +kernel)) ggX7_isOn_X7_of
theorem dX7_isOn_0 : decode cX7_isOn 0 = .ok (.aload_n 0, 1) := by decide +kernel
theorem dX7_isOn_1 : decode cX7_isOn 1 = .ok (.iload_n 2, 1) := by decide +kernel
theorem dX7_isOn_2 : decode cX7_isOn 2 = .ok (.iconst 1, 1) := by decide +kernel
theorem dX7_isOn_3 : decode cX7_isOn 3 = .ok (.invokevirtual 94, 3) := by decide +kernel
theorem dX7_isOn_6 : decode cX7_isOn 6 = .ok (.iload 4, 2) := by decide +kernel
theorem dX7_isOn_8 : decode cX7_isOn 8 = .ok (.if_icmp .ne 42, 3) := by decide +kernel
theorem dX7_isOn_11 : decode cX7_isOn 11 = .ok (.iload_n 3, 1) := by decide +kernel
theorem dX7_isOn_12 : decode cX7_isOn 12 = .ok (.aload_n 0, 1) := by decide +kernel
theorem dX7_isOn_13 : decode cX7_isOn 13 = .ok (.iload_n 2, 1) := by decide +kernel
theorem dX7_isOn_14 : decode cX7_isOn 14 = .ok (.iconst 0, 1) := by decide +kernel
theorem dX7_isOn_15 : decode cX7_isOn 15 = .ok (.invokevirtual 94, 3) := by decide +kernel
theorem dX7_isOn_18 : decode cX7_isOn 18 = .ok (.aload_n 0, 1) := by decide +kernel
theorem dX7_isOn_19 : decode cX7_isOn 19 = .ok (.iload_n 2, 1) := by decide +kernel
theorem dX7_isOn_20 : decode cX7_isOn 20 = .ok (.iconst 2, 1) := by decide +kernel
theorem dX7_isOn_21 : decode cX7_isOn 21 = .ok (.invokevirtual 94, 3) := by decide +kernel
theorem dX7_isOn_24 : decode cX7_isOn 24 = .ok (.iadd, 1) := by decide +kernel
theorem dX7_isOn_25 : decode cX7_isOn 25 = .ok (.if_icmp .ge 25, 3) := by decide +kernel
theorem dX7_isOn_28 : decode cX7_isOn 28 = .ok (.aload_n 0, 1) := by decide +kernel
theorem dX7_isOn_29 : decode cX7_isOn 29 = .ok (.iload_n 2, 1) := by decide +kernel
theorem dX7_isOn_30 : decode cX7_isOn 30 = .ok (.iconst 0, 1) := by decide +kernel
theorem dX7_isOn_31 : decode cX7_isOn 31 = .ok (.invokevirtual 94, 3) := by decide +kernel
theorem dX7_isOn_34 : decode cX7_isOn 34 = .ok (.iload_n 3, 1) := by decide +kernel
theorem dX7_isOn_35 : decode cX7_isOn 35 = .ok (.aload_n 0, 1) := by decide +kernel
theorem dX7_isOn_36 : decode cX7_isOn 36 = .ok (.iload_n 1, 1) := by decide +kernel
theorem dX7_isOn_37 : decode cX7_isOn 37 = .ok (.bipush 7, 2) := by decide +kernel
theorem dX7_isOn_39 : decode cX7_isOn 39 = .ok (.invokevirtual 68, 3) := by decide +kernel
theorem dX7_isOn_42 : decode cX7_isOn 42 = .ok (.iadd, 1) := by decide +kernel
theorem dX7_isOn_43 : decode cX7_isOn 43 = .ok (.if_icmp .ge 7, 3) := by decide +kernel
theorem dX7_isOn_46 : decode cX7_isOn 46 = .ok (.iconst 1, 1) := by decide +kernel
theorem dX7_isOn_47 : decode cX7_isOn 47 = .ok (.goto 4, 3) := by decide +kernel
theorem dX7_isOn_50 : decode cX7_isOn 50 = .ok (.iconst 0, 1) := by decide +kernel
theorem dX7_isOn_51 : decode cX7_isOn 51 = .ok (.ireturn, 1) := by decide +kernel
set_option maxRecDepth 20000 in
theorem ggX7_platformBelow_X7_isOn : GoodIn wsX7_platformBelow wsX7_isOn := goodIn_ca (goodIn_r _ [6, 7, 8, 9, 5, 10, 1, 11, 12, 13, 14, 15, 16, 17, 18, 19, 20, 21, 22, 23, 24, 25, 26, 27, 28, 29, 30, 31] (by decide +kernel) (by decide +kernel)) (goodIn_sub (fun _ h => List.mem_cons_of_mem _ (List.mem_append_right _ h)) (by decide +kernel))
set_option maxRecDepth 20000 in
theorem gX7_platformBelow_X7_isOn : GoodIn wsX7_platformBelow (wsV RX7 97 RX7 yX7_isOn wsX7_isOn) := goodIn_app (goodIn_of _ (by decide +kernel)) ggX7_platformBelow_X7_isOn
theorem dX7_platformBelow_0 : decode cX7_platformBelow 0 = .ok (.iconst 0, 1) := by decide +kernel
theorem dX7_platformBelow_1 : decode cX7_platformBelow 1 = .ok (.istore 5, 2) := by decide +kernel
theorem dX7_platformBelow_3 : decode cX7_platformBelow 3 = .ok (.iload 5, 2) := by decide +kernel
theorem dX7_platformBelow_5 : decode cX7_platformBelow 5 = .ok (.aload_n 0, 1) := by decide +kernel
theorem dX7_platformBelow_6 : decode cX7_platformBelow 6 = .ok (.getfield 7, 3) := by decide +kernel
theorem dX7_platformBelow_9 : decode cX7_platformBelow 9 = .ok (.sipush 465, 3) := by decide +kernel
theorem dX7_platformBelow_12 : decode cX7_platformBelow 12 = .ok (.iaload, 1) := by decide +kernel
theorem dX7_platformBelow_13 : decode cX7_platformBelow 13 = .ok (.if_icmp .ge 31, 3) := by decide +kernel
theorem dX7_platformBelow_16 : decode cX7_platformBelow 16 = .ok (.iload 5, 2) := by decide +kernel
theorem dX7_platformBelow_18 : decode cX7_platformBelow 18 = .ok (.iload 4, 2) := by decide +kernel
theorem dX7_platformBelow_20 : decode cX7_platformBelow 20 = .ok (.if_icmp .eq 18, 3) := by decide +kernel
theorem dX7_platformBelow_23 : decode cX7_platformBelow 23 = .ok (.aload_n 0, 1) := by decide +kernel
theorem dX7_platformBelow_24 : decode cX7_platformBelow 24 = .ok (.iload_n 1, 1) := by decide +kernel
theorem dX7_platformBelow_25 : decode cX7_platformBelow 25 = .ok (.iload 5, 2) := by decide +kernel
theorem dX7_platformBelow_27 : decode cX7_platformBelow 27 = .ok (.iload_n 2, 1) := by decide +kernel
theorem dX7_platformBelow_28 : decode cX7_platformBelow 28 = .ok (.iload_n 3, 1) := by decide +kernel
theorem dX7_platformBelow_29 : decode cX7_platformBelow 29 = .ok (.invokevirtual 97, 3) := by decide +kernel
theorem dX7_platformBelow_32 : decode cX7_platformBelow 32 = .ok (.ifCond .eq 6, 3) := by decide +kernel
theorem dX7_platformBelow_35 : decode cX7_platformBelow 35 = .ok (.iload 5, 2) := by decide +kernel
theorem dX7_platformBelow_37 : decode cX7_platformBelow 37 = .ok (.ireturn, 1) := by decide +kernel
theorem dX7_platformBelow_38 : decode cX7_platformBelow 38 = .ok (.iinc 5 1, 3) := by decide +kernel
theorem dX7_platformBelow_41 : decode cX7_platformBelow 41 = .ok (.goto (-38), 3) := by decide +kernel
theorem dX7_platformBelow_44 : decode cX7_platformBelow 44 = .ok (.iconst (-1), 1) := by decide +kernel
theorem dX7_platformBelow_45 : decode cX7_platformBelow 45 = .ok (.ireturn, 1) := by decide +kernel
set_option maxRecDepth 20000 in
theorem ggX7_supportBut_X7_firmBelow : GoodIn wsX7_supportBut wsX7_firmBelow := goodIn_ca (goodIn_r _ [5, 6, 7, 8, 4, 9, 10, 11, 12, 13, 14, 15, 16, 17, 18, 19, 20, 21, 22, 23, 24, 25, 26, 27, 28, 29, 30, 31, 32, 33, 34, 35, 36, 37, 38, 39, 40, 41, 42, 43, 44, 45, 73, 74, 75, 76, 77, 78, 79, 80, 81, 82, 83, 84, 85, 86, 87, 88, 89] (by decide +kernel) (by decide +kernel)) (goodIn_sub (fun _ h => List.mem_cons_of_mem _ (List.mem_append_right _ h)) (by decide +kernel))
set_option maxRecDepth 20000 in
theorem gX7_supportBut_X7_firmBelow : GoodIn wsX7_supportBut (wsV RX7 101 RX7 yX7_firmBelow wsX7_firmBelow) := goodIn_app (goodIn_of _ (by decide +kernel)) ggX7_supportBut_X7_firmBelow
set_option maxRecDepth 20000 in
theorem ggX7_supportBut_X7_isOnSlope : GoodIn wsX7_supportBut wsX7_isOnSlope := goodIn_ca (goodIn_r _ [49, 10, 11, 12, 4, 13, 14, 15, 16, 17, 18, 19, 20, 21, 22, 23, 24, 25, 26, 27, 28, 29, 30, 31, 32, 33, 34, 35, 36, 50, 51, 52, 53, 73, 74, 75, 76, 77, 78, 79, 80, 81, 82, 83, 84, 85, 86, 87, 88, 89] (by decide +kernel) (by decide +kernel)) (goodIn_sub (fun _ h => List.mem_cons_of_mem _ (List.mem_append_right _ h)) (by decide +kernel))
set_option maxRecDepth 20000 in
theorem gX7_supportBut_X7_isOnSlope : GoodIn wsX7_supportBut (wsV RX7 104 RX7 yX7_isOnSlope wsX7_isOnSlope) := goodIn_app (goodIn_of _ (by decide +kernel)) ggX7_supportBut_X7_isOnSlope
set_option maxRecDepth 20000 in
theorem ggX7_supportBut_X7_of : GoodIn wsX7_supportBut wsX7_of := goodIn_ca (goodIn_r _ [17, 18, 73, 74, 75, 76, 77, 78, 79, 80, 81, 82, 83, 84, 85, 86, 87, 88, 89] (by decide +kernel) (by decide +kernel)) (goodIn_sub (fun _ h => List.mem_cons_of_mem _ (List.mem_append_right _ h)) (by decide +kernel))
set_option maxRecDepth 20000 in
theorem gX7_supportBut_X7_of : GoodIn wsX7_supportBut (wsV RX7 68 RX7 yX7_of wsX7_of) := goodIn_app (goodIn_of _ (by decide +kernel)) ggX7_supportBut_X7_of
set_option maxRecDepth 20000 in
theorem ggX7_supportBut_X7_hasOneWay : GoodIn wsX7_supportBut wsX7_hasOneWay := goodIn_ca (goodIn_r _ [57, 58, 59, 25, 60, 23, 24, 26, 14, 15, 16, 4, 17, 18, 27, 28, 29, 30, 31, 32, 33, 73, 74, 75, 76, 77, 78, 79, 80, 81, 82, 83, 84, 85, 86, 87, 88, 89] (by decide +kernel) (by decide +kernel)) (goodIn_sub (fun _ h => List.mem_cons_of_mem _ (List.mem_append_right _ h)) (by decide +kernel))
set_option maxRecDepth 20000 in
theorem gX7_supportBut_X7_hasOneWay : GoodIn wsX7_supportBut (wsV RX7 107 RX7 yX7_hasOneWay wsX7_hasOneWay) := goodIn_app (goodIn_of _ (by decide +kernel)) ggX7_supportBut_X7_hasOneWay
set_option maxRecDepth 20000 in
theorem ggX7_supportBut_X7_platformBelow : GoodIn wsX7_supportBut wsX7_platformBelow := goodIn_ca (goodIn_r _ [64, 18, 65, 66, 67, 4, 68, 69, 70, 71, 72, 14, 15, 16, 17, 73, 74, 75, 76, 77, 78, 79, 80, 81, 82, 83, 84, 85, 86, 87, 88, 89] (by decide +kernel) (by decide +kernel)) (goodIn_sub (fun _ h => List.mem_cons_of_mem _ (List.mem_append_right _ h)) (by decide +kernel))
set_option maxRecDepth 20000 in
theorem gX7_supportBut_X7_platformBelow : GoodIn wsX7_supportBut (wsV RX7 110 RX7 yX7_platformBelow wsX7_platformBelow) := goodIn_app (goodIn_of _ (by decide +kernel)) ggX7_supportBut_X7_platformBelow
theorem dX7_supportBut_0 : decode cX7_supportBut 0 = .ok (.aload_n 0, 1) := by decide +kernel
theorem dX7_supportBut_1 : decode cX7_supportBut 1 = .ok (.iload_n 1, 1) := by decide +kernel
theorem dX7_supportBut_2 : decode cX7_supportBut 2 = .ok (.iload_n 2, 1) := by decide +kernel
theorem dX7_supportBut_3 : decode cX7_supportBut 3 = .ok (.iload_n 3, 1) := by decide +kernel
theorem dX7_supportBut_4 : decode cX7_supportBut 4 = .ok (.invokevirtual 101, 3) := by decide +kernel
theorem dX7_supportBut_7 : decode cX7_supportBut 7 = .ok (.ifCond .eq 7, 3) := by decide +kernel
theorem dX7_supportBut_10 : decode cX7_supportBut 10 = .ok (.iconst 1, 1) := by decide +kernel
theorem dX7_supportBut_11 : decode cX7_supportBut 11 = .ok (.goto 4, 3) := by decide +kernel
theorem dX7_supportBut_14 : decode cX7_supportBut 14 = .ok (.iconst 0, 1) := by decide +kernel
theorem dX7_supportBut_15 : decode cX7_supportBut 15 = .ok (.aload_n 0, 1) := by decide +kernel
theorem dX7_supportBut_16 : decode cX7_supportBut 16 = .ok (.iload_n 1, 1) := by decide +kernel
theorem dX7_supportBut_17 : decode cX7_supportBut 17 = .ok (.iload_n 2, 1) := by decide +kernel
theorem dX7_supportBut_18 : decode cX7_supportBut 18 = .ok (.iload_n 3, 1) := by decide +kernel
theorem dX7_supportBut_19 : decode cX7_supportBut 19 = .ok (.invokevirtual 104, 3) := by decide +kernel
theorem dX7_supportBut_22 : decode cX7_supportBut 22 = .ok (.ifCond .eq 7, 3) := by decide +kernel
theorem dX7_supportBut_25 : decode cX7_supportBut 25 = .ok (.iconst 4, 1) := by decide +kernel
theorem dX7_supportBut_26 : decode cX7_supportBut 26 = .ok (.goto 4, 3) := by decide +kernel
theorem dX7_supportBut_29 : decode cX7_supportBut 29 = .ok (.iconst 0, 1) := by decide +kernel
theorem dX7_supportBut_30 : decode cX7_supportBut 30 = .ok (.iadd, 1) := by decide +kernel
theorem dX7_supportBut_31 : decode cX7_supportBut 31 = .ok (.istore 5, 2) := by decide +kernel
theorem dX7_supportBut_33 : decode cX7_supportBut 33 = .ok (.aload_n 0, 1) := by decide +kernel
theorem dX7_supportBut_34 : decode cX7_supportBut 34 = .ok (.iload_n 1, 1) := by decide +kernel
theorem dX7_supportBut_35 : decode cX7_supportBut 35 = .ok (.bipush 6, 2) := by decide +kernel
theorem dX7_supportBut_37 : decode cX7_supportBut 37 = .ok (.invokevirtual 68, 3) := by decide +kernel
theorem dX7_supportBut_40 : decode cX7_supportBut 40 = .ok (.ifCond .le 6, 3) := by decide +kernel
theorem dX7_supportBut_43 : decode cX7_supportBut 43 = .ok (.iload 5, 2) := by decide +kernel
theorem dX7_supportBut_45 : decode cX7_supportBut 45 = .ok (.ireturn, 1) := by decide +kernel
theorem dX7_supportBut_46 : decode cX7_supportBut 46 = .ok (.iload 5, 2) := by decide +kernel
theorem dX7_supportBut_48 : decode cX7_supportBut 48 = .ok (.aload_n 0, 1) := by decide +kernel
theorem dX7_supportBut_49 : decode cX7_supportBut 49 = .ok (.iload_n 1, 1) := by decide +kernel
theorem dX7_supportBut_50 : decode cX7_supportBut 50 = .ok (.iload_n 2, 1) := by decide +kernel
theorem dX7_supportBut_51 : decode cX7_supportBut 51 = .ok (.iload_n 3, 1) := by decide +kernel
theorem dX7_supportBut_52 : decode cX7_supportBut 52 = .ok (.invokevirtual 107, 3) := by decide +kernel
theorem dX7_supportBut_55 : decode cX7_supportBut 55 = .ok (.ifCond .eq 7, 3) := by decide +kernel
theorem dX7_supportBut_58 : decode cX7_supportBut 58 = .ok (.iconst 2, 1) := by decide +kernel
theorem dX7_supportBut_59 : decode cX7_supportBut 59 = .ok (.goto 4, 3) := by decide +kernel
theorem dX7_supportBut_62 : decode cX7_supportBut 62 = .ok (.iconst 0, 1) := by decide +kernel
theorem dX7_supportBut_63 : decode cX7_supportBut 63 = .ok (.iadd, 1) := by decide +kernel
theorem dX7_supportBut_64 : decode cX7_supportBut 64 = .ok (.aload_n 0, 1) := by decide +kernel
theorem dX7_supportBut_65 : decode cX7_supportBut 65 = .ok (.iload_n 1, 1) := by decide +kernel
theorem dX7_supportBut_66 : decode cX7_supportBut 66 = .ok (.iload_n 2, 1) := by decide +kernel
theorem dX7_supportBut_67 : decode cX7_supportBut 67 = .ok (.iload_n 3, 1) := by decide +kernel
theorem dX7_supportBut_68 : decode cX7_supportBut 68 = .ok (.iload 4, 2) := by decide +kernel
theorem dX7_supportBut_70 : decode cX7_supportBut 70 = .ok (.invokevirtual 110, 3) := by decide +kernel
theorem dX7_supportBut_73 : decode cX7_supportBut 73 = .ok (.ifCond .lt 8, 3) := by decide +kernel
theorem dX7_supportBut_76 : decode cX7_supportBut 76 = .ok (.bipush 8, 2) := by decide +kernel
theorem dX7_supportBut_78 : decode cX7_supportBut 78 = .ok (.goto 4, 3) := by decide +kernel
theorem dX7_supportBut_81 : decode cX7_supportBut 81 = .ok (.iconst 0, 1) := by decide +kernel
theorem dX7_supportBut_82 : decode cX7_supportBut 82 = .ok (.iadd, 1) := by decide +kernel
theorem dX7_supportBut_83 : decode cX7_supportBut 83 = .ok (.ireturn, 1) := by decide +kernel
set_option maxRecDepth 20000 in
theorem ggX7_supportAt_X7_supportBut : GoodIn wsX7_supportAt wsX7_supportBut := goodIn_ca (goodIn_r _ [5, 6, 7, 8, 4, 9, 10, 11, 12, 13, 14, 15, 16, 17, 18, 19, 20, 21, 22, 23, 24, 25, 26, 27, 28, 29, 30, 31, 32, 33, 34, 35, 36, 37, 38, 39, 40, 41, 42, 43, 44, 45, 46, 47, 48, 49, 50, 51, 52, 53, 54, 55, 56, 57, 58, 59, 60, 61, 62, 63, 64, 65, 66, 67, 68, 69, 70, 71, 72, 73, 74, 75, 76, 77, 78, 79, 80, 81, 82, 83, 84, 85, 86, 87, 88, 89, 90, 91, 92, 93] (by decide +kernel) (by decide +kernel)) (goodIn_sub (fun _ h => List.mem_cons_of_mem _ (List.mem_append_right _ h)) (by decide +kernel))
set_option maxRecDepth 20000 in
theorem gX7_supportAt_X7_supportBut : GoodIn wsX7_supportAt (wsV RX7 114 RX7 yX7_supportBut wsX7_supportBut) := goodIn_app (goodIn_of _ (by decide +kernel)) ggX7_supportAt_X7_supportBut
theorem dX7_supportAt_0 : decode cX7_supportAt 0 = .ok (.aload_n 0, 1) := by decide +kernel
theorem dX7_supportAt_1 : decode cX7_supportAt 1 = .ok (.iload_n 1, 1) := by decide +kernel
theorem dX7_supportAt_2 : decode cX7_supportAt 2 = .ok (.iload_n 2, 1) := by decide +kernel
theorem dX7_supportAt_3 : decode cX7_supportAt 3 = .ok (.iload_n 3, 1) := by decide +kernel
theorem dX7_supportAt_4 : decode cX7_supportAt 4 = .ok (.iconst (-1), 1) := by decide +kernel
theorem dX7_supportAt_5 : decode cX7_supportAt 5 = .ok (.invokevirtual 114, 3) := by decide +kernel
theorem dX7_supportAt_8 : decode cX7_supportAt 8 = .ok (.ireturn, 1) := by decide +kernel
set_option maxRecDepth 20000 in
theorem ggX7_supportOf_X7_of : GoodIn wsX7_supportOf wsX7_of := goodIn_ca (goodIn_r _ [5, 6, 81, 82, 83, 84, 85, 86, 87, 88, 89, 90, 91, 92, 93, 94, 95, 96, 97] (by decide +kernel) (by decide +kernel)) (goodIn_sub (fun _ h => List.mem_cons_of_mem _ (List.mem_append_right _ h)) (by decide +kernel))
set_option maxRecDepth 20000 in
theorem gX7_supportOf_X7_of : GoodIn wsX7_supportOf (wsV RX7 68 RX7 yX7_of wsX7_of) := goodIn_app (goodIn_of _ (by decide +kernel)) ggX7_supportOf_X7_of
set_option maxRecDepth 20000 in
theorem ggX7_supportOf_X7_supportAt : GoodIn wsX7_supportOf wsX7_supportAt := goodIn_ca (goodIn_r _ [10, 11, 12, 13, 4, 14, 15, 16, 17, 18, 19, 20, 21, 22, 23, 24, 25, 26, 1, 2, 3, 5, 6, 27, 28, 29, 30, 31, 32, 33, 34, 35, 36, 37, 38, 39, 40, 41, 42, 43, 44, 45, 46, 47, 48, 49, 50, 51, 52, 53, 54, 55, 56, 57, 58, 59, 60, 61, 62, 63, 64, 65, 66, 67, 68, 69, 70, 71, 72, 73, 74, 75, 76, 77, 78, 79, 80, 81, 82, 83, 84, 85, 86, 87, 88, 89, 90, 91, 92, 93, 94, 95, 96, 97] (by decide +kernel) (by decide +kernel)) (goodIn_sub (fun _ h => List.mem_cons_of_mem _ (List.mem_append_right _ h)) (by decide +kernel))
set_option maxRecDepth 20000 in
theorem gX7_supportOf_X7_supportAt : GoodIn wsX7_supportOf (wsV RX7 117 RX7 yX7_supportAt wsX7_supportAt) := goodIn_app (goodIn_of _ (by decide +kernel)) ggX7_supportOf_X7_supportAt
theorem dX7_supportOf_0 : decode cX7_supportOf 0 = .ok (.aload_n 0, 1) := by decide +kernel
theorem dX7_supportOf_1 : decode cX7_supportOf 1 = .ok (.iload_n 1, 1) := by decide +kernel
theorem dX7_supportOf_2 : decode cX7_supportOf 2 = .ok (.aload_n 0, 1) := by decide +kernel
theorem dX7_supportOf_3 : decode cX7_supportOf 3 = .ok (.iload_n 1, 1) := by decide +kernel
theorem dX7_supportOf_4 : decode cX7_supportOf 4 = .ok (.iconst 0, 1) := by decide +kernel
theorem dX7_supportOf_5 : decode cX7_supportOf 5 = .ok (.invokevirtual 68, 3) := by decide +kernel
theorem dX7_supportOf_8 : decode cX7_supportOf 8 = .ok (.aload_n 0, 1) := by decide +kernel
theorem dX7_supportOf_9 : decode cX7_supportOf 9 = .ok (.iload_n 1, 1) := by decide +kernel
theorem dX7_supportOf_10 : decode cX7_supportOf 10 = .ok (.iconst 1, 1) := by decide +kernel
theorem dX7_supportOf_11 : decode cX7_supportOf 11 = .ok (.invokevirtual 68, 3) := by decide +kernel
theorem dX7_supportOf_14 : decode cX7_supportOf 14 = .ok (.invokevirtual 117, 3) := by decide +kernel
theorem dX7_supportOf_17 : decode cX7_supportOf 17 = .ok (.ireturn, 1) := by decide +kernel
set_option maxRecDepth 20000 in
theorem ggX7_doesStand_X7_of : GoodIn wsX7_doesStand wsX7_of := goodIn_ca (goodIn_r _ [5, 6, 85, 86, 87, 88, 89, 90, 91, 92, 93, 94, 95, 96, 97, 98, 99, 100, 101] (by decide +kernel) (by decide +kernel)) (goodIn_sub (fun _ h => List.mem_cons_of_mem _ (List.mem_append_right _ h)) (by decide +kernel))
set_option maxRecDepth 20000 in
theorem gX7_doesStand_X7_of : GoodIn wsX7_doesStand (wsV RX7 68 RX7 yX7_of wsX7_of) := goodIn_app (goodIn_of _ (by decide +kernel)) ggX7_doesStand_X7_of
set_option maxRecDepth 20000 in
theorem ggX7_doesStand_X7_supportOf : GoodIn wsX7_doesStand wsX7_supportOf := goodIn_ca (goodIn_r _ [10, 1, 2, 3, 4, 5, 6, 11, 12, 13, 14, 15, 16, 17, 18, 19, 20, 21, 22, 23, 24, 25, 26, 27, 28, 29, 30, 31, 32, 33, 34, 35, 36, 37, 38, 39, 40, 41, 42, 43, 44, 45, 46, 47, 48, 49, 50, 51, 52, 53, 54, 55, 56, 57, 58, 59, 60, 61, 62, 63, 64, 65, 66, 67, 68, 69, 70, 71, 72, 73, 74, 75, 76, 77, 78, 79, 80, 81, 82, 83, 84, 85, 86, 87, 88, 89, 90, 91, 92, 93, 94, 95, 96, 97, 98, 99, 100, 101] (by decide +kernel) (by decide +kernel)) (goodIn_sub (fun _ h => List.mem_cons_of_mem _ (List.mem_append_right _ h)) (by decide +kernel))
set_option maxRecDepth 20000 in
theorem gX7_doesStand_X7_supportOf : GoodIn wsX7_doesStand (wsV RX7 120 RX7 yX7_supportOf wsX7_supportOf) := goodIn_app (goodIn_of _ (by decide +kernel)) ggX7_doesStand_X7_supportOf
theorem dX7_doesStand_0 : decode cX7_doesStand 0 = .ok (.aload_n 0, 1) := by decide +kernel
theorem dX7_doesStand_1 : decode cX7_doesStand 1 = .ok (.iload_n 1, 1) := by decide +kernel
theorem dX7_doesStand_2 : decode cX7_doesStand 2 = .ok (.iconst 3, 1) := by decide +kernel
theorem dX7_doesStand_3 : decode cX7_doesStand 3 = .ok (.invokevirtual 68, 3) := by decide +kernel
theorem dX7_doesStand_6 : decode cX7_doesStand 6 = .ok (.ifCond .gt 15, 3) := by decide +kernel
theorem dX7_doesStand_9 : decode cX7_doesStand 9 = .ok (.aload_n 0, 1) := by decide +kernel
theorem dX7_doesStand_10 : decode cX7_doesStand 10 = .ok (.iload_n 1, 1) := by decide +kernel
theorem dX7_doesStand_11 : decode cX7_doesStand 11 = .ok (.invokevirtual 120, 3) := by decide +kernel
theorem dX7_doesStand_14 : decode cX7_doesStand 14 = .ok (.ifCond .eq 7, 3) := by decide +kernel
theorem dX7_doesStand_17 : decode cX7_doesStand 17 = .ok (.iconst 1, 1) := by decide +kernel
theorem dX7_doesStand_18 : decode cX7_doesStand 18 = .ok (.goto 4, 3) := by decide +kernel
theorem dX7_doesStand_21 : decode cX7_doesStand 21 = .ok (.iconst 0, 1) := by decide +kernel
theorem dX7_doesStand_22 : decode cX7_doesStand 22 = .ok (.ireturn, 1) := by decide +kernel
set_option maxRecDepth 20000 in
theorem ggX7_movesAcross_X7_of : GoodIn wsX7_movesAcross wsX7_of := goodIn_ca (goodIn_r _ [5, 6, 93, 94, 95, 96, 97, 98, 99, 100, 101, 102, 103, 104, 105, 106, 107, 108, 109] (by decide +kernel) (by decide +kernel)) (goodIn_sub (fun _ h => List.mem_cons_of_mem _ (List.mem_append_right _ h)) (by decide +kernel))
set_option maxRecDepth 20000 in
theorem gX7_movesAcross_X7_of : GoodIn wsX7_movesAcross (wsV RX7 68 RX7 yX7_of wsX7_of) := goodIn_app (goodIn_of _ (by decide +kernel)) ggX7_movesAcross_X7_of
set_option maxRecDepth 20000 in
theorem ggX7_movesAcross_X7_foot : GoodIn wsX7_movesAcross wsX7_foot := goodIn_ca (goodIn_r _ [10, 1, 2, 3, 4, 5, 6, 93, 94, 95, 96, 97, 98, 99, 100, 101, 102, 103, 104, 105, 106, 107, 108, 109] (by decide +kernel) (by decide +kernel)) (goodIn_sub (fun _ h => List.mem_cons_of_mem _ (List.mem_append_right _ h)) (by decide +kernel))
set_option maxRecDepth 20000 in
theorem gX7_movesAcross_X7_foot : GoodIn wsX7_movesAcross (wsV RX7 71 RX7 yX7_foot wsX7_foot) := goodIn_app (goodIn_of _ (by decide +kernel)) ggX7_movesAcross_X7_foot
set_option maxRecDepth 20000 in
theorem ggX7_movesAcross_X7_kindAt : GoodIn wsX7_movesAcross wsX7_kindAt := goodIn_ca (goodIn_r _ [14, 15, 16, 17, 18, 19, 20, 4, 21, 22, 23, 24, 25, 6, 93, 94, 95, 96, 97, 98, 99, 100, 101, 102, 103, 104, 105, 106, 107, 108, 109] (by decide +kernel) (by decide +kernel)) (goodIn_sub (fun _ h => List.mem_cons_of_mem _ (List.mem_append_right _ h)) (by decide +kernel))
set_option maxRecDepth 20000 in
theorem gX7_movesAcross_X7_kindAt : GoodIn wsX7_movesAcross (wsV RX7 65 RX7 yX7_kindAt wsX7_kindAt) := goodIn_app (goodIn_of _ (by decide +kernel)) ggX7_movesAcross_X7_kindAt
set_option maxRecDepth 20000 in
theorem ggX7_movesAcross_X7_isSlope : GoodIn wsX7_movesAcross wsX7_isSlope := goodIn_r _ [28] (by decide +kernel) (by decide +kernel)
set_option maxRecDepth 20000 in
theorem gX7_movesAcross_X7_isSlope : GoodIn wsX7_movesAcross (va_wsS RX7 74 yX7_isSlope wsX7_isSlope) := goodIn_app (goodIn_of _ (by decide +kernel)) ggX7_movesAcross_X7_isSlope
set_option maxRecDepth 20000 in
theorem ggX7_movesAcross_X7_surfaceAt : GoodIn wsX7_movesAcross wsX7_surfaceAt := goodIn_ca (goodIn_r _ [32, 19, 20, 4, 21, 15, 16, 17, 18, 11, 12, 13, 14, 22, 23, 24, 25, 6, 93, 94, 95, 96, 97, 98, 99, 100, 101, 102, 103, 104, 105, 106, 107, 108, 109] (by decide +kernel) (by decide +kernel)) (goodIn_sub (fun _ h => List.mem_cons_of_mem _ (List.mem_append_right _ h)) (by decide +kernel))
set_option maxRecDepth 20000 in
theorem gX7_movesAcross_X7_surfaceAt : GoodIn wsX7_movesAcross (wsV RX7 91 RX7 yX7_surfaceAt wsX7_surfaceAt) := goodIn_app (goodIn_of _ (by decide +kernel)) ggX7_movesAcross_X7_surfaceAt
set_option maxRecDepth 20000 in
theorem ggX7_movesAcross_X7_blocks : GoodIn wsX7_movesAcross wsX7_blocks := goodIn_ca (goodIn_r _ [36, 37, 38, 39, 4, 40, 7, 8, 9, 10, 1, 2, 3, 5, 6, 11, 12, 13, 14, 15, 16, 17, 18, 19, 20, 21, 22, 23, 24, 25, 26, 27, 28, 41, 42, 43, 44, 45, 46, 47, 48, 49, 93, 94, 95, 96, 97, 98, 99, 100, 101, 102, 103, 104, 105, 106, 107, 108, 109] (by decide +kernel) (by decide +kernel)) (goodIn_sub (fun _ h => List.mem_cons_of_mem _ (List.mem_append_right _ h)) (by decide +kernel))
set_option maxRecDepth 20000 in
theorem gX7_movesAcross_X7_blocks : GoodIn wsX7_movesAcross (wsV RX7 123 RX7 yX7_blocks wsX7_blocks) := goodIn_app (goodIn_of _ (by decide +kernel)) ggX7_movesAcross_X7_blocks
set_option maxRecDepth 20000 in
theorem ggX7_movesAcross_X7_supportOf : GoodIn wsX7_movesAcross wsX7_supportOf := goodIn_ca (goodIn_r _ [53, 1, 2, 3, 4, 5, 6, 54, 55, 56, 57, 58, 59, 60, 61, 62, 63, 64, 65, 37, 38, 39, 40, 7, 8, 9, 10, 11, 12, 13, 14, 15, 16, 17, 18, 19, 20, 21, 22, 23, 24, 25, 26, 27, 28, 41, 42, 43, 44, 45, 46, 47, 48, 49, 66, 67, 68, 69, 29, 30, 31, 32, 70, 71, 72, 73, 74, 75, 76, 77, 78, 79, 80, 81, 82, 83, 84, 85, 86, 87, 88, 93, 94, 95, 96, 97, 98, 99, 100, 101, 102, 103, 104, 105, 106, 107, 108, 109] (by decide +kernel) (by decide +kernel)) (goodIn_sub (fun _ h => List.mem_cons_of_mem _ (List.mem_append_right _ h)) (by decide +kernel))
set_option maxRecDepth 20000 in
theorem gX7_movesAcross_X7_supportOf : GoodIn wsX7_movesAcross (wsV RX7 120 RX7 yX7_supportOf wsX7_supportOf) := goodIn_app (goodIn_of _ (by decide +kernel)) ggX7_movesAcross_X7_supportOf
set_option maxRecDepth 20000 in
theorem ggX7_movesAcross_X7_supportAt : GoodIn wsX7_movesAcross wsX7_supportAt := goodIn_ca (goodIn_r _ [57, 58, 59, 60, 4, 61, 62, 63, 64, 65, 37, 38, 39, 40, 7, 8, 9, 10, 1, 2, 3, 5, 6, 11, 12, 13, 14, 15, 16, 17, 18, 19, 20, 21, 22, 23, 24, 25, 26, 27, 28, 41, 42, 43, 44, 45, 46, 47, 48, 49, 66, 67, 68, 69, 29, 30, 31, 32, 70, 71, 72, 73, 74, 75, 76, 77, 78, 79, 80, 81, 82, 83, 84, 85, 86, 87, 88, 93, 94, 95, 96, 97, 98, 99, 100, 101, 102, 103, 104, 105, 106, 107, 108, 109] (by decide +kernel) (by decide +kernel)) (goodIn_sub (fun _ h => List.mem_cons_of_mem _ (List.mem_append_right _ h)) (by decide +kernel))
set_option maxRecDepth 20000 in
theorem gX7_movesAcross_X7_supportAt : GoodIn wsX7_movesAcross (wsV RX7 117 RX7 yX7_supportAt wsX7_supportAt) := goodIn_app (goodIn_of _ (by decide +kernel)) ggX7_movesAcross_X7_supportAt
set_option maxRecDepth 20000 in
theorem ggX7_movesAcross_X7_sets : GoodIn wsX7_movesAcross wsX7_sets := goodIn_ca (goodIn_r _ [92, 6, 93, 94, 95, 96, 97, 98, 99, 100, 101, 102, 103, 104, 105, 106, 107, 108, 109] (by decide +kernel) (by decide +kernel)) (goodIn_sub (fun _ h => List.mem_cons_of_mem _ (List.mem_append_right _ h)) (by decide +kernel))
set_option maxRecDepth 20000 in
theorem gX7_movesAcross_X7_sets : GoodIn wsX7_movesAcross (wsV RX7 126 RX7 yX7_sets wsX7_sets) := goodIn_app (goodIn_of _ (by decide +kernel)) ggX7_movesAcross_X7_sets
theorem dX7_movesAcross_0 : decode cX7_movesAcross 0 = .ok (.aload_n 0, 1) := by decide +kernel
theorem dX7_movesAcross_1 : decode cX7_movesAcross 1 = .ok (.iload_n 1, 1) := by decide +kernel
theorem dX7_movesAcross_2 : decode cX7_movesAcross 2 = .ok (.iconst 0, 1) := by decide +kernel
theorem dX7_movesAcross_3 : decode cX7_movesAcross 3 = .ok (.invokevirtual 68, 3) := by decide +kernel
theorem dX7_movesAcross_6 : decode cX7_movesAcross 6 = .ok (.iload_n 2, 1) := by decide +kernel
theorem dX7_movesAcross_7 : decode cX7_movesAcross 7 = .ok (.iadd, 1) := by decide +kernel
theorem dX7_movesAcross_8 : decode cX7_movesAcross 8 = .ok (.istore_n 3, 1) := by decide +kernel
theorem dX7_movesAcross_9 : decode cX7_movesAcross 9 = .ok (.aload_n 0, 1) := by decide +kernel
theorem dX7_movesAcross_10 : decode cX7_movesAcross 10 = .ok (.iload_n 1, 1) := by decide +kernel
theorem dX7_movesAcross_11 : decode cX7_movesAcross 11 = .ok (.iconst 1, 1) := by decide +kernel
theorem dX7_movesAcross_12 : decode cX7_movesAcross 12 = .ok (.invokevirtual 68, 3) := by decide +kernel
theorem dX7_movesAcross_15 : decode cX7_movesAcross 15 = .ok (.istore 4, 2) := by decide +kernel
theorem dX7_movesAcross_17 : decode cX7_movesAcross 17 = .ok (.aload_n 0, 1) := by decide +kernel
theorem dX7_movesAcross_18 : decode cX7_movesAcross 18 = .ok (.iload_n 1, 1) := by decide +kernel
theorem dX7_movesAcross_19 : decode cX7_movesAcross 19 = .ok (.iload_n 3, 1) := by decide +kernel
theorem dX7_movesAcross_20 : decode cX7_movesAcross 20 = .ok (.invokevirtual 71, 3) := by decide +kernel
theorem dX7_movesAcross_23 : decode cX7_movesAcross 23 = .ok (.istore 5, 2) := by decide +kernel
theorem dX7_movesAcross_25 : decode cX7_movesAcross 25 = .ok (.iload 4, 2) := by decide +kernel
theorem dX7_movesAcross_27 : decode cX7_movesAcross 27 = .ok (.istore 6, 2) := by decide +kernel
theorem dX7_movesAcross_29 : decode cX7_movesAcross 29 = .ok (.aload_n 0, 1) := by decide +kernel
theorem dX7_movesAcross_30 : decode cX7_movesAcross 30 = .ok (.iload 5, 2) := by decide +kernel
theorem dX7_movesAcross_32 : decode cX7_movesAcross 32 = .ok (.iload 4, 2) := by decide +kernel
theorem dX7_movesAcross_34 : decode cX7_movesAcross 34 = .ok (.invokevirtual 65, 3) := by decide +kernel
theorem dX7_movesAcross_37 : decode cX7_movesAcross 37 = .ok (.invokestatic 74, 3) := by decide +kernel
theorem dX7_movesAcross_40 : decode cX7_movesAcross 40 = .ok (.ifCond .eq 42, 3) := by decide +kernel
theorem dX7_movesAcross_43 : decode cX7_movesAcross 43 = .ok (.aload_n 0, 1) := by decide +kernel
theorem dX7_movesAcross_44 : decode cX7_movesAcross 44 = .ok (.iload 5, 2) := by decide +kernel
theorem dX7_movesAcross_46 : decode cX7_movesAcross 46 = .ok (.iload 4, 2) := by decide +kernel
theorem dX7_movesAcross_48 : decode cX7_movesAcross 48 = .ok (.invokevirtual 91, 3) := by decide +kernel
theorem dX7_movesAcross_51 : decode cX7_movesAcross 51 = .ok (.istore 7, 2) := by decide +kernel
theorem dX7_movesAcross_53 : decode cX7_movesAcross 53 = .ok (.iload 7, 2) := by decide +kernel
theorem dX7_movesAcross_55 : decode cX7_movesAcross 55 = .ok (.iload 4, 2) := by decide +kernel
theorem dX7_movesAcross_57 : decode cX7_movesAcross 57 = .ok (.iconst 1, 1) := by decide +kernel
theorem dX7_movesAcross_58 : decode cX7_movesAcross 58 = .ok (.iadd, 1) := by decide +kernel
theorem dX7_movesAcross_59 : decode cX7_movesAcross 59 = .ok (.if_icmp .le 5, 3) := by decide +kernel
theorem dX7_movesAcross_62 : decode cX7_movesAcross 62 = .ok (.iconst 0, 1) := by decide +kernel
theorem dX7_movesAcross_63 : decode cX7_movesAcross 63 = .ok (.ireturn, 1) := by decide +kernel
theorem dX7_movesAcross_64 : decode cX7_movesAcross 64 = .ok (.iload 7, 2) := by decide +kernel
theorem dX7_movesAcross_66 : decode cX7_movesAcross 66 = .ok (.iload 4, 2) := by decide +kernel
theorem dX7_movesAcross_68 : decode cX7_movesAcross 68 = .ok (.iconst 1, 1) := by decide +kernel
theorem dX7_movesAcross_69 : decode cX7_movesAcross 69 = .ok (.iadd, 1) := by decide +kernel
theorem dX7_movesAcross_70 : decode cX7_movesAcross 70 = .ok (.if_icmp .ne 8, 3) := by decide +kernel
theorem dX7_movesAcross_73 : decode cX7_movesAcross 73 = .ok (.iload 7, 2) := by decide +kernel
theorem dX7_movesAcross_75 : decode cX7_movesAcross 75 = .ok (.goto 5, 3) := by decide +kernel
theorem dX7_movesAcross_78 : decode cX7_movesAcross 78 = .ok (.iload 4, 2) := by decide +kernel
theorem dX7_movesAcross_80 : decode cX7_movesAcross 80 = .ok (.istore 6, 2) := by decide +kernel
theorem dX7_movesAcross_82 : decode cX7_movesAcross 82 = .ok (.aload_n 0, 1) := by decide +kernel
theorem dX7_movesAcross_83 : decode cX7_movesAcross 83 = .ok (.iload_n 1, 1) := by decide +kernel
theorem dX7_movesAcross_84 : decode cX7_movesAcross 84 = .ok (.iload_n 3, 1) := by decide +kernel
theorem dX7_movesAcross_85 : decode cX7_movesAcross 85 = .ok (.iload 6, 2) := by decide +kernel
theorem dX7_movesAcross_87 : decode cX7_movesAcross 87 = .ok (.invokevirtual 123, 3) := by decide +kernel
theorem dX7_movesAcross_90 : decode cX7_movesAcross 90 = .ok (.ifCond .eq 5, 3) := by decide +kernel
theorem dX7_movesAcross_93 : decode cX7_movesAcross 93 = .ok (.iconst 0, 1) := by decide +kernel
theorem dX7_movesAcross_94 : decode cX7_movesAcross 94 = .ok (.ireturn, 1) := by decide +kernel
theorem dX7_movesAcross_95 : decode cX7_movesAcross 95 = .ok (.aload_n 0, 1) := by decide +kernel
theorem dX7_movesAcross_96 : decode cX7_movesAcross 96 = .ok (.iload_n 1, 1) := by decide +kernel
theorem dX7_movesAcross_97 : decode cX7_movesAcross 97 = .ok (.invokevirtual 120, 3) := by decide +kernel
theorem dX7_movesAcross_100 : decode cX7_movesAcross 100 = .ok (.ifCond .eq 7, 3) := by decide +kernel
theorem dX7_movesAcross_103 : decode cX7_movesAcross 103 = .ok (.iconst 1, 1) := by decide +kernel
theorem dX7_movesAcross_104 : decode cX7_movesAcross 104 = .ok (.goto 4, 3) := by decide +kernel
theorem dX7_movesAcross_107 : decode cX7_movesAcross 107 = .ok (.iconst 0, 1) := by decide +kernel
theorem dX7_movesAcross_108 : decode cX7_movesAcross 108 = .ok (.istore 7, 2) := by decide +kernel
theorem dX7_movesAcross_110 : decode cX7_movesAcross 110 = .ok (.iload 7, 2) := by decide +kernel
theorem dX7_movesAcross_112 : decode cX7_movesAcross 112 = .ok (.ifCond .eq 30, 3) := by decide +kernel
theorem dX7_movesAcross_115 : decode cX7_movesAcross 115 = .ok (.aload_n 0, 1) := by decide +kernel
theorem dX7_movesAcross_116 : decode cX7_movesAcross 116 = .ok (.iload_n 1, 1) := by decide +kernel
theorem dX7_movesAcross_117 : decode cX7_movesAcross 117 = .ok (.iload_n 3, 1) := by decide +kernel
theorem dX7_movesAcross_118 : decode cX7_movesAcross 118 = .ok (.iload 6, 2) := by decide +kernel
theorem dX7_movesAcross_120 : decode cX7_movesAcross 120 = .ok (.invokevirtual 117, 3) := by decide +kernel
theorem dX7_movesAcross_123 : decode cX7_movesAcross 123 = .ok (.ifCond .ne 19, 3) := by decide +kernel
theorem dX7_movesAcross_126 : decode cX7_movesAcross 126 = .ok (.aload_n 0, 1) := by decide +kernel
theorem dX7_movesAcross_127 : decode cX7_movesAcross 127 = .ok (.iload_n 1, 1) := by decide +kernel
theorem dX7_movesAcross_128 : decode cX7_movesAcross 128 = .ok (.iload_n 3, 1) := by decide +kernel
theorem dX7_movesAcross_129 : decode cX7_movesAcross 129 = .ok (.iload 6, 2) := by decide +kernel
theorem dX7_movesAcross_131 : decode cX7_movesAcross 131 = .ok (.iconst 1, 1) := by decide +kernel
theorem dX7_movesAcross_132 : decode cX7_movesAcross 132 = .ok (.isub, 1) := by decide +kernel
theorem dX7_movesAcross_133 : decode cX7_movesAcross 133 = .ok (.invokevirtual 117, 3) := by decide +kernel
theorem dX7_movesAcross_136 : decode cX7_movesAcross 136 = .ok (.ifCond .eq 6, 3) := by decide +kernel
theorem dX7_movesAcross_139 : decode cX7_movesAcross 139 = .ok (.iinc 6 (-1), 3) := by decide +kernel
theorem dX7_movesAcross_142 : decode cX7_movesAcross 142 = .ok (.aload_n 0, 1) := by decide +kernel
theorem dX7_movesAcross_143 : decode cX7_movesAcross 143 = .ok (.iload_n 1, 1) := by decide +kernel
theorem dX7_movesAcross_144 : decode cX7_movesAcross 144 = .ok (.iconst 0, 1) := by decide +kernel
theorem dX7_movesAcross_145 : decode cX7_movesAcross 145 = .ok (.iload_n 3, 1) := by decide +kernel
theorem dX7_movesAcross_146 : decode cX7_movesAcross 146 = .ok (.invokevirtual 126, 3) := by decide +kernel
theorem dX7_movesAcross_149 : decode cX7_movesAcross 149 = .ok (.aload_n 0, 1) := by decide +kernel
theorem dX7_movesAcross_150 : decode cX7_movesAcross 150 = .ok (.iload_n 1, 1) := by decide +kernel
theorem dX7_movesAcross_151 : decode cX7_movesAcross 151 = .ok (.iconst 1, 1) := by decide +kernel
theorem dX7_movesAcross_152 : decode cX7_movesAcross 152 = .ok (.iload 6, 2) := by decide +kernel
theorem dX7_movesAcross_154 : decode cX7_movesAcross 154 = .ok (.invokevirtual 126, 3) := by decide +kernel
theorem dX7_movesAcross_157 : decode cX7_movesAcross 157 = .ok (.iconst 1, 1) := by decide +kernel
theorem dX7_movesAcross_158 : decode cX7_movesAcross 158 = .ok (.ireturn, 1) := by decide +kernel
set_option maxRecDepth 20000 in
theorem ggX7_movesUp_X7_of : GoodIn wsX7_movesUp wsX7_of := goodIn_ca (goodIn_r _ [5, 6, 50, 51, 52, 53, 54, 55, 56, 57, 58, 59, 60, 61, 62, 63, 64, 65, 66] (by decide +kernel) (by decide +kernel)) (goodIn_sub (fun _ h => List.mem_cons_of_mem _ (List.mem_append_right _ h)) (by decide +kernel))
set_option maxRecDepth 20000 in
theorem gX7_movesUp_X7_of : GoodIn wsX7_movesUp (wsV RX7 68 RX7 yX7_of wsX7_of) := goodIn_app (goodIn_of _ (by decide +kernel)) ggX7_movesUp_X7_of
set_option maxRecDepth 20000 in
theorem ggX7_movesUp_X7_blocks : GoodIn wsX7_movesUp wsX7_blocks := goodIn_ca (goodIn_r _ [10, 11, 12, 13, 4, 14, 15, 16, 17, 18, 1, 2, 3, 5, 6, 19, 20, 21, 22, 23, 24, 25, 26, 27, 28, 29, 30, 31, 32, 33, 34, 35, 36, 37, 38, 39, 40, 41, 42, 43, 44, 45, 50, 51, 52, 53, 54, 55, 56, 57, 58, 59, 60, 61, 62, 63, 64, 65, 66] (by decide +kernel) (by decide +kernel)) (goodIn_sub (fun _ h => List.mem_cons_of_mem _ (List.mem_append_right _ h)) (by decide +kernel))
set_option maxRecDepth 20000 in
theorem gX7_movesUp_X7_blocks : GoodIn wsX7_movesUp (wsV RX7 123 RX7 yX7_blocks wsX7_blocks) := goodIn_app (goodIn_of _ (by decide +kernel)) ggX7_movesUp_X7_blocks
set_option maxRecDepth 20000 in
theorem ggX7_movesUp_X7_adds : GoodIn wsX7_movesUp wsX7_adds := goodIn_ca (goodIn_r _ [49, 6, 50, 51, 52, 53, 54, 55, 56, 57, 58, 59, 60, 61, 62, 63, 64, 65, 66] (by decide +kernel) (by decide +kernel)) (goodIn_sub (fun _ h => List.mem_cons_of_mem _ (List.mem_append_right _ h)) (by decide +kernel))
set_option maxRecDepth 20000 in
theorem gX7_movesUp_X7_adds : GoodIn wsX7_movesUp (wsV RX7 130 RX7 yX7_adds wsX7_adds) := goodIn_app (goodIn_of _ (by decide +kernel)) ggX7_movesUp_X7_adds
theorem dX7_movesUp_0 : decode cX7_movesUp 0 = .ok (.aload_n 0, 1) := by decide +kernel
theorem dX7_movesUp_1 : decode cX7_movesUp 1 = .ok (.iload_n 1, 1) := by decide +kernel
theorem dX7_movesUp_2 : decode cX7_movesUp 2 = .ok (.aload_n 0, 1) := by decide +kernel
theorem dX7_movesUp_3 : decode cX7_movesUp 3 = .ok (.iload_n 1, 1) := by decide +kernel
theorem dX7_movesUp_4 : decode cX7_movesUp 4 = .ok (.iconst 0, 1) := by decide +kernel
theorem dX7_movesUp_5 : decode cX7_movesUp 5 = .ok (.invokevirtual 68, 3) := by decide +kernel
theorem dX7_movesUp_8 : decode cX7_movesUp 8 = .ok (.aload_n 0, 1) := by decide +kernel
theorem dX7_movesUp_9 : decode cX7_movesUp 9 = .ok (.iload_n 1, 1) := by decide +kernel
theorem dX7_movesUp_10 : decode cX7_movesUp 10 = .ok (.iconst 1, 1) := by decide +kernel
theorem dX7_movesUp_11 : decode cX7_movesUp 11 = .ok (.invokevirtual 68, 3) := by decide +kernel
theorem dX7_movesUp_14 : decode cX7_movesUp 14 = .ok (.iconst 1, 1) := by decide +kernel
theorem dX7_movesUp_15 : decode cX7_movesUp 15 = .ok (.iadd, 1) := by decide +kernel
theorem dX7_movesUp_16 : decode cX7_movesUp 16 = .ok (.invokevirtual 123, 3) := by decide +kernel
theorem dX7_movesUp_19 : decode cX7_movesUp 19 = .ok (.ifCond .eq 5, 3) := by decide +kernel
theorem dX7_movesUp_22 : decode cX7_movesUp 22 = .ok (.iconst 0, 1) := by decide +kernel
theorem dX7_movesUp_23 : decode cX7_movesUp 23 = .ok (.ireturn, 1) := by decide +kernel
theorem dX7_movesUp_24 : decode cX7_movesUp 24 = .ok (.aload_n 0, 1) := by decide +kernel
theorem dX7_movesUp_25 : decode cX7_movesUp 25 = .ok (.iload_n 1, 1) := by decide +kernel
theorem dX7_movesUp_26 : decode cX7_movesUp 26 = .ok (.iconst 1, 1) := by decide +kernel
theorem dX7_movesUp_27 : decode cX7_movesUp 27 = .ok (.iconst 1, 1) := by decide +kernel
theorem dX7_movesUp_28 : decode cX7_movesUp 28 = .ok (.invokevirtual 130, 3) := by decide +kernel
theorem dX7_movesUp_31 : decode cX7_movesUp 31 = .ok (.iconst 1, 1) := by decide +kernel
theorem dX7_movesUp_32 : decode cX7_movesUp 32 = .ok (.ireturn, 1) := by decide +kernel
set_option maxRecDepth 20000 in
theorem ggX7_movesDown_X7_supportOf : GoodIn wsX7_movesDown wsX7_supportOf := goodIn_ca (goodIn_r _ [5, 6, 7, 8, 4, 9, 10, 11, 12, 13, 14, 15, 16, 17, 18, 19, 20, 21, 22, 23, 24, 25, 26, 27, 28, 29, 30, 31, 32, 33, 34, 35, 36, 37, 38, 39, 40, 41, 42, 43, 44, 45, 46, 47, 48, 49, 50, 51, 52, 53, 54, 55, 56, 57, 58, 59, 60, 61, 62, 63, 64, 65, 66, 67, 68, 69, 70, 71, 72, 73, 74, 75, 76, 77, 78, 79, 80, 81, 82, 83, 84, 89, 90, 91, 92, 93, 94, 95, 96, 97, 98, 99, 100, 101, 102, 103, 104, 105] (by decide +kernel) (by decide +kernel)) (goodIn_sub (fun _ h => List.mem_cons_of_mem _ (List.mem_append_right _ h)) (by decide +kernel))
set_option maxRecDepth 20000 in
theorem gX7_movesDown_X7_supportOf : GoodIn wsX7_movesDown (wsV RX7 120 RX7 yX7_supportOf wsX7_supportOf) := goodIn_app (goodIn_of _ (by decide +kernel)) ggX7_movesDown_X7_supportOf
set_option maxRecDepth 20000 in
theorem ggX7_movesDown_X7_adds : GoodIn wsX7_movesDown wsX7_adds := goodIn_ca (goodIn_r _ [88, 10, 89, 90, 91, 92, 93, 94, 95, 96, 97, 98, 99, 100, 101, 102, 103, 104, 105] (by decide +kernel) (by decide +kernel)) (goodIn_sub (fun _ h => List.mem_cons_of_mem _ (List.mem_append_right _ h)) (by decide +kernel))
set_option maxRecDepth 20000 in
theorem gX7_movesDown_X7_adds : GoodIn wsX7_movesDown (wsV RX7 130 RX7 yX7_adds wsX7_adds) := goodIn_app (goodIn_of _ (by decide +kernel)) ggX7_movesDown_X7_adds
theorem dX7_movesDown_0 : decode cX7_movesDown 0 = .ok (.aload_n 0, 1) := by decide +kernel
theorem dX7_movesDown_1 : decode cX7_movesDown 1 = .ok (.iload_n 1, 1) := by decide +kernel
theorem dX7_movesDown_2 : decode cX7_movesDown 2 = .ok (.invokevirtual 120, 3) := by decide +kernel
theorem dX7_movesDown_5 : decode cX7_movesDown 5 = .ok (.ifCond .eq 5, 3) := by decide +kernel
theorem dX7_movesDown_8 : decode cX7_movesDown 8 = .ok (.iconst 0, 1) := by decide +kernel
theorem dX7_movesDown_9 : decode cX7_movesDown 9 = .ok (.ireturn, 1) := by decide +kernel
theorem dX7_movesDown_10 : decode cX7_movesDown 10 = .ok (.aload_n 0, 1) := by decide +kernel
theorem dX7_movesDown_11 : decode cX7_movesDown 11 = .ok (.iload_n 1, 1) := by decide +kernel
theorem dX7_movesDown_12 : decode cX7_movesDown 12 = .ok (.iconst 1, 1) := by decide +kernel
theorem dX7_movesDown_13 : decode cX7_movesDown 13 = .ok (.iconst (-1), 1) := by decide +kernel
theorem dX7_movesDown_14 : decode cX7_movesDown 14 = .ok (.invokevirtual 130, 3) := by decide +kernel
theorem dX7_movesDown_17 : decode cX7_movesDown 17 = .ok (.iconst 1, 1) := by decide +kernel
theorem dX7_movesDown_18 : decode cX7_movesDown 18 = .ok (.ireturn, 1) := by decide +kernel
set_option maxRecDepth 20000 in
theorem ggX7_carries_X7_plate : GoodIn wsX7_carries wsX7_plate := goodIn_ca (goodIn_r _ [5, 6, 105, 106, 107, 108, 109, 110, 111, 112, 113, 114, 115, 116, 117, 118, 119, 120, 121] (by decide +kernel) (by decide +kernel)) (goodIn_sub (fun _ h => List.mem_cons_of_mem _ (List.mem_append_right _ h)) (by decide +kernel))
set_option maxRecDepth 20000 in
theorem gX7_carries_X7_plate : GoodIn wsX7_carries (wsV RX7 94 RX7 yX7_plate wsX7_plate) := goodIn_app (goodIn_of _ (by decide +kernel)) ggX7_carries_X7_plate
set_option maxRecDepth 20000 in
theorem ggX7_carries_X7_movesAcross : GoodIn wsX7_carries wsX7_movesAcross := goodIn_ca (goodIn_r _ [10, 11, 12, 13, 4, 14, 6, 15, 16, 17, 18, 19, 20, 21, 22, 23, 24, 25, 26, 27, 28, 29, 30, 31, 32, 33, 34, 35, 36, 37, 38, 39, 40, 41, 42, 43, 44, 45, 46, 47, 48, 49, 50, 51, 52, 53, 54, 55, 56, 57, 58, 59, 60, 61, 62, 63, 64, 65, 66, 67, 68, 69, 70, 71, 72, 73, 74, 75, 76, 77, 78, 79, 80, 81, 82, 83, 84, 85, 86, 87, 88, 89, 90, 91, 92, 1, 2, 3, 5, 93, 94, 95, 96, 105, 106, 107, 108, 109, 110, 111, 112, 113, 114, 115, 116, 117, 118, 119, 120, 121] (by decide +kernel) (by decide +kernel)) (goodIn_sub (fun _ h => List.mem_cons_of_mem _ (List.mem_append_right _ h)) (by decide +kernel))
set_option maxRecDepth 20000 in
theorem gX7_carries_X7_movesAcross : GoodIn wsX7_carries (wsV RX7 133 RX7 yX7_movesAcross wsX7_movesAcross) := goodIn_app (goodIn_of _ (by decide +kernel)) ggX7_carries_X7_movesAcross
set_option maxRecDepth 20000 in
theorem ggX7_carries_X7_movesUp : GoodIn wsX7_carries wsX7_movesUp := goodIn_ca (goodIn_r _ [100, 11, 12, 13, 4, 14, 6, 41, 42, 43, 44, 45, 46, 47, 48, 15, 16, 17, 18, 19, 20, 21, 22, 23, 24, 25, 26, 27, 28, 29, 30, 31, 32, 33, 34, 35, 36, 49, 50, 51, 52, 53, 54, 55, 56, 57, 101, 102, 103, 104, 105, 106, 107, 108, 109, 110, 111, 112, 113, 114, 115, 116, 117, 118, 119, 120, 121] (by decide +kernel) (by decide +kernel)) (goodIn_sub (fun _ h => List.mem_cons_of_mem _ (List.mem_append_right _ h)) (by decide +kernel))
set_option maxRecDepth 20000 in
theorem gX7_carries_X7_movesUp : GoodIn wsX7_carries (wsV RX7 137 RX7 yX7_movesUp wsX7_movesUp) := goodIn_app (goodIn_of _ (by decide +kernel)) ggX7_carries_X7_movesUp
set_option maxRecDepth 20000 in
theorem ggX7_carries_X7_of : GoodIn wsX7_carries wsX7_of := goodIn_ca (goodIn_r _ [14, 6, 105, 106, 107, 108, 109, 110, 111, 112, 113, 114, 115, 116, 117, 118, 119, 120, 121] (by decide +kernel) (by decide +kernel)) (goodIn_sub (fun _ h => List.mem_cons_of_mem _ (List.mem_append_right _ h)) (by decide +kernel))
set_option maxRecDepth 20000 in
theorem gX7_carries_X7_of : GoodIn wsX7_carries (wsV RX7 68 RX7 yX7_of wsX7_of) := goodIn_app (goodIn_of _ (by decide +kernel)) ggX7_carries_X7_of
set_option maxRecDepth 20000 in
theorem ggX7_carries_X7_supportBut : GoodIn wsX7_carries wsX7_supportBut := goodIn_ca (goodIn_r _ [69, 70, 71, 72, 4, 73, 45, 46, 47, 48, 15, 16, 17, 18, 11, 12, 13, 14, 6, 19, 20, 21, 22, 23, 24, 25, 26, 27, 28, 29, 30, 31, 32, 33, 34, 35, 36, 49, 50, 51, 52, 53, 54, 55, 56, 57, 74, 75, 76, 77, 37, 38, 39, 40, 78, 79, 80, 81, 82, 83, 84, 85, 86, 87, 88, 89, 90, 91, 92, 1, 2, 3, 5, 105, 106, 107, 108, 109, 110, 111, 112, 113, 114, 115, 116, 117, 118, 119, 120, 121] (by decide +kernel) (by decide +kernel)) (goodIn_sub (fun _ h => List.mem_cons_of_mem _ (List.mem_append_right _ h)) (by decide +kernel))
set_option maxRecDepth 20000 in
theorem gX7_carries_X7_supportBut : GoodIn wsX7_carries (wsV RX7 114 RX7 yX7_supportBut wsX7_supportBut) := goodIn_app (goodIn_of _ (by decide +kernel)) ggX7_carries_X7_supportBut
set_option maxRecDepth 20000 in
theorem ggX7_carries_X7_adds : GoodIn wsX7_carries wsX7_adds := goodIn_ca (goodIn_r _ [104, 6, 105, 106, 107, 108, 109, 110, 111, 112, 113, 114, 115, 116, 117, 118, 119, 120, 121] (by decide +kernel) (by decide +kernel)) (goodIn_sub (fun _ h => List.mem_cons_of_mem _ (List.mem_append_right _ h)) (by decide +kernel))
set_option maxRecDepth 20000 in
theorem gX7_carries_X7_adds : GoodIn wsX7_carries (wsV RX7 130 RX7 yX7_adds wsX7_adds) := goodIn_app (goodIn_of _ (by decide +kernel)) ggX7_carries_X7_adds
theorem dX7_carries_0 : decode cX7_carries 0 = .ok (.aload_n 0, 1) := by decide +kernel
theorem dX7_carries_1 : decode cX7_carries 1 = .ok (.iload_n 2, 1) := by decide +kernel
theorem dX7_carries_2 : decode cX7_carries 2 = .ok (.iconst 3, 1) := by decide +kernel
theorem dX7_carries_3 : decode cX7_carries 3 = .ok (.invokevirtual 94, 3) := by decide +kernel
theorem dX7_carries_6 : decode cX7_carries 6 = .ok (.ifCond .ge 7, 3) := by decide +kernel
theorem dX7_carries_9 : decode cX7_carries 9 = .ok (.iconst (-1), 1) := by decide +kernel
theorem dX7_carries_10 : decode cX7_carries 10 = .ok (.goto 4, 3) := by decide +kernel
theorem dX7_carries_13 : decode cX7_carries 13 = .ok (.iconst 1, 1) := by decide +kernel
theorem dX7_carries_14 : decode cX7_carries 14 = .ok (.istore_n 3, 1) := by decide +kernel
theorem dX7_carries_15 : decode cX7_carries 15 = .ok (.aload_n 0, 1) := by decide +kernel
theorem dX7_carries_16 : decode cX7_carries 16 = .ok (.iload_n 2, 1) := by decide +kernel
theorem dX7_carries_17 : decode cX7_carries 17 = .ok (.iconst 3, 1) := by decide +kernel
theorem dX7_carries_18 : decode cX7_carries 18 = .ok (.invokevirtual 94, 3) := by decide +kernel
theorem dX7_carries_21 : decode cX7_carries 21 = .ok (.iload_n 3, 1) := by decide +kernel
theorem dX7_carries_22 : decode cX7_carries 22 = .ok (.imul, 1) := by decide +kernel
theorem dX7_carries_23 : decode cX7_carries 23 = .ok (.istore 4, 2) := by decide +kernel
theorem dX7_carries_25 : decode cX7_carries 25 = .ok (.iload 4, 2) := by decide +kernel
theorem dX7_carries_27 : decode cX7_carries 27 = .ok (.ifCond .le 18, 3) := by decide +kernel
theorem dX7_carries_30 : decode cX7_carries 30 = .ok (.aload_n 0, 1) := by decide +kernel
theorem dX7_carries_31 : decode cX7_carries 31 = .ok (.iload_n 1, 1) := by decide +kernel
theorem dX7_carries_32 : decode cX7_carries 32 = .ok (.iload_n 3, 1) := by decide +kernel
theorem dX7_carries_33 : decode cX7_carries 33 = .ok (.invokevirtual 133, 3) := by decide +kernel
theorem dX7_carries_36 : decode cX7_carries 36 = .ok (.ifCond .eq 9, 3) := by decide +kernel
theorem dX7_carries_39 : decode cX7_carries 39 = .ok (.iinc 4 (-1), 3) := by decide +kernel
theorem dX7_carries_42 : decode cX7_carries 42 = .ok (.goto (-17), 3) := by decide +kernel
theorem dX7_carries_45 : decode cX7_carries 45 = .ok (.aload_n 0, 1) := by decide +kernel
theorem dX7_carries_46 : decode cX7_carries 46 = .ok (.iload_n 2, 1) := by decide +kernel
theorem dX7_carries_47 : decode cX7_carries 47 = .ok (.iconst 4, 1) := by decide +kernel
theorem dX7_carries_48 : decode cX7_carries 48 = .ok (.invokevirtual 94, 3) := by decide +kernel
theorem dX7_carries_51 : decode cX7_carries 51 = .ok (.istore 4, 2) := by decide +kernel
theorem dX7_carries_53 : decode cX7_carries 53 = .ok (.iload 4, 2) := by decide +kernel
theorem dX7_carries_55 : decode cX7_carries 55 = .ok (.ifCond .le 17, 3) := by decide +kernel
theorem dX7_carries_58 : decode cX7_carries 58 = .ok (.aload_n 0, 1) := by decide +kernel
theorem dX7_carries_59 : decode cX7_carries 59 = .ok (.iload_n 1, 1) := by decide +kernel
theorem dX7_carries_60 : decode cX7_carries 60 = .ok (.invokevirtual 137, 3) := by decide +kernel
theorem dX7_carries_63 : decode cX7_carries 63 = .ok (.ifCond .eq 9, 3) := by decide +kernel
theorem dX7_carries_66 : decode cX7_carries 66 = .ok (.iinc 4 (-1), 3) := by decide +kernel
theorem dX7_carries_69 : decode cX7_carries 69 = .ok (.goto (-16), 3) := by decide +kernel
theorem dX7_carries_72 : decode cX7_carries 72 = .ok (.aload_n 0, 1) := by decide +kernel
theorem dX7_carries_73 : decode cX7_carries 73 = .ok (.iload_n 2, 1) := by decide +kernel
theorem dX7_carries_74 : decode cX7_carries 74 = .ok (.iconst 4, 1) := by decide +kernel
theorem dX7_carries_75 : decode cX7_carries 75 = .ok (.invokevirtual 94, 3) := by decide +kernel
theorem dX7_carries_78 : decode cX7_carries 78 = .ok (.ineg, 1) := by decide +kernel
theorem dX7_carries_79 : decode cX7_carries 79 = .ok (.istore 4, 2) := by decide +kernel
theorem dX7_carries_81 : decode cX7_carries 81 = .ok (.iload 4, 2) := by decide +kernel
theorem dX7_carries_83 : decode cX7_carries 83 = .ok (.ifCond .le 37, 3) := by decide +kernel
theorem dX7_carries_86 : decode cX7_carries 86 = .ok (.aload_n 0, 1) := by decide +kernel
theorem dX7_carries_87 : decode cX7_carries 87 = .ok (.iload_n 1, 1) := by decide +kernel
theorem dX7_carries_88 : decode cX7_carries 88 = .ok (.aload_n 0, 1) := by decide +kernel
theorem dX7_carries_89 : decode cX7_carries 89 = .ok (.iload_n 1, 1) := by decide +kernel
theorem dX7_carries_90 : decode cX7_carries 90 = .ok (.iconst 0, 1) := by decide +kernel
theorem dX7_carries_91 : decode cX7_carries 91 = .ok (.invokevirtual 68, 3) := by decide +kernel
theorem dX7_carries_94 : decode cX7_carries 94 = .ok (.aload_n 0, 1) := by decide +kernel
theorem dX7_carries_95 : decode cX7_carries 95 = .ok (.iload_n 1, 1) := by decide +kernel
theorem dX7_carries_96 : decode cX7_carries 96 = .ok (.iconst 1, 1) := by decide +kernel
theorem dX7_carries_97 : decode cX7_carries 97 = .ok (.invokevirtual 68, 3) := by decide +kernel
theorem dX7_carries_100 : decode cX7_carries 100 = .ok (.iload_n 2, 1) := by decide +kernel
theorem dX7_carries_101 : decode cX7_carries 101 = .ok (.invokevirtual 114, 3) := by decide +kernel
theorem dX7_carries_104 : decode cX7_carries 104 = .ok (.ifCond .ne 16, 3) := by decide +kernel
theorem dX7_carries_107 : decode cX7_carries 107 = .ok (.aload_n 0, 1) := by decide +kernel
theorem dX7_carries_108 : decode cX7_carries 108 = .ok (.iload_n 1, 1) := by decide +kernel
theorem dX7_carries_109 : decode cX7_carries 109 = .ok (.iconst 1, 1) := by decide +kernel
theorem dX7_carries_110 : decode cX7_carries 110 = .ok (.iconst (-1), 1) := by decide +kernel
theorem dX7_carries_111 : decode cX7_carries 111 = .ok (.invokevirtual 130, 3) := by decide +kernel
theorem dX7_carries_114 : decode cX7_carries 114 = .ok (.iinc 4 (-1), 3) := by decide +kernel
theorem dX7_carries_117 : decode cX7_carries 117 = .ok (.goto (-36), 3) := by decide +kernel
theorem dX7_carries_120 : decode cX7_carries 120 = .ok (.return_, 1) := by decide +kernel
set_option maxRecDepth 20000 in
theorem ggX7_goesPlatform_X7_carries : GoodIn wsX7_goesPlatform wsX7_carries := goodIn_ca (goodIn_r _ [7, 8, 9, 10, 6, 11, 1, 12, 13, 14, 15, 16, 17, 18, 19, 20, 21, 22, 23, 24, 25, 26, 27, 28, 29, 30, 31, 32, 33, 34, 35, 36, 37, 38, 39, 40, 41, 42, 43, 44, 45, 46, 47, 48, 49, 50, 51, 52, 53, 54, 55, 56, 57, 58, 59, 60, 61, 62, 63, 64, 65, 66, 67, 68, 69, 70, 71, 72, 73, 74, 75, 76, 77, 78, 79, 80, 81, 82, 83, 84, 85, 86, 87, 88, 89, 90, 91, 92, 93, 94, 95, 96, 97, 98, 99, 100, 101, 102, 103, 104, 105, 106, 107, 108, 109, 114, 115, 116, 117, 118, 119, 120, 121, 122, 123, 124, 125, 126, 127, 128, 129, 130] (by decide +kernel) (by decide +kernel)) (goodIn_sub (fun _ h => List.mem_cons_of_mem _ (List.mem_append_right _ h)) (by decide +kernel))
set_option maxRecDepth 20000 in
theorem gX7_goesPlatform_X7_carries : GoodIn wsX7_goesPlatform (wsV RX7 140 RX7 yX7_carries wsX7_carries) := goodIn_app (goodIn_of _ (by decide +kernel)) ggX7_goesPlatform_X7_carries
set_option maxRecDepth 20000 in
theorem ggX7_goesPlatform_X7_plate : GoodIn wsX7_goesPlatform wsX7_plate := goodIn_ca (goodIn_r _ [11, 1, 114, 115, 116, 117, 118, 119, 120, 121, 122, 123, 124, 125, 126, 127, 128, 129, 130] (by decide +kernel) (by decide +kernel)) (goodIn_sub (fun _ h => List.mem_cons_of_mem _ (List.mem_append_right _ h)) (by decide +kernel))
set_option maxRecDepth 20000 in
theorem gX7_goesPlatform_X7_plate : GoodIn wsX7_goesPlatform (wsV RX7 94 RX7 yX7_plate wsX7_plate) := goodIn_app (goodIn_of _ (by decide +kernel)) ggX7_goesPlatform_X7_plate
set_option maxRecDepth 20000 in
theorem ggX7_goesPlatform_X7_setsPlate : GoodIn wsX7_goesPlatform wsX7_setsPlate := goodIn_ca (goodIn_r _ [113, 1, 114, 115, 116, 117, 118, 119, 120, 121, 122, 123, 124, 125, 126, 127, 128, 129, 130] (by decide +kernel) (by decide +kernel)) (goodIn_sub (fun _ h => List.mem_cons_of_mem _ (List.mem_append_right _ h)) (by decide +kernel))
set_option maxRecDepth 20000 in
theorem gX7_goesPlatform_X7_setsPlate : GoodIn wsX7_goesPlatform (wsV RX7 144 RX7 yX7_setsPlate wsX7_setsPlate) := goodIn_app (goodIn_of _ (by decide +kernel)) ggX7_goesPlatform_X7_setsPlate
theorem dX7_goesPlatform_0 : decode cX7_goesPlatform 0 = .ok (.iconst 0, 1) := by decide +kernel
theorem dX7_goesPlatform_1 : decode cX7_goesPlatform 1 = .ok (.istore_n 2, 1) := by decide +kernel
theorem dX7_goesPlatform_2 : decode cX7_goesPlatform 2 = .ok (.iload_n 2, 1) := by decide +kernel
theorem dX7_goesPlatform_3 : decode cX7_goesPlatform 3 = .ok (.aload_n 0, 1) := by decide +kernel
theorem dX7_goesPlatform_4 : decode cX7_goesPlatform 4 = .ok (.getfield 7, 3) := by decide +kernel
theorem dX7_goesPlatform_7 : decode cX7_goesPlatform 7 = .ok (.sipush 464, 3) := by decide +kernel
theorem dX7_goesPlatform_10 : decode cX7_goesPlatform 10 = .ok (.iaload, 1) := by decide +kernel
theorem dX7_goesPlatform_11 : decode cX7_goesPlatform 11 = .ok (.if_icmp .ge 25, 3) := by decide +kernel
theorem dX7_goesPlatform_14 : decode cX7_goesPlatform 14 = .ok (.aload_n 0, 1) := by decide +kernel
theorem dX7_goesPlatform_15 : decode cX7_goesPlatform 15 = .ok (.getfield 16, 3) := by decide +kernel
theorem dX7_goesPlatform_18 : decode cX7_goesPlatform 18 = .ok (.iload_n 2, 1) := by decide +kernel
theorem dX7_goesPlatform_19 : decode cX7_goesPlatform 19 = .ok (.iaload, 1) := by decide +kernel
theorem dX7_goesPlatform_20 : decode cX7_goesPlatform 20 = .ok (.iload_n 1, 1) := by decide +kernel
theorem dX7_goesPlatform_21 : decode cX7_goesPlatform 21 = .ok (.if_icmp .ne 9, 3) := by decide +kernel
theorem dX7_goesPlatform_24 : decode cX7_goesPlatform 24 = .ok (.aload_n 0, 1) := by decide +kernel
theorem dX7_goesPlatform_25 : decode cX7_goesPlatform 25 = .ok (.iload_n 2, 1) := by decide +kernel
theorem dX7_goesPlatform_26 : decode cX7_goesPlatform 26 = .ok (.iload_n 1, 1) := by decide +kernel
theorem dX7_goesPlatform_27 : decode cX7_goesPlatform 27 = .ok (.invokevirtual 140, 3) := by decide +kernel
theorem dX7_goesPlatform_30 : decode cX7_goesPlatform 30 = .ok (.iinc 2 1, 3) := by decide +kernel
theorem dX7_goesPlatform_33 : decode cX7_goesPlatform 33 = .ok (.goto (-31), 3) := by decide +kernel
theorem dX7_goesPlatform_36 : decode cX7_goesPlatform 36 = .ok (.aload_n 0, 1) := by decide +kernel
theorem dX7_goesPlatform_37 : decode cX7_goesPlatform 37 = .ok (.iload_n 1, 1) := by decide +kernel
theorem dX7_goesPlatform_38 : decode cX7_goesPlatform 38 = .ok (.iconst 0, 1) := by decide +kernel
theorem dX7_goesPlatform_39 : decode cX7_goesPlatform 39 = .ok (.aload_n 0, 1) := by decide +kernel
theorem dX7_goesPlatform_40 : decode cX7_goesPlatform 40 = .ok (.iload_n 1, 1) := by decide +kernel
theorem dX7_goesPlatform_41 : decode cX7_goesPlatform 41 = .ok (.iconst 0, 1) := by decide +kernel
theorem dX7_goesPlatform_42 : decode cX7_goesPlatform 42 = .ok (.invokevirtual 94, 3) := by decide +kernel
theorem dX7_goesPlatform_45 : decode cX7_goesPlatform 45 = .ok (.aload_n 0, 1) := by decide +kernel
theorem dX7_goesPlatform_46 : decode cX7_goesPlatform 46 = .ok (.iload_n 1, 1) := by decide +kernel
theorem dX7_goesPlatform_47 : decode cX7_goesPlatform 47 = .ok (.iconst 3, 1) := by decide +kernel
theorem dX7_goesPlatform_48 : decode cX7_goesPlatform 48 = .ok (.invokevirtual 94, 3) := by decide +kernel
theorem dX7_goesPlatform_51 : decode cX7_goesPlatform 51 = .ok (.iadd, 1) := by decide +kernel
theorem dX7_goesPlatform_52 : decode cX7_goesPlatform 52 = .ok (.invokevirtual 144, 3) := by decide +kernel
theorem dX7_goesPlatform_55 : decode cX7_goesPlatform 55 = .ok (.aload_n 0, 1) := by decide +kernel
theorem dX7_goesPlatform_56 : decode cX7_goesPlatform 56 = .ok (.iload_n 1, 1) := by decide +kernel
theorem dX7_goesPlatform_57 : decode cX7_goesPlatform 57 = .ok (.iconst 1, 1) := by decide +kernel
theorem dX7_goesPlatform_58 : decode cX7_goesPlatform 58 = .ok (.aload_n 0, 1) := by decide +kernel
theorem dX7_goesPlatform_59 : decode cX7_goesPlatform 59 = .ok (.iload_n 1, 1) := by decide +kernel
theorem dX7_goesPlatform_60 : decode cX7_goesPlatform 60 = .ok (.iconst 1, 1) := by decide +kernel
theorem dX7_goesPlatform_61 : decode cX7_goesPlatform 61 = .ok (.invokevirtual 94, 3) := by decide +kernel
theorem dX7_goesPlatform_64 : decode cX7_goesPlatform 64 = .ok (.aload_n 0, 1) := by decide +kernel
theorem dX7_goesPlatform_65 : decode cX7_goesPlatform 65 = .ok (.iload_n 1, 1) := by decide +kernel
theorem dX7_goesPlatform_66 : decode cX7_goesPlatform 66 = .ok (.iconst 4, 1) := by decide +kernel
theorem dX7_goesPlatform_67 : decode cX7_goesPlatform 67 = .ok (.invokevirtual 94, 3) := by decide +kernel
theorem dX7_goesPlatform_70 : decode cX7_goesPlatform 70 = .ok (.iadd, 1) := by decide +kernel
theorem dX7_goesPlatform_71 : decode cX7_goesPlatform 71 = .ok (.invokevirtual 144, 3) := by decide +kernel
theorem dX7_goesPlatform_74 : decode cX7_goesPlatform 74 = .ok (.aload_n 0, 1) := by decide +kernel
theorem dX7_goesPlatform_75 : decode cX7_goesPlatform 75 = .ok (.iload_n 1, 1) := by decide +kernel
theorem dX7_goesPlatform_76 : decode cX7_goesPlatform 76 = .ok (.iconst 5, 1) := by decide +kernel
theorem dX7_goesPlatform_77 : decode cX7_goesPlatform 77 = .ok (.aload_n 0, 1) := by decide +kernel
theorem dX7_goesPlatform_78 : decode cX7_goesPlatform 78 = .ok (.iload_n 1, 1) := by decide +kernel
theorem dX7_goesPlatform_79 : decode cX7_goesPlatform 79 = .ok (.iconst 5, 1) := by decide +kernel
theorem dX7_goesPlatform_80 : decode cX7_goesPlatform 80 = .ok (.invokevirtual 94, 3) := by decide +kernel
theorem dX7_goesPlatform_83 : decode cX7_goesPlatform 83 = .ok (.iconst 1, 1) := by decide +kernel
theorem dX7_goesPlatform_84 : decode cX7_goesPlatform 84 = .ok (.isub, 1) := by decide +kernel
theorem dX7_goesPlatform_85 : decode cX7_goesPlatform 85 = .ok (.invokevirtual 144, 3) := by decide +kernel
theorem dX7_goesPlatform_88 : decode cX7_goesPlatform 88 = .ok (.aload_n 0, 1) := by decide +kernel
theorem dX7_goesPlatform_89 : decode cX7_goesPlatform 89 = .ok (.iload_n 1, 1) := by decide +kernel
theorem dX7_goesPlatform_90 : decode cX7_goesPlatform 90 = .ok (.iconst 5, 1) := by decide +kernel
theorem dX7_goesPlatform_91 : decode cX7_goesPlatform 91 = .ok (.invokevirtual 94, 3) := by decide +kernel
theorem dX7_goesPlatform_94 : decode cX7_goesPlatform 94 = .ok (.ifCond .le 4, 3) := by decide +kernel
theorem dX7_goesPlatform_97 : decode cX7_goesPlatform 97 = .ok (.return_, 1) := by decide +kernel
theorem dX7_goesPlatform_98 : decode cX7_goesPlatform 98 = .ok (.aload_n 0, 1) := by decide +kernel
theorem dX7_goesPlatform_99 : decode cX7_goesPlatform 99 = .ok (.iload_n 1, 1) := by decide +kernel
theorem dX7_goesPlatform_100 : decode cX7_goesPlatform 100 = .ok (.iconst 5, 1) := by decide +kernel
theorem dX7_goesPlatform_101 : decode cX7_goesPlatform 101 = .ok (.aload_n 0, 1) := by decide +kernel
theorem dX7_goesPlatform_102 : decode cX7_goesPlatform 102 = .ok (.iload_n 1, 1) := by decide +kernel
theorem dX7_goesPlatform_103 : decode cX7_goesPlatform 103 = .ok (.bipush 6, 2) := by decide +kernel
theorem dX7_goesPlatform_105 : decode cX7_goesPlatform 105 = .ok (.invokevirtual 94, 3) := by decide +kernel
theorem dX7_goesPlatform_108 : decode cX7_goesPlatform 108 = .ok (.invokevirtual 144, 3) := by decide +kernel
theorem dX7_goesPlatform_111 : decode cX7_goesPlatform 111 = .ok (.aload_n 0, 1) := by decide +kernel
theorem dX7_goesPlatform_112 : decode cX7_goesPlatform 112 = .ok (.iload_n 1, 1) := by decide +kernel
theorem dX7_goesPlatform_113 : decode cX7_goesPlatform 113 = .ok (.iconst 3, 1) := by decide +kernel
theorem dX7_goesPlatform_114 : decode cX7_goesPlatform 114 = .ok (.aload_n 0, 1) := by decide +kernel
theorem dX7_goesPlatform_115 : decode cX7_goesPlatform 115 = .ok (.iload_n 1, 1) := by decide +kernel
theorem dX7_goesPlatform_116 : decode cX7_goesPlatform 116 = .ok (.iconst 3, 1) := by decide +kernel
theorem dX7_goesPlatform_117 : decode cX7_goesPlatform 117 = .ok (.invokevirtual 94, 3) := by decide +kernel
theorem dX7_goesPlatform_120 : decode cX7_goesPlatform 120 = .ok (.ineg, 1) := by decide +kernel
theorem dX7_goesPlatform_121 : decode cX7_goesPlatform 121 = .ok (.invokevirtual 144, 3) := by decide +kernel
theorem dX7_goesPlatform_124 : decode cX7_goesPlatform 124 = .ok (.aload_n 0, 1) := by decide +kernel
theorem dX7_goesPlatform_125 : decode cX7_goesPlatform 125 = .ok (.iload_n 1, 1) := by decide +kernel
theorem dX7_goesPlatform_126 : decode cX7_goesPlatform 126 = .ok (.iconst 4, 1) := by decide +kernel
theorem dX7_goesPlatform_127 : decode cX7_goesPlatform 127 = .ok (.aload_n 0, 1) := by decide +kernel
theorem dX7_goesPlatform_128 : decode cX7_goesPlatform 128 = .ok (.iload_n 1, 1) := by decide +kernel
theorem dX7_goesPlatform_129 : decode cX7_goesPlatform 129 = .ok (.iconst 4, 1) := by decide +kernel
theorem dX7_goesPlatform_130 : decode cX7_goesPlatform 130 = .ok (.invokevirtual 94, 3) := by decide +kernel
theorem dX7_goesPlatform_133 : decode cX7_goesPlatform 133 = .ok (.ineg, 1) := by decide +kernel
theorem dX7_goesPlatform_134 : decode cX7_goesPlatform 134 = .ok (.invokevirtual 144, 3) := by decide +kernel
theorem dX7_goesPlatform_137 : decode cX7_goesPlatform 137 = .ok (.return_, 1) := by decide +kernel
set_option maxRecDepth 20000 in
theorem ggX7_goesTick_X7_of : GoodIn wsX7_goesTick wsX7_of := goodIn_ca (goodIn_r _ [7, 1, 191, 192, 193, 194, 195, 196, 197, 198, 199, 200, 201, 202, 203, 204, 205, 206, 207] (by decide +kernel) (by decide +kernel)) (goodIn_sub (fun _ h => List.mem_cons_of_mem _ (List.mem_append_right _ h)) (by decide +kernel))
set_option maxRecDepth 20000 in
theorem gX7_goesTick_X7_of : GoodIn wsX7_goesTick (wsV RX7 68 RX7 yX7_of wsX7_of) := goodIn_app (goodIn_of _ (by decide +kernel)) ggX7_goesTick_X7_of
set_option maxRecDepth 20000 in
theorem ggX7_goesTick_X7_platformBelow : GoodIn wsX7_goesTick wsX7_platformBelow := goodIn_ca (goodIn_r _ [11, 1, 12, 13, 14, 6, 15, 16, 17, 18, 19, 3, 4, 5, 7, 191, 192, 193, 194, 195, 196, 197, 198, 199, 200, 201, 202, 203, 204, 205, 206, 207] (by decide +kernel) (by decide +kernel)) (goodIn_sub (fun _ h => List.mem_cons_of_mem _ (List.mem_append_right _ h)) (by decide +kernel))
set_option maxRecDepth 20000 in
theorem gX7_goesTick_X7_platformBelow : GoodIn wsX7_goesTick (wsV RX7 110 RX7 yX7_platformBelow wsX7_platformBelow) := goodIn_app (goodIn_of _ (by decide +kernel)) ggX7_goesTick_X7_platformBelow
set_option maxRecDepth 20000 in
theorem ggX7_goesTick_X7_goesPlatform : GoodIn wsX7_goesTick wsX7_goesPlatform := goodIn_ca (goodIn_r _ [23, 1, 2, 24, 25, 26, 6, 27, 16, 17, 18, 19, 28, 29, 30, 31, 3, 4, 5, 7, 32, 33, 34, 35, 36, 37, 38, 39, 40, 41, 42, 43, 44, 45, 46, 47, 48, 49, 50, 51, 52, 53, 54, 55, 56, 57, 58, 59, 60, 61, 62, 63, 64, 65, 66, 67, 68, 69, 70, 71, 72, 73, 74, 75, 76, 77, 78, 79, 80, 81, 82, 83, 84, 85, 86, 87, 88, 89, 90, 91, 92, 93, 94, 95, 96, 97, 98, 99, 100, 101, 8, 9, 10, 11, 12, 13, 14, 15, 102, 103, 104, 105, 106, 107, 108, 109, 110, 111, 112, 113, 114, 115, 116, 117, 191, 192, 193, 194, 195, 196, 197, 198, 199, 200, 201, 202, 203, 204, 205, 206, 207] (by decide +kernel) (by decide +kernel)) (goodIn_sub (fun _ h => List.mem_cons_of_mem _ (List.mem_append_right _ h)) (by decide +kernel))
set_option maxRecDepth 20000 in
theorem gX7_goesTick_X7_goesPlatform : GoodIn wsX7_goesTick (wsV RX7 147 RX7 yX7_goesPlatform wsX7_goesPlatform) := goodIn_app (goodIn_of _ (by decide +kernel)) ggX7_goesTick_X7_goesPlatform
set_option maxRecDepth 20000 in
theorem ggX7_goesTick_X7_updates : GoodIn wsX7_goesTick wsX7_updates := goodIn_ca (goodIn_r _ [121, 122, 123, 124, 6, 125, 126, 127, 128, 129, 130, 3, 4, 5, 7, 1, 75, 76, 77, 78, 79, 80, 81, 82, 83, 84, 85, 86, 87, 88, 89, 90, 62, 63, 64, 65, 32, 33, 34, 35, 36, 37, 38, 39, 40, 41, 42, 43, 44, 45, 46, 47, 48, 49, 50, 51, 52, 53, 66, 67, 68, 69, 70, 71, 72, 73, 74, 91, 92, 93, 94, 54, 55, 56, 57, 95, 96, 97, 98, 99, 100, 101, 8, 9, 10, 11, 12, 13, 14, 15, 16, 17, 18, 19, 110, 111, 112, 113, 131, 132, 133, 134, 102, 103, 104, 105, 135, 136, 137, 138, 139, 140, 141, 142, 143, 144, 145, 146, 147, 148, 149, 150, 151, 152, 153, 154, 155, 156, 157, 158, 58, 59, 60, 61, 159, 160, 161, 162, 163, 164, 165, 166, 28, 29, 30, 31, 167, 168, 169, 170, 171, 172, 173, 174, 106, 107, 108, 109, 175, 176, 177, 178, 179, 180, 181, 182, 183, 184, 185, 186, 187, 188, 189, 190, 191, 192, 193, 194, 195, 196, 197, 198, 199, 200, 201, 202, 203, 204, 205, 206, 207] (by decide +kernel) (by decide +kernel)) (goodIn_sub (fun _ h => List.mem_cons_of_mem _ (List.mem_append_right _ h)) (by decide +kernel))
set_option maxRecDepth 20000 in
theorem gX7_goesTick_X7_updates : GoodIn wsX7_goesTick (wsV RX7 151 RX7 yX7_updates wsX7_updates) := goodIn_app (goodIn_of _ (by decide +kernel)) ggX7_goesTick_X7_updates
theorem dX7_goesTick_0 : decode cX7_goesTick 0 = .ok (.aload_n 0, 1) := by decide +kernel
theorem dX7_goesTick_1 : decode cX7_goesTick 1 = .ok (.getfield 7, 3) := by decide +kernel
theorem dX7_goesTick_4 : decode cX7_goesTick 4 = .ok (.sipush 466, 3) := by decide +kernel
theorem dX7_goesTick_7 : decode cX7_goesTick 7 = .ok (.dup2, 1) := by decide +kernel
theorem dX7_goesTick_8 : decode cX7_goesTick 8 = .ok (.iaload, 1) := by decide +kernel
theorem dX7_goesTick_9 : decode cX7_goesTick 9 = .ok (.iconst 1, 1) := by decide +kernel
theorem dX7_goesTick_10 : decode cX7_goesTick 10 = .ok (.iadd, 1) := by decide +kernel
theorem dX7_goesTick_11 : decode cX7_goesTick 11 = .ok (.iastore, 1) := by decide +kernel
theorem dX7_goesTick_12 : decode cX7_goesTick 12 = .ok (.iconst 0, 1) := by decide +kernel
theorem dX7_goesTick_13 : decode cX7_goesTick 13 = .ok (.istore_n 1, 1) := by decide +kernel
theorem dX7_goesTick_14 : decode cX7_goesTick 14 = .ok (.iload_n 1, 1) := by decide +kernel
theorem dX7_goesTick_15 : decode cX7_goesTick 15 = .ok (.aload_n 0, 1) := by decide +kernel
theorem dX7_goesTick_16 : decode cX7_goesTick 16 = .ok (.getfield 7, 3) := by decide +kernel
theorem dX7_goesTick_19 : decode cX7_goesTick 19 = .ok (.sipush 464, 3) := by decide +kernel
theorem dX7_goesTick_22 : decode cX7_goesTick 22 = .ok (.iaload, 1) := by decide +kernel
theorem dX7_goesTick_23 : decode cX7_goesTick 23 = .ok (.if_icmp .ge 56, 3) := by decide +kernel
theorem dX7_goesTick_26 : decode cX7_goesTick 26 = .ok (.aload_n 0, 1) := by decide +kernel
theorem dX7_goesTick_27 : decode cX7_goesTick 27 = .ok (.getfield 16, 3) := by decide +kernel
theorem dX7_goesTick_30 : decode cX7_goesTick 30 = .ok (.iload_n 1, 1) := by decide +kernel
theorem dX7_goesTick_31 : decode cX7_goesTick 31 = .ok (.aload_n 0, 1) := by decide +kernel
theorem dX7_goesTick_32 : decode cX7_goesTick 32 = .ok (.iload_n 1, 1) := by decide +kernel
theorem dX7_goesTick_33 : decode cX7_goesTick 33 = .ok (.iconst 3, 1) := by decide +kernel
theorem dX7_goesTick_34 : decode cX7_goesTick 34 = .ok (.invokevirtual 68, 3) := by decide +kernel
theorem dX7_goesTick_37 : decode cX7_goesTick 37 = .ok (.ifCond .gt 34, 3) := by decide +kernel
theorem dX7_goesTick_40 : decode cX7_goesTick 40 = .ok (.aload_n 0, 1) := by decide +kernel
theorem dX7_goesTick_41 : decode cX7_goesTick 41 = .ok (.iload_n 1, 1) := by decide +kernel
theorem dX7_goesTick_42 : decode cX7_goesTick 42 = .ok (.bipush 6, 2) := by decide +kernel
theorem dX7_goesTick_44 : decode cX7_goesTick 44 = .ok (.invokevirtual 68, 3) := by decide +kernel
theorem dX7_goesTick_47 : decode cX7_goesTick 47 = .ok (.ifCond .ne 24, 3) := by decide +kernel
theorem dX7_goesTick_50 : decode cX7_goesTick 50 = .ok (.aload_n 0, 1) := by decide +kernel
theorem dX7_goesTick_51 : decode cX7_goesTick 51 = .ok (.iload_n 1, 1) := by decide +kernel
theorem dX7_goesTick_52 : decode cX7_goesTick 52 = .ok (.aload_n 0, 1) := by decide +kernel
theorem dX7_goesTick_53 : decode cX7_goesTick 53 = .ok (.iload_n 1, 1) := by decide +kernel
theorem dX7_goesTick_54 : decode cX7_goesTick 54 = .ok (.iconst 0, 1) := by decide +kernel
theorem dX7_goesTick_55 : decode cX7_goesTick 55 = .ok (.invokevirtual 68, 3) := by decide +kernel
theorem dX7_goesTick_58 : decode cX7_goesTick 58 = .ok (.aload_n 0, 1) := by decide +kernel
theorem dX7_goesTick_59 : decode cX7_goesTick 59 = .ok (.iload_n 1, 1) := by decide +kernel
theorem dX7_goesTick_60 : decode cX7_goesTick 60 = .ok (.iconst 1, 1) := by decide +kernel
theorem dX7_goesTick_61 : decode cX7_goesTick 61 = .ok (.invokevirtual 68, 3) := by decide +kernel
theorem dX7_goesTick_64 : decode cX7_goesTick 64 = .ok (.iconst (-1), 1) := by decide +kernel
theorem dX7_goesTick_65 : decode cX7_goesTick 65 = .ok (.invokevirtual 110, 3) := by decide +kernel
theorem dX7_goesTick_68 : decode cX7_goesTick 68 = .ok (.goto 4, 3) := by decide +kernel
theorem dX7_goesTick_71 : decode cX7_goesTick 71 = .ok (.iconst (-1), 1) := by decide +kernel
theorem dX7_goesTick_72 : decode cX7_goesTick 72 = .ok (.iastore, 1) := by decide +kernel
theorem dX7_goesTick_73 : decode cX7_goesTick 73 = .ok (.iinc 1 1, 3) := by decide +kernel
theorem dX7_goesTick_76 : decode cX7_goesTick 76 = .ok (.goto (-62), 3) := by decide +kernel
theorem dX7_goesTick_79 : decode cX7_goesTick 79 = .ok (.iconst 0, 1) := by decide +kernel
theorem dX7_goesTick_80 : decode cX7_goesTick 80 = .ok (.istore_n 1, 1) := by decide +kernel
theorem dX7_goesTick_81 : decode cX7_goesTick 81 = .ok (.iload_n 1, 1) := by decide +kernel
theorem dX7_goesTick_82 : decode cX7_goesTick 82 = .ok (.aload_n 0, 1) := by decide +kernel
theorem dX7_goesTick_83 : decode cX7_goesTick 83 = .ok (.getfield 7, 3) := by decide +kernel
theorem dX7_goesTick_86 : decode cX7_goesTick 86 = .ok (.sipush 465, 3) := by decide +kernel
theorem dX7_goesTick_89 : decode cX7_goesTick 89 = .ok (.iaload, 1) := by decide +kernel
theorem dX7_goesTick_90 : decode cX7_goesTick 90 = .ok (.if_icmp .ge 14, 3) := by decide +kernel
theorem dX7_goesTick_93 : decode cX7_goesTick 93 = .ok (.aload_n 0, 1) := by decide +kernel
theorem dX7_goesTick_94 : decode cX7_goesTick 94 = .ok (.iload_n 1, 1) := by decide +kernel
theorem dX7_goesTick_95 : decode cX7_goesTick 95 = .ok (.invokevirtual 147, 3) := by decide +kernel
theorem dX7_goesTick_98 : decode cX7_goesTick 98 = .ok (.iinc 1 1, 3) := by decide +kernel
theorem dX7_goesTick_101 : decode cX7_goesTick 101 = .ok (.goto (-20), 3) := by decide +kernel
theorem dX7_goesTick_104 : decode cX7_goesTick 104 = .ok (.iconst 0, 1) := by decide +kernel
theorem dX7_goesTick_105 : decode cX7_goesTick 105 = .ok (.istore_n 1, 1) := by decide +kernel
theorem dX7_goesTick_106 : decode cX7_goesTick 106 = .ok (.iload_n 1, 1) := by decide +kernel
theorem dX7_goesTick_107 : decode cX7_goesTick 107 = .ok (.aload_n 0, 1) := by decide +kernel
theorem dX7_goesTick_108 : decode cX7_goesTick 108 = .ok (.getfield 7, 3) := by decide +kernel
theorem dX7_goesTick_111 : decode cX7_goesTick 111 = .ok (.sipush 464, 3) := by decide +kernel
theorem dX7_goesTick_114 : decode cX7_goesTick 114 = .ok (.iaload, 1) := by decide +kernel
theorem dX7_goesTick_115 : decode cX7_goesTick 115 = .ok (.if_icmp .ge 14, 3) := by decide +kernel
theorem dX7_goesTick_118 : decode cX7_goesTick 118 = .ok (.aload_n 0, 1) := by decide +kernel
theorem dX7_goesTick_119 : decode cX7_goesTick 119 = .ok (.iload_n 1, 1) := by decide +kernel
theorem dX7_goesTick_120 : decode cX7_goesTick 120 = .ok (.invokevirtual 151, 3) := by decide +kernel
theorem dX7_goesTick_123 : decode cX7_goesTick 123 = .ok (.iinc 1 1, 3) := by decide +kernel
theorem dX7_goesTick_126 : decode cX7_goesTick 126 = .ok (.goto (-20), 3) := by decide +kernel
theorem dX7_goesTick_129 : decode cX7_goesTick 129 = .ok (.return_, 1) := by decide +kernel
set_option maxRecDepth 20000 in
theorem ggX7_isPressed_X7_of : GoodIn wsX7_isPressed wsX7_of := goodIn_ca (goodIn_r _ [5, 6, 7, 8, 9, 10, 11, 12, 13, 14, 15, 16, 17, 18, 19, 20, 21, 22, 23] (by decide +kernel) (by decide +kernel)) (goodIn_sub (fun _ h => List.mem_cons_of_mem _ (List.mem_append_right _ h)) (by decide +kernel))
set_option maxRecDepth 20000 in
theorem gX7_isPressed_X7_of : GoodIn wsX7_isPressed (wsV RX7 68 RX7 yX7_of wsX7_of) := goodIn_app (goodIn_of _ (by decide +kernel)) ggX7_isPressed_X7_of
theorem dX7_isPressed_0 : decode cX7_isPressed 0 = .ok (.aload_n 0, 1) := by decide +kernel
theorem dX7_isPressed_1 : decode cX7_isPressed 1 = .ok (.iload_n 1, 1) := by decide +kernel
theorem dX7_isPressed_2 : decode cX7_isPressed 2 = .ok (.bipush 9, 2) := by decide +kernel
theorem dX7_isPressed_4 : decode cX7_isPressed 4 = .ok (.invokevirtual 68, 3) := by decide +kernel
theorem dX7_isPressed_7 : decode cX7_isPressed 7 = .ok (.iload_n 2, 1) := by decide +kernel
theorem dX7_isPressed_8 : decode cX7_isPressed 8 = .ok (.iand, 1) := by decide +kernel
theorem dX7_isPressed_9 : decode cX7_isPressed 9 = .ok (.ifCond .eq 7, 3) := by decide +kernel
theorem dX7_isPressed_12 : decode cX7_isPressed 12 = .ok (.iconst 1, 1) := by decide +kernel
theorem dX7_isPressed_13 : decode cX7_isPressed 13 = .ok (.goto 4, 3) := by decide +kernel
theorem dX7_isPressed_16 : decode cX7_isPressed 16 = .ok (.iconst 0, 1) := by decide +kernel
theorem dX7_isPressed_17 : decode cX7_isPressed 17 = .ok (.ireturn, 1) := by decide +kernel
set_option maxRecDepth 20000 in
theorem ggX7_wayOf_X7_isPressed : GoodIn wsX7_wayOf wsX7_isPressed := goodIn_ca (goodIn_r _ [5, 6, 7, 8, 4, 9, 10, 11, 12, 13, 14, 15, 16, 17, 18, 19, 20, 21, 22, 23, 24, 25, 26, 27] (by decide +kernel) (by decide +kernel)) (goodIn_sub (fun _ h => List.mem_cons_of_mem _ (List.mem_append_right _ h)) (by decide +kernel))
set_option maxRecDepth 20000 in
theorem gX7_wayOf_X7_isPressed : GoodIn wsX7_wayOf (wsV RX7 154 RX7 yX7_isPressed wsX7_isPressed) := goodIn_app (goodIn_of _ (by decide +kernel)) ggX7_wayOf_X7_isPressed
theorem dX7_wayOf_0 : decode cX7_wayOf 0 = .ok (.aload_n 0, 1) := by decide +kernel
theorem dX7_wayOf_1 : decode cX7_wayOf 1 = .ok (.iload_n 1, 1) := by decide +kernel
theorem dX7_wayOf_2 : decode cX7_wayOf 2 = .ok (.iconst 1, 1) := by decide +kernel
theorem dX7_wayOf_3 : decode cX7_wayOf 3 = .ok (.invokevirtual 154, 3) := by decide +kernel
theorem dX7_wayOf_6 : decode cX7_wayOf 6 = .ok (.istore_n 2, 1) := by decide +kernel
theorem dX7_wayOf_7 : decode cX7_wayOf 7 = .ok (.aload_n 0, 1) := by decide +kernel
theorem dX7_wayOf_8 : decode cX7_wayOf 8 = .ok (.iload_n 1, 1) := by decide +kernel
theorem dX7_wayOf_9 : decode cX7_wayOf 9 = .ok (.iconst 2, 1) := by decide +kernel
theorem dX7_wayOf_10 : decode cX7_wayOf 10 = .ok (.invokevirtual 154, 3) := by decide +kernel
theorem dX7_wayOf_13 : decode cX7_wayOf 13 = .ok (.istore_n 3, 1) := by decide +kernel
theorem dX7_wayOf_14 : decode cX7_wayOf 14 = .ok (.iload_n 2, 1) := by decide +kernel
theorem dX7_wayOf_15 : decode cX7_wayOf 15 = .ok (.iload_n 3, 1) := by decide +kernel
theorem dX7_wayOf_16 : decode cX7_wayOf 16 = .ok (.if_icmp .ne 7, 3) := by decide +kernel
theorem dX7_wayOf_19 : decode cX7_wayOf 19 = .ok (.iconst 0, 1) := by decide +kernel
theorem dX7_wayOf_20 : decode cX7_wayOf 20 = .ok (.goto 12, 3) := by decide +kernel
theorem dX7_wayOf_23 : decode cX7_wayOf 23 = .ok (.iload_n 2, 1) := by decide +kernel
theorem dX7_wayOf_24 : decode cX7_wayOf 24 = .ok (.ifCond .eq 7, 3) := by decide +kernel
theorem dX7_wayOf_27 : decode cX7_wayOf 27 = .ok (.iconst (-1), 1) := by decide +kernel
theorem dX7_wayOf_28 : decode cX7_wayOf 28 = .ok (.goto 4, 3) := by decide +kernel
theorem dX7_wayOf_31 : decode cX7_wayOf 31 = .ok (.iconst 1, 1) := by decide +kernel
theorem dX7_wayOf_32 : decode cX7_wayOf 32 = .ok (.ireturn, 1) := by decide +kernel
set_option maxRecDepth 20000 in
theorem ggX7_isOnIce_X7_of : GoodIn wsX7_isOnIce wsX7_of := goodIn_ca (goodIn_r _ [5, 6, 46, 47, 48, 49, 50, 51, 52, 53, 54, 55, 56, 57, 58, 59, 60, 61, 62] (by decide +kernel) (by decide +kernel)) (goodIn_sub (fun _ h => List.mem_cons_of_mem _ (List.mem_append_right _ h)) (by decide +kernel))
set_option maxRecDepth 20000 in
theorem gX7_isOnIce_X7_of : GoodIn wsX7_isOnIce (wsV RX7 68 RX7 yX7_of wsX7_of) := goodIn_app (goodIn_of _ (by decide +kernel)) ggX7_isOnIce_X7_of
set_option maxRecDepth 20000 in
theorem ggX7_isOnIce_X7_firmBelow : GoodIn wsX7_isOnIce wsX7_firmBelow := goodIn_ca (goodIn_r _ [10, 11, 12, 13, 4, 14, 15, 16, 17, 18, 1, 2, 3, 5, 6, 19, 20, 21, 22, 23, 24, 25, 26, 27, 28, 29, 30, 31, 32, 33, 34, 35, 36, 37, 38, 39, 40, 41, 42, 43, 44, 45, 46, 47, 48, 49, 50, 51, 52, 53, 54, 55, 56, 57, 58, 59, 60, 61, 62] (by decide +kernel) (by decide +kernel)) (goodIn_sub (fun _ h => List.mem_cons_of_mem _ (List.mem_append_right _ h)) (by decide +kernel))
set_option maxRecDepth 20000 in
theorem gX7_isOnIce_X7_firmBelow : GoodIn wsX7_isOnIce (wsV RX7 101 RX7 yX7_firmBelow wsX7_firmBelow) := goodIn_app (goodIn_of _ (by decide +kernel)) ggX7_isOnIce_X7_firmBelow
theorem dX7_isOnIce_0 : decode cX7_isOnIce 0 = .ok (.aload_n 0, 1) := by decide +kernel
theorem dX7_isOnIce_1 : decode cX7_isOnIce 1 = .ok (.iload_n 1, 1) := by decide +kernel
theorem dX7_isOnIce_2 : decode cX7_isOnIce 2 = .ok (.aload_n 0, 1) := by decide +kernel
theorem dX7_isOnIce_3 : decode cX7_isOnIce 3 = .ok (.iload_n 1, 1) := by decide +kernel
theorem dX7_isOnIce_4 : decode cX7_isOnIce 4 = .ok (.iconst 0, 1) := by decide +kernel
theorem dX7_isOnIce_5 : decode cX7_isOnIce 5 = .ok (.invokevirtual 68, 3) := by decide +kernel
theorem dX7_isOnIce_8 : decode cX7_isOnIce 8 = .ok (.aload_n 0, 1) := by decide +kernel
theorem dX7_isOnIce_9 : decode cX7_isOnIce 9 = .ok (.iload_n 1, 1) := by decide +kernel
theorem dX7_isOnIce_10 : decode cX7_isOnIce 10 = .ok (.iconst 1, 1) := by decide +kernel
theorem dX7_isOnIce_11 : decode cX7_isOnIce 11 = .ok (.invokevirtual 68, 3) := by decide +kernel
theorem dX7_isOnIce_14 : decode cX7_isOnIce 14 = .ok (.invokevirtual 101, 3) := by decide +kernel
theorem dX7_isOnIce_17 : decode cX7_isOnIce 17 = .ok (.bipush 32, 2) := by decide +kernel
theorem dX7_isOnIce_19 : decode cX7_isOnIce 19 = .ok (.if_icmp .ne 7, 3) := by decide +kernel
theorem dX7_isOnIce_22 : decode cX7_isOnIce 22 = .ok (.iconst 1, 1) := by decide +kernel
theorem dX7_isOnIce_23 : decode cX7_isOnIce 23 = .ok (.goto 4, 3) := by decide +kernel
theorem dX7_isOnIce_26 : decode cX7_isOnIce 26 = .ok (.iconst 0, 1) := by decide +kernel
theorem dX7_isOnIce_27 : decode cX7_isOnIce 27 = .ok (.ireturn, 1) := by decide +kernel
set_option maxRecDepth 20000 in
theorem ggX7_counts_X7_of : GoodIn wsX7_counts wsX7_of := goodIn_ca (goodIn_r _ [5, 6, 11, 12, 13, 14, 15, 16, 17, 18, 19, 20, 21, 22, 23, 24, 25, 26, 27] (by decide +kernel) (by decide +kernel)) (goodIn_sub (fun _ h => List.mem_cons_of_mem _ (List.mem_append_right _ h)) (by decide +kernel))
set_option maxRecDepth 20000 in
theorem gX7_counts_X7_of : GoodIn wsX7_counts (wsV RX7 68 RX7 yX7_of wsX7_of) := goodIn_app (goodIn_of _ (by decide +kernel)) ggX7_counts_X7_of
set_option maxRecDepth 20000 in
theorem ggX7_counts_X7_sets : GoodIn wsX7_counts wsX7_sets := goodIn_ca (goodIn_r _ [10, 6, 11, 12, 13, 14, 15, 16, 17, 18, 19, 20, 21, 22, 23, 24, 25, 26, 27] (by decide +kernel) (by decide +kernel)) (goodIn_sub (fun _ h => List.mem_cons_of_mem _ (List.mem_append_right _ h)) (by decide +kernel))
set_option maxRecDepth 20000 in
theorem gX7_counts_X7_sets : GoodIn wsX7_counts (wsV RX7 126 RX7 yX7_sets wsX7_sets) := goodIn_app (goodIn_of _ (by decide +kernel)) ggX7_counts_X7_sets
theorem dX7_counts_0 : decode cX7_counts 0 = .ok (.aload_n 0, 1) := by decide +kernel
theorem dX7_counts_1 : decode cX7_counts 1 = .ok (.iload_n 1, 1) := by decide +kernel
theorem dX7_counts_2 : decode cX7_counts 2 = .ok (.iload_n 2, 1) := by decide +kernel
theorem dX7_counts_3 : decode cX7_counts 3 = .ok (.iload 4, 2) := by decide +kernel
theorem dX7_counts_5 : decode cX7_counts 5 = .ok (.ifCond .eq 7, 3) := by decide +kernel
theorem dX7_counts_8 : decode cX7_counts 8 = .ok (.iload_n 3, 1) := by decide +kernel
theorem dX7_counts_9 : decode cX7_counts 9 = .ok (.goto 24, 3) := by decide +kernel
theorem dX7_counts_12 : decode cX7_counts 12 = .ok (.aload_n 0, 1) := by decide +kernel
theorem dX7_counts_13 : decode cX7_counts 13 = .ok (.iload_n 1, 1) := by decide +kernel
theorem dX7_counts_14 : decode cX7_counts 14 = .ok (.iload_n 2, 1) := by decide +kernel
theorem dX7_counts_15 : decode cX7_counts 15 = .ok (.invokevirtual 68, 3) := by decide +kernel
theorem dX7_counts_18 : decode cX7_counts 18 = .ok (.ifCond .le 14, 3) := by decide +kernel
theorem dX7_counts_21 : decode cX7_counts 21 = .ok (.aload_n 0, 1) := by decide +kernel
theorem dX7_counts_22 : decode cX7_counts 22 = .ok (.iload_n 1, 1) := by decide +kernel
theorem dX7_counts_23 : decode cX7_counts 23 = .ok (.iload_n 2, 1) := by decide +kernel
theorem dX7_counts_24 : decode cX7_counts 24 = .ok (.invokevirtual 68, 3) := by decide +kernel
theorem dX7_counts_27 : decode cX7_counts 27 = .ok (.iconst 1, 1) := by decide +kernel
theorem dX7_counts_28 : decode cX7_counts 28 = .ok (.isub, 1) := by decide +kernel
theorem dX7_counts_29 : decode cX7_counts 29 = .ok (.goto 4, 3) := by decide +kernel
theorem dX7_counts_32 : decode cX7_counts 32 = .ok (.iconst 0, 1) := by decide +kernel
theorem dX7_counts_33 : decode cX7_counts 33 = .ok (.invokevirtual 126, 3) := by decide +kernel
theorem dX7_counts_36 : decode cX7_counts 36 = .ok (.return_, 1) := by decide +kernel
set_option maxRecDepth 20000 in
theorem ggX7_speedsUp_X7_of : GoodIn wsX7_speedsUp wsX7_of := goodIn_ca (goodIn_r _ [6, 7, 55, 56, 57, 58, 59, 60, 61, 62, 63, 64, 65, 66, 67, 68, 69, 70, 71] (by decide +kernel) (by decide +kernel)) (goodIn_sub (fun _ h => List.mem_cons_of_mem _ (List.mem_append_right _ h)) (by decide +kernel))
set_option maxRecDepth 20000 in
theorem gX7_speedsUp_X7_of : GoodIn wsX7_speedsUp (wsV RX7 68 RX7 yX7_of wsX7_of) := goodIn_app (goodIn_of _ (by decide +kernel)) ggX7_speedsUp_X7_of
set_option maxRecDepth 20000 in
theorem ggX7_speedsUp_X7_isOnIce : GoodIn wsX7_speedsUp wsX7_isOnIce := goodIn_ca (goodIn_r _ [11, 2, 3, 4, 5, 6, 7, 12, 13, 14, 15, 16, 17, 18, 19, 20, 21, 22, 23, 24, 25, 26, 27, 28, 29, 30, 31, 32, 33, 34, 35, 36, 37, 38, 39, 40, 41, 42, 43, 44, 45, 46, 47, 48, 49, 50, 55, 56, 57, 58, 59, 60, 61, 62, 63, 64, 65, 66, 67, 68, 69, 70, 71] (by decide +kernel) (by decide +kernel)) (goodIn_sub (fun _ h => List.mem_cons_of_mem _ (List.mem_append_right _ h)) (by decide +kernel))
set_option maxRecDepth 20000 in
theorem gX7_speedsUp_X7_isOnIce : GoodIn wsX7_speedsUp (wsV RX7 157 RX7 yX7_isOnIce wsX7_isOnIce) := goodIn_app (goodIn_of _ (by decide +kernel)) ggX7_speedsUp_X7_isOnIce
set_option maxRecDepth 20000 in
theorem ggX7_speedsUp_X7_sets : GoodIn wsX7_speedsUp wsX7_sets := goodIn_ca (goodIn_r _ [54, 7, 55, 56, 57, 58, 59, 60, 61, 62, 63, 64, 65, 66, 67, 68, 69, 70, 71] (by decide +kernel) (by decide +kernel)) (goodIn_sub (fun _ h => List.mem_cons_of_mem _ (List.mem_append_right _ h)) (by decide +kernel))
set_option maxRecDepth 20000 in
theorem gX7_speedsUp_X7_sets : GoodIn wsX7_speedsUp (wsV RX7 126 RX7 yX7_sets wsX7_sets) := goodIn_app (goodIn_of _ (by decide +kernel)) ggX7_speedsUp_X7_sets
theorem dX7_speedsUp_0 : decode cX7_speedsUp 0 = .ok (.aload_n 0, 1) := by decide +kernel
theorem dX7_speedsUp_1 : decode cX7_speedsUp 1 = .ok (.iload_n 1, 1) := by decide +kernel
theorem dX7_speedsUp_2 : decode cX7_speedsUp 2 = .ok (.iconst 2, 1) := by decide +kernel
theorem dX7_speedsUp_3 : decode cX7_speedsUp 3 = .ok (.invokevirtual 68, 3) := by decide +kernel
theorem dX7_speedsUp_6 : decode cX7_speedsUp 6 = .ok (.iload_n 2, 1) := by decide +kernel
theorem dX7_speedsUp_7 : decode cX7_speedsUp 7 = .ok (.imul, 1) := by decide +kernel
theorem dX7_speedsUp_8 : decode cX7_speedsUp 8 = .ok (.istore 4, 2) := by decide +kernel
theorem dX7_speedsUp_10 : decode cX7_speedsUp 10 = .ok (.aload_n 0, 1) := by decide +kernel
theorem dX7_speedsUp_11 : decode cX7_speedsUp 11 = .ok (.getfield 13, 3) := by decide +kernel
theorem dX7_speedsUp_14 : decode cX7_speedsUp 14 = .ok (.iconst 0, 1) := by decide +kernel
theorem dX7_speedsUp_15 : decode cX7_speedsUp 15 = .ok (.iaload, 1) := by decide +kernel
theorem dX7_speedsUp_16 : decode cX7_speedsUp 16 = .ok (.istore 5, 2) := by decide +kernel
theorem dX7_speedsUp_18 : decode cX7_speedsUp 18 = .ok (.iload 4, 2) := by decide +kernel
theorem dX7_speedsUp_20 : decode cX7_speedsUp 20 = .ok (.iload 5, 2) := by decide +kernel
theorem dX7_speedsUp_22 : decode cX7_speedsUp 22 = .ok (.if_icmp .le 4, 3) := by decide +kernel
theorem dX7_speedsUp_25 : decode cX7_speedsUp 25 = .ok (.return_, 1) := by decide +kernel
theorem dX7_speedsUp_26 : decode cX7_speedsUp 26 = .ok (.iload 4, 2) := by decide +kernel
theorem dX7_speedsUp_28 : decode cX7_speedsUp 28 = .ok (.iload_n 3, 1) := by decide +kernel
theorem dX7_speedsUp_29 : decode cX7_speedsUp 29 = .ok (.ifCond .eq 15, 3) := by decide +kernel
theorem dX7_speedsUp_32 : decode cX7_speedsUp 32 = .ok (.aload_n 0, 1) := by decide +kernel
theorem dX7_speedsUp_33 : decode cX7_speedsUp 33 = .ok (.iload_n 1, 1) := by decide +kernel
theorem dX7_speedsUp_34 : decode cX7_speedsUp 34 = .ok (.invokevirtual 157, 3) := by decide +kernel
theorem dX7_speedsUp_37 : decode cX7_speedsUp 37 = .ok (.ifCond .ne 7, 3) := by decide +kernel
theorem dX7_speedsUp_40 : decode cX7_speedsUp 40 = .ok (.iconst 2, 1) := by decide +kernel
theorem dX7_speedsUp_41 : decode cX7_speedsUp 41 = .ok (.goto 4, 3) := by decide +kernel
theorem dX7_speedsUp_44 : decode cX7_speedsUp 44 = .ok (.iconst 1, 1) := by decide +kernel
theorem dX7_speedsUp_45 : decode cX7_speedsUp 45 = .ok (.iadd, 1) := by decide +kernel
theorem dX7_speedsUp_46 : decode cX7_speedsUp 46 = .ok (.istore 4, 2) := by decide +kernel
theorem dX7_speedsUp_48 : decode cX7_speedsUp 48 = .ok (.aload_n 0, 1) := by decide +kernel
theorem dX7_speedsUp_49 : decode cX7_speedsUp 49 = .ok (.iload_n 1, 1) := by decide +kernel
theorem dX7_speedsUp_50 : decode cX7_speedsUp 50 = .ok (.iconst 2, 1) := by decide +kernel
theorem dX7_speedsUp_51 : decode cX7_speedsUp 51 = .ok (.iload_n 2, 1) := by decide +kernel
theorem dX7_speedsUp_52 : decode cX7_speedsUp 52 = .ok (.iload 4, 2) := by decide +kernel
theorem dX7_speedsUp_54 : decode cX7_speedsUp 54 = .ok (.iload 5, 2) := by decide +kernel
theorem dX7_speedsUp_56 : decode cX7_speedsUp 56 = .ok (.if_icmp .le 8, 3) := by decide +kernel
theorem dX7_speedsUp_59 : decode cX7_speedsUp 59 = .ok (.iload 5, 2) := by decide +kernel
theorem dX7_speedsUp_61 : decode cX7_speedsUp 61 = .ok (.goto 5, 3) := by decide +kernel
theorem dX7_speedsUp_64 : decode cX7_speedsUp 64 = .ok (.iload 4, 2) := by decide +kernel
theorem dX7_speedsUp_66 : decode cX7_speedsUp 66 = .ok (.imul, 1) := by decide +kernel
theorem dX7_speedsUp_67 : decode cX7_speedsUp 67 = .ok (.invokevirtual 126, 3) := by decide +kernel
theorem dX7_speedsUp_70 : decode cX7_speedsUp 70 = .ok (.return_, 1) := by decide +kernel
set_option maxRecDepth 20000 in
theorem ggX7_slowsDown_X7_of : GoodIn wsX7_slowsDown wsX7_of := goodIn_ca (goodIn_r _ [5, 6, 11, 12, 13, 14, 15, 16, 17, 18, 19, 20, 21, 22, 23, 24, 25, 26, 27] (by decide +kernel) (by decide +kernel)) (goodIn_sub (fun _ h => List.mem_cons_of_mem _ (List.mem_append_right _ h)) (by decide +kernel))
set_option maxRecDepth 20000 in
theorem gX7_slowsDown_X7_of : GoodIn wsX7_slowsDown (wsV RX7 68 RX7 yX7_of wsX7_of) := goodIn_app (goodIn_of _ (by decide +kernel)) ggX7_slowsDown_X7_of
set_option maxRecDepth 20000 in
theorem ggX7_slowsDown_X7_sets : GoodIn wsX7_slowsDown wsX7_sets := goodIn_ca (goodIn_r _ [10, 6, 11, 12, 13, 14, 15, 16, 17, 18, 19, 20, 21, 22, 23, 24, 25, 26, 27] (by decide +kernel) (by decide +kernel)) (goodIn_sub (fun _ h => List.mem_cons_of_mem _ (List.mem_append_right _ h)) (by decide +kernel))
set_option maxRecDepth 20000 in
theorem gX7_slowsDown_X7_sets : GoodIn wsX7_slowsDown (wsV RX7 126 RX7 yX7_sets wsX7_sets) := goodIn_app (goodIn_of _ (by decide +kernel)) ggX7_slowsDown_X7_sets
theorem dX7_slowsDown_0 : decode cX7_slowsDown 0 = .ok (.aload_n 0, 1) := by decide +kernel
theorem dX7_slowsDown_1 : decode cX7_slowsDown 1 = .ok (.iload_n 1, 1) := by decide +kernel
theorem dX7_slowsDown_2 : decode cX7_slowsDown 2 = .ok (.iconst 2, 1) := by decide +kernel
theorem dX7_slowsDown_3 : decode cX7_slowsDown 3 = .ok (.invokevirtual 68, 3) := by decide +kernel
theorem dX7_slowsDown_6 : decode cX7_slowsDown 6 = .ok (.istore_n 2, 1) := by decide +kernel
theorem dX7_slowsDown_7 : decode cX7_slowsDown 7 = .ok (.aload_n 0, 1) := by decide +kernel
theorem dX7_slowsDown_8 : decode cX7_slowsDown 8 = .ok (.iload_n 1, 1) := by decide +kernel
theorem dX7_slowsDown_9 : decode cX7_slowsDown 9 = .ok (.iconst 2, 1) := by decide +kernel
theorem dX7_slowsDown_10 : decode cX7_slowsDown 10 = .ok (.iload_n 2, 1) := by decide +kernel
theorem dX7_slowsDown_11 : decode cX7_slowsDown 11 = .ok (.iconst 2, 1) := by decide +kernel
theorem dX7_slowsDown_12 : decode cX7_slowsDown 12 = .ok (.if_icmp .le 9, 3) := by decide +kernel
theorem dX7_slowsDown_15 : decode cX7_slowsDown 15 = .ok (.iload_n 2, 1) := by decide +kernel
theorem dX7_slowsDown_16 : decode cX7_slowsDown 16 = .ok (.iconst 2, 1) := by decide +kernel
theorem dX7_slowsDown_17 : decode cX7_slowsDown 17 = .ok (.isub, 1) := by decide +kernel
theorem dX7_slowsDown_18 : decode cX7_slowsDown 18 = .ok (.goto 16, 3) := by decide +kernel
theorem dX7_slowsDown_21 : decode cX7_slowsDown 21 = .ok (.iload_n 2, 1) := by decide +kernel
theorem dX7_slowsDown_22 : decode cX7_slowsDown 22 = .ok (.bipush (-2), 2) := by decide +kernel
theorem dX7_slowsDown_24 : decode cX7_slowsDown 24 = .ok (.if_icmp .ge 9, 3) := by decide +kernel
theorem dX7_slowsDown_27 : decode cX7_slowsDown 27 = .ok (.iload_n 2, 1) := by decide +kernel
theorem dX7_slowsDown_28 : decode cX7_slowsDown 28 = .ok (.iconst 2, 1) := by decide +kernel
theorem dX7_slowsDown_29 : decode cX7_slowsDown 29 = .ok (.iadd, 1) := by decide +kernel
theorem dX7_slowsDown_30 : decode cX7_slowsDown 30 = .ok (.goto 4, 3) := by decide +kernel
theorem dX7_slowsDown_33 : decode cX7_slowsDown 33 = .ok (.iconst 0, 1) := by decide +kernel
theorem dX7_slowsDown_34 : decode cX7_slowsDown 34 = .ok (.invokevirtual 126, 3) := by decide +kernel
theorem dX7_slowsDown_37 : decode cX7_slowsDown 37 = .ok (.return_, 1) := by decide +kernel
set_option maxRecDepth 20000 in
theorem ggX7_jumps_X7_of : GoodIn wsX7_jumps wsX7_of := goodIn_ca (goodIn_r _ [6, 7, 55, 56, 57, 58, 59, 60, 61, 62, 63, 64, 65, 66, 67, 68, 69, 70, 71] (by decide +kernel) (by decide +kernel)) (goodIn_sub (fun _ h => List.mem_cons_of_mem _ (List.mem_append_right _ h)) (by decide +kernel))
set_option maxRecDepth 20000 in
theorem gX7_jumps_X7_of : GoodIn wsX7_jumps (wsV RX7 68 RX7 yX7_of wsX7_of) := goodIn_app (goodIn_of _ (by decide +kernel)) ggX7_jumps_X7_of
set_option maxRecDepth 20000 in
theorem ggX7_jumps_X7_blocks : GoodIn wsX7_jumps wsX7_blocks := goodIn_ca (goodIn_r _ [11, 12, 13, 14, 5, 15, 16, 17, 18, 19, 2, 3, 4, 6, 7, 20, 21, 22, 23, 24, 25, 26, 27, 28, 29, 30, 31, 32, 33, 34, 35, 36, 37, 38, 39, 40, 41, 42, 43, 44, 45, 46, 55, 56, 57, 58, 59, 60, 61, 62, 63, 64, 65, 66, 67, 68, 69, 70, 71] (by decide +kernel) (by decide +kernel)) (goodIn_sub (fun _ h => List.mem_cons_of_mem _ (List.mem_append_right _ h)) (by decide +kernel))
set_option maxRecDepth 20000 in
theorem gX7_jumps_X7_blocks : GoodIn wsX7_jumps (wsV RX7 123 RX7 yX7_blocks wsX7_blocks) := goodIn_app (goodIn_of _ (by decide +kernel)) ggX7_jumps_X7_blocks
set_option maxRecDepth 20000 in
theorem ggX7_jumps_X7_sets : GoodIn wsX7_jumps wsX7_sets := goodIn_ca (goodIn_r _ [50, 7, 55, 56, 57, 58, 59, 60, 61, 62, 63, 64, 65, 66, 67, 68, 69, 70, 71] (by decide +kernel) (by decide +kernel)) (goodIn_sub (fun _ h => List.mem_cons_of_mem _ (List.mem_append_right _ h)) (by decide +kernel))
set_option maxRecDepth 20000 in
theorem gX7_jumps_X7_sets : GoodIn wsX7_jumps (wsV RX7 126 RX7 yX7_sets wsX7_sets) := goodIn_app (goodIn_of _ (by decide +kernel)) ggX7_jumps_X7_sets
set_option maxRecDepth 20000 in
theorem ggX7_jumps_X7_adds : GoodIn wsX7_jumps wsX7_adds := goodIn_ca (goodIn_r _ [54, 7, 55, 56, 57, 58, 59, 60, 61, 62, 63, 64, 65, 66, 67, 68, 69, 70, 71] (by decide +kernel) (by decide +kernel)) (goodIn_sub (fun _ h => List.mem_cons_of_mem _ (List.mem_append_right _ h)) (by decide +kernel))
set_option maxRecDepth 20000 in
theorem gX7_jumps_X7_adds : GoodIn wsX7_jumps (wsV RX7 130 RX7 yX7_adds wsX7_adds) := goodIn_app (goodIn_of _ (by decide +kernel)) ggX7_jumps_X7_adds
theorem dX7_jumps_0 : decode cX7_jumps 0 = .ok (.aload_n 0, 1) := by decide +kernel
theorem dX7_jumps_1 : decode cX7_jumps 1 = .ok (.iload_n 1, 1) := by decide +kernel
theorem dX7_jumps_2 : decode cX7_jumps 2 = .ok (.iconst 5, 1) := by decide +kernel
theorem dX7_jumps_3 : decode cX7_jumps 3 = .ok (.invokevirtual 68, 3) := by decide +kernel
theorem dX7_jumps_6 : decode cX7_jumps 6 = .ok (.ifCond .ne 5, 3) := by decide +kernel
theorem dX7_jumps_9 : decode cX7_jumps 9 = .ok (.iconst 0, 1) := by decide +kernel
theorem dX7_jumps_10 : decode cX7_jumps 10 = .ok (.ireturn, 1) := by decide +kernel
theorem dX7_jumps_11 : decode cX7_jumps 11 = .ok (.aload_n 0, 1) := by decide +kernel
theorem dX7_jumps_12 : decode cX7_jumps 12 = .ok (.iload_n 1, 1) := by decide +kernel
theorem dX7_jumps_13 : decode cX7_jumps 13 = .ok (.iconst 4, 1) := by decide +kernel
theorem dX7_jumps_14 : decode cX7_jumps 14 = .ok (.invokevirtual 68, 3) := by decide +kernel
theorem dX7_jumps_17 : decode cX7_jumps 17 = .ok (.ifCond .le 7, 3) := by decide +kernel
theorem dX7_jumps_20 : decode cX7_jumps 20 = .ok (.iconst 1, 1) := by decide +kernel
theorem dX7_jumps_21 : decode cX7_jumps 21 = .ok (.goto 4, 3) := by decide +kernel
theorem dX7_jumps_24 : decode cX7_jumps 24 = .ok (.iconst 0, 1) := by decide +kernel
theorem dX7_jumps_25 : decode cX7_jumps 25 = .ok (.istore_n 3, 1) := by decide +kernel
theorem dX7_jumps_26 : decode cX7_jumps 26 = .ok (.iload_n 3, 1) := by decide +kernel
theorem dX7_jumps_27 : decode cX7_jumps 27 = .ok (.ifCond .ne 33, 3) := by decide +kernel
theorem dX7_jumps_30 : decode cX7_jumps 30 = .ok (.iload_n 2, 1) := by decide +kernel
theorem dX7_jumps_31 : decode cX7_jumps 31 = .ok (.ifCond .ne 29, 3) := by decide +kernel
theorem dX7_jumps_34 : decode cX7_jumps 34 = .ok (.aload_n 0, 1) := by decide +kernel
theorem dX7_jumps_35 : decode cX7_jumps 35 = .ok (.iload_n 1, 1) := by decide +kernel
theorem dX7_jumps_36 : decode cX7_jumps 36 = .ok (.aload_n 0, 1) := by decide +kernel
theorem dX7_jumps_37 : decode cX7_jumps 37 = .ok (.iload_n 1, 1) := by decide +kernel
theorem dX7_jumps_38 : decode cX7_jumps 38 = .ok (.iconst 0, 1) := by decide +kernel
theorem dX7_jumps_39 : decode cX7_jumps 39 = .ok (.invokevirtual 68, 3) := by decide +kernel
theorem dX7_jumps_42 : decode cX7_jumps 42 = .ok (.iconst 1, 1) := by decide +kernel
theorem dX7_jumps_43 : decode cX7_jumps 43 = .ok (.iadd, 1) := by decide +kernel
theorem dX7_jumps_44 : decode cX7_jumps 44 = .ok (.aload_n 0, 1) := by decide +kernel
theorem dX7_jumps_45 : decode cX7_jumps 45 = .ok (.iload_n 1, 1) := by decide +kernel
theorem dX7_jumps_46 : decode cX7_jumps 46 = .ok (.iconst 1, 1) := by decide +kernel
theorem dX7_jumps_47 : decode cX7_jumps 47 = .ok (.invokevirtual 68, 3) := by decide +kernel
theorem dX7_jumps_50 : decode cX7_jumps 50 = .ok (.invokevirtual 123, 3) := by decide +kernel
theorem dX7_jumps_53 : decode cX7_jumps 53 = .ok (.ifCond .eq 7, 3) := by decide +kernel
theorem dX7_jumps_56 : decode cX7_jumps 56 = .ok (.iconst 1, 1) := by decide +kernel
theorem dX7_jumps_57 : decode cX7_jumps 57 = .ok (.goto 4, 3) := by decide +kernel
theorem dX7_jumps_60 : decode cX7_jumps 60 = .ok (.iconst 0, 1) := by decide +kernel
theorem dX7_jumps_61 : decode cX7_jumps 61 = .ok (.istore 4, 2) := by decide +kernel
theorem dX7_jumps_63 : decode cX7_jumps 63 = .ok (.iload_n 3, 1) := by decide +kernel
theorem dX7_jumps_64 : decode cX7_jumps 64 = .ok (.ifCond .ne 33, 3) := by decide +kernel
theorem dX7_jumps_67 : decode cX7_jumps 67 = .ok (.iload_n 2, 1) := by decide +kernel
theorem dX7_jumps_68 : decode cX7_jumps 68 = .ok (.ifCond .ne 29, 3) := by decide +kernel
theorem dX7_jumps_71 : decode cX7_jumps 71 = .ok (.aload_n 0, 1) := by decide +kernel
theorem dX7_jumps_72 : decode cX7_jumps 72 = .ok (.iload_n 1, 1) := by decide +kernel
theorem dX7_jumps_73 : decode cX7_jumps 73 = .ok (.aload_n 0, 1) := by decide +kernel
theorem dX7_jumps_74 : decode cX7_jumps 74 = .ok (.iload_n 1, 1) := by decide +kernel
theorem dX7_jumps_75 : decode cX7_jumps 75 = .ok (.iconst 0, 1) := by decide +kernel
theorem dX7_jumps_76 : decode cX7_jumps 76 = .ok (.invokevirtual 68, 3) := by decide +kernel
theorem dX7_jumps_79 : decode cX7_jumps 79 = .ok (.iconst 1, 1) := by decide +kernel
theorem dX7_jumps_80 : decode cX7_jumps 80 = .ok (.isub, 1) := by decide +kernel
theorem dX7_jumps_81 : decode cX7_jumps 81 = .ok (.aload_n 0, 1) := by decide +kernel
theorem dX7_jumps_82 : decode cX7_jumps 82 = .ok (.iload_n 1, 1) := by decide +kernel
theorem dX7_jumps_83 : decode cX7_jumps 83 = .ok (.iconst 1, 1) := by decide +kernel
theorem dX7_jumps_84 : decode cX7_jumps 84 = .ok (.invokevirtual 68, 3) := by decide +kernel
theorem dX7_jumps_87 : decode cX7_jumps 87 = .ok (.invokevirtual 123, 3) := by decide +kernel
theorem dX7_jumps_90 : decode cX7_jumps 90 = .ok (.ifCond .eq 7, 3) := by decide +kernel
theorem dX7_jumps_93 : decode cX7_jumps 93 = .ok (.iconst 1, 1) := by decide +kernel
theorem dX7_jumps_94 : decode cX7_jumps 94 = .ok (.goto 4, 3) := by decide +kernel
theorem dX7_jumps_97 : decode cX7_jumps 97 = .ok (.iconst 0, 1) := by decide +kernel
theorem dX7_jumps_98 : decode cX7_jumps 98 = .ok (.istore 5, 2) := by decide +kernel
theorem dX7_jumps_100 : decode cX7_jumps 100 = .ok (.iload_n 3, 1) := by decide +kernel
theorem dX7_jumps_101 : decode cX7_jumps 101 = .ok (.ifCond .ne 15, 3) := by decide +kernel
theorem dX7_jumps_104 : decode cX7_jumps 104 = .ok (.iload 4, 2) := by decide +kernel
theorem dX7_jumps_106 : decode cX7_jumps 106 = .ok (.ifCond .ne 10, 3) := by decide +kernel
theorem dX7_jumps_109 : decode cX7_jumps 109 = .ok (.iload 5, 2) := by decide +kernel
theorem dX7_jumps_111 : decode cX7_jumps 111 = .ok (.ifCond .ne 5, 3) := by decide +kernel
theorem dX7_jumps_114 : decode cX7_jumps 114 = .ok (.iconst 0, 1) := by decide +kernel
theorem dX7_jumps_115 : decode cX7_jumps 115 = .ok (.ireturn, 1) := by decide +kernel
theorem dX7_jumps_116 : decode cX7_jumps 116 = .ok (.aload_n 0, 1) := by decide +kernel
theorem dX7_jumps_117 : decode cX7_jumps 117 = .ok (.iload_n 1, 1) := by decide +kernel
theorem dX7_jumps_118 : decode cX7_jumps 118 = .ok (.iconst 3, 1) := by decide +kernel
theorem dX7_jumps_119 : decode cX7_jumps 119 = .ok (.aload_n 0, 1) := by decide +kernel
theorem dX7_jumps_120 : decode cX7_jumps 120 = .ok (.getfield 13, 3) := by decide +kernel
theorem dX7_jumps_123 : decode cX7_jumps 123 = .ok (.iconst 1, 1) := by decide +kernel
theorem dX7_jumps_124 : decode cX7_jumps 124 = .ok (.iaload, 1) := by decide +kernel
theorem dX7_jumps_125 : decode cX7_jumps 125 = .ok (.invokevirtual 126, 3) := by decide +kernel
theorem dX7_jumps_128 : decode cX7_jumps 128 = .ok (.aload_n 0, 1) := by decide +kernel
theorem dX7_jumps_129 : decode cX7_jumps 129 = .ok (.iload_n 1, 1) := by decide +kernel
theorem dX7_jumps_130 : decode cX7_jumps 130 = .ok (.iconst 5, 1) := by decide +kernel
theorem dX7_jumps_131 : decode cX7_jumps 131 = .ok (.iconst 0, 1) := by decide +kernel
theorem dX7_jumps_132 : decode cX7_jumps 132 = .ok (.invokevirtual 126, 3) := by decide +kernel
theorem dX7_jumps_135 : decode cX7_jumps 135 = .ok (.iload_n 3, 1) := by decide +kernel
theorem dX7_jumps_136 : decode cX7_jumps 136 = .ok (.ifCond .eq 13, 3) := by decide +kernel
theorem dX7_jumps_139 : decode cX7_jumps 139 = .ok (.aload_n 0, 1) := by decide +kernel
theorem dX7_jumps_140 : decode cX7_jumps 140 = .ok (.iload_n 1, 1) := by decide +kernel
theorem dX7_jumps_141 : decode cX7_jumps 141 = .ok (.iconst 4, 1) := by decide +kernel
theorem dX7_jumps_142 : decode cX7_jumps 142 = .ok (.iconst 0, 1) := by decide +kernel
theorem dX7_jumps_143 : decode cX7_jumps 143 = .ok (.invokevirtual 126, 3) := by decide +kernel
theorem dX7_jumps_146 : decode cX7_jumps 146 = .ok (.goto 30, 3) := by decide +kernel
theorem dX7_jumps_149 : decode cX7_jumps 149 = .ok (.aload_n 0, 1) := by decide +kernel
theorem dX7_jumps_150 : decode cX7_jumps 150 = .ok (.iload_n 1, 1) := by decide +kernel
theorem dX7_jumps_151 : decode cX7_jumps 151 = .ok (.iconst 2, 1) := by decide +kernel
theorem dX7_jumps_152 : decode cX7_jumps 152 = .ok (.iload 4, 2) := by decide +kernel
theorem dX7_jumps_154 : decode cX7_jumps 154 = .ok (.ifCond .eq 13, 3) := by decide +kernel
theorem dX7_jumps_157 : decode cX7_jumps 157 = .ok (.aload_n 0, 1) := by decide +kernel
theorem dX7_jumps_158 : decode cX7_jumps 158 = .ok (.getfield 13, 3) := by decide +kernel
theorem dX7_jumps_161 : decode cX7_jumps 161 = .ok (.iconst 0, 1) := by decide +kernel
theorem dX7_jumps_162 : decode cX7_jumps 162 = .ok (.iaload, 1) := by decide +kernel
theorem dX7_jumps_163 : decode cX7_jumps 163 = .ok (.ineg, 1) := by decide +kernel
theorem dX7_jumps_164 : decode cX7_jumps 164 = .ok (.goto 9, 3) := by decide +kernel
theorem dX7_jumps_167 : decode cX7_jumps 167 = .ok (.aload_n 0, 1) := by decide +kernel
theorem dX7_jumps_168 : decode cX7_jumps 168 = .ok (.getfield 13, 3) := by decide +kernel
theorem dX7_jumps_171 : decode cX7_jumps 171 = .ok (.iconst 0, 1) := by decide +kernel
theorem dX7_jumps_172 : decode cX7_jumps 172 = .ok (.iaload, 1) := by decide +kernel
theorem dX7_jumps_173 : decode cX7_jumps 173 = .ok (.invokevirtual 126, 3) := by decide +kernel
theorem dX7_jumps_176 : decode cX7_jumps 176 = .ok (.aload_n 0, 1) := by decide +kernel
theorem dX7_jumps_177 : decode cX7_jumps 177 = .ok (.iload_n 1, 1) := by decide +kernel
theorem dX7_jumps_178 : decode cX7_jumps 178 = .ok (.bipush 11, 2) := by decide +kernel
theorem dX7_jumps_180 : decode cX7_jumps 180 = .ok (.iconst 1, 1) := by decide +kernel
theorem dX7_jumps_181 : decode cX7_jumps 181 = .ok (.invokevirtual 126, 3) := by decide +kernel
theorem dX7_jumps_184 : decode cX7_jumps 184 = .ok (.aload_n 0, 1) := by decide +kernel
theorem dX7_jumps_185 : decode cX7_jumps 185 = .ok (.iload_n 1, 1) := by decide +kernel
theorem dX7_jumps_186 : decode cX7_jumps 186 = .ok (.bipush 16, 2) := by decide +kernel
theorem dX7_jumps_188 : decode cX7_jumps 188 = .ok (.iconst 1, 1) := by decide +kernel
theorem dX7_jumps_189 : decode cX7_jumps 189 = .ok (.invokevirtual 130, 3) := by decide +kernel
theorem dX7_jumps_192 : decode cX7_jumps 192 = .ok (.iconst 1, 1) := by decide +kernel
theorem dX7_jumps_193 : decode cX7_jumps 193 = .ok (.ireturn, 1) := by decide +kernel
set_option maxRecDepth 20000 in
theorem ggX7_falls_X7_of : GoodIn wsX7_falls wsX7_of := goodIn_ca (goodIn_r _ [5, 6, 50, 51, 52, 53, 54, 55, 56, 57, 58, 59, 60, 61, 62, 63, 64, 65, 66] (by decide +kernel) (by decide +kernel)) (goodIn_sub (fun _ h => List.mem_cons_of_mem _ (List.mem_append_right _ h)) (by decide +kernel))
set_option maxRecDepth 20000 in
theorem gX7_falls_X7_of : GoodIn wsX7_falls (wsV RX7 68 RX7 yX7_of wsX7_of) := goodIn_app (goodIn_of _ (by decide +kernel)) ggX7_falls_X7_of
set_option maxRecDepth 20000 in
theorem ggX7_falls_X7_blocks : GoodIn wsX7_falls wsX7_blocks := goodIn_ca (goodIn_r _ [10, 11, 12, 13, 4, 14, 15, 16, 17, 18, 1, 2, 3, 5, 6, 19, 20, 21, 22, 23, 24, 25, 26, 27, 28, 29, 30, 31, 32, 33, 34, 35, 36, 37, 38, 39, 40, 41, 42, 43, 44, 45, 50, 51, 52, 53, 54, 55, 56, 57, 58, 59, 60, 61, 62, 63, 64, 65, 66] (by decide +kernel) (by decide +kernel)) (goodIn_sub (fun _ h => List.mem_cons_of_mem _ (List.mem_append_right _ h)) (by decide +kernel))
set_option maxRecDepth 20000 in
theorem gX7_falls_X7_blocks : GoodIn wsX7_falls (wsV RX7 123 RX7 yX7_blocks wsX7_blocks) := goodIn_app (goodIn_of _ (by decide +kernel)) ggX7_falls_X7_blocks
set_option maxRecDepth 20000 in
theorem ggX7_falls_X7_sets : GoodIn wsX7_falls wsX7_sets := goodIn_ca (goodIn_r _ [49, 6, 50, 51, 52, 53, 54, 55, 56, 57, 58, 59, 60, 61, 62, 63, 64, 65, 66] (by decide +kernel) (by decide +kernel)) (goodIn_sub (fun _ h => List.mem_cons_of_mem _ (List.mem_append_right _ h)) (by decide +kernel))
set_option maxRecDepth 20000 in
theorem gX7_falls_X7_sets : GoodIn wsX7_falls (wsV RX7 126 RX7 yX7_sets wsX7_sets) := goodIn_app (goodIn_of _ (by decide +kernel)) ggX7_falls_X7_sets
theorem dX7_falls_0 : decode cX7_falls 0 = .ok (.aload_n 0, 1) := by decide +kernel
theorem dX7_falls_1 : decode cX7_falls 1 = .ok (.iload_n 1, 1) := by decide +kernel
theorem dX7_falls_2 : decode cX7_falls 2 = .ok (.iconst 3, 1) := by decide +kernel
theorem dX7_falls_3 : decode cX7_falls 3 = .ok (.invokevirtual 68, 3) := by decide +kernel
theorem dX7_falls_6 : decode cX7_falls 6 = .ok (.iconst 1, 1) := by decide +kernel
theorem dX7_falls_7 : decode cX7_falls 7 = .ok (.isub, 1) := by decide +kernel
theorem dX7_falls_8 : decode cX7_falls 8 = .ok (.istore_n 3, 1) := by decide +kernel
theorem dX7_falls_9 : decode cX7_falls 9 = .ok (.iload_n 3, 1) := by decide +kernel
theorem dX7_falls_10 : decode cX7_falls 10 = .ok (.bipush (-12), 2) := by decide +kernel
theorem dX7_falls_12 : decode cX7_falls 12 = .ok (.if_icmp .ge 8, 3) := by decide +kernel
theorem dX7_falls_15 : decode cX7_falls 15 = .ok (.bipush (-12), 2) := by decide +kernel
theorem dX7_falls_17 : decode cX7_falls 17 = .ok (.goto 4, 3) := by decide +kernel
theorem dX7_falls_20 : decode cX7_falls 20 = .ok (.iload_n 3, 1) := by decide +kernel
theorem dX7_falls_21 : decode cX7_falls 21 = .ok (.istore_n 3, 1) := by decide +kernel
theorem dX7_falls_22 : decode cX7_falls 22 = .ok (.iload_n 2, 1) := by decide +kernel
theorem dX7_falls_23 : decode cX7_falls 23 = .ok (.ifCond .eq 34, 3) := by decide +kernel
theorem dX7_falls_26 : decode cX7_falls 26 = .ok (.iload_n 3, 1) := by decide +kernel
theorem dX7_falls_27 : decode cX7_falls 27 = .ok (.bipush (-3), 2) := by decide +kernel
theorem dX7_falls_29 : decode cX7_falls 29 = .ok (.if_icmp .ge 28, 3) := by decide +kernel
theorem dX7_falls_32 : decode cX7_falls 32 = .ok (.aload_n 0, 1) := by decide +kernel
theorem dX7_falls_33 : decode cX7_falls 33 = .ok (.iload_n 1, 1) := by decide +kernel
theorem dX7_falls_34 : decode cX7_falls 34 = .ok (.aload_n 0, 1) := by decide +kernel
theorem dX7_falls_35 : decode cX7_falls 35 = .ok (.iload_n 1, 1) := by decide +kernel
theorem dX7_falls_36 : decode cX7_falls 36 = .ok (.iconst 0, 1) := by decide +kernel
theorem dX7_falls_37 : decode cX7_falls 37 = .ok (.invokevirtual 68, 3) := by decide +kernel
theorem dX7_falls_40 : decode cX7_falls 40 = .ok (.iload_n 2, 1) := by decide +kernel
theorem dX7_falls_41 : decode cX7_falls 41 = .ok (.iadd, 1) := by decide +kernel
theorem dX7_falls_42 : decode cX7_falls 42 = .ok (.aload_n 0, 1) := by decide +kernel
theorem dX7_falls_43 : decode cX7_falls 43 = .ok (.iload_n 1, 1) := by decide +kernel
theorem dX7_falls_44 : decode cX7_falls 44 = .ok (.iconst 1, 1) := by decide +kernel
theorem dX7_falls_45 : decode cX7_falls 45 = .ok (.invokevirtual 68, 3) := by decide +kernel
theorem dX7_falls_48 : decode cX7_falls 48 = .ok (.invokevirtual 123, 3) := by decide +kernel
theorem dX7_falls_51 : decode cX7_falls 51 = .ok (.ifCond .eq 6, 3) := by decide +kernel
theorem dX7_falls_54 : decode cX7_falls 54 = .ok (.bipush (-3), 2) := by decide +kernel
theorem dX7_falls_56 : decode cX7_falls 56 = .ok (.istore_n 3, 1) := by decide +kernel
theorem dX7_falls_57 : decode cX7_falls 57 = .ok (.aload_n 0, 1) := by decide +kernel
theorem dX7_falls_58 : decode cX7_falls 58 = .ok (.iload_n 1, 1) := by decide +kernel
theorem dX7_falls_59 : decode cX7_falls 59 = .ok (.iconst 3, 1) := by decide +kernel
theorem dX7_falls_60 : decode cX7_falls 60 = .ok (.iload_n 3, 1) := by decide +kernel
theorem dX7_falls_61 : decode cX7_falls 61 = .ok (.invokevirtual 126, 3) := by decide +kernel
theorem dX7_falls_64 : decode cX7_falls 64 = .ok (.return_, 1) := by decide +kernel
set_option maxRecDepth 20000 in
theorem ggX7_stepsAcross_X7_movesAcross : GoodIn wsX7_stepsAcross wsX7_movesAcross := goodIn_ca (goodIn_r _ [5, 6, 7, 8, 4, 9, 10, 11, 12, 13, 14, 15, 16, 17, 18, 19, 20, 21, 22, 23, 24, 25, 26, 27, 28, 29, 30, 31, 32, 33, 34, 35, 36, 37, 38, 39, 40, 41, 42, 43, 44, 45, 46, 47, 48, 49, 50, 51, 52, 53, 54, 55, 56, 57, 58, 59, 60, 61, 62, 63, 64, 65, 66, 67, 68, 69, 70, 71, 72, 73, 74, 75, 76, 77, 78, 79, 80, 81, 82, 83, 84, 85, 86, 87, 88, 89, 90, 91, 92, 93, 94, 95, 96, 101, 102, 103, 104, 105, 106, 107, 108, 109, 110, 111, 112, 113, 114, 115, 116, 117] (by decide +kernel) (by decide +kernel)) (goodIn_sub (fun _ h => List.mem_cons_of_mem _ (List.mem_append_right _ h)) (by decide +kernel))
set_option maxRecDepth 20000 in
theorem gX7_stepsAcross_X7_movesAcross : GoodIn wsX7_stepsAcross (wsV RX7 133 RX7 yX7_movesAcross wsX7_movesAcross) := goodIn_app (goodIn_of _ (by decide +kernel)) ggX7_stepsAcross_X7_movesAcross
set_option maxRecDepth 20000 in
theorem ggX7_stepsAcross_X7_adds : GoodIn wsX7_stepsAcross wsX7_adds := goodIn_ca (goodIn_r _ [100, 10, 101, 102, 103, 104, 105, 106, 107, 108, 109, 110, 111, 112, 113, 114, 115, 116, 117] (by decide +kernel) (by decide +kernel)) (goodIn_sub (fun _ h => List.mem_cons_of_mem _ (List.mem_append_right _ h)) (by decide +kernel))
set_option maxRecDepth 20000 in
theorem gX7_stepsAcross_X7_adds : GoodIn wsX7_stepsAcross (wsV RX7 130 RX7 yX7_adds wsX7_adds) := goodIn_app (goodIn_of _ (by decide +kernel)) ggX7_stepsAcross_X7_adds
theorem dX7_stepsAcross_0 : decode cX7_stepsAcross 0 = .ok (.aload_n 0, 1) := by decide +kernel
theorem dX7_stepsAcross_1 : decode cX7_stepsAcross 1 = .ok (.iload_n 1, 1) := by decide +kernel
theorem dX7_stepsAcross_2 : decode cX7_stepsAcross 2 = .ok (.iload_n 2, 1) := by decide +kernel
theorem dX7_stepsAcross_3 : decode cX7_stepsAcross 3 = .ok (.invokevirtual 133, 3) := by decide +kernel
theorem dX7_stepsAcross_6 : decode cX7_stepsAcross 6 = .ok (.istore_n 3, 1) := by decide +kernel
theorem dX7_stepsAcross_7 : decode cX7_stepsAcross 7 = .ok (.aload_n 0, 1) := by decide +kernel
theorem dX7_stepsAcross_8 : decode cX7_stepsAcross 8 = .ok (.iload_n 1, 1) := by decide +kernel
theorem dX7_stepsAcross_9 : decode cX7_stepsAcross 9 = .ok (.bipush 18, 2) := by decide +kernel
theorem dX7_stepsAcross_11 : decode cX7_stepsAcross 11 = .ok (.iload_n 3, 1) := by decide +kernel
theorem dX7_stepsAcross_12 : decode cX7_stepsAcross 12 = .ok (.ifCond .eq 7, 3) := by decide +kernel
theorem dX7_stepsAcross_15 : decode cX7_stepsAcross 15 = .ok (.iconst 1, 1) := by decide +kernel
theorem dX7_stepsAcross_16 : decode cX7_stepsAcross 16 = .ok (.goto 4, 3) := by decide +kernel
theorem dX7_stepsAcross_19 : decode cX7_stepsAcross 19 = .ok (.iconst 0, 1) := by decide +kernel
theorem dX7_stepsAcross_20 : decode cX7_stepsAcross 20 = .ok (.invokevirtual 130, 3) := by decide +kernel
theorem dX7_stepsAcross_23 : decode cX7_stepsAcross 23 = .ok (.iload_n 3, 1) := by decide +kernel
theorem dX7_stepsAcross_24 : decode cX7_stepsAcross 24 = .ok (.ireturn, 1) := by decide +kernel
set_option maxRecDepth 20000 in
theorem ggX7_goesAcross_X7_of : GoodIn wsX7_goesAcross wsX7_of := goodIn_ca (goodIn_r _ [5, 6, 105, 106, 107, 108, 109, 110, 111, 112, 113, 114, 115, 116, 117, 118, 119, 120, 121] (by decide +kernel) (by decide +kernel)) (goodIn_sub (fun _ h => List.mem_cons_of_mem _ (List.mem_append_right _ h)) (by decide +kernel))
set_option maxRecDepth 20000 in
theorem gX7_goesAcross_X7_of : GoodIn wsX7_goesAcross (wsV RX7 68 RX7 yX7_of wsX7_of) := goodIn_app (goodIn_of _ (by decide +kernel)) ggX7_goesAcross_X7_of
set_option maxRecDepth 20000 in
theorem ggX7_goesAcross_X7_stepsAcross : GoodIn wsX7_goesAcross wsX7_stepsAcross := goodIn_ca (goodIn_r _ [10, 11, 12, 13, 4, 14, 1, 2, 3, 5, 6, 15, 16, 17, 18, 19, 20, 21, 22, 23, 24, 25, 26, 27, 28, 29, 30, 31, 32, 33, 34, 35, 36, 37, 38, 39, 40, 41, 42, 43, 44, 45, 46, 47, 48, 49, 50, 51, 52, 53, 54, 55, 56, 57, 58, 59, 60, 61, 62, 63, 64, 65, 66, 67, 68, 69, 70, 71, 72, 73, 74, 75, 76, 77, 78, 79, 80, 81, 82, 83, 84, 85, 86, 87, 88, 89, 90, 91, 92, 93, 94, 95, 96, 97, 98, 99, 100, 101, 102, 103, 104, 105, 106, 107, 108, 109, 110, 111, 112, 113, 114, 115, 116, 117, 118, 119, 120, 121] (by decide +kernel) (by decide +kernel)) (goodIn_sub (fun _ h => List.mem_cons_of_mem _ (List.mem_append_right _ h)) (by decide +kernel))
set_option maxRecDepth 20000 in
theorem gX7_goesAcross_X7_stepsAcross : GoodIn wsX7_goesAcross (wsV RX7 160 RX7 yX7_stepsAcross wsX7_stepsAcross) := goodIn_app (goodIn_of _ (by decide +kernel)) ggX7_goesAcross_X7_stepsAcross
set_option maxRecDepth 20000 in
theorem ggX7_goesAcross_X7_sets : GoodIn wsX7_goesAcross wsX7_sets := goodIn_ca (goodIn_r _ [100, 6, 105, 106, 107, 108, 109, 110, 111, 112, 113, 114, 115, 116, 117, 118, 119, 120, 121] (by decide +kernel) (by decide +kernel)) (goodIn_sub (fun _ h => List.mem_cons_of_mem _ (List.mem_append_right _ h)) (by decide +kernel))
set_option maxRecDepth 20000 in
theorem gX7_goesAcross_X7_sets : GoodIn wsX7_goesAcross (wsV RX7 126 RX7 yX7_sets wsX7_sets) := goodIn_app (goodIn_of _ (by decide +kernel)) ggX7_goesAcross_X7_sets
theorem dX7_goesAcross_0 : decode cX7_goesAcross 0 = .ok (.aload_n 0, 1) := by decide +kernel
theorem dX7_goesAcross_1 : decode cX7_goesAcross 1 = .ok (.iload_n 1, 1) := by decide +kernel
theorem dX7_goesAcross_2 : decode cX7_goesAcross 2 = .ok (.iconst 2, 1) := by decide +kernel
theorem dX7_goesAcross_3 : decode cX7_goesAcross 3 = .ok (.invokevirtual 68, 3) := by decide +kernel
theorem dX7_goesAcross_6 : decode cX7_goesAcross 6 = .ok (.ifCond .ge 7, 3) := by decide +kernel
theorem dX7_goesAcross_9 : decode cX7_goesAcross 9 = .ok (.iconst (-1), 1) := by decide +kernel
theorem dX7_goesAcross_10 : decode cX7_goesAcross 10 = .ok (.goto 4, 3) := by decide +kernel
theorem dX7_goesAcross_13 : decode cX7_goesAcross 13 = .ok (.iconst 1, 1) := by decide +kernel
theorem dX7_goesAcross_14 : decode cX7_goesAcross 14 = .ok (.istore_n 2, 1) := by decide +kernel
theorem dX7_goesAcross_15 : decode cX7_goesAcross 15 = .ok (.aload_n 0, 1) := by decide +kernel
theorem dX7_goesAcross_16 : decode cX7_goesAcross 16 = .ok (.iload_n 1, 1) := by decide +kernel
theorem dX7_goesAcross_17 : decode cX7_goesAcross 17 = .ok (.iconst 2, 1) := by decide +kernel
theorem dX7_goesAcross_18 : decode cX7_goesAcross 18 = .ok (.invokevirtual 68, 3) := by decide +kernel
theorem dX7_goesAcross_21 : decode cX7_goesAcross 21 = .ok (.iload_n 2, 1) := by decide +kernel
theorem dX7_goesAcross_22 : decode cX7_goesAcross 22 = .ok (.imul, 1) := by decide +kernel
theorem dX7_goesAcross_23 : decode cX7_goesAcross 23 = .ok (.istore_n 3, 1) := by decide +kernel
theorem dX7_goesAcross_24 : decode cX7_goesAcross 24 = .ok (.iload_n 3, 1) := by decide +kernel
theorem dX7_goesAcross_25 : decode cX7_goesAcross 25 = .ok (.ifCond .le 29, 3) := by decide +kernel
theorem dX7_goesAcross_28 : decode cX7_goesAcross 28 = .ok (.aload_n 0, 1) := by decide +kernel
theorem dX7_goesAcross_29 : decode cX7_goesAcross 29 = .ok (.iload_n 1, 1) := by decide +kernel
theorem dX7_goesAcross_30 : decode cX7_goesAcross 30 = .ok (.iload_n 2, 1) := by decide +kernel
theorem dX7_goesAcross_31 : decode cX7_goesAcross 31 = .ok (.invokevirtual 160, 3) := by decide +kernel
theorem dX7_goesAcross_34 : decode cX7_goesAcross 34 = .ok (.ifCond .eq 6, 3) := by decide +kernel
theorem dX7_goesAcross_37 : decode cX7_goesAcross 37 = .ok (.goto 11, 3) := by decide +kernel
theorem dX7_goesAcross_40 : decode cX7_goesAcross 40 = .ok (.aload_n 0, 1) := by decide +kernel
theorem dX7_goesAcross_41 : decode cX7_goesAcross 41 = .ok (.iload_n 1, 1) := by decide +kernel
theorem dX7_goesAcross_42 : decode cX7_goesAcross 42 = .ok (.iconst 2, 1) := by decide +kernel
theorem dX7_goesAcross_43 : decode cX7_goesAcross 43 = .ok (.iconst 0, 1) := by decide +kernel
theorem dX7_goesAcross_44 : decode cX7_goesAcross 44 = .ok (.invokevirtual 126, 3) := by decide +kernel
theorem dX7_goesAcross_47 : decode cX7_goesAcross 47 = .ok (.return_, 1) := by decide +kernel
theorem dX7_goesAcross_48 : decode cX7_goesAcross 48 = .ok (.iinc 3 (-1), 3) := by decide +kernel
theorem dX7_goesAcross_51 : decode cX7_goesAcross 51 = .ok (.goto (-27), 3) := by decide +kernel
theorem dX7_goesAcross_54 : decode cX7_goesAcross 54 = .ok (.return_, 1) := by decide +kernel
set_option maxRecDepth 20000 in
theorem ggX7_goesUp_X7_of : GoodIn wsX7_goesUp wsX7_of := goodIn_ca (goodIn_r _ [5, 6, 58, 59, 60, 61, 62, 63, 64, 65, 66, 67, 68, 69, 70, 71, 72, 73, 74] (by decide +kernel) (by decide +kernel)) (goodIn_sub (fun _ h => List.mem_cons_of_mem _ (List.mem_append_right _ h)) (by decide +kernel))
set_option maxRecDepth 20000 in
theorem gX7_goesUp_X7_of : GoodIn wsX7_goesUp (wsV RX7 68 RX7 yX7_of wsX7_of) := goodIn_app (goodIn_of _ (by decide +kernel)) ggX7_goesUp_X7_of
set_option maxRecDepth 20000 in
theorem ggX7_goesUp_X7_movesUp : GoodIn wsX7_goesUp wsX7_movesUp := goodIn_ca (goodIn_r _ [10, 1, 2, 3, 4, 5, 6, 11, 12, 13, 14, 15, 16, 17, 18, 19, 20, 21, 22, 23, 24, 25, 26, 27, 28, 29, 30, 31, 32, 33, 34, 35, 36, 37, 38, 39, 40, 41, 42, 43, 44, 45, 46, 47, 48, 49, 50, 51, 52, 53, 58, 59, 60, 61, 62, 63, 64, 65, 66, 67, 68, 69, 70, 71, 72, 73, 74] (by decide +kernel) (by decide +kernel)) (goodIn_sub (fun _ h => List.mem_cons_of_mem _ (List.mem_append_right _ h)) (by decide +kernel))
set_option maxRecDepth 20000 in
theorem gX7_goesUp_X7_movesUp : GoodIn wsX7_goesUp (wsV RX7 137 RX7 yX7_movesUp wsX7_movesUp) := goodIn_app (goodIn_of _ (by decide +kernel)) ggX7_goesUp_X7_movesUp
set_option maxRecDepth 20000 in
theorem ggX7_goesUp_X7_sets : GoodIn wsX7_goesUp wsX7_sets := goodIn_ca (goodIn_r _ [57, 6, 58, 59, 60, 61, 62, 63, 64, 65, 66, 67, 68, 69, 70, 71, 72, 73, 74] (by decide +kernel) (by decide +kernel)) (goodIn_sub (fun _ h => List.mem_cons_of_mem _ (List.mem_append_right _ h)) (by decide +kernel))
set_option maxRecDepth 20000 in
theorem gX7_goesUp_X7_sets : GoodIn wsX7_goesUp (wsV RX7 126 RX7 yX7_sets wsX7_sets) := goodIn_app (goodIn_of _ (by decide +kernel)) ggX7_goesUp_X7_sets
set_option maxRecDepth 20000 in
theorem ggX7_goesUp_X7_adds : GoodIn wsX7_goesUp wsX7_adds := goodIn_ca (goodIn_r _ [53, 6, 58, 59, 60, 61, 62, 63, 64, 65, 66, 67, 68, 69, 70, 71, 72, 73, 74] (by decide +kernel) (by decide +kernel)) (goodIn_sub (fun _ h => List.mem_cons_of_mem _ (List.mem_append_right _ h)) (by decide +kernel))
set_option maxRecDepth 20000 in
theorem gX7_goesUp_X7_adds : GoodIn wsX7_goesUp (wsV RX7 130 RX7 yX7_adds wsX7_adds) := goodIn_app (goodIn_of _ (by decide +kernel)) ggX7_goesUp_X7_adds
theorem dX7_goesUp_0 : decode cX7_goesUp 0 = .ok (.aload_n 0, 1) := by decide +kernel
theorem dX7_goesUp_1 : decode cX7_goesUp 1 = .ok (.iload_n 1, 1) := by decide +kernel
theorem dX7_goesUp_2 : decode cX7_goesUp 2 = .ok (.iconst 3, 1) := by decide +kernel
theorem dX7_goesUp_3 : decode cX7_goesUp 3 = .ok (.invokevirtual 68, 3) := by decide +kernel
theorem dX7_goesUp_6 : decode cX7_goesUp 6 = .ok (.istore_n 2, 1) := by decide +kernel
theorem dX7_goesUp_7 : decode cX7_goesUp 7 = .ok (.iload_n 2, 1) := by decide +kernel
theorem dX7_goesUp_8 : decode cX7_goesUp 8 = .ok (.ifCond .le 33, 3) := by decide +kernel
theorem dX7_goesUp_11 : decode cX7_goesUp 11 = .ok (.aload_n 0, 1) := by decide +kernel
theorem dX7_goesUp_12 : decode cX7_goesUp 12 = .ok (.iload_n 1, 1) := by decide +kernel
theorem dX7_goesUp_13 : decode cX7_goesUp 13 = .ok (.invokevirtual 137, 3) := by decide +kernel
theorem dX7_goesUp_16 : decode cX7_goesUp 16 = .ok (.ifCond .ne 11, 3) := by decide +kernel
theorem dX7_goesUp_19 : decode cX7_goesUp 19 = .ok (.aload_n 0, 1) := by decide +kernel
theorem dX7_goesUp_20 : decode cX7_goesUp 20 = .ok (.iload_n 1, 1) := by decide +kernel
theorem dX7_goesUp_21 : decode cX7_goesUp 21 = .ok (.iconst 3, 1) := by decide +kernel
theorem dX7_goesUp_22 : decode cX7_goesUp 22 = .ok (.iconst 0, 1) := by decide +kernel
theorem dX7_goesUp_23 : decode cX7_goesUp 23 = .ok (.invokevirtual 126, 3) := by decide +kernel
theorem dX7_goesUp_26 : decode cX7_goesUp 26 = .ok (.return_, 1) := by decide +kernel
theorem dX7_goesUp_27 : decode cX7_goesUp 27 = .ok (.aload_n 0, 1) := by decide +kernel
theorem dX7_goesUp_28 : decode cX7_goesUp 28 = .ok (.iload_n 1, 1) := by decide +kernel
theorem dX7_goesUp_29 : decode cX7_goesUp 29 = .ok (.bipush 18, 2) := by decide +kernel
theorem dX7_goesUp_31 : decode cX7_goesUp 31 = .ok (.iconst 1, 1) := by decide +kernel
theorem dX7_goesUp_32 : decode cX7_goesUp 32 = .ok (.invokevirtual 130, 3) := by decide +kernel
theorem dX7_goesUp_35 : decode cX7_goesUp 35 = .ok (.iinc 2 (-1), 3) := by decide +kernel
theorem dX7_goesUp_38 : decode cX7_goesUp 38 = .ok (.goto (-31), 3) := by decide +kernel
theorem dX7_goesUp_41 : decode cX7_goesUp 41 = .ok (.return_, 1) := by decide +kernel
set_option maxRecDepth 20000 in
theorem ggX7_goesDown_X7_of : GoodIn wsX7_goesDown wsX7_of := goodIn_ca (goodIn_r _ [5, 6, 97, 98, 99, 100, 101, 102, 103, 104, 105, 106, 107, 108, 109, 110, 111, 112, 113] (by decide +kernel) (by decide +kernel)) (goodIn_sub (fun _ h => List.mem_cons_of_mem _ (List.mem_append_right _ h)) (by decide +kernel))
set_option maxRecDepth 20000 in
theorem gX7_goesDown_X7_of : GoodIn wsX7_goesDown (wsV RX7 68 RX7 yX7_of wsX7_of) := goodIn_app (goodIn_of _ (by decide +kernel)) ggX7_goesDown_X7_of
set_option maxRecDepth 20000 in
theorem ggX7_goesDown_X7_movesDown : GoodIn wsX7_goesDown wsX7_movesDown := goodIn_ca (goodIn_r _ [10, 11, 12, 13, 4, 14, 1, 2, 3, 5, 6, 15, 16, 17, 18, 19, 20, 21, 22, 23, 24, 25, 26, 27, 28, 29, 30, 31, 32, 33, 34, 35, 36, 37, 38, 39, 40, 41, 42, 43, 44, 45, 46, 47, 48, 49, 50, 51, 52, 53, 54, 55, 56, 57, 58, 59, 60, 61, 62, 63, 64, 65, 66, 67, 68, 69, 70, 71, 72, 73, 74, 75, 76, 77, 78, 79, 80, 81, 82, 83, 84, 85, 86, 87, 88, 89, 90, 91, 92, 97, 98, 99, 100, 101, 102, 103, 104, 105, 106, 107, 108, 109, 110, 111, 112, 113] (by decide +kernel) (by decide +kernel)) (goodIn_sub (fun _ h => List.mem_cons_of_mem _ (List.mem_append_right _ h)) (by decide +kernel))
set_option maxRecDepth 20000 in
theorem gX7_goesDown_X7_movesDown : GoodIn wsX7_goesDown (wsV RX7 163 RX7 yX7_movesDown wsX7_movesDown) := goodIn_app (goodIn_of _ (by decide +kernel)) ggX7_goesDown_X7_movesDown
set_option maxRecDepth 20000 in
theorem ggX7_goesDown_X7_firmBelow : GoodIn wsX7_goesDown wsX7_firmBelow := goodIn_ca (goodIn_r _ [26, 27, 28, 29, 4, 30, 31, 32, 33, 34, 1, 2, 3, 5, 6, 35, 36, 37, 38, 39, 40, 41, 42, 43, 44, 45, 46, 47, 48, 49, 50, 51, 52, 53, 54, 55, 56, 57, 58, 59, 60, 61, 97, 98, 99, 100, 101, 102, 103, 104, 105, 106, 107, 108, 109, 110, 111, 112, 113] (by decide +kernel) (by decide +kernel)) (goodIn_sub (fun _ h => List.mem_cons_of_mem _ (List.mem_append_right _ h)) (by decide +kernel))
set_option maxRecDepth 20000 in
theorem gX7_goesDown_X7_firmBelow : GoodIn wsX7_goesDown (wsV RX7 101 RX7 yX7_firmBelow wsX7_firmBelow) := goodIn_app (goodIn_of _ (by decide +kernel)) ggX7_goesDown_X7_firmBelow
set_option maxRecDepth 20000 in
theorem ggX7_goesDown_X7_sets : GoodIn wsX7_goesDown wsX7_sets := goodIn_ca (goodIn_r _ [96, 6, 97, 98, 99, 100, 101, 102, 103, 104, 105, 106, 107, 108, 109, 110, 111, 112, 113] (by decide +kernel) (by decide +kernel)) (goodIn_sub (fun _ h => List.mem_cons_of_mem _ (List.mem_append_right _ h)) (by decide +kernel))
set_option maxRecDepth 20000 in
theorem gX7_goesDown_X7_sets : GoodIn wsX7_goesDown (wsV RX7 126 RX7 yX7_sets wsX7_sets) := goodIn_app (goodIn_of _ (by decide +kernel)) ggX7_goesDown_X7_sets
set_option maxRecDepth 20000 in
theorem ggX7_goesDown_X7_adds : GoodIn wsX7_goesDown wsX7_adds := goodIn_ca (goodIn_r _ [92, 6, 97, 98, 99, 100, 101, 102, 103, 104, 105, 106, 107, 108, 109, 110, 111, 112, 113] (by decide +kernel) (by decide +kernel)) (goodIn_sub (fun _ h => List.mem_cons_of_mem _ (List.mem_append_right _ h)) (by decide +kernel))
set_option maxRecDepth 20000 in
theorem gX7_goesDown_X7_adds : GoodIn wsX7_goesDown (wsV RX7 130 RX7 yX7_adds wsX7_adds) := goodIn_app (goodIn_of _ (by decide +kernel)) ggX7_goesDown_X7_adds
theorem dX7_goesDown_0 : decode cX7_goesDown 0 = .ok (.aload_n 0, 1) := by decide +kernel
theorem dX7_goesDown_1 : decode cX7_goesDown 1 = .ok (.iload_n 1, 1) := by decide +kernel
theorem dX7_goesDown_2 : decode cX7_goesDown 2 = .ok (.iconst 3, 1) := by decide +kernel
theorem dX7_goesDown_3 : decode cX7_goesDown 3 = .ok (.invokevirtual 68, 3) := by decide +kernel
theorem dX7_goesDown_6 : decode cX7_goesDown 6 = .ok (.ineg, 1) := by decide +kernel
theorem dX7_goesDown_7 : decode cX7_goesDown 7 = .ok (.istore_n 2, 1) := by decide +kernel
theorem dX7_goesDown_8 : decode cX7_goesDown 8 = .ok (.iload_n 2, 1) := by decide +kernel
theorem dX7_goesDown_9 : decode cX7_goesDown 9 = .ok (.ifCond .le 82, 3) := by decide +kernel
theorem dX7_goesDown_12 : decode cX7_goesDown 12 = .ok (.aload_n 0, 1) := by decide +kernel
theorem dX7_goesDown_13 : decode cX7_goesDown 13 = .ok (.iload_n 1, 1) := by decide +kernel
theorem dX7_goesDown_14 : decode cX7_goesDown 14 = .ok (.invokevirtual 163, 3) := by decide +kernel
theorem dX7_goesDown_17 : decode cX7_goesDown 17 = .ok (.ifCond .ne 60, 3) := by decide +kernel
theorem dX7_goesDown_20 : decode cX7_goesDown 20 = .ok (.aload_n 0, 1) := by decide +kernel
theorem dX7_goesDown_21 : decode cX7_goesDown 21 = .ok (.iload_n 1, 1) := by decide +kernel
theorem dX7_goesDown_22 : decode cX7_goesDown 22 = .ok (.aload_n 0, 1) := by decide +kernel
theorem dX7_goesDown_23 : decode cX7_goesDown 23 = .ok (.iload_n 1, 1) := by decide +kernel
theorem dX7_goesDown_24 : decode cX7_goesDown 24 = .ok (.iconst 0, 1) := by decide +kernel
theorem dX7_goesDown_25 : decode cX7_goesDown 25 = .ok (.invokevirtual 68, 3) := by decide +kernel
theorem dX7_goesDown_28 : decode cX7_goesDown 28 = .ok (.aload_n 0, 1) := by decide +kernel
theorem dX7_goesDown_29 : decode cX7_goesDown 29 = .ok (.iload_n 1, 1) := by decide +kernel
theorem dX7_goesDown_30 : decode cX7_goesDown 30 = .ok (.iconst 1, 1) := by decide +kernel
theorem dX7_goesDown_31 : decode cX7_goesDown 31 = .ok (.invokevirtual 68, 3) := by decide +kernel
theorem dX7_goesDown_34 : decode cX7_goesDown 34 = .ok (.invokevirtual 101, 3) := by decide +kernel
theorem dX7_goesDown_37 : decode cX7_goesDown 37 = .ok (.bipush 8, 2) := by decide +kernel
theorem dX7_goesDown_39 : decode cX7_goesDown 39 = .ok (.ishr, 1) := by decide +kernel
theorem dX7_goesDown_40 : decode cX7_goesDown 40 = .ok (.iconst 1, 1) := by decide +kernel
theorem dX7_goesDown_41 : decode cX7_goesDown 41 = .ok (.iand, 1) := by decide +kernel
theorem dX7_goesDown_42 : decode cX7_goesDown 42 = .ok (.iconst 1, 1) := by decide +kernel
theorem dX7_goesDown_43 : decode cX7_goesDown 43 = .ok (.if_icmp .ne 7, 3) := by decide +kernel
theorem dX7_goesDown_46 : decode cX7_goesDown 46 = .ok (.iconst 1, 1) := by decide +kernel
theorem dX7_goesDown_47 : decode cX7_goesDown 47 = .ok (.goto 4, 3) := by decide +kernel
theorem dX7_goesDown_50 : decode cX7_goesDown 50 = .ok (.iconst 0, 1) := by decide +kernel
theorem dX7_goesDown_51 : decode cX7_goesDown 51 = .ok (.istore_n 3, 1) := by decide +kernel
theorem dX7_goesDown_52 : decode cX7_goesDown 52 = .ok (.aload_n 0, 1) := by decide +kernel
theorem dX7_goesDown_53 : decode cX7_goesDown 53 = .ok (.iload_n 1, 1) := by decide +kernel
theorem dX7_goesDown_54 : decode cX7_goesDown 54 = .ok (.iconst 3, 1) := by decide +kernel
theorem dX7_goesDown_55 : decode cX7_goesDown 55 = .ok (.iload_n 3, 1) := by decide +kernel
theorem dX7_goesDown_56 : decode cX7_goesDown 56 = .ok (.ifCond .eq 8, 3) := by decide +kernel
theorem dX7_goesDown_59 : decode cX7_goesDown 59 = .ok (.bipush 16, 2) := by decide +kernel
theorem dX7_goesDown_61 : decode cX7_goesDown 61 = .ok (.goto 4, 3) := by decide +kernel
theorem dX7_goesDown_64 : decode cX7_goesDown 64 = .ok (.iconst 0, 1) := by decide +kernel
theorem dX7_goesDown_65 : decode cX7_goesDown 65 = .ok (.invokevirtual 126, 3) := by decide +kernel
theorem dX7_goesDown_68 : decode cX7_goesDown 68 = .ok (.aload_n 0, 1) := by decide +kernel
theorem dX7_goesDown_69 : decode cX7_goesDown 69 = .ok (.iload_n 1, 1) := by decide +kernel
theorem dX7_goesDown_70 : decode cX7_goesDown 70 = .ok (.bipush 17, 2) := by decide +kernel
theorem dX7_goesDown_72 : decode cX7_goesDown 72 = .ok (.iconst 1, 1) := by decide +kernel
theorem dX7_goesDown_73 : decode cX7_goesDown 73 = .ok (.invokevirtual 130, 3) := by decide +kernel
theorem dX7_goesDown_76 : decode cX7_goesDown 76 = .ok (.return_, 1) := by decide +kernel
theorem dX7_goesDown_77 : decode cX7_goesDown 77 = .ok (.aload_n 0, 1) := by decide +kernel
theorem dX7_goesDown_78 : decode cX7_goesDown 78 = .ok (.iload_n 1, 1) := by decide +kernel
theorem dX7_goesDown_79 : decode cX7_goesDown 79 = .ok (.bipush 18, 2) := by decide +kernel
theorem dX7_goesDown_81 : decode cX7_goesDown 81 = .ok (.iconst 1, 1) := by decide +kernel
theorem dX7_goesDown_82 : decode cX7_goesDown 82 = .ok (.invokevirtual 130, 3) := by decide +kernel
theorem dX7_goesDown_85 : decode cX7_goesDown 85 = .ok (.iinc 2 (-1), 3) := by decide +kernel
theorem dX7_goesDown_88 : decode cX7_goesDown 88 = .ok (.goto (-80), 3) := by decide +kernel
theorem dX7_goesDown_91 : decode cX7_goesDown 91 = .ok (.return_, 1) := by decide +kernel
set_option maxRecDepth 20000 in
theorem ggX7_touches_X7_of : GoodIn wsX7_touches wsX7_of := goodIn_ca (goodIn_r _ [6, 1, 22, 23, 24, 25, 26, 27, 28, 29, 30, 31, 32, 33, 34, 35, 36, 37, 38] (by decide +kernel) (by decide +kernel)) (goodIn_sub (fun _ h => List.mem_cons_of_mem _ (List.mem_append_right _ h)) (by decide +kernel))
set_option maxRecDepth 20000 in
theorem gX7_touches_X7_of : GoodIn wsX7_touches (wsV RX7 68 RX7 yX7_of wsX7_of) := goodIn_app (goodIn_of _ (by decide +kernel)) ggX7_touches_X7_of
set_option maxRecDepth 20000 in
theorem ggX7_touches_J9_floorDiv_7cf53 : GoodIn wsX7_touches wsJ9_floorDiv_7cf53 := goodIn_r _ [10] (by decide +kernel) (by decide +kernel)
set_option maxRecDepth 20000 in
theorem gX7_touches_J9_floorDiv_7cf53 : GoodIn wsX7_touches (va_wsS RX7 48 yJ9_floorDiv_7cf53 wsJ9_floorDiv_7cf53) := goodIn_app (goodIn_of _ (by decide +kernel)) ggX7_touches_J9_floorDiv_7cf53
set_option maxRecDepth 20000 in
theorem ggX7_touches_X7_rowOf : GoodIn wsX7_touches wsX7_rowOf := goodIn_r _ [13, 7, 8, 9, 10] (by decide +kernel) (by decide +kernel)
set_option maxRecDepth 20000 in
theorem gX7_touches_X7_rowOf : GoodIn wsX7_touches (va_wsS RX7 54 yX7_rowOf wsX7_rowOf) := goodIn_app (goodIn_of _ (by decide +kernel)) ggX7_touches_X7_rowOf
set_option maxRecDepth 20000 in
theorem ggX7_touches_X7_kindIn : GoodIn wsX7_touches wsX7_kindIn := goodIn_ca (goodIn_r _ [17, 1, 22, 23, 24, 25, 26, 27, 28, 29, 30, 31, 32, 33, 34, 35, 36, 37, 38] (by decide +kernel) (by decide +kernel)) (goodIn_sub (fun _ h => List.mem_cons_of_mem _ (List.mem_append_right _ h)) (by decide +kernel))
set_option maxRecDepth 20000 in
theorem gX7_touches_X7_kindIn : GoodIn wsX7_touches (wsV RX7 58 RX7 yX7_kindIn wsX7_kindIn) := goodIn_app (goodIn_of _ (by decide +kernel)) ggX7_touches_X7_kindIn
set_option maxRecDepth 20000 in
theorem ggX7_touches_X7_adds : GoodIn wsX7_touches wsX7_adds := goodIn_ca (goodIn_r _ [21, 1, 22, 23, 24, 25, 26, 27, 28, 29, 30, 31, 32, 33, 34, 35, 36, 37, 38] (by decide +kernel) (by decide +kernel)) (goodIn_sub (fun _ h => List.mem_cons_of_mem _ (List.mem_append_right _ h)) (by decide +kernel))
set_option maxRecDepth 20000 in
theorem gX7_touches_X7_adds : GoodIn wsX7_touches (wsV RX7 130 RX7 yX7_adds wsX7_adds) := goodIn_app (goodIn_of _ (by decide +kernel)) ggX7_touches_X7_adds
theorem dX7_touches_0 : decode cX7_touches 0 = .ok (.iconst 0, 1) := by decide +kernel
theorem dX7_touches_1 : decode cX7_touches 1 = .ok (.istore_n 2, 1) := by decide +kernel
theorem dX7_touches_2 : decode cX7_touches 2 = .ok (.aload_n 0, 1) := by decide +kernel
theorem dX7_touches_3 : decode cX7_touches 3 = .ok (.iload_n 1, 1) := by decide +kernel
theorem dX7_touches_4 : decode cX7_touches 4 = .ok (.iconst 0, 1) := by decide +kernel
theorem dX7_touches_5 : decode cX7_touches 5 = .ok (.invokevirtual 68, 3) := by decide +kernel
theorem dX7_touches_8 : decode cX7_touches 8 = .ok (.bipush 16, 2) := by decide +kernel
theorem dX7_touches_10 : decode cX7_touches 10 = .ok (.invokestatic 48, 3) := by decide +kernel
theorem dX7_touches_13 : decode cX7_touches 13 = .ok (.istore_n 3, 1) := by decide +kernel
theorem dX7_touches_14 : decode cX7_touches 14 = .ok (.iload_n 3, 1) := by decide +kernel
theorem dX7_touches_15 : decode cX7_touches 15 = .ok (.aload_n 0, 1) := by decide +kernel
theorem dX7_touches_16 : decode cX7_touches 16 = .ok (.iload_n 1, 1) := by decide +kernel
theorem dX7_touches_17 : decode cX7_touches 17 = .ok (.iconst 0, 1) := by decide +kernel
theorem dX7_touches_18 : decode cX7_touches 18 = .ok (.invokevirtual 68, 3) := by decide +kernel
theorem dX7_touches_21 : decode cX7_touches 21 = .ok (.aload_n 0, 1) := by decide +kernel
theorem dX7_touches_22 : decode cX7_touches 22 = .ok (.iload_n 1, 1) := by decide +kernel
theorem dX7_touches_23 : decode cX7_touches 23 = .ok (.bipush 7, 2) := by decide +kernel
theorem dX7_touches_25 : decode cX7_touches 25 = .ok (.invokevirtual 68, 3) := by decide +kernel
theorem dX7_touches_28 : decode cX7_touches 28 = .ok (.iadd, 1) := by decide +kernel
theorem dX7_touches_29 : decode cX7_touches 29 = .ok (.iconst 1, 1) := by decide +kernel
theorem dX7_touches_30 : decode cX7_touches 30 = .ok (.isub, 1) := by decide +kernel
theorem dX7_touches_31 : decode cX7_touches 31 = .ok (.bipush 16, 2) := by decide +kernel
theorem dX7_touches_33 : decode cX7_touches 33 = .ok (.invokestatic 48, 3) := by decide +kernel
theorem dX7_touches_36 : decode cX7_touches 36 = .ok (.if_icmp .gt 107, 3) := by decide +kernel
theorem dX7_touches_39 : decode cX7_touches 39 = .ok (.aload_n 0, 1) := by decide +kernel
theorem dX7_touches_40 : decode cX7_touches 40 = .ok (.iload_n 1, 1) := by decide +kernel
theorem dX7_touches_41 : decode cX7_touches 41 = .ok (.iconst 1, 1) := by decide +kernel
theorem dX7_touches_42 : decode cX7_touches 42 = .ok (.invokevirtual 68, 3) := by decide +kernel
theorem dX7_touches_45 : decode cX7_touches 45 = .ok (.invokestatic 54, 3) := by decide +kernel
theorem dX7_touches_48 : decode cX7_touches 48 = .ok (.istore 4, 2) := by decide +kernel
theorem dX7_touches_50 : decode cX7_touches 50 = .ok (.iload 4, 2) := by decide +kernel
theorem dX7_touches_52 : decode cX7_touches 52 = .ok (.aload_n 0, 1) := by decide +kernel
theorem dX7_touches_53 : decode cX7_touches 53 = .ok (.iload_n 1, 1) := by decide +kernel
theorem dX7_touches_54 : decode cX7_touches 54 = .ok (.iconst 1, 1) := by decide +kernel
theorem dX7_touches_55 : decode cX7_touches 55 = .ok (.invokevirtual 68, 3) := by decide +kernel
theorem dX7_touches_58 : decode cX7_touches 58 = .ok (.aload_n 0, 1) := by decide +kernel
theorem dX7_touches_59 : decode cX7_touches 59 = .ok (.iload_n 1, 1) := by decide +kernel
theorem dX7_touches_60 : decode cX7_touches 60 = .ok (.bipush 8, 2) := by decide +kernel
theorem dX7_touches_62 : decode cX7_touches 62 = .ok (.invokevirtual 68, 3) := by decide +kernel
theorem dX7_touches_65 : decode cX7_touches 65 = .ok (.iadd, 1) := by decide +kernel
theorem dX7_touches_66 : decode cX7_touches 66 = .ok (.iconst 1, 1) := by decide +kernel
theorem dX7_touches_67 : decode cX7_touches 67 = .ok (.isub, 1) := by decide +kernel
theorem dX7_touches_68 : decode cX7_touches 68 = .ok (.invokestatic 54, 3) := by decide +kernel
theorem dX7_touches_71 : decode cX7_touches 71 = .ok (.if_icmp .gt 66, 3) := by decide +kernel
theorem dX7_touches_74 : decode cX7_touches 74 = .ok (.aload_n 0, 1) := by decide +kernel
theorem dX7_touches_75 : decode cX7_touches 75 = .ok (.iload_n 3, 1) := by decide +kernel
theorem dX7_touches_76 : decode cX7_touches 76 = .ok (.iload 4, 2) := by decide +kernel
theorem dX7_touches_78 : decode cX7_touches 78 = .ok (.invokevirtual 58, 3) := by decide +kernel
theorem dX7_touches_81 : decode cX7_touches 81 = .ok (.istore 5, 2) := by decide +kernel
theorem dX7_touches_83 : decode cX7_touches 83 = .ok (.iload_n 2, 1) := by decide +kernel
theorem dX7_touches_84 : decode cX7_touches 84 = .ok (.ifCond .ne 10, 3) := by decide +kernel
theorem dX7_touches_87 : decode cX7_touches 87 = .ok (.iload 5, 2) := by decide +kernel
theorem dX7_touches_89 : decode cX7_touches 89 = .ok (.bipush 9, 2) := by decide +kernel
theorem dX7_touches_91 : decode cX7_touches 91 = .ok (.if_icmp .ne 7, 3) := by decide +kernel
theorem dX7_touches_94 : decode cX7_touches 94 = .ok (.iconst 1, 1) := by decide +kernel
theorem dX7_touches_95 : decode cX7_touches 95 = .ok (.goto 4, 3) := by decide +kernel
theorem dX7_touches_98 : decode cX7_touches 98 = .ok (.iconst 0, 1) := by decide +kernel
theorem dX7_touches_99 : decode cX7_touches 99 = .ok (.istore_n 2, 1) := by decide +kernel
theorem dX7_touches_100 : decode cX7_touches 100 = .ok (.iload 5, 2) := by decide +kernel
theorem dX7_touches_102 : decode cX7_touches 102 = .ok (.bipush 10, 2) := by decide +kernel
theorem dX7_touches_104 : decode cX7_touches 104 = .ok (.if_icmp .eq 6, 3) := by decide +kernel
theorem dX7_touches_107 : decode cX7_touches 107 = .ok (.goto 24, 3) := by decide +kernel
theorem dX7_touches_110 : decode cX7_touches 110 = .ok (.aload_n 0, 1) := by decide +kernel
theorem dX7_touches_111 : decode cX7_touches 111 = .ok (.getfield 7, 3) := by decide +kernel
theorem dX7_touches_114 : decode cX7_touches 114 = .ok (.bipush 24, 2) := by decide +kernel
theorem dX7_touches_116 : decode cX7_touches 116 = .ok (.iload 4, 2) := by decide +kernel
theorem dX7_touches_118 : decode cX7_touches 118 = .ok (.imul, 1) := by decide +kernel
theorem dX7_touches_119 : decode cX7_touches 119 = .ok (.iload_n 3, 1) := by decide +kernel
theorem dX7_touches_120 : decode cX7_touches 120 = .ok (.iadd, 1) := by decide +kernel
theorem dX7_touches_121 : decode cX7_touches 121 = .ok (.iconst 0, 1) := by decide +kernel
theorem dX7_touches_122 : decode cX7_touches 122 = .ok (.iastore, 1) := by decide +kernel
theorem dX7_touches_123 : decode cX7_touches 123 = .ok (.aload_n 0, 1) := by decide +kernel
theorem dX7_touches_124 : decode cX7_touches 124 = .ok (.iload_n 1, 1) := by decide +kernel
theorem dX7_touches_125 : decode cX7_touches 125 = .ok (.bipush 14, 2) := by decide +kernel
theorem dX7_touches_127 : decode cX7_touches 127 = .ok (.iconst 1, 1) := by decide +kernel
theorem dX7_touches_128 : decode cX7_touches 128 = .ok (.invokevirtual 130, 3) := by decide +kernel
theorem dX7_touches_131 : decode cX7_touches 131 = .ok (.iinc 4 1, 3) := by decide +kernel
theorem dX7_touches_134 : decode cX7_touches 134 = .ok (.goto (-84), 3) := by decide +kernel
theorem dX7_touches_137 : decode cX7_touches 137 = .ok (.iinc 3 1, 3) := by decide +kernel
theorem dX7_touches_140 : decode cX7_touches 140 = .ok (.goto (-126), 3) := by decide +kernel
theorem dX7_touches_143 : decode cX7_touches 143 = .ok (.iload_n 2, 1) := by decide +kernel
theorem dX7_touches_144 : decode cX7_touches 144 = .ok (.ireturn, 1) := by decide +kernel
set_option maxRecDepth 20000 in
theorem ggX7_dies_X7_of : GoodIn wsX7_dies wsX7_of := goodIn_ca (goodIn_r _ [5, 6, 15, 16, 17, 18, 19, 20, 21, 22, 23, 24, 25, 26, 27, 28, 29, 30, 31] (by decide +kernel) (by decide +kernel)) (goodIn_sub (fun _ h => List.mem_cons_of_mem _ (List.mem_append_right _ h)) (by decide +kernel))
set_option maxRecDepth 20000 in
theorem gX7_dies_X7_of : GoodIn wsX7_dies (wsV RX7 68 RX7 yX7_of wsX7_of) := goodIn_app (goodIn_of _ (by decide +kernel)) ggX7_dies_X7_of
set_option maxRecDepth 20000 in
theorem ggX7_dies_X7_sets : GoodIn wsX7_dies wsX7_sets := goodIn_ca (goodIn_r _ [10, 6, 15, 16, 17, 18, 19, 20, 21, 22, 23, 24, 25, 26, 27, 28, 29, 30, 31] (by decide +kernel) (by decide +kernel)) (goodIn_sub (fun _ h => List.mem_cons_of_mem _ (List.mem_append_right _ h)) (by decide +kernel))
set_option maxRecDepth 20000 in
theorem gX7_dies_X7_sets : GoodIn wsX7_dies (wsV RX7 126 RX7 yX7_sets wsX7_sets) := goodIn_app (goodIn_of _ (by decide +kernel)) ggX7_dies_X7_sets
set_option maxRecDepth 20000 in
theorem ggX7_dies_X7_adds : GoodIn wsX7_dies wsX7_adds := goodIn_ca (goodIn_r _ [14, 6, 15, 16, 17, 18, 19, 20, 21, 22, 23, 24, 25, 26, 27, 28, 29, 30, 31] (by decide +kernel) (by decide +kernel)) (goodIn_sub (fun _ h => List.mem_cons_of_mem _ (List.mem_append_right _ h)) (by decide +kernel))
set_option maxRecDepth 20000 in
theorem gX7_dies_X7_adds : GoodIn wsX7_dies (wsV RX7 130 RX7 yX7_adds wsX7_adds) := goodIn_app (goodIn_of _ (by decide +kernel)) ggX7_dies_X7_adds
theorem dX7_dies_0 : decode cX7_dies 0 = .ok (.aload_n 0, 1) := by decide +kernel
theorem dX7_dies_1 : decode cX7_dies 1 = .ok (.iload_n 1, 1) := by decide +kernel
theorem dX7_dies_2 : decode cX7_dies 2 = .ok (.iconst 0, 1) := by decide +kernel
theorem dX7_dies_3 : decode cX7_dies 3 = .ok (.aload_n 0, 1) := by decide +kernel
theorem dX7_dies_4 : decode cX7_dies 4 = .ok (.iload_n 1, 1) := by decide +kernel
theorem dX7_dies_5 : decode cX7_dies 5 = .ok (.bipush 12, 2) := by decide +kernel
theorem dX7_dies_7 : decode cX7_dies 7 = .ok (.invokevirtual 68, 3) := by decide +kernel
theorem dX7_dies_10 : decode cX7_dies 10 = .ok (.invokevirtual 126, 3) := by decide +kernel
theorem dX7_dies_13 : decode cX7_dies 13 = .ok (.aload_n 0, 1) := by decide +kernel
theorem dX7_dies_14 : decode cX7_dies 14 = .ok (.iload_n 1, 1) := by decide +kernel
theorem dX7_dies_15 : decode cX7_dies 15 = .ok (.iconst 1, 1) := by decide +kernel
theorem dX7_dies_16 : decode cX7_dies 16 = .ok (.aload_n 0, 1) := by decide +kernel
theorem dX7_dies_17 : decode cX7_dies 17 = .ok (.iload_n 1, 1) := by decide +kernel
theorem dX7_dies_18 : decode cX7_dies 18 = .ok (.bipush 13, 2) := by decide +kernel
theorem dX7_dies_20 : decode cX7_dies 20 = .ok (.invokevirtual 68, 3) := by decide +kernel
theorem dX7_dies_23 : decode cX7_dies 23 = .ok (.invokevirtual 126, 3) := by decide +kernel
theorem dX7_dies_26 : decode cX7_dies 26 = .ok (.iconst 2, 1) := by decide +kernel
theorem dX7_dies_27 : decode cX7_dies 27 = .ok (.istore_n 2, 1) := by decide +kernel
theorem dX7_dies_28 : decode cX7_dies 28 = .ok (.iload_n 2, 1) := by decide +kernel
theorem dX7_dies_29 : decode cX7_dies 29 = .ok (.bipush 6, 2) := by decide +kernel
theorem dX7_dies_31 : decode cX7_dies 31 = .ok (.if_icmp .gt 16, 3) := by decide +kernel
theorem dX7_dies_34 : decode cX7_dies 34 = .ok (.aload_n 0, 1) := by decide +kernel
theorem dX7_dies_35 : decode cX7_dies 35 = .ok (.iload_n 1, 1) := by decide +kernel
theorem dX7_dies_36 : decode cX7_dies 36 = .ok (.iload_n 2, 1) := by decide +kernel
theorem dX7_dies_37 : decode cX7_dies 37 = .ok (.iconst 0, 1) := by decide +kernel
theorem dX7_dies_38 : decode cX7_dies 38 = .ok (.invokevirtual 126, 3) := by decide +kernel
theorem dX7_dies_41 : decode cX7_dies 41 = .ok (.iinc 2 1, 3) := by decide +kernel
theorem dX7_dies_44 : decode cX7_dies 44 = .ok (.goto (-16), 3) := by decide +kernel
theorem dX7_dies_47 : decode cX7_dies 47 = .ok (.aload_n 0, 1) := by decide +kernel
theorem dX7_dies_48 : decode cX7_dies 48 = .ok (.iload_n 1, 1) := by decide +kernel
theorem dX7_dies_49 : decode cX7_dies 49 = .ok (.bipush 11, 2) := by decide +kernel
theorem dX7_dies_51 : decode cX7_dies 51 = .ok (.iconst 0, 1) := by decide +kernel
theorem dX7_dies_52 : decode cX7_dies 52 = .ok (.invokevirtual 126, 3) := by decide +kernel
theorem dX7_dies_55 : decode cX7_dies 55 = .ok (.aload_n 0, 1) := by decide +kernel
theorem dX7_dies_56 : decode cX7_dies 56 = .ok (.iload_n 1, 1) := by decide +kernel
theorem dX7_dies_57 : decode cX7_dies 57 = .ok (.bipush 15, 2) := by decide +kernel
theorem dX7_dies_59 : decode cX7_dies 59 = .ok (.iconst 1, 1) := by decide +kernel
theorem dX7_dies_60 : decode cX7_dies 60 = .ok (.invokevirtual 130, 3) := by decide +kernel
theorem dX7_dies_63 : decode cX7_dies 63 = .ok (.return_, 1) := by decide +kernel
set_option maxRecDepth 20000 in
theorem ggX7_decides_X7_doesStand : GoodIn wsX7_decides wsX7_doesStand := goodIn_ca (goodIn_r _ [6, 7, 8, 9, 5, 10, 11, 12, 13, 14, 15, 16, 17, 18, 19, 20, 21, 22, 23, 24, 25, 26, 27, 28, 29, 30, 31, 32, 33, 34, 35, 36, 37, 38, 39, 40, 41, 42, 43, 44, 45, 46, 47, 48, 49, 50, 51, 52, 53, 54, 55, 56, 57, 58, 59, 60, 61, 62, 63, 64, 65, 66, 67, 68, 69, 70, 71, 72, 73, 74, 75, 76, 77, 78, 79, 80, 81, 82, 83, 84, 85, 86, 87, 88, 89, 134, 135, 136, 137, 138, 139, 140, 141, 142, 143, 144, 145, 146, 147, 148, 149, 150] (by decide +kernel) (by decide +kernel)) (goodIn_sub (fun _ h => List.mem_cons_of_mem _ (List.mem_append_right _ h)) (by decide +kernel))
set_option maxRecDepth 20000 in
theorem gX7_decides_X7_doesStand : GoodIn wsX7_decides (wsV RX7 166 RX7 yX7_doesStand wsX7_doesStand) := goodIn_app (goodIn_of _ (by decide +kernel)) ggX7_decides_X7_doesStand
set_option maxRecDepth 20000 in
theorem ggX7_decides_X7_adds : GoodIn wsX7_decides wsX7_adds := goodIn_ca (goodIn_r _ [93, 11, 134, 135, 136, 137, 138, 139, 140, 141, 142, 143, 144, 145, 146, 147, 148, 149, 150] (by decide +kernel) (by decide +kernel)) (goodIn_sub (fun _ h => List.mem_cons_of_mem _ (List.mem_append_right _ h)) (by decide +kernel))
set_option maxRecDepth 20000 in
theorem gX7_decides_X7_adds : GoodIn wsX7_decides (wsV RX7 130 RX7 yX7_adds wsX7_adds) := goodIn_app (goodIn_of _ (by decide +kernel)) ggX7_decides_X7_adds
set_option maxRecDepth 20000 in
theorem ggX7_decides_X7_counts : GoodIn wsX7_decides wsX7_counts := goodIn_ca (goodIn_r _ [97, 7, 8, 9, 5, 10, 11, 98, 99, 100, 101, 134, 135, 136, 137, 138, 139, 140, 141, 142, 143, 144, 145, 146, 147, 148, 149, 150] (by decide +kernel) (by decide +kernel)) (goodIn_sub (fun _ h => List.mem_cons_of_mem _ (List.mem_append_right _ h)) (by decide +kernel))
set_option maxRecDepth 20000 in
theorem gX7_decides_X7_counts : GoodIn wsX7_decides (wsV RX7 169 RX7 yX7_counts wsX7_counts) := goodIn_app (goodIn_of _ (by decide +kernel)) ggX7_decides_X7_counts
set_option maxRecDepth 20000 in
theorem ggX7_decides_X7_isPressed : GoodIn wsX7_decides wsX7_isPressed := goodIn_ca (goodIn_r _ [105, 7, 8, 9, 5, 10, 11, 134, 135, 136, 137, 138, 139, 140, 141, 142, 143, 144, 145, 146, 147, 148, 149, 150] (by decide +kernel) (by decide +kernel)) (goodIn_sub (fun _ h => List.mem_cons_of_mem _ (List.mem_append_right _ h)) (by decide +kernel))
set_option maxRecDepth 20000 in
theorem gX7_decides_X7_isPressed : GoodIn wsX7_decides (wsV RX7 154 RX7 yX7_isPressed wsX7_isPressed) := goodIn_app (goodIn_of _ (by decide +kernel)) ggX7_decides_X7_isPressed
set_option maxRecDepth 20000 in
theorem ggX7_decides_X7_of : GoodIn wsX7_decides wsX7_of := goodIn_ca (goodIn_r _ [10, 11, 134, 135, 136, 137, 138, 139, 140, 141, 142, 143, 144, 145, 146, 147, 148, 149, 150] (by decide +kernel) (by decide +kernel)) (goodIn_sub (fun _ h => List.mem_cons_of_mem _ (List.mem_append_right _ h)) (by decide +kernel))
set_option maxRecDepth 20000 in
theorem gX7_decides_X7_of : GoodIn wsX7_decides (wsV RX7 68 RX7 yX7_of wsX7_of) := goodIn_app (goodIn_of _ (by decide +kernel)) ggX7_decides_X7_of
set_option maxRecDepth 20000 in
theorem ggX7_decides_X7_firmBelow : GoodIn wsX7_decides wsX7_firmBelow := goodIn_ca (goodIn_r _ [27, 28, 29, 30, 5, 31, 32, 33, 34, 35, 7, 8, 9, 10, 11, 36, 37, 38, 39, 40, 41, 42, 43, 44, 45, 46, 47, 48, 49, 50, 51, 52, 53, 54, 55, 56, 57, 58, 59, 60, 61, 62, 134, 135, 136, 137, 138, 139, 140, 141, 142, 143, 144, 145, 146, 147, 148, 149, 150] (by decide +kernel) (by decide +kernel)) (goodIn_sub (fun _ h => List.mem_cons_of_mem _ (List.mem_append_right _ h)) (by decide +kernel))
set_option maxRecDepth 20000 in
theorem gX7_decides_X7_firmBelow : GoodIn wsX7_decides (wsV RX7 101 RX7 yX7_firmBelow wsX7_firmBelow) := goodIn_app (goodIn_of _ (by decide +kernel)) ggX7_decides_X7_firmBelow
set_option maxRecDepth 20000 in
theorem ggX7_decides_X7_isOnSlope : GoodIn wsX7_decides wsX7_isOnSlope := goodIn_ca (goodIn_r _ [66, 32, 33, 34, 5, 35, 7, 8, 9, 10, 11, 36, 37, 38, 39, 40, 41, 42, 43, 44, 45, 46, 47, 48, 49, 50, 51, 52, 53, 67, 68, 69, 70, 134, 135, 136, 137, 138, 139, 140, 141, 142, 143, 144, 145, 146, 147, 148, 149, 150] (by decide +kernel) (by decide +kernel)) (goodIn_sub (fun _ h => List.mem_cons_of_mem _ (List.mem_append_right _ h)) (by decide +kernel))
set_option maxRecDepth 20000 in
theorem gX7_decides_X7_isOnSlope : GoodIn wsX7_decides (wsV RX7 104 RX7 yX7_isOnSlope wsX7_isOnSlope) := goodIn_app (goodIn_of _ (by decide +kernel)) ggX7_decides_X7_isOnSlope
set_option maxRecDepth 20000 in
theorem ggX7_decides_X7_sets : GoodIn wsX7_decides wsX7_sets := goodIn_ca (goodIn_r _ [101, 11, 134, 135, 136, 137, 138, 139, 140, 141, 142, 143, 144, 145, 146, 147, 148, 149, 150] (by decide +kernel) (by decide +kernel)) (goodIn_sub (fun _ h => List.mem_cons_of_mem _ (List.mem_append_right _ h)) (by decide +kernel))
set_option maxRecDepth 20000 in
theorem gX7_decides_X7_sets : GoodIn wsX7_decides (wsV RX7 126 RX7 yX7_sets wsX7_sets) := goodIn_app (goodIn_of _ (by decide +kernel)) ggX7_decides_X7_sets
set_option maxRecDepth 20000 in
theorem ggX7_decides_X7_wayOf : GoodIn wsX7_decides wsX7_wayOf := goodIn_ca (goodIn_r _ [109, 102, 103, 104, 5, 105, 7, 8, 9, 10, 11, 134, 135, 136, 137, 138, 139, 140, 141, 142, 143, 144, 145, 146, 147, 148, 149, 150] (by decide +kernel) (by decide +kernel)) (goodIn_sub (fun _ h => List.mem_cons_of_mem _ (List.mem_append_right _ h)) (by decide +kernel))
set_option maxRecDepth 20000 in
theorem gX7_decides_X7_wayOf : GoodIn wsX7_decides (wsV RX7 173 RX7 yX7_wayOf wsX7_wayOf) := goodIn_app (goodIn_of _ (by decide +kernel)) ggX7_decides_X7_wayOf
set_option maxRecDepth 20000 in
theorem ggX7_decides_X7_speedsUp : GoodIn wsX7_decides wsX7_speedsUp := goodIn_ca (goodIn_r _ [113, 1, 7, 8, 9, 5, 10, 11, 114, 115, 116, 117, 24, 25, 26, 27, 28, 29, 30, 31, 32, 33, 34, 35, 36, 37, 38, 39, 40, 41, 42, 43, 44, 45, 46, 47, 48, 49, 50, 51, 52, 53, 54, 55, 56, 57, 58, 59, 60, 61, 62, 98, 99, 100, 101, 134, 135, 136, 137, 138, 139, 140, 141, 142, 143, 144, 145, 146, 147, 148, 149, 150] (by decide +kernel) (by decide +kernel)) (goodIn_sub (fun _ h => List.mem_cons_of_mem _ (List.mem_append_right _ h)) (by decide +kernel))
set_option maxRecDepth 20000 in
theorem gX7_decides_X7_speedsUp : GoodIn wsX7_decides (wsV RX7 176 RX7 yX7_speedsUp wsX7_speedsUp) := goodIn_app (goodIn_of _ (by decide +kernel)) ggX7_decides_X7_speedsUp
set_option maxRecDepth 20000 in
theorem ggX7_decides_X7_isOnIce : GoodIn wsX7_decides wsX7_isOnIce := goodIn_ca (goodIn_r _ [117, 7, 8, 9, 5, 10, 11, 24, 25, 26, 27, 28, 29, 30, 31, 32, 33, 34, 35, 36, 37, 38, 39, 40, 41, 42, 43, 44, 45, 46, 47, 48, 49, 50, 51, 52, 53, 54, 55, 56, 57, 58, 59, 60, 61, 62, 134, 135, 136, 137, 138, 139, 140, 141, 142, 143, 144, 145, 146, 147, 148, 149, 150] (by decide +kernel) (by decide +kernel)) (goodIn_sub (fun _ h => List.mem_cons_of_mem _ (List.mem_append_right _ h)) (by decide +kernel))
set_option maxRecDepth 20000 in
theorem gX7_decides_X7_isOnIce : GoodIn wsX7_decides (wsV RX7 157 RX7 yX7_isOnIce wsX7_isOnIce) := goodIn_app (goodIn_of _ (by decide +kernel)) ggX7_decides_X7_isOnIce
set_option maxRecDepth 20000 in
theorem ggX7_decides_X7_slowsDown : GoodIn wsX7_decides wsX7_slowsDown := goodIn_ca (goodIn_r _ [121, 7, 8, 9, 5, 10, 11, 98, 99, 100, 101, 134, 135, 136, 137, 138, 139, 140, 141, 142, 143, 144, 145, 146, 147, 148, 149, 150] (by decide +kernel) (by decide +kernel)) (goodIn_sub (fun _ h => List.mem_cons_of_mem _ (List.mem_append_right _ h)) (by decide +kernel))
set_option maxRecDepth 20000 in
theorem gX7_decides_X7_slowsDown : GoodIn wsX7_decides (wsV RX7 180 RX7 yX7_slowsDown wsX7_slowsDown) := goodIn_app (goodIn_of _ (by decide +kernel)) ggX7_decides_X7_slowsDown
set_option maxRecDepth 20000 in
theorem ggX7_decides_X7_jumps : GoodIn wsX7_decides wsX7_jumps := goodIn_ca (goodIn_r _ [125, 1, 7, 8, 9, 5, 10, 11, 126, 127, 128, 129, 28, 29, 30, 31, 32, 33, 34, 35, 36, 37, 38, 39, 40, 41, 42, 43, 44, 45, 46, 47, 48, 49, 50, 51, 52, 53, 54, 55, 56, 57, 58, 59, 60, 61, 62, 98, 99, 100, 101, 90, 91, 92, 93, 134, 135, 136, 137, 138, 139, 140, 141, 142, 143, 144, 145, 146, 147, 148, 149, 150] (by decide +kernel) (by decide +kernel)) (goodIn_sub (fun _ h => List.mem_cons_of_mem _ (List.mem_append_right _ h)) (by decide +kernel))
set_option maxRecDepth 20000 in
theorem gX7_decides_X7_jumps : GoodIn wsX7_decides (wsV RX7 183 RX7 yX7_jumps wsX7_jumps) := goodIn_app (goodIn_of _ (by decide +kernel)) ggX7_decides_X7_jumps
set_option maxRecDepth 20000 in
theorem ggX7_decides_X7_falls : GoodIn wsX7_decides wsX7_falls := goodIn_ca (goodIn_r _ [133, 7, 8, 9, 5, 10, 11, 126, 127, 128, 129, 28, 29, 30, 31, 32, 33, 34, 35, 36, 37, 38, 39, 40, 41, 42, 43, 44, 45, 46, 47, 48, 49, 50, 51, 52, 53, 54, 55, 56, 57, 58, 59, 60, 61, 62, 98, 99, 100, 101, 134, 135, 136, 137, 138, 139, 140, 141, 142, 143, 144, 145, 146, 147, 148, 149, 150] (by decide +kernel) (by decide +kernel)) (goodIn_sub (fun _ h => List.mem_cons_of_mem _ (List.mem_append_right _ h)) (by decide +kernel))
set_option maxRecDepth 20000 in
theorem gX7_decides_X7_falls : GoodIn wsX7_decides (wsV RX7 187 RX7 yX7_falls wsX7_falls) := goodIn_app (goodIn_of _ (by decide +kernel)) ggX7_decides_X7_falls
theorem dX7_decides_0 : decode cX7_decides 0 = .ok (.aload_n 0, 1) := by decide +kernel
theorem dX7_decides_1 : decode cX7_decides 1 = .ok (.iload_n 1, 1) := by decide +kernel
theorem dX7_decides_2 : decode cX7_decides 2 = .ok (.invokevirtual 166, 3) := by decide +kernel
theorem dX7_decides_5 : decode cX7_decides 5 = .ok (.istore_n 2, 1) := by decide +kernel
theorem dX7_decides_6 : decode cX7_decides 6 = .ok (.aload_n 0, 1) := by decide +kernel
theorem dX7_decides_7 : decode cX7_decides 7 = .ok (.iload_n 1, 1) := by decide +kernel
theorem dX7_decides_8 : decode cX7_decides 8 = .ok (.bipush 19, 2) := by decide +kernel
theorem dX7_decides_10 : decode cX7_decides 10 = .ok (.iload_n 2, 1) := by decide +kernel
theorem dX7_decides_11 : decode cX7_decides 11 = .ok (.ifCond .eq 7, 3) := by decide +kernel
theorem dX7_decides_14 : decode cX7_decides 14 = .ok (.iconst 1, 1) := by decide +kernel
theorem dX7_decides_15 : decode cX7_decides 15 = .ok (.goto 4, 3) := by decide +kernel
theorem dX7_decides_18 : decode cX7_decides 18 = .ok (.iconst 0, 1) := by decide +kernel
theorem dX7_decides_19 : decode cX7_decides 19 = .ok (.invokevirtual 130, 3) := by decide +kernel
theorem dX7_decides_22 : decode cX7_decides 22 = .ok (.aload_n 0, 1) := by decide +kernel
theorem dX7_decides_23 : decode cX7_decides 23 = .ok (.iload_n 1, 1) := by decide +kernel
theorem dX7_decides_24 : decode cX7_decides 24 = .ok (.iconst 4, 1) := by decide +kernel
theorem dX7_decides_25 : decode cX7_decides 25 = .ok (.aload_n 0, 1) := by decide +kernel
theorem dX7_decides_26 : decode cX7_decides 26 = .ok (.getfield 13, 3) := by decide +kernel
theorem dX7_decides_29 : decode cX7_decides 29 = .ok (.iconst 2, 1) := by decide +kernel
theorem dX7_decides_30 : decode cX7_decides 30 = .ok (.iaload, 1) := by decide +kernel
theorem dX7_decides_31 : decode cX7_decides 31 = .ok (.iload_n 2, 1) := by decide +kernel
theorem dX7_decides_32 : decode cX7_decides 32 = .ok (.invokevirtual 169, 3) := by decide +kernel
theorem dX7_decides_35 : decode cX7_decides 35 = .ok (.aload_n 0, 1) := by decide +kernel
theorem dX7_decides_36 : decode cX7_decides 36 = .ok (.iload_n 1, 1) := by decide +kernel
theorem dX7_decides_37 : decode cX7_decides 37 = .ok (.iconst 5, 1) := by decide +kernel
theorem dX7_decides_38 : decode cX7_decides 38 = .ok (.aload_n 0, 1) := by decide +kernel
theorem dX7_decides_39 : decode cX7_decides 39 = .ok (.getfield 13, 3) := by decide +kernel
theorem dX7_decides_42 : decode cX7_decides 42 = .ok (.iconst 3, 1) := by decide +kernel
theorem dX7_decides_43 : decode cX7_decides 43 = .ok (.iaload, 1) := by decide +kernel
theorem dX7_decides_44 : decode cX7_decides 44 = .ok (.aload_n 0, 1) := by decide +kernel
theorem dX7_decides_45 : decode cX7_decides 45 = .ok (.iload_n 1, 1) := by decide +kernel
theorem dX7_decides_46 : decode cX7_decides 46 = .ok (.iconst 4, 1) := by decide +kernel
theorem dX7_decides_47 : decode cX7_decides 47 = .ok (.invokevirtual 154, 3) := by decide +kernel
theorem dX7_decides_50 : decode cX7_decides 50 = .ok (.ifCond .eq 19, 3) := by decide +kernel
theorem dX7_decides_53 : decode cX7_decides 53 = .ok (.aload_n 0, 1) := by decide +kernel
theorem dX7_decides_54 : decode cX7_decides 54 = .ok (.iload_n 1, 1) := by decide +kernel
theorem dX7_decides_55 : decode cX7_decides 55 = .ok (.bipush 10, 2) := by decide +kernel
theorem dX7_decides_57 : decode cX7_decides 57 = .ok (.invokevirtual 68, 3) := by decide +kernel
theorem dX7_decides_60 : decode cX7_decides 60 = .ok (.iconst 4, 1) := by decide +kernel
theorem dX7_decides_61 : decode cX7_decides 61 = .ok (.iand, 1) := by decide +kernel
theorem dX7_decides_62 : decode cX7_decides 62 = .ok (.ifCond .ne 7, 3) := by decide +kernel
theorem dX7_decides_65 : decode cX7_decides 65 = .ok (.iconst 1, 1) := by decide +kernel
theorem dX7_decides_66 : decode cX7_decides 66 = .ok (.goto 4, 3) := by decide +kernel
theorem dX7_decides_69 : decode cX7_decides 69 = .ok (.iconst 0, 1) := by decide +kernel
theorem dX7_decides_70 : decode cX7_decides 70 = .ok (.invokevirtual 169, 3) := by decide +kernel
theorem dX7_decides_73 : decode cX7_decides 73 = .ok (.aload_n 0, 1) := by decide +kernel
theorem dX7_decides_74 : decode cX7_decides 74 = .ok (.iload_n 1, 1) := by decide +kernel
theorem dX7_decides_75 : decode cX7_decides 75 = .ok (.bipush 6, 2) := by decide +kernel
theorem dX7_decides_77 : decode cX7_decides 77 = .ok (.iconst 0, 1) := by decide +kernel
theorem dX7_decides_78 : decode cX7_decides 78 = .ok (.iconst 0, 1) := by decide +kernel
theorem dX7_decides_79 : decode cX7_decides 79 = .ok (.invokevirtual 169, 3) := by decide +kernel
theorem dX7_decides_82 : decode cX7_decides 82 = .ok (.aload_n 0, 1) := by decide +kernel
theorem dX7_decides_83 : decode cX7_decides 83 = .ok (.iload_n 1, 1) := by decide +kernel
theorem dX7_decides_84 : decode cX7_decides 84 = .ok (.aload_n 0, 1) := by decide +kernel
theorem dX7_decides_85 : decode cX7_decides 85 = .ok (.iload_n 1, 1) := by decide +kernel
theorem dX7_decides_86 : decode cX7_decides 86 = .ok (.iconst 0, 1) := by decide +kernel
theorem dX7_decides_87 : decode cX7_decides 87 = .ok (.invokevirtual 68, 3) := by decide +kernel
theorem dX7_decides_90 : decode cX7_decides 90 = .ok (.aload_n 0, 1) := by decide +kernel
theorem dX7_decides_91 : decode cX7_decides 91 = .ok (.iload_n 1, 1) := by decide +kernel
theorem dX7_decides_92 : decode cX7_decides 92 = .ok (.iconst 1, 1) := by decide +kernel
theorem dX7_decides_93 : decode cX7_decides 93 = .ok (.invokevirtual 68, 3) := by decide +kernel
theorem dX7_decides_96 : decode cX7_decides 96 = .ok (.invokevirtual 101, 3) := by decide +kernel
theorem dX7_decides_99 : decode cX7_decides 99 = .ok (.ifCond .ne 23, 3) := by decide +kernel
theorem dX7_decides_102 : decode cX7_decides 102 = .ok (.aload_n 0, 1) := by decide +kernel
theorem dX7_decides_103 : decode cX7_decides 103 = .ok (.iload_n 1, 1) := by decide +kernel
theorem dX7_decides_104 : decode cX7_decides 104 = .ok (.aload_n 0, 1) := by decide +kernel
theorem dX7_decides_105 : decode cX7_decides 105 = .ok (.iload_n 1, 1) := by decide +kernel
theorem dX7_decides_106 : decode cX7_decides 106 = .ok (.iconst 0, 1) := by decide +kernel
theorem dX7_decides_107 : decode cX7_decides 107 = .ok (.invokevirtual 68, 3) := by decide +kernel
theorem dX7_decides_110 : decode cX7_decides 110 = .ok (.aload_n 0, 1) := by decide +kernel
theorem dX7_decides_111 : decode cX7_decides 111 = .ok (.iload_n 1, 1) := by decide +kernel
theorem dX7_decides_112 : decode cX7_decides 112 = .ok (.iconst 1, 1) := by decide +kernel
theorem dX7_decides_113 : decode cX7_decides 113 = .ok (.invokevirtual 68, 3) := by decide +kernel
theorem dX7_decides_116 : decode cX7_decides 116 = .ok (.invokevirtual 104, 3) := by decide +kernel
theorem dX7_decides_119 : decode cX7_decides 119 = .ok (.ifCond .eq 7, 3) := by decide +kernel
theorem dX7_decides_122 : decode cX7_decides 122 = .ok (.iconst 1, 1) := by decide +kernel
theorem dX7_decides_123 : decode cX7_decides 123 = .ok (.goto 4, 3) := by decide +kernel
theorem dX7_decides_126 : decode cX7_decides 126 = .ok (.iconst 0, 1) := by decide +kernel
theorem dX7_decides_127 : decode cX7_decides 127 = .ok (.istore_n 3, 1) := by decide +kernel
theorem dX7_decides_128 : decode cX7_decides 128 = .ok (.iload_n 2, 1) := by decide +kernel
theorem dX7_decides_129 : decode cX7_decides 129 = .ok (.ifCond .eq 51, 3) := by decide +kernel
theorem dX7_decides_132 : decode cX7_decides 132 = .ok (.iload_n 3, 1) := by decide +kernel
theorem dX7_decides_133 : decode cX7_decides 133 = .ok (.ifCond .ne 47, 3) := by decide +kernel
theorem dX7_decides_136 : decode cX7_decides 136 = .ok (.aload_n 0, 1) := by decide +kernel
theorem dX7_decides_137 : decode cX7_decides 137 = .ok (.iload_n 1, 1) := by decide +kernel
theorem dX7_decides_138 : decode cX7_decides 138 = .ok (.bipush 8, 2) := by decide +kernel
theorem dX7_decides_140 : decode cX7_decides 140 = .ok (.invokevirtual 154, 3) := by decide +kernel
theorem dX7_decides_143 : decode cX7_decides 143 = .ok (.ifCond .eq 37, 3) := by decide +kernel
theorem dX7_decides_146 : decode cX7_decides 146 = .ok (.aload_n 0, 1) := by decide +kernel
theorem dX7_decides_147 : decode cX7_decides 147 = .ok (.iload_n 1, 1) := by decide +kernel
theorem dX7_decides_148 : decode cX7_decides 148 = .ok (.iconst 5, 1) := by decide +kernel
theorem dX7_decides_149 : decode cX7_decides 149 = .ok (.invokevirtual 68, 3) := by decide +kernel
theorem dX7_decides_152 : decode cX7_decides 152 = .ok (.ifCond .le 28, 3) := by decide +kernel
theorem dX7_decides_155 : decode cX7_decides 155 = .ok (.aload_n 0, 1) := by decide +kernel
theorem dX7_decides_156 : decode cX7_decides 156 = .ok (.iload_n 1, 1) := by decide +kernel
theorem dX7_decides_157 : decode cX7_decides 157 = .ok (.bipush 6, 2) := by decide +kernel
theorem dX7_decides_159 : decode cX7_decides 159 = .ok (.bipush 8, 2) := by decide +kernel
theorem dX7_decides_161 : decode cX7_decides 161 = .ok (.invokevirtual 126, 3) := by decide +kernel
theorem dX7_decides_164 : decode cX7_decides 164 = .ok (.aload_n 0, 1) := by decide +kernel
theorem dX7_decides_165 : decode cX7_decides 165 = .ok (.iload_n 1, 1) := by decide +kernel
theorem dX7_decides_166 : decode cX7_decides 166 = .ok (.iconst 5, 1) := by decide +kernel
theorem dX7_decides_167 : decode cX7_decides 167 = .ok (.iconst 0, 1) := by decide +kernel
theorem dX7_decides_168 : decode cX7_decides 168 = .ok (.invokevirtual 126, 3) := by decide +kernel
theorem dX7_decides_171 : decode cX7_decides 171 = .ok (.aload_n 0, 1) := by decide +kernel
theorem dX7_decides_172 : decode cX7_decides 172 = .ok (.iload_n 1, 1) := by decide +kernel
theorem dX7_decides_173 : decode cX7_decides 173 = .ok (.iconst 4, 1) := by decide +kernel
theorem dX7_decides_174 : decode cX7_decides 174 = .ok (.iconst 0, 1) := by decide +kernel
theorem dX7_decides_175 : decode cX7_decides 175 = .ok (.invokevirtual 126, 3) := by decide +kernel
theorem dX7_decides_178 : decode cX7_decides 178 = .ok (.iconst 0, 1) := by decide +kernel
theorem dX7_decides_179 : decode cX7_decides 179 = .ok (.istore_n 2, 1) := by decide +kernel
theorem dX7_decides_180 : decode cX7_decides 180 = .ok (.aload_n 0, 1) := by decide +kernel
theorem dX7_decides_181 : decode cX7_decides 181 = .ok (.iload_n 1, 1) := by decide +kernel
theorem dX7_decides_182 : decode cX7_decides 182 = .ok (.invokevirtual 173, 3) := by decide +kernel
theorem dX7_decides_185 : decode cX7_decides 185 = .ok (.istore 4, 2) := by decide +kernel
theorem dX7_decides_187 : decode cX7_decides 187 = .ok (.iload 4, 2) := by decide +kernel
theorem dX7_decides_189 : decode cX7_decides 189 = .ok (.ifCond .eq 14, 3) := by decide +kernel
theorem dX7_decides_192 : decode cX7_decides 192 = .ok (.aload_n 0, 1) := by decide +kernel
theorem dX7_decides_193 : decode cX7_decides 193 = .ok (.iload_n 1, 1) := by decide +kernel
theorem dX7_decides_194 : decode cX7_decides 194 = .ok (.iload 4, 2) := by decide +kernel
theorem dX7_decides_196 : decode cX7_decides 196 = .ok (.iload_n 2, 1) := by decide +kernel
theorem dX7_decides_197 : decode cX7_decides 197 = .ok (.invokevirtual 176, 3) := by decide +kernel
theorem dX7_decides_200 : decode cX7_decides 200 = .ok (.goto 20, 3) := by decide +kernel
theorem dX7_decides_203 : decode cX7_decides 203 = .ok (.iload_n 2, 1) := by decide +kernel
theorem dX7_decides_204 : decode cX7_decides 204 = .ok (.ifCond .eq 16, 3) := by decide +kernel
theorem dX7_decides_207 : decode cX7_decides 207 = .ok (.aload_n 0, 1) := by decide +kernel
theorem dX7_decides_208 : decode cX7_decides 208 = .ok (.iload_n 1, 1) := by decide +kernel
theorem dX7_decides_209 : decode cX7_decides 209 = .ok (.invokevirtual 157, 3) := by decide +kernel
theorem dX7_decides_212 : decode cX7_decides 212 = .ok (.ifCond .ne 8, 3) := by decide +kernel
theorem dX7_decides_215 : decode cX7_decides 215 = .ok (.aload_n 0, 1) := by decide +kernel
theorem dX7_decides_216 : decode cX7_decides 216 = .ok (.iload_n 1, 1) := by decide +kernel
theorem dX7_decides_217 : decode cX7_decides 217 = .ok (.invokevirtual 180, 3) := by decide +kernel
theorem dX7_decides_220 : decode cX7_decides 220 = .ok (.aload_n 0, 1) := by decide +kernel
theorem dX7_decides_221 : decode cX7_decides 221 = .ok (.iload_n 1, 1) := by decide +kernel
theorem dX7_decides_222 : decode cX7_decides 222 = .ok (.iload_n 2, 1) := by decide +kernel
theorem dX7_decides_223 : decode cX7_decides 223 = .ok (.invokevirtual 183, 3) := by decide +kernel
theorem dX7_decides_226 : decode cX7_decides 226 = .ok (.ifCond .eq 5, 3) := by decide +kernel
theorem dX7_decides_229 : decode cX7_decides 229 = .ok (.iconst 0, 1) := by decide +kernel
theorem dX7_decides_230 : decode cX7_decides 230 = .ok (.istore_n 2, 1) := by decide +kernel
theorem dX7_decides_231 : decode cX7_decides 231 = .ok (.aload_n 0, 1) := by decide +kernel
theorem dX7_decides_232 : decode cX7_decides 232 = .ok (.iload_n 1, 1) := by decide +kernel
theorem dX7_decides_233 : decode cX7_decides 233 = .ok (.bipush 11, 2) := by decide +kernel
theorem dX7_decides_235 : decode cX7_decides 235 = .ok (.invokevirtual 68, 3) := by decide +kernel
theorem dX7_decides_238 : decode cX7_decides 238 = .ok (.iconst 1, 1) := by decide +kernel
theorem dX7_decides_239 : decode cX7_decides 239 = .ok (.if_icmp .ne 29, 3) := by decide +kernel
theorem dX7_decides_242 : decode cX7_decides 242 = .ok (.aload_n 0, 1) := by decide +kernel
theorem dX7_decides_243 : decode cX7_decides 243 = .ok (.iload_n 1, 1) := by decide +kernel
theorem dX7_decides_244 : decode cX7_decides 244 = .ok (.iconst 3, 1) := by decide +kernel
theorem dX7_decides_245 : decode cX7_decides 245 = .ok (.invokevirtual 68, 3) := by decide +kernel
theorem dX7_decides_248 : decode cX7_decides 248 = .ok (.iconst 4, 1) := by decide +kernel
theorem dX7_decides_249 : decode cX7_decides 249 = .ok (.if_icmp .le 19, 3) := by decide +kernel
theorem dX7_decides_252 : decode cX7_decides 252 = .ok (.aload_n 0, 1) := by decide +kernel
theorem dX7_decides_253 : decode cX7_decides 253 = .ok (.iload_n 1, 1) := by decide +kernel
theorem dX7_decides_254 : decode cX7_decides 254 = .ok (.iconst 4, 1) := by decide +kernel
theorem dX7_decides_255 : decode cX7_decides 255 = .ok (.invokevirtual 154, 3) := by decide +kernel
theorem dX7_decides_258 : decode cX7_decides 258 = .ok (.ifCond .ne 10, 3) := by decide +kernel
theorem dX7_decides_261 : decode cX7_decides 261 = .ok (.aload_n 0, 1) := by decide +kernel
theorem dX7_decides_262 : decode cX7_decides 262 = .ok (.iload_n 1, 1) := by decide +kernel
theorem dX7_decides_263 : decode cX7_decides 263 = .ok (.iconst 3, 1) := by decide +kernel
theorem dX7_decides_264 : decode cX7_decides 264 = .ok (.iconst 4, 1) := by decide +kernel
theorem dX7_decides_265 : decode cX7_decides 265 = .ok (.invokevirtual 126, 3) := by decide +kernel
theorem dX7_decides_268 : decode cX7_decides 268 = .ok (.iload_n 2, 1) := by decide +kernel
theorem dX7_decides_269 : decode cX7_decides 269 = .ok (.ifCond .ne 10, 3) := by decide +kernel
theorem dX7_decides_272 : decode cX7_decides 272 = .ok (.aload_n 0, 1) := by decide +kernel
theorem dX7_decides_273 : decode cX7_decides 273 = .ok (.iload_n 1, 1) := by decide +kernel
theorem dX7_decides_274 : decode cX7_decides 274 = .ok (.iload 4, 2) := by decide +kernel
theorem dX7_decides_276 : decode cX7_decides 276 = .ok (.invokevirtual 187, 3) := by decide +kernel
theorem dX7_decides_279 : decode cX7_decides 279 = .ok (.iload_n 2, 1) := by decide +kernel
theorem dX7_decides_280 : decode cX7_decides 280 = .ok (.ireturn, 1) := by decide +kernel
set_option maxRecDepth 20000 in
theorem ggX7_updates_X7_decides : GoodIn wsX7_updates wsX7_decides := goodIn_ca (goodIn_r _ [5, 6, 7, 8, 9, 4, 10, 11, 12, 13, 14, 15, 16, 17, 18, 19, 20, 21, 22, 23, 24, 25, 26, 27, 28, 29, 30, 31, 32, 33, 34, 35, 36, 37, 38, 39, 40, 41, 42, 43, 44, 45, 46, 47, 48, 49, 50, 51, 52, 53, 54, 55, 56, 57, 58, 59, 60, 61, 62, 63, 64, 65, 66, 67, 68, 69, 70, 71, 72, 73, 74, 75, 76, 77, 78, 79, 80, 81, 82, 83, 84, 85, 86, 87, 88, 89, 90, 91, 92, 93, 94, 95, 96, 97, 98, 99, 100, 101, 102, 103, 104, 105, 106, 107, 108, 109, 110, 111, 112, 113, 114, 115, 116, 117, 118, 119, 120, 121, 122, 123, 124, 125, 126, 127, 128, 129, 130, 131, 132, 133, 134, 135, 136, 137, 174, 175, 176, 177, 178, 179, 180, 181, 182, 183, 184, 185, 186, 187, 188, 189, 190] (by decide +kernel) (by decide +kernel)) (goodIn_sub (fun _ h => List.mem_cons_of_mem _ (List.mem_append_right _ h)) (by decide +kernel))
set_option maxRecDepth 20000 in
theorem gX7_updates_X7_decides : GoodIn wsX7_updates (wsV RX7 190 RX7 yX7_decides wsX7_decides) := goodIn_app (goodIn_of _ (by decide +kernel)) ggX7_updates_X7_decides
set_option maxRecDepth 20000 in
theorem ggX7_updates_X7_of : GoodIn wsX7_updates wsX7_of := goodIn_ca (goodIn_r _ [14, 15, 174, 175, 176, 177, 178, 179, 180, 181, 182, 183, 184, 185, 186, 187, 188, 189, 190] (by decide +kernel) (by decide +kernel)) (goodIn_sub (fun _ h => List.mem_cons_of_mem _ (List.mem_append_right _ h)) (by decide +kernel))
set_option maxRecDepth 20000 in
theorem gX7_updates_X7_of : GoodIn wsX7_updates (wsV RX7 68 RX7 yX7_of wsX7_of) := goodIn_app (goodIn_of _ (by decide +kernel)) ggX7_updates_X7_of
set_option maxRecDepth 20000 in
theorem ggX7_updates_X7_firmBelow : GoodIn wsX7_updates wsX7_firmBelow := goodIn_ca (goodIn_r _ [31, 32, 33, 34, 4, 35, 36, 37, 38, 39, 11, 12, 13, 14, 15, 40, 41, 42, 43, 44, 45, 46, 47, 48, 49, 50, 51, 52, 53, 54, 55, 56, 57, 58, 59, 60, 61, 62, 63, 64, 65, 66, 174, 175, 176, 177, 178, 179, 180, 181, 182, 183, 184, 185, 186, 187, 188, 189, 190] (by decide +kernel) (by decide +kernel)) (goodIn_sub (fun _ h => List.mem_cons_of_mem _ (List.mem_append_right _ h)) (by decide +kernel))
set_option maxRecDepth 20000 in
theorem gX7_updates_X7_firmBelow : GoodIn wsX7_updates (wsV RX7 101 RX7 yX7_firmBelow wsX7_firmBelow) := goodIn_app (goodIn_of _ (by decide +kernel)) ggX7_updates_X7_firmBelow
set_option maxRecDepth 20000 in
theorem ggX7_updates_X7_stepsAcross : GoodIn wsX7_updates wsX7_stepsAcross := goodIn_ca (goodIn_r _ [141, 142, 143, 144, 4, 145, 11, 12, 13, 14, 15, 36, 37, 38, 39, 40, 41, 42, 43, 44, 45, 46, 47, 48, 49, 50, 51, 52, 53, 54, 55, 56, 57, 71, 72, 73, 74, 130, 131, 132, 133, 32, 33, 34, 35, 58, 59, 60, 61, 62, 63, 64, 65, 66, 16, 17, 18, 19, 20, 21, 22, 23, 24, 25, 26, 27, 28, 29, 30, 31, 67, 68, 69, 70, 75, 76, 77, 78, 79, 80, 81, 82, 83, 84, 85, 86, 87, 88, 89, 90, 91, 92, 93, 102, 103, 104, 105, 94, 95, 96, 97, 174, 175, 176, 177, 178, 179, 180, 181, 182, 183, 184, 185, 186, 187, 188, 189, 190] (by decide +kernel) (by decide +kernel)) (goodIn_sub (fun _ h => List.mem_cons_of_mem _ (List.mem_append_right _ h)) (by decide +kernel))
set_option maxRecDepth 20000 in
theorem gX7_updates_X7_stepsAcross : GoodIn wsX7_updates (wsV RX7 160 RX7 yX7_stepsAcross wsX7_stepsAcross) := goodIn_app (goodIn_of _ (by decide +kernel)) ggX7_updates_X7_stepsAcross
set_option maxRecDepth 20000 in
theorem ggX7_updates_X7_goesAcross : GoodIn wsX7_updates wsX7_goesAcross := goodIn_ca (goodIn_r _ [149, 11, 12, 13, 4, 14, 15, 138, 139, 140, 141, 142, 143, 144, 145, 36, 37, 38, 39, 40, 41, 42, 43, 44, 45, 46, 47, 48, 49, 50, 51, 52, 53, 54, 55, 56, 57, 71, 72, 73, 74, 130, 131, 132, 133, 32, 33, 34, 35, 58, 59, 60, 61, 62, 63, 64, 65, 66, 16, 17, 18, 19, 20, 21, 22, 23, 24, 25, 26, 27, 28, 29, 30, 31, 67, 68, 69, 70, 75, 76, 77, 78, 79, 80, 81, 82, 83, 84, 85, 86, 87, 88, 89, 90, 91, 92, 93, 102, 103, 104, 105, 94, 95, 96, 97, 174, 175, 176, 177, 178, 179, 180, 181, 182, 183, 184, 185, 186, 187, 188, 189, 190] (by decide +kernel) (by decide +kernel)) (goodIn_sub (fun _ h => List.mem_cons_of_mem _ (List.mem_append_right _ h)) (by decide +kernel))
set_option maxRecDepth 20000 in
theorem gX7_updates_X7_goesAcross : GoodIn wsX7_updates (wsV RX7 193 RX7 yX7_goesAcross wsX7_goesAcross) := goodIn_app (goodIn_of _ (by decide +kernel)) ggX7_updates_X7_goesAcross
set_option maxRecDepth 20000 in
theorem ggX7_updates_X7_goesUp : GoodIn wsX7_updates wsX7_goesUp := goodIn_ca (goodIn_r _ [153, 11, 12, 13, 4, 14, 15, 154, 155, 156, 157, 130, 131, 132, 133, 32, 33, 34, 35, 36, 37, 38, 39, 40, 41, 42, 43, 44, 45, 46, 47, 48, 49, 50, 51, 52, 53, 54, 55, 56, 57, 58, 59, 60, 61, 62, 63, 64, 65, 66, 94, 95, 96, 97, 102, 103, 104, 105, 174, 175, 176, 177, 178, 179, 180, 181, 182, 183, 184, 185, 186, 187, 188, 189, 190] (by decide +kernel) (by decide +kernel)) (goodIn_sub (fun _ h => List.mem_cons_of_mem _ (List.mem_append_right _ h)) (by decide +kernel))
set_option maxRecDepth 20000 in
theorem gX7_updates_X7_goesUp : GoodIn wsX7_updates (wsV RX7 196 RX7 yX7_goesUp wsX7_goesUp) := goodIn_app (goodIn_of _ (by decide +kernel)) ggX7_updates_X7_goesUp
set_option maxRecDepth 20000 in
theorem ggX7_updates_X7_goesDown : GoodIn wsX7_updates wsX7_goesDown := goodIn_ca (goodIn_r _ [161, 11, 12, 13, 4, 14, 15, 162, 163, 164, 165, 16, 17, 18, 19, 20, 21, 22, 23, 24, 25, 26, 27, 28, 29, 30, 31, 32, 33, 34, 35, 36, 37, 38, 39, 40, 41, 42, 43, 44, 45, 46, 47, 48, 49, 50, 51, 52, 53, 54, 55, 56, 57, 58, 59, 60, 61, 62, 63, 64, 65, 66, 67, 68, 69, 70, 71, 72, 73, 74, 75, 76, 77, 78, 79, 80, 81, 82, 83, 84, 85, 86, 87, 88, 89, 90, 91, 92, 93, 94, 95, 96, 97, 102, 103, 104, 105, 174, 175, 176, 177, 178, 179, 180, 181, 182, 183, 184, 185, 186, 187, 188, 189, 190] (by decide +kernel) (by decide +kernel)) (goodIn_sub (fun _ h => List.mem_cons_of_mem _ (List.mem_append_right _ h)) (by decide +kernel))
set_option maxRecDepth 20000 in
theorem gX7_updates_X7_goesDown : GoodIn wsX7_updates (wsV RX7 199 RX7 yX7_goesDown wsX7_goesDown) := goodIn_app (goodIn_of _ (by decide +kernel)) ggX7_updates_X7_goesDown
set_option maxRecDepth 20000 in
theorem ggX7_updates_X7_touches : GoodIn wsX7_updates wsX7_touches := goodIn_ca (goodIn_r _ [169, 15, 11, 12, 13, 4, 14, 44, 45, 46, 47, 48, 49, 50, 51, 52, 53, 54, 94, 95, 96, 97, 174, 175, 176, 177, 178, 179, 180, 181, 182, 183, 184, 185, 186, 187, 188, 189, 190] (by decide +kernel) (by decide +kernel)) (goodIn_sub (fun _ h => List.mem_cons_of_mem _ (List.mem_append_right _ h)) (by decide +kernel))
set_option maxRecDepth 20000 in
theorem gX7_updates_X7_touches : GoodIn wsX7_updates (wsV RX7 202 RX7 yX7_touches wsX7_touches) := goodIn_app (goodIn_of _ (by decide +kernel)) ggX7_updates_X7_touches
set_option maxRecDepth 20000 in
theorem ggX7_updates_X7_dies : GoodIn wsX7_updates wsX7_dies := goodIn_ca (goodIn_r _ [173, 11, 12, 13, 4, 14, 15, 102, 103, 104, 105, 94, 95, 96, 97, 174, 175, 176, 177, 178, 179, 180, 181, 182, 183, 184, 185, 186, 187, 188, 189, 190] (by decide +kernel) (by decide +kernel)) (goodIn_sub (fun _ h => List.mem_cons_of_mem _ (List.mem_append_right _ h)) (by decide +kernel))
set_option maxRecDepth 20000 in
theorem gX7_updates_X7_dies : GoodIn wsX7_updates (wsV RX7 205 RX7 yX7_dies wsX7_dies) := goodIn_app (goodIn_of _ (by decide +kernel)) ggX7_updates_X7_dies
set_option maxRecDepth 20000 in
theorem ggX7_updates_X7_sets : GoodIn wsX7_updates wsX7_sets := goodIn_ca (goodIn_r _ [105, 15, 174, 175, 176, 177, 178, 179, 180, 181, 182, 183, 184, 185, 186, 187, 188, 189, 190] (by decide +kernel) (by decide +kernel)) (goodIn_sub (fun _ h => List.mem_cons_of_mem _ (List.mem_append_right _ h)) (by decide +kernel))
set_option maxRecDepth 20000 in
theorem gX7_updates_X7_sets : GoodIn wsX7_updates (wsV RX7 126 RX7 yX7_sets wsX7_sets) := goodIn_app (goodIn_of _ (by decide +kernel)) ggX7_updates_X7_sets
set_option maxRecDepth 20000 in
theorem ggX7_updates_X7_adds : GoodIn wsX7_updates wsX7_adds := goodIn_ca (goodIn_r _ [97, 15, 174, 175, 176, 177, 178, 179, 180, 181, 182, 183, 184, 185, 186, 187, 188, 189, 190] (by decide +kernel) (by decide +kernel)) (goodIn_sub (fun _ h => List.mem_cons_of_mem _ (List.mem_append_right _ h)) (by decide +kernel))
set_option maxRecDepth 20000 in
theorem gX7_updates_X7_adds : GoodIn wsX7_updates (wsV RX7 130 RX7 yX7_adds wsX7_adds) := goodIn_app (goodIn_of _ (by decide +kernel)) ggX7_updates_X7_adds
theorem dX7_updates_0 : decode cX7_updates 0 = .ok (.aload_n 0, 1) := by decide +kernel
theorem dX7_updates_1 : decode cX7_updates 1 = .ok (.iload_n 1, 1) := by decide +kernel
theorem dX7_updates_2 : decode cX7_updates 2 = .ok (.invokevirtual 190, 3) := by decide +kernel
theorem dX7_updates_5 : decode cX7_updates 5 = .ok (.ifCond .eq 55, 3) := by decide +kernel
theorem dX7_updates_8 : decode cX7_updates 8 = .ok (.aload_n 0, 1) := by decide +kernel
theorem dX7_updates_9 : decode cX7_updates 9 = .ok (.iload_n 1, 1) := by decide +kernel
theorem dX7_updates_10 : decode cX7_updates 10 = .ok (.aload_n 0, 1) := by decide +kernel
theorem dX7_updates_11 : decode cX7_updates 11 = .ok (.iload_n 1, 1) := by decide +kernel
theorem dX7_updates_12 : decode cX7_updates 12 = .ok (.iconst 0, 1) := by decide +kernel
theorem dX7_updates_13 : decode cX7_updates 13 = .ok (.invokevirtual 68, 3) := by decide +kernel
theorem dX7_updates_16 : decode cX7_updates 16 = .ok (.aload_n 0, 1) := by decide +kernel
theorem dX7_updates_17 : decode cX7_updates 17 = .ok (.iload_n 1, 1) := by decide +kernel
theorem dX7_updates_18 : decode cX7_updates 18 = .ok (.iconst 1, 1) := by decide +kernel
theorem dX7_updates_19 : decode cX7_updates 19 = .ok (.invokevirtual 68, 3) := by decide +kernel
theorem dX7_updates_22 : decode cX7_updates 22 = .ok (.invokevirtual 101, 3) := by decide +kernel
theorem dX7_updates_25 : decode cX7_updates 25 = .ok (.istore_n 2, 1) := by decide +kernel
theorem dX7_updates_26 : decode cX7_updates 26 = .ok (.iload_n 2, 1) := by decide +kernel
theorem dX7_updates_27 : decode cX7_updates 27 = .ok (.bipush 6, 2) := by decide +kernel
theorem dX7_updates_29 : decode cX7_updates 29 = .ok (.ishr, 1) := by decide +kernel
theorem dX7_updates_30 : decode cX7_updates 30 = .ok (.iconst 1, 1) := by decide +kernel
theorem dX7_updates_31 : decode cX7_updates 31 = .ok (.iand, 1) := by decide +kernel
theorem dX7_updates_32 : decode cX7_updates 32 = .ok (.iconst 1, 1) := by decide +kernel
theorem dX7_updates_33 : decode cX7_updates 33 = .ok (.if_icmp .ne 10, 3) := by decide +kernel
theorem dX7_updates_36 : decode cX7_updates 36 = .ok (.aload_n 0, 1) := by decide +kernel
theorem dX7_updates_37 : decode cX7_updates 37 = .ok (.iload_n 1, 1) := by decide +kernel
theorem dX7_updates_38 : decode cX7_updates 38 = .ok (.iconst 1, 1) := by decide +kernel
theorem dX7_updates_39 : decode cX7_updates 39 = .ok (.invokevirtual 160, 3) := by decide +kernel
theorem dX7_updates_42 : decode cX7_updates 42 = .ok (.pop, 1) := by decide +kernel
theorem dX7_updates_43 : decode cX7_updates 43 = .ok (.iload_n 2, 1) := by decide +kernel
theorem dX7_updates_44 : decode cX7_updates 44 = .ok (.bipush 7, 2) := by decide +kernel
theorem dX7_updates_46 : decode cX7_updates 46 = .ok (.ishr, 1) := by decide +kernel
theorem dX7_updates_47 : decode cX7_updates 47 = .ok (.iconst 1, 1) := by decide +kernel
theorem dX7_updates_48 : decode cX7_updates 48 = .ok (.iand, 1) := by decide +kernel
theorem dX7_updates_49 : decode cX7_updates 49 = .ok (.iconst 1, 1) := by decide +kernel
theorem dX7_updates_50 : decode cX7_updates 50 = .ok (.if_icmp .ne 10, 3) := by decide +kernel
theorem dX7_updates_53 : decode cX7_updates 53 = .ok (.aload_n 0, 1) := by decide +kernel
theorem dX7_updates_54 : decode cX7_updates 54 = .ok (.iload_n 1, 1) := by decide +kernel
theorem dX7_updates_55 : decode cX7_updates 55 = .ok (.iconst (-1), 1) := by decide +kernel
theorem dX7_updates_56 : decode cX7_updates 56 = .ok (.invokevirtual 160, 3) := by decide +kernel
theorem dX7_updates_59 : decode cX7_updates 59 = .ok (.pop, 1) := by decide +kernel
theorem dX7_updates_60 : decode cX7_updates 60 = .ok (.aload_n 0, 1) := by decide +kernel
theorem dX7_updates_61 : decode cX7_updates 61 = .ok (.iload_n 1, 1) := by decide +kernel
theorem dX7_updates_62 : decode cX7_updates 62 = .ok (.invokevirtual 193, 3) := by decide +kernel
theorem dX7_updates_65 : decode cX7_updates 65 = .ok (.aload_n 0, 1) := by decide +kernel
theorem dX7_updates_66 : decode cX7_updates 66 = .ok (.iload_n 1, 1) := by decide +kernel
theorem dX7_updates_67 : decode cX7_updates 67 = .ok (.iconst 3, 1) := by decide +kernel
theorem dX7_updates_68 : decode cX7_updates 68 = .ok (.invokevirtual 68, 3) := by decide +kernel
theorem dX7_updates_71 : decode cX7_updates 71 = .ok (.ifCond .le 11, 3) := by decide +kernel
theorem dX7_updates_74 : decode cX7_updates 74 = .ok (.aload_n 0, 1) := by decide +kernel
theorem dX7_updates_75 : decode cX7_updates 75 = .ok (.iload_n 1, 1) := by decide +kernel
theorem dX7_updates_76 : decode cX7_updates 76 = .ok (.invokevirtual 196, 3) := by decide +kernel
theorem dX7_updates_79 : decode cX7_updates 79 = .ok (.goto 8, 3) := by decide +kernel
theorem dX7_updates_82 : decode cX7_updates 82 = .ok (.aload_n 0, 1) := by decide +kernel
theorem dX7_updates_83 : decode cX7_updates 83 = .ok (.iload_n 1, 1) := by decide +kernel
theorem dX7_updates_84 : decode cX7_updates 84 = .ok (.invokevirtual 199, 3) := by decide +kernel
theorem dX7_updates_87 : decode cX7_updates 87 = .ok (.aload_n 0, 1) := by decide +kernel
theorem dX7_updates_88 : decode cX7_updates 88 = .ok (.iload_n 1, 1) := by decide +kernel
theorem dX7_updates_89 : decode cX7_updates 89 = .ok (.invokevirtual 202, 3) := by decide +kernel
theorem dX7_updates_92 : decode cX7_updates 92 = .ok (.ifCond .ne 14, 3) := by decide +kernel
theorem dX7_updates_95 : decode cX7_updates 95 = .ok (.aload_n 0, 1) := by decide +kernel
theorem dX7_updates_96 : decode cX7_updates 96 = .ok (.iload_n 1, 1) := by decide +kernel
theorem dX7_updates_97 : decode cX7_updates 97 = .ok (.iconst 1, 1) := by decide +kernel
theorem dX7_updates_98 : decode cX7_updates 98 = .ok (.invokevirtual 68, 3) := by decide +kernel
theorem dX7_updates_101 : decode cX7_updates 101 = .ok (.bipush (-40), 2) := by decide +kernel
theorem dX7_updates_103 : decode cX7_updates 103 = .ok (.if_icmp .ge 8, 3) := by decide +kernel
theorem dX7_updates_106 : decode cX7_updates 106 = .ok (.aload_n 0, 1) := by decide +kernel
theorem dX7_updates_107 : decode cX7_updates 107 = .ok (.iload_n 1, 1) := by decide +kernel
theorem dX7_updates_108 : decode cX7_updates 108 = .ok (.invokevirtual 205, 3) := by decide +kernel
theorem dX7_updates_111 : decode cX7_updates 111 = .ok (.aload_n 0, 1) := by decide +kernel
theorem dX7_updates_112 : decode cX7_updates 112 = .ok (.iload_n 1, 1) := by decide +kernel
theorem dX7_updates_113 : decode cX7_updates 113 = .ok (.iconst 3, 1) := by decide +kernel
theorem dX7_updates_114 : decode cX7_updates 114 = .ok (.invokevirtual 68, 3) := by decide +kernel
theorem dX7_updates_117 : decode cX7_updates 117 = .ok (.ifCond .gt 11, 3) := by decide +kernel
theorem dX7_updates_120 : decode cX7_updates 120 = .ok (.aload_n 0, 1) := by decide +kernel
theorem dX7_updates_121 : decode cX7_updates 121 = .ok (.iload_n 1, 1) := by decide +kernel
theorem dX7_updates_122 : decode cX7_updates 122 = .ok (.bipush 11, 2) := by decide +kernel
theorem dX7_updates_124 : decode cX7_updates 124 = .ok (.iconst 0, 1) := by decide +kernel
theorem dX7_updates_125 : decode cX7_updates 125 = .ok (.invokevirtual 126, 3) := by decide +kernel
theorem dX7_updates_128 : decode cX7_updates 128 = .ok (.aload_n 0, 1) := by decide +kernel
theorem dX7_updates_129 : decode cX7_updates 129 = .ok (.iload_n 1, 1) := by decide +kernel
theorem dX7_updates_130 : decode cX7_updates 130 = .ok (.bipush 10, 2) := by decide +kernel
theorem dX7_updates_132 : decode cX7_updates 132 = .ok (.aload_n 0, 1) := by decide +kernel
theorem dX7_updates_133 : decode cX7_updates 133 = .ok (.iload_n 1, 1) := by decide +kernel
theorem dX7_updates_134 : decode cX7_updates 134 = .ok (.bipush 9, 2) := by decide +kernel
theorem dX7_updates_136 : decode cX7_updates 136 = .ok (.invokevirtual 68, 3) := by decide +kernel
theorem dX7_updates_139 : decode cX7_updates 139 = .ok (.invokevirtual 126, 3) := by decide +kernel
theorem dX7_updates_142 : decode cX7_updates 142 = .ok (.aload_n 0, 1) := by decide +kernel
theorem dX7_updates_143 : decode cX7_updates 143 = .ok (.iload_n 1, 1) := by decide +kernel
theorem dX7_updates_144 : decode cX7_updates 144 = .ok (.bipush 21, 2) := by decide +kernel
theorem dX7_updates_146 : decode cX7_updates 146 = .ok (.iconst 1, 1) := by decide +kernel
theorem dX7_updates_147 : decode cX7_updates 147 = .ok (.invokevirtual 130, 3) := by decide +kernel
theorem dX7_updates_150 : decode cX7_updates 150 = .ok (.aload_n 0, 1) := by decide +kernel
theorem dX7_updates_151 : decode cX7_updates 151 = .ok (.iload_n 1, 1) := by decide +kernel
theorem dX7_updates_152 : decode cX7_updates 152 = .ok (.bipush 21, 2) := by decide +kernel
theorem dX7_updates_154 : decode cX7_updates 154 = .ok (.invokevirtual 68, 3) := by decide +kernel
theorem dX7_updates_157 : decode cX7_updates 157 = .ok (.iconst 1, 1) := by decide +kernel
theorem dX7_updates_158 : decode cX7_updates 158 = .ok (.if_icmp .eq 19, 3) := by decide +kernel
theorem dX7_updates_161 : decode cX7_updates 161 = .ok (.aload_n 0, 1) := by decide +kernel
theorem dX7_updates_162 : decode cX7_updates 162 = .ok (.iload_n 1, 1) := by decide +kernel
theorem dX7_updates_163 : decode cX7_updates 163 = .ok (.iconst 1, 1) := by decide +kernel
theorem dX7_updates_164 : decode cX7_updates 164 = .ok (.invokevirtual 68, 3) := by decide +kernel
theorem dX7_updates_167 : decode cX7_updates 167 = .ok (.aload_n 0, 1) := by decide +kernel
theorem dX7_updates_168 : decode cX7_updates 168 = .ok (.iload_n 1, 1) := by decide +kernel
theorem dX7_updates_169 : decode cX7_updates 169 = .ok (.bipush 20, 2) := by decide +kernel
theorem dX7_updates_171 : decode cX7_updates 171 = .ok (.invokevirtual 68, 3) := by decide +kernel
theorem dX7_updates_174 : decode cX7_updates 174 = .ok (.if_icmp .le 16, 3) := by decide +kernel
theorem dX7_updates_177 : decode cX7_updates 177 = .ok (.aload_n 0, 1) := by decide +kernel
theorem dX7_updates_178 : decode cX7_updates 178 = .ok (.iload_n 1, 1) := by decide +kernel
theorem dX7_updates_179 : decode cX7_updates 179 = .ok (.bipush 20, 2) := by decide +kernel
theorem dX7_updates_181 : decode cX7_updates 181 = .ok (.aload_n 0, 1) := by decide +kernel
theorem dX7_updates_182 : decode cX7_updates 182 = .ok (.iload_n 1, 1) := by decide +kernel
theorem dX7_updates_183 : decode cX7_updates 183 = .ok (.iconst 1, 1) := by decide +kernel
theorem dX7_updates_184 : decode cX7_updates 184 = .ok (.invokevirtual 68, 3) := by decide +kernel
theorem dX7_updates_187 : decode cX7_updates 187 = .ok (.invokevirtual 126, 3) := by decide +kernel
theorem dX7_updates_190 : decode cX7_updates 190 = .ok (.return_, 1) := by decide +kernel
theorem dX7_copies_0 : decode cX7_copies 0 = .ok (.iconst 0, 1) := by decide +kernel
theorem dX7_copies_1 : decode cX7_copies 1 = .ok (.istore 4, 2) := by decide +kernel
theorem dX7_copies_3 : decode cX7_copies 3 = .ok (.iload 4, 2) := by decide +kernel
theorem dX7_copies_5 : decode cX7_copies 5 = .ok (.sipush 480, 3) := by decide +kernel
theorem dX7_copies_8 : decode cX7_copies 8 = .ok (.if_icmp .ge 21, 3) := by decide +kernel
theorem dX7_copies_11 : decode cX7_copies 11 = .ok (.aload_n 2, 1) := by decide +kernel
theorem dX7_copies_12 : decode cX7_copies 12 = .ok (.iload_n 3, 1) := by decide +kernel
theorem dX7_copies_13 : decode cX7_copies 13 = .ok (.iload 4, 2) := by decide +kernel
theorem dX7_copies_15 : decode cX7_copies 15 = .ok (.iadd, 1) := by decide +kernel
theorem dX7_copies_16 : decode cX7_copies 16 = .ok (.aload_n 0, 1) := by decide +kernel
theorem dX7_copies_17 : decode cX7_copies 17 = .ok (.iload_n 1, 1) := by decide +kernel
theorem dX7_copies_18 : decode cX7_copies 18 = .ok (.iload 4, 2) := by decide +kernel
theorem dX7_copies_20 : decode cX7_copies 20 = .ok (.iadd, 1) := by decide +kernel
theorem dX7_copies_21 : decode cX7_copies 21 = .ok (.iaload, 1) := by decide +kernel
theorem dX7_copies_22 : decode cX7_copies 22 = .ok (.iastore, 1) := by decide +kernel
theorem dX7_copies_23 : decode cX7_copies 23 = .ok (.iinc 4 1, 3) := by decide +kernel
theorem dX7_copies_26 : decode cX7_copies 26 = .ok (.goto (-23), 3) := by decide +kernel
theorem dX7_copies_29 : decode cX7_copies 29 = .ok (.return_, 1) := by decide +kernel
set_option maxRecDepth 20000 in
theorem ggX7_ticks_X7_copies : GoodIn wsX7_ticks wsX7_copies := goodIn_ca (goodIn_r _ [7] (by decide +kernel) (by decide +kernel)) (goodIn_sub (fun _ h => List.mem_cons_of_mem _ (List.mem_append_right _ h)) (by decide +kernel))
set_option maxRecDepth 20000 in
theorem gX7_ticks_X7_copies : GoodIn wsX7_ticks (va_wsS RX7 211 yX7_copies wsX7_copies) := goodIn_app (goodIn_of _ (by decide +kernel)) ggX7_ticks_X7_copies
set_option maxRecDepth 20000 in
theorem ggX7_ticks_X7_goesTick : GoodIn wsX7_ticks wsX7_goesTick := goodIn_ca (goodIn_r _ [11, 3, 12, 13, 14, 15, 6, 16, 17, 18, 19, 20, 21, 22, 23, 24, 25, 26, 27, 28, 29, 30, 31, 32, 33, 34, 35, 36, 37, 38, 39, 40, 41, 42, 43, 44, 45, 46, 47, 48, 49, 50, 51, 52, 53, 54, 55, 56, 57, 58, 59, 60, 61, 62, 63, 64, 65, 66, 67, 68, 69, 70, 71, 72, 73, 74, 75, 76, 77, 78, 79, 80, 81, 82, 83, 84, 85, 86, 87, 88, 89, 90, 91, 92, 93, 94, 95, 96, 97, 98, 99, 100, 101, 102, 103, 104, 105, 106, 107, 108, 109, 110, 111, 112, 113, 114, 115, 116, 117, 118, 119, 120, 121, 122, 123, 124, 125, 126, 127, 128, 129, 130, 131, 132, 133, 134, 135, 136, 137, 138, 139, 140, 141, 142, 143, 144, 145, 146, 147, 148, 149, 150, 151, 152, 153, 154, 155, 156, 157, 158, 159, 160, 161, 162, 163, 164, 165, 166, 167, 168, 169, 170, 171, 172, 173, 174, 175, 176, 177, 178, 179, 180, 181, 182, 183, 184, 185, 186, 187, 188, 189, 190, 191, 192, 193, 194, 195, 196, 197, 198, 199, 200, 201, 202, 203, 204, 205, 206, 207, 208, 209, 210, 211, 212, 213, 214, 215, 216] (by decide +kernel) (by decide +kernel)) (goodIn_sub (fun _ h => List.mem_cons_of_mem _ (List.mem_append_right _ h)) (by decide +kernel))
set_option maxRecDepth 20000 in
theorem gX7_ticks_X7_goesTick : GoodIn wsX7_ticks (wsV RX7 215 RX7 yX7_goesTick wsX7_goesTick) := goodIn_app (goodIn_of _ (by decide +kernel)) ggX7_ticks_X7_goesTick
theorem dX7_ticks_0 : decode cX7_ticks 0 = .ok (.iconst 0, 1) := by decide +kernel
theorem dX7_ticks_1 : decode cX7_ticks 1 = .ok (.istore_n 2, 1) := by decide +kernel
theorem dX7_ticks_2 : decode cX7_ticks 2 = .ok (.iload_n 2, 1) := by decide +kernel
theorem dX7_ticks_3 : decode cX7_ticks 3 = .ok (.iload_n 1, 1) := by decide +kernel
theorem dX7_ticks_4 : decode cX7_ticks 4 = .ok (.if_icmp .ge 93, 3) := by decide +kernel
theorem dX7_ticks_7 : decode cX7_ticks 7 = .ok (.aload_n 0, 1) := by decide +kernel
theorem dX7_ticks_8 : decode cX7_ticks 8 = .ok (.getfield 208, 3) := by decide +kernel
theorem dX7_ticks_11 : decode cX7_ticks 11 = .ok (.bipush 12, 2) := by decide +kernel
theorem dX7_ticks_13 : decode cX7_ticks 13 = .ok (.if_icmp .ne 44, 3) := by decide +kernel
theorem dX7_ticks_16 : decode cX7_ticks 16 = .ok (.iconst 0, 1) := by decide +kernel
theorem dX7_ticks_17 : decode cX7_ticks 17 = .ok (.istore_n 3, 1) := by decide +kernel
theorem dX7_ticks_18 : decode cX7_ticks 18 = .ok (.iload_n 3, 1) := by decide +kernel
theorem dX7_ticks_19 : decode cX7_ticks 19 = .ok (.sipush 5280, 3) := by decide +kernel
theorem dX7_ticks_22 : decode cX7_ticks 22 = .ok (.if_icmp .ge 25, 3) := by decide +kernel
theorem dX7_ticks_25 : decode cX7_ticks 25 = .ok (.aload_n 0, 1) := by decide +kernel
theorem dX7_ticks_26 : decode cX7_ticks 26 = .ok (.getfield 19, 3) := by decide +kernel
theorem dX7_ticks_29 : decode cX7_ticks 29 = .ok (.iload_n 3, 1) := by decide +kernel
theorem dX7_ticks_30 : decode cX7_ticks 30 = .ok (.aload_n 0, 1) := by decide +kernel
theorem dX7_ticks_31 : decode cX7_ticks 31 = .ok (.getfield 19, 3) := by decide +kernel
theorem dX7_ticks_34 : decode cX7_ticks 34 = .ok (.iload_n 3, 1) := by decide +kernel
theorem dX7_ticks_35 : decode cX7_ticks 35 = .ok (.sipush 480, 3) := by decide +kernel
theorem dX7_ticks_38 : decode cX7_ticks 38 = .ok (.iadd, 1) := by decide +kernel
theorem dX7_ticks_39 : decode cX7_ticks 39 = .ok (.iaload, 1) := by decide +kernel
theorem dX7_ticks_40 : decode cX7_ticks 40 = .ok (.iastore, 1) := by decide +kernel
theorem dX7_ticks_41 : decode cX7_ticks 41 = .ok (.iinc 3 1, 3) := by decide +kernel
theorem dX7_ticks_44 : decode cX7_ticks 44 = .ok (.goto (-26), 3) := by decide +kernel
theorem dX7_ticks_47 : decode cX7_ticks 47 = .ok (.aload_n 0, 1) := by decide +kernel
theorem dX7_ticks_48 : decode cX7_ticks 48 = .ok (.dup, 1) := by decide +kernel
theorem dX7_ticks_49 : decode cX7_ticks 49 = .ok (.getfield 208, 3) := by decide +kernel
theorem dX7_ticks_52 : decode cX7_ticks 52 = .ok (.iconst 1, 1) := by decide +kernel
theorem dX7_ticks_53 : decode cX7_ticks 53 = .ok (.isub, 1) := by decide +kernel
theorem dX7_ticks_54 : decode cX7_ticks 54 = .ok (.putfield 208, 3) := by decide +kernel
theorem dX7_ticks_57 : decode cX7_ticks 57 = .ok (.aload_n 0, 1) := by decide +kernel
theorem dX7_ticks_58 : decode cX7_ticks 58 = .ok (.getfield 7, 3) := by decide +kernel
theorem dX7_ticks_61 : decode cX7_ticks 61 = .ok (.iconst 0, 1) := by decide +kernel
theorem dX7_ticks_62 : decode cX7_ticks 62 = .ok (.aload_n 0, 1) := by decide +kernel
theorem dX7_ticks_63 : decode cX7_ticks 63 = .ok (.getfield 19, 3) := by decide +kernel
theorem dX7_ticks_66 : decode cX7_ticks 66 = .ok (.sipush 480, 3) := by decide +kernel
theorem dX7_ticks_69 : decode cX7_ticks 69 = .ok (.aload_n 0, 1) := by decide +kernel
theorem dX7_ticks_70 : decode cX7_ticks 70 = .ok (.getfield 208, 3) := by decide +kernel
theorem dX7_ticks_73 : decode cX7_ticks 73 = .ok (.imul, 1) := by decide +kernel
theorem dX7_ticks_74 : decode cX7_ticks 74 = .ok (.invokestatic 211, 3) := by decide +kernel
theorem dX7_ticks_77 : decode cX7_ticks 77 = .ok (.aload_n 0, 1) := by decide +kernel
theorem dX7_ticks_78 : decode cX7_ticks 78 = .ok (.dup, 1) := by decide +kernel
theorem dX7_ticks_79 : decode cX7_ticks 79 = .ok (.getfield 208, 3) := by decide +kernel
theorem dX7_ticks_82 : decode cX7_ticks 82 = .ok (.iconst 1, 1) := by decide +kernel
theorem dX7_ticks_83 : decode cX7_ticks 83 = .ok (.iadd, 1) := by decide +kernel
theorem dX7_ticks_84 : decode cX7_ticks 84 = .ok (.putfield 208, 3) := by decide +kernel
theorem dX7_ticks_87 : decode cX7_ticks 87 = .ok (.aload_n 0, 1) := by decide +kernel
theorem dX7_ticks_88 : decode cX7_ticks 88 = .ok (.invokevirtual 215, 3) := by decide +kernel
theorem dX7_ticks_91 : decode cX7_ticks 91 = .ok (.iinc 2 1, 3) := by decide +kernel
theorem dX7_ticks_94 : decode cX7_ticks 94 = .ok (.goto (-92), 3) := by decide +kernel
theorem dX7_ticks_97 : decode cX7_ticks 97 = .ok (.return_, 1) := by decide +kernel
set_option maxRecDepth 20000 in
theorem ggX7_tick_X7_isBetween : GoodIn wsX7_tick wsX7_isBetween := goodIn_r _ [6] (by decide +kernel) (by decide +kernel)
set_option maxRecDepth 20000 in
theorem gX7_tick_X7_isBetween : GoodIn wsX7_tick (va_wsS RX7 61 yX7_isBetween wsX7_isBetween) := goodIn_app (goodIn_of _ (by decide +kernel)) ggX7_tick_X7_isBetween
set_option maxRecDepth 20000 in
theorem ggX7_tick_X7_fails : GoodIn wsX7_tick wsX7_fails := goodIn_r _ [10, 1, 209, 210, 211, 212, 213, 214, 215, 216, 217, 218, 219, 220, 221, 222, 223, 224, 225] (by decide +kernel) (by decide +kernel)
set_option maxRecDepth 20000 in
theorem gX7_tick_X7_fails : GoodIn wsX7_tick (wsV RX7 218 RX7 yX7_fails wsX7_fails) := goodIn_app (goodIn_of _ (by decide +kernel)) ggX7_tick_X7_fails
set_option maxRecDepth 20000 in
theorem ggX7_tick_X7_ticks : GoodIn wsX7_tick wsX7_ticks := goodIn_ca (goodIn_r _ [14, 15, 16, 2, 17, 18, 5, 19, 20, 21, 22, 23, 24, 25, 26, 27, 28, 29, 30, 31, 32, 33, 34, 35, 36, 37, 38, 39, 40, 41, 42, 43, 44, 45, 46, 47, 48, 49, 50, 51, 52, 53, 54, 55, 56, 57, 58, 59, 60, 61, 62, 63, 64, 65, 66, 67, 68, 69, 70, 71, 72, 73, 74, 75, 76, 77, 78, 79, 80, 81, 82, 83, 84, 85, 86, 87, 88, 89, 3, 4, 6, 90, 91, 92, 93, 94, 95, 96, 97, 98, 99, 100, 101, 102, 103, 104, 105, 106, 107, 108, 109, 110, 111, 112, 113, 114, 115, 116, 117, 118, 119, 120, 121, 122, 123, 124, 125, 126, 127, 128, 129, 130, 131, 132, 133, 134, 135, 136, 137, 138, 139, 140, 141, 142, 143, 144, 145, 146, 147, 148, 149, 150, 151, 152, 153, 154, 155, 156, 157, 158, 159, 160, 161, 162, 163, 164, 165, 166, 167, 168, 169, 170, 171, 172, 173, 174, 175, 176, 177, 178, 179, 180, 181, 182, 183, 184, 185, 186, 187, 188, 189, 190, 191, 192, 193, 194, 195, 196, 197, 198, 199, 200, 201, 202, 203, 204, 205, 206, 207, 208, 209, 210, 211, 212, 213, 214, 215, 216, 217, 218, 219, 220, 221, 222, 223, 224, 225] (by decide +kernel) (by decide +kernel)) (goodIn_sub (fun _ h => List.mem_cons_of_mem _ (List.mem_append_right _ h)) (by decide +kernel))
set_option maxRecDepth 20000 in
theorem gX7_tick_X7_ticks : GoodIn wsX7_tick (wsV RX7 221 RX7 yX7_ticks wsX7_ticks) := goodIn_app (goodIn_of _ (by decide +kernel)) ggX7_tick_X7_ticks
theorem dX7_tick_0 : decode cX7_tick 0 = .ok (.iload_n 1, 1) := by decide +kernel
theorem dX7_tick_1 : decode cX7_tick 1 = .ok (.iconst 1, 1) := by decide +kernel
theorem dX7_tick_2 : decode cX7_tick 2 = .ok (.bipush 100, 2) := by decide +kernel
theorem dX7_tick_4 : decode cX7_tick 4 = .ok (.invokestatic 61, 3) := by decide +kernel
theorem dX7_tick_7 : decode cX7_tick 7 = .ok (.ifCond .ne 9, 3) := by decide +kernel
theorem dX7_tick_10 : decode cX7_tick 10 = .ok (.aload_n 0, 1) := by decide +kernel
theorem dX7_tick_11 : decode cX7_tick 11 = .ok (.iconst 1, 1) := by decide +kernel
theorem dX7_tick_12 : decode cX7_tick 12 = .ok (.invokevirtual 218, 3) := by decide +kernel
theorem dX7_tick_15 : decode cX7_tick 15 = .ok (.ireturn, 1) := by decide +kernel
theorem dX7_tick_16 : decode cX7_tick 16 = .ok (.aload_n 0, 1) := by decide +kernel
theorem dX7_tick_17 : decode cX7_tick 17 = .ok (.iconst 0, 1) := by decide +kernel
theorem dX7_tick_18 : decode cX7_tick 18 = .ok (.putfield 45, 3) := by decide +kernel
theorem dX7_tick_21 : decode cX7_tick 21 = .ok (.aload_n 0, 1) := by decide +kernel
theorem dX7_tick_22 : decode cX7_tick 22 = .ok (.iload_n 1, 1) := by decide +kernel
theorem dX7_tick_23 : decode cX7_tick 23 = .ok (.invokevirtual 221, 3) := by decide +kernel
theorem dX7_tick_26 : decode cX7_tick 26 = .ok (.aload_n 0, 1) := by decide +kernel
theorem dX7_tick_27 : decode cX7_tick 27 = .ok (.getfield 7, 3) := by decide +kernel
theorem dX7_tick_30 : decode cX7_tick 30 = .ok (.sipush 466, 3) := by decide +kernel
theorem dX7_tick_33 : decode cX7_tick 33 = .ok (.iaload, 1) := by decide +kernel
theorem dX7_tick_34 : decode cX7_tick 34 = .ok (.ireturn, 1) := by decide +kernel
set_option maxRecDepth 20000 in
theorem ggX7_tickUntilStanding_X7_isBody : GoodIn wsX7_tickUntilStanding wsX7_isBody := goodIn_ca (goodIn_r _ [6, 7, 213, 214, 215, 216, 217, 218, 219, 220, 221, 222, 223, 224, 225, 226, 227, 228, 229] (by decide +kernel) (by decide +kernel)) (goodIn_sub (fun _ h => List.mem_cons_of_mem _ (List.mem_append_right _ h)) (by decide +kernel))
set_option maxRecDepth 20000 in
theorem gX7_tickUntilStanding_X7_isBody : GoodIn wsX7_tickUntilStanding (wsV RX7 224 RX7 yX7_isBody wsX7_isBody) := goodIn_app (goodIn_of _ (by decide +kernel)) ggX7_tickUntilStanding_X7_isBody
set_option maxRecDepth 20000 in
theorem ggX7_tickUntilStanding_X7_fails : GoodIn wsX7_tickUntilStanding wsX7_fails := goodIn_r _ [11, 1, 213, 214, 215, 216, 217, 218, 219, 220, 221, 222, 223, 224, 225, 226, 227, 228, 229] (by decide +kernel) (by decide +kernel)
set_option maxRecDepth 20000 in
theorem gX7_tickUntilStanding_X7_fails : GoodIn wsX7_tickUntilStanding (wsV RX7 218 RX7 yX7_fails wsX7_fails) := goodIn_app (goodIn_of _ (by decide +kernel)) ggX7_tickUntilStanding_X7_fails
set_option maxRecDepth 20000 in
theorem ggX7_tickUntilStanding_X7_isBetween : GoodIn wsX7_tickUntilStanding wsX7_isBetween := goodIn_r _ [14] (by decide +kernel) (by decide +kernel)
set_option maxRecDepth 20000 in
theorem gX7_tickUntilStanding_X7_isBetween : GoodIn wsX7_tickUntilStanding (va_wsS RX7 61 yX7_isBetween wsX7_isBetween) := goodIn_app (goodIn_of _ (by decide +kernel)) ggX7_tickUntilStanding_X7_isBetween
set_option maxRecDepth 20000 in
theorem ggX7_tickUntilStanding_X7_doesStand : GoodIn wsX7_tickUntilStanding wsX7_doesStand := goodIn_ca (goodIn_r _ [18, 19, 20, 21, 5, 22, 7, 23, 24, 25, 26, 27, 28, 29, 30, 31, 32, 33, 34, 35, 36, 37, 38, 39, 40, 41, 42, 43, 44, 45, 46, 47, 48, 49, 50, 51, 52, 53, 54, 55, 56, 57, 58, 59, 60, 61, 62, 63, 64, 65, 66, 67, 12, 13, 14, 68, 69, 70, 71, 72, 73, 74, 75, 76, 77, 78, 79, 80, 81, 82, 83, 84, 85, 86, 87, 88, 89, 90, 91, 92, 93, 94, 95, 96, 97, 213, 214, 215, 216, 217, 218, 219, 220, 221, 222, 223, 224, 225, 226, 227, 228, 229] (by decide +kernel) (by decide +kernel)) (goodIn_sub (fun _ h => List.mem_cons_of_mem _ (List.mem_append_right _ h)) (by decide +kernel))
set_option maxRecDepth 20000 in
theorem gX7_tickUntilStanding_X7_doesStand : GoodIn wsX7_tickUntilStanding (wsV RX7 166 RX7 yX7_doesStand wsX7_doesStand) := goodIn_app (goodIn_of _ (by decide +kernel)) ggX7_tickUntilStanding_X7_doesStand
set_option maxRecDepth 20000 in
theorem ggX7_tickUntilStanding_X7_ticks : GoodIn wsX7_tickUntilStanding wsX7_ticks := goodIn_ca (goodIn_r _ [101, 102, 103, 7, 104, 105, 5, 106, 107, 108, 109, 110, 111, 19, 20, 21, 22, 86, 87, 88, 89, 90, 91, 92, 93, 94, 95, 96, 97, 112, 113, 114, 115, 116, 117, 118, 119, 120, 121, 122, 123, 43, 44, 45, 46, 47, 48, 49, 50, 51, 52, 53, 54, 55, 56, 57, 58, 59, 60, 61, 62, 63, 64, 75, 76, 77, 78, 124, 125, 126, 127, 39, 40, 41, 42, 65, 66, 67, 12, 13, 14, 68, 69, 70, 23, 24, 25, 26, 27, 28, 29, 30, 31, 32, 33, 34, 35, 36, 37, 38, 71, 72, 73, 74, 79, 80, 81, 82, 83, 84, 85, 128, 129, 130, 131, 132, 133, 134, 135, 136, 137, 138, 139, 140, 141, 142, 143, 144, 145, 146, 147, 148, 149, 150, 151, 152, 15, 16, 17, 18, 153, 154, 155, 156, 157, 158, 159, 160, 161, 162, 163, 164, 165, 166, 167, 168, 169, 170, 171, 172, 173, 174, 175, 176, 177, 178, 179, 180, 181, 182, 183, 184, 185, 186, 187, 188, 189, 190, 191, 192, 193, 194, 195, 196, 197, 198, 199, 200, 201, 202, 203, 204, 205, 206, 207, 208, 209, 210, 211, 212, 213, 214, 215, 216, 217, 218, 219, 220, 221, 222, 223, 224, 225, 226, 227, 228, 229] (by decide +kernel) (by decide +kernel)) (goodIn_sub (fun _ h => List.mem_cons_of_mem _ (List.mem_append_right _ h)) (by decide +kernel))
set_option maxRecDepth 20000 in
theorem gX7_tickUntilStanding_X7_ticks : GoodIn wsX7_tickUntilStanding (wsV RX7 221 RX7 yX7_ticks wsX7_ticks) := goodIn_app (goodIn_of _ (by decide +kernel)) ggX7_tickUntilStanding_X7_ticks
theorem dX7_tickUntilStanding_0 : decode cX7_tickUntilStanding 0 = .ok (.aload_n 0, 1) := by decide +kernel
theorem dX7_tickUntilStanding_1 : decode cX7_tickUntilStanding 1 = .ok (.iload_n 1, 1) := by decide +kernel
theorem dX7_tickUntilStanding_2 : decode cX7_tickUntilStanding 2 = .ok (.invokevirtual 224, 3) := by decide +kernel
theorem dX7_tickUntilStanding_5 : decode cX7_tickUntilStanding 5 = .ok (.ifCond .ne 9, 3) := by decide +kernel
theorem dX7_tickUntilStanding_8 : decode cX7_tickUntilStanding 8 = .ok (.aload_n 0, 1) := by decide +kernel
theorem dX7_tickUntilStanding_9 : decode cX7_tickUntilStanding 9 = .ok (.iconst 1, 1) := by decide +kernel
theorem dX7_tickUntilStanding_10 : decode cX7_tickUntilStanding 10 = .ok (.invokevirtual 218, 3) := by decide +kernel
theorem dX7_tickUntilStanding_13 : decode cX7_tickUntilStanding 13 = .ok (.ireturn, 1) := by decide +kernel
theorem dX7_tickUntilStanding_14 : decode cX7_tickUntilStanding 14 = .ok (.iload_n 2, 1) := by decide +kernel
theorem dX7_tickUntilStanding_15 : decode cX7_tickUntilStanding 15 = .ok (.iconst 1, 1) := by decide +kernel
theorem dX7_tickUntilStanding_16 : decode cX7_tickUntilStanding 16 = .ok (.bipush 100, 2) := by decide +kernel
theorem dX7_tickUntilStanding_18 : decode cX7_tickUntilStanding 18 = .ok (.invokestatic 61, 3) := by decide +kernel
theorem dX7_tickUntilStanding_21 : decode cX7_tickUntilStanding 21 = .ok (.ifCond .ne 9, 3) := by decide +kernel
theorem dX7_tickUntilStanding_24 : decode cX7_tickUntilStanding 24 = .ok (.aload_n 0, 1) := by decide +kernel
theorem dX7_tickUntilStanding_25 : decode cX7_tickUntilStanding 25 = .ok (.iconst 2, 1) := by decide +kernel
theorem dX7_tickUntilStanding_26 : decode cX7_tickUntilStanding 26 = .ok (.invokevirtual 218, 3) := by decide +kernel
theorem dX7_tickUntilStanding_29 : decode cX7_tickUntilStanding 29 = .ok (.ireturn, 1) := by decide +kernel
theorem dX7_tickUntilStanding_30 : decode cX7_tickUntilStanding 30 = .ok (.iconst 0, 1) := by decide +kernel
theorem dX7_tickUntilStanding_31 : decode cX7_tickUntilStanding 31 = .ok (.istore_n 3, 1) := by decide +kernel
theorem dX7_tickUntilStanding_32 : decode cX7_tickUntilStanding 32 = .ok (.iload_n 3, 1) := by decide +kernel
theorem dX7_tickUntilStanding_33 : decode cX7_tickUntilStanding 33 = .ok (.iload_n 2, 1) := by decide +kernel
theorem dX7_tickUntilStanding_34 : decode cX7_tickUntilStanding 34 = .ok (.if_icmp .ge 22, 3) := by decide +kernel
theorem dX7_tickUntilStanding_37 : decode cX7_tickUntilStanding 37 = .ok (.aload_n 0, 1) := by decide +kernel
theorem dX7_tickUntilStanding_38 : decode cX7_tickUntilStanding 38 = .ok (.iload_n 1, 1) := by decide +kernel
theorem dX7_tickUntilStanding_39 : decode cX7_tickUntilStanding 39 = .ok (.invokevirtual 166, 3) := by decide +kernel
theorem dX7_tickUntilStanding_42 : decode cX7_tickUntilStanding 42 = .ok (.ifCond .ne 14, 3) := by decide +kernel
theorem dX7_tickUntilStanding_45 : decode cX7_tickUntilStanding 45 = .ok (.aload_n 0, 1) := by decide +kernel
theorem dX7_tickUntilStanding_46 : decode cX7_tickUntilStanding 46 = .ok (.iconst 1, 1) := by decide +kernel
theorem dX7_tickUntilStanding_47 : decode cX7_tickUntilStanding 47 = .ok (.invokevirtual 221, 3) := by decide +kernel
theorem dX7_tickUntilStanding_50 : decode cX7_tickUntilStanding 50 = .ok (.iinc 3 1, 3) := by decide +kernel
theorem dX7_tickUntilStanding_53 : decode cX7_tickUntilStanding 53 = .ok (.goto (-21), 3) := by decide +kernel
theorem dX7_tickUntilStanding_56 : decode cX7_tickUntilStanding 56 = .ok (.aload_n 0, 1) := by decide +kernel
theorem dX7_tickUntilStanding_57 : decode cX7_tickUntilStanding 57 = .ok (.aload_n 0, 1) := by decide +kernel
theorem dX7_tickUntilStanding_58 : decode cX7_tickUntilStanding 58 = .ok (.iload_n 1, 1) := by decide +kernel
theorem dX7_tickUntilStanding_59 : decode cX7_tickUntilStanding 59 = .ok (.invokevirtual 166, 3) := by decide +kernel
theorem dX7_tickUntilStanding_62 : decode cX7_tickUntilStanding 62 = .ok (.ifCond .eq 7, 3) := by decide +kernel
theorem dX7_tickUntilStanding_65 : decode cX7_tickUntilStanding 65 = .ok (.iconst 0, 1) := by decide +kernel
theorem dX7_tickUntilStanding_66 : decode cX7_tickUntilStanding 66 = .ok (.goto 4, 3) := by decide +kernel
theorem dX7_tickUntilStanding_69 : decode cX7_tickUntilStanding 69 = .ok (.iconst 3, 1) := by decide +kernel
theorem dX7_tickUntilStanding_70 : decode cX7_tickUntilStanding 70 = .ok (.putfield 45, 3) := by decide +kernel
theorem dX7_tickUntilStanding_73 : decode cX7_tickUntilStanding 73 = .ok (.aload_n 0, 1) := by decide +kernel
theorem dX7_tickUntilStanding_74 : decode cX7_tickUntilStanding 74 = .ok (.getfield 45, 3) := by decide +kernel
theorem dX7_tickUntilStanding_77 : decode cX7_tickUntilStanding 77 = .ok (.ifCond .ne 7, 3) := by decide +kernel
theorem dX7_tickUntilStanding_80 : decode cX7_tickUntilStanding 80 = .ok (.iload_n 3, 1) := by decide +kernel
theorem dX7_tickUntilStanding_81 : decode cX7_tickUntilStanding 81 = .ok (.goto 4, 3) := by decide +kernel
theorem dX7_tickUntilStanding_84 : decode cX7_tickUntilStanding 84 = .ok (.iconst 0, 1) := by decide +kernel
theorem dX7_tickUntilStanding_85 : decode cX7_tickUntilStanding 85 = .ok (.ireturn, 1) := by decide +kernel
set_option maxRecDepth 20000 in
theorem ggX7_undo_X7_fails : GoodIn wsX7_undo wsX7_fails := goodIn_r _ [9, 2, 13, 14, 15, 16, 17, 18, 19, 20, 21, 22, 23, 24, 25, 26, 27, 28, 29] (by decide +kernel) (by decide +kernel)
set_option maxRecDepth 20000 in
theorem gX7_undo_X7_fails : GoodIn wsX7_undo (wsV RX7 218 RX7 yX7_fails wsX7_fails) := goodIn_app (goodIn_of _ (by decide +kernel)) ggX7_undo_X7_fails
set_option maxRecDepth 20000 in
theorem ggX7_undo_X7_copies : GoodIn wsX7_undo wsX7_copies := goodIn_ca (goodIn_r _ [12] (by decide +kernel) (by decide +kernel)) (goodIn_sub (fun _ h => List.mem_cons_of_mem _ (List.mem_append_right _ h)) (by decide +kernel))
set_option maxRecDepth 20000 in
theorem gX7_undo_X7_copies : GoodIn wsX7_undo (va_wsS RX7 211 yX7_copies wsX7_copies) := goodIn_app (goodIn_of _ (by decide +kernel)) ggX7_undo_X7_copies
theorem dX7_undo_0 : decode cX7_undo 0 = .ok (.aload_n 0, 1) := by decide +kernel
theorem dX7_undo_1 : decode cX7_undo 1 = .ok (.getfield 208, 3) := by decide +kernel
theorem dX7_undo_4 : decode cX7_undo 4 = .ok (.ifCond .ne 9, 3) := by decide +kernel
theorem dX7_undo_7 : decode cX7_undo 7 = .ok (.aload_n 0, 1) := by decide +kernel
theorem dX7_undo_8 : decode cX7_undo 8 = .ok (.iconst 1, 1) := by decide +kernel
theorem dX7_undo_9 : decode cX7_undo 9 = .ok (.invokevirtual 218, 3) := by decide +kernel
theorem dX7_undo_12 : decode cX7_undo 12 = .ok (.ireturn, 1) := by decide +kernel
theorem dX7_undo_13 : decode cX7_undo 13 = .ok (.aload_n 0, 1) := by decide +kernel
theorem dX7_undo_14 : decode cX7_undo 14 = .ok (.iconst 0, 1) := by decide +kernel
theorem dX7_undo_15 : decode cX7_undo 15 = .ok (.putfield 45, 3) := by decide +kernel
theorem dX7_undo_18 : decode cX7_undo 18 = .ok (.aload_n 0, 1) := by decide +kernel
theorem dX7_undo_19 : decode cX7_undo 19 = .ok (.dup, 1) := by decide +kernel
theorem dX7_undo_20 : decode cX7_undo 20 = .ok (.getfield 208, 3) := by decide +kernel
theorem dX7_undo_23 : decode cX7_undo 23 = .ok (.iconst 1, 1) := by decide +kernel
theorem dX7_undo_24 : decode cX7_undo 24 = .ok (.isub, 1) := by decide +kernel
theorem dX7_undo_25 : decode cX7_undo 25 = .ok (.putfield 208, 3) := by decide +kernel
theorem dX7_undo_28 : decode cX7_undo 28 = .ok (.aload_n 0, 1) := by decide +kernel
theorem dX7_undo_29 : decode cX7_undo 29 = .ok (.getfield 19, 3) := by decide +kernel
theorem dX7_undo_32 : decode cX7_undo 32 = .ok (.sipush 480, 3) := by decide +kernel
theorem dX7_undo_35 : decode cX7_undo 35 = .ok (.aload_n 0, 1) := by decide +kernel
theorem dX7_undo_36 : decode cX7_undo 36 = .ok (.getfield 208, 3) := by decide +kernel
theorem dX7_undo_39 : decode cX7_undo 39 = .ok (.imul, 1) := by decide +kernel
theorem dX7_undo_40 : decode cX7_undo 40 = .ok (.aload_n 0, 1) := by decide +kernel
theorem dX7_undo_41 : decode cX7_undo 41 = .ok (.getfield 7, 3) := by decide +kernel
theorem dX7_undo_44 : decode cX7_undo 44 = .ok (.iconst 0, 1) := by decide +kernel
theorem dX7_undo_45 : decode cX7_undo 45 = .ok (.invokestatic 211, 3) := by decide +kernel
theorem dX7_undo_48 : decode cX7_undo 48 = .ok (.aload_n 0, 1) := by decide +kernel
theorem dX7_undo_49 : decode cX7_undo 49 = .ok (.getfield 7, 3) := by decide +kernel
theorem dX7_undo_52 : decode cX7_undo 52 = .ok (.sipush 466, 3) := by decide +kernel
theorem dX7_undo_55 : decode cX7_undo 55 = .ok (.iaload, 1) := by decide +kernel
theorem dX7_undo_56 : decode cX7_undo 56 = .ok (.ireturn, 1) := by decide +kernel
theorem dX7_clock_0 : decode cX7_clock 0 = .ok (.aload_n 0, 1) := by decide +kernel
theorem dX7_clock_1 : decode cX7_clock 1 = .ok (.iconst 0, 1) := by decide +kernel
theorem dX7_clock_2 : decode cX7_clock 2 = .ok (.putfield 45, 3) := by decide +kernel
theorem dX7_clock_5 : decode cX7_clock 5 = .ok (.aload_n 0, 1) := by decide +kernel
theorem dX7_clock_6 : decode cX7_clock 6 = .ok (.getfield 7, 3) := by decide +kernel
theorem dX7_clock_9 : decode cX7_clock 9 = .ok (.sipush 466, 3) := by decide +kernel
theorem dX7_clock_12 : decode cX7_clock 12 = .ok (.iaload, 1) := by decide +kernel
theorem dX7_clock_13 : decode cX7_clock 13 = .ok (.ireturn, 1) := by decide +kernel
set_option maxRecDepth 20000 in
theorem ggX7_isAnyBlocked_X7_of : GoodIn wsX7_isAnyBlocked wsX7_of := goodIn_ca (goodIn_r _ [6, 1, 46, 47, 48, 49, 50, 51, 52, 53, 54, 55, 56, 57, 58, 59, 60, 61, 62] (by decide +kernel) (by decide +kernel)) (goodIn_sub (fun _ h => List.mem_cons_of_mem _ (List.mem_append_right _ h)) (by decide +kernel))
set_option maxRecDepth 20000 in
theorem gX7_isAnyBlocked_X7_of : GoodIn wsX7_isAnyBlocked (wsV RX7 68 RX7 yX7_of wsX7_of) := goodIn_app (goodIn_of _ (by decide +kernel)) ggX7_isAnyBlocked_X7_of
set_option maxRecDepth 20000 in
theorem ggX7_isAnyBlocked_X7_blocks : GoodIn wsX7_isAnyBlocked wsX7_blocks := goodIn_ca (goodIn_r _ [10, 11, 12, 13, 5, 14, 15, 16, 17, 18, 2, 3, 4, 6, 1, 19, 20, 21, 22, 23, 24, 25, 26, 27, 28, 29, 30, 31, 32, 33, 34, 35, 36, 37, 38, 39, 40, 41, 42, 43, 44, 45, 46, 47, 48, 49, 50, 51, 52, 53, 54, 55, 56, 57, 58, 59, 60, 61, 62] (by decide +kernel) (by decide +kernel)) (goodIn_sub (fun _ h => List.mem_cons_of_mem _ (List.mem_append_right _ h)) (by decide +kernel))
set_option maxRecDepth 20000 in
theorem gX7_isAnyBlocked_X7_blocks : GoodIn wsX7_isAnyBlocked (wsV RX7 123 RX7 yX7_blocks wsX7_blocks) := goodIn_app (goodIn_of _ (by decide +kernel)) ggX7_isAnyBlocked_X7_blocks
theorem dX7_isAnyBlocked_0 : decode cX7_isAnyBlocked 0 = .ok (.iconst 0, 1) := by decide +kernel
theorem dX7_isAnyBlocked_1 : decode cX7_isAnyBlocked 1 = .ok (.istore_n 1, 1) := by decide +kernel
theorem dX7_isAnyBlocked_2 : decode cX7_isAnyBlocked 2 = .ok (.iload_n 1, 1) := by decide +kernel
theorem dX7_isAnyBlocked_3 : decode cX7_isAnyBlocked 3 = .ok (.aload_n 0, 1) := by decide +kernel
theorem dX7_isAnyBlocked_4 : decode cX7_isAnyBlocked 4 = .ok (.getfield 7, 3) := by decide +kernel
theorem dX7_isAnyBlocked_7 : decode cX7_isAnyBlocked 7 = .ok (.sipush 464, 3) := by decide +kernel
theorem dX7_isAnyBlocked_10 : decode cX7_isAnyBlocked 10 = .ok (.iaload, 1) := by decide +kernel
theorem dX7_isAnyBlocked_11 : decode cX7_isAnyBlocked 11 = .ok (.if_icmp .ge 31, 3) := by decide +kernel
theorem dX7_isAnyBlocked_14 : decode cX7_isAnyBlocked 14 = .ok (.aload_n 0, 1) := by decide +kernel
theorem dX7_isAnyBlocked_15 : decode cX7_isAnyBlocked 15 = .ok (.iload_n 1, 1) := by decide +kernel
theorem dX7_isAnyBlocked_16 : decode cX7_isAnyBlocked 16 = .ok (.aload_n 0, 1) := by decide +kernel
theorem dX7_isAnyBlocked_17 : decode cX7_isAnyBlocked 17 = .ok (.iload_n 1, 1) := by decide +kernel
theorem dX7_isAnyBlocked_18 : decode cX7_isAnyBlocked 18 = .ok (.iconst 0, 1) := by decide +kernel
theorem dX7_isAnyBlocked_19 : decode cX7_isAnyBlocked 19 = .ok (.invokevirtual 68, 3) := by decide +kernel
theorem dX7_isAnyBlocked_22 : decode cX7_isAnyBlocked 22 = .ok (.aload_n 0, 1) := by decide +kernel
theorem dX7_isAnyBlocked_23 : decode cX7_isAnyBlocked 23 = .ok (.iload_n 1, 1) := by decide +kernel
theorem dX7_isAnyBlocked_24 : decode cX7_isAnyBlocked 24 = .ok (.iconst 1, 1) := by decide +kernel
theorem dX7_isAnyBlocked_25 : decode cX7_isAnyBlocked 25 = .ok (.invokevirtual 68, 3) := by decide +kernel
theorem dX7_isAnyBlocked_28 : decode cX7_isAnyBlocked 28 = .ok (.invokevirtual 123, 3) := by decide +kernel
theorem dX7_isAnyBlocked_31 : decode cX7_isAnyBlocked 31 = .ok (.ifCond .eq 5, 3) := by decide +kernel
theorem dX7_isAnyBlocked_34 : decode cX7_isAnyBlocked 34 = .ok (.iconst 1, 1) := by decide +kernel
theorem dX7_isAnyBlocked_35 : decode cX7_isAnyBlocked 35 = .ok (.ireturn, 1) := by decide +kernel
theorem dX7_isAnyBlocked_36 : decode cX7_isAnyBlocked 36 = .ok (.iinc 1 1, 3) := by decide +kernel
theorem dX7_isAnyBlocked_39 : decode cX7_isAnyBlocked 39 = .ok (.goto (-37), 3) := by decide +kernel
theorem dX7_isAnyBlocked_42 : decode cX7_isAnyBlocked 42 = .ok (.iconst 0, 1) := by decide +kernel
theorem dX7_isAnyBlocked_43 : decode cX7_isAnyBlocked 43 = .ok (.ireturn, 1) := by decide +kernel
set_option maxRecDepth 20000 in
theorem ggX7_setTile_X7_isTile : GoodIn wsX7_setTile wsX7_isTile := goodIn_r _ [7] (by decide +kernel) (by decide +kernel)
set_option maxRecDepth 20000 in
theorem gX7_setTile_X7_isTile : GoodIn wsX7_setTile (va_wsS RX7 227 yX7_isTile wsX7_isTile) := goodIn_app (goodIn_of _ (by decide +kernel)) ggX7_setTile_X7_isTile
set_option maxRecDepth 20000 in
theorem ggX7_setTile_X7_fails : GoodIn wsX7_setTile wsX7_fails := goodIn_r _ [11, 2, 59, 60, 61, 62, 63, 64, 65, 66, 67, 68, 69, 70, 71, 72, 73, 74, 75] (by decide +kernel) (by decide +kernel)
set_option maxRecDepth 20000 in
theorem gX7_setTile_X7_fails : GoodIn wsX7_setTile (wsV RX7 218 RX7 yX7_fails wsX7_fails) := goodIn_app (goodIn_of _ (by decide +kernel)) ggX7_setTile_X7_fails
set_option maxRecDepth 20000 in
theorem ggX7_setTile_X7_isBetween : GoodIn wsX7_setTile wsX7_isBetween := goodIn_r _ [14] (by decide +kernel) (by decide +kernel)
set_option maxRecDepth 20000 in
theorem gX7_setTile_X7_isBetween : GoodIn wsX7_setTile (va_wsS RX7 61 yX7_isBetween wsX7_isBetween) := goodIn_app (goodIn_of _ (by decide +kernel)) ggX7_setTile_X7_isBetween
set_option maxRecDepth 20000 in
theorem ggX7_setTile_X7_isAnyBlocked : GoodIn wsX7_setTile wsX7_isAnyBlocked := goodIn_ca (goodIn_r _ [18, 1, 19, 20, 21, 6, 22, 23, 24, 25, 26, 27, 28, 29, 30, 31, 32, 33, 34, 35, 36, 37, 38, 39, 40, 41, 42, 43, 44, 45, 46, 47, 48, 49, 50, 51, 52, 53, 54, 55, 12, 13, 14, 56, 57, 58, 59, 60, 61, 62, 63, 64, 65, 66, 67, 68, 69, 70, 71, 72, 73, 74, 75] (by decide +kernel) (by decide +kernel)) (goodIn_sub (fun _ h => List.mem_cons_of_mem _ (List.mem_append_right _ h)) (by decide +kernel))
set_option maxRecDepth 20000 in
theorem gX7_setTile_X7_isAnyBlocked : GoodIn wsX7_setTile (wsV RX7 230 RX7 yX7_isAnyBlocked wsX7_isAnyBlocked) := goodIn_app (goodIn_of _ (by decide +kernel)) ggX7_setTile_X7_isAnyBlocked
theorem dX7_setTile_0 : decode cX7_setTile 0 = .ok (.iload_n 1, 1) := by decide +kernel
theorem dX7_setTile_1 : decode cX7_setTile 1 = .ok (.iload_n 2, 1) := by decide +kernel
theorem dX7_setTile_2 : decode cX7_setTile 2 = .ok (.invokestatic 227, 3) := by decide +kernel
theorem dX7_setTile_5 : decode cX7_setTile 5 = .ok (.ifCond .ne 9, 3) := by decide +kernel
theorem dX7_setTile_8 : decode cX7_setTile 8 = .ok (.aload_n 0, 1) := by decide +kernel
theorem dX7_setTile_9 : decode cX7_setTile 9 = .ok (.iconst 1, 1) := by decide +kernel
theorem dX7_setTile_10 : decode cX7_setTile 10 = .ok (.invokevirtual 218, 3) := by decide +kernel
theorem dX7_setTile_13 : decode cX7_setTile 13 = .ok (.ireturn, 1) := by decide +kernel
theorem dX7_setTile_14 : decode cX7_setTile 14 = .ok (.iload_n 3, 1) := by decide +kernel
theorem dX7_setTile_15 : decode cX7_setTile 15 = .ok (.iconst 0, 1) := by decide +kernel
theorem dX7_setTile_16 : decode cX7_setTile 16 = .ok (.bipush 10, 2) := by decide +kernel
theorem dX7_setTile_18 : decode cX7_setTile 18 = .ok (.invokestatic 61, 3) := by decide +kernel
theorem dX7_setTile_21 : decode cX7_setTile 21 = .ok (.ifCond .ne 9, 3) := by decide +kernel
theorem dX7_setTile_24 : decode cX7_setTile 24 = .ok (.aload_n 0, 1) := by decide +kernel
theorem dX7_setTile_25 : decode cX7_setTile 25 = .ok (.iconst 2, 1) := by decide +kernel
theorem dX7_setTile_26 : decode cX7_setTile 26 = .ok (.invokevirtual 218, 3) := by decide +kernel
theorem dX7_setTile_29 : decode cX7_setTile 29 = .ok (.ireturn, 1) := by decide +kernel
theorem dX7_setTile_30 : decode cX7_setTile 30 = .ok (.bipush 24, 2) := by decide +kernel
theorem dX7_setTile_32 : decode cX7_setTile 32 = .ok (.iload_n 2, 1) := by decide +kernel
theorem dX7_setTile_33 : decode cX7_setTile 33 = .ok (.imul, 1) := by decide +kernel
theorem dX7_setTile_34 : decode cX7_setTile 34 = .ok (.iload_n 1, 1) := by decide +kernel
theorem dX7_setTile_35 : decode cX7_setTile 35 = .ok (.iadd, 1) := by decide +kernel
theorem dX7_setTile_36 : decode cX7_setTile 36 = .ok (.istore 4, 2) := by decide +kernel
theorem dX7_setTile_38 : decode cX7_setTile 38 = .ok (.aload_n 0, 1) := by decide +kernel
theorem dX7_setTile_39 : decode cX7_setTile 39 = .ok (.getfield 7, 3) := by decide +kernel
theorem dX7_setTile_42 : decode cX7_setTile 42 = .ok (.iload 4, 2) := by decide +kernel
theorem dX7_setTile_44 : decode cX7_setTile 44 = .ok (.iaload, 1) := by decide +kernel
theorem dX7_setTile_45 : decode cX7_setTile 45 = .ok (.istore 5, 2) := by decide +kernel
theorem dX7_setTile_47 : decode cX7_setTile 47 = .ok (.aload_n 0, 1) := by decide +kernel
theorem dX7_setTile_48 : decode cX7_setTile 48 = .ok (.getfield 7, 3) := by decide +kernel
theorem dX7_setTile_51 : decode cX7_setTile 51 = .ok (.iload 4, 2) := by decide +kernel
theorem dX7_setTile_53 : decode cX7_setTile 53 = .ok (.iload_n 3, 1) := by decide +kernel
theorem dX7_setTile_54 : decode cX7_setTile 54 = .ok (.iastore, 1) := by decide +kernel
theorem dX7_setTile_55 : decode cX7_setTile 55 = .ok (.aload_n 0, 1) := by decide +kernel
theorem dX7_setTile_56 : decode cX7_setTile 56 = .ok (.invokevirtual 230, 3) := by decide +kernel
theorem dX7_setTile_59 : decode cX7_setTile 59 = .ok (.ifCond .eq 18, 3) := by decide +kernel
theorem dX7_setTile_62 : decode cX7_setTile 62 = .ok (.aload_n 0, 1) := by decide +kernel
theorem dX7_setTile_63 : decode cX7_setTile 63 = .ok (.getfield 7, 3) := by decide +kernel
theorem dX7_setTile_66 : decode cX7_setTile 66 = .ok (.iload 4, 2) := by decide +kernel
theorem dX7_setTile_68 : decode cX7_setTile 68 = .ok (.iload 5, 2) := by decide +kernel
theorem dX7_setTile_70 : decode cX7_setTile 70 = .ok (.iastore, 1) := by decide +kernel
theorem dX7_setTile_71 : decode cX7_setTile 71 = .ok (.aload_n 0, 1) := by decide +kernel
theorem dX7_setTile_72 : decode cX7_setTile 72 = .ok (.iconst 3, 1) := by decide +kernel
theorem dX7_setTile_73 : decode cX7_setTile 73 = .ok (.invokevirtual 218, 3) := by decide +kernel
theorem dX7_setTile_76 : decode cX7_setTile 76 = .ok (.ireturn, 1) := by decide +kernel
theorem dX7_setTile_77 : decode cX7_setTile 77 = .ok (.aload_n 0, 1) := by decide +kernel
theorem dX7_setTile_78 : decode cX7_setTile 78 = .ok (.iconst 0, 1) := by decide +kernel
theorem dX7_setTile_79 : decode cX7_setTile 79 = .ok (.putfield 45, 3) := by decide +kernel
theorem dX7_setTile_82 : decode cX7_setTile 82 = .ok (.aload_n 0, 1) := by decide +kernel
theorem dX7_setTile_83 : decode cX7_setTile 83 = .ok (.iconst 0, 1) := by decide +kernel
theorem dX7_setTile_84 : decode cX7_setTile 84 = .ok (.putfield 208, 3) := by decide +kernel
theorem dX7_setTile_87 : decode cX7_setTile 87 = .ok (.iload 5, 2) := by decide +kernel
theorem dX7_setTile_89 : decode cX7_setTile 89 = .ok (.ireturn, 1) := by decide +kernel
set_option maxRecDepth 20000 in
theorem ggX7_tile_X7_isTile : GoodIn wsX7_tile wsX7_isTile := goodIn_r _ [6] (by decide +kernel) (by decide +kernel)
set_option maxRecDepth 20000 in
theorem gX7_tile_X7_isTile : GoodIn wsX7_tile (va_wsS RX7 227 yX7_isTile wsX7_isTile) := goodIn_app (goodIn_of _ (by decide +kernel)) ggX7_tile_X7_isTile
set_option maxRecDepth 20000 in
theorem ggX7_tile_X7_fails : GoodIn wsX7_tile wsX7_fails := goodIn_r _ [10, 1, 11, 12, 13, 14, 15, 16, 17, 18, 19, 20, 21, 22, 23, 24, 25, 26, 27] (by decide +kernel) (by decide +kernel)
set_option maxRecDepth 20000 in
theorem gX7_tile_X7_fails : GoodIn wsX7_tile (wsV RX7 218 RX7 yX7_fails wsX7_fails) := goodIn_app (goodIn_of _ (by decide +kernel)) ggX7_tile_X7_fails
theorem dX7_tile_0 : decode cX7_tile 0 = .ok (.iload_n 1, 1) := by decide +kernel
theorem dX7_tile_1 : decode cX7_tile 1 = .ok (.iload_n 2, 1) := by decide +kernel
theorem dX7_tile_2 : decode cX7_tile 2 = .ok (.invokestatic 227, 3) := by decide +kernel
theorem dX7_tile_5 : decode cX7_tile 5 = .ok (.ifCond .ne 9, 3) := by decide +kernel
theorem dX7_tile_8 : decode cX7_tile 8 = .ok (.aload_n 0, 1) := by decide +kernel
theorem dX7_tile_9 : decode cX7_tile 9 = .ok (.iconst 1, 1) := by decide +kernel
theorem dX7_tile_10 : decode cX7_tile 10 = .ok (.invokevirtual 218, 3) := by decide +kernel
theorem dX7_tile_13 : decode cX7_tile 13 = .ok (.ireturn, 1) := by decide +kernel
theorem dX7_tile_14 : decode cX7_tile 14 = .ok (.aload_n 0, 1) := by decide +kernel
theorem dX7_tile_15 : decode cX7_tile 15 = .ok (.iconst 0, 1) := by decide +kernel
theorem dX7_tile_16 : decode cX7_tile 16 = .ok (.putfield 45, 3) := by decide +kernel
theorem dX7_tile_19 : decode cX7_tile 19 = .ok (.aload_n 0, 1) := by decide +kernel
theorem dX7_tile_20 : decode cX7_tile 20 = .ok (.getfield 7, 3) := by decide +kernel
theorem dX7_tile_23 : decode cX7_tile 23 = .ok (.bipush 24, 2) := by decide +kernel
theorem dX7_tile_25 : decode cX7_tile 25 = .ok (.iload_n 2, 1) := by decide +kernel
theorem dX7_tile_26 : decode cX7_tile 26 = .ok (.imul, 1) := by decide +kernel
theorem dX7_tile_27 : decode cX7_tile 27 = .ok (.iload_n 1, 1) := by decide +kernel
theorem dX7_tile_28 : decode cX7_tile 28 = .ok (.iadd, 1) := by decide +kernel
theorem dX7_tile_29 : decode cX7_tile 29 = .ok (.iaload, 1) := by decide +kernel
theorem dX7_tile_30 : decode cX7_tile 30 = .ok (.ireturn, 1) := by decide +kernel
set_option maxRecDepth 20000 in
theorem ggX7_addBody_X7_isBetween : GoodIn wsX7_addBody wsX7_isBetween := goodIn_r _ [7] (by decide +kernel) (by decide +kernel)
set_option maxRecDepth 20000 in
theorem gX7_addBody_X7_isBetween : GoodIn wsX7_addBody (va_wsS RX7 61 yX7_isBetween wsX7_isBetween) := goodIn_app (goodIn_of _ (by decide +kernel)) ggX7_addBody_X7_isBetween
set_option maxRecDepth 20000 in
theorem ggX7_addBody_X7_fails : GoodIn wsX7_addBody wsX7_fails := goodIn_r _ [11, 2, 56, 57, 58, 59, 60, 61, 62, 63, 64, 65, 66, 67, 68, 69, 70, 71, 72] (by decide +kernel) (by decide +kernel)
set_option maxRecDepth 20000 in
theorem gX7_addBody_X7_fails : GoodIn wsX7_addBody (wsV RX7 218 RX7 yX7_fails wsX7_fails) := goodIn_app (goodIn_of _ (by decide +kernel)) ggX7_addBody_X7_fails
set_option maxRecDepth 20000 in
theorem ggX7_addBody_X7_sets : GoodIn wsX7_addBody wsX7_sets := goodIn_ca (goodIn_r _ [15, 1, 56, 57, 58, 59, 60, 61, 62, 63, 64, 65, 66, 67, 68, 69, 70, 71, 72] (by decide +kernel) (by decide +kernel)) (goodIn_sub (fun _ h => List.mem_cons_of_mem _ (List.mem_append_right _ h)) (by decide +kernel))
set_option maxRecDepth 20000 in
theorem gX7_addBody_X7_sets : GoodIn wsX7_addBody (wsV RX7 126 RX7 yX7_sets wsX7_sets) := goodIn_app (goodIn_of _ (by decide +kernel)) ggX7_addBody_X7_sets
set_option maxRecDepth 20000 in
theorem ggX7_addBody_X7_blocks : GoodIn wsX7_addBody wsX7_blocks := goodIn_ca (goodIn_r _ [19, 20, 21, 22, 6, 23, 24, 25, 26, 27, 28, 29, 30, 31, 1, 32, 33, 34, 35, 36, 37, 38, 39, 40, 41, 42, 43, 44, 45, 46, 47, 48, 49, 50, 51, 52, 4, 5, 7, 53, 54, 55, 56, 57, 58, 59, 60, 61, 62, 63, 64, 65, 66, 67, 68, 69, 70, 71, 72] (by decide +kernel) (by decide +kernel)) (goodIn_sub (fun _ h => List.mem_cons_of_mem _ (List.mem_append_right _ h)) (by decide +kernel))
set_option maxRecDepth 20000 in
theorem gX7_addBody_X7_blocks : GoodIn wsX7_addBody (wsV RX7 123 RX7 yX7_blocks wsX7_blocks) := goodIn_app (goodIn_of _ (by decide +kernel)) ggX7_addBody_X7_blocks
theorem dX7_addBody_0 : decode cX7_addBody 0 = .ok (.iload_n 1, 1) := by decide +kernel
theorem dX7_addBody_1 : decode cX7_addBody 1 = .ok (.iconst 0, 1) := by decide +kernel
theorem dX7_addBody_2 : decode cX7_addBody 2 = .ok (.sipush 383, 3) := by decide +kernel
theorem dX7_addBody_5 : decode cX7_addBody 5 = .ok (.invokestatic 61, 3) := by decide +kernel
theorem dX7_addBody_8 : decode cX7_addBody 8 = .ok (.ifCond .eq 35, 3) := by decide +kernel
theorem dX7_addBody_11 : decode cX7_addBody 11 = .ok (.iload_n 2, 1) := by decide +kernel
theorem dX7_addBody_12 : decode cX7_addBody 12 = .ok (.iconst 0, 1) := by decide +kernel
theorem dX7_addBody_13 : decode cX7_addBody 13 = .ok (.sipush 223, 3) := by decide +kernel
theorem dX7_addBody_16 : decode cX7_addBody 16 = .ok (.invokestatic 61, 3) := by decide +kernel
theorem dX7_addBody_19 : decode cX7_addBody 19 = .ok (.ifCond .eq 24, 3) := by decide +kernel
theorem dX7_addBody_22 : decode cX7_addBody 22 = .ok (.iload_n 3, 1) := by decide +kernel
theorem dX7_addBody_23 : decode cX7_addBody 23 = .ok (.iconst 4, 1) := by decide +kernel
theorem dX7_addBody_24 : decode cX7_addBody 24 = .ok (.bipush 16, 2) := by decide +kernel
theorem dX7_addBody_26 : decode cX7_addBody 26 = .ok (.invokestatic 61, 3) := by decide +kernel
theorem dX7_addBody_29 : decode cX7_addBody 29 = .ok (.ifCond .eq 14, 3) := by decide +kernel
theorem dX7_addBody_32 : decode cX7_addBody 32 = .ok (.iload 4, 2) := by decide +kernel
theorem dX7_addBody_34 : decode cX7_addBody 34 = .ok (.iconst 4, 1) := by decide +kernel
theorem dX7_addBody_35 : decode cX7_addBody 35 = .ok (.bipush 28, 2) := by decide +kernel
theorem dX7_addBody_37 : decode cX7_addBody 37 = .ok (.invokestatic 61, 3) := by decide +kernel
theorem dX7_addBody_40 : decode cX7_addBody 40 = .ok (.ifCond .ne 9, 3) := by decide +kernel
theorem dX7_addBody_43 : decode cX7_addBody 43 = .ok (.aload_n 0, 1) := by decide +kernel
theorem dX7_addBody_44 : decode cX7_addBody 44 = .ok (.iconst 1, 1) := by decide +kernel
theorem dX7_addBody_45 : decode cX7_addBody 45 = .ok (.invokevirtual 218, 3) := by decide +kernel
theorem dX7_addBody_48 : decode cX7_addBody 48 = .ok (.ireturn, 1) := by decide +kernel
theorem dX7_addBody_49 : decode cX7_addBody 49 = .ok (.aload_n 0, 1) := by decide +kernel
theorem dX7_addBody_50 : decode cX7_addBody 50 = .ok (.getfield 7, 3) := by decide +kernel
theorem dX7_addBody_53 : decode cX7_addBody 53 = .ok (.sipush 464, 3) := by decide +kernel
theorem dX7_addBody_56 : decode cX7_addBody 56 = .ok (.iaload, 1) := by decide +kernel
theorem dX7_addBody_57 : decode cX7_addBody 57 = .ok (.istore 5, 2) := by decide +kernel
theorem dX7_addBody_59 : decode cX7_addBody 59 = .ok (.iload 5, 2) := by decide +kernel
theorem dX7_addBody_61 : decode cX7_addBody 61 = .ok (.iconst 4, 1) := by decide +kernel
theorem dX7_addBody_62 : decode cX7_addBody 62 = .ok (.if_icmp .ne 9, 3) := by decide +kernel
theorem dX7_addBody_65 : decode cX7_addBody 65 = .ok (.aload_n 0, 1) := by decide +kernel
theorem dX7_addBody_66 : decode cX7_addBody 66 = .ok (.iconst 2, 1) := by decide +kernel
theorem dX7_addBody_67 : decode cX7_addBody 67 = .ok (.invokevirtual 218, 3) := by decide +kernel
theorem dX7_addBody_70 : decode cX7_addBody 70 = .ok (.ireturn, 1) := by decide +kernel
theorem dX7_addBody_71 : decode cX7_addBody 71 = .ok (.iconst 0, 1) := by decide +kernel
theorem dX7_addBody_72 : decode cX7_addBody 72 = .ok (.istore 6, 2) := by decide +kernel
theorem dX7_addBody_74 : decode cX7_addBody 74 = .ok (.iload 6, 2) := by decide +kernel
theorem dX7_addBody_76 : decode cX7_addBody 76 = .ok (.bipush 24, 2) := by decide +kernel
theorem dX7_addBody_78 : decode cX7_addBody 78 = .ok (.if_icmp .ge 18, 3) := by decide +kernel
theorem dX7_addBody_81 : decode cX7_addBody 81 = .ok (.aload_n 0, 1) := by decide +kernel
theorem dX7_addBody_82 : decode cX7_addBody 82 = .ok (.iload 5, 2) := by decide +kernel
theorem dX7_addBody_84 : decode cX7_addBody 84 = .ok (.iload 6, 2) := by decide +kernel
theorem dX7_addBody_86 : decode cX7_addBody 86 = .ok (.iconst 0, 1) := by decide +kernel
theorem dX7_addBody_87 : decode cX7_addBody 87 = .ok (.invokevirtual 126, 3) := by decide +kernel
theorem dX7_addBody_90 : decode cX7_addBody 90 = .ok (.iinc 6 1, 3) := by decide +kernel
theorem dX7_addBody_93 : decode cX7_addBody 93 = .ok (.goto (-19), 3) := by decide +kernel
theorem dX7_addBody_96 : decode cX7_addBody 96 = .ok (.aload_n 0, 1) := by decide +kernel
theorem dX7_addBody_97 : decode cX7_addBody 97 = .ok (.iload 5, 2) := by decide +kernel
theorem dX7_addBody_99 : decode cX7_addBody 99 = .ok (.bipush 7, 2) := by decide +kernel
theorem dX7_addBody_101 : decode cX7_addBody 101 = .ok (.iload_n 3, 1) := by decide +kernel
theorem dX7_addBody_102 : decode cX7_addBody 102 = .ok (.invokevirtual 126, 3) := by decide +kernel
theorem dX7_addBody_105 : decode cX7_addBody 105 = .ok (.aload_n 0, 1) := by decide +kernel
theorem dX7_addBody_106 : decode cX7_addBody 106 = .ok (.iload 5, 2) := by decide +kernel
theorem dX7_addBody_108 : decode cX7_addBody 108 = .ok (.bipush 8, 2) := by decide +kernel
theorem dX7_addBody_110 : decode cX7_addBody 110 = .ok (.iload 4, 2) := by decide +kernel
theorem dX7_addBody_112 : decode cX7_addBody 112 = .ok (.invokevirtual 126, 3) := by decide +kernel
theorem dX7_addBody_115 : decode cX7_addBody 115 = .ok (.aload_n 0, 1) := by decide +kernel
theorem dX7_addBody_116 : decode cX7_addBody 116 = .ok (.iload 5, 2) := by decide +kernel
theorem dX7_addBody_118 : decode cX7_addBody 118 = .ok (.iload_n 1, 1) := by decide +kernel
theorem dX7_addBody_119 : decode cX7_addBody 119 = .ok (.iload_n 2, 1) := by decide +kernel
theorem dX7_addBody_120 : decode cX7_addBody 120 = .ok (.invokevirtual 123, 3) := by decide +kernel
theorem dX7_addBody_123 : decode cX7_addBody 123 = .ok (.ifCond .eq 9, 3) := by decide +kernel
theorem dX7_addBody_126 : decode cX7_addBody 126 = .ok (.aload_n 0, 1) := by decide +kernel
theorem dX7_addBody_127 : decode cX7_addBody 127 = .ok (.iconst 2, 1) := by decide +kernel
theorem dX7_addBody_128 : decode cX7_addBody 128 = .ok (.invokevirtual 218, 3) := by decide +kernel
theorem dX7_addBody_131 : decode cX7_addBody 131 = .ok (.ireturn, 1) := by decide +kernel
theorem dX7_addBody_132 : decode cX7_addBody 132 = .ok (.aload_n 0, 1) := by decide +kernel
theorem dX7_addBody_133 : decode cX7_addBody 133 = .ok (.iconst 0, 1) := by decide +kernel
theorem dX7_addBody_134 : decode cX7_addBody 134 = .ok (.putfield 45, 3) := by decide +kernel
theorem dX7_addBody_137 : decode cX7_addBody 137 = .ok (.aload_n 0, 1) := by decide +kernel
theorem dX7_addBody_138 : decode cX7_addBody 138 = .ok (.iconst 0, 1) := by decide +kernel
theorem dX7_addBody_139 : decode cX7_addBody 139 = .ok (.putfield 208, 3) := by decide +kernel
theorem dX7_addBody_142 : decode cX7_addBody 142 = .ok (.aload_n 0, 1) := by decide +kernel
theorem dX7_addBody_143 : decode cX7_addBody 143 = .ok (.iload 5, 2) := by decide +kernel
theorem dX7_addBody_145 : decode cX7_addBody 145 = .ok (.iconst 0, 1) := by decide +kernel
theorem dX7_addBody_146 : decode cX7_addBody 146 = .ok (.iload_n 1, 1) := by decide +kernel
theorem dX7_addBody_147 : decode cX7_addBody 147 = .ok (.invokevirtual 126, 3) := by decide +kernel
theorem dX7_addBody_150 : decode cX7_addBody 150 = .ok (.aload_n 0, 1) := by decide +kernel
theorem dX7_addBody_151 : decode cX7_addBody 151 = .ok (.iload 5, 2) := by decide +kernel
theorem dX7_addBody_153 : decode cX7_addBody 153 = .ok (.iconst 1, 1) := by decide +kernel
theorem dX7_addBody_154 : decode cX7_addBody 154 = .ok (.iload_n 2, 1) := by decide +kernel
theorem dX7_addBody_155 : decode cX7_addBody 155 = .ok (.invokevirtual 126, 3) := by decide +kernel
theorem dX7_addBody_158 : decode cX7_addBody 158 = .ok (.aload_n 0, 1) := by decide +kernel
theorem dX7_addBody_159 : decode cX7_addBody 159 = .ok (.iload 5, 2) := by decide +kernel
theorem dX7_addBody_161 : decode cX7_addBody 161 = .ok (.bipush 12, 2) := by decide +kernel
theorem dX7_addBody_163 : decode cX7_addBody 163 = .ok (.iload_n 1, 1) := by decide +kernel
theorem dX7_addBody_164 : decode cX7_addBody 164 = .ok (.invokevirtual 126, 3) := by decide +kernel
theorem dX7_addBody_167 : decode cX7_addBody 167 = .ok (.aload_n 0, 1) := by decide +kernel
theorem dX7_addBody_168 : decode cX7_addBody 168 = .ok (.iload 5, 2) := by decide +kernel
theorem dX7_addBody_170 : decode cX7_addBody 170 = .ok (.bipush 13, 2) := by decide +kernel
theorem dX7_addBody_172 : decode cX7_addBody 172 = .ok (.iload_n 2, 1) := by decide +kernel
theorem dX7_addBody_173 : decode cX7_addBody 173 = .ok (.invokevirtual 126, 3) := by decide +kernel
theorem dX7_addBody_176 : decode cX7_addBody 176 = .ok (.aload_n 0, 1) := by decide +kernel
theorem dX7_addBody_177 : decode cX7_addBody 177 = .ok (.iload 5, 2) := by decide +kernel
theorem dX7_addBody_179 : decode cX7_addBody 179 = .ok (.bipush 20, 2) := by decide +kernel
theorem dX7_addBody_181 : decode cX7_addBody 181 = .ok (.iload_n 2, 1) := by decide +kernel
theorem dX7_addBody_182 : decode cX7_addBody 182 = .ok (.invokevirtual 126, 3) := by decide +kernel
theorem dX7_addBody_185 : decode cX7_addBody 185 = .ok (.aload_n 0, 1) := by decide +kernel
theorem dX7_addBody_186 : decode cX7_addBody 186 = .ok (.getfield 7, 3) := by decide +kernel
theorem dX7_addBody_189 : decode cX7_addBody 189 = .ok (.sipush 464, 3) := by decide +kernel
theorem dX7_addBody_192 : decode cX7_addBody 192 = .ok (.dup2, 1) := by decide +kernel
theorem dX7_addBody_193 : decode cX7_addBody 193 = .ok (.iaload, 1) := by decide +kernel
theorem dX7_addBody_194 : decode cX7_addBody 194 = .ok (.iconst 1, 1) := by decide +kernel
theorem dX7_addBody_195 : decode cX7_addBody 195 = .ok (.iadd, 1) := by decide +kernel
theorem dX7_addBody_196 : decode cX7_addBody 196 = .ok (.iastore, 1) := by decide +kernel
theorem dX7_addBody_197 : decode cX7_addBody 197 = .ok (.iload 5, 2) := by decide +kernel
theorem dX7_addBody_199 : decode cX7_addBody 199 = .ok (.ireturn, 1) := by decide +kernel
set_option maxRecDepth 20000 in
theorem ggX7_removeBody_X7_isBody : GoodIn wsX7_removeBody wsX7_isBody := goodIn_ca (goodIn_r _ [8, 3, 21, 22, 23, 24, 25, 26, 27, 28, 29, 30, 31, 32, 33, 34, 35, 36, 37] (by decide +kernel) (by decide +kernel)) (goodIn_sub (fun _ h => List.mem_cons_of_mem _ (List.mem_append_right _ h)) (by decide +kernel))
set_option maxRecDepth 20000 in
theorem gX7_removeBody_X7_isBody : GoodIn wsX7_removeBody (wsV RX7 224 RX7 yX7_isBody wsX7_isBody) := goodIn_app (goodIn_of _ (by decide +kernel)) ggX7_removeBody_X7_isBody
set_option maxRecDepth 20000 in
theorem ggX7_removeBody_X7_fails : GoodIn wsX7_removeBody wsX7_fails := goodIn_r _ [12, 1, 21, 22, 23, 24, 25, 26, 27, 28, 29, 30, 31, 32, 33, 34, 35, 36, 37] (by decide +kernel) (by decide +kernel)
set_option maxRecDepth 20000 in
theorem gX7_removeBody_X7_fails : GoodIn wsX7_removeBody (wsV RX7 218 RX7 yX7_fails wsX7_fails) := goodIn_app (goodIn_of _ (by decide +kernel)) ggX7_removeBody_X7_fails
set_option maxRecDepth 20000 in
theorem ggX7_removeBody_X7_of : GoodIn wsX7_removeBody wsX7_of := goodIn_ca (goodIn_r _ [16, 3, 21, 22, 23, 24, 25, 26, 27, 28, 29, 30, 31, 32, 33, 34, 35, 36, 37] (by decide +kernel) (by decide +kernel)) (goodIn_sub (fun _ h => List.mem_cons_of_mem _ (List.mem_append_right _ h)) (by decide +kernel))
set_option maxRecDepth 20000 in
theorem gX7_removeBody_X7_of : GoodIn wsX7_removeBody (wsV RX7 68 RX7 yX7_of wsX7_of) := goodIn_app (goodIn_of _ (by decide +kernel)) ggX7_removeBody_X7_of
set_option maxRecDepth 20000 in
theorem ggX7_removeBody_X7_sets : GoodIn wsX7_removeBody wsX7_sets := goodIn_ca (goodIn_r _ [20, 3, 21, 22, 23, 24, 25, 26, 27, 28, 29, 30, 31, 32, 33, 34, 35, 36, 37] (by decide +kernel) (by decide +kernel)) (goodIn_sub (fun _ h => List.mem_cons_of_mem _ (List.mem_append_right _ h)) (by decide +kernel))
set_option maxRecDepth 20000 in
theorem gX7_removeBody_X7_sets : GoodIn wsX7_removeBody (wsV RX7 126 RX7 yX7_sets wsX7_sets) := goodIn_app (goodIn_of _ (by decide +kernel)) ggX7_removeBody_X7_sets
theorem dX7_removeBody_0 : decode cX7_removeBody 0 = .ok (.aload_n 0, 1) := by decide +kernel
theorem dX7_removeBody_1 : decode cX7_removeBody 1 = .ok (.iload_n 1, 1) := by decide +kernel
theorem dX7_removeBody_2 : decode cX7_removeBody 2 = .ok (.invokevirtual 224, 3) := by decide +kernel
theorem dX7_removeBody_5 : decode cX7_removeBody 5 = .ok (.ifCond .ne 9, 3) := by decide +kernel
theorem dX7_removeBody_8 : decode cX7_removeBody 8 = .ok (.aload_n 0, 1) := by decide +kernel
theorem dX7_removeBody_9 : decode cX7_removeBody 9 = .ok (.iconst 1, 1) := by decide +kernel
theorem dX7_removeBody_10 : decode cX7_removeBody 10 = .ok (.invokevirtual 218, 3) := by decide +kernel
theorem dX7_removeBody_13 : decode cX7_removeBody 13 = .ok (.ireturn, 1) := by decide +kernel
theorem dX7_removeBody_14 : decode cX7_removeBody 14 = .ok (.aload_n 0, 1) := by decide +kernel
theorem dX7_removeBody_15 : decode cX7_removeBody 15 = .ok (.iconst 0, 1) := by decide +kernel
theorem dX7_removeBody_16 : decode cX7_removeBody 16 = .ok (.putfield 45, 3) := by decide +kernel
theorem dX7_removeBody_19 : decode cX7_removeBody 19 = .ok (.aload_n 0, 1) := by decide +kernel
theorem dX7_removeBody_20 : decode cX7_removeBody 20 = .ok (.iconst 0, 1) := by decide +kernel
theorem dX7_removeBody_21 : decode cX7_removeBody 21 = .ok (.putfield 208, 3) := by decide +kernel
theorem dX7_removeBody_24 : decode cX7_removeBody 24 = .ok (.aload_n 0, 1) := by decide +kernel
theorem dX7_removeBody_25 : decode cX7_removeBody 25 = .ok (.getfield 7, 3) := by decide +kernel
theorem dX7_removeBody_28 : decode cX7_removeBody 28 = .ok (.sipush 464, 3) := by decide +kernel
theorem dX7_removeBody_31 : decode cX7_removeBody 31 = .ok (.dup2, 1) := by decide +kernel
theorem dX7_removeBody_32 : decode cX7_removeBody 32 = .ok (.iaload, 1) := by decide +kernel
theorem dX7_removeBody_33 : decode cX7_removeBody 33 = .ok (.iconst 1, 1) := by decide +kernel
theorem dX7_removeBody_34 : decode cX7_removeBody 34 = .ok (.isub, 1) := by decide +kernel
theorem dX7_removeBody_35 : decode cX7_removeBody 35 = .ok (.iastore, 1) := by decide +kernel
theorem dX7_removeBody_36 : decode cX7_removeBody 36 = .ok (.iload_n 1, 1) := by decide +kernel
theorem dX7_removeBody_37 : decode cX7_removeBody 37 = .ok (.istore_n 2, 1) := by decide +kernel
theorem dX7_removeBody_38 : decode cX7_removeBody 38 = .ok (.iload_n 2, 1) := by decide +kernel
theorem dX7_removeBody_39 : decode cX7_removeBody 39 = .ok (.aload_n 0, 1) := by decide +kernel
theorem dX7_removeBody_40 : decode cX7_removeBody 40 = .ok (.getfield 7, 3) := by decide +kernel
theorem dX7_removeBody_43 : decode cX7_removeBody 43 = .ok (.sipush 464, 3) := by decide +kernel
theorem dX7_removeBody_46 : decode cX7_removeBody 46 = .ok (.iaload, 1) := by decide +kernel
theorem dX7_removeBody_47 : decode cX7_removeBody 47 = .ok (.if_icmp .ge 37, 3) := by decide +kernel
theorem dX7_removeBody_50 : decode cX7_removeBody 50 = .ok (.iconst 0, 1) := by decide +kernel
theorem dX7_removeBody_51 : decode cX7_removeBody 51 = .ok (.istore_n 3, 1) := by decide +kernel
theorem dX7_removeBody_52 : decode cX7_removeBody 52 = .ok (.iload_n 3, 1) := by decide +kernel
theorem dX7_removeBody_53 : decode cX7_removeBody 53 = .ok (.bipush 24, 2) := by decide +kernel
theorem dX7_removeBody_55 : decode cX7_removeBody 55 = .ok (.if_icmp .ge 23, 3) := by decide +kernel
theorem dX7_removeBody_58 : decode cX7_removeBody 58 = .ok (.aload_n 0, 1) := by decide +kernel
theorem dX7_removeBody_59 : decode cX7_removeBody 59 = .ok (.iload_n 2, 1) := by decide +kernel
theorem dX7_removeBody_60 : decode cX7_removeBody 60 = .ok (.iload_n 3, 1) := by decide +kernel
theorem dX7_removeBody_61 : decode cX7_removeBody 61 = .ok (.aload_n 0, 1) := by decide +kernel
theorem dX7_removeBody_62 : decode cX7_removeBody 62 = .ok (.iload_n 2, 1) := by decide +kernel
theorem dX7_removeBody_63 : decode cX7_removeBody 63 = .ok (.iconst 1, 1) := by decide +kernel
theorem dX7_removeBody_64 : decode cX7_removeBody 64 = .ok (.iadd, 1) := by decide +kernel
theorem dX7_removeBody_65 : decode cX7_removeBody 65 = .ok (.iload_n 3, 1) := by decide +kernel
theorem dX7_removeBody_66 : decode cX7_removeBody 66 = .ok (.invokevirtual 68, 3) := by decide +kernel
theorem dX7_removeBody_69 : decode cX7_removeBody 69 = .ok (.invokevirtual 126, 3) := by decide +kernel
theorem dX7_removeBody_72 : decode cX7_removeBody 72 = .ok (.iinc 3 1, 3) := by decide +kernel
theorem dX7_removeBody_75 : decode cX7_removeBody 75 = .ok (.goto (-23), 3) := by decide +kernel
theorem dX7_removeBody_78 : decode cX7_removeBody 78 = .ok (.iinc 2 1, 3) := by decide +kernel
theorem dX7_removeBody_81 : decode cX7_removeBody 81 = .ok (.goto (-43), 3) := by decide +kernel
theorem dX7_removeBody_84 : decode cX7_removeBody 84 = .ok (.aload_n 0, 1) := by decide +kernel
theorem dX7_removeBody_85 : decode cX7_removeBody 85 = .ok (.getfield 7, 3) := by decide +kernel
theorem dX7_removeBody_88 : decode cX7_removeBody 88 = .ok (.sipush 464, 3) := by decide +kernel
theorem dX7_removeBody_91 : decode cX7_removeBody 91 = .ok (.iaload, 1) := by decide +kernel
theorem dX7_removeBody_92 : decode cX7_removeBody 92 = .ok (.ireturn, 1) := by decide +kernel
set_option maxRecDepth 20000 in
theorem ggX7_body_X7_isBody : GoodIn wsX7_body wsX7_isBody := goodIn_ca (goodIn_r _ [6, 7, 19, 20, 21, 22, 23, 24, 25, 26, 27, 28, 29, 30, 31, 32, 33, 34, 35] (by decide +kernel) (by decide +kernel)) (goodIn_sub (fun _ h => List.mem_cons_of_mem _ (List.mem_append_right _ h)) (by decide +kernel))
set_option maxRecDepth 20000 in
theorem gX7_body_X7_isBody : GoodIn wsX7_body (wsV RX7 224 RX7 yX7_isBody wsX7_isBody) := goodIn_app (goodIn_of _ (by decide +kernel)) ggX7_body_X7_isBody
set_option maxRecDepth 20000 in
theorem ggX7_body_X7_fails : GoodIn wsX7_body wsX7_fails := goodIn_r _ [11, 1, 19, 20, 21, 22, 23, 24, 25, 26, 27, 28, 29, 30, 31, 32, 33, 34, 35] (by decide +kernel) (by decide +kernel)
set_option maxRecDepth 20000 in
theorem gX7_body_X7_fails : GoodIn wsX7_body (wsV RX7 218 RX7 yX7_fails wsX7_fails) := goodIn_app (goodIn_of _ (by decide +kernel)) ggX7_body_X7_fails
set_option maxRecDepth 20000 in
theorem ggX7_body_X7_isBetween : GoodIn wsX7_body wsX7_isBetween := goodIn_r _ [14] (by decide +kernel) (by decide +kernel)
set_option maxRecDepth 20000 in
theorem gX7_body_X7_isBetween : GoodIn wsX7_body (va_wsS RX7 61 yX7_isBetween wsX7_isBetween) := goodIn_app (goodIn_of _ (by decide +kernel)) ggX7_body_X7_isBetween
set_option maxRecDepth 20000 in
theorem ggX7_body_X7_of : GoodIn wsX7_body wsX7_of := goodIn_ca (goodIn_r _ [18, 7, 19, 20, 21, 22, 23, 24, 25, 26, 27, 28, 29, 30, 31, 32, 33, 34, 35] (by decide +kernel) (by decide +kernel)) (goodIn_sub (fun _ h => List.mem_cons_of_mem _ (List.mem_append_right _ h)) (by decide +kernel))
set_option maxRecDepth 20000 in
theorem gX7_body_X7_of : GoodIn wsX7_body (wsV RX7 68 RX7 yX7_of wsX7_of) := goodIn_app (goodIn_of _ (by decide +kernel)) ggX7_body_X7_of
theorem dX7_body_0 : decode cX7_body 0 = .ok (.aload_n 0, 1) := by decide +kernel
theorem dX7_body_1 : decode cX7_body 1 = .ok (.iload_n 1, 1) := by decide +kernel
theorem dX7_body_2 : decode cX7_body 2 = .ok (.invokevirtual 224, 3) := by decide +kernel
theorem dX7_body_5 : decode cX7_body 5 = .ok (.ifCond .ne 9, 3) := by decide +kernel
theorem dX7_body_8 : decode cX7_body 8 = .ok (.aload_n 0, 1) := by decide +kernel
theorem dX7_body_9 : decode cX7_body 9 = .ok (.iconst 1, 1) := by decide +kernel
theorem dX7_body_10 : decode cX7_body 10 = .ok (.invokevirtual 218, 3) := by decide +kernel
theorem dX7_body_13 : decode cX7_body 13 = .ok (.ireturn, 1) := by decide +kernel
theorem dX7_body_14 : decode cX7_body 14 = .ok (.iload_n 2, 1) := by decide +kernel
theorem dX7_body_15 : decode cX7_body 15 = .ok (.iconst 0, 1) := by decide +kernel
theorem dX7_body_16 : decode cX7_body 16 = .ok (.bipush 9, 2) := by decide +kernel
theorem dX7_body_18 : decode cX7_body 18 = .ok (.invokestatic 61, 3) := by decide +kernel
theorem dX7_body_21 : decode cX7_body 21 = .ok (.ifCond .ne 9, 3) := by decide +kernel
theorem dX7_body_24 : decode cX7_body 24 = .ok (.aload_n 0, 1) := by decide +kernel
theorem dX7_body_25 : decode cX7_body 25 = .ok (.iconst 2, 1) := by decide +kernel
theorem dX7_body_26 : decode cX7_body 26 = .ok (.invokevirtual 218, 3) := by decide +kernel
theorem dX7_body_29 : decode cX7_body 29 = .ok (.ireturn, 1) := by decide +kernel
theorem dX7_body_30 : decode cX7_body 30 = .ok (.aload_n 0, 1) := by decide +kernel
theorem dX7_body_31 : decode cX7_body 31 = .ok (.iconst 0, 1) := by decide +kernel
theorem dX7_body_32 : decode cX7_body 32 = .ok (.putfield 45, 3) := by decide +kernel
theorem dX7_body_35 : decode cX7_body 35 = .ok (.aload_n 0, 1) := by decide +kernel
theorem dX7_body_36 : decode cX7_body 36 = .ok (.iload_n 1, 1) := by decide +kernel
theorem dX7_body_37 : decode cX7_body 37 = .ok (.iload_n 2, 1) := by decide +kernel
theorem dX7_body_38 : decode cX7_body 38 = .ok (.invokevirtual 68, 3) := by decide +kernel
theorem dX7_body_41 : decode cX7_body 41 = .ok (.ireturn, 1) := by decide +kernel
set_option maxRecDepth 20000 in
theorem ggX7_press_X7_isBody : GoodIn wsX7_press wsX7_isBody := goodIn_ca (goodIn_r _ [6, 7, 23, 24, 25, 26, 27, 28, 29, 30, 31, 32, 33, 34, 35, 36, 37, 38, 39] (by decide +kernel) (by decide +kernel)) (goodIn_sub (fun _ h => List.mem_cons_of_mem _ (List.mem_append_right _ h)) (by decide +kernel))
set_option maxRecDepth 20000 in
theorem gX7_press_X7_isBody : GoodIn wsX7_press (wsV RX7 224 RX7 yX7_isBody wsX7_isBody) := goodIn_app (goodIn_of _ (by decide +kernel)) ggX7_press_X7_isBody
set_option maxRecDepth 20000 in
theorem ggX7_press_X7_fails : GoodIn wsX7_press wsX7_fails := goodIn_r _ [11, 1, 23, 24, 25, 26, 27, 28, 29, 30, 31, 32, 33, 34, 35, 36, 37, 38, 39] (by decide +kernel) (by decide +kernel)
set_option maxRecDepth 20000 in
theorem gX7_press_X7_fails : GoodIn wsX7_press (wsV RX7 218 RX7 yX7_fails wsX7_fails) := goodIn_app (goodIn_of _ (by decide +kernel)) ggX7_press_X7_fails
set_option maxRecDepth 20000 in
theorem ggX7_press_X7_isBetween : GoodIn wsX7_press wsX7_isBetween := goodIn_r _ [14] (by decide +kernel) (by decide +kernel)
set_option maxRecDepth 20000 in
theorem gX7_press_X7_isBetween : GoodIn wsX7_press (va_wsS RX7 61 yX7_isBetween wsX7_isBetween) := goodIn_app (goodIn_of _ (by decide +kernel)) ggX7_press_X7_isBetween
set_option maxRecDepth 20000 in
theorem ggX7_press_X7_of : GoodIn wsX7_press wsX7_of := goodIn_ca (goodIn_r _ [18, 7, 23, 24, 25, 26, 27, 28, 29, 30, 31, 32, 33, 34, 35, 36, 37, 38, 39] (by decide +kernel) (by decide +kernel)) (goodIn_sub (fun _ h => List.mem_cons_of_mem _ (List.mem_append_right _ h)) (by decide +kernel))
set_option maxRecDepth 20000 in
theorem gX7_press_X7_of : GoodIn wsX7_press (wsV RX7 68 RX7 yX7_of wsX7_of) := goodIn_app (goodIn_of _ (by decide +kernel)) ggX7_press_X7_of
set_option maxRecDepth 20000 in
theorem ggX7_press_X7_sets : GoodIn wsX7_press wsX7_sets := goodIn_ca (goodIn_r _ [22, 7, 23, 24, 25, 26, 27, 28, 29, 30, 31, 32, 33, 34, 35, 36, 37, 38, 39] (by decide +kernel) (by decide +kernel)) (goodIn_sub (fun _ h => List.mem_cons_of_mem _ (List.mem_append_right _ h)) (by decide +kernel))
set_option maxRecDepth 20000 in
theorem gX7_press_X7_sets : GoodIn wsX7_press (wsV RX7 126 RX7 yX7_sets wsX7_sets) := goodIn_app (goodIn_of _ (by decide +kernel)) ggX7_press_X7_sets
theorem dX7_press_0 : decode cX7_press 0 = .ok (.aload_n 0, 1) := by decide +kernel
theorem dX7_press_1 : decode cX7_press 1 = .ok (.iload_n 1, 1) := by decide +kernel
theorem dX7_press_2 : decode cX7_press 2 = .ok (.invokevirtual 224, 3) := by decide +kernel
theorem dX7_press_5 : decode cX7_press 5 = .ok (.ifCond .ne 9, 3) := by decide +kernel
theorem dX7_press_8 : decode cX7_press 8 = .ok (.aload_n 0, 1) := by decide +kernel
theorem dX7_press_9 : decode cX7_press 9 = .ok (.iconst 1, 1) := by decide +kernel
theorem dX7_press_10 : decode cX7_press 10 = .ok (.invokevirtual 218, 3) := by decide +kernel
theorem dX7_press_13 : decode cX7_press 13 = .ok (.ireturn, 1) := by decide +kernel
theorem dX7_press_14 : decode cX7_press 14 = .ok (.iload_n 2, 1) := by decide +kernel
theorem dX7_press_15 : decode cX7_press 15 = .ok (.iconst 0, 1) := by decide +kernel
theorem dX7_press_16 : decode cX7_press 16 = .ok (.bipush 15, 2) := by decide +kernel
theorem dX7_press_18 : decode cX7_press 18 = .ok (.invokestatic 61, 3) := by decide +kernel
theorem dX7_press_21 : decode cX7_press 21 = .ok (.ifCond .ne 9, 3) := by decide +kernel
theorem dX7_press_24 : decode cX7_press 24 = .ok (.aload_n 0, 1) := by decide +kernel
theorem dX7_press_25 : decode cX7_press 25 = .ok (.iconst 2, 1) := by decide +kernel
theorem dX7_press_26 : decode cX7_press 26 = .ok (.invokevirtual 218, 3) := by decide +kernel
theorem dX7_press_29 : decode cX7_press 29 = .ok (.ireturn, 1) := by decide +kernel
theorem dX7_press_30 : decode cX7_press 30 = .ok (.aload_n 0, 1) := by decide +kernel
theorem dX7_press_31 : decode cX7_press 31 = .ok (.iconst 0, 1) := by decide +kernel
theorem dX7_press_32 : decode cX7_press 32 = .ok (.putfield 45, 3) := by decide +kernel
theorem dX7_press_35 : decode cX7_press 35 = .ok (.aload_n 0, 1) := by decide +kernel
theorem dX7_press_36 : decode cX7_press 36 = .ok (.iload_n 1, 1) := by decide +kernel
theorem dX7_press_37 : decode cX7_press 37 = .ok (.bipush 9, 2) := by decide +kernel
theorem dX7_press_39 : decode cX7_press 39 = .ok (.invokevirtual 68, 3) := by decide +kernel
theorem dX7_press_42 : decode cX7_press 42 = .ok (.istore_n 3, 1) := by decide +kernel
theorem dX7_press_43 : decode cX7_press 43 = .ok (.aload_n 0, 1) := by decide +kernel
theorem dX7_press_44 : decode cX7_press 44 = .ok (.iload_n 1, 1) := by decide +kernel
theorem dX7_press_45 : decode cX7_press 45 = .ok (.bipush 9, 2) := by decide +kernel
theorem dX7_press_47 : decode cX7_press 47 = .ok (.iload_n 2, 1) := by decide +kernel
theorem dX7_press_48 : decode cX7_press 48 = .ok (.invokevirtual 126, 3) := by decide +kernel
theorem dX7_press_51 : decode cX7_press 51 = .ok (.iload_n 3, 1) := by decide +kernel
theorem dX7_press_52 : decode cX7_press 52 = .ok (.ireturn, 1) := by decide +kernel
set_option maxRecDepth 20000 in
theorem ggX7_push_X7_isBody : GoodIn wsX7_push wsX7_isBody := goodIn_ca (goodIn_r _ [6, 7, 23, 24, 25, 26, 27, 28, 29, 30, 31, 32, 33, 34, 35, 36, 37, 38, 39] (by decide +kernel) (by decide +kernel)) (goodIn_sub (fun _ h => List.mem_cons_of_mem _ (List.mem_append_right _ h)) (by decide +kernel))
set_option maxRecDepth 20000 in
theorem gX7_push_X7_isBody : GoodIn wsX7_push (wsV RX7 224 RX7 yX7_isBody wsX7_isBody) := goodIn_app (goodIn_of _ (by decide +kernel)) ggX7_push_X7_isBody
set_option maxRecDepth 20000 in
theorem ggX7_push_X7_fails : GoodIn wsX7_push wsX7_fails := goodIn_r _ [11, 1, 23, 24, 25, 26, 27, 28, 29, 30, 31, 32, 33, 34, 35, 36, 37, 38, 39] (by decide +kernel) (by decide +kernel)
set_option maxRecDepth 20000 in
theorem gX7_push_X7_fails : GoodIn wsX7_push (wsV RX7 218 RX7 yX7_fails wsX7_fails) := goodIn_app (goodIn_of _ (by decide +kernel)) ggX7_push_X7_fails
set_option maxRecDepth 20000 in
theorem ggX7_push_X7_isBetween : GoodIn wsX7_push wsX7_isBetween := goodIn_r _ [14] (by decide +kernel) (by decide +kernel)
set_option maxRecDepth 20000 in
theorem gX7_push_X7_isBetween : GoodIn wsX7_push (va_wsS RX7 61 yX7_isBetween wsX7_isBetween) := goodIn_app (goodIn_of _ (by decide +kernel)) ggX7_push_X7_isBetween
set_option maxRecDepth 20000 in
theorem ggX7_push_X7_of : GoodIn wsX7_push wsX7_of := goodIn_ca (goodIn_r _ [18, 7, 23, 24, 25, 26, 27, 28, 29, 30, 31, 32, 33, 34, 35, 36, 37, 38, 39] (by decide +kernel) (by decide +kernel)) (goodIn_sub (fun _ h => List.mem_cons_of_mem _ (List.mem_append_right _ h)) (by decide +kernel))
set_option maxRecDepth 20000 in
theorem gX7_push_X7_of : GoodIn wsX7_push (wsV RX7 68 RX7 yX7_of wsX7_of) := goodIn_app (goodIn_of _ (by decide +kernel)) ggX7_push_X7_of
set_option maxRecDepth 20000 in
theorem ggX7_push_X7_sets : GoodIn wsX7_push wsX7_sets := goodIn_ca (goodIn_r _ [22, 7, 23, 24, 25, 26, 27, 28, 29, 30, 31, 32, 33, 34, 35, 36, 37, 38, 39] (by decide +kernel) (by decide +kernel)) (goodIn_sub (fun _ h => List.mem_cons_of_mem _ (List.mem_append_right _ h)) (by decide +kernel))
set_option maxRecDepth 20000 in
theorem gX7_push_X7_sets : GoodIn wsX7_push (wsV RX7 126 RX7 yX7_sets wsX7_sets) := goodIn_app (goodIn_of _ (by decide +kernel)) ggX7_push_X7_sets
theorem dX7_push_0 : decode cX7_push 0 = .ok (.aload_n 0, 1) := by decide +kernel
theorem dX7_push_1 : decode cX7_push 1 = .ok (.iload_n 1, 1) := by decide +kernel
theorem dX7_push_2 : decode cX7_push 2 = .ok (.invokevirtual 224, 3) := by decide +kernel
theorem dX7_push_5 : decode cX7_push 5 = .ok (.ifCond .ne 9, 3) := by decide +kernel
theorem dX7_push_8 : decode cX7_push 8 = .ok (.aload_n 0, 1) := by decide +kernel
theorem dX7_push_9 : decode cX7_push 9 = .ok (.iconst 1, 1) := by decide +kernel
theorem dX7_push_10 : decode cX7_push 10 = .ok (.invokevirtual 218, 3) := by decide +kernel
theorem dX7_push_13 : decode cX7_push 13 = .ok (.ireturn, 1) := by decide +kernel
theorem dX7_push_14 : decode cX7_push 14 = .ok (.iload_n 2, 1) := by decide +kernel
theorem dX7_push_15 : decode cX7_push 15 = .ok (.bipush (-16), 2) := by decide +kernel
theorem dX7_push_17 : decode cX7_push 17 = .ok (.bipush 16, 2) := by decide +kernel
theorem dX7_push_19 : decode cX7_push 19 = .ok (.invokestatic 61, 3) := by decide +kernel
theorem dX7_push_22 : decode cX7_push 22 = .ok (.ifCond .eq 14, 3) := by decide +kernel
theorem dX7_push_25 : decode cX7_push 25 = .ok (.iload_n 3, 1) := by decide +kernel
theorem dX7_push_26 : decode cX7_push 26 = .ok (.bipush (-12), 2) := by decide +kernel
theorem dX7_push_28 : decode cX7_push 28 = .ok (.bipush 16, 2) := by decide +kernel
theorem dX7_push_30 : decode cX7_push 30 = .ok (.invokestatic 61, 3) := by decide +kernel
theorem dX7_push_33 : decode cX7_push 33 = .ok (.ifCond .ne 9, 3) := by decide +kernel
theorem dX7_push_36 : decode cX7_push 36 = .ok (.aload_n 0, 1) := by decide +kernel
theorem dX7_push_37 : decode cX7_push 37 = .ok (.iconst 2, 1) := by decide +kernel
theorem dX7_push_38 : decode cX7_push 38 = .ok (.invokevirtual 218, 3) := by decide +kernel
theorem dX7_push_41 : decode cX7_push 41 = .ok (.ireturn, 1) := by decide +kernel
theorem dX7_push_42 : decode cX7_push 42 = .ok (.aload_n 0, 1) := by decide +kernel
theorem dX7_push_43 : decode cX7_push 43 = .ok (.iconst 0, 1) := by decide +kernel
theorem dX7_push_44 : decode cX7_push 44 = .ok (.putfield 45, 3) := by decide +kernel
theorem dX7_push_47 : decode cX7_push 47 = .ok (.aload_n 0, 1) := by decide +kernel
theorem dX7_push_48 : decode cX7_push 48 = .ok (.iload_n 1, 1) := by decide +kernel
theorem dX7_push_49 : decode cX7_push 49 = .ok (.iconst 2, 1) := by decide +kernel
theorem dX7_push_50 : decode cX7_push 50 = .ok (.invokevirtual 68, 3) := by decide +kernel
theorem dX7_push_53 : decode cX7_push 53 = .ok (.aload_n 0, 1) := by decide +kernel
theorem dX7_push_54 : decode cX7_push 54 = .ok (.iload_n 1, 1) := by decide +kernel
theorem dX7_push_55 : decode cX7_push 55 = .ok (.iconst 2, 1) := by decide +kernel
theorem dX7_push_56 : decode cX7_push 56 = .ok (.invokevirtual 68, 3) := by decide +kernel
theorem dX7_push_59 : decode cX7_push 59 = .ok (.imul, 1) := by decide +kernel
theorem dX7_push_60 : decode cX7_push 60 = .ok (.aload_n 0, 1) := by decide +kernel
theorem dX7_push_61 : decode cX7_push 61 = .ok (.iload_n 1, 1) := by decide +kernel
theorem dX7_push_62 : decode cX7_push 62 = .ok (.iconst 3, 1) := by decide +kernel
theorem dX7_push_63 : decode cX7_push 63 = .ok (.invokevirtual 68, 3) := by decide +kernel
theorem dX7_push_66 : decode cX7_push 66 = .ok (.aload_n 0, 1) := by decide +kernel
theorem dX7_push_67 : decode cX7_push 67 = .ok (.iload_n 1, 1) := by decide +kernel
theorem dX7_push_68 : decode cX7_push 68 = .ok (.iconst 3, 1) := by decide +kernel
theorem dX7_push_69 : decode cX7_push 69 = .ok (.invokevirtual 68, 3) := by decide +kernel
theorem dX7_push_72 : decode cX7_push 72 = .ok (.imul, 1) := by decide +kernel
theorem dX7_push_73 : decode cX7_push 73 = .ok (.iadd, 1) := by decide +kernel
theorem dX7_push_74 : decode cX7_push 74 = .ok (.istore 4, 2) := by decide +kernel
theorem dX7_push_76 : decode cX7_push 76 = .ok (.aload_n 0, 1) := by decide +kernel
theorem dX7_push_77 : decode cX7_push 77 = .ok (.iload_n 1, 1) := by decide +kernel
theorem dX7_push_78 : decode cX7_push 78 = .ok (.iconst 2, 1) := by decide +kernel
theorem dX7_push_79 : decode cX7_push 79 = .ok (.iload_n 2, 1) := by decide +kernel
theorem dX7_push_80 : decode cX7_push 80 = .ok (.invokevirtual 126, 3) := by decide +kernel
theorem dX7_push_83 : decode cX7_push 83 = .ok (.aload_n 0, 1) := by decide +kernel
theorem dX7_push_84 : decode cX7_push 84 = .ok (.iload_n 1, 1) := by decide +kernel
theorem dX7_push_85 : decode cX7_push 85 = .ok (.iconst 3, 1) := by decide +kernel
theorem dX7_push_86 : decode cX7_push 86 = .ok (.iload_n 3, 1) := by decide +kernel
theorem dX7_push_87 : decode cX7_push 87 = .ok (.invokevirtual 126, 3) := by decide +kernel
theorem dX7_push_90 : decode cX7_push 90 = .ok (.aload_n 0, 1) := by decide +kernel
theorem dX7_push_91 : decode cX7_push 91 = .ok (.iload_n 1, 1) := by decide +kernel
theorem dX7_push_92 : decode cX7_push 92 = .ok (.bipush 11, 2) := by decide +kernel
theorem dX7_push_94 : decode cX7_push 94 = .ok (.iconst 0, 1) := by decide +kernel
theorem dX7_push_95 : decode cX7_push 95 = .ok (.invokevirtual 126, 3) := by decide +kernel
theorem dX7_push_98 : decode cX7_push 98 = .ok (.iload 4, 2) := by decide +kernel
theorem dX7_push_100 : decode cX7_push 100 = .ok (.ireturn, 1) := by decide +kernel
set_option maxRecDepth 20000 in
theorem ggX7_addPlatform_X7_isBetween : GoodIn wsX7_addPlatform wsX7_isBetween := goodIn_r _ [7] (by decide +kernel) (by decide +kernel)
set_option maxRecDepth 20000 in
theorem gX7_addPlatform_X7_isBetween : GoodIn wsX7_addPlatform (va_wsS RX7 61 yX7_isBetween wsX7_isBetween) := goodIn_app (goodIn_of _ (by decide +kernel)) ggX7_addPlatform_X7_isBetween
set_option maxRecDepth 20000 in
theorem ggX7_addPlatform_X7_fails : GoodIn wsX7_addPlatform wsX7_fails := goodIn_r _ [11, 2, 16, 17, 18, 19, 20, 21, 22, 23, 24, 25, 26, 27, 28, 29, 30, 31, 32] (by decide +kernel) (by decide +kernel)
set_option maxRecDepth 20000 in
theorem gX7_addPlatform_X7_fails : GoodIn wsX7_addPlatform (wsV RX7 218 RX7 yX7_fails wsX7_fails) := goodIn_app (goodIn_of _ (by decide +kernel)) ggX7_addPlatform_X7_fails
set_option maxRecDepth 20000 in
theorem ggX7_addPlatform_X7_setsPlate : GoodIn wsX7_addPlatform wsX7_setsPlate := goodIn_ca (goodIn_r _ [15, 1, 16, 17, 18, 19, 20, 21, 22, 23, 24, 25, 26, 27, 28, 29, 30, 31, 32] (by decide +kernel) (by decide +kernel)) (goodIn_sub (fun _ h => List.mem_cons_of_mem _ (List.mem_append_right _ h)) (by decide +kernel))
set_option maxRecDepth 20000 in
theorem gX7_addPlatform_X7_setsPlate : GoodIn wsX7_addPlatform (wsV RX7 144 RX7 yX7_setsPlate wsX7_setsPlate) := goodIn_app (goodIn_of _ (by decide +kernel)) ggX7_addPlatform_X7_setsPlate
theorem dX7_addPlatform_0 : decode cX7_addPlatform 0 = .ok (.iload_n 1, 1) := by decide +kernel
theorem dX7_addPlatform_1 : decode cX7_addPlatform 1 = .ok (.iconst 0, 1) := by decide +kernel
theorem dX7_addPlatform_2 : decode cX7_addPlatform 2 = .ok (.sipush 383, 3) := by decide +kernel
theorem dX7_addPlatform_5 : decode cX7_addPlatform 5 = .ok (.invokestatic 61, 3) := by decide +kernel
theorem dX7_addPlatform_8 : decode cX7_addPlatform 8 = .ok (.ifCond .eq 58, 3) := by decide +kernel
theorem dX7_addPlatform_11 : decode cX7_addPlatform 11 = .ok (.iload_n 2, 1) := by decide +kernel
theorem dX7_addPlatform_12 : decode cX7_addPlatform 12 = .ok (.iconst 0, 1) := by decide +kernel
theorem dX7_addPlatform_13 : decode cX7_addPlatform 13 = .ok (.sipush 223, 3) := by decide +kernel
theorem dX7_addPlatform_16 : decode cX7_addPlatform 16 = .ok (.invokestatic 61, 3) := by decide +kernel
theorem dX7_addPlatform_19 : decode cX7_addPlatform 19 = .ok (.ifCond .eq 47, 3) := by decide +kernel
theorem dX7_addPlatform_22 : decode cX7_addPlatform 22 = .ok (.iload_n 3, 1) := by decide +kernel
theorem dX7_addPlatform_23 : decode cX7_addPlatform 23 = .ok (.bipush 16, 2) := by decide +kernel
theorem dX7_addPlatform_25 : decode cX7_addPlatform 25 = .ok (.bipush 64, 2) := by decide +kernel
theorem dX7_addPlatform_27 : decode cX7_addPlatform 27 = .ok (.invokestatic 61, 3) := by decide +kernel
theorem dX7_addPlatform_30 : decode cX7_addPlatform 30 = .ok (.ifCond .eq 36, 3) := by decide +kernel
theorem dX7_addPlatform_33 : decode cX7_addPlatform 33 = .ok (.iload 4, 2) := by decide +kernel
theorem dX7_addPlatform_35 : decode cX7_addPlatform 35 = .ok (.bipush (-2), 2) := by decide +kernel
theorem dX7_addPlatform_37 : decode cX7_addPlatform 37 = .ok (.iconst 2, 1) := by decide +kernel
theorem dX7_addPlatform_38 : decode cX7_addPlatform 38 = .ok (.invokestatic 61, 3) := by decide +kernel
theorem dX7_addPlatform_41 : decode cX7_addPlatform 41 = .ok (.ifCond .eq 25, 3) := by decide +kernel
theorem dX7_addPlatform_44 : decode cX7_addPlatform 44 = .ok (.iload 5, 2) := by decide +kernel
theorem dX7_addPlatform_46 : decode cX7_addPlatform 46 = .ok (.bipush (-2), 2) := by decide +kernel
theorem dX7_addPlatform_48 : decode cX7_addPlatform 48 = .ok (.iconst 2, 1) := by decide +kernel
theorem dX7_addPlatform_49 : decode cX7_addPlatform 49 = .ok (.invokestatic 61, 3) := by decide +kernel
theorem dX7_addPlatform_52 : decode cX7_addPlatform 52 = .ok (.ifCond .eq 14, 3) := by decide +kernel
theorem dX7_addPlatform_55 : decode cX7_addPlatform 55 = .ok (.iload 6, 2) := by decide +kernel
theorem dX7_addPlatform_57 : decode cX7_addPlatform 57 = .ok (.iconst 1, 1) := by decide +kernel
theorem dX7_addPlatform_58 : decode cX7_addPlatform 58 = .ok (.bipush 60, 2) := by decide +kernel
theorem dX7_addPlatform_60 : decode cX7_addPlatform 60 = .ok (.invokestatic 61, 3) := by decide +kernel
theorem dX7_addPlatform_63 : decode cX7_addPlatform 63 = .ok (.ifCond .ne 9, 3) := by decide +kernel
theorem dX7_addPlatform_66 : decode cX7_addPlatform 66 = .ok (.aload_n 0, 1) := by decide +kernel
theorem dX7_addPlatform_67 : decode cX7_addPlatform 67 = .ok (.iconst 1, 1) := by decide +kernel
theorem dX7_addPlatform_68 : decode cX7_addPlatform 68 = .ok (.invokevirtual 218, 3) := by decide +kernel
theorem dX7_addPlatform_71 : decode cX7_addPlatform 71 = .ok (.ireturn, 1) := by decide +kernel
theorem dX7_addPlatform_72 : decode cX7_addPlatform 72 = .ok (.aload_n 0, 1) := by decide +kernel
theorem dX7_addPlatform_73 : decode cX7_addPlatform 73 = .ok (.getfield 7, 3) := by decide +kernel
theorem dX7_addPlatform_76 : decode cX7_addPlatform 76 = .ok (.sipush 465, 3) := by decide +kernel
theorem dX7_addPlatform_79 : decode cX7_addPlatform 79 = .ok (.iaload, 1) := by decide +kernel
theorem dX7_addPlatform_80 : decode cX7_addPlatform 80 = .ok (.istore 7, 2) := by decide +kernel
theorem dX7_addPlatform_82 : decode cX7_addPlatform 82 = .ok (.iload 7, 2) := by decide +kernel
theorem dX7_addPlatform_84 : decode cX7_addPlatform 84 = .ok (.iconst 4, 1) := by decide +kernel
theorem dX7_addPlatform_85 : decode cX7_addPlatform 85 = .ok (.if_icmp .ne 9, 3) := by decide +kernel
theorem dX7_addPlatform_88 : decode cX7_addPlatform 88 = .ok (.aload_n 0, 1) := by decide +kernel
theorem dX7_addPlatform_89 : decode cX7_addPlatform 89 = .ok (.iconst 2, 1) := by decide +kernel
theorem dX7_addPlatform_90 : decode cX7_addPlatform 90 = .ok (.invokevirtual 218, 3) := by decide +kernel
theorem dX7_addPlatform_93 : decode cX7_addPlatform 93 = .ok (.ireturn, 1) := by decide +kernel
theorem dX7_addPlatform_94 : decode cX7_addPlatform 94 = .ok (.aload_n 0, 1) := by decide +kernel
theorem dX7_addPlatform_95 : decode cX7_addPlatform 95 = .ok (.iconst 0, 1) := by decide +kernel
theorem dX7_addPlatform_96 : decode cX7_addPlatform 96 = .ok (.putfield 45, 3) := by decide +kernel
theorem dX7_addPlatform_99 : decode cX7_addPlatform 99 = .ok (.aload_n 0, 1) := by decide +kernel
theorem dX7_addPlatform_100 : decode cX7_addPlatform 100 = .ok (.iconst 0, 1) := by decide +kernel
theorem dX7_addPlatform_101 : decode cX7_addPlatform 101 = .ok (.putfield 208, 3) := by decide +kernel
theorem dX7_addPlatform_104 : decode cX7_addPlatform 104 = .ok (.aload_n 0, 1) := by decide +kernel
theorem dX7_addPlatform_105 : decode cX7_addPlatform 105 = .ok (.iload 7, 2) := by decide +kernel
theorem dX7_addPlatform_107 : decode cX7_addPlatform 107 = .ok (.iconst 0, 1) := by decide +kernel
theorem dX7_addPlatform_108 : decode cX7_addPlatform 108 = .ok (.iload_n 1, 1) := by decide +kernel
theorem dX7_addPlatform_109 : decode cX7_addPlatform 109 = .ok (.invokevirtual 144, 3) := by decide +kernel
theorem dX7_addPlatform_112 : decode cX7_addPlatform 112 = .ok (.aload_n 0, 1) := by decide +kernel
theorem dX7_addPlatform_113 : decode cX7_addPlatform 113 = .ok (.iload 7, 2) := by decide +kernel
theorem dX7_addPlatform_115 : decode cX7_addPlatform 115 = .ok (.iconst 1, 1) := by decide +kernel
theorem dX7_addPlatform_116 : decode cX7_addPlatform 116 = .ok (.iload_n 2, 1) := by decide +kernel
theorem dX7_addPlatform_117 : decode cX7_addPlatform 117 = .ok (.invokevirtual 144, 3) := by decide +kernel
theorem dX7_addPlatform_120 : decode cX7_addPlatform 120 = .ok (.aload_n 0, 1) := by decide +kernel
theorem dX7_addPlatform_121 : decode cX7_addPlatform 121 = .ok (.iload 7, 2) := by decide +kernel
theorem dX7_addPlatform_123 : decode cX7_addPlatform 123 = .ok (.iconst 2, 1) := by decide +kernel
theorem dX7_addPlatform_124 : decode cX7_addPlatform 124 = .ok (.iload_n 3, 1) := by decide +kernel
theorem dX7_addPlatform_125 : decode cX7_addPlatform 125 = .ok (.invokevirtual 144, 3) := by decide +kernel
theorem dX7_addPlatform_128 : decode cX7_addPlatform 128 = .ok (.aload_n 0, 1) := by decide +kernel
theorem dX7_addPlatform_129 : decode cX7_addPlatform 129 = .ok (.iload 7, 2) := by decide +kernel
theorem dX7_addPlatform_131 : decode cX7_addPlatform 131 = .ok (.iconst 3, 1) := by decide +kernel
theorem dX7_addPlatform_132 : decode cX7_addPlatform 132 = .ok (.iload 4, 2) := by decide +kernel
theorem dX7_addPlatform_134 : decode cX7_addPlatform 134 = .ok (.invokevirtual 144, 3) := by decide +kernel
theorem dX7_addPlatform_137 : decode cX7_addPlatform 137 = .ok (.aload_n 0, 1) := by decide +kernel
theorem dX7_addPlatform_138 : decode cX7_addPlatform 138 = .ok (.iload 7, 2) := by decide +kernel
theorem dX7_addPlatform_140 : decode cX7_addPlatform 140 = .ok (.iconst 4, 1) := by decide +kernel
theorem dX7_addPlatform_141 : decode cX7_addPlatform 141 = .ok (.iload 5, 2) := by decide +kernel
theorem dX7_addPlatform_143 : decode cX7_addPlatform 143 = .ok (.invokevirtual 144, 3) := by decide +kernel
theorem dX7_addPlatform_146 : decode cX7_addPlatform 146 = .ok (.aload_n 0, 1) := by decide +kernel
theorem dX7_addPlatform_147 : decode cX7_addPlatform 147 = .ok (.iload 7, 2) := by decide +kernel
theorem dX7_addPlatform_149 : decode cX7_addPlatform 149 = .ok (.iconst 5, 1) := by decide +kernel
theorem dX7_addPlatform_150 : decode cX7_addPlatform 150 = .ok (.iload 6, 2) := by decide +kernel
theorem dX7_addPlatform_152 : decode cX7_addPlatform 152 = .ok (.invokevirtual 144, 3) := by decide +kernel
theorem dX7_addPlatform_155 : decode cX7_addPlatform 155 = .ok (.aload_n 0, 1) := by decide +kernel
theorem dX7_addPlatform_156 : decode cX7_addPlatform 156 = .ok (.iload 7, 2) := by decide +kernel
theorem dX7_addPlatform_158 : decode cX7_addPlatform 158 = .ok (.bipush 6, 2) := by decide +kernel
theorem dX7_addPlatform_160 : decode cX7_addPlatform 160 = .ok (.iload 6, 2) := by decide +kernel
theorem dX7_addPlatform_162 : decode cX7_addPlatform 162 = .ok (.invokevirtual 144, 3) := by decide +kernel
theorem dX7_addPlatform_165 : decode cX7_addPlatform 165 = .ok (.aload_n 0, 1) := by decide +kernel
theorem dX7_addPlatform_166 : decode cX7_addPlatform 166 = .ok (.getfield 7, 3) := by decide +kernel
theorem dX7_addPlatform_169 : decode cX7_addPlatform 169 = .ok (.sipush 465, 3) := by decide +kernel
theorem dX7_addPlatform_172 : decode cX7_addPlatform 172 = .ok (.dup2, 1) := by decide +kernel
theorem dX7_addPlatform_173 : decode cX7_addPlatform 173 = .ok (.iaload, 1) := by decide +kernel
theorem dX7_addPlatform_174 : decode cX7_addPlatform 174 = .ok (.iconst 1, 1) := by decide +kernel
theorem dX7_addPlatform_175 : decode cX7_addPlatform 175 = .ok (.iadd, 1) := by decide +kernel
theorem dX7_addPlatform_176 : decode cX7_addPlatform 176 = .ok (.iastore, 1) := by decide +kernel
theorem dX7_addPlatform_177 : decode cX7_addPlatform 177 = .ok (.iload 7, 2) := by decide +kernel
theorem dX7_addPlatform_179 : decode cX7_addPlatform 179 = .ok (.ireturn, 1) := by decide +kernel
theorem dX7_isPlatform_0 : decode cX7_isPlatform 0 = .ok (.iload_n 1, 1) := by decide +kernel
theorem dX7_isPlatform_1 : decode cX7_isPlatform 1 = .ok (.ifCond .lt 19, 3) := by decide +kernel
theorem dX7_isPlatform_4 : decode cX7_isPlatform 4 = .ok (.iload_n 1, 1) := by decide +kernel
theorem dX7_isPlatform_5 : decode cX7_isPlatform 5 = .ok (.aload_n 0, 1) := by decide +kernel
theorem dX7_isPlatform_6 : decode cX7_isPlatform 6 = .ok (.getfield 7, 3) := by decide +kernel
theorem dX7_isPlatform_9 : decode cX7_isPlatform 9 = .ok (.sipush 465, 3) := by decide +kernel
theorem dX7_isPlatform_12 : decode cX7_isPlatform 12 = .ok (.iaload, 1) := by decide +kernel
theorem dX7_isPlatform_13 : decode cX7_isPlatform 13 = .ok (.if_icmp .ge 7, 3) := by decide +kernel
theorem dX7_isPlatform_16 : decode cX7_isPlatform 16 = .ok (.iconst 1, 1) := by decide +kernel
theorem dX7_isPlatform_17 : decode cX7_isPlatform 17 = .ok (.goto 4, 3) := by decide +kernel
theorem dX7_isPlatform_20 : decode cX7_isPlatform 20 = .ok (.iconst 0, 1) := by decide +kernel
theorem dX7_isPlatform_21 : decode cX7_isPlatform 21 = .ok (.ireturn, 1) := by decide +kernel
set_option maxRecDepth 20000 in
theorem ggX7_removePlatform_X7_isPlatform : GoodIn wsX7_removePlatform wsX7_isPlatform := goodIn_ca (goodIn_r _ [8, 3, 21, 22, 23, 24, 25, 26, 27, 28, 29, 30, 31, 32, 33, 34, 35, 36, 37] (by decide +kernel) (by decide +kernel)) (goodIn_sub (fun _ h => List.mem_cons_of_mem _ (List.mem_append_right _ h)) (by decide +kernel))
set_option maxRecDepth 20000 in
theorem gX7_removePlatform_X7_isPlatform : GoodIn wsX7_removePlatform (wsV RX7 234 RX7 yX7_isPlatform wsX7_isPlatform) := goodIn_app (goodIn_of _ (by decide +kernel)) ggX7_removePlatform_X7_isPlatform
set_option maxRecDepth 20000 in
theorem ggX7_removePlatform_X7_fails : GoodIn wsX7_removePlatform wsX7_fails := goodIn_r _ [12, 1, 21, 22, 23, 24, 25, 26, 27, 28, 29, 30, 31, 32, 33, 34, 35, 36, 37] (by decide +kernel) (by decide +kernel)
set_option maxRecDepth 20000 in
theorem gX7_removePlatform_X7_fails : GoodIn wsX7_removePlatform (wsV RX7 218 RX7 yX7_fails wsX7_fails) := goodIn_app (goodIn_of _ (by decide +kernel)) ggX7_removePlatform_X7_fails
set_option maxRecDepth 20000 in
theorem ggX7_removePlatform_X7_plate : GoodIn wsX7_removePlatform wsX7_plate := goodIn_ca (goodIn_r _ [16, 3, 21, 22, 23, 24, 25, 26, 27, 28, 29, 30, 31, 32, 33, 34, 35, 36, 37] (by decide +kernel) (by decide +kernel)) (goodIn_sub (fun _ h => List.mem_cons_of_mem _ (List.mem_append_right _ h)) (by decide +kernel))
set_option maxRecDepth 20000 in
theorem gX7_removePlatform_X7_plate : GoodIn wsX7_removePlatform (wsV RX7 94 RX7 yX7_plate wsX7_plate) := goodIn_app (goodIn_of _ (by decide +kernel)) ggX7_removePlatform_X7_plate
set_option maxRecDepth 20000 in
theorem ggX7_removePlatform_X7_setsPlate : GoodIn wsX7_removePlatform wsX7_setsPlate := goodIn_ca (goodIn_r _ [20, 3, 21, 22, 23, 24, 25, 26, 27, 28, 29, 30, 31, 32, 33, 34, 35, 36, 37] (by decide +kernel) (by decide +kernel)) (goodIn_sub (fun _ h => List.mem_cons_of_mem _ (List.mem_append_right _ h)) (by decide +kernel))
set_option maxRecDepth 20000 in
theorem gX7_removePlatform_X7_setsPlate : GoodIn wsX7_removePlatform (wsV RX7 144 RX7 yX7_setsPlate wsX7_setsPlate) := goodIn_app (goodIn_of _ (by decide +kernel)) ggX7_removePlatform_X7_setsPlate
theorem dX7_removePlatform_0 : decode cX7_removePlatform 0 = .ok (.aload_n 0, 1) := by decide +kernel
theorem dX7_removePlatform_1 : decode cX7_removePlatform 1 = .ok (.iload_n 1, 1) := by decide +kernel
theorem dX7_removePlatform_2 : decode cX7_removePlatform 2 = .ok (.invokevirtual 234, 3) := by decide +kernel
theorem dX7_removePlatform_5 : decode cX7_removePlatform 5 = .ok (.ifCond .ne 9, 3) := by decide +kernel
theorem dX7_removePlatform_8 : decode cX7_removePlatform 8 = .ok (.aload_n 0, 1) := by decide +kernel
theorem dX7_removePlatform_9 : decode cX7_removePlatform 9 = .ok (.iconst 1, 1) := by decide +kernel
theorem dX7_removePlatform_10 : decode cX7_removePlatform 10 = .ok (.invokevirtual 218, 3) := by decide +kernel
theorem dX7_removePlatform_13 : decode cX7_removePlatform 13 = .ok (.ireturn, 1) := by decide +kernel
theorem dX7_removePlatform_14 : decode cX7_removePlatform 14 = .ok (.aload_n 0, 1) := by decide +kernel
theorem dX7_removePlatform_15 : decode cX7_removePlatform 15 = .ok (.iconst 0, 1) := by decide +kernel
theorem dX7_removePlatform_16 : decode cX7_removePlatform 16 = .ok (.putfield 45, 3) := by decide +kernel
theorem dX7_removePlatform_19 : decode cX7_removePlatform 19 = .ok (.aload_n 0, 1) := by decide +kernel
theorem dX7_removePlatform_20 : decode cX7_removePlatform 20 = .ok (.iconst 0, 1) := by decide +kernel
theorem dX7_removePlatform_21 : decode cX7_removePlatform 21 = .ok (.putfield 208, 3) := by decide +kernel
theorem dX7_removePlatform_24 : decode cX7_removePlatform 24 = .ok (.aload_n 0, 1) := by decide +kernel
theorem dX7_removePlatform_25 : decode cX7_removePlatform 25 = .ok (.getfield 7, 3) := by decide +kernel
theorem dX7_removePlatform_28 : decode cX7_removePlatform 28 = .ok (.sipush 465, 3) := by decide +kernel
theorem dX7_removePlatform_31 : decode cX7_removePlatform 31 = .ok (.dup2, 1) := by decide +kernel
theorem dX7_removePlatform_32 : decode cX7_removePlatform 32 = .ok (.iaload, 1) := by decide +kernel
theorem dX7_removePlatform_33 : decode cX7_removePlatform 33 = .ok (.iconst 1, 1) := by decide +kernel
theorem dX7_removePlatform_34 : decode cX7_removePlatform 34 = .ok (.isub, 1) := by decide +kernel
theorem dX7_removePlatform_35 : decode cX7_removePlatform 35 = .ok (.iastore, 1) := by decide +kernel
theorem dX7_removePlatform_36 : decode cX7_removePlatform 36 = .ok (.iload_n 1, 1) := by decide +kernel
theorem dX7_removePlatform_37 : decode cX7_removePlatform 37 = .ok (.istore_n 2, 1) := by decide +kernel
theorem dX7_removePlatform_38 : decode cX7_removePlatform 38 = .ok (.iload_n 2, 1) := by decide +kernel
theorem dX7_removePlatform_39 : decode cX7_removePlatform 39 = .ok (.aload_n 0, 1) := by decide +kernel
theorem dX7_removePlatform_40 : decode cX7_removePlatform 40 = .ok (.getfield 7, 3) := by decide +kernel
theorem dX7_removePlatform_43 : decode cX7_removePlatform 43 = .ok (.sipush 465, 3) := by decide +kernel
theorem dX7_removePlatform_46 : decode cX7_removePlatform 46 = .ok (.iaload, 1) := by decide +kernel
theorem dX7_removePlatform_47 : decode cX7_removePlatform 47 = .ok (.if_icmp .ge 37, 3) := by decide +kernel
theorem dX7_removePlatform_50 : decode cX7_removePlatform 50 = .ok (.iconst 0, 1) := by decide +kernel
theorem dX7_removePlatform_51 : decode cX7_removePlatform 51 = .ok (.istore_n 3, 1) := by decide +kernel
theorem dX7_removePlatform_52 : decode cX7_removePlatform 52 = .ok (.iload_n 3, 1) := by decide +kernel
theorem dX7_removePlatform_53 : decode cX7_removePlatform 53 = .ok (.bipush 8, 2) := by decide +kernel
theorem dX7_removePlatform_55 : decode cX7_removePlatform 55 = .ok (.if_icmp .ge 23, 3) := by decide +kernel
theorem dX7_removePlatform_58 : decode cX7_removePlatform 58 = .ok (.aload_n 0, 1) := by decide +kernel
theorem dX7_removePlatform_59 : decode cX7_removePlatform 59 = .ok (.iload_n 2, 1) := by decide +kernel
theorem dX7_removePlatform_60 : decode cX7_removePlatform 60 = .ok (.iload_n 3, 1) := by decide +kernel
theorem dX7_removePlatform_61 : decode cX7_removePlatform 61 = .ok (.aload_n 0, 1) := by decide +kernel
theorem dX7_removePlatform_62 : decode cX7_removePlatform 62 = .ok (.iload_n 2, 1) := by decide +kernel
theorem dX7_removePlatform_63 : decode cX7_removePlatform 63 = .ok (.iconst 1, 1) := by decide +kernel
theorem dX7_removePlatform_64 : decode cX7_removePlatform 64 = .ok (.iadd, 1) := by decide +kernel
theorem dX7_removePlatform_65 : decode cX7_removePlatform 65 = .ok (.iload_n 3, 1) := by decide +kernel
theorem dX7_removePlatform_66 : decode cX7_removePlatform 66 = .ok (.invokevirtual 94, 3) := by decide +kernel
theorem dX7_removePlatform_69 : decode cX7_removePlatform 69 = .ok (.invokevirtual 144, 3) := by decide +kernel
theorem dX7_removePlatform_72 : decode cX7_removePlatform 72 = .ok (.iinc 3 1, 3) := by decide +kernel
theorem dX7_removePlatform_75 : decode cX7_removePlatform 75 = .ok (.goto (-23), 3) := by decide +kernel
theorem dX7_removePlatform_78 : decode cX7_removePlatform 78 = .ok (.iinc 2 1, 3) := by decide +kernel
theorem dX7_removePlatform_81 : decode cX7_removePlatform 81 = .ok (.goto (-43), 3) := by decide +kernel
theorem dX7_removePlatform_84 : decode cX7_removePlatform 84 = .ok (.aload_n 0, 1) := by decide +kernel
theorem dX7_removePlatform_85 : decode cX7_removePlatform 85 = .ok (.getfield 7, 3) := by decide +kernel
theorem dX7_removePlatform_88 : decode cX7_removePlatform 88 = .ok (.sipush 465, 3) := by decide +kernel
theorem dX7_removePlatform_91 : decode cX7_removePlatform 91 = .ok (.iaload, 1) := by decide +kernel
theorem dX7_removePlatform_92 : decode cX7_removePlatform 92 = .ok (.ireturn, 1) := by decide +kernel
set_option maxRecDepth 20000 in
theorem ggX7_platform_X7_isPlatform : GoodIn wsX7_platform wsX7_isPlatform := goodIn_ca (goodIn_r _ [6, 7, 19, 20, 21, 22, 23, 24, 25, 26, 27, 28, 29, 30, 31, 32, 33, 34, 35] (by decide +kernel) (by decide +kernel)) (goodIn_sub (fun _ h => List.mem_cons_of_mem _ (List.mem_append_right _ h)) (by decide +kernel))
set_option maxRecDepth 20000 in
theorem gX7_platform_X7_isPlatform : GoodIn wsX7_platform (wsV RX7 234 RX7 yX7_isPlatform wsX7_isPlatform) := goodIn_app (goodIn_of _ (by decide +kernel)) ggX7_platform_X7_isPlatform
set_option maxRecDepth 20000 in
theorem ggX7_platform_X7_fails : GoodIn wsX7_platform wsX7_fails := goodIn_r _ [11, 1, 19, 20, 21, 22, 23, 24, 25, 26, 27, 28, 29, 30, 31, 32, 33, 34, 35] (by decide +kernel) (by decide +kernel)
set_option maxRecDepth 20000 in
theorem gX7_platform_X7_fails : GoodIn wsX7_platform (wsV RX7 218 RX7 yX7_fails wsX7_fails) := goodIn_app (goodIn_of _ (by decide +kernel)) ggX7_platform_X7_fails
set_option maxRecDepth 20000 in
theorem ggX7_platform_X7_isBetween : GoodIn wsX7_platform wsX7_isBetween := goodIn_r _ [14] (by decide +kernel) (by decide +kernel)
set_option maxRecDepth 20000 in
theorem gX7_platform_X7_isBetween : GoodIn wsX7_platform (va_wsS RX7 61 yX7_isBetween wsX7_isBetween) := goodIn_app (goodIn_of _ (by decide +kernel)) ggX7_platform_X7_isBetween
set_option maxRecDepth 20000 in
theorem ggX7_platform_X7_plate : GoodIn wsX7_platform wsX7_plate := goodIn_ca (goodIn_r _ [18, 7, 19, 20, 21, 22, 23, 24, 25, 26, 27, 28, 29, 30, 31, 32, 33, 34, 35] (by decide +kernel) (by decide +kernel)) (goodIn_sub (fun _ h => List.mem_cons_of_mem _ (List.mem_append_right _ h)) (by decide +kernel))
set_option maxRecDepth 20000 in
theorem gX7_platform_X7_plate : GoodIn wsX7_platform (wsV RX7 94 RX7 yX7_plate wsX7_plate) := goodIn_app (goodIn_of _ (by decide +kernel)) ggX7_platform_X7_plate
theorem dX7_platform_0 : decode cX7_platform 0 = .ok (.aload_n 0, 1) := by decide +kernel
theorem dX7_platform_1 : decode cX7_platform 1 = .ok (.iload_n 1, 1) := by decide +kernel
theorem dX7_platform_2 : decode cX7_platform 2 = .ok (.invokevirtual 234, 3) := by decide +kernel
theorem dX7_platform_5 : decode cX7_platform 5 = .ok (.ifCond .ne 9, 3) := by decide +kernel
theorem dX7_platform_8 : decode cX7_platform 8 = .ok (.aload_n 0, 1) := by decide +kernel
theorem dX7_platform_9 : decode cX7_platform 9 = .ok (.iconst 1, 1) := by decide +kernel
theorem dX7_platform_10 : decode cX7_platform 10 = .ok (.invokevirtual 218, 3) := by decide +kernel
theorem dX7_platform_13 : decode cX7_platform 13 = .ok (.ireturn, 1) := by decide +kernel
theorem dX7_platform_14 : decode cX7_platform 14 = .ok (.iload_n 2, 1) := by decide +kernel
theorem dX7_platform_15 : decode cX7_platform 15 = .ok (.iconst 0, 1) := by decide +kernel
theorem dX7_platform_16 : decode cX7_platform 16 = .ok (.iconst 5, 1) := by decide +kernel
theorem dX7_platform_17 : decode cX7_platform 17 = .ok (.invokestatic 61, 3) := by decide +kernel
theorem dX7_platform_20 : decode cX7_platform 20 = .ok (.ifCond .ne 9, 3) := by decide +kernel
theorem dX7_platform_23 : decode cX7_platform 23 = .ok (.aload_n 0, 1) := by decide +kernel
theorem dX7_platform_24 : decode cX7_platform 24 = .ok (.iconst 2, 1) := by decide +kernel
theorem dX7_platform_25 : decode cX7_platform 25 = .ok (.invokevirtual 218, 3) := by decide +kernel
theorem dX7_platform_28 : decode cX7_platform 28 = .ok (.ireturn, 1) := by decide +kernel
theorem dX7_platform_29 : decode cX7_platform 29 = .ok (.aload_n 0, 1) := by decide +kernel
theorem dX7_platform_30 : decode cX7_platform 30 = .ok (.iconst 0, 1) := by decide +kernel
theorem dX7_platform_31 : decode cX7_platform 31 = .ok (.putfield 45, 3) := by decide +kernel
theorem dX7_platform_34 : decode cX7_platform 34 = .ok (.aload_n 0, 1) := by decide +kernel
theorem dX7_platform_35 : decode cX7_platform 35 = .ok (.iload_n 1, 1) := by decide +kernel
theorem dX7_platform_36 : decode cX7_platform 36 = .ok (.iload_n 2, 1) := by decide +kernel
theorem dX7_platform_37 : decode cX7_platform 37 = .ok (.invokevirtual 94, 3) := by decide +kernel
theorem dX7_platform_40 : decode cX7_platform 40 = .ok (.ireturn, 1) := by decide +kernel
set_option maxRecDepth 20000 in
theorem ggX7_count_X7_isBetween : GoodIn wsX7_count wsX7_isBetween := goodIn_r _ [6] (by decide +kernel) (by decide +kernel)
set_option maxRecDepth 20000 in
theorem gX7_count_X7_isBetween : GoodIn wsX7_count (va_wsS RX7 61 yX7_isBetween wsX7_isBetween) := goodIn_app (goodIn_of _ (by decide +kernel)) ggX7_count_X7_isBetween
set_option maxRecDepth 20000 in
theorem ggX7_count_X7_fails : GoodIn wsX7_count wsX7_fails := goodIn_r _ [10, 1, 11, 12, 13, 14, 15, 16, 17, 18, 19, 20, 21, 22, 23, 24, 25, 26, 27] (by decide +kernel) (by decide +kernel)
set_option maxRecDepth 20000 in
theorem gX7_count_X7_fails : GoodIn wsX7_count (wsV RX7 218 RX7 yX7_fails wsX7_fails) := goodIn_app (goodIn_of _ (by decide +kernel)) ggX7_count_X7_fails
theorem dX7_count_0 : decode cX7_count 0 = .ok (.iload_n 1, 1) := by decide +kernel
theorem dX7_count_1 : decode cX7_count 1 = .ok (.iconst 0, 1) := by decide +kernel
theorem dX7_count_2 : decode cX7_count 2 = .ok (.iconst 3, 1) := by decide +kernel
theorem dX7_count_3 : decode cX7_count 3 = .ok (.invokestatic 61, 3) := by decide +kernel
theorem dX7_count_6 : decode cX7_count 6 = .ok (.ifCond .ne 9, 3) := by decide +kernel
theorem dX7_count_9 : decode cX7_count 9 = .ok (.aload_n 0, 1) := by decide +kernel
theorem dX7_count_10 : decode cX7_count 10 = .ok (.iconst 1, 1) := by decide +kernel
theorem dX7_count_11 : decode cX7_count 11 = .ok (.invokevirtual 218, 3) := by decide +kernel
theorem dX7_count_14 : decode cX7_count 14 = .ok (.ireturn, 1) := by decide +kernel
theorem dX7_count_15 : decode cX7_count 15 = .ok (.aload_n 0, 1) := by decide +kernel
theorem dX7_count_16 : decode cX7_count 16 = .ok (.iconst 0, 1) := by decide +kernel
theorem dX7_count_17 : decode cX7_count 17 = .ok (.putfield 45, 3) := by decide +kernel
theorem dX7_count_20 : decode cX7_count 20 = .ok (.iload_n 1, 1) := by decide +kernel
theorem dX7_count_21 : decode cX7_count 21 = .ok (.iconst 2, 1) := by decide +kernel
theorem dX7_count_22 : decode cX7_count 22 = .ok (.if_icmp .ge 27, 3) := by decide +kernel
theorem dX7_count_25 : decode cX7_count 25 = .ok (.iload_n 1, 1) := by decide +kernel
theorem dX7_count_26 : decode cX7_count 26 = .ok (.ifCond .ne 14, 3) := by decide +kernel
theorem dX7_count_29 : decode cX7_count 29 = .ok (.aload_n 0, 1) := by decide +kernel
theorem dX7_count_30 : decode cX7_count 30 = .ok (.getfield 7, 3) := by decide +kernel
theorem dX7_count_33 : decode cX7_count 33 = .ok (.sipush 464, 3) := by decide +kernel
theorem dX7_count_36 : decode cX7_count 36 = .ok (.iaload, 1) := by decide +kernel
theorem dX7_count_37 : decode cX7_count 37 = .ok (.goto 11, 3) := by decide +kernel
theorem dX7_count_40 : decode cX7_count 40 = .ok (.aload_n 0, 1) := by decide +kernel
theorem dX7_count_41 : decode cX7_count 41 = .ok (.getfield 7, 3) := by decide +kernel
theorem dX7_count_44 : decode cX7_count 44 = .ok (.sipush 465, 3) := by decide +kernel
theorem dX7_count_47 : decode cX7_count 47 = .ok (.iaload, 1) := by decide +kernel
theorem dX7_count_48 : decode cX7_count 48 = .ok (.ireturn, 1) := by decide +kernel
theorem dX7_count_49 : decode cX7_count 49 = .ok (.iconst 0, 1) := by decide +kernel
theorem dX7_count_50 : decode cX7_count 50 = .ok (.istore_n 2, 1) := by decide +kernel
theorem dX7_count_51 : decode cX7_count 51 = .ok (.iconst 0, 1) := by decide +kernel
theorem dX7_count_52 : decode cX7_count 52 = .ok (.istore_n 3, 1) := by decide +kernel
theorem dX7_count_53 : decode cX7_count 53 = .ok (.iload_n 3, 1) := by decide +kernel
theorem dX7_count_54 : decode cX7_count 54 = .ok (.sipush 336, 3) := by decide +kernel
theorem dX7_count_57 : decode cX7_count 57 = .ok (.if_icmp .ge 50, 3) := by decide +kernel
theorem dX7_count_60 : decode cX7_count 60 = .ok (.iload_n 2, 1) := by decide +kernel
theorem dX7_count_61 : decode cX7_count 61 = .ok (.iload_n 1, 1) := by decide +kernel
theorem dX7_count_62 : decode cX7_count 62 = .ok (.iconst 2, 1) := by decide +kernel
theorem dX7_count_63 : decode cX7_count 63 = .ok (.if_icmp .ne 20, 3) := by decide +kernel
theorem dX7_count_66 : decode cX7_count 66 = .ok (.aload_n 0, 1) := by decide +kernel
theorem dX7_count_67 : decode cX7_count 67 = .ok (.getfield 7, 3) := by decide +kernel
theorem dX7_count_70 : decode cX7_count 70 = .ok (.iload_n 3, 1) := by decide +kernel
theorem dX7_count_71 : decode cX7_count 71 = .ok (.iaload, 1) := by decide +kernel
theorem dX7_count_72 : decode cX7_count 72 = .ok (.ifCond .eq 7, 3) := by decide +kernel
theorem dX7_count_75 : decode cX7_count 75 = .ok (.iconst 1, 1) := by decide +kernel
theorem dX7_count_76 : decode cX7_count 76 = .ok (.goto 23, 3) := by decide +kernel
theorem dX7_count_79 : decode cX7_count 79 = .ok (.iconst 0, 1) := by decide +kernel
theorem dX7_count_80 : decode cX7_count 80 = .ok (.goto 19, 3) := by decide +kernel
theorem dX7_count_83 : decode cX7_count 83 = .ok (.aload_n 0, 1) := by decide +kernel
theorem dX7_count_84 : decode cX7_count 84 = .ok (.getfield 7, 3) := by decide +kernel
theorem dX7_count_87 : decode cX7_count 87 = .ok (.iload_n 3, 1) := by decide +kernel
theorem dX7_count_88 : decode cX7_count 88 = .ok (.iaload, 1) := by decide +kernel
theorem dX7_count_89 : decode cX7_count 89 = .ok (.bipush 10, 2) := by decide +kernel
theorem dX7_count_91 : decode cX7_count 91 = .ok (.if_icmp .ne 7, 3) := by decide +kernel
theorem dX7_count_94 : decode cX7_count 94 = .ok (.iconst 1, 1) := by decide +kernel
theorem dX7_count_95 : decode cX7_count 95 = .ok (.goto 4, 3) := by decide +kernel
theorem dX7_count_98 : decode cX7_count 98 = .ok (.iconst 0, 1) := by decide +kernel
theorem dX7_count_99 : decode cX7_count 99 = .ok (.iadd, 1) := by decide +kernel
theorem dX7_count_100 : decode cX7_count 100 = .ok (.istore_n 2, 1) := by decide +kernel
theorem dX7_count_101 : decode cX7_count 101 = .ok (.iinc 3 1, 3) := by decide +kernel
theorem dX7_count_104 : decode cX7_count 104 = .ok (.goto (-51), 3) := by decide +kernel
theorem dX7_count_107 : decode cX7_count 107 = .ok (.iload_n 2, 1) := by decide +kernel
theorem dX7_count_108 : decode cX7_count 108 = .ok (.ireturn, 1) := by decide +kernel
set_option maxRecDepth 20000 in
theorem ggX7_isSetting_X7_isBetween : GoodIn wsX7_isSetting wsX7_isBetween := goodIn_r _ [4] (by decide +kernel) (by decide +kernel)
set_option maxRecDepth 20000 in
theorem gX7_isSetting_X7_isBetween : GoodIn wsX7_isSetting (va_wsS RX7 61 yX7_isBetween wsX7_isBetween) := goodIn_app (goodIn_of _ (by decide +kernel)) ggX7_isSetting_X7_isBetween
theorem dX7_isSetting_0 : decode cX7_isSetting 0 = .ok (.iload_n 0, 1) := by decide +kernel
theorem dX7_isSetting_1 : decode cX7_isSetting 1 = .ok (.ifCond .ne 13, 3) := by decide +kernel
theorem dX7_isSetting_4 : decode cX7_isSetting 4 = .ok (.iload_n 1, 1) := by decide +kernel
theorem dX7_isSetting_5 : decode cX7_isSetting 5 = .ok (.iconst 1, 1) := by decide +kernel
theorem dX7_isSetting_6 : decode cX7_isSetting 6 = .ok (.bipush 10, 2) := by decide +kernel
theorem dX7_isSetting_8 : decode cX7_isSetting 8 = .ok (.invokestatic 61, 3) := by decide +kernel
theorem dX7_isSetting_11 : decode cX7_isSetting 11 = .ok (.goto 40, 3) := by decide +kernel
theorem dX7_isSetting_14 : decode cX7_isSetting 14 = .ok (.iload_n 0, 1) := by decide +kernel
theorem dX7_isSetting_15 : decode cX7_isSetting 15 = .ok (.iconst 1, 1) := by decide +kernel
theorem dX7_isSetting_16 : decode cX7_isSetting 16 = .ok (.if_icmp .ne 13, 3) := by decide +kernel
theorem dX7_isSetting_19 : decode cX7_isSetting 19 = .ok (.iload_n 1, 1) := by decide +kernel
theorem dX7_isSetting_20 : decode cX7_isSetting 20 = .ok (.iconst 5, 1) := by decide +kernel
theorem dX7_isSetting_21 : decode cX7_isSetting 21 = .ok (.bipush 16, 2) := by decide +kernel
theorem dX7_isSetting_23 : decode cX7_isSetting 23 = .ok (.invokestatic 61, 3) := by decide +kernel
theorem dX7_isSetting_26 : decode cX7_isSetting 26 = .ok (.goto 25, 3) := by decide +kernel
theorem dX7_isSetting_29 : decode cX7_isSetting 29 = .ok (.iload_n 0, 1) := by decide +kernel
theorem dX7_isSetting_30 : decode cX7_isSetting 30 = .ok (.iconst 2, 1) := by decide +kernel
theorem dX7_isSetting_31 : decode cX7_isSetting 31 = .ok (.if_icmp .ne 13, 3) := by decide +kernel
theorem dX7_isSetting_34 : decode cX7_isSetting 34 = .ok (.iload_n 1, 1) := by decide +kernel
theorem dX7_isSetting_35 : decode cX7_isSetting 35 = .ok (.iconst 0, 1) := by decide +kernel
theorem dX7_isSetting_36 : decode cX7_isSetting 36 = .ok (.bipush 10, 2) := by decide +kernel
theorem dX7_isSetting_38 : decode cX7_isSetting 38 = .ok (.invokestatic 61, 3) := by decide +kernel
theorem dX7_isSetting_41 : decode cX7_isSetting 41 = .ok (.goto 10, 3) := by decide +kernel
theorem dX7_isSetting_44 : decode cX7_isSetting 44 = .ok (.iload_n 1, 1) := by decide +kernel
theorem dX7_isSetting_45 : decode cX7_isSetting 45 = .ok (.iconst 1, 1) := by decide +kernel
theorem dX7_isSetting_46 : decode cX7_isSetting 46 = .ok (.bipush 10, 2) := by decide +kernel
theorem dX7_isSetting_48 : decode cX7_isSetting 48 = .ok (.invokestatic 61, 3) := by decide +kernel
theorem dX7_isSetting_51 : decode cX7_isSetting 51 = .ok (.ireturn, 1) := by decide +kernel
set_option maxRecDepth 20000 in
theorem ggX7_set_X7_isBetween : GoodIn wsX7_set wsX7_isBetween := goodIn_r _ [6] (by decide +kernel) (by decide +kernel)
set_option maxRecDepth 20000 in
theorem gX7_set_X7_isBetween : GoodIn wsX7_set (va_wsS RX7 61 yX7_isBetween wsX7_isBetween) := goodIn_app (goodIn_of _ (by decide +kernel)) ggX7_set_X7_isBetween
set_option maxRecDepth 20000 in
theorem ggX7_set_X7_fails : GoodIn wsX7_set wsX7_fails := goodIn_r _ [10, 1, 14, 15, 16, 17, 18, 19, 20, 21, 22, 23, 24, 25, 26, 27, 28, 29, 30] (by decide +kernel) (by decide +kernel)
set_option maxRecDepth 20000 in
theorem gX7_set_X7_fails : GoodIn wsX7_set (wsV RX7 218 RX7 yX7_fails wsX7_fails) := goodIn_app (goodIn_of _ (by decide +kernel)) ggX7_set_X7_fails
set_option maxRecDepth 20000 in
theorem ggX7_set_X7_isSetting : GoodIn wsX7_set wsX7_isSetting := goodIn_r _ [13, 3, 4, 5, 6] (by decide +kernel) (by decide +kernel)
set_option maxRecDepth 20000 in
theorem gX7_set_X7_isSetting : GoodIn wsX7_set (va_wsS RX7 237 yX7_isSetting wsX7_isSetting) := goodIn_app (goodIn_of _ (by decide +kernel)) ggX7_set_X7_isSetting
theorem dX7_set_0 : decode cX7_set 0 = .ok (.iload_n 1, 1) := by decide +kernel
theorem dX7_set_1 : decode cX7_set 1 = .ok (.iconst 0, 1) := by decide +kernel
theorem dX7_set_2 : decode cX7_set 2 = .ok (.iconst 3, 1) := by decide +kernel
theorem dX7_set_3 : decode cX7_set 3 = .ok (.invokestatic 61, 3) := by decide +kernel
theorem dX7_set_6 : decode cX7_set 6 = .ok (.ifCond .ne 9, 3) := by decide +kernel
theorem dX7_set_9 : decode cX7_set 9 = .ok (.aload_n 0, 1) := by decide +kernel
theorem dX7_set_10 : decode cX7_set 10 = .ok (.iconst 1, 1) := by decide +kernel
theorem dX7_set_11 : decode cX7_set 11 = .ok (.invokevirtual 218, 3) := by decide +kernel
theorem dX7_set_14 : decode cX7_set 14 = .ok (.ireturn, 1) := by decide +kernel
theorem dX7_set_15 : decode cX7_set 15 = .ok (.iload_n 1, 1) := by decide +kernel
theorem dX7_set_16 : decode cX7_set 16 = .ok (.iload_n 2, 1) := by decide +kernel
theorem dX7_set_17 : decode cX7_set 17 = .ok (.invokestatic 237, 3) := by decide +kernel
theorem dX7_set_20 : decode cX7_set 20 = .ok (.ifCond .ne 9, 3) := by decide +kernel
theorem dX7_set_23 : decode cX7_set 23 = .ok (.aload_n 0, 1) := by decide +kernel
theorem dX7_set_24 : decode cX7_set 24 = .ok (.iconst 2, 1) := by decide +kernel
theorem dX7_set_25 : decode cX7_set 25 = .ok (.invokevirtual 218, 3) := by decide +kernel
theorem dX7_set_28 : decode cX7_set 28 = .ok (.ireturn, 1) := by decide +kernel
theorem dX7_set_29 : decode cX7_set 29 = .ok (.aload_n 0, 1) := by decide +kernel
theorem dX7_set_30 : decode cX7_set 30 = .ok (.iconst 0, 1) := by decide +kernel
theorem dX7_set_31 : decode cX7_set 31 = .ok (.putfield 45, 3) := by decide +kernel
theorem dX7_set_34 : decode cX7_set 34 = .ok (.aload_n 0, 1) := by decide +kernel
theorem dX7_set_35 : decode cX7_set 35 = .ok (.getfield 13, 3) := by decide +kernel
theorem dX7_set_38 : decode cX7_set 38 = .ok (.iload_n 1, 1) := by decide +kernel
theorem dX7_set_39 : decode cX7_set 39 = .ok (.iaload, 1) := by decide +kernel
theorem dX7_set_40 : decode cX7_set 40 = .ok (.istore_n 3, 1) := by decide +kernel
theorem dX7_set_41 : decode cX7_set 41 = .ok (.aload_n 0, 1) := by decide +kernel
theorem dX7_set_42 : decode cX7_set 42 = .ok (.getfield 13, 3) := by decide +kernel
theorem dX7_set_45 : decode cX7_set 45 = .ok (.iload_n 1, 1) := by decide +kernel
theorem dX7_set_46 : decode cX7_set 46 = .ok (.iload_n 2, 1) := by decide +kernel
theorem dX7_set_47 : decode cX7_set 47 = .ok (.iastore, 1) := by decide +kernel
theorem dX7_set_48 : decode cX7_set 48 = .ok (.iload_n 3, 1) := by decide +kernel
theorem dX7_set_49 : decode cX7_set 49 = .ok (.ireturn, 1) := by decide +kernel
set_option maxRecDepth 20000 in
theorem ggX7_support_X7_isBody : GoodIn wsX7_support wsX7_isBody := goodIn_ca (goodIn_r _ [6, 7, 94, 95, 96, 97, 98, 99, 100, 101, 102, 103, 104, 105, 106, 107, 108, 109, 110] (by decide +kernel) (by decide +kernel)) (goodIn_sub (fun _ h => List.mem_cons_of_mem _ (List.mem_append_right _ h)) (by decide +kernel))
set_option maxRecDepth 20000 in
theorem gX7_support_X7_isBody : GoodIn wsX7_support (wsV RX7 224 RX7 yX7_isBody wsX7_isBody) := goodIn_app (goodIn_of _ (by decide +kernel)) ggX7_support_X7_isBody
set_option maxRecDepth 20000 in
theorem ggX7_support_X7_fails : GoodIn wsX7_support wsX7_fails := goodIn_r _ [11, 1, 94, 95, 96, 97, 98, 99, 100, 101, 102, 103, 104, 105, 106, 107, 108, 109, 110] (by decide +kernel) (by decide +kernel)
set_option maxRecDepth 20000 in
theorem gX7_support_X7_fails : GoodIn wsX7_support (wsV RX7 218 RX7 yX7_fails wsX7_fails) := goodIn_app (goodIn_of _ (by decide +kernel)) ggX7_support_X7_fails
set_option maxRecDepth 20000 in
theorem ggX7_support_X7_supportOf : GoodIn wsX7_support wsX7_supportOf := goodIn_ca (goodIn_r _ [15, 16, 17, 18, 5, 19, 7, 20, 21, 22, 23, 24, 25, 26, 27, 28, 29, 30, 31, 32, 33, 34, 35, 36, 37, 38, 39, 40, 41, 42, 43, 44, 45, 46, 47, 48, 49, 50, 51, 52, 53, 54, 55, 56, 57, 58, 59, 60, 61, 62, 63, 64, 65, 66, 67, 68, 69, 70, 71, 72, 73, 74, 75, 76, 77, 78, 79, 80, 81, 82, 83, 84, 85, 86, 87, 88, 89, 90, 91, 92, 93, 94, 95, 96, 97, 98, 99, 100, 101, 102, 103, 104, 105, 106, 107, 108, 109, 110] (by decide +kernel) (by decide +kernel)) (goodIn_sub (fun _ h => List.mem_cons_of_mem _ (List.mem_append_right _ h)) (by decide +kernel))
set_option maxRecDepth 20000 in
theorem gX7_support_X7_supportOf : GoodIn wsX7_support (wsV RX7 120 RX7 yX7_supportOf wsX7_supportOf) := goodIn_app (goodIn_of _ (by decide +kernel)) ggX7_support_X7_supportOf
theorem dX7_support_0 : decode cX7_support 0 = .ok (.aload_n 0, 1) := by decide +kernel
theorem dX7_support_1 : decode cX7_support 1 = .ok (.iload_n 1, 1) := by decide +kernel
theorem dX7_support_2 : decode cX7_support 2 = .ok (.invokevirtual 224, 3) := by decide +kernel
theorem dX7_support_5 : decode cX7_support 5 = .ok (.ifCond .ne 9, 3) := by decide +kernel
theorem dX7_support_8 : decode cX7_support 8 = .ok (.aload_n 0, 1) := by decide +kernel
theorem dX7_support_9 : decode cX7_support 9 = .ok (.iconst 1, 1) := by decide +kernel
theorem dX7_support_10 : decode cX7_support 10 = .ok (.invokevirtual 218, 3) := by decide +kernel
theorem dX7_support_13 : decode cX7_support 13 = .ok (.ireturn, 1) := by decide +kernel
theorem dX7_support_14 : decode cX7_support 14 = .ok (.aload_n 0, 1) := by decide +kernel
theorem dX7_support_15 : decode cX7_support 15 = .ok (.iconst 0, 1) := by decide +kernel
theorem dX7_support_16 : decode cX7_support 16 = .ok (.putfield 45, 3) := by decide +kernel
theorem dX7_support_19 : decode cX7_support 19 = .ok (.aload_n 0, 1) := by decide +kernel
theorem dX7_support_20 : decode cX7_support 20 = .ok (.iload_n 1, 1) := by decide +kernel
theorem dX7_support_21 : decode cX7_support 21 = .ok (.invokevirtual 120, 3) := by decide +kernel
theorem dX7_support_24 : decode cX7_support 24 = .ok (.ireturn, 1) := by decide +kernel
set_option maxRecDepth 20000 in
theorem ggX7_stands_X7_isBody : GoodIn wsX7_stands wsX7_isBody := goodIn_ca (goodIn_r _ [6, 7, 98, 99, 100, 101, 102, 103, 104, 105, 106, 107, 108, 109, 110, 111, 112, 113, 114] (by decide +kernel) (by decide +kernel)) (goodIn_sub (fun _ h => List.mem_cons_of_mem _ (List.mem_append_right _ h)) (by decide +kernel))
set_option maxRecDepth 20000 in
theorem gX7_stands_X7_isBody : GoodIn wsX7_stands (wsV RX7 224 RX7 yX7_isBody wsX7_isBody) := goodIn_app (goodIn_of _ (by decide +kernel)) ggX7_stands_X7_isBody
set_option maxRecDepth 20000 in
theorem ggX7_stands_X7_refuses : GoodIn wsX7_stands wsX7_refuses := goodIn_r _ [11, 1, 98, 99, 100, 101, 102, 103, 104, 105, 106, 107, 108, 109, 110, 111, 112, 113, 114] (by decide +kernel) (by decide +kernel)
set_option maxRecDepth 20000 in
theorem gX7_stands_X7_refuses : GoodIn wsX7_stands (wsV RX7 240 RX7 yX7_refuses wsX7_refuses) := goodIn_app (goodIn_of _ (by decide +kernel)) ggX7_stands_X7_refuses
set_option maxRecDepth 20000 in
theorem ggX7_stands_X7_doesStand : GoodIn wsX7_stands wsX7_doesStand := goodIn_ca (goodIn_r _ [15, 16, 17, 18, 5, 19, 7, 20, 21, 22, 23, 24, 25, 26, 27, 28, 29, 30, 31, 32, 33, 34, 35, 36, 37, 38, 39, 40, 41, 42, 43, 44, 45, 46, 47, 48, 49, 50, 51, 52, 53, 54, 55, 56, 57, 58, 59, 60, 61, 62, 63, 64, 65, 66, 67, 68, 69, 70, 71, 72, 73, 74, 75, 76, 77, 78, 79, 80, 81, 82, 83, 84, 85, 86, 87, 88, 89, 90, 91, 92, 93, 94, 95, 96, 97, 98, 99, 100, 101, 102, 103, 104, 105, 106, 107, 108, 109, 110, 111, 112, 113, 114] (by decide +kernel) (by decide +kernel)) (goodIn_sub (fun _ h => List.mem_cons_of_mem _ (List.mem_append_right _ h)) (by decide +kernel))
set_option maxRecDepth 20000 in
theorem gX7_stands_X7_doesStand : GoodIn wsX7_stands (wsV RX7 166 RX7 yX7_doesStand wsX7_doesStand) := goodIn_app (goodIn_of _ (by decide +kernel)) ggX7_stands_X7_doesStand
theorem dX7_stands_0 : decode cX7_stands 0 = .ok (.aload_n 0, 1) := by decide +kernel
theorem dX7_stands_1 : decode cX7_stands 1 = .ok (.iload_n 1, 1) := by decide +kernel
theorem dX7_stands_2 : decode cX7_stands 2 = .ok (.invokevirtual 224, 3) := by decide +kernel
theorem dX7_stands_5 : decode cX7_stands 5 = .ok (.ifCond .ne 9, 3) := by decide +kernel
theorem dX7_stands_8 : decode cX7_stands 8 = .ok (.aload_n 0, 1) := by decide +kernel
theorem dX7_stands_9 : decode cX7_stands 9 = .ok (.iconst 1, 1) := by decide +kernel
theorem dX7_stands_10 : decode cX7_stands 10 = .ok (.invokevirtual 240, 3) := by decide +kernel
theorem dX7_stands_13 : decode cX7_stands 13 = .ok (.ireturn, 1) := by decide +kernel
theorem dX7_stands_14 : decode cX7_stands 14 = .ok (.aload_n 0, 1) := by decide +kernel
theorem dX7_stands_15 : decode cX7_stands 15 = .ok (.iconst 0, 1) := by decide +kernel
theorem dX7_stands_16 : decode cX7_stands 16 = .ok (.putfield 45, 3) := by decide +kernel
theorem dX7_stands_19 : decode cX7_stands 19 = .ok (.aload_n 0, 1) := by decide +kernel
theorem dX7_stands_20 : decode cX7_stands 20 = .ok (.iload_n 1, 1) := by decide +kernel
theorem dX7_stands_21 : decode cX7_stands 21 = .ok (.invokevirtual 166, 3) := by decide +kernel
theorem dX7_stands_24 : decode cX7_stands 24 = .ok (.ireturn, 1) := by decide +kernel
set_option maxRecDepth 20000 in
theorem ggX7_below_X7_isBody : GoodIn wsX7_below wsX7_isBody := goodIn_ca (goodIn_r _ [6, 7, 55, 56, 57, 58, 59, 60, 61, 62, 63, 64, 65, 66, 67, 68, 69, 70, 71] (by decide +kernel) (by decide +kernel)) (goodIn_sub (fun _ h => List.mem_cons_of_mem _ (List.mem_append_right _ h)) (by decide +kernel))
set_option maxRecDepth 20000 in
theorem gX7_below_X7_isBody : GoodIn wsX7_below (wsV RX7 224 RX7 yX7_isBody wsX7_isBody) := goodIn_app (goodIn_of _ (by decide +kernel)) ggX7_below_X7_isBody
set_option maxRecDepth 20000 in
theorem ggX7_below_X7_fails : GoodIn wsX7_below wsX7_fails := goodIn_r _ [11, 1, 55, 56, 57, 58, 59, 60, 61, 62, 63, 64, 65, 66, 67, 68, 69, 70, 71] (by decide +kernel) (by decide +kernel)
set_option maxRecDepth 20000 in
theorem gX7_below_X7_fails : GoodIn wsX7_below (wsV RX7 218 RX7 yX7_fails wsX7_fails) := goodIn_app (goodIn_of _ (by decide +kernel)) ggX7_below_X7_fails
set_option maxRecDepth 20000 in
theorem ggX7_below_X7_of : GoodIn wsX7_below wsX7_of := goodIn_ca (goodIn_r _ [15, 7, 55, 56, 57, 58, 59, 60, 61, 62, 63, 64, 65, 66, 67, 68, 69, 70, 71] (by decide +kernel) (by decide +kernel)) (goodIn_sub (fun _ h => List.mem_cons_of_mem _ (List.mem_append_right _ h)) (by decide +kernel))
set_option maxRecDepth 20000 in
theorem gX7_below_X7_of : GoodIn wsX7_below (wsV RX7 68 RX7 yX7_of wsX7_of) := goodIn_app (goodIn_of _ (by decide +kernel)) ggX7_below_X7_of
set_option maxRecDepth 20000 in
theorem ggX7_below_X7_firmBelow : GoodIn wsX7_below wsX7_firmBelow := goodIn_ca (goodIn_r _ [19, 20, 21, 22, 5, 23, 24, 25, 26, 27, 12, 13, 14, 15, 7, 28, 29, 30, 31, 32, 33, 34, 35, 36, 37, 38, 39, 40, 41, 42, 43, 44, 45, 46, 47, 48, 49, 50, 51, 52, 53, 54, 55, 56, 57, 58, 59, 60, 61, 62, 63, 64, 65, 66, 67, 68, 69, 70, 71] (by decide +kernel) (by decide +kernel)) (goodIn_sub (fun _ h => List.mem_cons_of_mem _ (List.mem_append_right _ h)) (by decide +kernel))
set_option maxRecDepth 20000 in
theorem gX7_below_X7_firmBelow : GoodIn wsX7_below (wsV RX7 101 RX7 yX7_firmBelow wsX7_firmBelow) := goodIn_app (goodIn_of _ (by decide +kernel)) ggX7_below_X7_firmBelow
theorem dX7_below_0 : decode cX7_below 0 = .ok (.aload_n 0, 1) := by decide +kernel
theorem dX7_below_1 : decode cX7_below 1 = .ok (.iload_n 1, 1) := by decide +kernel
theorem dX7_below_2 : decode cX7_below 2 = .ok (.invokevirtual 224, 3) := by decide +kernel
theorem dX7_below_5 : decode cX7_below 5 = .ok (.ifCond .ne 9, 3) := by decide +kernel
theorem dX7_below_8 : decode cX7_below 8 = .ok (.aload_n 0, 1) := by decide +kernel
theorem dX7_below_9 : decode cX7_below 9 = .ok (.iconst 1, 1) := by decide +kernel
theorem dX7_below_10 : decode cX7_below 10 = .ok (.invokevirtual 218, 3) := by decide +kernel
theorem dX7_below_13 : decode cX7_below 13 = .ok (.ireturn, 1) := by decide +kernel
theorem dX7_below_14 : decode cX7_below 14 = .ok (.aload_n 0, 1) := by decide +kernel
theorem dX7_below_15 : decode cX7_below 15 = .ok (.iconst 0, 1) := by decide +kernel
theorem dX7_below_16 : decode cX7_below 16 = .ok (.putfield 45, 3) := by decide +kernel
theorem dX7_below_19 : decode cX7_below 19 = .ok (.aload_n 0, 1) := by decide +kernel
theorem dX7_below_20 : decode cX7_below 20 = .ok (.iload_n 1, 1) := by decide +kernel
theorem dX7_below_21 : decode cX7_below 21 = .ok (.aload_n 0, 1) := by decide +kernel
theorem dX7_below_22 : decode cX7_below 22 = .ok (.iload_n 1, 1) := by decide +kernel
theorem dX7_below_23 : decode cX7_below 23 = .ok (.iconst 0, 1) := by decide +kernel
theorem dX7_below_24 : decode cX7_below 24 = .ok (.invokevirtual 68, 3) := by decide +kernel
theorem dX7_below_27 : decode cX7_below 27 = .ok (.aload_n 0, 1) := by decide +kernel
theorem dX7_below_28 : decode cX7_below 28 = .ok (.iload_n 1, 1) := by decide +kernel
theorem dX7_below_29 : decode cX7_below 29 = .ok (.iconst 1, 1) := by decide +kernel
theorem dX7_below_30 : decode cX7_below 30 = .ok (.invokevirtual 68, 3) := by decide +kernel
theorem dX7_below_33 : decode cX7_below 33 = .ok (.invokevirtual 101, 3) := by decide +kernel
theorem dX7_below_36 : decode cX7_below 36 = .ok (.ireturn, 1) := by decide +kernel
set_option maxRecDepth 20000 in
theorem ggX7_isBlocked_X7_isBody : GoodIn wsX7_isBlocked wsX7_isBody := goodIn_ca (goodIn_r _ [6, 7, 55, 56, 57, 58, 59, 60, 61, 62, 63, 64, 65, 66, 67, 68, 69, 70, 71] (by decide +kernel) (by decide +kernel)) (goodIn_sub (fun _ h => List.mem_cons_of_mem _ (List.mem_append_right _ h)) (by decide +kernel))
set_option maxRecDepth 20000 in
theorem gX7_isBlocked_X7_isBody : GoodIn wsX7_isBlocked (wsV RX7 224 RX7 yX7_isBody wsX7_isBody) := goodIn_app (goodIn_of _ (by decide +kernel)) ggX7_isBlocked_X7_isBody
set_option maxRecDepth 20000 in
theorem ggX7_isBlocked_X7_refuses : GoodIn wsX7_isBlocked wsX7_refuses := goodIn_r _ [11, 1, 55, 56, 57, 58, 59, 60, 61, 62, 63, 64, 65, 66, 67, 68, 69, 70, 71] (by decide +kernel) (by decide +kernel)
set_option maxRecDepth 20000 in
theorem gX7_isBlocked_X7_refuses : GoodIn wsX7_isBlocked (wsV RX7 240 RX7 yX7_refuses wsX7_refuses) := goodIn_app (goodIn_of _ (by decide +kernel)) ggX7_isBlocked_X7_refuses
set_option maxRecDepth 20000 in
theorem ggX7_isBlocked_X7_isBetween : GoodIn wsX7_isBlocked wsX7_isBetween := goodIn_r _ [14] (by decide +kernel) (by decide +kernel)
set_option maxRecDepth 20000 in
theorem gX7_isBlocked_X7_isBetween : GoodIn wsX7_isBlocked (va_wsS RX7 61 yX7_isBetween wsX7_isBetween) := goodIn_app (goodIn_of _ (by decide +kernel)) ggX7_isBlocked_X7_isBetween
set_option maxRecDepth 20000 in
theorem ggX7_isBlocked_X7_of : GoodIn wsX7_isBlocked wsX7_of := goodIn_ca (goodIn_r _ [18, 7, 55, 56, 57, 58, 59, 60, 61, 62, 63, 64, 65, 66, 67, 68, 69, 70, 71] (by decide +kernel) (by decide +kernel)) (goodIn_sub (fun _ h => List.mem_cons_of_mem _ (List.mem_append_right _ h)) (by decide +kernel))
set_option maxRecDepth 20000 in
theorem gX7_isBlocked_X7_of : GoodIn wsX7_isBlocked (wsV RX7 68 RX7 yX7_of wsX7_of) := goodIn_app (goodIn_of _ (by decide +kernel)) ggX7_isBlocked_X7_of
set_option maxRecDepth 20000 in
theorem ggX7_isBlocked_X7_blocks : GoodIn wsX7_isBlocked wsX7_blocks := goodIn_ca (goodIn_r _ [22, 23, 24, 25, 5, 26, 27, 28, 29, 30, 15, 16, 17, 18, 7, 31, 32, 33, 34, 35, 36, 37, 38, 39, 40, 41, 42, 43, 44, 45, 46, 47, 48, 49, 50, 51, 12, 13, 14, 52, 53, 54, 55, 56, 57, 58, 59, 60, 61, 62, 63, 64, 65, 66, 67, 68, 69, 70, 71] (by decide +kernel) (by decide +kernel)) (goodIn_sub (fun _ h => List.mem_cons_of_mem _ (List.mem_append_right _ h)) (by decide +kernel))
set_option maxRecDepth 20000 in
theorem gX7_isBlocked_X7_blocks : GoodIn wsX7_isBlocked (wsV RX7 123 RX7 yX7_blocks wsX7_blocks) := goodIn_app (goodIn_of _ (by decide +kernel)) ggX7_isBlocked_X7_blocks
theorem dX7_isBlocked_0 : decode cX7_isBlocked 0 = .ok (.aload_n 0, 1) := by decide +kernel
theorem dX7_isBlocked_1 : decode cX7_isBlocked 1 = .ok (.iload_n 1, 1) := by decide +kernel
theorem dX7_isBlocked_2 : decode cX7_isBlocked 2 = .ok (.invokevirtual 224, 3) := by decide +kernel
theorem dX7_isBlocked_5 : decode cX7_isBlocked 5 = .ok (.ifCond .ne 9, 3) := by decide +kernel
theorem dX7_isBlocked_8 : decode cX7_isBlocked 8 = .ok (.aload_n 0, 1) := by decide +kernel
theorem dX7_isBlocked_9 : decode cX7_isBlocked 9 = .ok (.iconst 1, 1) := by decide +kernel
theorem dX7_isBlocked_10 : decode cX7_isBlocked 10 = .ok (.invokevirtual 240, 3) := by decide +kernel
theorem dX7_isBlocked_13 : decode cX7_isBlocked 13 = .ok (.ireturn, 1) := by decide +kernel
theorem dX7_isBlocked_14 : decode cX7_isBlocked 14 = .ok (.iload_n 2, 1) := by decide +kernel
theorem dX7_isBlocked_15 : decode cX7_isBlocked 15 = .ok (.sipush (-400), 3) := by decide +kernel
theorem dX7_isBlocked_18 : decode cX7_isBlocked 18 = .ok (.sipush 400, 3) := by decide +kernel
theorem dX7_isBlocked_21 : decode cX7_isBlocked 21 = .ok (.invokestatic 61, 3) := by decide +kernel
theorem dX7_isBlocked_24 : decode cX7_isBlocked 24 = .ok (.ifCond .eq 16, 3) := by decide +kernel
theorem dX7_isBlocked_27 : decode cX7_isBlocked 27 = .ok (.iload_n 3, 1) := by decide +kernel
theorem dX7_isBlocked_28 : decode cX7_isBlocked 28 = .ok (.sipush (-400), 3) := by decide +kernel
theorem dX7_isBlocked_31 : decode cX7_isBlocked 31 = .ok (.sipush 400, 3) := by decide +kernel
theorem dX7_isBlocked_34 : decode cX7_isBlocked 34 = .ok (.invokestatic 61, 3) := by decide +kernel
theorem dX7_isBlocked_37 : decode cX7_isBlocked 37 = .ok (.ifCond .ne 9, 3) := by decide +kernel
theorem dX7_isBlocked_40 : decode cX7_isBlocked 40 = .ok (.aload_n 0, 1) := by decide +kernel
theorem dX7_isBlocked_41 : decode cX7_isBlocked 41 = .ok (.iconst 2, 1) := by decide +kernel
theorem dX7_isBlocked_42 : decode cX7_isBlocked 42 = .ok (.invokevirtual 240, 3) := by decide +kernel
theorem dX7_isBlocked_45 : decode cX7_isBlocked 45 = .ok (.ireturn, 1) := by decide +kernel
theorem dX7_isBlocked_46 : decode cX7_isBlocked 46 = .ok (.aload_n 0, 1) := by decide +kernel
theorem dX7_isBlocked_47 : decode cX7_isBlocked 47 = .ok (.iconst 0, 1) := by decide +kernel
theorem dX7_isBlocked_48 : decode cX7_isBlocked 48 = .ok (.putfield 45, 3) := by decide +kernel
theorem dX7_isBlocked_51 : decode cX7_isBlocked 51 = .ok (.aload_n 0, 1) := by decide +kernel
theorem dX7_isBlocked_52 : decode cX7_isBlocked 52 = .ok (.iload_n 1, 1) := by decide +kernel
theorem dX7_isBlocked_53 : decode cX7_isBlocked 53 = .ok (.aload_n 0, 1) := by decide +kernel
theorem dX7_isBlocked_54 : decode cX7_isBlocked 54 = .ok (.iload_n 1, 1) := by decide +kernel
theorem dX7_isBlocked_55 : decode cX7_isBlocked 55 = .ok (.iconst 0, 1) := by decide +kernel
theorem dX7_isBlocked_56 : decode cX7_isBlocked 56 = .ok (.invokevirtual 68, 3) := by decide +kernel
theorem dX7_isBlocked_59 : decode cX7_isBlocked 59 = .ok (.iload_n 2, 1) := by decide +kernel
theorem dX7_isBlocked_60 : decode cX7_isBlocked 60 = .ok (.iadd, 1) := by decide +kernel
theorem dX7_isBlocked_61 : decode cX7_isBlocked 61 = .ok (.aload_n 0, 1) := by decide +kernel
theorem dX7_isBlocked_62 : decode cX7_isBlocked 62 = .ok (.iload_n 1, 1) := by decide +kernel
theorem dX7_isBlocked_63 : decode cX7_isBlocked 63 = .ok (.iconst 1, 1) := by decide +kernel
theorem dX7_isBlocked_64 : decode cX7_isBlocked 64 = .ok (.invokevirtual 68, 3) := by decide +kernel
theorem dX7_isBlocked_67 : decode cX7_isBlocked 67 = .ok (.iload_n 3, 1) := by decide +kernel
theorem dX7_isBlocked_68 : decode cX7_isBlocked 68 = .ok (.iadd, 1) := by decide +kernel
theorem dX7_isBlocked_69 : decode cX7_isBlocked 69 = .ok (.invokevirtual 123, 3) := by decide +kernel
theorem dX7_isBlocked_72 : decode cX7_isBlocked 72 = .ok (.ireturn, 1) := by decide +kernel
set_option maxRecDepth 20000 in
theorem ggX7_clearance_X7_isBody : GoodIn wsX7_clearance wsX7_isBody := goodIn_ca (goodIn_r _ [6, 7, 106, 107, 108, 109, 110, 111, 112, 113, 114, 115, 116, 117, 118, 119, 120, 121, 122] (by decide +kernel) (by decide +kernel)) (goodIn_sub (fun _ h => List.mem_cons_of_mem _ (List.mem_append_right _ h)) (by decide +kernel))
set_option maxRecDepth 20000 in
theorem gX7_clearance_X7_isBody : GoodIn wsX7_clearance (wsV RX7 224 RX7 yX7_isBody wsX7_isBody) := goodIn_app (goodIn_of _ (by decide +kernel)) ggX7_clearance_X7_isBody
set_option maxRecDepth 20000 in
theorem ggX7_clearance_X7_fails : GoodIn wsX7_clearance wsX7_fails := goodIn_r _ [11, 1, 106, 107, 108, 109, 110, 111, 112, 113, 114, 115, 116, 117, 118, 119, 120, 121, 122] (by decide +kernel) (by decide +kernel)
set_option maxRecDepth 20000 in
theorem gX7_clearance_X7_fails : GoodIn wsX7_clearance (wsV RX7 218 RX7 yX7_fails wsX7_fails) := goodIn_app (goodIn_of _ (by decide +kernel)) ggX7_clearance_X7_fails
set_option maxRecDepth 20000 in
theorem ggX7_clearance_X7_of : GoodIn wsX7_clearance wsX7_of := goodIn_ca (goodIn_r _ [15, 7, 106, 107, 108, 109, 110, 111, 112, 113, 114, 115, 116, 117, 118, 119, 120, 121, 122] (by decide +kernel) (by decide +kernel)) (goodIn_sub (fun _ h => List.mem_cons_of_mem _ (List.mem_append_right _ h)) (by decide +kernel))
set_option maxRecDepth 20000 in
theorem gX7_clearance_X7_of : GoodIn wsX7_clearance (wsV RX7 68 RX7 yX7_of wsX7_of) := goodIn_app (goodIn_of _ (by decide +kernel)) ggX7_clearance_X7_of
set_option maxRecDepth 20000 in
theorem ggX7_clearance_X7_movesAcross : GoodIn wsX7_clearance wsX7_movesAcross := goodIn_ca (goodIn_r _ [19, 12, 13, 14, 5, 15, 7, 20, 21, 22, 23, 24, 25, 26, 27, 28, 29, 30, 31, 32, 33, 34, 35, 36, 37, 38, 39, 40, 41, 42, 43, 44, 45, 46, 47, 48, 49, 50, 51, 52, 53, 54, 55, 56, 57, 58, 59, 60, 61, 62, 63, 64, 65, 66, 67, 68, 69, 70, 71, 72, 73, 74, 75, 76, 77, 78, 79, 80, 81, 82, 83, 84, 85, 86, 87, 88, 89, 90, 91, 92, 93, 94, 95, 96, 97, 98, 99, 100, 101, 102, 103, 104, 105, 106, 107, 108, 109, 110, 111, 112, 113, 114, 115, 116, 117, 118, 119, 120, 121, 122] (by decide +kernel) (by decide +kernel)) (goodIn_sub (fun _ h => List.mem_cons_of_mem _ (List.mem_append_right _ h)) (by decide +kernel))
set_option maxRecDepth 20000 in
theorem gX7_clearance_X7_movesAcross : GoodIn wsX7_clearance (wsV RX7 133 RX7 yX7_movesAcross wsX7_movesAcross) := goodIn_app (goodIn_of _ (by decide +kernel)) ggX7_clearance_X7_movesAcross
set_option maxRecDepth 20000 in
theorem ggX7_clearance_X7_sets : GoodIn wsX7_clearance wsX7_sets := goodIn_ca (goodIn_r _ [105, 7, 106, 107, 108, 109, 110, 111, 112, 113, 114, 115, 116, 117, 118, 119, 120, 121, 122] (by decide +kernel) (by decide +kernel)) (goodIn_sub (fun _ h => List.mem_cons_of_mem _ (List.mem_append_right _ h)) (by decide +kernel))
set_option maxRecDepth 20000 in
theorem gX7_clearance_X7_sets : GoodIn wsX7_clearance (wsV RX7 126 RX7 yX7_sets wsX7_sets) := goodIn_app (goodIn_of _ (by decide +kernel)) ggX7_clearance_X7_sets
theorem dX7_clearance_0 : decode cX7_clearance 0 = .ok (.aload_n 0, 1) := by decide +kernel
theorem dX7_clearance_1 : decode cX7_clearance 1 = .ok (.iload_n 1, 1) := by decide +kernel
theorem dX7_clearance_2 : decode cX7_clearance 2 = .ok (.invokevirtual 224, 3) := by decide +kernel
theorem dX7_clearance_5 : decode cX7_clearance 5 = .ok (.ifCond .ne 9, 3) := by decide +kernel
theorem dX7_clearance_8 : decode cX7_clearance 8 = .ok (.aload_n 0, 1) := by decide +kernel
theorem dX7_clearance_9 : decode cX7_clearance 9 = .ok (.iconst 1, 1) := by decide +kernel
theorem dX7_clearance_10 : decode cX7_clearance 10 = .ok (.invokevirtual 218, 3) := by decide +kernel
theorem dX7_clearance_13 : decode cX7_clearance 13 = .ok (.ireturn, 1) := by decide +kernel
theorem dX7_clearance_14 : decode cX7_clearance 14 = .ok (.iload_n 2, 1) := by decide +kernel
theorem dX7_clearance_15 : decode cX7_clearance 15 = .ok (.iconst (-1), 1) := by decide +kernel
theorem dX7_clearance_16 : decode cX7_clearance 16 = .ok (.if_icmp .eq 14, 3) := by decide +kernel
theorem dX7_clearance_19 : decode cX7_clearance 19 = .ok (.iload_n 2, 1) := by decide +kernel
theorem dX7_clearance_20 : decode cX7_clearance 20 = .ok (.iconst 1, 1) := by decide +kernel
theorem dX7_clearance_21 : decode cX7_clearance 21 = .ok (.if_icmp .eq 9, 3) := by decide +kernel
theorem dX7_clearance_24 : decode cX7_clearance 24 = .ok (.aload_n 0, 1) := by decide +kernel
theorem dX7_clearance_25 : decode cX7_clearance 25 = .ok (.iconst 2, 1) := by decide +kernel
theorem dX7_clearance_26 : decode cX7_clearance 26 = .ok (.invokevirtual 218, 3) := by decide +kernel
theorem dX7_clearance_29 : decode cX7_clearance 29 = .ok (.ireturn, 1) := by decide +kernel
theorem dX7_clearance_30 : decode cX7_clearance 30 = .ok (.aload_n 0, 1) := by decide +kernel
theorem dX7_clearance_31 : decode cX7_clearance 31 = .ok (.iconst 0, 1) := by decide +kernel
theorem dX7_clearance_32 : decode cX7_clearance 32 = .ok (.putfield 45, 3) := by decide +kernel
theorem dX7_clearance_35 : decode cX7_clearance 35 = .ok (.aload_n 0, 1) := by decide +kernel
theorem dX7_clearance_36 : decode cX7_clearance 36 = .ok (.iload_n 1, 1) := by decide +kernel
theorem dX7_clearance_37 : decode cX7_clearance 37 = .ok (.iconst 0, 1) := by decide +kernel
theorem dX7_clearance_38 : decode cX7_clearance 38 = .ok (.invokevirtual 68, 3) := by decide +kernel
theorem dX7_clearance_41 : decode cX7_clearance 41 = .ok (.istore_n 3, 1) := by decide +kernel
theorem dX7_clearance_42 : decode cX7_clearance 42 = .ok (.aload_n 0, 1) := by decide +kernel
theorem dX7_clearance_43 : decode cX7_clearance 43 = .ok (.iload_n 1, 1) := by decide +kernel
theorem dX7_clearance_44 : decode cX7_clearance 44 = .ok (.iconst 1, 1) := by decide +kernel
theorem dX7_clearance_45 : decode cX7_clearance 45 = .ok (.invokevirtual 68, 3) := by decide +kernel
theorem dX7_clearance_48 : decode cX7_clearance 48 = .ok (.istore 4, 2) := by decide +kernel
theorem dX7_clearance_50 : decode cX7_clearance 50 = .ok (.iconst 0, 1) := by decide +kernel
theorem dX7_clearance_51 : decode cX7_clearance 51 = .ok (.istore 5, 2) := by decide +kernel
theorem dX7_clearance_53 : decode cX7_clearance 53 = .ok (.iload 5, 2) := by decide +kernel
theorem dX7_clearance_55 : decode cX7_clearance 55 = .ok (.sipush 400, 3) := by decide +kernel
theorem dX7_clearance_58 : decode cX7_clearance 58 = .ok (.if_icmp .ge 18, 3) := by decide +kernel
theorem dX7_clearance_61 : decode cX7_clearance 61 = .ok (.aload_n 0, 1) := by decide +kernel
theorem dX7_clearance_62 : decode cX7_clearance 62 = .ok (.iload_n 1, 1) := by decide +kernel
theorem dX7_clearance_63 : decode cX7_clearance 63 = .ok (.iload_n 2, 1) := by decide +kernel
theorem dX7_clearance_64 : decode cX7_clearance 64 = .ok (.invokevirtual 133, 3) := by decide +kernel
theorem dX7_clearance_67 : decode cX7_clearance 67 = .ok (.ifCond .eq 9, 3) := by decide +kernel
theorem dX7_clearance_70 : decode cX7_clearance 70 = .ok (.iinc 5 1, 3) := by decide +kernel
theorem dX7_clearance_73 : decode cX7_clearance 73 = .ok (.goto (-20), 3) := by decide +kernel
theorem dX7_clearance_76 : decode cX7_clearance 76 = .ok (.aload_n 0, 1) := by decide +kernel
theorem dX7_clearance_77 : decode cX7_clearance 77 = .ok (.iload_n 1, 1) := by decide +kernel
theorem dX7_clearance_78 : decode cX7_clearance 78 = .ok (.iconst 0, 1) := by decide +kernel
theorem dX7_clearance_79 : decode cX7_clearance 79 = .ok (.iload_n 3, 1) := by decide +kernel
theorem dX7_clearance_80 : decode cX7_clearance 80 = .ok (.invokevirtual 126, 3) := by decide +kernel
theorem dX7_clearance_83 : decode cX7_clearance 83 = .ok (.aload_n 0, 1) := by decide +kernel
theorem dX7_clearance_84 : decode cX7_clearance 84 = .ok (.iload_n 1, 1) := by decide +kernel
theorem dX7_clearance_85 : decode cX7_clearance 85 = .ok (.iconst 1, 1) := by decide +kernel
theorem dX7_clearance_86 : decode cX7_clearance 86 = .ok (.iload 4, 2) := by decide +kernel
theorem dX7_clearance_88 : decode cX7_clearance 88 = .ok (.invokevirtual 126, 3) := by decide +kernel
theorem dX7_clearance_91 : decode cX7_clearance 91 = .ok (.iload 5, 2) := by decide +kernel
theorem dX7_clearance_93 : decode cX7_clearance 93 = .ok (.ireturn, 1) := by decide +kernel
set_option maxRecDepth 20000 in
theorem ggX7_drop_X7_isBody : GoodIn wsX7_drop wsX7_isBody := goodIn_ca (goodIn_r _ [6, 7, 106, 107, 108, 109, 110, 111, 112, 113, 114, 115, 116, 117, 118, 119, 120, 121, 122] (by decide +kernel) (by decide +kernel)) (goodIn_sub (fun _ h => List.mem_cons_of_mem _ (List.mem_append_right _ h)) (by decide +kernel))
set_option maxRecDepth 20000 in
theorem gX7_drop_X7_isBody : GoodIn wsX7_drop (wsV RX7 224 RX7 yX7_isBody wsX7_isBody) := goodIn_app (goodIn_of _ (by decide +kernel)) ggX7_drop_X7_isBody
set_option maxRecDepth 20000 in
theorem ggX7_drop_X7_fails : GoodIn wsX7_drop wsX7_fails := goodIn_r _ [11, 1, 106, 107, 108, 109, 110, 111, 112, 113, 114, 115, 116, 117, 118, 119, 120, 121, 122] (by decide +kernel) (by decide +kernel)
set_option maxRecDepth 20000 in
theorem gX7_drop_X7_fails : GoodIn wsX7_drop (wsV RX7 218 RX7 yX7_fails wsX7_fails) := goodIn_app (goodIn_of _ (by decide +kernel)) ggX7_drop_X7_fails
set_option maxRecDepth 20000 in
theorem ggX7_drop_X7_of : GoodIn wsX7_drop wsX7_of := goodIn_ca (goodIn_r _ [15, 7, 106, 107, 108, 109, 110, 111, 112, 113, 114, 115, 116, 117, 118, 119, 120, 121, 122] (by decide +kernel) (by decide +kernel)) (goodIn_sub (fun _ h => List.mem_cons_of_mem _ (List.mem_append_right _ h)) (by decide +kernel))
set_option maxRecDepth 20000 in
theorem gX7_drop_X7_of : GoodIn wsX7_drop (wsV RX7 68 RX7 yX7_of wsX7_of) := goodIn_app (goodIn_of _ (by decide +kernel)) ggX7_drop_X7_of
set_option maxRecDepth 20000 in
theorem ggX7_drop_X7_movesDown : GoodIn wsX7_drop wsX7_movesDown := goodIn_ca (goodIn_r _ [19, 20, 21, 22, 5, 23, 12, 13, 14, 15, 7, 24, 25, 26, 27, 28, 29, 30, 31, 32, 33, 34, 35, 36, 37, 38, 39, 40, 41, 42, 43, 44, 45, 46, 47, 48, 49, 50, 51, 52, 53, 54, 55, 56, 57, 58, 59, 60, 61, 62, 63, 64, 65, 66, 67, 68, 69, 70, 71, 72, 73, 74, 75, 76, 77, 78, 79, 80, 81, 82, 83, 84, 85, 86, 87, 88, 89, 90, 91, 92, 93, 94, 95, 96, 97, 98, 99, 100, 101, 106, 107, 108, 109, 110, 111, 112, 113, 114, 115, 116, 117, 118, 119, 120, 121, 122] (by decide +kernel) (by decide +kernel)) (goodIn_sub (fun _ h => List.mem_cons_of_mem _ (List.mem_append_right _ h)) (by decide +kernel))
set_option maxRecDepth 20000 in
theorem gX7_drop_X7_movesDown : GoodIn wsX7_drop (wsV RX7 163 RX7 yX7_movesDown wsX7_movesDown) := goodIn_app (goodIn_of _ (by decide +kernel)) ggX7_drop_X7_movesDown
set_option maxRecDepth 20000 in
theorem ggX7_drop_X7_sets : GoodIn wsX7_drop wsX7_sets := goodIn_ca (goodIn_r _ [105, 7, 106, 107, 108, 109, 110, 111, 112, 113, 114, 115, 116, 117, 118, 119, 120, 121, 122] (by decide +kernel) (by decide +kernel)) (goodIn_sub (fun _ h => List.mem_cons_of_mem _ (List.mem_append_right _ h)) (by decide +kernel))
set_option maxRecDepth 20000 in
theorem gX7_drop_X7_sets : GoodIn wsX7_drop (wsV RX7 126 RX7 yX7_sets wsX7_sets) := goodIn_app (goodIn_of _ (by decide +kernel)) ggX7_drop_X7_sets
theorem dX7_drop_0 : decode cX7_drop 0 = .ok (.aload_n 0, 1) := by decide +kernel
theorem dX7_drop_1 : decode cX7_drop 1 = .ok (.iload_n 1, 1) := by decide +kernel
theorem dX7_drop_2 : decode cX7_drop 2 = .ok (.invokevirtual 224, 3) := by decide +kernel
theorem dX7_drop_5 : decode cX7_drop 5 = .ok (.ifCond .ne 9, 3) := by decide +kernel
theorem dX7_drop_8 : decode cX7_drop 8 = .ok (.aload_n 0, 1) := by decide +kernel
theorem dX7_drop_9 : decode cX7_drop 9 = .ok (.iconst 1, 1) := by decide +kernel
theorem dX7_drop_10 : decode cX7_drop 10 = .ok (.invokevirtual 218, 3) := by decide +kernel
theorem dX7_drop_13 : decode cX7_drop 13 = .ok (.ireturn, 1) := by decide +kernel
theorem dX7_drop_14 : decode cX7_drop 14 = .ok (.aload_n 0, 1) := by decide +kernel
theorem dX7_drop_15 : decode cX7_drop 15 = .ok (.iconst 0, 1) := by decide +kernel
theorem dX7_drop_16 : decode cX7_drop 16 = .ok (.putfield 45, 3) := by decide +kernel
theorem dX7_drop_19 : decode cX7_drop 19 = .ok (.aload_n 0, 1) := by decide +kernel
theorem dX7_drop_20 : decode cX7_drop 20 = .ok (.iload_n 1, 1) := by decide +kernel
theorem dX7_drop_21 : decode cX7_drop 21 = .ok (.iconst 1, 1) := by decide +kernel
theorem dX7_drop_22 : decode cX7_drop 22 = .ok (.invokevirtual 68, 3) := by decide +kernel
theorem dX7_drop_25 : decode cX7_drop 25 = .ok (.istore_n 2, 1) := by decide +kernel
theorem dX7_drop_26 : decode cX7_drop 26 = .ok (.iconst 0, 1) := by decide +kernel
theorem dX7_drop_27 : decode cX7_drop 27 = .ok (.istore_n 3, 1) := by decide +kernel
theorem dX7_drop_28 : decode cX7_drop 28 = .ok (.aload_n 0, 1) := by decide +kernel
theorem dX7_drop_29 : decode cX7_drop 29 = .ok (.iload_n 1, 1) := by decide +kernel
theorem dX7_drop_30 : decode cX7_drop 30 = .ok (.iconst 1, 1) := by decide +kernel
theorem dX7_drop_31 : decode cX7_drop 31 = .ok (.invokevirtual 68, 3) := by decide +kernel
theorem dX7_drop_34 : decode cX7_drop 34 = .ok (.bipush (-40), 2) := by decide +kernel
theorem dX7_drop_36 : decode cX7_drop 36 = .ok (.if_icmp .lt 17, 3) := by decide +kernel
theorem dX7_drop_39 : decode cX7_drop 39 = .ok (.aload_n 0, 1) := by decide +kernel
theorem dX7_drop_40 : decode cX7_drop 40 = .ok (.iload_n 1, 1) := by decide +kernel
theorem dX7_drop_41 : decode cX7_drop 41 = .ok (.invokevirtual 163, 3) := by decide +kernel
theorem dX7_drop_44 : decode cX7_drop 44 = .ok (.ifCond .eq 9, 3) := by decide +kernel
theorem dX7_drop_47 : decode cX7_drop 47 = .ok (.iinc 3 1, 3) := by decide +kernel
theorem dX7_drop_50 : decode cX7_drop 50 = .ok (.goto (-22), 3) := by decide +kernel
theorem dX7_drop_53 : decode cX7_drop 53 = .ok (.aload_n 0, 1) := by decide +kernel
theorem dX7_drop_54 : decode cX7_drop 54 = .ok (.iload_n 1, 1) := by decide +kernel
theorem dX7_drop_55 : decode cX7_drop 55 = .ok (.iconst 1, 1) := by decide +kernel
theorem dX7_drop_56 : decode cX7_drop 56 = .ok (.invokevirtual 68, 3) := by decide +kernel
theorem dX7_drop_59 : decode cX7_drop 59 = .ok (.bipush (-40), 2) := by decide +kernel
theorem dX7_drop_61 : decode cX7_drop 61 = .ok (.if_icmp .ge 7, 3) := by decide +kernel
theorem dX7_drop_64 : decode cX7_drop 64 = .ok (.iconst 1, 1) := by decide +kernel
theorem dX7_drop_65 : decode cX7_drop 65 = .ok (.goto 4, 3) := by decide +kernel
theorem dX7_drop_68 : decode cX7_drop 68 = .ok (.iconst 0, 1) := by decide +kernel
theorem dX7_drop_69 : decode cX7_drop 69 = .ok (.istore 4, 2) := by decide +kernel
theorem dX7_drop_71 : decode cX7_drop 71 = .ok (.aload_n 0, 1) := by decide +kernel
theorem dX7_drop_72 : decode cX7_drop 72 = .ok (.iload_n 1, 1) := by decide +kernel
theorem dX7_drop_73 : decode cX7_drop 73 = .ok (.iconst 1, 1) := by decide +kernel
theorem dX7_drop_74 : decode cX7_drop 74 = .ok (.iload_n 2, 1) := by decide +kernel
theorem dX7_drop_75 : decode cX7_drop 75 = .ok (.invokevirtual 126, 3) := by decide +kernel
theorem dX7_drop_78 : decode cX7_drop 78 = .ok (.iload 4, 2) := by decide +kernel
theorem dX7_drop_80 : decode cX7_drop 80 = .ok (.ifCond .eq 7, 3) := by decide +kernel
theorem dX7_drop_83 : decode cX7_drop 83 = .ok (.iconst (-1), 1) := by decide +kernel
theorem dX7_drop_84 : decode cX7_drop 84 = .ok (.goto 4, 3) := by decide +kernel
theorem dX7_drop_87 : decode cX7_drop 87 = .ok (.iload_n 3, 1) := by decide +kernel
theorem dX7_drop_88 : decode cX7_drop 88 = .ok (.ireturn, 1) := by decide +kernel
set_option maxRecDepth 20000 in
theorem ggX7_look_X7_isBetween : GoodIn wsX7_look wsX7_isBetween := goodIn_r _ [6] (by decide +kernel) (by decide +kernel)
set_option maxRecDepth 20000 in
theorem gX7_look_X7_isBetween : GoodIn wsX7_look (va_wsS RX7 61 yX7_isBetween wsX7_isBetween) := goodIn_app (goodIn_of _ (by decide +kernel)) ggX7_look_X7_isBetween
set_option maxRecDepth 20000 in
theorem ggX7_look_X7_fails : GoodIn wsX7_look wsX7_fails := goodIn_r _ [10, 1, 34, 35, 36, 37, 38, 39, 40, 41, 42, 43, 44, 45, 46, 47, 48, 49, 50] (by decide +kernel) (by decide +kernel)
set_option maxRecDepth 20000 in
theorem gX7_look_X7_fails : GoodIn wsX7_look (wsV RX7 218 RX7 yX7_fails wsX7_fails) := goodIn_app (goodIn_of _ (by decide +kernel)) ggX7_look_X7_fails
set_option maxRecDepth 20000 in
theorem ggX7_look_X7_of : GoodIn wsX7_look wsX7_of := goodIn_ca (goodIn_r _ [14, 2, 34, 35, 36, 37, 38, 39, 40, 41, 42, 43, 44, 45, 46, 47, 48, 49, 50] (by decide +kernel) (by decide +kernel)) (goodIn_sub (fun _ h => List.mem_cons_of_mem _ (List.mem_append_right _ h)) (by decide +kernel))
set_option maxRecDepth 20000 in
theorem gX7_look_X7_of : GoodIn wsX7_look (wsV RX7 68 RX7 yX7_of wsX7_of) := goodIn_app (goodIn_of _ (by decide +kernel)) ggX7_look_X7_of
set_option maxRecDepth 20000 in
theorem ggX7_look_X7_plate : GoodIn wsX7_look wsX7_plate := goodIn_ca (goodIn_r _ [18, 2, 34, 35, 36, 37, 38, 39, 40, 41, 42, 43, 44, 45, 46, 47, 48, 49, 50] (by decide +kernel) (by decide +kernel)) (goodIn_sub (fun _ h => List.mem_cons_of_mem _ (List.mem_append_right _ h)) (by decide +kernel))
set_option maxRecDepth 20000 in
theorem gX7_look_X7_plate : GoodIn wsX7_look (wsV RX7 94 RX7 yX7_plate wsX7_plate) := goodIn_app (goodIn_of _ (by decide +kernel)) ggX7_look_X7_plate
set_option maxRecDepth 20000 in
theorem ggX7_look_X7_kindAt : GoodIn wsX7_look wsX7_kindAt := goodIn_ca (goodIn_r _ [22, 23, 24, 25, 26, 27, 28, 5, 29, 30, 31, 32, 33, 2, 34, 35, 36, 37, 38, 39, 40, 41, 42, 43, 44, 45, 46, 47, 48, 49, 50] (by decide +kernel) (by decide +kernel)) (goodIn_sub (fun _ h => List.mem_cons_of_mem _ (List.mem_append_right _ h)) (by decide +kernel))
set_option maxRecDepth 20000 in
theorem gX7_look_X7_kindAt : GoodIn wsX7_look (wsV RX7 65 RX7 yX7_kindAt wsX7_kindAt) := goodIn_app (goodIn_of _ (by decide +kernel)) ggX7_look_X7_kindAt
theorem dX7_look_0 : decode cX7_look 0 = .ok (.iload_n 1, 1) := by decide +kernel
theorem dX7_look_1 : decode cX7_look 1 = .ok (.iconst 0, 1) := by decide +kernel
theorem dX7_look_2 : decode cX7_look 2 = .ok (.sipush 383, 3) := by decide +kernel
theorem dX7_look_5 : decode cX7_look 5 = .ok (.invokestatic 61, 3) := by decide +kernel
theorem dX7_look_8 : decode cX7_look 8 = .ok (.ifCond .eq 14, 3) := by decide +kernel
theorem dX7_look_11 : decode cX7_look 11 = .ok (.iload_n 2, 1) := by decide +kernel
theorem dX7_look_12 : decode cX7_look 12 = .ok (.iconst 0, 1) := by decide +kernel
theorem dX7_look_13 : decode cX7_look 13 = .ok (.sipush 223, 3) := by decide +kernel
theorem dX7_look_16 : decode cX7_look 16 = .ok (.invokestatic 61, 3) := by decide +kernel
theorem dX7_look_19 : decode cX7_look 19 = .ok (.ifCond .ne 9, 3) := by decide +kernel
theorem dX7_look_22 : decode cX7_look 22 = .ok (.aload_n 0, 1) := by decide +kernel
theorem dX7_look_23 : decode cX7_look 23 = .ok (.iconst 1, 1) := by decide +kernel
theorem dX7_look_24 : decode cX7_look 24 = .ok (.invokevirtual 218, 3) := by decide +kernel
theorem dX7_look_27 : decode cX7_look 27 = .ok (.ireturn, 1) := by decide +kernel
theorem dX7_look_28 : decode cX7_look 28 = .ok (.aload_n 0, 1) := by decide +kernel
theorem dX7_look_29 : decode cX7_look 29 = .ok (.iconst 0, 1) := by decide +kernel
theorem dX7_look_30 : decode cX7_look 30 = .ok (.putfield 45, 3) := by decide +kernel
theorem dX7_look_33 : decode cX7_look 33 = .ok (.iconst 0, 1) := by decide +kernel
theorem dX7_look_34 : decode cX7_look 34 = .ok (.istore_n 3, 1) := by decide +kernel
theorem dX7_look_35 : decode cX7_look 35 = .ok (.iload_n 3, 1) := by decide +kernel
theorem dX7_look_36 : decode cX7_look 36 = .ok (.aload_n 0, 1) := by decide +kernel
theorem dX7_look_37 : decode cX7_look 37 = .ok (.getfield 7, 3) := by decide +kernel
theorem dX7_look_40 : decode cX7_look 40 = .ok (.sipush 464, 3) := by decide +kernel
theorem dX7_look_43 : decode cX7_look 43 = .ok (.iaload, 1) := by decide +kernel
theorem dX7_look_44 : decode cX7_look 44 = .ok (.if_icmp .ge 62, 3) := by decide +kernel
theorem dX7_look_47 : decode cX7_look 47 = .ok (.iload_n 1, 1) := by decide +kernel
theorem dX7_look_48 : decode cX7_look 48 = .ok (.aload_n 0, 1) := by decide +kernel
theorem dX7_look_49 : decode cX7_look 49 = .ok (.iload_n 3, 1) := by decide +kernel
theorem dX7_look_50 : decode cX7_look 50 = .ok (.iconst 0, 1) := by decide +kernel
theorem dX7_look_51 : decode cX7_look 51 = .ok (.invokevirtual 68, 3) := by decide +kernel
theorem dX7_look_54 : decode cX7_look 54 = .ok (.isub, 1) := by decide +kernel
theorem dX7_look_55 : decode cX7_look 55 = .ok (.iconst 0, 1) := by decide +kernel
theorem dX7_look_56 : decode cX7_look 56 = .ok (.aload_n 0, 1) := by decide +kernel
theorem dX7_look_57 : decode cX7_look 57 = .ok (.iload_n 3, 1) := by decide +kernel
theorem dX7_look_58 : decode cX7_look 58 = .ok (.bipush 7, 2) := by decide +kernel
theorem dX7_look_60 : decode cX7_look 60 = .ok (.invokevirtual 68, 3) := by decide +kernel
theorem dX7_look_63 : decode cX7_look 63 = .ok (.iconst 1, 1) := by decide +kernel
theorem dX7_look_64 : decode cX7_look 64 = .ok (.isub, 1) := by decide +kernel
theorem dX7_look_65 : decode cX7_look 65 = .ok (.invokestatic 61, 3) := by decide +kernel
theorem dX7_look_68 : decode cX7_look 68 = .ok (.ifCond .eq 32, 3) := by decide +kernel
theorem dX7_look_71 : decode cX7_look 71 = .ok (.iload_n 2, 1) := by decide +kernel
theorem dX7_look_72 : decode cX7_look 72 = .ok (.aload_n 0, 1) := by decide +kernel
theorem dX7_look_73 : decode cX7_look 73 = .ok (.iload_n 3, 1) := by decide +kernel
theorem dX7_look_74 : decode cX7_look 74 = .ok (.iconst 1, 1) := by decide +kernel
theorem dX7_look_75 : decode cX7_look 75 = .ok (.invokevirtual 68, 3) := by decide +kernel
theorem dX7_look_78 : decode cX7_look 78 = .ok (.isub, 1) := by decide +kernel
theorem dX7_look_79 : decode cX7_look 79 = .ok (.iconst 0, 1) := by decide +kernel
theorem dX7_look_80 : decode cX7_look 80 = .ok (.aload_n 0, 1) := by decide +kernel
theorem dX7_look_81 : decode cX7_look 81 = .ok (.iload_n 3, 1) := by decide +kernel
theorem dX7_look_82 : decode cX7_look 82 = .ok (.bipush 8, 2) := by decide +kernel
theorem dX7_look_84 : decode cX7_look 84 = .ok (.invokevirtual 68, 3) := by decide +kernel
theorem dX7_look_87 : decode cX7_look 87 = .ok (.iconst 1, 1) := by decide +kernel
theorem dX7_look_88 : decode cX7_look 88 = .ok (.isub, 1) := by decide +kernel
theorem dX7_look_89 : decode cX7_look 89 = .ok (.invokestatic 61, 3) := by decide +kernel
theorem dX7_look_92 : decode cX7_look 92 = .ok (.ifCond .eq 8, 3) := by decide +kernel
theorem dX7_look_95 : decode cX7_look 95 = .ok (.bipush 100, 2) := by decide +kernel
theorem dX7_look_97 : decode cX7_look 97 = .ok (.iload_n 3, 1) := by decide +kernel
theorem dX7_look_98 : decode cX7_look 98 = .ok (.iadd, 1) := by decide +kernel
theorem dX7_look_99 : decode cX7_look 99 = .ok (.ireturn, 1) := by decide +kernel
theorem dX7_look_100 : decode cX7_look 100 = .ok (.iinc 3 1, 3) := by decide +kernel
theorem dX7_look_103 : decode cX7_look 103 = .ok (.goto (-68), 3) := by decide +kernel
theorem dX7_look_106 : decode cX7_look 106 = .ok (.iconst 0, 1) := by decide +kernel
theorem dX7_look_107 : decode cX7_look 107 = .ok (.istore_n 3, 1) := by decide +kernel
theorem dX7_look_108 : decode cX7_look 108 = .ok (.iload_n 3, 1) := by decide +kernel
theorem dX7_look_109 : decode cX7_look 109 = .ok (.aload_n 0, 1) := by decide +kernel
theorem dX7_look_110 : decode cX7_look 110 = .ok (.getfield 7, 3) := by decide +kernel
theorem dX7_look_113 : decode cX7_look 113 = .ok (.sipush 465, 3) := by decide +kernel
theorem dX7_look_116 : decode cX7_look 116 = .ok (.iaload, 1) := by decide +kernel
theorem dX7_look_117 : decode cX7_look 117 = .ok (.if_icmp .ge 50, 3) := by decide +kernel
theorem dX7_look_120 : decode cX7_look 120 = .ok (.aload_n 0, 1) := by decide +kernel
theorem dX7_look_121 : decode cX7_look 121 = .ok (.iload_n 3, 1) := by decide +kernel
theorem dX7_look_122 : decode cX7_look 122 = .ok (.iconst 1, 1) := by decide +kernel
theorem dX7_look_123 : decode cX7_look 123 = .ok (.invokevirtual 94, 3) := by decide +kernel
theorem dX7_look_126 : decode cX7_look 126 = .ok (.iload_n 2, 1) := by decide +kernel
theorem dX7_look_127 : decode cX7_look 127 = .ok (.iconst 1, 1) := by decide +kernel
theorem dX7_look_128 : decode cX7_look 128 = .ok (.iadd, 1) := by decide +kernel
theorem dX7_look_129 : decode cX7_look 129 = .ok (.if_icmp .ne 32, 3) := by decide +kernel
theorem dX7_look_132 : decode cX7_look 132 = .ok (.iload_n 1, 1) := by decide +kernel
theorem dX7_look_133 : decode cX7_look 133 = .ok (.aload_n 0, 1) := by decide +kernel
theorem dX7_look_134 : decode cX7_look 134 = .ok (.iload_n 3, 1) := by decide +kernel
theorem dX7_look_135 : decode cX7_look 135 = .ok (.iconst 0, 1) := by decide +kernel
theorem dX7_look_136 : decode cX7_look 136 = .ok (.invokevirtual 94, 3) := by decide +kernel
theorem dX7_look_139 : decode cX7_look 139 = .ok (.isub, 1) := by decide +kernel
theorem dX7_look_140 : decode cX7_look 140 = .ok (.iconst 0, 1) := by decide +kernel
theorem dX7_look_141 : decode cX7_look 141 = .ok (.aload_n 0, 1) := by decide +kernel
theorem dX7_look_142 : decode cX7_look 142 = .ok (.iload_n 3, 1) := by decide +kernel
theorem dX7_look_143 : decode cX7_look 143 = .ok (.iconst 2, 1) := by decide +kernel
theorem dX7_look_144 : decode cX7_look 144 = .ok (.invokevirtual 94, 3) := by decide +kernel
theorem dX7_look_147 : decode cX7_look 147 = .ok (.iconst 1, 1) := by decide +kernel
theorem dX7_look_148 : decode cX7_look 148 = .ok (.isub, 1) := by decide +kernel
theorem dX7_look_149 : decode cX7_look 149 = .ok (.invokestatic 61, 3) := by decide +kernel
theorem dX7_look_152 : decode cX7_look 152 = .ok (.ifCond .eq 9, 3) := by decide +kernel
theorem dX7_look_155 : decode cX7_look 155 = .ok (.sipush 200, 3) := by decide +kernel
theorem dX7_look_158 : decode cX7_look 158 = .ok (.iload_n 3, 1) := by decide +kernel
theorem dX7_look_159 : decode cX7_look 159 = .ok (.iadd, 1) := by decide +kernel
theorem dX7_look_160 : decode cX7_look 160 = .ok (.ireturn, 1) := by decide +kernel
theorem dX7_look_161 : decode cX7_look 161 = .ok (.iinc 3 1, 3) := by decide +kernel
theorem dX7_look_164 : decode cX7_look 164 = .ok (.goto (-56), 3) := by decide +kernel
theorem dX7_look_167 : decode cX7_look 167 = .ok (.aload_n 0, 1) := by decide +kernel
theorem dX7_look_168 : decode cX7_look 168 = .ok (.iload_n 1, 1) := by decide +kernel
theorem dX7_look_169 : decode cX7_look 169 = .ok (.iload_n 2, 1) := by decide +kernel
theorem dX7_look_170 : decode cX7_look 170 = .ok (.invokevirtual 65, 3) := by decide +kernel
theorem dX7_look_173 : decode cX7_look 173 = .ok (.ireturn, 1) := by decide +kernel
set_option maxRecDepth 20000 in
theorem ggX7_isFreeCell_X7_kindAt : GoodIn wsX7_isFreeCell wsX7_kindAt := goodIn_ca (goodIn_r _ [5, 6, 7, 8, 9, 10, 11, 4, 12, 13, 14, 15, 16, 17, 31, 32, 33, 34, 35, 36, 37, 38, 39, 40, 41, 42, 43, 44, 45, 46, 47] (by decide +kernel) (by decide +kernel)) (goodIn_sub (fun _ h => List.mem_cons_of_mem _ (List.mem_append_right _ h)) (by decide +kernel))
set_option maxRecDepth 20000 in
theorem gX7_isFreeCell_X7_kindAt : GoodIn wsX7_isFreeCell (wsV RX7 65 RX7 yX7_kindAt wsX7_kindAt) := goodIn_app (goodIn_of _ (by decide +kernel)) ggX7_isFreeCell_X7_kindAt
set_option maxRecDepth 20000 in
theorem ggX7_isFreeCell_X7_isFirm : GoodIn wsX7_isFreeCell wsX7_isFirm := goodIn_r _ [20, 21, 22, 4, 23] (by decide +kernel) (by decide +kernel)
set_option maxRecDepth 20000 in
theorem gX7_isFreeCell_X7_isFirm : GoodIn wsX7_isFreeCell (va_wsS RX7 82 yX7_isFirm wsX7_isFirm) := goodIn_app (goodIn_of _ (by decide +kernel)) ggX7_isFreeCell_X7_isFirm
set_option maxRecDepth 20000 in
theorem ggX7_isFreeCell_X7_isSlope : GoodIn wsX7_isFreeCell wsX7_isSlope := goodIn_r _ [26] (by decide +kernel) (by decide +kernel)
set_option maxRecDepth 20000 in
theorem gX7_isFreeCell_X7_isSlope : GoodIn wsX7_isFreeCell (va_wsS RX7 74 yX7_isSlope wsX7_isSlope) := goodIn_app (goodIn_of _ (by decide +kernel)) ggX7_isFreeCell_X7_isSlope
set_option maxRecDepth 20000 in
theorem ggX7_isFreeCell_X7_surfaceAt : GoodIn wsX7_isFreeCell wsX7_surfaceAt := goodIn_ca (goodIn_r _ [30, 10, 11, 4, 12, 6, 7, 8, 9, 1, 2, 3, 5, 13, 14, 15, 16, 17, 31, 32, 33, 34, 35, 36, 37, 38, 39, 40, 41, 42, 43, 44, 45, 46, 47] (by decide +kernel) (by decide +kernel)) (goodIn_sub (fun _ h => List.mem_cons_of_mem _ (List.mem_append_right _ h)) (by decide +kernel))
set_option maxRecDepth 20000 in
theorem gX7_isFreeCell_X7_surfaceAt : GoodIn wsX7_isFreeCell (wsV RX7 91 RX7 yX7_surfaceAt wsX7_surfaceAt) := goodIn_app (goodIn_of _ (by decide +kernel)) ggX7_isFreeCell_X7_surfaceAt
theorem dX7_isFreeCell_0 : decode cX7_isFreeCell 0 = .ok (.aload_n 0, 1) := by decide +kernel
theorem dX7_isFreeCell_1 : decode cX7_isFreeCell 1 = .ok (.iload_n 1, 1) := by decide +kernel
theorem dX7_isFreeCell_2 : decode cX7_isFreeCell 2 = .ok (.iload_n 2, 1) := by decide +kernel
theorem dX7_isFreeCell_3 : decode cX7_isFreeCell 3 = .ok (.invokevirtual 65, 3) := by decide +kernel
theorem dX7_isFreeCell_6 : decode cX7_isFreeCell 6 = .ok (.istore_n 3, 1) := by decide +kernel
theorem dX7_isFreeCell_7 : decode cX7_isFreeCell 7 = .ok (.iload_n 3, 1) := by decide +kernel
theorem dX7_isFreeCell_8 : decode cX7_isFreeCell 8 = .ok (.invokestatic 82, 3) := by decide +kernel
theorem dX7_isFreeCell_11 : decode cX7_isFreeCell 11 = .ok (.ifCond .ne 24, 3) := by decide +kernel
theorem dX7_isFreeCell_14 : decode cX7_isFreeCell 14 = .ok (.iload_n 3, 1) := by decide +kernel
theorem dX7_isFreeCell_15 : decode cX7_isFreeCell 15 = .ok (.invokestatic 74, 3) := by decide +kernel
theorem dX7_isFreeCell_18 : decode cX7_isFreeCell 18 = .ok (.ifCond .eq 13, 3) := by decide +kernel
theorem dX7_isFreeCell_21 : decode cX7_isFreeCell 21 = .ok (.iload_n 2, 1) := by decide +kernel
theorem dX7_isFreeCell_22 : decode cX7_isFreeCell 22 = .ok (.aload_n 0, 1) := by decide +kernel
theorem dX7_isFreeCell_23 : decode cX7_isFreeCell 23 = .ok (.iload_n 1, 1) := by decide +kernel
theorem dX7_isFreeCell_24 : decode cX7_isFreeCell 24 = .ok (.iload_n 2, 1) := by decide +kernel
theorem dX7_isFreeCell_25 : decode cX7_isFreeCell 25 = .ok (.invokevirtual 91, 3) := by decide +kernel
theorem dX7_isFreeCell_28 : decode cX7_isFreeCell 28 = .ok (.if_icmp .lt 7, 3) := by decide +kernel
theorem dX7_isFreeCell_31 : decode cX7_isFreeCell 31 = .ok (.iconst 1, 1) := by decide +kernel
theorem dX7_isFreeCell_32 : decode cX7_isFreeCell 32 = .ok (.goto 4, 3) := by decide +kernel
theorem dX7_isFreeCell_35 : decode cX7_isFreeCell 35 = .ok (.iconst 0, 1) := by decide +kernel
theorem dX7_isFreeCell_36 : decode cX7_isFreeCell 36 = .ok (.ireturn, 1) := by decide +kernel
set_option maxRecDepth 20000 in
theorem ggX7_ray_X7_isBetween : GoodIn wsX7_ray wsX7_isBetween := goodIn_r _ [5] (by decide +kernel) (by decide +kernel)
set_option maxRecDepth 20000 in
theorem gX7_ray_X7_isBetween : GoodIn wsX7_ray (va_wsS RX7 61 yX7_isBetween wsX7_isBetween) := goodIn_app (goodIn_of _ (by decide +kernel)) ggX7_ray_X7_isBetween
set_option maxRecDepth 20000 in
theorem ggX7_ray_X7_fails : GoodIn wsX7_ray wsX7_fails := goodIn_r _ [9, 1, 40, 41, 42, 43, 44, 45, 46, 47, 48, 49, 50, 51, 52, 53, 54, 55, 56] (by decide +kernel) (by decide +kernel)
set_option maxRecDepth 20000 in
theorem gX7_ray_X7_fails : GoodIn wsX7_ray (wsV RX7 218 RX7 yX7_fails wsX7_fails) := goodIn_app (goodIn_of _ (by decide +kernel)) ggX7_ray_X7_fails
set_option maxRecDepth 20000 in
theorem ggX7_ray_X7_isFreeCell : GoodIn wsX7_ray wsX7_isFreeCell := goodIn_ca (goodIn_r _ [13, 14, 15, 16, 4, 17, 18, 19, 20, 21, 22, 23, 24, 25, 26, 27, 28, 29, 30, 31, 32, 2, 3, 5, 33, 34, 35, 36, 37, 38, 39, 40, 41, 42, 43, 44, 45, 46, 47, 48, 49, 50, 51, 52, 53, 54, 55, 56] (by decide +kernel) (by decide +kernel)) (goodIn_sub (fun _ h => List.mem_cons_of_mem _ (List.mem_append_right _ h)) (by decide +kernel))
set_option maxRecDepth 20000 in
theorem gX7_ray_X7_isFreeCell : GoodIn wsX7_ray (wsV RX7 243 RX7 yX7_isFreeCell wsX7_isFreeCell) := goodIn_app (goodIn_of _ (by decide +kernel)) ggX7_ray_X7_isFreeCell
theorem dX7_ray_0 : decode cX7_ray 0 = .ok (.iload_n 1, 1) := by decide +kernel
theorem dX7_ray_1 : decode cX7_ray 1 = .ok (.iconst 0, 1) := by decide +kernel
theorem dX7_ray_2 : decode cX7_ray 2 = .ok (.sipush 383, 3) := by decide +kernel
theorem dX7_ray_5 : decode cX7_ray 5 = .ok (.invokestatic 61, 3) := by decide +kernel
theorem dX7_ray_8 : decode cX7_ray 8 = .ok (.ifCond .eq 23, 3) := by decide +kernel
theorem dX7_ray_11 : decode cX7_ray 11 = .ok (.iload_n 2, 1) := by decide +kernel
theorem dX7_ray_12 : decode cX7_ray 12 = .ok (.iconst 0, 1) := by decide +kernel
theorem dX7_ray_13 : decode cX7_ray 13 = .ok (.sipush 223, 3) := by decide +kernel
theorem dX7_ray_16 : decode cX7_ray 16 = .ok (.invokestatic 61, 3) := by decide +kernel
theorem dX7_ray_19 : decode cX7_ray 19 = .ok (.ifCond .eq 12, 3) := by decide +kernel
theorem dX7_ray_22 : decode cX7_ray 22 = .ok (.iload_n 3, 1) := by decide +kernel
theorem dX7_ray_23 : decode cX7_ray 23 = .ok (.iconst 0, 1) := by decide +kernel
theorem dX7_ray_24 : decode cX7_ray 24 = .ok (.iconst 3, 1) := by decide +kernel
theorem dX7_ray_25 : decode cX7_ray 25 = .ok (.invokestatic 61, 3) := by decide +kernel
theorem dX7_ray_28 : decode cX7_ray 28 = .ok (.ifCond .ne 9, 3) := by decide +kernel
theorem dX7_ray_31 : decode cX7_ray 31 = .ok (.aload_n 0, 1) := by decide +kernel
theorem dX7_ray_32 : decode cX7_ray 32 = .ok (.iconst 1, 1) := by decide +kernel
theorem dX7_ray_33 : decode cX7_ray 33 = .ok (.invokevirtual 218, 3) := by decide +kernel
theorem dX7_ray_36 : decode cX7_ray 36 = .ok (.ireturn, 1) := by decide +kernel
theorem dX7_ray_37 : decode cX7_ray 37 = .ok (.aload_n 0, 1) := by decide +kernel
theorem dX7_ray_38 : decode cX7_ray 38 = .ok (.iconst 0, 1) := by decide +kernel
theorem dX7_ray_39 : decode cX7_ray 39 = .ok (.putfield 45, 3) := by decide +kernel
theorem dX7_ray_42 : decode cX7_ray 42 = .ok (.iload_n 1, 1) := by decide +kernel
theorem dX7_ray_43 : decode cX7_ray 43 = .ok (.istore 4, 2) := by decide +kernel
theorem dX7_ray_45 : decode cX7_ray 45 = .ok (.iload_n 2, 1) := by decide +kernel
theorem dX7_ray_46 : decode cX7_ray 46 = .ok (.istore 5, 2) := by decide +kernel
theorem dX7_ray_48 : decode cX7_ray 48 = .ok (.iconst 0, 1) := by decide +kernel
theorem dX7_ray_49 : decode cX7_ray 49 = .ok (.istore 6, 2) := by decide +kernel
theorem dX7_ray_51 : decode cX7_ray 51 = .ok (.iload 5, 2) := by decide +kernel
theorem dX7_ray_53 : decode cX7_ray 53 = .ok (.iconst 0, 1) := by decide +kernel
theorem dX7_ray_54 : decode cX7_ray 54 = .ok (.sipush 223, 3) := by decide +kernel
theorem dX7_ray_57 : decode cX7_ray 57 = .ok (.invokestatic 61, 3) := by decide +kernel
theorem dX7_ray_60 : decode cX7_ray 60 = .ok (.ifCond .eq 67, 3) := by decide +kernel
theorem dX7_ray_63 : decode cX7_ray 63 = .ok (.aload_n 0, 1) := by decide +kernel
theorem dX7_ray_64 : decode cX7_ray 64 = .ok (.iload 4, 2) := by decide +kernel
theorem dX7_ray_66 : decode cX7_ray 66 = .ok (.iload 5, 2) := by decide +kernel
theorem dX7_ray_68 : decode cX7_ray 68 = .ok (.invokevirtual 243, 3) := by decide +kernel
theorem dX7_ray_71 : decode cX7_ray 71 = .ok (.ifCond .eq 56, 3) := by decide +kernel
theorem dX7_ray_74 : decode cX7_ray 74 = .ok (.iload 4, 2) := by decide +kernel
theorem dX7_ray_76 : decode cX7_ray 76 = .ok (.iload_n 3, 1) := by decide +kernel
theorem dX7_ray_77 : decode cX7_ray 77 = .ok (.ifCond .ne 7, 3) := by decide +kernel
theorem dX7_ray_80 : decode cX7_ray 80 = .ok (.iconst 1, 1) := by decide +kernel
theorem dX7_ray_81 : decode cX7_ray 81 = .ok (.goto 13, 3) := by decide +kernel
theorem dX7_ray_84 : decode cX7_ray 84 = .ok (.iload_n 3, 1) := by decide +kernel
theorem dX7_ray_85 : decode cX7_ray 85 = .ok (.iconst 2, 1) := by decide +kernel
theorem dX7_ray_86 : decode cX7_ray 86 = .ok (.if_icmp .ne 7, 3) := by decide +kernel
theorem dX7_ray_89 : decode cX7_ray 89 = .ok (.iconst (-1), 1) := by decide +kernel
theorem dX7_ray_90 : decode cX7_ray 90 = .ok (.goto 4, 3) := by decide +kernel
theorem dX7_ray_93 : decode cX7_ray 93 = .ok (.iconst 0, 1) := by decide +kernel
theorem dX7_ray_94 : decode cX7_ray 94 = .ok (.iadd, 1) := by decide +kernel
theorem dX7_ray_95 : decode cX7_ray 95 = .ok (.istore 4, 2) := by decide +kernel
theorem dX7_ray_97 : decode cX7_ray 97 = .ok (.iload 5, 2) := by decide +kernel
theorem dX7_ray_99 : decode cX7_ray 99 = .ok (.iload_n 3, 1) := by decide +kernel
theorem dX7_ray_100 : decode cX7_ray 100 = .ok (.iconst 1, 1) := by decide +kernel
theorem dX7_ray_101 : decode cX7_ray 101 = .ok (.if_icmp .ne 7, 3) := by decide +kernel
theorem dX7_ray_104 : decode cX7_ray 104 = .ok (.iconst 1, 1) := by decide +kernel
theorem dX7_ray_105 : decode cX7_ray 105 = .ok (.goto 13, 3) := by decide +kernel
theorem dX7_ray_108 : decode cX7_ray 108 = .ok (.iload_n 3, 1) := by decide +kernel
theorem dX7_ray_109 : decode cX7_ray 109 = .ok (.iconst 3, 1) := by decide +kernel
theorem dX7_ray_110 : decode cX7_ray 110 = .ok (.if_icmp .ne 7, 3) := by decide +kernel
theorem dX7_ray_113 : decode cX7_ray 113 = .ok (.iconst (-1), 1) := by decide +kernel
theorem dX7_ray_114 : decode cX7_ray 114 = .ok (.goto 4, 3) := by decide +kernel
theorem dX7_ray_117 : decode cX7_ray 117 = .ok (.iconst 0, 1) := by decide +kernel
theorem dX7_ray_118 : decode cX7_ray 118 = .ok (.iadd, 1) := by decide +kernel
theorem dX7_ray_119 : decode cX7_ray 119 = .ok (.istore 5, 2) := by decide +kernel
theorem dX7_ray_121 : decode cX7_ray 121 = .ok (.iinc 6 1, 3) := by decide +kernel
theorem dX7_ray_124 : decode cX7_ray 124 = .ok (.goto (-73), 3) := by decide +kernel
theorem dX7_ray_127 : decode cX7_ray 127 = .ok (.iload 5, 2) := by decide +kernel
theorem dX7_ray_129 : decode cX7_ray 129 = .ok (.iconst 0, 1) := by decide +kernel
theorem dX7_ray_130 : decode cX7_ray 130 = .ok (.sipush 223, 3) := by decide +kernel
theorem dX7_ray_133 : decode cX7_ray 133 = .ok (.invokestatic 61, 3) := by decide +kernel
theorem dX7_ray_136 : decode cX7_ray 136 = .ok (.ifCond .eq 8, 3) := by decide +kernel
theorem dX7_ray_139 : decode cX7_ray 139 = .ok (.iload 6, 2) := by decide +kernel
theorem dX7_ray_141 : decode cX7_ray 141 = .ok (.goto 4, 3) := by decide +kernel
theorem dX7_ray_144 : decode cX7_ray 144 = .ok (.iconst (-1), 1) := by decide +kernel
theorem dX7_ray_145 : decode cX7_ray 145 = .ok (.ireturn, 1) := by decide +kernel
set_option maxRecDepth 20000 in
theorem ggX7_predict_X7_isBody : GoodIn wsX7_predict wsX7_isBody := goodIn_ca (goodIn_r _ [8, 2, 208, 209, 210, 211, 212, 213, 214, 215, 216, 217, 218, 219, 220, 221, 222, 223, 224] (by decide +kernel) (by decide +kernel)) (goodIn_sub (fun _ h => List.mem_cons_of_mem _ (List.mem_append_right _ h)) (by decide +kernel))
set_option maxRecDepth 20000 in
theorem gX7_predict_X7_isBody : GoodIn wsX7_predict (wsV RX7 224 RX7 yX7_isBody wsX7_isBody) := goodIn_app (goodIn_of _ (by decide +kernel)) ggX7_predict_X7_isBody
set_option maxRecDepth 20000 in
theorem ggX7_predict_X7_fails : GoodIn wsX7_predict wsX7_fails := goodIn_r _ [12, 1, 208, 209, 210, 211, 212, 213, 214, 215, 216, 217, 218, 219, 220, 221, 222, 223, 224] (by decide +kernel) (by decide +kernel)
set_option maxRecDepth 20000 in
theorem gX7_predict_X7_fails : GoodIn wsX7_predict (wsV RX7 218 RX7 yX7_fails wsX7_fails) := goodIn_app (goodIn_of _ (by decide +kernel)) ggX7_predict_X7_fails
set_option maxRecDepth 20000 in
theorem ggX7_predict_X7_isBetween : GoodIn wsX7_predict wsX7_isBetween := goodIn_r _ [15] (by decide +kernel) (by decide +kernel)
set_option maxRecDepth 20000 in
theorem gX7_predict_X7_isBetween : GoodIn wsX7_predict (va_wsS RX7 61 yX7_isBetween wsX7_isBetween) := goodIn_app (goodIn_of _ (by decide +kernel)) ggX7_predict_X7_isBetween
set_option maxRecDepth 20000 in
theorem ggX7_predict_X7_copies : GoodIn wsX7_predict wsX7_copies := goodIn_ca (goodIn_r _ [18] (by decide +kernel) (by decide +kernel)) (goodIn_sub (fun _ h => List.mem_cons_of_mem _ (List.mem_append_right _ h)) (by decide +kernel))
set_option maxRecDepth 20000 in
theorem gX7_predict_X7_copies : GoodIn wsX7_predict (va_wsS RX7 211 yX7_copies wsX7_copies) := goodIn_app (goodIn_of _ (by decide +kernel)) ggX7_predict_X7_copies
set_option maxRecDepth 20000 in
theorem ggX7_predict_X7_sets : GoodIn wsX7_predict wsX7_sets := goodIn_ca (goodIn_r _ [22, 2, 208, 209, 210, 211, 212, 213, 214, 215, 216, 217, 218, 219, 220, 221, 222, 223, 224] (by decide +kernel) (by decide +kernel)) (goodIn_sub (fun _ h => List.mem_cons_of_mem _ (List.mem_append_right _ h)) (by decide +kernel))
set_option maxRecDepth 20000 in
theorem gX7_predict_X7_sets : GoodIn wsX7_predict (wsV RX7 126 RX7 yX7_sets wsX7_sets) := goodIn_app (goodIn_of _ (by decide +kernel)) ggX7_predict_X7_sets
set_option maxRecDepth 20000 in
theorem ggX7_predict_X7_goesTick : GoodIn wsX7_predict wsX7_goesTick := goodIn_ca (goodIn_r _ [26, 2, 27, 28, 29, 30, 7, 31, 32, 33, 34, 35, 36, 37, 38, 39, 40, 41, 42, 43, 44, 45, 46, 47, 48, 49, 50, 51, 52, 53, 54, 55, 56, 57, 58, 59, 60, 61, 62, 63, 64, 65, 66, 67, 68, 69, 70, 71, 72, 73, 74, 75, 76, 77, 78, 79, 80, 81, 82, 83, 84, 85, 86, 87, 88, 89, 90, 91, 92, 13, 14, 15, 93, 94, 95, 96, 97, 98, 99, 100, 101, 102, 103, 104, 105, 106, 107, 108, 109, 110, 111, 112, 113, 114, 115, 116, 117, 118, 119, 120, 121, 122, 19, 20, 21, 22, 123, 124, 125, 126, 127, 128, 129, 130, 131, 132, 133, 134, 135, 136, 137, 138, 139, 140, 141, 142, 143, 144, 145, 146, 147, 148, 149, 150, 151, 152, 153, 154, 155, 156, 157, 158, 159, 160, 161, 162, 163, 164, 165, 166, 167, 168, 169, 170, 171, 172, 173, 174, 175, 176, 177, 178, 179, 180, 181, 182, 183, 184, 185, 186, 187, 188, 189, 190, 191, 192, 193, 194, 195, 196, 197, 198, 199, 200, 201, 202, 203, 204, 205, 206, 207, 208, 209, 210, 211, 212, 213, 214, 215, 216, 217, 218, 219, 220, 221, 222, 223, 224] (by decide +kernel) (by decide +kernel)) (goodIn_sub (fun _ h => List.mem_cons_of_mem _ (List.mem_append_right _ h)) (by decide +kernel))
set_option maxRecDepth 20000 in
theorem gX7_predict_X7_goesTick : GoodIn wsX7_predict (wsV RX7 215 RX7 yX7_goesTick wsX7_goesTick) := goodIn_app (goodIn_of _ (by decide +kernel)) ggX7_predict_X7_goesTick
set_option maxRecDepth 20000 in
theorem ggX7_predict_X7_of : GoodIn wsX7_predict wsX7_of := goodIn_ca (goodIn_r _ [31, 2, 208, 209, 210, 211, 212, 213, 214, 215, 216, 217, 218, 219, 220, 221, 222, 223, 224] (by decide +kernel) (by decide +kernel)) (goodIn_sub (fun _ h => List.mem_cons_of_mem _ (List.mem_append_right _ h)) (by decide +kernel))
set_option maxRecDepth 20000 in
theorem gX7_predict_X7_of : GoodIn wsX7_predict (wsV RX7 68 RX7 yX7_of wsX7_of) := goodIn_app (goodIn_of _ (by decide +kernel)) ggX7_predict_X7_of
theorem dX7_predict_0 : decode cX7_predict 0 = .ok (.aload_n 0, 1) := by decide +kernel
theorem dX7_predict_1 : decode cX7_predict 1 = .ok (.iload_n 1, 1) := by decide +kernel
theorem dX7_predict_2 : decode cX7_predict 2 = .ok (.invokevirtual 224, 3) := by decide +kernel
theorem dX7_predict_5 : decode cX7_predict 5 = .ok (.ifCond .ne 9, 3) := by decide +kernel
theorem dX7_predict_8 : decode cX7_predict 8 = .ok (.aload_n 0, 1) := by decide +kernel
theorem dX7_predict_9 : decode cX7_predict 9 = .ok (.iconst 1, 1) := by decide +kernel
theorem dX7_predict_10 : decode cX7_predict 10 = .ok (.invokevirtual 218, 3) := by decide +kernel
theorem dX7_predict_13 : decode cX7_predict 13 = .ok (.ireturn, 1) := by decide +kernel
theorem dX7_predict_14 : decode cX7_predict 14 = .ok (.iload_n 2, 1) := by decide +kernel
theorem dX7_predict_15 : decode cX7_predict 15 = .ok (.iconst 0, 1) := by decide +kernel
theorem dX7_predict_16 : decode cX7_predict 16 = .ok (.bipush 15, 2) := by decide +kernel
theorem dX7_predict_18 : decode cX7_predict 18 = .ok (.invokestatic 61, 3) := by decide +kernel
theorem dX7_predict_21 : decode cX7_predict 21 = .ok (.ifCond .eq 24, 3) := by decide +kernel
theorem dX7_predict_24 : decode cX7_predict 24 = .ok (.iload_n 3, 1) := by decide +kernel
theorem dX7_predict_25 : decode cX7_predict 25 = .ok (.iconst 1, 1) := by decide +kernel
theorem dX7_predict_26 : decode cX7_predict 26 = .ok (.bipush 40, 2) := by decide +kernel
theorem dX7_predict_28 : decode cX7_predict 28 = .ok (.invokestatic 61, 3) := by decide +kernel
theorem dX7_predict_31 : decode cX7_predict 31 = .ok (.ifCond .eq 14, 3) := by decide +kernel
theorem dX7_predict_34 : decode cX7_predict 34 = .ok (.iload 4, 2) := by decide +kernel
theorem dX7_predict_36 : decode cX7_predict 36 = .ok (.iconst 0, 1) := by decide +kernel
theorem dX7_predict_37 : decode cX7_predict 37 = .ok (.bipush 6, 2) := by decide +kernel
theorem dX7_predict_39 : decode cX7_predict 39 = .ok (.invokestatic 61, 3) := by decide +kernel
theorem dX7_predict_42 : decode cX7_predict 42 = .ok (.ifCond .ne 9, 3) := by decide +kernel
theorem dX7_predict_45 : decode cX7_predict 45 = .ok (.aload_n 0, 1) := by decide +kernel
theorem dX7_predict_46 : decode cX7_predict 46 = .ok (.iconst 2, 1) := by decide +kernel
theorem dX7_predict_47 : decode cX7_predict 47 = .ok (.invokevirtual 218, 3) := by decide +kernel
theorem dX7_predict_50 : decode cX7_predict 50 = .ok (.ireturn, 1) := by decide +kernel
theorem dX7_predict_51 : decode cX7_predict 51 = .ok (.aload_n 0, 1) := by decide +kernel
theorem dX7_predict_52 : decode cX7_predict 52 = .ok (.iconst 0, 1) := by decide +kernel
theorem dX7_predict_53 : decode cX7_predict 53 = .ok (.putfield 45, 3) := by decide +kernel
theorem dX7_predict_56 : decode cX7_predict 56 = .ok (.aload_n 0, 1) := by decide +kernel
theorem dX7_predict_57 : decode cX7_predict 57 = .ok (.getfield 7, 3) := by decide +kernel
theorem dX7_predict_60 : decode cX7_predict 60 = .ok (.iconst 0, 1) := by decide +kernel
theorem dX7_predict_61 : decode cX7_predict 61 = .ok (.aload_n 0, 1) := by decide +kernel
theorem dX7_predict_62 : decode cX7_predict 62 = .ok (.getfield 22, 3) := by decide +kernel
theorem dX7_predict_65 : decode cX7_predict 65 = .ok (.iconst 0, 1) := by decide +kernel
theorem dX7_predict_66 : decode cX7_predict 66 = .ok (.invokestatic 211, 3) := by decide +kernel
theorem dX7_predict_69 : decode cX7_predict 69 = .ok (.aload_n 0, 1) := by decide +kernel
theorem dX7_predict_70 : decode cX7_predict 70 = .ok (.iload_n 1, 1) := by decide +kernel
theorem dX7_predict_71 : decode cX7_predict 71 = .ok (.bipush 9, 2) := by decide +kernel
theorem dX7_predict_73 : decode cX7_predict 73 = .ok (.iload_n 2, 1) := by decide +kernel
theorem dX7_predict_74 : decode cX7_predict 74 = .ok (.invokevirtual 126, 3) := by decide +kernel
theorem dX7_predict_77 : decode cX7_predict 77 = .ok (.iconst 0, 1) := by decide +kernel
theorem dX7_predict_78 : decode cX7_predict 78 = .ok (.istore 5, 2) := by decide +kernel
theorem dX7_predict_80 : decode cX7_predict 80 = .ok (.iload 5, 2) := by decide +kernel
theorem dX7_predict_82 : decode cX7_predict 82 = .ok (.iload_n 3, 1) := by decide +kernel
theorem dX7_predict_83 : decode cX7_predict 83 = .ok (.if_icmp .ge 13, 3) := by decide +kernel
theorem dX7_predict_86 : decode cX7_predict 86 = .ok (.aload_n 0, 1) := by decide +kernel
theorem dX7_predict_87 : decode cX7_predict 87 = .ok (.invokevirtual 215, 3) := by decide +kernel
theorem dX7_predict_90 : decode cX7_predict 90 = .ok (.iinc 5 1, 3) := by decide +kernel
theorem dX7_predict_93 : decode cX7_predict 93 = .ok (.goto (-13), 3) := by decide +kernel
theorem dX7_predict_96 : decode cX7_predict 96 = .ok (.aload_n 0, 1) := by decide +kernel
theorem dX7_predict_97 : decode cX7_predict 97 = .ok (.iload_n 1, 1) := by decide +kernel
theorem dX7_predict_98 : decode cX7_predict 98 = .ok (.iload 4, 2) := by decide +kernel
theorem dX7_predict_100 : decode cX7_predict 100 = .ok (.invokevirtual 68, 3) := by decide +kernel
theorem dX7_predict_103 : decode cX7_predict 103 = .ok (.istore 5, 2) := by decide +kernel
theorem dX7_predict_105 : decode cX7_predict 105 = .ok (.aload_n 0, 1) := by decide +kernel
theorem dX7_predict_106 : decode cX7_predict 106 = .ok (.getfield 22, 3) := by decide +kernel
theorem dX7_predict_109 : decode cX7_predict 109 = .ok (.iconst 0, 1) := by decide +kernel
theorem dX7_predict_110 : decode cX7_predict 110 = .ok (.aload_n 0, 1) := by decide +kernel
theorem dX7_predict_111 : decode cX7_predict 111 = .ok (.getfield 7, 3) := by decide +kernel
theorem dX7_predict_114 : decode cX7_predict 114 = .ok (.iconst 0, 1) := by decide +kernel
theorem dX7_predict_115 : decode cX7_predict 115 = .ok (.invokestatic 211, 3) := by decide +kernel
theorem dX7_predict_118 : decode cX7_predict 118 = .ok (.iload 5, 2) := by decide +kernel
theorem dX7_predict_120 : decode cX7_predict 120 = .ok (.ireturn, 1) := by decide +kernel
set_option maxRecDepth 20000 in
theorem ggX7_apex_X7_isBody : GoodIn wsX7_apex wsX7_isBody := goodIn_ca (goodIn_r _ [8, 2, 208, 209, 210, 211, 212, 213, 214, 215, 216, 217, 218, 219, 220, 221, 222, 223, 224] (by decide +kernel) (by decide +kernel)) (goodIn_sub (fun _ h => List.mem_cons_of_mem _ (List.mem_append_right _ h)) (by decide +kernel))
set_option maxRecDepth 20000 in
theorem gX7_apex_X7_isBody : GoodIn wsX7_apex (wsV RX7 224 RX7 yX7_isBody wsX7_isBody) := goodIn_app (goodIn_of _ (by decide +kernel)) ggX7_apex_X7_isBody
set_option maxRecDepth 20000 in
theorem ggX7_apex_X7_fails : GoodIn wsX7_apex wsX7_fails := goodIn_r _ [12, 1, 208, 209, 210, 211, 212, 213, 214, 215, 216, 217, 218, 219, 220, 221, 222, 223, 224] (by decide +kernel) (by decide +kernel)
set_option maxRecDepth 20000 in
theorem gX7_apex_X7_fails : GoodIn wsX7_apex (wsV RX7 218 RX7 yX7_fails wsX7_fails) := goodIn_app (goodIn_of _ (by decide +kernel)) ggX7_apex_X7_fails
set_option maxRecDepth 20000 in
theorem ggX7_apex_X7_isBetween : GoodIn wsX7_apex wsX7_isBetween := goodIn_r _ [15] (by decide +kernel) (by decide +kernel)
set_option maxRecDepth 20000 in
theorem gX7_apex_X7_isBetween : GoodIn wsX7_apex (va_wsS RX7 61 yX7_isBetween wsX7_isBetween) := goodIn_app (goodIn_of _ (by decide +kernel)) ggX7_apex_X7_isBetween
set_option maxRecDepth 20000 in
theorem ggX7_apex_X7_copies : GoodIn wsX7_apex wsX7_copies := goodIn_ca (goodIn_r _ [18] (by decide +kernel) (by decide +kernel)) (goodIn_sub (fun _ h => List.mem_cons_of_mem _ (List.mem_append_right _ h)) (by decide +kernel))
set_option maxRecDepth 20000 in
theorem gX7_apex_X7_copies : GoodIn wsX7_apex (va_wsS RX7 211 yX7_copies wsX7_copies) := goodIn_app (goodIn_of _ (by decide +kernel)) ggX7_apex_X7_copies
set_option maxRecDepth 20000 in
theorem ggX7_apex_X7_of : GoodIn wsX7_apex wsX7_of := goodIn_ca (goodIn_r _ [22, 2, 208, 209, 210, 211, 212, 213, 214, 215, 216, 217, 218, 219, 220, 221, 222, 223, 224] (by decide +kernel) (by decide +kernel)) (goodIn_sub (fun _ h => List.mem_cons_of_mem _ (List.mem_append_right _ h)) (by decide +kernel))
set_option maxRecDepth 20000 in
theorem gX7_apex_X7_of : GoodIn wsX7_apex (wsV RX7 68 RX7 yX7_of wsX7_of) := goodIn_app (goodIn_of _ (by decide +kernel)) ggX7_apex_X7_of
set_option maxRecDepth 20000 in
theorem ggX7_apex_X7_sets : GoodIn wsX7_apex wsX7_sets := goodIn_ca (goodIn_r _ [26, 2, 208, 209, 210, 211, 212, 213, 214, 215, 216, 217, 218, 219, 220, 221, 222, 223, 224] (by decide +kernel) (by decide +kernel)) (goodIn_sub (fun _ h => List.mem_cons_of_mem _ (List.mem_append_right _ h)) (by decide +kernel))
set_option maxRecDepth 20000 in
theorem gX7_apex_X7_sets : GoodIn wsX7_apex (wsV RX7 126 RX7 yX7_sets wsX7_sets) := goodIn_app (goodIn_of _ (by decide +kernel)) ggX7_apex_X7_sets
set_option maxRecDepth 20000 in
theorem ggX7_apex_X7_goesTick : GoodIn wsX7_apex wsX7_goesTick := goodIn_ca (goodIn_r _ [30, 2, 31, 19, 20, 21, 7, 22, 32, 33, 34, 35, 36, 37, 38, 39, 40, 41, 42, 43, 44, 45, 46, 47, 48, 49, 50, 51, 52, 53, 54, 55, 56, 57, 58, 59, 60, 61, 62, 63, 64, 65, 66, 67, 68, 69, 70, 71, 72, 73, 74, 75, 76, 77, 78, 79, 80, 81, 82, 83, 84, 85, 86, 87, 88, 89, 90, 91, 92, 13, 14, 15, 93, 94, 95, 96, 97, 98, 99, 100, 101, 102, 103, 104, 105, 106, 107, 108, 109, 110, 111, 112, 113, 114, 115, 116, 117, 118, 119, 120, 121, 122, 23, 24, 25, 26, 123, 124, 125, 126, 127, 128, 129, 130, 131, 132, 133, 134, 135, 136, 137, 138, 139, 140, 141, 142, 143, 144, 145, 146, 147, 148, 149, 150, 151, 152, 153, 154, 155, 156, 157, 158, 159, 160, 161, 162, 163, 164, 165, 166, 167, 168, 169, 170, 171, 172, 173, 174, 175, 176, 177, 178, 179, 180, 181, 182, 183, 184, 185, 186, 187, 188, 189, 190, 191, 192, 193, 194, 195, 196, 197, 198, 199, 200, 201, 202, 203, 204, 205, 206, 207, 208, 209, 210, 211, 212, 213, 214, 215, 216, 217, 218, 219, 220, 221, 222, 223, 224] (by decide +kernel) (by decide +kernel)) (goodIn_sub (fun _ h => List.mem_cons_of_mem _ (List.mem_append_right _ h)) (by decide +kernel))
set_option maxRecDepth 20000 in
theorem gX7_apex_X7_goesTick : GoodIn wsX7_apex (wsV RX7 215 RX7 yX7_goesTick wsX7_goesTick) := goodIn_app (goodIn_of _ (by decide +kernel)) ggX7_apex_X7_goesTick
theorem dX7_apex_0 : decode cX7_apex 0 = .ok (.aload_n 0, 1) := by decide +kernel
theorem dX7_apex_1 : decode cX7_apex 1 = .ok (.iload_n 1, 1) := by decide +kernel
theorem dX7_apex_2 : decode cX7_apex 2 = .ok (.invokevirtual 224, 3) := by decide +kernel
theorem dX7_apex_5 : decode cX7_apex 5 = .ok (.ifCond .ne 9, 3) := by decide +kernel
theorem dX7_apex_8 : decode cX7_apex 8 = .ok (.aload_n 0, 1) := by decide +kernel
theorem dX7_apex_9 : decode cX7_apex 9 = .ok (.iconst 1, 1) := by decide +kernel
theorem dX7_apex_10 : decode cX7_apex 10 = .ok (.invokevirtual 218, 3) := by decide +kernel
theorem dX7_apex_13 : decode cX7_apex 13 = .ok (.ireturn, 1) := by decide +kernel
theorem dX7_apex_14 : decode cX7_apex 14 = .ok (.iload_n 2, 1) := by decide +kernel
theorem dX7_apex_15 : decode cX7_apex 15 = .ok (.iconst 0, 1) := by decide +kernel
theorem dX7_apex_16 : decode cX7_apex 16 = .ok (.bipush 15, 2) := by decide +kernel
theorem dX7_apex_18 : decode cX7_apex 18 = .ok (.invokestatic 61, 3) := by decide +kernel
theorem dX7_apex_21 : decode cX7_apex 21 = .ok (.ifCond .eq 13, 3) := by decide +kernel
theorem dX7_apex_24 : decode cX7_apex 24 = .ok (.iload_n 3, 1) := by decide +kernel
theorem dX7_apex_25 : decode cX7_apex 25 = .ok (.iconst 1, 1) := by decide +kernel
theorem dX7_apex_26 : decode cX7_apex 26 = .ok (.bipush 40, 2) := by decide +kernel
theorem dX7_apex_28 : decode cX7_apex 28 = .ok (.invokestatic 61, 3) := by decide +kernel
theorem dX7_apex_31 : decode cX7_apex 31 = .ok (.ifCond .ne 9, 3) := by decide +kernel
theorem dX7_apex_34 : decode cX7_apex 34 = .ok (.aload_n 0, 1) := by decide +kernel
theorem dX7_apex_35 : decode cX7_apex 35 = .ok (.iconst 2, 1) := by decide +kernel
theorem dX7_apex_36 : decode cX7_apex 36 = .ok (.invokevirtual 218, 3) := by decide +kernel
theorem dX7_apex_39 : decode cX7_apex 39 = .ok (.ireturn, 1) := by decide +kernel
theorem dX7_apex_40 : decode cX7_apex 40 = .ok (.aload_n 0, 1) := by decide +kernel
theorem dX7_apex_41 : decode cX7_apex 41 = .ok (.iconst 0, 1) := by decide +kernel
theorem dX7_apex_42 : decode cX7_apex 42 = .ok (.putfield 45, 3) := by decide +kernel
theorem dX7_apex_45 : decode cX7_apex 45 = .ok (.aload_n 0, 1) := by decide +kernel
theorem dX7_apex_46 : decode cX7_apex 46 = .ok (.getfield 7, 3) := by decide +kernel
theorem dX7_apex_49 : decode cX7_apex 49 = .ok (.iconst 0, 1) := by decide +kernel
theorem dX7_apex_50 : decode cX7_apex 50 = .ok (.aload_n 0, 1) := by decide +kernel
theorem dX7_apex_51 : decode cX7_apex 51 = .ok (.getfield 22, 3) := by decide +kernel
theorem dX7_apex_54 : decode cX7_apex 54 = .ok (.iconst 0, 1) := by decide +kernel
theorem dX7_apex_55 : decode cX7_apex 55 = .ok (.invokestatic 211, 3) := by decide +kernel
theorem dX7_apex_58 : decode cX7_apex 58 = .ok (.aload_n 0, 1) := by decide +kernel
theorem dX7_apex_59 : decode cX7_apex 59 = .ok (.iload_n 1, 1) := by decide +kernel
theorem dX7_apex_60 : decode cX7_apex 60 = .ok (.iconst 1, 1) := by decide +kernel
theorem dX7_apex_61 : decode cX7_apex 61 = .ok (.invokevirtual 68, 3) := by decide +kernel
theorem dX7_apex_64 : decode cX7_apex 64 = .ok (.istore 4, 2) := by decide +kernel
theorem dX7_apex_66 : decode cX7_apex 66 = .ok (.aload_n 0, 1) := by decide +kernel
theorem dX7_apex_67 : decode cX7_apex 67 = .ok (.iload_n 1, 1) := by decide +kernel
theorem dX7_apex_68 : decode cX7_apex 68 = .ok (.bipush 9, 2) := by decide +kernel
theorem dX7_apex_70 : decode cX7_apex 70 = .ok (.iload_n 2, 1) := by decide +kernel
theorem dX7_apex_71 : decode cX7_apex 71 = .ok (.invokevirtual 126, 3) := by decide +kernel
theorem dX7_apex_74 : decode cX7_apex 74 = .ok (.iconst 0, 1) := by decide +kernel
theorem dX7_apex_75 : decode cX7_apex 75 = .ok (.istore 5, 2) := by decide +kernel
theorem dX7_apex_77 : decode cX7_apex 77 = .ok (.iload 5, 2) := by decide +kernel
theorem dX7_apex_79 : decode cX7_apex 79 = .ok (.iload_n 3, 1) := by decide +kernel
theorem dX7_apex_80 : decode cX7_apex 80 = .ok (.if_icmp .ge 37, 3) := by decide +kernel
theorem dX7_apex_83 : decode cX7_apex 83 = .ok (.aload_n 0, 1) := by decide +kernel
theorem dX7_apex_84 : decode cX7_apex 84 = .ok (.invokevirtual 215, 3) := by decide +kernel
theorem dX7_apex_87 : decode cX7_apex 87 = .ok (.aload_n 0, 1) := by decide +kernel
theorem dX7_apex_88 : decode cX7_apex 88 = .ok (.iload_n 1, 1) := by decide +kernel
theorem dX7_apex_89 : decode cX7_apex 89 = .ok (.iconst 1, 1) := by decide +kernel
theorem dX7_apex_90 : decode cX7_apex 90 = .ok (.invokevirtual 68, 3) := by decide +kernel
theorem dX7_apex_93 : decode cX7_apex 93 = .ok (.iload 4, 2) := by decide +kernel
theorem dX7_apex_95 : decode cX7_apex 95 = .ok (.if_icmp .le 12, 3) := by decide +kernel
theorem dX7_apex_98 : decode cX7_apex 98 = .ok (.aload_n 0, 1) := by decide +kernel
theorem dX7_apex_99 : decode cX7_apex 99 = .ok (.iload_n 1, 1) := by decide +kernel
theorem dX7_apex_100 : decode cX7_apex 100 = .ok (.iconst 1, 1) := by decide +kernel
theorem dX7_apex_101 : decode cX7_apex 101 = .ok (.invokevirtual 68, 3) := by decide +kernel
theorem dX7_apex_104 : decode cX7_apex 104 = .ok (.goto 5, 3) := by decide +kernel
theorem dX7_apex_107 : decode cX7_apex 107 = .ok (.iload 4, 2) := by decide +kernel
theorem dX7_apex_109 : decode cX7_apex 109 = .ok (.istore 4, 2) := by decide +kernel
theorem dX7_apex_111 : decode cX7_apex 111 = .ok (.iinc 5 1, 3) := by decide +kernel
theorem dX7_apex_114 : decode cX7_apex 114 = .ok (.goto (-37), 3) := by decide +kernel
theorem dX7_apex_117 : decode cX7_apex 117 = .ok (.aload_n 0, 1) := by decide +kernel
theorem dX7_apex_118 : decode cX7_apex 118 = .ok (.getfield 22, 3) := by decide +kernel
theorem dX7_apex_121 : decode cX7_apex 121 = .ok (.iconst 0, 1) := by decide +kernel
theorem dX7_apex_122 : decode cX7_apex 122 = .ok (.aload_n 0, 1) := by decide +kernel
theorem dX7_apex_123 : decode cX7_apex 123 = .ok (.getfield 7, 3) := by decide +kernel
theorem dX7_apex_126 : decode cX7_apex 126 = .ok (.iconst 0, 1) := by decide +kernel
theorem dX7_apex_127 : decode cX7_apex 127 = .ok (.invokestatic 211, 3) := by decide +kernel
theorem dX7_apex_130 : decode cX7_apex 130 = .ok (.iload 4, 2) := by decide +kernel
theorem dX7_apex_132 : decode cX7_apex 132 = .ok (.ireturn, 1) := by decide +kernel
set_option maxRecDepth 20000 in
theorem ggX7_statistic_X7_isBody : GoodIn wsX7_statistic wsX7_isBody := goodIn_ca (goodIn_r _ [6, 7, 19, 20, 21, 22, 23, 24, 25, 26, 27, 28, 29, 30, 31, 32, 33, 34, 35] (by decide +kernel) (by decide +kernel)) (goodIn_sub (fun _ h => List.mem_cons_of_mem _ (List.mem_append_right _ h)) (by decide +kernel))
set_option maxRecDepth 20000 in
theorem gX7_statistic_X7_isBody : GoodIn wsX7_statistic (wsV RX7 224 RX7 yX7_isBody wsX7_isBody) := goodIn_app (goodIn_of _ (by decide +kernel)) ggX7_statistic_X7_isBody
set_option maxRecDepth 20000 in
theorem ggX7_statistic_X7_fails : GoodIn wsX7_statistic wsX7_fails := goodIn_r _ [11, 1, 19, 20, 21, 22, 23, 24, 25, 26, 27, 28, 29, 30, 31, 32, 33, 34, 35] (by decide +kernel) (by decide +kernel)
set_option maxRecDepth 20000 in
theorem gX7_statistic_X7_fails : GoodIn wsX7_statistic (wsV RX7 218 RX7 yX7_fails wsX7_fails) := goodIn_app (goodIn_of _ (by decide +kernel)) ggX7_statistic_X7_fails
set_option maxRecDepth 20000 in
theorem ggX7_statistic_X7_isBetween : GoodIn wsX7_statistic wsX7_isBetween := goodIn_r _ [14] (by decide +kernel) (by decide +kernel)
set_option maxRecDepth 20000 in
theorem gX7_statistic_X7_isBetween : GoodIn wsX7_statistic (va_wsS RX7 61 yX7_isBetween wsX7_isBetween) := goodIn_app (goodIn_of _ (by decide +kernel)) ggX7_statistic_X7_isBetween
set_option maxRecDepth 20000 in
theorem ggX7_statistic_X7_of : GoodIn wsX7_statistic wsX7_of := goodIn_ca (goodIn_r _ [18, 7, 19, 20, 21, 22, 23, 24, 25, 26, 27, 28, 29, 30, 31, 32, 33, 34, 35] (by decide +kernel) (by decide +kernel)) (goodIn_sub (fun _ h => List.mem_cons_of_mem _ (List.mem_append_right _ h)) (by decide +kernel))
set_option maxRecDepth 20000 in
theorem gX7_statistic_X7_of : GoodIn wsX7_statistic (wsV RX7 68 RX7 yX7_of wsX7_of) := goodIn_app (goodIn_of _ (by decide +kernel)) ggX7_statistic_X7_of
theorem dX7_statistic_0 : decode cX7_statistic 0 = .ok (.aload_n 0, 1) := by decide +kernel
theorem dX7_statistic_1 : decode cX7_statistic 1 = .ok (.iload_n 1, 1) := by decide +kernel
theorem dX7_statistic_2 : decode cX7_statistic 2 = .ok (.invokevirtual 224, 3) := by decide +kernel
theorem dX7_statistic_5 : decode cX7_statistic 5 = .ok (.ifCond .ne 9, 3) := by decide +kernel
theorem dX7_statistic_8 : decode cX7_statistic 8 = .ok (.aload_n 0, 1) := by decide +kernel
theorem dX7_statistic_9 : decode cX7_statistic 9 = .ok (.iconst 1, 1) := by decide +kernel
theorem dX7_statistic_10 : decode cX7_statistic 10 = .ok (.invokevirtual 218, 3) := by decide +kernel
theorem dX7_statistic_13 : decode cX7_statistic 13 = .ok (.ireturn, 1) := by decide +kernel
theorem dX7_statistic_14 : decode cX7_statistic 14 = .ok (.iload_n 2, 1) := by decide +kernel
theorem dX7_statistic_15 : decode cX7_statistic 15 = .ok (.iconst 0, 1) := by decide +kernel
theorem dX7_statistic_16 : decode cX7_statistic 16 = .ok (.bipush 6, 2) := by decide +kernel
theorem dX7_statistic_18 : decode cX7_statistic 18 = .ok (.invokestatic 61, 3) := by decide +kernel
theorem dX7_statistic_21 : decode cX7_statistic 21 = .ok (.ifCond .ne 9, 3) := by decide +kernel
theorem dX7_statistic_24 : decode cX7_statistic 24 = .ok (.aload_n 0, 1) := by decide +kernel
theorem dX7_statistic_25 : decode cX7_statistic 25 = .ok (.iconst 2, 1) := by decide +kernel
theorem dX7_statistic_26 : decode cX7_statistic 26 = .ok (.invokevirtual 218, 3) := by decide +kernel
theorem dX7_statistic_29 : decode cX7_statistic 29 = .ok (.ireturn, 1) := by decide +kernel
theorem dX7_statistic_30 : decode cX7_statistic 30 = .ok (.aload_n 0, 1) := by decide +kernel
theorem dX7_statistic_31 : decode cX7_statistic 31 = .ok (.iconst 0, 1) := by decide +kernel
theorem dX7_statistic_32 : decode cX7_statistic 32 = .ok (.putfield 45, 3) := by decide +kernel
theorem dX7_statistic_35 : decode cX7_statistic 35 = .ok (.aload_n 0, 1) := by decide +kernel
theorem dX7_statistic_36 : decode cX7_statistic 36 = .ok (.iload_n 1, 1) := by decide +kernel
theorem dX7_statistic_37 : decode cX7_statistic 37 = .ok (.bipush 14, 2) := by decide +kernel
theorem dX7_statistic_39 : decode cX7_statistic 39 = .ok (.iload_n 2, 1) := by decide +kernel
theorem dX7_statistic_40 : decode cX7_statistic 40 = .ok (.iadd, 1) := by decide +kernel
theorem dX7_statistic_41 : decode cX7_statistic 41 = .ok (.invokevirtual 68, 3) := by decide +kernel
theorem dX7_statistic_44 : decode cX7_statistic 44 = .ok (.ireturn, 1) := by decide +kernel
set_option maxRecDepth 20000 in
theorem ggX7_meanMoves_X7_isBody : GoodIn wsX7_meanMoves wsX7_isBody := goodIn_ca (goodIn_r _ [6, 7, 16, 17, 18, 19, 20, 21, 22, 23, 24, 25, 26, 27, 28, 29, 30, 31, 32] (by decide +kernel) (by decide +kernel)) (goodIn_sub (fun _ h => List.mem_cons_of_mem _ (List.mem_append_right _ h)) (by decide +kernel))
set_option maxRecDepth 20000 in
theorem gX7_meanMoves_X7_isBody : GoodIn wsX7_meanMoves (wsV RX7 224 RX7 yX7_isBody wsX7_isBody) := goodIn_app (goodIn_of _ (by decide +kernel)) ggX7_meanMoves_X7_isBody
set_option maxRecDepth 20000 in
theorem ggX7_meanMoves_X7_fails : GoodIn wsX7_meanMoves wsX7_fails := goodIn_r _ [11, 1, 16, 17, 18, 19, 20, 21, 22, 23, 24, 25, 26, 27, 28, 29, 30, 31, 32] (by decide +kernel) (by decide +kernel)
set_option maxRecDepth 20000 in
theorem gX7_meanMoves_X7_fails : GoodIn wsX7_meanMoves (wsV RX7 218 RX7 yX7_fails wsX7_fails) := goodIn_app (goodIn_of _ (by decide +kernel)) ggX7_meanMoves_X7_fails
set_option maxRecDepth 20000 in
theorem ggX7_meanMoves_X7_of : GoodIn wsX7_meanMoves wsX7_of := goodIn_ca (goodIn_r _ [15, 7, 16, 17, 18, 19, 20, 21, 22, 23, 24, 25, 26, 27, 28, 29, 30, 31, 32] (by decide +kernel) (by decide +kernel)) (goodIn_sub (fun _ h => List.mem_cons_of_mem _ (List.mem_append_right _ h)) (by decide +kernel))
set_option maxRecDepth 20000 in
theorem gX7_meanMoves_X7_of : GoodIn wsX7_meanMoves (wsV RX7 68 RX7 yX7_of wsX7_of) := goodIn_app (goodIn_of _ (by decide +kernel)) ggX7_meanMoves_X7_of
theorem dX7_meanMoves_0 : decode cX7_meanMoves 0 = .ok (.aload_n 0, 1) := by decide +kernel
theorem dX7_meanMoves_1 : decode cX7_meanMoves 1 = .ok (.iload_n 1, 1) := by decide +kernel
theorem dX7_meanMoves_2 : decode cX7_meanMoves 2 = .ok (.invokevirtual 224, 3) := by decide +kernel
theorem dX7_meanMoves_5 : decode cX7_meanMoves 5 = .ok (.ifCond .ne 10, 3) := by decide +kernel
theorem dX7_meanMoves_8 : decode cX7_meanMoves 8 = .ok (.aload_n 0, 1) := by decide +kernel
theorem dX7_meanMoves_9 : decode cX7_meanMoves 9 = .ok (.iconst 1, 1) := by decide +kernel
theorem dX7_meanMoves_10 : decode cX7_meanMoves 10 = .ok (.invokevirtual 218, 3) := by decide +kernel
theorem dX7_meanMoves_13 : decode cX7_meanMoves 13 = .ok (.i2f, 1) := by decide +kernel
theorem dX7_meanMoves_14 : decode cX7_meanMoves 14 = .ok (.freturn, 1) := by decide +kernel
theorem dX7_meanMoves_15 : decode cX7_meanMoves 15 = .ok (.aload_n 0, 1) := by decide +kernel
theorem dX7_meanMoves_16 : decode cX7_meanMoves 16 = .ok (.iload_n 1, 1) := by decide +kernel
theorem dX7_meanMoves_17 : decode cX7_meanMoves 17 = .ok (.bipush 21, 2) := by decide +kernel
theorem dX7_meanMoves_19 : decode cX7_meanMoves 19 = .ok (.invokevirtual 68, 3) := by decide +kernel
theorem dX7_meanMoves_22 : decode cX7_meanMoves 22 = .ok (.ifCond .ne 10, 3) := by decide +kernel
theorem dX7_meanMoves_25 : decode cX7_meanMoves 25 = .ok (.aload_n 0, 1) := by decide +kernel
theorem dX7_meanMoves_26 : decode cX7_meanMoves 26 = .ok (.iconst 2, 1) := by decide +kernel
theorem dX7_meanMoves_27 : decode cX7_meanMoves 27 = .ok (.invokevirtual 218, 3) := by decide +kernel
theorem dX7_meanMoves_30 : decode cX7_meanMoves 30 = .ok (.i2f, 1) := by decide +kernel
theorem dX7_meanMoves_31 : decode cX7_meanMoves 31 = .ok (.freturn, 1) := by decide +kernel
theorem dX7_meanMoves_32 : decode cX7_meanMoves 32 = .ok (.aload_n 0, 1) := by decide +kernel
theorem dX7_meanMoves_33 : decode cX7_meanMoves 33 = .ok (.iconst 0, 1) := by decide +kernel
theorem dX7_meanMoves_34 : decode cX7_meanMoves 34 = .ok (.putfield 45, 3) := by decide +kernel
theorem dX7_meanMoves_37 : decode cX7_meanMoves 37 = .ok (.aload_n 0, 1) := by decide +kernel
theorem dX7_meanMoves_38 : decode cX7_meanMoves 38 = .ok (.iload_n 1, 1) := by decide +kernel
theorem dX7_meanMoves_39 : decode cX7_meanMoves 39 = .ok (.bipush 18, 2) := by decide +kernel
theorem dX7_meanMoves_41 : decode cX7_meanMoves 41 = .ok (.invokevirtual 68, 3) := by decide +kernel
theorem dX7_meanMoves_44 : decode cX7_meanMoves 44 = .ok (.i2f, 1) := by decide +kernel
theorem dX7_meanMoves_45 : decode cX7_meanMoves 45 = .ok (.aload_n 0, 1) := by decide +kernel
theorem dX7_meanMoves_46 : decode cX7_meanMoves 46 = .ok (.iload_n 1, 1) := by decide +kernel
theorem dX7_meanMoves_47 : decode cX7_meanMoves 47 = .ok (.bipush 21, 2) := by decide +kernel
theorem dX7_meanMoves_49 : decode cX7_meanMoves 49 = .ok (.invokevirtual 68, 3) := by decide +kernel
theorem dX7_meanMoves_52 : decode cX7_meanMoves 52 = .ok (.i2f, 1) := by decide +kernel
theorem dX7_meanMoves_53 : decode cX7_meanMoves 53 = .ok (.fdiv, 1) := by decide +kernel
theorem dX7_meanMoves_54 : decode cX7_meanMoves 54 = .ok (.freturn, 1) := by decide +kernel
theorem dX7_append_0 : decode cX7_append 0 = .ok (.aload_n 0, 1) := by decide +kernel
theorem dX7_append_1 : decode cX7_append 1 = .ok (.aload_n 0, 1) := by decide +kernel
theorem dX7_append_2 : decode cX7_append 2 = .ok (.getfield 246, 3) := by decide +kernel
theorem dX7_append_5 : decode cX7_append 5 = .ok (.bipush 40, 2) := by decide +kernel
theorem dX7_append_7 : decode cX7_append 7 = .ok (.if_icmp .ne 7, 3) := by decide +kernel
theorem dX7_append_10 : decode cX7_append 10 = .ok (.iconst 1, 1) := by decide +kernel
theorem dX7_append_11 : decode cX7_append 11 = .ok (.goto 4, 3) := by decide +kernel
theorem dX7_append_14 : decode cX7_append 14 = .ok (.iconst 0, 1) := by decide +kernel
theorem dX7_append_15 : decode cX7_append 15 = .ok (.putfield 45, 3) := by decide +kernel
theorem dX7_append_18 : decode cX7_append 18 = .ok (.aload_n 0, 1) := by decide +kernel
theorem dX7_append_19 : decode cX7_append 19 = .ok (.getfield 45, 3) := by decide +kernel
theorem dX7_append_22 : decode cX7_append 22 = .ok (.ifCond .le 4, 3) := by decide +kernel
theorem dX7_append_25 : decode cX7_append 25 = .ok (.return_, 1) := by decide +kernel
theorem dX7_append_26 : decode cX7_append 26 = .ok (.aload_n 0, 1) := by decide +kernel
theorem dX7_append_27 : decode cX7_append 27 = .ok (.getfield 31, 3) := by decide +kernel
theorem dX7_append_30 : decode cX7_append 30 = .ok (.aload_n 0, 1) := by decide +kernel
theorem dX7_append_31 : decode cX7_append 31 = .ok (.getfield 246, 3) := by decide +kernel
theorem dX7_append_34 : decode cX7_append 34 = .ok (.iload_n 1, 1) := by decide +kernel
theorem dX7_append_35 : decode cX7_append 35 = .ok (.castore, 1) := by decide +kernel
theorem dX7_append_36 : decode cX7_append 36 = .ok (.aload_n 0, 1) := by decide +kernel
theorem dX7_append_37 : decode cX7_append 37 = .ok (.dup, 1) := by decide +kernel
theorem dX7_append_38 : decode cX7_append 38 = .ok (.getfield 246, 3) := by decide +kernel
theorem dX7_append_41 : decode cX7_append 41 = .ok (.iconst 1, 1) := by decide +kernel
theorem dX7_append_42 : decode cX7_append 42 = .ok (.iadd, 1) := by decide +kernel
theorem dX7_append_43 : decode cX7_append 43 = .ok (.putfield 246, 3) := by decide +kernel
theorem dX7_append_46 : decode cX7_append 46 = .ok (.return_, 1) := by decide +kernel
theorem dX7_kindOf_0 : decode cX7_kindOf 0 = .ok (.iload_n 0, 1) := by decide +kernel
theorem dX7_kindOf_1 : decode cX7_kindOf 1 = .ok (.lookupswitch 126 #[(35, 101), (46, 99), (47, 105), (60, 114), (61, 103), (62, 111), (92, 107), (94, 117), (105, 109), (111, 123), (120, 120)], 99) := by decide +kernel
theorem dX7_kindOf_100 : decode cX7_kindOf 100 = .ok (.iconst 0, 1) := by decide +kernel
theorem dX7_kindOf_101 : decode cX7_kindOf 101 = .ok (.ireturn, 1) := by decide +kernel
theorem dX7_kindOf_102 : decode cX7_kindOf 102 = .ok (.iconst 1, 1) := by decide +kernel
theorem dX7_kindOf_103 : decode cX7_kindOf 103 = .ok (.ireturn, 1) := by decide +kernel
theorem dX7_kindOf_104 : decode cX7_kindOf 104 = .ok (.iconst 2, 1) := by decide +kernel
theorem dX7_kindOf_105 : decode cX7_kindOf 105 = .ok (.ireturn, 1) := by decide +kernel
theorem dX7_kindOf_106 : decode cX7_kindOf 106 = .ok (.iconst 3, 1) := by decide +kernel
theorem dX7_kindOf_107 : decode cX7_kindOf 107 = .ok (.ireturn, 1) := by decide +kernel
theorem dX7_kindOf_108 : decode cX7_kindOf 108 = .ok (.iconst 4, 1) := by decide +kernel
theorem dX7_kindOf_109 : decode cX7_kindOf 109 = .ok (.ireturn, 1) := by decide +kernel
theorem dX7_kindOf_110 : decode cX7_kindOf 110 = .ok (.iconst 5, 1) := by decide +kernel
theorem dX7_kindOf_111 : decode cX7_kindOf 111 = .ok (.ireturn, 1) := by decide +kernel
theorem dX7_kindOf_112 : decode cX7_kindOf 112 = .ok (.bipush 6, 2) := by decide +kernel
theorem dX7_kindOf_114 : decode cX7_kindOf 114 = .ok (.ireturn, 1) := by decide +kernel
theorem dX7_kindOf_115 : decode cX7_kindOf 115 = .ok (.bipush 7, 2) := by decide +kernel
theorem dX7_kindOf_117 : decode cX7_kindOf 117 = .ok (.ireturn, 1) := by decide +kernel
theorem dX7_kindOf_118 : decode cX7_kindOf 118 = .ok (.bipush 8, 2) := by decide +kernel
theorem dX7_kindOf_120 : decode cX7_kindOf 120 = .ok (.ireturn, 1) := by decide +kernel
theorem dX7_kindOf_121 : decode cX7_kindOf 121 = .ok (.bipush 9, 2) := by decide +kernel
theorem dX7_kindOf_123 : decode cX7_kindOf 123 = .ok (.ireturn, 1) := by decide +kernel
theorem dX7_kindOf_124 : decode cX7_kindOf 124 = .ok (.bipush 10, 2) := by decide +kernel
theorem dX7_kindOf_126 : decode cX7_kindOf 126 = .ok (.ireturn, 1) := by decide +kernel
theorem dX7_kindOf_127 : decode cX7_kindOf 127 = .ok (.iconst (-1), 1) := by decide +kernel
theorem dX7_kindOf_128 : decode cX7_kindOf 128 = .ok (.ireturn, 1) := by decide +kernel
set_option maxRecDepth 20000 in
theorem ggX7_areTiles_X7_kindOf : GoodIn wsX7_areTiles wsX7_kindOf := goodIn_r _ [6] (by decide +kernel) (by decide +kernel)
set_option maxRecDepth 20000 in
theorem gX7_areTiles_X7_kindOf : GoodIn wsX7_areTiles (va_wsS RX7 252 yX7_kindOf wsX7_kindOf) := goodIn_app (goodIn_of _ (by decide +kernel)) ggX7_areTiles_X7_kindOf
theorem dX7_areTiles_0 : decode cX7_areTiles 0 = .ok (.aload_n 0, 1) := by decide +kernel
theorem dX7_areTiles_1 : decode cX7_areTiles 1 = .ok (.iconst 0, 1) := by decide +kernel
theorem dX7_areTiles_2 : decode cX7_areTiles 2 = .ok (.putfield 249, 3) := by decide +kernel
theorem dX7_areTiles_5 : decode cX7_areTiles 5 = .ok (.aload_n 0, 1) := by decide +kernel
theorem dX7_areTiles_6 : decode cX7_areTiles 6 = .ok (.getfield 249, 3) := by decide +kernel
theorem dX7_areTiles_9 : decode cX7_areTiles 9 = .ok (.iload_n 1, 1) := by decide +kernel
theorem dX7_areTiles_10 : decode cX7_areTiles 10 = .ok (.if_icmp .ge 40, 3) := by decide +kernel
theorem dX7_areTiles_13 : decode cX7_areTiles 13 = .ok (.aload_n 0, 1) := by decide +kernel
theorem dX7_areTiles_14 : decode cX7_areTiles 14 = .ok (.getfield 249, 3) := by decide +kernel
theorem dX7_areTiles_17 : decode cX7_areTiles 17 = .ok (.bipush 24, 2) := by decide +kernel
theorem dX7_areTiles_19 : decode cX7_areTiles 19 = .ok (.if_icmp .ge 31, 3) := by decide +kernel
theorem dX7_areTiles_22 : decode cX7_areTiles 22 = .ok (.aload_n 0, 1) := by decide +kernel
theorem dX7_areTiles_23 : decode cX7_areTiles 23 = .ok (.getfield 31, 3) := by decide +kernel
theorem dX7_areTiles_26 : decode cX7_areTiles 26 = .ok (.aload_n 0, 1) := by decide +kernel
theorem dX7_areTiles_27 : decode cX7_areTiles 27 = .ok (.getfield 249, 3) := by decide +kernel
theorem dX7_areTiles_30 : decode cX7_areTiles 30 = .ok (.caload, 1) := by decide +kernel
theorem dX7_areTiles_31 : decode cX7_areTiles 31 = .ok (.invokestatic 252, 3) := by decide +kernel
theorem dX7_areTiles_34 : decode cX7_areTiles 34 = .ok (.ifCond .lt 16, 3) := by decide +kernel
theorem dX7_areTiles_37 : decode cX7_areTiles 37 = .ok (.aload_n 0, 1) := by decide +kernel
theorem dX7_areTiles_38 : decode cX7_areTiles 38 = .ok (.dup, 1) := by decide +kernel
theorem dX7_areTiles_39 : decode cX7_areTiles 39 = .ok (.getfield 249, 3) := by decide +kernel
theorem dX7_areTiles_42 : decode cX7_areTiles 42 = .ok (.iconst 1, 1) := by decide +kernel
theorem dX7_areTiles_43 : decode cX7_areTiles 43 = .ok (.iadd, 1) := by decide +kernel
theorem dX7_areTiles_44 : decode cX7_areTiles 44 = .ok (.putfield 249, 3) := by decide +kernel
theorem dX7_areTiles_47 : decode cX7_areTiles 47 = .ok (.goto (-42), 3) := by decide +kernel
theorem dX7_areTiles_50 : decode cX7_areTiles 50 = .ok (.aload_n 0, 1) := by decide +kernel
theorem dX7_areTiles_51 : decode cX7_areTiles 51 = .ok (.getfield 249, 3) := by decide +kernel
theorem dX7_areTiles_54 : decode cX7_areTiles 54 = .ok (.ifCond .le 15, 3) := by decide +kernel
theorem dX7_areTiles_57 : decode cX7_areTiles 57 = .ok (.aload_n 0, 1) := by decide +kernel
theorem dX7_areTiles_58 : decode cX7_areTiles 58 = .ok (.getfield 249, 3) := by decide +kernel
theorem dX7_areTiles_61 : decode cX7_areTiles 61 = .ok (.iload_n 1, 1) := by decide +kernel
theorem dX7_areTiles_62 : decode cX7_areTiles 62 = .ok (.if_icmp .ne 7, 3) := by decide +kernel
theorem dX7_areTiles_65 : decode cX7_areTiles 65 = .ok (.iconst 1, 1) := by decide +kernel
theorem dX7_areTiles_66 : decode cX7_areTiles 66 = .ok (.goto 4, 3) := by decide +kernel
theorem dX7_areTiles_69 : decode cX7_areTiles 69 = .ok (.iconst 0, 1) := by decide +kernel
theorem dX7_areTiles_70 : decode cX7_areTiles 70 = .ok (.ireturn, 1) := by decide +kernel
set_option maxRecDepth 20000 in
theorem ggX7_readTiles_X7_isTile : GoodIn wsX7_readTiles wsX7_isTile := goodIn_r _ [12] (by decide +kernel) (by decide +kernel)
set_option maxRecDepth 20000 in
theorem gX7_readTiles_X7_isTile : GoodIn wsX7_readTiles (va_wsS RX7 227 yX7_isTile wsX7_isTile) := goodIn_app (goodIn_of _ (by decide +kernel)) ggX7_readTiles_X7_isTile
set_option maxRecDepth 20000 in
theorem ggX7_readTiles_X7_fails : GoodIn wsX7_readTiles wsX7_fails := goodIn_r _ [16, 7, 74, 75, 76, 77, 78, 79, 80, 81, 82, 83, 84, 85, 86, 87, 88, 89, 90] (by decide +kernel) (by decide +kernel)
set_option maxRecDepth 20000 in
theorem gX7_readTiles_X7_fails : GoodIn wsX7_readTiles (wsV RX7 218 RX7 yX7_fails wsX7_fails) := goodIn_app (goodIn_of _ (by decide +kernel)) ggX7_readTiles_X7_fails
set_option maxRecDepth 20000 in
theorem ggX7_readTiles_X7_areTiles : GoodIn wsX7_readTiles wsX7_areTiles := goodIn_ca (goodIn_r _ [20, 2, 6, 21, 22, 11, 23, 74, 75, 76, 77, 78, 79, 80, 81, 82, 83, 84, 85, 86, 87, 88, 89, 90] (by decide +kernel) (by decide +kernel)) (goodIn_sub (fun _ h => List.mem_cons_of_mem _ (List.mem_append_right _ h)) (by decide +kernel))
set_option maxRecDepth 20000 in
theorem gX7_readTiles_X7_areTiles : GoodIn wsX7_readTiles (wsV RX7 256 RX7 yX7_areTiles wsX7_areTiles) := goodIn_app (goodIn_of _ (by decide +kernel)) ggX7_readTiles_X7_areTiles
set_option maxRecDepth 20000 in
theorem ggX7_readTiles_X7_copies : GoodIn wsX7_readTiles wsX7_copies := goodIn_ca (goodIn_r _ [26] (by decide +kernel) (by decide +kernel)) (goodIn_sub (fun _ h => List.mem_cons_of_mem _ (List.mem_append_right _ h)) (by decide +kernel))
set_option maxRecDepth 20000 in
theorem gX7_readTiles_X7_copies : GoodIn wsX7_readTiles (va_wsS RX7 211 yX7_copies wsX7_copies) := goodIn_app (goodIn_of _ (by decide +kernel)) ggX7_readTiles_X7_copies
set_option maxRecDepth 20000 in
theorem ggX7_readTiles_X7_kindOf : GoodIn wsX7_readTiles wsX7_kindOf := goodIn_r _ [23] (by decide +kernel) (by decide +kernel)
set_option maxRecDepth 20000 in
theorem gX7_readTiles_X7_kindOf : GoodIn wsX7_readTiles (va_wsS RX7 252 yX7_kindOf wsX7_kindOf) := goodIn_app (goodIn_of _ (by decide +kernel)) ggX7_readTiles_X7_kindOf
set_option maxRecDepth 20000 in
theorem ggX7_readTiles_X7_isAnyBlocked : GoodIn wsX7_readTiles wsX7_isAnyBlocked := goodIn_ca (goodIn_r _ [30, 4, 31, 32, 33, 11, 34, 35, 36, 37, 38, 39, 40, 41, 42, 43, 44, 45, 46, 47, 48, 49, 50, 51, 52, 53, 54, 55, 56, 57, 58, 59, 60, 61, 62, 63, 64, 65, 66, 67, 68, 69, 70, 71, 72, 73, 74, 75, 76, 77, 78, 79, 80, 81, 82, 83, 84, 85, 86, 87, 88, 89, 90] (by decide +kernel) (by decide +kernel)) (goodIn_sub (fun _ h => List.mem_cons_of_mem _ (List.mem_append_right _ h)) (by decide +kernel))
set_option maxRecDepth 20000 in
theorem gX7_readTiles_X7_isAnyBlocked : GoodIn wsX7_readTiles (wsV RX7 230 RX7 yX7_isAnyBlocked wsX7_isAnyBlocked) := goodIn_app (goodIn_of _ (by decide +kernel)) ggX7_readTiles_X7_isAnyBlocked
theorem dX7_readTiles_0 : decode cX7_readTiles 0 = .ok (.aload_n 0, 1) := by decide +kernel
theorem dX7_readTiles_1 : decode cX7_readTiles 1 = .ok (.getfield 246, 3) := by decide +kernel
theorem dX7_readTiles_4 : decode cX7_readTiles 4 = .ok (.istore_n 3, 1) := by decide +kernel
theorem dX7_readTiles_5 : decode cX7_readTiles 5 = .ok (.aload_n 0, 1) := by decide +kernel
theorem dX7_readTiles_6 : decode cX7_readTiles 6 = .ok (.iconst 0, 1) := by decide +kernel
theorem dX7_readTiles_7 : decode cX7_readTiles 7 = .ok (.putfield 246, 3) := by decide +kernel
theorem dX7_readTiles_10 : decode cX7_readTiles 10 = .ok (.iload_n 1, 1) := by decide +kernel
theorem dX7_readTiles_11 : decode cX7_readTiles 11 = .ok (.iload_n 2, 1) := by decide +kernel
theorem dX7_readTiles_12 : decode cX7_readTiles 12 = .ok (.invokestatic 227, 3) := by decide +kernel
theorem dX7_readTiles_15 : decode cX7_readTiles 15 = .ok (.ifCond .ne 9, 3) := by decide +kernel
theorem dX7_readTiles_18 : decode cX7_readTiles 18 = .ok (.aload_n 0, 1) := by decide +kernel
theorem dX7_readTiles_19 : decode cX7_readTiles 19 = .ok (.iconst 1, 1) := by decide +kernel
theorem dX7_readTiles_20 : decode cX7_readTiles 20 = .ok (.invokevirtual 218, 3) := by decide +kernel
theorem dX7_readTiles_23 : decode cX7_readTiles 23 = .ok (.ireturn, 1) := by decide +kernel
theorem dX7_readTiles_24 : decode cX7_readTiles 24 = .ok (.aload_n 0, 1) := by decide +kernel
theorem dX7_readTiles_25 : decode cX7_readTiles 25 = .ok (.iload_n 3, 1) := by decide +kernel
theorem dX7_readTiles_26 : decode cX7_readTiles 26 = .ok (.invokevirtual 256, 3) := by decide +kernel
theorem dX7_readTiles_29 : decode cX7_readTiles 29 = .ok (.istore 4, 2) := by decide +kernel
theorem dX7_readTiles_31 : decode cX7_readTiles 31 = .ok (.aload_n 0, 1) := by decide +kernel
theorem dX7_readTiles_32 : decode cX7_readTiles 32 = .ok (.iload 4, 2) := by decide +kernel
theorem dX7_readTiles_34 : decode cX7_readTiles 34 = .ok (.ifCond .eq 7, 3) := by decide +kernel
theorem dX7_readTiles_37 : decode cX7_readTiles 37 = .ok (.iconst (-1), 1) := by decide +kernel
theorem dX7_readTiles_38 : decode cX7_readTiles 38 = .ok (.goto 7, 3) := by decide +kernel
theorem dX7_readTiles_41 : decode cX7_readTiles 41 = .ok (.aload_n 0, 1) := by decide +kernel
theorem dX7_readTiles_42 : decode cX7_readTiles 42 = .ok (.getfield 249, 3) := by decide +kernel
theorem dX7_readTiles_45 : decode cX7_readTiles 45 = .ok (.putfield 41, 3) := by decide +kernel
theorem dX7_readTiles_48 : decode cX7_readTiles 48 = .ok (.iload 4, 2) := by decide +kernel
theorem dX7_readTiles_50 : decode cX7_readTiles 50 = .ok (.ifCond .ne 9, 3) := by decide +kernel
theorem dX7_readTiles_53 : decode cX7_readTiles 53 = .ok (.aload_n 0, 1) := by decide +kernel
theorem dX7_readTiles_54 : decode cX7_readTiles 54 = .ok (.iconst 2, 1) := by decide +kernel
theorem dX7_readTiles_55 : decode cX7_readTiles 55 = .ok (.invokevirtual 218, 3) := by decide +kernel
theorem dX7_readTiles_58 : decode cX7_readTiles 58 = .ok (.ireturn, 1) := by decide +kernel
theorem dX7_readTiles_59 : decode cX7_readTiles 59 = .ok (.iload_n 3, 1) := by decide +kernel
theorem dX7_readTiles_60 : decode cX7_readTiles 60 = .ok (.bipush 24, 2) := by decide +kernel
theorem dX7_readTiles_62 : decode cX7_readTiles 62 = .ok (.iload_n 1, 1) := by decide +kernel
theorem dX7_readTiles_63 : decode cX7_readTiles 63 = .ok (.isub, 1) := by decide +kernel
theorem dX7_readTiles_64 : decode cX7_readTiles 64 = .ok (.if_icmp .le 9, 3) := by decide +kernel
theorem dX7_readTiles_67 : decode cX7_readTiles 67 = .ok (.aload_n 0, 1) := by decide +kernel
theorem dX7_readTiles_68 : decode cX7_readTiles 68 = .ok (.iconst 3, 1) := by decide +kernel
theorem dX7_readTiles_69 : decode cX7_readTiles 69 = .ok (.invokevirtual 218, 3) := by decide +kernel
theorem dX7_readTiles_72 : decode cX7_readTiles 72 = .ok (.ireturn, 1) := by decide +kernel
theorem dX7_readTiles_73 : decode cX7_readTiles 73 = .ok (.aload_n 0, 1) := by decide +kernel
theorem dX7_readTiles_74 : decode cX7_readTiles 74 = .ok (.getfield 7, 3) := by decide +kernel
theorem dX7_readTiles_77 : decode cX7_readTiles 77 = .ok (.iconst 0, 1) := by decide +kernel
theorem dX7_readTiles_78 : decode cX7_readTiles 78 = .ok (.aload_n 0, 1) := by decide +kernel
theorem dX7_readTiles_79 : decode cX7_readTiles 79 = .ok (.getfield 22, 3) := by decide +kernel
theorem dX7_readTiles_82 : decode cX7_readTiles 82 = .ok (.iconst 0, 1) := by decide +kernel
theorem dX7_readTiles_83 : decode cX7_readTiles 83 = .ok (.invokestatic 211, 3) := by decide +kernel
theorem dX7_readTiles_86 : decode cX7_readTiles 86 = .ok (.iconst 0, 1) := by decide +kernel
theorem dX7_readTiles_87 : decode cX7_readTiles 87 = .ok (.istore 5, 2) := by decide +kernel
theorem dX7_readTiles_89 : decode cX7_readTiles 89 = .ok (.iload 5, 2) := by decide +kernel
theorem dX7_readTiles_91 : decode cX7_readTiles 91 = .ok (.iload_n 3, 1) := by decide +kernel
theorem dX7_readTiles_92 : decode cX7_readTiles 92 = .ok (.if_icmp .ge 33, 3) := by decide +kernel
theorem dX7_readTiles_95 : decode cX7_readTiles 95 = .ok (.aload_n 0, 1) := by decide +kernel
theorem dX7_readTiles_96 : decode cX7_readTiles 96 = .ok (.getfield 7, 3) := by decide +kernel
theorem dX7_readTiles_99 : decode cX7_readTiles 99 = .ok (.bipush 24, 2) := by decide +kernel
theorem dX7_readTiles_101 : decode cX7_readTiles 101 = .ok (.iload_n 2, 1) := by decide +kernel
theorem dX7_readTiles_102 : decode cX7_readTiles 102 = .ok (.imul, 1) := by decide +kernel
theorem dX7_readTiles_103 : decode cX7_readTiles 103 = .ok (.iload_n 1, 1) := by decide +kernel
theorem dX7_readTiles_104 : decode cX7_readTiles 104 = .ok (.iadd, 1) := by decide +kernel
theorem dX7_readTiles_105 : decode cX7_readTiles 105 = .ok (.iload 5, 2) := by decide +kernel
theorem dX7_readTiles_107 : decode cX7_readTiles 107 = .ok (.iadd, 1) := by decide +kernel
theorem dX7_readTiles_108 : decode cX7_readTiles 108 = .ok (.aload_n 0, 1) := by decide +kernel
theorem dX7_readTiles_109 : decode cX7_readTiles 109 = .ok (.getfield 31, 3) := by decide +kernel
theorem dX7_readTiles_112 : decode cX7_readTiles 112 = .ok (.iload 5, 2) := by decide +kernel
theorem dX7_readTiles_114 : decode cX7_readTiles 114 = .ok (.caload, 1) := by decide +kernel
theorem dX7_readTiles_115 : decode cX7_readTiles 115 = .ok (.invokestatic 252, 3) := by decide +kernel
theorem dX7_readTiles_118 : decode cX7_readTiles 118 = .ok (.iastore, 1) := by decide +kernel
theorem dX7_readTiles_119 : decode cX7_readTiles 119 = .ok (.iinc 5 1, 3) := by decide +kernel
theorem dX7_readTiles_122 : decode cX7_readTiles 122 = .ok (.goto (-33), 3) := by decide +kernel
theorem dX7_readTiles_125 : decode cX7_readTiles 125 = .ok (.aload_n 0, 1) := by decide +kernel
theorem dX7_readTiles_126 : decode cX7_readTiles 126 = .ok (.invokevirtual 230, 3) := by decide +kernel
theorem dX7_readTiles_129 : decode cX7_readTiles 129 = .ok (.ifCond .eq 22, 3) := by decide +kernel
theorem dX7_readTiles_132 : decode cX7_readTiles 132 = .ok (.aload_n 0, 1) := by decide +kernel
theorem dX7_readTiles_133 : decode cX7_readTiles 133 = .ok (.getfield 22, 3) := by decide +kernel
theorem dX7_readTiles_136 : decode cX7_readTiles 136 = .ok (.iconst 0, 1) := by decide +kernel
theorem dX7_readTiles_137 : decode cX7_readTiles 137 = .ok (.aload_n 0, 1) := by decide +kernel
theorem dX7_readTiles_138 : decode cX7_readTiles 138 = .ok (.getfield 7, 3) := by decide +kernel
theorem dX7_readTiles_141 : decode cX7_readTiles 141 = .ok (.iconst 0, 1) := by decide +kernel
theorem dX7_readTiles_142 : decode cX7_readTiles 142 = .ok (.invokestatic 211, 3) := by decide +kernel
theorem dX7_readTiles_145 : decode cX7_readTiles 145 = .ok (.aload_n 0, 1) := by decide +kernel
theorem dX7_readTiles_146 : decode cX7_readTiles 146 = .ok (.iconst 3, 1) := by decide +kernel
theorem dX7_readTiles_147 : decode cX7_readTiles 147 = .ok (.invokevirtual 218, 3) := by decide +kernel
theorem dX7_readTiles_150 : decode cX7_readTiles 150 = .ok (.ireturn, 1) := by decide +kernel
theorem dX7_readTiles_151 : decode cX7_readTiles 151 = .ok (.aload_n 0, 1) := by decide +kernel
theorem dX7_readTiles_152 : decode cX7_readTiles 152 = .ok (.iconst 0, 1) := by decide +kernel
theorem dX7_readTiles_153 : decode cX7_readTiles 153 = .ok (.putfield 45, 3) := by decide +kernel
theorem dX7_readTiles_156 : decode cX7_readTiles 156 = .ok (.aload_n 0, 1) := by decide +kernel
theorem dX7_readTiles_157 : decode cX7_readTiles 157 = .ok (.iconst 0, 1) := by decide +kernel
theorem dX7_readTiles_158 : decode cX7_readTiles 158 = .ok (.putfield 208, 3) := by decide +kernel
theorem dX7_readTiles_161 : decode cX7_readTiles 161 = .ok (.iload_n 3, 1) := by decide +kernel
theorem dX7_readTiles_162 : decode cX7_readTiles 162 = .ok (.ireturn, 1) := by decide +kernel
theorem dX7_keysFor_0 : decode cX7_keysFor 0 = .ok (.iload_n 0, 1) := by decide +kernel
theorem dX7_keysFor_1 : decode cX7_keysFor 1 = .ok (.lookupswitch 94 #[(68, 91), (76, 86), (82, 88), (100, 83), (106, 81), (108, 77), (110, 75), (114, 79)], 75) := by decide +kernel
theorem dX7_keysFor_76 : decode cX7_keysFor 76 = .ok (.iconst 0, 1) := by decide +kernel
theorem dX7_keysFor_77 : decode cX7_keysFor 77 = .ok (.ireturn, 1) := by decide +kernel
theorem dX7_keysFor_78 : decode cX7_keysFor 78 = .ok (.iconst 1, 1) := by decide +kernel
theorem dX7_keysFor_79 : decode cX7_keysFor 79 = .ok (.ireturn, 1) := by decide +kernel
theorem dX7_keysFor_80 : decode cX7_keysFor 80 = .ok (.iconst 2, 1) := by decide +kernel
theorem dX7_keysFor_81 : decode cX7_keysFor 81 = .ok (.ireturn, 1) := by decide +kernel
theorem dX7_keysFor_82 : decode cX7_keysFor 82 = .ok (.iconst 4, 1) := by decide +kernel
theorem dX7_keysFor_83 : decode cX7_keysFor 83 = .ok (.ireturn, 1) := by decide +kernel
theorem dX7_keysFor_84 : decode cX7_keysFor 84 = .ok (.bipush 8, 2) := by decide +kernel
theorem dX7_keysFor_86 : decode cX7_keysFor 86 = .ok (.ireturn, 1) := by decide +kernel
theorem dX7_keysFor_87 : decode cX7_keysFor 87 = .ok (.iconst 5, 1) := by decide +kernel
theorem dX7_keysFor_88 : decode cX7_keysFor 88 = .ok (.ireturn, 1) := by decide +kernel
theorem dX7_keysFor_89 : decode cX7_keysFor 89 = .ok (.bipush 6, 2) := by decide +kernel
theorem dX7_keysFor_91 : decode cX7_keysFor 91 = .ok (.ireturn, 1) := by decide +kernel
theorem dX7_keysFor_92 : decode cX7_keysFor 92 = .ok (.bipush 12, 2) := by decide +kernel
theorem dX7_keysFor_94 : decode cX7_keysFor 94 = .ok (.ireturn, 1) := by decide +kernel
theorem dX7_keysFor_95 : decode cX7_keysFor 95 = .ok (.iconst (-1), 1) := by decide +kernel
theorem dX7_keysFor_96 : decode cX7_keysFor 96 = .ok (.ireturn, 1) := by decide +kernel
theorem dX7_isDigit_0 : decode cX7_isDigit 0 = .ok (.aload_n 0, 1) := by decide +kernel
theorem dX7_isDigit_1 : decode cX7_isDigit 1 = .ok (.getfield 249, 3) := by decide +kernel
theorem dX7_isDigit_4 : decode cX7_isDigit 4 = .ok (.iload_n 1, 1) := by decide +kernel
theorem dX7_isDigit_5 : decode cX7_isDigit 5 = .ok (.if_icmp .ge 35, 3) := by decide +kernel
theorem dX7_isDigit_8 : decode cX7_isDigit 8 = .ok (.aload_n 0, 1) := by decide +kernel
theorem dX7_isDigit_9 : decode cX7_isDigit 9 = .ok (.getfield 31, 3) := by decide +kernel
theorem dX7_isDigit_12 : decode cX7_isDigit 12 = .ok (.aload_n 0, 1) := by decide +kernel
theorem dX7_isDigit_13 : decode cX7_isDigit 13 = .ok (.getfield 249, 3) := by decide +kernel
theorem dX7_isDigit_16 : decode cX7_isDigit 16 = .ok (.caload, 1) := by decide +kernel
theorem dX7_isDigit_17 : decode cX7_isDigit 17 = .ok (.bipush 48, 2) := by decide +kernel
theorem dX7_isDigit_19 : decode cX7_isDigit 19 = .ok (.if_icmp .lt 21, 3) := by decide +kernel
theorem dX7_isDigit_22 : decode cX7_isDigit 22 = .ok (.aload_n 0, 1) := by decide +kernel
theorem dX7_isDigit_23 : decode cX7_isDigit 23 = .ok (.getfield 31, 3) := by decide +kernel
theorem dX7_isDigit_26 : decode cX7_isDigit 26 = .ok (.aload_n 0, 1) := by decide +kernel
theorem dX7_isDigit_27 : decode cX7_isDigit 27 = .ok (.getfield 249, 3) := by decide +kernel
theorem dX7_isDigit_30 : decode cX7_isDigit 30 = .ok (.caload, 1) := by decide +kernel
theorem dX7_isDigit_31 : decode cX7_isDigit 31 = .ok (.bipush 57, 2) := by decide +kernel
theorem dX7_isDigit_33 : decode cX7_isDigit 33 = .ok (.if_icmp .gt 7, 3) := by decide +kernel
theorem dX7_isDigit_36 : decode cX7_isDigit 36 = .ok (.iconst 1, 1) := by decide +kernel
theorem dX7_isDigit_37 : decode cX7_isDigit 37 = .ok (.goto 4, 3) := by decide +kernel
theorem dX7_isDigit_40 : decode cX7_isDigit 40 = .ok (.iconst 0, 1) := by decide +kernel
theorem dX7_isDigit_41 : decode cX7_isDigit 41 = .ok (.ireturn, 1) := by decide +kernel
set_option maxRecDepth 20000 in
theorem ggX7_areInputs_X7_keysFor : GoodIn wsX7_areInputs wsX7_keysFor := goodIn_r _ [9] (by decide +kernel) (by decide +kernel)
set_option maxRecDepth 20000 in
theorem gX7_areInputs_X7_keysFor : GoodIn wsX7_areInputs (va_wsS RX7 262 yX7_keysFor wsX7_keysFor) := goodIn_app (goodIn_of _ (by decide +kernel)) ggX7_areInputs_X7_keysFor
set_option maxRecDepth 20000 in
theorem ggX7_areInputs_X7_isDigit : GoodIn wsX7_areInputs wsX7_isDigit := goodIn_ca (goodIn_r _ [13, 1, 3, 14, 15, 16, 17, 18, 19, 20, 21, 22, 23, 24, 25, 26, 27, 28, 29, 30] (by decide +kernel) (by decide +kernel)) (goodIn_sub (fun _ h => List.mem_cons_of_mem _ (List.mem_append_right _ h)) (by decide +kernel))
set_option maxRecDepth 20000 in
theorem gX7_areInputs_X7_isDigit : GoodIn wsX7_areInputs (wsV RX7 265 RX7 yX7_isDigit wsX7_isDigit) := goodIn_app (goodIn_of _ (by decide +kernel)) ggX7_areInputs_X7_isDigit
theorem dX7_areInputs_0 : decode cX7_areInputs 0 = .ok (.aload_n 0, 1) := by decide +kernel
theorem dX7_areInputs_1 : decode cX7_areInputs 1 = .ok (.iconst 0, 1) := by decide +kernel
theorem dX7_areInputs_2 : decode cX7_areInputs 2 = .ok (.putfield 249, 3) := by decide +kernel
theorem dX7_areInputs_5 : decode cX7_areInputs 5 = .ok (.aload_n 0, 1) := by decide +kernel
theorem dX7_areInputs_6 : decode cX7_areInputs 6 = .ok (.iconst 0, 1) := by decide +kernel
theorem dX7_areInputs_7 : decode cX7_areInputs 7 = .ok (.putfield 259, 3) := by decide +kernel
theorem dX7_areInputs_10 : decode cX7_areInputs 10 = .ok (.aload_n 0, 1) := by decide +kernel
theorem dX7_areInputs_11 : decode cX7_areInputs 11 = .ok (.getfield 249, 3) := by decide +kernel
theorem dX7_areInputs_14 : decode cX7_areInputs 14 = .ok (.iload_n 1, 1) := by decide +kernel
theorem dX7_areInputs_15 : decode cX7_areInputs 15 = .ok (.if_icmp .eq 18, 3) := by decide +kernel
theorem dX7_areInputs_18 : decode cX7_areInputs 18 = .ok (.aload_n 0, 1) := by decide +kernel
theorem dX7_areInputs_19 : decode cX7_areInputs 19 = .ok (.getfield 31, 3) := by decide +kernel
theorem dX7_areInputs_22 : decode cX7_areInputs 22 = .ok (.aload_n 0, 1) := by decide +kernel
theorem dX7_areInputs_23 : decode cX7_areInputs 23 = .ok (.getfield 249, 3) := by decide +kernel
theorem dX7_areInputs_26 : decode cX7_areInputs 26 = .ok (.caload, 1) := by decide +kernel
theorem dX7_areInputs_27 : decode cX7_areInputs 27 = .ok (.invokestatic 262, 3) := by decide +kernel
theorem dX7_areInputs_30 : decode cX7_areInputs 30 = .ok (.ifCond .ge 5, 3) := by decide +kernel
theorem dX7_areInputs_33 : decode cX7_areInputs 33 = .ok (.iconst 0, 1) := by decide +kernel
theorem dX7_areInputs_34 : decode cX7_areInputs 34 = .ok (.ireturn, 1) := by decide +kernel
theorem dX7_areInputs_35 : decode cX7_areInputs 35 = .ok (.aload_n 0, 1) := by decide +kernel
theorem dX7_areInputs_36 : decode cX7_areInputs 36 = .ok (.getfield 35, 3) := by decide +kernel
theorem dX7_areInputs_39 : decode cX7_areInputs 39 = .ok (.aload_n 0, 1) := by decide +kernel
theorem dX7_areInputs_40 : decode cX7_areInputs 40 = .ok (.getfield 259, 3) := by decide +kernel
theorem dX7_areInputs_43 : decode cX7_areInputs 43 = .ok (.aload_n 0, 1) := by decide +kernel
theorem dX7_areInputs_44 : decode cX7_areInputs 44 = .ok (.getfield 31, 3) := by decide +kernel
theorem dX7_areInputs_47 : decode cX7_areInputs 47 = .ok (.aload_n 0, 1) := by decide +kernel
theorem dX7_areInputs_48 : decode cX7_areInputs 48 = .ok (.getfield 249, 3) := by decide +kernel
theorem dX7_areInputs_51 : decode cX7_areInputs 51 = .ok (.caload, 1) := by decide +kernel
theorem dX7_areInputs_52 : decode cX7_areInputs 52 = .ok (.invokestatic 262, 3) := by decide +kernel
theorem dX7_areInputs_55 : decode cX7_areInputs 55 = .ok (.iastore, 1) := by decide +kernel
theorem dX7_areInputs_56 : decode cX7_areInputs 56 = .ok (.aload_n 0, 1) := by decide +kernel
theorem dX7_areInputs_57 : decode cX7_areInputs 57 = .ok (.dup, 1) := by decide +kernel
theorem dX7_areInputs_58 : decode cX7_areInputs 58 = .ok (.getfield 249, 3) := by decide +kernel
theorem dX7_areInputs_61 : decode cX7_areInputs 61 = .ok (.iconst 1, 1) := by decide +kernel
theorem dX7_areInputs_62 : decode cX7_areInputs 62 = .ok (.iadd, 1) := by decide +kernel
theorem dX7_areInputs_63 : decode cX7_areInputs 63 = .ok (.putfield 249, 3) := by decide +kernel
theorem dX7_areInputs_66 : decode cX7_areInputs 66 = .ok (.aload_n 0, 1) := by decide +kernel
theorem dX7_areInputs_67 : decode cX7_areInputs 67 = .ok (.iload_n 1, 1) := by decide +kernel
theorem dX7_areInputs_68 : decode cX7_areInputs 68 = .ok (.invokevirtual 265, 3) := by decide +kernel
theorem dX7_areInputs_71 : decode cX7_areInputs 71 = .ok (.ifCond .ne 5, 3) := by decide +kernel
theorem dX7_areInputs_74 : decode cX7_areInputs 74 = .ok (.iconst 0, 1) := by decide +kernel
theorem dX7_areInputs_75 : decode cX7_areInputs 75 = .ok (.ireturn, 1) := by decide +kernel
theorem dX7_areInputs_76 : decode cX7_areInputs 76 = .ok (.aload_n 0, 1) := by decide +kernel
theorem dX7_areInputs_77 : decode cX7_areInputs 77 = .ok (.getfield 38, 3) := by decide +kernel
theorem dX7_areInputs_80 : decode cX7_areInputs 80 = .ok (.aload_n 0, 1) := by decide +kernel
theorem dX7_areInputs_81 : decode cX7_areInputs 81 = .ok (.getfield 259, 3) := by decide +kernel
theorem dX7_areInputs_84 : decode cX7_areInputs 84 = .ok (.aload_n 0, 1) := by decide +kernel
theorem dX7_areInputs_85 : decode cX7_areInputs 85 = .ok (.getfield 31, 3) := by decide +kernel
theorem dX7_areInputs_88 : decode cX7_areInputs 88 = .ok (.aload_n 0, 1) := by decide +kernel
theorem dX7_areInputs_89 : decode cX7_areInputs 89 = .ok (.getfield 249, 3) := by decide +kernel
theorem dX7_areInputs_92 : decode cX7_areInputs 92 = .ok (.caload, 1) := by decide +kernel
theorem dX7_areInputs_93 : decode cX7_areInputs 93 = .ok (.bipush 48, 2) := by decide +kernel
theorem dX7_areInputs_95 : decode cX7_areInputs 95 = .ok (.isub, 1) := by decide +kernel
theorem dX7_areInputs_96 : decode cX7_areInputs 96 = .ok (.iastore, 1) := by decide +kernel
theorem dX7_areInputs_97 : decode cX7_areInputs 97 = .ok (.aload_n 0, 1) := by decide +kernel
theorem dX7_areInputs_98 : decode cX7_areInputs 98 = .ok (.dup, 1) := by decide +kernel
theorem dX7_areInputs_99 : decode cX7_areInputs 99 = .ok (.getfield 249, 3) := by decide +kernel
theorem dX7_areInputs_102 : decode cX7_areInputs 102 = .ok (.iconst 1, 1) := by decide +kernel
theorem dX7_areInputs_103 : decode cX7_areInputs 103 = .ok (.iadd, 1) := by decide +kernel
theorem dX7_areInputs_104 : decode cX7_areInputs 104 = .ok (.putfield 249, 3) := by decide +kernel
theorem dX7_areInputs_107 : decode cX7_areInputs 107 = .ok (.aload_n 0, 1) := by decide +kernel
theorem dX7_areInputs_108 : decode cX7_areInputs 108 = .ok (.iload_n 1, 1) := by decide +kernel
theorem dX7_areInputs_109 : decode cX7_areInputs 109 = .ok (.invokevirtual 265, 3) := by decide +kernel
theorem dX7_areInputs_112 : decode cX7_areInputs 112 = .ok (.ifCond .eq 47, 3) := by decide +kernel
theorem dX7_areInputs_115 : decode cX7_areInputs 115 = .ok (.aload_n 0, 1) := by decide +kernel
theorem dX7_areInputs_116 : decode cX7_areInputs 116 = .ok (.getfield 38, 3) := by decide +kernel
theorem dX7_areInputs_119 : decode cX7_areInputs 119 = .ok (.aload_n 0, 1) := by decide +kernel
theorem dX7_areInputs_120 : decode cX7_areInputs 120 = .ok (.getfield 259, 3) := by decide +kernel
theorem dX7_areInputs_123 : decode cX7_areInputs 123 = .ok (.bipush 10, 2) := by decide +kernel
theorem dX7_areInputs_125 : decode cX7_areInputs 125 = .ok (.aload_n 0, 1) := by decide +kernel
theorem dX7_areInputs_126 : decode cX7_areInputs 126 = .ok (.getfield 38, 3) := by decide +kernel
theorem dX7_areInputs_129 : decode cX7_areInputs 129 = .ok (.aload_n 0, 1) := by decide +kernel
theorem dX7_areInputs_130 : decode cX7_areInputs 130 = .ok (.getfield 259, 3) := by decide +kernel
theorem dX7_areInputs_133 : decode cX7_areInputs 133 = .ok (.iaload, 1) := by decide +kernel
theorem dX7_areInputs_134 : decode cX7_areInputs 134 = .ok (.imul, 1) := by decide +kernel
theorem dX7_areInputs_135 : decode cX7_areInputs 135 = .ok (.aload_n 0, 1) := by decide +kernel
theorem dX7_areInputs_136 : decode cX7_areInputs 136 = .ok (.getfield 31, 3) := by decide +kernel
theorem dX7_areInputs_139 : decode cX7_areInputs 139 = .ok (.aload_n 0, 1) := by decide +kernel
theorem dX7_areInputs_140 : decode cX7_areInputs 140 = .ok (.getfield 249, 3) := by decide +kernel
theorem dX7_areInputs_143 : decode cX7_areInputs 143 = .ok (.caload, 1) := by decide +kernel
theorem dX7_areInputs_144 : decode cX7_areInputs 144 = .ok (.iadd, 1) := by decide +kernel
theorem dX7_areInputs_145 : decode cX7_areInputs 145 = .ok (.bipush 48, 2) := by decide +kernel
theorem dX7_areInputs_147 : decode cX7_areInputs 147 = .ok (.isub, 1) := by decide +kernel
theorem dX7_areInputs_148 : decode cX7_areInputs 148 = .ok (.iastore, 1) := by decide +kernel
theorem dX7_areInputs_149 : decode cX7_areInputs 149 = .ok (.aload_n 0, 1) := by decide +kernel
theorem dX7_areInputs_150 : decode cX7_areInputs 150 = .ok (.dup, 1) := by decide +kernel
theorem dX7_areInputs_151 : decode cX7_areInputs 151 = .ok (.getfield 249, 3) := by decide +kernel
theorem dX7_areInputs_154 : decode cX7_areInputs 154 = .ok (.iconst 1, 1) := by decide +kernel
theorem dX7_areInputs_155 : decode cX7_areInputs 155 = .ok (.iadd, 1) := by decide +kernel
theorem dX7_areInputs_156 : decode cX7_areInputs 156 = .ok (.putfield 249, 3) := by decide +kernel
theorem dX7_areInputs_159 : decode cX7_areInputs 159 = .ok (.aload_n 0, 1) := by decide +kernel
theorem dX7_areInputs_160 : decode cX7_areInputs 160 = .ok (.dup, 1) := by decide +kernel
theorem dX7_areInputs_161 : decode cX7_areInputs 161 = .ok (.getfield 259, 3) := by decide +kernel
theorem dX7_areInputs_164 : decode cX7_areInputs 164 = .ok (.iconst 1, 1) := by decide +kernel
theorem dX7_areInputs_165 : decode cX7_areInputs 165 = .ok (.iadd, 1) := by decide +kernel
theorem dX7_areInputs_166 : decode cX7_areInputs 166 = .ok (.putfield 259, 3) := by decide +kernel
theorem dX7_areInputs_169 : decode cX7_areInputs 169 = .ok (.aload_n 0, 1) := by decide +kernel
theorem dX7_areInputs_170 : decode cX7_areInputs 170 = .ok (.getfield 249, 3) := by decide +kernel
theorem dX7_areInputs_173 : decode cX7_areInputs 173 = .ok (.iload_n 1, 1) := by decide +kernel
theorem dX7_areInputs_174 : decode cX7_areInputs 174 = .ok (.if_icmp .lt (-164), 3) := by decide +kernel
theorem dX7_areInputs_177 : decode cX7_areInputs 177 = .ok (.iconst 1, 1) := by decide +kernel
theorem dX7_areInputs_178 : decode cX7_areInputs 178 = .ok (.ireturn, 1) := by decide +kernel
set_option maxRecDepth 20000 in
theorem ggX7_play_X7_isBody : GoodIn wsX7_play wsX7_isBody := goodIn_ca (goodIn_r _ [12, 13, 231, 232, 233, 234, 235, 236, 237, 238, 239, 240, 241, 242, 243, 244, 245, 246, 247] (by decide +kernel) (by decide +kernel)) (goodIn_sub (fun _ h => List.mem_cons_of_mem _ (List.mem_append_right _ h)) (by decide +kernel))
set_option maxRecDepth 20000 in
theorem gX7_play_X7_isBody : GoodIn wsX7_play (wsV RX7 224 RX7 yX7_isBody wsX7_isBody) := goodIn_app (goodIn_of _ (by decide +kernel)) ggX7_play_X7_isBody
set_option maxRecDepth 20000 in
theorem ggX7_play_X7_fails : GoodIn wsX7_play wsX7_fails := goodIn_r _ [17, 6, 231, 232, 233, 234, 235, 236, 237, 238, 239, 240, 241, 242, 243, 244, 245, 246, 247] (by decide +kernel) (by decide +kernel)
set_option maxRecDepth 20000 in
theorem gX7_play_X7_fails : GoodIn wsX7_play (wsV RX7 218 RX7 yX7_fails wsX7_fails) := goodIn_app (goodIn_of _ (by decide +kernel)) ggX7_play_X7_fails
set_option maxRecDepth 20000 in
theorem ggX7_play_X7_areInputs : GoodIn wsX7_play wsX7_areInputs := goodIn_ca (goodIn_r _ [21, 2, 4, 22, 7, 5, 23, 24, 11, 25, 26, 27, 28, 29, 231, 232, 233, 234, 235, 236, 237, 238, 239, 240, 241, 242, 243, 244, 245, 246, 247] (by decide +kernel) (by decide +kernel)) (goodIn_sub (fun _ h => List.mem_cons_of_mem _ (List.mem_append_right _ h)) (by decide +kernel))
set_option maxRecDepth 20000 in
theorem gX7_play_X7_areInputs : GoodIn wsX7_play (wsV RX7 268 RX7 yX7_areInputs wsX7_areInputs) := goodIn_app (goodIn_of _ (by decide +kernel)) ggX7_play_X7_areInputs
set_option maxRecDepth 20000 in
theorem ggX7_play_X7_sets : GoodIn wsX7_play wsX7_sets := goodIn_ca (goodIn_r _ [33, 13, 231, 232, 233, 234, 235, 236, 237, 238, 239, 240, 241, 242, 243, 244, 245, 246, 247] (by decide +kernel) (by decide +kernel)) (goodIn_sub (fun _ h => List.mem_cons_of_mem _ (List.mem_append_right _ h)) (by decide +kernel))
set_option maxRecDepth 20000 in
theorem gX7_play_X7_sets : GoodIn wsX7_play (wsV RX7 126 RX7 yX7_sets wsX7_sets) := goodIn_app (goodIn_of _ (by decide +kernel)) ggX7_play_X7_sets
set_option maxRecDepth 20000 in
theorem ggX7_play_X7_ticks : GoodIn wsX7_play wsX7_ticks := goodIn_ca (goodIn_r _ [37, 38, 39, 13, 40, 41, 11, 42, 43, 44, 45, 46, 47, 48, 49, 50, 51, 52, 53, 54, 55, 56, 57, 58, 59, 60, 61, 62, 63, 64, 65, 66, 67, 68, 69, 70, 71, 72, 73, 74, 75, 76, 77, 78, 79, 80, 81, 82, 83, 84, 85, 86, 87, 88, 89, 90, 91, 92, 93, 94, 95, 96, 97, 98, 99, 100, 101, 102, 103, 104, 105, 106, 107, 108, 109, 110, 111, 112, 113, 114, 115, 116, 117, 118, 119, 120, 121, 122, 123, 124, 125, 126, 127, 128, 129, 130, 131, 132, 133, 134, 135, 136, 137, 138, 139, 140, 141, 142, 143, 144, 145, 30, 31, 32, 33, 146, 147, 148, 149, 150, 151, 152, 153, 154, 155, 156, 157, 158, 159, 160, 161, 162, 163, 164, 165, 166, 167, 168, 169, 170, 171, 172, 173, 174, 175, 176, 177, 178, 179, 180, 181, 182, 183, 184, 185, 186, 187, 188, 189, 190, 191, 192, 193, 194, 195, 196, 197, 198, 199, 200, 201, 202, 203, 204, 205, 206, 207, 208, 209, 210, 211, 212, 213, 214, 215, 216, 217, 218, 219, 220, 221, 222, 223, 224, 225, 226, 227, 228, 229, 230, 231, 232, 233, 234, 235, 236, 237, 238, 239, 240, 241, 242, 243, 244, 245, 246, 247] (by decide +kernel) (by decide +kernel)) (goodIn_sub (fun _ h => List.mem_cons_of_mem _ (List.mem_append_right _ h)) (by decide +kernel))
set_option maxRecDepth 20000 in
theorem gX7_play_X7_ticks : GoodIn wsX7_play (wsV RX7 221 RX7 yX7_ticks wsX7_ticks) := goodIn_app (goodIn_of _ (by decide +kernel)) ggX7_play_X7_ticks
theorem dX7_play_0 : decode cX7_play 0 = .ok (.aload_n 0, 1) := by decide +kernel
theorem dX7_play_1 : decode cX7_play 1 = .ok (.getfield 246, 3) := by decide +kernel
theorem dX7_play_4 : decode cX7_play 4 = .ok (.istore_n 2, 1) := by decide +kernel
theorem dX7_play_5 : decode cX7_play 5 = .ok (.aload_n 0, 1) := by decide +kernel
theorem dX7_play_6 : decode cX7_play 6 = .ok (.iconst 0, 1) := by decide +kernel
theorem dX7_play_7 : decode cX7_play 7 = .ok (.putfield 246, 3) := by decide +kernel
theorem dX7_play_10 : decode cX7_play 10 = .ok (.aload_n 0, 1) := by decide +kernel
theorem dX7_play_11 : decode cX7_play 11 = .ok (.iload_n 1, 1) := by decide +kernel
theorem dX7_play_12 : decode cX7_play 12 = .ok (.invokevirtual 224, 3) := by decide +kernel
theorem dX7_play_15 : decode cX7_play 15 = .ok (.ifCond .ne 9, 3) := by decide +kernel
theorem dX7_play_18 : decode cX7_play 18 = .ok (.aload_n 0, 1) := by decide +kernel
theorem dX7_play_19 : decode cX7_play 19 = .ok (.iconst 1, 1) := by decide +kernel
theorem dX7_play_20 : decode cX7_play 20 = .ok (.invokevirtual 218, 3) := by decide +kernel
theorem dX7_play_23 : decode cX7_play 23 = .ok (.ireturn, 1) := by decide +kernel
theorem dX7_play_24 : decode cX7_play 24 = .ok (.aload_n 0, 1) := by decide +kernel
theorem dX7_play_25 : decode cX7_play 25 = .ok (.iload_n 2, 1) := by decide +kernel
theorem dX7_play_26 : decode cX7_play 26 = .ok (.invokevirtual 268, 3) := by decide +kernel
theorem dX7_play_29 : decode cX7_play 29 = .ok (.istore_n 3, 1) := by decide +kernel
theorem dX7_play_30 : decode cX7_play 30 = .ok (.aload_n 0, 1) := by decide +kernel
theorem dX7_play_31 : decode cX7_play 31 = .ok (.iload_n 3, 1) := by decide +kernel
theorem dX7_play_32 : decode cX7_play 32 = .ok (.ifCond .eq 7, 3) := by decide +kernel
theorem dX7_play_35 : decode cX7_play 35 = .ok (.iconst (-1), 1) := by decide +kernel
theorem dX7_play_36 : decode cX7_play 36 = .ok (.goto 7, 3) := by decide +kernel
theorem dX7_play_39 : decode cX7_play 39 = .ok (.aload_n 0, 1) := by decide +kernel
theorem dX7_play_40 : decode cX7_play 40 = .ok (.getfield 249, 3) := by decide +kernel
theorem dX7_play_43 : decode cX7_play 43 = .ok (.putfield 41, 3) := by decide +kernel
theorem dX7_play_46 : decode cX7_play 46 = .ok (.iload_n 3, 1) := by decide +kernel
theorem dX7_play_47 : decode cX7_play 47 = .ok (.ifCond .ne 9, 3) := by decide +kernel
theorem dX7_play_50 : decode cX7_play 50 = .ok (.aload_n 0, 1) := by decide +kernel
theorem dX7_play_51 : decode cX7_play 51 = .ok (.iconst 2, 1) := by decide +kernel
theorem dX7_play_52 : decode cX7_play 52 = .ok (.invokevirtual 218, 3) := by decide +kernel
theorem dX7_play_55 : decode cX7_play 55 = .ok (.ireturn, 1) := by decide +kernel
theorem dX7_play_56 : decode cX7_play 56 = .ok (.iconst 0, 1) := by decide +kernel
theorem dX7_play_57 : decode cX7_play 57 = .ok (.istore 4, 2) := by decide +kernel
theorem dX7_play_59 : decode cX7_play 59 = .ok (.iconst 0, 1) := by decide +kernel
theorem dX7_play_60 : decode cX7_play 60 = .ok (.istore 5, 2) := by decide +kernel
theorem dX7_play_62 : decode cX7_play 62 = .ok (.iload 5, 2) := by decide +kernel
theorem dX7_play_64 : decode cX7_play 64 = .ok (.aload_n 0, 1) := by decide +kernel
theorem dX7_play_65 : decode cX7_play 65 = .ok (.getfield 259, 3) := by decide +kernel
theorem dX7_play_68 : decode cX7_play 68 = .ok (.if_icmp .ge 21, 3) := by decide +kernel
theorem dX7_play_71 : decode cX7_play 71 = .ok (.iload 4, 2) := by decide +kernel
theorem dX7_play_73 : decode cX7_play 73 = .ok (.aload_n 0, 1) := by decide +kernel
theorem dX7_play_74 : decode cX7_play 74 = .ok (.getfield 38, 3) := by decide +kernel
theorem dX7_play_77 : decode cX7_play 77 = .ok (.iload 5, 2) := by decide +kernel
theorem dX7_play_79 : decode cX7_play 79 = .ok (.iaload, 1) := by decide +kernel
theorem dX7_play_80 : decode cX7_play 80 = .ok (.iadd, 1) := by decide +kernel
theorem dX7_play_81 : decode cX7_play 81 = .ok (.istore 4, 2) := by decide +kernel
theorem dX7_play_83 : decode cX7_play 83 = .ok (.iinc 5 1, 3) := by decide +kernel
theorem dX7_play_86 : decode cX7_play 86 = .ok (.goto (-24), 3) := by decide +kernel
theorem dX7_play_89 : decode cX7_play 89 = .ok (.iload 4, 2) := by decide +kernel
theorem dX7_play_91 : decode cX7_play 91 = .ok (.sipush 200, 3) := by decide +kernel
theorem dX7_play_94 : decode cX7_play 94 = .ok (.if_icmp .le 9, 3) := by decide +kernel
theorem dX7_play_97 : decode cX7_play 97 = .ok (.aload_n 0, 1) := by decide +kernel
theorem dX7_play_98 : decode cX7_play 98 = .ok (.iconst 3, 1) := by decide +kernel
theorem dX7_play_99 : decode cX7_play 99 = .ok (.invokevirtual 218, 3) := by decide +kernel
theorem dX7_play_102 : decode cX7_play 102 = .ok (.ireturn, 1) := by decide +kernel
theorem dX7_play_103 : decode cX7_play 103 = .ok (.aload_n 0, 1) := by decide +kernel
theorem dX7_play_104 : decode cX7_play 104 = .ok (.iconst 0, 1) := by decide +kernel
theorem dX7_play_105 : decode cX7_play 105 = .ok (.putfield 45, 3) := by decide +kernel
theorem dX7_play_108 : decode cX7_play 108 = .ok (.iconst 0, 1) := by decide +kernel
theorem dX7_play_109 : decode cX7_play 109 = .ok (.istore 5, 2) := by decide +kernel
theorem dX7_play_111 : decode cX7_play 111 = .ok (.iload 5, 2) := by decide +kernel
theorem dX7_play_113 : decode cX7_play 113 = .ok (.aload_n 0, 1) := by decide +kernel
theorem dX7_play_114 : decode cX7_play 114 = .ok (.getfield 259, 3) := by decide +kernel
theorem dX7_play_117 : decode cX7_play 117 = .ok (.if_icmp .ge 34, 3) := by decide +kernel
theorem dX7_play_120 : decode cX7_play 120 = .ok (.aload_n 0, 1) := by decide +kernel
theorem dX7_play_121 : decode cX7_play 121 = .ok (.iload_n 1, 1) := by decide +kernel
theorem dX7_play_122 : decode cX7_play 122 = .ok (.bipush 9, 2) := by decide +kernel
theorem dX7_play_124 : decode cX7_play 124 = .ok (.aload_n 0, 1) := by decide +kernel
theorem dX7_play_125 : decode cX7_play 125 = .ok (.getfield 35, 3) := by decide +kernel
theorem dX7_play_128 : decode cX7_play 128 = .ok (.iload 5, 2) := by decide +kernel
theorem dX7_play_130 : decode cX7_play 130 = .ok (.iaload, 1) := by decide +kernel
theorem dX7_play_131 : decode cX7_play 131 = .ok (.invokevirtual 126, 3) := by decide +kernel
theorem dX7_play_134 : decode cX7_play 134 = .ok (.aload_n 0, 1) := by decide +kernel
theorem dX7_play_135 : decode cX7_play 135 = .ok (.aload_n 0, 1) := by decide +kernel
theorem dX7_play_136 : decode cX7_play 136 = .ok (.getfield 38, 3) := by decide +kernel
theorem dX7_play_139 : decode cX7_play 139 = .ok (.iload 5, 2) := by decide +kernel
theorem dX7_play_141 : decode cX7_play 141 = .ok (.iaload, 1) := by decide +kernel
theorem dX7_play_142 : decode cX7_play 142 = .ok (.invokevirtual 221, 3) := by decide +kernel
theorem dX7_play_145 : decode cX7_play 145 = .ok (.iinc 5 1, 3) := by decide +kernel
theorem dX7_play_148 : decode cX7_play 148 = .ok (.goto (-37), 3) := by decide +kernel
theorem dX7_play_151 : decode cX7_play 151 = .ok (.iload 4, 2) := by decide +kernel
theorem dX7_play_153 : decode cX7_play 153 = .ok (.ireturn, 1) := by decide +kernel
theorem dX7_faultPosition_0 : decode cX7_faultPosition 0 = .ok (.aload_n 0, 1) := by decide +kernel
theorem dX7_faultPosition_1 : decode cX7_faultPosition 1 = .ok (.iconst 0, 1) := by decide +kernel
theorem dX7_faultPosition_2 : decode cX7_faultPosition 2 = .ok (.putfield 45, 3) := by decide +kernel
theorem dX7_faultPosition_5 : decode cX7_faultPosition 5 = .ok (.aload_n 0, 1) := by decide +kernel
theorem dX7_faultPosition_6 : decode cX7_faultPosition 6 = .ok (.getfield 41, 3) := by decide +kernel
theorem dX7_faultPosition_9 : decode cX7_faultPosition 9 = .ok (.ireturn, 1) := by decide +kernel
set_option maxRecDepth 20000 in
theorem ggX7_save_X7_copies : GoodIn wsX7_save wsX7_copies := goodIn_ca (goodIn_r _ [10] (by decide +kernel) (by decide +kernel)) (goodIn_sub (fun _ h => List.mem_cons_of_mem _ (List.mem_append_right _ h)) (by decide +kernel))
set_option maxRecDepth 20000 in
theorem gX7_save_X7_copies : GoodIn wsX7_save (va_wsS RX7 211 yX7_copies wsX7_copies) := goodIn_app (goodIn_of _ (by decide +kernel)) ggX7_save_X7_copies
theorem dX7_save_0 : decode cX7_save 0 = .ok (.aload_n 0, 1) := by decide +kernel
theorem dX7_save_1 : decode cX7_save 1 = .ok (.iconst 0, 1) := by decide +kernel
theorem dX7_save_2 : decode cX7_save 2 = .ok (.putfield 45, 3) := by decide +kernel
theorem dX7_save_5 : decode cX7_save 5 = .ok (.aload_n 0, 1) := by decide +kernel
theorem dX7_save_6 : decode cX7_save 6 = .ok (.iconst 1, 1) := by decide +kernel
theorem dX7_save_7 : decode cX7_save 7 = .ok (.putfield 271, 3) := by decide +kernel
theorem dX7_save_10 : decode cX7_save 10 = .ok (.aload_n 0, 1) := by decide +kernel
theorem dX7_save_11 : decode cX7_save 11 = .ok (.getfield 7, 3) := by decide +kernel
theorem dX7_save_14 : decode cX7_save 14 = .ok (.iconst 0, 1) := by decide +kernel
theorem dX7_save_15 : decode cX7_save 15 = .ok (.aload_n 0, 1) := by decide +kernel
theorem dX7_save_16 : decode cX7_save 16 = .ok (.getfield 25, 3) := by decide +kernel
theorem dX7_save_19 : decode cX7_save 19 = .ok (.iconst 0, 1) := by decide +kernel
theorem dX7_save_20 : decode cX7_save 20 = .ok (.invokestatic 211, 3) := by decide +kernel
theorem dX7_save_23 : decode cX7_save 23 = .ok (.iconst 0, 1) := by decide +kernel
theorem dX7_save_24 : decode cX7_save 24 = .ok (.istore_n 1, 1) := by decide +kernel
theorem dX7_save_25 : decode cX7_save 25 = .ok (.iload_n 1, 1) := by decide +kernel
theorem dX7_save_26 : decode cX7_save 26 = .ok (.iconst 4, 1) := by decide +kernel
theorem dX7_save_27 : decode cX7_save 27 = .ok (.if_icmp .ge 21, 3) := by decide +kernel
theorem dX7_save_30 : decode cX7_save 30 = .ok (.aload_n 0, 1) := by decide +kernel
theorem dX7_save_31 : decode cX7_save 31 = .ok (.getfield 28, 3) := by decide +kernel
theorem dX7_save_34 : decode cX7_save 34 = .ok (.iload_n 1, 1) := by decide +kernel
theorem dX7_save_35 : decode cX7_save 35 = .ok (.aload_n 0, 1) := by decide +kernel
theorem dX7_save_36 : decode cX7_save 36 = .ok (.getfield 13, 3) := by decide +kernel
theorem dX7_save_39 : decode cX7_save 39 = .ok (.iload_n 1, 1) := by decide +kernel
theorem dX7_save_40 : decode cX7_save 40 = .ok (.iaload, 1) := by decide +kernel
theorem dX7_save_41 : decode cX7_save 41 = .ok (.iastore, 1) := by decide +kernel
theorem dX7_save_42 : decode cX7_save 42 = .ok (.iinc 1 1, 3) := by decide +kernel
theorem dX7_save_45 : decode cX7_save 45 = .ok (.goto (-20), 3) := by decide +kernel
theorem dX7_save_48 : decode cX7_save 48 = .ok (.return_, 1) := by decide +kernel
set_option maxRecDepth 20000 in
theorem ggX7_restore_X7_copies : GoodIn wsX7_restore wsX7_copies := goodIn_ca (goodIn_r _ [11] (by decide +kernel) (by decide +kernel)) (goodIn_sub (fun _ h => List.mem_cons_of_mem _ (List.mem_append_right _ h)) (by decide +kernel))
set_option maxRecDepth 20000 in
theorem gX7_restore_X7_copies : GoodIn wsX7_restore (va_wsS RX7 211 yX7_copies wsX7_copies) := goodIn_app (goodIn_of _ (by decide +kernel)) ggX7_restore_X7_copies
theorem dX7_restore_0 : decode cX7_restore 0 = .ok (.aload_n 0, 1) := by decide +kernel
theorem dX7_restore_1 : decode cX7_restore 1 = .ok (.aload_n 0, 1) := by decide +kernel
theorem dX7_restore_2 : decode cX7_restore 2 = .ok (.getfield 271, 3) := by decide +kernel
theorem dX7_restore_5 : decode cX7_restore 5 = .ok (.ifCond .eq 7, 3) := by decide +kernel
theorem dX7_restore_8 : decode cX7_restore 8 = .ok (.iconst 0, 1) := by decide +kernel
theorem dX7_restore_9 : decode cX7_restore 9 = .ok (.goto 4, 3) := by decide +kernel
theorem dX7_restore_12 : decode cX7_restore 12 = .ok (.iconst 1, 1) := by decide +kernel
theorem dX7_restore_13 : decode cX7_restore 13 = .ok (.putfield 45, 3) := by decide +kernel
theorem dX7_restore_16 : decode cX7_restore 16 = .ok (.aload_n 0, 1) := by decide +kernel
theorem dX7_restore_17 : decode cX7_restore 17 = .ok (.getfield 271, 3) := by decide +kernel
theorem dX7_restore_20 : decode cX7_restore 20 = .ok (.ifCond .ne 4, 3) := by decide +kernel
theorem dX7_restore_23 : decode cX7_restore 23 = .ok (.return_, 1) := by decide +kernel
theorem dX7_restore_24 : decode cX7_restore 24 = .ok (.aload_n 0, 1) := by decide +kernel
theorem dX7_restore_25 : decode cX7_restore 25 = .ok (.iconst 0, 1) := by decide +kernel
theorem dX7_restore_26 : decode cX7_restore 26 = .ok (.putfield 208, 3) := by decide +kernel
theorem dX7_restore_29 : decode cX7_restore 29 = .ok (.aload_n 0, 1) := by decide +kernel
theorem dX7_restore_30 : decode cX7_restore 30 = .ok (.getfield 25, 3) := by decide +kernel
theorem dX7_restore_33 : decode cX7_restore 33 = .ok (.iconst 0, 1) := by decide +kernel
theorem dX7_restore_34 : decode cX7_restore 34 = .ok (.aload_n 0, 1) := by decide +kernel
theorem dX7_restore_35 : decode cX7_restore 35 = .ok (.getfield 7, 3) := by decide +kernel
theorem dX7_restore_38 : decode cX7_restore 38 = .ok (.iconst 0, 1) := by decide +kernel
theorem dX7_restore_39 : decode cX7_restore 39 = .ok (.invokestatic 211, 3) := by decide +kernel
theorem dX7_restore_42 : decode cX7_restore 42 = .ok (.iconst 0, 1) := by decide +kernel
theorem dX7_restore_43 : decode cX7_restore 43 = .ok (.istore_n 1, 1) := by decide +kernel
theorem dX7_restore_44 : decode cX7_restore 44 = .ok (.iload_n 1, 1) := by decide +kernel
theorem dX7_restore_45 : decode cX7_restore 45 = .ok (.iconst 4, 1) := by decide +kernel
theorem dX7_restore_46 : decode cX7_restore 46 = .ok (.if_icmp .ge 21, 3) := by decide +kernel
theorem dX7_restore_49 : decode cX7_restore 49 = .ok (.aload_n 0, 1) := by decide +kernel
theorem dX7_restore_50 : decode cX7_restore 50 = .ok (.getfield 13, 3) := by decide +kernel
theorem dX7_restore_53 : decode cX7_restore 53 = .ok (.iload_n 1, 1) := by decide +kernel
theorem dX7_restore_54 : decode cX7_restore 54 = .ok (.aload_n 0, 1) := by decide +kernel
theorem dX7_restore_55 : decode cX7_restore 55 = .ok (.getfield 28, 3) := by decide +kernel
theorem dX7_restore_58 : decode cX7_restore 58 = .ok (.iload_n 1, 1) := by decide +kernel
theorem dX7_restore_59 : decode cX7_restore 59 = .ok (.iaload, 1) := by decide +kernel
theorem dX7_restore_60 : decode cX7_restore 60 = .ok (.iastore, 1) := by decide +kernel
theorem dX7_restore_61 : decode cX7_restore 61 = .ok (.iinc 1 1, 3) := by decide +kernel
theorem dX7_restore_64 : decode cX7_restore 64 = .ok (.goto (-20), 3) := by decide +kernel
theorem dX7_restore_67 : decode cX7_restore 67 = .ok (.return_, 1) := by decide +kernel
theorem dJx00060_init_a7421_0 : decode cJx00060_init_a7421 0 = .ok (.aload_n 0, 1) := by decide +kernel
theorem dJx00060_init_a7421_1 : decode cJx00060_init_a7421 1 = .ok (.aload_n 1, 1) := by decide +kernel
theorem dJx00060_init_a7421_2 : decode cJx00060_init_a7421 2 = .ok (.invokespecial 7, 3) := by decide +kernel
theorem dJx00060_init_a7421_5 : decode cJx00060_init_a7421 5 = .ok (.return_, 1) := by decide +kernel
theorem dJ9_floorDiv_7cf53_0 : decode cJ9_floorDiv_7cf53 0 = .ok (.iload_n 0, 1) := by decide +kernel
theorem dJ9_floorDiv_7cf53_1 : decode cJ9_floorDiv_7cf53 1 = .ok (.iload_n 1, 1) := by decide +kernel
theorem dJ9_floorDiv_7cf53_2 : decode cJ9_floorDiv_7cf53 2 = .ok (.idiv, 1) := by decide +kernel
theorem dJ9_floorDiv_7cf53_3 : decode cJ9_floorDiv_7cf53 3 = .ok (.istore_n 2, 1) := by decide +kernel
theorem dJ9_floorDiv_7cf53_4 : decode cJ9_floorDiv_7cf53 4 = .ok (.iload_n 0, 1) := by decide +kernel
theorem dJ9_floorDiv_7cf53_5 : decode cJ9_floorDiv_7cf53 5 = .ok (.iload_n 1, 1) := by decide +kernel
theorem dJ9_floorDiv_7cf53_6 : decode cJ9_floorDiv_7cf53 6 = .ok (.ixor, 1) := by decide +kernel
theorem dJ9_floorDiv_7cf53_7 : decode cJ9_floorDiv_7cf53 7 = .ok (.ifCond .ge 14, 3) := by decide +kernel
theorem dJ9_floorDiv_7cf53_10 : decode cJ9_floorDiv_7cf53 10 = .ok (.iload_n 2, 1) := by decide +kernel
theorem dJ9_floorDiv_7cf53_11 : decode cJ9_floorDiv_7cf53 11 = .ok (.iload_n 1, 1) := by decide +kernel
theorem dJ9_floorDiv_7cf53_12 : decode cJ9_floorDiv_7cf53 12 = .ok (.imul, 1) := by decide +kernel
theorem dJ9_floorDiv_7cf53_13 : decode cJ9_floorDiv_7cf53 13 = .ok (.iload_n 0, 1) := by decide +kernel
theorem dJ9_floorDiv_7cf53_14 : decode cJ9_floorDiv_7cf53 14 = .ok (.if_icmp .eq 7, 3) := by decide +kernel
theorem dJ9_floorDiv_7cf53_17 : decode cJ9_floorDiv_7cf53 17 = .ok (.iload_n 2, 1) := by decide +kernel
theorem dJ9_floorDiv_7cf53_18 : decode cJ9_floorDiv_7cf53 18 = .ok (.iconst 1, 1) := by decide +kernel
theorem dJ9_floorDiv_7cf53_19 : decode cJ9_floorDiv_7cf53 19 = .ok (.isub, 1) := by decide +kernel
theorem dJ9_floorDiv_7cf53_20 : decode cJ9_floorDiv_7cf53 20 = .ok (.ireturn, 1) := by decide +kernel
theorem dJ9_floorDiv_7cf53_21 : decode cJ9_floorDiv_7cf53 21 = .ok (.iload_n 2, 1) := by decide +kernel
theorem dJ9_floorDiv_7cf53_22 : decode cJ9_floorDiv_7cf53 22 = .ok (.ireturn, 1) := by decide +kernel
theorem dJ9_floorMod_7cf53_0 : decode cJ9_floorMod_7cf53 0 = .ok (.iload_n 0, 1) := by decide +kernel
theorem dJ9_floorMod_7cf53_1 : decode cJ9_floorMod_7cf53 1 = .ok (.iload_n 1, 1) := by decide +kernel
theorem dJ9_floorMod_7cf53_2 : decode cJ9_floorMod_7cf53 2 = .ok (.irem, 1) := by decide +kernel
theorem dJ9_floorMod_7cf53_3 : decode cJ9_floorMod_7cf53 3 = .ok (.istore_n 2, 1) := by decide +kernel
theorem dJ9_floorMod_7cf53_4 : decode cJ9_floorMod_7cf53 4 = .ok (.iload_n 0, 1) := by decide +kernel
theorem dJ9_floorMod_7cf53_5 : decode cJ9_floorMod_7cf53 5 = .ok (.iload_n 1, 1) := by decide +kernel
theorem dJ9_floorMod_7cf53_6 : decode cJ9_floorMod_7cf53 6 = .ok (.ixor, 1) := by decide +kernel
theorem dJ9_floorMod_7cf53_7 : decode cJ9_floorMod_7cf53 7 = .ok (.ifCond .ge 11, 3) := by decide +kernel
theorem dJ9_floorMod_7cf53_10 : decode cJ9_floorMod_7cf53 10 = .ok (.iload_n 2, 1) := by decide +kernel
theorem dJ9_floorMod_7cf53_11 : decode cJ9_floorMod_7cf53 11 = .ok (.ifCond .eq 7, 3) := by decide +kernel
theorem dJ9_floorMod_7cf53_14 : decode cJ9_floorMod_7cf53 14 = .ok (.iload_n 2, 1) := by decide +kernel
theorem dJ9_floorMod_7cf53_15 : decode cJ9_floorMod_7cf53 15 = .ok (.iload_n 1, 1) := by decide +kernel
theorem dJ9_floorMod_7cf53_16 : decode cJ9_floorMod_7cf53 16 = .ok (.iadd, 1) := by decide +kernel
theorem dJ9_floorMod_7cf53_17 : decode cJ9_floorMod_7cf53 17 = .ok (.ireturn, 1) := by decide +kernel
theorem dJ9_floorMod_7cf53_18 : decode cJ9_floorMod_7cf53 18 = .ok (.iload_n 2, 1) := by decide +kernel
theorem dJ9_floorMod_7cf53_19 : decode cJ9_floorMod_7cf53 19 = .ok (.ireturn, 1) := by decide +kernel
theorem dJ9_abs_0f7a4_0 : decode cJ9_abs_0f7a4 0 = .ok (.iload_n 0, 1) := by decide +kernel
theorem dJ9_abs_0f7a4_1 : decode cJ9_abs_0f7a4 1 = .ok (.ifCond .ge 8, 3) := by decide +kernel
theorem dJ9_abs_0f7a4_4 : decode cJ9_abs_0f7a4 4 = .ok (.iload_n 0, 1) := by decide +kernel
theorem dJ9_abs_0f7a4_5 : decode cJ9_abs_0f7a4 5 = .ok (.ineg, 1) := by decide +kernel
theorem dJ9_abs_0f7a4_6 : decode cJ9_abs_0f7a4 6 = .ok (.goto 4, 3) := by decide +kernel
theorem dJ9_abs_0f7a4_9 : decode cJ9_abs_0f7a4 9 = .ok (.iload_n 0, 1) := by decide +kernel
theorem dJ9_abs_0f7a4_10 : decode cJ9_abs_0f7a4 10 = .ok (.ireturn, 1) := by decide +kernel
theorem dJ9_max_7cf53_0 : decode cJ9_max_7cf53 0 = .ok (.iload_n 0, 1) := by decide +kernel
theorem dJ9_max_7cf53_1 : decode cJ9_max_7cf53 1 = .ok (.iload_n 1, 1) := by decide +kernel
theorem dJ9_max_7cf53_2 : decode cJ9_max_7cf53 2 = .ok (.if_icmp .lt 7, 3) := by decide +kernel
theorem dJ9_max_7cf53_5 : decode cJ9_max_7cf53 5 = .ok (.iload_n 0, 1) := by decide +kernel
theorem dJ9_max_7cf53_6 : decode cJ9_max_7cf53 6 = .ok (.goto 4, 3) := by decide +kernel
theorem dJ9_max_7cf53_9 : decode cJ9_max_7cf53 9 = .ok (.iload_n 1, 1) := by decide +kernel
theorem dJ9_max_7cf53_10 : decode cJ9_max_7cf53 10 = .ok (.ireturn, 1) := by decide +kernel
theorem dJ9_min_7cf53_0 : decode cJ9_min_7cf53 0 = .ok (.iload_n 0, 1) := by decide +kernel
theorem dJ9_min_7cf53_1 : decode cJ9_min_7cf53 1 = .ok (.iload_n 1, 1) := by decide +kernel
theorem dJ9_min_7cf53_2 : decode cJ9_min_7cf53 2 = .ok (.if_icmp .gt 7, 3) := by decide +kernel
theorem dJ9_min_7cf53_5 : decode cJ9_min_7cf53 5 = .ok (.iload_n 0, 1) := by decide +kernel
theorem dJ9_min_7cf53_6 : decode cJ9_min_7cf53 6 = .ok (.goto 4, 3) := by decide +kernel
theorem dJ9_min_7cf53_9 : decode cJ9_min_7cf53 9 = .ok (.iload_n 1, 1) := by decide +kernel
theorem dJ9_min_7cf53_10 : decode cJ9_min_7cf53 10 = .ok (.ireturn, 1) := by decide +kernel
set_option maxRecDepth 20000 in
theorem ggJ0_length_8abf5_J0_coder_7d493 : GoodIn wsJ0_length_8abf5 wsJ0_coder_7d493 := goodIn_r _ [6, 7, 8, 9, 10] (by decide +kernel) (by decide +kernel)
set_option maxRecDepth 20000 in
theorem gJ0_length_8abf5_J0_coder_7d493 : GoodIn wsJ0_length_8abf5 (wsV RJ0 335 RJ0 yJ0_coder_7d493 wsJ0_coder_7d493) := goodIn_app (goodIn_of _ (by decide +kernel)) ggJ0_length_8abf5_J0_coder_7d493
theorem dJ0_length_8abf5_0 : decode cJ0_length_8abf5 0 = .ok (.aload_n 0, 1) := by decide +kernel
theorem dJ0_length_8abf5_1 : decode cJ0_length_8abf5 1 = .ok (.getfield 9, 3) := by decide +kernel
theorem dJ0_length_8abf5_4 : decode cJ0_length_8abf5 4 = .ok (.arraylength, 1) := by decide +kernel
theorem dJ0_length_8abf5_5 : decode cJ0_length_8abf5 5 = .ok (.aload_n 0, 1) := by decide +kernel
theorem dJ0_length_8abf5_6 : decode cJ0_length_8abf5 6 = .ok (.invokevirtual 335, 3) := by decide +kernel
theorem dJ0_length_8abf5_9 : decode cJ0_length_8abf5 9 = .ok (.ishr, 1) := by decide +kernel
theorem dJ0_length_8abf5_10 : decode cJ0_length_8abf5 10 = .ok (.ireturn, 1) := by decide +kernel
set_option maxRecDepth 20000 in
theorem ggJ0_charAt_5068e_J0_isLatin1_aae02 : GoodIn wsJ0_charAt_5068e wsJ0_isLatin1_aae02 := goodIn_r _ [6, 7, 8, 38, 39] (by decide +kernel) (by decide +kernel)
set_option maxRecDepth 20000 in
theorem gJ0_charAt_5068e_J0_isLatin1_aae02 : GoodIn wsJ0_charAt_5068e (wsV RJ0 492 RJ0 yJ0_isLatin1_aae02 wsJ0_isLatin1_aae02) := goodIn_app (goodIn_of _ (by decide +kernel)) ggJ0_charAt_5068e_J0_isLatin1_aae02
set_option maxRecDepth 20000 in
theorem ggJ0_charAt_5068e_J1_charAt_3b067 : GoodIn wsJ0_charAt_5068e wsJ1_charAt_3b067 := goodIn_r _ [12, 13, 14, 5, 15, 16, 17, 18, 19, 20] (by decide +kernel) (by decide +kernel)
set_option maxRecDepth 20000 in
theorem gJ0_charAt_5068e_J1_charAt_3b067 : GoodIn wsJ0_charAt_5068e (va_wsS RJ0 495 yJ1_charAt_3b067 wsJ1_charAt_3b067) := goodIn_app (goodIn_of _ (by decide +kernel)) ggJ0_charAt_5068e_J1_charAt_3b067
set_option maxRecDepth 20000 in
theorem ggJ0_charAt_5068e_J2_charAt_3b067 : GoodIn wsJ0_charAt_5068e wsJ2_charAt_3b067 := goodIn_r _ [24, 25, 26, 23, 27, 28, 29, 30, 31, 14, 5, 15, 16, 17, 18, 19, 20, 32, 33, 34, 35, 36, 37] (by decide +kernel) (by decide +kernel)
set_option maxRecDepth 20000 in
theorem gJ0_charAt_5068e_J2_charAt_3b067 : GoodIn wsJ0_charAt_5068e (va_wsS RJ0 498 yJ2_charAt_3b067 wsJ2_charAt_3b067) := goodIn_app (goodIn_of _ (by decide +kernel)) ggJ0_charAt_5068e_J2_charAt_3b067
theorem dJ0_charAt_5068e_0 : decode cJ0_charAt_5068e 0 = .ok (.aload_n 0, 1) := by decide +kernel
theorem dJ0_charAt_5068e_1 : decode cJ0_charAt_5068e 1 = .ok (.invokevirtual 492, 3) := by decide +kernel
theorem dJ0_charAt_5068e_4 : decode cJ0_charAt_5068e 4 = .ok (.ifCond .eq 12, 3) := by decide +kernel
theorem dJ0_charAt_5068e_7 : decode cJ0_charAt_5068e 7 = .ok (.aload_n 0, 1) := by decide +kernel
theorem dJ0_charAt_5068e_8 : decode cJ0_charAt_5068e 8 = .ok (.getfield 9, 3) := by decide +kernel
theorem dJ0_charAt_5068e_11 : decode cJ0_charAt_5068e 11 = .ok (.iload_n 1, 1) := by decide +kernel
theorem dJ0_charAt_5068e_12 : decode cJ0_charAt_5068e 12 = .ok (.invokestatic 495, 3) := by decide +kernel
theorem dJ0_charAt_5068e_15 : decode cJ0_charAt_5068e 15 = .ok (.ireturn, 1) := by decide +kernel
theorem dJ0_charAt_5068e_16 : decode cJ0_charAt_5068e 16 = .ok (.aload_n 0, 1) := by decide +kernel
theorem dJ0_charAt_5068e_17 : decode cJ0_charAt_5068e 17 = .ok (.getfield 9, 3) := by decide +kernel
theorem dJ0_charAt_5068e_20 : decode cJ0_charAt_5068e 20 = .ok (.iload_n 1, 1) := by decide +kernel
theorem dJ0_charAt_5068e_21 : decode cJ0_charAt_5068e 21 = .ok (.invokestatic 498, 3) := by decide +kernel
theorem dJ0_charAt_5068e_24 : decode cJ0_charAt_5068e 24 = .ok (.ireturn, 1) := by decide +kernel
theorem dJ0_coder_7d493_0 : decode cJ0_coder_7d493 0 = .ok (.getstatic 38, 3) := by decide +kernel
theorem dJ0_coder_7d493_3 : decode cJ0_coder_7d493 3 = .ok (.ifCond .eq 10, 3) := by decide +kernel
theorem dJ0_coder_7d493_6 : decode cJ0_coder_7d493 6 = .ok (.aload_n 0, 1) := by decide +kernel
theorem dJ0_coder_7d493_7 : decode cJ0_coder_7d493 7 = .ok (.getfield 15, 3) := by decide +kernel
theorem dJ0_coder_7d493_10 : decode cJ0_coder_7d493 10 = .ok (.goto 4, 3) := by decide +kernel
theorem dJ0_coder_7d493_13 : decode cJ0_coder_7d493 13 = .ok (.iconst 1, 1) := by decide +kernel
theorem dJ0_coder_7d493_14 : decode cJ0_coder_7d493 14 = .ok (.ireturn, 1) := by decide +kernel
theorem dJ0_isLatin1_aae02_0 : decode cJ0_isLatin1_aae02 0 = .ok (.getstatic 38, 3) := by decide +kernel
theorem dJ0_isLatin1_aae02_3 : decode cJ0_isLatin1_aae02 3 = .ok (.ifCond .eq 14, 3) := by decide +kernel
theorem dJ0_isLatin1_aae02_6 : decode cJ0_isLatin1_aae02 6 = .ok (.aload_n 0, 1) := by decide +kernel
theorem dJ0_isLatin1_aae02_7 : decode cJ0_isLatin1_aae02 7 = .ok (.getfield 15, 3) := by decide +kernel
theorem dJ0_isLatin1_aae02_10 : decode cJ0_isLatin1_aae02 10 = .ok (.ifCond .ne 7, 3) := by decide +kernel
theorem dJ0_isLatin1_aae02_13 : decode cJ0_isLatin1_aae02 13 = .ok (.iconst 1, 1) := by decide +kernel
theorem dJ0_isLatin1_aae02_14 : decode cJ0_isLatin1_aae02 14 = .ok (.goto 4, 3) := by decide +kernel
theorem dJ0_isLatin1_aae02_17 : decode cJ0_isLatin1_aae02 17 = .ok (.iconst 0, 1) := by decide +kernel
theorem dJ0_isLatin1_aae02_18 : decode cJ0_isLatin1_aae02 18 = .ok (.ireturn, 1) := by decide +kernel
set_option maxRecDepth 20000 in
theorem ggJ0_checkIndex_df160_J3_checkIndex_8e157 : GoodIn wsJ0_checkIndex_df160 wsJ3_checkIndex_8e157 := goodIn_r _ [5] (by decide +kernel) (by decide +kernel)
set_option maxRecDepth 20000 in
theorem gJ0_checkIndex_df160_J3_checkIndex_8e157 : GoodIn wsJ0_checkIndex_df160 (va_wsS RJ0 1059 yJ3_checkIndex_8e157 wsJ3_checkIndex_8e157) := goodIn_app (goodIn_of _ (by decide +kernel)) ggJ0_checkIndex_df160_J3_checkIndex_8e157
theorem dJ0_checkIndex_df160_0 : decode cJ0_checkIndex_df160 0 = .ok (.iload_n 0, 1) := by decide +kernel
theorem dJ0_checkIndex_df160_1 : decode cJ0_checkIndex_df160 1 = .ok (.iload_n 1, 1) := by decide +kernel
theorem dJ0_checkIndex_df160_2 : decode cJ0_checkIndex_df160 2 = .ok (.getstatic 1053, 3) := by decide +kernel
theorem dJ0_checkIndex_df160_5 : decode cJ0_checkIndex_df160 5 = .ok (.invokestatic 1059, 3) := by decide +kernel
theorem dJ0_checkIndex_df160_8 : decode cJ0_checkIndex_df160 8 = .ok (.pop, 1) := by decide +kernel
theorem dJ0_checkIndex_df160_9 : decode cJ0_checkIndex_df160 9 = .ok (.return_, 1) := by decide +kernel
set_option maxRecDepth 20000 in
theorem ggJ1_charAt_3b067_J0_checkIndex_df160 : GoodIn wsJ1_charAt_3b067 wsJ0_checkIndex_df160 := goodIn_r _ [4, 5, 6, 7, 8, 9] (by decide +kernel) (by decide +kernel)
set_option maxRecDepth 20000 in
theorem gJ1_charAt_3b067_J0_checkIndex_df160 : GoodIn wsJ1_charAt_3b067 (va_wsS RJ1 9 yJ0_checkIndex_df160 wsJ0_checkIndex_df160) := goodIn_app (goodIn_of _ (by decide +kernel)) ggJ1_charAt_3b067_J0_checkIndex_df160
theorem dJ1_charAt_3b067_0 : decode cJ1_charAt_3b067 0 = .ok (.iload_n 1, 1) := by decide +kernel
theorem dJ1_charAt_3b067_1 : decode cJ1_charAt_3b067 1 = .ok (.aload_n 0, 1) := by decide +kernel
theorem dJ1_charAt_3b067_2 : decode cJ1_charAt_3b067 2 = .ok (.arraylength, 1) := by decide +kernel
theorem dJ1_charAt_3b067_3 : decode cJ1_charAt_3b067 3 = .ok (.invokestatic 9, 3) := by decide +kernel
theorem dJ1_charAt_3b067_6 : decode cJ1_charAt_3b067 6 = .ok (.aload_n 0, 1) := by decide +kernel
theorem dJ1_charAt_3b067_7 : decode cJ1_charAt_3b067 7 = .ok (.iload_n 1, 1) := by decide +kernel
theorem dJ1_charAt_3b067_8 : decode cJ1_charAt_3b067 8 = .ok (.baload, 1) := by decide +kernel
theorem dJ1_charAt_3b067_9 : decode cJ1_charAt_3b067 9 = .ok (.sipush 255, 3) := by decide +kernel
theorem dJ1_charAt_3b067_12 : decode cJ1_charAt_3b067 12 = .ok (.iand, 1) := by decide +kernel
theorem dJ1_charAt_3b067_13 : decode cJ1_charAt_3b067 13 = .ok (.i2c, 1) := by decide +kernel
theorem dJ1_charAt_3b067_14 : decode cJ1_charAt_3b067 14 = .ok (.ireturn, 1) := by decide +kernel
set_option maxRecDepth 20000 in
theorem ggJ2_getChar_3b067_J2_length_9d52b : GoodIn wsJ2_getChar_3b067 wsJ2_length_9d52b := goodIn_r _ [7] (by decide +kernel) (by decide +kernel)
set_option maxRecDepth 20000 in
theorem gJ2_getChar_3b067_J2_length_9d52b : GoodIn wsJ2_getChar_3b067 (va_wsS RJ2 48 yJ2_length_9d52b wsJ2_length_9d52b) := goodIn_app (goodIn_of _ (by decide +kernel)) ggJ2_getChar_3b067_J2_length_9d52b
theorem dJ2_getChar_3b067_0 : decode cJ2_getChar_3b067 0 = .ok (.getstatic 44, 3) := by decide +kernel
theorem dJ2_getChar_3b067_3 : decode cJ2_getChar_3b067 3 = .ok (.ifCond .ne 25, 3) := by decide +kernel
theorem dJ2_getChar_3b067_6 : decode cJ2_getChar_3b067 6 = .ok (.iload_n 1, 1) := by decide +kernel
theorem dJ2_getChar_3b067_7 : decode cJ2_getChar_3b067 7 = .ok (.ifCond .lt 11, 3) := by decide +kernel
theorem dJ2_getChar_3b067_10 : decode cJ2_getChar_3b067 10 = .ok (.iload_n 1, 1) := by decide +kernel
theorem dJ2_getChar_3b067_11 : decode cJ2_getChar_3b067 11 = .ok (.aload_n 0, 1) := by decide +kernel
theorem dJ2_getChar_3b067_12 : decode cJ2_getChar_3b067 12 = .ok (.invokestatic 48, 3) := by decide +kernel
theorem dJ2_getChar_3b067_15 : decode cJ2_getChar_3b067 15 = .ok (.if_icmp .lt 13, 3) := by decide +kernel
theorem dJ2_getChar_3b067_18 : decode cJ2_getChar_3b067 18 = .ok (.new 52, 3) := by decide +kernel
theorem dJ2_getChar_3b067_21 : decode cJ2_getChar_3b067 21 = .ok (.dup, 1) := by decide +kernel
theorem dJ2_getChar_3b067_22 : decode cJ2_getChar_3b067 22 = .ok (.ldc 54, 2) := by decide +kernel
theorem dJ2_getChar_3b067_24 : decode cJ2_getChar_3b067 24 = .ok (.invokespecial 56, 3) := by decide +kernel
theorem dJ2_getChar_3b067_27 : decode cJ2_getChar_3b067 27 = .ok (.athrow, 1) := by decide +kernel
theorem dJ2_getChar_3b067_28 : decode cJ2_getChar_3b067 28 = .ok (.iload_n 1, 1) := by decide +kernel
theorem dJ2_getChar_3b067_29 : decode cJ2_getChar_3b067 29 = .ok (.iconst 1, 1) := by decide +kernel
theorem dJ2_getChar_3b067_30 : decode cJ2_getChar_3b067 30 = .ok (.ishl, 1) := by decide +kernel
theorem dJ2_getChar_3b067_31 : decode cJ2_getChar_3b067 31 = .ok (.istore_n 1, 1) := by decide +kernel
theorem dJ2_getChar_3b067_32 : decode cJ2_getChar_3b067 32 = .ok (.aload_n 0, 1) := by decide +kernel
theorem dJ2_getChar_3b067_33 : decode cJ2_getChar_3b067 33 = .ok (.iload_n 1, 1) := by decide +kernel
theorem dJ2_getChar_3b067_34 : decode cJ2_getChar_3b067 34 = .ok (.iinc 1 1, 3) := by decide +kernel
theorem dJ2_getChar_3b067_37 : decode cJ2_getChar_3b067 37 = .ok (.baload, 1) := by decide +kernel
theorem dJ2_getChar_3b067_38 : decode cJ2_getChar_3b067 38 = .ok (.sipush 255, 3) := by decide +kernel
theorem dJ2_getChar_3b067_41 : decode cJ2_getChar_3b067 41 = .ok (.iand, 1) := by decide +kernel
theorem dJ2_getChar_3b067_42 : decode cJ2_getChar_3b067 42 = .ok (.getstatic 59, 3) := by decide +kernel
theorem dJ2_getChar_3b067_45 : decode cJ2_getChar_3b067 45 = .ok (.ishl, 1) := by decide +kernel
theorem dJ2_getChar_3b067_46 : decode cJ2_getChar_3b067 46 = .ok (.aload_n 0, 1) := by decide +kernel
theorem dJ2_getChar_3b067_47 : decode cJ2_getChar_3b067 47 = .ok (.iload_n 1, 1) := by decide +kernel
theorem dJ2_getChar_3b067_48 : decode cJ2_getChar_3b067 48 = .ok (.baload, 1) := by decide +kernel
theorem dJ2_getChar_3b067_49 : decode cJ2_getChar_3b067 49 = .ok (.sipush 255, 3) := by decide +kernel
theorem dJ2_getChar_3b067_52 : decode cJ2_getChar_3b067 52 = .ok (.iand, 1) := by decide +kernel
theorem dJ2_getChar_3b067_53 : decode cJ2_getChar_3b067 53 = .ok (.getstatic 63, 3) := by decide +kernel
theorem dJ2_getChar_3b067_56 : decode cJ2_getChar_3b067 56 = .ok (.ishl, 1) := by decide +kernel
theorem dJ2_getChar_3b067_57 : decode cJ2_getChar_3b067 57 = .ok (.ior, 1) := by decide +kernel
theorem dJ2_getChar_3b067_58 : decode cJ2_getChar_3b067 58 = .ok (.i2c, 1) := by decide +kernel
theorem dJ2_getChar_3b067_59 : decode cJ2_getChar_3b067 59 = .ok (.ireturn, 1) := by decide +kernel
theorem dJ2_length_9d52b_0 : decode cJ2_length_9d52b 0 = .ok (.aload_n 0, 1) := by decide +kernel
theorem dJ2_length_9d52b_1 : decode cJ2_length_9d52b 1 = .ok (.arraylength, 1) := by decide +kernel
theorem dJ2_length_9d52b_2 : decode cJ2_length_9d52b 2 = .ok (.iconst 1, 1) := by decide +kernel
theorem dJ2_length_9d52b_3 : decode cJ2_length_9d52b 3 = .ok (.ishr, 1) := by decide +kernel
theorem dJ2_length_9d52b_4 : decode cJ2_length_9d52b 4 = .ok (.ireturn, 1) := by decide +kernel
set_option maxRecDepth 20000 in
theorem ggJ2_charAt_3b067_J2_checkIndex_2214a : GoodIn wsJ2_charAt_3b067 wsJ2_checkIndex_2214a := goodIn_r _ [4, 5, 6, 3, 7, 8, 9, 10, 11, 12, 13, 14, 15, 16] (by decide +kernel) (by decide +kernel)
set_option maxRecDepth 20000 in
theorem gJ2_charAt_3b067_J2_checkIndex_2214a : GoodIn wsJ2_charAt_3b067 (va_wsS RJ2 67 yJ2_checkIndex_2214a wsJ2_checkIndex_2214a) := goodIn_app (goodIn_of _ (by decide +kernel)) ggJ2_charAt_3b067_J2_checkIndex_2214a
set_option maxRecDepth 20000 in
theorem ggJ2_charAt_3b067_J2_getChar_3b067 : GoodIn wsJ2_charAt_3b067 wsJ2_getChar_3b067 := goodIn_r _ [19, 20, 21, 22, 5, 6, 3, 7] (by decide +kernel) (by decide +kernel)
set_option maxRecDepth 20000 in
theorem gJ2_charAt_3b067_J2_getChar_3b067 : GoodIn wsJ2_charAt_3b067 (va_wsS RJ2 71 yJ2_getChar_3b067 wsJ2_getChar_3b067) := goodIn_app (goodIn_of _ (by decide +kernel)) ggJ2_charAt_3b067_J2_getChar_3b067
theorem dJ2_charAt_3b067_0 : decode cJ2_charAt_3b067 0 = .ok (.iload_n 1, 1) := by decide +kernel
theorem dJ2_charAt_3b067_1 : decode cJ2_charAt_3b067 1 = .ok (.aload_n 0, 1) := by decide +kernel
theorem dJ2_charAt_3b067_2 : decode cJ2_charAt_3b067 2 = .ok (.invokestatic 67, 3) := by decide +kernel
theorem dJ2_charAt_3b067_5 : decode cJ2_charAt_3b067 5 = .ok (.aload_n 0, 1) := by decide +kernel
theorem dJ2_charAt_3b067_6 : decode cJ2_charAt_3b067 6 = .ok (.iload_n 1, 1) := by decide +kernel
theorem dJ2_charAt_3b067_7 : decode cJ2_charAt_3b067 7 = .ok (.invokestatic 71, 3) := by decide +kernel
theorem dJ2_charAt_3b067_10 : decode cJ2_charAt_3b067 10 = .ok (.ireturn, 1) := by decide +kernel
set_option maxRecDepth 20000 in
theorem ggJ2_checkIndex_2214a_J2_length_9d52b : GoodIn wsJ2_checkIndex_2214a wsJ2_length_9d52b := goodIn_r _ [4] (by decide +kernel) (by decide +kernel)
set_option maxRecDepth 20000 in
theorem gJ2_checkIndex_2214a_J2_length_9d52b : GoodIn wsJ2_checkIndex_2214a (va_wsS RJ2 48 yJ2_length_9d52b wsJ2_length_9d52b) := goodIn_app (goodIn_of _ (by decide +kernel)) ggJ2_checkIndex_2214a_J2_length_9d52b
set_option maxRecDepth 20000 in
theorem ggJ2_checkIndex_2214a_J0_checkIndex_df160 : GoodIn wsJ2_checkIndex_2214a wsJ0_checkIndex_df160 := goodIn_r _ [8, 9, 10, 11, 12, 13] (by decide +kernel) (by decide +kernel)
set_option maxRecDepth 20000 in
theorem gJ2_checkIndex_2214a_J0_checkIndex_df160 : GoodIn wsJ2_checkIndex_2214a (va_wsS RJ2 414 yJ0_checkIndex_df160 wsJ0_checkIndex_df160) := goodIn_app (goodIn_of _ (by decide +kernel)) ggJ2_checkIndex_2214a_J0_checkIndex_df160
theorem dJ2_checkIndex_2214a_0 : decode cJ2_checkIndex_2214a 0 = .ok (.iload_n 0, 1) := by decide +kernel
theorem dJ2_checkIndex_2214a_1 : decode cJ2_checkIndex_2214a 1 = .ok (.aload_n 1, 1) := by decide +kernel
theorem dJ2_checkIndex_2214a_2 : decode cJ2_checkIndex_2214a 2 = .ok (.invokestatic 48, 3) := by decide +kernel
theorem dJ2_checkIndex_2214a_5 : decode cJ2_checkIndex_2214a 5 = .ok (.invokestatic 414, 3) := by decide +kernel
theorem dJ2_checkIndex_2214a_8 : decode cJ2_checkIndex_2214a 8 = .ok (.return_, 1) := by decide +kernel
theorem dJ3_checkIndex_8e157_0 : decode cJ3_checkIndex_8e157 0 = .ok (.iload_n 0, 1) := by decide +kernel
theorem dJ3_checkIndex_8e157_1 : decode cJ3_checkIndex_8e157 1 = .ok (.ifCond .lt 8, 3) := by decide +kernel
theorem dJ3_checkIndex_8e157_4 : decode cJ3_checkIndex_8e157 4 = .ok (.iload_n 0, 1) := by decide +kernel
theorem dJ3_checkIndex_8e157_5 : decode cJ3_checkIndex_8e157 5 = .ok (.iload_n 1, 1) := by decide +kernel
theorem dJ3_checkIndex_8e157_6 : decode cJ3_checkIndex_8e157 6 = .ok (.if_icmp .lt 10, 3) := by decide +kernel
theorem dJ3_checkIndex_8e157_9 : decode cJ3_checkIndex_8e157 9 = .ok (.aload_n 2, 1) := by decide +kernel
theorem dJ3_checkIndex_8e157_10 : decode cJ3_checkIndex_8e157 10 = .ok (.iload_n 0, 1) := by decide +kernel
theorem dJ3_checkIndex_8e157_11 : decode cJ3_checkIndex_8e157 11 = .ok (.iload_n 1, 1) := by decide +kernel
theorem dJ3_checkIndex_8e157_12 : decode cJ3_checkIndex_8e157 12 = .ok (.invokestatic 95, 3) := by decide +kernel
theorem dJ3_checkIndex_8e157_15 : decode cJ3_checkIndex_8e157 15 = .ok (.athrow, 1) := by decide +kernel
theorem dJ3_checkIndex_8e157_16 : decode cJ3_checkIndex_8e157 16 = .ok (.iload_n 0, 1) := by decide +kernel
theorem dJ3_checkIndex_8e157_17 : decode cJ3_checkIndex_8e157 17 = .ok (.ireturn, 1) := by decide +kernel
set_option maxRecDepth 20000 in
theorem ggL_setTile_X6_setTile : GoodIn wsL_setTile wsX6_setTile := goodIn_ca (goodIn_ca (goodIn_ca (goodIn_ca (goodIn_r _ [8, 9, 10, 11, 12, 13, 7, 14, 15, 16, 17, 18, 19, 20, 21, 22, 23, 24, 25, 26, 27, 28, 29, 30, 31, 32, 33, 34, 35, 36, 37, 38, 39, 40, 41, 42, 43, 44, 45, 46, 47, 48, 49, 50, 51, 52, 53, 54, 55, 56, 57, 58, 59, 60, 61, 62, 63, 64, 65, 66, 67, 68, 69, 70, 71, 72, 73, 74, 75, 76, 77, 78, 79, 80, 81, 82, 83, 84, 85, 86, 87, 88, 89, 90, 91, 92, 93, 94, 95, 96, 97, 98, 99, 100, 101, 102, 103, 104, 105, 106, 107, 108, 109, 110, 111, 112, 113, 114, 115, 116, 117, 118, 119, 120, 121, 122, 123, 124, 125, 126, 127, 128, 129, 130, 131, 132, 133, 134, 135, 136, 137, 138, 139, 140, 141, 142, 143, 144, 145, 146, 147, 148, 149, 150, 151, 152, 153, 154, 155, 156, 157, 158, 159, 160, 161, 162, 163, 164, 165, 166, 167, 168, 169, 170, 171, 172, 173, 174, 175, 176, 177, 178, 179, 180, 181] (by decide +kernel) (by decide +kernel)) (goodIn_sub (fun _ h => List.mem_cons_of_mem _ (List.mem_append_left _ (List.mem_append_left _ (List.mem_append_right _ h)))) (by decide +kernel))) (goodIn_sub (fun _ h => List.mem_cons_of_mem _ (List.mem_append_left _ (List.mem_append_right _ h))) (by decide +kernel))) (goodIn_sub (fun _ h => List.mem_cons_of_mem _ (List.mem_append_left _ (List.mem_append_left _ (List.mem_append_left _ (List.mem_append_right _ h))))) (by decide +kernel))) (goodIn_sub (fun _ h => List.mem_cons_of_mem _ (List.mem_append_right _ h)) (by decide +kernel))
set_option maxRecDepth 20000 in
theorem gL_setTile_X6_setTile : GoodIn wsL_setTile (wsV RL 7 RX6 yX6_setTile wsX6_setTile) := goodIn_app (goodIn_of _ (by decide +kernel)) ggL_setTile_X6_setTile
theorem dL_setTile_0 : decode cL_setTile 0 = .ok (.aload 4, 2) := by decide +kernel
theorem dL_setTile_2 : decode cL_setTile 2 = .ok (.iconst 0, 1) := by decide +kernel
theorem dL_setTile_3 : decode cL_setTile 3 = .ok (.aload_n 0, 1) := by decide +kernel
theorem dL_setTile_4 : decode cL_setTile 4 = .ok (.iload_n 1, 1) := by decide +kernel
theorem dL_setTile_5 : decode cL_setTile 5 = .ok (.iload_n 2, 1) := by decide +kernel
theorem dL_setTile_6 : decode cL_setTile 6 = .ok (.iload_n 3, 1) := by decide +kernel
theorem dL_setTile_7 : decode cL_setTile 7 = .ok (.invokevirtual 7, 3) := by decide +kernel
theorem dL_setTile_10 : decode cL_setTile 10 = .ok (.i2l, 1) := by decide +kernel
theorem dL_setTile_11 : decode cL_setTile 11 = .ok (.lastore, 1) := by decide +kernel
theorem dL_setTile_12 : decode cL_setTile 12 = .ok (.goto 15, 3) := by decide +kernel
theorem dL_setTile_15 : decode cL_setTile 15 = .ok (.astore 5, 2) := by decide +kernel
theorem dL_setTile_17 : decode cL_setTile 17 = .ok (.iconst 1, 1) := by decide +kernel
theorem dL_setTile_18 : decode cL_setTile 18 = .ok (.ireturn, 1) := by decide +kernel
theorem dL_setTile_19 : decode cL_setTile 19 = .ok (.astore 5, 2) := by decide +kernel
theorem dL_setTile_21 : decode cL_setTile 21 = .ok (.iconst 2, 1) := by decide +kernel
theorem dL_setTile_22 : decode cL_setTile 22 = .ok (.ireturn, 1) := by decide +kernel
theorem dL_setTile_23 : decode cL_setTile 23 = .ok (.astore 5, 2) := by decide +kernel
theorem dL_setTile_25 : decode cL_setTile 25 = .ok (.iconst 3, 1) := by decide +kernel
theorem dL_setTile_26 : decode cL_setTile 26 = .ok (.ireturn, 1) := by decide +kernel
theorem dL_setTile_27 : decode cL_setTile 27 = .ok (.iconst 0, 1) := by decide +kernel
theorem dL_setTile_28 : decode cL_setTile 28 = .ok (.ireturn, 1) := by decide +kernel
set_option maxRecDepth 20000 in
theorem ggL_tile_X6_tile : GoodIn wsL_tile wsX6_tile := goodIn_ca (goodIn_ca (goodIn_r _ [6, 7, 8, 9, 10, 5, 11, 12, 13, 14, 15, 16, 17, 18, 19, 20, 21, 22, 23, 24, 25, 26, 27, 28, 29, 30, 31, 32, 33, 34, 35, 36, 37, 38, 39, 40, 41, 42] (by decide +kernel) (by decide +kernel)) (goodIn_sub (fun _ h => List.mem_cons_of_mem _ (List.mem_append_right _ h)) (by decide +kernel))) (goodIn_sub (fun _ h => List.mem_cons_of_mem _ (List.mem_append_left _ (List.mem_append_right _ h))) (by decide +kernel))
set_option maxRecDepth 20000 in
theorem gL_tile_X6_tile : GoodIn wsL_tile (wsV RL 19 RX6 yX6_tile wsX6_tile) := goodIn_app (goodIn_of _ (by decide +kernel)) ggL_tile_X6_tile
theorem dL_tile_0 : decode cL_tile 0 = .ok (.aload_n 3, 1) := by decide +kernel
theorem dL_tile_1 : decode cL_tile 1 = .ok (.iconst 0, 1) := by decide +kernel
theorem dL_tile_2 : decode cL_tile 2 = .ok (.aload_n 0, 1) := by decide +kernel
theorem dL_tile_3 : decode cL_tile 3 = .ok (.iload_n 1, 1) := by decide +kernel
theorem dL_tile_4 : decode cL_tile 4 = .ok (.iload_n 2, 1) := by decide +kernel
theorem dL_tile_5 : decode cL_tile 5 = .ok (.invokevirtual 19, 3) := by decide +kernel
theorem dL_tile_8 : decode cL_tile 8 = .ok (.i2l, 1) := by decide +kernel
theorem dL_tile_9 : decode cL_tile 9 = .ok (.lastore, 1) := by decide +kernel
theorem dL_tile_10 : decode cL_tile 10 = .ok (.goto 7, 3) := by decide +kernel
theorem dL_tile_13 : decode cL_tile 13 = .ok (.astore 4, 2) := by decide +kernel
theorem dL_tile_15 : decode cL_tile 15 = .ok (.iconst 1, 1) := by decide +kernel
theorem dL_tile_16 : decode cL_tile 16 = .ok (.ireturn, 1) := by decide +kernel
theorem dL_tile_17 : decode cL_tile 17 = .ok (.iconst 0, 1) := by decide +kernel
theorem dL_tile_18 : decode cL_tile 18 = .ok (.ireturn, 1) := by decide +kernel
set_option maxRecDepth 20000 in
theorem ggL_addBody_X6_addBody : GoodIn wsL_addBody wsX6_addBody := goodIn_ca (goodIn_ca (goodIn_ca (goodIn_r _ [7, 8, 9, 10, 11, 12, 13, 14, 15, 16, 6, 17, 18, 19, 20, 21, 22, 23, 24, 25, 26, 27, 28, 29, 30, 31, 32, 33, 34, 35, 36, 37, 38, 39, 40, 41, 42, 43, 44, 45, 46, 47, 48, 49, 50, 51, 52, 53, 54, 55, 56, 57, 58, 59, 60, 61, 62, 63, 64, 65, 66, 67, 68, 69, 70, 71, 72, 73, 74, 75, 76, 77, 78, 79, 80, 81, 82, 83, 84, 85, 86, 87, 88, 89, 90, 91, 92, 93, 94, 95, 96, 97, 98, 99, 100, 101, 102, 103, 104, 105, 106, 107, 108, 109, 110, 111, 112, 113, 114, 115, 116, 117, 118] (by decide +kernel) (by decide +kernel)) (goodIn_sub (fun _ h => List.mem_cons_of_mem _ (List.mem_append_left _ (List.mem_append_right _ h))) (by decide +kernel))) (goodIn_sub (fun _ h => List.mem_cons_of_mem _ (List.mem_append_right _ h)) (by decide +kernel))) (goodIn_sub (fun _ h => List.mem_cons_of_mem _ (List.mem_append_left _ (List.mem_append_left _ (List.mem_append_right _ h)))) (by decide +kernel))
set_option maxRecDepth 20000 in
theorem gL_addBody_X6_addBody : GoodIn wsL_addBody (wsV RL 23 RX6 yX6_addBody wsX6_addBody) := goodIn_app (goodIn_of _ (by decide +kernel)) ggL_addBody_X6_addBody
theorem dL_addBody_0 : decode cL_addBody 0 = .ok (.aload 5, 2) := by decide +kernel
theorem dL_addBody_2 : decode cL_addBody 2 = .ok (.iconst 0, 1) := by decide +kernel
theorem dL_addBody_3 : decode cL_addBody 3 = .ok (.aload_n 0, 1) := by decide +kernel
theorem dL_addBody_4 : decode cL_addBody 4 = .ok (.iload_n 1, 1) := by decide +kernel
theorem dL_addBody_5 : decode cL_addBody 5 = .ok (.iload_n 2, 1) := by decide +kernel
theorem dL_addBody_6 : decode cL_addBody 6 = .ok (.iload_n 3, 1) := by decide +kernel
theorem dL_addBody_7 : decode cL_addBody 7 = .ok (.iload 4, 2) := by decide +kernel
theorem dL_addBody_9 : decode cL_addBody 9 = .ok (.invokevirtual 23, 3) := by decide +kernel
theorem dL_addBody_12 : decode cL_addBody 12 = .ok (.i2l, 1) := by decide +kernel
theorem dL_addBody_13 : decode cL_addBody 13 = .ok (.lastore, 1) := by decide +kernel
theorem dL_addBody_14 : decode cL_addBody 14 = .ok (.goto 11, 3) := by decide +kernel
theorem dL_addBody_17 : decode cL_addBody 17 = .ok (.astore 6, 2) := by decide +kernel
theorem dL_addBody_19 : decode cL_addBody 19 = .ok (.iconst 1, 1) := by decide +kernel
theorem dL_addBody_20 : decode cL_addBody 20 = .ok (.ireturn, 1) := by decide +kernel
theorem dL_addBody_21 : decode cL_addBody 21 = .ok (.astore 6, 2) := by decide +kernel
theorem dL_addBody_23 : decode cL_addBody 23 = .ok (.iconst 2, 1) := by decide +kernel
theorem dL_addBody_24 : decode cL_addBody 24 = .ok (.ireturn, 1) := by decide +kernel
theorem dL_addBody_25 : decode cL_addBody 25 = .ok (.iconst 0, 1) := by decide +kernel
theorem dL_addBody_26 : decode cL_addBody 26 = .ok (.ireturn, 1) := by decide +kernel
set_option maxRecDepth 20000 in
theorem ggL_removeBody_X6_removeBody : GoodIn wsL_removeBody wsX6_removeBody := goodIn_ca (goodIn_r _ [6, 7, 8, 9, 10, 11, 12, 5, 13, 14, 15, 16, 17, 18, 19, 20, 21, 22, 23, 24, 25, 26, 27, 28, 29, 30, 31, 32, 33, 34, 35, 36, 37, 38, 39, 40, 41, 42, 43, 44, 45, 46, 47, 48, 49, 50, 51, 52, 53, 54, 55, 56, 57, 58, 59, 60, 61, 62, 63, 64, 65, 66, 67, 68, 69, 70, 71, 72, 73, 74, 75, 76, 77, 78, 79, 80, 81, 82, 83, 84, 85, 86, 87, 88, 89, 90, 91] (by decide +kernel) (by decide +kernel)) (goodIn_sub (fun _ h => List.mem_cons_of_mem _ (List.mem_append_right _ h)) (by decide +kernel))
set_option maxRecDepth 20000 in
theorem gL_removeBody_X6_removeBody : GoodIn wsL_removeBody (wsV RL 27 RX6 yX6_removeBody wsX6_removeBody) := goodIn_app (goodIn_of _ (by decide +kernel)) ggL_removeBody_X6_removeBody
theorem dL_removeBody_0 : decode cL_removeBody 0 = .ok (.aload_n 2, 1) := by decide +kernel
theorem dL_removeBody_1 : decode cL_removeBody 1 = .ok (.iconst 0, 1) := by decide +kernel
theorem dL_removeBody_2 : decode cL_removeBody 2 = .ok (.aload_n 0, 1) := by decide +kernel
theorem dL_removeBody_3 : decode cL_removeBody 3 = .ok (.iload_n 1, 1) := by decide +kernel
theorem dL_removeBody_4 : decode cL_removeBody 4 = .ok (.invokevirtual 27, 3) := by decide +kernel
theorem dL_removeBody_7 : decode cL_removeBody 7 = .ok (.i2l, 1) := by decide +kernel
theorem dL_removeBody_8 : decode cL_removeBody 8 = .ok (.lastore, 1) := by decide +kernel
theorem dL_removeBody_9 : decode cL_removeBody 9 = .ok (.goto 6, 3) := by decide +kernel
theorem dL_removeBody_12 : decode cL_removeBody 12 = .ok (.astore_n 3, 1) := by decide +kernel
theorem dL_removeBody_13 : decode cL_removeBody 13 = .ok (.iconst 1, 1) := by decide +kernel
theorem dL_removeBody_14 : decode cL_removeBody 14 = .ok (.ireturn, 1) := by decide +kernel
theorem dL_removeBody_15 : decode cL_removeBody 15 = .ok (.iconst 0, 1) := by decide +kernel
theorem dL_removeBody_16 : decode cL_removeBody 16 = .ok (.ireturn, 1) := by decide +kernel
set_option maxRecDepth 20000 in
theorem ggL_body_X6_body : GoodIn wsL_body wsX6_body := goodIn_ca (goodIn_ca (goodIn_r _ [7, 8, 9, 10, 11, 12, 6, 13, 14, 15, 16, 17, 18, 19, 20, 21, 22, 23, 24, 25, 26, 27, 28, 29, 30, 31, 32, 33, 34, 35, 36, 37, 38, 39, 40, 41, 42, 43, 44, 45, 46, 47, 48, 49, 50, 51, 52, 53, 54, 55, 56, 57, 58, 59, 60, 61, 62, 63, 64, 65, 66, 67, 68, 69, 70, 71] (by decide +kernel) (by decide +kernel)) (goodIn_sub (fun _ h => List.mem_cons_of_mem _ (List.mem_append_left _ (List.mem_append_right _ h))) (by decide +kernel))) (goodIn_sub (fun _ h => List.mem_cons_of_mem _ (List.mem_append_right _ h)) (by decide +kernel))
set_option maxRecDepth 20000 in
theorem gL_body_X6_body : GoodIn wsL_body (wsV RL 31 RX6 yX6_body wsX6_body) := goodIn_app (goodIn_of _ (by decide +kernel)) ggL_body_X6_body
theorem dL_body_0 : decode cL_body 0 = .ok (.aload_n 3, 1) := by decide +kernel
theorem dL_body_1 : decode cL_body 1 = .ok (.iconst 0, 1) := by decide +kernel
theorem dL_body_2 : decode cL_body 2 = .ok (.aload_n 0, 1) := by decide +kernel
theorem dL_body_3 : decode cL_body 3 = .ok (.iload_n 1, 1) := by decide +kernel
theorem dL_body_4 : decode cL_body 4 = .ok (.iload_n 2, 1) := by decide +kernel
theorem dL_body_5 : decode cL_body 5 = .ok (.invokevirtual 31, 3) := by decide +kernel
theorem dL_body_8 : decode cL_body 8 = .ok (.i2l, 1) := by decide +kernel
theorem dL_body_9 : decode cL_body 9 = .ok (.lastore, 1) := by decide +kernel
theorem dL_body_10 : decode cL_body 10 = .ok (.goto 11, 3) := by decide +kernel
theorem dL_body_13 : decode cL_body 13 = .ok (.astore 4, 2) := by decide +kernel
theorem dL_body_15 : decode cL_body 15 = .ok (.iconst 1, 1) := by decide +kernel
theorem dL_body_16 : decode cL_body 16 = .ok (.ireturn, 1) := by decide +kernel
theorem dL_body_17 : decode cL_body 17 = .ok (.astore 4, 2) := by decide +kernel
theorem dL_body_19 : decode cL_body 19 = .ok (.iconst 2, 1) := by decide +kernel
theorem dL_body_20 : decode cL_body 20 = .ok (.ireturn, 1) := by decide +kernel
theorem dL_body_21 : decode cL_body 21 = .ok (.iconst 0, 1) := by decide +kernel
theorem dL_body_22 : decode cL_body 22 = .ok (.ireturn, 1) := by decide +kernel
set_option maxRecDepth 20000 in
theorem ggL_press_X6_press : GoodIn wsL_press wsX6_press := goodIn_ca (goodIn_ca (goodIn_r _ [7, 8, 9, 10, 11, 12, 13, 6, 14, 15, 16, 17, 18, 19, 20, 21, 22, 23, 24, 25, 26, 27, 28, 29, 30, 31, 32, 33, 34, 35, 36, 37, 38, 39, 40, 41, 42, 43, 44, 45, 46, 47, 48, 49, 50, 51, 52, 53, 54, 55, 56, 57] (by decide +kernel) (by decide +kernel)) (goodIn_sub (fun _ h => List.mem_cons_of_mem _ (List.mem_append_left _ (List.mem_append_right _ h))) (by decide +kernel))) (goodIn_sub (fun _ h => List.mem_cons_of_mem _ (List.mem_append_right _ h)) (by decide +kernel))
set_option maxRecDepth 20000 in
theorem gL_press_X6_press : GoodIn wsL_press (wsV RL 34 RX6 yX6_press wsX6_press) := goodIn_app (goodIn_of _ (by decide +kernel)) ggL_press_X6_press
theorem dL_press_0 : decode cL_press 0 = .ok (.aload_n 3, 1) := by decide +kernel
theorem dL_press_1 : decode cL_press 1 = .ok (.iconst 0, 1) := by decide +kernel
theorem dL_press_2 : decode cL_press 2 = .ok (.aload_n 0, 1) := by decide +kernel
theorem dL_press_3 : decode cL_press 3 = .ok (.iload_n 1, 1) := by decide +kernel
theorem dL_press_4 : decode cL_press 4 = .ok (.iload_n 2, 1) := by decide +kernel
theorem dL_press_5 : decode cL_press 5 = .ok (.invokevirtual 34, 3) := by decide +kernel
theorem dL_press_8 : decode cL_press 8 = .ok (.i2l, 1) := by decide +kernel
theorem dL_press_9 : decode cL_press 9 = .ok (.lastore, 1) := by decide +kernel
theorem dL_press_10 : decode cL_press 10 = .ok (.goto 11, 3) := by decide +kernel
theorem dL_press_13 : decode cL_press 13 = .ok (.astore 4, 2) := by decide +kernel
theorem dL_press_15 : decode cL_press 15 = .ok (.iconst 1, 1) := by decide +kernel
theorem dL_press_16 : decode cL_press 16 = .ok (.ireturn, 1) := by decide +kernel
theorem dL_press_17 : decode cL_press 17 = .ok (.astore 4, 2) := by decide +kernel
theorem dL_press_19 : decode cL_press 19 = .ok (.iconst 2, 1) := by decide +kernel
theorem dL_press_20 : decode cL_press 20 = .ok (.ireturn, 1) := by decide +kernel
theorem dL_press_21 : decode cL_press 21 = .ok (.iconst 0, 1) := by decide +kernel
theorem dL_press_22 : decode cL_press 22 = .ok (.ireturn, 1) := by decide +kernel
set_option maxRecDepth 20000 in
theorem ggL_push_X6_push : GoodIn wsL_push wsX6_push := goodIn_ca (goodIn_ca (goodIn_r _ [7, 8, 9, 10, 11, 12, 13, 14, 15, 6, 16, 17, 18, 19, 20, 21, 22, 23, 24, 25, 26, 27, 28, 29, 30, 31, 32, 33, 34, 35, 36, 37, 38, 39, 40, 41, 42, 43, 44, 45, 46, 47, 48, 49, 50, 51, 52, 53, 54, 55, 56, 57, 58, 59] (by decide +kernel) (by decide +kernel)) (goodIn_sub (fun _ h => List.mem_cons_of_mem _ (List.mem_append_left _ (List.mem_append_right _ h))) (by decide +kernel))) (goodIn_sub (fun _ h => List.mem_cons_of_mem _ (List.mem_append_right _ h)) (by decide +kernel))
set_option maxRecDepth 20000 in
theorem gL_push_X6_push : GoodIn wsL_push (wsV RL 37 RX6 yX6_push wsX6_push) := goodIn_app (goodIn_of _ (by decide +kernel)) ggL_push_X6_push
theorem dL_push_0 : decode cL_push 0 = .ok (.aload 4, 2) := by decide +kernel
theorem dL_push_2 : decode cL_push 2 = .ok (.iconst 0, 1) := by decide +kernel
theorem dL_push_3 : decode cL_push 3 = .ok (.aload_n 0, 1) := by decide +kernel
theorem dL_push_4 : decode cL_push 4 = .ok (.iload_n 1, 1) := by decide +kernel
theorem dL_push_5 : decode cL_push 5 = .ok (.iload_n 2, 1) := by decide +kernel
theorem dL_push_6 : decode cL_push 6 = .ok (.iload_n 3, 1) := by decide +kernel
theorem dL_push_7 : decode cL_push 7 = .ok (.invokevirtual 37, 3) := by decide +kernel
theorem dL_push_10 : decode cL_push 10 = .ok (.i2l, 1) := by decide +kernel
theorem dL_push_11 : decode cL_push 11 = .ok (.lastore, 1) := by decide +kernel
theorem dL_push_12 : decode cL_push 12 = .ok (.goto 11, 3) := by decide +kernel
theorem dL_push_15 : decode cL_push 15 = .ok (.astore 5, 2) := by decide +kernel
theorem dL_push_17 : decode cL_push 17 = .ok (.iconst 1, 1) := by decide +kernel
theorem dL_push_18 : decode cL_push 18 = .ok (.ireturn, 1) := by decide +kernel
theorem dL_push_19 : decode cL_push 19 = .ok (.astore 5, 2) := by decide +kernel
theorem dL_push_21 : decode cL_push 21 = .ok (.iconst 2, 1) := by decide +kernel
theorem dL_push_22 : decode cL_push 22 = .ok (.ireturn, 1) := by decide +kernel
theorem dL_push_23 : decode cL_push 23 = .ok (.iconst 0, 1) := by decide +kernel
theorem dL_push_24 : decode cL_push 24 = .ok (.ireturn, 1) := by decide +kernel
set_option maxRecDepth 20000 in
theorem ggL_addPlatform_X6_addPlatform : GoodIn wsL_addPlatform wsX6_addPlatform := goodIn_ca (goodIn_ca (goodIn_r _ [7, 8, 9, 10, 11, 12, 13, 14, 15, 6, 16, 17, 18, 19, 20, 21, 22, 23, 24, 25, 26, 27, 28, 29, 30, 31, 32, 33, 34, 35, 36, 37, 38, 39, 40, 41, 42, 43, 44, 45, 46, 47, 48, 49, 50, 51, 52, 53, 54, 55, 56, 57, 58, 59, 60, 61, 62, 63, 64, 65] (by decide +kernel) (by decide +kernel)) (goodIn_sub (fun _ h => List.mem_cons_of_mem _ (List.mem_append_left _ (List.mem_append_right _ h))) (by decide +kernel))) (goodIn_sub (fun _ h => List.mem_cons_of_mem _ (List.mem_append_right _ h)) (by decide +kernel))
set_option maxRecDepth 20000 in
theorem gL_addPlatform_X6_addPlatform : GoodIn wsL_addPlatform (wsV RL 40 RX6 yX6_addPlatform wsX6_addPlatform) := goodIn_app (goodIn_of _ (by decide +kernel)) ggL_addPlatform_X6_addPlatform
theorem dL_addPlatform_0 : decode cL_addPlatform 0 = .ok (.aload 7, 2) := by decide +kernel
theorem dL_addPlatform_2 : decode cL_addPlatform 2 = .ok (.iconst 0, 1) := by decide +kernel
theorem dL_addPlatform_3 : decode cL_addPlatform 3 = .ok (.aload_n 0, 1) := by decide +kernel
theorem dL_addPlatform_4 : decode cL_addPlatform 4 = .ok (.iload_n 1, 1) := by decide +kernel
theorem dL_addPlatform_5 : decode cL_addPlatform 5 = .ok (.iload_n 2, 1) := by decide +kernel
theorem dL_addPlatform_6 : decode cL_addPlatform 6 = .ok (.iload_n 3, 1) := by decide +kernel
theorem dL_addPlatform_7 : decode cL_addPlatform 7 = .ok (.iload 4, 2) := by decide +kernel
theorem dL_addPlatform_9 : decode cL_addPlatform 9 = .ok (.iload 5, 2) := by decide +kernel
theorem dL_addPlatform_11 : decode cL_addPlatform 11 = .ok (.iload 6, 2) := by decide +kernel
theorem dL_addPlatform_13 : decode cL_addPlatform 13 = .ok (.invokevirtual 40, 3) := by decide +kernel
theorem dL_addPlatform_16 : decode cL_addPlatform 16 = .ok (.i2l, 1) := by decide +kernel
theorem dL_addPlatform_17 : decode cL_addPlatform 17 = .ok (.lastore, 1) := by decide +kernel
theorem dL_addPlatform_18 : decode cL_addPlatform 18 = .ok (.goto 11, 3) := by decide +kernel
theorem dL_addPlatform_21 : decode cL_addPlatform 21 = .ok (.astore 8, 2) := by decide +kernel
theorem dL_addPlatform_23 : decode cL_addPlatform 23 = .ok (.iconst 1, 1) := by decide +kernel
theorem dL_addPlatform_24 : decode cL_addPlatform 24 = .ok (.ireturn, 1) := by decide +kernel
theorem dL_addPlatform_25 : decode cL_addPlatform 25 = .ok (.astore 8, 2) := by decide +kernel
theorem dL_addPlatform_27 : decode cL_addPlatform 27 = .ok (.iconst 2, 1) := by decide +kernel
theorem dL_addPlatform_28 : decode cL_addPlatform 28 = .ok (.ireturn, 1) := by decide +kernel
theorem dL_addPlatform_29 : decode cL_addPlatform 29 = .ok (.iconst 0, 1) := by decide +kernel
theorem dL_addPlatform_30 : decode cL_addPlatform 30 = .ok (.ireturn, 1) := by decide +kernel
set_option maxRecDepth 20000 in
theorem ggL_removePlatform_X6_removePlatform : GoodIn wsL_removePlatform wsX6_removePlatform := goodIn_ca (goodIn_r _ [6, 7, 8, 9, 10, 11, 12, 5, 13, 14, 15, 16, 17, 18, 19, 20, 21, 22, 23, 24, 25, 26, 27, 28, 29, 30, 31, 32, 33, 34, 35, 36, 37, 38, 39, 40, 41, 42, 43, 44, 45, 46, 47, 48, 49, 50, 51, 52, 53, 54, 55, 56, 57, 58, 59, 60, 61, 62, 63, 64, 65, 66, 67, 68, 69, 70, 71, 72, 73] (by decide +kernel) (by decide +kernel)) (goodIn_sub (fun _ h => List.mem_cons_of_mem _ (List.mem_append_right _ h)) (by decide +kernel))
set_option maxRecDepth 20000 in
theorem gL_removePlatform_X6_removePlatform : GoodIn wsL_removePlatform (wsV RL 44 RX6 yX6_removePlatform wsX6_removePlatform) := goodIn_app (goodIn_of _ (by decide +kernel)) ggL_removePlatform_X6_removePlatform
theorem dL_removePlatform_0 : decode cL_removePlatform 0 = .ok (.aload_n 2, 1) := by decide +kernel
theorem dL_removePlatform_1 : decode cL_removePlatform 1 = .ok (.iconst 0, 1) := by decide +kernel
theorem dL_removePlatform_2 : decode cL_removePlatform 2 = .ok (.aload_n 0, 1) := by decide +kernel
theorem dL_removePlatform_3 : decode cL_removePlatform 3 = .ok (.iload_n 1, 1) := by decide +kernel
theorem dL_removePlatform_4 : decode cL_removePlatform 4 = .ok (.invokevirtual 44, 3) := by decide +kernel
theorem dL_removePlatform_7 : decode cL_removePlatform 7 = .ok (.i2l, 1) := by decide +kernel
theorem dL_removePlatform_8 : decode cL_removePlatform 8 = .ok (.lastore, 1) := by decide +kernel
theorem dL_removePlatform_9 : decode cL_removePlatform 9 = .ok (.goto 6, 3) := by decide +kernel
theorem dL_removePlatform_12 : decode cL_removePlatform 12 = .ok (.astore_n 3, 1) := by decide +kernel
theorem dL_removePlatform_13 : decode cL_removePlatform 13 = .ok (.iconst 1, 1) := by decide +kernel
theorem dL_removePlatform_14 : decode cL_removePlatform 14 = .ok (.ireturn, 1) := by decide +kernel
theorem dL_removePlatform_15 : decode cL_removePlatform 15 = .ok (.iconst 0, 1) := by decide +kernel
theorem dL_removePlatform_16 : decode cL_removePlatform 16 = .ok (.ireturn, 1) := by decide +kernel
set_option maxRecDepth 20000 in
theorem ggL_platform_X6_platform : GoodIn wsL_platform wsX6_platform := goodIn_ca (goodIn_ca (goodIn_r _ [7, 8, 9, 10, 11, 12, 6, 13, 14, 15, 16, 17, 18, 19, 20, 21, 22, 23, 24, 25, 26, 27, 28, 29, 30, 31, 32, 33, 34, 35, 36, 37, 38, 39, 40, 41, 42, 43, 44, 45, 46, 47, 48, 49, 50, 51, 52, 53, 54, 55, 56, 57, 58] (by decide +kernel) (by decide +kernel)) (goodIn_sub (fun _ h => List.mem_cons_of_mem _ (List.mem_append_left _ (List.mem_append_right _ h))) (by decide +kernel))) (goodIn_sub (fun _ h => List.mem_cons_of_mem _ (List.mem_append_right _ h)) (by decide +kernel))
set_option maxRecDepth 20000 in
theorem gL_platform_X6_platform : GoodIn wsL_platform (wsV RL 47 RX6 yX6_platform wsX6_platform) := goodIn_app (goodIn_of _ (by decide +kernel)) ggL_platform_X6_platform
theorem dL_platform_0 : decode cL_platform 0 = .ok (.aload_n 3, 1) := by decide +kernel
theorem dL_platform_1 : decode cL_platform 1 = .ok (.iconst 0, 1) := by decide +kernel
theorem dL_platform_2 : decode cL_platform 2 = .ok (.aload_n 0, 1) := by decide +kernel
theorem dL_platform_3 : decode cL_platform 3 = .ok (.iload_n 1, 1) := by decide +kernel
theorem dL_platform_4 : decode cL_platform 4 = .ok (.iload_n 2, 1) := by decide +kernel
theorem dL_platform_5 : decode cL_platform 5 = .ok (.invokevirtual 47, 3) := by decide +kernel
theorem dL_platform_8 : decode cL_platform 8 = .ok (.i2l, 1) := by decide +kernel
theorem dL_platform_9 : decode cL_platform 9 = .ok (.lastore, 1) := by decide +kernel
theorem dL_platform_10 : decode cL_platform 10 = .ok (.goto 11, 3) := by decide +kernel
theorem dL_platform_13 : decode cL_platform 13 = .ok (.astore 4, 2) := by decide +kernel
theorem dL_platform_15 : decode cL_platform 15 = .ok (.iconst 1, 1) := by decide +kernel
theorem dL_platform_16 : decode cL_platform 16 = .ok (.ireturn, 1) := by decide +kernel
theorem dL_platform_17 : decode cL_platform 17 = .ok (.astore 4, 2) := by decide +kernel
theorem dL_platform_19 : decode cL_platform 19 = .ok (.iconst 2, 1) := by decide +kernel
theorem dL_platform_20 : decode cL_platform 20 = .ok (.ireturn, 1) := by decide +kernel
theorem dL_platform_21 : decode cL_platform 21 = .ok (.iconst 0, 1) := by decide +kernel
theorem dL_platform_22 : decode cL_platform 22 = .ok (.ireturn, 1) := by decide +kernel
set_option maxRecDepth 20000 in
theorem ggL_count_X6_count : GoodIn wsL_count wsX6_count := goodIn_ca (goodIn_ca (goodIn_r _ [6, 7, 8, 9, 10, 11, 12, 5, 13, 14, 15, 16, 17, 18, 19, 20, 21, 22, 23, 24, 25, 26, 27, 28, 29, 30, 31, 32, 33, 34, 35, 36, 37, 38, 39, 40, 41] (by decide +kernel) (by decide +kernel)) (goodIn_sub (fun _ h => List.mem_cons_of_mem _ (List.mem_append_right _ h)) (by decide +kernel))) (goodIn_sub (fun _ h => List.mem_cons_of_mem _ (List.mem_append_left _ (List.mem_append_right _ h))) (by decide +kernel))
set_option maxRecDepth 20000 in
theorem gL_count_X6_count : GoodIn wsL_count (wsV RL 50 RX6 yX6_count wsX6_count) := goodIn_app (goodIn_of _ (by decide +kernel)) ggL_count_X6_count
theorem dL_count_0 : decode cL_count 0 = .ok (.aload_n 2, 1) := by decide +kernel
theorem dL_count_1 : decode cL_count 1 = .ok (.iconst 0, 1) := by decide +kernel
theorem dL_count_2 : decode cL_count 2 = .ok (.aload_n 0, 1) := by decide +kernel
theorem dL_count_3 : decode cL_count 3 = .ok (.iload_n 1, 1) := by decide +kernel
theorem dL_count_4 : decode cL_count 4 = .ok (.invokevirtual 50, 3) := by decide +kernel
theorem dL_count_7 : decode cL_count 7 = .ok (.i2l, 1) := by decide +kernel
theorem dL_count_8 : decode cL_count 8 = .ok (.lastore, 1) := by decide +kernel
theorem dL_count_9 : decode cL_count 9 = .ok (.goto 6, 3) := by decide +kernel
theorem dL_count_12 : decode cL_count 12 = .ok (.astore_n 3, 1) := by decide +kernel
theorem dL_count_13 : decode cL_count 13 = .ok (.iconst 1, 1) := by decide +kernel
theorem dL_count_14 : decode cL_count 14 = .ok (.ireturn, 1) := by decide +kernel
theorem dL_count_15 : decode cL_count 15 = .ok (.iconst 0, 1) := by decide +kernel
theorem dL_count_16 : decode cL_count 16 = .ok (.ireturn, 1) := by decide +kernel
set_option maxRecDepth 20000 in
theorem ggL_set_X6_set : GoodIn wsL_set wsX6_set := goodIn_ca (goodIn_ca (goodIn_ca (goodIn_r _ [7, 8, 9, 10, 11, 12, 13, 14, 6, 15, 16, 17, 18, 19, 20, 21, 22, 23, 24, 25, 26, 27, 28, 29] (by decide +kernel) (by decide +kernel)) (goodIn_sub (fun _ h => List.mem_cons_of_mem _ (List.mem_append_left _ (List.mem_append_right _ h))) (by decide +kernel))) (goodIn_sub (fun _ h => List.mem_cons_of_mem _ (List.mem_append_left _ (List.mem_append_left _ (List.mem_append_right _ h)))) (by decide +kernel))) (goodIn_sub (fun _ h => List.mem_cons_of_mem _ (List.mem_append_right _ h)) (by decide +kernel))
set_option maxRecDepth 20000 in
theorem gL_set_X6_set : GoodIn wsL_set (wsV RL 53 RX6 yX6_set wsX6_set) := goodIn_app (goodIn_of _ (by decide +kernel)) ggL_set_X6_set
theorem dL_set_0 : decode cL_set 0 = .ok (.aload_n 3, 1) := by decide +kernel
theorem dL_set_1 : decode cL_set 1 = .ok (.iconst 0, 1) := by decide +kernel
theorem dL_set_2 : decode cL_set 2 = .ok (.aload_n 0, 1) := by decide +kernel
theorem dL_set_3 : decode cL_set 3 = .ok (.iload_n 1, 1) := by decide +kernel
theorem dL_set_4 : decode cL_set 4 = .ok (.iload_n 2, 1) := by decide +kernel
theorem dL_set_5 : decode cL_set 5 = .ok (.invokevirtual 53, 3) := by decide +kernel
theorem dL_set_8 : decode cL_set 8 = .ok (.i2l, 1) := by decide +kernel
theorem dL_set_9 : decode cL_set 9 = .ok (.lastore, 1) := by decide +kernel
theorem dL_set_10 : decode cL_set 10 = .ok (.goto 11, 3) := by decide +kernel
theorem dL_set_13 : decode cL_set 13 = .ok (.astore 4, 2) := by decide +kernel
theorem dL_set_15 : decode cL_set 15 = .ok (.iconst 1, 1) := by decide +kernel
theorem dL_set_16 : decode cL_set 16 = .ok (.ireturn, 1) := by decide +kernel
theorem dL_set_17 : decode cL_set 17 = .ok (.astore 4, 2) := by decide +kernel
theorem dL_set_19 : decode cL_set 19 = .ok (.iconst 2, 1) := by decide +kernel
theorem dL_set_20 : decode cL_set 20 = .ok (.ireturn, 1) := by decide +kernel
theorem dL_set_21 : decode cL_set 21 = .ok (.iconst 0, 1) := by decide +kernel
theorem dL_set_22 : decode cL_set 22 = .ok (.ireturn, 1) := by decide +kernel
set_option maxRecDepth 20000 in
theorem ggL_tick_X6_tick : GoodIn wsL_tick wsX6_tick := goodIn_ca (goodIn_ca (goodIn_r _ [6, 7, 8, 9, 10, 11, 12, 5, 13, 14, 15, 16, 17, 18, 19, 20, 21, 22, 23, 24, 25, 26, 27, 28, 29, 30, 31, 32, 33, 34, 35, 36, 37, 38, 39, 40, 41, 42, 43, 44, 45, 46, 47, 48, 49, 50, 51, 52, 53, 54, 55, 56, 57, 58, 59, 60, 61, 62, 63, 64, 65, 66, 67, 68, 69, 70, 71, 72, 73, 74, 75, 76, 77, 78, 79, 80, 81, 82, 83, 84, 85, 86, 87, 88, 89, 90, 91, 92, 93, 94, 95, 96, 97, 98, 99, 100, 101, 102, 103, 104, 105, 106, 107, 108, 109, 110, 111, 112, 113, 114, 115, 116, 117, 118, 119, 120, 121, 122, 123, 124, 125, 126, 127, 128, 129, 130, 131, 132, 133, 134, 135, 136, 137, 138, 139, 140, 141, 142, 143, 144, 145, 146, 147, 148, 149, 150, 151, 152, 153, 154, 155, 156, 157, 158, 159, 160, 161, 162, 163, 164, 165, 166, 167, 168, 169, 170, 171, 172, 173, 174, 175, 176, 177, 178, 179, 180, 181, 182, 183, 184, 185, 186, 187, 188, 189, 190, 191, 192, 193, 194, 195, 196, 197, 198, 199, 200, 201, 202, 203, 204, 205, 206, 207, 208, 209, 210, 211, 212, 213, 214, 215, 216, 217, 218, 219, 220, 221, 222, 223, 224, 225, 226, 227, 228, 229, 230, 231, 232, 233, 234, 235, 236, 237, 238, 239, 240, 241, 242, 243, 244, 245, 246, 247, 248, 249, 250, 251, 252, 253, 254, 255, 256, 257, 258, 259, 260, 261, 262, 263, 264, 265, 266, 267, 268, 269, 270, 271, 272, 273, 274, 275, 276, 277, 278, 279, 280, 281, 282, 283, 284, 285, 286, 287, 288, 289, 290, 291, 292, 293, 294, 295, 296, 297, 298, 299, 300, 301, 302, 303, 304, 305, 306, 307, 308, 309, 310, 311, 312, 313, 314, 315, 316, 317, 318, 319, 320, 321, 322, 323, 324, 325, 326, 327, 328, 329, 330, 331, 332, 333, 334, 335, 336, 337, 338, 339] (by decide +kernel) (by decide +kernel)) (goodIn_sub (fun _ h => List.mem_cons_of_mem _ (List.mem_append_right _ h)) (by decide +kernel))) (goodIn_sub (fun _ h => List.mem_cons_of_mem _ (List.mem_append_left _ (List.mem_append_right _ h))) (by decide +kernel))
set_option maxRecDepth 20000 in
theorem gL_tick_X6_tick : GoodIn wsL_tick (wsV RL 56 RX6 yX6_tick wsX6_tick) := goodIn_app (goodIn_of _ (by decide +kernel)) ggL_tick_X6_tick
theorem dL_tick_0 : decode cL_tick 0 = .ok (.aload_n 2, 1) := by decide +kernel
theorem dL_tick_1 : decode cL_tick 1 = .ok (.iconst 0, 1) := by decide +kernel
theorem dL_tick_2 : decode cL_tick 2 = .ok (.aload_n 0, 1) := by decide +kernel
theorem dL_tick_3 : decode cL_tick 3 = .ok (.iload_n 1, 1) := by decide +kernel
theorem dL_tick_4 : decode cL_tick 4 = .ok (.invokevirtual 56, 3) := by decide +kernel
theorem dL_tick_7 : decode cL_tick 7 = .ok (.i2l, 1) := by decide +kernel
theorem dL_tick_8 : decode cL_tick 8 = .ok (.lastore, 1) := by decide +kernel
theorem dL_tick_9 : decode cL_tick 9 = .ok (.goto 6, 3) := by decide +kernel
theorem dL_tick_12 : decode cL_tick 12 = .ok (.astore_n 3, 1) := by decide +kernel
theorem dL_tick_13 : decode cL_tick 13 = .ok (.iconst 1, 1) := by decide +kernel
theorem dL_tick_14 : decode cL_tick 14 = .ok (.ireturn, 1) := by decide +kernel
theorem dL_tick_15 : decode cL_tick 15 = .ok (.iconst 0, 1) := by decide +kernel
theorem dL_tick_16 : decode cL_tick 16 = .ok (.ireturn, 1) := by decide +kernel
set_option maxRecDepth 20000 in
theorem ggL_tickUntilStanding_X6_tickUntilStanding : GoodIn wsL_tickUntilStanding wsX6_tickUntilStanding := goodIn_ca (goodIn_ca (goodIn_ca (goodIn_ca (goodIn_r _ [8, 9, 10, 11, 12, 13, 14, 15, 16, 17, 7, 18, 19, 20, 21, 22, 23, 24, 25, 26, 27, 28, 29, 30, 31, 32, 33, 34, 35, 36, 37, 38, 39, 40, 41, 42, 43, 44, 45, 46, 47, 48, 49, 50, 51, 52, 53, 54, 55, 56, 57, 58, 59, 60, 61, 62, 63, 64, 65, 66, 67, 68, 69, 70, 71, 72, 73, 74, 75, 76, 77, 78, 79, 80, 81, 82, 83, 84, 85, 86, 87, 88, 89, 90, 91, 92, 93, 94, 95, 96, 97, 98, 99, 100, 101, 102, 103, 104, 105, 106, 107, 108, 109, 110, 111, 112, 113, 114, 115, 116, 117, 118, 119, 120, 121, 122, 123, 124, 125, 126, 127, 128, 129, 130, 131, 132, 133, 134, 135, 136, 137, 138, 139, 140, 141, 142, 143, 144, 145, 146, 147, 148, 149, 150, 151, 152, 153, 154, 155, 156, 157, 158, 159, 160, 161, 162, 163, 164, 165, 166, 167, 168, 169, 170, 171, 172, 173, 174, 175, 176, 177, 178, 179, 180, 181, 182, 183, 184, 185, 186, 187, 188, 189, 190, 191, 192, 193, 194, 195, 196, 197, 198, 199, 200, 201, 202, 203, 204, 205, 206, 207, 208, 209, 210, 211, 212, 213, 214, 215, 216, 217, 218, 219, 220, 221, 222, 223, 224, 225, 226, 227, 228, 229, 230, 231, 232, 233, 234, 235, 236, 237, 238, 239, 240, 241, 242, 243, 244, 245, 246, 247, 248, 249, 250, 251, 252, 253, 254, 255, 256, 257, 258, 259, 260, 261, 262, 263, 264, 265, 266, 267, 268, 269, 270, 271, 272, 273, 274, 275, 276, 277, 278, 279, 280, 281, 282, 283, 284, 285, 286, 287, 288, 289, 290, 291, 292, 293, 294, 295, 296, 297, 298, 299, 300, 301, 302, 303, 304, 305, 306, 307, 308, 309, 310, 311, 312, 313, 314, 315, 316, 317, 318, 319, 320, 321, 322, 323, 324, 325, 326, 327, 328, 329, 330, 331, 332, 333, 334, 335, 336, 337, 338, 339, 340, 341, 342, 343, 344, 345, 346, 347, 348, 349, 350, 351] (by decide +kernel) (by decide +kernel)) (goodIn_sub (fun _ h => List.mem_cons_of_mem _ (List.mem_append_left _ (List.mem_append_left _ (List.mem_append_right _ h)))) (by decide +kernel))) (goodIn_sub (fun _ h => List.mem_cons_of_mem _ (List.mem_append_left _ (List.mem_append_right _ h))) (by decide +kernel))) (goodIn_sub (fun _ h => List.mem_cons_of_mem _ (List.mem_append_right _ h)) (by decide +kernel))) (goodIn_sub (fun _ h => List.mem_cons_of_mem _ (List.mem_append_left _ (List.mem_append_left _ (List.mem_append_left _ (List.mem_append_right _ h))))) (by decide +kernel))
set_option maxRecDepth 20000 in
theorem gL_tickUntilStanding_X6_tickUntilStanding : GoodIn wsL_tickUntilStanding (wsV RL 59 RX6 yX6_tickUntilStanding wsX6_tickUntilStanding) := goodIn_app (goodIn_of _ (by decide +kernel)) ggL_tickUntilStanding_X6_tickUntilStanding
theorem dL_tickUntilStanding_0 : decode cL_tickUntilStanding 0 = .ok (.aload_n 3, 1) := by decide +kernel
theorem dL_tickUntilStanding_1 : decode cL_tickUntilStanding 1 = .ok (.iconst 0, 1) := by decide +kernel
theorem dL_tickUntilStanding_2 : decode cL_tickUntilStanding 2 = .ok (.aload_n 0, 1) := by decide +kernel
theorem dL_tickUntilStanding_3 : decode cL_tickUntilStanding 3 = .ok (.iload_n 1, 1) := by decide +kernel
theorem dL_tickUntilStanding_4 : decode cL_tickUntilStanding 4 = .ok (.iload_n 2, 1) := by decide +kernel
theorem dL_tickUntilStanding_5 : decode cL_tickUntilStanding 5 = .ok (.invokevirtual 59, 3) := by decide +kernel
theorem dL_tickUntilStanding_8 : decode cL_tickUntilStanding 8 = .ok (.i2l, 1) := by decide +kernel
theorem dL_tickUntilStanding_9 : decode cL_tickUntilStanding 9 = .ok (.lastore, 1) := by decide +kernel
theorem dL_tickUntilStanding_10 : decode cL_tickUntilStanding 10 = .ok (.goto 15, 3) := by decide +kernel
theorem dL_tickUntilStanding_13 : decode cL_tickUntilStanding 13 = .ok (.astore 4, 2) := by decide +kernel
theorem dL_tickUntilStanding_15 : decode cL_tickUntilStanding 15 = .ok (.iconst 1, 1) := by decide +kernel
theorem dL_tickUntilStanding_16 : decode cL_tickUntilStanding 16 = .ok (.ireturn, 1) := by decide +kernel
theorem dL_tickUntilStanding_17 : decode cL_tickUntilStanding 17 = .ok (.astore 4, 2) := by decide +kernel
theorem dL_tickUntilStanding_19 : decode cL_tickUntilStanding 19 = .ok (.iconst 2, 1) := by decide +kernel
theorem dL_tickUntilStanding_20 : decode cL_tickUntilStanding 20 = .ok (.ireturn, 1) := by decide +kernel
theorem dL_tickUntilStanding_21 : decode cL_tickUntilStanding 21 = .ok (.astore 4, 2) := by decide +kernel
theorem dL_tickUntilStanding_23 : decode cL_tickUntilStanding 23 = .ok (.iconst 3, 1) := by decide +kernel
theorem dL_tickUntilStanding_24 : decode cL_tickUntilStanding 24 = .ok (.ireturn, 1) := by decide +kernel
theorem dL_tickUntilStanding_25 : decode cL_tickUntilStanding 25 = .ok (.iconst 0, 1) := by decide +kernel
theorem dL_tickUntilStanding_26 : decode cL_tickUntilStanding 26 = .ok (.ireturn, 1) := by decide +kernel
set_option maxRecDepth 20000 in
theorem ggL_undo_X6_undo : GoodIn wsL_undo wsX6_undo := goodIn_ca (goodIn_r _ [6, 7, 8, 9, 10, 11, 12, 13, 14, 15, 16, 17, 18, 19, 20, 21, 22, 23, 24, 25, 26, 27, 28, 29, 30, 31, 32, 33, 34, 35, 36, 37, 38, 39, 40, 41, 42, 43, 44, 45, 46, 47, 48, 49, 50, 51, 52, 53, 54, 55, 56, 57, 58, 59, 60, 61, 62, 63, 64, 65, 66, 67, 68, 69, 70, 71, 72, 73, 74, 75, 76, 77, 78, 79, 80, 81, 82, 83, 84, 85, 86, 87, 88, 89, 90, 91, 92, 93, 94, 95, 96, 97, 98, 99, 100, 101, 102, 103, 104, 105, 106, 107, 108, 109, 110, 111, 112, 113, 114, 115, 116, 117, 118, 119, 120, 121, 122] (by decide +kernel) (by decide +kernel)) (goodIn_sub (fun _ h => List.mem_cons_of_mem _ (List.mem_append_right _ h)) (by decide +kernel))
set_option maxRecDepth 20000 in
theorem gL_undo_X6_undo : GoodIn wsL_undo (wsV RL 64 RX6 yX6_undo wsX6_undo) := goodIn_app (goodIn_of _ (by decide +kernel)) ggL_undo_X6_undo
theorem dL_undo_0 : decode cL_undo 0 = .ok (.aload_n 1, 1) := by decide +kernel
theorem dL_undo_1 : decode cL_undo 1 = .ok (.iconst 0, 1) := by decide +kernel
theorem dL_undo_2 : decode cL_undo 2 = .ok (.aload_n 0, 1) := by decide +kernel
theorem dL_undo_3 : decode cL_undo 3 = .ok (.invokevirtual 64, 3) := by decide +kernel
theorem dL_undo_6 : decode cL_undo 6 = .ok (.i2l, 1) := by decide +kernel
theorem dL_undo_7 : decode cL_undo 7 = .ok (.lastore, 1) := by decide +kernel
theorem dL_undo_8 : decode cL_undo 8 = .ok (.goto 6, 3) := by decide +kernel
theorem dL_undo_11 : decode cL_undo 11 = .ok (.astore_n 2, 1) := by decide +kernel
theorem dL_undo_12 : decode cL_undo 12 = .ok (.iconst 1, 1) := by decide +kernel
theorem dL_undo_13 : decode cL_undo 13 = .ok (.ireturn, 1) := by decide +kernel
theorem dL_undo_14 : decode cL_undo 14 = .ok (.iconst 0, 1) := by decide +kernel
theorem dL_undo_15 : decode cL_undo 15 = .ok (.ireturn, 1) := by decide +kernel
set_option maxRecDepth 20000 in
theorem ggL_support_X6_support : GoodIn wsL_support wsX6_support := goodIn_ca (goodIn_ca (goodIn_r _ [6, 7, 8, 9, 10, 11, 12, 13, 5, 14, 15, 16, 17, 18, 19, 20, 21, 22, 23, 24, 25, 26, 27, 28, 29, 30, 31, 32, 33, 34, 35, 36, 37, 38, 39, 40, 41, 42, 43, 44, 45, 46, 47, 48, 49, 50, 51, 52, 53, 54, 55, 56, 57, 58, 59, 60, 61, 62, 63, 64, 65, 66, 67, 68, 69, 70, 71, 72, 73, 74, 75, 76, 77, 78, 79, 80, 81, 82, 83, 84, 85, 86, 87, 88, 89, 90, 91, 92, 93, 94, 95, 96, 97, 98, 99, 100, 101, 102, 103, 104, 105, 106, 107, 108, 109, 110, 111, 112, 113, 114, 115, 116, 117, 118, 119] (by decide +kernel) (by decide +kernel)) (goodIn_sub (fun _ h => List.mem_cons_of_mem _ (List.mem_append_right _ h)) (by decide +kernel))) (goodIn_sub (fun _ h => List.mem_cons_of_mem _ (List.mem_append_left _ (List.mem_append_right _ h))) (by decide +kernel))
set_option maxRecDepth 20000 in
theorem gL_support_X6_support : GoodIn wsL_support (wsV RL 68 RX6 yX6_support wsX6_support) := goodIn_app (goodIn_of _ (by decide +kernel)) ggL_support_X6_support
theorem dL_support_0 : decode cL_support 0 = .ok (.aload_n 2, 1) := by decide +kernel
theorem dL_support_1 : decode cL_support 1 = .ok (.iconst 0, 1) := by decide +kernel
theorem dL_support_2 : decode cL_support 2 = .ok (.aload_n 0, 1) := by decide +kernel
theorem dL_support_3 : decode cL_support 3 = .ok (.iload_n 1, 1) := by decide +kernel
theorem dL_support_4 : decode cL_support 4 = .ok (.invokevirtual 68, 3) := by decide +kernel
theorem dL_support_7 : decode cL_support 7 = .ok (.i2l, 1) := by decide +kernel
theorem dL_support_8 : decode cL_support 8 = .ok (.lastore, 1) := by decide +kernel
theorem dL_support_9 : decode cL_support 9 = .ok (.goto 6, 3) := by decide +kernel
theorem dL_support_12 : decode cL_support 12 = .ok (.astore_n 3, 1) := by decide +kernel
theorem dL_support_13 : decode cL_support 13 = .ok (.iconst 1, 1) := by decide +kernel
theorem dL_support_14 : decode cL_support 14 = .ok (.ireturn, 1) := by decide +kernel
theorem dL_support_15 : decode cL_support 15 = .ok (.iconst 0, 1) := by decide +kernel
theorem dL_support_16 : decode cL_support 16 = .ok (.ireturn, 1) := by decide +kernel
set_option maxRecDepth 20000 in
theorem ggL_stands_X6_stands : GoodIn wsL_stands wsX6_stands := goodIn_ca (goodIn_ca (goodIn_r _ [6, 7, 8, 9, 10, 11, 5, 12, 13, 14, 15, 16, 17, 18, 19, 20, 21, 22, 23, 24, 25, 26, 27, 28, 29, 30, 31, 32, 33, 34, 35, 36, 37, 38, 39, 40, 41, 42, 43, 44, 45, 46, 47, 48, 49, 50, 51, 52, 53, 54, 55, 56, 57, 58, 59, 60, 61, 62, 63, 64, 65, 66, 67, 68, 69, 70, 71, 72, 73, 74, 75, 76, 77, 78, 79, 80, 81, 82, 83, 84, 85, 86, 87, 88, 89, 90, 91, 92, 93, 94, 95, 96, 97, 98, 99, 100, 101, 102, 103, 104, 105, 106, 107, 108, 109, 110, 111, 112, 113, 114, 115, 116, 117, 118, 119, 120, 121, 122, 123, 124] (by decide +kernel) (by decide +kernel)) (goodIn_sub (fun _ h => List.mem_cons_of_mem _ (List.mem_append_right _ h)) (by decide +kernel))) (goodIn_sub (fun _ h => List.mem_cons_of_mem _ (List.mem_append_left _ (List.mem_append_right _ h))) (by decide +kernel))
set_option maxRecDepth 20000 in
theorem gL_stands_X6_stands : GoodIn wsL_stands (wsV RL 71 RX6 yX6_stands wsX6_stands) := goodIn_app (goodIn_of _ (by decide +kernel)) ggL_stands_X6_stands
theorem dL_stands_0 : decode cL_stands 0 = .ok (.aload_n 2, 1) := by decide +kernel
theorem dL_stands_1 : decode cL_stands 1 = .ok (.iconst 0, 1) := by decide +kernel
theorem dL_stands_2 : decode cL_stands 2 = .ok (.aload_n 0, 1) := by decide +kernel
theorem dL_stands_3 : decode cL_stands 3 = .ok (.iload_n 1, 1) := by decide +kernel
theorem dL_stands_4 : decode cL_stands 4 = .ok (.invokevirtual 71, 3) := by decide +kernel
theorem dL_stands_7 : decode cL_stands 7 = .ok (.ifCond .eq 7, 3) := by decide +kernel
theorem dL_stands_10 : decode cL_stands 10 = .ok (.lconst 1, 1) := by decide +kernel
theorem dL_stands_11 : decode cL_stands 11 = .ok (.goto 4, 3) := by decide +kernel
theorem dL_stands_14 : decode cL_stands 14 = .ok (.lconst 0, 1) := by decide +kernel
theorem dL_stands_15 : decode cL_stands 15 = .ok (.lastore, 1) := by decide +kernel
theorem dL_stands_16 : decode cL_stands 16 = .ok (.goto 6, 3) := by decide +kernel
theorem dL_stands_19 : decode cL_stands 19 = .ok (.astore_n 3, 1) := by decide +kernel
theorem dL_stands_20 : decode cL_stands 20 = .ok (.iconst 1, 1) := by decide +kernel
theorem dL_stands_21 : decode cL_stands 21 = .ok (.ireturn, 1) := by decide +kernel
theorem dL_stands_22 : decode cL_stands 22 = .ok (.iconst 0, 1) := by decide +kernel
theorem dL_stands_23 : decode cL_stands 23 = .ok (.ireturn, 1) := by decide +kernel
set_option maxRecDepth 20000 in
theorem ggL_below_X6_below : GoodIn wsL_below wsX6_below := goodIn_ca (goodIn_ca (goodIn_r _ [6, 7, 8, 9, 10, 11, 12, 13, 14, 5, 15, 16, 17, 18, 19, 20, 21, 22, 23, 24, 25, 26, 27, 28, 29, 30, 31, 32, 33, 34, 35, 36, 37, 38, 39, 40, 41, 42, 43, 44, 45, 46, 47, 48, 49, 50, 51, 52, 53, 54, 55, 56, 57, 58, 59, 60, 61, 62, 63, 64, 65, 66, 67, 68, 69, 70, 71, 72, 73, 74, 75, 76, 77, 78, 79, 80, 81] (by decide +kernel) (by decide +kernel)) (goodIn_sub (fun _ h => List.mem_cons_of_mem _ (List.mem_append_right _ h)) (by decide +kernel))) (goodIn_sub (fun _ h => List.mem_cons_of_mem _ (List.mem_append_left _ (List.mem_append_right _ h))) (by decide +kernel))
set_option maxRecDepth 20000 in
theorem gL_below_X6_below : GoodIn wsL_below (wsV RL 75 RX6 yX6_below wsX6_below) := goodIn_app (goodIn_of _ (by decide +kernel)) ggL_below_X6_below
theorem dL_below_0 : decode cL_below 0 = .ok (.aload_n 2, 1) := by decide +kernel
theorem dL_below_1 : decode cL_below 1 = .ok (.iconst 0, 1) := by decide +kernel
theorem dL_below_2 : decode cL_below 2 = .ok (.aload_n 0, 1) := by decide +kernel
theorem dL_below_3 : decode cL_below 3 = .ok (.iload_n 1, 1) := by decide +kernel
theorem dL_below_4 : decode cL_below 4 = .ok (.invokevirtual 75, 3) := by decide +kernel
theorem dL_below_7 : decode cL_below 7 = .ok (.i2l, 1) := by decide +kernel
theorem dL_below_8 : decode cL_below 8 = .ok (.lastore, 1) := by decide +kernel
theorem dL_below_9 : decode cL_below 9 = .ok (.goto 6, 3) := by decide +kernel
theorem dL_below_12 : decode cL_below 12 = .ok (.astore_n 3, 1) := by decide +kernel
theorem dL_below_13 : decode cL_below 13 = .ok (.iconst 1, 1) := by decide +kernel
theorem dL_below_14 : decode cL_below 14 = .ok (.ireturn, 1) := by decide +kernel
theorem dL_below_15 : decode cL_below 15 = .ok (.iconst 0, 1) := by decide +kernel
theorem dL_below_16 : decode cL_below 16 = .ok (.ireturn, 1) := by decide +kernel
set_option maxRecDepth 20000 in
theorem ggL_isBlocked_X6_isBlocked : GoodIn wsL_isBlocked wsX6_isBlocked := goodIn_ca (goodIn_ca (goodIn_ca (goodIn_r _ [7, 8, 9, 10, 11, 12, 13, 14, 15, 6, 16, 17, 18, 19, 20, 21, 22, 23, 24, 25, 26, 27, 28, 29, 30, 31, 32, 33, 34, 35, 36, 37, 38, 39, 40, 41, 42, 43, 44, 45, 46, 47, 48, 49, 50, 51, 52, 53, 54, 55, 56, 57, 58, 59, 60, 61, 62, 63, 64, 65, 66, 67, 68, 69, 70, 71, 72, 73, 74, 75, 76, 77, 78, 79, 80, 81, 82, 83, 84, 85, 86, 87, 88, 89, 90, 91, 92] (by decide +kernel) (by decide +kernel)) (goodIn_sub (fun _ h => List.mem_cons_of_mem _ (List.mem_append_left _ (List.mem_append_right _ h))) (by decide +kernel))) (goodIn_sub (fun _ h => List.mem_cons_of_mem _ (List.mem_append_right _ h)) (by decide +kernel))) (goodIn_sub (fun _ h => List.mem_cons_of_mem _ (List.mem_append_left _ (List.mem_append_left _ (List.mem_append_right _ h)))) (by decide +kernel))
set_option maxRecDepth 20000 in
theorem gL_isBlocked_X6_isBlocked : GoodIn wsL_isBlocked (wsV RL 78 RX6 yX6_isBlocked wsX6_isBlocked) := goodIn_app (goodIn_of _ (by decide +kernel)) ggL_isBlocked_X6_isBlocked
