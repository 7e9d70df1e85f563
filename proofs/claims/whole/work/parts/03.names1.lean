theorem inlX0 : ∀ w ∈ wsX00, w ∈ wsL_law := fun _ h => List.mem_append_left _ (List.mem_append_left _ (List.mem_append_left _ (List.mem_append_left _ (List.mem_append_left _ (List.mem_append_left _ (List.mem_append_left _ (List.mem_append_left _ (List.mem_append_left _ (List.mem_append_left _ (List.mem_append_right _ h))))))))))
theorem inlX1 : ∀ w ∈ wsX10, w ∈ wsL_law := fun _ h => List.mem_append_left _ (List.mem_append_left _ (List.mem_append_left _ (List.mem_append_left _ (List.mem_append_left _ (List.mem_append_left _ (List.mem_append_left _ (List.mem_append_left _ (List.mem_append_left _ (List.mem_append_left _ (List.mem_append_left _ (List.mem_append_left _ (List.mem_append_left _ (List.mem_append_right _ h)))))))))))))
theorem inlX2 : ∀ w ∈ wsX20, w ∈ wsL_law := fun _ h => List.mem_append_left _ (List.mem_append_left _ (List.mem_append_left _ (List.mem_append_left _ (List.mem_append_left _ (List.mem_append_left _ (List.mem_append_left _ (List.mem_append_left _ (List.mem_append_left _ (List.mem_append_right _ h)))))))))
theorem inlX3 : ∀ w ∈ wsX30, w ∈ wsL_law := fun _ h => List.mem_append_left _ (List.mem_append_left _ (List.mem_append_left _ (List.mem_append_left _ (List.mem_append_left _ (List.mem_append_left _ (List.mem_append_left _ (List.mem_append_left _ (List.mem_append_left _ (List.mem_append_left _ (List.mem_append_left _ (List.mem_append_left _ (List.mem_append_right _ h))))))))))))
theorem inlX4 : ∀ w ∈ wsX40, w ∈ wsL_law := fun _ h => List.mem_append_left _ (List.mem_append_left _ (List.mem_append_left _ (List.mem_append_left _ (List.mem_append_left _ (List.mem_append_left _ (List.mem_append_left _ (List.mem_append_left _ (List.mem_append_left _ (List.mem_append_left _ (List.mem_append_left _ (List.mem_append_right _ h)))))))))))
theorem inlX5 : ∀ w ∈ wsX50, w ∈ wsL_law := fun _ h => List.mem_append_left _ (List.mem_append_left _ (List.mem_append_left _ (List.mem_append_left _ (List.mem_append_left _ (List.mem_append_left _ (List.mem_append_left _ (List.mem_append_left _ (List.mem_append_left _ (List.mem_append_left _ (List.mem_append_left _ (List.mem_append_left _ (List.mem_append_left _ (List.mem_append_left _ (List.mem_append_right _ h))))))))))))))
theorem inlX6 : ∀ w ∈ wsX60, w ∈ wsL_law := fun _ h => List.mem_append_left _ (List.mem_append_left _ (List.mem_append_left _ (List.mem_append_left _ (List.mem_append_left _ (List.mem_append_left _ (List.mem_append_left _ (List.mem_append_left _ (List.mem_append_left _ (List.mem_append_left _ (List.mem_append_left _ (List.mem_append_left _ (List.mem_append_left _ (List.mem_append_left _ (List.mem_append_left _ (List.mem_append_left _ (List.mem_append_right _ h))))))))))))))))
theorem inlX7 : ∀ w ∈ wsX70, w ∈ wsL_law := fun _ h => List.mem_append_left _ (List.mem_append_left _ (List.mem_append_left _ (List.mem_append_left _ (List.mem_append_left _ (List.mem_append_left _ (List.mem_append_left _ (List.mem_append_left _ (List.mem_append_left _ (List.mem_append_left _ (List.mem_append_left _ (List.mem_append_left _ (List.mem_append_left _ (List.mem_append_left _ (List.mem_append_left _ (List.mem_append_right _ h)))))))))))))))
theorem inJx145de : ∀ w ∈ wsJx145de0, w ∈ lw_tbl := by decide +kernel
theorem inJx00060 : ∀ w ∈ wsJx000600, w ∈ lw_tbl := by decide +kernel
theorem inJx9f9b0 : ∀ w ∈ wsJx9f9b00, w ∈ lw_tbl := by decide +kernel
theorem inJx8e188 : ∀ w ∈ wsJx8e1880, w ∈ lw_tbl := by decide +kernel
theorem inJxb160c : ∀ w ∈ wsJxb160c0, w ∈ lw_tbl := by decide +kernel
theorem inJ9 : ∀ w ∈ wsJ90, w ∈ lw_tbl := by decide +kernel
theorem inlJ0 : ∀ w ∈ wsJ00, w ∈ wsL_law := fun _ h => List.mem_append_left _ (List.mem_append_left _ (List.mem_append_left _ (List.mem_append_left _ (List.mem_append_left _ (List.mem_append_left _ (List.mem_append_left _ (List.mem_append_left _ (List.mem_append_right _ h))))))))
theorem inJ1 : ∀ w ∈ wsJ10, w ∈ lw_tbl := by decide +kernel
theorem inJ2 : ∀ w ∈ wsJ20, w ∈ lw_tbl := by decide +kernel
theorem inJ10 : ∀ w ∈ wsJ100, w ∈ lw_tbl := by decide +kernel
theorem inJxfd54e : ∀ w ∈ wsJxfd54e0, w ∈ lw_tbl := by decide +kernel
theorem inJx3cf43 : ∀ w ∈ wsJx3cf430, w ∈ lw_tbl := by decide +kernel
theorem inJ3 : ∀ w ∈ wsJ30, w ∈ lw_tbl := by decide +kernel
theorem dX0_init_0 : decode cX0_init 0 = .ok (.aload_n 0, 1) := by decide +kernel
theorem dX0_init_1 : decode cX0_init 1 = .ok (.invokespecial 3, 3) := by decide +kernel
theorem dX0_init_4 : decode cX0_init 4 = .ok (.aload_n 0, 1) := by decide +kernel
theorem dX0_init_5 : decode cX0_init 5 = .ok (.bipush 7, 2) := by decide +kernel
theorem dX0_init_7 : decode cX0_init 7 = .ok (.newarray .int, 2) := by decide +kernel
theorem dX0_init_9 : decode cX0_init 9 = .ok (.putfield 9, 3) := by decide +kernel
theorem dX0_init_12 : decode cX0_init 12 = .ok (.return_, 1) := by decide +kernel
set_option maxRecDepth 20000 in
theorem ggX0_begin_X0_calmDown : GoodIn wsX0_begin wsX0_calmDown := goodIn_r _ [15, 16, 17, 18, 19, 20, 21, 22, 23, 24, 25, 26, 27, 28, 29, 30, 31, 32, 33, 34, 35, 36, 37] (by decide +kernel) (by decide +kernel)
set_option maxRecDepth 20000 in
theorem gX0_begin_X0_calmDown : GoodIn wsX0_begin (wsV RX0 43 RX0 yX0_calmDown wsX0_calmDown) := goodIn_app (goodIn_of _ (by decide +kernel)) ggX0_begin_X0_calmDown
theorem dX0_begin_0 : decode cX0_begin 0 = .ok (.aload_n 0, 1) := by decide +kernel
theorem dX0_begin_1 : decode cX0_begin 1 = .ok (.iload_n 1, 1) := by decide +kernel
theorem dX0_begin_2 : decode cX0_begin 2 = .ok (.putfield 15, 3) := by decide +kernel
theorem dX0_begin_5 : decode cX0_begin 5 = .ok (.aload_n 0, 1) := by decide +kernel
theorem dX0_begin_6 : decode cX0_begin 6 = .ok (.iload_n 2, 1) := by decide +kernel
theorem dX0_begin_7 : decode cX0_begin 7 = .ok (.putfield 19, 3) := by decide +kernel
theorem dX0_begin_10 : decode cX0_begin 10 = .ok (.aload_n 0, 1) := by decide +kernel
theorem dX0_begin_11 : decode cX0_begin 11 = .ok (.iload_n 1, 1) := by decide +kernel
theorem dX0_begin_12 : decode cX0_begin 12 = .ok (.putfield 22, 3) := by decide +kernel
theorem dX0_begin_15 : decode cX0_begin 15 = .ok (.aload_n 0, 1) := by decide +kernel
theorem dX0_begin_16 : decode cX0_begin 16 = .ok (.iload_n 2, 1) := by decide +kernel
theorem dX0_begin_17 : decode cX0_begin 17 = .ok (.putfield 25, 3) := by decide +kernel
theorem dX0_begin_20 : decode cX0_begin 20 = .ok (.aload_n 0, 1) := by decide +kernel
theorem dX0_begin_21 : decode cX0_begin 21 = .ok (.iload_n 3, 1) := by decide +kernel
theorem dX0_begin_22 : decode cX0_begin 22 = .ok (.putfield 28, 3) := by decide +kernel
theorem dX0_begin_25 : decode cX0_begin 25 = .ok (.aload_n 0, 1) := by decide +kernel
theorem dX0_begin_26 : decode cX0_begin 26 = .ok (.iload 4, 2) := by decide +kernel
theorem dX0_begin_28 : decode cX0_begin 28 = .ok (.putfield 31, 3) := by decide +kernel
theorem dX0_begin_31 : decode cX0_begin 31 = .ok (.aload_n 0, 1) := by decide +kernel
theorem dX0_begin_32 : decode cX0_begin 32 = .ok (.iconst 0, 1) := by decide +kernel
theorem dX0_begin_33 : decode cX0_begin 33 = .ok (.putfield 34, 3) := by decide +kernel
theorem dX0_begin_36 : decode cX0_begin 36 = .ok (.aload_n 0, 1) := by decide +kernel
theorem dX0_begin_37 : decode cX0_begin 37 = .ok (.iconst 0, 1) := by decide +kernel
theorem dX0_begin_38 : decode cX0_begin 38 = .ok (.putfield 37, 3) := by decide +kernel
theorem dX0_begin_41 : decode cX0_begin 41 = .ok (.aload_n 0, 1) := by decide +kernel
theorem dX0_begin_42 : decode cX0_begin 42 = .ok (.iconst 0, 1) := by decide +kernel
theorem dX0_begin_43 : decode cX0_begin 43 = .ok (.putfield 40, 3) := by decide +kernel
theorem dX0_begin_46 : decode cX0_begin 46 = .ok (.aload_n 0, 1) := by decide +kernel
theorem dX0_begin_47 : decode cX0_begin 47 = .ok (.invokevirtual 43, 3) := by decide +kernel
theorem dX0_begin_50 : decode cX0_begin 50 = .ok (.iconst 0, 1) := by decide +kernel
theorem dX0_begin_51 : decode cX0_begin 51 = .ok (.istore 5, 2) := by decide +kernel
theorem dX0_begin_53 : decode cX0_begin 53 = .ok (.iload 5, 2) := by decide +kernel
theorem dX0_begin_55 : decode cX0_begin 55 = .ok (.bipush 7, 2) := by decide +kernel
theorem dX0_begin_57 : decode cX0_begin 57 = .ok (.if_icmp .ge 17, 3) := by decide +kernel
theorem dX0_begin_60 : decode cX0_begin 60 = .ok (.aload_n 0, 1) := by decide +kernel
theorem dX0_begin_61 : decode cX0_begin 61 = .ok (.getfield 9, 3) := by decide +kernel
theorem dX0_begin_64 : decode cX0_begin 64 = .ok (.iload 5, 2) := by decide +kernel
theorem dX0_begin_66 : decode cX0_begin 66 = .ok (.iconst 0, 1) := by decide +kernel
theorem dX0_begin_67 : decode cX0_begin 67 = .ok (.iastore, 1) := by decide +kernel
theorem dX0_begin_68 : decode cX0_begin 68 = .ok (.iinc 5 1, 3) := by decide +kernel
theorem dX0_begin_71 : decode cX0_begin 71 = .ok (.goto (-18), 3) := by decide +kernel
theorem dX0_begin_74 : decode cX0_begin 74 = .ok (.aload_n 0, 1) := by decide +kernel
theorem dX0_begin_75 : decode cX0_begin 75 = .ok (.getfield 9, 3) := by decide +kernel
theorem dX0_begin_78 : decode cX0_begin 78 = .ok (.bipush 6, 2) := by decide +kernel
theorem dX0_begin_80 : decode cX0_begin 80 = .ok (.iload_n 2, 1) := by decide +kernel
theorem dX0_begin_81 : decode cX0_begin 81 = .ok (.iastore, 1) := by decide +kernel
theorem dX0_begin_82 : decode cX0_begin 82 = .ok (.return_, 1) := by decide +kernel
theorem dX0_copyFrom_0 : decode cX0_copyFrom 0 = .ok (.aload_n 0, 1) := by decide +kernel
theorem dX0_copyFrom_1 : decode cX0_copyFrom 1 = .ok (.aload_n 1, 1) := by decide +kernel
theorem dX0_copyFrom_2 : decode cX0_copyFrom 2 = .ok (.getfield 15, 3) := by decide +kernel
theorem dX0_copyFrom_5 : decode cX0_copyFrom 5 = .ok (.putfield 15, 3) := by decide +kernel
theorem dX0_copyFrom_8 : decode cX0_copyFrom 8 = .ok (.aload_n 0, 1) := by decide +kernel
theorem dX0_copyFrom_9 : decode cX0_copyFrom 9 = .ok (.aload_n 1, 1) := by decide +kernel
theorem dX0_copyFrom_10 : decode cX0_copyFrom 10 = .ok (.getfield 19, 3) := by decide +kernel
theorem dX0_copyFrom_13 : decode cX0_copyFrom 13 = .ok (.putfield 19, 3) := by decide +kernel
theorem dX0_copyFrom_16 : decode cX0_copyFrom 16 = .ok (.aload_n 0, 1) := by decide +kernel
theorem dX0_copyFrom_17 : decode cX0_copyFrom 17 = .ok (.aload_n 1, 1) := by decide +kernel
theorem dX0_copyFrom_18 : decode cX0_copyFrom 18 = .ok (.getfield 28, 3) := by decide +kernel
theorem dX0_copyFrom_21 : decode cX0_copyFrom 21 = .ok (.putfield 28, 3) := by decide +kernel
theorem dX0_copyFrom_24 : decode cX0_copyFrom 24 = .ok (.aload_n 0, 1) := by decide +kernel
theorem dX0_copyFrom_25 : decode cX0_copyFrom 25 = .ok (.aload_n 1, 1) := by decide +kernel
theorem dX0_copyFrom_26 : decode cX0_copyFrom 26 = .ok (.getfield 31, 3) := by decide +kernel
theorem dX0_copyFrom_29 : decode cX0_copyFrom 29 = .ok (.putfield 31, 3) := by decide +kernel
theorem dX0_copyFrom_32 : decode cX0_copyFrom 32 = .ok (.aload_n 0, 1) := by decide +kernel
theorem dX0_copyFrom_33 : decode cX0_copyFrom 33 = .ok (.aload_n 1, 1) := by decide +kernel
theorem dX0_copyFrom_34 : decode cX0_copyFrom 34 = .ok (.getfield 22, 3) := by decide +kernel
theorem dX0_copyFrom_37 : decode cX0_copyFrom 37 = .ok (.putfield 22, 3) := by decide +kernel
theorem dX0_copyFrom_40 : decode cX0_copyFrom 40 = .ok (.aload_n 0, 1) := by decide +kernel
theorem dX0_copyFrom_41 : decode cX0_copyFrom 41 = .ok (.aload_n 1, 1) := by decide +kernel
theorem dX0_copyFrom_42 : decode cX0_copyFrom 42 = .ok (.getfield 25, 3) := by decide +kernel
theorem dX0_copyFrom_45 : decode cX0_copyFrom 45 = .ok (.putfield 25, 3) := by decide +kernel
theorem dX0_copyFrom_48 : decode cX0_copyFrom 48 = .ok (.aload_n 0, 1) := by decide +kernel
theorem dX0_copyFrom_49 : decode cX0_copyFrom 49 = .ok (.aload_n 1, 1) := by decide +kernel
theorem dX0_copyFrom_50 : decode cX0_copyFrom 50 = .ok (.getfield 46, 3) := by decide +kernel
theorem dX0_copyFrom_53 : decode cX0_copyFrom 53 = .ok (.putfield 46, 3) := by decide +kernel
theorem dX0_copyFrom_56 : decode cX0_copyFrom 56 = .ok (.aload_n 0, 1) := by decide +kernel
theorem dX0_copyFrom_57 : decode cX0_copyFrom 57 = .ok (.aload_n 1, 1) := by decide +kernel
theorem dX0_copyFrom_58 : decode cX0_copyFrom 58 = .ok (.getfield 49, 3) := by decide +kernel
theorem dX0_copyFrom_61 : decode cX0_copyFrom 61 = .ok (.putfield 49, 3) := by decide +kernel
theorem dX0_copyFrom_64 : decode cX0_copyFrom 64 = .ok (.aload_n 0, 1) := by decide +kernel
theorem dX0_copyFrom_65 : decode cX0_copyFrom 65 = .ok (.aload_n 1, 1) := by decide +kernel
theorem dX0_copyFrom_66 : decode cX0_copyFrom 66 = .ok (.getfield 52, 3) := by decide +kernel
theorem dX0_copyFrom_69 : decode cX0_copyFrom 69 = .ok (.putfield 52, 3) := by decide +kernel
theorem dX0_copyFrom_72 : decode cX0_copyFrom 72 = .ok (.aload_n 0, 1) := by decide +kernel
theorem dX0_copyFrom_73 : decode cX0_copyFrom 73 = .ok (.aload_n 1, 1) := by decide +kernel
theorem dX0_copyFrom_74 : decode cX0_copyFrom 74 = .ok (.getfield 55, 3) := by decide +kernel
theorem dX0_copyFrom_77 : decode cX0_copyFrom 77 = .ok (.putfield 55, 3) := by decide +kernel
theorem dX0_copyFrom_80 : decode cX0_copyFrom 80 = .ok (.aload_n 0, 1) := by decide +kernel
theorem dX0_copyFrom_81 : decode cX0_copyFrom 81 = .ok (.aload_n 1, 1) := by decide +kernel
theorem dX0_copyFrom_82 : decode cX0_copyFrom 82 = .ok (.getfield 58, 3) := by decide +kernel
theorem dX0_copyFrom_85 : decode cX0_copyFrom 85 = .ok (.putfield 58, 3) := by decide +kernel
theorem dX0_copyFrom_88 : decode cX0_copyFrom 88 = .ok (.aload_n 0, 1) := by decide +kernel
theorem dX0_copyFrom_89 : decode cX0_copyFrom 89 = .ok (.aload_n 1, 1) := by decide +kernel
theorem dX0_copyFrom_90 : decode cX0_copyFrom 90 = .ok (.getfield 34, 3) := by decide +kernel
theorem dX0_copyFrom_93 : decode cX0_copyFrom 93 = .ok (.putfield 34, 3) := by decide +kernel
theorem dX0_copyFrom_96 : decode cX0_copyFrom 96 = .ok (.aload_n 0, 1) := by decide +kernel
theorem dX0_copyFrom_97 : decode cX0_copyFrom 97 = .ok (.aload_n 1, 1) := by decide +kernel
theorem dX0_copyFrom_98 : decode cX0_copyFrom 98 = .ok (.getfield 37, 3) := by decide +kernel
theorem dX0_copyFrom_101 : decode cX0_copyFrom 101 = .ok (.putfield 37, 3) := by decide +kernel
theorem dX0_copyFrom_104 : decode cX0_copyFrom 104 = .ok (.aload_n 0, 1) := by decide +kernel
theorem dX0_copyFrom_105 : decode cX0_copyFrom 105 = .ok (.aload_n 1, 1) := by decide +kernel
theorem dX0_copyFrom_106 : decode cX0_copyFrom 106 = .ok (.getfield 61, 3) := by decide +kernel
theorem dX0_copyFrom_109 : decode cX0_copyFrom 109 = .ok (.putfield 61, 3) := by decide +kernel
theorem dX0_copyFrom_112 : decode cX0_copyFrom 112 = .ok (.aload_n 0, 1) := by decide +kernel
theorem dX0_copyFrom_113 : decode cX0_copyFrom 113 = .ok (.aload_n 1, 1) := by decide +kernel
theorem dX0_copyFrom_114 : decode cX0_copyFrom 114 = .ok (.getfield 40, 3) := by decide +kernel
theorem dX0_copyFrom_117 : decode cX0_copyFrom 117 = .ok (.putfield 40, 3) := by decide +kernel
theorem dX0_copyFrom_120 : decode cX0_copyFrom 120 = .ok (.aload_n 1, 1) := by decide +kernel
theorem dX0_copyFrom_121 : decode cX0_copyFrom 121 = .ok (.getfield 9, 3) := by decide +kernel
theorem dX0_copyFrom_124 : decode cX0_copyFrom 124 = .ok (.iconst 0, 1) := by decide +kernel
theorem dX0_copyFrom_125 : decode cX0_copyFrom 125 = .ok (.aload_n 0, 1) := by decide +kernel
theorem dX0_copyFrom_126 : decode cX0_copyFrom 126 = .ok (.getfield 9, 3) := by decide +kernel
theorem dX0_copyFrom_129 : decode cX0_copyFrom 129 = .ok (.iconst 0, 1) := by decide +kernel
theorem dX0_copyFrom_130 : decode cX0_copyFrom 130 = .ok (.bipush 7, 2) := by decide +kernel
theorem dX0_copyFrom_132 : decode cX0_copyFrom 132 = .ok (.invokestatic 65, 3) := by decide +kernel
theorem dX0_copyFrom_135 : decode cX0_copyFrom 135 = .ok (.return_, 1) := by decide +kernel
theorem dX0_number_0 : decode cX0_number 0 = .ok (.iload_n 1, 1) := by decide +kernel
theorem dX0_number_1 : decode cX0_number 1 = .ok (.tableswitch 96 0 8 #[51, 56, 61, 66, 71, 76, 81, 86, 91], 51) := by decide +kernel
theorem dX0_number_52 : decode cX0_number 52 = .ok (.aload_n 0, 1) := by decide +kernel
theorem dX0_number_53 : decode cX0_number 53 = .ok (.getfield 15, 3) := by decide +kernel
theorem dX0_number_56 : decode cX0_number 56 = .ok (.ireturn, 1) := by decide +kernel
theorem dX0_number_57 : decode cX0_number 57 = .ok (.aload_n 0, 1) := by decide +kernel
theorem dX0_number_58 : decode cX0_number 58 = .ok (.getfield 19, 3) := by decide +kernel
theorem dX0_number_61 : decode cX0_number 61 = .ok (.ireturn, 1) := by decide +kernel
theorem dX0_number_62 : decode cX0_number 62 = .ok (.aload_n 0, 1) := by decide +kernel
theorem dX0_number_63 : decode cX0_number 63 = .ok (.getfield 46, 3) := by decide +kernel
theorem dX0_number_66 : decode cX0_number 66 = .ok (.ireturn, 1) := by decide +kernel
theorem dX0_number_67 : decode cX0_number 67 = .ok (.aload_n 0, 1) := by decide +kernel
theorem dX0_number_68 : decode cX0_number 68 = .ok (.getfield 49, 3) := by decide +kernel
theorem dX0_number_71 : decode cX0_number 71 = .ok (.ireturn, 1) := by decide +kernel
theorem dX0_number_72 : decode cX0_number 72 = .ok (.aload_n 0, 1) := by decide +kernel
theorem dX0_number_73 : decode cX0_number 73 = .ok (.getfield 52, 3) := by decide +kernel
theorem dX0_number_76 : decode cX0_number 76 = .ok (.ireturn, 1) := by decide +kernel
theorem dX0_number_77 : decode cX0_number 77 = .ok (.aload_n 0, 1) := by decide +kernel
theorem dX0_number_78 : decode cX0_number 78 = .ok (.getfield 55, 3) := by decide +kernel
theorem dX0_number_81 : decode cX0_number 81 = .ok (.ireturn, 1) := by decide +kernel
theorem dX0_number_82 : decode cX0_number 82 = .ok (.aload_n 0, 1) := by decide +kernel
theorem dX0_number_83 : decode cX0_number 83 = .ok (.getfield 58, 3) := by decide +kernel
theorem dX0_number_86 : decode cX0_number 86 = .ok (.ireturn, 1) := by decide +kernel
theorem dX0_number_87 : decode cX0_number 87 = .ok (.aload_n 0, 1) := by decide +kernel
theorem dX0_number_88 : decode cX0_number 88 = .ok (.getfield 28, 3) := by decide +kernel
theorem dX0_number_91 : decode cX0_number 91 = .ok (.ireturn, 1) := by decide +kernel
theorem dX0_number_92 : decode cX0_number 92 = .ok (.aload_n 0, 1) := by decide +kernel
theorem dX0_number_93 : decode cX0_number 93 = .ok (.getfield 31, 3) := by decide +kernel
theorem dX0_number_96 : decode cX0_number 96 = .ok (.ireturn, 1) := by decide +kernel
theorem dX0_number_97 : decode cX0_number 97 = .ok (.aload_n 0, 1) := by decide +kernel
theorem dX0_number_98 : decode cX0_number 98 = .ok (.getfield 34, 3) := by decide +kernel
theorem dX0_number_101 : decode cX0_number 101 = .ok (.ireturn, 1) := by decide +kernel
theorem dX0_footAt_0 : decode cX0_footAt 0 = .ok (.iload_n 1, 1) := by decide +kernel
theorem dX0_footAt_1 : decode cX0_footAt 1 = .ok (.aload_n 0, 1) := by decide +kernel
theorem dX0_footAt_2 : decode cX0_footAt 2 = .ok (.getfield 28, 3) := by decide +kernel
theorem dX0_footAt_5 : decode cX0_footAt 5 = .ok (.iconst 2, 1) := by decide +kernel
theorem dX0_footAt_6 : decode cX0_footAt 6 = .ok (.idiv, 1) := by decide +kernel
theorem dX0_footAt_7 : decode cX0_footAt 7 = .ok (.iadd, 1) := by decide +kernel
theorem dX0_footAt_8 : decode cX0_footAt 8 = .ok (.ireturn, 1) := by decide +kernel
theorem dX0_lastColumnAt_0 : decode cX0_lastColumnAt 0 = .ok (.iload_n 1, 1) := by decide +kernel
theorem dX0_lastColumnAt_1 : decode cX0_lastColumnAt 1 = .ok (.aload_n 0, 1) := by decide +kernel
theorem dX0_lastColumnAt_2 : decode cX0_lastColumnAt 2 = .ok (.getfield 28, 3) := by decide +kernel
theorem dX0_lastColumnAt_5 : decode cX0_lastColumnAt 5 = .ok (.iadd, 1) := by decide +kernel
theorem dX0_lastColumnAt_6 : decode cX0_lastColumnAt 6 = .ok (.iconst 1, 1) := by decide +kernel
theorem dX0_lastColumnAt_7 : decode cX0_lastColumnAt 7 = .ok (.isub, 1) := by decide +kernel
theorem dX0_lastColumnAt_8 : decode cX0_lastColumnAt 8 = .ok (.iconst 4, 1) := by decide +kernel
theorem dX0_lastColumnAt_9 : decode cX0_lastColumnAt 9 = .ok (.ishr, 1) := by decide +kernel
theorem dX0_lastColumnAt_10 : decode cX0_lastColumnAt 10 = .ok (.ireturn, 1) := by decide +kernel
theorem dX0_lastRowAt_0 : decode cX0_lastRowAt 0 = .ok (.iload_n 1, 1) := by decide +kernel
theorem dX0_lastRowAt_1 : decode cX0_lastRowAt 1 = .ok (.aload_n 0, 1) := by decide +kernel
theorem dX0_lastRowAt_2 : decode cX0_lastRowAt 2 = .ok (.getfield 31, 3) := by decide +kernel
theorem dX0_lastRowAt_5 : decode cX0_lastRowAt 5 = .ok (.iadd, 1) := by decide +kernel
theorem dX0_lastRowAt_6 : decode cX0_lastRowAt 6 = .ok (.iconst 1, 1) := by decide +kernel
theorem dX0_lastRowAt_7 : decode cX0_lastRowAt 7 = .ok (.isub, 1) := by decide +kernel
theorem dX0_lastRowAt_8 : decode cX0_lastRowAt 8 = .ok (.iconst 4, 1) := by decide +kernel
theorem dX0_lastRowAt_9 : decode cX0_lastRowAt 9 = .ok (.ishr, 1) := by decide +kernel
theorem dX0_lastRowAt_10 : decode cX0_lastRowAt 10 = .ok (.ireturn, 1) := by decide +kernel
set_option maxRecDepth 20000 in
theorem ggX0_covers_X6_isWithin : GoodIn wsX0_covers wsX6_isWithin := goodIn_r _ [7] (by decide +kernel) (by decide +kernel)
set_option maxRecDepth 20000 in
theorem gX0_covers_X6_isWithin_n71 : GoodIn wsX0_covers (wsX6_isWithin) := ggX0_covers_X6_isWithin
theorem dX0_covers_0 : decode cX0_covers 0 = .ok (.iload_n 1, 1) := by decide +kernel
theorem dX0_covers_1 : decode cX0_covers 1 = .ok (.aload_n 0, 1) := by decide +kernel
theorem dX0_covers_2 : decode cX0_covers 2 = .ok (.getfield 15, 3) := by decide +kernel
theorem dX0_covers_5 : decode cX0_covers 5 = .ok (.aload_n 0, 1) := by decide +kernel
theorem dX0_covers_6 : decode cX0_covers 6 = .ok (.getfield 15, 3) := by decide +kernel
theorem dX0_covers_9 : decode cX0_covers 9 = .ok (.aload_n 0, 1) := by decide +kernel
theorem dX0_covers_10 : decode cX0_covers 10 = .ok (.getfield 28, 3) := by decide +kernel
theorem dX0_covers_13 : decode cX0_covers 13 = .ok (.iadd, 1) := by decide +kernel
theorem dX0_covers_14 : decode cX0_covers 14 = .ok (.iconst 1, 1) := by decide +kernel
theorem dX0_covers_15 : decode cX0_covers 15 = .ok (.isub, 1) := by decide +kernel
theorem dX0_covers_16 : decode cX0_covers 16 = .ok (.invokestatic 71, 3) := by decide +kernel
theorem dX0_covers_19 : decode cX0_covers 19 = .ok (.ifCond .eq 29, 3) := by decide +kernel
theorem dX0_covers_22 : decode cX0_covers 22 = .ok (.iload_n 2, 1) := by decide +kernel
theorem dX0_covers_23 : decode cX0_covers 23 = .ok (.aload_n 0, 1) := by decide +kernel
theorem dX0_covers_24 : decode cX0_covers 24 = .ok (.getfield 19, 3) := by decide +kernel
theorem dX0_covers_27 : decode cX0_covers 27 = .ok (.aload_n 0, 1) := by decide +kernel
theorem dX0_covers_28 : decode cX0_covers 28 = .ok (.getfield 19, 3) := by decide +kernel
theorem dX0_covers_31 : decode cX0_covers 31 = .ok (.aload_n 0, 1) := by decide +kernel
theorem dX0_covers_32 : decode cX0_covers 32 = .ok (.getfield 31, 3) := by decide +kernel
theorem dX0_covers_35 : decode cX0_covers 35 = .ok (.iadd, 1) := by decide +kernel
theorem dX0_covers_36 : decode cX0_covers 36 = .ok (.iconst 1, 1) := by decide +kernel
theorem dX0_covers_37 : decode cX0_covers 37 = .ok (.isub, 1) := by decide +kernel
theorem dX0_covers_38 : decode cX0_covers 38 = .ok (.invokestatic 71, 3) := by decide +kernel
theorem dX0_covers_41 : decode cX0_covers 41 = .ok (.ifCond .eq 7, 3) := by decide +kernel
theorem dX0_covers_44 : decode cX0_covers 44 = .ok (.iconst 1, 1) := by decide +kernel
theorem dX0_covers_45 : decode cX0_covers 45 = .ok (.goto 4, 3) := by decide +kernel
theorem dX0_covers_48 : decode cX0_covers 48 = .ok (.iconst 0, 1) := by decide +kernel
theorem dX0_covers_49 : decode cX0_covers 49 = .ok (.ireturn, 1) := by decide +kernel
theorem dX0_holds_0 : decode cX0_holds 0 = .ok (.aload_n 0, 1) := by decide +kernel
theorem dX0_holds_1 : decode cX0_holds 1 = .ok (.getfield 34, 3) := by decide +kernel
theorem dX0_holds_4 : decode cX0_holds 4 = .ok (.iload_n 1, 1) := by decide +kernel
theorem dX0_holds_5 : decode cX0_holds 5 = .ok (.iand, 1) := by decide +kernel
theorem dX0_holds_6 : decode cX0_holds 6 = .ok (.ifCond .eq 7, 3) := by decide +kernel
theorem dX0_holds_9 : decode cX0_holds 9 = .ok (.iconst 1, 1) := by decide +kernel
theorem dX0_holds_10 : decode cX0_holds 10 = .ok (.goto 4, 3) := by decide +kernel
theorem dX0_holds_13 : decode cX0_holds 13 = .ok (.iconst 0, 1) := by decide +kernel
theorem dX0_holds_14 : decode cX0_holds 14 = .ok (.ireturn, 1) := by decide +kernel
set_option maxRecDepth 20000 in
theorem ggX0_direction_X0_holds : GoodIn wsX0_direction wsX0_holds := goodIn_r _ [5, 6, 7, 8, 9, 10, 11, 12, 13, 14, 15, 16, 17, 18, 19, 20, 21, 22] (by decide +kernel) (by decide +kernel)
set_option maxRecDepth 20000 in
theorem gX0_direction_X0_holds : GoodIn wsX0_direction (wsV RX0 75 RX0 yX0_holds wsX0_holds) := goodIn_app (goodIn_of _ (by decide +kernel)) ggX0_direction_X0_holds
theorem dX0_direction_0 : decode cX0_direction 0 = .ok (.aload_n 0, 1) := by decide +kernel
theorem dX0_direction_1 : decode cX0_direction 1 = .ok (.iconst 2, 1) := by decide +kernel
theorem dX0_direction_2 : decode cX0_direction 2 = .ok (.invokevirtual 75, 3) := by decide +kernel
theorem dX0_direction_5 : decode cX0_direction 5 = .ok (.ifCond .eq 7, 3) := by decide +kernel
theorem dX0_direction_8 : decode cX0_direction 8 = .ok (.iconst 1, 1) := by decide +kernel
theorem dX0_direction_9 : decode cX0_direction 9 = .ok (.goto 4, 3) := by decide +kernel
theorem dX0_direction_12 : decode cX0_direction 12 = .ok (.iconst 0, 1) := by decide +kernel
theorem dX0_direction_13 : decode cX0_direction 13 = .ok (.aload_n 0, 1) := by decide +kernel
theorem dX0_direction_14 : decode cX0_direction 14 = .ok (.iconst 1, 1) := by decide +kernel
theorem dX0_direction_15 : decode cX0_direction 15 = .ok (.invokevirtual 75, 3) := by decide +kernel
theorem dX0_direction_18 : decode cX0_direction 18 = .ok (.ifCond .eq 7, 3) := by decide +kernel
theorem dX0_direction_21 : decode cX0_direction 21 = .ok (.iconst 1, 1) := by decide +kernel
theorem dX0_direction_22 : decode cX0_direction 22 = .ok (.goto 4, 3) := by decide +kernel
theorem dX0_direction_25 : decode cX0_direction 25 = .ok (.iconst 0, 1) := by decide +kernel
theorem dX0_direction_26 : decode cX0_direction 26 = .ok (.isub, 1) := by decide +kernel
theorem dX0_direction_27 : decode cX0_direction 27 = .ok (.ireturn, 1) := by decide +kernel
theorem dX0_calmDown_0 : decode cX0_calmDown 0 = .ok (.aload_n 0, 1) := by decide +kernel
theorem dX0_calmDown_1 : decode cX0_calmDown 1 = .ok (.iconst 0, 1) := by decide +kernel
theorem dX0_calmDown_2 : decode cX0_calmDown 2 = .ok (.putfield 46, 3) := by decide +kernel
theorem dX0_calmDown_5 : decode cX0_calmDown 5 = .ok (.aload_n 0, 1) := by decide +kernel
theorem dX0_calmDown_6 : decode cX0_calmDown 6 = .ok (.iconst 0, 1) := by decide +kernel
theorem dX0_calmDown_7 : decode cX0_calmDown 7 = .ok (.putfield 49, 3) := by decide +kernel
theorem dX0_calmDown_10 : decode cX0_calmDown 10 = .ok (.aload_n 0, 1) := by decide +kernel
theorem dX0_calmDown_11 : decode cX0_calmDown 11 = .ok (.iconst 0, 1) := by decide +kernel
theorem dX0_calmDown_12 : decode cX0_calmDown 12 = .ok (.putfield 52, 3) := by decide +kernel
theorem dX0_calmDown_15 : decode cX0_calmDown 15 = .ok (.aload_n 0, 1) := by decide +kernel
theorem dX0_calmDown_16 : decode cX0_calmDown 16 = .ok (.iconst 0, 1) := by decide +kernel
theorem dX0_calmDown_17 : decode cX0_calmDown 17 = .ok (.putfield 55, 3) := by decide +kernel
theorem dX0_calmDown_20 : decode cX0_calmDown 20 = .ok (.aload_n 0, 1) := by decide +kernel
theorem dX0_calmDown_21 : decode cX0_calmDown 21 = .ok (.iconst 0, 1) := by decide +kernel
theorem dX0_calmDown_22 : decode cX0_calmDown 22 = .ok (.putfield 58, 3) := by decide +kernel
theorem dX0_calmDown_25 : decode cX0_calmDown 25 = .ok (.aload_n 0, 1) := by decide +kernel
theorem dX0_calmDown_26 : decode cX0_calmDown 26 = .ok (.iconst 0, 1) := by decide +kernel
theorem dX0_calmDown_27 : decode cX0_calmDown 27 = .ok (.putfield 61, 3) := by decide +kernel
theorem dX0_calmDown_30 : decode cX0_calmDown 30 = .ok (.return_, 1) := by decide +kernel
theorem dX0_leap_0 : decode cX0_leap 0 = .ok (.aload_n 0, 1) := by decide +kernel
theorem dX0_leap_1 : decode cX0_leap 1 = .ok (.iload_n 1, 1) := by decide +kernel
theorem dX0_leap_2 : decode cX0_leap 2 = .ok (.putfield 49, 3) := by decide +kernel
theorem dX0_leap_5 : decode cX0_leap 5 = .ok (.aload_n 0, 1) := by decide +kernel
theorem dX0_leap_6 : decode cX0_leap 6 = .ok (.iconst 0, 1) := by decide +kernel
theorem dX0_leap_7 : decode cX0_leap 7 = .ok (.putfield 55, 3) := by decide +kernel
theorem dX0_leap_10 : decode cX0_leap 10 = .ok (.aload_n 0, 1) := by decide +kernel
theorem dX0_leap_11 : decode cX0_leap 11 = .ok (.iconst 1, 1) := by decide +kernel
theorem dX0_leap_12 : decode cX0_leap 12 = .ok (.putfield 61, 3) := by decide +kernel
theorem dX0_leap_15 : decode cX0_leap 15 = .ok (.aload_n 0, 1) := by decide +kernel
theorem dX0_leap_16 : decode cX0_leap 16 = .ok (.getfield 9, 3) := by decide +kernel
theorem dX0_leap_19 : decode cX0_leap 19 = .ok (.iconst 2, 1) := by decide +kernel
theorem dX0_leap_20 : decode cX0_leap 20 = .ok (.dup2, 1) := by decide +kernel
theorem dX0_leap_21 : decode cX0_leap 21 = .ok (.iaload, 1) := by decide +kernel
theorem dX0_leap_22 : decode cX0_leap 22 = .ok (.iconst 1, 1) := by decide +kernel
theorem dX0_leap_23 : decode cX0_leap 23 = .ok (.iadd, 1) := by decide +kernel
theorem dX0_leap_24 : decode cX0_leap 24 = .ok (.iastore, 1) := by decide +kernel
theorem dX0_leap_25 : decode cX0_leap 25 = .ok (.return_, 1) := by decide +kernel
set_option maxRecDepth 20000 in
theorem ggX0_die_X0_calmDown : GoodIn wsX0_die wsX0_calmDown := goodIn_r _ [10, 11, 12, 13, 14, 15, 16, 17, 18, 19, 20, 21, 22, 23, 24, 25, 26, 27, 28, 29, 30, 31, 32] (by decide +kernel) (by decide +kernel)
set_option maxRecDepth 20000 in
theorem gX0_die_X0_calmDown : GoodIn wsX0_die (wsV RX0 43 RX0 yX0_calmDown wsX0_calmDown) := goodIn_app (goodIn_of _ (by decide +kernel)) ggX0_die_X0_calmDown
theorem dX0_die_0 : decode cX0_die 0 = .ok (.aload_n 0, 1) := by decide +kernel
theorem dX0_die_1 : decode cX0_die 1 = .ok (.aload_n 0, 1) := by decide +kernel
theorem dX0_die_2 : decode cX0_die 2 = .ok (.getfield 22, 3) := by decide +kernel
theorem dX0_die_5 : decode cX0_die 5 = .ok (.putfield 15, 3) := by decide +kernel
theorem dX0_die_8 : decode cX0_die 8 = .ok (.aload_n 0, 1) := by decide +kernel
theorem dX0_die_9 : decode cX0_die 9 = .ok (.aload_n 0, 1) := by decide +kernel
theorem dX0_die_10 : decode cX0_die 10 = .ok (.getfield 25, 3) := by decide +kernel
theorem dX0_die_13 : decode cX0_die 13 = .ok (.putfield 19, 3) := by decide +kernel
theorem dX0_die_16 : decode cX0_die 16 = .ok (.aload_n 0, 1) := by decide +kernel
theorem dX0_die_17 : decode cX0_die 17 = .ok (.invokevirtual 43, 3) := by decide +kernel
theorem dX0_die_20 : decode cX0_die 20 = .ok (.aload_n 0, 1) := by decide +kernel
theorem dX0_die_21 : decode cX0_die 21 = .ok (.getfield 9, 3) := by decide +kernel
theorem dX0_die_24 : decode cX0_die 24 = .ok (.iconst 1, 1) := by decide +kernel
theorem dX0_die_25 : decode cX0_die 25 = .ok (.dup2, 1) := by decide +kernel
theorem dX0_die_26 : decode cX0_die 26 = .ok (.iaload, 1) := by decide +kernel
theorem dX0_die_27 : decode cX0_die 27 = .ok (.iconst 1, 1) := by decide +kernel
theorem dX0_die_28 : decode cX0_die 28 = .ok (.iadd, 1) := by decide +kernel
theorem dX0_die_29 : decode cX0_die 29 = .ok (.iastore, 1) := by decide +kernel
theorem dX0_die_30 : decode cX0_die 30 = .ok (.return_, 1) := by decide +kernel
theorem dX0_endTick_0 : decode cX0_endTick 0 = .ok (.aload_n 0, 1) := by decide +kernel
theorem dX0_endTick_1 : decode cX0_endTick 1 = .ok (.getfield 49, 3) := by decide +kernel
theorem dX0_endTick_4 : decode cX0_endTick 4 = .ok (.ifCond .gt 8, 3) := by decide +kernel
theorem dX0_endTick_7 : decode cX0_endTick 7 = .ok (.aload_n 0, 1) := by decide +kernel
theorem dX0_endTick_8 : decode cX0_endTick 8 = .ok (.iconst 0, 1) := by decide +kernel
theorem dX0_endTick_9 : decode cX0_endTick 9 = .ok (.putfield 61, 3) := by decide +kernel
theorem dX0_endTick_12 : decode cX0_endTick 12 = .ok (.aload_n 0, 1) := by decide +kernel
theorem dX0_endTick_13 : decode cX0_endTick 13 = .ok (.getfield 40, 3) := by decide +kernel
theorem dX0_endTick_16 : decode cX0_endTick 16 = .ok (.ifCond .eq 17, 3) := by decide +kernel
theorem dX0_endTick_19 : decode cX0_endTick 19 = .ok (.aload_n 0, 1) := by decide +kernel
theorem dX0_endTick_20 : decode cX0_endTick 20 = .ok (.getfield 19, 3) := by decide +kernel
theorem dX0_endTick_23 : decode cX0_endTick 23 = .ok (.aload_n 0, 1) := by decide +kernel
theorem dX0_endTick_24 : decode cX0_endTick 24 = .ok (.getfield 9, 3) := by decide +kernel
theorem dX0_endTick_27 : decode cX0_endTick 27 = .ok (.bipush 6, 2) := by decide +kernel
theorem dX0_endTick_29 : decode cX0_endTick 29 = .ok (.iaload, 1) := by decide +kernel
theorem dX0_endTick_30 : decode cX0_endTick 30 = .ok (.if_icmp .le 14, 3) := by decide +kernel
theorem dX0_endTick_33 : decode cX0_endTick 33 = .ok (.aload_n 0, 1) := by decide +kernel
theorem dX0_endTick_34 : decode cX0_endTick 34 = .ok (.getfield 9, 3) := by decide +kernel
theorem dX0_endTick_37 : decode cX0_endTick 37 = .ok (.bipush 6, 2) := by decide +kernel
theorem dX0_endTick_39 : decode cX0_endTick 39 = .ok (.aload_n 0, 1) := by decide +kernel
theorem dX0_endTick_40 : decode cX0_endTick 40 = .ok (.getfield 19, 3) := by decide +kernel
theorem dX0_endTick_43 : decode cX0_endTick 43 = .ok (.iastore, 1) := by decide +kernel
theorem dX0_endTick_44 : decode cX0_endTick 44 = .ok (.aload_n 0, 1) := by decide +kernel
theorem dX0_endTick_45 : decode cX0_endTick 45 = .ok (.dup, 1) := by decide +kernel
theorem dX0_endTick_46 : decode cX0_endTick 46 = .ok (.getfield 40, 3) := by decide +kernel
theorem dX0_endTick_49 : decode cX0_endTick 49 = .ok (.iconst 1, 1) := by decide +kernel
theorem dX0_endTick_50 : decode cX0_endTick 50 = .ok (.iadd, 1) := by decide +kernel
theorem dX0_endTick_51 : decode cX0_endTick 51 = .ok (.putfield 40, 3) := by decide +kernel
theorem dX0_endTick_54 : decode cX0_endTick 54 = .ok (.aload_n 0, 1) := by decide +kernel
theorem dX0_endTick_55 : decode cX0_endTick 55 = .ok (.aload_n 0, 1) := by decide +kernel
theorem dX0_endTick_56 : decode cX0_endTick 56 = .ok (.getfield 34, 3) := by decide +kernel
theorem dX0_endTick_59 : decode cX0_endTick 59 = .ok (.putfield 37, 3) := by decide +kernel
theorem dX0_endTick_62 : decode cX0_endTick 62 = .ok (.return_, 1) := by decide +kernel
set_option maxRecDepth 20000 in
theorem ggX1_init_X5_init : GoodIn wsX1_init wsX5_init := goodIn_r _ [10, 11, 2, 3, 12, 13, 14, 15, 16, 17, 18, 19, 20, 21, 22, 23, 24, 25, 26, 27, 28, 29, 30, 31, 32, 33, 34, 35, 36, 47, 40, 41, 42, 43, 44, 45, 46, 48, 49, 50, 51, 52, 53, 54, 55, 56, 57, 58, 59, 60, 61, 62, 63, 64, 65, 66, 67, 68, 69, 70] (by decide +kernel) (by decide +kernel)
set_option maxRecDepth 20000 in
theorem gX1_init_X5_init : GoodIn wsX1_init (wsX5_init) := ggX1_init_X5_init
theorem dX1_init_0 : decode cX1_init 0 = .ok (.aload_n 0, 1) := by decide +kernel
theorem dX1_init_1 : decode cX1_init 1 = .ok (.invokespecial 3, 3) := by decide +kernel
theorem dX1_init_4 : decode cX1_init 4 = .ok (.aload_n 0, 1) := by decide +kernel
theorem dX1_init_5 : decode cX1_init 5 = .ok (.bipush 12, 2) := by decide +kernel
theorem dX1_init_7 : decode cX1_init 7 = .ok (.anewarray 9, 3) := by decide +kernel
theorem dX1_init_10 : decode cX1_init 10 = .ok (.putfield 11, 3) := by decide +kernel
theorem dX1_init_13 : decode cX1_init 13 = .ok (.iconst 0, 1) := by decide +kernel
theorem dX1_init_14 : decode cX1_init 14 = .ok (.istore_n 1, 1) := by decide +kernel
theorem dX1_init_15 : decode cX1_init 15 = .ok (.iload_n 1, 1) := by decide +kernel
theorem dX1_init_16 : decode cX1_init 16 = .ok (.bipush 12, 2) := by decide +kernel
theorem dX1_init_18 : decode cX1_init 18 = .ok (.if_icmp .ge 22, 3) := by decide +kernel
theorem dX1_init_21 : decode cX1_init 21 = .ok (.aload_n 0, 1) := by decide +kernel
theorem dX1_init_22 : decode cX1_init 22 = .ok (.getfield 11, 3) := by decide +kernel
theorem dX1_init_25 : decode cX1_init 25 = .ok (.iload_n 1, 1) := by decide +kernel
theorem dX1_init_26 : decode cX1_init 26 = .ok (.new 9, 3) := by decide +kernel
theorem dX1_init_29 : decode cX1_init 29 = .ok (.dup, 1) := by decide +kernel
theorem dX1_init_30 : decode cX1_init 30 = .ok (.invokespecial 17, 3) := by decide +kernel
theorem dX1_init_33 : decode cX1_init 33 = .ok (.aastore, 1) := by decide +kernel
theorem dX1_init_34 : decode cX1_init 34 = .ok (.iinc 1 1, 3) := by decide +kernel
theorem dX1_init_37 : decode cX1_init 37 = .ok (.goto (-22), 3) := by decide +kernel
theorem dX1_init_40 : decode cX1_init 40 = .ok (.return_, 1) := by decide +kernel
set_option maxRecDepth 20000 in
theorem ggX1_keep_X5_copyFrom : GoodIn wsX1_keep wsX5_copyFrom := goodIn_r _ [12, 13, 14, 15, 16, 17, 18, 19, 20, 21, 22, 23, 24, 25, 26, 27, 28, 29, 30, 31, 32, 33, 34, 35, 36, 37, 38, 39, 40, 41, 42, 43, 44, 45, 46, 47, 48, 49, 50, 51, 52, 53, 54, 55, 56, 57, 58, 59, 60, 61, 62, 63, 64, 65, 66, 70, 71, 72, 73, 74, 75, 76, 77, 78, 79, 80, 81, 82, 83, 84, 85, 86, 87, 88, 89, 90, 91, 92, 93, 94, 95, 96, 97, 98, 99, 100] (by decide +kernel) (by decide +kernel)
set_option maxRecDepth 20000 in
theorem gX1_keep_X5_copyFrom : GoodIn wsX1_keep (wsV RX1 22 RX5 yX5_copyFrom wsX5_copyFrom) := goodIn_app (goodIn_of _ (by decide +kernel)) ggX1_keep_X5_copyFrom
theorem dX1_keep_0 : decode cX1_keep 0 = .ok (.aload_n 0, 1) := by decide +kernel
theorem dX1_keep_1 : decode cX1_keep 1 = .ok (.getfield 11, 3) := by decide +kernel
theorem dX1_keep_4 : decode cX1_keep 4 = .ok (.aload_n 0, 1) := by decide +kernel
theorem dX1_keep_5 : decode cX1_keep 5 = .ok (.getfield 18, 3) := by decide +kernel
theorem dX1_keep_8 : decode cX1_keep 8 = .ok (.aaload, 1) := by decide +kernel
theorem dX1_keep_9 : decode cX1_keep 9 = .ok (.aload_n 1, 1) := by decide +kernel
theorem dX1_keep_10 : decode cX1_keep 10 = .ok (.invokevirtual 22, 3) := by decide +kernel
theorem dX1_keep_13 : decode cX1_keep 13 = .ok (.aload_n 0, 1) := by decide +kernel
theorem dX1_keep_14 : decode cX1_keep 14 = .ok (.aload_n 0, 1) := by decide +kernel
theorem dX1_keep_15 : decode cX1_keep 15 = .ok (.getfield 18, 3) := by decide +kernel
theorem dX1_keep_18 : decode cX1_keep 18 = .ok (.iconst 1, 1) := by decide +kernel
theorem dX1_keep_19 : decode cX1_keep 19 = .ok (.iadd, 1) := by decide +kernel
theorem dX1_keep_20 : decode cX1_keep 20 = .ok (.bipush 12, 2) := by decide +kernel
theorem dX1_keep_22 : decode cX1_keep 22 = .ok (.irem, 1) := by decide +kernel
theorem dX1_keep_23 : decode cX1_keep 23 = .ok (.putfield 18, 3) := by decide +kernel
theorem dX1_keep_26 : decode cX1_keep 26 = .ok (.aload_n 0, 1) := by decide +kernel
theorem dX1_keep_27 : decode cX1_keep 27 = .ok (.bipush 12, 2) := by decide +kernel
theorem dX1_keep_29 : decode cX1_keep 29 = .ok (.aload_n 0, 1) := by decide +kernel
theorem dX1_keep_30 : decode cX1_keep 30 = .ok (.getfield 26, 3) := by decide +kernel
theorem dX1_keep_33 : decode cX1_keep 33 = .ok (.iconst 1, 1) := by decide +kernel
theorem dX1_keep_34 : decode cX1_keep 34 = .ok (.iadd, 1) := by decide +kernel
theorem dX1_keep_35 : decode cX1_keep 35 = .ok (.invokestatic 29, 3) := by decide +kernel
theorem dX1_keep_38 : decode cX1_keep 38 = .ok (.putfield 26, 3) := by decide +kernel
theorem dX1_keep_41 : decode cX1_keep 41 = .ok (.return_, 1) := by decide +kernel
set_option maxRecDepth 20000 in
theorem ggX1_bringBack_X5_copyFrom : GoodIn wsX1_bringBack wsX5_copyFrom := goodIn_r _ [8, 9, 10, 11, 12, 13, 14, 15, 16, 17, 18, 19, 20, 21, 22, 23, 24, 25, 26, 27, 28, 29, 30, 31, 32, 33, 34, 35, 36, 37, 38, 39, 40, 41, 42, 43, 44, 45, 46, 47, 48, 49, 50, 51, 52, 53, 54, 55, 56, 57, 58, 59, 60, 61, 62, 66, 67, 68, 69, 70, 71, 72, 73, 74, 75, 76, 77, 78, 79, 80, 81, 82, 83, 84, 85, 86, 87, 88, 89, 90, 91, 92, 93, 94, 95, 96] (by decide +kernel) (by decide +kernel)
set_option maxRecDepth 20000 in
theorem gX1_bringBack_X5_copyFrom : GoodIn wsX1_bringBack (wsV RX1 22 RX5 yX5_copyFrom wsX5_copyFrom) := goodIn_app (goodIn_of _ (by decide +kernel)) ggX1_bringBack_X5_copyFrom
theorem dX1_bringBack_0 : decode cX1_bringBack 0 = .ok (.aload_n 0, 1) := by decide +kernel
theorem dX1_bringBack_1 : decode cX1_bringBack 1 = .ok (.aload_n 0, 1) := by decide +kernel
theorem dX1_bringBack_2 : decode cX1_bringBack 2 = .ok (.getfield 18, 3) := by decide +kernel
theorem dX1_bringBack_5 : decode cX1_bringBack 5 = .ok (.bipush 12, 2) := by decide +kernel
theorem dX1_bringBack_7 : decode cX1_bringBack 7 = .ok (.iadd, 1) := by decide +kernel
theorem dX1_bringBack_8 : decode cX1_bringBack 8 = .ok (.iconst 1, 1) := by decide +kernel
theorem dX1_bringBack_9 : decode cX1_bringBack 9 = .ok (.isub, 1) := by decide +kernel
theorem dX1_bringBack_10 : decode cX1_bringBack 10 = .ok (.bipush 12, 2) := by decide +kernel
theorem dX1_bringBack_12 : decode cX1_bringBack 12 = .ok (.irem, 1) := by decide +kernel
theorem dX1_bringBack_13 : decode cX1_bringBack 13 = .ok (.putfield 18, 3) := by decide +kernel
theorem dX1_bringBack_16 : decode cX1_bringBack 16 = .ok (.aload_n 0, 1) := by decide +kernel
theorem dX1_bringBack_17 : decode cX1_bringBack 17 = .ok (.dup, 1) := by decide +kernel
theorem dX1_bringBack_18 : decode cX1_bringBack 18 = .ok (.getfield 26, 3) := by decide +kernel
theorem dX1_bringBack_21 : decode cX1_bringBack 21 = .ok (.iconst 1, 1) := by decide +kernel
theorem dX1_bringBack_22 : decode cX1_bringBack 22 = .ok (.isub, 1) := by decide +kernel
theorem dX1_bringBack_23 : decode cX1_bringBack 23 = .ok (.putfield 26, 3) := by decide +kernel
theorem dX1_bringBack_26 : decode cX1_bringBack 26 = .ok (.aload_n 1, 1) := by decide +kernel
theorem dX1_bringBack_27 : decode cX1_bringBack 27 = .ok (.aload_n 0, 1) := by decide +kernel
theorem dX1_bringBack_28 : decode cX1_bringBack 28 = .ok (.getfield 11, 3) := by decide +kernel
theorem dX1_bringBack_31 : decode cX1_bringBack 31 = .ok (.aload_n 0, 1) := by decide +kernel
theorem dX1_bringBack_32 : decode cX1_bringBack 32 = .ok (.getfield 18, 3) := by decide +kernel
theorem dX1_bringBack_35 : decode cX1_bringBack 35 = .ok (.aaload, 1) := by decide +kernel
theorem dX1_bringBack_36 : decode cX1_bringBack 36 = .ok (.invokevirtual 22, 3) := by decide +kernel
theorem dX1_bringBack_39 : decode cX1_bringBack 39 = .ok (.return_, 1) := by decide +kernel
theorem dX1_forget_0 : decode cX1_forget 0 = .ok (.aload_n 0, 1) := by decide +kernel
theorem dX1_forget_1 : decode cX1_forget 1 = .ok (.iconst 0, 1) := by decide +kernel
theorem dX1_forget_2 : decode cX1_forget 2 = .ok (.putfield 26, 3) := by decide +kernel
theorem dX1_forget_5 : decode cX1_forget 5 = .ok (.return_, 1) := by decide +kernel
theorem dX2_init_0 : decode cX2_init 0 = .ok (.aload_n 0, 1) := by decide +kernel
theorem dX2_init_1 : decode cX2_init 1 = .ok (.invokespecial 1, 3) := by decide +kernel
theorem dX2_init_4 : decode cX2_init 4 = .ok (.return_, 1) := by decide +kernel
theorem dX2_begin_0 : decode cX2_begin 0 = .ok (.aload_n 0, 1) := by decide +kernel
theorem dX2_begin_1 : decode cX2_begin 1 = .ok (.iload_n 1, 1) := by decide +kernel
theorem dX2_begin_2 : decode cX2_begin 2 = .ok (.putfield 7, 3) := by decide +kernel
theorem dX2_begin_5 : decode cX2_begin 5 = .ok (.aload_n 0, 1) := by decide +kernel
theorem dX2_begin_6 : decode cX2_begin 6 = .ok (.iload_n 2, 1) := by decide +kernel
theorem dX2_begin_7 : decode cX2_begin 7 = .ok (.putfield 13, 3) := by decide +kernel
theorem dX2_begin_10 : decode cX2_begin 10 = .ok (.aload_n 0, 1) := by decide +kernel
theorem dX2_begin_11 : decode cX2_begin 11 = .ok (.iload_n 3, 1) := by decide +kernel
theorem dX2_begin_12 : decode cX2_begin 12 = .ok (.putfield 16, 3) := by decide +kernel
theorem dX2_begin_15 : decode cX2_begin 15 = .ok (.aload_n 0, 1) := by decide +kernel
theorem dX2_begin_16 : decode cX2_begin 16 = .ok (.iload 4, 2) := by decide +kernel
theorem dX2_begin_18 : decode cX2_begin 18 = .ok (.putfield 19, 3) := by decide +kernel
theorem dX2_begin_21 : decode cX2_begin 21 = .ok (.aload_n 0, 1) := by decide +kernel
theorem dX2_begin_22 : decode cX2_begin 22 = .ok (.iload 5, 2) := by decide +kernel
theorem dX2_begin_24 : decode cX2_begin 24 = .ok (.putfield 22, 3) := by decide +kernel
theorem dX2_begin_27 : decode cX2_begin 27 = .ok (.aload_n 0, 1) := by decide +kernel
theorem dX2_begin_28 : decode cX2_begin 28 = .ok (.iload 6, 2) := by decide +kernel
theorem dX2_begin_30 : decode cX2_begin 30 = .ok (.putfield 25, 3) := by decide +kernel
theorem dX2_begin_33 : decode cX2_begin 33 = .ok (.aload_n 0, 1) := by decide +kernel
theorem dX2_begin_34 : decode cX2_begin 34 = .ok (.iload 6, 2) := by decide +kernel
theorem dX2_begin_36 : decode cX2_begin 36 = .ok (.putfield 28, 3) := by decide +kernel
theorem dX2_begin_39 : decode cX2_begin 39 = .ok (.return_, 1) := by decide +kernel
set_option maxRecDepth 20000 in
theorem ggX2_copyFrom_X2_begin : GoodIn wsX2_copyFrom wsX2_begin := goodIn_r _ [12, 1, 2, 3, 4, 5, 6, 7, 13, 14, 15, 16, 17, 18, 19] (by decide +kernel) (by decide +kernel)
set_option maxRecDepth 20000 in
theorem gX2_copyFrom_X2_begin : GoodIn wsX2_copyFrom (wsV RX2 31 RX2 yX2_begin wsX2_begin) := goodIn_app (goodIn_of _ (by decide +kernel)) ggX2_copyFrom_X2_begin
theorem dX2_copyFrom_0 : decode cX2_copyFrom 0 = .ok (.aload_n 0, 1) := by decide +kernel
theorem dX2_copyFrom_1 : decode cX2_copyFrom 1 = .ok (.aload_n 1, 1) := by decide +kernel
theorem dX2_copyFrom_2 : decode cX2_copyFrom 2 = .ok (.getfield 7, 3) := by decide +kernel
theorem dX2_copyFrom_5 : decode cX2_copyFrom 5 = .ok (.aload_n 1, 1) := by decide +kernel
theorem dX2_copyFrom_6 : decode cX2_copyFrom 6 = .ok (.getfield 13, 3) := by decide +kernel
theorem dX2_copyFrom_9 : decode cX2_copyFrom 9 = .ok (.aload_n 1, 1) := by decide +kernel
theorem dX2_copyFrom_10 : decode cX2_copyFrom 10 = .ok (.getfield 16, 3) := by decide +kernel
theorem dX2_copyFrom_13 : decode cX2_copyFrom 13 = .ok (.aload_n 1, 1) := by decide +kernel
theorem dX2_copyFrom_14 : decode cX2_copyFrom 14 = .ok (.getfield 19, 3) := by decide +kernel
theorem dX2_copyFrom_17 : decode cX2_copyFrom 17 = .ok (.aload_n 1, 1) := by decide +kernel
theorem dX2_copyFrom_18 : decode cX2_copyFrom 18 = .ok (.getfield 22, 3) := by decide +kernel
theorem dX2_copyFrom_21 : decode cX2_copyFrom 21 = .ok (.aload_n 1, 1) := by decide +kernel
theorem dX2_copyFrom_22 : decode cX2_copyFrom 22 = .ok (.getfield 25, 3) := by decide +kernel
theorem dX2_copyFrom_25 : decode cX2_copyFrom 25 = .ok (.invokevirtual 31, 3) := by decide +kernel
theorem dX2_copyFrom_28 : decode cX2_copyFrom 28 = .ok (.aload_n 0, 1) := by decide +kernel
theorem dX2_copyFrom_29 : decode cX2_copyFrom 29 = .ok (.aload_n 1, 1) := by decide +kernel
theorem dX2_copyFrom_30 : decode cX2_copyFrom 30 = .ok (.getfield 28, 3) := by decide +kernel
theorem dX2_copyFrom_33 : decode cX2_copyFrom 33 = .ok (.putfield 28, 3) := by decide +kernel
theorem dX2_copyFrom_36 : decode cX2_copyFrom 36 = .ok (.return_, 1) := by decide +kernel
theorem dX2_number_0 : decode cX2_number 0 = .ok (.iload_n 1, 1) := by decide +kernel
theorem dX2_number_1 : decode cX2_number 1 = .ok (.tableswitch 60 0 4 #[35, 40, 45, 50, 55], 35) := by decide +kernel
theorem dX2_number_36 : decode cX2_number 36 = .ok (.aload_n 0, 1) := by decide +kernel
theorem dX2_number_37 : decode cX2_number 37 = .ok (.getfield 7, 3) := by decide +kernel
theorem dX2_number_40 : decode cX2_number 40 = .ok (.ireturn, 1) := by decide +kernel
theorem dX2_number_41 : decode cX2_number 41 = .ok (.aload_n 0, 1) := by decide +kernel
theorem dX2_number_42 : decode cX2_number 42 = .ok (.getfield 13, 3) := by decide +kernel
theorem dX2_number_45 : decode cX2_number 45 = .ok (.ireturn, 1) := by decide +kernel
theorem dX2_number_46 : decode cX2_number 46 = .ok (.aload_n 0, 1) := by decide +kernel
theorem dX2_number_47 : decode cX2_number 47 = .ok (.getfield 16, 3) := by decide +kernel
theorem dX2_number_50 : decode cX2_number 50 = .ok (.ireturn, 1) := by decide +kernel
theorem dX2_number_51 : decode cX2_number 51 = .ok (.aload_n 0, 1) := by decide +kernel
theorem dX2_number_52 : decode cX2_number 52 = .ok (.getfield 19, 3) := by decide +kernel
theorem dX2_number_55 : decode cX2_number 55 = .ok (.ireturn, 1) := by decide +kernel
theorem dX2_number_56 : decode cX2_number 56 = .ok (.aload_n 0, 1) := by decide +kernel
theorem dX2_number_57 : decode cX2_number 57 = .ok (.getfield 22, 3) := by decide +kernel
theorem dX2_number_60 : decode cX2_number 60 = .ok (.ireturn, 1) := by decide +kernel
theorem dX2_number_61 : decode cX2_number 61 = .ok (.aload_n 0, 1) := by decide +kernel
theorem dX2_number_62 : decode cX2_number 62 = .ok (.getfield 28, 3) := by decide +kernel
theorem dX2_number_65 : decode cX2_number 65 = .ok (.ireturn, 1) := by decide +kernel
theorem dX2_isUnder_0 : decode cX2_isUnder 0 = .ok (.aload_n 0, 1) := by decide +kernel
theorem dX2_isUnder_1 : decode cX2_isUnder 1 = .ok (.getfield 13, 3) := by decide +kernel
theorem dX2_isUnder_4 : decode cX2_isUnder 4 = .ok (.iload_n 3, 1) := by decide +kernel
theorem dX2_isUnder_5 : decode cX2_isUnder 5 = .ok (.if_icmp .ne 33, 3) := by decide +kernel
theorem dX2_isUnder_8 : decode cX2_isUnder 8 = .ok (.iload_n 2, 1) := by decide +kernel
theorem dX2_isUnder_9 : decode cX2_isUnder 9 = .ok (.aload_n 0, 1) := by decide +kernel
theorem dX2_isUnder_10 : decode cX2_isUnder 10 = .ok (.getfield 7, 3) := by decide +kernel
theorem dX2_isUnder_13 : decode cX2_isUnder 13 = .ok (.aload_n 0, 1) := by decide +kernel
theorem dX2_isUnder_14 : decode cX2_isUnder 14 = .ok (.getfield 16, 3) := by decide +kernel
theorem dX2_isUnder_17 : decode cX2_isUnder 17 = .ok (.iadd, 1) := by decide +kernel
theorem dX2_isUnder_18 : decode cX2_isUnder 18 = .ok (.if_icmp .ge 20, 3) := by decide +kernel
theorem dX2_isUnder_21 : decode cX2_isUnder 21 = .ok (.aload_n 0, 1) := by decide +kernel
theorem dX2_isUnder_22 : decode cX2_isUnder 22 = .ok (.getfield 7, 3) := by decide +kernel
theorem dX2_isUnder_25 : decode cX2_isUnder 25 = .ok (.iload_n 2, 1) := by decide +kernel
theorem dX2_isUnder_26 : decode cX2_isUnder 26 = .ok (.aload_n 1, 1) := by decide +kernel
theorem dX2_isUnder_27 : decode cX2_isUnder 27 = .ok (.getfield 35, 3) := by decide +kernel
theorem dX2_isUnder_30 : decode cX2_isUnder 30 = .ok (.iadd, 1) := by decide +kernel
theorem dX2_isUnder_31 : decode cX2_isUnder 31 = .ok (.if_icmp .ge 7, 3) := by decide +kernel
theorem dX2_isUnder_34 : decode cX2_isUnder 34 = .ok (.iconst 1, 1) := by decide +kernel
theorem dX2_isUnder_35 : decode cX2_isUnder 35 = .ok (.goto 4, 3) := by decide +kernel
theorem dX2_isUnder_38 : decode cX2_isUnder 38 = .ok (.iconst 0, 1) := by decide +kernel
theorem dX2_isUnder_39 : decode cX2_isUnder 39 = .ok (.ireturn, 1) := by decide +kernel
set_option maxRecDepth 20000 in
theorem ggX2_isTopOf_X6_isWithin : GoodIn wsX2_isTopOf wsX6_isWithin := goodIn_r _ [6] (by decide +kernel) (by decide +kernel)
set_option maxRecDepth 20000 in
theorem gX2_isTopOf_X6_isWithin_n38 : GoodIn wsX2_isTopOf (wsX6_isWithin) := ggX2_isTopOf_X6_isWithin
theorem dX2_isTopOf_0 : decode cX2_isTopOf 0 = .ok (.aload_n 0, 1) := by decide +kernel
theorem dX2_isTopOf_1 : decode cX2_isTopOf 1 = .ok (.getfield 13, 3) := by decide +kernel
theorem dX2_isTopOf_4 : decode cX2_isTopOf 4 = .ok (.iconst 1, 1) := by decide +kernel
theorem dX2_isTopOf_5 : decode cX2_isTopOf 5 = .ok (.isub, 1) := by decide +kernel
theorem dX2_isTopOf_6 : decode cX2_isTopOf 6 = .ok (.iload_n 2, 1) := by decide +kernel
theorem dX2_isTopOf_7 : decode cX2_isTopOf 7 = .ok (.if_icmp .ne 29, 3) := by decide +kernel
theorem dX2_isTopOf_10 : decode cX2_isTopOf 10 = .ok (.iload_n 1, 1) := by decide +kernel
theorem dX2_isTopOf_11 : decode cX2_isTopOf 11 = .ok (.aload_n 0, 1) := by decide +kernel
theorem dX2_isTopOf_12 : decode cX2_isTopOf 12 = .ok (.getfield 7, 3) := by decide +kernel
theorem dX2_isTopOf_15 : decode cX2_isTopOf 15 = .ok (.aload_n 0, 1) := by decide +kernel
theorem dX2_isTopOf_16 : decode cX2_isTopOf 16 = .ok (.getfield 7, 3) := by decide +kernel
theorem dX2_isTopOf_19 : decode cX2_isTopOf 19 = .ok (.aload_n 0, 1) := by decide +kernel
theorem dX2_isTopOf_20 : decode cX2_isTopOf 20 = .ok (.getfield 16, 3) := by decide +kernel
theorem dX2_isTopOf_23 : decode cX2_isTopOf 23 = .ok (.iadd, 1) := by decide +kernel
theorem dX2_isTopOf_24 : decode cX2_isTopOf 24 = .ok (.iconst 1, 1) := by decide +kernel
theorem dX2_isTopOf_25 : decode cX2_isTopOf 25 = .ok (.isub, 1) := by decide +kernel
theorem dX2_isTopOf_26 : decode cX2_isTopOf 26 = .ok (.invokestatic 38, 3) := by decide +kernel
theorem dX2_isTopOf_29 : decode cX2_isTopOf 29 = .ok (.ifCond .eq 7, 3) := by decide +kernel
theorem dX2_isTopOf_32 : decode cX2_isTopOf 32 = .ok (.iconst 1, 1) := by decide +kernel
theorem dX2_isTopOf_33 : decode cX2_isTopOf 33 = .ok (.goto 4, 3) := by decide +kernel
theorem dX2_isTopOf_36 : decode cX2_isTopOf 36 = .ok (.iconst 0, 1) := by decide +kernel
theorem dX2_isTopOf_37 : decode cX2_isTopOf 37 = .ok (.ireturn, 1) := by decide +kernel
theorem dX2_move_0 : decode cX2_move 0 = .ok (.aload_n 0, 1) := by decide +kernel
theorem dX2_move_1 : decode cX2_move 1 = .ok (.dup, 1) := by decide +kernel
theorem dX2_move_2 : decode cX2_move 2 = .ok (.getfield 7, 3) := by decide +kernel
theorem dX2_move_5 : decode cX2_move 5 = .ok (.aload_n 0, 1) := by decide +kernel
theorem dX2_move_6 : decode cX2_move 6 = .ok (.getfield 19, 3) := by decide +kernel
theorem dX2_move_9 : decode cX2_move 9 = .ok (.iadd, 1) := by decide +kernel
theorem dX2_move_10 : decode cX2_move 10 = .ok (.putfield 7, 3) := by decide +kernel
theorem dX2_move_13 : decode cX2_move 13 = .ok (.aload_n 0, 1) := by decide +kernel
theorem dX2_move_14 : decode cX2_move 14 = .ok (.dup, 1) := by decide +kernel
theorem dX2_move_15 : decode cX2_move 15 = .ok (.getfield 13, 3) := by decide +kernel
theorem dX2_move_18 : decode cX2_move 18 = .ok (.aload_n 0, 1) := by decide +kernel
theorem dX2_move_19 : decode cX2_move 19 = .ok (.getfield 22, 3) := by decide +kernel
theorem dX2_move_22 : decode cX2_move 22 = .ok (.iadd, 1) := by decide +kernel
theorem dX2_move_23 : decode cX2_move 23 = .ok (.putfield 13, 3) := by decide +kernel
theorem dX2_move_26 : decode cX2_move 26 = .ok (.aload_n 0, 1) := by decide +kernel
theorem dX2_move_27 : decode cX2_move 27 = .ok (.dup, 1) := by decide +kernel
theorem dX2_move_28 : decode cX2_move 28 = .ok (.getfield 28, 3) := by decide +kernel
theorem dX2_move_31 : decode cX2_move 31 = .ok (.iconst 1, 1) := by decide +kernel
theorem dX2_move_32 : decode cX2_move 32 = .ok (.isub, 1) := by decide +kernel
theorem dX2_move_33 : decode cX2_move 33 = .ok (.putfield 28, 3) := by decide +kernel
theorem dX2_move_36 : decode cX2_move 36 = .ok (.aload_n 0, 1) := by decide +kernel
theorem dX2_move_37 : decode cX2_move 37 = .ok (.getfield 28, 3) := by decide +kernel
theorem dX2_move_40 : decode cX2_move 40 = .ok (.ifCond .gt 29, 3) := by decide +kernel
theorem dX2_move_43 : decode cX2_move 43 = .ok (.aload_n 0, 1) := by decide +kernel
theorem dX2_move_44 : decode cX2_move 44 = .ok (.aload_n 0, 1) := by decide +kernel
theorem dX2_move_45 : decode cX2_move 45 = .ok (.getfield 19, 3) := by decide +kernel
theorem dX2_move_48 : decode cX2_move 48 = .ok (.ineg, 1) := by decide +kernel
theorem dX2_move_49 : decode cX2_move 49 = .ok (.putfield 19, 3) := by decide +kernel
theorem dX2_move_52 : decode cX2_move 52 = .ok (.aload_n 0, 1) := by decide +kernel
theorem dX2_move_53 : decode cX2_move 53 = .ok (.aload_n 0, 1) := by decide +kernel
theorem dX2_move_54 : decode cX2_move 54 = .ok (.getfield 22, 3) := by decide +kernel
theorem dX2_move_57 : decode cX2_move 57 = .ok (.ineg, 1) := by decide +kernel
theorem dX2_move_58 : decode cX2_move 58 = .ok (.putfield 22, 3) := by decide +kernel
theorem dX2_move_61 : decode cX2_move 61 = .ok (.aload_n 0, 1) := by decide +kernel
theorem dX2_move_62 : decode cX2_move 62 = .ok (.aload_n 0, 1) := by decide +kernel
theorem dX2_move_63 : decode cX2_move 63 = .ok (.getfield 25, 3) := by decide +kernel
theorem dX2_move_66 : decode cX2_move 66 = .ok (.putfield 28, 3) := by decide +kernel
theorem dX2_move_69 : decode cX2_move 69 = .ok (.return_, 1) := by decide +kernel
theorem dX3_init_0 : decode cX3_init 0 = .ok (.aload_n 0, 1) := by decide +kernel
theorem dX3_init_1 : decode cX3_init 1 = .ok (.invokespecial 3, 3) := by decide +kernel
theorem dX3_init_4 : decode cX3_init 4 = .ok (.aload_n 0, 1) := by decide +kernel
theorem dX3_init_5 : decode cX3_init 5 = .ok (.bipush 40, 2) := by decide +kernel
theorem dX3_init_7 : decode cX3_init 7 = .ok (.newarray .char, 2) := by decide +kernel
theorem dX3_init_9 : decode cX3_init 9 = .ok (.putfield 9, 3) := by decide +kernel
theorem dX3_init_12 : decode cX3_init 12 = .ok (.aload_n 0, 1) := by decide +kernel
theorem dX3_init_13 : decode cX3_init 13 = .ok (.bipush 20, 2) := by decide +kernel
theorem dX3_init_15 : decode cX3_init 15 = .ok (.newarray .int, 2) := by decide +kernel
theorem dX3_init_17 : decode cX3_init 17 = .ok (.putfield 15, 3) := by decide +kernel
theorem dX3_init_20 : decode cX3_init 20 = .ok (.aload_n 0, 1) := by decide +kernel
theorem dX3_init_21 : decode cX3_init 21 = .ok (.bipush 20, 2) := by decide +kernel
theorem dX3_init_23 : decode cX3_init 23 = .ok (.newarray .int, 2) := by decide +kernel
theorem dX3_init_25 : decode cX3_init 25 = .ok (.putfield 19, 3) := by decide +kernel
theorem dX3_init_28 : decode cX3_init 28 = .ok (.return_, 1) := by decide +kernel
theorem dX3_takeIn_0 : decode cX3_takeIn 0 = .ok (.aload_n 0, 1) := by decide +kernel
theorem dX3_takeIn_1 : decode cX3_takeIn 1 = .ok (.getfield 22, 3) := by decide +kernel
theorem dX3_takeIn_4 : decode cX3_takeIn 4 = .ok (.bipush 40, 2) := by decide +kernel
theorem dX3_takeIn_6 : decode cX3_takeIn 6 = .ok (.if_icmp .lt 5, 3) := by decide +kernel
theorem dX3_takeIn_9 : decode cX3_takeIn 9 = .ok (.iconst 0, 1) := by decide +kernel
theorem dX3_takeIn_10 : decode cX3_takeIn 10 = .ok (.ireturn, 1) := by decide +kernel
theorem dX3_takeIn_11 : decode cX3_takeIn 11 = .ok (.aload_n 0, 1) := by decide +kernel
theorem dX3_takeIn_12 : decode cX3_takeIn 12 = .ok (.getfield 9, 3) := by decide +kernel
theorem dX3_takeIn_15 : decode cX3_takeIn 15 = .ok (.aload_n 0, 1) := by decide +kernel
theorem dX3_takeIn_16 : decode cX3_takeIn 16 = .ok (.getfield 22, 3) := by decide +kernel
theorem dX3_takeIn_19 : decode cX3_takeIn 19 = .ok (.iload_n 1, 1) := by decide +kernel
theorem dX3_takeIn_20 : decode cX3_takeIn 20 = .ok (.castore, 1) := by decide +kernel
theorem dX3_takeIn_21 : decode cX3_takeIn 21 = .ok (.aload_n 0, 1) := by decide +kernel
theorem dX3_takeIn_22 : decode cX3_takeIn 22 = .ok (.dup, 1) := by decide +kernel
theorem dX3_takeIn_23 : decode cX3_takeIn 23 = .ok (.getfield 22, 3) := by decide +kernel
theorem dX3_takeIn_26 : decode cX3_takeIn 26 = .ok (.iconst 1, 1) := by decide +kernel
theorem dX3_takeIn_27 : decode cX3_takeIn 27 = .ok (.iadd, 1) := by decide +kernel
theorem dX3_takeIn_28 : decode cX3_takeIn 28 = .ok (.putfield 22, 3) := by decide +kernel
theorem dX3_takeIn_31 : decode cX3_takeIn 31 = .ok (.iconst 1, 1) := by decide +kernel
theorem dX3_takeIn_32 : decode cX3_takeIn 32 = .ok (.ireturn, 1) := by decide +kernel
theorem dX3_takeOut_0 : decode cX3_takeOut 0 = .ok (.aload_n 0, 1) := by decide +kernel
theorem dX3_takeOut_1 : decode cX3_takeOut 1 = .ok (.getfield 22, 3) := by decide +kernel
theorem dX3_takeOut_4 : decode cX3_takeOut 4 = .ok (.istore_n 1, 1) := by decide +kernel
theorem dX3_takeOut_5 : decode cX3_takeOut 5 = .ok (.aload_n 0, 1) := by decide +kernel
theorem dX3_takeOut_6 : decode cX3_takeOut 6 = .ok (.iconst 0, 1) := by decide +kernel
theorem dX3_takeOut_7 : decode cX3_takeOut 7 = .ok (.putfield 22, 3) := by decide +kernel
theorem dX3_takeOut_10 : decode cX3_takeOut 10 = .ok (.iload_n 1, 1) := by decide +kernel
theorem dX3_takeOut_11 : decode cX3_takeOut 11 = .ok (.ireturn, 1) := by decide +kernel
set_option maxRecDepth 20000 in
theorem ggX3_tileAt_X3_placeOf : GoodIn wsX3_tileAt wsX3_placeOf := goodIn_r _ [5, 6, 7, 8, 9, 10, 11, 12, 13, 14, 15, 16, 17, 18, 19, 20, 21, 22, 23, 24, 25, 26, 27, 28, 29, 30, 31, 32, 33, 34, 35, 36, 37, 38, 39, 40, 41, 42, 43, 44, 45, 46, 47, 48, 49, 50, 51, 52, 53, 54, 60, 61] (by decide +kernel) (by decide +kernel)
set_option maxRecDepth 20000 in
theorem gX3_tileAt_X3_placeOf : GoodIn wsX3_tileAt (va_wsS RX3 28 yX3_placeOf wsX3_placeOf) := goodIn_app (goodIn_of _ (by decide +kernel)) ggX3_tileAt_X3_placeOf
theorem dX3_tileAt_0 : decode cX3_tileAt 0 = .ok (.aload_n 0, 1) := by decide +kernel
theorem dX3_tileAt_1 : decode cX3_tileAt 1 = .ok (.getfield 9, 3) := by decide +kernel
theorem dX3_tileAt_4 : decode cX3_tileAt 4 = .ok (.iload_n 1, 1) := by decide +kernel
theorem dX3_tileAt_5 : decode cX3_tileAt 5 = .ok (.caload, 1) := by decide +kernel
theorem dX3_tileAt_6 : decode cX3_tileAt 6 = .ok (.ldc 26, 2) := by decide +kernel
theorem dX3_tileAt_8 : decode cX3_tileAt 8 = .ok (.invokestatic 28, 3) := by decide +kernel
theorem dX3_tileAt_11 : decode cX3_tileAt 11 = .ok (.ireturn, 1) := by decide +kernel
set_option maxRecDepth 20000 in
theorem ggX3_faultOfTiles_X3_tileAt : GoodIn wsX3_faultOfTiles wsX3_tileAt := goodIn_ca (goodIn_r _ [5, 6, 7, 8, 4, 9, 10, 11, 12, 13, 14, 15, 16, 17, 18, 19, 20, 21, 22, 23, 24, 25, 26, 27, 28, 29, 30, 31, 32, 33, 34, 35, 36, 37, 38, 39, 40, 41, 42, 43, 44, 45, 46, 47, 48, 49, 50, 51, 52, 53, 54, 55, 56, 57, 58, 59, 60, 61, 62, 63, 64, 65] (by decide +kernel) (by decide +kernel)) (goodIn_sub (fun _ h => List.mem_cons_of_mem _ (List.mem_append_right _ h)) (by decide +kernel))
set_option maxRecDepth 20000 in
theorem gX3_faultOfTiles_X3_tileAt : GoodIn wsX3_faultOfTiles (wsV RX3 32 RX3 yX3_tileAt wsX3_tileAt) := goodIn_app (goodIn_of _ (by decide +kernel)) ggX3_faultOfTiles_X3_tileAt
theorem dX3_faultOfTiles_0 : decode cX3_faultOfTiles 0 = .ok (.iconst 0, 1) := by decide +kernel
theorem dX3_faultOfTiles_1 : decode cX3_faultOfTiles 1 = .ok (.istore_n 2, 1) := by decide +kernel
theorem dX3_faultOfTiles_2 : decode cX3_faultOfTiles 2 = .ok (.iload_n 2, 1) := by decide +kernel
theorem dX3_faultOfTiles_3 : decode cX3_faultOfTiles 3 = .ok (.iload_n 1, 1) := by decide +kernel
theorem dX3_faultOfTiles_4 : decode cX3_faultOfTiles 4 = .ok (.if_icmp .ge 25, 3) := by decide +kernel
theorem dX3_faultOfTiles_7 : decode cX3_faultOfTiles 7 = .ok (.iload_n 2, 1) := by decide +kernel
theorem dX3_faultOfTiles_8 : decode cX3_faultOfTiles 8 = .ok (.bipush 24, 2) := by decide +kernel
theorem dX3_faultOfTiles_10 : decode cX3_faultOfTiles 10 = .ok (.if_icmp .ge 11, 3) := by decide +kernel
theorem dX3_faultOfTiles_13 : decode cX3_faultOfTiles 13 = .ok (.aload_n 0, 1) := by decide +kernel
theorem dX3_faultOfTiles_14 : decode cX3_faultOfTiles 14 = .ok (.iload_n 2, 1) := by decide +kernel
theorem dX3_faultOfTiles_15 : decode cX3_faultOfTiles 15 = .ok (.invokevirtual 32, 3) := by decide +kernel
theorem dX3_faultOfTiles_18 : decode cX3_faultOfTiles 18 = .ok (.ifCond .ge 5, 3) := by decide +kernel
theorem dX3_faultOfTiles_21 : decode cX3_faultOfTiles 21 = .ok (.iload_n 2, 1) := by decide +kernel
theorem dX3_faultOfTiles_22 : decode cX3_faultOfTiles 22 = .ok (.ireturn, 1) := by decide +kernel
theorem dX3_faultOfTiles_23 : decode cX3_faultOfTiles 23 = .ok (.iinc 2 1, 3) := by decide +kernel
theorem dX3_faultOfTiles_26 : decode cX3_faultOfTiles 26 = .ok (.goto (-24), 3) := by decide +kernel
theorem dX3_faultOfTiles_29 : decode cX3_faultOfTiles 29 = .ok (.iload_n 1, 1) := by decide +kernel
theorem dX3_faultOfTiles_30 : decode cX3_faultOfTiles 30 = .ok (.ifCond .ne 7, 3) := by decide +kernel
theorem dX3_faultOfTiles_33 : decode cX3_faultOfTiles 33 = .ok (.iconst 0, 1) := by decide +kernel
theorem dX3_faultOfTiles_34 : decode cX3_faultOfTiles 34 = .ok (.goto 4, 3) := by decide +kernel
theorem dX3_faultOfTiles_37 : decode cX3_faultOfTiles 37 = .ok (.iconst (-1), 1) := by decide +kernel
theorem dX3_faultOfTiles_38 : decode cX3_faultOfTiles 38 = .ok (.ireturn, 1) := by decide +kernel
set_option maxRecDepth 20000 in
theorem ggX3_faultOfInputs_X3_isDigit : GoodIn wsX3_faultOfInputs wsX3_isDigit := goodIn_r _ [5] (by decide +kernel) (by decide +kernel)
set_option maxRecDepth 20000 in
theorem gX3_faultOfInputs_X3_isDigit : GoodIn wsX3_faultOfInputs (va_wsS RX3 36 yX3_isDigit wsX3_isDigit) := goodIn_app (goodIn_of _ (by decide +kernel)) ggX3_faultOfInputs_X3_isDigit
set_option maxRecDepth 20000 in
theorem ggX3_faultOfInputs_X3_placeOf : GoodIn wsX3_faultOfInputs wsX3_placeOf := goodIn_r _ [8, 9, 10, 11, 12, 13, 14, 15, 16, 17, 18, 19, 20, 21, 22, 23, 24, 25, 26, 27, 28, 29, 30, 31, 32, 33, 34, 35, 36, 37, 38, 39, 40, 41, 42, 43, 44, 45, 46, 47, 48, 49, 50, 51, 52, 53, 54, 55, 56, 57, 63, 64] (by decide +kernel) (by decide +kernel)
set_option maxRecDepth 20000 in
theorem gX3_faultOfInputs_X3_placeOf : GoodIn wsX3_faultOfInputs (va_wsS RX3 28 yX3_placeOf wsX3_placeOf) := goodIn_app (goodIn_of _ (by decide +kernel)) ggX3_faultOfInputs_X3_placeOf
theorem dX3_faultOfInputs_0 : decode cX3_faultOfInputs 0 = .ok (.iconst 2, 1) := by decide +kernel
theorem dX3_faultOfInputs_1 : decode cX3_faultOfInputs 1 = .ok (.istore_n 2, 1) := by decide +kernel
theorem dX3_faultOfInputs_2 : decode cX3_faultOfInputs 2 = .ok (.iconst 0, 1) := by decide +kernel
theorem dX3_faultOfInputs_3 : decode cX3_faultOfInputs 3 = .ok (.istore_n 3, 1) := by decide +kernel
theorem dX3_faultOfInputs_4 : decode cX3_faultOfInputs 4 = .ok (.iload_n 3, 1) := by decide +kernel
theorem dX3_faultOfInputs_5 : decode cX3_faultOfInputs 5 = .ok (.iload_n 1, 1) := by decide +kernel
theorem dX3_faultOfInputs_6 : decode cX3_faultOfInputs 6 = .ok (.if_icmp .ge 56, 3) := by decide +kernel
theorem dX3_faultOfInputs_9 : decode cX3_faultOfInputs 9 = .ok (.aload_n 0, 1) := by decide +kernel
theorem dX3_faultOfInputs_10 : decode cX3_faultOfInputs 10 = .ok (.getfield 9, 3) := by decide +kernel
theorem dX3_faultOfInputs_13 : decode cX3_faultOfInputs 13 = .ok (.iload_n 3, 1) := by decide +kernel
theorem dX3_faultOfInputs_14 : decode cX3_faultOfInputs 14 = .ok (.caload, 1) := by decide +kernel
theorem dX3_faultOfInputs_15 : decode cX3_faultOfInputs 15 = .ok (.invokestatic 36, 3) := by decide +kernel
theorem dX3_faultOfInputs_18 : decode cX3_faultOfInputs 18 = .ok (.ifCond .eq 16, 3) := by decide +kernel
theorem dX3_faultOfInputs_21 : decode cX3_faultOfInputs 21 = .ok (.iload_n 2, 1) := by decide +kernel
theorem dX3_faultOfInputs_22 : decode cX3_faultOfInputs 22 = .ok (.iconst 2, 1) := by decide +kernel
theorem dX3_faultOfInputs_23 : decode cX3_faultOfInputs 23 = .ok (.if_icmp .ne 5, 3) := by decide +kernel
theorem dX3_faultOfInputs_26 : decode cX3_faultOfInputs 26 = .ok (.iload_n 3, 1) := by decide +kernel
theorem dX3_faultOfInputs_27 : decode cX3_faultOfInputs 27 = .ok (.ireturn, 1) := by decide +kernel
theorem dX3_faultOfInputs_28 : decode cX3_faultOfInputs 28 = .ok (.iinc 2 1, 3) := by decide +kernel
theorem dX3_faultOfInputs_31 : decode cX3_faultOfInputs 31 = .ok (.goto 25, 3) := by decide +kernel
theorem dX3_faultOfInputs_34 : decode cX3_faultOfInputs 34 = .ok (.iload_n 2, 1) := by decide +kernel
theorem dX3_faultOfInputs_35 : decode cX3_faultOfInputs 35 = .ok (.ifCond .eq 17, 3) := by decide +kernel
theorem dX3_faultOfInputs_38 : decode cX3_faultOfInputs 38 = .ok (.aload_n 0, 1) := by decide +kernel
theorem dX3_faultOfInputs_39 : decode cX3_faultOfInputs 39 = .ok (.getfield 9, 3) := by decide +kernel
theorem dX3_faultOfInputs_42 : decode cX3_faultOfInputs 42 = .ok (.iload_n 3, 1) := by decide +kernel
theorem dX3_faultOfInputs_43 : decode cX3_faultOfInputs 43 = .ok (.caload, 1) := by decide +kernel
theorem dX3_faultOfInputs_44 : decode cX3_faultOfInputs 44 = .ok (.ldc 40, 2) := by decide +kernel
theorem dX3_faultOfInputs_46 : decode cX3_faultOfInputs 46 = .ok (.invokestatic 28, 3) := by decide +kernel
theorem dX3_faultOfInputs_49 : decode cX3_faultOfInputs 49 = .ok (.ifCond .ge 5, 3) := by decide +kernel
theorem dX3_faultOfInputs_52 : decode cX3_faultOfInputs 52 = .ok (.iload_n 3, 1) := by decide +kernel
theorem dX3_faultOfInputs_53 : decode cX3_faultOfInputs 53 = .ok (.ireturn, 1) := by decide +kernel
theorem dX3_faultOfInputs_54 : decode cX3_faultOfInputs 54 = .ok (.iconst 0, 1) := by decide +kernel
theorem dX3_faultOfInputs_55 : decode cX3_faultOfInputs 55 = .ok (.istore_n 2, 1) := by decide +kernel
theorem dX3_faultOfInputs_56 : decode cX3_faultOfInputs 56 = .ok (.iinc 3 1, 3) := by decide +kernel
theorem dX3_faultOfInputs_59 : decode cX3_faultOfInputs 59 = .ok (.goto (-55), 3) := by decide +kernel
theorem dX3_faultOfInputs_62 : decode cX3_faultOfInputs 62 = .ok (.iload_n 1, 1) := by decide +kernel
theorem dX3_faultOfInputs_63 : decode cX3_faultOfInputs 63 = .ok (.ifCond .eq 7, 3) := by decide +kernel
theorem dX3_faultOfInputs_66 : decode cX3_faultOfInputs 66 = .ok (.iload_n 2, 1) := by decide +kernel
theorem dX3_faultOfInputs_67 : decode cX3_faultOfInputs 67 = .ok (.ifCond .ne 7, 3) := by decide +kernel
theorem dX3_faultOfInputs_70 : decode cX3_faultOfInputs 70 = .ok (.iload_n 1, 1) := by decide +kernel
theorem dX3_faultOfInputs_71 : decode cX3_faultOfInputs 71 = .ok (.goto 4, 3) := by decide +kernel
theorem dX3_faultOfInputs_74 : decode cX3_faultOfInputs 74 = .ok (.iconst (-1), 1) := by decide +kernel
theorem dX3_faultOfInputs_75 : decode cX3_faultOfInputs 75 = .ok (.ireturn, 1) := by decide +kernel
set_option maxRecDepth 20000 in
theorem ggX3_readCommands_X3_placeOf : GoodIn wsX3_readCommands wsX3_placeOf := goodIn_r _ [8, 9, 10, 11, 12, 13, 14, 15, 16, 17, 18, 19, 20, 21, 22, 23, 24, 25, 26, 27, 28, 29, 30, 31, 32, 33, 34, 35, 36, 37, 38, 39, 40, 41, 42, 43, 44, 45, 46, 47, 48, 49, 50, 51, 52, 53, 54, 55, 56, 57, 66, 67] (by decide +kernel) (by decide +kernel)
set_option maxRecDepth 20000 in
theorem gX3_readCommands_X3_placeOf : GoodIn wsX3_readCommands (va_wsS RX3 28 yX3_placeOf wsX3_placeOf) := goodIn_app (goodIn_of _ (by decide +kernel)) ggX3_readCommands_X3_placeOf
set_option maxRecDepth 20000 in
theorem ggX3_readCommands_X3_isDigit : GoodIn wsX3_readCommands wsX3_isDigit := goodIn_r _ [60] (by decide +kernel) (by decide +kernel)
set_option maxRecDepth 20000 in
theorem gX3_readCommands_X3_isDigit : GoodIn wsX3_readCommands (va_wsS RX3 36 yX3_isDigit wsX3_isDigit) := goodIn_app (goodIn_of _ (by decide +kernel)) ggX3_readCommands_X3_isDigit
theorem dX3_readCommands_0 : decode cX3_readCommands 0 = .ok (.iconst 0, 1) := by decide +kernel
theorem dX3_readCommands_1 : decode cX3_readCommands 1 = .ok (.istore_n 2, 1) := by decide +kernel
theorem dX3_readCommands_2 : decode cX3_readCommands 2 = .ok (.iconst 0, 1) := by decide +kernel
theorem dX3_readCommands_3 : decode cX3_readCommands 3 = .ok (.istore_n 3, 1) := by decide +kernel
theorem dX3_readCommands_4 : decode cX3_readCommands 4 = .ok (.aload_n 0, 1) := by decide +kernel
theorem dX3_readCommands_5 : decode cX3_readCommands 5 = .ok (.iconst 0, 1) := by decide +kernel
theorem dX3_readCommands_6 : decode cX3_readCommands 6 = .ok (.putfield 42, 3) := by decide +kernel
theorem dX3_readCommands_9 : decode cX3_readCommands 9 = .ok (.iload_n 3, 1) := by decide +kernel
theorem dX3_readCommands_10 : decode cX3_readCommands 10 = .ok (.iload_n 1, 1) := by decide +kernel
theorem dX3_readCommands_11 : decode cX3_readCommands 11 = .ok (.if_icmp .ge 124, 3) := by decide +kernel
theorem dX3_readCommands_14 : decode cX3_readCommands 14 = .ok (.aload_n 0, 1) := by decide +kernel
theorem dX3_readCommands_15 : decode cX3_readCommands 15 = .ok (.getfield 42, 3) := by decide +kernel
theorem dX3_readCommands_18 : decode cX3_readCommands 18 = .ok (.bipush 20, 2) := by decide +kernel
theorem dX3_readCommands_20 : decode cX3_readCommands 20 = .ok (.if_icmp .ge 115, 3) := by decide +kernel
theorem dX3_readCommands_23 : decode cX3_readCommands 23 = .ok (.aload_n 0, 1) := by decide +kernel
theorem dX3_readCommands_24 : decode cX3_readCommands 24 = .ok (.getfield 9, 3) := by decide +kernel
theorem dX3_readCommands_27 : decode cX3_readCommands 27 = .ok (.iload_n 3, 1) := by decide +kernel
theorem dX3_readCommands_28 : decode cX3_readCommands 28 = .ok (.caload, 1) := by decide +kernel
theorem dX3_readCommands_29 : decode cX3_readCommands 29 = .ok (.ldc 40, 2) := by decide +kernel
theorem dX3_readCommands_31 : decode cX3_readCommands 31 = .ok (.invokestatic 28, 3) := by decide +kernel
theorem dX3_readCommands_34 : decode cX3_readCommands 34 = .ok (.istore 4, 2) := by decide +kernel
theorem dX3_readCommands_36 : decode cX3_readCommands 36 = .ok (.aload_n 0, 1) := by decide +kernel
theorem dX3_readCommands_37 : decode cX3_readCommands 37 = .ok (.getfield 15, 3) := by decide +kernel
theorem dX3_readCommands_40 : decode cX3_readCommands 40 = .ok (.aload_n 0, 1) := by decide +kernel
theorem dX3_readCommands_41 : decode cX3_readCommands 41 = .ok (.getfield 42, 3) := by decide +kernel
theorem dX3_readCommands_44 : decode cX3_readCommands 44 = .ok (.iload 4, 2) := by decide +kernel
theorem dX3_readCommands_46 : decode cX3_readCommands 46 = .ok (.ifCond .ge 7, 3) := by decide +kernel
theorem dX3_readCommands_49 : decode cX3_readCommands 49 = .ok (.iconst 0, 1) := by decide +kernel
theorem dX3_readCommands_50 : decode cX3_readCommands 50 = .ok (.goto 9, 3) := by decide +kernel
theorem dX3_readCommands_53 : decode cX3_readCommands 53 = .ok (.getstatic 45, 3) := by decide +kernel
theorem dX3_readCommands_56 : decode cX3_readCommands 56 = .ok (.iload 4, 2) := by decide +kernel
theorem dX3_readCommands_58 : decode cX3_readCommands 58 = .ok (.iaload, 1) := by decide +kernel
theorem dX3_readCommands_59 : decode cX3_readCommands 59 = .ok (.iastore, 1) := by decide +kernel
theorem dX3_readCommands_60 : decode cX3_readCommands 60 = .ok (.iinc 3 1, 3) := by decide +kernel
theorem dX3_readCommands_63 : decode cX3_readCommands 63 = .ok (.iconst 0, 1) := by decide +kernel
theorem dX3_readCommands_64 : decode cX3_readCommands 64 = .ok (.istore 5, 2) := by decide +kernel
theorem dX3_readCommands_66 : decode cX3_readCommands 66 = .ok (.iload_n 3, 1) := by decide +kernel
theorem dX3_readCommands_67 : decode cX3_readCommands 67 = .ok (.iload_n 1, 1) := by decide +kernel
theorem dX3_readCommands_68 : decode cX3_readCommands 68 = .ok (.if_icmp .ge 38, 3) := by decide +kernel
theorem dX3_readCommands_71 : decode cX3_readCommands 71 = .ok (.aload_n 0, 1) := by decide +kernel
theorem dX3_readCommands_72 : decode cX3_readCommands 72 = .ok (.getfield 9, 3) := by decide +kernel
theorem dX3_readCommands_75 : decode cX3_readCommands 75 = .ok (.iload_n 3, 1) := by decide +kernel
theorem dX3_readCommands_76 : decode cX3_readCommands 76 = .ok (.caload, 1) := by decide +kernel
theorem dX3_readCommands_77 : decode cX3_readCommands 77 = .ok (.invokestatic 36, 3) := by decide +kernel
theorem dX3_readCommands_80 : decode cX3_readCommands 80 = .ok (.ifCond .eq 26, 3) := by decide +kernel
theorem dX3_readCommands_83 : decode cX3_readCommands 83 = .ok (.iload 5, 2) := by decide +kernel
theorem dX3_readCommands_85 : decode cX3_readCommands 85 = .ok (.bipush 10, 2) := by decide +kernel
theorem dX3_readCommands_87 : decode cX3_readCommands 87 = .ok (.imul, 1) := by decide +kernel
theorem dX3_readCommands_88 : decode cX3_readCommands 88 = .ok (.aload_n 0, 1) := by decide +kernel
theorem dX3_readCommands_89 : decode cX3_readCommands 89 = .ok (.getfield 9, 3) := by decide +kernel
theorem dX3_readCommands_92 : decode cX3_readCommands 92 = .ok (.iload_n 3, 1) := by decide +kernel
theorem dX3_readCommands_93 : decode cX3_readCommands 93 = .ok (.caload, 1) := by decide +kernel
theorem dX3_readCommands_94 : decode cX3_readCommands 94 = .ok (.iadd, 1) := by decide +kernel
theorem dX3_readCommands_95 : decode cX3_readCommands 95 = .ok (.bipush 48, 2) := by decide +kernel
theorem dX3_readCommands_97 : decode cX3_readCommands 97 = .ok (.isub, 1) := by decide +kernel
theorem dX3_readCommands_98 : decode cX3_readCommands 98 = .ok (.istore 5, 2) := by decide +kernel
theorem dX3_readCommands_100 : decode cX3_readCommands 100 = .ok (.iinc 3 1, 3) := by decide +kernel
theorem dX3_readCommands_103 : decode cX3_readCommands 103 = .ok (.goto (-37), 3) := by decide +kernel
theorem dX3_readCommands_106 : decode cX3_readCommands 106 = .ok (.aload_n 0, 1) := by decide +kernel
theorem dX3_readCommands_107 : decode cX3_readCommands 107 = .ok (.getfield 19, 3) := by decide +kernel
theorem dX3_readCommands_110 : decode cX3_readCommands 110 = .ok (.aload_n 0, 1) := by decide +kernel
theorem dX3_readCommands_111 : decode cX3_readCommands 111 = .ok (.getfield 42, 3) := by decide +kernel
theorem dX3_readCommands_114 : decode cX3_readCommands 114 = .ok (.iload 5, 2) := by decide +kernel
theorem dX3_readCommands_116 : decode cX3_readCommands 116 = .ok (.iastore, 1) := by decide +kernel
theorem dX3_readCommands_117 : decode cX3_readCommands 117 = .ok (.aload_n 0, 1) := by decide +kernel
theorem dX3_readCommands_118 : decode cX3_readCommands 118 = .ok (.dup, 1) := by decide +kernel
theorem dX3_readCommands_119 : decode cX3_readCommands 119 = .ok (.getfield 42, 3) := by decide +kernel
theorem dX3_readCommands_122 : decode cX3_readCommands 122 = .ok (.iconst 1, 1) := by decide +kernel
theorem dX3_readCommands_123 : decode cX3_readCommands 123 = .ok (.iadd, 1) := by decide +kernel
theorem dX3_readCommands_124 : decode cX3_readCommands 124 = .ok (.putfield 42, 3) := by decide +kernel
theorem dX3_readCommands_127 : decode cX3_readCommands 127 = .ok (.iload_n 2, 1) := by decide +kernel
theorem dX3_readCommands_128 : decode cX3_readCommands 128 = .ok (.iload 5, 2) := by decide +kernel
theorem dX3_readCommands_130 : decode cX3_readCommands 130 = .ok (.iadd, 1) := by decide +kernel
theorem dX3_readCommands_131 : decode cX3_readCommands 131 = .ok (.istore_n 2, 1) := by decide +kernel
theorem dX3_readCommands_132 : decode cX3_readCommands 132 = .ok (.goto (-123), 3) := by decide +kernel
theorem dX3_readCommands_135 : decode cX3_readCommands 135 = .ok (.iload_n 2, 1) := by decide +kernel
theorem dX3_readCommands_136 : decode cX3_readCommands 136 = .ok (.ireturn, 1) := by decide +kernel
set_option maxRecDepth 20000 in
theorem ggX3_placeOf_J0_length_8abf5 : GoodIn wsX3_placeOf wsJ0_length_8abf5 := goodIn_r _ [5, 6, 7, 8, 9, 4, 10, 11, 12, 50, 51] (by decide +kernel) (by decide +kernel)
set_option maxRecDepth 20000 in
theorem gX3_placeOf_J0_length_8abf5 : GoodIn wsX3_placeOf (wsV RX3 48 RJ0 yJ0_length_8abf5 wsJ0_length_8abf5) := goodIn_app (goodIn_of _ (by decide +kernel)) ggX3_placeOf_J0_length_8abf5
set_option maxRecDepth 20000 in
theorem ggX3_placeOf_J0_charAt_5068e : GoodIn wsX3_placeOf wsJ0_charAt_5068e := goodIn_r _ [16, 6, 17, 18, 19, 4, 20, 11, 12, 21, 22, 23, 24, 25, 26, 27, 28, 29, 30, 31, 32, 33, 34, 35, 36, 37, 38, 39, 40, 41, 42, 43, 44, 45, 46, 47, 48, 49, 50, 51] (by decide +kernel) (by decide +kernel)
set_option maxRecDepth 20000 in
theorem gX3_placeOf_J0_charAt_5068e : GoodIn wsX3_placeOf (wsV RX3 53 RJ0 yJ0_charAt_5068e wsJ0_charAt_5068e) := goodIn_app (goodIn_of _ (by decide +kernel)) ggX3_placeOf_J0_charAt_5068e
theorem dX3_placeOf_0 : decode cX3_placeOf 0 = .ok (.iconst 0, 1) := by decide +kernel
theorem dX3_placeOf_1 : decode cX3_placeOf 1 = .ok (.istore_n 2, 1) := by decide +kernel
theorem dX3_placeOf_2 : decode cX3_placeOf 2 = .ok (.iload_n 2, 1) := by decide +kernel
theorem dX3_placeOf_3 : decode cX3_placeOf 3 = .ok (.aload_n 1, 1) := by decide +kernel
theorem dX3_placeOf_4 : decode cX3_placeOf 4 = .ok (.invokevirtual 48, 3) := by decide +kernel
theorem dX3_placeOf_7 : decode cX3_placeOf 7 = .ok (.if_icmp .ge 20, 3) := by decide +kernel
theorem dX3_placeOf_10 : decode cX3_placeOf 10 = .ok (.aload_n 1, 1) := by decide +kernel
theorem dX3_placeOf_11 : decode cX3_placeOf 11 = .ok (.iload_n 2, 1) := by decide +kernel
theorem dX3_placeOf_12 : decode cX3_placeOf 12 = .ok (.invokevirtual 53, 3) := by decide +kernel
theorem dX3_placeOf_15 : decode cX3_placeOf 15 = .ok (.iload_n 0, 1) := by decide +kernel
theorem dX3_placeOf_16 : decode cX3_placeOf 16 = .ok (.if_icmp .ne 5, 3) := by decide +kernel
theorem dX3_placeOf_19 : decode cX3_placeOf 19 = .ok (.iload_n 2, 1) := by decide +kernel
theorem dX3_placeOf_20 : decode cX3_placeOf 20 = .ok (.ireturn, 1) := by decide +kernel
theorem dX3_placeOf_21 : decode cX3_placeOf 21 = .ok (.iinc 2 1, 3) := by decide +kernel
theorem dX3_placeOf_24 : decode cX3_placeOf 24 = .ok (.goto (-22), 3) := by decide +kernel
theorem dX3_placeOf_27 : decode cX3_placeOf 27 = .ok (.iconst (-1), 1) := by decide +kernel
theorem dX3_placeOf_28 : decode cX3_placeOf 28 = .ok (.ireturn, 1) := by decide +kernel
theorem dX3_isDigit_0 : decode cX3_isDigit 0 = .ok (.iload_n 0, 1) := by decide +kernel
theorem dX3_isDigit_1 : decode cX3_isDigit 1 = .ok (.bipush 48, 2) := by decide +kernel
theorem dX3_isDigit_3 : decode cX3_isDigit 3 = .ok (.if_icmp .lt 13, 3) := by decide +kernel
theorem dX3_isDigit_6 : decode cX3_isDigit 6 = .ok (.iload_n 0, 1) := by decide +kernel
theorem dX3_isDigit_7 : decode cX3_isDigit 7 = .ok (.bipush 57, 2) := by decide +kernel
theorem dX3_isDigit_9 : decode cX3_isDigit 9 = .ok (.if_icmp .gt 7, 3) := by decide +kernel
theorem dX3_isDigit_12 : decode cX3_isDigit 12 = .ok (.iconst 1, 1) := by decide +kernel
theorem dX3_isDigit_13 : decode cX3_isDigit 13 = .ok (.goto 4, 3) := by decide +kernel
theorem dX3_isDigit_16 : decode cX3_isDigit 16 = .ok (.iconst 0, 1) := by decide +kernel
theorem dX3_isDigit_17 : decode cX3_isDigit 17 = .ok (.ireturn, 1) := by decide +kernel
theorem dX4_init_0 : decode cX4_init 0 = .ok (.aload_n 0, 1) := by decide +kernel
theorem dX4_init_1 : decode cX4_init 1 = .ok (.invokespecial 3, 3) := by decide +kernel
theorem dX4_init_4 : decode cX4_init 4 = .ok (.aload_n 0, 1) := by decide +kernel
theorem dX4_init_5 : decode cX4_init 5 = .ok (.sipush 336, 3) := by decide +kernel
theorem dX4_init_8 : decode cX4_init 8 = .ok (.newarray .int, 2) := by decide +kernel
theorem dX4_init_10 : decode cX4_init 10 = .ok (.putfield 9, 3) := by decide +kernel
theorem dX4_init_13 : decode cX4_init 13 = .ok (.return_, 1) := by decide +kernel
theorem dX4_copyFrom_0 : decode cX4_copyFrom 0 = .ok (.aload_n 1, 1) := by decide +kernel
theorem dX4_copyFrom_1 : decode cX4_copyFrom 1 = .ok (.getfield 9, 3) := by decide +kernel
theorem dX4_copyFrom_4 : decode cX4_copyFrom 4 = .ok (.iconst 0, 1) := by decide +kernel
theorem dX4_copyFrom_5 : decode cX4_copyFrom 5 = .ok (.aload_n 0, 1) := by decide +kernel
theorem dX4_copyFrom_6 : decode cX4_copyFrom 6 = .ok (.getfield 9, 3) := by decide +kernel
theorem dX4_copyFrom_9 : decode cX4_copyFrom 9 = .ok (.iconst 0, 1) := by decide +kernel
theorem dX4_copyFrom_10 : decode cX4_copyFrom 10 = .ok (.sipush 336, 3) := by decide +kernel
theorem dX4_copyFrom_13 : decode cX4_copyFrom 13 = .ok (.invokestatic 15, 3) := by decide +kernel
theorem dX4_copyFrom_16 : decode cX4_copyFrom 16 = .ok (.return_, 1) := by decide +kernel
theorem dX4_kindAt_0 : decode cX4_kindAt 0 = .ok (.iload_n 1, 1) := by decide +kernel
theorem dX4_kindAt_1 : decode cX4_kindAt 1 = .ok (.ifCond .lt 9, 3) := by decide +kernel
theorem dX4_kindAt_4 : decode cX4_kindAt 4 = .ok (.iload_n 1, 1) := by decide +kernel
theorem dX4_kindAt_5 : decode cX4_kindAt 5 = .ok (.bipush 24, 2) := by decide +kernel
theorem dX4_kindAt_7 : decode cX4_kindAt 7 = .ok (.if_icmp .lt 5, 3) := by decide +kernel
theorem dX4_kindAt_10 : decode cX4_kindAt 10 = .ok (.iconst 1, 1) := by decide +kernel
theorem dX4_kindAt_11 : decode cX4_kindAt 11 = .ok (.ireturn, 1) := by decide +kernel
theorem dX4_kindAt_12 : decode cX4_kindAt 12 = .ok (.iload_n 2, 1) := by decide +kernel
theorem dX4_kindAt_13 : decode cX4_kindAt 13 = .ok (.ifCond .lt 9, 3) := by decide +kernel
theorem dX4_kindAt_16 : decode cX4_kindAt 16 = .ok (.iload_n 2, 1) := by decide +kernel
theorem dX4_kindAt_17 : decode cX4_kindAt 17 = .ok (.bipush 14, 2) := by decide +kernel
theorem dX4_kindAt_19 : decode cX4_kindAt 19 = .ok (.if_icmp .lt 5, 3) := by decide +kernel
theorem dX4_kindAt_22 : decode cX4_kindAt 22 = .ok (.iconst 0, 1) := by decide +kernel
theorem dX4_kindAt_23 : decode cX4_kindAt 23 = .ok (.ireturn, 1) := by decide +kernel
theorem dX4_kindAt_24 : decode cX4_kindAt 24 = .ok (.aload_n 0, 1) := by decide +kernel
theorem dX4_kindAt_25 : decode cX4_kindAt 25 = .ok (.getfield 9, 3) := by decide +kernel
theorem dX4_kindAt_28 : decode cX4_kindAt 28 = .ok (.iload_n 2, 1) := by decide +kernel
theorem dX4_kindAt_29 : decode cX4_kindAt 29 = .ok (.bipush 24, 2) := by decide +kernel
theorem dX4_kindAt_31 : decode cX4_kindAt 31 = .ok (.imul, 1) := by decide +kernel
theorem dX4_kindAt_32 : decode cX4_kindAt 32 = .ok (.iload_n 1, 1) := by decide +kernel
theorem dX4_kindAt_33 : decode cX4_kindAt 33 = .ok (.iadd, 1) := by decide +kernel
theorem dX4_kindAt_34 : decode cX4_kindAt 34 = .ok (.iaload, 1) := by decide +kernel
theorem dX4_kindAt_35 : decode cX4_kindAt 35 = .ok (.ireturn, 1) := by decide +kernel
set_option maxRecDepth 20000 in
theorem ggX4_put_X6_isTile : GoodIn wsX4_put wsX6_isTile := goodIn_r _ [4, 5, 6, 3, 7] (by decide +kernel) (by decide +kernel)
set_option maxRecDepth 20000 in
theorem gX4_put_X6_isTile_n21 : GoodIn wsX4_put (wsX6_isTile) := ggX4_put_X6_isTile
theorem dX4_put_0 : decode cX4_put 0 = .ok (.iload_n 1, 1) := by decide +kernel
theorem dX4_put_1 : decode cX4_put 1 = .ok (.iload_n 2, 1) := by decide +kernel
theorem dX4_put_2 : decode cX4_put 2 = .ok (.invokestatic 21, 3) := by decide +kernel
theorem dX4_put_5 : decode cX4_put 5 = .ok (.ifCond .eq 15, 3) := by decide +kernel
theorem dX4_put_8 : decode cX4_put 8 = .ok (.aload_n 0, 1) := by decide +kernel
theorem dX4_put_9 : decode cX4_put 9 = .ok (.getfield 9, 3) := by decide +kernel
theorem dX4_put_12 : decode cX4_put 12 = .ok (.iload_n 2, 1) := by decide +kernel
theorem dX4_put_13 : decode cX4_put 13 = .ok (.bipush 24, 2) := by decide +kernel
theorem dX4_put_15 : decode cX4_put 15 = .ok (.imul, 1) := by decide +kernel
theorem dX4_put_16 : decode cX4_put 16 = .ok (.iload_n 1, 1) := by decide +kernel
theorem dX4_put_17 : decode cX4_put 17 = .ok (.iadd, 1) := by decide +kernel
theorem dX4_put_18 : decode cX4_put 18 = .ok (.iload_n 3, 1) := by decide +kernel
theorem dX4_put_19 : decode cX4_put 19 = .ok (.iastore, 1) := by decide +kernel
theorem dX4_put_20 : decode cX4_put 20 = .ok (.return_, 1) := by decide +kernel
theorem dX4_countOf_0 : decode cX4_countOf 0 = .ok (.iconst 0, 1) := by decide +kernel
theorem dX4_countOf_1 : decode cX4_countOf 1 = .ok (.istore_n 2, 1) := by decide +kernel
theorem dX4_countOf_2 : decode cX4_countOf 2 = .ok (.iconst 0, 1) := by decide +kernel
theorem dX4_countOf_3 : decode cX4_countOf 3 = .ok (.istore_n 3, 1) := by decide +kernel
theorem dX4_countOf_4 : decode cX4_countOf 4 = .ok (.iload_n 3, 1) := by decide +kernel
theorem dX4_countOf_5 : decode cX4_countOf 5 = .ok (.sipush 336, 3) := by decide +kernel
theorem dX4_countOf_8 : decode cX4_countOf 8 = .ok (.if_icmp .ge 22, 3) := by decide +kernel
theorem dX4_countOf_11 : decode cX4_countOf 11 = .ok (.aload_n 0, 1) := by decide +kernel
theorem dX4_countOf_12 : decode cX4_countOf 12 = .ok (.getfield 9, 3) := by decide +kernel
theorem dX4_countOf_15 : decode cX4_countOf 15 = .ok (.iload_n 3, 1) := by decide +kernel
theorem dX4_countOf_16 : decode cX4_countOf 16 = .ok (.iaload, 1) := by decide +kernel
theorem dX4_countOf_17 : decode cX4_countOf 17 = .ok (.iload_n 1, 1) := by decide +kernel
theorem dX4_countOf_18 : decode cX4_countOf 18 = .ok (.if_icmp .ne 6, 3) := by decide +kernel
theorem dX4_countOf_21 : decode cX4_countOf 21 = .ok (.iinc 2 1, 3) := by decide +kernel
theorem dX4_countOf_24 : decode cX4_countOf 24 = .ok (.iinc 3 1, 3) := by decide +kernel
theorem dX4_countOf_27 : decode cX4_countOf 27 = .ok (.goto (-23), 3) := by decide +kernel
theorem dX4_countOf_30 : decode cX4_countOf 30 = .ok (.iload_n 2, 1) := by decide +kernel
theorem dX4_countOf_31 : decode cX4_countOf 31 = .ok (.ireturn, 1) := by decide +kernel
set_option maxRecDepth 20000 in
theorem ggX4_surfaceAt_X4_kindAt : GoodIn wsX4_surfaceAt wsX4_kindAt := goodIn_ca (goodIn_r _ [6, 7, 8] (by decide +kernel) (by decide +kernel)) (goodIn_sub (fun _ h => List.mem_cons_of_mem _ (List.mem_append_right _ h)) (by decide +kernel))
set_option maxRecDepth 20000 in
theorem gX4_surfaceAt_X4_kindAt : GoodIn wsX4_surfaceAt (wsV RX4 25 RX4 yX4_kindAt wsX4_kindAt) := goodIn_app (goodIn_of _ (by decide +kernel)) ggX4_surfaceAt_X4_kindAt
theorem dX4_surfaceAt_0 : decode cX4_surfaceAt 0 = .ok (.iload_n 2, 1) := by decide +kernel
theorem dX4_surfaceAt_1 : decode cX4_surfaceAt 1 = .ok (.iconst 4, 1) := by decide +kernel
theorem dX4_surfaceAt_2 : decode cX4_surfaceAt 2 = .ok (.ishr, 1) := by decide +kernel
theorem dX4_surfaceAt_3 : decode cX4_surfaceAt 3 = .ok (.istore_n 3, 1) := by decide +kernel
theorem dX4_surfaceAt_4 : decode cX4_surfaceAt 4 = .ok (.aload_n 0, 1) := by decide +kernel
theorem dX4_surfaceAt_5 : decode cX4_surfaceAt 5 = .ok (.iload_n 1, 1) := by decide +kernel
theorem dX4_surfaceAt_6 : decode cX4_surfaceAt 6 = .ok (.iconst 4, 1) := by decide +kernel
theorem dX4_surfaceAt_7 : decode cX4_surfaceAt 7 = .ok (.ishr, 1) := by decide +kernel
theorem dX4_surfaceAt_8 : decode cX4_surfaceAt 8 = .ok (.iload_n 3, 1) := by decide +kernel
theorem dX4_surfaceAt_9 : decode cX4_surfaceAt 9 = .ok (.invokevirtual 25, 3) := by decide +kernel
theorem dX4_surfaceAt_12 : decode cX4_surfaceAt 12 = .ok (.istore 4, 2) := by decide +kernel
theorem dX4_surfaceAt_14 : decode cX4_surfaceAt 14 = .ok (.iload 4, 2) := by decide +kernel
theorem dX4_surfaceAt_16 : decode cX4_surfaceAt 16 = .ok (.iconst 3, 1) := by decide +kernel
theorem dX4_surfaceAt_17 : decode cX4_surfaceAt 17 = .ok (.if_icmp .ne 15, 3) := by decide +kernel
theorem dX4_surfaceAt_20 : decode cX4_surfaceAt 20 = .ok (.bipush 16, 2) := by decide +kernel
theorem dX4_surfaceAt_22 : decode cX4_surfaceAt 22 = .ok (.iload_n 3, 1) := by decide +kernel
theorem dX4_surfaceAt_23 : decode cX4_surfaceAt 23 = .ok (.imul, 1) := by decide +kernel
theorem dX4_surfaceAt_24 : decode cX4_surfaceAt 24 = .ok (.iload_n 1, 1) := by decide +kernel
theorem dX4_surfaceAt_25 : decode cX4_surfaceAt 25 = .ok (.bipush 16, 2) := by decide +kernel
theorem dX4_surfaceAt_27 : decode cX4_surfaceAt 27 = .ok (.irem, 1) := by decide +kernel
theorem dX4_surfaceAt_28 : decode cX4_surfaceAt 28 = .ok (.iadd, 1) := by decide +kernel
theorem dX4_surfaceAt_29 : decode cX4_surfaceAt 29 = .ok (.iconst 1, 1) := by decide +kernel
theorem dX4_surfaceAt_30 : decode cX4_surfaceAt 30 = .ok (.iadd, 1) := by decide +kernel
theorem dX4_surfaceAt_31 : decode cX4_surfaceAt 31 = .ok (.ireturn, 1) := by decide +kernel
theorem dX4_surfaceAt_32 : decode cX4_surfaceAt 32 = .ok (.iload 4, 2) := by decide +kernel
theorem dX4_surfaceAt_34 : decode cX4_surfaceAt 34 = .ok (.iconst 4, 1) := by decide +kernel
theorem dX4_surfaceAt_35 : decode cX4_surfaceAt 35 = .ok (.if_icmp .ne 16, 3) := by decide +kernel
theorem dX4_surfaceAt_38 : decode cX4_surfaceAt 38 = .ok (.bipush 16, 2) := by decide +kernel
theorem dX4_surfaceAt_40 : decode cX4_surfaceAt 40 = .ok (.iload_n 3, 1) := by decide +kernel
theorem dX4_surfaceAt_41 : decode cX4_surfaceAt 41 = .ok (.imul, 1) := by decide +kernel
theorem dX4_surfaceAt_42 : decode cX4_surfaceAt 42 = .ok (.bipush 16, 2) := by decide +kernel
theorem dX4_surfaceAt_44 : decode cX4_surfaceAt 44 = .ok (.iadd, 1) := by decide +kernel
theorem dX4_surfaceAt_45 : decode cX4_surfaceAt 45 = .ok (.iload_n 1, 1) := by decide +kernel
theorem dX4_surfaceAt_46 : decode cX4_surfaceAt 46 = .ok (.bipush 16, 2) := by decide +kernel
theorem dX4_surfaceAt_48 : decode cX4_surfaceAt 48 = .ok (.irem, 1) := by decide +kernel
theorem dX4_surfaceAt_49 : decode cX4_surfaceAt 49 = .ok (.isub, 1) := by decide +kernel
theorem dX4_surfaceAt_50 : decode cX4_surfaceAt 50 = .ok (.ireturn, 1) := by decide +kernel
theorem dX4_surfaceAt_51 : decode cX4_surfaceAt 51 = .ok (.ldc 29, 2) := by decide +kernel
theorem dX4_surfaceAt_53 : decode cX4_surfaceAt 53 = .ok (.ireturn, 1) := by decide +kernel
set_option maxRecDepth 20000 in
theorem ggX4_isFree_X4_kindAt : GoodIn wsX4_isFree wsX4_kindAt := goodIn_ca (goodIn_r _ [5, 6, 15] (by decide +kernel) (by decide +kernel)) (goodIn_sub (fun _ h => List.mem_cons_of_mem _ (List.mem_append_right _ h)) (by decide +kernel))
set_option maxRecDepth 20000 in
theorem gX4_isFree_X4_kindAt : GoodIn wsX4_isFree (wsV RX4 25 RX4 yX4_kindAt wsX4_kindAt) := goodIn_app (goodIn_of _ (by decide +kernel)) ggX4_isFree_X4_kindAt
set_option maxRecDepth 20000 in
theorem ggX4_isFree_X6_isFirm : GoodIn wsX4_isFree wsX6_isFirm := goodIn_r _ [9] (by decide +kernel) (by decide +kernel)
set_option maxRecDepth 20000 in
theorem gX4_isFree_X6_isFirm_n30 : GoodIn wsX4_isFree (wsX6_isFirm) := ggX4_isFree_X6_isFirm
set_option maxRecDepth 20000 in
theorem ggX4_isFree_X4_surfaceAt : GoodIn wsX4_isFree wsX4_surfaceAt := goodIn_ca (goodIn_r _ [13, 14, 1, 2, 3, 4, 5, 6, 15] (by decide +kernel) (by decide +kernel)) (goodIn_sub (fun _ h => List.mem_cons_of_mem _ (List.mem_append_right _ h)) (by decide +kernel))
set_option maxRecDepth 20000 in
theorem gX4_isFree_X4_surfaceAt : GoodIn wsX4_isFree (wsV RX4 34 RX4 yX4_surfaceAt wsX4_surfaceAt) := goodIn_app (goodIn_of _ (by decide +kernel)) ggX4_isFree_X4_surfaceAt
theorem dX4_isFree_0 : decode cX4_isFree 0 = .ok (.aload_n 0, 1) := by decide +kernel
theorem dX4_isFree_1 : decode cX4_isFree 1 = .ok (.iload_n 1, 1) := by decide +kernel
theorem dX4_isFree_2 : decode cX4_isFree 2 = .ok (.iconst 4, 1) := by decide +kernel
theorem dX4_isFree_3 : decode cX4_isFree 3 = .ok (.ishr, 1) := by decide +kernel
theorem dX4_isFree_4 : decode cX4_isFree 4 = .ok (.iload_n 2, 1) := by decide +kernel
theorem dX4_isFree_5 : decode cX4_isFree 5 = .ok (.iconst 4, 1) := by decide +kernel
theorem dX4_isFree_6 : decode cX4_isFree 6 = .ok (.ishr, 1) := by decide +kernel
theorem dX4_isFree_7 : decode cX4_isFree 7 = .ok (.invokevirtual 25, 3) := by decide +kernel
theorem dX4_isFree_10 : decode cX4_isFree 10 = .ok (.invokestatic 30, 3) := by decide +kernel
theorem dX4_isFree_13 : decode cX4_isFree 13 = .ok (.ifCond .ne 17, 3) := by decide +kernel
theorem dX4_isFree_16 : decode cX4_isFree 16 = .ok (.iload_n 2, 1) := by decide +kernel
theorem dX4_isFree_17 : decode cX4_isFree 17 = .ok (.aload_n 0, 1) := by decide +kernel
theorem dX4_isFree_18 : decode cX4_isFree 18 = .ok (.iload_n 1, 1) := by decide +kernel
theorem dX4_isFree_19 : decode cX4_isFree 19 = .ok (.iload_n 2, 1) := by decide +kernel
theorem dX4_isFree_20 : decode cX4_isFree 20 = .ok (.invokevirtual 34, 3) := by decide +kernel
theorem dX4_isFree_23 : decode cX4_isFree 23 = .ok (.if_icmp .lt 7, 3) := by decide +kernel
theorem dX4_isFree_26 : decode cX4_isFree 26 = .ok (.iconst 1, 1) := by decide +kernel
theorem dX4_isFree_27 : decode cX4_isFree 27 = .ok (.goto 4, 3) := by decide +kernel
theorem dX4_isFree_30 : decode cX4_isFree 30 = .ok (.iconst 0, 1) := by decide +kernel
theorem dX4_isFree_31 : decode cX4_isFree 31 = .ok (.ireturn, 1) := by decide +kernel
set_option maxRecDepth 20000 in
theorem ggX4_block_X0_lastColumnAt : GoodIn wsX4_block wsX0_lastColumnAt := goodIn_r _ [5, 6, 30, 31, 32, 33, 34, 35, 36, 37, 38, 39, 40, 41, 42, 43, 44, 45] (by decide +kernel) (by decide +kernel)
set_option maxRecDepth 20000 in
theorem gX4_block_X0_lastColumnAt : GoodIn wsX4_block (wsV RX4 37 RX0 yX0_lastColumnAt wsX0_lastColumnAt) := goodIn_app (goodIn_of _ (by decide +kernel)) ggX4_block_X0_lastColumnAt
set_option maxRecDepth 20000 in
theorem ggX4_block_X0_lastRowAt : GoodIn wsX4_block wsX0_lastRowAt := goodIn_r _ [10, 11, 30, 31, 32, 33, 34, 35, 36, 37, 38, 39, 40, 41, 42, 43, 44, 45] (by decide +kernel) (by decide +kernel)
set_option maxRecDepth 20000 in
theorem gX4_block_X0_lastRowAt : GoodIn wsX4_block (wsV RX4 43 RX0 yX0_lastRowAt wsX0_lastRowAt) := goodIn_app (goodIn_of _ (by decide +kernel)) ggX4_block_X0_lastRowAt
set_option maxRecDepth 20000 in
theorem ggX4_block_X0_footAt : GoodIn wsX4_block wsX0_footAt := goodIn_r _ [15, 6, 30, 31, 32, 33, 34, 35, 36, 37, 38, 39, 40, 41, 42, 43, 44, 45] (by decide +kernel) (by decide +kernel)
set_option maxRecDepth 20000 in
theorem gX4_block_X0_footAt : GoodIn wsX4_block (wsV RX4 46 RX0 yX0_footAt wsX0_footAt) := goodIn_app (goodIn_of _ (by decide +kernel)) ggX4_block_X0_footAt
set_option maxRecDepth 20000 in
theorem ggX4_block_X4_kindAt : GoodIn wsX4_block wsX4_kindAt := goodIn_ca (goodIn_r _ [20, 21, 46] (by decide +kernel) (by decide +kernel)) (goodIn_sub (fun _ h => List.mem_cons_of_mem _ (List.mem_append_right _ h)) (by decide +kernel))
set_option maxRecDepth 20000 in
theorem gX4_block_X4_kindAt : GoodIn wsX4_block (wsV RX4 25 RX4 yX4_kindAt wsX4_kindAt) := goodIn_app (goodIn_of _ (by decide +kernel)) ggX4_block_X4_kindAt
set_option maxRecDepth 20000 in
theorem ggX4_block_X6_isSlope : GoodIn wsX4_block wsX6_isSlope := goodIn_r _ [24] (by decide +kernel) (by decide +kernel)
set_option maxRecDepth 20000 in
theorem gX4_block_X6_isSlope_n49 : GoodIn wsX4_block (wsX6_isSlope) := ggX4_block_X6_isSlope
set_option maxRecDepth 20000 in
theorem ggX4_block_X6_isFirm : GoodIn wsX4_block wsX6_isFirm := goodIn_r _ [26] (by decide +kernel) (by decide +kernel)
set_option maxRecDepth 20000 in
theorem gX4_block_X6_isFirm_n30 : GoodIn wsX4_block (wsX6_isFirm) := ggX4_block_X6_isFirm
set_option maxRecDepth 20000 in
theorem ggX4_block_X4_isIgnored : GoodIn wsX4_block wsX4_isIgnored := goodIn_r _ [29] (by decide +kernel) (by decide +kernel)
set_option maxRecDepth 20000 in
theorem gX4_block_X4_isIgnored : GoodIn wsX4_block (va_wsS RX4 52 yX4_isIgnored wsX4_isIgnored) := goodIn_app (goodIn_of _ (by decide +kernel)) ggX4_block_X4_isIgnored
theorem dX4_block_0 : decode cX4_block 0 = .ok (.aload_n 1, 1) := by decide +kernel
theorem dX4_block_1 : decode cX4_block 1 = .ok (.iload_n 2, 1) := by decide +kernel
theorem dX4_block_2 : decode cX4_block 2 = .ok (.invokevirtual 37, 3) := by decide +kernel
theorem dX4_block_5 : decode cX4_block 5 = .ok (.istore 4, 2) := by decide +kernel
theorem dX4_block_7 : decode cX4_block 7 = .ok (.aload_n 1, 1) := by decide +kernel
theorem dX4_block_8 : decode cX4_block 8 = .ok (.iload_n 3, 1) := by decide +kernel
theorem dX4_block_9 : decode cX4_block 9 = .ok (.invokevirtual 43, 3) := by decide +kernel
theorem dX4_block_12 : decode cX4_block 12 = .ok (.istore 5, 2) := by decide +kernel
theorem dX4_block_14 : decode cX4_block 14 = .ok (.iload_n 3, 1) := by decide +kernel
theorem dX4_block_15 : decode cX4_block 15 = .ok (.iconst 4, 1) := by decide +kernel
theorem dX4_block_16 : decode cX4_block 16 = .ok (.ishr, 1) := by decide +kernel
theorem dX4_block_17 : decode cX4_block 17 = .ok (.istore 6, 2) := by decide +kernel
theorem dX4_block_19 : decode cX4_block 19 = .ok (.aload_n 0, 1) := by decide +kernel
theorem dX4_block_20 : decode cX4_block 20 = .ok (.aload_n 1, 1) := by decide +kernel
theorem dX4_block_21 : decode cX4_block 21 = .ok (.iload_n 2, 1) := by decide +kernel
theorem dX4_block_22 : decode cX4_block 22 = .ok (.invokevirtual 46, 3) := by decide +kernel
theorem dX4_block_25 : decode cX4_block 25 = .ok (.iconst 4, 1) := by decide +kernel
theorem dX4_block_26 : decode cX4_block 26 = .ok (.ishr, 1) := by decide +kernel
theorem dX4_block_27 : decode cX4_block 27 = .ok (.iload 6, 2) := by decide +kernel
theorem dX4_block_29 : decode cX4_block 29 = .ok (.invokevirtual 25, 3) := by decide +kernel
theorem dX4_block_32 : decode cX4_block 32 = .ok (.invokestatic 49, 3) := by decide +kernel
theorem dX4_block_35 : decode cX4_block 35 = .ok (.ifCond .eq 8, 3) := by decide +kernel
theorem dX4_block_38 : decode cX4_block 38 = .ok (.iload 6, 2) := by decide +kernel
theorem dX4_block_40 : decode cX4_block 40 = .ok (.goto 4, 3) := by decide +kernel
theorem dX4_block_43 : decode cX4_block 43 = .ok (.iconst (-1), 1) := by decide +kernel
theorem dX4_block_44 : decode cX4_block 44 = .ok (.istore 7, 2) := by decide +kernel
theorem dX4_block_46 : decode cX4_block 46 = .ok (.iload_n 2, 1) := by decide +kernel
theorem dX4_block_47 : decode cX4_block 47 = .ok (.iconst 4, 1) := by decide +kernel
theorem dX4_block_48 : decode cX4_block 48 = .ok (.ishr, 1) := by decide +kernel
theorem dX4_block_49 : decode cX4_block 49 = .ok (.istore 8, 2) := by decide +kernel
theorem dX4_block_51 : decode cX4_block 51 = .ok (.iload 8, 2) := by decide +kernel
theorem dX4_block_53 : decode cX4_block 53 = .ok (.iload 4, 2) := by decide +kernel
theorem dX4_block_55 : decode cX4_block 55 = .ok (.if_icmp .gt 54, 3) := by decide +kernel
theorem dX4_block_58 : decode cX4_block 58 = .ok (.iload 6, 2) := by decide +kernel
theorem dX4_block_60 : decode cX4_block 60 = .ok (.istore 9, 2) := by decide +kernel
theorem dX4_block_62 : decode cX4_block 62 = .ok (.iload 9, 2) := by decide +kernel
theorem dX4_block_64 : decode cX4_block 64 = .ok (.iload 5, 2) := by decide +kernel
theorem dX4_block_66 : decode cX4_block 66 = .ok (.if_icmp .gt 37, 3) := by decide +kernel
theorem dX4_block_69 : decode cX4_block 69 = .ok (.aload_n 0, 1) := by decide +kernel
theorem dX4_block_70 : decode cX4_block 70 = .ok (.iload 8, 2) := by decide +kernel
theorem dX4_block_72 : decode cX4_block 72 = .ok (.iload 9, 2) := by decide +kernel
theorem dX4_block_74 : decode cX4_block 74 = .ok (.invokevirtual 25, 3) := by decide +kernel
theorem dX4_block_77 : decode cX4_block 77 = .ok (.invokestatic 30, 3) := by decide +kernel
theorem dX4_block_80 : decode cX4_block 80 = .ok (.ifCond .eq 17, 3) := by decide +kernel
theorem dX4_block_83 : decode cX4_block 83 = .ok (.iload 8, 2) := by decide +kernel
theorem dX4_block_85 : decode cX4_block 85 = .ok (.iload 9, 2) := by decide +kernel
theorem dX4_block_87 : decode cX4_block 87 = .ok (.iload 7, 2) := by decide +kernel
theorem dX4_block_89 : decode cX4_block 89 = .ok (.invokestatic 52, 3) := by decide +kernel
theorem dX4_block_92 : decode cX4_block 92 = .ok (.ifCond .ne 5, 3) := by decide +kernel
theorem dX4_block_95 : decode cX4_block 95 = .ok (.iconst 1, 1) := by decide +kernel
theorem dX4_block_96 : decode cX4_block 96 = .ok (.ireturn, 1) := by decide +kernel
theorem dX4_block_97 : decode cX4_block 97 = .ok (.iinc 9 1, 3) := by decide +kernel
theorem dX4_block_100 : decode cX4_block 100 = .ok (.goto (-38), 3) := by decide +kernel
theorem dX4_block_103 : decode cX4_block 103 = .ok (.iinc 8 1, 3) := by decide +kernel
theorem dX4_block_106 : decode cX4_block 106 = .ok (.goto (-55), 3) := by decide +kernel
theorem dX4_block_109 : decode cX4_block 109 = .ok (.iconst 0, 1) := by decide +kernel
theorem dX4_block_110 : decode cX4_block 110 = .ok (.ireturn, 1) := by decide +kernel
set_option maxRecDepth 20000 in
theorem ggX4_firmKindsBelow_X0_lastColumnAt : GoodIn wsX4_firmKindsBelow wsX0_lastColumnAt := goodIn_r _ [5, 6, 25, 26, 27, 28, 29, 30, 31, 32, 33, 34, 35, 36, 37, 38, 39, 40] (by decide +kernel) (by decide +kernel)
set_option maxRecDepth 20000 in
theorem gX4_firmKindsBelow_X0_lastColumnAt : GoodIn wsX4_firmKindsBelow (wsV RX4 37 RX0 yX0_lastColumnAt wsX0_lastColumnAt) := goodIn_app (goodIn_of _ (by decide +kernel)) ggX4_firmKindsBelow_X0_lastColumnAt
set_option maxRecDepth 20000 in
theorem ggX4_firmKindsBelow_X0_footAt : GoodIn wsX4_firmKindsBelow wsX0_footAt := goodIn_r _ [10, 6, 25, 26, 27, 28, 29, 30, 31, 32, 33, 34, 35, 36, 37, 38, 39, 40] (by decide +kernel) (by decide +kernel)
set_option maxRecDepth 20000 in
theorem gX4_firmKindsBelow_X0_footAt : GoodIn wsX4_firmKindsBelow (wsV RX4 46 RX0 yX0_footAt wsX0_footAt) := goodIn_app (goodIn_of _ (by decide +kernel)) ggX4_firmKindsBelow_X0_footAt
set_option maxRecDepth 20000 in
theorem ggX4_firmKindsBelow_X4_kindAt : GoodIn wsX4_firmKindsBelow wsX4_kindAt := goodIn_ca (goodIn_r _ [15, 16, 41] (by decide +kernel) (by decide +kernel)) (goodIn_sub (fun _ h => List.mem_cons_of_mem _ (List.mem_append_right _ h)) (by decide +kernel))
set_option maxRecDepth 20000 in
theorem gX4_firmKindsBelow_X4_kindAt : GoodIn wsX4_firmKindsBelow (wsV RX4 25 RX4 yX4_kindAt wsX4_kindAt) := goodIn_app (goodIn_of _ (by decide +kernel)) ggX4_firmKindsBelow_X4_kindAt
set_option maxRecDepth 20000 in
theorem ggX4_firmKindsBelow_X6_isSlope : GoodIn wsX4_firmKindsBelow wsX6_isSlope := goodIn_r _ [19] (by decide +kernel) (by decide +kernel)
set_option maxRecDepth 20000 in
theorem gX4_firmKindsBelow_X6_isSlope_n49 : GoodIn wsX4_firmKindsBelow (wsX6_isSlope) := ggX4_firmKindsBelow_X6_isSlope
set_option maxRecDepth 20000 in
theorem ggX4_firmKindsBelow_X6_isFirm : GoodIn wsX4_firmKindsBelow wsX6_isFirm := goodIn_r _ [21] (by decide +kernel) (by decide +kernel)
set_option maxRecDepth 20000 in
theorem gX4_firmKindsBelow_X6_isFirm_n30 : GoodIn wsX4_firmKindsBelow (wsX6_isFirm) := ggX4_firmKindsBelow_X6_isFirm
set_option maxRecDepth 20000 in
theorem ggX4_firmKindsBelow_X4_isIgnored : GoodIn wsX4_firmKindsBelow wsX4_isIgnored := goodIn_r _ [24] (by decide +kernel) (by decide +kernel)
set_option maxRecDepth 20000 in
theorem gX4_firmKindsBelow_X4_isIgnored : GoodIn wsX4_firmKindsBelow (va_wsS RX4 52 yX4_isIgnored wsX4_isIgnored) := goodIn_app (goodIn_of _ (by decide +kernel)) ggX4_firmKindsBelow_X4_isIgnored
theorem dX4_firmKindsBelow_0 : decode cX4_firmKindsBelow 0 = .ok (.aload_n 1, 1) := by decide +kernel
theorem dX4_firmKindsBelow_1 : decode cX4_firmKindsBelow 1 = .ok (.iload_n 2, 1) := by decide +kernel
theorem dX4_firmKindsBelow_2 : decode cX4_firmKindsBelow 2 = .ok (.invokevirtual 37, 3) := by decide +kernel
theorem dX4_firmKindsBelow_5 : decode cX4_firmKindsBelow 5 = .ok (.istore 4, 2) := by decide +kernel
theorem dX4_firmKindsBelow_7 : decode cX4_firmKindsBelow 7 = .ok (.iload_n 3, 1) := by decide +kernel
theorem dX4_firmKindsBelow_8 : decode cX4_firmKindsBelow 8 = .ok (.iconst 1, 1) := by decide +kernel
theorem dX4_firmKindsBelow_9 : decode cX4_firmKindsBelow 9 = .ok (.isub, 1) := by decide +kernel
theorem dX4_firmKindsBelow_10 : decode cX4_firmKindsBelow 10 = .ok (.iconst 4, 1) := by decide +kernel
theorem dX4_firmKindsBelow_11 : decode cX4_firmKindsBelow 11 = .ok (.ishr, 1) := by decide +kernel
theorem dX4_firmKindsBelow_12 : decode cX4_firmKindsBelow 12 = .ok (.istore 5, 2) := by decide +kernel
theorem dX4_firmKindsBelow_14 : decode cX4_firmKindsBelow 14 = .ok (.iload_n 3, 1) := by decide +kernel
theorem dX4_firmKindsBelow_15 : decode cX4_firmKindsBelow 15 = .ok (.iconst 4, 1) := by decide +kernel
theorem dX4_firmKindsBelow_16 : decode cX4_firmKindsBelow 16 = .ok (.ishr, 1) := by decide +kernel
theorem dX4_firmKindsBelow_17 : decode cX4_firmKindsBelow 17 = .ok (.istore 6, 2) := by decide +kernel
theorem dX4_firmKindsBelow_19 : decode cX4_firmKindsBelow 19 = .ok (.aload_n 0, 1) := by decide +kernel
theorem dX4_firmKindsBelow_20 : decode cX4_firmKindsBelow 20 = .ok (.aload_n 1, 1) := by decide +kernel
theorem dX4_firmKindsBelow_21 : decode cX4_firmKindsBelow 21 = .ok (.iload_n 2, 1) := by decide +kernel
theorem dX4_firmKindsBelow_22 : decode cX4_firmKindsBelow 22 = .ok (.invokevirtual 46, 3) := by decide +kernel
theorem dX4_firmKindsBelow_25 : decode cX4_firmKindsBelow 25 = .ok (.iconst 4, 1) := by decide +kernel
theorem dX4_firmKindsBelow_26 : decode cX4_firmKindsBelow 26 = .ok (.ishr, 1) := by decide +kernel
theorem dX4_firmKindsBelow_27 : decode cX4_firmKindsBelow 27 = .ok (.iload 6, 2) := by decide +kernel
theorem dX4_firmKindsBelow_29 : decode cX4_firmKindsBelow 29 = .ok (.invokevirtual 25, 3) := by decide +kernel
theorem dX4_firmKindsBelow_32 : decode cX4_firmKindsBelow 32 = .ok (.invokestatic 49, 3) := by decide +kernel
theorem dX4_firmKindsBelow_35 : decode cX4_firmKindsBelow 35 = .ok (.ifCond .eq 8, 3) := by decide +kernel
theorem dX4_firmKindsBelow_38 : decode cX4_firmKindsBelow 38 = .ok (.iload 6, 2) := by decide +kernel
theorem dX4_firmKindsBelow_40 : decode cX4_firmKindsBelow 40 = .ok (.goto 4, 3) := by decide +kernel
theorem dX4_firmKindsBelow_43 : decode cX4_firmKindsBelow 43 = .ok (.iconst (-1), 1) := by decide +kernel
theorem dX4_firmKindsBelow_44 : decode cX4_firmKindsBelow 44 = .ok (.istore 7, 2) := by decide +kernel
theorem dX4_firmKindsBelow_46 : decode cX4_firmKindsBelow 46 = .ok (.iconst 0, 1) := by decide +kernel
theorem dX4_firmKindsBelow_47 : decode cX4_firmKindsBelow 47 = .ok (.istore 8, 2) := by decide +kernel
theorem dX4_firmKindsBelow_49 : decode cX4_firmKindsBelow 49 = .ok (.iload_n 2, 1) := by decide +kernel
theorem dX4_firmKindsBelow_50 : decode cX4_firmKindsBelow 50 = .ok (.iconst 4, 1) := by decide +kernel
theorem dX4_firmKindsBelow_51 : decode cX4_firmKindsBelow 51 = .ok (.ishr, 1) := by decide +kernel
theorem dX4_firmKindsBelow_52 : decode cX4_firmKindsBelow 52 = .ok (.istore 9, 2) := by decide +kernel
theorem dX4_firmKindsBelow_54 : decode cX4_firmKindsBelow 54 = .ok (.iload 9, 2) := by decide +kernel
theorem dX4_firmKindsBelow_56 : decode cX4_firmKindsBelow 56 = .ok (.iload 4, 2) := by decide +kernel
theorem dX4_firmKindsBelow_58 : decode cX4_firmKindsBelow 58 = .ok (.if_icmp .gt 48, 3) := by decide +kernel
theorem dX4_firmKindsBelow_61 : decode cX4_firmKindsBelow 61 = .ok (.aload_n 0, 1) := by decide +kernel
theorem dX4_firmKindsBelow_62 : decode cX4_firmKindsBelow 62 = .ok (.iload 9, 2) := by decide +kernel
theorem dX4_firmKindsBelow_64 : decode cX4_firmKindsBelow 64 = .ok (.iload 5, 2) := by decide +kernel
theorem dX4_firmKindsBelow_66 : decode cX4_firmKindsBelow 66 = .ok (.invokevirtual 25, 3) := by decide +kernel
theorem dX4_firmKindsBelow_69 : decode cX4_firmKindsBelow 69 = .ok (.istore 10, 2) := by decide +kernel
theorem dX4_firmKindsBelow_71 : decode cX4_firmKindsBelow 71 = .ok (.iload 10, 2) := by decide +kernel
theorem dX4_firmKindsBelow_73 : decode cX4_firmKindsBelow 73 = .ok (.invokestatic 30, 3) := by decide +kernel
theorem dX4_firmKindsBelow_76 : decode cX4_firmKindsBelow 76 = .ok (.ifCond .eq 24, 3) := by decide +kernel
theorem dX4_firmKindsBelow_79 : decode cX4_firmKindsBelow 79 = .ok (.iload 9, 2) := by decide +kernel
theorem dX4_firmKindsBelow_81 : decode cX4_firmKindsBelow 81 = .ok (.iload 5, 2) := by decide +kernel
theorem dX4_firmKindsBelow_83 : decode cX4_firmKindsBelow 83 = .ok (.iload 7, 2) := by decide +kernel
theorem dX4_firmKindsBelow_85 : decode cX4_firmKindsBelow 85 = .ok (.invokestatic 52, 3) := by decide +kernel
theorem dX4_firmKindsBelow_88 : decode cX4_firmKindsBelow 88 = .ok (.ifCond .ne 12, 3) := by decide +kernel
theorem dX4_firmKindsBelow_91 : decode cX4_firmKindsBelow 91 = .ok (.iload 8, 2) := by decide +kernel
theorem dX4_firmKindsBelow_93 : decode cX4_firmKindsBelow 93 = .ok (.iconst 1, 1) := by decide +kernel
theorem dX4_firmKindsBelow_94 : decode cX4_firmKindsBelow 94 = .ok (.iload 10, 2) := by decide +kernel
theorem dX4_firmKindsBelow_96 : decode cX4_firmKindsBelow 96 = .ok (.ishl, 1) := by decide +kernel
theorem dX4_firmKindsBelow_97 : decode cX4_firmKindsBelow 97 = .ok (.ior, 1) := by decide +kernel
theorem dX4_firmKindsBelow_98 : decode cX4_firmKindsBelow 98 = .ok (.istore 8, 2) := by decide +kernel
theorem dX4_firmKindsBelow_100 : decode cX4_firmKindsBelow 100 = .ok (.iinc 9 1, 3) := by decide +kernel
theorem dX4_firmKindsBelow_103 : decode cX4_firmKindsBelow 103 = .ok (.goto (-49), 3) := by decide +kernel
theorem dX4_firmKindsBelow_106 : decode cX4_firmKindsBelow 106 = .ok (.iload 8, 2) := by decide +kernel
theorem dX4_firmKindsBelow_108 : decode cX4_firmKindsBelow 108 = .ok (.ireturn, 1) := by decide +kernel
theorem dX4_isIgnored_0 : decode cX4_isIgnored 0 = .ok (.iload_n 1, 1) := by decide +kernel
theorem dX4_isIgnored_1 : decode cX4_isIgnored 1 = .ok (.iload_n 2, 1) := by decide +kernel
theorem dX4_isIgnored_2 : decode cX4_isIgnored 2 = .ok (.if_icmp .ne 17, 3) := by decide +kernel
theorem dX4_isIgnored_5 : decode cX4_isIgnored 5 = .ok (.iload_n 0, 1) := by decide +kernel
theorem dX4_isIgnored_6 : decode cX4_isIgnored 6 = .ok (.ifCond .lt 13, 3) := by decide +kernel
theorem dX4_isIgnored_9 : decode cX4_isIgnored 9 = .ok (.iload_n 0, 1) := by decide +kernel
theorem dX4_isIgnored_10 : decode cX4_isIgnored 10 = .ok (.bipush 24, 2) := by decide +kernel
theorem dX4_isIgnored_12 : decode cX4_isIgnored 12 = .ok (.if_icmp .ge 7, 3) := by decide +kernel
theorem dX4_isIgnored_15 : decode cX4_isIgnored 15 = .ok (.iconst 1, 1) := by decide +kernel
theorem dX4_isIgnored_16 : decode cX4_isIgnored 16 = .ok (.goto 4, 3) := by decide +kernel
theorem dX4_isIgnored_19 : decode cX4_isIgnored 19 = .ok (.iconst 0, 1) := by decide +kernel
theorem dX4_isIgnored_20 : decode cX4_isIgnored 20 = .ok (.ireturn, 1) := by decide +kernel
set_option maxRecDepth 20000 in
theorem ggX4_haveFloorBelow_X0_lastColumnAt : GoodIn wsX4_haveFloorBelow wsX0_lastColumnAt := goodIn_r _ [5, 6, 13, 14, 15, 16, 17, 18, 19, 20, 21, 22, 23, 24, 25, 26, 27, 28] (by decide +kernel) (by decide +kernel)
set_option maxRecDepth 20000 in
theorem gX4_haveFloorBelow_X0_lastColumnAt : GoodIn wsX4_haveFloorBelow (wsV RX4 37 RX0 yX0_lastColumnAt wsX0_lastColumnAt) := goodIn_app (goodIn_of _ (by decide +kernel)) ggX4_haveFloorBelow_X0_lastColumnAt
set_option maxRecDepth 20000 in
theorem ggX4_haveFloorBelow_X4_kindAt : GoodIn wsX4_haveFloorBelow wsX4_kindAt := goodIn_ca (goodIn_r _ [11, 12, 29] (by decide +kernel) (by decide +kernel)) (goodIn_sub (fun _ h => List.mem_cons_of_mem _ (List.mem_append_right _ h)) (by decide +kernel))
set_option maxRecDepth 20000 in
theorem gX4_haveFloorBelow_X4_kindAt : GoodIn wsX4_haveFloorBelow (wsV RX4 25 RX4 yX4_kindAt wsX4_kindAt) := goodIn_app (goodIn_of _ (by decide +kernel)) ggX4_haveFloorBelow_X4_kindAt
theorem dX4_haveFloorBelow_0 : decode cX4_haveFloorBelow 0 = .ok (.iload_n 3, 1) := by decide +kernel
theorem dX4_haveFloorBelow_1 : decode cX4_haveFloorBelow 1 = .ok (.bipush 16, 2) := by decide +kernel
theorem dX4_haveFloorBelow_3 : decode cX4_haveFloorBelow 3 = .ok (.irem, 1) := by decide +kernel
theorem dX4_haveFloorBelow_4 : decode cX4_haveFloorBelow 4 = .ok (.ifCond .eq 5, 3) := by decide +kernel
theorem dX4_haveFloorBelow_7 : decode cX4_haveFloorBelow 7 = .ok (.iconst 0, 1) := by decide +kernel
theorem dX4_haveFloorBelow_8 : decode cX4_haveFloorBelow 8 = .ok (.ireturn, 1) := by decide +kernel
theorem dX4_haveFloorBelow_9 : decode cX4_haveFloorBelow 9 = .ok (.aload_n 1, 1) := by decide +kernel
theorem dX4_haveFloorBelow_10 : decode cX4_haveFloorBelow 10 = .ok (.iload_n 2, 1) := by decide +kernel
theorem dX4_haveFloorBelow_11 : decode cX4_haveFloorBelow 11 = .ok (.invokevirtual 37, 3) := by decide +kernel
theorem dX4_haveFloorBelow_14 : decode cX4_haveFloorBelow 14 = .ok (.istore 4, 2) := by decide +kernel
theorem dX4_haveFloorBelow_16 : decode cX4_haveFloorBelow 16 = .ok (.iload_n 2, 1) := by decide +kernel
theorem dX4_haveFloorBelow_17 : decode cX4_haveFloorBelow 17 = .ok (.iconst 4, 1) := by decide +kernel
theorem dX4_haveFloorBelow_18 : decode cX4_haveFloorBelow 18 = .ok (.ishr, 1) := by decide +kernel
theorem dX4_haveFloorBelow_19 : decode cX4_haveFloorBelow 19 = .ok (.istore 5, 2) := by decide +kernel
theorem dX4_haveFloorBelow_21 : decode cX4_haveFloorBelow 21 = .ok (.iload 5, 2) := by decide +kernel
theorem dX4_haveFloorBelow_23 : decode cX4_haveFloorBelow 23 = .ok (.iload 4, 2) := by decide +kernel
theorem dX4_haveFloorBelow_25 : decode cX4_haveFloorBelow 25 = .ok (.if_icmp .gt 26, 3) := by decide +kernel
theorem dX4_haveFloorBelow_28 : decode cX4_haveFloorBelow 28 = .ok (.aload_n 0, 1) := by decide +kernel
theorem dX4_haveFloorBelow_29 : decode cX4_haveFloorBelow 29 = .ok (.iload 5, 2) := by decide +kernel
theorem dX4_haveFloorBelow_31 : decode cX4_haveFloorBelow 31 = .ok (.iload_n 3, 1) := by decide +kernel
theorem dX4_haveFloorBelow_32 : decode cX4_haveFloorBelow 32 = .ok (.iconst 1, 1) := by decide +kernel
theorem dX4_haveFloorBelow_33 : decode cX4_haveFloorBelow 33 = .ok (.isub, 1) := by decide +kernel
theorem dX4_haveFloorBelow_34 : decode cX4_haveFloorBelow 34 = .ok (.iconst 4, 1) := by decide +kernel
theorem dX4_haveFloorBelow_35 : decode cX4_haveFloorBelow 35 = .ok (.ishr, 1) := by decide +kernel
theorem dX4_haveFloorBelow_36 : decode cX4_haveFloorBelow 36 = .ok (.invokevirtual 25, 3) := by decide +kernel
theorem dX4_haveFloorBelow_39 : decode cX4_haveFloorBelow 39 = .ok (.iconst 2, 1) := by decide +kernel
theorem dX4_haveFloorBelow_40 : decode cX4_haveFloorBelow 40 = .ok (.if_icmp .ne 5, 3) := by decide +kernel
theorem dX4_haveFloorBelow_43 : decode cX4_haveFloorBelow 43 = .ok (.iconst 1, 1) := by decide +kernel
theorem dX4_haveFloorBelow_44 : decode cX4_haveFloorBelow 44 = .ok (.ireturn, 1) := by decide +kernel
theorem dX4_haveFloorBelow_45 : decode cX4_haveFloorBelow 45 = .ok (.iinc 5 1, 3) := by decide +kernel
theorem dX4_haveFloorBelow_48 : decode cX4_haveFloorBelow 48 = .ok (.goto (-27), 3) := by decide +kernel
theorem dX4_haveFloorBelow_51 : decode cX4_haveFloorBelow 51 = .ok (.iconst 0, 1) := by decide +kernel
theorem dX4_haveFloorBelow_52 : decode cX4_haveFloorBelow 52 = .ok (.ireturn, 1) := by decide +kernel
set_option maxRecDepth 20000 in
theorem ggX4_touch_X0_lastColumnAt : GoodIn wsX4_touch wsX0_lastColumnAt := goodIn_r _ [7, 8, 20, 21, 22, 23, 24, 25, 26, 27, 28, 29, 30, 31, 32, 33, 34, 35] (by decide +kernel) (by decide +kernel)
set_option maxRecDepth 20000 in
theorem gX4_touch_X0_lastColumnAt : GoodIn wsX4_touch (wsV RX4 37 RX0 yX0_lastColumnAt wsX0_lastColumnAt) := goodIn_app (goodIn_of _ (by decide +kernel)) ggX4_touch_X0_lastColumnAt
set_option maxRecDepth 20000 in
theorem ggX4_touch_X0_lastRowAt : GoodIn wsX4_touch wsX0_lastRowAt := goodIn_r _ [12, 13, 20, 21, 22, 23, 24, 25, 26, 27, 28, 29, 30, 31, 32, 33, 34, 35] (by decide +kernel) (by decide +kernel)
set_option maxRecDepth 20000 in
theorem gX4_touch_X0_lastRowAt : GoodIn wsX4_touch (wsV RX4 43 RX0 yX0_lastRowAt wsX0_lastRowAt) := goodIn_app (goodIn_of _ (by decide +kernel)) ggX4_touch_X0_lastRowAt
set_option maxRecDepth 20000 in
theorem ggX4_touch_X4_kindAt : GoodIn wsX4_touch wsX4_kindAt := goodIn_ca (goodIn_r _ [18, 19, 36] (by decide +kernel) (by decide +kernel)) (goodIn_sub (fun _ h => List.mem_cons_of_mem _ (List.mem_append_right _ h)) (by decide +kernel))
set_option maxRecDepth 20000 in
theorem gX4_touch_X4_kindAt : GoodIn wsX4_touch (wsV RX4 25 RX4 yX4_kindAt wsX4_kindAt) := goodIn_app (goodIn_of _ (by decide +kernel)) ggX4_touch_X4_kindAt
theorem dX4_touch_0 : decode cX4_touch 0 = .ok (.aload_n 1, 1) := by decide +kernel
theorem dX4_touch_1 : decode cX4_touch 1 = .ok (.aload_n 1, 1) := by decide +kernel
theorem dX4_touch_2 : decode cX4_touch 2 = .ok (.getfield 56, 3) := by decide +kernel
theorem dX4_touch_5 : decode cX4_touch 5 = .ok (.invokevirtual 37, 3) := by decide +kernel
theorem dX4_touch_8 : decode cX4_touch 8 = .ok (.istore_n 3, 1) := by decide +kernel
theorem dX4_touch_9 : decode cX4_touch 9 = .ok (.aload_n 1, 1) := by decide +kernel
theorem dX4_touch_10 : decode cX4_touch 10 = .ok (.aload_n 1, 1) := by decide +kernel
theorem dX4_touch_11 : decode cX4_touch 11 = .ok (.getfield 60, 3) := by decide +kernel
theorem dX4_touch_14 : decode cX4_touch 14 = .ok (.invokevirtual 43, 3) := by decide +kernel
theorem dX4_touch_17 : decode cX4_touch 17 = .ok (.istore 4, 2) := by decide +kernel
theorem dX4_touch_19 : decode cX4_touch 19 = .ok (.aload_n 1, 1) := by decide +kernel
theorem dX4_touch_20 : decode cX4_touch 20 = .ok (.getfield 56, 3) := by decide +kernel
theorem dX4_touch_23 : decode cX4_touch 23 = .ok (.iconst 4, 1) := by decide +kernel
theorem dX4_touch_24 : decode cX4_touch 24 = .ok (.ishr, 1) := by decide +kernel
theorem dX4_touch_25 : decode cX4_touch 25 = .ok (.istore 5, 2) := by decide +kernel
theorem dX4_touch_27 : decode cX4_touch 27 = .ok (.iload 5, 2) := by decide +kernel
theorem dX4_touch_29 : decode cX4_touch 29 = .ok (.iload_n 3, 1) := by decide +kernel
theorem dX4_touch_30 : decode cX4_touch 30 = .ok (.if_icmp .gt 44, 3) := by decide +kernel
theorem dX4_touch_33 : decode cX4_touch 33 = .ok (.aload_n 1, 1) := by decide +kernel
theorem dX4_touch_34 : decode cX4_touch 34 = .ok (.getfield 60, 3) := by decide +kernel
theorem dX4_touch_37 : decode cX4_touch 37 = .ok (.iconst 4, 1) := by decide +kernel
theorem dX4_touch_38 : decode cX4_touch 38 = .ok (.ishr, 1) := by decide +kernel
theorem dX4_touch_39 : decode cX4_touch 39 = .ok (.istore 6, 2) := by decide +kernel
theorem dX4_touch_41 : decode cX4_touch 41 = .ok (.iload 6, 2) := by decide +kernel
theorem dX4_touch_43 : decode cX4_touch 43 = .ok (.iload 4, 2) := by decide +kernel
theorem dX4_touch_45 : decode cX4_touch 45 = .ok (.if_icmp .gt 23, 3) := by decide +kernel
theorem dX4_touch_48 : decode cX4_touch 48 = .ok (.aload_n 0, 1) := by decide +kernel
theorem dX4_touch_49 : decode cX4_touch 49 = .ok (.iload 5, 2) := by decide +kernel
theorem dX4_touch_51 : decode cX4_touch 51 = .ok (.iload 6, 2) := by decide +kernel
theorem dX4_touch_53 : decode cX4_touch 53 = .ok (.invokevirtual 25, 3) := by decide +kernel
theorem dX4_touch_56 : decode cX4_touch 56 = .ok (.iload_n 2, 1) := by decide +kernel
theorem dX4_touch_57 : decode cX4_touch 57 = .ok (.if_icmp .ne 5, 3) := by decide +kernel
theorem dX4_touch_60 : decode cX4_touch 60 = .ok (.iconst 1, 1) := by decide +kernel
theorem dX4_touch_61 : decode cX4_touch 61 = .ok (.ireturn, 1) := by decide +kernel
theorem dX4_touch_62 : decode cX4_touch 62 = .ok (.iinc 6 1, 3) := by decide +kernel
theorem dX4_touch_65 : decode cX4_touch 65 = .ok (.goto (-24), 3) := by decide +kernel
theorem dX4_touch_68 : decode cX4_touch 68 = .ok (.iinc 5 1, 3) := by decide +kernel
theorem dX4_touch_71 : decode cX4_touch 71 = .ok (.goto (-44), 3) := by decide +kernel
theorem dX4_touch_74 : decode cX4_touch 74 = .ok (.iconst 0, 1) := by decide +kernel
theorem dX4_touch_75 : decode cX4_touch 75 = .ok (.ireturn, 1) := by decide +kernel
set_option maxRecDepth 20000 in
theorem ggX4_giveCoins_X0_lastColumnAt : GoodIn wsX4_giveCoins wsX0_lastColumnAt := goodIn_r _ [7, 8, 30, 31, 32, 33, 34, 35, 36, 37, 38, 39, 40, 41, 42, 43, 44, 45] (by decide +kernel) (by decide +kernel)
set_option maxRecDepth 20000 in
theorem gX4_giveCoins_X0_lastColumnAt : GoodIn wsX4_giveCoins (wsV RX4 37 RX0 yX0_lastColumnAt wsX0_lastColumnAt) := goodIn_app (goodIn_of _ (by decide +kernel)) ggX4_giveCoins_X0_lastColumnAt
set_option maxRecDepth 20000 in
theorem ggX4_giveCoins_X0_lastRowAt : GoodIn wsX4_giveCoins wsX0_lastRowAt := goodIn_r _ [12, 13, 30, 31, 32, 33, 34, 35, 36, 37, 38, 39, 40, 41, 42, 43, 44, 45] (by decide +kernel) (by decide +kernel)
set_option maxRecDepth 20000 in
theorem gX4_giveCoins_X0_lastRowAt : GoodIn wsX4_giveCoins (wsV RX4 43 RX0 yX0_lastRowAt wsX0_lastRowAt) := goodIn_app (goodIn_of _ (by decide +kernel)) ggX4_giveCoins_X0_lastRowAt
set_option maxRecDepth 20000 in
theorem ggX4_giveCoins_X4_kindAt : GoodIn wsX4_giveCoins wsX4_kindAt := goodIn_ca (goodIn_r _ [18, 19, 46] (by decide +kernel) (by decide +kernel)) (goodIn_sub (fun _ h => List.mem_cons_of_mem _ (List.mem_append_right _ h)) (by decide +kernel))
set_option maxRecDepth 20000 in
theorem gX4_giveCoins_X4_kindAt : GoodIn wsX4_giveCoins (wsV RX4 25 RX4 yX4_kindAt wsX4_kindAt) := goodIn_app (goodIn_of _ (by decide +kernel)) ggX4_giveCoins_X4_kindAt
set_option maxRecDepth 20000 in
theorem ggX4_giveCoins_X4_put : GoodIn wsX4_giveCoins wsX4_put := goodIn_ca (goodIn_r _ [23, 19, 24, 25, 26, 27, 28, 29, 46] (by decide +kernel) (by decide +kernel)) (goodIn_sub (fun _ h => List.mem_cons_of_mem _ (List.mem_append_right _ h)) (by decide +kernel))
set_option maxRecDepth 20000 in
theorem gX4_giveCoins_X4_put : GoodIn wsX4_giveCoins (wsV RX4 63 RX4 yX4_put wsX4_put) := goodIn_app (goodIn_of _ (by decide +kernel)) ggX4_giveCoins_X4_put
theorem dX4_giveCoins_0 : decode cX4_giveCoins 0 = .ok (.iconst 0, 1) := by decide +kernel
theorem dX4_giveCoins_1 : decode cX4_giveCoins 1 = .ok (.istore_n 2, 1) := by decide +kernel
theorem dX4_giveCoins_2 : decode cX4_giveCoins 2 = .ok (.aload_n 1, 1) := by decide +kernel
theorem dX4_giveCoins_3 : decode cX4_giveCoins 3 = .ok (.aload_n 1, 1) := by decide +kernel
theorem dX4_giveCoins_4 : decode cX4_giveCoins 4 = .ok (.getfield 56, 3) := by decide +kernel
theorem dX4_giveCoins_7 : decode cX4_giveCoins 7 = .ok (.invokevirtual 37, 3) := by decide +kernel
theorem dX4_giveCoins_10 : decode cX4_giveCoins 10 = .ok (.istore_n 3, 1) := by decide +kernel
theorem dX4_giveCoins_11 : decode cX4_giveCoins 11 = .ok (.aload_n 1, 1) := by decide +kernel
theorem dX4_giveCoins_12 : decode cX4_giveCoins 12 = .ok (.aload_n 1, 1) := by decide +kernel
theorem dX4_giveCoins_13 : decode cX4_giveCoins 13 = .ok (.getfield 60, 3) := by decide +kernel
theorem dX4_giveCoins_16 : decode cX4_giveCoins 16 = .ok (.invokevirtual 43, 3) := by decide +kernel
theorem dX4_giveCoins_19 : decode cX4_giveCoins 19 = .ok (.istore 4, 2) := by decide +kernel
theorem dX4_giveCoins_21 : decode cX4_giveCoins 21 = .ok (.aload_n 1, 1) := by decide +kernel
theorem dX4_giveCoins_22 : decode cX4_giveCoins 22 = .ok (.getfield 56, 3) := by decide +kernel
theorem dX4_giveCoins_25 : decode cX4_giveCoins 25 = .ok (.iconst 4, 1) := by decide +kernel
theorem dX4_giveCoins_26 : decode cX4_giveCoins 26 = .ok (.ishr, 1) := by decide +kernel
theorem dX4_giveCoins_27 : decode cX4_giveCoins 27 = .ok (.istore 5, 2) := by decide +kernel
theorem dX4_giveCoins_29 : decode cX4_giveCoins 29 = .ok (.iload 5, 2) := by decide +kernel
theorem dX4_giveCoins_31 : decode cX4_giveCoins 31 = .ok (.iload_n 3, 1) := by decide +kernel
theorem dX4_giveCoins_32 : decode cX4_giveCoins 32 = .ok (.if_icmp .gt 55, 3) := by decide +kernel
theorem dX4_giveCoins_35 : decode cX4_giveCoins 35 = .ok (.aload_n 1, 1) := by decide +kernel
theorem dX4_giveCoins_36 : decode cX4_giveCoins 36 = .ok (.getfield 60, 3) := by decide +kernel
theorem dX4_giveCoins_39 : decode cX4_giveCoins 39 = .ok (.iconst 4, 1) := by decide +kernel
theorem dX4_giveCoins_40 : decode cX4_giveCoins 40 = .ok (.ishr, 1) := by decide +kernel
theorem dX4_giveCoins_41 : decode cX4_giveCoins 41 = .ok (.istore 6, 2) := by decide +kernel
theorem dX4_giveCoins_43 : decode cX4_giveCoins 43 = .ok (.iload 6, 2) := by decide +kernel
theorem dX4_giveCoins_45 : decode cX4_giveCoins 45 = .ok (.iload 4, 2) := by decide +kernel
theorem dX4_giveCoins_47 : decode cX4_giveCoins 47 = .ok (.if_icmp .gt 34, 3) := by decide +kernel
theorem dX4_giveCoins_50 : decode cX4_giveCoins 50 = .ok (.aload_n 0, 1) := by decide +kernel
theorem dX4_giveCoins_51 : decode cX4_giveCoins 51 = .ok (.iload 5, 2) := by decide +kernel
theorem dX4_giveCoins_53 : decode cX4_giveCoins 53 = .ok (.iload 6, 2) := by decide +kernel
theorem dX4_giveCoins_55 : decode cX4_giveCoins 55 = .ok (.invokevirtual 25, 3) := by decide +kernel
theorem dX4_giveCoins_58 : decode cX4_giveCoins 58 = .ok (.bipush 10, 2) := by decide +kernel
theorem dX4_giveCoins_60 : decode cX4_giveCoins 60 = .ok (.if_icmp .ne 15, 3) := by decide +kernel
theorem dX4_giveCoins_63 : decode cX4_giveCoins 63 = .ok (.aload_n 0, 1) := by decide +kernel
theorem dX4_giveCoins_64 : decode cX4_giveCoins 64 = .ok (.iload 5, 2) := by decide +kernel
theorem dX4_giveCoins_66 : decode cX4_giveCoins 66 = .ok (.iload 6, 2) := by decide +kernel
theorem dX4_giveCoins_68 : decode cX4_giveCoins 68 = .ok (.iconst 0, 1) := by decide +kernel
theorem dX4_giveCoins_69 : decode cX4_giveCoins 69 = .ok (.invokevirtual 63, 3) := by decide +kernel
theorem dX4_giveCoins_72 : decode cX4_giveCoins 72 = .ok (.iinc 2 1, 3) := by decide +kernel
theorem dX4_giveCoins_75 : decode cX4_giveCoins 75 = .ok (.iinc 6 1, 3) := by decide +kernel
theorem dX4_giveCoins_78 : decode cX4_giveCoins 78 = .ok (.goto (-35), 3) := by decide +kernel
theorem dX4_giveCoins_81 : decode cX4_giveCoins 81 = .ok (.iinc 5 1, 3) := by decide +kernel
theorem dX4_giveCoins_84 : decode cX4_giveCoins 84 = .ok (.goto (-55), 3) := by decide +kernel
theorem dX4_giveCoins_87 : decode cX4_giveCoins 87 = .ok (.iload_n 2, 1) := by decide +kernel
theorem dX4_giveCoins_88 : decode cX4_giveCoins 88 = .ok (.ireturn, 1) := by decide +kernel
set_option maxRecDepth 20000 in
theorem ggX5_init_X4_init : GoodIn wsX5_init wsX4_init := goodIn_r _ [19, 20, 2, 3, 12, 21, 29] (by decide +kernel) (by decide +kernel)
set_option maxRecDepth 20000 in
theorem gX5_init_X4_init_n11 : GoodIn wsX5_init (wsX4_init) := ggX5_init_X4_init
set_option maxRecDepth 20000 in
theorem ggX5_init_X0_init : GoodIn wsX5_init wsX0_init := goodIn_r _ [23, 24, 2, 3, 12, 25, 37, 38, 39, 40, 41, 42, 43, 44, 45, 46, 47, 48, 49, 50, 51, 52] (by decide +kernel) (by decide +kernel)
set_option maxRecDepth 20000 in
theorem gX5_init_X0_init_n34 : GoodIn wsX5_init (wsX0_init) := ggX5_init_X0_init
set_option maxRecDepth 20000 in
theorem ggX5_init_X2_init : GoodIn wsX5_init wsX2_init := goodIn_r _ [27, 28, 2, 3] (by decide +kernel) (by decide +kernel)
set_option maxRecDepth 20000 in
theorem gX5_init_X2_init_n35 : GoodIn wsX5_init (wsX2_init) := ggX5_init_X2_init
theorem dX5_init_0 : decode cX5_init 0 = .ok (.aload_n 0, 1) := by decide +kernel
theorem dX5_init_1 : decode cX5_init 1 = .ok (.invokespecial 3, 3) := by decide +kernel
theorem dX5_init_4 : decode cX5_init 4 = .ok (.aload_n 0, 1) := by decide +kernel
theorem dX5_init_5 : decode cX5_init 5 = .ok (.new 9, 3) := by decide +kernel
theorem dX5_init_8 : decode cX5_init 8 = .ok (.dup, 1) := by decide +kernel
theorem dX5_init_9 : decode cX5_init 9 = .ok (.invokespecial 11, 3) := by decide +kernel
theorem dX5_init_12 : decode cX5_init 12 = .ok (.putfield 12, 3) := by decide +kernel
theorem dX5_init_15 : decode cX5_init 15 = .ok (.aload_n 0, 1) := by decide +kernel
theorem dX5_init_16 : decode cX5_init 16 = .ok (.iconst 4, 1) := by decide +kernel
theorem dX5_init_17 : decode cX5_init 17 = .ok (.anewarray 18, 3) := by decide +kernel
theorem dX5_init_20 : decode cX5_init 20 = .ok (.putfield 20, 3) := by decide +kernel
theorem dX5_init_23 : decode cX5_init 23 = .ok (.aload_n 0, 1) := by decide +kernel
theorem dX5_init_24 : decode cX5_init 24 = .ok (.iconst 4, 1) := by decide +kernel
theorem dX5_init_25 : decode cX5_init 25 = .ok (.anewarray 24, 3) := by decide +kernel
theorem dX5_init_28 : decode cX5_init 28 = .ok (.putfield 26, 3) := by decide +kernel
theorem dX5_init_31 : decode cX5_init 31 = .ok (.aload_n 0, 1) := by decide +kernel
theorem dX5_init_32 : decode cX5_init 32 = .ok (.iconst 4, 1) := by decide +kernel
theorem dX5_init_33 : decode cX5_init 33 = .ok (.newarray .int, 2) := by decide +kernel
theorem dX5_init_35 : decode cX5_init 35 = .ok (.putfield 30, 3) := by decide +kernel
theorem dX5_init_38 : decode cX5_init 38 = .ok (.iconst 0, 1) := by decide +kernel
theorem dX5_init_39 : decode cX5_init 39 = .ok (.istore_n 1, 1) := by decide +kernel
theorem dX5_init_40 : decode cX5_init 40 = .ok (.iload_n 1, 1) := by decide +kernel
theorem dX5_init_41 : decode cX5_init 41 = .ok (.iconst 4, 1) := by decide +kernel
theorem dX5_init_42 : decode cX5_init 42 = .ok (.if_icmp .ge 22, 3) := by decide +kernel
theorem dX5_init_45 : decode cX5_init 45 = .ok (.aload_n 0, 1) := by decide +kernel
theorem dX5_init_46 : decode cX5_init 46 = .ok (.getfield 20, 3) := by decide +kernel
theorem dX5_init_49 : decode cX5_init 49 = .ok (.iload_n 1, 1) := by decide +kernel
theorem dX5_init_50 : decode cX5_init 50 = .ok (.new 18, 3) := by decide +kernel
theorem dX5_init_53 : decode cX5_init 53 = .ok (.dup, 1) := by decide +kernel
theorem dX5_init_54 : decode cX5_init 54 = .ok (.invokespecial 34, 3) := by decide +kernel
theorem dX5_init_57 : decode cX5_init 57 = .ok (.aastore, 1) := by decide +kernel
theorem dX5_init_58 : decode cX5_init 58 = .ok (.iinc 1 1, 3) := by decide +kernel
theorem dX5_init_61 : decode cX5_init 61 = .ok (.goto (-21), 3) := by decide +kernel
theorem dX5_init_64 : decode cX5_init 64 = .ok (.iconst 0, 1) := by decide +kernel
theorem dX5_init_65 : decode cX5_init 65 = .ok (.istore_n 1, 1) := by decide +kernel
theorem dX5_init_66 : decode cX5_init 66 = .ok (.iload_n 1, 1) := by decide +kernel
theorem dX5_init_67 : decode cX5_init 67 = .ok (.iconst 4, 1) := by decide +kernel
theorem dX5_init_68 : decode cX5_init 68 = .ok (.if_icmp .ge 22, 3) := by decide +kernel
theorem dX5_init_71 : decode cX5_init 71 = .ok (.aload_n 0, 1) := by decide +kernel
theorem dX5_init_72 : decode cX5_init 72 = .ok (.getfield 26, 3) := by decide +kernel
theorem dX5_init_75 : decode cX5_init 75 = .ok (.iload_n 1, 1) := by decide +kernel
theorem dX5_init_76 : decode cX5_init 76 = .ok (.new 24, 3) := by decide +kernel
theorem dX5_init_79 : decode cX5_init 79 = .ok (.dup, 1) := by decide +kernel
theorem dX5_init_80 : decode cX5_init 80 = .ok (.invokespecial 35, 3) := by decide +kernel
theorem dX5_init_83 : decode cX5_init 83 = .ok (.aastore, 1) := by decide +kernel
theorem dX5_init_84 : decode cX5_init 84 = .ok (.iinc 1 1, 3) := by decide +kernel
theorem dX5_init_87 : decode cX5_init 87 = .ok (.goto (-21), 3) := by decide +kernel
theorem dX5_init_90 : decode cX5_init 90 = .ok (.return_, 1) := by decide +kernel
set_option maxRecDepth 20000 in
theorem ggX5_copyFrom_X4_copyFrom : GoodIn wsX5_copyFrom wsX4_copyFrom := goodIn_r _ [11, 12, 13, 14, 15, 16, 62] (by decide +kernel) (by decide +kernel)
set_option maxRecDepth 20000 in
theorem gX5_copyFrom_X4_copyFrom : GoodIn wsX5_copyFrom (wsV RX5 36 RX4 yX4_copyFrom wsX4_copyFrom) := goodIn_app (goodIn_of _ (by decide +kernel)) ggX5_copyFrom_X4_copyFrom
set_option maxRecDepth 20000 in
theorem ggX5_copyFrom_X0_copyFrom : GoodIn wsX5_copyFrom wsX0_copyFrom := goodIn_r _ [21, 22, 23, 24, 25, 26, 27, 28, 29, 30, 31, 32, 33, 34, 35, 36, 37, 38, 14, 15, 16, 63, 64, 65, 66, 67, 68, 69, 70, 71, 72, 73, 74, 75, 76, 77, 78] (by decide +kernel) (by decide +kernel)
set_option maxRecDepth 20000 in
theorem gX5_copyFrom_X0_copyFrom : GoodIn wsX5_copyFrom (wsV RX5 50 RX0 yX0_copyFrom wsX0_copyFrom) := goodIn_app (goodIn_of _ (by decide +kernel)) ggX5_copyFrom_X0_copyFrom
set_option maxRecDepth 20000 in
theorem ggX5_copyFrom_X2_copyFrom : GoodIn wsX5_copyFrom wsX2_copyFrom := goodIn_r _ [43, 44, 45, 46, 47, 48, 49, 50, 51, 52, 53, 42, 54, 79, 80, 81, 82, 83, 84, 85] (by decide +kernel) (by decide +kernel)
set_option maxRecDepth 20000 in
theorem gX5_copyFrom_X2_copyFrom : GoodIn wsX5_copyFrom (wsV RX5 53 RX2 yX2_copyFrom wsX2_copyFrom) := goodIn_app (goodIn_of _ (by decide +kernel)) ggX5_copyFrom_X2_copyFrom
theorem dX5_copyFrom_0 : decode cX5_copyFrom 0 = .ok (.aload_n 0, 1) := by decide +kernel
theorem dX5_copyFrom_1 : decode cX5_copyFrom 1 = .ok (.getfield 12, 3) := by decide +kernel
theorem dX5_copyFrom_4 : decode cX5_copyFrom 4 = .ok (.aload_n 1, 1) := by decide +kernel
theorem dX5_copyFrom_5 : decode cX5_copyFrom 5 = .ok (.getfield 12, 3) := by decide +kernel
theorem dX5_copyFrom_8 : decode cX5_copyFrom 8 = .ok (.invokevirtual 36, 3) := by decide +kernel
theorem dX5_copyFrom_11 : decode cX5_copyFrom 11 = .ok (.aload_n 0, 1) := by decide +kernel
theorem dX5_copyFrom_12 : decode cX5_copyFrom 12 = .ok (.aload_n 1, 1) := by decide +kernel
theorem dX5_copyFrom_13 : decode cX5_copyFrom 13 = .ok (.getfield 40, 3) := by decide +kernel
theorem dX5_copyFrom_16 : decode cX5_copyFrom 16 = .ok (.putfield 40, 3) := by decide +kernel
theorem dX5_copyFrom_19 : decode cX5_copyFrom 19 = .ok (.aload_n 0, 1) := by decide +kernel
theorem dX5_copyFrom_20 : decode cX5_copyFrom 20 = .ok (.aload_n 1, 1) := by decide +kernel
theorem dX5_copyFrom_21 : decode cX5_copyFrom 21 = .ok (.getfield 44, 3) := by decide +kernel
theorem dX5_copyFrom_24 : decode cX5_copyFrom 24 = .ok (.putfield 44, 3) := by decide +kernel
theorem dX5_copyFrom_27 : decode cX5_copyFrom 27 = .ok (.aload_n 0, 1) := by decide +kernel
theorem dX5_copyFrom_28 : decode cX5_copyFrom 28 = .ok (.aload_n 1, 1) := by decide +kernel
theorem dX5_copyFrom_29 : decode cX5_copyFrom 29 = .ok (.getfield 47, 3) := by decide +kernel
theorem dX5_copyFrom_32 : decode cX5_copyFrom 32 = .ok (.putfield 47, 3) := by decide +kernel
theorem dX5_copyFrom_35 : decode cX5_copyFrom 35 = .ok (.iconst 0, 1) := by decide +kernel
theorem dX5_copyFrom_36 : decode cX5_copyFrom 36 = .ok (.istore_n 2, 1) := by decide +kernel
theorem dX5_copyFrom_37 : decode cX5_copyFrom 37 = .ok (.iload_n 2, 1) := by decide +kernel
theorem dX5_copyFrom_38 : decode cX5_copyFrom 38 = .ok (.aload_n 0, 1) := by decide +kernel
theorem dX5_copyFrom_39 : decode cX5_copyFrom 39 = .ok (.getfield 40, 3) := by decide +kernel
theorem dX5_copyFrom_42 : decode cX5_copyFrom 42 = .ok (.if_icmp .ge 24, 3) := by decide +kernel
theorem dX5_copyFrom_45 : decode cX5_copyFrom 45 = .ok (.aload_n 0, 1) := by decide +kernel
theorem dX5_copyFrom_46 : decode cX5_copyFrom 46 = .ok (.getfield 20, 3) := by decide +kernel
theorem dX5_copyFrom_49 : decode cX5_copyFrom 49 = .ok (.iload_n 2, 1) := by decide +kernel
theorem dX5_copyFrom_50 : decode cX5_copyFrom 50 = .ok (.aaload, 1) := by decide +kernel
theorem dX5_copyFrom_51 : decode cX5_copyFrom 51 = .ok (.aload_n 1, 1) := by decide +kernel
theorem dX5_copyFrom_52 : decode cX5_copyFrom 52 = .ok (.getfield 20, 3) := by decide +kernel
theorem dX5_copyFrom_55 : decode cX5_copyFrom 55 = .ok (.iload_n 2, 1) := by decide +kernel
theorem dX5_copyFrom_56 : decode cX5_copyFrom 56 = .ok (.aaload, 1) := by decide +kernel
theorem dX5_copyFrom_57 : decode cX5_copyFrom 57 = .ok (.invokevirtual 50, 3) := by decide +kernel
theorem dX5_copyFrom_60 : decode cX5_copyFrom 60 = .ok (.iinc 2 1, 3) := by decide +kernel
theorem dX5_copyFrom_63 : decode cX5_copyFrom 63 = .ok (.goto (-26), 3) := by decide +kernel
theorem dX5_copyFrom_66 : decode cX5_copyFrom 66 = .ok (.iconst 0, 1) := by decide +kernel
theorem dX5_copyFrom_67 : decode cX5_copyFrom 67 = .ok (.istore_n 2, 1) := by decide +kernel
theorem dX5_copyFrom_68 : decode cX5_copyFrom 68 = .ok (.iload_n 2, 1) := by decide +kernel
theorem dX5_copyFrom_69 : decode cX5_copyFrom 69 = .ok (.aload_n 0, 1) := by decide +kernel
theorem dX5_copyFrom_70 : decode cX5_copyFrom 70 = .ok (.getfield 44, 3) := by decide +kernel
theorem dX5_copyFrom_73 : decode cX5_copyFrom 73 = .ok (.if_icmp .ge 24, 3) := by decide +kernel
theorem dX5_copyFrom_76 : decode cX5_copyFrom 76 = .ok (.aload_n 0, 1) := by decide +kernel
theorem dX5_copyFrom_77 : decode cX5_copyFrom 77 = .ok (.getfield 26, 3) := by decide +kernel
theorem dX5_copyFrom_80 : decode cX5_copyFrom 80 = .ok (.iload_n 2, 1) := by decide +kernel
theorem dX5_copyFrom_81 : decode cX5_copyFrom 81 = .ok (.aaload, 1) := by decide +kernel
theorem dX5_copyFrom_82 : decode cX5_copyFrom 82 = .ok (.aload_n 1, 1) := by decide +kernel
theorem dX5_copyFrom_83 : decode cX5_copyFrom 83 = .ok (.getfield 26, 3) := by decide +kernel
theorem dX5_copyFrom_86 : decode cX5_copyFrom 86 = .ok (.iload_n 2, 1) := by decide +kernel
theorem dX5_copyFrom_87 : decode cX5_copyFrom 87 = .ok (.aaload, 1) := by decide +kernel
theorem dX5_copyFrom_88 : decode cX5_copyFrom 88 = .ok (.invokevirtual 53, 3) := by decide +kernel
theorem dX5_copyFrom_91 : decode cX5_copyFrom 91 = .ok (.iinc 2 1, 3) := by decide +kernel
theorem dX5_copyFrom_94 : decode cX5_copyFrom 94 = .ok (.goto (-26), 3) := by decide +kernel
theorem dX5_copyFrom_97 : decode cX5_copyFrom 97 = .ok (.return_, 1) := by decide +kernel
set_option maxRecDepth 20000 in
theorem ggX5_dropOutBody_X0_copyFrom : GoodIn wsX5_dropOutBody wsX0_copyFrom := goodIn_r _ [7, 8, 9, 10, 11, 12, 13, 14, 15, 16, 17, 18, 19, 20, 21, 22, 23, 24, 25, 26, 27, 35, 36, 37, 38, 39, 40, 41, 42, 43, 44, 45, 46, 47, 48, 49, 50] (by decide +kernel) (by decide +kernel)
set_option maxRecDepth 20000 in
theorem gX5_dropOutBody_X0_copyFrom : GoodIn wsX5_dropOutBody (wsV RX5 50 RX0 yX0_copyFrom wsX0_copyFrom) := goodIn_app (goodIn_of _ (by decide +kernel)) ggX5_dropOutBody_X0_copyFrom
theorem dX5_dropOutBody_0 : decode cX5_dropOutBody 0 = .ok (.iload_n 1, 1) := by decide +kernel
theorem dX5_dropOutBody_1 : decode cX5_dropOutBody 1 = .ok (.istore_n 2, 1) := by decide +kernel
theorem dX5_dropOutBody_2 : decode cX5_dropOutBody 2 = .ok (.iload_n 2, 1) := by decide +kernel
theorem dX5_dropOutBody_3 : decode cX5_dropOutBody 3 = .ok (.iconst 1, 1) := by decide +kernel
theorem dX5_dropOutBody_4 : decode cX5_dropOutBody 4 = .ok (.iadd, 1) := by decide +kernel
theorem dX5_dropOutBody_5 : decode cX5_dropOutBody 5 = .ok (.aload_n 0, 1) := by decide +kernel
theorem dX5_dropOutBody_6 : decode cX5_dropOutBody 6 = .ok (.getfield 40, 3) := by decide +kernel
theorem dX5_dropOutBody_9 : decode cX5_dropOutBody 9 = .ok (.if_icmp .ge 26, 3) := by decide +kernel
theorem dX5_dropOutBody_12 : decode cX5_dropOutBody 12 = .ok (.aload_n 0, 1) := by decide +kernel
theorem dX5_dropOutBody_13 : decode cX5_dropOutBody 13 = .ok (.getfield 20, 3) := by decide +kernel
theorem dX5_dropOutBody_16 : decode cX5_dropOutBody 16 = .ok (.iload_n 2, 1) := by decide +kernel
theorem dX5_dropOutBody_17 : decode cX5_dropOutBody 17 = .ok (.aaload, 1) := by decide +kernel
theorem dX5_dropOutBody_18 : decode cX5_dropOutBody 18 = .ok (.aload_n 0, 1) := by decide +kernel
theorem dX5_dropOutBody_19 : decode cX5_dropOutBody 19 = .ok (.getfield 20, 3) := by decide +kernel
theorem dX5_dropOutBody_22 : decode cX5_dropOutBody 22 = .ok (.iload_n 2, 1) := by decide +kernel
theorem dX5_dropOutBody_23 : decode cX5_dropOutBody 23 = .ok (.iconst 1, 1) := by decide +kernel
theorem dX5_dropOutBody_24 : decode cX5_dropOutBody 24 = .ok (.iadd, 1) := by decide +kernel
theorem dX5_dropOutBody_25 : decode cX5_dropOutBody 25 = .ok (.aaload, 1) := by decide +kernel
theorem dX5_dropOutBody_26 : decode cX5_dropOutBody 26 = .ok (.invokevirtual 50, 3) := by decide +kernel
theorem dX5_dropOutBody_29 : decode cX5_dropOutBody 29 = .ok (.iinc 2 1, 3) := by decide +kernel
theorem dX5_dropOutBody_32 : decode cX5_dropOutBody 32 = .ok (.goto (-30), 3) := by decide +kernel
theorem dX5_dropOutBody_35 : decode cX5_dropOutBody 35 = .ok (.aload_n 0, 1) := by decide +kernel
theorem dX5_dropOutBody_36 : decode cX5_dropOutBody 36 = .ok (.dup, 1) := by decide +kernel
theorem dX5_dropOutBody_37 : decode cX5_dropOutBody 37 = .ok (.getfield 40, 3) := by decide +kernel
theorem dX5_dropOutBody_40 : decode cX5_dropOutBody 40 = .ok (.iconst 1, 1) := by decide +kernel
theorem dX5_dropOutBody_41 : decode cX5_dropOutBody 41 = .ok (.isub, 1) := by decide +kernel
theorem dX5_dropOutBody_42 : decode cX5_dropOutBody 42 = .ok (.putfield 40, 3) := by decide +kernel
theorem dX5_dropOutBody_45 : decode cX5_dropOutBody 45 = .ok (.return_, 1) := by decide +kernel
set_option maxRecDepth 20000 in
theorem ggX5_dropOutPlatform_X2_copyFrom : GoodIn wsX5_dropOutPlatform wsX2_copyFrom := goodIn_r _ [7, 8, 9, 10, 11, 12, 13, 14, 15, 16, 17, 6, 18, 26, 27, 28, 29, 30, 31, 32] (by decide +kernel) (by decide +kernel)
set_option maxRecDepth 20000 in
theorem gX5_dropOutPlatform_X2_copyFrom : GoodIn wsX5_dropOutPlatform (wsV RX5 53 RX2 yX2_copyFrom wsX2_copyFrom) := goodIn_app (goodIn_of _ (by decide +kernel)) ggX5_dropOutPlatform_X2_copyFrom
theorem dX5_dropOutPlatform_0 : decode cX5_dropOutPlatform 0 = .ok (.iload_n 1, 1) := by decide +kernel
theorem dX5_dropOutPlatform_1 : decode cX5_dropOutPlatform 1 = .ok (.istore_n 2, 1) := by decide +kernel
theorem dX5_dropOutPlatform_2 : decode cX5_dropOutPlatform 2 = .ok (.iload_n 2, 1) := by decide +kernel
theorem dX5_dropOutPlatform_3 : decode cX5_dropOutPlatform 3 = .ok (.iconst 1, 1) := by decide +kernel
theorem dX5_dropOutPlatform_4 : decode cX5_dropOutPlatform 4 = .ok (.iadd, 1) := by decide +kernel
theorem dX5_dropOutPlatform_5 : decode cX5_dropOutPlatform 5 = .ok (.aload_n 0, 1) := by decide +kernel
theorem dX5_dropOutPlatform_6 : decode cX5_dropOutPlatform 6 = .ok (.getfield 44, 3) := by decide +kernel
theorem dX5_dropOutPlatform_9 : decode cX5_dropOutPlatform 9 = .ok (.if_icmp .ge 26, 3) := by decide +kernel
theorem dX5_dropOutPlatform_12 : decode cX5_dropOutPlatform 12 = .ok (.aload_n 0, 1) := by decide +kernel
theorem dX5_dropOutPlatform_13 : decode cX5_dropOutPlatform 13 = .ok (.getfield 26, 3) := by decide +kernel
theorem dX5_dropOutPlatform_16 : decode cX5_dropOutPlatform 16 = .ok (.iload_n 2, 1) := by decide +kernel
theorem dX5_dropOutPlatform_17 : decode cX5_dropOutPlatform 17 = .ok (.aaload, 1) := by decide +kernel
theorem dX5_dropOutPlatform_18 : decode cX5_dropOutPlatform 18 = .ok (.aload_n 0, 1) := by decide +kernel
theorem dX5_dropOutPlatform_19 : decode cX5_dropOutPlatform 19 = .ok (.getfield 26, 3) := by decide +kernel
theorem dX5_dropOutPlatform_22 : decode cX5_dropOutPlatform 22 = .ok (.iload_n 2, 1) := by decide +kernel
theorem dX5_dropOutPlatform_23 : decode cX5_dropOutPlatform 23 = .ok (.iconst 1, 1) := by decide +kernel
theorem dX5_dropOutPlatform_24 : decode cX5_dropOutPlatform 24 = .ok (.iadd, 1) := by decide +kernel
theorem dX5_dropOutPlatform_25 : decode cX5_dropOutPlatform 25 = .ok (.aaload, 1) := by decide +kernel
theorem dX5_dropOutPlatform_26 : decode cX5_dropOutPlatform 26 = .ok (.invokevirtual 53, 3) := by decide +kernel
theorem dX5_dropOutPlatform_29 : decode cX5_dropOutPlatform 29 = .ok (.iinc 2 1, 3) := by decide +kernel
theorem dX5_dropOutPlatform_32 : decode cX5_dropOutPlatform 32 = .ok (.goto (-30), 3) := by decide +kernel
theorem dX5_dropOutPlatform_35 : decode cX5_dropOutPlatform 35 = .ok (.aload_n 0, 1) := by decide +kernel
theorem dX5_dropOutPlatform_36 : decode cX5_dropOutPlatform 36 = .ok (.dup, 1) := by decide +kernel
theorem dX5_dropOutPlatform_37 : decode cX5_dropOutPlatform 37 = .ok (.getfield 44, 3) := by decide +kernel
theorem dX5_dropOutPlatform_40 : decode cX5_dropOutPlatform 40 = .ok (.iconst 1, 1) := by decide +kernel
theorem dX5_dropOutPlatform_41 : decode cX5_dropOutPlatform 41 = .ok (.isub, 1) := by decide +kernel
theorem dX5_dropOutPlatform_42 : decode cX5_dropOutPlatform 42 = .ok (.putfield 44, 3) := by decide +kernel
theorem dX5_dropOutPlatform_45 : decode cX5_dropOutPlatform 45 = .ok (.return_, 1) := by decide +kernel
set_option maxRecDepth 20000 in
theorem ggX5_hasBlockedBody_X4_block : GoodIn wsX5_hasBlockedBody wsX4_block := goodIn_ca (goodIn_r _ [10, 11, 12, 13, 14, 15, 16, 17, 18, 19, 20, 21, 22, 23, 24, 25, 26, 27, 28, 9, 29, 30, 31, 32, 33, 34, 35, 36, 37, 38, 46, 47, 48, 49, 50, 51, 52, 53, 54, 55, 56, 57, 58, 59, 60, 61, 62] (by decide +kernel) (by decide +kernel)) (goodIn_sub (fun _ h => List.mem_cons_of_mem _ (List.mem_append_right _ h)) (by decide +kernel))
set_option maxRecDepth 20000 in
theorem gX5_hasBlockedBody_X4_block : GoodIn wsX5_hasBlockedBody (wsV RX5 62 RX4 yX4_block wsX4_block) := goodIn_app (goodIn_of _ (by decide +kernel)) ggX5_hasBlockedBody_X4_block
theorem dX5_hasBlockedBody_0 : decode cX5_hasBlockedBody 0 = .ok (.iconst 0, 1) := by decide +kernel
theorem dX5_hasBlockedBody_1 : decode cX5_hasBlockedBody 1 = .ok (.istore_n 1, 1) := by decide +kernel
theorem dX5_hasBlockedBody_2 : decode cX5_hasBlockedBody 2 = .ok (.iload_n 1, 1) := by decide +kernel
theorem dX5_hasBlockedBody_3 : decode cX5_hasBlockedBody 3 = .ok (.aload_n 0, 1) := by decide +kernel
theorem dX5_hasBlockedBody_4 : decode cX5_hasBlockedBody 4 = .ok (.getfield 40, 3) := by decide +kernel
theorem dX5_hasBlockedBody_7 : decode cX5_hasBlockedBody 7 = .ok (.if_icmp .ge 45, 3) := by decide +kernel
theorem dX5_hasBlockedBody_10 : decode cX5_hasBlockedBody 10 = .ok (.aload_n 0, 1) := by decide +kernel
theorem dX5_hasBlockedBody_11 : decode cX5_hasBlockedBody 11 = .ok (.getfield 12, 3) := by decide +kernel
theorem dX5_hasBlockedBody_14 : decode cX5_hasBlockedBody 14 = .ok (.aload_n 0, 1) := by decide +kernel
theorem dX5_hasBlockedBody_15 : decode cX5_hasBlockedBody 15 = .ok (.getfield 20, 3) := by decide +kernel
theorem dX5_hasBlockedBody_18 : decode cX5_hasBlockedBody 18 = .ok (.iload_n 1, 1) := by decide +kernel
theorem dX5_hasBlockedBody_19 : decode cX5_hasBlockedBody 19 = .ok (.aaload, 1) := by decide +kernel
theorem dX5_hasBlockedBody_20 : decode cX5_hasBlockedBody 20 = .ok (.aload_n 0, 1) := by decide +kernel
theorem dX5_hasBlockedBody_21 : decode cX5_hasBlockedBody 21 = .ok (.getfield 20, 3) := by decide +kernel
theorem dX5_hasBlockedBody_24 : decode cX5_hasBlockedBody 24 = .ok (.iload_n 1, 1) := by decide +kernel
theorem dX5_hasBlockedBody_25 : decode cX5_hasBlockedBody 25 = .ok (.aaload, 1) := by decide +kernel
theorem dX5_hasBlockedBody_26 : decode cX5_hasBlockedBody 26 = .ok (.getfield 56, 3) := by decide +kernel
theorem dX5_hasBlockedBody_29 : decode cX5_hasBlockedBody 29 = .ok (.aload_n 0, 1) := by decide +kernel
theorem dX5_hasBlockedBody_30 : decode cX5_hasBlockedBody 30 = .ok (.getfield 20, 3) := by decide +kernel
theorem dX5_hasBlockedBody_33 : decode cX5_hasBlockedBody 33 = .ok (.iload_n 1, 1) := by decide +kernel
theorem dX5_hasBlockedBody_34 : decode cX5_hasBlockedBody 34 = .ok (.aaload, 1) := by decide +kernel
theorem dX5_hasBlockedBody_35 : decode cX5_hasBlockedBody 35 = .ok (.getfield 59, 3) := by decide +kernel
theorem dX5_hasBlockedBody_38 : decode cX5_hasBlockedBody 38 = .ok (.invokevirtual 62, 3) := by decide +kernel
theorem dX5_hasBlockedBody_41 : decode cX5_hasBlockedBody 41 = .ok (.ifCond .eq 5, 3) := by decide +kernel
theorem dX5_hasBlockedBody_44 : decode cX5_hasBlockedBody 44 = .ok (.iconst 1, 1) := by decide +kernel
theorem dX5_hasBlockedBody_45 : decode cX5_hasBlockedBody 45 = .ok (.ireturn, 1) := by decide +kernel
theorem dX5_hasBlockedBody_46 : decode cX5_hasBlockedBody 46 = .ok (.iinc 1 1, 3) := by decide +kernel
theorem dX5_hasBlockedBody_49 : decode cX5_hasBlockedBody 49 = .ok (.goto (-47), 3) := by decide +kernel
theorem dX5_hasBlockedBody_52 : decode cX5_hasBlockedBody 52 = .ok (.iconst 0, 1) := by decide +kernel
theorem dX5_hasBlockedBody_53 : decode cX5_hasBlockedBody 53 = .ok (.ireturn, 1) := by decide +kernel
set_option maxRecDepth 20000 in
theorem ggX5_supportAt_X4_firmKindsBelow : GoodIn wsX5_supportAt wsX4_firmKindsBelow := goodIn_ca (goodIn_r _ [7, 8, 9, 10, 11, 12, 13, 14, 15, 16, 17, 18, 19, 20, 6, 21, 22, 23, 24, 25, 26, 27, 28, 29, 30, 64, 65, 66, 67, 68, 69, 70, 71, 72, 73, 74, 75, 76, 77, 78, 79, 80] (by decide +kernel) (by decide +kernel)) (goodIn_sub (fun _ h => List.mem_cons_of_mem _ (List.mem_append_right _ h)) (by decide +kernel))
set_option maxRecDepth 20000 in
theorem gX5_supportAt_X4_firmKindsBelow : GoodIn wsX5_supportAt (wsV RX5 66 RX4 yX4_firmKindsBelow wsX4_firmKindsBelow) := goodIn_app (goodIn_of _ (by decide +kernel)) ggX5_supportAt_X4_firmKindsBelow
set_option maxRecDepth 20000 in
theorem ggX5_supportAt_X0_footAt : GoodIn wsX5_supportAt wsX0_footAt := goodIn_r _ [17, 13, 64, 65, 66, 67, 68, 69, 70, 71, 72, 73, 74, 75, 76, 77, 78, 79] (by decide +kernel) (by decide +kernel)
set_option maxRecDepth 20000 in
theorem gX5_supportAt_X0_footAt : GoodIn wsX5_supportAt (wsV RX5 70 RX0 yX0_footAt wsX0_footAt) := goodIn_app (goodIn_of _ (by decide +kernel)) ggX5_supportAt_X0_footAt
set_option maxRecDepth 20000 in
theorem ggX5_supportAt_X4_surfaceAt : GoodIn wsX5_supportAt wsX4_surfaceAt := goodIn_ca (goodIn_r _ [35, 36, 18, 19, 20, 6, 21, 22, 80] (by decide +kernel) (by decide +kernel)) (goodIn_sub (fun _ h => List.mem_cons_of_mem _ (List.mem_append_right _ h)) (by decide +kernel))
set_option maxRecDepth 20000 in
theorem gX5_supportAt_X4_surfaceAt : GoodIn wsX5_supportAt (wsV RX5 74 RX4 yX4_surfaceAt wsX4_surfaceAt) := goodIn_app (goodIn_of _ (by decide +kernel)) ggX5_supportAt_X4_surfaceAt
set_option maxRecDepth 20000 in
theorem ggX5_supportAt_X4_haveFloorBelow : GoodIn wsX5_supportAt wsX4_haveFloorBelow := goodIn_ca (goodIn_r _ [40, 8, 9, 10, 11, 12, 13, 18, 19, 20, 6, 21, 22, 64, 65, 66, 67, 68, 69, 70, 71, 72, 73, 74, 75, 76, 77, 78, 79, 80] (by decide +kernel) (by decide +kernel)) (goodIn_sub (fun _ h => List.mem_cons_of_mem _ (List.mem_append_right _ h)) (by decide +kernel))
set_option maxRecDepth 20000 in
theorem gX5_supportAt_X4_haveFloorBelow : GoodIn wsX5_supportAt (wsV RX5 81 RX4 yX4_haveFloorBelow wsX4_haveFloorBelow) := goodIn_app (goodIn_of _ (by decide +kernel)) ggX5_supportAt_X4_haveFloorBelow
set_option maxRecDepth 20000 in
theorem ggX5_supportAt_X5_platformUnder : GoodIn wsX5_supportAt wsX5_platformUnder := goodIn_r _ [45, 46, 47, 48, 49, 50, 51, 52, 53, 54, 55, 56, 57, 58, 59, 60, 61, 62, 63, 81, 82, 83, 84, 85, 86, 87, 64, 65, 66, 67, 68, 69, 70, 71, 72, 73, 74, 75, 76, 77, 78, 79] (by decide +kernel) (by decide +kernel)
set_option maxRecDepth 20000 in
theorem gX5_supportAt_X5_platformUnder : GoodIn wsX5_supportAt (wsV RX5 84 RX5 yX5_platformUnder wsX5_platformUnder) := goodIn_app (goodIn_of _ (by decide +kernel)) ggX5_supportAt_X5_platformUnder
theorem dX5_supportAt_0 : decode cX5_supportAt 0 = .ok (.iconst 0, 1) := by decide +kernel
theorem dX5_supportAt_1 : decode cX5_supportAt 1 = .ok (.istore 5, 2) := by decide +kernel
theorem dX5_supportAt_3 : decode cX5_supportAt 3 = .ok (.aload_n 0, 1) := by decide +kernel
theorem dX5_supportAt_4 : decode cX5_supportAt 4 = .ok (.getfield 12, 3) := by decide +kernel
theorem dX5_supportAt_7 : decode cX5_supportAt 7 = .ok (.aload_n 1, 1) := by decide +kernel
theorem dX5_supportAt_8 : decode cX5_supportAt 8 = .ok (.iload_n 2, 1) := by decide +kernel
theorem dX5_supportAt_9 : decode cX5_supportAt 9 = .ok (.iload_n 3, 1) := by decide +kernel
theorem dX5_supportAt_10 : decode cX5_supportAt 10 = .ok (.invokevirtual 66, 3) := by decide +kernel
theorem dX5_supportAt_13 : decode cX5_supportAt 13 = .ok (.ifCond .eq 9, 3) := by decide +kernel
theorem dX5_supportAt_16 : decode cX5_supportAt 16 = .ok (.iload 5, 2) := by decide +kernel
theorem dX5_supportAt_18 : decode cX5_supportAt 18 = .ok (.iconst 1, 1) := by decide +kernel
theorem dX5_supportAt_19 : decode cX5_supportAt 19 = .ok (.ior, 1) := by decide +kernel
theorem dX5_supportAt_20 : decode cX5_supportAt 20 = .ok (.istore 5, 2) := by decide +kernel
theorem dX5_supportAt_22 : decode cX5_supportAt 22 = .ok (.aload_n 0, 1) := by decide +kernel
theorem dX5_supportAt_23 : decode cX5_supportAt 23 = .ok (.getfield 12, 3) := by decide +kernel
theorem dX5_supportAt_26 : decode cX5_supportAt 26 = .ok (.aload_n 1, 1) := by decide +kernel
theorem dX5_supportAt_27 : decode cX5_supportAt 27 = .ok (.iload_n 2, 1) := by decide +kernel
theorem dX5_supportAt_28 : decode cX5_supportAt 28 = .ok (.invokevirtual 70, 3) := by decide +kernel
theorem dX5_supportAt_31 : decode cX5_supportAt 31 = .ok (.iload_n 3, 1) := by decide +kernel
theorem dX5_supportAt_32 : decode cX5_supportAt 32 = .ok (.iconst 1, 1) := by decide +kernel
theorem dX5_supportAt_33 : decode cX5_supportAt 33 = .ok (.isub, 1) := by decide +kernel
theorem dX5_supportAt_34 : decode cX5_supportAt 34 = .ok (.invokevirtual 74, 3) := by decide +kernel
theorem dX5_supportAt_37 : decode cX5_supportAt 37 = .ok (.iload_n 3, 1) := by decide +kernel
theorem dX5_supportAt_38 : decode cX5_supportAt 38 = .ok (.if_icmp .ne 9, 3) := by decide +kernel
theorem dX5_supportAt_41 : decode cX5_supportAt 41 = .ok (.iload 5, 2) := by decide +kernel
theorem dX5_supportAt_43 : decode cX5_supportAt 43 = .ok (.iconst 4, 1) := by decide +kernel
theorem dX5_supportAt_44 : decode cX5_supportAt 44 = .ok (.ior, 1) := by decide +kernel
theorem dX5_supportAt_45 : decode cX5_supportAt 45 = .ok (.istore 5, 2) := by decide +kernel
theorem dX5_supportAt_47 : decode cX5_supportAt 47 = .ok (.aload_n 1, 1) := by decide +kernel
theorem dX5_supportAt_48 : decode cX5_supportAt 48 = .ok (.getfield 78, 3) := by decide +kernel
theorem dX5_supportAt_51 : decode cX5_supportAt 51 = .ok (.ifCond .le 6, 3) := by decide +kernel
theorem dX5_supportAt_54 : decode cX5_supportAt 54 = .ok (.iload 5, 2) := by decide +kernel
theorem dX5_supportAt_56 : decode cX5_supportAt 56 = .ok (.ireturn, 1) := by decide +kernel
theorem dX5_supportAt_57 : decode cX5_supportAt 57 = .ok (.aload_n 0, 1) := by decide +kernel
theorem dX5_supportAt_58 : decode cX5_supportAt 58 = .ok (.getfield 12, 3) := by decide +kernel
theorem dX5_supportAt_61 : decode cX5_supportAt 61 = .ok (.aload_n 1, 1) := by decide +kernel
theorem dX5_supportAt_62 : decode cX5_supportAt 62 = .ok (.iload_n 2, 1) := by decide +kernel
theorem dX5_supportAt_63 : decode cX5_supportAt 63 = .ok (.iload_n 3, 1) := by decide +kernel
theorem dX5_supportAt_64 : decode cX5_supportAt 64 = .ok (.invokevirtual 81, 3) := by decide +kernel
theorem dX5_supportAt_67 : decode cX5_supportAt 67 = .ok (.ifCond .eq 9, 3) := by decide +kernel
theorem dX5_supportAt_70 : decode cX5_supportAt 70 = .ok (.iload 5, 2) := by decide +kernel
theorem dX5_supportAt_72 : decode cX5_supportAt 72 = .ok (.iconst 2, 1) := by decide +kernel
theorem dX5_supportAt_73 : decode cX5_supportAt 73 = .ok (.ior, 1) := by decide +kernel
theorem dX5_supportAt_74 : decode cX5_supportAt 74 = .ok (.istore 5, 2) := by decide +kernel
theorem dX5_supportAt_76 : decode cX5_supportAt 76 = .ok (.aload_n 0, 1) := by decide +kernel
theorem dX5_supportAt_77 : decode cX5_supportAt 77 = .ok (.aload_n 1, 1) := by decide +kernel
theorem dX5_supportAt_78 : decode cX5_supportAt 78 = .ok (.iload_n 2, 1) := by decide +kernel
theorem dX5_supportAt_79 : decode cX5_supportAt 79 = .ok (.iload_n 3, 1) := by decide +kernel
theorem dX5_supportAt_80 : decode cX5_supportAt 80 = .ok (.iload 4, 2) := by decide +kernel
theorem dX5_supportAt_82 : decode cX5_supportAt 82 = .ok (.invokevirtual 84, 3) := by decide +kernel
theorem dX5_supportAt_85 : decode cX5_supportAt 85 = .ok (.iconst (-1), 1) := by decide +kernel
theorem dX5_supportAt_86 : decode cX5_supportAt 86 = .ok (.if_icmp .eq 10, 3) := by decide +kernel
theorem dX5_supportAt_89 : decode cX5_supportAt 89 = .ok (.iload 5, 2) := by decide +kernel
theorem dX5_supportAt_91 : decode cX5_supportAt 91 = .ok (.bipush 8, 2) := by decide +kernel
theorem dX5_supportAt_93 : decode cX5_supportAt 93 = .ok (.ior, 1) := by decide +kernel
theorem dX5_supportAt_94 : decode cX5_supportAt 94 = .ok (.istore 5, 2) := by decide +kernel
theorem dX5_supportAt_96 : decode cX5_supportAt 96 = .ok (.iload 5, 2) := by decide +kernel
theorem dX5_supportAt_98 : decode cX5_supportAt 98 = .ok (.ireturn, 1) := by decide +kernel
set_option maxRecDepth 20000 in
theorem ggX5_platformUnder_X2_isUnder : GoodIn wsX5_platformUnder wsX2_isUnder := goodIn_r _ [7, 8, 9, 10, 11, 19, 20, 21, 22, 23, 24, 25, 26, 27, 28, 29, 30, 31, 32, 33, 34, 35, 36, 37, 38, 39, 40, 41] (by decide +kernel) (by decide +kernel)
set_option maxRecDepth 20000 in
theorem gX5_platformUnder_X2_isUnder : GoodIn wsX5_platformUnder (wsV RX5 88 RX2 yX2_isUnder wsX2_isUnder) := goodIn_app (goodIn_of _ (by decide +kernel)) ggX5_platformUnder_X2_isUnder
theorem dX5_platformUnder_0 : decode cX5_platformUnder 0 = .ok (.iconst 0, 1) := by decide +kernel
theorem dX5_platformUnder_1 : decode cX5_platformUnder 1 = .ok (.istore 5, 2) := by decide +kernel
theorem dX5_platformUnder_3 : decode cX5_platformUnder 3 = .ok (.iload 5, 2) := by decide +kernel
theorem dX5_platformUnder_5 : decode cX5_platformUnder 5 = .ok (.aload_n 0, 1) := by decide +kernel
theorem dX5_platformUnder_6 : decode cX5_platformUnder 6 = .ok (.getfield 44, 3) := by decide +kernel
theorem dX5_platformUnder_9 : decode cX5_platformUnder 9 = .ok (.if_icmp .ge 35, 3) := by decide +kernel
theorem dX5_platformUnder_12 : decode cX5_platformUnder 12 = .ok (.iload 5, 2) := by decide +kernel
theorem dX5_platformUnder_14 : decode cX5_platformUnder 14 = .ok (.iload 4, 2) := by decide +kernel
theorem dX5_platformUnder_16 : decode cX5_platformUnder 16 = .ok (.if_icmp .eq 22, 3) := by decide +kernel
theorem dX5_platformUnder_19 : decode cX5_platformUnder 19 = .ok (.aload_n 0, 1) := by decide +kernel
theorem dX5_platformUnder_20 : decode cX5_platformUnder 20 = .ok (.getfield 26, 3) := by decide +kernel
theorem dX5_platformUnder_23 : decode cX5_platformUnder 23 = .ok (.iload 5, 2) := by decide +kernel
theorem dX5_platformUnder_25 : decode cX5_platformUnder 25 = .ok (.aaload, 1) := by decide +kernel
theorem dX5_platformUnder_26 : decode cX5_platformUnder 26 = .ok (.aload_n 1, 1) := by decide +kernel
theorem dX5_platformUnder_27 : decode cX5_platformUnder 27 = .ok (.iload_n 2, 1) := by decide +kernel
theorem dX5_platformUnder_28 : decode cX5_platformUnder 28 = .ok (.iload_n 3, 1) := by decide +kernel
theorem dX5_platformUnder_29 : decode cX5_platformUnder 29 = .ok (.invokevirtual 88, 3) := by decide +kernel
theorem dX5_platformUnder_32 : decode cX5_platformUnder 32 = .ok (.ifCond .eq 6, 3) := by decide +kernel
theorem dX5_platformUnder_35 : decode cX5_platformUnder 35 = .ok (.iload 5, 2) := by decide +kernel
theorem dX5_platformUnder_37 : decode cX5_platformUnder 37 = .ok (.ireturn, 1) := by decide +kernel
theorem dX5_platformUnder_38 : decode cX5_platformUnder 38 = .ok (.iinc 5 1, 3) := by decide +kernel
theorem dX5_platformUnder_41 : decode cX5_platformUnder 41 = .ok (.goto (-38), 3) := by decide +kernel
theorem dX5_platformUnder_44 : decode cX5_platformUnder 44 = .ok (.iconst (-1), 1) := by decide +kernel
theorem dX5_platformUnder_45 : decode cX5_platformUnder 45 = .ok (.ireturn, 1) := by decide +kernel
set_option maxRecDepth 20000 in
theorem ggX5_isStanding_X5_supportAt : GoodIn wsX5_isStanding wsX5_supportAt := goodIn_ca (goodIn_r _ [8, 9, 10, 11, 12, 13, 14, 15, 16, 17, 18, 19, 20, 21, 22, 23, 24, 25, 26, 27, 28, 29, 30, 31, 32, 33, 34, 35, 36, 37, 38, 39, 40, 41, 42, 43, 44, 45, 46, 47, 48, 49, 50, 51, 7, 52, 53, 54, 55, 56, 57, 58, 59, 60, 61, 62, 63, 80, 81, 82, 83, 84, 85, 86, 64, 65, 66, 67, 68, 69, 70, 71, 72, 73, 74, 75, 76, 77, 78, 79, 87, 88, 89, 90, 91, 92, 93, 94] (by decide +kernel) (by decide +kernel)) (goodIn_sub (fun _ h => List.mem_cons_of_mem _ (List.mem_append_right _ h)) (by decide +kernel))
set_option maxRecDepth 20000 in
theorem gX5_isStanding_X5_supportAt : GoodIn wsX5_isStanding (wsV RX5 94 RX5 yX5_supportAt wsX5_supportAt) := goodIn_app (goodIn_of _ (by decide +kernel)) ggX5_isStanding_X5_supportAt
theorem dX5_isStanding_0 : decode cX5_isStanding 0 = .ok (.aload_n 1, 1) := by decide +kernel
theorem dX5_isStanding_1 : decode cX5_isStanding 1 = .ok (.getfield 91, 3) := by decide +kernel
theorem dX5_isStanding_4 : decode cX5_isStanding 4 = .ok (.ifCond .gt 24, 3) := by decide +kernel
theorem dX5_isStanding_7 : decode cX5_isStanding 7 = .ok (.aload_n 0, 1) := by decide +kernel
theorem dX5_isStanding_8 : decode cX5_isStanding 8 = .ok (.aload_n 1, 1) := by decide +kernel
theorem dX5_isStanding_9 : decode cX5_isStanding 9 = .ok (.aload_n 1, 1) := by decide +kernel
theorem dX5_isStanding_10 : decode cX5_isStanding 10 = .ok (.getfield 56, 3) := by decide +kernel
theorem dX5_isStanding_13 : decode cX5_isStanding 13 = .ok (.aload_n 1, 1) := by decide +kernel
theorem dX5_isStanding_14 : decode cX5_isStanding 14 = .ok (.getfield 59, 3) := by decide +kernel
theorem dX5_isStanding_17 : decode cX5_isStanding 17 = .ok (.iconst (-1), 1) := by decide +kernel
theorem dX5_isStanding_18 : decode cX5_isStanding 18 = .ok (.invokevirtual 94, 3) := by decide +kernel
theorem dX5_isStanding_21 : decode cX5_isStanding 21 = .ok (.ifCond .eq 7, 3) := by decide +kernel
theorem dX5_isStanding_24 : decode cX5_isStanding 24 = .ok (.iconst 1, 1) := by decide +kernel
theorem dX5_isStanding_25 : decode cX5_isStanding 25 = .ok (.goto 4, 3) := by decide +kernel
theorem dX5_isStanding_28 : decode cX5_isStanding 28 = .ok (.iconst 0, 1) := by decide +kernel
theorem dX5_isStanding_29 : decode cX5_isStanding 29 = .ok (.ireturn, 1) := by decide +kernel
set_option maxRecDepth 20000 in
theorem ggX5_stepSideways_X0_footAt : GoodIn wsX5_stepSideways wsX0_footAt := goodIn_r _ [8, 9, 72, 73, 74, 75, 76, 77, 78, 79, 80, 81, 82, 83, 84, 85, 86, 87] (by decide +kernel) (by decide +kernel)
set_option maxRecDepth 20000 in
theorem gX5_stepSideways_X0_footAt : GoodIn wsX5_stepSideways (wsV RX5 70 RX0 yX0_footAt wsX0_footAt) := goodIn_app (goodIn_of _ (by decide +kernel)) ggX5_stepSideways_X0_footAt
set_option maxRecDepth 20000 in
theorem ggX5_stepSideways_X4_surfaceAt : GoodIn wsX5_stepSideways wsX4_surfaceAt := goodIn_ca (goodIn_r _ [14, 15, 16, 17, 18, 13, 19, 20, 95] (by decide +kernel) (by decide +kernel)) (goodIn_sub (fun _ h => List.mem_cons_of_mem _ (List.mem_append_right _ h)) (by decide +kernel))
set_option maxRecDepth 20000 in
theorem gX5_stepSideways_X4_surfaceAt : GoodIn wsX5_stepSideways (wsV RX5 74 RX4 yX4_surfaceAt wsX4_surfaceAt) := goodIn_app (goodIn_of _ (by decide +kernel)) ggX5_stepSideways_X4_surfaceAt
set_option maxRecDepth 20000 in
theorem ggX5_stepSideways_X4_block : GoodIn wsX5_stepSideways wsX4_block := goodIn_ca (goodIn_r _ [24, 25, 26, 27, 7, 28, 9, 29, 30, 31, 32, 33, 34, 5, 6, 8, 16, 17, 18, 13, 19, 20, 35, 36, 37, 38, 39, 40, 41, 42, 72, 73, 74, 75, 76, 77, 78, 79, 80, 81, 82, 83, 84, 85, 86, 87, 95] (by decide +kernel) (by decide +kernel)) (goodIn_sub (fun _ h => List.mem_cons_of_mem _ (List.mem_append_right _ h)) (by decide +kernel))
set_option maxRecDepth 20000 in
theorem gX5_stepSideways_X4_block : GoodIn wsX5_stepSideways (wsV RX5 62 RX4 yX4_block wsX4_block) := goodIn_app (goodIn_of _ (by decide +kernel)) ggX5_stepSideways_X4_block
set_option maxRecDepth 20000 in
theorem ggX5_stepSideways_X5_supportAt : GoodIn wsX5_stepSideways wsX5_supportAt := goodIn_ca (goodIn_r _ [47, 3, 48, 49, 50, 51, 13, 52, 25, 26, 27, 7, 28, 9, 34, 5, 6, 8, 16, 17, 18, 19, 20, 35, 36, 37, 38, 39, 40, 41, 42, 4, 10, 11, 12, 14, 15, 53, 54, 55, 56, 57, 58, 59, 46, 60, 61, 62, 63, 64, 65, 66, 67, 68, 69, 70, 71, 88, 89, 90, 91, 92, 93, 94, 72, 73, 74, 75, 76, 77, 78, 79, 80, 81, 82, 83, 84, 85, 86, 87, 95, 96, 97, 98, 99, 100, 101, 102] (by decide +kernel) (by decide +kernel)) (goodIn_sub (fun _ h => List.mem_cons_of_mem _ (List.mem_append_right _ h)) (by decide +kernel))
set_option maxRecDepth 20000 in
theorem gX5_stepSideways_X5_supportAt : GoodIn wsX5_stepSideways (wsV RX5 94 RX5 yX5_supportAt wsX5_supportAt) := goodIn_app (goodIn_of _ (by decide +kernel)) ggX5_stepSideways_X5_supportAt
theorem dX5_stepSideways_0 : decode cX5_stepSideways 0 = .ok (.aload_n 1, 1) := by decide +kernel
theorem dX5_stepSideways_1 : decode cX5_stepSideways 1 = .ok (.getfield 56, 3) := by decide +kernel
theorem dX5_stepSideways_4 : decode cX5_stepSideways 4 = .ok (.iload_n 2, 1) := by decide +kernel
theorem dX5_stepSideways_5 : decode cX5_stepSideways 5 = .ok (.iadd, 1) := by decide +kernel
theorem dX5_stepSideways_6 : decode cX5_stepSideways 6 = .ok (.istore_n 3, 1) := by decide +kernel
theorem dX5_stepSideways_7 : decode cX5_stepSideways 7 = .ok (.aload_n 1, 1) := by decide +kernel
theorem dX5_stepSideways_8 : decode cX5_stepSideways 8 = .ok (.getfield 59, 3) := by decide +kernel
theorem dX5_stepSideways_11 : decode cX5_stepSideways 11 = .ok (.istore 4, 2) := by decide +kernel
theorem dX5_stepSideways_13 : decode cX5_stepSideways 13 = .ok (.aload_n 0, 1) := by decide +kernel
theorem dX5_stepSideways_14 : decode cX5_stepSideways 14 = .ok (.getfield 12, 3) := by decide +kernel
theorem dX5_stepSideways_17 : decode cX5_stepSideways 17 = .ok (.aload_n 1, 1) := by decide +kernel
theorem dX5_stepSideways_18 : decode cX5_stepSideways 18 = .ok (.iload_n 3, 1) := by decide +kernel
theorem dX5_stepSideways_19 : decode cX5_stepSideways 19 = .ok (.invokevirtual 70, 3) := by decide +kernel
theorem dX5_stepSideways_22 : decode cX5_stepSideways 22 = .ok (.iload 4, 2) := by decide +kernel
theorem dX5_stepSideways_24 : decode cX5_stepSideways 24 = .ok (.invokevirtual 74, 3) := by decide +kernel
theorem dX5_stepSideways_27 : decode cX5_stepSideways 27 = .ok (.istore 5, 2) := by decide +kernel
theorem dX5_stepSideways_29 : decode cX5_stepSideways 29 = .ok (.iload 5, 2) := by decide +kernel
theorem dX5_stepSideways_31 : decode cX5_stepSideways 31 = .ok (.aload_n 1, 1) := by decide +kernel
theorem dX5_stepSideways_32 : decode cX5_stepSideways 32 = .ok (.getfield 59, 3) := by decide +kernel
theorem dX5_stepSideways_35 : decode cX5_stepSideways 35 = .ok (.iconst 1, 1) := by decide +kernel
theorem dX5_stepSideways_36 : decode cX5_stepSideways 36 = .ok (.iadd, 1) := by decide +kernel
theorem dX5_stepSideways_37 : decode cX5_stepSideways 37 = .ok (.if_icmp .le 5, 3) := by decide +kernel
theorem dX5_stepSideways_40 : decode cX5_stepSideways 40 = .ok (.iconst 0, 1) := by decide +kernel
theorem dX5_stepSideways_41 : decode cX5_stepSideways 41 = .ok (.ireturn, 1) := by decide +kernel
theorem dX5_stepSideways_42 : decode cX5_stepSideways 42 = .ok (.iload 5, 2) := by decide +kernel
theorem dX5_stepSideways_44 : decode cX5_stepSideways 44 = .ok (.aload_n 1, 1) := by decide +kernel
theorem dX5_stepSideways_45 : decode cX5_stepSideways 45 = .ok (.getfield 59, 3) := by decide +kernel
theorem dX5_stepSideways_48 : decode cX5_stepSideways 48 = .ok (.iconst 1, 1) := by decide +kernel
theorem dX5_stepSideways_49 : decode cX5_stepSideways 49 = .ok (.iadd, 1) := by decide +kernel
theorem dX5_stepSideways_50 : decode cX5_stepSideways 50 = .ok (.if_icmp .ne 7, 3) := by decide +kernel
theorem dX5_stepSideways_53 : decode cX5_stepSideways 53 = .ok (.iload 5, 2) := by decide +kernel
theorem dX5_stepSideways_55 : decode cX5_stepSideways 55 = .ok (.istore 4, 2) := by decide +kernel
theorem dX5_stepSideways_57 : decode cX5_stepSideways 57 = .ok (.aload_n 0, 1) := by decide +kernel
theorem dX5_stepSideways_58 : decode cX5_stepSideways 58 = .ok (.getfield 12, 3) := by decide +kernel
theorem dX5_stepSideways_61 : decode cX5_stepSideways 61 = .ok (.aload_n 1, 1) := by decide +kernel
theorem dX5_stepSideways_62 : decode cX5_stepSideways 62 = .ok (.iload_n 3, 1) := by decide +kernel
theorem dX5_stepSideways_63 : decode cX5_stepSideways 63 = .ok (.iload 4, 2) := by decide +kernel
theorem dX5_stepSideways_65 : decode cX5_stepSideways 65 = .ok (.invokevirtual 62, 3) := by decide +kernel
theorem dX5_stepSideways_68 : decode cX5_stepSideways 68 = .ok (.ifCond .eq 5, 3) := by decide +kernel
theorem dX5_stepSideways_71 : decode cX5_stepSideways 71 = .ok (.iconst 0, 1) := by decide +kernel
theorem dX5_stepSideways_72 : decode cX5_stepSideways 72 = .ok (.ireturn, 1) := by decide +kernel
theorem dX5_stepSideways_73 : decode cX5_stepSideways 73 = .ok (.aload_n 0, 1) := by decide +kernel
theorem dX5_stepSideways_74 : decode cX5_stepSideways 74 = .ok (.aload_n 1, 1) := by decide +kernel
theorem dX5_stepSideways_75 : decode cX5_stepSideways 75 = .ok (.iload_n 3, 1) := by decide +kernel
theorem dX5_stepSideways_76 : decode cX5_stepSideways 76 = .ok (.iload 4, 2) := by decide +kernel
theorem dX5_stepSideways_78 : decode cX5_stepSideways 78 = .ok (.iconst (-1), 1) := by decide +kernel
theorem dX5_stepSideways_79 : decode cX5_stepSideways 79 = .ok (.invokevirtual 94, 3) := by decide +kernel
theorem dX5_stepSideways_82 : decode cX5_stepSideways 82 = .ok (.ifCond .ne 37, 3) := by decide +kernel
theorem dX5_stepSideways_85 : decode cX5_stepSideways 85 = .ok (.aload_n 0, 1) := by decide +kernel
theorem dX5_stepSideways_86 : decode cX5_stepSideways 86 = .ok (.aload_n 1, 1) := by decide +kernel
theorem dX5_stepSideways_87 : decode cX5_stepSideways 87 = .ok (.aload_n 1, 1) := by decide +kernel
theorem dX5_stepSideways_88 : decode cX5_stepSideways 88 = .ok (.getfield 56, 3) := by decide +kernel
theorem dX5_stepSideways_91 : decode cX5_stepSideways 91 = .ok (.aload_n 1, 1) := by decide +kernel
theorem dX5_stepSideways_92 : decode cX5_stepSideways 92 = .ok (.getfield 59, 3) := by decide +kernel
theorem dX5_stepSideways_95 : decode cX5_stepSideways 95 = .ok (.iconst (-1), 1) := by decide +kernel
theorem dX5_stepSideways_96 : decode cX5_stepSideways 96 = .ok (.invokevirtual 94, 3) := by decide +kernel
theorem dX5_stepSideways_99 : decode cX5_stepSideways 99 = .ok (.ifCond .eq 20, 3) := by decide +kernel
theorem dX5_stepSideways_102 : decode cX5_stepSideways 102 = .ok (.aload_n 0, 1) := by decide +kernel
theorem dX5_stepSideways_103 : decode cX5_stepSideways 103 = .ok (.aload_n 1, 1) := by decide +kernel
theorem dX5_stepSideways_104 : decode cX5_stepSideways 104 = .ok (.iload_n 3, 1) := by decide +kernel
theorem dX5_stepSideways_105 : decode cX5_stepSideways 105 = .ok (.iload 4, 2) := by decide +kernel
theorem dX5_stepSideways_107 : decode cX5_stepSideways 107 = .ok (.iconst 1, 1) := by decide +kernel
theorem dX5_stepSideways_108 : decode cX5_stepSideways 108 = .ok (.isub, 1) := by decide +kernel
theorem dX5_stepSideways_109 : decode cX5_stepSideways 109 = .ok (.iconst (-1), 1) := by decide +kernel
theorem dX5_stepSideways_110 : decode cX5_stepSideways 110 = .ok (.invokevirtual 94, 3) := by decide +kernel
theorem dX5_stepSideways_113 : decode cX5_stepSideways 113 = .ok (.ifCond .eq 6, 3) := by decide +kernel
theorem dX5_stepSideways_116 : decode cX5_stepSideways 116 = .ok (.iinc 4 (-1), 3) := by decide +kernel
theorem dX5_stepSideways_119 : decode cX5_stepSideways 119 = .ok (.aload_n 1, 1) := by decide +kernel
theorem dX5_stepSideways_120 : decode cX5_stepSideways 120 = .ok (.iload_n 3, 1) := by decide +kernel
theorem dX5_stepSideways_121 : decode cX5_stepSideways 121 = .ok (.putfield 56, 3) := by decide +kernel
theorem dX5_stepSideways_124 : decode cX5_stepSideways 124 = .ok (.aload_n 1, 1) := by decide +kernel
theorem dX5_stepSideways_125 : decode cX5_stepSideways 125 = .ok (.iload 4, 2) := by decide +kernel
theorem dX5_stepSideways_127 : decode cX5_stepSideways 127 = .ok (.putfield 59, 3) := by decide +kernel
theorem dX5_stepSideways_130 : decode cX5_stepSideways 130 = .ok (.iconst 1, 1) := by decide +kernel
theorem dX5_stepSideways_131 : decode cX5_stepSideways 131 = .ok (.ireturn, 1) := by decide +kernel
set_option maxRecDepth 20000 in
theorem ggX5_stepUp_X4_block : GoodIn wsX5_stepUp wsX4_block := goodIn_ca (goodIn_r _ [8, 9, 10, 11, 12, 13, 14, 15, 16, 17, 18, 19, 20, 21, 22, 23, 24, 25, 26, 7, 27, 28, 29, 30, 31, 32, 33, 34, 35, 36, 44, 45, 46, 47, 48, 49, 50, 51, 52, 53, 54, 55, 56, 57, 58, 59, 60] (by decide +kernel) (by decide +kernel)) (goodIn_sub (fun _ h => List.mem_cons_of_mem _ (List.mem_append_right _ h)) (by decide +kernel))
set_option maxRecDepth 20000 in
theorem gX5_stepUp_X4_block : GoodIn wsX5_stepUp (wsV RX5 62 RX4 yX4_block wsX4_block) := goodIn_app (goodIn_of _ (by decide +kernel)) ggX5_stepUp_X4_block
theorem dX5_stepUp_0 : decode cX5_stepUp 0 = .ok (.aload_n 0, 1) := by decide +kernel
theorem dX5_stepUp_1 : decode cX5_stepUp 1 = .ok (.getfield 12, 3) := by decide +kernel
theorem dX5_stepUp_4 : decode cX5_stepUp 4 = .ok (.aload_n 1, 1) := by decide +kernel
theorem dX5_stepUp_5 : decode cX5_stepUp 5 = .ok (.aload_n 1, 1) := by decide +kernel
theorem dX5_stepUp_6 : decode cX5_stepUp 6 = .ok (.getfield 56, 3) := by decide +kernel
theorem dX5_stepUp_9 : decode cX5_stepUp 9 = .ok (.aload_n 1, 1) := by decide +kernel
theorem dX5_stepUp_10 : decode cX5_stepUp 10 = .ok (.getfield 59, 3) := by decide +kernel
theorem dX5_stepUp_13 : decode cX5_stepUp 13 = .ok (.iconst 1, 1) := by decide +kernel
theorem dX5_stepUp_14 : decode cX5_stepUp 14 = .ok (.iadd, 1) := by decide +kernel
theorem dX5_stepUp_15 : decode cX5_stepUp 15 = .ok (.invokevirtual 62, 3) := by decide +kernel
theorem dX5_stepUp_18 : decode cX5_stepUp 18 = .ok (.ifCond .eq 5, 3) := by decide +kernel
theorem dX5_stepUp_21 : decode cX5_stepUp 21 = .ok (.iconst 0, 1) := by decide +kernel
theorem dX5_stepUp_22 : decode cX5_stepUp 22 = .ok (.ireturn, 1) := by decide +kernel
theorem dX5_stepUp_23 : decode cX5_stepUp 23 = .ok (.aload_n 1, 1) := by decide +kernel
theorem dX5_stepUp_24 : decode cX5_stepUp 24 = .ok (.dup, 1) := by decide +kernel
theorem dX5_stepUp_25 : decode cX5_stepUp 25 = .ok (.getfield 59, 3) := by decide +kernel
theorem dX5_stepUp_28 : decode cX5_stepUp 28 = .ok (.iconst 1, 1) := by decide +kernel
theorem dX5_stepUp_29 : decode cX5_stepUp 29 = .ok (.iadd, 1) := by decide +kernel
theorem dX5_stepUp_30 : decode cX5_stepUp 30 = .ok (.putfield 59, 3) := by decide +kernel
theorem dX5_stepUp_33 : decode cX5_stepUp 33 = .ok (.iconst 1, 1) := by decide +kernel
theorem dX5_stepUp_34 : decode cX5_stepUp 34 = .ok (.ireturn, 1) := by decide +kernel
set_option maxRecDepth 20000 in
theorem ggX5_stepDown_X5_supportAt : GoodIn wsX5_stepDown wsX5_supportAt := goodIn_ca (goodIn_r _ [7, 8, 9, 10, 11, 12, 13, 14, 15, 16, 17, 18, 19, 20, 21, 22, 23, 24, 25, 26, 27, 28, 29, 30, 31, 32, 33, 34, 35, 36, 37, 38, 39, 40, 41, 42, 43, 44, 45, 46, 47, 48, 49, 50, 6, 51, 52, 53, 54, 55, 56, 57, 58, 59, 60, 61, 62, 79, 80, 81, 82, 83, 84, 85, 63, 64, 65, 66, 67, 68, 69, 70, 71, 72, 73, 74, 75, 76, 77, 78, 86, 87, 88, 89, 90, 91, 92, 93] (by decide +kernel) (by decide +kernel)) (goodIn_sub (fun _ h => List.mem_cons_of_mem _ (List.mem_append_right _ h)) (by decide +kernel))
set_option maxRecDepth 20000 in
theorem gX5_stepDown_X5_supportAt : GoodIn wsX5_stepDown (wsV RX5 94 RX5 yX5_supportAt wsX5_supportAt) := goodIn_app (goodIn_of _ (by decide +kernel)) ggX5_stepDown_X5_supportAt
theorem dX5_stepDown_0 : decode cX5_stepDown 0 = .ok (.aload_n 0, 1) := by decide +kernel
theorem dX5_stepDown_1 : decode cX5_stepDown 1 = .ok (.aload_n 1, 1) := by decide +kernel
theorem dX5_stepDown_2 : decode cX5_stepDown 2 = .ok (.aload_n 1, 1) := by decide +kernel
theorem dX5_stepDown_3 : decode cX5_stepDown 3 = .ok (.getfield 56, 3) := by decide +kernel
theorem dX5_stepDown_6 : decode cX5_stepDown 6 = .ok (.aload_n 1, 1) := by decide +kernel
theorem dX5_stepDown_7 : decode cX5_stepDown 7 = .ok (.getfield 59, 3) := by decide +kernel
theorem dX5_stepDown_10 : decode cX5_stepDown 10 = .ok (.iload_n 2, 1) := by decide +kernel
theorem dX5_stepDown_11 : decode cX5_stepDown 11 = .ok (.invokevirtual 94, 3) := by decide +kernel
theorem dX5_stepDown_14 : decode cX5_stepDown 14 = .ok (.ifCond .eq 5, 3) := by decide +kernel
theorem dX5_stepDown_17 : decode cX5_stepDown 17 = .ok (.iconst 0, 1) := by decide +kernel
theorem dX5_stepDown_18 : decode cX5_stepDown 18 = .ok (.ireturn, 1) := by decide +kernel
theorem dX5_stepDown_19 : decode cX5_stepDown 19 = .ok (.aload_n 1, 1) := by decide +kernel
theorem dX5_stepDown_20 : decode cX5_stepDown 20 = .ok (.dup, 1) := by decide +kernel
theorem dX5_stepDown_21 : decode cX5_stepDown 21 = .ok (.getfield 59, 3) := by decide +kernel
theorem dX5_stepDown_24 : decode cX5_stepDown 24 = .ok (.iconst 1, 1) := by decide +kernel
theorem dX5_stepDown_25 : decode cX5_stepDown 25 = .ok (.isub, 1) := by decide +kernel
theorem dX5_stepDown_26 : decode cX5_stepDown 26 = .ok (.putfield 59, 3) := by decide +kernel
theorem dX5_stepDown_29 : decode cX5_stepDown 29 = .ok (.iconst 1, 1) := by decide +kernel
theorem dX5_stepDown_30 : decode cX5_stepDown 30 = .ok (.ireturn, 1) := by decide +kernel
set_option maxRecDepth 20000 in
theorem ggX5_advance_X5_noteCarriers : GoodIn wsX5_advance wsX5_noteCarriers := goodIn_ca (goodIn_r _ [8, 2, 3, 9, 10, 11, 12, 13, 14, 15, 16, 7, 17, 18, 19, 20, 21, 22, 23, 24, 25, 26, 27, 28, 245, 246, 247, 248, 249, 250, 251, 252, 253, 254, 255, 256, 257, 258, 259, 260, 261, 262, 263, 264, 265, 266, 267, 268, 269, 270, 271, 272, 273, 274] (by decide +kernel) (by decide +kernel)) (goodIn_sub (fun _ h => List.mem_cons_of_mem _ (List.mem_append_right _ h)) (by decide +kernel))
set_option maxRecDepth 20000 in
theorem gX5_advance_X5_noteCarriers : GoodIn wsX5_advance (wsV RX5 97 RX5 yX5_noteCarriers wsX5_noteCarriers) := goodIn_app (goodIn_of _ (by decide +kernel)) ggX5_advance_X5_noteCarriers
set_option maxRecDepth 20000 in
theorem ggX5_advance_X5_movePlatforms : GoodIn wsX5_advance wsX5_movePlatforms := goodIn_ca (goodIn_r _ [32, 18, 2, 11, 3, 19, 33, 34, 35, 7, 36, 37, 38, 39, 40, 41, 42, 43, 44, 45, 46, 12, 13, 47, 48, 49, 50, 51, 52, 53, 54, 55, 56, 57, 58, 59, 60, 61, 62, 63, 64, 65, 66, 67, 68, 69, 70, 71, 72, 73, 74, 75, 76, 77, 78, 79, 80, 81, 82, 83, 84, 85, 86, 87, 88, 89, 90, 10, 91, 92, 93, 94, 95, 96, 97, 98, 14, 15, 16, 17, 20, 21, 22, 23, 24, 25, 26, 27, 28, 99, 100, 101, 102, 103, 104, 105, 106, 107, 108, 109, 110, 111, 112, 113, 114, 245, 246, 247, 248, 249, 250, 251, 268, 269, 270, 271, 272, 273, 274, 252, 253, 254, 255, 256, 257, 258, 259, 260, 261, 262, 263, 264, 265, 266, 267, 275] (by decide +kernel) (by decide +kernel)) (goodIn_sub (fun _ h => List.mem_cons_of_mem _ (List.mem_append_right _ h)) (by decide +kernel))
set_option maxRecDepth 20000 in
theorem gX5_advance_X5_movePlatforms : GoodIn wsX5_advance (wsV RX5 100 RX5 yX5_movePlatforms wsX5_movePlatforms) := goodIn_app (goodIn_of _ (by decide +kernel)) ggX5_advance_X5_movePlatforms
set_option maxRecDepth 20000 in
theorem ggX5_advance_X5_update : GoodIn wsX5_advance wsX5_update := goodIn_ca (goodIn_r _ [118, 119, 120, 121, 7, 122, 123, 124, 125, 126, 127, 128, 9, 12, 13, 87, 88, 89, 90, 47, 10, 91, 92, 93, 57, 94, 69, 70, 71, 51, 72, 53, 78, 49, 50, 52, 60, 61, 62, 63, 64, 79, 80, 81, 82, 83, 84, 85, 86, 48, 54, 55, 56, 58, 59, 95, 96, 97, 98, 14, 15, 16, 17, 18, 19, 20, 21, 22, 23, 24, 25, 26, 27, 28, 129, 130, 131, 132, 133, 134, 135, 136, 137, 138, 139, 140, 141, 142, 143, 144, 145, 146, 147, 148, 149, 150, 151, 152, 153, 154, 155, 40, 156, 157, 158, 159, 160, 161, 162, 163, 164, 165, 166, 167, 168, 169, 170, 171, 172, 173, 174, 175, 65, 66, 67, 68, 73, 74, 75, 76, 77, 176, 177, 178, 179, 180, 181, 182, 183, 184, 43, 44, 45, 46, 185, 186, 187, 188, 189, 190, 191, 192, 38, 39, 41, 193, 194, 195, 196, 99, 100, 101, 102, 103, 104, 105, 106, 197, 198, 199, 200, 201, 202, 203, 204, 205, 206, 207, 208, 209, 210, 211, 212, 213, 214, 215, 216, 217, 218, 219, 220, 221, 222, 223, 224, 225, 226, 227, 228, 229, 230, 231, 232, 233, 234, 235, 236, 237, 238, 239, 240, 241, 242, 243, 244, 252, 253, 254, 255, 256, 257, 258, 259, 260, 261, 262, 263, 264, 265, 266, 267, 245, 246, 247, 248, 249, 250, 251, 275, 268, 269, 270, 271, 272, 273, 274] (by decide +kernel) (by decide +kernel)) (goodIn_sub (fun _ h => List.mem_cons_of_mem _ (List.mem_append_right _ h)) (by decide +kernel))
set_option maxRecDepth 20000 in
theorem gX5_advance_X5_update : GoodIn wsX5_advance (wsV RX5 103 RX5 yX5_update wsX5_update) := goodIn_app (goodIn_of _ (by decide +kernel)) ggX5_advance_X5_update
theorem dX5_advance_0 : decode cX5_advance 0 = .ok (.aload_n 0, 1) := by decide +kernel
theorem dX5_advance_1 : decode cX5_advance 1 = .ok (.invokevirtual 97, 3) := by decide +kernel
theorem dX5_advance_4 : decode cX5_advance 4 = .ok (.aload_n 0, 1) := by decide +kernel
theorem dX5_advance_5 : decode cX5_advance 5 = .ok (.dup, 1) := by decide +kernel
theorem dX5_advance_6 : decode cX5_advance 6 = .ok (.getfield 47, 3) := by decide +kernel
theorem dX5_advance_9 : decode cX5_advance 9 = .ok (.iconst 1, 1) := by decide +kernel
theorem dX5_advance_10 : decode cX5_advance 10 = .ok (.iadd, 1) := by decide +kernel
theorem dX5_advance_11 : decode cX5_advance 11 = .ok (.putfield 47, 3) := by decide +kernel
theorem dX5_advance_14 : decode cX5_advance 14 = .ok (.aload_n 0, 1) := by decide +kernel
theorem dX5_advance_15 : decode cX5_advance 15 = .ok (.invokevirtual 100, 3) := by decide +kernel
theorem dX5_advance_18 : decode cX5_advance 18 = .ok (.iconst 0, 1) := by decide +kernel
theorem dX5_advance_19 : decode cX5_advance 19 = .ok (.istore_n 2, 1) := by decide +kernel
theorem dX5_advance_20 : decode cX5_advance 20 = .ok (.iload_n 2, 1) := by decide +kernel
theorem dX5_advance_21 : decode cX5_advance 21 = .ok (.aload_n 0, 1) := by decide +kernel
theorem dX5_advance_22 : decode cX5_advance 22 = .ok (.getfield 40, 3) := by decide +kernel
theorem dX5_advance_25 : decode cX5_advance 25 = .ok (.if_icmp .ge 20, 3) := by decide +kernel
theorem dX5_advance_28 : decode cX5_advance 28 = .ok (.aload_n 0, 1) := by decide +kernel
theorem dX5_advance_29 : decode cX5_advance 29 = .ok (.aload_n 0, 1) := by decide +kernel
theorem dX5_advance_30 : decode cX5_advance 30 = .ok (.getfield 20, 3) := by decide +kernel
theorem dX5_advance_33 : decode cX5_advance 33 = .ok (.iload_n 2, 1) := by decide +kernel
theorem dX5_advance_34 : decode cX5_advance 34 = .ok (.aaload, 1) := by decide +kernel
theorem dX5_advance_35 : decode cX5_advance 35 = .ok (.aload_n 1, 1) := by decide +kernel
theorem dX5_advance_36 : decode cX5_advance 36 = .ok (.invokevirtual 103, 3) := by decide +kernel
theorem dX5_advance_39 : decode cX5_advance 39 = .ok (.iinc 2 1, 3) := by decide +kernel
theorem dX5_advance_42 : decode cX5_advance 42 = .ok (.goto (-22), 3) := by decide +kernel
theorem dX5_advance_45 : decode cX5_advance 45 = .ok (.return_, 1) := by decide +kernel
set_option maxRecDepth 20000 in
theorem ggX5_noteCarriers_X5_platformUnder : GoodIn wsX5_noteCarriers wsX5_platformUnder := goodIn_r _ [12, 13, 14, 15, 16, 17, 18, 19, 20, 21, 22, 23, 24, 25, 26, 27, 28, 29, 30, 47, 48, 49, 50, 51, 52, 53, 31, 32, 33, 34, 35, 36, 37, 38, 39, 40, 41, 42, 43, 44, 45, 46] (by decide +kernel) (by decide +kernel)
set_option maxRecDepth 20000 in
theorem gX5_noteCarriers_X5_platformUnder : GoodIn wsX5_noteCarriers (wsV RX5 84 RX5 yX5_platformUnder wsX5_platformUnder) := goodIn_app (goodIn_of _ (by decide +kernel)) ggX5_noteCarriers_X5_platformUnder
theorem dX5_noteCarriers_0 : decode cX5_noteCarriers 0 = .ok (.iconst 0, 1) := by decide +kernel
theorem dX5_noteCarriers_1 : decode cX5_noteCarriers 1 = .ok (.istore_n 1, 1) := by decide +kernel
theorem dX5_noteCarriers_2 : decode cX5_noteCarriers 2 = .ok (.iload_n 1, 1) := by decide +kernel
theorem dX5_noteCarriers_3 : decode cX5_noteCarriers 3 = .ok (.aload_n 0, 1) := by decide +kernel
theorem dX5_noteCarriers_4 : decode cX5_noteCarriers 4 = .ok (.getfield 40, 3) := by decide +kernel
theorem dX5_noteCarriers_7 : decode cX5_noteCarriers 7 = .ok (.if_icmp .ge 64, 3) := by decide +kernel
theorem dX5_noteCarriers_10 : decode cX5_noteCarriers 10 = .ok (.aload_n 0, 1) := by decide +kernel
theorem dX5_noteCarriers_11 : decode cX5_noteCarriers 11 = .ok (.getfield 20, 3) := by decide +kernel
theorem dX5_noteCarriers_14 : decode cX5_noteCarriers 14 = .ok (.iload_n 1, 1) := by decide +kernel
theorem dX5_noteCarriers_15 : decode cX5_noteCarriers 15 = .ok (.aaload, 1) := by decide +kernel
theorem dX5_noteCarriers_16 : decode cX5_noteCarriers 16 = .ok (.astore_n 2, 1) := by decide +kernel
theorem dX5_noteCarriers_17 : decode cX5_noteCarriers 17 = .ok (.aload_n 2, 1) := by decide +kernel
theorem dX5_noteCarriers_18 : decode cX5_noteCarriers 18 = .ok (.getfield 91, 3) := by decide +kernel
theorem dX5_noteCarriers_21 : decode cX5_noteCarriers 21 = .ok (.ifCond .gt 14, 3) := by decide +kernel
theorem dX5_noteCarriers_24 : decode cX5_noteCarriers 24 = .ok (.aload_n 2, 1) := by decide +kernel
theorem dX5_noteCarriers_25 : decode cX5_noteCarriers 25 = .ok (.getfield 78, 3) := by decide +kernel
theorem dX5_noteCarriers_28 : decode cX5_noteCarriers 28 = .ok (.ifCond .ne 7, 3) := by decide +kernel
theorem dX5_noteCarriers_31 : decode cX5_noteCarriers 31 = .ok (.iconst 1, 1) := by decide +kernel
theorem dX5_noteCarriers_32 : decode cX5_noteCarriers 32 = .ok (.goto 4, 3) := by decide +kernel
theorem dX5_noteCarriers_35 : decode cX5_noteCarriers 35 = .ok (.iconst 0, 1) := by decide +kernel
theorem dX5_noteCarriers_36 : decode cX5_noteCarriers 36 = .ok (.istore_n 3, 1) := by decide +kernel
theorem dX5_noteCarriers_37 : decode cX5_noteCarriers 37 = .ok (.aload_n 0, 1) := by decide +kernel
theorem dX5_noteCarriers_38 : decode cX5_noteCarriers 38 = .ok (.getfield 30, 3) := by decide +kernel
theorem dX5_noteCarriers_41 : decode cX5_noteCarriers 41 = .ok (.iload_n 1, 1) := by decide +kernel
theorem dX5_noteCarriers_42 : decode cX5_noteCarriers 42 = .ok (.iload_n 3, 1) := by decide +kernel
theorem dX5_noteCarriers_43 : decode cX5_noteCarriers 43 = .ok (.ifCond .eq 20, 3) := by decide +kernel
theorem dX5_noteCarriers_46 : decode cX5_noteCarriers 46 = .ok (.aload_n 0, 1) := by decide +kernel
theorem dX5_noteCarriers_47 : decode cX5_noteCarriers 47 = .ok (.aload_n 2, 1) := by decide +kernel
theorem dX5_noteCarriers_48 : decode cX5_noteCarriers 48 = .ok (.aload_n 2, 1) := by decide +kernel
theorem dX5_noteCarriers_49 : decode cX5_noteCarriers 49 = .ok (.getfield 56, 3) := by decide +kernel
theorem dX5_noteCarriers_52 : decode cX5_noteCarriers 52 = .ok (.aload_n 2, 1) := by decide +kernel
theorem dX5_noteCarriers_53 : decode cX5_noteCarriers 53 = .ok (.getfield 59, 3) := by decide +kernel
theorem dX5_noteCarriers_56 : decode cX5_noteCarriers 56 = .ok (.iconst (-1), 1) := by decide +kernel
theorem dX5_noteCarriers_57 : decode cX5_noteCarriers 57 = .ok (.invokevirtual 84, 3) := by decide +kernel
theorem dX5_noteCarriers_60 : decode cX5_noteCarriers 60 = .ok (.goto 4, 3) := by decide +kernel
theorem dX5_noteCarriers_63 : decode cX5_noteCarriers 63 = .ok (.iconst (-1), 1) := by decide +kernel
theorem dX5_noteCarriers_64 : decode cX5_noteCarriers 64 = .ok (.iastore, 1) := by decide +kernel
theorem dX5_noteCarriers_65 : decode cX5_noteCarriers 65 = .ok (.iinc 1 1, 3) := by decide +kernel
theorem dX5_noteCarriers_68 : decode cX5_noteCarriers 68 = .ok (.goto (-66), 3) := by decide +kernel
theorem dX5_noteCarriers_71 : decode cX5_noteCarriers 71 = .ok (.return_, 1) := by decide +kernel
set_option maxRecDepth 20000 in
theorem ggX5_movePlatforms_X5_carry : GoodIn wsX5_movePlatforms wsX5_carry := goodIn_ca (goodIn_r _ [10, 5, 11, 12, 13, 14, 15, 16, 17, 18, 19, 9, 20, 21, 22, 23, 24, 25, 26, 27, 28, 29, 30, 31, 32, 33, 34, 35, 36, 37, 38, 39, 40, 41, 42, 43, 44, 45, 46, 47, 48, 49, 50, 51, 52, 53, 54, 55, 56, 57, 58, 59, 60, 61, 62, 63, 64, 65, 66, 67, 68, 69, 70, 71, 72, 73, 74, 75, 76, 77, 78, 79, 1, 80, 81, 82, 83, 84, 85, 86, 87, 88, 89, 90, 91, 92, 93, 94, 95, 96, 105, 106, 107, 108, 109, 110, 111, 112, 113, 114, 115, 116, 117, 118, 119, 120, 121, 122, 123, 124, 125, 126, 127, 128, 129, 130, 131, 132, 133, 134, 135] (by decide +kernel) (by decide +kernel)) (goodIn_sub (fun _ h => List.mem_cons_of_mem _ (List.mem_append_right _ h)) (by decide +kernel))
set_option maxRecDepth 20000 in
theorem gX5_movePlatforms_X5_carry : GoodIn wsX5_movePlatforms (wsV RX5 107 RX5 yX5_carry wsX5_carry) := goodIn_app (goodIn_of _ (by decide +kernel)) ggX5_movePlatforms_X5_carry
set_option maxRecDepth 20000 in
theorem ggX5_movePlatforms_X2_move : GoodIn wsX5_movePlatforms wsX2_move := goodIn_r _ [100, 86, 101, 85, 102, 103, 104, 112, 113, 114, 115, 116, 117, 118] (by decide +kernel) (by decide +kernel)
set_option maxRecDepth 20000 in
theorem gX5_movePlatforms_X2_move : GoodIn wsX5_movePlatforms (wsV RX5 111 RX2 yX2_move wsX2_move) := goodIn_app (goodIn_of _ (by decide +kernel)) ggX5_movePlatforms_X2_move
theorem dX5_movePlatforms_0 : decode cX5_movePlatforms 0 = .ok (.iconst 0, 1) := by decide +kernel
theorem dX5_movePlatforms_1 : decode cX5_movePlatforms 1 = .ok (.istore_n 1, 1) := by decide +kernel
theorem dX5_movePlatforms_2 : decode cX5_movePlatforms 2 = .ok (.iload_n 1, 1) := by decide +kernel
theorem dX5_movePlatforms_3 : decode cX5_movePlatforms 3 = .ok (.aload_n 0, 1) := by decide +kernel
theorem dX5_movePlatforms_4 : decode cX5_movePlatforms 4 = .ok (.getfield 44, 3) := by decide +kernel
theorem dX5_movePlatforms_7 : decode cX5_movePlatforms 7 = .ok (.if_icmp .ge 55, 3) := by decide +kernel
theorem dX5_movePlatforms_10 : decode cX5_movePlatforms 10 = .ok (.iconst 0, 1) := by decide +kernel
theorem dX5_movePlatforms_11 : decode cX5_movePlatforms 11 = .ok (.istore_n 2, 1) := by decide +kernel
theorem dX5_movePlatforms_12 : decode cX5_movePlatforms 12 = .ok (.iload_n 2, 1) := by decide +kernel
theorem dX5_movePlatforms_13 : decode cX5_movePlatforms 13 = .ok (.aload_n 0, 1) := by decide +kernel
theorem dX5_movePlatforms_14 : decode cX5_movePlatforms 14 = .ok (.getfield 40, 3) := by decide +kernel
theorem dX5_movePlatforms_17 : decode cX5_movePlatforms 17 = .ok (.if_icmp .ge 30, 3) := by decide +kernel
theorem dX5_movePlatforms_20 : decode cX5_movePlatforms 20 = .ok (.aload_n 0, 1) := by decide +kernel
theorem dX5_movePlatforms_21 : decode cX5_movePlatforms 21 = .ok (.getfield 30, 3) := by decide +kernel
theorem dX5_movePlatforms_24 : decode cX5_movePlatforms 24 = .ok (.iload_n 2, 1) := by decide +kernel
theorem dX5_movePlatforms_25 : decode cX5_movePlatforms 25 = .ok (.iaload, 1) := by decide +kernel
theorem dX5_movePlatforms_26 : decode cX5_movePlatforms 26 = .ok (.iload_n 1, 1) := by decide +kernel
theorem dX5_movePlatforms_27 : decode cX5_movePlatforms 27 = .ok (.if_icmp .ne 14, 3) := by decide +kernel
theorem dX5_movePlatforms_30 : decode cX5_movePlatforms 30 = .ok (.aload_n 0, 1) := by decide +kernel
theorem dX5_movePlatforms_31 : decode cX5_movePlatforms 31 = .ok (.aload_n 0, 1) := by decide +kernel
theorem dX5_movePlatforms_32 : decode cX5_movePlatforms 32 = .ok (.getfield 20, 3) := by decide +kernel
theorem dX5_movePlatforms_35 : decode cX5_movePlatforms 35 = .ok (.iload_n 2, 1) := by decide +kernel
theorem dX5_movePlatforms_36 : decode cX5_movePlatforms 36 = .ok (.aaload, 1) := by decide +kernel
theorem dX5_movePlatforms_37 : decode cX5_movePlatforms 37 = .ok (.iload_n 1, 1) := by decide +kernel
theorem dX5_movePlatforms_38 : decode cX5_movePlatforms 38 = .ok (.invokevirtual 107, 3) := by decide +kernel
theorem dX5_movePlatforms_41 : decode cX5_movePlatforms 41 = .ok (.iinc 2 1, 3) := by decide +kernel
theorem dX5_movePlatforms_44 : decode cX5_movePlatforms 44 = .ok (.goto (-32), 3) := by decide +kernel
theorem dX5_movePlatforms_47 : decode cX5_movePlatforms 47 = .ok (.aload_n 0, 1) := by decide +kernel
theorem dX5_movePlatforms_48 : decode cX5_movePlatforms 48 = .ok (.getfield 26, 3) := by decide +kernel
theorem dX5_movePlatforms_51 : decode cX5_movePlatforms 51 = .ok (.iload_n 1, 1) := by decide +kernel
theorem dX5_movePlatforms_52 : decode cX5_movePlatforms 52 = .ok (.aaload, 1) := by decide +kernel
theorem dX5_movePlatforms_53 : decode cX5_movePlatforms 53 = .ok (.invokevirtual 111, 3) := by decide +kernel
theorem dX5_movePlatforms_56 : decode cX5_movePlatforms 56 = .ok (.iinc 1 1, 3) := by decide +kernel
theorem dX5_movePlatforms_59 : decode cX5_movePlatforms 59 = .ok (.goto (-57), 3) := by decide +kernel
theorem dX5_movePlatforms_62 : decode cX5_movePlatforms 62 = .ok (.return_, 1) := by decide +kernel
set_option maxRecDepth 20000 in
theorem ggX5_carry_X5_stepSideways : GoodIn wsX5_carry wsX5_stepSideways := goodIn_ca (goodIn_r _ [12, 13, 14, 15, 16, 17, 18, 19, 20, 21, 22, 23, 24, 25, 26, 27, 28, 29, 30, 31, 32, 33, 34, 35, 36, 37, 38, 39, 40, 41, 42, 43, 44, 45, 46, 47, 48, 49, 50, 51, 52, 53, 54, 55, 56, 57, 11, 58, 59, 60, 61, 62, 63, 64, 65, 66, 67, 68, 69, 70, 71, 72, 1, 73, 74, 75, 76, 77, 78, 79, 80, 81, 104, 105, 106, 107, 108, 109, 110, 111, 112, 113, 114, 115, 116, 117, 118, 119, 90, 91, 92, 93, 94, 95, 96, 120, 97, 98, 99, 100, 101, 102, 103] (by decide +kernel) (by decide +kernel)) (goodIn_sub (fun _ h => List.mem_cons_of_mem _ (List.mem_append_right _ h)) (by decide +kernel))
set_option maxRecDepth 20000 in
theorem gX5_carry_X5_stepSideways : GoodIn wsX5_carry (wsV RX5 122 RX5 yX5_stepSideways wsX5_stepSideways) := goodIn_app (goodIn_of _ (by decide +kernel)) ggX5_carry_X5_stepSideways
set_option maxRecDepth 20000 in
theorem ggX5_carry_X5_stepUp : GoodIn wsX5_carry wsX5_stepUp := goodIn_ca (goodIn_r _ [85, 15, 13, 14, 33, 34, 35, 25, 36, 37, 38, 39, 19, 40, 21, 41, 42, 43, 44, 45, 46, 17, 18, 20, 28, 29, 30, 31, 32, 47, 48, 49, 50, 51, 52, 53, 54, 90, 91, 92, 93, 94, 95, 96, 104, 105, 106, 107, 108, 109, 110, 111, 112, 113, 114, 115, 116, 117, 118, 119, 120] (by decide +kernel) (by decide +kernel)) (goodIn_sub (fun _ h => List.mem_cons_of_mem _ (List.mem_append_right _ h)) (by decide +kernel))
set_option maxRecDepth 20000 in
theorem gX5_carry_X5_stepUp : GoodIn wsX5_carry (wsV RX5 129 RX5 yX5_stepUp wsX5_stepUp) := goodIn_app (goodIn_of _ (by decide +kernel)) ggX5_carry_X5_stepUp
set_option maxRecDepth 20000 in
theorem ggX5_carry_X5_stepDown : GoodIn wsX5_carry wsX5_stepDown := goodIn_ca (goodIn_r _ [89, 13, 14, 55, 56, 57, 11, 58, 15, 59, 60, 61, 62, 25, 63, 37, 38, 39, 19, 40, 21, 46, 17, 18, 20, 28, 29, 30, 31, 32, 47, 48, 49, 50, 51, 52, 53, 54, 16, 22, 23, 24, 26, 27, 64, 65, 66, 67, 68, 69, 70, 71, 72, 1, 73, 74, 75, 76, 77, 78, 79, 80, 81, 104, 105, 106, 107, 108, 109, 110, 111, 112, 113, 114, 115, 116, 117, 118, 119, 90, 91, 92, 93, 94, 95, 96, 120, 97, 98, 99, 100, 101, 102, 103] (by decide +kernel) (by decide +kernel)) (goodIn_sub (fun _ h => List.mem_cons_of_mem _ (List.mem_append_right _ h)) (by decide +kernel))
set_option maxRecDepth 20000 in
theorem gX5_carry_X5_stepDown : GoodIn wsX5_carry (wsV RX5 133 RX5 yX5_stepDown wsX5_stepDown) := goodIn_app (goodIn_of _ (by decide +kernel)) ggX5_carry_X5_stepDown
theorem dX5_carry_0 : decode cX5_carry 0 = .ok (.aload_n 0, 1) := by decide +kernel
theorem dX5_carry_1 : decode cX5_carry 1 = .ok (.getfield 26, 3) := by decide +kernel
theorem dX5_carry_4 : decode cX5_carry 4 = .ok (.iload_n 2, 1) := by decide +kernel
theorem dX5_carry_5 : decode cX5_carry 5 = .ok (.aaload, 1) := by decide +kernel
theorem dX5_carry_6 : decode cX5_carry 6 = .ok (.astore_n 3, 1) := by decide +kernel
theorem dX5_carry_7 : decode cX5_carry 7 = .ok (.aload_n 3, 1) := by decide +kernel
theorem dX5_carry_8 : decode cX5_carry 8 = .ok (.getfield 114, 3) := by decide +kernel
theorem dX5_carry_11 : decode cX5_carry 11 = .ok (.ifCond .ge 7, 3) := by decide +kernel
theorem dX5_carry_14 : decode cX5_carry 14 = .ok (.iconst (-1), 1) := by decide +kernel
theorem dX5_carry_15 : decode cX5_carry 15 = .ok (.goto 4, 3) := by decide +kernel
theorem dX5_carry_18 : decode cX5_carry 18 = .ok (.iconst 1, 1) := by decide +kernel
theorem dX5_carry_19 : decode cX5_carry 19 = .ok (.istore 4, 2) := by decide +kernel
theorem dX5_carry_21 : decode cX5_carry 21 = .ok (.aload_n 3, 1) := by decide +kernel
theorem dX5_carry_22 : decode cX5_carry 22 = .ok (.getfield 114, 3) := by decide +kernel
theorem dX5_carry_25 : decode cX5_carry 25 = .ok (.invokestatic 117, 3) := by decide +kernel
theorem dX5_carry_28 : decode cX5_carry 28 = .ok (.istore 5, 2) := by decide +kernel
theorem dX5_carry_30 : decode cX5_carry 30 = .ok (.iload 5, 2) := by decide +kernel
theorem dX5_carry_32 : decode cX5_carry 32 = .ok (.ifCond .le 19, 3) := by decide +kernel
theorem dX5_carry_35 : decode cX5_carry 35 = .ok (.aload_n 0, 1) := by decide +kernel
theorem dX5_carry_36 : decode cX5_carry 36 = .ok (.aload_n 1, 1) := by decide +kernel
theorem dX5_carry_37 : decode cX5_carry 37 = .ok (.iload 4, 2) := by decide +kernel
theorem dX5_carry_39 : decode cX5_carry 39 = .ok (.invokevirtual 122, 3) := by decide +kernel
theorem dX5_carry_42 : decode cX5_carry 42 = .ok (.ifCond .eq 9, 3) := by decide +kernel
theorem dX5_carry_45 : decode cX5_carry 45 = .ok (.iinc 5 (-1), 3) := by decide +kernel
theorem dX5_carry_48 : decode cX5_carry 48 = .ok (.goto (-18), 3) := by decide +kernel
theorem dX5_carry_51 : decode cX5_carry 51 = .ok (.aload_n 3, 1) := by decide +kernel
theorem dX5_carry_52 : decode cX5_carry 52 = .ok (.getfield 126, 3) := by decide +kernel
theorem dX5_carry_55 : decode cX5_carry 55 = .ok (.istore 6, 2) := by decide +kernel
theorem dX5_carry_57 : decode cX5_carry 57 = .ok (.iload 6, 2) := by decide +kernel
theorem dX5_carry_59 : decode cX5_carry 59 = .ok (.ifCond .le 17, 3) := by decide +kernel
theorem dX5_carry_62 : decode cX5_carry 62 = .ok (.aload_n 0, 1) := by decide +kernel
theorem dX5_carry_63 : decode cX5_carry 63 = .ok (.aload_n 1, 1) := by decide +kernel
theorem dX5_carry_64 : decode cX5_carry 64 = .ok (.invokevirtual 129, 3) := by decide +kernel
theorem dX5_carry_67 : decode cX5_carry 67 = .ok (.ifCond .eq 9, 3) := by decide +kernel
theorem dX5_carry_70 : decode cX5_carry 70 = .ok (.iinc 6 (-1), 3) := by decide +kernel
theorem dX5_carry_73 : decode cX5_carry 73 = .ok (.goto (-16), 3) := by decide +kernel
theorem dX5_carry_76 : decode cX5_carry 76 = .ok (.aload_n 3, 1) := by decide +kernel
theorem dX5_carry_77 : decode cX5_carry 77 = .ok (.getfield 126, 3) := by decide +kernel
theorem dX5_carry_80 : decode cX5_carry 80 = .ok (.ineg, 1) := by decide +kernel
theorem dX5_carry_81 : decode cX5_carry 81 = .ok (.istore 7, 2) := by decide +kernel
theorem dX5_carry_83 : decode cX5_carry 83 = .ok (.iload 7, 2) := by decide +kernel
theorem dX5_carry_85 : decode cX5_carry 85 = .ok (.ifCond .le 18, 3) := by decide +kernel
theorem dX5_carry_88 : decode cX5_carry 88 = .ok (.aload_n 0, 1) := by decide +kernel
theorem dX5_carry_89 : decode cX5_carry 89 = .ok (.aload_n 1, 1) := by decide +kernel
theorem dX5_carry_90 : decode cX5_carry 90 = .ok (.iload_n 2, 1) := by decide +kernel
theorem dX5_carry_91 : decode cX5_carry 91 = .ok (.invokevirtual 133, 3) := by decide +kernel
theorem dX5_carry_94 : decode cX5_carry 94 = .ok (.ifCond .eq 9, 3) := by decide +kernel
theorem dX5_carry_97 : decode cX5_carry 97 = .ok (.iinc 7 (-1), 3) := by decide +kernel
theorem dX5_carry_100 : decode cX5_carry 100 = .ok (.goto (-17), 3) := by decide +kernel
theorem dX5_carry_103 : decode cX5_carry 103 = .ok (.return_, 1) := by decide +kernel
set_option maxRecDepth 20000 in
theorem ggX5_update_X5_senseStanding : GoodIn wsX5_update wsX5_senseStanding := goodIn_ca (goodIn_r _ [5, 6, 7, 8, 9, 10, 4, 11, 12, 13, 14, 15, 16, 17, 18, 19, 20, 21, 22, 23, 24, 25, 26, 27, 28, 29, 30, 31, 32, 33, 34, 35, 36, 37, 38, 39, 40, 41, 42, 43, 44, 45, 46, 47, 48, 49, 50, 51, 52, 53, 54, 55, 56, 57, 58, 59, 60, 61, 62, 63, 64, 65, 66, 67, 68, 69, 70, 71, 72, 73, 215, 216, 217, 218, 219, 220, 221, 222, 223, 224, 225, 226, 227, 228, 229, 230, 231, 232, 233, 234, 235, 236, 237, 238, 239, 240, 241, 242, 243, 244, 245] (by decide +kernel) (by decide +kernel)) (goodIn_sub (fun _ h => List.mem_cons_of_mem _ (List.mem_append_right _ h)) (by decide +kernel))
set_option maxRecDepth 20000 in
theorem gX5_update_X5_senseStanding : GoodIn wsX5_update (wsV RX5 136 RX5 yX5_senseStanding wsX5_senseStanding) := goodIn_app (goodIn_of _ (by decide +kernel)) ggX5_update_X5_senseStanding
set_option maxRecDepth 20000 in
theorem ggX5_update_X5_senseJumpKey : GoodIn wsX5_update wsX5_senseJumpKey := goodIn_r _ [77, 78, 79, 80, 81, 82, 29, 83, 84, 215, 216, 217, 218, 219, 220, 221, 222, 223, 224, 225, 226, 227, 228, 229, 230] (by decide +kernel) (by decide +kernel)
set_option maxRecDepth 20000 in
theorem gX5_update_X5_senseJumpKey : GoodIn wsX5_update (wsV RX5 139 RX5 yX5_senseJumpKey wsX5_senseJumpKey) := goodIn_app (goodIn_of _ (by decide +kernel)) ggX5_update_X5_senseJumpKey
set_option maxRecDepth 20000 in
theorem ggX5_update_X5_beginsToDrop : GoodIn wsX5_update wsX5_beginsToDrop := goodIn_ca (goodIn_r _ [88, 20, 79, 13, 14, 6, 80, 81, 82, 29, 83, 84, 15, 16, 17, 4, 18, 19, 21, 22, 23, 24, 25, 26, 27, 28, 30, 31, 32, 33, 34, 35, 36, 37, 38, 39, 40, 41, 42, 43, 44, 45, 46, 47, 48, 49, 50, 51, 52, 53, 54, 55, 56, 57, 58, 59, 60, 61, 62, 63, 64, 65, 66, 67, 68, 69, 70, 71, 72, 73, 215, 216, 217, 218, 219, 220, 221, 222, 223, 224, 225, 226, 227, 228, 229, 230, 231, 232, 233, 234, 235, 236, 237, 238, 239, 240, 241, 242, 243, 244, 245] (by decide +kernel) (by decide +kernel)) (goodIn_sub (fun _ h => List.mem_cons_of_mem _ (List.mem_append_right _ h)) (by decide +kernel))
set_option maxRecDepth 20000 in
theorem gX5_update_X5_beginsToDrop : GoodIn wsX5_update (wsV RX5 142 RX5 yX5_beginsToDrop wsX5_beginsToDrop) := goodIn_app (goodIn_of _ (by decide +kernel)) ggX5_update_X5_beginsToDrop
set_option maxRecDepth 20000 in
theorem ggX5_update_X0_direction : GoodIn wsX5_update wsX0_direction := goodIn_r _ [92, 93, 81, 82, 29, 83, 84, 215, 216, 217, 218, 219, 220, 221, 222, 223, 224, 225, 226, 227, 228, 229, 230] (by decide +kernel) (by decide +kernel)
set_option maxRecDepth 20000 in
theorem gX5_update_X0_direction : GoodIn wsX5_update (wsV RX5 146 RX0 yX0_direction wsX0_direction) := goodIn_app (goodIn_of _ (by decide +kernel)) ggX5_update_X0_direction
set_option maxRecDepth 20000 in
theorem ggX5_update_X5_steer : GoodIn wsX5_update wsX5_steer := goodIn_ca (goodIn_r _ [97, 19, 13, 14, 98, 99, 100, 101, 102, 21, 22, 23, 24, 25, 26, 27, 28, 29, 30, 31, 32, 33, 34, 35, 36, 37, 38, 39, 40, 41, 42, 43, 44, 45, 46, 47, 48, 103, 104, 105, 4, 106, 107, 108, 109, 231, 232, 233, 234, 235, 236, 237, 215, 216, 217, 218, 219, 220, 221, 222, 223, 224, 225, 226, 227, 228, 229, 230, 238] (by decide +kernel) (by decide +kernel)) (goodIn_sub (fun _ h => List.mem_cons_of_mem _ (List.mem_append_right _ h)) (by decide +kernel))
set_option maxRecDepth 20000 in
theorem gX5_update_X5_steer : GoodIn wsX5_update (wsV RX5 150 RX5 yX5_steer wsX5_steer) := goodIn_app (goodIn_of _ (by decide +kernel)) ggX5_update_X5_steer
set_option maxRecDepth 20000 in
theorem ggX5_update_X5_jumps : GoodIn wsX5_update wsX5_jumps := goodIn_ca (goodIn_r _ [113, 79, 6, 19, 13, 14, 98, 114, 115, 116, 29, 117, 118, 119, 120, 121, 122, 123, 124, 24, 125, 26, 27, 28, 30, 31, 126, 127, 128, 129, 130, 32, 33, 34, 35, 36, 37, 38, 39, 40, 41, 42, 43, 44, 45, 46, 47, 48, 215, 216, 217, 218, 219, 220, 221, 222, 223, 224, 225, 226, 227, 228, 229, 230, 231, 232, 233, 234, 235, 236, 237, 238] (by decide +kernel) (by decide +kernel)) (goodIn_sub (fun _ h => List.mem_cons_of_mem _ (List.mem_append_right _ h)) (by decide +kernel))
set_option maxRecDepth 20000 in
theorem gX5_update_X5_jumps : GoodIn wsX5_update (wsV RX5 154 RX5 yX5_jumps wsX5_jumps) := goodIn_app (goodIn_of _ (by decide +kernel)) ggX5_update_X5_jumps
set_option maxRecDepth 20000 in
theorem ggX5_update_X5_cutJump : GoodIn wsX5_update wsX5_cutJump := goodIn_r _ [134, 135, 12, 80, 81, 82, 29, 83, 84, 215, 216, 217, 218, 219, 220, 221, 222, 223, 224, 225, 226, 227, 228, 229, 230] (by decide +kernel) (by decide +kernel)
set_option maxRecDepth 20000 in
theorem gX5_update_X5_cutJump : GoodIn wsX5_update (wsV RX5 158 RX5 yX5_cutJump wsX5_cutJump) := goodIn_app (goodIn_of _ (by decide +kernel)) ggX5_update_X5_cutJump
set_option maxRecDepth 20000 in
theorem ggX5_update_X5_rideBelts : GoodIn wsX5_update wsX5_rideBelts := goodIn_ca (goodIn_r _ [139, 19, 13, 14, 7, 21, 22, 23, 24, 25, 26, 27, 28, 29, 30, 31, 32, 33, 34, 35, 36, 37, 38, 39, 40, 41, 42, 43, 44, 45, 46, 47, 48, 140, 141, 142, 4, 143, 49, 50, 51, 52, 53, 54, 122, 123, 124, 125, 126, 127, 128, 129, 130, 15, 16, 17, 18, 20, 55, 56, 57, 58, 59, 60, 61, 62, 63, 64, 65, 66, 67, 68, 69, 70, 71, 72, 73, 231, 232, 233, 234, 235, 236, 237, 215, 216, 217, 218, 219, 220, 221, 222, 223, 224, 225, 226, 227, 228, 229, 230, 238, 239, 240, 241, 242, 243, 244, 245] (by decide +kernel) (by decide +kernel)) (goodIn_sub (fun _ h => List.mem_cons_of_mem _ (List.mem_append_right _ h)) (by decide +kernel))
set_option maxRecDepth 20000 in
theorem gX5_update_X5_rideBelts : GoodIn wsX5_update (wsV RX5 161 RX5 yX5_rideBelts wsX5_rideBelts) := goodIn_app (goodIn_of _ (by decide +kernel)) ggX5_update_X5_rideBelts
set_option maxRecDepth 20000 in
theorem ggX5_update_X5_accelerateDown : GoodIn wsX5_update wsX5_accelerateDown := goodIn_ca (goodIn_r _ [147, 12, 107, 108, 101, 109, 19, 13, 14, 122, 123, 124, 24, 125, 26, 27, 28, 29, 30, 31, 126, 127, 128, 129, 130, 32, 33, 34, 35, 36, 37, 38, 39, 40, 41, 42, 43, 44, 45, 46, 47, 48, 215, 216, 217, 218, 219, 220, 221, 222, 223, 224, 225, 226, 227, 228, 229, 230, 231, 232, 233, 234, 235, 236, 237, 238] (by decide +kernel) (by decide +kernel)) (goodIn_sub (fun _ h => List.mem_cons_of_mem _ (List.mem_append_right _ h)) (by decide +kernel))
set_option maxRecDepth 20000 in
theorem gX5_update_X5_accelerateDown : GoodIn wsX5_update (wsV RX5 164 RX5 yX5_accelerateDown wsX5_accelerateDown) := goodIn_app (goodIn_of _ (by decide +kernel)) ggX5_update_X5_accelerateDown
set_option maxRecDepth 20000 in
theorem ggX5_update_X5_run : GoodIn wsX5_update wsX5_run := goodIn_ca (goodIn_r _ [151, 98, 152, 153, 101, 154, 7, 140, 141, 142, 4, 143, 13, 14, 19, 49, 33, 34, 29, 35, 31, 50, 51, 52, 24, 53, 54, 36, 37, 38, 39, 40, 122, 123, 124, 125, 26, 27, 28, 30, 126, 127, 128, 129, 130, 32, 41, 42, 43, 44, 45, 46, 47, 48, 15, 16, 17, 18, 20, 21, 22, 23, 25, 55, 56, 57, 58, 59, 60, 61, 62, 63, 64, 65, 66, 67, 68, 69, 70, 71, 72, 73, 215, 216, 217, 218, 219, 220, 221, 222, 223, 224, 225, 226, 227, 228, 229, 230, 231, 232, 233, 234, 235, 236, 237, 238, 239, 240, 241, 242, 243, 244, 245] (by decide +kernel) (by decide +kernel)) (goodIn_sub (fun _ h => List.mem_cons_of_mem _ (List.mem_append_right _ h)) (by decide +kernel))
set_option maxRecDepth 20000 in
theorem gX5_update_X5_run : GoodIn wsX5_update (wsV RX5 167 RX5 yX5_run wsX5_run) := goodIn_app (goodIn_of _ (by decide +kernel)) ggX5_update_X5_run
set_option maxRecDepth 20000 in
theorem ggX5_update_X5_riseOrFall : GoodIn wsX5_update wsX5_riseOrFall := goodIn_ca (goodIn_r _ [158, 12, 7, 159, 160, 161, 4, 162, 19, 13, 14, 122, 123, 124, 24, 125, 26, 27, 28, 29, 30, 31, 126, 127, 128, 129, 130, 32, 33, 34, 35, 36, 37, 38, 39, 40, 41, 42, 43, 44, 45, 46, 47, 48, 163, 164, 165, 166, 15, 16, 17, 18, 20, 21, 22, 23, 25, 49, 50, 51, 52, 53, 54, 55, 56, 57, 58, 59, 60, 61, 62, 63, 64, 65, 66, 67, 68, 69, 70, 71, 72, 73, 167, 168, 169, 170, 215, 216, 217, 218, 219, 220, 221, 222, 223, 224, 225, 226, 227, 228, 229, 230, 231, 232, 233, 234, 235, 236, 237, 238, 239, 240, 241, 242, 243, 244, 245] (by decide +kernel) (by decide +kernel)) (goodIn_sub (fun _ h => List.mem_cons_of_mem _ (List.mem_append_right _ h)) (by decide +kernel))
set_option maxRecDepth 20000 in
theorem gX5_update_X5_riseOrFall : GoodIn wsX5_update (wsV RX5 170 RX5 yX5_riseOrFall wsX5_riseOrFall) := goodIn_app (goodIn_of _ (by decide +kernel)) ggX5_update_X5_riseOrFall
set_option maxRecDepth 20000 in
theorem ggX5_update_X5_meetCoinsAndSpikes : GoodIn wsX5_update wsX5_meetCoinsAndSpikes := goodIn_ca (goodIn_r _ [174, 7, 19, 14, 175, 176, 177, 24, 178, 179, 180, 26, 27, 28, 29, 30, 31, 126, 127, 128, 129, 130, 36, 37, 38, 39, 40, 181, 182, 183, 184, 185, 42, 186, 187, 188, 189, 190, 191, 192, 193, 194, 195, 196, 197, 198, 199, 200, 201, 121, 202, 203, 204, 205, 206, 118, 207, 119, 208, 120, 215, 216, 217, 218, 219, 220, 221, 222, 223, 224, 225, 226, 227, 228, 229, 230, 231, 232, 233, 234, 235, 236, 237, 238] (by decide +kernel) (by decide +kernel)) (goodIn_sub (fun _ h => List.mem_cons_of_mem _ (List.mem_append_right _ h)) (by decide +kernel))
set_option maxRecDepth 20000 in
theorem gX5_update_X5_meetCoinsAndSpikes : GoodIn wsX5_update (wsV RX5 173 RX5 yX5_meetCoinsAndSpikes wsX5_meetCoinsAndSpikes) := goodIn_app (goodIn_of _ (by decide +kernel)) ggX5_update_X5_meetCoinsAndSpikes
set_option maxRecDepth 20000 in
theorem ggX5_update_X0_endTick : GoodIn wsX5_update wsX0_endTick := goodIn_ca (goodIn_r _ [212, 118, 120, 213, 201, 121, 84, 214, 215, 216, 217, 218, 219, 220, 221, 222, 223, 224, 225, 226, 227, 228, 229, 230] (by decide +kernel) (by decide +kernel)) (goodIn_sub (fun _ h => List.mem_cons_of_mem _ (List.mem_append_right _ h)) (by decide +kernel))
set_option maxRecDepth 20000 in
theorem gX5_update_X0_endTick : GoodIn wsX5_update (wsV RX5 176 RX0 yX0_endTick wsX0_endTick) := goodIn_app (goodIn_of _ (by decide +kernel)) ggX5_update_X0_endTick
theorem dX5_update_0 : decode cX5_update 0 = .ok (.aload_n 0, 1) := by decide +kernel
theorem dX5_update_1 : decode cX5_update 1 = .ok (.aload_n 1, 1) := by decide +kernel
theorem dX5_update_2 : decode cX5_update 2 = .ok (.aload_n 2, 1) := by decide +kernel
theorem dX5_update_3 : decode cX5_update 3 = .ok (.iconst 2, 1) := by decide +kernel
theorem dX5_update_4 : decode cX5_update 4 = .ok (.iaload, 1) := by decide +kernel
theorem dX5_update_5 : decode cX5_update 5 = .ok (.invokevirtual 136, 3) := by decide +kernel
theorem dX5_update_8 : decode cX5_update 8 = .ok (.istore_n 3, 1) := by decide +kernel
theorem dX5_update_9 : decode cX5_update 9 = .ok (.aload_n 0, 1) := by decide +kernel
theorem dX5_update_10 : decode cX5_update 10 = .ok (.aload_n 1, 1) := by decide +kernel
theorem dX5_update_11 : decode cX5_update 11 = .ok (.aload_n 2, 1) := by decide +kernel
theorem dX5_update_12 : decode cX5_update 12 = .ok (.iconst 3, 1) := by decide +kernel
theorem dX5_update_13 : decode cX5_update 13 = .ok (.iaload, 1) := by decide +kernel
theorem dX5_update_14 : decode cX5_update 14 = .ok (.invokevirtual 139, 3) := by decide +kernel
theorem dX5_update_17 : decode cX5_update 17 = .ok (.aload_n 0, 1) := by decide +kernel
theorem dX5_update_18 : decode cX5_update 18 = .ok (.aload_n 1, 1) := by decide +kernel
theorem dX5_update_19 : decode cX5_update 19 = .ok (.iload_n 3, 1) := by decide +kernel
theorem dX5_update_20 : decode cX5_update 20 = .ok (.invokevirtual 142, 3) := by decide +kernel
theorem dX5_update_23 : decode cX5_update 23 = .ok (.ifCond .eq 5, 3) := by decide +kernel
theorem dX5_update_26 : decode cX5_update 26 = .ok (.iconst 0, 1) := by decide +kernel
theorem dX5_update_27 : decode cX5_update 27 = .ok (.istore_n 3, 1) := by decide +kernel
theorem dX5_update_28 : decode cX5_update 28 = .ok (.aload_n 1, 1) := by decide +kernel
theorem dX5_update_29 : decode cX5_update 29 = .ok (.invokevirtual 146, 3) := by decide +kernel
theorem dX5_update_32 : decode cX5_update 32 = .ok (.istore 4, 2) := by decide +kernel
theorem dX5_update_34 : decode cX5_update 34 = .ok (.aload_n 0, 1) := by decide +kernel
theorem dX5_update_35 : decode cX5_update 35 = .ok (.aload_n 1, 1) := by decide +kernel
theorem dX5_update_36 : decode cX5_update 36 = .ok (.iload_n 3, 1) := by decide +kernel
theorem dX5_update_37 : decode cX5_update 37 = .ok (.iload 4, 2) := by decide +kernel
theorem dX5_update_39 : decode cX5_update 39 = .ok (.aload_n 2, 1) := by decide +kernel
theorem dX5_update_40 : decode cX5_update 40 = .ok (.iconst 0, 1) := by decide +kernel
theorem dX5_update_41 : decode cX5_update 41 = .ok (.iaload, 1) := by decide +kernel
theorem dX5_update_42 : decode cX5_update 42 = .ok (.invokevirtual 150, 3) := by decide +kernel
theorem dX5_update_45 : decode cX5_update 45 = .ok (.aload_n 0, 1) := by decide +kernel
theorem dX5_update_46 : decode cX5_update 46 = .ok (.aload_n 1, 1) := by decide +kernel
theorem dX5_update_47 : decode cX5_update 47 = .ok (.iload_n 3, 1) := by decide +kernel
theorem dX5_update_48 : decode cX5_update 48 = .ok (.aload_n 2, 1) := by decide +kernel
theorem dX5_update_49 : decode cX5_update 49 = .ok (.invokevirtual 154, 3) := by decide +kernel
theorem dX5_update_52 : decode cX5_update 52 = .ok (.ifCond .eq 5, 3) := by decide +kernel
theorem dX5_update_55 : decode cX5_update 55 = .ok (.iconst 0, 1) := by decide +kernel
theorem dX5_update_56 : decode cX5_update 56 = .ok (.istore_n 3, 1) := by decide +kernel
theorem dX5_update_57 : decode cX5_update 57 = .ok (.aload_n 0, 1) := by decide +kernel
theorem dX5_update_58 : decode cX5_update 58 = .ok (.aload_n 1, 1) := by decide +kernel
theorem dX5_update_59 : decode cX5_update 59 = .ok (.invokevirtual 158, 3) := by decide +kernel
theorem dX5_update_62 : decode cX5_update 62 = .ok (.iload_n 3, 1) := by decide +kernel
theorem dX5_update_63 : decode cX5_update 63 = .ok (.ifCond .eq 11, 3) := by decide +kernel
theorem dX5_update_66 : decode cX5_update 66 = .ok (.aload_n 0, 1) := by decide +kernel
theorem dX5_update_67 : decode cX5_update 67 = .ok (.aload_n 1, 1) := by decide +kernel
theorem dX5_update_68 : decode cX5_update 68 = .ok (.invokevirtual 161, 3) := by decide +kernel
theorem dX5_update_71 : decode cX5_update 71 = .ok (.goto 10, 3) := by decide +kernel
theorem dX5_update_74 : decode cX5_update 74 = .ok (.aload_n 0, 1) := by decide +kernel
theorem dX5_update_75 : decode cX5_update 75 = .ok (.aload_n 1, 1) := by decide +kernel
theorem dX5_update_76 : decode cX5_update 76 = .ok (.iload 4, 2) := by decide +kernel
theorem dX5_update_78 : decode cX5_update 78 = .ok (.invokevirtual 164, 3) := by decide +kernel
theorem dX5_update_81 : decode cX5_update 81 = .ok (.aload_n 0, 1) := by decide +kernel
theorem dX5_update_82 : decode cX5_update 82 = .ok (.aload_n 1, 1) := by decide +kernel
theorem dX5_update_83 : decode cX5_update 83 = .ok (.invokevirtual 167, 3) := by decide +kernel
theorem dX5_update_86 : decode cX5_update 86 = .ok (.aload_n 0, 1) := by decide +kernel
theorem dX5_update_87 : decode cX5_update 87 = .ok (.aload_n 1, 1) := by decide +kernel
theorem dX5_update_88 : decode cX5_update 88 = .ok (.invokevirtual 170, 3) := by decide +kernel
theorem dX5_update_91 : decode cX5_update 91 = .ok (.aload_n 0, 1) := by decide +kernel
theorem dX5_update_92 : decode cX5_update 92 = .ok (.aload_n 1, 1) := by decide +kernel
theorem dX5_update_93 : decode cX5_update 93 = .ok (.invokevirtual 173, 3) := by decide +kernel
theorem dX5_update_96 : decode cX5_update 96 = .ok (.aload_n 1, 1) := by decide +kernel
theorem dX5_update_97 : decode cX5_update 97 = .ok (.invokevirtual 176, 3) := by decide +kernel
theorem dX5_update_100 : decode cX5_update 100 = .ok (.return_, 1) := by decide +kernel
set_option maxRecDepth 20000 in
theorem ggX5_senseStanding_X5_isStanding : GoodIn wsX5_senseStanding wsX5_isStanding := goodIn_ca (goodIn_r _ [7, 8, 9, 10, 11, 12, 13, 6, 14, 15, 16, 17, 18, 19, 20, 21, 22, 23, 24, 25, 26, 27, 28, 29, 30, 31, 32, 33, 34, 35, 36, 37, 38, 39, 40, 41, 42, 43, 44, 45, 46, 47, 48, 49, 50, 51, 52, 53, 54, 55, 56, 57, 58, 59, 60, 61, 62, 63, 64, 65, 66, 67, 68, 69, 70, 71, 72, 73, 74, 75, 76, 77, 78, 79, 80, 81, 82, 83, 84, 85, 86, 87, 88, 89, 90, 91, 92, 93, 94, 95, 96, 97, 98, 99, 100] (by decide +kernel) (by decide +kernel)) (goodIn_sub (fun _ h => List.mem_cons_of_mem _ (List.mem_append_right _ h)) (by decide +kernel))
set_option maxRecDepth 20000 in
theorem gX5_senseStanding_X5_isStanding : GoodIn wsX5_senseStanding (wsV RX5 179 RX5 yX5_isStanding wsX5_isStanding) := goodIn_app (goodIn_of _ (by decide +kernel)) ggX5_senseStanding_X5_isStanding
theorem dX5_senseStanding_0 : decode cX5_senseStanding 0 = .ok (.aload_n 0, 1) := by decide +kernel
theorem dX5_senseStanding_1 : decode cX5_senseStanding 1 = .ok (.aload_n 1, 1) := by decide +kernel
theorem dX5_senseStanding_2 : decode cX5_senseStanding 2 = .ok (.invokevirtual 179, 3) := by decide +kernel
theorem dX5_senseStanding_5 : decode cX5_senseStanding 5 = .ok (.ifCond .eq 20, 3) := by decide +kernel
theorem dX5_senseStanding_8 : decode cX5_senseStanding 8 = .ok (.aload_n 1, 1) := by decide +kernel
theorem dX5_senseStanding_9 : decode cX5_senseStanding 9 = .ok (.iload_n 2, 1) := by decide +kernel
theorem dX5_senseStanding_10 : decode cX5_senseStanding 10 = .ok (.putfield 182, 3) := by decide +kernel
theorem dX5_senseStanding_13 : decode cX5_senseStanding 13 = .ok (.aload_n 1, 1) := by decide +kernel
theorem dX5_senseStanding_14 : decode cX5_senseStanding 14 = .ok (.getfield 185, 3) := by decide +kernel
theorem dX5_senseStanding_17 : decode cX5_senseStanding 17 = .ok (.iconst 5, 1) := by decide +kernel
theorem dX5_senseStanding_18 : decode cX5_senseStanding 18 = .ok (.dup2, 1) := by decide +kernel
theorem dX5_senseStanding_19 : decode cX5_senseStanding 19 = .ok (.iaload, 1) := by decide +kernel
theorem dX5_senseStanding_20 : decode cX5_senseStanding 20 = .ok (.iconst 1, 1) := by decide +kernel
theorem dX5_senseStanding_21 : decode cX5_senseStanding 21 = .ok (.iadd, 1) := by decide +kernel
theorem dX5_senseStanding_22 : decode cX5_senseStanding 22 = .ok (.iastore, 1) := by decide +kernel
theorem dX5_senseStanding_23 : decode cX5_senseStanding 23 = .ok (.iconst 1, 1) := by decide +kernel
theorem dX5_senseStanding_24 : decode cX5_senseStanding 24 = .ok (.ireturn, 1) := by decide +kernel
theorem dX5_senseStanding_25 : decode cX5_senseStanding 25 = .ok (.aload_n 1, 1) := by decide +kernel
theorem dX5_senseStanding_26 : decode cX5_senseStanding 26 = .ok (.getfield 182, 3) := by decide +kernel
theorem dX5_senseStanding_29 : decode cX5_senseStanding 29 = .ok (.ifCond .le 13, 3) := by decide +kernel
theorem dX5_senseStanding_32 : decode cX5_senseStanding 32 = .ok (.aload_n 1, 1) := by decide +kernel
theorem dX5_senseStanding_33 : decode cX5_senseStanding 33 = .ok (.dup, 1) := by decide +kernel
theorem dX5_senseStanding_34 : decode cX5_senseStanding 34 = .ok (.getfield 182, 3) := by decide +kernel
theorem dX5_senseStanding_37 : decode cX5_senseStanding 37 = .ok (.iconst 1, 1) := by decide +kernel
theorem dX5_senseStanding_38 : decode cX5_senseStanding 38 = .ok (.isub, 1) := by decide +kernel
theorem dX5_senseStanding_39 : decode cX5_senseStanding 39 = .ok (.putfield 182, 3) := by decide +kernel
theorem dX5_senseStanding_42 : decode cX5_senseStanding 42 = .ok (.iconst 0, 1) := by decide +kernel
theorem dX5_senseStanding_43 : decode cX5_senseStanding 43 = .ok (.ireturn, 1) := by decide +kernel
set_option maxRecDepth 20000 in
theorem ggX5_senseJumpKey_X0_holds : GoodIn wsX5_senseJumpKey wsX0_holds := goodIn_r _ [7, 8, 9, 10, 11, 12, 13, 14, 15, 16, 17, 18, 19, 20, 21, 22, 23, 24] (by decide +kernel) (by decide +kernel)
set_option maxRecDepth 20000 in
theorem gX5_senseJumpKey_X0_holds : GoodIn wsX5_senseJumpKey (wsV RX5 188 RX0 yX0_holds wsX0_holds) := goodIn_app (goodIn_of _ (by decide +kernel)) ggX5_senseJumpKey_X0_holds
theorem dX5_senseJumpKey_0 : decode cX5_senseJumpKey 0 = .ok (.aload_n 1, 1) := by decide +kernel
theorem dX5_senseJumpKey_1 : decode cX5_senseJumpKey 1 = .ok (.iconst 4, 1) := by decide +kernel
theorem dX5_senseJumpKey_2 : decode cX5_senseJumpKey 2 = .ok (.invokevirtual 188, 3) := by decide +kernel
theorem dX5_senseJumpKey_5 : decode cX5_senseJumpKey 5 = .ok (.ifCond .eq 20, 3) := by decide +kernel
theorem dX5_senseJumpKey_8 : decode cX5_senseJumpKey 8 = .ok (.aload_n 1, 1) := by decide +kernel
theorem dX5_senseJumpKey_9 : decode cX5_senseJumpKey 9 = .ok (.getfield 192, 3) := by decide +kernel
theorem dX5_senseJumpKey_12 : decode cX5_senseJumpKey 12 = .ok (.iconst 4, 1) := by decide +kernel
theorem dX5_senseJumpKey_13 : decode cX5_senseJumpKey 13 = .ok (.iand, 1) := by decide +kernel
theorem dX5_senseJumpKey_14 : decode cX5_senseJumpKey 14 = .ok (.ifCond .ne 11, 3) := by decide +kernel
theorem dX5_senseJumpKey_17 : decode cX5_senseJumpKey 17 = .ok (.aload_n 1, 1) := by decide +kernel
theorem dX5_senseJumpKey_18 : decode cX5_senseJumpKey 18 = .ok (.iload_n 2, 1) := by decide +kernel
theorem dX5_senseJumpKey_19 : decode cX5_senseJumpKey 19 = .ok (.putfield 195, 3) := by decide +kernel
theorem dX5_senseJumpKey_22 : decode cX5_senseJumpKey 22 = .ok (.goto 20, 3) := by decide +kernel
theorem dX5_senseJumpKey_25 : decode cX5_senseJumpKey 25 = .ok (.aload_n 1, 1) := by decide +kernel
theorem dX5_senseJumpKey_26 : decode cX5_senseJumpKey 26 = .ok (.getfield 195, 3) := by decide +kernel
theorem dX5_senseJumpKey_29 : decode cX5_senseJumpKey 29 = .ok (.ifCond .le 13, 3) := by decide +kernel
theorem dX5_senseJumpKey_32 : decode cX5_senseJumpKey 32 = .ok (.aload_n 1, 1) := by decide +kernel
theorem dX5_senseJumpKey_33 : decode cX5_senseJumpKey 33 = .ok (.dup, 1) := by decide +kernel
theorem dX5_senseJumpKey_34 : decode cX5_senseJumpKey 34 = .ok (.getfield 195, 3) := by decide +kernel
theorem dX5_senseJumpKey_37 : decode cX5_senseJumpKey 37 = .ok (.iconst 1, 1) := by decide +kernel
theorem dX5_senseJumpKey_38 : decode cX5_senseJumpKey 38 = .ok (.isub, 1) := by decide +kernel
theorem dX5_senseJumpKey_39 : decode cX5_senseJumpKey 39 = .ok (.putfield 195, 3) := by decide +kernel
theorem dX5_senseJumpKey_42 : decode cX5_senseJumpKey 42 = .ok (.return_, 1) := by decide +kernel
set_option maxRecDepth 20000 in
theorem ggX5_beginsToDrop_X0_holds : GoodIn wsX5_beginsToDrop wsX0_holds := goodIn_r _ [10, 11, 70, 71, 72, 73, 74, 75, 76, 77, 78, 79, 80, 81, 82, 83, 84, 85] (by decide +kernel) (by decide +kernel)
set_option maxRecDepth 20000 in
theorem gX5_beginsToDrop_X0_holds : GoodIn wsX5_beginsToDrop (wsV RX5 188 RX0 yX0_holds wsX0_holds) := goodIn_app (goodIn_of _ (by decide +kernel)) ggX5_beginsToDrop_X0_holds
set_option maxRecDepth 20000 in
theorem ggX5_beginsToDrop_X5_supportAt : GoodIn wsX5_beginsToDrop wsX5_supportAt := goodIn_ca (goodIn_r _ [16, 17, 1, 18, 19, 20, 21, 22, 23, 24, 25, 9, 26, 27, 28, 29, 30, 31, 32, 33, 34, 35, 36, 37, 38, 39, 40, 41, 42, 43, 44, 45, 46, 47, 48, 49, 50, 51, 52, 53, 54, 55, 56, 57, 15, 58, 59, 60, 61, 62, 63, 64, 65, 66, 67, 68, 69, 86, 87, 88, 89, 90, 91, 92, 70, 71, 72, 73, 74, 75, 76, 77, 78, 79, 80, 81, 82, 83, 84, 85, 93, 94, 95, 96, 97, 98, 99, 100] (by decide +kernel) (by decide +kernel)) (goodIn_sub (fun _ h => List.mem_cons_of_mem _ (List.mem_append_right _ h)) (by decide +kernel))
set_option maxRecDepth 20000 in
theorem gX5_beginsToDrop_X5_supportAt : GoodIn wsX5_beginsToDrop (wsV RX5 94 RX5 yX5_supportAt wsX5_supportAt) := goodIn_app (goodIn_of _ (by decide +kernel)) ggX5_beginsToDrop_X5_supportAt
theorem dX5_beginsToDrop_0 : decode cX5_beginsToDrop 0 = .ok (.aload_n 1, 1) := by decide +kernel
theorem dX5_beginsToDrop_1 : decode cX5_beginsToDrop 1 = .ok (.getfield 78, 3) := by decide +kernel
theorem dX5_beginsToDrop_4 : decode cX5_beginsToDrop 4 = .ok (.ifCond .le 13, 3) := by decide +kernel
theorem dX5_beginsToDrop_7 : decode cX5_beginsToDrop 7 = .ok (.aload_n 1, 1) := by decide +kernel
theorem dX5_beginsToDrop_8 : decode cX5_beginsToDrop 8 = .ok (.dup, 1) := by decide +kernel
theorem dX5_beginsToDrop_9 : decode cX5_beginsToDrop 9 = .ok (.getfield 78, 3) := by decide +kernel
theorem dX5_beginsToDrop_12 : decode cX5_beginsToDrop 12 = .ok (.iconst 1, 1) := by decide +kernel
theorem dX5_beginsToDrop_13 : decode cX5_beginsToDrop 13 = .ok (.isub, 1) := by decide +kernel
theorem dX5_beginsToDrop_14 : decode cX5_beginsToDrop 14 = .ok (.putfield 78, 3) := by decide +kernel
theorem dX5_beginsToDrop_17 : decode cX5_beginsToDrop 17 = .ok (.iload_n 2, 1) := by decide +kernel
theorem dX5_beginsToDrop_18 : decode cX5_beginsToDrop 18 = .ok (.ifCond .eq 19, 3) := by decide +kernel
theorem dX5_beginsToDrop_21 : decode cX5_beginsToDrop 21 = .ok (.aload_n 1, 1) := by decide +kernel
theorem dX5_beginsToDrop_22 : decode cX5_beginsToDrop 22 = .ok (.bipush 8, 2) := by decide +kernel
theorem dX5_beginsToDrop_24 : decode cX5_beginsToDrop 24 = .ok (.invokevirtual 188, 3) := by decide +kernel
theorem dX5_beginsToDrop_27 : decode cX5_beginsToDrop 27 = .ok (.ifCond .eq 10, 3) := by decide +kernel
theorem dX5_beginsToDrop_30 : decode cX5_beginsToDrop 30 = .ok (.aload_n 1, 1) := by decide +kernel
theorem dX5_beginsToDrop_31 : decode cX5_beginsToDrop 31 = .ok (.getfield 195, 3) := by decide +kernel
theorem dX5_beginsToDrop_34 : decode cX5_beginsToDrop 34 = .ok (.ifCond .ne 5, 3) := by decide +kernel
theorem dX5_beginsToDrop_37 : decode cX5_beginsToDrop 37 = .ok (.iconst 0, 1) := by decide +kernel
theorem dX5_beginsToDrop_38 : decode cX5_beginsToDrop 38 = .ok (.ireturn, 1) := by decide +kernel
theorem dX5_beginsToDrop_39 : decode cX5_beginsToDrop 39 = .ok (.aload_n 0, 1) := by decide +kernel
theorem dX5_beginsToDrop_40 : decode cX5_beginsToDrop 40 = .ok (.aload_n 1, 1) := by decide +kernel
theorem dX5_beginsToDrop_41 : decode cX5_beginsToDrop 41 = .ok (.aload_n 1, 1) := by decide +kernel
theorem dX5_beginsToDrop_42 : decode cX5_beginsToDrop 42 = .ok (.getfield 56, 3) := by decide +kernel
theorem dX5_beginsToDrop_45 : decode cX5_beginsToDrop 45 = .ok (.aload_n 1, 1) := by decide +kernel
theorem dX5_beginsToDrop_46 : decode cX5_beginsToDrop 46 = .ok (.getfield 59, 3) := by decide +kernel
theorem dX5_beginsToDrop_49 : decode cX5_beginsToDrop 49 = .ok (.iconst (-1), 1) := by decide +kernel
theorem dX5_beginsToDrop_50 : decode cX5_beginsToDrop 50 = .ok (.invokevirtual 94, 3) := by decide +kernel
theorem dX5_beginsToDrop_53 : decode cX5_beginsToDrop 53 = .ok (.iconst 5, 1) := by decide +kernel
theorem dX5_beginsToDrop_54 : decode cX5_beginsToDrop 54 = .ok (.iand, 1) := by decide +kernel
theorem dX5_beginsToDrop_55 : decode cX5_beginsToDrop 55 = .ok (.ifCond .eq 5, 3) := by decide +kernel
theorem dX5_beginsToDrop_58 : decode cX5_beginsToDrop 58 = .ok (.iconst 0, 1) := by decide +kernel
theorem dX5_beginsToDrop_59 : decode cX5_beginsToDrop 59 = .ok (.ireturn, 1) := by decide +kernel
theorem dX5_beginsToDrop_60 : decode cX5_beginsToDrop 60 = .ok (.aload_n 1, 1) := by decide +kernel
theorem dX5_beginsToDrop_61 : decode cX5_beginsToDrop 61 = .ok (.bipush 8, 2) := by decide +kernel
theorem dX5_beginsToDrop_63 : decode cX5_beginsToDrop 63 = .ok (.putfield 78, 3) := by decide +kernel
theorem dX5_beginsToDrop_66 : decode cX5_beginsToDrop 66 = .ok (.aload_n 1, 1) := by decide +kernel
theorem dX5_beginsToDrop_67 : decode cX5_beginsToDrop 67 = .ok (.iconst 0, 1) := by decide +kernel
theorem dX5_beginsToDrop_68 : decode cX5_beginsToDrop 68 = .ok (.putfield 195, 3) := by decide +kernel
theorem dX5_beginsToDrop_71 : decode cX5_beginsToDrop 71 = .ok (.aload_n 1, 1) := by decide +kernel
theorem dX5_beginsToDrop_72 : decode cX5_beginsToDrop 72 = .ok (.iconst 0, 1) := by decide +kernel
theorem dX5_beginsToDrop_73 : decode cX5_beginsToDrop 73 = .ok (.putfield 182, 3) := by decide +kernel
theorem dX5_beginsToDrop_76 : decode cX5_beginsToDrop 76 = .ok (.iconst 1, 1) := by decide +kernel
theorem dX5_beginsToDrop_77 : decode cX5_beginsToDrop 77 = .ok (.ireturn, 1) := by decide +kernel
set_option maxRecDepth 20000 in
theorem ggX5_steer_X4_firmKindsBelow : GoodIn wsX5_steer wsX4_firmKindsBelow := goodIn_ca (goodIn_r _ [13, 14, 15, 16, 17, 18, 19, 20, 21, 22, 23, 24, 25, 26, 12, 27, 28, 29, 30, 31, 32, 33, 34, 35, 36, 52, 53, 54, 55, 56, 57, 58, 59, 60, 61, 62, 63, 64, 65, 66, 67, 68] (by decide +kernel) (by decide +kernel)) (goodIn_sub (fun _ h => List.mem_cons_of_mem _ (List.mem_append_right _ h)) (by decide +kernel))
set_option maxRecDepth 20000 in
theorem gX5_steer_X4_firmKindsBelow : GoodIn wsX5_steer (wsV RX5 66 RX4 yX4_firmKindsBelow wsX4_firmKindsBelow) := goodIn_app (goodIn_of _ (by decide +kernel)) ggX5_steer_X4_firmKindsBelow
set_option maxRecDepth 20000 in
theorem ggX5_steer_X5_nearerToZero : GoodIn wsX5_steer wsX5_nearerToZero := goodIn_r _ [41, 42, 43, 7, 44, 5, 6, 8] (by decide +kernel) (by decide +kernel)
set_option maxRecDepth 20000 in
theorem gX5_steer_X5_nearerToZero : GoodIn wsX5_steer (wsV RX5 201 RX5 yX5_nearerToZero wsX5_nearerToZero) := goodIn_app (goodIn_of _ (by decide +kernel)) ggX5_steer_X5_nearerToZero
theorem dX5_steer_0 : decode cX5_steer 0 = .ok (.iload_n 2, 1) := by decide +kernel
theorem dX5_steer_1 : decode cX5_steer 1 = .ok (.ifCond .eq 28, 3) := by decide +kernel
theorem dX5_steer_4 : decode cX5_steer 4 = .ok (.aload_n 0, 1) := by decide +kernel
theorem dX5_steer_5 : decode cX5_steer 5 = .ok (.getfield 12, 3) := by decide +kernel
theorem dX5_steer_8 : decode cX5_steer 8 = .ok (.aload_n 1, 1) := by decide +kernel
theorem dX5_steer_9 : decode cX5_steer 9 = .ok (.aload_n 1, 1) := by decide +kernel
theorem dX5_steer_10 : decode cX5_steer 10 = .ok (.getfield 56, 3) := by decide +kernel
theorem dX5_steer_13 : decode cX5_steer 13 = .ok (.aload_n 1, 1) := by decide +kernel
theorem dX5_steer_14 : decode cX5_steer 14 = .ok (.getfield 59, 3) := by decide +kernel
theorem dX5_steer_17 : decode cX5_steer 17 = .ok (.invokevirtual 66, 3) := by decide +kernel
theorem dX5_steer_20 : decode cX5_steer 20 = .ok (.bipush 32, 2) := by decide +kernel
theorem dX5_steer_22 : decode cX5_steer 22 = .ok (.if_icmp .eq 7, 3) := by decide +kernel
theorem dX5_steer_25 : decode cX5_steer 25 = .ok (.iconst 1, 1) := by decide +kernel
theorem dX5_steer_26 : decode cX5_steer 26 = .ok (.goto 4, 3) := by decide +kernel
theorem dX5_steer_29 : decode cX5_steer 29 = .ok (.iconst 0, 1) := by decide +kernel
theorem dX5_steer_30 : decode cX5_steer 30 = .ok (.istore 5, 2) := by decide +kernel
theorem dX5_steer_32 : decode cX5_steer 32 = .ok (.iload_n 3, 1) := by decide +kernel
theorem dX5_steer_33 : decode cX5_steer 33 = .ok (.ifCond .ne 21, 3) := by decide +kernel
theorem dX5_steer_36 : decode cX5_steer 36 = .ok (.iload 5, 2) := by decide +kernel
theorem dX5_steer_38 : decode cX5_steer 38 = .ok (.ifCond .eq 15, 3) := by decide +kernel
theorem dX5_steer_41 : decode cX5_steer 41 = .ok (.aload_n 1, 1) := by decide +kernel
theorem dX5_steer_42 : decode cX5_steer 42 = .ok (.aload_n 0, 1) := by decide +kernel
theorem dX5_steer_43 : decode cX5_steer 43 = .ok (.aload_n 1, 1) := by decide +kernel
theorem dX5_steer_44 : decode cX5_steer 44 = .ok (.getfield 198, 3) := by decide +kernel
theorem dX5_steer_47 : decode cX5_steer 47 = .ok (.invokevirtual 201, 3) := by decide +kernel
theorem dX5_steer_50 : decode cX5_steer 50 = .ok (.putfield 198, 3) := by decide +kernel
theorem dX5_steer_53 : decode cX5_steer 53 = .ok (.return_, 1) := by decide +kernel
theorem dX5_steer_54 : decode cX5_steer 54 = .ok (.aload_n 1, 1) := by decide +kernel
theorem dX5_steer_55 : decode cX5_steer 55 = .ok (.getfield 198, 3) := by decide +kernel
theorem dX5_steer_58 : decode cX5_steer 58 = .ok (.iload_n 3, 1) := by decide +kernel
theorem dX5_steer_59 : decode cX5_steer 59 = .ok (.imul, 1) := by decide +kernel
theorem dX5_steer_60 : decode cX5_steer 60 = .ok (.istore 6, 2) := by decide +kernel
theorem dX5_steer_62 : decode cX5_steer 62 = .ok (.iload 6, 2) := by decide +kernel
theorem dX5_steer_64 : decode cX5_steer 64 = .ok (.iload 4, 2) := by decide +kernel
theorem dX5_steer_66 : decode cX5_steer 66 = .ok (.if_icmp .ge 27, 3) := by decide +kernel
theorem dX5_steer_69 : decode cX5_steer 69 = .ok (.aload_n 1, 1) := by decide +kernel
theorem dX5_steer_70 : decode cX5_steer 70 = .ok (.iload_n 3, 1) := by decide +kernel
theorem dX5_steer_71 : decode cX5_steer 71 = .ok (.iload 4, 2) := by decide +kernel
theorem dX5_steer_73 : decode cX5_steer 73 = .ok (.iload 6, 2) := by decide +kernel
theorem dX5_steer_75 : decode cX5_steer 75 = .ok (.iload 5, 2) := by decide +kernel
theorem dX5_steer_77 : decode cX5_steer 77 = .ok (.ifCond .eq 7, 3) := by decide +kernel
theorem dX5_steer_80 : decode cX5_steer 80 = .ok (.iconst 2, 1) := by decide +kernel
theorem dX5_steer_81 : decode cX5_steer 81 = .ok (.goto 4, 3) := by decide +kernel
theorem dX5_steer_84 : decode cX5_steer 84 = .ok (.iconst 1, 1) := by decide +kernel
theorem dX5_steer_85 : decode cX5_steer 85 = .ok (.iadd, 1) := by decide +kernel
theorem dX5_steer_86 : decode cX5_steer 86 = .ok (.invokestatic 204, 3) := by decide +kernel
theorem dX5_steer_89 : decode cX5_steer 89 = .ok (.imul, 1) := by decide +kernel
theorem dX5_steer_90 : decode cX5_steer 90 = .ok (.putfield 198, 3) := by decide +kernel
theorem dX5_steer_93 : decode cX5_steer 93 = .ok (.return_, 1) := by decide +kernel
theorem dX5_nearerToZero_0 : decode cX5_nearerToZero 0 = .ok (.iload_n 1, 1) := by decide +kernel
theorem dX5_nearerToZero_1 : decode cX5_nearerToZero 1 = .ok (.ifCond .le 13, 3) := by decide +kernel
theorem dX5_nearerToZero_4 : decode cX5_nearerToZero 4 = .ok (.iconst 0, 1) := by decide +kernel
theorem dX5_nearerToZero_5 : decode cX5_nearerToZero 5 = .ok (.iload_n 1, 1) := by decide +kernel
theorem dX5_nearerToZero_6 : decode cX5_nearerToZero 6 = .ok (.iconst 2, 1) := by decide +kernel
theorem dX5_nearerToZero_7 : decode cX5_nearerToZero 7 = .ok (.isub, 1) := by decide +kernel
theorem dX5_nearerToZero_8 : decode cX5_nearerToZero 8 = .ok (.invokestatic 207, 3) := by decide +kernel
theorem dX5_nearerToZero_11 : decode cX5_nearerToZero 11 = .ok (.goto 10, 3) := by decide +kernel
theorem dX5_nearerToZero_14 : decode cX5_nearerToZero 14 = .ok (.iconst 0, 1) := by decide +kernel
theorem dX5_nearerToZero_15 : decode cX5_nearerToZero 15 = .ok (.iload_n 1, 1) := by decide +kernel
theorem dX5_nearerToZero_16 : decode cX5_nearerToZero 16 = .ok (.iconst 2, 1) := by decide +kernel
theorem dX5_nearerToZero_17 : decode cX5_nearerToZero 17 = .ok (.iadd, 1) := by decide +kernel
theorem dX5_nearerToZero_18 : decode cX5_nearerToZero 18 = .ok (.invokestatic 204, 3) := by decide +kernel
theorem dX5_nearerToZero_21 : decode cX5_nearerToZero 21 = .ok (.ireturn, 1) := by decide +kernel
set_option maxRecDepth 20000 in
theorem ggX5_jumps_X0_leap : GoodIn wsX5_jumps wsX0_leap := goodIn_ca (goodIn_r _ [11, 12, 13, 14, 15, 48, 49, 50, 51, 52, 53, 54, 55, 56, 57, 58, 59, 60, 61, 62, 63] (by decide +kernel) (by decide +kernel)) (goodIn_sub (fun _ h => List.mem_cons_of_mem _ (List.mem_append_right _ h)) (by decide +kernel))
set_option maxRecDepth 20000 in
theorem gX5_jumps_X0_leap : GoodIn wsX5_jumps (wsV RX5 210 RX0 yX0_leap wsX0_leap) := goodIn_app (goodIn_of _ (by decide +kernel)) ggX5_jumps_X0_leap
set_option maxRecDepth 20000 in
theorem ggX5_jumps_X4_block : GoodIn wsX5_jumps wsX4_block := goodIn_ca (goodIn_r _ [20, 21, 22, 23, 10, 24, 25, 26, 27, 28, 29, 30, 31, 32, 33, 34, 35, 36, 37, 19, 38, 39, 40, 41, 42, 43, 44, 45, 46, 47, 48, 49, 50, 51, 52, 53, 54, 55, 56, 57, 58, 59, 60, 61, 62, 63, 71] (by decide +kernel) (by decide +kernel)) (goodIn_sub (fun _ h => List.mem_cons_of_mem _ (List.mem_append_right _ h)) (by decide +kernel))
set_option maxRecDepth 20000 in
theorem gX5_jumps_X4_block : GoodIn wsX5_jumps (wsV RX5 62 RX4 yX4_block wsX4_block) := goodIn_app (goodIn_of _ (by decide +kernel)) ggX5_jumps_X4_block
theorem dX5_jumps_0 : decode cX5_jumps 0 = .ok (.aload_n 1, 1) := by decide +kernel
theorem dX5_jumps_1 : decode cX5_jumps 1 = .ok (.getfield 195, 3) := by decide +kernel
theorem dX5_jumps_4 : decode cX5_jumps 4 = .ok (.ifCond .ne 5, 3) := by decide +kernel
theorem dX5_jumps_7 : decode cX5_jumps 7 = .ok (.iconst 0, 1) := by decide +kernel
theorem dX5_jumps_8 : decode cX5_jumps 8 = .ok (.ireturn, 1) := by decide +kernel
theorem dX5_jumps_9 : decode cX5_jumps 9 = .ok (.aload_n 1, 1) := by decide +kernel
theorem dX5_jumps_10 : decode cX5_jumps 10 = .ok (.getfield 182, 3) := by decide +kernel
theorem dX5_jumps_13 : decode cX5_jumps 13 = .ok (.ifCond .le 17, 3) := by decide +kernel
theorem dX5_jumps_16 : decode cX5_jumps 16 = .ok (.aload_n 1, 1) := by decide +kernel
theorem dX5_jumps_17 : decode cX5_jumps 17 = .ok (.iconst 0, 1) := by decide +kernel
theorem dX5_jumps_18 : decode cX5_jumps 18 = .ok (.putfield 182, 3) := by decide +kernel
theorem dX5_jumps_21 : decode cX5_jumps 21 = .ok (.aload_n 1, 1) := by decide +kernel
theorem dX5_jumps_22 : decode cX5_jumps 22 = .ok (.aload_n 3, 1) := by decide +kernel
theorem dX5_jumps_23 : decode cX5_jumps 23 = .ok (.iconst 1, 1) := by decide +kernel
theorem dX5_jumps_24 : decode cX5_jumps 24 = .ok (.iaload, 1) := by decide +kernel
theorem dX5_jumps_25 : decode cX5_jumps 25 = .ok (.invokevirtual 210, 3) := by decide +kernel
theorem dX5_jumps_28 : decode cX5_jumps 28 = .ok (.iconst 1, 1) := by decide +kernel
theorem dX5_jumps_29 : decode cX5_jumps 29 = .ok (.ireturn, 1) := by decide +kernel
theorem dX5_jumps_30 : decode cX5_jumps 30 = .ok (.iload_n 2, 1) := by decide +kernel
theorem dX5_jumps_31 : decode cX5_jumps 31 = .ok (.ifCond .eq 5, 3) := by decide +kernel
theorem dX5_jumps_34 : decode cX5_jumps 34 = .ok (.iconst 0, 1) := by decide +kernel
theorem dX5_jumps_35 : decode cX5_jumps 35 = .ok (.ireturn, 1) := by decide +kernel
theorem dX5_jumps_36 : decode cX5_jumps 36 = .ok (.aload_n 0, 1) := by decide +kernel
theorem dX5_jumps_37 : decode cX5_jumps 37 = .ok (.getfield 12, 3) := by decide +kernel
theorem dX5_jumps_40 : decode cX5_jumps 40 = .ok (.aload_n 1, 1) := by decide +kernel
theorem dX5_jumps_41 : decode cX5_jumps 41 = .ok (.aload_n 1, 1) := by decide +kernel
theorem dX5_jumps_42 : decode cX5_jumps 42 = .ok (.getfield 56, 3) := by decide +kernel
theorem dX5_jumps_45 : decode cX5_jumps 45 = .ok (.iconst 1, 1) := by decide +kernel
theorem dX5_jumps_46 : decode cX5_jumps 46 = .ok (.iadd, 1) := by decide +kernel
theorem dX5_jumps_47 : decode cX5_jumps 47 = .ok (.aload_n 1, 1) := by decide +kernel
theorem dX5_jumps_48 : decode cX5_jumps 48 = .ok (.getfield 59, 3) := by decide +kernel
theorem dX5_jumps_51 : decode cX5_jumps 51 = .ok (.invokevirtual 62, 3) := by decide +kernel
theorem dX5_jumps_54 : decode cX5_jumps 54 = .ok (.ifCond .eq 14, 3) := by decide +kernel
theorem dX5_jumps_57 : decode cX5_jumps 57 = .ok (.aload_n 1, 1) := by decide +kernel
theorem dX5_jumps_58 : decode cX5_jumps 58 = .ok (.aload_n 3, 1) := by decide +kernel
theorem dX5_jumps_59 : decode cX5_jumps 59 = .ok (.iconst 0, 1) := by decide +kernel
theorem dX5_jumps_60 : decode cX5_jumps 60 = .ok (.iaload, 1) := by decide +kernel
theorem dX5_jumps_61 : decode cX5_jumps 61 = .ok (.ineg, 1) := by decide +kernel
theorem dX5_jumps_62 : decode cX5_jumps 62 = .ok (.putfield 198, 3) := by decide +kernel
theorem dX5_jumps_65 : decode cX5_jumps 65 = .ok (.goto 36, 3) := by decide +kernel
theorem dX5_jumps_68 : decode cX5_jumps 68 = .ok (.aload_n 0, 1) := by decide +kernel
theorem dX5_jumps_69 : decode cX5_jumps 69 = .ok (.getfield 12, 3) := by decide +kernel
theorem dX5_jumps_72 : decode cX5_jumps 72 = .ok (.aload_n 1, 1) := by decide +kernel
theorem dX5_jumps_73 : decode cX5_jumps 73 = .ok (.aload_n 1, 1) := by decide +kernel
theorem dX5_jumps_74 : decode cX5_jumps 74 = .ok (.getfield 56, 3) := by decide +kernel
theorem dX5_jumps_77 : decode cX5_jumps 77 = .ok (.iconst 1, 1) := by decide +kernel
theorem dX5_jumps_78 : decode cX5_jumps 78 = .ok (.isub, 1) := by decide +kernel
theorem dX5_jumps_79 : decode cX5_jumps 79 = .ok (.aload_n 1, 1) := by decide +kernel
theorem dX5_jumps_80 : decode cX5_jumps 80 = .ok (.getfield 59, 3) := by decide +kernel
theorem dX5_jumps_83 : decode cX5_jumps 83 = .ok (.invokevirtual 62, 3) := by decide +kernel
theorem dX5_jumps_86 : decode cX5_jumps 86 = .ok (.ifCond .eq 13, 3) := by decide +kernel
theorem dX5_jumps_89 : decode cX5_jumps 89 = .ok (.aload_n 1, 1) := by decide +kernel
theorem dX5_jumps_90 : decode cX5_jumps 90 = .ok (.aload_n 3, 1) := by decide +kernel
theorem dX5_jumps_91 : decode cX5_jumps 91 = .ok (.iconst 0, 1) := by decide +kernel
theorem dX5_jumps_92 : decode cX5_jumps 92 = .ok (.iaload, 1) := by decide +kernel
theorem dX5_jumps_93 : decode cX5_jumps 93 = .ok (.putfield 198, 3) := by decide +kernel
theorem dX5_jumps_96 : decode cX5_jumps 96 = .ok (.goto 5, 3) := by decide +kernel
theorem dX5_jumps_99 : decode cX5_jumps 99 = .ok (.iconst 0, 1) := by decide +kernel
theorem dX5_jumps_100 : decode cX5_jumps 100 = .ok (.ireturn, 1) := by decide +kernel
theorem dX5_jumps_101 : decode cX5_jumps 101 = .ok (.aload_n 1, 1) := by decide +kernel
theorem dX5_jumps_102 : decode cX5_jumps 102 = .ok (.aload_n 3, 1) := by decide +kernel
theorem dX5_jumps_103 : decode cX5_jumps 103 = .ok (.iconst 1, 1) := by decide +kernel
theorem dX5_jumps_104 : decode cX5_jumps 104 = .ok (.iaload, 1) := by decide +kernel
theorem dX5_jumps_105 : decode cX5_jumps 105 = .ok (.invokevirtual 210, 3) := by decide +kernel
theorem dX5_jumps_108 : decode cX5_jumps 108 = .ok (.iconst 1, 1) := by decide +kernel
theorem dX5_jumps_109 : decode cX5_jumps 109 = .ok (.ireturn, 1) := by decide +kernel
set_option maxRecDepth 20000 in
theorem ggX5_cutJump_X0_holds : GoodIn wsX5_cutJump wsX0_holds := goodIn_r _ [7, 8, 9, 10, 11, 12, 13, 14, 15, 16, 17, 18, 19, 20, 21, 22, 23, 24] (by decide +kernel) (by decide +kernel)
set_option maxRecDepth 20000 in
theorem gX5_cutJump_X0_holds : GoodIn wsX5_cutJump (wsV RX5 188 RX0 yX0_holds wsX0_holds) := goodIn_app (goodIn_of _ (by decide +kernel)) ggX5_cutJump_X0_holds
theorem dX5_cutJump_0 : decode cX5_cutJump 0 = .ok (.aload_n 1, 1) := by decide +kernel
theorem dX5_cutJump_1 : decode cX5_cutJump 1 = .ok (.getfield 214, 3) := by decide +kernel
theorem dX5_cutJump_4 : decode cX5_cutJump 4 = .ok (.ifCond .eq 24, 3) := by decide +kernel
theorem dX5_cutJump_7 : decode cX5_cutJump 7 = .ok (.aload_n 1, 1) := by decide +kernel
theorem dX5_cutJump_8 : decode cX5_cutJump 8 = .ok (.getfield 91, 3) := by decide +kernel
theorem dX5_cutJump_11 : decode cX5_cutJump 11 = .ok (.iconst 4, 1) := by decide +kernel
theorem dX5_cutJump_12 : decode cX5_cutJump 12 = .ok (.if_icmp .le 16, 3) := by decide +kernel
theorem dX5_cutJump_15 : decode cX5_cutJump 15 = .ok (.aload_n 1, 1) := by decide +kernel
theorem dX5_cutJump_16 : decode cX5_cutJump 16 = .ok (.iconst 4, 1) := by decide +kernel
theorem dX5_cutJump_17 : decode cX5_cutJump 17 = .ok (.invokevirtual 188, 3) := by decide +kernel
theorem dX5_cutJump_20 : decode cX5_cutJump 20 = .ok (.ifCond .ne 8, 3) := by decide +kernel
theorem dX5_cutJump_23 : decode cX5_cutJump 23 = .ok (.aload_n 1, 1) := by decide +kernel
theorem dX5_cutJump_24 : decode cX5_cutJump 24 = .ok (.iconst 4, 1) := by decide +kernel
theorem dX5_cutJump_25 : decode cX5_cutJump 25 = .ok (.putfield 91, 3) := by decide +kernel
theorem dX5_cutJump_28 : decode cX5_cutJump 28 = .ok (.return_, 1) := by decide +kernel
set_option maxRecDepth 20000 in
theorem ggX5_accelerateDown_X4_block : GoodIn wsX5_accelerateDown wsX4_block := goodIn_ca (goodIn_r _ [13, 14, 15, 16, 17, 18, 19, 20, 21, 22, 23, 24, 25, 26, 27, 28, 29, 30, 31, 12, 32, 33, 34, 35, 36, 37, 38, 39, 40, 41, 42, 43, 44, 45, 46, 47, 48, 49, 50, 51, 52, 53, 54, 55, 56, 57, 65] (by decide +kernel) (by decide +kernel)) (goodIn_sub (fun _ h => List.mem_cons_of_mem _ (List.mem_append_right _ h)) (by decide +kernel))
set_option maxRecDepth 20000 in
theorem gX5_accelerateDown_X4_block : GoodIn wsX5_accelerateDown (wsV RX5 62 RX4 yX4_block wsX4_block) := goodIn_app (goodIn_of _ (by decide +kernel)) ggX5_accelerateDown_X4_block
theorem dX5_accelerateDown_0 : decode cX5_accelerateDown 0 = .ok (.aload_n 1, 1) := by decide +kernel
theorem dX5_accelerateDown_1 : decode cX5_accelerateDown 1 = .ok (.bipush (-12), 2) := by decide +kernel
theorem dX5_accelerateDown_3 : decode cX5_accelerateDown 3 = .ok (.aload_n 1, 1) := by decide +kernel
theorem dX5_accelerateDown_4 : decode cX5_accelerateDown 4 = .ok (.getfield 91, 3) := by decide +kernel
theorem dX5_accelerateDown_7 : decode cX5_accelerateDown 7 = .ok (.iconst 1, 1) := by decide +kernel
theorem dX5_accelerateDown_8 : decode cX5_accelerateDown 8 = .ok (.isub, 1) := by decide +kernel
theorem dX5_accelerateDown_9 : decode cX5_accelerateDown 9 = .ok (.invokestatic 207, 3) := by decide +kernel
theorem dX5_accelerateDown_12 : decode cX5_accelerateDown 12 = .ok (.putfield 91, 3) := by decide +kernel
theorem dX5_accelerateDown_15 : decode cX5_accelerateDown 15 = .ok (.iload_n 2, 1) := by decide +kernel
theorem dX5_accelerateDown_16 : decode cX5_accelerateDown 16 = .ok (.ifCond .eq 39, 3) := by decide +kernel
theorem dX5_accelerateDown_19 : decode cX5_accelerateDown 19 = .ok (.aload_n 1, 1) := by decide +kernel
theorem dX5_accelerateDown_20 : decode cX5_accelerateDown 20 = .ok (.getfield 91, 3) := by decide +kernel
theorem dX5_accelerateDown_23 : decode cX5_accelerateDown 23 = .ok (.bipush (-3), 2) := by decide +kernel
theorem dX5_accelerateDown_25 : decode cX5_accelerateDown 25 = .ok (.if_icmp .ge 30, 3) := by decide +kernel
theorem dX5_accelerateDown_28 : decode cX5_accelerateDown 28 = .ok (.aload_n 0, 1) := by decide +kernel
theorem dX5_accelerateDown_29 : decode cX5_accelerateDown 29 = .ok (.getfield 12, 3) := by decide +kernel
theorem dX5_accelerateDown_32 : decode cX5_accelerateDown 32 = .ok (.aload_n 1, 1) := by decide +kernel
theorem dX5_accelerateDown_33 : decode cX5_accelerateDown 33 = .ok (.aload_n 1, 1) := by decide +kernel
theorem dX5_accelerateDown_34 : decode cX5_accelerateDown 34 = .ok (.getfield 56, 3) := by decide +kernel
theorem dX5_accelerateDown_37 : decode cX5_accelerateDown 37 = .ok (.iload_n 2, 1) := by decide +kernel
theorem dX5_accelerateDown_38 : decode cX5_accelerateDown 38 = .ok (.iadd, 1) := by decide +kernel
theorem dX5_accelerateDown_39 : decode cX5_accelerateDown 39 = .ok (.aload_n 1, 1) := by decide +kernel
theorem dX5_accelerateDown_40 : decode cX5_accelerateDown 40 = .ok (.getfield 59, 3) := by decide +kernel
theorem dX5_accelerateDown_43 : decode cX5_accelerateDown 43 = .ok (.invokevirtual 62, 3) := by decide +kernel
theorem dX5_accelerateDown_46 : decode cX5_accelerateDown 46 = .ok (.ifCond .eq 9, 3) := by decide +kernel
theorem dX5_accelerateDown_49 : decode cX5_accelerateDown 49 = .ok (.aload_n 1, 1) := by decide +kernel
theorem dX5_accelerateDown_50 : decode cX5_accelerateDown 50 = .ok (.bipush (-3), 2) := by decide +kernel
theorem dX5_accelerateDown_52 : decode cX5_accelerateDown 52 = .ok (.putfield 91, 3) := by decide +kernel
theorem dX5_accelerateDown_55 : decode cX5_accelerateDown 55 = .ok (.return_, 1) := by decide +kernel
set_option maxRecDepth 20000 in
theorem ggX5_rideBelts_X4_firmKindsBelow : GoodIn wsX5_rideBelts wsX4_firmKindsBelow := goodIn_ca (goodIn_r _ [9, 10, 11, 12, 13, 14, 15, 16, 17, 18, 19, 20, 21, 22, 8, 23, 24, 25, 26, 27, 28, 29, 30, 31, 32, 84, 85, 86, 87, 88, 89, 90, 91, 92, 93, 94, 95, 96, 97, 98, 99, 100] (by decide +kernel) (by decide +kernel)) (goodIn_sub (fun _ h => List.mem_cons_of_mem _ (List.mem_append_right _ h)) (by decide +kernel))
set_option maxRecDepth 20000 in
theorem gX5_rideBelts_X4_firmKindsBelow : GoodIn wsX5_rideBelts (wsV RX5 66 RX4 yX4_firmKindsBelow wsX4_firmKindsBelow) := goodIn_app (goodIn_of _ (by decide +kernel)) ggX5_rideBelts_X4_firmKindsBelow
set_option maxRecDepth 20000 in
theorem ggX5_rideBelts_X5_stepSideways : GoodIn wsX5_rideBelts wsX5_stepSideways := goodIn_ca (goodIn_r _ [37, 2, 3, 1, 38, 17, 18, 13, 19, 15, 39, 40, 41, 8, 42, 43, 20, 21, 22, 23, 24, 44, 45, 46, 47, 10, 11, 12, 14, 48, 49, 50, 51, 52, 16, 25, 26, 27, 28, 29, 30, 31, 32, 53, 54, 55, 36, 56, 57, 5, 6, 7, 9, 58, 59, 60, 61, 62, 63, 64, 65, 66, 67, 68, 69, 70, 71, 72, 73, 74, 75, 76, 84, 85, 86, 87, 88, 89, 90, 91, 92, 93, 94, 95, 96, 97, 98, 99, 77, 78, 79, 80, 81, 82, 83, 100, 101, 102, 103, 104, 105, 106, 107] (by decide +kernel) (by decide +kernel)) (goodIn_sub (fun _ h => List.mem_cons_of_mem _ (List.mem_append_right _ h)) (by decide +kernel))
set_option maxRecDepth 20000 in
theorem gX5_rideBelts_X5_stepSideways : GoodIn wsX5_rideBelts (wsV RX5 122 RX5 yX5_stepSideways wsX5_stepSideways) := goodIn_app (goodIn_of _ (by decide +kernel)) ggX5_rideBelts_X5_stepSideways
theorem dX5_rideBelts_0 : decode cX5_rideBelts 0 = .ok (.aload_n 0, 1) := by decide +kernel
theorem dX5_rideBelts_1 : decode cX5_rideBelts 1 = .ok (.getfield 12, 3) := by decide +kernel
theorem dX5_rideBelts_4 : decode cX5_rideBelts 4 = .ok (.aload_n 1, 1) := by decide +kernel
theorem dX5_rideBelts_5 : decode cX5_rideBelts 5 = .ok (.aload_n 1, 1) := by decide +kernel
theorem dX5_rideBelts_6 : decode cX5_rideBelts 6 = .ok (.getfield 56, 3) := by decide +kernel
theorem dX5_rideBelts_9 : decode cX5_rideBelts 9 = .ok (.aload_n 1, 1) := by decide +kernel
theorem dX5_rideBelts_10 : decode cX5_rideBelts 10 = .ok (.getfield 59, 3) := by decide +kernel
theorem dX5_rideBelts_13 : decode cX5_rideBelts 13 = .ok (.invokevirtual 66, 3) := by decide +kernel
theorem dX5_rideBelts_16 : decode cX5_rideBelts 16 = .ok (.istore_n 2, 1) := by decide +kernel
theorem dX5_rideBelts_17 : decode cX5_rideBelts 17 = .ok (.iload_n 2, 1) := by decide +kernel
theorem dX5_rideBelts_18 : decode cX5_rideBelts 18 = .ok (.bipush 64, 2) := by decide +kernel
theorem dX5_rideBelts_20 : decode cX5_rideBelts 20 = .ok (.iand, 1) := by decide +kernel
theorem dX5_rideBelts_21 : decode cX5_rideBelts 21 = .ok (.ifCond .eq 22, 3) := by decide +kernel
theorem dX5_rideBelts_24 : decode cX5_rideBelts 24 = .ok (.aload_n 0, 1) := by decide +kernel
theorem dX5_rideBelts_25 : decode cX5_rideBelts 25 = .ok (.aload_n 1, 1) := by decide +kernel
theorem dX5_rideBelts_26 : decode cX5_rideBelts 26 = .ok (.iconst 1, 1) := by decide +kernel
theorem dX5_rideBelts_27 : decode cX5_rideBelts 27 = .ok (.invokevirtual 122, 3) := by decide +kernel
theorem dX5_rideBelts_30 : decode cX5_rideBelts 30 = .ok (.ifCond .eq 13, 3) := by decide +kernel
theorem dX5_rideBelts_33 : decode cX5_rideBelts 33 = .ok (.aload_n 1, 1) := by decide +kernel
theorem dX5_rideBelts_34 : decode cX5_rideBelts 34 = .ok (.getfield 185, 3) := by decide +kernel
theorem dX5_rideBelts_37 : decode cX5_rideBelts 37 = .ok (.iconst 4, 1) := by decide +kernel
theorem dX5_rideBelts_38 : decode cX5_rideBelts 38 = .ok (.dup2, 1) := by decide +kernel
theorem dX5_rideBelts_39 : decode cX5_rideBelts 39 = .ok (.iaload, 1) := by decide +kernel
theorem dX5_rideBelts_40 : decode cX5_rideBelts 40 = .ok (.iconst 1, 1) := by decide +kernel
theorem dX5_rideBelts_41 : decode cX5_rideBelts 41 = .ok (.iadd, 1) := by decide +kernel
theorem dX5_rideBelts_42 : decode cX5_rideBelts 42 = .ok (.iastore, 1) := by decide +kernel
theorem dX5_rideBelts_43 : decode cX5_rideBelts 43 = .ok (.iload_n 2, 1) := by decide +kernel
theorem dX5_rideBelts_44 : decode cX5_rideBelts 44 = .ok (.sipush 128, 3) := by decide +kernel
theorem dX5_rideBelts_47 : decode cX5_rideBelts 47 = .ok (.iand, 1) := by decide +kernel
theorem dX5_rideBelts_48 : decode cX5_rideBelts 48 = .ok (.ifCond .eq 22, 3) := by decide +kernel
theorem dX5_rideBelts_51 : decode cX5_rideBelts 51 = .ok (.aload_n 0, 1) := by decide +kernel
theorem dX5_rideBelts_52 : decode cX5_rideBelts 52 = .ok (.aload_n 1, 1) := by decide +kernel
theorem dX5_rideBelts_53 : decode cX5_rideBelts 53 = .ok (.iconst (-1), 1) := by decide +kernel
theorem dX5_rideBelts_54 : decode cX5_rideBelts 54 = .ok (.invokevirtual 122, 3) := by decide +kernel
theorem dX5_rideBelts_57 : decode cX5_rideBelts 57 = .ok (.ifCond .eq 13, 3) := by decide +kernel
theorem dX5_rideBelts_60 : decode cX5_rideBelts 60 = .ok (.aload_n 1, 1) := by decide +kernel
theorem dX5_rideBelts_61 : decode cX5_rideBelts 61 = .ok (.getfield 185, 3) := by decide +kernel
theorem dX5_rideBelts_64 : decode cX5_rideBelts 64 = .ok (.iconst 4, 1) := by decide +kernel
theorem dX5_rideBelts_65 : decode cX5_rideBelts 65 = .ok (.dup2, 1) := by decide +kernel
theorem dX5_rideBelts_66 : decode cX5_rideBelts 66 = .ok (.iaload, 1) := by decide +kernel
theorem dX5_rideBelts_67 : decode cX5_rideBelts 67 = .ok (.iconst 1, 1) := by decide +kernel
theorem dX5_rideBelts_68 : decode cX5_rideBelts 68 = .ok (.iadd, 1) := by decide +kernel
theorem dX5_rideBelts_69 : decode cX5_rideBelts 69 = .ok (.iastore, 1) := by decide +kernel
theorem dX5_rideBelts_70 : decode cX5_rideBelts 70 = .ok (.return_, 1) := by decide +kernel
set_option maxRecDepth 20000 in
theorem ggX5_run_X5_stepSideways : GoodIn wsX5_run wsX5_stepSideways := goodIn_ca (goodIn_r _ [11, 12, 13, 14, 15, 16, 17, 18, 19, 20, 21, 22, 23, 24, 25, 26, 27, 28, 29, 30, 31, 32, 33, 34, 35, 36, 37, 38, 39, 40, 41, 42, 43, 44, 45, 46, 47, 48, 49, 50, 51, 52, 53, 54, 55, 56, 10, 57, 58, 59, 60, 61, 62, 63, 64, 65, 66, 67, 68, 69, 70, 71, 72, 73, 74, 75, 76, 77, 78, 79, 80, 81, 82, 83, 84, 85, 86, 87, 88, 89, 90, 91, 92, 93, 94, 95, 96, 97, 98, 99, 100, 101, 102, 103, 104, 105, 106, 107, 108, 109, 110, 111, 112] (by decide +kernel) (by decide +kernel)) (goodIn_sub (fun _ h => List.mem_cons_of_mem _ (List.mem_append_right _ h)) (by decide +kernel))
set_option maxRecDepth 20000 in
theorem gX5_run_X5_stepSideways : GoodIn wsX5_run (wsV RX5 122 RX5 yX5_stepSideways wsX5_stepSideways) := goodIn_app (goodIn_of _ (by decide +kernel)) ggX5_run_X5_stepSideways
theorem dX5_run_0 : decode cX5_run 0 = .ok (.aload_n 1, 1) := by decide +kernel
theorem dX5_run_1 : decode cX5_run 1 = .ok (.getfield 198, 3) := by decide +kernel
theorem dX5_run_4 : decode cX5_run 4 = .ok (.ifCond .ge 7, 3) := by decide +kernel
theorem dX5_run_7 : decode cX5_run 7 = .ok (.iconst (-1), 1) := by decide +kernel
theorem dX5_run_8 : decode cX5_run 8 = .ok (.goto 4, 3) := by decide +kernel
theorem dX5_run_11 : decode cX5_run 11 = .ok (.iconst 1, 1) := by decide +kernel
theorem dX5_run_12 : decode cX5_run 12 = .ok (.istore_n 2, 1) := by decide +kernel
theorem dX5_run_13 : decode cX5_run 13 = .ok (.aload_n 1, 1) := by decide +kernel
theorem dX5_run_14 : decode cX5_run 14 = .ok (.getfield 198, 3) := by decide +kernel
theorem dX5_run_17 : decode cX5_run 17 = .ok (.invokestatic 117, 3) := by decide +kernel
theorem dX5_run_20 : decode cX5_run 20 = .ok (.istore_n 3, 1) := by decide +kernel
theorem dX5_run_21 : decode cX5_run 21 = .ok (.iload_n 3, 1) := by decide +kernel
theorem dX5_run_22 : decode cX5_run 22 = .ok (.ifCond .le 34, 3) := by decide +kernel
theorem dX5_run_25 : decode cX5_run 25 = .ok (.aload_n 0, 1) := by decide +kernel
theorem dX5_run_26 : decode cX5_run 26 = .ok (.aload_n 1, 1) := by decide +kernel
theorem dX5_run_27 : decode cX5_run 27 = .ok (.iload_n 2, 1) := by decide +kernel
theorem dX5_run_28 : decode cX5_run 28 = .ok (.invokevirtual 122, 3) := by decide +kernel
theorem dX5_run_31 : decode cX5_run 31 = .ok (.ifCond .ne 9, 3) := by decide +kernel
theorem dX5_run_34 : decode cX5_run 34 = .ok (.aload_n 1, 1) := by decide +kernel
theorem dX5_run_35 : decode cX5_run 35 = .ok (.iconst 0, 1) := by decide +kernel
theorem dX5_run_36 : decode cX5_run 36 = .ok (.putfield 198, 3) := by decide +kernel
theorem dX5_run_39 : decode cX5_run 39 = .ok (.return_, 1) := by decide +kernel
theorem dX5_run_40 : decode cX5_run 40 = .ok (.aload_n 1, 1) := by decide +kernel
theorem dX5_run_41 : decode cX5_run 41 = .ok (.getfield 185, 3) := by decide +kernel
theorem dX5_run_44 : decode cX5_run 44 = .ok (.iconst 4, 1) := by decide +kernel
theorem dX5_run_45 : decode cX5_run 45 = .ok (.dup2, 1) := by decide +kernel
theorem dX5_run_46 : decode cX5_run 46 = .ok (.iaload, 1) := by decide +kernel
theorem dX5_run_47 : decode cX5_run 47 = .ok (.iconst 1, 1) := by decide +kernel
theorem dX5_run_48 : decode cX5_run 48 = .ok (.iadd, 1) := by decide +kernel
theorem dX5_run_49 : decode cX5_run 49 = .ok (.iastore, 1) := by decide +kernel
theorem dX5_run_50 : decode cX5_run 50 = .ok (.iinc 3 (-1), 3) := by decide +kernel
theorem dX5_run_53 : decode cX5_run 53 = .ok (.goto (-32), 3) := by decide +kernel
theorem dX5_run_56 : decode cX5_run 56 = .ok (.return_, 1) := by decide +kernel
set_option maxRecDepth 20000 in
theorem ggX5_riseOrFall_X5_stepUp : GoodIn wsX5_riseOrFall wsX5_stepUp := goodIn_ca (goodIn_r _ [7, 8, 9, 10, 11, 12, 13, 14, 15, 16, 17, 18, 19, 20, 21, 22, 23, 24, 25, 26, 27, 28, 29, 30, 31, 32, 33, 34, 35, 36, 37, 38, 39, 40, 41, 42, 43, 102, 103, 104, 105, 106, 107, 108, 86, 87, 88, 89, 90, 91, 92, 93, 94, 95, 96, 97, 98, 99, 100, 101, 109] (by decide +kernel) (by decide +kernel)) (goodIn_sub (fun _ h => List.mem_cons_of_mem _ (List.mem_append_right _ h)) (by decide +kernel))
set_option maxRecDepth 20000 in
theorem gX5_riseOrFall_X5_stepUp : GoodIn wsX5_riseOrFall (wsV RX5 129 RX5 yX5_stepUp wsX5_stepUp) := goodIn_app (goodIn_of _ (by decide +kernel)) ggX5_riseOrFall_X5_stepUp
set_option maxRecDepth 20000 in
theorem ggX5_riseOrFall_X5_stepDown : GoodIn wsX5_riseOrFall wsX5_stepDown := goodIn_ca (goodIn_r _ [47, 9, 10, 48, 49, 50, 6, 51, 8, 52, 53, 54, 55, 14, 56, 16, 17, 18, 19, 20, 21, 27, 28, 29, 30, 31, 32, 33, 34, 35, 36, 37, 38, 39, 40, 41, 42, 43, 57, 58, 59, 60, 61, 62, 63, 64, 65, 66, 67, 68, 69, 70, 71, 72, 73, 74, 75, 76, 77, 78, 79, 80, 81, 86, 87, 88, 89, 90, 91, 92, 93, 94, 95, 96, 97, 98, 99, 100, 101, 102, 103, 104, 105, 106, 107, 108, 109, 110, 111, 112, 113, 114, 115, 116] (by decide +kernel) (by decide +kernel)) (goodIn_sub (fun _ h => List.mem_cons_of_mem _ (List.mem_append_right _ h)) (by decide +kernel))
set_option maxRecDepth 20000 in
theorem gX5_riseOrFall_X5_stepDown : GoodIn wsX5_riseOrFall (wsV RX5 133 RX5 yX5_stepDown wsX5_stepDown) := goodIn_app (goodIn_of _ (by decide +kernel)) ggX5_riseOrFall_X5_stepDown
set_option maxRecDepth 20000 in
theorem ggX5_riseOrFall_X5_land : GoodIn wsX5_riseOrFall wsX5_land := goodIn_ca (goodIn_r _ [85, 8, 9, 10, 1, 2, 53, 54, 55, 14, 56, 16, 17, 18, 19, 20, 21, 27, 28, 29, 30, 31, 32, 33, 34, 35, 36, 37, 38, 39, 40, 41, 42, 43, 102, 103, 104, 105, 106, 107, 108, 86, 87, 88, 89, 90, 91, 92, 93, 94, 95, 96, 97, 98, 99, 100, 101, 109] (by decide +kernel) (by decide +kernel)) (goodIn_sub (fun _ h => List.mem_cons_of_mem _ (List.mem_append_right _ h)) (by decide +kernel))
set_option maxRecDepth 20000 in
theorem gX5_riseOrFall_X5_land : GoodIn wsX5_riseOrFall (wsV RX5 218 RX5 yX5_land wsX5_land) := goodIn_app (goodIn_of _ (by decide +kernel)) ggX5_riseOrFall_X5_land
theorem dX5_riseOrFall_0 : decode cX5_riseOrFall 0 = .ok (.aload_n 1, 1) := by decide +kernel
theorem dX5_riseOrFall_1 : decode cX5_riseOrFall 1 = .ok (.getfield 91, 3) := by decide +kernel
theorem dX5_riseOrFall_4 : decode cX5_riseOrFall 4 = .ok (.istore_n 2, 1) := by decide +kernel
theorem dX5_riseOrFall_5 : decode cX5_riseOrFall 5 = .ok (.iload_n 2, 1) := by decide +kernel
theorem dX5_riseOrFall_6 : decode cX5_riseOrFall 6 = .ok (.ifCond .le 33, 3) := by decide +kernel
theorem dX5_riseOrFall_9 : decode cX5_riseOrFall 9 = .ok (.aload_n 0, 1) := by decide +kernel
theorem dX5_riseOrFall_10 : decode cX5_riseOrFall 10 = .ok (.aload_n 1, 1) := by decide +kernel
theorem dX5_riseOrFall_11 : decode cX5_riseOrFall 11 = .ok (.invokevirtual 129, 3) := by decide +kernel
theorem dX5_riseOrFall_14 : decode cX5_riseOrFall 14 = .ok (.ifCond .ne 9, 3) := by decide +kernel
theorem dX5_riseOrFall_17 : decode cX5_riseOrFall 17 = .ok (.aload_n 1, 1) := by decide +kernel
theorem dX5_riseOrFall_18 : decode cX5_riseOrFall 18 = .ok (.iconst 0, 1) := by decide +kernel
theorem dX5_riseOrFall_19 : decode cX5_riseOrFall 19 = .ok (.putfield 91, 3) := by decide +kernel
theorem dX5_riseOrFall_22 : decode cX5_riseOrFall 22 = .ok (.return_, 1) := by decide +kernel
theorem dX5_riseOrFall_23 : decode cX5_riseOrFall 23 = .ok (.aload_n 1, 1) := by decide +kernel
theorem dX5_riseOrFall_24 : decode cX5_riseOrFall 24 = .ok (.getfield 185, 3) := by decide +kernel
theorem dX5_riseOrFall_27 : decode cX5_riseOrFall 27 = .ok (.iconst 4, 1) := by decide +kernel
theorem dX5_riseOrFall_28 : decode cX5_riseOrFall 28 = .ok (.dup2, 1) := by decide +kernel
theorem dX5_riseOrFall_29 : decode cX5_riseOrFall 29 = .ok (.iaload, 1) := by decide +kernel
theorem dX5_riseOrFall_30 : decode cX5_riseOrFall 30 = .ok (.iconst 1, 1) := by decide +kernel
theorem dX5_riseOrFall_31 : decode cX5_riseOrFall 31 = .ok (.iadd, 1) := by decide +kernel
theorem dX5_riseOrFall_32 : decode cX5_riseOrFall 32 = .ok (.iastore, 1) := by decide +kernel
theorem dX5_riseOrFall_33 : decode cX5_riseOrFall 33 = .ok (.iinc 2 (-1), 3) := by decide +kernel
theorem dX5_riseOrFall_36 : decode cX5_riseOrFall 36 = .ok (.goto (-31), 3) := by decide +kernel
theorem dX5_riseOrFall_39 : decode cX5_riseOrFall 39 = .ok (.aload_n 1, 1) := by decide +kernel
theorem dX5_riseOrFall_40 : decode cX5_riseOrFall 40 = .ok (.getfield 91, 3) := by decide +kernel
theorem dX5_riseOrFall_43 : decode cX5_riseOrFall 43 = .ok (.ineg, 1) := by decide +kernel
theorem dX5_riseOrFall_44 : decode cX5_riseOrFall 44 = .ok (.istore_n 2, 1) := by decide +kernel
theorem dX5_riseOrFall_45 : decode cX5_riseOrFall 45 = .ok (.iload_n 2, 1) := by decide +kernel
theorem dX5_riseOrFall_46 : decode cX5_riseOrFall 46 = .ok (.ifCond .le 34, 3) := by decide +kernel
theorem dX5_riseOrFall_49 : decode cX5_riseOrFall 49 = .ok (.aload_n 0, 1) := by decide +kernel
theorem dX5_riseOrFall_50 : decode cX5_riseOrFall 50 = .ok (.aload_n 1, 1) := by decide +kernel
theorem dX5_riseOrFall_51 : decode cX5_riseOrFall 51 = .ok (.iconst (-1), 1) := by decide +kernel
theorem dX5_riseOrFall_52 : decode cX5_riseOrFall 52 = .ok (.invokevirtual 133, 3) := by decide +kernel
theorem dX5_riseOrFall_55 : decode cX5_riseOrFall 55 = .ok (.ifCond .ne 9, 3) := by decide +kernel
theorem dX5_riseOrFall_58 : decode cX5_riseOrFall 58 = .ok (.aload_n 0, 1) := by decide +kernel
theorem dX5_riseOrFall_59 : decode cX5_riseOrFall 59 = .ok (.aload_n 1, 1) := by decide +kernel
theorem dX5_riseOrFall_60 : decode cX5_riseOrFall 60 = .ok (.invokevirtual 218, 3) := by decide +kernel
theorem dX5_riseOrFall_63 : decode cX5_riseOrFall 63 = .ok (.return_, 1) := by decide +kernel
theorem dX5_riseOrFall_64 : decode cX5_riseOrFall 64 = .ok (.aload_n 1, 1) := by decide +kernel
theorem dX5_riseOrFall_65 : decode cX5_riseOrFall 65 = .ok (.getfield 185, 3) := by decide +kernel
theorem dX5_riseOrFall_68 : decode cX5_riseOrFall 68 = .ok (.iconst 4, 1) := by decide +kernel
theorem dX5_riseOrFall_69 : decode cX5_riseOrFall 69 = .ok (.dup2, 1) := by decide +kernel
theorem dX5_riseOrFall_70 : decode cX5_riseOrFall 70 = .ok (.iaload, 1) := by decide +kernel
theorem dX5_riseOrFall_71 : decode cX5_riseOrFall 71 = .ok (.iconst 1, 1) := by decide +kernel
theorem dX5_riseOrFall_72 : decode cX5_riseOrFall 72 = .ok (.iadd, 1) := by decide +kernel
theorem dX5_riseOrFall_73 : decode cX5_riseOrFall 73 = .ok (.iastore, 1) := by decide +kernel
theorem dX5_riseOrFall_74 : decode cX5_riseOrFall 74 = .ok (.iinc 2 (-1), 3) := by decide +kernel
theorem dX5_riseOrFall_77 : decode cX5_riseOrFall 77 = .ok (.goto (-32), 3) := by decide +kernel
theorem dX5_riseOrFall_80 : decode cX5_riseOrFall 80 = .ok (.return_, 1) := by decide +kernel
set_option maxRecDepth 20000 in
theorem ggX5_land_X4_firmKindsBelow : GoodIn wsX5_land wsX4_firmKindsBelow := goodIn_ca (goodIn_r _ [10, 11, 12, 13, 14, 15, 16, 17, 18, 19, 20, 21, 22, 23, 9, 24, 25, 26, 27, 28, 29, 30, 31, 32, 33, 41, 42, 43, 44, 45, 46, 47, 48, 49, 50, 51, 52, 53, 54, 55, 56, 57] (by decide +kernel) (by decide +kernel)) (goodIn_sub (fun _ h => List.mem_cons_of_mem _ (List.mem_append_right _ h)) (by decide +kernel))
set_option maxRecDepth 20000 in
theorem gX5_land_X4_firmKindsBelow : GoodIn wsX5_land (wsV RX5 66 RX4 yX4_firmKindsBelow wsX4_firmKindsBelow) := goodIn_app (goodIn_of _ (by decide +kernel)) ggX5_land_X4_firmKindsBelow
theorem dX5_land_0 : decode cX5_land 0 = .ok (.aload_n 0, 1) := by decide +kernel
theorem dX5_land_1 : decode cX5_land 1 = .ok (.getfield 12, 3) := by decide +kernel
theorem dX5_land_4 : decode cX5_land 4 = .ok (.aload_n 1, 1) := by decide +kernel
theorem dX5_land_5 : decode cX5_land 5 = .ok (.aload_n 1, 1) := by decide +kernel
theorem dX5_land_6 : decode cX5_land 6 = .ok (.getfield 56, 3) := by decide +kernel
theorem dX5_land_9 : decode cX5_land 9 = .ok (.aload_n 1, 1) := by decide +kernel
theorem dX5_land_10 : decode cX5_land 10 = .ok (.getfield 59, 3) := by decide +kernel
theorem dX5_land_13 : decode cX5_land 13 = .ok (.invokevirtual 66, 3) := by decide +kernel
theorem dX5_land_16 : decode cX5_land 16 = .ok (.sipush 256, 3) := by decide +kernel
theorem dX5_land_19 : decode cX5_land 19 = .ok (.iand, 1) := by decide +kernel
theorem dX5_land_20 : decode cX5_land 20 = .ok (.ifCond .eq 7, 3) := by decide +kernel
theorem dX5_land_23 : decode cX5_land 23 = .ok (.iconst 1, 1) := by decide +kernel
theorem dX5_land_24 : decode cX5_land 24 = .ok (.goto 4, 3) := by decide +kernel
theorem dX5_land_27 : decode cX5_land 27 = .ok (.iconst 0, 1) := by decide +kernel
theorem dX5_land_28 : decode cX5_land 28 = .ok (.istore_n 2, 1) := by decide +kernel
theorem dX5_land_29 : decode cX5_land 29 = .ok (.aload_n 1, 1) := by decide +kernel
theorem dX5_land_30 : decode cX5_land 30 = .ok (.iload_n 2, 1) := by decide +kernel
theorem dX5_land_31 : decode cX5_land 31 = .ok (.ifCond .eq 8, 3) := by decide +kernel
theorem dX5_land_34 : decode cX5_land 34 = .ok (.bipush 16, 2) := by decide +kernel
theorem dX5_land_36 : decode cX5_land 36 = .ok (.goto 4, 3) := by decide +kernel
theorem dX5_land_39 : decode cX5_land 39 = .ok (.iconst 0, 1) := by decide +kernel
theorem dX5_land_40 : decode cX5_land 40 = .ok (.putfield 91, 3) := by decide +kernel
theorem dX5_land_43 : decode cX5_land 43 = .ok (.aload_n 1, 1) := by decide +kernel
theorem dX5_land_44 : decode cX5_land 44 = .ok (.getfield 185, 3) := by decide +kernel
theorem dX5_land_47 : decode cX5_land 47 = .ok (.iconst 3, 1) := by decide +kernel
theorem dX5_land_48 : decode cX5_land 48 = .ok (.dup2, 1) := by decide +kernel
theorem dX5_land_49 : decode cX5_land 49 = .ok (.iaload, 1) := by decide +kernel
theorem dX5_land_50 : decode cX5_land 50 = .ok (.iconst 1, 1) := by decide +kernel
theorem dX5_land_51 : decode cX5_land 51 = .ok (.iadd, 1) := by decide +kernel
theorem dX5_land_52 : decode cX5_land 52 = .ok (.iastore, 1) := by decide +kernel
theorem dX5_land_53 : decode cX5_land 53 = .ok (.return_, 1) := by decide +kernel
set_option maxRecDepth 20000 in
theorem ggX5_meetCoinsAndSpikes_X4_giveCoins : GoodIn wsX5_meetCoinsAndSpikes wsX4_giveCoins := goodIn_ca (goodIn_r _ [8, 9, 10, 11, 12, 13, 14, 15, 16, 17, 18, 19, 20, 21, 22, 23, 24, 7, 25, 26, 27, 28, 29, 30, 31, 32, 33, 34, 35, 36, 60, 61, 62, 63, 64, 65, 66, 67, 68, 69, 70, 71, 72, 73, 74, 75, 83] (by decide +kernel) (by decide +kernel)) (goodIn_sub (fun _ h => List.mem_cons_of_mem _ (List.mem_append_right _ h)) (by decide +kernel))
set_option maxRecDepth 20000 in
theorem gX5_meetCoinsAndSpikes_X4_giveCoins : GoodIn wsX5_meetCoinsAndSpikes (wsV RX5 221 RX4 yX4_giveCoins wsX4_giveCoins) := goodIn_app (goodIn_of _ (by decide +kernel)) ggX5_meetCoinsAndSpikes_X4_giveCoins
set_option maxRecDepth 20000 in
theorem ggX5_meetCoinsAndSpikes_X4_touch : GoodIn wsX5_meetCoinsAndSpikes wsX4_touch := goodIn_ca (goodIn_r _ [40, 9, 10, 11, 12, 13, 14, 15, 16, 17, 18, 19, 20, 21, 22, 23, 24, 7, 25, 26, 60, 61, 62, 63, 64, 65, 66, 67, 68, 69, 70, 71, 72, 73, 74, 75, 83] (by decide +kernel) (by decide +kernel)) (goodIn_sub (fun _ h => List.mem_cons_of_mem _ (List.mem_append_right _ h)) (by decide +kernel))
set_option maxRecDepth 20000 in
theorem gX5_meetCoinsAndSpikes_X4_touch : GoodIn wsX5_meetCoinsAndSpikes (wsV RX5 225 RX4 yX4_touch wsX4_touch) := goodIn_app (goodIn_of _ (by decide +kernel)) ggX5_meetCoinsAndSpikes_X4_touch
set_option maxRecDepth 20000 in
theorem ggX5_meetCoinsAndSpikes_X0_die : GoodIn wsX5_meetCoinsAndSpikes wsX0_die := goodIn_ca (goodIn_r _ [44, 45, 46, 47, 48, 49, 50, 51, 52, 14, 53, 54, 55, 56, 57, 58, 59, 60, 61, 62, 63, 64, 65, 66, 67, 68, 69, 70, 71, 72, 73, 74, 75] (by decide +kernel) (by decide +kernel)) (goodIn_sub (fun _ h => List.mem_cons_of_mem _ (List.mem_append_right _ h)) (by decide +kernel))
set_option maxRecDepth 20000 in
theorem gX5_meetCoinsAndSpikes_X0_die : GoodIn wsX5_meetCoinsAndSpikes (wsV RX5 228 RX0 yX0_die wsX0_die) := goodIn_app (goodIn_of _ (by decide +kernel)) ggX5_meetCoinsAndSpikes_X0_die
theorem dX5_meetCoinsAndSpikes_0 : decode cX5_meetCoinsAndSpikes 0 = .ok (.aload_n 1, 1) := by decide +kernel
theorem dX5_meetCoinsAndSpikes_1 : decode cX5_meetCoinsAndSpikes 1 = .ok (.getfield 185, 3) := by decide +kernel
theorem dX5_meetCoinsAndSpikes_4 : decode cX5_meetCoinsAndSpikes 4 = .ok (.iconst 0, 1) := by decide +kernel
theorem dX5_meetCoinsAndSpikes_5 : decode cX5_meetCoinsAndSpikes 5 = .ok (.dup2, 1) := by decide +kernel
theorem dX5_meetCoinsAndSpikes_6 : decode cX5_meetCoinsAndSpikes 6 = .ok (.iaload, 1) := by decide +kernel
theorem dX5_meetCoinsAndSpikes_7 : decode cX5_meetCoinsAndSpikes 7 = .ok (.aload_n 0, 1) := by decide +kernel
theorem dX5_meetCoinsAndSpikes_8 : decode cX5_meetCoinsAndSpikes 8 = .ok (.getfield 12, 3) := by decide +kernel
theorem dX5_meetCoinsAndSpikes_11 : decode cX5_meetCoinsAndSpikes 11 = .ok (.aload_n 1, 1) := by decide +kernel
theorem dX5_meetCoinsAndSpikes_12 : decode cX5_meetCoinsAndSpikes 12 = .ok (.invokevirtual 221, 3) := by decide +kernel
theorem dX5_meetCoinsAndSpikes_15 : decode cX5_meetCoinsAndSpikes 15 = .ok (.iadd, 1) := by decide +kernel
theorem dX5_meetCoinsAndSpikes_16 : decode cX5_meetCoinsAndSpikes 16 = .ok (.iastore, 1) := by decide +kernel
theorem dX5_meetCoinsAndSpikes_17 : decode cX5_meetCoinsAndSpikes 17 = .ok (.aload_n 1, 1) := by decide +kernel
theorem dX5_meetCoinsAndSpikes_18 : decode cX5_meetCoinsAndSpikes 18 = .ok (.getfield 59, 3) := by decide +kernel
theorem dX5_meetCoinsAndSpikes_21 : decode cX5_meetCoinsAndSpikes 21 = .ok (.bipush (-40), 2) := by decide +kernel
theorem dX5_meetCoinsAndSpikes_23 : decode cX5_meetCoinsAndSpikes 23 = .ok (.if_icmp .lt 16, 3) := by decide +kernel
theorem dX5_meetCoinsAndSpikes_26 : decode cX5_meetCoinsAndSpikes 26 = .ok (.aload_n 0, 1) := by decide +kernel
theorem dX5_meetCoinsAndSpikes_27 : decode cX5_meetCoinsAndSpikes 27 = .ok (.getfield 12, 3) := by decide +kernel
theorem dX5_meetCoinsAndSpikes_30 : decode cX5_meetCoinsAndSpikes 30 = .ok (.aload_n 1, 1) := by decide +kernel
theorem dX5_meetCoinsAndSpikes_31 : decode cX5_meetCoinsAndSpikes 31 = .ok (.bipush 9, 2) := by decide +kernel
theorem dX5_meetCoinsAndSpikes_33 : decode cX5_meetCoinsAndSpikes 33 = .ok (.invokevirtual 225, 3) := by decide +kernel
theorem dX5_meetCoinsAndSpikes_36 : decode cX5_meetCoinsAndSpikes 36 = .ok (.ifCond .eq 7, 3) := by decide +kernel
theorem dX5_meetCoinsAndSpikes_39 : decode cX5_meetCoinsAndSpikes 39 = .ok (.aload_n 1, 1) := by decide +kernel
theorem dX5_meetCoinsAndSpikes_40 : decode cX5_meetCoinsAndSpikes 40 = .ok (.invokevirtual 228, 3) := by decide +kernel
theorem dX5_meetCoinsAndSpikes_43 : decode cX5_meetCoinsAndSpikes 43 = .ok (.return_, 1) := by decide +kernel
set_option maxRecDepth 20000 in
theorem ggX6_init_X5_init : GoodIn wsX6_init wsX5_init := goodIn_r _ [31, 32, 2, 3, 33, 34, 35, 36, 37, 38, 39, 40, 41, 42, 43, 44, 45, 46, 47, 48, 49, 50, 51, 52, 53, 54, 55, 56, 57, 96, 72, 73, 74, 75, 76, 77, 78, 97, 98, 99, 100, 101, 102, 103, 104, 105, 106, 107, 108, 109, 110, 111, 112, 113, 114, 115, 116, 117, 118, 119] (by decide +kernel) (by decide +kernel)
set_option maxRecDepth 20000 in
theorem gX6_init_X5_init : GoodIn wsX6_init (wsX5_init) := ggX6_init_X5_init
set_option maxRecDepth 20000 in
theorem ggX6_init_X1_init : GoodIn wsX6_init wsX1_init := goodIn_r _ [60, 61, 2, 3, 62, 63, 5, 6, 64, 30, 31, 32, 33, 34, 35, 36, 37, 38, 39, 40, 41, 42, 43, 44, 45, 46, 47, 48, 49, 50, 51, 52, 53, 54, 55, 56, 57, 88, 89, 90, 72, 73, 74, 75, 76, 77, 78, 96, 97, 98, 99, 100, 101, 102, 103, 104, 105, 106, 107, 108, 109, 110, 111, 112, 113, 114, 115, 116, 117, 118, 119] (by decide +kernel) (by decide +kernel)
set_option maxRecDepth 20000 in
theorem gX6_init_X1_init : GoodIn wsX6_init (wsX1_init) := ggX6_init_X1_init
set_option maxRecDepth 20000 in
theorem ggX6_init_X3_init : GoodIn wsX6_init wsX3_init := goodIn_r _ [66, 67, 2, 3, 68, 69, 41, 70, 71, 91, 92, 93, 94, 95] (by decide +kernel) (by decide +kernel)
set_option maxRecDepth 20000 in
theorem gX6_init_X3_init_n46 : GoodIn wsX6_init (wsX3_init) := ggX6_init_X3_init
theorem dX6_init_0 : decode cX6_init 0 = .ok (.aload_n 0, 1) := by decide +kernel
theorem dX6_init_1 : decode cX6_init 1 = .ok (.invokespecial 3, 3) := by decide +kernel
theorem dX6_init_4 : decode cX6_init 4 = .ok (.aload_n 0, 1) := by decide +kernel
theorem dX6_init_5 : decode cX6_init 5 = .ok (.new 9, 3) := by decide +kernel
theorem dX6_init_8 : decode cX6_init 8 = .ok (.dup, 1) := by decide +kernel
theorem dX6_init_9 : decode cX6_init 9 = .ok (.invokespecial 11, 3) := by decide +kernel
theorem dX6_init_12 : decode cX6_init 12 = .ok (.putfield 12, 3) := by decide +kernel
theorem dX6_init_15 : decode cX6_init 15 = .ok (.aload_n 0, 1) := by decide +kernel
theorem dX6_init_16 : decode cX6_init 16 = .ok (.new 9, 3) := by decide +kernel
theorem dX6_init_19 : decode cX6_init 19 = .ok (.dup, 1) := by decide +kernel
theorem dX6_init_20 : decode cX6_init 20 = .ok (.invokespecial 11, 3) := by decide +kernel
theorem dX6_init_23 : decode cX6_init 23 = .ok (.putfield 16, 3) := by decide +kernel
theorem dX6_init_26 : decode cX6_init 26 = .ok (.aload_n 0, 1) := by decide +kernel
theorem dX6_init_27 : decode cX6_init 27 = .ok (.new 9, 3) := by decide +kernel
theorem dX6_init_30 : decode cX6_init 30 = .ok (.dup, 1) := by decide +kernel
theorem dX6_init_31 : decode cX6_init 31 = .ok (.invokespecial 11, 3) := by decide +kernel
theorem dX6_init_34 : decode cX6_init 34 = .ok (.putfield 19, 3) := by decide +kernel
theorem dX6_init_37 : decode cX6_init 37 = .ok (.aload_n 0, 1) := by decide +kernel
theorem dX6_init_38 : decode cX6_init 38 = .ok (.getstatic 22, 3) := by decide +kernel
theorem dX6_init_41 : decode cX6_init 41 = .ok (.invokevirtual 26, 3) := by decide +kernel
theorem dX6_init_44 : decode cX6_init 44 = .ok (.checkcast 27, 3) := by decide +kernel
theorem dX6_init_47 : decode cX6_init 47 = .ok (.putfield 31, 3) := by decide +kernel
theorem dX6_init_50 : decode cX6_init 50 = .ok (.aload_n 0, 1) := by decide +kernel
theorem dX6_init_51 : decode cX6_init 51 = .ok (.getstatic 22, 3) := by decide +kernel
theorem dX6_init_54 : decode cX6_init 54 = .ok (.invokevirtual 26, 3) := by decide +kernel
theorem dX6_init_57 : decode cX6_init 57 = .ok (.checkcast 27, 3) := by decide +kernel
theorem dX6_init_60 : decode cX6_init 60 = .ok (.putfield 34, 3) := by decide +kernel
theorem dX6_init_63 : decode cX6_init 63 = .ok (.aload_n 0, 1) := by decide +kernel
theorem dX6_init_64 : decode cX6_init 64 = .ok (.new 37, 3) := by decide +kernel
theorem dX6_init_67 : decode cX6_init 67 = .ok (.dup, 1) := by decide +kernel
theorem dX6_init_68 : decode cX6_init 68 = .ok (.invokespecial 39, 3) := by decide +kernel
theorem dX6_init_71 : decode cX6_init 71 = .ok (.putfield 40, 3) := by decide +kernel
theorem dX6_init_74 : decode cX6_init 74 = .ok (.aload_n 0, 1) := by decide +kernel
theorem dX6_init_75 : decode cX6_init 75 = .ok (.new 44, 3) := by decide +kernel
theorem dX6_init_78 : decode cX6_init 78 = .ok (.dup, 1) := by decide +kernel
theorem dX6_init_79 : decode cX6_init 79 = .ok (.invokespecial 46, 3) := by decide +kernel
theorem dX6_init_82 : decode cX6_init 82 = .ok (.putfield 47, 3) := by decide +kernel
theorem dX6_init_85 : decode cX6_init 85 = .ok (.aload_n 0, 1) := by decide +kernel
theorem dX6_init_86 : decode cX6_init 86 = .ok (.iconst 0, 1) := by decide +kernel
theorem dX6_init_87 : decode cX6_init 87 = .ok (.putfield 51, 3) := by decide +kernel
theorem dX6_init_90 : decode cX6_init 90 = .ok (.aload_n 0, 1) := by decide +kernel
theorem dX6_init_91 : decode cX6_init 91 = .ok (.iconst (-1), 1) := by decide +kernel
theorem dX6_init_92 : decode cX6_init 92 = .ok (.putfield 55, 3) := by decide +kernel
theorem dX6_init_95 : decode cX6_init 95 = .ok (.return_, 1) := by decide +kernel
set_option maxRecDepth 20000 in
theorem ggX6_setTile_X6_requireTile : GoodIn wsX6_setTile wsX6_requireTile := goodIn_ca (goodIn_r _ [7, 8, 9, 10, 11, 6, 12, 13, 14, 15] (by decide +kernel) (by decide +kernel)) (goodIn_sub (fun _ h => List.mem_cons_of_mem _ (List.mem_append_left _ (List.mem_append_left _ (List.mem_append_left _ (List.mem_append_right _ h))))) (by decide +kernel))
set_option maxRecDepth 20000 in
theorem gX6_setTile_X6_requireTile : GoodIn wsX6_setTile (va_wsS RX6 59 yX6_requireTile wsX6_requireTile) := goodIn_app (goodIn_of _ (by decide +kernel)) ggX6_setTile_X6_requireTile
set_option maxRecDepth 20000 in
theorem ggX6_setTile_X6_isWithin : GoodIn wsX6_setTile wsX6_isWithin := goodIn_r _ [15] (by decide +kernel) (by decide +kernel)
set_option maxRecDepth 20000 in
theorem gX6_setTile_X6_isWithin : GoodIn wsX6_setTile (va_wsS RX6 63 yX6_isWithin wsX6_isWithin) := goodIn_app (goodIn_of _ (by decide +kernel)) ggX6_setTile_X6_isWithin
set_option maxRecDepth 20000 in
theorem ggX6_setTile_X6_require : GoodIn wsX6_setTile wsX6_require := goodIn_ca (goodIn_r _ [18, 19, 20] (by decide +kernel) (by decide +kernel)) (goodIn_sub (fun _ h => List.mem_cons_of_mem _ (List.mem_append_left _ (List.mem_append_left _ (List.mem_append_right _ h)))) (by decide +kernel))
set_option maxRecDepth 20000 in
theorem gX6_setTile_X6_require : GoodIn wsX6_setTile (va_wsS RX6 67 yX6_require wsX6_require) := goodIn_app (goodIn_of _ (by decide +kernel)) ggX6_setTile_X6_require
set_option maxRecDepth 20000 in
theorem ggX6_setTile_X4_kindAt : GoodIn wsX6_setTile wsX4_kindAt := goodIn_ca (goodIn_r _ [25, 26, 148] (by decide +kernel) (by decide +kernel)) (goodIn_sub (fun _ h => List.mem_cons_of_mem _ (List.mem_append_left _ (List.mem_append_right _ h))) (by decide +kernel))
set_option maxRecDepth 20000 in
theorem gX6_setTile_X4_kindAt : GoodIn wsX6_setTile (wsV RX6 75 RX4 yX4_kindAt wsX4_kindAt) := goodIn_app (goodIn_of _ (by decide +kernel)) ggX6_setTile_X4_kindAt
set_option maxRecDepth 20000 in
theorem ggX6_setTile_X5_copyFrom : GoodIn wsX6_setTile wsX5_copyFrom := goodIn_r _ [31, 32, 33, 34, 35, 36, 37, 38, 39, 40, 24, 41, 26, 42, 43, 44, 45, 46, 47, 48, 49, 50, 51, 52, 53, 54, 55, 56, 57, 58, 59, 60, 61, 62, 63, 64, 65, 66, 67, 68, 69, 70, 71, 72, 73, 74, 75, 76, 77, 78, 79, 80, 81, 82, 83, 141, 142, 143, 144, 145, 146, 147, 148, 149, 150, 151, 152, 153, 154, 155, 156, 157, 158, 159, 160, 161, 162, 163, 164, 165, 166, 167, 168, 169, 170, 171] (by decide +kernel) (by decide +kernel)
set_option maxRecDepth 20000 in
theorem gX6_setTile_X5_copyFrom : GoodIn wsX6_setTile (wsV RX6 81 RX5 yX5_copyFrom wsX5_copyFrom) := goodIn_app (goodIn_of _ (by decide +kernel)) ggX6_setTile_X5_copyFrom
set_option maxRecDepth 20000 in
theorem ggX6_setTile_X4_put : GoodIn wsX6_setTile wsX4_put := goodIn_ca (goodIn_r _ [87, 26, 11, 6, 12, 13, 14, 15, 148] (by decide +kernel) (by decide +kernel)) (goodIn_sub (fun _ h => List.mem_cons_of_mem _ (List.mem_append_left _ (List.mem_append_right _ h))) (by decide +kernel))
set_option maxRecDepth 20000 in
theorem gX6_setTile_X4_put : GoodIn wsX6_setTile (wsV RX6 85 RX4 yX4_put wsX4_put) := goodIn_app (goodIn_of _ (by decide +kernel)) ggX6_setTile_X4_put
set_option maxRecDepth 20000 in
theorem ggX6_setTile_X6_acceptTrialTiles : GoodIn wsX6_setTile wsX6_acceptTrialTiles := goodIn_ca (goodIn_ca (goodIn_r _ [91, 92, 93, 3, 1, 2, 94, 95, 96, 97, 30, 98, 33, 32, 36, 99, 100, 101, 102, 103, 24, 104, 105, 106, 107, 49, 108, 53, 109, 110, 111, 112, 54, 113, 114, 115, 116, 117, 22, 23, 25, 26, 118, 6, 119, 120, 121, 122, 123, 124, 125, 39, 40, 41, 42, 43, 44, 45, 126, 127, 128, 129, 130, 131, 132, 133, 134, 135, 136, 137, 138, 139, 140, 141, 142, 143, 144, 145, 146, 147, 149, 150, 151, 152, 153, 154, 155, 156, 157, 158, 159, 160, 161, 162, 163, 164, 148, 172, 173, 174] (by decide +kernel) (by decide +kernel)) (goodIn_sub (fun _ h => List.mem_cons_of_mem _ (List.mem_append_right _ h)) (by decide +kernel))) (goodIn_sub (fun _ h => List.mem_cons_of_mem _ (List.mem_append_left _ (List.mem_append_right _ h))) (by decide +kernel))
set_option maxRecDepth 20000 in
theorem gX6_setTile_X6_acceptTrialTiles : GoodIn wsX6_setTile (wsV RX6 89 RX6 yX6_acceptTrialTiles wsX6_acceptTrialTiles) := goodIn_app (goodIn_of _ (by decide +kernel)) ggX6_setTile_X6_acceptTrialTiles
theorem dX6_setTile_0 : decode cX6_setTile 0 = .ok (.iload_n 1, 1) := by decide +kernel
theorem dX6_setTile_1 : decode cX6_setTile 1 = .ok (.iload_n 2, 1) := by decide +kernel
theorem dX6_setTile_2 : decode cX6_setTile 2 = .ok (.invokestatic 59, 3) := by decide +kernel
theorem dX6_setTile_5 : decode cX6_setTile 5 = .ok (.iload_n 3, 1) := by decide +kernel
theorem dX6_setTile_6 : decode cX6_setTile 6 = .ok (.iconst 0, 1) := by decide +kernel
theorem dX6_setTile_7 : decode cX6_setTile 7 = .ok (.bipush 10, 2) := by decide +kernel
theorem dX6_setTile_9 : decode cX6_setTile 9 = .ok (.invokestatic 63, 3) := by decide +kernel
theorem dX6_setTile_12 : decode cX6_setTile 12 = .ok (.invokestatic 67, 3) := by decide +kernel
theorem dX6_setTile_15 : decode cX6_setTile 15 = .ok (.aload_n 0, 1) := by decide +kernel
theorem dX6_setTile_16 : decode cX6_setTile 16 = .ok (.getfield 12, 3) := by decide +kernel
theorem dX6_setTile_19 : decode cX6_setTile 19 = .ok (.getfield 71, 3) := by decide +kernel
theorem dX6_setTile_22 : decode cX6_setTile 22 = .ok (.iload_n 1, 1) := by decide +kernel
theorem dX6_setTile_23 : decode cX6_setTile 23 = .ok (.iload_n 2, 1) := by decide +kernel
theorem dX6_setTile_24 : decode cX6_setTile 24 = .ok (.invokevirtual 75, 3) := by decide +kernel
theorem dX6_setTile_27 : decode cX6_setTile 27 = .ok (.istore 4, 2) := by decide +kernel
theorem dX6_setTile_29 : decode cX6_setTile 29 = .ok (.aload_n 0, 1) := by decide +kernel
theorem dX6_setTile_30 : decode cX6_setTile 30 = .ok (.getfield 16, 3) := by decide +kernel
theorem dX6_setTile_33 : decode cX6_setTile 33 = .ok (.aload_n 0, 1) := by decide +kernel
theorem dX6_setTile_34 : decode cX6_setTile 34 = .ok (.getfield 12, 3) := by decide +kernel
theorem dX6_setTile_37 : decode cX6_setTile 37 = .ok (.invokevirtual 81, 3) := by decide +kernel
theorem dX6_setTile_40 : decode cX6_setTile 40 = .ok (.aload_n 0, 1) := by decide +kernel
theorem dX6_setTile_41 : decode cX6_setTile 41 = .ok (.getfield 16, 3) := by decide +kernel
theorem dX6_setTile_44 : decode cX6_setTile 44 = .ok (.getfield 71, 3) := by decide +kernel
theorem dX6_setTile_47 : decode cX6_setTile 47 = .ok (.iload_n 1, 1) := by decide +kernel
theorem dX6_setTile_48 : decode cX6_setTile 48 = .ok (.iload_n 2, 1) := by decide +kernel
theorem dX6_setTile_49 : decode cX6_setTile 49 = .ok (.iload_n 3, 1) := by decide +kernel
theorem dX6_setTile_50 : decode cX6_setTile 50 = .ok (.invokevirtual 85, 3) := by decide +kernel
theorem dX6_setTile_53 : decode cX6_setTile 53 = .ok (.aload_n 0, 1) := by decide +kernel
theorem dX6_setTile_54 : decode cX6_setTile 54 = .ok (.invokevirtual 89, 3) := by decide +kernel
theorem dX6_setTile_57 : decode cX6_setTile 57 = .ok (.iload 4, 2) := by decide +kernel
theorem dX6_setTile_59 : decode cX6_setTile 59 = .ok (.ireturn, 1) := by decide +kernel
set_option maxRecDepth 20000 in
theorem ggX6_tile_X6_requireTile : GoodIn wsX6_tile wsX6_requireTile := goodIn_ca (goodIn_r _ [6, 7, 8, 9, 10, 5, 11, 12, 13, 14] (by decide +kernel) (by decide +kernel)) (goodIn_sub (fun _ h => List.mem_cons_of_mem _ (List.mem_append_left _ (List.mem_append_right _ h))) (by decide +kernel))
set_option maxRecDepth 20000 in
theorem gX6_tile_X6_requireTile : GoodIn wsX6_tile (va_wsS RX6 59 yX6_requireTile wsX6_requireTile) := goodIn_app (goodIn_of _ (by decide +kernel)) ggX6_tile_X6_requireTile
set_option maxRecDepth 20000 in
theorem ggX6_tile_X4_kindAt : GoodIn wsX6_tile wsX4_kindAt := goodIn_ca (goodIn_r _ [19, 20, 37] (by decide +kernel) (by decide +kernel)) (goodIn_sub (fun _ h => List.mem_cons_of_mem _ (List.mem_append_right _ h)) (by decide +kernel))
set_option maxRecDepth 20000 in
theorem gX6_tile_X4_kindAt : GoodIn wsX6_tile (wsV RX6 75 RX4 yX4_kindAt wsX4_kindAt) := goodIn_app (goodIn_of _ (by decide +kernel)) ggX6_tile_X4_kindAt
theorem dX6_tile_0 : decode cX6_tile 0 = .ok (.iload_n 1, 1) := by decide +kernel
theorem dX6_tile_1 : decode cX6_tile 1 = .ok (.iload_n 2, 1) := by decide +kernel
theorem dX6_tile_2 : decode cX6_tile 2 = .ok (.invokestatic 59, 3) := by decide +kernel
theorem dX6_tile_5 : decode cX6_tile 5 = .ok (.aload_n 0, 1) := by decide +kernel
theorem dX6_tile_6 : decode cX6_tile 6 = .ok (.getfield 12, 3) := by decide +kernel
theorem dX6_tile_9 : decode cX6_tile 9 = .ok (.getfield 71, 3) := by decide +kernel
theorem dX6_tile_12 : decode cX6_tile 12 = .ok (.iload_n 1, 1) := by decide +kernel
theorem dX6_tile_13 : decode cX6_tile 13 = .ok (.iload_n 2, 1) := by decide +kernel
theorem dX6_tile_14 : decode cX6_tile 14 = .ok (.invokevirtual 75, 3) := by decide +kernel
theorem dX6_tile_17 : decode cX6_tile 17 = .ok (.ireturn, 1) := by decide +kernel
set_option maxRecDepth 20000 in
theorem ggX6_addBody_X6_isWithin : GoodIn wsX6_addBody wsX6_isWithin := goodIn_r _ [11] (by decide +kernel) (by decide +kernel)
set_option maxRecDepth 20000 in
theorem gX6_addBody_X6_isWithin : GoodIn wsX6_addBody (va_wsS RX6 63 yX6_isWithin wsX6_isWithin) := goodIn_app (goodIn_of _ (by decide +kernel)) ggX6_addBody_X6_isWithin
set_option maxRecDepth 20000 in
theorem ggX6_addBody_X6_require : GoodIn wsX6_addBody wsX6_require := goodIn_ca (goodIn_r _ [14, 15, 16] (by decide +kernel) (by decide +kernel)) (goodIn_sub (fun _ h => List.mem_cons_of_mem _ (List.mem_append_left _ (List.mem_append_right _ h))) (by decide +kernel))
set_option maxRecDepth 20000 in
theorem gX6_addBody_X6_require : GoodIn wsX6_addBody (va_wsS RX6 67 yX6_require wsX6_require) := goodIn_app (goodIn_of _ (by decide +kernel)) ggX6_addBody_X6_require
set_option maxRecDepth 20000 in
theorem ggX6_addBody_X0_begin : GoodIn wsX6_addBody wsX0_begin := goodIn_ca (goodIn_r _ [21, 22, 23, 24, 25, 26, 27, 28, 29, 30, 31, 32, 33, 34, 20, 35, 36, 37, 38, 39, 40, 41, 93, 94, 95, 96, 97, 98, 99, 100, 101, 102, 103, 104, 105, 106, 107, 108] (by decide +kernel) (by decide +kernel)) (goodIn_sub (fun _ h => List.mem_cons_of_mem _ (List.mem_append_right _ h)) (by decide +kernel))
set_option maxRecDepth 20000 in
theorem gX6_addBody_X0_begin : GoodIn wsX6_addBody (wsV RX6 106 RX0 yX0_begin wsX0_begin) := goodIn_app (goodIn_of _ (by decide +kernel)) ggX6_addBody_X0_begin
set_option maxRecDepth 20000 in
theorem ggX6_addBody_X4_block : GoodIn wsX6_addBody wsX4_block := goodIn_ca (goodIn_r _ [46, 47, 48, 49, 20, 50, 26, 51, 52, 53, 54, 27, 55, 56, 57, 58, 59, 60, 61, 45, 62, 63, 64, 10, 65, 66, 67, 68, 69, 70, 93, 94, 95, 96, 97, 98, 99, 100, 101, 102, 103, 104, 105, 106, 107, 108, 109] (by decide +kernel) (by decide +kernel)) (goodIn_sub (fun _ h => List.mem_cons_of_mem _ (List.mem_append_right _ h)) (by decide +kernel))
set_option maxRecDepth 20000 in
theorem gX6_addBody_X4_block : GoodIn wsX6_addBody (wsV RX6 112 RX4 yX4_block wsX4_block) := goodIn_app (goodIn_of _ (by decide +kernel)) ggX6_addBody_X4_block
set_option maxRecDepth 20000 in
theorem ggX6_addBody_X1_forget : GoodIn wsX6_addBody wsX1_forget := goodIn_r _ [75, 76, 110, 111, 112] (by decide +kernel) (by decide +kernel)
set_option maxRecDepth 20000 in
theorem gX6_addBody_X1_forget : GoodIn wsX6_addBody (wsV RX6 118 RX1 yX1_forget wsX1_forget) := goodIn_app (goodIn_of _ (by decide +kernel)) ggX6_addBody_X1_forget
theorem dX6_addBody_0 : decode cX6_addBody 0 = .ok (.iload_n 1, 1) := by decide +kernel
theorem dX6_addBody_1 : decode cX6_addBody 1 = .ok (.iconst 0, 1) := by decide +kernel
theorem dX6_addBody_2 : decode cX6_addBody 2 = .ok (.sipush 383, 3) := by decide +kernel
theorem dX6_addBody_5 : decode cX6_addBody 5 = .ok (.invokestatic 63, 3) := by decide +kernel
theorem dX6_addBody_8 : decode cX6_addBody 8 = .ok (.ifCond .eq 18, 3) := by decide +kernel
theorem dX6_addBody_11 : decode cX6_addBody 11 = .ok (.iload_n 2, 1) := by decide +kernel
theorem dX6_addBody_12 : decode cX6_addBody 12 = .ok (.iconst 0, 1) := by decide +kernel
theorem dX6_addBody_13 : decode cX6_addBody 13 = .ok (.sipush 223, 3) := by decide +kernel
theorem dX6_addBody_16 : decode cX6_addBody 16 = .ok (.invokestatic 63, 3) := by decide +kernel
theorem dX6_addBody_19 : decode cX6_addBody 19 = .ok (.ifCond .eq 7, 3) := by decide +kernel
theorem dX6_addBody_22 : decode cX6_addBody 22 = .ok (.iconst 1, 1) := by decide +kernel
theorem dX6_addBody_23 : decode cX6_addBody 23 = .ok (.goto 4, 3) := by decide +kernel
theorem dX6_addBody_26 : decode cX6_addBody 26 = .ok (.iconst 0, 1) := by decide +kernel
theorem dX6_addBody_27 : decode cX6_addBody 27 = .ok (.invokestatic 67, 3) := by decide +kernel
theorem dX6_addBody_30 : decode cX6_addBody 30 = .ok (.iload_n 3, 1) := by decide +kernel
theorem dX6_addBody_31 : decode cX6_addBody 31 = .ok (.iconst 4, 1) := by decide +kernel
theorem dX6_addBody_32 : decode cX6_addBody 32 = .ok (.bipush 16, 2) := by decide +kernel
theorem dX6_addBody_34 : decode cX6_addBody 34 = .ok (.invokestatic 63, 3) := by decide +kernel
theorem dX6_addBody_37 : decode cX6_addBody 37 = .ok (.ifCond .eq 18, 3) := by decide +kernel
theorem dX6_addBody_40 : decode cX6_addBody 40 = .ok (.iload 4, 2) := by decide +kernel
theorem dX6_addBody_42 : decode cX6_addBody 42 = .ok (.iconst 4, 1) := by decide +kernel
theorem dX6_addBody_43 : decode cX6_addBody 43 = .ok (.bipush 28, 2) := by decide +kernel
theorem dX6_addBody_45 : decode cX6_addBody 45 = .ok (.invokestatic 63, 3) := by decide +kernel
theorem dX6_addBody_48 : decode cX6_addBody 48 = .ok (.ifCond .eq 7, 3) := by decide +kernel
theorem dX6_addBody_51 : decode cX6_addBody 51 = .ok (.iconst 1, 1) := by decide +kernel
theorem dX6_addBody_52 : decode cX6_addBody 52 = .ok (.goto 4, 3) := by decide +kernel
theorem dX6_addBody_55 : decode cX6_addBody 55 = .ok (.iconst 0, 1) := by decide +kernel
theorem dX6_addBody_56 : decode cX6_addBody 56 = .ok (.invokestatic 67, 3) := by decide +kernel
theorem dX6_addBody_59 : decode cX6_addBody 59 = .ok (.aload_n 0, 1) := by decide +kernel
theorem dX6_addBody_60 : decode cX6_addBody 60 = .ok (.getfield 12, 3) := by decide +kernel
theorem dX6_addBody_63 : decode cX6_addBody 63 = .ok (.getfield 92, 3) := by decide +kernel
theorem dX6_addBody_66 : decode cX6_addBody 66 = .ok (.iconst 4, 1) := by decide +kernel
theorem dX6_addBody_67 : decode cX6_addBody 67 = .ok (.if_icmp .lt 13, 3) := by decide +kernel
theorem dX6_addBody_70 : decode cX6_addBody 70 = .ok (.new 95, 3) := by decide +kernel
theorem dX6_addBody_73 : decode cX6_addBody 73 = .ok (.dup, 1) := by decide +kernel
theorem dX6_addBody_74 : decode cX6_addBody 74 = .ok (.ldc 97, 2) := by decide +kernel
theorem dX6_addBody_76 : decode cX6_addBody 76 = .ok (.invokespecial 99, 3) := by decide +kernel
theorem dX6_addBody_79 : decode cX6_addBody 79 = .ok (.athrow, 1) := by decide +kernel
theorem dX6_addBody_80 : decode cX6_addBody 80 = .ok (.aload_n 0, 1) := by decide +kernel
theorem dX6_addBody_81 : decode cX6_addBody 81 = .ok (.getfield 12, 3) := by decide +kernel
theorem dX6_addBody_84 : decode cX6_addBody 84 = .ok (.getfield 92, 3) := by decide +kernel
theorem dX6_addBody_87 : decode cX6_addBody 87 = .ok (.istore 5, 2) := by decide +kernel
theorem dX6_addBody_89 : decode cX6_addBody 89 = .ok (.aload_n 0, 1) := by decide +kernel
theorem dX6_addBody_90 : decode cX6_addBody 90 = .ok (.getfield 12, 3) := by decide +kernel
theorem dX6_addBody_93 : decode cX6_addBody 93 = .ok (.getfield 102, 3) := by decide +kernel
theorem dX6_addBody_96 : decode cX6_addBody 96 = .ok (.iload 5, 2) := by decide +kernel
theorem dX6_addBody_98 : decode cX6_addBody 98 = .ok (.aaload, 1) := by decide +kernel
theorem dX6_addBody_99 : decode cX6_addBody 99 = .ok (.astore 6, 2) := by decide +kernel
theorem dX6_addBody_101 : decode cX6_addBody 101 = .ok (.aload 6, 2) := by decide +kernel
theorem dX6_addBody_103 : decode cX6_addBody 103 = .ok (.iload_n 1, 1) := by decide +kernel
theorem dX6_addBody_104 : decode cX6_addBody 104 = .ok (.iload_n 2, 1) := by decide +kernel
theorem dX6_addBody_105 : decode cX6_addBody 105 = .ok (.iload_n 3, 1) := by decide +kernel
theorem dX6_addBody_106 : decode cX6_addBody 106 = .ok (.iload 4, 2) := by decide +kernel
theorem dX6_addBody_108 : decode cX6_addBody 108 = .ok (.invokevirtual 106, 3) := by decide +kernel
theorem dX6_addBody_111 : decode cX6_addBody 111 = .ok (.aload_n 0, 1) := by decide +kernel
theorem dX6_addBody_112 : decode cX6_addBody 112 = .ok (.getfield 12, 3) := by decide +kernel
theorem dX6_addBody_115 : decode cX6_addBody 115 = .ok (.getfield 71, 3) := by decide +kernel
theorem dX6_addBody_118 : decode cX6_addBody 118 = .ok (.aload 6, 2) := by decide +kernel
theorem dX6_addBody_120 : decode cX6_addBody 120 = .ok (.iload_n 1, 1) := by decide +kernel
theorem dX6_addBody_121 : decode cX6_addBody 121 = .ok (.iload_n 2, 1) := by decide +kernel
theorem dX6_addBody_122 : decode cX6_addBody 122 = .ok (.invokevirtual 112, 3) := by decide +kernel
theorem dX6_addBody_125 : decode cX6_addBody 125 = .ok (.ifCond .eq 13, 3) := by decide +kernel
theorem dX6_addBody_128 : decode cX6_addBody 128 = .ok (.new 95, 3) := by decide +kernel
theorem dX6_addBody_131 : decode cX6_addBody 131 = .ok (.dup, 1) := by decide +kernel
theorem dX6_addBody_132 : decode cX6_addBody 132 = .ok (.ldc 116, 2) := by decide +kernel
theorem dX6_addBody_134 : decode cX6_addBody 134 = .ok (.invokespecial 99, 3) := by decide +kernel
theorem dX6_addBody_137 : decode cX6_addBody 137 = .ok (.athrow, 1) := by decide +kernel
theorem dX6_addBody_138 : decode cX6_addBody 138 = .ok (.aload_n 0, 1) := by decide +kernel
theorem dX6_addBody_139 : decode cX6_addBody 139 = .ok (.getfield 12, 3) := by decide +kernel
theorem dX6_addBody_142 : decode cX6_addBody 142 = .ok (.iload 5, 2) := by decide +kernel
theorem dX6_addBody_144 : decode cX6_addBody 144 = .ok (.iconst 1, 1) := by decide +kernel
theorem dX6_addBody_145 : decode cX6_addBody 145 = .ok (.iadd, 1) := by decide +kernel
theorem dX6_addBody_146 : decode cX6_addBody 146 = .ok (.putfield 92, 3) := by decide +kernel
theorem dX6_addBody_149 : decode cX6_addBody 149 = .ok (.aload_n 0, 1) := by decide +kernel
theorem dX6_addBody_150 : decode cX6_addBody 150 = .ok (.getfield 40, 3) := by decide +kernel
theorem dX6_addBody_153 : decode cX6_addBody 153 = .ok (.invokevirtual 118, 3) := by decide +kernel
theorem dX6_addBody_156 : decode cX6_addBody 156 = .ok (.iload 5, 2) := by decide +kernel
theorem dX6_addBody_158 : decode cX6_addBody 158 = .ok (.ireturn, 1) := by decide +kernel
set_option maxRecDepth 20000 in
theorem ggX6_removeBody_X6_requireBody : GoodIn wsX6_removeBody wsX6_requireBody := goodIn_ca (goodIn_r _ [8, 9, 10, 1, 3, 11, 12, 7, 13, 52, 53, 54, 55, 56, 57, 58, 59, 60, 61, 62, 63, 64, 65, 66, 67] (by decide +kernel) (by decide +kernel)) (goodIn_sub (fun _ h => List.mem_cons_of_mem _ (List.mem_append_right _ h)) (by decide +kernel))
set_option maxRecDepth 20000 in
theorem gX6_removeBody_X6_requireBody : GoodIn wsX6_removeBody (wsV RX6 121 RX6 yX6_requireBody wsX6_requireBody) := goodIn_app (goodIn_of _ (by decide +kernel)) ggX6_removeBody_X6_requireBody
set_option maxRecDepth 20000 in
theorem ggX6_removeBody_X5_dropOutBody : GoodIn wsX6_removeBody wsX5_dropOutBody := goodIn_r _ [18, 19, 20, 21, 22, 23, 24, 25, 26, 27, 28, 29, 30, 31, 32, 33, 34, 35, 36, 37, 38, 39, 40, 41, 42, 43, 44, 45, 61, 62, 63, 64, 65, 66, 67, 68, 69, 70, 71, 72, 73, 74, 75, 76, 77, 78, 79, 80, 81, 82, 83] (by decide +kernel) (by decide +kernel)
set_option maxRecDepth 20000 in
theorem gX6_removeBody_X5_dropOutBody : GoodIn wsX6_removeBody (wsV RX6 125 RX5 yX5_dropOutBody wsX5_dropOutBody) := goodIn_app (goodIn_of _ (by decide +kernel)) ggX6_removeBody_X5_dropOutBody
set_option maxRecDepth 20000 in
theorem ggX6_removeBody_X1_forget : GoodIn wsX6_removeBody wsX1_forget := goodIn_r _ [50, 51, 84, 85, 86] (by decide +kernel) (by decide +kernel)
set_option maxRecDepth 20000 in
theorem gX6_removeBody_X1_forget : GoodIn wsX6_removeBody (wsV RX6 118 RX1 yX1_forget wsX1_forget) := goodIn_app (goodIn_of _ (by decide +kernel)) ggX6_removeBody_X1_forget
theorem dX6_removeBody_0 : decode cX6_removeBody 0 = .ok (.aload_n 0, 1) := by decide +kernel
theorem dX6_removeBody_1 : decode cX6_removeBody 1 = .ok (.iload_n 1, 1) := by decide +kernel
theorem dX6_removeBody_2 : decode cX6_removeBody 2 = .ok (.invokevirtual 121, 3) := by decide +kernel
theorem dX6_removeBody_5 : decode cX6_removeBody 5 = .ok (.aload_n 0, 1) := by decide +kernel
theorem dX6_removeBody_6 : decode cX6_removeBody 6 = .ok (.getfield 12, 3) := by decide +kernel
theorem dX6_removeBody_9 : decode cX6_removeBody 9 = .ok (.iload_n 1, 1) := by decide +kernel
theorem dX6_removeBody_10 : decode cX6_removeBody 10 = .ok (.invokevirtual 125, 3) := by decide +kernel
theorem dX6_removeBody_13 : decode cX6_removeBody 13 = .ok (.aload_n 0, 1) := by decide +kernel
theorem dX6_removeBody_14 : decode cX6_removeBody 14 = .ok (.getfield 40, 3) := by decide +kernel
theorem dX6_removeBody_17 : decode cX6_removeBody 17 = .ok (.invokevirtual 118, 3) := by decide +kernel
theorem dX6_removeBody_20 : decode cX6_removeBody 20 = .ok (.aload_n 0, 1) := by decide +kernel
theorem dX6_removeBody_21 : decode cX6_removeBody 21 = .ok (.getfield 12, 3) := by decide +kernel
theorem dX6_removeBody_24 : decode cX6_removeBody 24 = .ok (.getfield 92, 3) := by decide +kernel
theorem dX6_removeBody_27 : decode cX6_removeBody 27 = .ok (.ireturn, 1) := by decide +kernel
set_option maxRecDepth 20000 in
theorem ggX6_body_X6_requireBody : GoodIn wsX6_body wsX6_requireBody := goodIn_ca (goodIn_r _ [7, 8, 9, 1, 10, 11, 12, 6, 13, 34, 35, 36, 37, 38, 39, 40, 41, 42, 43, 44, 45, 46, 47, 48, 49] (by decide +kernel) (by decide +kernel)) (goodIn_sub (fun _ h => List.mem_cons_of_mem _ (List.mem_append_left _ (List.mem_append_right _ h))) (by decide +kernel))
set_option maxRecDepth 20000 in
theorem gX6_body_X6_requireBody : GoodIn wsX6_body (wsV RX6 121 RX6 yX6_requireBody wsX6_requireBody) := goodIn_app (goodIn_of _ (by decide +kernel)) ggX6_body_X6_requireBody
set_option maxRecDepth 20000 in
theorem ggX6_body_X6_isWithin : GoodIn wsX6_body wsX6_isWithin := goodIn_r _ [13] (by decide +kernel) (by decide +kernel)
set_option maxRecDepth 20000 in
theorem gX6_body_X6_isWithin : GoodIn wsX6_body (va_wsS RX6 63 yX6_isWithin wsX6_isWithin) := goodIn_app (goodIn_of _ (by decide +kernel)) ggX6_body_X6_isWithin
set_option maxRecDepth 20000 in
theorem ggX6_body_X6_require : GoodIn wsX6_body wsX6_require := goodIn_ca (goodIn_r _ [16, 17, 18] (by decide +kernel) (by decide +kernel)) (goodIn_sub (fun _ h => List.mem_cons_of_mem _ (List.mem_append_right _ h)) (by decide +kernel))
set_option maxRecDepth 20000 in
theorem gX6_body_X6_require : GoodIn wsX6_body (va_wsS RX6 67 yX6_require wsX6_require) := goodIn_app (goodIn_of _ (by decide +kernel)) ggX6_body_X6_require
set_option maxRecDepth 20000 in
theorem ggX6_body_X0_number : GoodIn wsX6_body wsX0_number := goodIn_r _ [23, 24, 25, 26, 27, 28, 29, 30, 31, 32, 33, 50, 51, 52, 53, 54, 55, 56, 57, 58, 59, 60, 61, 62, 63, 64, 65] (by decide +kernel) (by decide +kernel)
set_option maxRecDepth 20000 in
theorem gX6_body_X0_number : GoodIn wsX6_body (wsV RX6 128 RX0 yX0_number wsX0_number) := goodIn_app (goodIn_of _ (by decide +kernel)) ggX6_body_X0_number
theorem dX6_body_0 : decode cX6_body 0 = .ok (.aload_n 0, 1) := by decide +kernel
theorem dX6_body_1 : decode cX6_body 1 = .ok (.iload_n 1, 1) := by decide +kernel
theorem dX6_body_2 : decode cX6_body 2 = .ok (.invokevirtual 121, 3) := by decide +kernel
theorem dX6_body_5 : decode cX6_body 5 = .ok (.iload_n 2, 1) := by decide +kernel
theorem dX6_body_6 : decode cX6_body 6 = .ok (.iconst 0, 1) := by decide +kernel
theorem dX6_body_7 : decode cX6_body 7 = .ok (.bipush 9, 2) := by decide +kernel
theorem dX6_body_9 : decode cX6_body 9 = .ok (.invokestatic 63, 3) := by decide +kernel
theorem dX6_body_12 : decode cX6_body 12 = .ok (.invokestatic 67, 3) := by decide +kernel
theorem dX6_body_15 : decode cX6_body 15 = .ok (.aload_n 0, 1) := by decide +kernel
theorem dX6_body_16 : decode cX6_body 16 = .ok (.getfield 12, 3) := by decide +kernel
theorem dX6_body_19 : decode cX6_body 19 = .ok (.getfield 102, 3) := by decide +kernel
theorem dX6_body_22 : decode cX6_body 22 = .ok (.iload_n 1, 1) := by decide +kernel
theorem dX6_body_23 : decode cX6_body 23 = .ok (.aaload, 1) := by decide +kernel
theorem dX6_body_24 : decode cX6_body 24 = .ok (.iload_n 2, 1) := by decide +kernel
theorem dX6_body_25 : decode cX6_body 25 = .ok (.invokevirtual 128, 3) := by decide +kernel
theorem dX6_body_28 : decode cX6_body 28 = .ok (.ireturn, 1) := by decide +kernel
set_option maxRecDepth 20000 in
theorem ggX6_press_X6_requireBody : GoodIn wsX6_press wsX6_requireBody := goodIn_ca (goodIn_r _ [8, 9, 10, 1, 11, 12, 13, 7, 14, 20, 21, 22, 23, 24, 25, 26, 27, 28, 29, 30, 31, 32, 33, 34, 35] (by decide +kernel) (by decide +kernel)) (goodIn_sub (fun _ h => List.mem_cons_of_mem _ (List.mem_append_left _ (List.mem_append_right _ h))) (by decide +kernel))
set_option maxRecDepth 20000 in
theorem gX6_press_X6_requireBody : GoodIn wsX6_press (wsV RX6 121 RX6 yX6_requireBody wsX6_requireBody) := goodIn_app (goodIn_of _ (by decide +kernel)) ggX6_press_X6_requireBody
set_option maxRecDepth 20000 in
theorem ggX6_press_X6_isWithin : GoodIn wsX6_press wsX6_isWithin := goodIn_r _ [14] (by decide +kernel) (by decide +kernel)
set_option maxRecDepth 20000 in
theorem gX6_press_X6_isWithin : GoodIn wsX6_press (va_wsS RX6 63 yX6_isWithin wsX6_isWithin) := goodIn_app (goodIn_of _ (by decide +kernel)) ggX6_press_X6_isWithin
set_option maxRecDepth 20000 in
theorem ggX6_press_X6_require : GoodIn wsX6_press wsX6_require := goodIn_ca (goodIn_r _ [17, 18, 19] (by decide +kernel) (by decide +kernel)) (goodIn_sub (fun _ h => List.mem_cons_of_mem _ (List.mem_append_right _ h)) (by decide +kernel))
set_option maxRecDepth 20000 in
theorem gX6_press_X6_require : GoodIn wsX6_press (va_wsS RX6 67 yX6_require wsX6_require) := goodIn_app (goodIn_of _ (by decide +kernel)) ggX6_press_X6_require
theorem dX6_press_0 : decode cX6_press 0 = .ok (.aload_n 0, 1) := by decide +kernel
theorem dX6_press_1 : decode cX6_press 1 = .ok (.iload_n 1, 1) := by decide +kernel
theorem dX6_press_2 : decode cX6_press 2 = .ok (.invokevirtual 121, 3) := by decide +kernel
theorem dX6_press_5 : decode cX6_press 5 = .ok (.iload_n 2, 1) := by decide +kernel
theorem dX6_press_6 : decode cX6_press 6 = .ok (.iconst 0, 1) := by decide +kernel
theorem dX6_press_7 : decode cX6_press 7 = .ok (.bipush 15, 2) := by decide +kernel
theorem dX6_press_9 : decode cX6_press 9 = .ok (.invokestatic 63, 3) := by decide +kernel
theorem dX6_press_12 : decode cX6_press 12 = .ok (.invokestatic 67, 3) := by decide +kernel
theorem dX6_press_15 : decode cX6_press 15 = .ok (.aload_n 0, 1) := by decide +kernel
theorem dX6_press_16 : decode cX6_press 16 = .ok (.getfield 12, 3) := by decide +kernel
theorem dX6_press_19 : decode cX6_press 19 = .ok (.getfield 102, 3) := by decide +kernel
theorem dX6_press_22 : decode cX6_press 22 = .ok (.iload_n 1, 1) := by decide +kernel
theorem dX6_press_23 : decode cX6_press 23 = .ok (.aaload, 1) := by decide +kernel
theorem dX6_press_24 : decode cX6_press 24 = .ok (.getfield 132, 3) := by decide +kernel
theorem dX6_press_27 : decode cX6_press 27 = .ok (.istore_n 3, 1) := by decide +kernel
theorem dX6_press_28 : decode cX6_press 28 = .ok (.aload_n 0, 1) := by decide +kernel
theorem dX6_press_29 : decode cX6_press 29 = .ok (.getfield 12, 3) := by decide +kernel
theorem dX6_press_32 : decode cX6_press 32 = .ok (.getfield 102, 3) := by decide +kernel
theorem dX6_press_35 : decode cX6_press 35 = .ok (.iload_n 1, 1) := by decide +kernel
theorem dX6_press_36 : decode cX6_press 36 = .ok (.aaload, 1) := by decide +kernel
theorem dX6_press_37 : decode cX6_press 37 = .ok (.iload_n 2, 1) := by decide +kernel
theorem dX6_press_38 : decode cX6_press 38 = .ok (.putfield 132, 3) := by decide +kernel
theorem dX6_press_41 : decode cX6_press 41 = .ok (.iload_n 3, 1) := by decide +kernel
theorem dX6_press_42 : decode cX6_press 42 = .ok (.ireturn, 1) := by decide +kernel
set_option maxRecDepth 20000 in
theorem ggX6_push_X6_requireBody : GoodIn wsX6_push wsX6_requireBody := goodIn_ca (goodIn_r _ [10, 11, 12, 1, 13, 14, 15, 9, 16, 22, 23, 24, 25, 26, 27, 28, 29, 30, 31, 32, 33, 34, 35, 36, 37] (by decide +kernel) (by decide +kernel)) (goodIn_sub (fun _ h => List.mem_cons_of_mem _ (List.mem_append_left _ (List.mem_append_right _ h))) (by decide +kernel))
set_option maxRecDepth 20000 in
theorem gX6_push_X6_requireBody : GoodIn wsX6_push (wsV RX6 121 RX6 yX6_requireBody wsX6_requireBody) := goodIn_app (goodIn_of _ (by decide +kernel)) ggX6_push_X6_requireBody
set_option maxRecDepth 20000 in
theorem ggX6_push_X6_isWithin : GoodIn wsX6_push wsX6_isWithin := goodIn_r _ [16] (by decide +kernel) (by decide +kernel)
set_option maxRecDepth 20000 in
theorem gX6_push_X6_isWithin : GoodIn wsX6_push (va_wsS RX6 63 yX6_isWithin wsX6_isWithin) := goodIn_app (goodIn_of _ (by decide +kernel)) ggX6_push_X6_isWithin
set_option maxRecDepth 20000 in
theorem ggX6_push_X6_require : GoodIn wsX6_push wsX6_require := goodIn_ca (goodIn_r _ [19, 20, 21] (by decide +kernel) (by decide +kernel)) (goodIn_sub (fun _ h => List.mem_cons_of_mem _ (List.mem_append_right _ h)) (by decide +kernel))
set_option maxRecDepth 20000 in
theorem gX6_push_X6_require : GoodIn wsX6_push (va_wsS RX6 67 yX6_require wsX6_require) := goodIn_app (goodIn_of _ (by decide +kernel)) ggX6_push_X6_require
theorem dX6_push_0 : decode cX6_push 0 = .ok (.aload_n 0, 1) := by decide +kernel
theorem dX6_push_1 : decode cX6_push 1 = .ok (.iload_n 1, 1) := by decide +kernel
theorem dX6_push_2 : decode cX6_push 2 = .ok (.invokevirtual 121, 3) := by decide +kernel
theorem dX6_push_5 : decode cX6_push 5 = .ok (.iload_n 2, 1) := by decide +kernel
theorem dX6_push_6 : decode cX6_push 6 = .ok (.bipush (-16), 2) := by decide +kernel
theorem dX6_push_8 : decode cX6_push 8 = .ok (.bipush 16, 2) := by decide +kernel
theorem dX6_push_10 : decode cX6_push 10 = .ok (.invokestatic 63, 3) := by decide +kernel
theorem dX6_push_13 : decode cX6_push 13 = .ok (.ifCond .eq 18, 3) := by decide +kernel
theorem dX6_push_16 : decode cX6_push 16 = .ok (.iload_n 3, 1) := by decide +kernel
theorem dX6_push_17 : decode cX6_push 17 = .ok (.bipush (-12), 2) := by decide +kernel
theorem dX6_push_19 : decode cX6_push 19 = .ok (.bipush 16, 2) := by decide +kernel
theorem dX6_push_21 : decode cX6_push 21 = .ok (.invokestatic 63, 3) := by decide +kernel
theorem dX6_push_24 : decode cX6_push 24 = .ok (.ifCond .eq 7, 3) := by decide +kernel
theorem dX6_push_27 : decode cX6_push 27 = .ok (.iconst 1, 1) := by decide +kernel
theorem dX6_push_28 : decode cX6_push 28 = .ok (.goto 4, 3) := by decide +kernel
theorem dX6_push_31 : decode cX6_push 31 = .ok (.iconst 0, 1) := by decide +kernel
theorem dX6_push_32 : decode cX6_push 32 = .ok (.invokestatic 67, 3) := by decide +kernel
theorem dX6_push_35 : decode cX6_push 35 = .ok (.aload_n 0, 1) := by decide +kernel
theorem dX6_push_36 : decode cX6_push 36 = .ok (.getfield 12, 3) := by decide +kernel
theorem dX6_push_39 : decode cX6_push 39 = .ok (.getfield 102, 3) := by decide +kernel
theorem dX6_push_42 : decode cX6_push 42 = .ok (.iload_n 1, 1) := by decide +kernel
theorem dX6_push_43 : decode cX6_push 43 = .ok (.aaload, 1) := by decide +kernel
theorem dX6_push_44 : decode cX6_push 44 = .ok (.astore 4, 2) := by decide +kernel
theorem dX6_push_46 : decode cX6_push 46 = .ok (.aload 4, 2) := by decide +kernel
theorem dX6_push_48 : decode cX6_push 48 = .ok (.getfield 135, 3) := by decide +kernel
theorem dX6_push_51 : decode cX6_push 51 = .ok (.aload 4, 2) := by decide +kernel
theorem dX6_push_53 : decode cX6_push 53 = .ok (.getfield 135, 3) := by decide +kernel
theorem dX6_push_56 : decode cX6_push 56 = .ok (.imul, 1) := by decide +kernel
theorem dX6_push_57 : decode cX6_push 57 = .ok (.aload 4, 2) := by decide +kernel
theorem dX6_push_59 : decode cX6_push 59 = .ok (.getfield 138, 3) := by decide +kernel
theorem dX6_push_62 : decode cX6_push 62 = .ok (.aload 4, 2) := by decide +kernel
theorem dX6_push_64 : decode cX6_push 64 = .ok (.getfield 138, 3) := by decide +kernel
theorem dX6_push_67 : decode cX6_push 67 = .ok (.imul, 1) := by decide +kernel
theorem dX6_push_68 : decode cX6_push 68 = .ok (.iadd, 1) := by decide +kernel
theorem dX6_push_69 : decode cX6_push 69 = .ok (.istore 5, 2) := by decide +kernel
theorem dX6_push_71 : decode cX6_push 71 = .ok (.aload 4, 2) := by decide +kernel
theorem dX6_push_73 : decode cX6_push 73 = .ok (.iload_n 2, 1) := by decide +kernel
theorem dX6_push_74 : decode cX6_push 74 = .ok (.putfield 135, 3) := by decide +kernel
theorem dX6_push_77 : decode cX6_push 77 = .ok (.aload 4, 2) := by decide +kernel
theorem dX6_push_79 : decode cX6_push 79 = .ok (.iload_n 3, 1) := by decide +kernel
theorem dX6_push_80 : decode cX6_push 80 = .ok (.putfield 138, 3) := by decide +kernel
theorem dX6_push_83 : decode cX6_push 83 = .ok (.aload 4, 2) := by decide +kernel
theorem dX6_push_85 : decode cX6_push 85 = .ok (.iconst 0, 1) := by decide +kernel
theorem dX6_push_86 : decode cX6_push 86 = .ok (.putfield 141, 3) := by decide +kernel
theorem dX6_push_89 : decode cX6_push 89 = .ok (.iload 5, 2) := by decide +kernel
theorem dX6_push_91 : decode cX6_push 91 = .ok (.ireturn, 1) := by decide +kernel
set_option maxRecDepth 20000 in
theorem ggX6_addPlatform_X6_isWithin : GoodIn wsX6_addPlatform wsX6_isWithin := goodIn_r _ [10] (by decide +kernel) (by decide +kernel)
set_option maxRecDepth 20000 in
theorem gX6_addPlatform_X6_isWithin : GoodIn wsX6_addPlatform (va_wsS RX6 63 yX6_isWithin wsX6_isWithin) := goodIn_app (goodIn_of _ (by decide +kernel)) ggX6_addPlatform_X6_isWithin
set_option maxRecDepth 20000 in
theorem ggX6_addPlatform_X6_require : GoodIn wsX6_addPlatform wsX6_require := goodIn_ca (goodIn_r _ [13, 14, 15] (by decide +kernel) (by decide +kernel)) (goodIn_sub (fun _ h => List.mem_cons_of_mem _ (List.mem_append_right _ h)) (by decide +kernel))
set_option maxRecDepth 20000 in
theorem gX6_addPlatform_X6_require : GoodIn wsX6_addPlatform (va_wsS RX6 67 yX6_require wsX6_require) := goodIn_app (goodIn_of _ (by decide +kernel)) ggX6_addPlatform_X6_require
set_option maxRecDepth 20000 in
theorem ggX6_addPlatform_X2_begin : GoodIn wsX6_addPlatform wsX2_begin := goodIn_r _ [20, 21, 22, 23, 24, 25, 26, 27, 50, 51, 52, 53, 54, 55, 56] (by decide +kernel) (by decide +kernel)
set_option maxRecDepth 20000 in
theorem gX6_addPlatform_X2_begin : GoodIn wsX6_addPlatform (wsV RX6 153 RX2 yX2_begin wsX2_begin) := goodIn_app (goodIn_of _ (by decide +kernel)) ggX6_addPlatform_X2_begin
set_option maxRecDepth 20000 in
theorem ggX6_addPlatform_X1_forget : GoodIn wsX6_addPlatform wsX1_forget := goodIn_r _ [32, 33, 57, 58, 59] (by decide +kernel) (by decide +kernel)
set_option maxRecDepth 20000 in
theorem gX6_addPlatform_X1_forget : GoodIn wsX6_addPlatform (wsV RX6 118 RX1 yX1_forget wsX1_forget) := goodIn_app (goodIn_of _ (by decide +kernel)) ggX6_addPlatform_X1_forget
theorem dX6_addPlatform_0 : decode cX6_addPlatform 0 = .ok (.iload_n 1, 1) := by decide +kernel
theorem dX6_addPlatform_1 : decode cX6_addPlatform 1 = .ok (.iconst 0, 1) := by decide +kernel
theorem dX6_addPlatform_2 : decode cX6_addPlatform 2 = .ok (.sipush 383, 3) := by decide +kernel
theorem dX6_addPlatform_5 : decode cX6_addPlatform 5 = .ok (.invokestatic 63, 3) := by decide +kernel
theorem dX6_addPlatform_8 : decode cX6_addPlatform 8 = .ok (.ifCond .eq 18, 3) := by decide +kernel
theorem dX6_addPlatform_11 : decode cX6_addPlatform 11 = .ok (.iload_n 2, 1) := by decide +kernel
theorem dX6_addPlatform_12 : decode cX6_addPlatform 12 = .ok (.iconst 0, 1) := by decide +kernel
theorem dX6_addPlatform_13 : decode cX6_addPlatform 13 = .ok (.sipush 223, 3) := by decide +kernel
theorem dX6_addPlatform_16 : decode cX6_addPlatform 16 = .ok (.invokestatic 63, 3) := by decide +kernel
theorem dX6_addPlatform_19 : decode cX6_addPlatform 19 = .ok (.ifCond .eq 7, 3) := by decide +kernel
theorem dX6_addPlatform_22 : decode cX6_addPlatform 22 = .ok (.iconst 1, 1) := by decide +kernel
theorem dX6_addPlatform_23 : decode cX6_addPlatform 23 = .ok (.goto 4, 3) := by decide +kernel
theorem dX6_addPlatform_26 : decode cX6_addPlatform 26 = .ok (.iconst 0, 1) := by decide +kernel
theorem dX6_addPlatform_27 : decode cX6_addPlatform 27 = .ok (.invokestatic 67, 3) := by decide +kernel
theorem dX6_addPlatform_30 : decode cX6_addPlatform 30 = .ok (.iload_n 3, 1) := by decide +kernel
theorem dX6_addPlatform_31 : decode cX6_addPlatform 31 = .ok (.bipush 16, 2) := by decide +kernel
theorem dX6_addPlatform_33 : decode cX6_addPlatform 33 = .ok (.bipush 64, 2) := by decide +kernel
theorem dX6_addPlatform_35 : decode cX6_addPlatform 35 = .ok (.invokestatic 63, 3) := by decide +kernel
theorem dX6_addPlatform_38 : decode cX6_addPlatform 38 = .ok (.ifCond .eq 18, 3) := by decide +kernel
theorem dX6_addPlatform_41 : decode cX6_addPlatform 41 = .ok (.iload 6, 2) := by decide +kernel
theorem dX6_addPlatform_43 : decode cX6_addPlatform 43 = .ok (.iconst 1, 1) := by decide +kernel
theorem dX6_addPlatform_44 : decode cX6_addPlatform 44 = .ok (.bipush 60, 2) := by decide +kernel
theorem dX6_addPlatform_46 : decode cX6_addPlatform 46 = .ok (.invokestatic 63, 3) := by decide +kernel
theorem dX6_addPlatform_49 : decode cX6_addPlatform 49 = .ok (.ifCond .eq 7, 3) := by decide +kernel
theorem dX6_addPlatform_52 : decode cX6_addPlatform 52 = .ok (.iconst 1, 1) := by decide +kernel
theorem dX6_addPlatform_53 : decode cX6_addPlatform 53 = .ok (.goto 4, 3) := by decide +kernel
theorem dX6_addPlatform_56 : decode cX6_addPlatform 56 = .ok (.iconst 0, 1) := by decide +kernel
theorem dX6_addPlatform_57 : decode cX6_addPlatform 57 = .ok (.invokestatic 67, 3) := by decide +kernel
theorem dX6_addPlatform_60 : decode cX6_addPlatform 60 = .ok (.iload 4, 2) := by decide +kernel
theorem dX6_addPlatform_62 : decode cX6_addPlatform 62 = .ok (.bipush (-2), 2) := by decide +kernel
theorem dX6_addPlatform_64 : decode cX6_addPlatform 64 = .ok (.iconst 2, 1) := by decide +kernel
theorem dX6_addPlatform_65 : decode cX6_addPlatform 65 = .ok (.invokestatic 63, 3) := by decide +kernel
theorem dX6_addPlatform_68 : decode cX6_addPlatform 68 = .ok (.ifCond .eq 18, 3) := by decide +kernel
theorem dX6_addPlatform_71 : decode cX6_addPlatform 71 = .ok (.iload 5, 2) := by decide +kernel
theorem dX6_addPlatform_73 : decode cX6_addPlatform 73 = .ok (.bipush (-2), 2) := by decide +kernel
theorem dX6_addPlatform_75 : decode cX6_addPlatform 75 = .ok (.iconst 2, 1) := by decide +kernel
theorem dX6_addPlatform_76 : decode cX6_addPlatform 76 = .ok (.invokestatic 63, 3) := by decide +kernel
theorem dX6_addPlatform_79 : decode cX6_addPlatform 79 = .ok (.ifCond .eq 7, 3) := by decide +kernel
theorem dX6_addPlatform_82 : decode cX6_addPlatform 82 = .ok (.iconst 1, 1) := by decide +kernel
theorem dX6_addPlatform_83 : decode cX6_addPlatform 83 = .ok (.goto 4, 3) := by decide +kernel
theorem dX6_addPlatform_86 : decode cX6_addPlatform 86 = .ok (.iconst 0, 1) := by decide +kernel
theorem dX6_addPlatform_87 : decode cX6_addPlatform 87 = .ok (.invokestatic 67, 3) := by decide +kernel
theorem dX6_addPlatform_90 : decode cX6_addPlatform 90 = .ok (.aload_n 0, 1) := by decide +kernel
theorem dX6_addPlatform_91 : decode cX6_addPlatform 91 = .ok (.getfield 12, 3) := by decide +kernel
theorem dX6_addPlatform_94 : decode cX6_addPlatform 94 = .ok (.getfield 144, 3) := by decide +kernel
theorem dX6_addPlatform_97 : decode cX6_addPlatform 97 = .ok (.iconst 4, 1) := by decide +kernel
theorem dX6_addPlatform_98 : decode cX6_addPlatform 98 = .ok (.if_icmp .lt 13, 3) := by decide +kernel
theorem dX6_addPlatform_101 : decode cX6_addPlatform 101 = .ok (.new 95, 3) := by decide +kernel
theorem dX6_addPlatform_104 : decode cX6_addPlatform 104 = .ok (.dup, 1) := by decide +kernel
theorem dX6_addPlatform_105 : decode cX6_addPlatform 105 = .ok (.ldc 147, 2) := by decide +kernel
theorem dX6_addPlatform_107 : decode cX6_addPlatform 107 = .ok (.invokespecial 99, 3) := by decide +kernel
theorem dX6_addPlatform_110 : decode cX6_addPlatform 110 = .ok (.athrow, 1) := by decide +kernel
theorem dX6_addPlatform_111 : decode cX6_addPlatform 111 = .ok (.aload_n 0, 1) := by decide +kernel
theorem dX6_addPlatform_112 : decode cX6_addPlatform 112 = .ok (.getfield 12, 3) := by decide +kernel
theorem dX6_addPlatform_115 : decode cX6_addPlatform 115 = .ok (.getfield 144, 3) := by decide +kernel
theorem dX6_addPlatform_118 : decode cX6_addPlatform 118 = .ok (.istore 7, 2) := by decide +kernel
theorem dX6_addPlatform_120 : decode cX6_addPlatform 120 = .ok (.aload_n 0, 1) := by decide +kernel
theorem dX6_addPlatform_121 : decode cX6_addPlatform 121 = .ok (.getfield 12, 3) := by decide +kernel
theorem dX6_addPlatform_124 : decode cX6_addPlatform 124 = .ok (.getfield 149, 3) := by decide +kernel
theorem dX6_addPlatform_127 : decode cX6_addPlatform 127 = .ok (.iload 7, 2) := by decide +kernel
theorem dX6_addPlatform_129 : decode cX6_addPlatform 129 = .ok (.aaload, 1) := by decide +kernel
theorem dX6_addPlatform_130 : decode cX6_addPlatform 130 = .ok (.iload_n 1, 1) := by decide +kernel
theorem dX6_addPlatform_131 : decode cX6_addPlatform 131 = .ok (.iload_n 2, 1) := by decide +kernel
theorem dX6_addPlatform_132 : decode cX6_addPlatform 132 = .ok (.iload_n 3, 1) := by decide +kernel
theorem dX6_addPlatform_133 : decode cX6_addPlatform 133 = .ok (.iload 4, 2) := by decide +kernel
theorem dX6_addPlatform_135 : decode cX6_addPlatform 135 = .ok (.iload 5, 2) := by decide +kernel
theorem dX6_addPlatform_137 : decode cX6_addPlatform 137 = .ok (.iload 6, 2) := by decide +kernel
theorem dX6_addPlatform_139 : decode cX6_addPlatform 139 = .ok (.invokevirtual 153, 3) := by decide +kernel
theorem dX6_addPlatform_142 : decode cX6_addPlatform 142 = .ok (.aload_n 0, 1) := by decide +kernel
theorem dX6_addPlatform_143 : decode cX6_addPlatform 143 = .ok (.getfield 12, 3) := by decide +kernel
theorem dX6_addPlatform_146 : decode cX6_addPlatform 146 = .ok (.iload 7, 2) := by decide +kernel
theorem dX6_addPlatform_148 : decode cX6_addPlatform 148 = .ok (.iconst 1, 1) := by decide +kernel
theorem dX6_addPlatform_149 : decode cX6_addPlatform 149 = .ok (.iadd, 1) := by decide +kernel
theorem dX6_addPlatform_150 : decode cX6_addPlatform 150 = .ok (.putfield 144, 3) := by decide +kernel
theorem dX6_addPlatform_153 : decode cX6_addPlatform 153 = .ok (.aload_n 0, 1) := by decide +kernel
theorem dX6_addPlatform_154 : decode cX6_addPlatform 154 = .ok (.getfield 40, 3) := by decide +kernel
theorem dX6_addPlatform_157 : decode cX6_addPlatform 157 = .ok (.invokevirtual 118, 3) := by decide +kernel
theorem dX6_addPlatform_160 : decode cX6_addPlatform 160 = .ok (.iload 7, 2) := by decide +kernel
theorem dX6_addPlatform_162 : decode cX6_addPlatform 162 = .ok (.ireturn, 1) := by decide +kernel
set_option maxRecDepth 20000 in
theorem ggX6_removePlatform_X6_requirePlatform : GoodIn wsX6_removePlatform wsX6_requirePlatform := goodIn_ca (goodIn_r _ [8, 9, 10, 1, 3, 11, 12, 7, 13, 43, 44, 45, 46, 47, 48, 49, 50, 51, 52, 53, 54, 55, 56, 57, 58] (by decide +kernel) (by decide +kernel)) (goodIn_sub (fun _ h => List.mem_cons_of_mem _ (List.mem_append_right _ h)) (by decide +kernel))
set_option maxRecDepth 20000 in
theorem gX6_removePlatform_X6_requirePlatform : GoodIn wsX6_removePlatform (wsV RX6 158 RX6 yX6_requirePlatform wsX6_requirePlatform) := goodIn_app (goodIn_of _ (by decide +kernel)) ggX6_removePlatform_X6_requirePlatform
set_option maxRecDepth 20000 in
theorem ggX6_removePlatform_X5_dropOutPlatform : GoodIn wsX6_removePlatform wsX5_dropOutPlatform := goodIn_r _ [18, 19, 20, 21, 22, 23, 24, 25, 26, 27, 28, 29, 30, 31, 32, 33, 34, 35, 36, 52, 53, 54, 55, 56, 57, 58, 59, 60, 61, 62, 63, 64, 65] (by decide +kernel) (by decide +kernel)
set_option maxRecDepth 20000 in
theorem gX6_removePlatform_X5_dropOutPlatform : GoodIn wsX6_removePlatform (wsV RX6 161 RX5 yX5_dropOutPlatform wsX5_dropOutPlatform) := goodIn_app (goodIn_of _ (by decide +kernel)) ggX6_removePlatform_X5_dropOutPlatform
set_option maxRecDepth 20000 in
theorem ggX6_removePlatform_X1_forget : GoodIn wsX6_removePlatform wsX1_forget := goodIn_r _ [41, 42, 66, 67, 68] (by decide +kernel) (by decide +kernel)
set_option maxRecDepth 20000 in
theorem gX6_removePlatform_X1_forget : GoodIn wsX6_removePlatform (wsV RX6 118 RX1 yX1_forget wsX1_forget) := goodIn_app (goodIn_of _ (by decide +kernel)) ggX6_removePlatform_X1_forget
theorem dX6_removePlatform_0 : decode cX6_removePlatform 0 = .ok (.aload_n 0, 1) := by decide +kernel
theorem dX6_removePlatform_1 : decode cX6_removePlatform 1 = .ok (.iload_n 1, 1) := by decide +kernel
theorem dX6_removePlatform_2 : decode cX6_removePlatform 2 = .ok (.invokevirtual 158, 3) := by decide +kernel
theorem dX6_removePlatform_5 : decode cX6_removePlatform 5 = .ok (.aload_n 0, 1) := by decide +kernel
theorem dX6_removePlatform_6 : decode cX6_removePlatform 6 = .ok (.getfield 12, 3) := by decide +kernel
theorem dX6_removePlatform_9 : decode cX6_removePlatform 9 = .ok (.iload_n 1, 1) := by decide +kernel
theorem dX6_removePlatform_10 : decode cX6_removePlatform 10 = .ok (.invokevirtual 161, 3) := by decide +kernel
theorem dX6_removePlatform_13 : decode cX6_removePlatform 13 = .ok (.aload_n 0, 1) := by decide +kernel
theorem dX6_removePlatform_14 : decode cX6_removePlatform 14 = .ok (.getfield 40, 3) := by decide +kernel
theorem dX6_removePlatform_17 : decode cX6_removePlatform 17 = .ok (.invokevirtual 118, 3) := by decide +kernel
theorem dX6_removePlatform_20 : decode cX6_removePlatform 20 = .ok (.aload_n 0, 1) := by decide +kernel
theorem dX6_removePlatform_21 : decode cX6_removePlatform 21 = .ok (.getfield 12, 3) := by decide +kernel
theorem dX6_removePlatform_24 : decode cX6_removePlatform 24 = .ok (.getfield 144, 3) := by decide +kernel
theorem dX6_removePlatform_27 : decode cX6_removePlatform 27 = .ok (.ireturn, 1) := by decide +kernel
set_option maxRecDepth 20000 in
theorem ggX6_platform_X6_requirePlatform : GoodIn wsX6_platform wsX6_requirePlatform := goodIn_ca (goodIn_r _ [7, 8, 9, 1, 10, 11, 12, 6, 13, 30, 31, 32, 33, 34, 35, 36, 37, 38, 39, 40, 41, 42, 43, 44, 45] (by decide +kernel) (by decide +kernel)) (goodIn_sub (fun _ h => List.mem_cons_of_mem _ (List.mem_append_left _ (List.mem_append_right _ h))) (by decide +kernel))
set_option maxRecDepth 20000 in
theorem gX6_platform_X6_requirePlatform : GoodIn wsX6_platform (wsV RX6 158 RX6 yX6_requirePlatform wsX6_requirePlatform) := goodIn_app (goodIn_of _ (by decide +kernel)) ggX6_platform_X6_requirePlatform
set_option maxRecDepth 20000 in
theorem ggX6_platform_X6_isWithin : GoodIn wsX6_platform wsX6_isWithin := goodIn_r _ [13] (by decide +kernel) (by decide +kernel)
set_option maxRecDepth 20000 in
theorem gX6_platform_X6_isWithin : GoodIn wsX6_platform (va_wsS RX6 63 yX6_isWithin wsX6_isWithin) := goodIn_app (goodIn_of _ (by decide +kernel)) ggX6_platform_X6_isWithin
set_option maxRecDepth 20000 in
theorem ggX6_platform_X6_require : GoodIn wsX6_platform wsX6_require := goodIn_ca (goodIn_r _ [16, 17, 18] (by decide +kernel) (by decide +kernel)) (goodIn_sub (fun _ h => List.mem_cons_of_mem _ (List.mem_append_right _ h)) (by decide +kernel))
set_option maxRecDepth 20000 in
theorem gX6_platform_X6_require : GoodIn wsX6_platform (va_wsS RX6 67 yX6_require wsX6_require) := goodIn_app (goodIn_of _ (by decide +kernel)) ggX6_platform_X6_require
set_option maxRecDepth 20000 in
theorem ggX6_platform_X2_number : GoodIn wsX6_platform wsX2_number := goodIn_r _ [23, 24, 25, 26, 27, 28, 29, 46, 47, 48, 49, 50, 51, 52] (by decide +kernel) (by decide +kernel)
set_option maxRecDepth 20000 in
theorem gX6_platform_X2_number : GoodIn wsX6_platform (wsV RX6 164 RX2 yX2_number wsX2_number) := goodIn_app (goodIn_of _ (by decide +kernel)) ggX6_platform_X2_number
theorem dX6_platform_0 : decode cX6_platform 0 = .ok (.aload_n 0, 1) := by decide +kernel
theorem dX6_platform_1 : decode cX6_platform 1 = .ok (.iload_n 1, 1) := by decide +kernel
theorem dX6_platform_2 : decode cX6_platform 2 = .ok (.invokevirtual 158, 3) := by decide +kernel
theorem dX6_platform_5 : decode cX6_platform 5 = .ok (.iload_n 2, 1) := by decide +kernel
theorem dX6_platform_6 : decode cX6_platform 6 = .ok (.iconst 0, 1) := by decide +kernel
theorem dX6_platform_7 : decode cX6_platform 7 = .ok (.iconst 5, 1) := by decide +kernel
theorem dX6_platform_8 : decode cX6_platform 8 = .ok (.invokestatic 63, 3) := by decide +kernel
theorem dX6_platform_11 : decode cX6_platform 11 = .ok (.invokestatic 67, 3) := by decide +kernel
theorem dX6_platform_14 : decode cX6_platform 14 = .ok (.aload_n 0, 1) := by decide +kernel
theorem dX6_platform_15 : decode cX6_platform 15 = .ok (.getfield 12, 3) := by decide +kernel
theorem dX6_platform_18 : decode cX6_platform 18 = .ok (.getfield 149, 3) := by decide +kernel
theorem dX6_platform_21 : decode cX6_platform 21 = .ok (.iload_n 1, 1) := by decide +kernel
theorem dX6_platform_22 : decode cX6_platform 22 = .ok (.aaload, 1) := by decide +kernel
theorem dX6_platform_23 : decode cX6_platform 23 = .ok (.iload_n 2, 1) := by decide +kernel
theorem dX6_platform_24 : decode cX6_platform 24 = .ok (.invokevirtual 164, 3) := by decide +kernel
theorem dX6_platform_27 : decode cX6_platform 27 = .ok (.ireturn, 1) := by decide +kernel
set_option maxRecDepth 20000 in
theorem ggX6_count_X6_isWithin : GoodIn wsX6_count wsX6_isWithin := goodIn_r _ [8] (by decide +kernel) (by decide +kernel)
set_option maxRecDepth 20000 in
theorem gX6_count_X6_isWithin : GoodIn wsX6_count (va_wsS RX6 63 yX6_isWithin wsX6_isWithin) := goodIn_app (goodIn_of _ (by decide +kernel)) ggX6_count_X6_isWithin
set_option maxRecDepth 20000 in
theorem ggX6_count_X6_require : GoodIn wsX6_count wsX6_require := goodIn_ca (goodIn_r _ [11, 12, 13] (by decide +kernel) (by decide +kernel)) (goodIn_sub (fun _ h => List.mem_cons_of_mem _ (List.mem_append_left _ (List.mem_append_right _ h))) (by decide +kernel))
set_option maxRecDepth 20000 in
theorem gX6_count_X6_require : GoodIn wsX6_count (va_wsS RX6 67 yX6_require wsX6_require) := goodIn_app (goodIn_of _ (by decide +kernel)) ggX6_count_X6_require
set_option maxRecDepth 20000 in
theorem ggX6_count_X4_countOf : GoodIn wsX6_count wsX4_countOf := goodIn_ca (goodIn_r _ [18, 19, 36] (by decide +kernel) (by decide +kernel)) (goodIn_sub (fun _ h => List.mem_cons_of_mem _ (List.mem_append_right _ h)) (by decide +kernel))
set_option maxRecDepth 20000 in
theorem gX6_count_X4_countOf : GoodIn wsX6_count (wsV RX6 165 RX4 yX4_countOf wsX4_countOf) := goodIn_app (goodIn_of _ (by decide +kernel)) ggX6_count_X4_countOf
theorem dX6_count_0 : decode cX6_count 0 = .ok (.iload_n 1, 1) := by decide +kernel
theorem dX6_count_1 : decode cX6_count 1 = .ok (.iconst 0, 1) := by decide +kernel
theorem dX6_count_2 : decode cX6_count 2 = .ok (.iconst 3, 1) := by decide +kernel
theorem dX6_count_3 : decode cX6_count 3 = .ok (.invokestatic 63, 3) := by decide +kernel
theorem dX6_count_6 : decode cX6_count 6 = .ok (.invokestatic 67, 3) := by decide +kernel
theorem dX6_count_9 : decode cX6_count 9 = .ok (.iload_n 1, 1) := by decide +kernel
theorem dX6_count_10 : decode cX6_count 10 = .ok (.tableswitch 58 0 2 #[26, 34, 42], 26) := by decide +kernel
theorem dX6_count_36 : decode cX6_count 36 = .ok (.aload_n 0, 1) := by decide +kernel
theorem dX6_count_37 : decode cX6_count 37 = .ok (.getfield 12, 3) := by decide +kernel
theorem dX6_count_40 : decode cX6_count 40 = .ok (.getfield 92, 3) := by decide +kernel
theorem dX6_count_43 : decode cX6_count 43 = .ok (.ireturn, 1) := by decide +kernel
theorem dX6_count_44 : decode cX6_count 44 = .ok (.aload_n 0, 1) := by decide +kernel
theorem dX6_count_45 : decode cX6_count 45 = .ok (.getfield 12, 3) := by decide +kernel
theorem dX6_count_48 : decode cX6_count 48 = .ok (.getfield 144, 3) := by decide +kernel
theorem dX6_count_51 : decode cX6_count 51 = .ok (.ireturn, 1) := by decide +kernel
theorem dX6_count_52 : decode cX6_count 52 = .ok (.sipush 336, 3) := by decide +kernel
theorem dX6_count_55 : decode cX6_count 55 = .ok (.aload_n 0, 1) := by decide +kernel
theorem dX6_count_56 : decode cX6_count 56 = .ok (.getfield 12, 3) := by decide +kernel
theorem dX6_count_59 : decode cX6_count 59 = .ok (.getfield 71, 3) := by decide +kernel
theorem dX6_count_62 : decode cX6_count 62 = .ok (.iconst 0, 1) := by decide +kernel
theorem dX6_count_63 : decode cX6_count 63 = .ok (.invokevirtual 165, 3) := by decide +kernel
theorem dX6_count_66 : decode cX6_count 66 = .ok (.isub, 1) := by decide +kernel
theorem dX6_count_67 : decode cX6_count 67 = .ok (.ireturn, 1) := by decide +kernel
theorem dX6_count_68 : decode cX6_count 68 = .ok (.aload_n 0, 1) := by decide +kernel
theorem dX6_count_69 : decode cX6_count 69 = .ok (.getfield 12, 3) := by decide +kernel
theorem dX6_count_72 : decode cX6_count 72 = .ok (.getfield 71, 3) := by decide +kernel
theorem dX6_count_75 : decode cX6_count 75 = .ok (.bipush 10, 2) := by decide +kernel
theorem dX6_count_77 : decode cX6_count 77 = .ok (.invokevirtual 165, 3) := by decide +kernel
theorem dX6_count_80 : decode cX6_count 80 = .ok (.ireturn, 1) := by decide +kernel
set_option maxRecDepth 20000 in
theorem ggX6_set_X6_isWithin : GoodIn wsX6_set wsX6_isWithin := goodIn_r _ [9] (by decide +kernel) (by decide +kernel)
set_option maxRecDepth 20000 in
theorem gX6_set_X6_isWithin : GoodIn wsX6_set (va_wsS RX6 63 yX6_isWithin wsX6_isWithin) := goodIn_app (goodIn_of _ (by decide +kernel)) ggX6_set_X6_isWithin
set_option maxRecDepth 20000 in
theorem ggX6_set_X6_require : GoodIn wsX6_set wsX6_require := goodIn_ca (goodIn_r _ [12, 13, 14] (by decide +kernel) (by decide +kernel)) (goodIn_sub (fun _ h => List.mem_cons_of_mem _ (List.mem_append_right _ h)) (by decide +kernel))
set_option maxRecDepth 20000 in
theorem gX6_set_X6_require : GoodIn wsX6_set (va_wsS RX6 67 yX6_require wsX6_require) := goodIn_app (goodIn_of _ (by decide +kernel)) ggX6_set_X6_require
theorem dX6_set_0 : decode cX6_set 0 = .ok (.iload_n 1, 1) := by decide +kernel
theorem dX6_set_1 : decode cX6_set 1 = .ok (.iconst 0, 1) := by decide +kernel
theorem dX6_set_2 : decode cX6_set 2 = .ok (.iconst 3, 1) := by decide +kernel
theorem dX6_set_3 : decode cX6_set 3 = .ok (.invokestatic 63, 3) := by decide +kernel
theorem dX6_set_6 : decode cX6_set 6 = .ok (.ifCond .ne 13, 3) := by decide +kernel
theorem dX6_set_9 : decode cX6_set 9 = .ok (.new 168, 3) := by decide +kernel
theorem dX6_set_12 : decode cX6_set 12 = .ok (.dup, 1) := by decide +kernel
theorem dX6_set_13 : decode cX6_set 13 = .ok (.ldc 170, 2) := by decide +kernel
theorem dX6_set_15 : decode cX6_set 15 = .ok (.invokespecial 172, 3) := by decide +kernel
theorem dX6_set_18 : decode cX6_set 18 = .ok (.athrow, 1) := by decide +kernel
theorem dX6_set_19 : decode cX6_set 19 = .ok (.iload_n 2, 1) := by decide +kernel
theorem dX6_set_20 : decode cX6_set 20 = .ok (.getstatic 173, 3) := by decide +kernel
theorem dX6_set_23 : decode cX6_set 23 = .ok (.iload_n 1, 1) := by decide +kernel
theorem dX6_set_24 : decode cX6_set 24 = .ok (.iaload, 1) := by decide +kernel
theorem dX6_set_25 : decode cX6_set 25 = .ok (.getstatic 176, 3) := by decide +kernel
theorem dX6_set_28 : decode cX6_set 28 = .ok (.iload_n 1, 1) := by decide +kernel
theorem dX6_set_29 : decode cX6_set 29 = .ok (.iaload, 1) := by decide +kernel
theorem dX6_set_30 : decode cX6_set 30 = .ok (.invokestatic 63, 3) := by decide +kernel
theorem dX6_set_33 : decode cX6_set 33 = .ok (.invokestatic 67, 3) := by decide +kernel
theorem dX6_set_36 : decode cX6_set 36 = .ok (.aload_n 0, 1) := by decide +kernel
theorem dX6_set_37 : decode cX6_set 37 = .ok (.getfield 31, 3) := by decide +kernel
theorem dX6_set_40 : decode cX6_set 40 = .ok (.iload_n 1, 1) := by decide +kernel
theorem dX6_set_41 : decode cX6_set 41 = .ok (.iaload, 1) := by decide +kernel
theorem dX6_set_42 : decode cX6_set 42 = .ok (.istore_n 3, 1) := by decide +kernel
theorem dX6_set_43 : decode cX6_set 43 = .ok (.aload_n 0, 1) := by decide +kernel
theorem dX6_set_44 : decode cX6_set 44 = .ok (.getfield 31, 3) := by decide +kernel
theorem dX6_set_47 : decode cX6_set 47 = .ok (.iload_n 1, 1) := by decide +kernel
theorem dX6_set_48 : decode cX6_set 48 = .ok (.iload_n 2, 1) := by decide +kernel
theorem dX6_set_49 : decode cX6_set 49 = .ok (.iastore, 1) := by decide +kernel
theorem dX6_set_50 : decode cX6_set 50 = .ok (.iload_n 3, 1) := by decide +kernel
theorem dX6_set_51 : decode cX6_set 51 = .ok (.ireturn, 1) := by decide +kernel
set_option maxRecDepth 20000 in
theorem ggX6_tick_X6_isWithin : GoodIn wsX6_tick wsX6_isWithin := goodIn_r _ [8] (by decide +kernel) (by decide +kernel)
set_option maxRecDepth 20000 in
theorem gX6_tick_X6_isWithin : GoodIn wsX6_tick (va_wsS RX6 63 yX6_isWithin wsX6_isWithin) := goodIn_app (goodIn_of _ (by decide +kernel)) ggX6_tick_X6_isWithin
set_option maxRecDepth 20000 in
theorem ggX6_tick_X6_require : GoodIn wsX6_tick wsX6_require := goodIn_ca (goodIn_r _ [11, 12, 13] (by decide +kernel) (by decide +kernel)) (goodIn_sub (fun _ h => List.mem_cons_of_mem _ (List.mem_append_left _ (List.mem_append_right _ h))) (by decide +kernel))
set_option maxRecDepth 20000 in
theorem gX6_tick_X6_require : GoodIn wsX6_tick (va_wsS RX6 67 yX6_require wsX6_require) := goodIn_app (goodIn_of _ (by decide +kernel)) ggX6_tick_X6_require
set_option maxRecDepth 20000 in
theorem ggX6_tick_X1_keep : GoodIn wsX6_tick wsX1_keep := goodIn_r _ [18, 19, 20, 21, 22, 23, 24, 25, 26, 27, 28, 29, 30, 31, 32, 33, 34, 35, 36, 37, 38, 39, 40, 41, 42, 43, 44, 45, 46, 47, 48, 49, 50, 51, 52, 53, 54, 55, 56, 57, 58, 59, 60, 61, 62, 63, 64, 65, 66, 67, 68, 69, 70, 71, 72, 73, 74, 75, 76, 77, 78, 79, 80, 81, 82, 83, 84, 308, 309, 310, 301, 302, 303, 304, 305, 306, 307, 311, 312, 313, 314, 315, 316, 317, 318, 319, 320, 321, 322, 323, 324, 325, 326, 327, 328, 329, 330, 331, 332, 333, 334] (by decide +kernel) (by decide +kernel)
set_option maxRecDepth 20000 in
theorem gX6_tick_X1_keep : GoodIn wsX6_tick (wsV RX6 179 RX1 yX1_keep wsX1_keep) := goodIn_app (goodIn_of _ (by decide +kernel)) ggX6_tick_X1_keep
set_option maxRecDepth 20000 in
theorem ggX6_tick_X5_advance : GoodIn wsX6_tick wsX5_advance := goodIn_ca (goodIn_r _ [88, 34, 32, 35, 89, 90, 91, 29, 92, 93, 94, 95, 96, 97, 98, 99, 100, 101, 33, 36, 102, 103, 104, 72, 105, 75, 74, 76, 106, 107, 108, 109, 110, 111, 112, 113, 114, 115, 116, 117, 24, 118, 119, 120, 121, 122, 123, 31, 124, 125, 126, 50, 127, 54, 128, 129, 130, 40, 131, 132, 133, 134, 135, 136, 42, 137, 138, 139, 140, 141, 142, 143, 144, 145, 146, 147, 148, 55, 149, 150, 7, 151, 152, 153, 154, 155, 156, 157, 158, 159, 160, 161, 162, 163, 164, 165, 166, 167, 168, 169, 170, 171, 172, 173, 174, 175, 176, 177, 178, 179, 180, 77, 78, 80, 79, 181, 182, 183, 184, 185, 186, 187, 188, 189, 190, 191, 192, 193, 194, 195, 196, 197, 198, 199, 200, 201, 202, 203, 204, 63, 205, 206, 207, 208, 209, 210, 211, 212, 213, 214, 215, 216, 217, 218, 219, 23, 25, 220, 221, 222, 223, 224, 225, 226, 227, 228, 229, 230, 231, 232, 233, 234, 59, 61, 65, 67, 235, 236, 237, 238, 239, 240, 241, 242, 243, 244, 245, 246, 247, 248, 249, 250, 251, 252, 253, 254, 255, 256, 257, 258, 259, 260, 261, 262, 263, 264, 265, 266, 267, 268, 269, 270, 271, 272, 273, 274, 275, 5, 6, 8, 276, 277, 278, 279, 280, 281, 282, 283, 56, 52, 57, 53, 284, 285, 286, 287, 58, 60, 62, 288, 289, 290, 291, 66, 64, 301, 302, 303, 304, 305, 306, 307, 312, 313, 314, 315, 316, 317, 318, 319, 320, 321, 322, 323, 324, 325, 326, 327, 328, 329, 330, 331, 332, 333, 334, 311] (by decide +kernel) (by decide +kernel)) (goodIn_sub (fun _ h => List.mem_cons_of_mem _ (List.mem_append_right _ h)) (by decide +kernel))
set_option maxRecDepth 20000 in
theorem gX6_tick_X5_advance : GoodIn wsX6_tick (wsV RX6 182 RX5 yX5_advance wsX5_advance) := goodIn_app (goodIn_of _ (by decide +kernel)) ggX6_tick_X5_advance
theorem dX6_tick_0 : decode cX6_tick 0 = .ok (.iload_n 1, 1) := by decide +kernel
theorem dX6_tick_1 : decode cX6_tick 1 = .ok (.iconst 1, 1) := by decide +kernel
theorem dX6_tick_2 : decode cX6_tick 2 = .ok (.bipush 100, 2) := by decide +kernel
theorem dX6_tick_4 : decode cX6_tick 4 = .ok (.invokestatic 63, 3) := by decide +kernel
theorem dX6_tick_7 : decode cX6_tick 7 = .ok (.invokestatic 67, 3) := by decide +kernel
theorem dX6_tick_10 : decode cX6_tick 10 = .ok (.iconst 0, 1) := by decide +kernel
theorem dX6_tick_11 : decode cX6_tick 11 = .ok (.istore_n 2, 1) := by decide +kernel
theorem dX6_tick_12 : decode cX6_tick 12 = .ok (.iload_n 2, 1) := by decide +kernel
theorem dX6_tick_13 : decode cX6_tick 13 = .ok (.iload_n 1, 1) := by decide +kernel
theorem dX6_tick_14 : decode cX6_tick 14 = .ok (.if_icmp .ge 31, 3) := by decide +kernel
theorem dX6_tick_17 : decode cX6_tick 17 = .ok (.aload_n 0, 1) := by decide +kernel
theorem dX6_tick_18 : decode cX6_tick 18 = .ok (.getfield 40, 3) := by decide +kernel
theorem dX6_tick_21 : decode cX6_tick 21 = .ok (.aload_n 0, 1) := by decide +kernel
theorem dX6_tick_22 : decode cX6_tick 22 = .ok (.getfield 12, 3) := by decide +kernel
theorem dX6_tick_25 : decode cX6_tick 25 = .ok (.invokevirtual 179, 3) := by decide +kernel
theorem dX6_tick_28 : decode cX6_tick 28 = .ok (.aload_n 0, 1) := by decide +kernel
theorem dX6_tick_29 : decode cX6_tick 29 = .ok (.getfield 12, 3) := by decide +kernel
theorem dX6_tick_32 : decode cX6_tick 32 = .ok (.aload_n 0, 1) := by decide +kernel
theorem dX6_tick_33 : decode cX6_tick 33 = .ok (.getfield 31, 3) := by decide +kernel
theorem dX6_tick_36 : decode cX6_tick 36 = .ok (.invokevirtual 182, 3) := by decide +kernel
theorem dX6_tick_39 : decode cX6_tick 39 = .ok (.iinc 2 1, 3) := by decide +kernel
theorem dX6_tick_42 : decode cX6_tick 42 = .ok (.goto (-30), 3) := by decide +kernel
theorem dX6_tick_45 : decode cX6_tick 45 = .ok (.aload_n 0, 1) := by decide +kernel
theorem dX6_tick_46 : decode cX6_tick 46 = .ok (.getfield 12, 3) := by decide +kernel
theorem dX6_tick_49 : decode cX6_tick 49 = .ok (.getfield 186, 3) := by decide +kernel
theorem dX6_tick_52 : decode cX6_tick 52 = .ok (.ireturn, 1) := by decide +kernel
set_option maxRecDepth 20000 in
theorem ggX6_tickUntilStanding_X6_requireBody : GoodIn wsX6_tickUntilStanding wsX6_requireBody := goodIn_ca (goodIn_r _ [11, 12, 13, 3, 14, 15, 16, 10, 17, 302, 303, 304, 305, 306, 307, 308, 309, 310, 311, 312, 313, 314, 315, 316, 317] (by decide +kernel) (by decide +kernel)) (goodIn_sub (fun _ h => List.mem_cons_of_mem _ (List.mem_append_left _ (List.mem_append_left _ (List.mem_append_right _ h)))) (by decide +kernel))
set_option maxRecDepth 20000 in
theorem gX6_tickUntilStanding_X6_requireBody : GoodIn wsX6_tickUntilStanding (wsV RX6 121 RX6 yX6_requireBody wsX6_requireBody) := goodIn_app (goodIn_of _ (by decide +kernel)) ggX6_tickUntilStanding_X6_requireBody
set_option maxRecDepth 20000 in
theorem ggX6_tickUntilStanding_X6_isWithin : GoodIn wsX6_tickUntilStanding wsX6_isWithin := goodIn_r _ [17] (by decide +kernel) (by decide +kernel)
set_option maxRecDepth 20000 in
theorem gX6_tickUntilStanding_X6_isWithin : GoodIn wsX6_tickUntilStanding (va_wsS RX6 63 yX6_isWithin wsX6_isWithin) := goodIn_app (goodIn_of _ (by decide +kernel)) ggX6_tickUntilStanding_X6_isWithin
set_option maxRecDepth 20000 in
theorem ggX6_tickUntilStanding_X6_require : GoodIn wsX6_tickUntilStanding wsX6_require := goodIn_ca (goodIn_r _ [20, 21, 22] (by decide +kernel) (by decide +kernel)) (goodIn_sub (fun _ h => List.mem_cons_of_mem _ (List.mem_append_left _ (List.mem_append_right _ h))) (by decide +kernel))
set_option maxRecDepth 20000 in
theorem gX6_tickUntilStanding_X6_require : GoodIn wsX6_tickUntilStanding (va_wsS RX6 67 yX6_require wsX6_require) := goodIn_app (goodIn_of _ (by decide +kernel)) ggX6_tickUntilStanding_X6_require
set_option maxRecDepth 20000 in
theorem ggX6_tickUntilStanding_X5_isStanding : GoodIn wsX6_tickUntilStanding wsX5_isStanding := goodIn_ca (goodIn_r _ [27, 28, 29, 30, 31, 32, 33, 26, 34, 35, 36, 37, 38, 39, 40, 41, 42, 43, 44, 45, 46, 47, 48, 49, 50, 51, 52, 53, 54, 55, 56, 57, 10, 58, 59, 60, 61, 62, 63, 64, 65, 66, 67, 68, 69, 70, 71, 72, 73, 74, 75, 76, 77, 78, 79, 80, 81, 82, 83, 84, 85, 86, 87, 88, 318, 319, 320, 321, 322, 323, 324, 325, 326, 327, 328, 329, 330, 331, 332, 333, 311, 312, 313, 314, 315, 316, 317, 334, 335, 336, 337, 338, 339, 340, 341] (by decide +kernel) (by decide +kernel)) (goodIn_sub (fun _ h => List.mem_cons_of_mem _ (List.mem_append_right _ h)) (by decide +kernel))
set_option maxRecDepth 20000 in
theorem gX6_tickUntilStanding_X5_isStanding : GoodIn wsX6_tickUntilStanding (wsV RX6 189 RX5 yX5_isStanding wsX5_isStanding) := goodIn_app (goodIn_of _ (by decide +kernel)) ggX6_tickUntilStanding_X5_isStanding
set_option maxRecDepth 20000 in
theorem ggX6_tickUntilStanding_X1_keep : GoodIn wsX6_tickUntilStanding wsX1_keep := goodIn_r _ [93, 94, 95, 96, 97, 98, 99, 100, 101, 102, 103, 26, 104, 35, 105, 78, 106, 107, 79, 108, 109, 110, 40, 111, 56, 112, 113, 114, 115, 116, 117, 118, 45, 119, 120, 121, 47, 122, 123, 124, 125, 126, 127, 128, 129, 130, 131, 132, 133, 134, 135, 136, 137, 138, 83, 139, 86, 85, 87, 140, 141, 142, 143, 144, 145, 146, 147, 342, 343, 344, 311, 312, 313, 314, 315, 316, 317, 334, 318, 319, 320, 321, 322, 323, 324, 325, 326, 327, 328, 329, 330, 331, 332, 333, 335, 336, 337, 338, 339, 340, 341] (by decide +kernel) (by decide +kernel)
set_option maxRecDepth 20000 in
theorem gX6_tickUntilStanding_X1_keep : GoodIn wsX6_tickUntilStanding (wsV RX6 179 RX1 yX1_keep wsX1_keep) := goodIn_app (goodIn_of _ (by decide +kernel)) ggX6_tickUntilStanding_X1_keep
set_option maxRecDepth 20000 in
theorem ggX6_tickUntilStanding_X5_advance : GoodIn wsX6_tickUntilStanding wsX5_advance := goodIn_ca (goodIn_r _ [151, 106, 105, 107, 152, 153, 154, 26, 155, 28, 36, 156, 29, 30, 74, 75, 76, 77, 78, 79, 80, 81, 82, 83, 84, 85, 86, 87, 88, 157, 158, 159, 160, 161, 162, 163, 164, 165, 166, 167, 99, 168, 169, 170, 171, 172, 173, 35, 64, 49, 50, 45, 51, 47, 65, 66, 67, 40, 68, 69, 52, 53, 54, 55, 56, 174, 175, 176, 177, 42, 43, 44, 46, 178, 179, 180, 181, 122, 48, 57, 10, 58, 59, 60, 61, 62, 63, 31, 32, 33, 34, 37, 38, 39, 41, 70, 71, 72, 73, 182, 183, 184, 185, 186, 187, 188, 189, 190, 191, 192, 193, 140, 141, 143, 142, 194, 195, 196, 197, 198, 199, 200, 201, 202, 203, 204, 24, 25, 27, 205, 206, 207, 208, 209, 210, 211, 212, 213, 214, 130, 215, 216, 217, 218, 219, 220, 221, 222, 223, 224, 225, 226, 227, 228, 229, 98, 100, 230, 231, 232, 233, 234, 235, 236, 237, 238, 239, 240, 241, 242, 243, 244, 126, 128, 132, 134, 245, 246, 247, 248, 249, 250, 251, 252, 253, 254, 255, 256, 257, 258, 259, 260, 261, 262, 263, 264, 265, 266, 267, 268, 269, 270, 271, 272, 273, 274, 275, 276, 277, 278, 279, 280, 281, 282, 283, 284, 285, 15, 16, 17, 286, 287, 288, 289, 290, 291, 292, 293, 123, 120, 124, 121, 294, 295, 296, 297, 125, 127, 129, 298, 299, 300, 301, 133, 131, 311, 312, 313, 314, 315, 316, 317, 318, 319, 320, 321, 322, 323, 324, 325, 326, 327, 328, 329, 330, 331, 332, 333, 335, 336, 337, 338, 339, 340, 341, 334] (by decide +kernel) (by decide +kernel)) (goodIn_sub (fun _ h => List.mem_cons_of_mem _ (List.mem_append_right _ h)) (by decide +kernel))
set_option maxRecDepth 20000 in
theorem gX6_tickUntilStanding_X5_advance : GoodIn wsX6_tickUntilStanding (wsV RX6 182 RX5 yX5_advance wsX5_advance) := goodIn_app (goodIn_of _ (by decide +kernel)) ggX6_tickUntilStanding_X5_advance
theorem dX6_tickUntilStanding_0 : decode cX6_tickUntilStanding 0 = .ok (.aload_n 0, 1) := by decide +kernel
theorem dX6_tickUntilStanding_1 : decode cX6_tickUntilStanding 1 = .ok (.iload_n 1, 1) := by decide +kernel
theorem dX6_tickUntilStanding_2 : decode cX6_tickUntilStanding 2 = .ok (.invokevirtual 121, 3) := by decide +kernel
theorem dX6_tickUntilStanding_5 : decode cX6_tickUntilStanding 5 = .ok (.iload_n 2, 1) := by decide +kernel
theorem dX6_tickUntilStanding_6 : decode cX6_tickUntilStanding 6 = .ok (.iconst 1, 1) := by decide +kernel
theorem dX6_tickUntilStanding_7 : decode cX6_tickUntilStanding 7 = .ok (.bipush 100, 2) := by decide +kernel
theorem dX6_tickUntilStanding_9 : decode cX6_tickUntilStanding 9 = .ok (.invokestatic 63, 3) := by decide +kernel
theorem dX6_tickUntilStanding_12 : decode cX6_tickUntilStanding 12 = .ok (.invokestatic 67, 3) := by decide +kernel
theorem dX6_tickUntilStanding_15 : decode cX6_tickUntilStanding 15 = .ok (.iconst 0, 1) := by decide +kernel
theorem dX6_tickUntilStanding_16 : decode cX6_tickUntilStanding 16 = .ok (.istore_n 3, 1) := by decide +kernel
theorem dX6_tickUntilStanding_17 : decode cX6_tickUntilStanding 17 = .ok (.iload_n 3, 1) := by decide +kernel
theorem dX6_tickUntilStanding_18 : decode cX6_tickUntilStanding 18 = .ok (.iload_n 2, 1) := by decide +kernel
theorem dX6_tickUntilStanding_19 : decode cX6_tickUntilStanding 19 = .ok (.if_icmp .ge 50, 3) := by decide +kernel
theorem dX6_tickUntilStanding_22 : decode cX6_tickUntilStanding 22 = .ok (.aload_n 0, 1) := by decide +kernel
theorem dX6_tickUntilStanding_23 : decode cX6_tickUntilStanding 23 = .ok (.getfield 12, 3) := by decide +kernel
theorem dX6_tickUntilStanding_26 : decode cX6_tickUntilStanding 26 = .ok (.aload_n 0, 1) := by decide +kernel
theorem dX6_tickUntilStanding_27 : decode cX6_tickUntilStanding 27 = .ok (.getfield 12, 3) := by decide +kernel
theorem dX6_tickUntilStanding_30 : decode cX6_tickUntilStanding 30 = .ok (.getfield 102, 3) := by decide +kernel
theorem dX6_tickUntilStanding_33 : decode cX6_tickUntilStanding 33 = .ok (.iload_n 1, 1) := by decide +kernel
theorem dX6_tickUntilStanding_34 : decode cX6_tickUntilStanding 34 = .ok (.aaload, 1) := by decide +kernel
theorem dX6_tickUntilStanding_35 : decode cX6_tickUntilStanding 35 = .ok (.invokevirtual 189, 3) := by decide +kernel
theorem dX6_tickUntilStanding_38 : decode cX6_tickUntilStanding 38 = .ok (.ifCond .ne 31, 3) := by decide +kernel
theorem dX6_tickUntilStanding_41 : decode cX6_tickUntilStanding 41 = .ok (.aload_n 0, 1) := by decide +kernel
theorem dX6_tickUntilStanding_42 : decode cX6_tickUntilStanding 42 = .ok (.getfield 40, 3) := by decide +kernel
theorem dX6_tickUntilStanding_45 : decode cX6_tickUntilStanding 45 = .ok (.aload_n 0, 1) := by decide +kernel
theorem dX6_tickUntilStanding_46 : decode cX6_tickUntilStanding 46 = .ok (.getfield 12, 3) := by decide +kernel
theorem dX6_tickUntilStanding_49 : decode cX6_tickUntilStanding 49 = .ok (.invokevirtual 179, 3) := by decide +kernel
theorem dX6_tickUntilStanding_52 : decode cX6_tickUntilStanding 52 = .ok (.aload_n 0, 1) := by decide +kernel
theorem dX6_tickUntilStanding_53 : decode cX6_tickUntilStanding 53 = .ok (.getfield 12, 3) := by decide +kernel
theorem dX6_tickUntilStanding_56 : decode cX6_tickUntilStanding 56 = .ok (.aload_n 0, 1) := by decide +kernel
theorem dX6_tickUntilStanding_57 : decode cX6_tickUntilStanding 57 = .ok (.getfield 31, 3) := by decide +kernel
theorem dX6_tickUntilStanding_60 : decode cX6_tickUntilStanding 60 = .ok (.invokevirtual 182, 3) := by decide +kernel
theorem dX6_tickUntilStanding_63 : decode cX6_tickUntilStanding 63 = .ok (.iinc 3 1, 3) := by decide +kernel
theorem dX6_tickUntilStanding_66 : decode cX6_tickUntilStanding 66 = .ok (.goto (-49), 3) := by decide +kernel
theorem dX6_tickUntilStanding_69 : decode cX6_tickUntilStanding 69 = .ok (.aload_n 0, 1) := by decide +kernel
theorem dX6_tickUntilStanding_70 : decode cX6_tickUntilStanding 70 = .ok (.getfield 12, 3) := by decide +kernel
theorem dX6_tickUntilStanding_73 : decode cX6_tickUntilStanding 73 = .ok (.aload_n 0, 1) := by decide +kernel
theorem dX6_tickUntilStanding_74 : decode cX6_tickUntilStanding 74 = .ok (.getfield 12, 3) := by decide +kernel
theorem dX6_tickUntilStanding_77 : decode cX6_tickUntilStanding 77 = .ok (.getfield 102, 3) := by decide +kernel
theorem dX6_tickUntilStanding_80 : decode cX6_tickUntilStanding 80 = .ok (.iload_n 1, 1) := by decide +kernel
theorem dX6_tickUntilStanding_81 : decode cX6_tickUntilStanding 81 = .ok (.aaload, 1) := by decide +kernel
theorem dX6_tickUntilStanding_82 : decode cX6_tickUntilStanding 82 = .ok (.invokevirtual 189, 3) := by decide +kernel
theorem dX6_tickUntilStanding_85 : decode cX6_tickUntilStanding 85 = .ok (.ifCond .ne 13, 3) := by decide +kernel
theorem dX6_tickUntilStanding_88 : decode cX6_tickUntilStanding 88 = .ok (.new 193, 3) := by decide +kernel
theorem dX6_tickUntilStanding_91 : decode cX6_tickUntilStanding 91 = .ok (.dup, 1) := by decide +kernel
theorem dX6_tickUntilStanding_92 : decode cX6_tickUntilStanding 92 = .ok (.ldc 195, 2) := by decide +kernel
theorem dX6_tickUntilStanding_94 : decode cX6_tickUntilStanding 94 = .ok (.invokespecial 197, 3) := by decide +kernel
theorem dX6_tickUntilStanding_97 : decode cX6_tickUntilStanding 97 = .ok (.athrow, 1) := by decide +kernel
theorem dX6_tickUntilStanding_98 : decode cX6_tickUntilStanding 98 = .ok (.iload_n 3, 1) := by decide +kernel
theorem dX6_tickUntilStanding_99 : decode cX6_tickUntilStanding 99 = .ok (.ireturn, 1) := by decide +kernel
set_option maxRecDepth 20000 in
theorem ggX6_undo_X1_bringBack : GoodIn wsX6_undo wsX1_bringBack := goodIn_r _ [11, 12, 13, 14, 15, 16, 17, 18, 19, 20, 21, 22, 23, 24, 25, 26, 27, 28, 29, 30, 31, 32, 33, 34, 35, 36, 37, 38, 39, 40, 41, 42, 43, 44, 45, 46, 47, 48, 49, 50, 51, 52, 53, 54, 55, 56, 57, 58, 59, 60, 61, 62, 63, 64, 65, 66, 67, 68, 69, 70, 71, 72, 73, 83, 84, 85, 86, 87, 88, 89, 90, 91, 92, 93, 94, 95, 96, 97, 98, 99, 100, 101, 102, 103, 104, 105, 106, 107, 108, 109, 110, 111, 112, 113, 114, 115, 116] (by decide +kernel) (by decide +kernel)
set_option maxRecDepth 20000 in
theorem gX6_undo_X1_bringBack : GoodIn wsX6_undo (wsV RX6 203 RX1 yX1_bringBack wsX1_bringBack) := goodIn_app (goodIn_of _ (by decide +kernel)) ggX6_undo_X1_bringBack
theorem dX6_undo_0 : decode cX6_undo 0 = .ok (.aload_n 0, 1) := by decide +kernel
theorem dX6_undo_1 : decode cX6_undo 1 = .ok (.getfield 40, 3) := by decide +kernel
theorem dX6_undo_4 : decode cX6_undo 4 = .ok (.getfield 198, 3) := by decide +kernel
theorem dX6_undo_7 : decode cX6_undo 7 = .ok (.ifCond .ne 13, 3) := by decide +kernel
theorem dX6_undo_10 : decode cX6_undo 10 = .ok (.new 95, 3) := by decide +kernel
theorem dX6_undo_13 : decode cX6_undo 13 = .ok (.dup, 1) := by decide +kernel
theorem dX6_undo_14 : decode cX6_undo 14 = .ok (.ldc 201, 2) := by decide +kernel
theorem dX6_undo_16 : decode cX6_undo 16 = .ok (.invokespecial 99, 3) := by decide +kernel
theorem dX6_undo_19 : decode cX6_undo 19 = .ok (.athrow, 1) := by decide +kernel
theorem dX6_undo_20 : decode cX6_undo 20 = .ok (.aload_n 0, 1) := by decide +kernel
theorem dX6_undo_21 : decode cX6_undo 21 = .ok (.getfield 40, 3) := by decide +kernel
theorem dX6_undo_24 : decode cX6_undo 24 = .ok (.aload_n 0, 1) := by decide +kernel
theorem dX6_undo_25 : decode cX6_undo 25 = .ok (.getfield 12, 3) := by decide +kernel
theorem dX6_undo_28 : decode cX6_undo 28 = .ok (.invokevirtual 203, 3) := by decide +kernel
theorem dX6_undo_31 : decode cX6_undo 31 = .ok (.aload_n 0, 1) := by decide +kernel
theorem dX6_undo_32 : decode cX6_undo 32 = .ok (.getfield 12, 3) := by decide +kernel
theorem dX6_undo_35 : decode cX6_undo 35 = .ok (.getfield 186, 3) := by decide +kernel
theorem dX6_undo_38 : decode cX6_undo 38 = .ok (.ireturn, 1) := by decide +kernel
theorem dX6_clock_0 : decode cX6_clock 0 = .ok (.aload_n 0, 1) := by decide +kernel
theorem dX6_clock_1 : decode cX6_clock 1 = .ok (.getfield 12, 3) := by decide +kernel
theorem dX6_clock_4 : decode cX6_clock 4 = .ok (.getfield 186, 3) := by decide +kernel
theorem dX6_clock_7 : decode cX6_clock 7 = .ok (.ireturn, 1) := by decide +kernel
set_option maxRecDepth 20000 in
theorem ggX6_support_X6_requireBody : GoodIn wsX6_support wsX6_requireBody := goodIn_ca (goodIn_r _ [9, 10, 11, 1, 12, 13, 14, 8, 15, 75, 76, 77, 78, 79, 80, 81, 82, 83, 84, 85, 86, 87, 88, 89, 90] (by decide +kernel) (by decide +kernel)) (goodIn_sub (fun _ h => List.mem_cons_of_mem _ (List.mem_append_left _ (List.mem_append_right _ h))) (by decide +kernel))
set_option maxRecDepth 20000 in
theorem gX6_support_X6_requireBody : GoodIn wsX6_support (wsV RX6 121 RX6 yX6_requireBody wsX6_requireBody) := goodIn_app (goodIn_of _ (by decide +kernel)) ggX6_support_X6_requireBody
set_option maxRecDepth 20000 in
theorem ggX6_support_X5_supportAt : GoodIn wsX6_support wsX5_supportAt := goodIn_ca (goodIn_r _ [20, 21, 22, 23, 24, 25, 26, 27, 28, 29, 30, 31, 32, 33, 34, 35, 36, 37, 38, 39, 40, 41, 42, 43, 8, 44, 45, 46, 47, 48, 49, 50, 51, 52, 53, 54, 55, 56, 57, 58, 59, 60, 61, 62, 19, 63, 64, 65, 66, 67, 68, 69, 70, 71, 72, 73, 74, 84, 85, 86, 87, 88, 89, 90, 91, 92, 93, 94, 95, 96, 97, 98, 99, 100, 101, 102, 103, 104, 105, 106, 107, 108, 109, 110, 111, 112, 113, 114] (by decide +kernel) (by decide +kernel)) (goodIn_sub (fun _ h => List.mem_cons_of_mem _ (List.mem_append_right _ h)) (by decide +kernel))
set_option maxRecDepth 20000 in
theorem gX6_support_X5_supportAt : GoodIn wsX6_support (wsV RX6 212 RX5 yX5_supportAt wsX5_supportAt) := goodIn_app (goodIn_of _ (by decide +kernel)) ggX6_support_X5_supportAt
theorem dX6_support_0 : decode cX6_support 0 = .ok (.aload_n 0, 1) := by decide +kernel
theorem dX6_support_1 : decode cX6_support 1 = .ok (.iload_n 1, 1) := by decide +kernel
theorem dX6_support_2 : decode cX6_support 2 = .ok (.invokevirtual 121, 3) := by decide +kernel
theorem dX6_support_5 : decode cX6_support 5 = .ok (.aload_n 0, 1) := by decide +kernel
theorem dX6_support_6 : decode cX6_support 6 = .ok (.getfield 12, 3) := by decide +kernel
theorem dX6_support_9 : decode cX6_support 9 = .ok (.getfield 102, 3) := by decide +kernel
theorem dX6_support_12 : decode cX6_support 12 = .ok (.iload_n 1, 1) := by decide +kernel
theorem dX6_support_13 : decode cX6_support 13 = .ok (.aaload, 1) := by decide +kernel
theorem dX6_support_14 : decode cX6_support 14 = .ok (.astore_n 2, 1) := by decide +kernel
theorem dX6_support_15 : decode cX6_support 15 = .ok (.aload_n 0, 1) := by decide +kernel
theorem dX6_support_16 : decode cX6_support 16 = .ok (.getfield 12, 3) := by decide +kernel
theorem dX6_support_19 : decode cX6_support 19 = .ok (.aload_n 2, 1) := by decide +kernel
theorem dX6_support_20 : decode cX6_support 20 = .ok (.aload_n 2, 1) := by decide +kernel
theorem dX6_support_21 : decode cX6_support 21 = .ok (.getfield 206, 3) := by decide +kernel
theorem dX6_support_24 : decode cX6_support 24 = .ok (.aload_n 2, 1) := by decide +kernel
theorem dX6_support_25 : decode cX6_support 25 = .ok (.getfield 209, 3) := by decide +kernel
theorem dX6_support_28 : decode cX6_support 28 = .ok (.iconst (-1), 1) := by decide +kernel
theorem dX6_support_29 : decode cX6_support 29 = .ok (.invokevirtual 212, 3) := by decide +kernel
theorem dX6_support_32 : decode cX6_support 32 = .ok (.ireturn, 1) := by decide +kernel
set_option maxRecDepth 20000 in
theorem ggX6_stands_X6_requireBody : GoodIn wsX6_stands wsX6_requireBody := goodIn_ca (goodIn_r _ [7, 8, 9, 1, 10, 11, 12, 6, 13, 80, 81, 82, 83, 84, 85, 86, 87, 88, 89, 90, 91, 92, 93, 94, 95] (by decide +kernel) (by decide +kernel)) (goodIn_sub (fun _ h => List.mem_cons_of_mem _ (List.mem_append_left _ (List.mem_append_right _ h))) (by decide +kernel))
set_option maxRecDepth 20000 in
theorem gX6_stands_X6_requireBody : GoodIn wsX6_stands (wsV RX6 121 RX6 yX6_requireBody wsX6_requireBody) := goodIn_app (goodIn_of _ (by decide +kernel)) ggX6_stands_X6_requireBody
set_option maxRecDepth 20000 in
theorem ggX6_stands_X5_isStanding : GoodIn wsX6_stands wsX5_isStanding := goodIn_ca (goodIn_r _ [18, 19, 20, 21, 22, 23, 24, 17, 25, 26, 27, 28, 29, 30, 31, 32, 33, 34, 35, 36, 37, 38, 39, 40, 41, 42, 43, 44, 45, 46, 47, 48, 6, 49, 50, 51, 52, 53, 54, 55, 56, 57, 58, 59, 60, 61, 62, 63, 64, 65, 66, 67, 68, 69, 70, 71, 72, 73, 74, 75, 76, 77, 78, 79, 96, 97, 98, 99, 100, 101, 102, 103, 104, 105, 106, 107, 108, 109, 110, 111, 89, 90, 91, 92, 93, 94, 95, 112, 113, 114, 115, 116, 117, 118, 119] (by decide +kernel) (by decide +kernel)) (goodIn_sub (fun _ h => List.mem_cons_of_mem _ (List.mem_append_right _ h)) (by decide +kernel))
set_option maxRecDepth 20000 in
theorem gX6_stands_X5_isStanding : GoodIn wsX6_stands (wsV RX6 189 RX5 yX5_isStanding wsX5_isStanding) := goodIn_app (goodIn_of _ (by decide +kernel)) ggX6_stands_X5_isStanding
theorem dX6_stands_0 : decode cX6_stands 0 = .ok (.aload_n 0, 1) := by decide +kernel
theorem dX6_stands_1 : decode cX6_stands 1 = .ok (.iload_n 1, 1) := by decide +kernel
theorem dX6_stands_2 : decode cX6_stands 2 = .ok (.invokevirtual 121, 3) := by decide +kernel
theorem dX6_stands_5 : decode cX6_stands 5 = .ok (.aload_n 0, 1) := by decide +kernel
theorem dX6_stands_6 : decode cX6_stands 6 = .ok (.getfield 12, 3) := by decide +kernel
theorem dX6_stands_9 : decode cX6_stands 9 = .ok (.aload_n 0, 1) := by decide +kernel
theorem dX6_stands_10 : decode cX6_stands 10 = .ok (.getfield 12, 3) := by decide +kernel
theorem dX6_stands_13 : decode cX6_stands 13 = .ok (.getfield 102, 3) := by decide +kernel
theorem dX6_stands_16 : decode cX6_stands 16 = .ok (.iload_n 1, 1) := by decide +kernel
theorem dX6_stands_17 : decode cX6_stands 17 = .ok (.aaload, 1) := by decide +kernel
theorem dX6_stands_18 : decode cX6_stands 18 = .ok (.invokevirtual 189, 3) := by decide +kernel
theorem dX6_stands_21 : decode cX6_stands 21 = .ok (.ireturn, 1) := by decide +kernel
set_option maxRecDepth 20000 in
theorem ggX6_below_X6_requireBody : GoodIn wsX6_below wsX6_requireBody := goodIn_ca (goodIn_r _ [10, 11, 12, 1, 13, 14, 15, 9, 16, 44, 45, 46, 47, 48, 49, 50, 51, 52, 53, 54, 55, 56, 57, 58, 59] (by decide +kernel) (by decide +kernel)) (goodIn_sub (fun _ h => List.mem_cons_of_mem _ (List.mem_append_left _ (List.mem_append_right _ h))) (by decide +kernel))
set_option maxRecDepth 20000 in
theorem gX6_below_X6_requireBody : GoodIn wsX6_below (wsV RX6 121 RX6 yX6_requireBody wsX6_requireBody) := goodIn_app (goodIn_of _ (by decide +kernel)) ggX6_below_X6_requireBody
set_option maxRecDepth 20000 in
theorem ggX6_below_X4_firmKindsBelow : GoodIn wsX6_below wsX4_firmKindsBelow := goodIn_ca (goodIn_r _ [21, 22, 23, 24, 25, 26, 27, 28, 29, 30, 31, 32, 33, 34, 20, 35, 36, 37, 9, 38, 39, 40, 41, 42, 43, 60, 61, 62, 63, 64, 65, 66, 67, 68, 69, 70, 71, 72, 73, 74, 75, 76] (by decide +kernel) (by decide +kernel)) (goodIn_sub (fun _ h => List.mem_cons_of_mem _ (List.mem_append_right _ h)) (by decide +kernel))
set_option maxRecDepth 20000 in
theorem gX6_below_X4_firmKindsBelow : GoodIn wsX6_below (wsV RX6 216 RX4 yX4_firmKindsBelow wsX4_firmKindsBelow) := goodIn_app (goodIn_of _ (by decide +kernel)) ggX6_below_X4_firmKindsBelow
theorem dX6_below_0 : decode cX6_below 0 = .ok (.aload_n 0, 1) := by decide +kernel
theorem dX6_below_1 : decode cX6_below 1 = .ok (.iload_n 1, 1) := by decide +kernel
theorem dX6_below_2 : decode cX6_below 2 = .ok (.invokevirtual 121, 3) := by decide +kernel
theorem dX6_below_5 : decode cX6_below 5 = .ok (.aload_n 0, 1) := by decide +kernel
theorem dX6_below_6 : decode cX6_below 6 = .ok (.getfield 12, 3) := by decide +kernel
theorem dX6_below_9 : decode cX6_below 9 = .ok (.getfield 102, 3) := by decide +kernel
theorem dX6_below_12 : decode cX6_below 12 = .ok (.iload_n 1, 1) := by decide +kernel
theorem dX6_below_13 : decode cX6_below 13 = .ok (.aaload, 1) := by decide +kernel
theorem dX6_below_14 : decode cX6_below 14 = .ok (.astore_n 2, 1) := by decide +kernel
theorem dX6_below_15 : decode cX6_below 15 = .ok (.aload_n 0, 1) := by decide +kernel
theorem dX6_below_16 : decode cX6_below 16 = .ok (.getfield 12, 3) := by decide +kernel
theorem dX6_below_19 : decode cX6_below 19 = .ok (.getfield 71, 3) := by decide +kernel
theorem dX6_below_22 : decode cX6_below 22 = .ok (.aload_n 2, 1) := by decide +kernel
theorem dX6_below_23 : decode cX6_below 23 = .ok (.aload_n 2, 1) := by decide +kernel
theorem dX6_below_24 : decode cX6_below 24 = .ok (.getfield 206, 3) := by decide +kernel
theorem dX6_below_27 : decode cX6_below 27 = .ok (.aload_n 2, 1) := by decide +kernel
theorem dX6_below_28 : decode cX6_below 28 = .ok (.getfield 209, 3) := by decide +kernel
theorem dX6_below_31 : decode cX6_below 31 = .ok (.invokevirtual 216, 3) := by decide +kernel
theorem dX6_below_34 : decode cX6_below 34 = .ok (.ireturn, 1) := by decide +kernel
set_option maxRecDepth 20000 in
theorem ggX6_isBlocked_X6_requireBody : GoodIn wsX6_isBlocked wsX6_requireBody := goodIn_ca (goodIn_r _ [10, 11, 12, 1, 13, 14, 15, 9, 16, 54, 55, 56, 57, 58, 59, 60, 61, 62, 63, 64, 65, 66, 67, 68, 69] (by decide +kernel) (by decide +kernel)) (goodIn_sub (fun _ h => List.mem_cons_of_mem _ (List.mem_append_left _ (List.mem_append_left _ (List.mem_append_right _ h)))) (by decide +kernel))
set_option maxRecDepth 20000 in
theorem gX6_isBlocked_X6_requireBody : GoodIn wsX6_isBlocked (wsV RX6 121 RX6 yX6_requireBody wsX6_requireBody) := goodIn_app (goodIn_of _ (by decide +kernel)) ggX6_isBlocked_X6_requireBody
set_option maxRecDepth 20000 in
theorem ggX6_isBlocked_X6_isWithin : GoodIn wsX6_isBlocked wsX6_isWithin := goodIn_r _ [16] (by decide +kernel) (by decide +kernel)
set_option maxRecDepth 20000 in
theorem gX6_isBlocked_X6_isWithin : GoodIn wsX6_isBlocked (va_wsS RX6 63 yX6_isWithin wsX6_isWithin) := goodIn_app (goodIn_of _ (by decide +kernel)) ggX6_isBlocked_X6_isWithin
set_option maxRecDepth 20000 in
theorem ggX6_isBlocked_X6_require : GoodIn wsX6_isBlocked wsX6_require := goodIn_ca (goodIn_r _ [19, 20, 21] (by decide +kernel) (by decide +kernel)) (goodIn_sub (fun _ h => List.mem_cons_of_mem _ (List.mem_append_left _ (List.mem_append_right _ h))) (by decide +kernel))
set_option maxRecDepth 20000 in
theorem gX6_isBlocked_X6_require : GoodIn wsX6_isBlocked (va_wsS RX6 67 yX6_require wsX6_require) := goodIn_app (goodIn_of _ (by decide +kernel)) ggX6_isBlocked_X6_require
set_option maxRecDepth 20000 in
theorem ggX6_isBlocked_X4_block : GoodIn wsX6_isBlocked wsX4_block := goodIn_ca (goodIn_r _ [26, 27, 28, 29, 30, 31, 32, 33, 34, 35, 36, 37, 38, 39, 40, 41, 42, 43, 44, 25, 45, 46, 47, 9, 48, 49, 50, 51, 52, 53, 70, 71, 72, 73, 74, 75, 76, 77, 78, 79, 80, 81, 82, 83, 84, 85, 86] (by decide +kernel) (by decide +kernel)) (goodIn_sub (fun _ h => List.mem_cons_of_mem _ (List.mem_append_right _ h)) (by decide +kernel))
set_option maxRecDepth 20000 in
theorem gX6_isBlocked_X4_block : GoodIn wsX6_isBlocked (wsV RX6 112 RX4 yX4_block wsX4_block) := goodIn_app (goodIn_of _ (by decide +kernel)) ggX6_isBlocked_X4_block
theorem dX6_isBlocked_0 : decode cX6_isBlocked 0 = .ok (.aload_n 0, 1) := by decide +kernel
theorem dX6_isBlocked_1 : decode cX6_isBlocked 1 = .ok (.iload_n 1, 1) := by decide +kernel
theorem dX6_isBlocked_2 : decode cX6_isBlocked 2 = .ok (.invokevirtual 121, 3) := by decide +kernel
theorem dX6_isBlocked_5 : decode cX6_isBlocked 5 = .ok (.iload_n 2, 1) := by decide +kernel
theorem dX6_isBlocked_6 : decode cX6_isBlocked 6 = .ok (.sipush (-400), 3) := by decide +kernel
theorem dX6_isBlocked_9 : decode cX6_isBlocked 9 = .ok (.sipush 400, 3) := by decide +kernel
theorem dX6_isBlocked_12 : decode cX6_isBlocked 12 = .ok (.invokestatic 63, 3) := by decide +kernel
theorem dX6_isBlocked_15 : decode cX6_isBlocked 15 = .ok (.ifCond .eq 20, 3) := by decide +kernel
theorem dX6_isBlocked_18 : decode cX6_isBlocked 18 = .ok (.iload_n 3, 1) := by decide +kernel
theorem dX6_isBlocked_19 : decode cX6_isBlocked 19 = .ok (.sipush (-400), 3) := by decide +kernel
theorem dX6_isBlocked_22 : decode cX6_isBlocked 22 = .ok (.sipush 400, 3) := by decide +kernel
theorem dX6_isBlocked_25 : decode cX6_isBlocked 25 = .ok (.invokestatic 63, 3) := by decide +kernel
theorem dX6_isBlocked_28 : decode cX6_isBlocked 28 = .ok (.ifCond .eq 7, 3) := by decide +kernel
theorem dX6_isBlocked_31 : decode cX6_isBlocked 31 = .ok (.iconst 1, 1) := by decide +kernel
theorem dX6_isBlocked_32 : decode cX6_isBlocked 32 = .ok (.goto 4, 3) := by decide +kernel
theorem dX6_isBlocked_35 : decode cX6_isBlocked 35 = .ok (.iconst 0, 1) := by decide +kernel
theorem dX6_isBlocked_36 : decode cX6_isBlocked 36 = .ok (.invokestatic 67, 3) := by decide +kernel
theorem dX6_isBlocked_39 : decode cX6_isBlocked 39 = .ok (.aload_n 0, 1) := by decide +kernel
theorem dX6_isBlocked_40 : decode cX6_isBlocked 40 = .ok (.getfield 12, 3) := by decide +kernel
theorem dX6_isBlocked_43 : decode cX6_isBlocked 43 = .ok (.getfield 102, 3) := by decide +kernel
theorem dX6_isBlocked_46 : decode cX6_isBlocked 46 = .ok (.iload_n 1, 1) := by decide +kernel
theorem dX6_isBlocked_47 : decode cX6_isBlocked 47 = .ok (.aaload, 1) := by decide +kernel
theorem dX6_isBlocked_48 : decode cX6_isBlocked 48 = .ok (.astore 4, 2) := by decide +kernel
theorem dX6_isBlocked_50 : decode cX6_isBlocked 50 = .ok (.aload_n 0, 1) := by decide +kernel
theorem dX6_isBlocked_51 : decode cX6_isBlocked 51 = .ok (.getfield 12, 3) := by decide +kernel
theorem dX6_isBlocked_54 : decode cX6_isBlocked 54 = .ok (.getfield 71, 3) := by decide +kernel
theorem dX6_isBlocked_57 : decode cX6_isBlocked 57 = .ok (.aload 4, 2) := by decide +kernel
theorem dX6_isBlocked_59 : decode cX6_isBlocked 59 = .ok (.aload 4, 2) := by decide +kernel
theorem dX6_isBlocked_61 : decode cX6_isBlocked 61 = .ok (.getfield 206, 3) := by decide +kernel
theorem dX6_isBlocked_64 : decode cX6_isBlocked 64 = .ok (.iload_n 2, 1) := by decide +kernel
theorem dX6_isBlocked_65 : decode cX6_isBlocked 65 = .ok (.iadd, 1) := by decide +kernel
theorem dX6_isBlocked_66 : decode cX6_isBlocked 66 = .ok (.aload 4, 2) := by decide +kernel
theorem dX6_isBlocked_68 : decode cX6_isBlocked 68 = .ok (.getfield 209, 3) := by decide +kernel
theorem dX6_isBlocked_71 : decode cX6_isBlocked 71 = .ok (.iload_n 3, 1) := by decide +kernel
theorem dX6_isBlocked_72 : decode cX6_isBlocked 72 = .ok (.iadd, 1) := by decide +kernel
theorem dX6_isBlocked_73 : decode cX6_isBlocked 73 = .ok (.invokevirtual 112, 3) := by decide +kernel
theorem dX6_isBlocked_76 : decode cX6_isBlocked 76 = .ok (.ireturn, 1) := by decide +kernel
set_option maxRecDepth 20000 in
theorem ggX6_clearance_X6_requireBody : GoodIn wsX6_clearance wsX6_requireBody := goodIn_ca (goodIn_r _ [8, 9, 10, 2, 11, 12, 13, 7, 14, 140, 141, 142, 143, 144, 145, 146, 147, 148, 149, 150, 151, 152, 153, 154, 155] (by decide +kernel) (by decide +kernel)) (goodIn_sub (fun _ h => List.mem_cons_of_mem _ (List.mem_append_left _ (List.mem_append_left _ (List.mem_append_right _ h)))) (by decide +kernel))
set_option maxRecDepth 20000 in
theorem gX6_clearance_X6_requireBody : GoodIn wsX6_clearance (wsV RX6 121 RX6 yX6_requireBody wsX6_requireBody) := goodIn_app (goodIn_of _ (by decide +kernel)) ggX6_clearance_X6_requireBody
set_option maxRecDepth 20000 in
theorem ggX6_clearance_X6_require : GoodIn wsX6_clearance wsX6_require := goodIn_ca (goodIn_r _ [17, 18, 19] (by decide +kernel) (by decide +kernel)) (goodIn_sub (fun _ h => List.mem_cons_of_mem _ (List.mem_append_left _ (List.mem_append_right _ h))) (by decide +kernel))
set_option maxRecDepth 20000 in
theorem gX6_clearance_X6_require : GoodIn wsX6_clearance (va_wsS RX6 67 yX6_require wsX6_require) := goodIn_app (goodIn_of _ (by decide +kernel)) ggX6_clearance_X6_require
set_option maxRecDepth 20000 in
theorem ggX6_clearance_X5_copyFrom : GoodIn wsX6_clearance wsX5_copyFrom := goodIn_r _ [24, 25, 26, 27, 28, 29, 30, 31, 32, 33, 34, 35, 36, 37, 38, 39, 40, 41, 42, 43, 44, 45, 46, 47, 48, 49, 50, 51, 52, 53, 54, 55, 56, 57, 58, 59, 60, 61, 62, 63, 64, 65, 66, 67, 68, 69, 70, 71, 72, 73, 74, 75, 76, 77, 78, 149, 150, 151, 152, 153, 154, 155, 156, 157, 158, 159, 160, 161, 162, 163, 164, 165, 166, 167, 168, 169, 170, 171, 172, 173, 174, 175, 176, 177, 178, 179] (by decide +kernel) (by decide +kernel)
set_option maxRecDepth 20000 in
theorem gX6_clearance_X5_copyFrom : GoodIn wsX6_clearance (wsV RX6 81 RX5 yX5_copyFrom wsX5_copyFrom) := goodIn_app (goodIn_of _ (by decide +kernel)) ggX6_clearance_X5_copyFrom
set_option maxRecDepth 20000 in
theorem ggX6_clearance_X5_stepSideways : GoodIn wsX6_clearance wsX5_stepSideways := goodIn_ca (goodIn_r _ [82, 83, 84, 25, 85, 86, 87, 44, 88, 48, 89, 90, 91, 34, 92, 93, 94, 95, 96, 97, 36, 98, 99, 100, 101, 102, 103, 104, 105, 106, 107, 108, 109, 49, 110, 111, 7, 112, 113, 114, 115, 116, 117, 118, 119, 120, 23, 121, 122, 123, 124, 125, 126, 127, 128, 129, 130, 131, 132, 133, 134, 27, 30, 135, 136, 137, 66, 138, 69, 68, 70, 139, 157, 158, 159, 160, 161, 162, 163, 164, 165, 166, 167, 168, 169, 170, 171, 172, 149, 150, 151, 152, 153, 154, 155, 156, 173, 174, 175, 176, 177, 178, 179] (by decide +kernel) (by decide +kernel)) (goodIn_sub (fun _ h => List.mem_cons_of_mem _ (List.mem_append_right _ h)) (by decide +kernel))
set_option maxRecDepth 20000 in
theorem gX6_clearance_X5_stepSideways : GoodIn wsX6_clearance (wsV RX6 220 RX5 yX5_stepSideways wsX5_stepSideways) := goodIn_app (goodIn_of _ (by decide +kernel)) ggX6_clearance_X5_stepSideways
theorem dX6_clearance_0 : decode cX6_clearance 0 = .ok (.aload_n 0, 1) := by decide +kernel
theorem dX6_clearance_1 : decode cX6_clearance 1 = .ok (.iload_n 1, 1) := by decide +kernel
theorem dX6_clearance_2 : decode cX6_clearance 2 = .ok (.invokevirtual 121, 3) := by decide +kernel
theorem dX6_clearance_5 : decode cX6_clearance 5 = .ok (.iload_n 2, 1) := by decide +kernel
theorem dX6_clearance_6 : decode cX6_clearance 6 = .ok (.iconst (-1), 1) := by decide +kernel
theorem dX6_clearance_7 : decode cX6_clearance 7 = .ok (.if_icmp .eq 8, 3) := by decide +kernel
theorem dX6_clearance_10 : decode cX6_clearance 10 = .ok (.iload_n 2, 1) := by decide +kernel
theorem dX6_clearance_11 : decode cX6_clearance 11 = .ok (.iconst 1, 1) := by decide +kernel
theorem dX6_clearance_12 : decode cX6_clearance 12 = .ok (.if_icmp .ne 7, 3) := by decide +kernel
theorem dX6_clearance_15 : decode cX6_clearance 15 = .ok (.iconst 1, 1) := by decide +kernel
theorem dX6_clearance_16 : decode cX6_clearance 16 = .ok (.goto 4, 3) := by decide +kernel
theorem dX6_clearance_19 : decode cX6_clearance 19 = .ok (.iconst 0, 1) := by decide +kernel
theorem dX6_clearance_20 : decode cX6_clearance 20 = .ok (.invokestatic 67, 3) := by decide +kernel
theorem dX6_clearance_23 : decode cX6_clearance 23 = .ok (.aload_n 0, 1) := by decide +kernel
theorem dX6_clearance_24 : decode cX6_clearance 24 = .ok (.getfield 16, 3) := by decide +kernel
theorem dX6_clearance_27 : decode cX6_clearance 27 = .ok (.aload_n 0, 1) := by decide +kernel
theorem dX6_clearance_28 : decode cX6_clearance 28 = .ok (.getfield 12, 3) := by decide +kernel
theorem dX6_clearance_31 : decode cX6_clearance 31 = .ok (.invokevirtual 81, 3) := by decide +kernel
theorem dX6_clearance_34 : decode cX6_clearance 34 = .ok (.iconst 0, 1) := by decide +kernel
theorem dX6_clearance_35 : decode cX6_clearance 35 = .ok (.istore_n 3, 1) := by decide +kernel
theorem dX6_clearance_36 : decode cX6_clearance 36 = .ok (.iload_n 3, 1) := by decide +kernel
theorem dX6_clearance_37 : decode cX6_clearance 37 = .ok (.sipush 400, 3) := by decide +kernel
theorem dX6_clearance_40 : decode cX6_clearance 40 = .ok (.if_icmp .ge 29, 3) := by decide +kernel
theorem dX6_clearance_43 : decode cX6_clearance 43 = .ok (.aload_n 0, 1) := by decide +kernel
theorem dX6_clearance_44 : decode cX6_clearance 44 = .ok (.getfield 16, 3) := by decide +kernel
theorem dX6_clearance_47 : decode cX6_clearance 47 = .ok (.aload_n 0, 1) := by decide +kernel
theorem dX6_clearance_48 : decode cX6_clearance 48 = .ok (.getfield 16, 3) := by decide +kernel
theorem dX6_clearance_51 : decode cX6_clearance 51 = .ok (.getfield 102, 3) := by decide +kernel
theorem dX6_clearance_54 : decode cX6_clearance 54 = .ok (.iload_n 1, 1) := by decide +kernel
theorem dX6_clearance_55 : decode cX6_clearance 55 = .ok (.aaload, 1) := by decide +kernel
theorem dX6_clearance_56 : decode cX6_clearance 56 = .ok (.iload_n 2, 1) := by decide +kernel
theorem dX6_clearance_57 : decode cX6_clearance 57 = .ok (.invokevirtual 220, 3) := by decide +kernel
theorem dX6_clearance_60 : decode cX6_clearance 60 = .ok (.ifCond .eq 9, 3) := by decide +kernel
theorem dX6_clearance_63 : decode cX6_clearance 63 = .ok (.iinc 3 1, 3) := by decide +kernel
theorem dX6_clearance_66 : decode cX6_clearance 66 = .ok (.goto (-30), 3) := by decide +kernel
theorem dX6_clearance_69 : decode cX6_clearance 69 = .ok (.iload_n 3, 1) := by decide +kernel
theorem dX6_clearance_70 : decode cX6_clearance 70 = .ok (.ireturn, 1) := by decide +kernel
set_option maxRecDepth 20000 in
theorem ggX6_drop_X6_requireBody : GoodIn wsX6_drop wsX6_requireBody := goodIn_ca (goodIn_r _ [9, 10, 11, 1, 12, 13, 14, 8, 15, 75, 76, 77, 78, 79, 80, 81, 82, 83, 84, 85, 86, 87, 88, 89, 90] (by decide +kernel) (by decide +kernel)) (goodIn_sub (fun _ h => List.mem_cons_of_mem _ (List.mem_append_left _ (List.mem_append_right _ h))) (by decide +kernel))
set_option maxRecDepth 20000 in
theorem gX6_drop_X6_requireBody : GoodIn wsX6_drop (wsV RX6 121 RX6 yX6_requireBody wsX6_requireBody) := goodIn_app (goodIn_of _ (by decide +kernel)) ggX6_drop_X6_requireBody
set_option maxRecDepth 20000 in
theorem ggX6_drop_X5_supportAt : GoodIn wsX6_drop wsX5_supportAt := goodIn_ca (goodIn_r _ [20, 21, 22, 23, 24, 25, 26, 27, 28, 29, 30, 31, 32, 33, 34, 35, 36, 37, 38, 39, 40, 41, 42, 43, 8, 44, 45, 46, 47, 48, 49, 50, 51, 52, 53, 54, 55, 56, 57, 58, 59, 60, 61, 62, 19, 63, 64, 65, 66, 67, 68, 69, 70, 71, 72, 73, 74, 84, 85, 86, 87, 88, 89, 90, 91, 92, 93, 94, 95, 96, 97, 98, 99, 100, 101, 102, 103, 104, 105, 106, 107, 108, 109, 110, 111, 112, 113, 114] (by decide +kernel) (by decide +kernel)) (goodIn_sub (fun _ h => List.mem_cons_of_mem _ (List.mem_append_right _ h)) (by decide +kernel))
set_option maxRecDepth 20000 in
theorem gX6_drop_X5_supportAt : GoodIn wsX6_drop (wsV RX6 212 RX5 yX5_supportAt wsX5_supportAt) := goodIn_app (goodIn_of _ (by decide +kernel)) ggX6_drop_X5_supportAt
theorem dX6_drop_0 : decode cX6_drop 0 = .ok (.aload_n 0, 1) := by decide +kernel
theorem dX6_drop_1 : decode cX6_drop 1 = .ok (.iload_n 1, 1) := by decide +kernel
theorem dX6_drop_2 : decode cX6_drop 2 = .ok (.invokevirtual 121, 3) := by decide +kernel
theorem dX6_drop_5 : decode cX6_drop 5 = .ok (.aload_n 0, 1) := by decide +kernel
theorem dX6_drop_6 : decode cX6_drop 6 = .ok (.getfield 12, 3) := by decide +kernel
theorem dX6_drop_9 : decode cX6_drop 9 = .ok (.getfield 102, 3) := by decide +kernel
theorem dX6_drop_12 : decode cX6_drop 12 = .ok (.iload_n 1, 1) := by decide +kernel
theorem dX6_drop_13 : decode cX6_drop 13 = .ok (.aaload, 1) := by decide +kernel
theorem dX6_drop_14 : decode cX6_drop 14 = .ok (.astore_n 2, 1) := by decide +kernel
theorem dX6_drop_15 : decode cX6_drop 15 = .ok (.aload_n 2, 1) := by decide +kernel
theorem dX6_drop_16 : decode cX6_drop 16 = .ok (.getfield 209, 3) := by decide +kernel
theorem dX6_drop_19 : decode cX6_drop 19 = .ok (.istore_n 3, 1) := by decide +kernel
theorem dX6_drop_20 : decode cX6_drop 20 = .ok (.iload_n 3, 1) := by decide +kernel
theorem dX6_drop_21 : decode cX6_drop 21 = .ok (.bipush (-40), 2) := by decide +kernel
theorem dX6_drop_23 : decode cX6_drop 23 = .ok (.if_icmp .lt 33, 3) := by decide +kernel
theorem dX6_drop_26 : decode cX6_drop 26 = .ok (.aload_n 0, 1) := by decide +kernel
theorem dX6_drop_27 : decode cX6_drop 27 = .ok (.getfield 12, 3) := by decide +kernel
theorem dX6_drop_30 : decode cX6_drop 30 = .ok (.aload_n 2, 1) := by decide +kernel
theorem dX6_drop_31 : decode cX6_drop 31 = .ok (.aload_n 2, 1) := by decide +kernel
theorem dX6_drop_32 : decode cX6_drop 32 = .ok (.getfield 206, 3) := by decide +kernel
theorem dX6_drop_35 : decode cX6_drop 35 = .ok (.iload_n 3, 1) := by decide +kernel
theorem dX6_drop_36 : decode cX6_drop 36 = .ok (.iconst (-1), 1) := by decide +kernel
theorem dX6_drop_37 : decode cX6_drop 37 = .ok (.invokevirtual 212, 3) := by decide +kernel
theorem dX6_drop_40 : decode cX6_drop 40 = .ok (.ifCond .eq 10, 3) := by decide +kernel
theorem dX6_drop_43 : decode cX6_drop 43 = .ok (.aload_n 2, 1) := by decide +kernel
theorem dX6_drop_44 : decode cX6_drop 44 = .ok (.getfield 209, 3) := by decide +kernel
theorem dX6_drop_47 : decode cX6_drop 47 = .ok (.iload_n 3, 1) := by decide +kernel
theorem dX6_drop_48 : decode cX6_drop 48 = .ok (.isub, 1) := by decide +kernel
theorem dX6_drop_49 : decode cX6_drop 49 = .ok (.ireturn, 1) := by decide +kernel
theorem dX6_drop_50 : decode cX6_drop 50 = .ok (.iinc 3 (-1), 3) := by decide +kernel
theorem dX6_drop_53 : decode cX6_drop 53 = .ok (.goto (-33), 3) := by decide +kernel
theorem dX6_drop_56 : decode cX6_drop 56 = .ok (.iconst (-1), 1) := by decide +kernel
theorem dX6_drop_57 : decode cX6_drop 57 = .ok (.ireturn, 1) := by decide +kernel
set_option maxRecDepth 20000 in
theorem ggX6_look_X6_isWithin : GoodIn wsX6_look wsX6_isWithin := goodIn_r _ [10] (by decide +kernel) (by decide +kernel)
set_option maxRecDepth 20000 in
theorem gX6_look_X6_isWithin : GoodIn wsX6_look (va_wsS RX6 63 yX6_isWithin wsX6_isWithin) := goodIn_app (goodIn_of _ (by decide +kernel)) ggX6_look_X6_isWithin
set_option maxRecDepth 20000 in
theorem ggX6_look_X6_require : GoodIn wsX6_look wsX6_require := goodIn_ca (goodIn_r _ [13, 14, 15] (by decide +kernel) (by decide +kernel)) (goodIn_sub (fun _ h => List.mem_cons_of_mem _ (List.mem_append_left _ (List.mem_append_right _ h))) (by decide +kernel))
set_option maxRecDepth 20000 in
theorem gX6_look_X6_require : GoodIn wsX6_look (va_wsS RX6 67 yX6_require wsX6_require) := goodIn_app (goodIn_of _ (by decide +kernel)) ggX6_look_X6_require
set_option maxRecDepth 20000 in
theorem ggX6_look_X0_covers : GoodIn wsX6_look wsX0_covers := goodIn_r _ [20, 21, 22, 23, 24, 8, 9, 10, 55, 56, 57, 58, 59, 60, 61, 62, 63, 64, 65, 66, 67, 68, 69, 70] (by decide +kernel) (by decide +kernel)
set_option maxRecDepth 20000 in
theorem gX6_look_X0_covers : GoodIn wsX6_look (wsV RX6 224 RX0 yX0_covers wsX0_covers) := goodIn_app (goodIn_of _ (by decide +kernel)) ggX6_look_X0_covers
set_option maxRecDepth 20000 in
theorem ggX6_look_X2_isTopOf : GoodIn wsX6_look wsX2_isTopOf := goodIn_r _ [29, 30, 31, 32, 8, 9, 10, 71, 72, 73, 74, 75, 76, 77] (by decide +kernel) (by decide +kernel)
set_option maxRecDepth 20000 in
theorem gX6_look_X2_isTopOf : GoodIn wsX6_look (wsV RX6 228 RX2 yX2_isTopOf wsX2_isTopOf) := goodIn_app (goodIn_of _ (by decide +kernel)) ggX6_look_X2_isTopOf
set_option maxRecDepth 20000 in
theorem ggX6_look_X4_kindAt : GoodIn wsX6_look wsX4_kindAt := goodIn_ca (goodIn_r _ [37, 38, 78] (by decide +kernel) (by decide +kernel)) (goodIn_sub (fun _ h => List.mem_cons_of_mem _ (List.mem_append_right _ h)) (by decide +kernel))
set_option maxRecDepth 20000 in
theorem gX6_look_X4_kindAt : GoodIn wsX6_look (wsV RX6 75 RX4 yX4_kindAt wsX4_kindAt) := goodIn_app (goodIn_of _ (by decide +kernel)) ggX6_look_X4_kindAt
theorem dX6_look_0 : decode cX6_look 0 = .ok (.iload_n 1, 1) := by decide +kernel
theorem dX6_look_1 : decode cX6_look 1 = .ok (.iconst 0, 1) := by decide +kernel
theorem dX6_look_2 : decode cX6_look 2 = .ok (.sipush 383, 3) := by decide +kernel
theorem dX6_look_5 : decode cX6_look 5 = .ok (.invokestatic 63, 3) := by decide +kernel
theorem dX6_look_8 : decode cX6_look 8 = .ok (.ifCond .eq 18, 3) := by decide +kernel
theorem dX6_look_11 : decode cX6_look 11 = .ok (.iload_n 2, 1) := by decide +kernel
theorem dX6_look_12 : decode cX6_look 12 = .ok (.iconst 0, 1) := by decide +kernel
theorem dX6_look_13 : decode cX6_look 13 = .ok (.sipush 223, 3) := by decide +kernel
theorem dX6_look_16 : decode cX6_look 16 = .ok (.invokestatic 63, 3) := by decide +kernel
theorem dX6_look_19 : decode cX6_look 19 = .ok (.ifCond .eq 7, 3) := by decide +kernel
theorem dX6_look_22 : decode cX6_look 22 = .ok (.iconst 1, 1) := by decide +kernel
theorem dX6_look_23 : decode cX6_look 23 = .ok (.goto 4, 3) := by decide +kernel
theorem dX6_look_26 : decode cX6_look 26 = .ok (.iconst 0, 1) := by decide +kernel
theorem dX6_look_27 : decode cX6_look 27 = .ok (.invokestatic 67, 3) := by decide +kernel
theorem dX6_look_30 : decode cX6_look 30 = .ok (.iconst 0, 1) := by decide +kernel
theorem dX6_look_31 : decode cX6_look 31 = .ok (.istore_n 3, 1) := by decide +kernel
theorem dX6_look_32 : decode cX6_look 32 = .ok (.iload_n 3, 1) := by decide +kernel
theorem dX6_look_33 : decode cX6_look 33 = .ok (.aload_n 0, 1) := by decide +kernel
theorem dX6_look_34 : decode cX6_look 34 = .ok (.getfield 12, 3) := by decide +kernel
theorem dX6_look_37 : decode cX6_look 37 = .ok (.getfield 92, 3) := by decide +kernel
theorem dX6_look_40 : decode cX6_look 40 = .ok (.if_icmp .ge 31, 3) := by decide +kernel
theorem dX6_look_43 : decode cX6_look 43 = .ok (.aload_n 0, 1) := by decide +kernel
theorem dX6_look_44 : decode cX6_look 44 = .ok (.getfield 12, 3) := by decide +kernel
theorem dX6_look_47 : decode cX6_look 47 = .ok (.getfield 102, 3) := by decide +kernel
theorem dX6_look_50 : decode cX6_look 50 = .ok (.iload_n 3, 1) := by decide +kernel
theorem dX6_look_51 : decode cX6_look 51 = .ok (.aaload, 1) := by decide +kernel
theorem dX6_look_52 : decode cX6_look 52 = .ok (.iload_n 1, 1) := by decide +kernel
theorem dX6_look_53 : decode cX6_look 53 = .ok (.iload_n 2, 1) := by decide +kernel
theorem dX6_look_54 : decode cX6_look 54 = .ok (.invokevirtual 224, 3) := by decide +kernel
theorem dX6_look_57 : decode cX6_look 57 = .ok (.ifCond .eq 8, 3) := by decide +kernel
theorem dX6_look_60 : decode cX6_look 60 = .ok (.bipush 100, 2) := by decide +kernel
theorem dX6_look_62 : decode cX6_look 62 = .ok (.iload_n 3, 1) := by decide +kernel
theorem dX6_look_63 : decode cX6_look 63 = .ok (.iadd, 1) := by decide +kernel
theorem dX6_look_64 : decode cX6_look 64 = .ok (.ireturn, 1) := by decide +kernel
theorem dX6_look_65 : decode cX6_look 65 = .ok (.iinc 3 1, 3) := by decide +kernel
theorem dX6_look_68 : decode cX6_look 68 = .ok (.goto (-36), 3) := by decide +kernel
theorem dX6_look_71 : decode cX6_look 71 = .ok (.iconst 0, 1) := by decide +kernel
theorem dX6_look_72 : decode cX6_look 72 = .ok (.istore_n 3, 1) := by decide +kernel
theorem dX6_look_73 : decode cX6_look 73 = .ok (.iload_n 3, 1) := by decide +kernel
theorem dX6_look_74 : decode cX6_look 74 = .ok (.aload_n 0, 1) := by decide +kernel
theorem dX6_look_75 : decode cX6_look 75 = .ok (.getfield 12, 3) := by decide +kernel
theorem dX6_look_78 : decode cX6_look 78 = .ok (.getfield 144, 3) := by decide +kernel
theorem dX6_look_81 : decode cX6_look 81 = .ok (.if_icmp .ge 32, 3) := by decide +kernel
theorem dX6_look_84 : decode cX6_look 84 = .ok (.aload_n 0, 1) := by decide +kernel
theorem dX6_look_85 : decode cX6_look 85 = .ok (.getfield 12, 3) := by decide +kernel
theorem dX6_look_88 : decode cX6_look 88 = .ok (.getfield 149, 3) := by decide +kernel
theorem dX6_look_91 : decode cX6_look 91 = .ok (.iload_n 3, 1) := by decide +kernel
theorem dX6_look_92 : decode cX6_look 92 = .ok (.aaload, 1) := by decide +kernel
theorem dX6_look_93 : decode cX6_look 93 = .ok (.iload_n 1, 1) := by decide +kernel
theorem dX6_look_94 : decode cX6_look 94 = .ok (.iload_n 2, 1) := by decide +kernel
theorem dX6_look_95 : decode cX6_look 95 = .ok (.invokevirtual 228, 3) := by decide +kernel
theorem dX6_look_98 : decode cX6_look 98 = .ok (.ifCond .eq 9, 3) := by decide +kernel
theorem dX6_look_101 : decode cX6_look 101 = .ok (.sipush 200, 3) := by decide +kernel
theorem dX6_look_104 : decode cX6_look 104 = .ok (.iload_n 3, 1) := by decide +kernel
theorem dX6_look_105 : decode cX6_look 105 = .ok (.iadd, 1) := by decide +kernel
theorem dX6_look_106 : decode cX6_look 106 = .ok (.ireturn, 1) := by decide +kernel
theorem dX6_look_107 : decode cX6_look 107 = .ok (.iinc 3 1, 3) := by decide +kernel
theorem dX6_look_110 : decode cX6_look 110 = .ok (.goto (-37), 3) := by decide +kernel
theorem dX6_look_113 : decode cX6_look 113 = .ok (.aload_n 0, 1) := by decide +kernel
theorem dX6_look_114 : decode cX6_look 114 = .ok (.getfield 12, 3) := by decide +kernel
theorem dX6_look_117 : decode cX6_look 117 = .ok (.getfield 71, 3) := by decide +kernel
theorem dX6_look_120 : decode cX6_look 120 = .ok (.iload_n 1, 1) := by decide +kernel
theorem dX6_look_121 : decode cX6_look 121 = .ok (.iconst 4, 1) := by decide +kernel
theorem dX6_look_122 : decode cX6_look 122 = .ok (.ishr, 1) := by decide +kernel
theorem dX6_look_123 : decode cX6_look 123 = .ok (.iload_n 2, 1) := by decide +kernel
theorem dX6_look_124 : decode cX6_look 124 = .ok (.iconst 4, 1) := by decide +kernel
theorem dX6_look_125 : decode cX6_look 125 = .ok (.ishr, 1) := by decide +kernel
theorem dX6_look_126 : decode cX6_look 126 = .ok (.invokevirtual 75, 3) := by decide +kernel
theorem dX6_look_129 : decode cX6_look 129 = .ok (.ireturn, 1) := by decide +kernel
set_option maxRecDepth 20000 in
theorem ggX6_ray_X6_isWithin : GoodIn wsX6_ray wsX6_isWithin := goodIn_r _ [6] (by decide +kernel) (by decide +kernel)
set_option maxRecDepth 20000 in
theorem gX6_ray_X6_isWithin : GoodIn wsX6_ray (va_wsS RX6 63 yX6_isWithin wsX6_isWithin) := goodIn_app (goodIn_of _ (by decide +kernel)) ggX6_ray_X6_isWithin
set_option maxRecDepth 20000 in
theorem ggX6_ray_X6_require : GoodIn wsX6_ray wsX6_require := goodIn_ca (goodIn_r _ [9, 10, 11] (by decide +kernel) (by decide +kernel)) (goodIn_sub (fun _ h => List.mem_cons_of_mem _ (List.mem_append_left _ (List.mem_append_right _ h))) (by decide +kernel))
set_option maxRecDepth 20000 in
theorem gX6_ray_X6_require : GoodIn wsX6_ray (va_wsS RX6 67 yX6_require wsX6_require) := goodIn_app (goodIn_of _ (by decide +kernel)) ggX6_ray_X6_require
set_option maxRecDepth 20000 in
theorem ggX6_ray_X4_isFree : GoodIn wsX6_ray wsX4_isFree := goodIn_ca (goodIn_r _ [16, 17, 18, 19, 15, 20, 21, 22, 5, 23, 24, 25, 26, 27, 28, 45] (by decide +kernel) (by decide +kernel)) (goodIn_sub (fun _ h => List.mem_cons_of_mem _ (List.mem_append_right _ h)) (by decide +kernel))
set_option maxRecDepth 20000 in
theorem gX6_ray_X4_isFree : GoodIn wsX6_ray (wsV RX6 231 RX4 yX4_isFree wsX4_isFree) := goodIn_app (goodIn_of _ (by decide +kernel)) ggX6_ray_X4_isFree
theorem dX6_ray_0 : decode cX6_ray 0 = .ok (.iload_n 1, 1) := by decide +kernel
theorem dX6_ray_1 : decode cX6_ray 1 = .ok (.iconst 0, 1) := by decide +kernel
theorem dX6_ray_2 : decode cX6_ray 2 = .ok (.sipush 383, 3) := by decide +kernel
theorem dX6_ray_5 : decode cX6_ray 5 = .ok (.invokestatic 63, 3) := by decide +kernel
theorem dX6_ray_8 : decode cX6_ray 8 = .ok (.ifCond .eq 18, 3) := by decide +kernel
theorem dX6_ray_11 : decode cX6_ray 11 = .ok (.iload_n 2, 1) := by decide +kernel
theorem dX6_ray_12 : decode cX6_ray 12 = .ok (.iconst 0, 1) := by decide +kernel
theorem dX6_ray_13 : decode cX6_ray 13 = .ok (.sipush 223, 3) := by decide +kernel
theorem dX6_ray_16 : decode cX6_ray 16 = .ok (.invokestatic 63, 3) := by decide +kernel
theorem dX6_ray_19 : decode cX6_ray 19 = .ok (.ifCond .eq 7, 3) := by decide +kernel
theorem dX6_ray_22 : decode cX6_ray 22 = .ok (.iconst 1, 1) := by decide +kernel
theorem dX6_ray_23 : decode cX6_ray 23 = .ok (.goto 4, 3) := by decide +kernel
theorem dX6_ray_26 : decode cX6_ray 26 = .ok (.iconst 0, 1) := by decide +kernel
theorem dX6_ray_27 : decode cX6_ray 27 = .ok (.invokestatic 67, 3) := by decide +kernel
theorem dX6_ray_30 : decode cX6_ray 30 = .ok (.iload_n 3, 1) := by decide +kernel
theorem dX6_ray_31 : decode cX6_ray 31 = .ok (.iconst 0, 1) := by decide +kernel
theorem dX6_ray_32 : decode cX6_ray 32 = .ok (.iconst 3, 1) := by decide +kernel
theorem dX6_ray_33 : decode cX6_ray 33 = .ok (.invokestatic 63, 3) := by decide +kernel
theorem dX6_ray_36 : decode cX6_ray 36 = .ok (.invokestatic 67, 3) := by decide +kernel
theorem dX6_ray_39 : decode cX6_ray 39 = .ok (.iload_n 3, 1) := by decide +kernel
theorem dX6_ray_40 : decode cX6_ray 40 = .ok (.ifCond .ne 7, 3) := by decide +kernel
theorem dX6_ray_43 : decode cX6_ray 43 = .ok (.iconst 1, 1) := by decide +kernel
theorem dX6_ray_44 : decode cX6_ray 44 = .ok (.goto 13, 3) := by decide +kernel
theorem dX6_ray_47 : decode cX6_ray 47 = .ok (.iload_n 3, 1) := by decide +kernel
theorem dX6_ray_48 : decode cX6_ray 48 = .ok (.iconst 2, 1) := by decide +kernel
theorem dX6_ray_49 : decode cX6_ray 49 = .ok (.if_icmp .ne 7, 3) := by decide +kernel
theorem dX6_ray_52 : decode cX6_ray 52 = .ok (.iconst (-1), 1) := by decide +kernel
theorem dX6_ray_53 : decode cX6_ray 53 = .ok (.goto 4, 3) := by decide +kernel
theorem dX6_ray_56 : decode cX6_ray 56 = .ok (.iconst 0, 1) := by decide +kernel
theorem dX6_ray_57 : decode cX6_ray 57 = .ok (.istore 4, 2) := by decide +kernel
theorem dX6_ray_59 : decode cX6_ray 59 = .ok (.iload_n 3, 1) := by decide +kernel
theorem dX6_ray_60 : decode cX6_ray 60 = .ok (.iconst 1, 1) := by decide +kernel
theorem dX6_ray_61 : decode cX6_ray 61 = .ok (.if_icmp .ne 7, 3) := by decide +kernel
theorem dX6_ray_64 : decode cX6_ray 64 = .ok (.iconst 1, 1) := by decide +kernel
theorem dX6_ray_65 : decode cX6_ray 65 = .ok (.goto 13, 3) := by decide +kernel
theorem dX6_ray_68 : decode cX6_ray 68 = .ok (.iload_n 3, 1) := by decide +kernel
theorem dX6_ray_69 : decode cX6_ray 69 = .ok (.iconst 3, 1) := by decide +kernel
theorem dX6_ray_70 : decode cX6_ray 70 = .ok (.if_icmp .ne 7, 3) := by decide +kernel
theorem dX6_ray_73 : decode cX6_ray 73 = .ok (.iconst (-1), 1) := by decide +kernel
theorem dX6_ray_74 : decode cX6_ray 74 = .ok (.goto 4, 3) := by decide +kernel
theorem dX6_ray_77 : decode cX6_ray 77 = .ok (.iconst 0, 1) := by decide +kernel
theorem dX6_ray_78 : decode cX6_ray 78 = .ok (.istore 5, 2) := by decide +kernel
theorem dX6_ray_80 : decode cX6_ray 80 = .ok (.iconst 0, 1) := by decide +kernel
theorem dX6_ray_81 : decode cX6_ray 81 = .ok (.istore 6, 2) := by decide +kernel
theorem dX6_ray_83 : decode cX6_ray 83 = .ok (.iload 6, 2) := by decide +kernel
theorem dX6_ray_85 : decode cX6_ray 85 = .ok (.sipush 400, 3) := by decide +kernel
theorem dX6_ray_88 : decode cX6_ray 88 = .ok (.if_icmp .ge 57, 3) := by decide +kernel
theorem dX6_ray_91 : decode cX6_ray 91 = .ok (.iload_n 2, 1) := by decide +kernel
theorem dX6_ray_92 : decode cX6_ray 92 = .ok (.iload 6, 2) := by decide +kernel
theorem dX6_ray_94 : decode cX6_ray 94 = .ok (.iload 5, 2) := by decide +kernel
theorem dX6_ray_96 : decode cX6_ray 96 = .ok (.imul, 1) := by decide +kernel
theorem dX6_ray_97 : decode cX6_ray 97 = .ok (.iadd, 1) := by decide +kernel
theorem dX6_ray_98 : decode cX6_ray 98 = .ok (.istore 7, 2) := by decide +kernel
theorem dX6_ray_100 : decode cX6_ray 100 = .ok (.iload 7, 2) := by decide +kernel
theorem dX6_ray_102 : decode cX6_ray 102 = .ok (.iconst 0, 1) := by decide +kernel
theorem dX6_ray_103 : decode cX6_ray 103 = .ok (.sipush 223, 3) := by decide +kernel
theorem dX6_ray_106 : decode cX6_ray 106 = .ok (.invokestatic 63, 3) := by decide +kernel
theorem dX6_ray_109 : decode cX6_ray 109 = .ok (.ifCond .ne 5, 3) := by decide +kernel
theorem dX6_ray_112 : decode cX6_ray 112 = .ok (.iconst (-1), 1) := by decide +kernel
theorem dX6_ray_113 : decode cX6_ray 113 = .ok (.ireturn, 1) := by decide +kernel
theorem dX6_ray_114 : decode cX6_ray 114 = .ok (.aload_n 0, 1) := by decide +kernel
theorem dX6_ray_115 : decode cX6_ray 115 = .ok (.getfield 12, 3) := by decide +kernel
theorem dX6_ray_118 : decode cX6_ray 118 = .ok (.getfield 71, 3) := by decide +kernel
theorem dX6_ray_121 : decode cX6_ray 121 = .ok (.iload_n 1, 1) := by decide +kernel
theorem dX6_ray_122 : decode cX6_ray 122 = .ok (.iload 6, 2) := by decide +kernel
theorem dX6_ray_124 : decode cX6_ray 124 = .ok (.iload 4, 2) := by decide +kernel
theorem dX6_ray_126 : decode cX6_ray 126 = .ok (.imul, 1) := by decide +kernel
theorem dX6_ray_127 : decode cX6_ray 127 = .ok (.iadd, 1) := by decide +kernel
theorem dX6_ray_128 : decode cX6_ray 128 = .ok (.iload 7, 2) := by decide +kernel
theorem dX6_ray_130 : decode cX6_ray 130 = .ok (.invokevirtual 231, 3) := by decide +kernel
theorem dX6_ray_133 : decode cX6_ray 133 = .ok (.ifCond .ne 6, 3) := by decide +kernel
theorem dX6_ray_136 : decode cX6_ray 136 = .ok (.iload 6, 2) := by decide +kernel
theorem dX6_ray_138 : decode cX6_ray 138 = .ok (.ireturn, 1) := by decide +kernel
theorem dX6_ray_139 : decode cX6_ray 139 = .ok (.iinc 6 1, 3) := by decide +kernel
theorem dX6_ray_142 : decode cX6_ray 142 = .ok (.goto (-59), 3) := by decide +kernel
theorem dX6_ray_145 : decode cX6_ray 145 = .ok (.iconst (-1), 1) := by decide +kernel
theorem dX6_ray_146 : decode cX6_ray 146 = .ok (.ireturn, 1) := by decide +kernel
set_option maxRecDepth 20000 in
theorem ggX6_predict_X6_requireBody : GoodIn wsX6_predict wsX6_requireBody := goodIn_ca (goodIn_r _ [10, 11, 12, 2, 13, 14, 15, 9, 16, 295, 296, 297, 298, 299, 300, 301, 302, 303, 304, 305, 306, 307, 308, 309, 310] (by decide +kernel) (by decide +kernel)) (goodIn_sub (fun _ h => List.mem_cons_of_mem _ (List.mem_append_left _ (List.mem_append_left _ (List.mem_append_right _ h)))) (by decide +kernel))
set_option maxRecDepth 20000 in
theorem gX6_predict_X6_requireBody : GoodIn wsX6_predict (wsV RX6 121 RX6 yX6_requireBody wsX6_requireBody) := goodIn_app (goodIn_of _ (by decide +kernel)) ggX6_predict_X6_requireBody
set_option maxRecDepth 20000 in
theorem ggX6_predict_X6_isWithin : GoodIn wsX6_predict wsX6_isWithin := goodIn_r _ [16] (by decide +kernel) (by decide +kernel)
set_option maxRecDepth 20000 in
theorem gX6_predict_X6_isWithin : GoodIn wsX6_predict (va_wsS RX6 63 yX6_isWithin wsX6_isWithin) := goodIn_app (goodIn_of _ (by decide +kernel)) ggX6_predict_X6_isWithin
set_option maxRecDepth 20000 in
theorem ggX6_predict_X6_require : GoodIn wsX6_predict wsX6_require := goodIn_ca (goodIn_r _ [19, 20, 21] (by decide +kernel) (by decide +kernel)) (goodIn_sub (fun _ h => List.mem_cons_of_mem _ (List.mem_append_left _ (List.mem_append_right _ h))) (by decide +kernel))
set_option maxRecDepth 20000 in
theorem gX6_predict_X6_require : GoodIn wsX6_predict (va_wsS RX6 67 yX6_require wsX6_require) := goodIn_app (goodIn_of _ (by decide +kernel)) ggX6_predict_X6_require
set_option maxRecDepth 20000 in
theorem ggX6_predict_X5_copyFrom : GoodIn wsX6_predict wsX5_copyFrom := goodIn_r _ [26, 27, 28, 29, 30, 31, 32, 33, 34, 35, 36, 37, 38, 39, 40, 41, 42, 43, 44, 45, 46, 47, 48, 49, 50, 51, 52, 53, 54, 55, 56, 57, 58, 59, 60, 61, 62, 63, 64, 65, 66, 67, 68, 69, 70, 71, 72, 73, 74, 75, 76, 77, 78, 79, 80, 304, 305, 306, 307, 308, 309, 310, 327, 311, 312, 313, 314, 315, 316, 317, 318, 319, 320, 321, 322, 323, 324, 325, 326, 328, 329, 330, 331, 332, 333, 334] (by decide +kernel) (by decide +kernel)
set_option maxRecDepth 20000 in
theorem gX6_predict_X5_copyFrom : GoodIn wsX6_predict (wsV RX6 81 RX5 yX5_copyFrom wsX5_copyFrom) := goodIn_app (goodIn_of _ (by decide +kernel)) ggX6_predict_X5_copyFrom
set_option maxRecDepth 20000 in
theorem ggX6_predict_X5_advance : GoodIn wsX6_predict wsX5_advance := goodIn_ca (goodIn_r _ [84, 30, 28, 31, 85, 86, 87, 25, 88, 89, 90, 91, 92, 93, 94, 95, 96, 97, 29, 32, 98, 99, 100, 68, 101, 71, 70, 72, 102, 103, 104, 105, 106, 107, 108, 109, 110, 111, 112, 113, 114, 115, 116, 117, 118, 119, 120, 27, 121, 122, 123, 46, 124, 50, 125, 126, 127, 36, 128, 129, 130, 131, 132, 133, 38, 134, 135, 136, 137, 138, 139, 140, 141, 142, 143, 144, 145, 51, 146, 147, 9, 148, 149, 150, 151, 152, 153, 154, 155, 156, 157, 158, 159, 160, 161, 162, 163, 164, 165, 166, 167, 168, 169, 170, 171, 172, 173, 174, 175, 176, 177, 73, 74, 76, 75, 178, 179, 180, 181, 182, 183, 184, 185, 186, 187, 188, 189, 190, 191, 192, 193, 194, 195, 196, 197, 198, 199, 200, 201, 59, 202, 203, 204, 205, 206, 207, 208, 209, 210, 211, 212, 213, 214, 215, 216, 217, 218, 219, 220, 221, 222, 223, 224, 225, 226, 227, 228, 229, 230, 231, 232, 233, 55, 57, 61, 63, 234, 235, 236, 237, 238, 239, 240, 241, 242, 243, 244, 245, 246, 247, 248, 249, 250, 251, 252, 253, 254, 255, 256, 257, 258, 259, 260, 261, 262, 263, 264, 265, 266, 267, 268, 269, 270, 271, 272, 273, 274, 14, 15, 16, 275, 276, 277, 278, 279, 280, 281, 282, 52, 48, 53, 49, 283, 284, 285, 286, 54, 56, 58, 287, 288, 289, 290, 62, 60, 304, 305, 306, 307, 308, 309, 310, 311, 312, 313, 314, 315, 316, 317, 318, 319, 320, 321, 322, 323, 324, 325, 326, 328, 329, 330, 331, 332, 333, 334, 327] (by decide +kernel) (by decide +kernel)) (goodIn_sub (fun _ h => List.mem_cons_of_mem _ (List.mem_append_right _ h)) (by decide +kernel))
set_option maxRecDepth 20000 in
theorem gX6_predict_X5_advance : GoodIn wsX6_predict (wsV RX6 182 RX5 yX5_advance wsX5_advance) := goodIn_app (goodIn_of _ (by decide +kernel)) ggX6_predict_X5_advance
set_option maxRecDepth 20000 in
theorem ggX6_predict_X0_number : GoodIn wsX6_predict wsX0_number := goodIn_r _ [294, 48, 49, 54, 55, 56, 57, 58, 50, 51, 59, 311, 312, 313, 314, 315, 316, 317, 318, 319, 320, 321, 322, 323, 324, 325, 326] (by decide +kernel) (by decide +kernel)
set_option maxRecDepth 20000 in
theorem gX6_predict_X0_number : GoodIn wsX6_predict (wsV RX6 128 RX0 yX0_number wsX0_number) := goodIn_app (goodIn_of _ (by decide +kernel)) ggX6_predict_X0_number
theorem dX6_predict_0 : decode cX6_predict 0 = .ok (.aload_n 0, 1) := by decide +kernel
theorem dX6_predict_1 : decode cX6_predict 1 = .ok (.iload_n 1, 1) := by decide +kernel
theorem dX6_predict_2 : decode cX6_predict 2 = .ok (.invokevirtual 121, 3) := by decide +kernel
theorem dX6_predict_5 : decode cX6_predict 5 = .ok (.iload_n 2, 1) := by decide +kernel
theorem dX6_predict_6 : decode cX6_predict 6 = .ok (.iconst 0, 1) := by decide +kernel
theorem dX6_predict_7 : decode cX6_predict 7 = .ok (.bipush 15, 2) := by decide +kernel
theorem dX6_predict_9 : decode cX6_predict 9 = .ok (.invokestatic 63, 3) := by decide +kernel
theorem dX6_predict_12 : decode cX6_predict 12 = .ok (.ifCond .eq 28, 3) := by decide +kernel
theorem dX6_predict_15 : decode cX6_predict 15 = .ok (.iload_n 3, 1) := by decide +kernel
theorem dX6_predict_16 : decode cX6_predict 16 = .ok (.iconst 1, 1) := by decide +kernel
theorem dX6_predict_17 : decode cX6_predict 17 = .ok (.bipush 40, 2) := by decide +kernel
theorem dX6_predict_19 : decode cX6_predict 19 = .ok (.invokestatic 63, 3) := by decide +kernel
theorem dX6_predict_22 : decode cX6_predict 22 = .ok (.ifCond .eq 18, 3) := by decide +kernel
theorem dX6_predict_25 : decode cX6_predict 25 = .ok (.iload 4, 2) := by decide +kernel
theorem dX6_predict_27 : decode cX6_predict 27 = .ok (.iconst 0, 1) := by decide +kernel
theorem dX6_predict_28 : decode cX6_predict 28 = .ok (.bipush 6, 2) := by decide +kernel
theorem dX6_predict_30 : decode cX6_predict 30 = .ok (.invokestatic 63, 3) := by decide +kernel
theorem dX6_predict_33 : decode cX6_predict 33 = .ok (.ifCond .eq 7, 3) := by decide +kernel
theorem dX6_predict_36 : decode cX6_predict 36 = .ok (.iconst 1, 1) := by decide +kernel
theorem dX6_predict_37 : decode cX6_predict 37 = .ok (.goto 4, 3) := by decide +kernel
theorem dX6_predict_40 : decode cX6_predict 40 = .ok (.iconst 0, 1) := by decide +kernel
theorem dX6_predict_41 : decode cX6_predict 41 = .ok (.invokestatic 67, 3) := by decide +kernel
theorem dX6_predict_44 : decode cX6_predict 44 = .ok (.aload_n 0, 1) := by decide +kernel
theorem dX6_predict_45 : decode cX6_predict 45 = .ok (.getfield 16, 3) := by decide +kernel
theorem dX6_predict_48 : decode cX6_predict 48 = .ok (.aload_n 0, 1) := by decide +kernel
theorem dX6_predict_49 : decode cX6_predict 49 = .ok (.getfield 12, 3) := by decide +kernel
theorem dX6_predict_52 : decode cX6_predict 52 = .ok (.invokevirtual 81, 3) := by decide +kernel
theorem dX6_predict_55 : decode cX6_predict 55 = .ok (.aload_n 0, 1) := by decide +kernel
theorem dX6_predict_56 : decode cX6_predict 56 = .ok (.getfield 16, 3) := by decide +kernel
theorem dX6_predict_59 : decode cX6_predict 59 = .ok (.getfield 102, 3) := by decide +kernel
theorem dX6_predict_62 : decode cX6_predict 62 = .ok (.iload_n 1, 1) := by decide +kernel
theorem dX6_predict_63 : decode cX6_predict 63 = .ok (.aaload, 1) := by decide +kernel
theorem dX6_predict_64 : decode cX6_predict 64 = .ok (.iload_n 2, 1) := by decide +kernel
theorem dX6_predict_65 : decode cX6_predict 65 = .ok (.putfield 132, 3) := by decide +kernel
theorem dX6_predict_68 : decode cX6_predict 68 = .ok (.iconst 0, 1) := by decide +kernel
theorem dX6_predict_69 : decode cX6_predict 69 = .ok (.istore 5, 2) := by decide +kernel
theorem dX6_predict_71 : decode cX6_predict 71 = .ok (.iload 5, 2) := by decide +kernel
theorem dX6_predict_73 : decode cX6_predict 73 = .ok (.iload_n 3, 1) := by decide +kernel
theorem dX6_predict_74 : decode cX6_predict 74 = .ok (.if_icmp .ge 20, 3) := by decide +kernel
theorem dX6_predict_77 : decode cX6_predict 77 = .ok (.aload_n 0, 1) := by decide +kernel
theorem dX6_predict_78 : decode cX6_predict 78 = .ok (.getfield 16, 3) := by decide +kernel
theorem dX6_predict_81 : decode cX6_predict 81 = .ok (.aload_n 0, 1) := by decide +kernel
theorem dX6_predict_82 : decode cX6_predict 82 = .ok (.getfield 31, 3) := by decide +kernel
theorem dX6_predict_85 : decode cX6_predict 85 = .ok (.invokevirtual 182, 3) := by decide +kernel
theorem dX6_predict_88 : decode cX6_predict 88 = .ok (.iinc 5 1, 3) := by decide +kernel
theorem dX6_predict_91 : decode cX6_predict 91 = .ok (.goto (-20), 3) := by decide +kernel
theorem dX6_predict_94 : decode cX6_predict 94 = .ok (.aload_n 0, 1) := by decide +kernel
theorem dX6_predict_95 : decode cX6_predict 95 = .ok (.getfield 16, 3) := by decide +kernel
theorem dX6_predict_98 : decode cX6_predict 98 = .ok (.getfield 102, 3) := by decide +kernel
theorem dX6_predict_101 : decode cX6_predict 101 = .ok (.iload_n 1, 1) := by decide +kernel
theorem dX6_predict_102 : decode cX6_predict 102 = .ok (.aaload, 1) := by decide +kernel
theorem dX6_predict_103 : decode cX6_predict 103 = .ok (.iload 4, 2) := by decide +kernel
theorem dX6_predict_105 : decode cX6_predict 105 = .ok (.invokevirtual 128, 3) := by decide +kernel
theorem dX6_predict_108 : decode cX6_predict 108 = .ok (.ireturn, 1) := by decide +kernel
set_option maxRecDepth 20000 in
theorem ggX6_apex_X6_requireBody : GoodIn wsX6_apex wsX6_requireBody := goodIn_ca (goodIn_r _ [15, 16, 17, 2, 18, 19, 20, 14, 21, 293, 294, 295, 296, 297, 298, 299, 300, 301, 302, 303, 304, 305, 306, 307, 308] (by decide +kernel) (by decide +kernel)) (goodIn_sub (fun _ h => List.mem_cons_of_mem _ (List.mem_append_left _ (List.mem_append_left _ (List.mem_append_right _ h)))) (by decide +kernel))
set_option maxRecDepth 20000 in
theorem gX6_apex_X6_requireBody : GoodIn wsX6_apex (wsV RX6 121 RX6 yX6_requireBody wsX6_requireBody) := goodIn_app (goodIn_of _ (by decide +kernel)) ggX6_apex_X6_requireBody
set_option maxRecDepth 20000 in
theorem ggX6_apex_X6_isWithin : GoodIn wsX6_apex wsX6_isWithin := goodIn_r _ [21] (by decide +kernel) (by decide +kernel)
set_option maxRecDepth 20000 in
theorem gX6_apex_X6_isWithin : GoodIn wsX6_apex (va_wsS RX6 63 yX6_isWithin wsX6_isWithin) := goodIn_app (goodIn_of _ (by decide +kernel)) ggX6_apex_X6_isWithin
set_option maxRecDepth 20000 in
theorem ggX6_apex_X6_require : GoodIn wsX6_apex wsX6_require := goodIn_ca (goodIn_r _ [24, 25, 26] (by decide +kernel) (by decide +kernel)) (goodIn_sub (fun _ h => List.mem_cons_of_mem _ (List.mem_append_left _ (List.mem_append_right _ h))) (by decide +kernel))
set_option maxRecDepth 20000 in
theorem gX6_apex_X6_require : GoodIn wsX6_apex (va_wsS RX6 67 yX6_require wsX6_require) := goodIn_app (goodIn_of _ (by decide +kernel)) ggX6_apex_X6_require
set_option maxRecDepth 20000 in
theorem ggX6_apex_X5_copyFrom : GoodIn wsX6_apex wsX5_copyFrom := goodIn_r _ [31, 32, 33, 34, 35, 36, 37, 38, 39, 40, 41, 42, 43, 44, 45, 46, 47, 48, 49, 50, 51, 52, 53, 54, 55, 56, 57, 58, 59, 60, 61, 62, 63, 64, 65, 66, 67, 68, 69, 70, 71, 72, 73, 74, 75, 76, 77, 78, 79, 80, 81, 82, 83, 84, 85, 302, 303, 304, 305, 306, 307, 308, 325, 309, 310, 311, 312, 313, 314, 315, 316, 317, 318, 319, 320, 321, 322, 323, 324, 326, 327, 328, 329, 330, 331, 332] (by decide +kernel) (by decide +kernel)
set_option maxRecDepth 20000 in
theorem gX6_apex_X5_copyFrom : GoodIn wsX6_apex (wsV RX6 81 RX5 yX5_copyFrom wsX5_copyFrom) := goodIn_app (goodIn_of _ (by decide +kernel)) ggX6_apex_X5_copyFrom
set_option maxRecDepth 20000 in
theorem ggX6_apex_X5_advance : GoodIn wsX6_apex wsX5_advance := goodIn_ca (goodIn_r _ [89, 35, 33, 36, 90, 91, 92, 30, 93, 94, 95, 96, 97, 98, 99, 100, 101, 102, 34, 37, 103, 104, 105, 73, 106, 76, 75, 77, 107, 108, 109, 110, 111, 112, 113, 114, 115, 116, 117, 118, 9, 119, 120, 121, 122, 123, 124, 32, 125, 126, 127, 51, 128, 55, 129, 130, 131, 41, 132, 133, 134, 135, 136, 137, 43, 138, 139, 140, 141, 142, 143, 144, 145, 146, 147, 148, 149, 56, 150, 151, 14, 152, 153, 154, 155, 156, 157, 158, 159, 160, 161, 162, 163, 164, 165, 166, 167, 168, 169, 170, 171, 172, 173, 174, 175, 176, 177, 178, 179, 180, 181, 78, 79, 81, 80, 182, 183, 184, 185, 186, 187, 188, 189, 190, 191, 192, 193, 194, 195, 196, 197, 198, 199, 200, 201, 202, 203, 204, 205, 64, 206, 207, 208, 209, 210, 211, 212, 213, 214, 215, 216, 217, 218, 219, 220, 221, 222, 223, 224, 225, 226, 227, 8, 10, 228, 229, 230, 231, 232, 233, 234, 235, 60, 62, 66, 68, 236, 237, 238, 239, 240, 241, 242, 243, 244, 245, 246, 247, 248, 249, 250, 251, 252, 253, 254, 255, 256, 257, 258, 259, 260, 261, 262, 263, 264, 265, 266, 267, 268, 269, 270, 271, 272, 273, 274, 275, 276, 19, 20, 21, 277, 278, 279, 280, 281, 282, 283, 284, 57, 53, 58, 54, 285, 286, 287, 288, 59, 61, 63, 289, 290, 291, 292, 67, 65, 302, 303, 304, 305, 306, 307, 308, 309, 310, 311, 312, 313, 314, 315, 316, 317, 318, 319, 320, 321, 322, 323, 324, 326, 327, 328, 329, 330, 331, 332, 325] (by decide +kernel) (by decide +kernel)) (goodIn_sub (fun _ h => List.mem_cons_of_mem _ (List.mem_append_right _ h)) (by decide +kernel))
set_option maxRecDepth 20000 in
theorem gX6_apex_X5_advance : GoodIn wsX6_apex (wsV RX6 182 RX5 yX5_advance wsX5_advance) := goodIn_app (goodIn_of _ (by decide +kernel)) ggX6_apex_X5_advance
theorem dX6_apex_0 : decode cX6_apex 0 = .ok (.aload_n 0, 1) := by decide +kernel
theorem dX6_apex_1 : decode cX6_apex 1 = .ok (.iload_n 1, 1) := by decide +kernel
theorem dX6_apex_2 : decode cX6_apex 2 = .ok (.invokevirtual 121, 3) := by decide +kernel
theorem dX6_apex_5 : decode cX6_apex 5 = .ok (.iload_n 2, 1) := by decide +kernel
theorem dX6_apex_6 : decode cX6_apex 6 = .ok (.iconst 0, 1) := by decide +kernel
theorem dX6_apex_7 : decode cX6_apex 7 = .ok (.bipush 15, 2) := by decide +kernel
theorem dX6_apex_9 : decode cX6_apex 9 = .ok (.invokestatic 63, 3) := by decide +kernel
theorem dX6_apex_12 : decode cX6_apex 12 = .ok (.ifCond .eq 17, 3) := by decide +kernel
theorem dX6_apex_15 : decode cX6_apex 15 = .ok (.iload_n 3, 1) := by decide +kernel
theorem dX6_apex_16 : decode cX6_apex 16 = .ok (.iconst 1, 1) := by decide +kernel
theorem dX6_apex_17 : decode cX6_apex 17 = .ok (.bipush 40, 2) := by decide +kernel
theorem dX6_apex_19 : decode cX6_apex 19 = .ok (.invokestatic 63, 3) := by decide +kernel
theorem dX6_apex_22 : decode cX6_apex 22 = .ok (.ifCond .eq 7, 3) := by decide +kernel
theorem dX6_apex_25 : decode cX6_apex 25 = .ok (.iconst 1, 1) := by decide +kernel
theorem dX6_apex_26 : decode cX6_apex 26 = .ok (.goto 4, 3) := by decide +kernel
theorem dX6_apex_29 : decode cX6_apex 29 = .ok (.iconst 0, 1) := by decide +kernel
theorem dX6_apex_30 : decode cX6_apex 30 = .ok (.invokestatic 67, 3) := by decide +kernel
theorem dX6_apex_33 : decode cX6_apex 33 = .ok (.aload_n 0, 1) := by decide +kernel
theorem dX6_apex_34 : decode cX6_apex 34 = .ok (.getfield 16, 3) := by decide +kernel
theorem dX6_apex_37 : decode cX6_apex 37 = .ok (.aload_n 0, 1) := by decide +kernel
theorem dX6_apex_38 : decode cX6_apex 38 = .ok (.getfield 12, 3) := by decide +kernel
theorem dX6_apex_41 : decode cX6_apex 41 = .ok (.invokevirtual 81, 3) := by decide +kernel
theorem dX6_apex_44 : decode cX6_apex 44 = .ok (.aload_n 0, 1) := by decide +kernel
theorem dX6_apex_45 : decode cX6_apex 45 = .ok (.getfield 16, 3) := by decide +kernel
theorem dX6_apex_48 : decode cX6_apex 48 = .ok (.getfield 102, 3) := by decide +kernel
theorem dX6_apex_51 : decode cX6_apex 51 = .ok (.iload_n 1, 1) := by decide +kernel
theorem dX6_apex_52 : decode cX6_apex 52 = .ok (.aaload, 1) := by decide +kernel
theorem dX6_apex_53 : decode cX6_apex 53 = .ok (.astore 4, 2) := by decide +kernel
theorem dX6_apex_55 : decode cX6_apex 55 = .ok (.aload 4, 2) := by decide +kernel
theorem dX6_apex_57 : decode cX6_apex 57 = .ok (.iload_n 2, 1) := by decide +kernel
theorem dX6_apex_58 : decode cX6_apex 58 = .ok (.putfield 132, 3) := by decide +kernel
theorem dX6_apex_61 : decode cX6_apex 61 = .ok (.aload 4, 2) := by decide +kernel
theorem dX6_apex_63 : decode cX6_apex 63 = .ok (.getfield 209, 3) := by decide +kernel
theorem dX6_apex_66 : decode cX6_apex 66 = .ok (.istore 5, 2) := by decide +kernel
theorem dX6_apex_68 : decode cX6_apex 68 = .ok (.iconst 0, 1) := by decide +kernel
theorem dX6_apex_69 : decode cX6_apex 69 = .ok (.istore 6, 2) := by decide +kernel
theorem dX6_apex_71 : decode cX6_apex 71 = .ok (.iload 6, 2) := by decide +kernel
theorem dX6_apex_73 : decode cX6_apex 73 = .ok (.iload_n 3, 1) := by decide +kernel
theorem dX6_apex_74 : decode cX6_apex 74 = .ok (.if_icmp .ge 32, 3) := by decide +kernel
theorem dX6_apex_77 : decode cX6_apex 77 = .ok (.aload_n 0, 1) := by decide +kernel
theorem dX6_apex_78 : decode cX6_apex 78 = .ok (.getfield 16, 3) := by decide +kernel
theorem dX6_apex_81 : decode cX6_apex 81 = .ok (.aload_n 0, 1) := by decide +kernel
theorem dX6_apex_82 : decode cX6_apex 82 = .ok (.getfield 31, 3) := by decide +kernel
theorem dX6_apex_85 : decode cX6_apex 85 = .ok (.invokevirtual 182, 3) := by decide +kernel
theorem dX6_apex_88 : decode cX6_apex 88 = .ok (.iload 5, 2) := by decide +kernel
theorem dX6_apex_90 : decode cX6_apex 90 = .ok (.aload 4, 2) := by decide +kernel
theorem dX6_apex_92 : decode cX6_apex 92 = .ok (.getfield 209, 3) := by decide +kernel
theorem dX6_apex_95 : decode cX6_apex 95 = .ok (.invokestatic 234, 3) := by decide +kernel
theorem dX6_apex_98 : decode cX6_apex 98 = .ok (.istore 5, 2) := by decide +kernel
theorem dX6_apex_100 : decode cX6_apex 100 = .ok (.iinc 6 1, 3) := by decide +kernel
theorem dX6_apex_103 : decode cX6_apex 103 = .ok (.goto (-32), 3) := by decide +kernel
theorem dX6_apex_106 : decode cX6_apex 106 = .ok (.iload 5, 2) := by decide +kernel
theorem dX6_apex_108 : decode cX6_apex 108 = .ok (.ireturn, 1) := by decide +kernel
set_option maxRecDepth 20000 in
theorem ggX6_statistic_X6_requireBody : GoodIn wsX6_statistic wsX6_requireBody := goodIn_ca (goodIn_r _ [8, 9, 10, 1, 11, 12, 13, 7, 14, 20, 21, 22, 23, 24, 25, 26, 27, 28, 29, 30, 31, 32, 33, 34, 35] (by decide +kernel) (by decide +kernel)) (goodIn_sub (fun _ h => List.mem_cons_of_mem _ (List.mem_append_left _ (List.mem_append_right _ h))) (by decide +kernel))
set_option maxRecDepth 20000 in
theorem gX6_statistic_X6_requireBody : GoodIn wsX6_statistic (wsV RX6 121 RX6 yX6_requireBody wsX6_requireBody) := goodIn_app (goodIn_of _ (by decide +kernel)) ggX6_statistic_X6_requireBody
set_option maxRecDepth 20000 in
theorem ggX6_statistic_X6_isWithin : GoodIn wsX6_statistic wsX6_isWithin := goodIn_r _ [14] (by decide +kernel) (by decide +kernel)
set_option maxRecDepth 20000 in
theorem gX6_statistic_X6_isWithin : GoodIn wsX6_statistic (va_wsS RX6 63 yX6_isWithin wsX6_isWithin) := goodIn_app (goodIn_of _ (by decide +kernel)) ggX6_statistic_X6_isWithin
set_option maxRecDepth 20000 in
theorem ggX6_statistic_X6_require : GoodIn wsX6_statistic wsX6_require := goodIn_ca (goodIn_r _ [17, 18, 19] (by decide +kernel) (by decide +kernel)) (goodIn_sub (fun _ h => List.mem_cons_of_mem _ (List.mem_append_right _ h)) (by decide +kernel))
set_option maxRecDepth 20000 in
theorem gX6_statistic_X6_require : GoodIn wsX6_statistic (va_wsS RX6 67 yX6_require wsX6_require) := goodIn_app (goodIn_of _ (by decide +kernel)) ggX6_statistic_X6_require
theorem dX6_statistic_0 : decode cX6_statistic 0 = .ok (.aload_n 0, 1) := by decide +kernel
theorem dX6_statistic_1 : decode cX6_statistic 1 = .ok (.iload_n 1, 1) := by decide +kernel
theorem dX6_statistic_2 : decode cX6_statistic 2 = .ok (.invokevirtual 121, 3) := by decide +kernel
theorem dX6_statistic_5 : decode cX6_statistic 5 = .ok (.iload_n 2, 1) := by decide +kernel
theorem dX6_statistic_6 : decode cX6_statistic 6 = .ok (.iconst 0, 1) := by decide +kernel
theorem dX6_statistic_7 : decode cX6_statistic 7 = .ok (.bipush 6, 2) := by decide +kernel
theorem dX6_statistic_9 : decode cX6_statistic 9 = .ok (.invokestatic 63, 3) := by decide +kernel
theorem dX6_statistic_12 : decode cX6_statistic 12 = .ok (.invokestatic 67, 3) := by decide +kernel
theorem dX6_statistic_15 : decode cX6_statistic 15 = .ok (.aload_n 0, 1) := by decide +kernel
theorem dX6_statistic_16 : decode cX6_statistic 16 = .ok (.getfield 12, 3) := by decide +kernel
theorem dX6_statistic_19 : decode cX6_statistic 19 = .ok (.getfield 102, 3) := by decide +kernel
theorem dX6_statistic_22 : decode cX6_statistic 22 = .ok (.iload_n 1, 1) := by decide +kernel
theorem dX6_statistic_23 : decode cX6_statistic 23 = .ok (.aaload, 1) := by decide +kernel
theorem dX6_statistic_24 : decode cX6_statistic 24 = .ok (.getfield 239, 3) := by decide +kernel
theorem dX6_statistic_27 : decode cX6_statistic 27 = .ok (.iload_n 2, 1) := by decide +kernel
theorem dX6_statistic_28 : decode cX6_statistic 28 = .ok (.iaload, 1) := by decide +kernel
theorem dX6_statistic_29 : decode cX6_statistic 29 = .ok (.ireturn, 1) := by decide +kernel
set_option maxRecDepth 20000 in
theorem ggX6_meanMoves_X6_requireBody : GoodIn wsX6_meanMoves wsX6_requireBody := goodIn_ca (goodIn_r _ [11, 12, 13, 3, 14, 15, 16, 10, 17, 18, 19, 20, 21, 22, 23, 24, 25, 26, 27, 28, 29, 30, 31, 32, 33] (by decide +kernel) (by decide +kernel)) (goodIn_sub (fun _ h => List.mem_cons_of_mem _ (List.mem_append_right _ h)) (by decide +kernel))
set_option maxRecDepth 20000 in
theorem gX6_meanMoves_X6_requireBody : GoodIn wsX6_meanMoves (wsV RX6 121 RX6 yX6_requireBody wsX6_requireBody) := goodIn_app (goodIn_of _ (by decide +kernel)) ggX6_meanMoves_X6_requireBody
theorem dX6_meanMoves_0 : decode cX6_meanMoves 0 = .ok (.aload_n 0, 1) := by decide +kernel
theorem dX6_meanMoves_1 : decode cX6_meanMoves 1 = .ok (.iload_n 1, 1) := by decide +kernel
theorem dX6_meanMoves_2 : decode cX6_meanMoves 2 = .ok (.invokevirtual 121, 3) := by decide +kernel
theorem dX6_meanMoves_5 : decode cX6_meanMoves 5 = .ok (.aload_n 0, 1) := by decide +kernel
theorem dX6_meanMoves_6 : decode cX6_meanMoves 6 = .ok (.getfield 12, 3) := by decide +kernel
theorem dX6_meanMoves_9 : decode cX6_meanMoves 9 = .ok (.getfield 102, 3) := by decide +kernel
theorem dX6_meanMoves_12 : decode cX6_meanMoves 12 = .ok (.iload_n 1, 1) := by decide +kernel
theorem dX6_meanMoves_13 : decode cX6_meanMoves 13 = .ok (.aaload, 1) := by decide +kernel
theorem dX6_meanMoves_14 : decode cX6_meanMoves 14 = .ok (.astore_n 2, 1) := by decide +kernel
theorem dX6_meanMoves_15 : decode cX6_meanMoves 15 = .ok (.aload_n 2, 1) := by decide +kernel
theorem dX6_meanMoves_16 : decode cX6_meanMoves 16 = .ok (.getfield 242, 3) := by decide +kernel
theorem dX6_meanMoves_19 : decode cX6_meanMoves 19 = .ok (.ifCond .ne 13, 3) := by decide +kernel
theorem dX6_meanMoves_22 : decode cX6_meanMoves 22 = .ok (.new 245, 3) := by decide +kernel
theorem dX6_meanMoves_25 : decode cX6_meanMoves 25 = .ok (.dup, 1) := by decide +kernel
theorem dX6_meanMoves_26 : decode cX6_meanMoves 26 = .ok (.ldc 247, 2) := by decide +kernel
theorem dX6_meanMoves_28 : decode cX6_meanMoves 28 = .ok (.invokespecial 249, 3) := by decide +kernel
theorem dX6_meanMoves_31 : decode cX6_meanMoves 31 = .ok (.athrow, 1) := by decide +kernel
theorem dX6_meanMoves_32 : decode cX6_meanMoves 32 = .ok (.aload_n 2, 1) := by decide +kernel
theorem dX6_meanMoves_33 : decode cX6_meanMoves 33 = .ok (.getfield 239, 3) := by decide +kernel
theorem dX6_meanMoves_36 : decode cX6_meanMoves 36 = .ok (.iconst 4, 1) := by decide +kernel
theorem dX6_meanMoves_37 : decode cX6_meanMoves 37 = .ok (.iaload, 1) := by decide +kernel
theorem dX6_meanMoves_38 : decode cX6_meanMoves 38 = .ok (.i2f, 1) := by decide +kernel
theorem dX6_meanMoves_39 : decode cX6_meanMoves 39 = .ok (.aload_n 2, 1) := by decide +kernel
theorem dX6_meanMoves_40 : decode cX6_meanMoves 40 = .ok (.getfield 242, 3) := by decide +kernel
theorem dX6_meanMoves_43 : decode cX6_meanMoves 43 = .ok (.i2f, 1) := by decide +kernel
theorem dX6_meanMoves_44 : decode cX6_meanMoves 44 = .ok (.fdiv, 1) := by decide +kernel
theorem dX6_meanMoves_45 : decode cX6_meanMoves 45 = .ok (.freturn, 1) := by decide +kernel
set_option maxRecDepth 20000 in
theorem ggX6_append_X3_takeIn : GoodIn wsX6_append wsX3_takeIn := goodIn_ca (goodIn_r _ [8, 9, 10, 20, 21, 22, 23, 24] (by decide +kernel) (by decide +kernel)) (goodIn_sub (fun _ h => List.mem_cons_of_mem _ (List.mem_append_right _ h)) (by decide +kernel))
set_option maxRecDepth 20000 in
theorem gX6_append_X3_takeIn : GoodIn wsX6_append (wsV RX6 250 RX3 yX3_takeIn wsX3_takeIn) := goodIn_app (goodIn_of _ (by decide +kernel)) ggX6_append_X3_takeIn
theorem dX6_append_0 : decode cX6_append 0 = .ok (.aload_n 0, 1) := by decide +kernel
theorem dX6_append_1 : decode cX6_append 1 = .ok (.getfield 47, 3) := by decide +kernel
theorem dX6_append_4 : decode cX6_append 4 = .ok (.iload_n 1, 1) := by decide +kernel
theorem dX6_append_5 : decode cX6_append 5 = .ok (.invokevirtual 250, 3) := by decide +kernel
theorem dX6_append_8 : decode cX6_append 8 = .ok (.ifCond .ne 13, 3) := by decide +kernel
theorem dX6_append_11 : decode cX6_append 11 = .ok (.new 95, 3) := by decide +kernel
theorem dX6_append_14 : decode cX6_append 14 = .ok (.dup, 1) := by decide +kernel
theorem dX6_append_15 : decode cX6_append 15 = .ok (.ldc 254, 2) := by decide +kernel
theorem dX6_append_17 : decode cX6_append 17 = .ok (.invokespecial 99, 3) := by decide +kernel
theorem dX6_append_20 : decode cX6_append 20 = .ok (.athrow, 1) := by decide +kernel
theorem dX6_append_21 : decode cX6_append 21 = .ok (.return_, 1) := by decide +kernel
set_option maxRecDepth 20000 in
theorem ggX6_readTiles_X3_takeOut : GoodIn wsX6_readTiles wsX3_takeOut := goodIn_r _ [12, 13, 217, 218, 219, 220, 221] (by decide +kernel) (by decide +kernel)
set_option maxRecDepth 20000 in
theorem gX6_readTiles_X3_takeOut : GoodIn wsX6_readTiles (wsV RX6 256 RX3 yX3_takeOut wsX3_takeOut) := goodIn_app (goodIn_of _ (by decide +kernel)) ggX6_readTiles_X3_takeOut
set_option maxRecDepth 20000 in
theorem ggX6_readTiles_X6_requireTile : GoodIn wsX6_readTiles wsX6_requireTile := goodIn_ca (goodIn_r _ [17, 18, 19, 20, 21, 16, 22, 23, 24, 25] (by decide +kernel) (by decide +kernel)) (goodIn_sub (fun _ h => List.mem_cons_of_mem _ (List.mem_append_left _ (List.mem_append_left _ (List.mem_append_right _ h)))) (by decide +kernel))
set_option maxRecDepth 20000 in
theorem gX6_readTiles_X6_requireTile : GoodIn wsX6_readTiles (va_wsS RX6 59 yX6_requireTile wsX6_requireTile) := goodIn_app (goodIn_of _ (by decide +kernel)) ggX6_readTiles_X6_requireTile
set_option maxRecDepth 20000 in
theorem ggX6_readTiles_X3_faultOfTiles : GoodIn wsX6_readTiles wsX3_faultOfTiles := goodIn_ca (goodIn_r _ [29, 30, 31, 32, 11, 33, 34, 35, 36, 37, 38, 39, 40, 41, 42, 43, 44, 45, 46, 47, 48, 49, 50, 51, 52, 53, 54, 55, 56, 57, 58, 59, 60, 61, 62, 63, 64, 65, 66, 67, 68, 69, 70, 71, 72, 73, 74, 75, 76, 77, 78, 79, 80, 81, 82, 83, 84, 85, 86, 217, 218, 219, 220, 221, 222, 223] (by decide +kernel) (by decide +kernel)) (goodIn_sub (fun _ h => List.mem_cons_of_mem _ (List.mem_append_left _ (List.mem_append_right _ h))) (by decide +kernel))
set_option maxRecDepth 20000 in
theorem gX6_readTiles_X3_faultOfTiles : GoodIn wsX6_readTiles (wsV RX6 260 RX3 yX3_faultOfTiles wsX3_faultOfTiles) := goodIn_app (goodIn_of _ (by decide +kernel)) ggX6_readTiles_X3_faultOfTiles
set_option maxRecDepth 20000 in
theorem ggX6_readTiles_X6_require : GoodIn wsX6_readTiles wsX6_require := goodIn_ca (goodIn_r _ [89, 90, 91] (by decide +kernel) (by decide +kernel)) (goodIn_sub (fun _ h => List.mem_cons_of_mem _ (List.mem_append_right _ h)) (by decide +kernel))
set_option maxRecDepth 20000 in
theorem gX6_readTiles_X6_require : GoodIn wsX6_readTiles (va_wsS RX6 67 yX6_require wsX6_require) := goodIn_app (goodIn_of _ (by decide +kernel)) ggX6_readTiles_X6_require
set_option maxRecDepth 20000 in
theorem ggX6_readTiles_X5_copyFrom : GoodIn wsX6_readTiles wsX5_copyFrom := goodIn_r _ [96, 97, 98, 99, 100, 101, 102, 103, 104, 105, 106, 107, 108, 109, 110, 111, 112, 113, 114, 115, 116, 117, 118, 119, 120, 121, 122, 123, 124, 125, 126, 127, 128, 129, 130, 131, 132, 133, 134, 135, 136, 137, 138, 139, 140, 141, 142, 143, 144, 145, 146, 147, 148, 149, 150, 210, 211, 212, 213, 214, 215, 216, 224, 225, 226, 227, 228, 229, 230, 231, 232, 233, 234, 235, 236, 237, 238, 239, 240, 241, 242, 243, 244, 245, 246, 247] (by decide +kernel) (by decide +kernel)
set_option maxRecDepth 20000 in
theorem gX6_readTiles_X5_copyFrom : GoodIn wsX6_readTiles (wsV RX6 81 RX5 yX5_copyFrom wsX5_copyFrom) := goodIn_app (goodIn_of _ (by decide +kernel)) ggX6_readTiles_X5_copyFrom
set_option maxRecDepth 20000 in
theorem ggX6_readTiles_X3_tileAt : GoodIn wsX6_readTiles wsX3_tileAt := goodIn_ca (goodIn_r _ [33, 34, 35, 36, 11, 37, 38, 39, 40, 41, 42, 43, 44, 45, 46, 47, 48, 49, 50, 51, 52, 53, 54, 55, 56, 57, 58, 59, 60, 61, 62, 63, 64, 65, 66, 67, 68, 69, 70, 71, 72, 73, 74, 75, 76, 77, 78, 79, 80, 81, 82, 83, 84, 85, 86, 217, 218, 219, 220, 221, 222, 223] (by decide +kernel) (by decide +kernel)) (goodIn_sub (fun _ h => List.mem_cons_of_mem _ (List.mem_append_left _ (List.mem_append_right _ h))) (by decide +kernel))
set_option maxRecDepth 20000 in
theorem gX6_readTiles_X3_tileAt : GoodIn wsX6_readTiles (wsV RX6 265 RX3 yX3_tileAt wsX3_tileAt) := goodIn_app (goodIn_of _ (by decide +kernel)) ggX6_readTiles_X3_tileAt
set_option maxRecDepth 20000 in
theorem ggX6_readTiles_X4_put : GoodIn wsX6_readTiles wsX4_put := goodIn_ca (goodIn_r _ [155, 108, 21, 16, 22, 23, 24, 25, 224] (by decide +kernel) (by decide +kernel)) (goodIn_sub (fun _ h => List.mem_cons_of_mem _ (List.mem_append_left _ (List.mem_append_right _ h))) (by decide +kernel))
set_option maxRecDepth 20000 in
theorem gX6_readTiles_X4_put : GoodIn wsX6_readTiles (wsV RX6 85 RX4 yX4_put wsX4_put) := goodIn_app (goodIn_of _ (by decide +kernel)) ggX6_readTiles_X4_put
set_option maxRecDepth 20000 in
theorem ggX6_readTiles_X6_acceptTrialTiles : GoodIn wsX6_readTiles wsX6_acceptTrialTiles := goodIn_ca (goodIn_ca (goodIn_r _ [159, 1, 2, 5, 6, 7, 160, 161, 162, 163, 95, 164, 98, 97, 101, 165, 166, 167, 168, 169, 106, 170, 171, 172, 173, 116, 174, 120, 175, 176, 177, 178, 121, 179, 180, 181, 182, 183, 184, 185, 186, 108, 187, 16, 188, 189, 190, 191, 192, 193, 194, 104, 105, 107, 109, 110, 111, 112, 195, 196, 197, 198, 199, 200, 201, 202, 203, 204, 205, 206, 207, 208, 209, 210, 211, 212, 213, 214, 215, 216, 225, 226, 227, 228, 229, 230, 231, 232, 233, 234, 235, 236, 237, 238, 239, 240, 224, 248, 249, 250] (by decide +kernel) (by decide +kernel)) (goodIn_sub (fun _ h => List.mem_cons_of_mem _ (List.mem_append_left _ (List.mem_append_left _ (List.mem_append_left _ (List.mem_append_right _ h))))) (by decide +kernel))) (goodIn_sub (fun _ h => List.mem_cons_of_mem _ (List.mem_append_left _ (List.mem_append_right _ h))) (by decide +kernel))
set_option maxRecDepth 20000 in
theorem gX6_readTiles_X6_acceptTrialTiles : GoodIn wsX6_readTiles (wsV RX6 89 RX6 yX6_acceptTrialTiles wsX6_acceptTrialTiles) := goodIn_app (goodIn_of _ (by decide +kernel)) ggX6_readTiles_X6_acceptTrialTiles
theorem dX6_readTiles_0 : decode cX6_readTiles 0 = .ok (.aload_n 0, 1) := by decide +kernel
theorem dX6_readTiles_1 : decode cX6_readTiles 1 = .ok (.getfield 47, 3) := by decide +kernel
theorem dX6_readTiles_4 : decode cX6_readTiles 4 = .ok (.invokevirtual 256, 3) := by decide +kernel
theorem dX6_readTiles_7 : decode cX6_readTiles 7 = .ok (.istore_n 3, 1) := by decide +kernel
theorem dX6_readTiles_8 : decode cX6_readTiles 8 = .ok (.iload_n 1, 1) := by decide +kernel
theorem dX6_readTiles_9 : decode cX6_readTiles 9 = .ok (.iload_n 2, 1) := by decide +kernel
theorem dX6_readTiles_10 : decode cX6_readTiles 10 = .ok (.invokestatic 59, 3) := by decide +kernel
theorem dX6_readTiles_13 : decode cX6_readTiles 13 = .ok (.aload_n 0, 1) := by decide +kernel
theorem dX6_readTiles_14 : decode cX6_readTiles 14 = .ok (.aload_n 0, 1) := by decide +kernel
theorem dX6_readTiles_15 : decode cX6_readTiles 15 = .ok (.getfield 47, 3) := by decide +kernel
theorem dX6_readTiles_18 : decode cX6_readTiles 18 = .ok (.iload_n 3, 1) := by decide +kernel
theorem dX6_readTiles_19 : decode cX6_readTiles 19 = .ok (.invokevirtual 260, 3) := by decide +kernel
theorem dX6_readTiles_22 : decode cX6_readTiles 22 = .ok (.putfield 55, 3) := by decide +kernel
theorem dX6_readTiles_25 : decode cX6_readTiles 25 = .ok (.aload_n 0, 1) := by decide +kernel
theorem dX6_readTiles_26 : decode cX6_readTiles 26 = .ok (.getfield 55, 3) := by decide +kernel
theorem dX6_readTiles_29 : decode cX6_readTiles 29 = .ok (.iconst (-1), 1) := by decide +kernel
theorem dX6_readTiles_30 : decode cX6_readTiles 30 = .ok (.if_icmp .ne 7, 3) := by decide +kernel
theorem dX6_readTiles_33 : decode cX6_readTiles 33 = .ok (.iconst 1, 1) := by decide +kernel
theorem dX6_readTiles_34 : decode cX6_readTiles 34 = .ok (.goto 4, 3) := by decide +kernel
theorem dX6_readTiles_37 : decode cX6_readTiles 37 = .ok (.iconst 0, 1) := by decide +kernel
theorem dX6_readTiles_38 : decode cX6_readTiles 38 = .ok (.invokestatic 67, 3) := by decide +kernel
theorem dX6_readTiles_41 : decode cX6_readTiles 41 = .ok (.iload_n 3, 1) := by decide +kernel
theorem dX6_readTiles_42 : decode cX6_readTiles 42 = .ok (.bipush 24, 2) := by decide +kernel
theorem dX6_readTiles_44 : decode cX6_readTiles 44 = .ok (.iload_n 1, 1) := by decide +kernel
theorem dX6_readTiles_45 : decode cX6_readTiles 45 = .ok (.isub, 1) := by decide +kernel
theorem dX6_readTiles_46 : decode cX6_readTiles 46 = .ok (.if_icmp .le 14, 3) := by decide +kernel
theorem dX6_readTiles_49 : decode cX6_readTiles 49 = .ok (.new 95, 3) := by decide +kernel
theorem dX6_readTiles_52 : decode cX6_readTiles 52 = .ok (.dup, 1) := by decide +kernel
theorem dX6_readTiles_53 : decode cX6_readTiles 53 = .ok (.ldc_w 263, 3) := by decide +kernel
theorem dX6_readTiles_56 : decode cX6_readTiles 56 = .ok (.invokespecial 99, 3) := by decide +kernel
theorem dX6_readTiles_59 : decode cX6_readTiles 59 = .ok (.athrow, 1) := by decide +kernel
theorem dX6_readTiles_60 : decode cX6_readTiles 60 = .ok (.aload_n 0, 1) := by decide +kernel
theorem dX6_readTiles_61 : decode cX6_readTiles 61 = .ok (.getfield 16, 3) := by decide +kernel
theorem dX6_readTiles_64 : decode cX6_readTiles 64 = .ok (.aload_n 0, 1) := by decide +kernel
theorem dX6_readTiles_65 : decode cX6_readTiles 65 = .ok (.getfield 12, 3) := by decide +kernel
theorem dX6_readTiles_68 : decode cX6_readTiles 68 = .ok (.invokevirtual 81, 3) := by decide +kernel
theorem dX6_readTiles_71 : decode cX6_readTiles 71 = .ok (.iconst 0, 1) := by decide +kernel
theorem dX6_readTiles_72 : decode cX6_readTiles 72 = .ok (.istore 4, 2) := by decide +kernel
theorem dX6_readTiles_74 : decode cX6_readTiles 74 = .ok (.iload 4, 2) := by decide +kernel
theorem dX6_readTiles_76 : decode cX6_readTiles 76 = .ok (.iload_n 3, 1) := by decide +kernel
theorem dX6_readTiles_77 : decode cX6_readTiles 77 = .ok (.if_icmp .ge 33, 3) := by decide +kernel
theorem dX6_readTiles_80 : decode cX6_readTiles 80 = .ok (.aload_n 0, 1) := by decide +kernel
theorem dX6_readTiles_81 : decode cX6_readTiles 81 = .ok (.getfield 16, 3) := by decide +kernel
theorem dX6_readTiles_84 : decode cX6_readTiles 84 = .ok (.getfield 71, 3) := by decide +kernel
theorem dX6_readTiles_87 : decode cX6_readTiles 87 = .ok (.iload_n 1, 1) := by decide +kernel
theorem dX6_readTiles_88 : decode cX6_readTiles 88 = .ok (.iload 4, 2) := by decide +kernel
theorem dX6_readTiles_90 : decode cX6_readTiles 90 = .ok (.iadd, 1) := by decide +kernel
theorem dX6_readTiles_91 : decode cX6_readTiles 91 = .ok (.iload_n 2, 1) := by decide +kernel
theorem dX6_readTiles_92 : decode cX6_readTiles 92 = .ok (.aload_n 0, 1) := by decide +kernel
theorem dX6_readTiles_93 : decode cX6_readTiles 93 = .ok (.getfield 47, 3) := by decide +kernel
theorem dX6_readTiles_96 : decode cX6_readTiles 96 = .ok (.iload 4, 2) := by decide +kernel
theorem dX6_readTiles_98 : decode cX6_readTiles 98 = .ok (.invokevirtual 265, 3) := by decide +kernel
theorem dX6_readTiles_101 : decode cX6_readTiles 101 = .ok (.invokevirtual 85, 3) := by decide +kernel
theorem dX6_readTiles_104 : decode cX6_readTiles 104 = .ok (.iinc 4 1, 3) := by decide +kernel
theorem dX6_readTiles_107 : decode cX6_readTiles 107 = .ok (.goto (-33), 3) := by decide +kernel
theorem dX6_readTiles_110 : decode cX6_readTiles 110 = .ok (.aload_n 0, 1) := by decide +kernel
theorem dX6_readTiles_111 : decode cX6_readTiles 111 = .ok (.invokevirtual 89, 3) := by decide +kernel
theorem dX6_readTiles_114 : decode cX6_readTiles 114 = .ok (.iload_n 3, 1) := by decide +kernel
theorem dX6_readTiles_115 : decode cX6_readTiles 115 = .ok (.ireturn, 1) := by decide +kernel
set_option maxRecDepth 20000 in
theorem ggX6_play_X3_takeOut : GoodIn wsX6_play wsX3_takeOut := goodIn_r _ [17, 18, 389, 390, 391, 392, 393] (by decide +kernel) (by decide +kernel)
set_option maxRecDepth 20000 in
theorem gX6_play_X3_takeOut : GoodIn wsX6_play (wsV RX6 256 RX3 yX3_takeOut wsX3_takeOut) := goodIn_app (goodIn_of _ (by decide +kernel)) ggX6_play_X3_takeOut
set_option maxRecDepth 20000 in
theorem ggX6_play_X6_requireBody : GoodIn wsX6_play wsX6_requireBody := goodIn_ca (goodIn_r _ [23, 24, 25, 6, 26, 27, 28, 22, 29, 380, 381, 382, 383, 384, 385, 386, 387, 388, 394, 395, 396, 397, 398, 399, 400] (by decide +kernel) (by decide +kernel)) (goodIn_sub (fun _ h => List.mem_cons_of_mem _ (List.mem_append_left _ (List.mem_append_right _ h))) (by decide +kernel))
set_option maxRecDepth 20000 in
theorem gX6_play_X6_requireBody : GoodIn wsX6_play (wsV RX6 121 RX6 yX6_requireBody wsX6_requireBody) := goodIn_app (goodIn_of _ (by decide +kernel)) ggX6_play_X6_requireBody
set_option maxRecDepth 20000 in
theorem ggX6_play_X3_faultOfInputs : GoodIn wsX6_play wsX3_faultOfInputs := goodIn_ca (goodIn_r _ [33, 34, 35, 36, 16, 37, 38, 39, 40, 41, 42, 43, 44, 45, 46, 47, 48, 49, 50, 51, 52, 53, 54, 55, 56, 57, 58, 59, 60, 61, 62, 63, 64, 65, 66, 67, 68, 69, 70, 71, 72, 73, 74, 75, 76, 77, 78, 79, 80, 81, 82, 83, 84, 85, 86, 87, 88, 89, 389, 390, 391, 392, 393, 417, 418] (by decide +kernel) (by decide +kernel)) (goodIn_sub (fun _ h => List.mem_cons_of_mem _ (List.mem_append_left _ (List.mem_append_left _ (List.mem_append_right _ h)))) (by decide +kernel))
set_option maxRecDepth 20000 in
theorem gX6_play_X3_faultOfInputs : GoodIn wsX6_play (wsV RX6 268 RX3 yX3_faultOfInputs wsX3_faultOfInputs) := goodIn_app (goodIn_of _ (by decide +kernel)) ggX6_play_X3_faultOfInputs
set_option maxRecDepth 20000 in
theorem ggX6_play_X6_require : GoodIn wsX6_play wsX6_require := goodIn_ca (goodIn_r _ [92, 93, 94] (by decide +kernel) (by decide +kernel)) (goodIn_sub (fun _ h => List.mem_cons_of_mem _ (List.mem_append_right _ h)) (by decide +kernel))
set_option maxRecDepth 20000 in
theorem gX6_play_X6_require : GoodIn wsX6_play (va_wsS RX6 67 yX6_require wsX6_require) := goodIn_app (goodIn_of _ (by decide +kernel)) ggX6_play_X6_require
set_option maxRecDepth 20000 in
theorem ggX6_play_X3_readCommands : GoodIn wsX6_play wsX3_readCommands := goodIn_ca (goodIn_r _ [98, 99, 34, 100, 101, 38, 39, 16, 40, 41, 42, 43, 44, 45, 46, 47, 48, 49, 50, 51, 52, 53, 54, 55, 56, 57, 58, 59, 60, 61, 62, 63, 64, 65, 66, 67, 68, 69, 70, 71, 72, 73, 74, 75, 76, 77, 78, 79, 80, 81, 82, 83, 84, 85, 86, 87, 88, 89, 35, 36, 37, 389, 390, 391, 392, 393, 417, 418] (by decide +kernel) (by decide +kernel)) (goodIn_sub (fun _ h => List.mem_cons_of_mem _ (List.mem_append_left _ (List.mem_append_left _ (List.mem_append_right _ h)))) (by decide +kernel))
set_option maxRecDepth 20000 in
theorem gX6_play_X3_readCommands : GoodIn wsX6_play (wsV RX6 271 RX3 yX3_readCommands wsX3_readCommands) := goodIn_app (goodIn_of _ (by decide +kernel)) ggX6_play_X3_readCommands
set_option maxRecDepth 20000 in
theorem ggX6_play_X1_keep : GoodIn wsX6_play wsX1_keep := goodIn_r _ [106, 107, 108, 109, 110, 111, 112, 113, 114, 115, 116, 117, 118, 119, 120, 121, 122, 123, 124, 125, 126, 127, 128, 129, 130, 131, 132, 133, 134, 135, 136, 137, 138, 139, 140, 141, 142, 143, 144, 145, 146, 147, 148, 149, 150, 151, 152, 153, 154, 155, 156, 157, 158, 159, 160, 161, 162, 163, 164, 165, 166, 167, 168, 169, 170, 171, 172, 419, 420, 421, 394, 395, 396, 397, 398, 399, 400, 422, 401, 402, 403, 404, 405, 406, 407, 408, 409, 410, 411, 412, 413, 414, 415, 416, 423, 424, 425, 426, 427, 428, 429] (by decide +kernel) (by decide +kernel)
set_option maxRecDepth 20000 in
theorem gX6_play_X1_keep : GoodIn wsX6_play (wsV RX6 179 RX1 yX1_keep wsX1_keep) := goodIn_app (goodIn_of _ (by decide +kernel)) ggX6_play_X1_keep
set_option maxRecDepth 20000 in
theorem ggX6_play_X5_advance : GoodIn wsX6_play wsX5_advance := goodIn_ca (goodIn_r _ [176, 122, 120, 123, 177, 178, 179, 117, 180, 181, 182, 183, 184, 185, 186, 187, 188, 189, 121, 124, 190, 191, 192, 160, 193, 163, 162, 164, 194, 195, 196, 197, 198, 199, 200, 201, 202, 203, 204, 205, 112, 206, 207, 208, 209, 210, 211, 119, 212, 213, 214, 138, 215, 142, 216, 217, 218, 128, 219, 220, 221, 222, 223, 224, 130, 225, 226, 227, 228, 229, 230, 231, 232, 233, 234, 235, 236, 143, 237, 238, 22, 239, 240, 241, 242, 243, 244, 245, 246, 247, 248, 249, 250, 251, 252, 253, 254, 255, 256, 257, 258, 259, 260, 261, 262, 263, 264, 265, 266, 267, 268, 165, 166, 168, 167, 269, 270, 271, 272, 273, 274, 275, 276, 277, 278, 279, 280, 281, 282, 283, 284, 285, 286, 287, 288, 289, 290, 291, 292, 151, 293, 294, 295, 296, 297, 298, 299, 300, 301, 302, 303, 304, 305, 306, 307, 111, 113, 308, 309, 310, 311, 312, 313, 314, 315, 316, 317, 318, 319, 320, 321, 322, 147, 149, 153, 155, 323, 324, 325, 326, 327, 328, 329, 330, 331, 332, 333, 334, 335, 336, 337, 338, 339, 340, 341, 342, 343, 344, 345, 346, 347, 348, 349, 350, 351, 352, 353, 354, 355, 356, 357, 358, 359, 360, 361, 362, 363, 27, 28, 29, 364, 365, 366, 367, 368, 369, 370, 371, 144, 140, 145, 141, 372, 373, 374, 375, 146, 148, 150, 376, 377, 378, 379, 154, 152, 394, 395, 396, 397, 398, 399, 400, 401, 402, 403, 404, 405, 406, 407, 408, 409, 410, 411, 412, 413, 414, 415, 416, 423, 424, 425, 426, 427, 428, 429, 422] (by decide +kernel) (by decide +kernel)) (goodIn_sub (fun _ h => List.mem_cons_of_mem _ (List.mem_append_left _ (List.mem_append_left _ (List.mem_append_right _ h)))) (by decide +kernel))
set_option maxRecDepth 20000 in
theorem gX6_play_X5_advance : GoodIn wsX6_play (wsV RX6 182 RX5 yX5_advance wsX5_advance) := goodIn_app (goodIn_of _ (by decide +kernel)) ggX6_play_X5_advance
theorem dX6_play_0 : decode cX6_play 0 = .ok (.aload_n 0, 1) := by decide +kernel
theorem dX6_play_1 : decode cX6_play 1 = .ok (.getfield 47, 3) := by decide +kernel
theorem dX6_play_4 : decode cX6_play 4 = .ok (.invokevirtual 256, 3) := by decide +kernel
theorem dX6_play_7 : decode cX6_play 7 = .ok (.istore_n 2, 1) := by decide +kernel
theorem dX6_play_8 : decode cX6_play 8 = .ok (.aload_n 0, 1) := by decide +kernel
theorem dX6_play_9 : decode cX6_play 9 = .ok (.iload_n 1, 1) := by decide +kernel
theorem dX6_play_10 : decode cX6_play 10 = .ok (.invokevirtual 121, 3) := by decide +kernel
theorem dX6_play_13 : decode cX6_play 13 = .ok (.aload_n 0, 1) := by decide +kernel
theorem dX6_play_14 : decode cX6_play 14 = .ok (.aload_n 0, 1) := by decide +kernel
theorem dX6_play_15 : decode cX6_play 15 = .ok (.getfield 47, 3) := by decide +kernel
theorem dX6_play_18 : decode cX6_play 18 = .ok (.iload_n 2, 1) := by decide +kernel
theorem dX6_play_19 : decode cX6_play 19 = .ok (.invokevirtual 268, 3) := by decide +kernel
theorem dX6_play_22 : decode cX6_play 22 = .ok (.putfield 55, 3) := by decide +kernel
theorem dX6_play_25 : decode cX6_play 25 = .ok (.aload_n 0, 1) := by decide +kernel
theorem dX6_play_26 : decode cX6_play 26 = .ok (.getfield 55, 3) := by decide +kernel
theorem dX6_play_29 : decode cX6_play 29 = .ok (.iconst (-1), 1) := by decide +kernel
theorem dX6_play_30 : decode cX6_play 30 = .ok (.if_icmp .ne 7, 3) := by decide +kernel
theorem dX6_play_33 : decode cX6_play 33 = .ok (.iconst 1, 1) := by decide +kernel
theorem dX6_play_34 : decode cX6_play 34 = .ok (.goto 4, 3) := by decide +kernel
theorem dX6_play_37 : decode cX6_play 37 = .ok (.iconst 0, 1) := by decide +kernel
theorem dX6_play_38 : decode cX6_play 38 = .ok (.invokestatic 67, 3) := by decide +kernel
theorem dX6_play_41 : decode cX6_play 41 = .ok (.aload_n 0, 1) := by decide +kernel
theorem dX6_play_42 : decode cX6_play 42 = .ok (.getfield 47, 3) := by decide +kernel
theorem dX6_play_45 : decode cX6_play 45 = .ok (.iload_n 2, 1) := by decide +kernel
theorem dX6_play_46 : decode cX6_play 46 = .ok (.invokevirtual 271, 3) := by decide +kernel
theorem dX6_play_49 : decode cX6_play 49 = .ok (.istore_n 3, 1) := by decide +kernel
theorem dX6_play_50 : decode cX6_play 50 = .ok (.iload_n 3, 1) := by decide +kernel
theorem dX6_play_51 : decode cX6_play 51 = .ok (.sipush 200, 3) := by decide +kernel
theorem dX6_play_54 : decode cX6_play 54 = .ok (.if_icmp .le 14, 3) := by decide +kernel
theorem dX6_play_57 : decode cX6_play 57 = .ok (.new 274, 3) := by decide +kernel
theorem dX6_play_60 : decode cX6_play 60 = .ok (.dup, 1) := by decide +kernel
theorem dX6_play_61 : decode cX6_play 61 = .ok (.ldc_w 276, 3) := by decide +kernel
theorem dX6_play_64 : decode cX6_play 64 = .ok (.invokespecial 278, 3) := by decide +kernel
theorem dX6_play_67 : decode cX6_play 67 = .ok (.athrow, 1) := by decide +kernel
theorem dX6_play_68 : decode cX6_play 68 = .ok (.iconst 0, 1) := by decide +kernel
theorem dX6_play_69 : decode cX6_play 69 = .ok (.istore 4, 2) := by decide +kernel
theorem dX6_play_71 : decode cX6_play 71 = .ok (.iload 4, 2) := by decide +kernel
theorem dX6_play_73 : decode cX6_play 73 = .ok (.aload_n 0, 1) := by decide +kernel
theorem dX6_play_74 : decode cX6_play 74 = .ok (.getfield 47, 3) := by decide +kernel
theorem dX6_play_77 : decode cX6_play 77 = .ok (.getfield 279, 3) := by decide +kernel
theorem dX6_play_80 : decode cX6_play 80 = .ok (.if_icmp .ge 77, 3) := by decide +kernel
theorem dX6_play_83 : decode cX6_play 83 = .ok (.aload_n 0, 1) := by decide +kernel
theorem dX6_play_84 : decode cX6_play 84 = .ok (.getfield 12, 3) := by decide +kernel
theorem dX6_play_87 : decode cX6_play 87 = .ok (.getfield 102, 3) := by decide +kernel
theorem dX6_play_90 : decode cX6_play 90 = .ok (.iload_n 1, 1) := by decide +kernel
theorem dX6_play_91 : decode cX6_play 91 = .ok (.aaload, 1) := by decide +kernel
theorem dX6_play_92 : decode cX6_play 92 = .ok (.aload_n 0, 1) := by decide +kernel
theorem dX6_play_93 : decode cX6_play 93 = .ok (.getfield 47, 3) := by decide +kernel
theorem dX6_play_96 : decode cX6_play 96 = .ok (.getfield 282, 3) := by decide +kernel
theorem dX6_play_99 : decode cX6_play 99 = .ok (.iload 4, 2) := by decide +kernel
theorem dX6_play_101 : decode cX6_play 101 = .ok (.iaload, 1) := by decide +kernel
theorem dX6_play_102 : decode cX6_play 102 = .ok (.putfield 132, 3) := by decide +kernel
theorem dX6_play_105 : decode cX6_play 105 = .ok (.iconst 0, 1) := by decide +kernel
theorem dX6_play_106 : decode cX6_play 106 = .ok (.istore 5, 2) := by decide +kernel
theorem dX6_play_108 : decode cX6_play 108 = .ok (.iload 5, 2) := by decide +kernel
theorem dX6_play_110 : decode cX6_play 110 = .ok (.aload_n 0, 1) := by decide +kernel
theorem dX6_play_111 : decode cX6_play 111 = .ok (.getfield 47, 3) := by decide +kernel
theorem dX6_play_114 : decode cX6_play 114 = .ok (.getfield 285, 3) := by decide +kernel
theorem dX6_play_117 : decode cX6_play 117 = .ok (.iload 4, 2) := by decide +kernel
theorem dX6_play_119 : decode cX6_play 119 = .ok (.iaload, 1) := by decide +kernel
theorem dX6_play_120 : decode cX6_play 120 = .ok (.if_icmp .ge 31, 3) := by decide +kernel
theorem dX6_play_123 : decode cX6_play 123 = .ok (.aload_n 0, 1) := by decide +kernel
theorem dX6_play_124 : decode cX6_play 124 = .ok (.getfield 40, 3) := by decide +kernel
theorem dX6_play_127 : decode cX6_play 127 = .ok (.aload_n 0, 1) := by decide +kernel
theorem dX6_play_128 : decode cX6_play 128 = .ok (.getfield 12, 3) := by decide +kernel
theorem dX6_play_131 : decode cX6_play 131 = .ok (.invokevirtual 179, 3) := by decide +kernel
theorem dX6_play_134 : decode cX6_play 134 = .ok (.aload_n 0, 1) := by decide +kernel
theorem dX6_play_135 : decode cX6_play 135 = .ok (.getfield 12, 3) := by decide +kernel
theorem dX6_play_138 : decode cX6_play 138 = .ok (.aload_n 0, 1) := by decide +kernel
theorem dX6_play_139 : decode cX6_play 139 = .ok (.getfield 31, 3) := by decide +kernel
theorem dX6_play_142 : decode cX6_play 142 = .ok (.invokevirtual 182, 3) := by decide +kernel
theorem dX6_play_145 : decode cX6_play 145 = .ok (.iinc 5 1, 3) := by decide +kernel
theorem dX6_play_148 : decode cX6_play 148 = .ok (.goto (-40), 3) := by decide +kernel
theorem dX6_play_151 : decode cX6_play 151 = .ok (.iinc 4 1, 3) := by decide +kernel
theorem dX6_play_154 : decode cX6_play 154 = .ok (.goto (-83), 3) := by decide +kernel
theorem dX6_play_157 : decode cX6_play 157 = .ok (.iload_n 3, 1) := by decide +kernel
theorem dX6_play_158 : decode cX6_play 158 = .ok (.ireturn, 1) := by decide +kernel
theorem dX6_faultPosition_0 : decode cX6_faultPosition 0 = .ok (.aload_n 0, 1) := by decide +kernel
theorem dX6_faultPosition_1 : decode cX6_faultPosition 1 = .ok (.getfield 55, 3) := by decide +kernel
theorem dX6_faultPosition_4 : decode cX6_faultPosition 4 = .ok (.ireturn, 1) := by decide +kernel
set_option maxRecDepth 20000 in
theorem ggX6_save_X5_copyFrom : GoodIn wsX6_save wsX5_copyFrom := goodIn_r _ [14, 15, 16, 17, 18, 19, 20, 21, 22, 23, 24, 25, 26, 27, 6, 7, 8, 28, 29, 30, 31, 32, 33, 34, 35, 36, 37, 38, 39, 40, 41, 42, 43, 44, 45, 46, 47, 48, 49, 50, 51, 52, 53, 54, 55, 56, 57, 58, 59, 60, 61, 62, 63, 64, 65, 75, 76, 77, 78, 79, 80, 81, 82, 83, 84, 85, 86, 87, 88, 89, 90, 91, 92, 93, 94, 95, 96, 97, 98, 99, 100, 101, 102, 103, 104, 105] (by decide +kernel) (by decide +kernel)
set_option maxRecDepth 20000 in
theorem gX6_save_X5_copyFrom : GoodIn wsX6_save (wsV RX6 81 RX5 yX5_copyFrom wsX5_copyFrom) := goodIn_app (goodIn_of _ (by decide +kernel)) ggX6_save_X5_copyFrom
theorem dX6_save_0 : decode cX6_save 0 = .ok (.aload_n 0, 1) := by decide +kernel
theorem dX6_save_1 : decode cX6_save 1 = .ok (.getfield 19, 3) := by decide +kernel
theorem dX6_save_4 : decode cX6_save 4 = .ok (.aload_n 0, 1) := by decide +kernel
theorem dX6_save_5 : decode cX6_save 5 = .ok (.getfield 12, 3) := by decide +kernel
theorem dX6_save_8 : decode cX6_save 8 = .ok (.invokevirtual 81, 3) := by decide +kernel
theorem dX6_save_11 : decode cX6_save 11 = .ok (.aload_n 0, 1) := by decide +kernel
theorem dX6_save_12 : decode cX6_save 12 = .ok (.getfield 31, 3) := by decide +kernel
theorem dX6_save_15 : decode cX6_save 15 = .ok (.iconst 0, 1) := by decide +kernel
theorem dX6_save_16 : decode cX6_save 16 = .ok (.aload_n 0, 1) := by decide +kernel
theorem dX6_save_17 : decode cX6_save 17 = .ok (.getfield 34, 3) := by decide +kernel
theorem dX6_save_20 : decode cX6_save 20 = .ok (.iconst 0, 1) := by decide +kernel
theorem dX6_save_21 : decode cX6_save 21 = .ok (.iconst 4, 1) := by decide +kernel
theorem dX6_save_22 : decode cX6_save 22 = .ok (.invokestatic 288, 3) := by decide +kernel
theorem dX6_save_25 : decode cX6_save 25 = .ok (.aload_n 0, 1) := by decide +kernel
theorem dX6_save_26 : decode cX6_save 26 = .ok (.iconst 1, 1) := by decide +kernel
theorem dX6_save_27 : decode cX6_save 27 = .ok (.putfield 51, 3) := by decide +kernel
theorem dX6_save_30 : decode cX6_save 30 = .ok (.return_, 1) := by decide +kernel
set_option maxRecDepth 20000 in
theorem ggX6_restore_X5_copyFrom : GoodIn wsX6_restore wsX5_copyFrom := goodIn_r _ [17, 18, 19, 20, 21, 22, 23, 24, 25, 26, 27, 28, 29, 30, 9, 10, 11, 31, 32, 33, 34, 35, 36, 37, 38, 39, 40, 41, 42, 43, 44, 45, 46, 47, 48, 49, 50, 51, 52, 53, 54, 55, 56, 57, 58, 59, 60, 61, 62, 63, 64, 65, 66, 67, 68, 84, 85, 86, 87, 88, 89, 90, 91, 92, 93, 94, 95, 96, 97, 98, 99, 100, 101, 102, 103, 104, 105, 106, 107, 108, 109, 110, 111, 112, 113, 114] (by decide +kernel) (by decide +kernel)
set_option maxRecDepth 20000 in
theorem gX6_restore_X5_copyFrom : GoodIn wsX6_restore (wsV RX6 81 RX5 yX5_copyFrom wsX5_copyFrom) := goodIn_app (goodIn_of _ (by decide +kernel)) ggX6_restore_X5_copyFrom
set_option maxRecDepth 20000 in
theorem ggX6_restore_X1_forget : GoodIn wsX6_restore wsX1_forget := goodIn_r _ [73, 74, 115, 116, 117] (by decide +kernel) (by decide +kernel)
set_option maxRecDepth 20000 in
theorem gX6_restore_X1_forget : GoodIn wsX6_restore (wsV RX6 118 RX1 yX1_forget wsX1_forget) := goodIn_app (goodIn_of _ (by decide +kernel)) ggX6_restore_X1_forget
theorem dX6_restore_0 : decode cX6_restore 0 = .ok (.aload_n 0, 1) := by decide +kernel
theorem dX6_restore_1 : decode cX6_restore 1 = .ok (.getfield 51, 3) := by decide +kernel
theorem dX6_restore_4 : decode cX6_restore 4 = .ok (.ifCond .ne 14, 3) := by decide +kernel
theorem dX6_restore_7 : decode cX6_restore 7 = .ok (.new 95, 3) := by decide +kernel
theorem dX6_restore_10 : decode cX6_restore 10 = .ok (.dup, 1) := by decide +kernel
theorem dX6_restore_11 : decode cX6_restore 11 = .ok (.ldc_w 294, 3) := by decide +kernel
theorem dX6_restore_14 : decode cX6_restore 14 = .ok (.invokespecial 99, 3) := by decide +kernel
theorem dX6_restore_17 : decode cX6_restore 17 = .ok (.athrow, 1) := by decide +kernel
theorem dX6_restore_18 : decode cX6_restore 18 = .ok (.aload_n 0, 1) := by decide +kernel
theorem dX6_restore_19 : decode cX6_restore 19 = .ok (.getfield 12, 3) := by decide +kernel
theorem dX6_restore_22 : decode cX6_restore 22 = .ok (.aload_n 0, 1) := by decide +kernel
theorem dX6_restore_23 : decode cX6_restore 23 = .ok (.getfield 19, 3) := by decide +kernel
theorem dX6_restore_26 : decode cX6_restore 26 = .ok (.invokevirtual 81, 3) := by decide +kernel
theorem dX6_restore_29 : decode cX6_restore 29 = .ok (.aload_n 0, 1) := by decide +kernel
theorem dX6_restore_30 : decode cX6_restore 30 = .ok (.getfield 34, 3) := by decide +kernel
theorem dX6_restore_33 : decode cX6_restore 33 = .ok (.iconst 0, 1) := by decide +kernel
theorem dX6_restore_34 : decode cX6_restore 34 = .ok (.aload_n 0, 1) := by decide +kernel
theorem dX6_restore_35 : decode cX6_restore 35 = .ok (.getfield 31, 3) := by decide +kernel
theorem dX6_restore_38 : decode cX6_restore 38 = .ok (.iconst 0, 1) := by decide +kernel
theorem dX6_restore_39 : decode cX6_restore 39 = .ok (.iconst 4, 1) := by decide +kernel
theorem dX6_restore_40 : decode cX6_restore 40 = .ok (.invokestatic 288, 3) := by decide +kernel
theorem dX6_restore_43 : decode cX6_restore 43 = .ok (.aload_n 0, 1) := by decide +kernel
theorem dX6_restore_44 : decode cX6_restore 44 = .ok (.getfield 40, 3) := by decide +kernel
theorem dX6_restore_47 : decode cX6_restore 47 = .ok (.invokevirtual 118, 3) := by decide +kernel
theorem dX6_restore_50 : decode cX6_restore 50 = .ok (.return_, 1) := by decide +kernel
theorem dX6_isWithin_0 : decode cX6_isWithin 0 = .ok (.iload_n 0, 1) := by decide +kernel
theorem dX6_isWithin_1 : decode cX6_isWithin 1 = .ok (.iload_n 1, 1) := by decide +kernel
theorem dX6_isWithin_2 : decode cX6_isWithin 2 = .ok (.if_icmp .lt 12, 3) := by decide +kernel
theorem dX6_isWithin_5 : decode cX6_isWithin 5 = .ok (.iload_n 0, 1) := by decide +kernel
theorem dX6_isWithin_6 : decode cX6_isWithin 6 = .ok (.iload_n 2, 1) := by decide +kernel
theorem dX6_isWithin_7 : decode cX6_isWithin 7 = .ok (.if_icmp .gt 7, 3) := by decide +kernel
theorem dX6_isWithin_10 : decode cX6_isWithin 10 = .ok (.iconst 1, 1) := by decide +kernel
theorem dX6_isWithin_11 : decode cX6_isWithin 11 = .ok (.goto 4, 3) := by decide +kernel
theorem dX6_isWithin_14 : decode cX6_isWithin 14 = .ok (.iconst 0, 1) := by decide +kernel
theorem dX6_isWithin_15 : decode cX6_isWithin 15 = .ok (.ireturn, 1) := by decide +kernel
set_option maxRecDepth 20000 in
theorem ggX6_isTile_X6_isWithin : GoodIn wsX6_isTile wsX6_isWithin := goodIn_r _ [4] (by decide +kernel) (by decide +kernel)
set_option maxRecDepth 20000 in
theorem gX6_isTile_X6_isWithin : GoodIn wsX6_isTile (va_wsS RX6 63 yX6_isWithin wsX6_isWithin) := goodIn_app (goodIn_of _ (by decide +kernel)) ggX6_isTile_X6_isWithin
theorem dX6_isTile_0 : decode cX6_isTile 0 = .ok (.iload_n 0, 1) := by decide +kernel
theorem dX6_isTile_1 : decode cX6_isTile 1 = .ok (.iconst 0, 1) := by decide +kernel
theorem dX6_isTile_2 : decode cX6_isTile 2 = .ok (.bipush 23, 2) := by decide +kernel
theorem dX6_isTile_4 : decode cX6_isTile 4 = .ok (.invokestatic 63, 3) := by decide +kernel
theorem dX6_isTile_7 : decode cX6_isTile 7 = .ok (.ifCond .eq 17, 3) := by decide +kernel
theorem dX6_isTile_10 : decode cX6_isTile 10 = .ok (.iload_n 1, 1) := by decide +kernel
theorem dX6_isTile_11 : decode cX6_isTile 11 = .ok (.iconst 0, 1) := by decide +kernel
theorem dX6_isTile_12 : decode cX6_isTile 12 = .ok (.bipush 13, 2) := by decide +kernel
theorem dX6_isTile_14 : decode cX6_isTile 14 = .ok (.invokestatic 63, 3) := by decide +kernel
theorem dX6_isTile_17 : decode cX6_isTile 17 = .ok (.ifCond .eq 7, 3) := by decide +kernel
theorem dX6_isTile_20 : decode cX6_isTile 20 = .ok (.iconst 1, 1) := by decide +kernel
theorem dX6_isTile_21 : decode cX6_isTile 21 = .ok (.goto 4, 3) := by decide +kernel
theorem dX6_isTile_24 : decode cX6_isTile 24 = .ok (.iconst 0, 1) := by decide +kernel
theorem dX6_isTile_25 : decode cX6_isTile 25 = .ok (.ireturn, 1) := by decide +kernel
theorem dX6_isFirm_0 : decode cX6_isFirm 0 = .ok (.iload_n 0, 1) := by decide +kernel
theorem dX6_isFirm_1 : decode cX6_isFirm 1 = .ok (.iconst 1, 1) := by decide +kernel
theorem dX6_isFirm_2 : decode cX6_isFirm 2 = .ok (.if_icmp .eq 14, 3) := by decide +kernel
theorem dX6_isFirm_5 : decode cX6_isFirm 5 = .ok (.iload_n 0, 1) := by decide +kernel
theorem dX6_isFirm_6 : decode cX6_isFirm 6 = .ok (.iconst 5, 1) := by decide +kernel
theorem dX6_isFirm_7 : decode cX6_isFirm 7 = .ok (.if_icmp .lt 13, 3) := by decide +kernel
theorem dX6_isFirm_10 : decode cX6_isFirm 10 = .ok (.iload_n 0, 1) := by decide +kernel
theorem dX6_isFirm_11 : decode cX6_isFirm 11 = .ok (.bipush 8, 2) := by decide +kernel
theorem dX6_isFirm_13 : decode cX6_isFirm 13 = .ok (.if_icmp .gt 7, 3) := by decide +kernel
theorem dX6_isFirm_16 : decode cX6_isFirm 16 = .ok (.iconst 1, 1) := by decide +kernel
theorem dX6_isFirm_17 : decode cX6_isFirm 17 = .ok (.goto 4, 3) := by decide +kernel
theorem dX6_isFirm_20 : decode cX6_isFirm 20 = .ok (.iconst 0, 1) := by decide +kernel
theorem dX6_isFirm_21 : decode cX6_isFirm 21 = .ok (.ireturn, 1) := by decide +kernel
theorem dX6_isSlope_0 : decode cX6_isSlope 0 = .ok (.iload_n 0, 1) := by decide +kernel
theorem dX6_isSlope_1 : decode cX6_isSlope 1 = .ok (.iconst 3, 1) := by decide +kernel
theorem dX6_isSlope_2 : decode cX6_isSlope 2 = .ok (.if_icmp .eq 8, 3) := by decide +kernel
theorem dX6_isSlope_5 : decode cX6_isSlope 5 = .ok (.iload_n 0, 1) := by decide +kernel
theorem dX6_isSlope_6 : decode cX6_isSlope 6 = .ok (.iconst 4, 1) := by decide +kernel
theorem dX6_isSlope_7 : decode cX6_isSlope 7 = .ok (.if_icmp .ne 7, 3) := by decide +kernel
theorem dX6_isSlope_10 : decode cX6_isSlope 10 = .ok (.iconst 1, 1) := by decide +kernel
theorem dX6_isSlope_11 : decode cX6_isSlope 11 = .ok (.goto 4, 3) := by decide +kernel
theorem dX6_isSlope_14 : decode cX6_isSlope 14 = .ok (.iconst 0, 1) := by decide +kernel
theorem dX6_isSlope_15 : decode cX6_isSlope 15 = .ok (.ireturn, 1) := by decide +kernel
theorem dX6_require_0 : decode cX6_require 0 = .ok (.iload_n 0, 1) := by decide +kernel
theorem dX6_require_1 : decode cX6_require 1 = .ok (.ifCond .ne 14, 3) := by decide +kernel
theorem dX6_require_4 : decode cX6_require 4 = .ok (.new 296, 3) := by decide +kernel
theorem dX6_require_7 : decode cX6_require 7 = .ok (.dup, 1) := by decide +kernel
theorem dX6_require_8 : decode cX6_require 8 = .ok (.ldc_w 298, 3) := by decide +kernel
theorem dX6_require_11 : decode cX6_require 11 = .ok (.invokespecial 300, 3) := by decide +kernel
theorem dX6_require_14 : decode cX6_require 14 = .ok (.athrow, 1) := by decide +kernel
theorem dX6_require_15 : decode cX6_require 15 = .ok (.return_, 1) := by decide +kernel
set_option maxRecDepth 20000 in
theorem ggX6_requireTile_X6_isTile : GoodIn wsX6_requireTile wsX6_isTile := goodIn_r _ [6, 7, 8, 5, 9] (by decide +kernel) (by decide +kernel)
set_option maxRecDepth 20000 in
theorem gX6_requireTile_X6_isTile : GoodIn wsX6_requireTile (va_wsS RX6 301 yX6_isTile wsX6_isTile) := goodIn_app (goodIn_of _ (by decide +kernel)) ggX6_requireTile_X6_isTile
theorem dX6_requireTile_0 : decode cX6_requireTile 0 = .ok (.iload_n 0, 1) := by decide +kernel
theorem dX6_requireTile_1 : decode cX6_requireTile 1 = .ok (.iload_n 1, 1) := by decide +kernel
theorem dX6_requireTile_2 : decode cX6_requireTile 2 = .ok (.invokestatic 301, 3) := by decide +kernel
theorem dX6_requireTile_5 : decode cX6_requireTile 5 = .ok (.ifCond .ne 14, 3) := by decide +kernel
theorem dX6_requireTile_8 : decode cX6_requireTile 8 = .ok (.new 168, 3) := by decide +kernel
theorem dX6_requireTile_11 : decode cX6_requireTile 11 = .ok (.dup, 1) := by decide +kernel
theorem dX6_requireTile_12 : decode cX6_requireTile 12 = .ok (.ldc_w 304, 3) := by decide +kernel
theorem dX6_requireTile_15 : decode cX6_requireTile 15 = .ok (.invokespecial 172, 3) := by decide +kernel
theorem dX6_requireTile_18 : decode cX6_requireTile 18 = .ok (.athrow, 1) := by decide +kernel
theorem dX6_requireTile_19 : decode cX6_requireTile 19 = .ok (.return_, 1) := by decide +kernel
set_option maxRecDepth 20000 in
theorem ggX6_requireBody_X6_isWithin : GoodIn wsX6_requireBody wsX6_isWithin := goodIn_r _ [8] (by decide +kernel) (by decide +kernel)
set_option maxRecDepth 20000 in
theorem gX6_requireBody_X6_isWithin : GoodIn wsX6_requireBody (va_wsS RX6 63 yX6_isWithin wsX6_isWithin) := goodIn_app (goodIn_of _ (by decide +kernel)) ggX6_requireBody_X6_isWithin
theorem dX6_requireBody_0 : decode cX6_requireBody 0 = .ok (.iload_n 1, 1) := by decide +kernel
theorem dX6_requireBody_1 : decode cX6_requireBody 1 = .ok (.iconst 0, 1) := by decide +kernel
theorem dX6_requireBody_2 : decode cX6_requireBody 2 = .ok (.aload_n 0, 1) := by decide +kernel
theorem dX6_requireBody_3 : decode cX6_requireBody 3 = .ok (.getfield 12, 3) := by decide +kernel
theorem dX6_requireBody_6 : decode cX6_requireBody 6 = .ok (.getfield 92, 3) := by decide +kernel
theorem dX6_requireBody_9 : decode cX6_requireBody 9 = .ok (.iconst 1, 1) := by decide +kernel
theorem dX6_requireBody_10 : decode cX6_requireBody 10 = .ok (.isub, 1) := by decide +kernel
theorem dX6_requireBody_11 : decode cX6_requireBody 11 = .ok (.invokestatic 63, 3) := by decide +kernel
theorem dX6_requireBody_14 : decode cX6_requireBody 14 = .ok (.ifCond .ne 14, 3) := by decide +kernel
theorem dX6_requireBody_17 : decode cX6_requireBody 17 = .ok (.new 168, 3) := by decide +kernel
theorem dX6_requireBody_20 : decode cX6_requireBody 20 = .ok (.dup, 1) := by decide +kernel
theorem dX6_requireBody_21 : decode cX6_requireBody 21 = .ok (.ldc_w 306, 3) := by decide +kernel
theorem dX6_requireBody_24 : decode cX6_requireBody 24 = .ok (.invokespecial 172, 3) := by decide +kernel
theorem dX6_requireBody_27 : decode cX6_requireBody 27 = .ok (.athrow, 1) := by decide +kernel
theorem dX6_requireBody_28 : decode cX6_requireBody 28 = .ok (.return_, 1) := by decide +kernel
set_option maxRecDepth 20000 in
theorem ggX6_requirePlatform_X6_isWithin : GoodIn wsX6_requirePlatform wsX6_isWithin := goodIn_r _ [8] (by decide +kernel) (by decide +kernel)
set_option maxRecDepth 20000 in
theorem gX6_requirePlatform_X6_isWithin : GoodIn wsX6_requirePlatform (va_wsS RX6 63 yX6_isWithin wsX6_isWithin) := goodIn_app (goodIn_of _ (by decide +kernel)) ggX6_requirePlatform_X6_isWithin
theorem dX6_requirePlatform_0 : decode cX6_requirePlatform 0 = .ok (.iload_n 1, 1) := by decide +kernel
theorem dX6_requirePlatform_1 : decode cX6_requirePlatform 1 = .ok (.iconst 0, 1) := by decide +kernel
theorem dX6_requirePlatform_2 : decode cX6_requirePlatform 2 = .ok (.aload_n 0, 1) := by decide +kernel
theorem dX6_requirePlatform_3 : decode cX6_requirePlatform 3 = .ok (.getfield 12, 3) := by decide +kernel
theorem dX6_requirePlatform_6 : decode cX6_requirePlatform 6 = .ok (.getfield 144, 3) := by decide +kernel
theorem dX6_requirePlatform_9 : decode cX6_requirePlatform 9 = .ok (.iconst 1, 1) := by decide +kernel
theorem dX6_requirePlatform_10 : decode cX6_requirePlatform 10 = .ok (.isub, 1) := by decide +kernel
theorem dX6_requirePlatform_11 : decode cX6_requirePlatform 11 = .ok (.invokestatic 63, 3) := by decide +kernel
theorem dX6_requirePlatform_14 : decode cX6_requirePlatform 14 = .ok (.ifCond .ne 14, 3) := by decide +kernel
theorem dX6_requirePlatform_17 : decode cX6_requirePlatform 17 = .ok (.new 168, 3) := by decide +kernel
theorem dX6_requirePlatform_20 : decode cX6_requirePlatform 20 = .ok (.dup, 1) := by decide +kernel
theorem dX6_requirePlatform_21 : decode cX6_requirePlatform 21 = .ok (.ldc_w 308, 3) := by decide +kernel
theorem dX6_requirePlatform_24 : decode cX6_requirePlatform 24 = .ok (.invokespecial 172, 3) := by decide +kernel
theorem dX6_requirePlatform_27 : decode cX6_requirePlatform 27 = .ok (.athrow, 1) := by decide +kernel
theorem dX6_requirePlatform_28 : decode cX6_requirePlatform 28 = .ok (.return_, 1) := by decide +kernel
set_option maxRecDepth 20000 in
theorem ggX6_acceptTrialTiles_X5_hasBlockedBody : GoodIn wsX6_acceptTrialTiles wsX5_hasBlockedBody := goodIn_ca (goodIn_r _ [11, 12, 13, 14, 15, 16, 17, 18, 19, 20, 21, 22, 23, 24, 25, 26, 27, 28, 29, 30, 31, 32, 33, 34, 35, 36, 37, 38, 39, 40, 41, 42, 43, 44, 45, 46, 47, 48, 49, 73, 74, 75, 76, 77, 78, 79, 80, 81, 82, 83, 84, 85, 86, 87, 88, 89, 90, 91, 92, 93, 94, 95, 96] (by decide +kernel) (by decide +kernel)) (goodIn_sub (fun _ h => List.mem_cons_of_mem _ (List.mem_append_right _ h)) (by decide +kernel))
set_option maxRecDepth 20000 in
theorem gX6_acceptTrialTiles_X5_hasBlockedBody : GoodIn wsX6_acceptTrialTiles (wsV RX6 310 RX5 yX5_hasBlockedBody wsX5_hasBlockedBody) := goodIn_app (goodIn_of _ (by decide +kernel)) ggX6_acceptTrialTiles_X5_hasBlockedBody
set_option maxRecDepth 20000 in
theorem ggX6_acceptTrialTiles_X4_copyFrom : GoodIn wsX6_acceptTrialTiles wsX4_copyFrom := goodIn_r _ [53, 41, 54, 55, 56, 57, 96] (by decide +kernel) (by decide +kernel)
set_option maxRecDepth 20000 in
theorem gX6_acceptTrialTiles_X4_copyFrom : GoodIn wsX6_acceptTrialTiles (wsV RX6 316 RX4 yX4_copyFrom wsX4_copyFrom) := goodIn_app (goodIn_of _ (by decide +kernel)) ggX6_acceptTrialTiles_X4_copyFrom
set_option maxRecDepth 20000 in
theorem ggX6_acceptTrialTiles_X1_forget : GoodIn wsX6_acceptTrialTiles wsX1_forget := goodIn_r _ [62, 63, 97, 98, 99] (by decide +kernel) (by decide +kernel)
set_option maxRecDepth 20000 in
theorem gX6_acceptTrialTiles_X1_forget : GoodIn wsX6_acceptTrialTiles (wsV RX6 118 RX1 yX1_forget wsX1_forget) := goodIn_app (goodIn_of _ (by decide +kernel)) ggX6_acceptTrialTiles_X1_forget
theorem dX6_acceptTrialTiles_0 : decode cX6_acceptTrialTiles 0 = .ok (.aload_n 0, 1) := by decide +kernel
theorem dX6_acceptTrialTiles_1 : decode cX6_acceptTrialTiles 1 = .ok (.getfield 16, 3) := by decide +kernel
theorem dX6_acceptTrialTiles_4 : decode cX6_acceptTrialTiles 4 = .ok (.invokevirtual 310, 3) := by decide +kernel
theorem dX6_acceptTrialTiles_7 : decode cX6_acceptTrialTiles 7 = .ok (.ifCond .eq 14, 3) := by decide +kernel
theorem dX6_acceptTrialTiles_10 : decode cX6_acceptTrialTiles 10 = .ok (.new 95, 3) := by decide +kernel
theorem dX6_acceptTrialTiles_13 : decode cX6_acceptTrialTiles 13 = .ok (.dup, 1) := by decide +kernel
theorem dX6_acceptTrialTiles_14 : decode cX6_acceptTrialTiles 14 = .ok (.ldc_w 314, 3) := by decide +kernel
theorem dX6_acceptTrialTiles_17 : decode cX6_acceptTrialTiles 17 = .ok (.invokespecial 99, 3) := by decide +kernel
theorem dX6_acceptTrialTiles_20 : decode cX6_acceptTrialTiles 20 = .ok (.athrow, 1) := by decide +kernel
theorem dX6_acceptTrialTiles_21 : decode cX6_acceptTrialTiles 21 = .ok (.aload_n 0, 1) := by decide +kernel
theorem dX6_acceptTrialTiles_22 : decode cX6_acceptTrialTiles 22 = .ok (.getfield 12, 3) := by decide +kernel
theorem dX6_acceptTrialTiles_25 : decode cX6_acceptTrialTiles 25 = .ok (.getfield 71, 3) := by decide +kernel
theorem dX6_acceptTrialTiles_28 : decode cX6_acceptTrialTiles 28 = .ok (.aload_n 0, 1) := by decide +kernel
theorem dX6_acceptTrialTiles_29 : decode cX6_acceptTrialTiles 29 = .ok (.getfield 16, 3) := by decide +kernel
theorem dX6_acceptTrialTiles_32 : decode cX6_acceptTrialTiles 32 = .ok (.getfield 71, 3) := by decide +kernel
theorem dX6_acceptTrialTiles_35 : decode cX6_acceptTrialTiles 35 = .ok (.invokevirtual 316, 3) := by decide +kernel
theorem dX6_acceptTrialTiles_38 : decode cX6_acceptTrialTiles 38 = .ok (.aload_n 0, 1) := by decide +kernel
theorem dX6_acceptTrialTiles_39 : decode cX6_acceptTrialTiles 39 = .ok (.getfield 40, 3) := by decide +kernel
theorem dX6_acceptTrialTiles_42 : decode cX6_acceptTrialTiles 42 = .ok (.invokevirtual 118, 3) := by decide +kernel
theorem dX6_acceptTrialTiles_45 : decode cX6_acceptTrialTiles 45 = .ok (.return_, 1) := by decide +kernel
theorem dX7_init_0 : decode cX7_init 0 = .ok (.aload_n 0, 1) := by decide +kernel
theorem dX7_init_1 : decode cX7_init 1 = .ok (.invokespecial 1, 3) := by decide +kernel
theorem dX7_init_4 : decode cX7_init 4 = .ok (.aload_n 0, 1) := by decide +kernel
theorem dX7_init_5 : decode cX7_init 5 = .ok (.sipush 480, 3) := by decide +kernel
theorem dX7_init_8 : decode cX7_init 8 = .ok (.newarray .int, 2) := by decide +kernel
theorem dX7_init_10 : decode cX7_init 10 = .ok (.putfield 7, 3) := by decide +kernel
theorem dX7_init_13 : decode cX7_init 13 = .ok (.aload_n 0, 1) := by decide +kernel
theorem dX7_init_14 : decode cX7_init 14 = .ok (.iconst 4, 1) := by decide +kernel
theorem dX7_init_15 : decode cX7_init 15 = .ok (.newarray .int, 2) := by decide +kernel
theorem dX7_init_17 : decode cX7_init 17 = .ok (.dup, 1) := by decide +kernel
theorem dX7_init_18 : decode cX7_init 18 = .ok (.iconst 0, 1) := by decide +kernel
theorem dX7_init_19 : decode cX7_init 19 = .ok (.iconst 5, 1) := by decide +kernel
theorem dX7_init_20 : decode cX7_init 20 = .ok (.iastore, 1) := by decide +kernel
theorem dX7_init_21 : decode cX7_init 21 = .ok (.dup, 1) := by decide +kernel
theorem dX7_init_22 : decode cX7_init 22 = .ok (.iconst 1, 1) := by decide +kernel
theorem dX7_init_23 : decode cX7_init 23 = .ok (.bipush 10, 2) := by decide +kernel
theorem dX7_init_25 : decode cX7_init 25 = .ok (.iastore, 1) := by decide +kernel
theorem dX7_init_26 : decode cX7_init 26 = .ok (.dup, 1) := by decide +kernel
theorem dX7_init_27 : decode cX7_init 27 = .ok (.iconst 2, 1) := by decide +kernel
theorem dX7_init_28 : decode cX7_init 28 = .ok (.iconst 4, 1) := by decide +kernel
theorem dX7_init_29 : decode cX7_init 29 = .ok (.iastore, 1) := by decide +kernel
theorem dX7_init_30 : decode cX7_init 30 = .ok (.dup, 1) := by decide +kernel
theorem dX7_init_31 : decode cX7_init 31 = .ok (.iconst 3, 1) := by decide +kernel
theorem dX7_init_32 : decode cX7_init 32 = .ok (.iconst 3, 1) := by decide +kernel
theorem dX7_init_33 : decode cX7_init 33 = .ok (.iastore, 1) := by decide +kernel
theorem dX7_init_34 : decode cX7_init 34 = .ok (.putfield 13, 3) := by decide +kernel
theorem dX7_init_37 : decode cX7_init 37 = .ok (.aload_n 0, 1) := by decide +kernel
theorem dX7_init_38 : decode cX7_init 38 = .ok (.iconst 4, 1) := by decide +kernel
theorem dX7_init_39 : decode cX7_init 39 = .ok (.newarray .int, 2) := by decide +kernel
theorem dX7_init_41 : decode cX7_init 41 = .ok (.putfield 16, 3) := by decide +kernel
theorem dX7_init_44 : decode cX7_init 44 = .ok (.aload_n 0, 1) := by decide +kernel
theorem dX7_init_45 : decode cX7_init 45 = .ok (.sipush 5760, 3) := by decide +kernel
theorem dX7_init_48 : decode cX7_init 48 = .ok (.newarray .int, 2) := by decide +kernel
theorem dX7_init_50 : decode cX7_init 50 = .ok (.putfield 19, 3) := by decide +kernel
theorem dX7_init_53 : decode cX7_init 53 = .ok (.aload_n 0, 1) := by decide +kernel
theorem dX7_init_54 : decode cX7_init 54 = .ok (.sipush 480, 3) := by decide +kernel
theorem dX7_init_57 : decode cX7_init 57 = .ok (.newarray .int, 2) := by decide +kernel
theorem dX7_init_59 : decode cX7_init 59 = .ok (.putfield 22, 3) := by decide +kernel
theorem dX7_init_62 : decode cX7_init 62 = .ok (.aload_n 0, 1) := by decide +kernel
theorem dX7_init_63 : decode cX7_init 63 = .ok (.sipush 480, 3) := by decide +kernel
theorem dX7_init_66 : decode cX7_init 66 = .ok (.newarray .int, 2) := by decide +kernel
theorem dX7_init_68 : decode cX7_init 68 = .ok (.putfield 25, 3) := by decide +kernel
theorem dX7_init_71 : decode cX7_init 71 = .ok (.aload_n 0, 1) := by decide +kernel
theorem dX7_init_72 : decode cX7_init 72 = .ok (.iconst 4, 1) := by decide +kernel
theorem dX7_init_73 : decode cX7_init 73 = .ok (.newarray .int, 2) := by decide +kernel
theorem dX7_init_75 : decode cX7_init 75 = .ok (.putfield 28, 3) := by decide +kernel
theorem dX7_init_78 : decode cX7_init 78 = .ok (.aload_n 0, 1) := by decide +kernel
theorem dX7_init_79 : decode cX7_init 79 = .ok (.bipush 40, 2) := by decide +kernel
theorem dX7_init_81 : decode cX7_init 81 = .ok (.newarray .char, 2) := by decide +kernel
theorem dX7_init_83 : decode cX7_init 83 = .ok (.putfield 31, 3) := by decide +kernel
theorem dX7_init_86 : decode cX7_init 86 = .ok (.aload_n 0, 1) := by decide +kernel
theorem dX7_init_87 : decode cX7_init 87 = .ok (.bipush 20, 2) := by decide +kernel
theorem dX7_init_89 : decode cX7_init 89 = .ok (.newarray .int, 2) := by decide +kernel
theorem dX7_init_91 : decode cX7_init 91 = .ok (.putfield 35, 3) := by decide +kernel
theorem dX7_init_94 : decode cX7_init 94 = .ok (.aload_n 0, 1) := by decide +kernel
theorem dX7_init_95 : decode cX7_init 95 = .ok (.bipush 20, 2) := by decide +kernel
theorem dX7_init_97 : decode cX7_init 97 = .ok (.newarray .int, 2) := by decide +kernel
theorem dX7_init_99 : decode cX7_init 99 = .ok (.putfield 38, 3) := by decide +kernel
theorem dX7_init_102 : decode cX7_init 102 = .ok (.aload_n 0, 1) := by decide +kernel
theorem dX7_init_103 : decode cX7_init 103 = .ok (.iconst (-1), 1) := by decide +kernel
theorem dX7_init_104 : decode cX7_init 104 = .ok (.putfield 41, 3) := by decide +kernel
theorem dX7_init_107 : decode cX7_init 107 = .ok (.return_, 1) := by decide +kernel
theorem dX7_thrown_0 : decode cX7_thrown 0 = .ok (.aload_n 0, 1) := by decide +kernel
theorem dX7_thrown_1 : decode cX7_thrown 1 = .ok (.getfield 45, 3) := by decide +kernel
theorem dX7_thrown_4 : decode cX7_thrown 4 = .ok (.ireturn, 1) := by decide +kernel
theorem dX7_fails_0 : decode cX7_fails 0 = .ok (.aload_n 0, 1) := by decide +kernel
theorem dX7_fails_1 : decode cX7_fails 1 = .ok (.iload_n 1, 1) := by decide +kernel
theorem dX7_fails_2 : decode cX7_fails 2 = .ok (.putfield 45, 3) := by decide +kernel
theorem dX7_fails_5 : decode cX7_fails 5 = .ok (.iconst 0, 1) := by decide +kernel
theorem dX7_fails_6 : decode cX7_fails 6 = .ok (.ireturn, 1) := by decide +kernel
theorem dX7_refuses_0 : decode cX7_refuses 0 = .ok (.aload_n 0, 1) := by decide +kernel
theorem dX7_refuses_1 : decode cX7_refuses 1 = .ok (.iload_n 1, 1) := by decide +kernel
theorem dX7_refuses_2 : decode cX7_refuses 2 = .ok (.putfield 45, 3) := by decide +kernel
theorem dX7_refuses_5 : decode cX7_refuses 5 = .ok (.iconst 0, 1) := by decide +kernel
theorem dX7_refuses_6 : decode cX7_refuses 6 = .ok (.ireturn, 1) := by decide +kernel
theorem dX7_isBetween_0 : decode cX7_isBetween 0 = .ok (.iload_n 0, 1) := by decide +kernel
theorem dX7_isBetween_1 : decode cX7_isBetween 1 = .ok (.iload_n 1, 1) := by decide +kernel
theorem dX7_isBetween_2 : decode cX7_isBetween 2 = .ok (.if_icmp .lt 12, 3) := by decide +kernel
theorem dX7_isBetween_5 : decode cX7_isBetween 5 = .ok (.iload_n 0, 1) := by decide +kernel
theorem dX7_isBetween_6 : decode cX7_isBetween 6 = .ok (.iload_n 2, 1) := by decide +kernel
theorem dX7_isBetween_7 : decode cX7_isBetween 7 = .ok (.if_icmp .gt 7, 3) := by decide +kernel
theorem dX7_isBetween_10 : decode cX7_isBetween 10 = .ok (.iconst 1, 1) := by decide +kernel
theorem dX7_isBetween_11 : decode cX7_isBetween 11 = .ok (.goto 4, 3) := by decide +kernel
theorem dX7_isBetween_14 : decode cX7_isBetween 14 = .ok (.iconst 0, 1) := by decide +kernel
theorem dX7_isBetween_15 : decode cX7_isBetween 15 = .ok (.ireturn, 1) := by decide +kernel
theorem dX7_of_0 : decode cX7_of 0 = .ok (.aload_n 0, 1) := by decide +kernel
theorem dX7_of_1 : decode cX7_of 1 = .ok (.getfield 7, 3) := by decide +kernel
theorem dX7_of_4 : decode cX7_of 4 = .ok (.sipush 336, 3) := by decide +kernel
theorem dX7_of_7 : decode cX7_of 7 = .ok (.bipush 24, 2) := by decide +kernel
theorem dX7_of_9 : decode cX7_of 9 = .ok (.iload_n 1, 1) := by decide +kernel
theorem dX7_of_10 : decode cX7_of 10 = .ok (.imul, 1) := by decide +kernel
theorem dX7_of_11 : decode cX7_of 11 = .ok (.iadd, 1) := by decide +kernel
theorem dX7_of_12 : decode cX7_of 12 = .ok (.iload_n 2, 1) := by decide +kernel
theorem dX7_of_13 : decode cX7_of 13 = .ok (.iadd, 1) := by decide +kernel
theorem dX7_of_14 : decode cX7_of 14 = .ok (.iaload, 1) := by decide +kernel
theorem dX7_of_15 : decode cX7_of 15 = .ok (.ireturn, 1) := by decide +kernel
theorem dX7_sets_0 : decode cX7_sets 0 = .ok (.aload_n 0, 1) := by decide +kernel
theorem dX7_sets_1 : decode cX7_sets 1 = .ok (.getfield 7, 3) := by decide +kernel
theorem dX7_sets_4 : decode cX7_sets 4 = .ok (.sipush 336, 3) := by decide +kernel
theorem dX7_sets_7 : decode cX7_sets 7 = .ok (.bipush 24, 2) := by decide +kernel
theorem dX7_sets_9 : decode cX7_sets 9 = .ok (.iload_n 1, 1) := by decide +kernel
theorem dX7_sets_10 : decode cX7_sets 10 = .ok (.imul, 1) := by decide +kernel
theorem dX7_sets_11 : decode cX7_sets 11 = .ok (.iadd, 1) := by decide +kernel
theorem dX7_sets_12 : decode cX7_sets 12 = .ok (.iload_n 2, 1) := by decide +kernel
theorem dX7_sets_13 : decode cX7_sets 13 = .ok (.iadd, 1) := by decide +kernel
theorem dX7_sets_14 : decode cX7_sets 14 = .ok (.iload_n 3, 1) := by decide +kernel
theorem dX7_sets_15 : decode cX7_sets 15 = .ok (.iastore, 1) := by decide +kernel
theorem dX7_sets_16 : decode cX7_sets 16 = .ok (.return_, 1) := by decide +kernel
theorem dX7_adds_0 : decode cX7_adds 0 = .ok (.aload_n 0, 1) := by decide +kernel
theorem dX7_adds_1 : decode cX7_adds 1 = .ok (.getfield 7, 3) := by decide +kernel
theorem dX7_adds_4 : decode cX7_adds 4 = .ok (.sipush 336, 3) := by decide +kernel
theorem dX7_adds_7 : decode cX7_adds 7 = .ok (.bipush 24, 2) := by decide +kernel
theorem dX7_adds_9 : decode cX7_adds 9 = .ok (.iload_n 1, 1) := by decide +kernel
theorem dX7_adds_10 : decode cX7_adds 10 = .ok (.imul, 1) := by decide +kernel
theorem dX7_adds_11 : decode cX7_adds 11 = .ok (.iadd, 1) := by decide +kernel
theorem dX7_adds_12 : decode cX7_adds 12 = .ok (.iload_n 2, 1) := by decide +kernel
theorem dX7_adds_13 : decode cX7_adds 13 = .ok (.iadd, 1) := by decide +kernel
theorem dX7_adds_14 : decode cX7_adds 14 = .ok (.dup2, 1) := by decide +kernel
theorem dX7_adds_15 : decode cX7_adds 15 = .ok (.iaload, 1) := by decide +kernel
theorem dX7_adds_16 : decode cX7_adds 16 = .ok (.iload_n 3, 1) := by decide +kernel
theorem dX7_adds_17 : decode cX7_adds 17 = .ok (.iadd, 1) := by decide +kernel
theorem dX7_adds_18 : decode cX7_adds 18 = .ok (.iastore, 1) := by decide +kernel
theorem dX7_adds_19 : decode cX7_adds 19 = .ok (.return_, 1) := by decide +kernel
theorem dX7_plate_0 : decode cX7_plate 0 = .ok (.aload_n 0, 1) := by decide +kernel
theorem dX7_plate_1 : decode cX7_plate 1 = .ok (.getfield 7, 3) := by decide +kernel
theorem dX7_plate_4 : decode cX7_plate 4 = .ok (.sipush 432, 3) := by decide +kernel
theorem dX7_plate_7 : decode cX7_plate 7 = .ok (.bipush 8, 2) := by decide +kernel
theorem dX7_plate_9 : decode cX7_plate 9 = .ok (.iload_n 1, 1) := by decide +kernel
theorem dX7_plate_10 : decode cX7_plate 10 = .ok (.imul, 1) := by decide +kernel
theorem dX7_plate_11 : decode cX7_plate 11 = .ok (.iadd, 1) := by decide +kernel
theorem dX7_plate_12 : decode cX7_plate 12 = .ok (.iload_n 2, 1) := by decide +kernel
theorem dX7_plate_13 : decode cX7_plate 13 = .ok (.iadd, 1) := by decide +kernel
theorem dX7_plate_14 : decode cX7_plate 14 = .ok (.iaload, 1) := by decide +kernel
theorem dX7_plate_15 : decode cX7_plate 15 = .ok (.ireturn, 1) := by decide +kernel
theorem dX7_setsPlate_0 : decode cX7_setsPlate 0 = .ok (.aload_n 0, 1) := by decide +kernel
theorem dX7_setsPlate_1 : decode cX7_setsPlate 1 = .ok (.getfield 7, 3) := by decide +kernel
theorem dX7_setsPlate_4 : decode cX7_setsPlate 4 = .ok (.sipush 432, 3) := by decide +kernel
theorem dX7_setsPlate_7 : decode cX7_setsPlate 7 = .ok (.bipush 8, 2) := by decide +kernel
theorem dX7_setsPlate_9 : decode cX7_setsPlate 9 = .ok (.iload_n 1, 1) := by decide +kernel
theorem dX7_setsPlate_10 : decode cX7_setsPlate 10 = .ok (.imul, 1) := by decide +kernel
theorem dX7_setsPlate_11 : decode cX7_setsPlate 11 = .ok (.iadd, 1) := by decide +kernel
theorem dX7_setsPlate_12 : decode cX7_setsPlate 12 = .ok (.iload_n 2, 1) := by decide +kernel
theorem dX7_setsPlate_13 : decode cX7_setsPlate 13 = .ok (.iadd, 1) := by decide +kernel
theorem dX7_setsPlate_14 : decode cX7_setsPlate 14 = .ok (.iload_n 3, 1) := by decide +kernel
theorem dX7_setsPlate_15 : decode cX7_setsPlate 15 = .ok (.iastore, 1) := by decide +kernel
theorem dX7_setsPlate_16 : decode cX7_setsPlate 16 = .ok (.return_, 1) := by decide +kernel
theorem dX7_isBody_0 : decode cX7_isBody 0 = .ok (.iload_n 1, 1) := by decide +kernel
theorem dX7_isBody_1 : decode cX7_isBody 1 = .ok (.ifCond .lt 19, 3) := by decide +kernel
theorem dX7_isBody_4 : decode cX7_isBody 4 = .ok (.iload_n 1, 1) := by decide +kernel
theorem dX7_isBody_5 : decode cX7_isBody 5 = .ok (.aload_n 0, 1) := by decide +kernel
theorem dX7_isBody_6 : decode cX7_isBody 6 = .ok (.getfield 7, 3) := by decide +kernel
theorem dX7_isBody_9 : decode cX7_isBody 9 = .ok (.sipush 464, 3) := by decide +kernel
theorem dX7_isBody_12 : decode cX7_isBody 12 = .ok (.iaload, 1) := by decide +kernel
theorem dX7_isBody_13 : decode cX7_isBody 13 = .ok (.if_icmp .ge 7, 3) := by decide +kernel
theorem dX7_isBody_16 : decode cX7_isBody 16 = .ok (.iconst 1, 1) := by decide +kernel
theorem dX7_isBody_17 : decode cX7_isBody 17 = .ok (.goto 4, 3) := by decide +kernel
theorem dX7_isBody_20 : decode cX7_isBody 20 = .ok (.iconst 0, 1) := by decide +kernel
theorem dX7_isBody_21 : decode cX7_isBody 21 = .ok (.ireturn, 1) := by decide +kernel
theorem dX7_isTile_0 : decode cX7_isTile 0 = .ok (.iload_n 0, 1) := by decide +kernel
theorem dX7_isTile_1 : decode cX7_isTile 1 = .ok (.ifCond .lt 23, 3) := by decide +kernel
theorem dX7_isTile_4 : decode cX7_isTile 4 = .ok (.iload_n 0, 1) := by decide +kernel
theorem dX7_isTile_5 : decode cX7_isTile 5 = .ok (.bipush 24, 2) := by decide +kernel
theorem dX7_isTile_7 : decode cX7_isTile 7 = .ok (.if_icmp .ge 17, 3) := by decide +kernel
theorem dX7_isTile_10 : decode cX7_isTile 10 = .ok (.iload_n 1, 1) := by decide +kernel
theorem dX7_isTile_11 : decode cX7_isTile 11 = .ok (.ifCond .lt 13, 3) := by decide +kernel
theorem dX7_isTile_14 : decode cX7_isTile 14 = .ok (.iload_n 1, 1) := by decide +kernel
theorem dX7_isTile_15 : decode cX7_isTile 15 = .ok (.bipush 14, 2) := by decide +kernel
theorem dX7_isTile_17 : decode cX7_isTile 17 = .ok (.if_icmp .ge 7, 3) := by decide +kernel
theorem dX7_isTile_20 : decode cX7_isTile 20 = .ok (.iconst 1, 1) := by decide +kernel
theorem dX7_isTile_21 : decode cX7_isTile 21 = .ok (.goto 4, 3) := by decide +kernel
theorem dX7_isTile_24 : decode cX7_isTile 24 = .ok (.iconst 0, 1) := by decide +kernel
theorem dX7_isTile_25 : decode cX7_isTile 25 = .ok (.ireturn, 1) := by decide +kernel
set_option maxRecDepth 20000 in
theorem ggX7_rowOf_J9_floorDiv_7cf53 : GoodIn wsX7_rowOf wsJ9_floorDiv_7cf53 := goodIn_r _ [4] (by decide +kernel) (by decide +kernel)
set_option maxRecDepth 20000 in
theorem gX7_rowOf_J9_floorDiv_7cf53 : GoodIn wsX7_rowOf (va_wsS RX7 48 yJ9_floorDiv_7cf53 wsJ9_floorDiv_7cf53) := goodIn_app (goodIn_of _ (by decide +kernel)) ggX7_rowOf_J9_floorDiv_7cf53
theorem dX7_rowOf_0 : decode cX7_rowOf 0 = .ok (.iload_n 0, 1) := by decide +kernel
theorem dX7_rowOf_1 : decode cX7_rowOf 1 = .ok (.bipush 16, 2) := by decide +kernel
theorem dX7_rowOf_3 : decode cX7_rowOf 3 = .ok (.invokestatic 48, 3) := by decide +kernel
theorem dX7_rowOf_6 : decode cX7_rowOf 6 = .ok (.ireturn, 1) := by decide +kernel
theorem dX7_kindIn_0 : decode cX7_kindIn 0 = .ok (.iload_n 1, 1) := by decide +kernel
theorem dX7_kindIn_1 : decode cX7_kindIn 1 = .ok (.ifCond .lt 9, 3) := by decide +kernel
theorem dX7_kindIn_4 : decode cX7_kindIn 4 = .ok (.iload_n 1, 1) := by decide +kernel
theorem dX7_kindIn_5 : decode cX7_kindIn 5 = .ok (.bipush 24, 2) := by decide +kernel
theorem dX7_kindIn_7 : decode cX7_kindIn 7 = .ok (.if_icmp .lt 5, 3) := by decide +kernel
theorem dX7_kindIn_10 : decode cX7_kindIn 10 = .ok (.iconst 1, 1) := by decide +kernel
theorem dX7_kindIn_11 : decode cX7_kindIn 11 = .ok (.ireturn, 1) := by decide +kernel
theorem dX7_kindIn_12 : decode cX7_kindIn 12 = .ok (.iload_n 2, 1) := by decide +kernel
theorem dX7_kindIn_13 : decode cX7_kindIn 13 = .ok (.ifCond .lt 9, 3) := by decide +kernel
theorem dX7_kindIn_16 : decode cX7_kindIn 16 = .ok (.iload_n 2, 1) := by decide +kernel
theorem dX7_kindIn_17 : decode cX7_kindIn 17 = .ok (.bipush 14, 2) := by decide +kernel
theorem dX7_kindIn_19 : decode cX7_kindIn 19 = .ok (.if_icmp .lt 7, 3) := by decide +kernel
theorem dX7_kindIn_22 : decode cX7_kindIn 22 = .ok (.iconst 0, 1) := by decide +kernel
theorem dX7_kindIn_23 : decode cX7_kindIn 23 = .ok (.goto 14, 3) := by decide +kernel
theorem dX7_kindIn_26 : decode cX7_kindIn 26 = .ok (.aload_n 0, 1) := by decide +kernel
theorem dX7_kindIn_27 : decode cX7_kindIn 27 = .ok (.getfield 7, 3) := by decide +kernel
theorem dX7_kindIn_30 : decode cX7_kindIn 30 = .ok (.bipush 24, 2) := by decide +kernel
theorem dX7_kindIn_32 : decode cX7_kindIn 32 = .ok (.iload_n 2, 1) := by decide +kernel
theorem dX7_kindIn_33 : decode cX7_kindIn 33 = .ok (.imul, 1) := by decide +kernel
theorem dX7_kindIn_34 : decode cX7_kindIn 34 = .ok (.iload_n 1, 1) := by decide +kernel
theorem dX7_kindIn_35 : decode cX7_kindIn 35 = .ok (.iadd, 1) := by decide +kernel
theorem dX7_kindIn_36 : decode cX7_kindIn 36 = .ok (.iaload, 1) := by decide +kernel
theorem dX7_kindIn_37 : decode cX7_kindIn 37 = .ok (.ireturn, 1) := by decide +kernel
set_option maxRecDepth 20000 in
theorem ggX7_kindAt_J9_floorDiv_7cf53 : GoodIn wsX7_kindAt wsJ9_floorDiv_7cf53 := goodIn_r _ [4] (by decide +kernel) (by decide +kernel)
set_option maxRecDepth 20000 in
theorem gX7_kindAt_J9_floorDiv_7cf53 : GoodIn wsX7_kindAt (va_wsS RX7 48 yJ9_floorDiv_7cf53 wsJ9_floorDiv_7cf53) := goodIn_app (goodIn_of _ (by decide +kernel)) ggX7_kindAt_J9_floorDiv_7cf53
set_option maxRecDepth 20000 in
theorem ggX7_kindAt_X7_rowOf : GoodIn wsX7_kindAt wsX7_rowOf := goodIn_r _ [8, 1, 2, 3, 4] (by decide +kernel) (by decide +kernel)
set_option maxRecDepth 20000 in
theorem gX7_kindAt_X7_rowOf : GoodIn wsX7_kindAt (va_wsS RX7 54 yX7_rowOf wsX7_rowOf) := goodIn_app (goodIn_of _ (by decide +kernel)) ggX7_kindAt_X7_rowOf
set_option maxRecDepth 20000 in
theorem ggX7_kindAt_X7_kindIn : GoodIn wsX7_kindAt wsX7_kindIn := goodIn_ca (goodIn_r _ [12, 13, 14, 15, 16, 17, 18, 19, 20, 21, 22, 23, 24, 25, 26, 27, 28, 29, 30] (by decide +kernel) (by decide +kernel)) (goodIn_sub (fun _ h => List.mem_cons_of_mem _ (List.mem_append_right _ h)) (by decide +kernel))
set_option maxRecDepth 20000 in
theorem gX7_kindAt_X7_kindIn : GoodIn wsX7_kindAt (wsV RX7 58 RX7 yX7_kindIn wsX7_kindIn) := goodIn_app (goodIn_of _ (by decide +kernel)) ggX7_kindAt_X7_kindIn
theorem dX7_kindAt_0 : decode cX7_kindAt 0 = .ok (.aload_n 0, 1) := by decide +kernel
theorem dX7_kindAt_1 : decode cX7_kindAt 1 = .ok (.iload_n 1, 1) := by decide +kernel
theorem dX7_kindAt_2 : decode cX7_kindAt 2 = .ok (.bipush 16, 2) := by decide +kernel
theorem dX7_kindAt_4 : decode cX7_kindAt 4 = .ok (.invokestatic 48, 3) := by decide +kernel
theorem dX7_kindAt_7 : decode cX7_kindAt 7 = .ok (.iload_n 2, 1) := by decide +kernel
theorem dX7_kindAt_8 : decode cX7_kindAt 8 = .ok (.invokestatic 54, 3) := by decide +kernel
theorem dX7_kindAt_11 : decode cX7_kindAt 11 = .ok (.invokevirtual 58, 3) := by decide +kernel
theorem dX7_kindAt_14 : decode cX7_kindAt 14 = .ok (.ireturn, 1) := by decide +kernel
set_option maxRecDepth 20000 in
theorem ggX7_isFirm_X7_isBetween : GoodIn wsX7_isFirm wsX7_isBetween := goodIn_r _ [4] (by decide +kernel) (by decide +kernel)
set_option maxRecDepth 20000 in
theorem gX7_isFirm_X7_isBetween : GoodIn wsX7_isFirm (va_wsS RX7 61 yX7_isBetween wsX7_isBetween) := goodIn_app (goodIn_of _ (by decide +kernel)) ggX7_isFirm_X7_isBetween
theorem dX7_isFirm_0 : decode cX7_isFirm 0 = .ok (.iload_n 0, 1) := by decide +kernel
theorem dX7_isFirm_1 : decode cX7_isFirm 1 = .ok (.iconst 1, 1) := by decide +kernel
theorem dX7_isFirm_2 : decode cX7_isFirm 2 = .ok (.if_icmp .eq 13, 3) := by decide +kernel
theorem dX7_isFirm_5 : decode cX7_isFirm 5 = .ok (.iload_n 0, 1) := by decide +kernel
theorem dX7_isFirm_6 : decode cX7_isFirm 6 = .ok (.iconst 5, 1) := by decide +kernel
theorem dX7_isFirm_7 : decode cX7_isFirm 7 = .ok (.bipush 8, 2) := by decide +kernel
theorem dX7_isFirm_9 : decode cX7_isFirm 9 = .ok (.invokestatic 61, 3) := by decide +kernel
theorem dX7_isFirm_12 : decode cX7_isFirm 12 = .ok (.ifCond .eq 7, 3) := by decide +kernel
theorem dX7_isFirm_15 : decode cX7_isFirm 15 = .ok (.iconst 1, 1) := by decide +kernel
theorem dX7_isFirm_16 : decode cX7_isFirm 16 = .ok (.goto 4, 3) := by decide +kernel
theorem dX7_isFirm_19 : decode cX7_isFirm 19 = .ok (.iconst 0, 1) := by decide +kernel
theorem dX7_isFirm_20 : decode cX7_isFirm 20 = .ok (.ireturn, 1) := by decide +kernel
theorem dX7_isSlope_0 : decode cX7_isSlope 0 = .ok (.iload_n 0, 1) := by decide +kernel
theorem dX7_isSlope_1 : decode cX7_isSlope 1 = .ok (.iconst 3, 1) := by decide +kernel
theorem dX7_isSlope_2 : decode cX7_isSlope 2 = .ok (.if_icmp .eq 8, 3) := by decide +kernel
theorem dX7_isSlope_5 : decode cX7_isSlope 5 = .ok (.iload_n 0, 1) := by decide +kernel
theorem dX7_isSlope_6 : decode cX7_isSlope 6 = .ok (.iconst 4, 1) := by decide +kernel
theorem dX7_isSlope_7 : decode cX7_isSlope 7 = .ok (.if_icmp .ne 7, 3) := by decide +kernel
theorem dX7_isSlope_10 : decode cX7_isSlope 10 = .ok (.iconst 1, 1) := by decide +kernel
theorem dX7_isSlope_11 : decode cX7_isSlope 11 = .ok (.goto 4, 3) := by decide +kernel
theorem dX7_isSlope_14 : decode cX7_isSlope 14 = .ok (.iconst 0, 1) := by decide +kernel
theorem dX7_isSlope_15 : decode cX7_isSlope 15 = .ok (.ireturn, 1) := by decide +kernel
set_option maxRecDepth 20000 in
theorem ggX7_surfaceAt_X7_rowOf : GoodIn wsX7_surfaceAt wsX7_rowOf := goodIn_r _ [4, 5, 6, 7, 8] (by decide +kernel) (by decide +kernel)
set_option maxRecDepth 20000 in
theorem gX7_surfaceAt_X7_rowOf : GoodIn wsX7_surfaceAt (va_wsS RX7 54 yX7_rowOf wsX7_rowOf) := goodIn_app (goodIn_of _ (by decide +kernel)) ggX7_surfaceAt_X7_rowOf
set_option maxRecDepth 20000 in
theorem ggX7_surfaceAt_X7_kindAt : GoodIn wsX7_surfaceAt wsX7_kindAt := goodIn_ca (goodIn_r _ [12, 5, 6, 7, 8, 1, 2, 3, 4, 13, 14, 15, 16, 17, 18, 19, 20, 21, 22, 23, 24, 25, 26, 27, 28, 29, 30, 31, 32, 33, 34] (by decide +kernel) (by decide +kernel)) (goodIn_sub (fun _ h => List.mem_cons_of_mem _ (List.mem_append_right _ h)) (by decide +kernel))
set_option maxRecDepth 20000 in
theorem gX7_surfaceAt_X7_kindAt : GoodIn wsX7_surfaceAt (wsV RX7 65 RX7 yX7_kindAt wsX7_kindAt) := goodIn_app (goodIn_of _ (by decide +kernel)) ggX7_surfaceAt_X7_kindAt
theorem dX7_surfaceAt_0 : decode cX7_surfaceAt 0 = .ok (.bipush 16, 2) := by decide +kernel
theorem dX7_surfaceAt_2 : decode cX7_surfaceAt 2 = .ok (.iload_n 2, 1) := by decide +kernel
theorem dX7_surfaceAt_3 : decode cX7_surfaceAt 3 = .ok (.invokestatic 54, 3) := by decide +kernel
theorem dX7_surfaceAt_6 : decode cX7_surfaceAt 6 = .ok (.imul, 1) := by decide +kernel
theorem dX7_surfaceAt_7 : decode cX7_surfaceAt 7 = .ok (.aload_n 0, 1) := by decide +kernel
theorem dX7_surfaceAt_8 : decode cX7_surfaceAt 8 = .ok (.iload_n 1, 1) := by decide +kernel
theorem dX7_surfaceAt_9 : decode cX7_surfaceAt 9 = .ok (.iload_n 2, 1) := by decide +kernel
theorem dX7_surfaceAt_10 : decode cX7_surfaceAt 10 = .ok (.invokevirtual 65, 3) := by decide +kernel
theorem dX7_surfaceAt_13 : decode cX7_surfaceAt 13 = .ok (.iconst 3, 1) := by decide +kernel
theorem dX7_surfaceAt_14 : decode cX7_surfaceAt 14 = .ok (.if_icmp .ne 12, 3) := by decide +kernel
theorem dX7_surfaceAt_17 : decode cX7_surfaceAt 17 = .ok (.iload_n 1, 1) := by decide +kernel
theorem dX7_surfaceAt_18 : decode cX7_surfaceAt 18 = .ok (.bipush 16, 2) := by decide +kernel
theorem dX7_surfaceAt_20 : decode cX7_surfaceAt 20 = .ok (.irem, 1) := by decide +kernel
theorem dX7_surfaceAt_21 : decode cX7_surfaceAt 21 = .ok (.iconst 1, 1) := by decide +kernel
theorem dX7_surfaceAt_22 : decode cX7_surfaceAt 22 = .ok (.iadd, 1) := by decide +kernel
theorem dX7_surfaceAt_23 : decode cX7_surfaceAt 23 = .ok (.goto 10, 3) := by decide +kernel
theorem dX7_surfaceAt_26 : decode cX7_surfaceAt 26 = .ok (.bipush 16, 2) := by decide +kernel
theorem dX7_surfaceAt_28 : decode cX7_surfaceAt 28 = .ok (.iload_n 1, 1) := by decide +kernel
theorem dX7_surfaceAt_29 : decode cX7_surfaceAt 29 = .ok (.bipush 16, 2) := by decide +kernel
theorem dX7_surfaceAt_31 : decode cX7_surfaceAt 31 = .ok (.irem, 1) := by decide +kernel
theorem dX7_surfaceAt_32 : decode cX7_surfaceAt 32 = .ok (.isub, 1) := by decide +kernel
theorem dX7_surfaceAt_33 : decode cX7_surfaceAt 33 = .ok (.iadd, 1) := by decide +kernel
theorem dX7_surfaceAt_34 : decode cX7_surfaceAt 34 = .ok (.ireturn, 1) := by decide +kernel
set_option maxRecDepth 20000 in
theorem ggX7_foot_X7_of : GoodIn wsX7_foot wsX7_of := goodIn_ca (goodIn_r _ [5, 6, 7, 8, 9, 10, 11, 12, 13, 14, 15, 16, 17, 18, 19, 20, 21, 22, 23] (by decide +kernel) (by decide +kernel)) (goodIn_sub (fun _ h => List.mem_cons_of_mem _ (List.mem_append_right _ h)) (by decide +kernel))
set_option maxRecDepth 20000 in
theorem gX7_foot_X7_of : GoodIn wsX7_foot (wsV RX7 68 RX7 yX7_of wsX7_of) := goodIn_app (goodIn_of _ (by decide +kernel)) ggX7_foot_X7_of
theorem dX7_foot_0 : decode cX7_foot 0 = .ok (.iload_n 2, 1) := by decide +kernel
theorem dX7_foot_1 : decode cX7_foot 1 = .ok (.aload_n 0, 1) := by decide +kernel
theorem dX7_foot_2 : decode cX7_foot 2 = .ok (.iload_n 1, 1) := by decide +kernel
theorem dX7_foot_3 : decode cX7_foot 3 = .ok (.bipush 7, 2) := by decide +kernel
theorem dX7_foot_5 : decode cX7_foot 5 = .ok (.invokevirtual 68, 3) := by decide +kernel
theorem dX7_foot_8 : decode cX7_foot 8 = .ok (.iconst 2, 1) := by decide +kernel
theorem dX7_foot_9 : decode cX7_foot 9 = .ok (.idiv, 1) := by decide +kernel
theorem dX7_foot_10 : decode cX7_foot 10 = .ok (.iadd, 1) := by decide +kernel
theorem dX7_foot_11 : decode cX7_foot 11 = .ok (.ireturn, 1) := by decide +kernel
set_option maxRecDepth 20000 in
theorem ggX7_rowLeftOut_X7_foot : GoodIn wsX7_rowLeftOut wsX7_foot := goodIn_ca (goodIn_r _ [5, 6, 7, 8, 4, 9, 10, 29, 30, 31, 32, 33, 34, 35, 36, 37, 38, 39, 40, 41, 42, 43, 44, 45] (by decide +kernel) (by decide +kernel)) (goodIn_sub (fun _ h => List.mem_cons_of_mem _ (List.mem_append_right _ h)) (by decide +kernel))
set_option maxRecDepth 20000 in
theorem gX7_rowLeftOut_X7_foot : GoodIn wsX7_rowLeftOut (wsV RX7 71 RX7 yX7_foot wsX7_foot) := goodIn_app (goodIn_of _ (by decide +kernel)) ggX7_rowLeftOut_X7_foot
set_option maxRecDepth 20000 in
theorem ggX7_rowLeftOut_X7_kindAt : GoodIn wsX7_rowLeftOut wsX7_kindAt := goodIn_ca (goodIn_r _ [14, 15, 16, 17, 18, 19, 20, 4, 21, 22, 23, 24, 25, 10, 29, 30, 31, 32, 33, 34, 35, 36, 37, 38, 39, 40, 41, 42, 43, 44, 45] (by decide +kernel) (by decide +kernel)) (goodIn_sub (fun _ h => List.mem_cons_of_mem _ (List.mem_append_right _ h)) (by decide +kernel))
set_option maxRecDepth 20000 in
theorem gX7_rowLeftOut_X7_kindAt : GoodIn wsX7_rowLeftOut (wsV RX7 65 RX7 yX7_kindAt wsX7_kindAt) := goodIn_app (goodIn_of _ (by decide +kernel)) ggX7_rowLeftOut_X7_kindAt
set_option maxRecDepth 20000 in
theorem ggX7_rowLeftOut_X7_isSlope : GoodIn wsX7_rowLeftOut wsX7_isSlope := goodIn_r _ [28] (by decide +kernel) (by decide +kernel)
set_option maxRecDepth 20000 in
theorem gX7_rowLeftOut_X7_isSlope : GoodIn wsX7_rowLeftOut (va_wsS RX7 74 yX7_isSlope wsX7_isSlope) := goodIn_app (goodIn_of _ (by decide +kernel)) ggX7_rowLeftOut_X7_isSlope
set_option maxRecDepth 20000 in
theorem ggX7_rowLeftOut_X7_rowOf : GoodIn wsX7_rowLeftOut wsX7_rowOf := goodIn_r _ [21, 15, 16, 17, 18] (by decide +kernel) (by decide +kernel)
set_option maxRecDepth 20000 in
theorem gX7_rowLeftOut_X7_rowOf : GoodIn wsX7_rowLeftOut (va_wsS RX7 54 yX7_rowOf wsX7_rowOf) := goodIn_app (goodIn_of _ (by decide +kernel)) ggX7_rowLeftOut_X7_rowOf
theorem dX7_rowLeftOut_0 : decode cX7_rowLeftOut 0 = .ok (.aload_n 0, 1) := by decide +kernel
theorem dX7_rowLeftOut_1 : decode cX7_rowLeftOut 1 = .ok (.aload_n 0, 1) := by decide +kernel
theorem dX7_rowLeftOut_2 : decode cX7_rowLeftOut 2 = .ok (.iload_n 1, 1) := by decide +kernel
theorem dX7_rowLeftOut_3 : decode cX7_rowLeftOut 3 = .ok (.iload_n 2, 1) := by decide +kernel
theorem dX7_rowLeftOut_4 : decode cX7_rowLeftOut 4 = .ok (.invokevirtual 71, 3) := by decide +kernel
theorem dX7_rowLeftOut_7 : decode cX7_rowLeftOut 7 = .ok (.iload_n 3, 1) := by decide +kernel
theorem dX7_rowLeftOut_8 : decode cX7_rowLeftOut 8 = .ok (.invokevirtual 65, 3) := by decide +kernel
theorem dX7_rowLeftOut_11 : decode cX7_rowLeftOut 11 = .ok (.invokestatic 74, 3) := by decide +kernel
theorem dX7_rowLeftOut_14 : decode cX7_rowLeftOut 14 = .ok (.ifCond .eq 10, 3) := by decide +kernel
theorem dX7_rowLeftOut_17 : decode cX7_rowLeftOut 17 = .ok (.iload_n 3, 1) := by decide +kernel
theorem dX7_rowLeftOut_18 : decode cX7_rowLeftOut 18 = .ok (.invokestatic 54, 3) := by decide +kernel
theorem dX7_rowLeftOut_21 : decode cX7_rowLeftOut 21 = .ok (.goto 6, 3) := by decide +kernel
theorem dX7_rowLeftOut_24 : decode cX7_rowLeftOut 24 = .ok (.sipush (-1000), 3) := by decide +kernel
theorem dX7_rowLeftOut_27 : decode cX7_rowLeftOut 27 = .ok (.ireturn, 1) := by decide +kernel
theorem dX7_isBeside_0 : decode cX7_isBeside 0 = .ok (.iload_n 0, 1) := by decide +kernel
theorem dX7_isBeside_1 : decode cX7_isBeside 1 = .ok (.ifCond .lt 9, 3) := by decide +kernel
theorem dX7_isBeside_4 : decode cX7_isBeside 4 = .ok (.iload_n 0, 1) := by decide +kernel
theorem dX7_isBeside_5 : decode cX7_isBeside 5 = .ok (.bipush 24, 2) := by decide +kernel
theorem dX7_isBeside_7 : decode cX7_isBeside 7 = .ok (.if_icmp .lt 7, 3) := by decide +kernel
theorem dX7_isBeside_10 : decode cX7_isBeside 10 = .ok (.iconst 1, 1) := by decide +kernel
theorem dX7_isBeside_11 : decode cX7_isBeside 11 = .ok (.goto 4, 3) := by decide +kernel
theorem dX7_isBeside_14 : decode cX7_isBeside 14 = .ok (.iconst 0, 1) := by decide +kernel
theorem dX7_isBeside_15 : decode cX7_isBeside 15 = .ok (.ireturn, 1) := by decide +kernel
set_option maxRecDepth 20000 in
theorem ggX7_blocks_X7_rowLeftOut : GoodIn wsX7_blocks wsX7_rowLeftOut := goodIn_ca (goodIn_r _ [5, 6, 7, 8, 4, 9, 10, 11, 12, 13, 14, 15, 16, 17, 18, 19, 20, 21, 22, 23, 24, 25, 26, 27, 28, 29, 30, 31, 32, 42, 43, 44, 45, 46, 47, 48, 49, 50, 51, 52, 53, 54, 55, 56, 57, 58] (by decide +kernel) (by decide +kernel)) (goodIn_sub (fun _ h => List.mem_cons_of_mem _ (List.mem_append_right _ h)) (by decide +kernel))
set_option maxRecDepth 20000 in
theorem gX7_blocks_X7_rowLeftOut : GoodIn wsX7_blocks (wsV RX7 78 RX7 yX7_rowLeftOut wsX7_rowLeftOut) := goodIn_app (goodIn_of _ (by decide +kernel)) ggX7_blocks_X7_rowLeftOut
set_option maxRecDepth 20000 in
theorem ggX7_blocks_J9_floorDiv_7cf53 : GoodIn wsX7_blocks wsJ9_floorDiv_7cf53 := goodIn_r _ [22] (by decide +kernel) (by decide +kernel)
set_option maxRecDepth 20000 in
theorem gX7_blocks_J9_floorDiv_7cf53 : GoodIn wsX7_blocks (va_wsS RX7 48 yJ9_floorDiv_7cf53 wsJ9_floorDiv_7cf53) := goodIn_app (goodIn_of _ (by decide +kernel)) ggX7_blocks_J9_floorDiv_7cf53
set_option maxRecDepth 20000 in
theorem ggX7_blocks_X7_of : GoodIn wsX7_blocks wsX7_of := goodIn_ca (goodIn_r _ [13, 14, 42, 43, 44, 45, 46, 47, 48, 49, 50, 51, 52, 53, 54, 55, 56, 57, 58] (by decide +kernel) (by decide +kernel)) (goodIn_sub (fun _ h => List.mem_cons_of_mem _ (List.mem_append_right _ h)) (by decide +kernel))
set_option maxRecDepth 20000 in
theorem gX7_blocks_X7_of : GoodIn wsX7_blocks (wsV RX7 68 RX7 yX7_of wsX7_of) := goodIn_app (goodIn_of _ (by decide +kernel)) ggX7_blocks_X7_of
set_option maxRecDepth 20000 in
theorem ggX7_blocks_X7_rowOf : GoodIn wsX7_blocks wsX7_rowOf := goodIn_r _ [25, 19, 20, 21, 22] (by decide +kernel) (by decide +kernel)
set_option maxRecDepth 20000 in
theorem gX7_blocks_X7_rowOf : GoodIn wsX7_blocks (va_wsS RX7 54 yX7_rowOf wsX7_rowOf) := goodIn_app (goodIn_of _ (by decide +kernel)) ggX7_blocks_X7_rowOf
set_option maxRecDepth 20000 in
theorem ggX7_blocks_X7_kindIn : GoodIn wsX7_blocks wsX7_kindIn := goodIn_ca (goodIn_r _ [29, 14, 42, 43, 44, 45, 46, 47, 48, 49, 50, 51, 52, 53, 54, 55, 56, 57, 58] (by decide +kernel) (by decide +kernel)) (goodIn_sub (fun _ h => List.mem_cons_of_mem _ (List.mem_append_right _ h)) (by decide +kernel))
set_option maxRecDepth 20000 in
theorem gX7_blocks_X7_kindIn : GoodIn wsX7_blocks (wsV RX7 58 RX7 yX7_kindIn wsX7_kindIn) := goodIn_app (goodIn_of _ (by decide +kernel)) ggX7_blocks_X7_kindIn
set_option maxRecDepth 20000 in
theorem ggX7_blocks_X7_isFirm : GoodIn wsX7_blocks wsX7_isFirm := goodIn_r _ [35, 36, 37, 4, 38] (by decide +kernel) (by decide +kernel)
set_option maxRecDepth 20000 in
theorem gX7_blocks_X7_isFirm : GoodIn wsX7_blocks (va_wsS RX7 82 yX7_isFirm wsX7_isFirm) := goodIn_app (goodIn_of _ (by decide +kernel)) ggX7_blocks_X7_isFirm
set_option maxRecDepth 20000 in
theorem ggX7_blocks_X7_isBeside : GoodIn wsX7_blocks wsX7_isBeside := goodIn_r _ [41] (by decide +kernel) (by decide +kernel)
set_option maxRecDepth 20000 in
theorem gX7_blocks_X7_isBeside : GoodIn wsX7_blocks (va_wsS RX7 85 yX7_isBeside wsX7_isBeside) := goodIn_app (goodIn_of _ (by decide +kernel)) ggX7_blocks_X7_isBeside
theorem dX7_blocks_0 : decode cX7_blocks 0 = .ok (.aload_n 0, 1) := by decide +kernel
theorem dX7_blocks_1 : decode cX7_blocks 1 = .ok (.iload_n 1, 1) := by decide +kernel
theorem dX7_blocks_2 : decode cX7_blocks 2 = .ok (.iload_n 2, 1) := by decide +kernel
theorem dX7_blocks_3 : decode cX7_blocks 3 = .ok (.iload_n 3, 1) := by decide +kernel
theorem dX7_blocks_4 : decode cX7_blocks 4 = .ok (.invokevirtual 78, 3) := by decide +kernel
theorem dX7_blocks_7 : decode cX7_blocks 7 = .ok (.istore 4, 2) := by decide +kernel
theorem dX7_blocks_9 : decode cX7_blocks 9 = .ok (.iload_n 2, 1) := by decide +kernel
theorem dX7_blocks_10 : decode cX7_blocks 10 = .ok (.bipush 16, 2) := by decide +kernel
theorem dX7_blocks_12 : decode cX7_blocks 12 = .ok (.invokestatic 48, 3) := by decide +kernel
theorem dX7_blocks_15 : decode cX7_blocks 15 = .ok (.istore 5, 2) := by decide +kernel
theorem dX7_blocks_17 : decode cX7_blocks 17 = .ok (.iload 5, 2) := by decide +kernel
theorem dX7_blocks_19 : decode cX7_blocks 19 = .ok (.iload_n 2, 1) := by decide +kernel
theorem dX7_blocks_20 : decode cX7_blocks 20 = .ok (.aload_n 0, 1) := by decide +kernel
theorem dX7_blocks_21 : decode cX7_blocks 21 = .ok (.iload_n 1, 1) := by decide +kernel
theorem dX7_blocks_22 : decode cX7_blocks 22 = .ok (.bipush 7, 2) := by decide +kernel
theorem dX7_blocks_24 : decode cX7_blocks 24 = .ok (.invokevirtual 68, 3) := by decide +kernel
theorem dX7_blocks_27 : decode cX7_blocks 27 = .ok (.iadd, 1) := by decide +kernel
theorem dX7_blocks_28 : decode cX7_blocks 28 = .ok (.iconst 1, 1) := by decide +kernel
theorem dX7_blocks_29 : decode cX7_blocks 29 = .ok (.isub, 1) := by decide +kernel
theorem dX7_blocks_30 : decode cX7_blocks 30 = .ok (.bipush 16, 2) := by decide +kernel
theorem dX7_blocks_32 : decode cX7_blocks 32 = .ok (.invokestatic 48, 3) := by decide +kernel
theorem dX7_blocks_35 : decode cX7_blocks 35 = .ok (.if_icmp .gt 71, 3) := by decide +kernel
theorem dX7_blocks_38 : decode cX7_blocks 38 = .ok (.iload_n 3, 1) := by decide +kernel
theorem dX7_blocks_39 : decode cX7_blocks 39 = .ok (.invokestatic 54, 3) := by decide +kernel
theorem dX7_blocks_42 : decode cX7_blocks 42 = .ok (.istore 6, 2) := by decide +kernel
theorem dX7_blocks_44 : decode cX7_blocks 44 = .ok (.iload 6, 2) := by decide +kernel
theorem dX7_blocks_46 : decode cX7_blocks 46 = .ok (.iload_n 3, 1) := by decide +kernel
theorem dX7_blocks_47 : decode cX7_blocks 47 = .ok (.aload_n 0, 1) := by decide +kernel
theorem dX7_blocks_48 : decode cX7_blocks 48 = .ok (.iload_n 1, 1) := by decide +kernel
theorem dX7_blocks_49 : decode cX7_blocks 49 = .ok (.bipush 8, 2) := by decide +kernel
theorem dX7_blocks_51 : decode cX7_blocks 51 = .ok (.invokevirtual 68, 3) := by decide +kernel
theorem dX7_blocks_54 : decode cX7_blocks 54 = .ok (.iadd, 1) := by decide +kernel
theorem dX7_blocks_55 : decode cX7_blocks 55 = .ok (.iconst 1, 1) := by decide +kernel
theorem dX7_blocks_56 : decode cX7_blocks 56 = .ok (.isub, 1) := by decide +kernel
theorem dX7_blocks_57 : decode cX7_blocks 57 = .ok (.invokestatic 54, 3) := by decide +kernel
theorem dX7_blocks_60 : decode cX7_blocks 60 = .ok (.if_icmp .gt 40, 3) := by decide +kernel
theorem dX7_blocks_63 : decode cX7_blocks 63 = .ok (.aload_n 0, 1) := by decide +kernel
theorem dX7_blocks_64 : decode cX7_blocks 64 = .ok (.iload 5, 2) := by decide +kernel
theorem dX7_blocks_66 : decode cX7_blocks 66 = .ok (.iload 6, 2) := by decide +kernel
theorem dX7_blocks_68 : decode cX7_blocks 68 = .ok (.invokevirtual 58, 3) := by decide +kernel
theorem dX7_blocks_71 : decode cX7_blocks 71 = .ok (.invokestatic 82, 3) := by decide +kernel
theorem dX7_blocks_74 : decode cX7_blocks 74 = .ok (.ifCond .eq 20, 3) := by decide +kernel
theorem dX7_blocks_77 : decode cX7_blocks 77 = .ok (.iload 6, 2) := by decide +kernel
theorem dX7_blocks_79 : decode cX7_blocks 79 = .ok (.iload 4, 2) := by decide +kernel
theorem dX7_blocks_81 : decode cX7_blocks 81 = .ok (.if_icmp .ne 11, 3) := by decide +kernel
theorem dX7_blocks_84 : decode cX7_blocks 84 = .ok (.iload 5, 2) := by decide +kernel
theorem dX7_blocks_86 : decode cX7_blocks 86 = .ok (.invokestatic 85, 3) := by decide +kernel
theorem dX7_blocks_89 : decode cX7_blocks 89 = .ok (.ifCond .eq 5, 3) := by decide +kernel
theorem dX7_blocks_92 : decode cX7_blocks 92 = .ok (.iconst 1, 1) := by decide +kernel
theorem dX7_blocks_93 : decode cX7_blocks 93 = .ok (.ireturn, 1) := by decide +kernel
theorem dX7_blocks_94 : decode cX7_blocks 94 = .ok (.iinc 6 1, 3) := by decide +kernel
theorem dX7_blocks_97 : decode cX7_blocks 97 = .ok (.goto (-53), 3) := by decide +kernel
theorem dX7_blocks_100 : decode cX7_blocks 100 = .ok (.iinc 5 1, 3) := by decide +kernel
theorem dX7_blocks_103 : decode cX7_blocks 103 = .ok (.goto (-86), 3) := by decide +kernel
theorem dX7_blocks_106 : decode cX7_blocks 106 = .ok (.iconst 0, 1) := by decide +kernel
theorem dX7_blocks_107 : decode cX7_blocks 107 = .ok (.ireturn, 1) := by decide +kernel
set_option maxRecDepth 20000 in
theorem ggX7_firmBelow_X7_rowLeftOut : GoodIn wsX7_firmBelow wsX7_rowLeftOut := goodIn_ca (goodIn_r _ [5, 6, 7, 8, 4, 9, 10, 11, 12, 13, 14, 15, 16, 17, 18, 19, 20, 21, 22, 23, 24, 25, 26, 27, 28, 29, 30, 31, 32, 42, 43, 44, 45, 46, 47, 48, 49, 50, 51, 52, 53, 54, 55, 56, 57, 58] (by decide +kernel) (by decide +kernel)) (goodIn_sub (fun _ h => List.mem_cons_of_mem _ (List.mem_append_right _ h)) (by decide +kernel))
set_option maxRecDepth 20000 in
theorem gX7_firmBelow_X7_rowLeftOut : GoodIn wsX7_firmBelow (wsV RX7 78 RX7 yX7_rowLeftOut wsX7_rowLeftOut) := goodIn_app (goodIn_of _ (by decide +kernel)) ggX7_firmBelow_X7_rowLeftOut
set_option maxRecDepth 20000 in
theorem ggX7_firmBelow_X7_rowOf : GoodIn wsX7_firmBelow wsX7_rowOf := goodIn_r _ [25, 19, 20, 21, 22] (by decide +kernel) (by decide +kernel)
set_option maxRecDepth 20000 in
theorem gX7_firmBelow_X7_rowOf : GoodIn wsX7_firmBelow (va_wsS RX7 54 yX7_rowOf wsX7_rowOf) := goodIn_app (goodIn_of _ (by decide +kernel)) ggX7_firmBelow_X7_rowOf
set_option maxRecDepth 20000 in
theorem ggX7_firmBelow_J9_floorDiv_7cf53 : GoodIn wsX7_firmBelow wsJ9_floorDiv_7cf53 := goodIn_r _ [22] (by decide +kernel) (by decide +kernel)
set_option maxRecDepth 20000 in
theorem gX7_firmBelow_J9_floorDiv_7cf53 : GoodIn wsX7_firmBelow (va_wsS RX7 48 yJ9_floorDiv_7cf53 wsJ9_floorDiv_7cf53) := goodIn_app (goodIn_of _ (by decide +kernel)) ggX7_firmBelow_J9_floorDiv_7cf53
set_option maxRecDepth 20000 in
theorem ggX7_firmBelow_X7_of : GoodIn wsX7_firmBelow wsX7_of := goodIn_ca (goodIn_r _ [13, 14, 42, 43, 44, 45, 46, 47, 48, 49, 50, 51, 52, 53, 54, 55, 56, 57, 58] (by decide +kernel) (by decide +kernel)) (goodIn_sub (fun _ h => List.mem_cons_of_mem _ (List.mem_append_right _ h)) (by decide +kernel))
set_option maxRecDepth 20000 in
theorem gX7_firmBelow_X7_of : GoodIn wsX7_firmBelow (wsV RX7 68 RX7 yX7_of wsX7_of) := goodIn_app (goodIn_of _ (by decide +kernel)) ggX7_firmBelow_X7_of
set_option maxRecDepth 20000 in
theorem ggX7_firmBelow_X7_kindIn : GoodIn wsX7_firmBelow wsX7_kindIn := goodIn_ca (goodIn_r _ [29, 14, 42, 43, 44, 45, 46, 47, 48, 49, 50, 51, 52, 53, 54, 55, 56, 57, 58] (by decide +kernel) (by decide +kernel)) (goodIn_sub (fun _ h => List.mem_cons_of_mem _ (List.mem_append_right _ h)) (by decide +kernel))
set_option maxRecDepth 20000 in
theorem gX7_firmBelow_X7_kindIn : GoodIn wsX7_firmBelow (wsV RX7 58 RX7 yX7_kindIn wsX7_kindIn) := goodIn_app (goodIn_of _ (by decide +kernel)) ggX7_firmBelow_X7_kindIn
set_option maxRecDepth 20000 in
theorem ggX7_firmBelow_X7_isFirm : GoodIn wsX7_firmBelow wsX7_isFirm := goodIn_r _ [35, 36, 37, 4, 38] (by decide +kernel) (by decide +kernel)
set_option maxRecDepth 20000 in
theorem gX7_firmBelow_X7_isFirm : GoodIn wsX7_firmBelow (va_wsS RX7 82 yX7_isFirm wsX7_isFirm) := goodIn_app (goodIn_of _ (by decide +kernel)) ggX7_firmBelow_X7_isFirm
set_option maxRecDepth 20000 in
theorem ggX7_firmBelow_X7_isBeside : GoodIn wsX7_firmBelow wsX7_isBeside := goodIn_r _ [41] (by decide +kernel) (by decide +kernel)
set_option maxRecDepth 20000 in
theorem gX7_firmBelow_X7_isBeside : GoodIn wsX7_firmBelow (va_wsS RX7 85 yX7_isBeside wsX7_isBeside) := goodIn_app (goodIn_of _ (by decide +kernel)) ggX7_firmBelow_X7_isBeside
theorem dX7_firmBelow_0 : decode cX7_firmBelow 0 = .ok (.aload_n 0, 1) := by decide +kernel
theorem dX7_firmBelow_1 : decode cX7_firmBelow 1 = .ok (.iload_n 1, 1) := by decide +kernel
theorem dX7_firmBelow_2 : decode cX7_firmBelow 2 = .ok (.iload_n 2, 1) := by decide +kernel
theorem dX7_firmBelow_3 : decode cX7_firmBelow 3 = .ok (.iload_n 3, 1) := by decide +kernel
theorem dX7_firmBelow_4 : decode cX7_firmBelow 4 = .ok (.invokevirtual 78, 3) := by decide +kernel
theorem dX7_firmBelow_7 : decode cX7_firmBelow 7 = .ok (.istore 4, 2) := by decide +kernel
theorem dX7_firmBelow_9 : decode cX7_firmBelow 9 = .ok (.iload_n 3, 1) := by decide +kernel
theorem dX7_firmBelow_10 : decode cX7_firmBelow 10 = .ok (.iconst 1, 1) := by decide +kernel
theorem dX7_firmBelow_11 : decode cX7_firmBelow 11 = .ok (.isub, 1) := by decide +kernel
theorem dX7_firmBelow_12 : decode cX7_firmBelow 12 = .ok (.invokestatic 54, 3) := by decide +kernel
theorem dX7_firmBelow_15 : decode cX7_firmBelow 15 = .ok (.istore 5, 2) := by decide +kernel
theorem dX7_firmBelow_17 : decode cX7_firmBelow 17 = .ok (.iconst 0, 1) := by decide +kernel
theorem dX7_firmBelow_18 : decode cX7_firmBelow 18 = .ok (.istore 6, 2) := by decide +kernel
theorem dX7_firmBelow_20 : decode cX7_firmBelow 20 = .ok (.iload_n 2, 1) := by decide +kernel
theorem dX7_firmBelow_21 : decode cX7_firmBelow 21 = .ok (.bipush 16, 2) := by decide +kernel
theorem dX7_firmBelow_23 : decode cX7_firmBelow 23 = .ok (.invokestatic 48, 3) := by decide +kernel
theorem dX7_firmBelow_26 : decode cX7_firmBelow 26 = .ok (.istore 7, 2) := by decide +kernel
theorem dX7_firmBelow_28 : decode cX7_firmBelow 28 = .ok (.iload 7, 2) := by decide +kernel
theorem dX7_firmBelow_30 : decode cX7_firmBelow 30 = .ok (.iload_n 2, 1) := by decide +kernel
theorem dX7_firmBelow_31 : decode cX7_firmBelow 31 = .ok (.aload_n 0, 1) := by decide +kernel
theorem dX7_firmBelow_32 : decode cX7_firmBelow 32 = .ok (.iload_n 1, 1) := by decide +kernel
theorem dX7_firmBelow_33 : decode cX7_firmBelow 33 = .ok (.bipush 7, 2) := by decide +kernel
theorem dX7_firmBelow_35 : decode cX7_firmBelow 35 = .ok (.invokevirtual 68, 3) := by decide +kernel
theorem dX7_firmBelow_38 : decode cX7_firmBelow 38 = .ok (.iadd, 1) := by decide +kernel
theorem dX7_firmBelow_39 : decode cX7_firmBelow 39 = .ok (.iconst 1, 1) := by decide +kernel
theorem dX7_firmBelow_40 : decode cX7_firmBelow 40 = .ok (.isub, 1) := by decide +kernel
theorem dX7_firmBelow_41 : decode cX7_firmBelow 41 = .ok (.bipush 16, 2) := by decide +kernel
theorem dX7_firmBelow_43 : decode cX7_firmBelow 43 = .ok (.invokestatic 48, 3) := by decide +kernel
theorem dX7_firmBelow_46 : decode cX7_firmBelow 46 = .ok (.if_icmp .gt 51, 3) := by decide +kernel
theorem dX7_firmBelow_49 : decode cX7_firmBelow 49 = .ok (.aload_n 0, 1) := by decide +kernel
theorem dX7_firmBelow_50 : decode cX7_firmBelow 50 = .ok (.iload 7, 2) := by decide +kernel
theorem dX7_firmBelow_52 : decode cX7_firmBelow 52 = .ok (.iload 5, 2) := by decide +kernel
theorem dX7_firmBelow_54 : decode cX7_firmBelow 54 = .ok (.invokevirtual 58, 3) := by decide +kernel
theorem dX7_firmBelow_57 : decode cX7_firmBelow 57 = .ok (.istore 8, 2) := by decide +kernel
theorem dX7_firmBelow_59 : decode cX7_firmBelow 59 = .ok (.iload 8, 2) := by decide +kernel
theorem dX7_firmBelow_61 : decode cX7_firmBelow 61 = .ok (.invokestatic 82, 3) := by decide +kernel
theorem dX7_firmBelow_64 : decode cX7_firmBelow 64 = .ok (.ifCond .eq 27, 3) := by decide +kernel
theorem dX7_firmBelow_67 : decode cX7_firmBelow 67 = .ok (.iload 5, 2) := by decide +kernel
theorem dX7_firmBelow_69 : decode cX7_firmBelow 69 = .ok (.iload 4, 2) := by decide +kernel
theorem dX7_firmBelow_71 : decode cX7_firmBelow 71 = .ok (.if_icmp .ne 11, 3) := by decide +kernel
theorem dX7_firmBelow_74 : decode cX7_firmBelow 74 = .ok (.iload 7, 2) := by decide +kernel
theorem dX7_firmBelow_76 : decode cX7_firmBelow 76 = .ok (.invokestatic 85, 3) := by decide +kernel
theorem dX7_firmBelow_79 : decode cX7_firmBelow 79 = .ok (.ifCond .eq 12, 3) := by decide +kernel
theorem dX7_firmBelow_82 : decode cX7_firmBelow 82 = .ok (.iload 6, 2) := by decide +kernel
theorem dX7_firmBelow_84 : decode cX7_firmBelow 84 = .ok (.iconst 1, 1) := by decide +kernel
theorem dX7_firmBelow_85 : decode cX7_firmBelow 85 = .ok (.iload 8, 2) := by decide +kernel
theorem dX7_firmBelow_87 : decode cX7_firmBelow 87 = .ok (.ishl, 1) := by decide +kernel
theorem dX7_firmBelow_88 : decode cX7_firmBelow 88 = .ok (.ior, 1) := by decide +kernel
theorem dX7_firmBelow_89 : decode cX7_firmBelow 89 = .ok (.istore 6, 2) := by decide +kernel
theorem dX7_firmBelow_91 : decode cX7_firmBelow 91 = .ok (.iinc 7 1, 3) := by decide +kernel
theorem dX7_firmBelow_94 : decode cX7_firmBelow 94 = .ok (.goto (-66), 3) := by decide +kernel
theorem dX7_firmBelow_97 : decode cX7_firmBelow 97 = .ok (.iload 6, 2) := by decide +kernel
theorem dX7_firmBelow_99 : decode cX7_firmBelow 99 = .ok (.ireturn, 1) := by decide +kernel
set_option maxRecDepth 20000 in
theorem ggX7_hasOneWay_J9_floorMod_7cf53 : GoodIn wsX7_hasOneWay wsJ9_floorMod_7cf53 := goodIn_r _ [4] (by decide +kernel) (by decide +kernel)
set_option maxRecDepth 20000 in
theorem gX7_hasOneWay_J9_floorMod_7cf53 : GoodIn wsX7_hasOneWay (va_wsS RX7 88 yJ9_floorMod_7cf53 wsJ9_floorMod_7cf53) := goodIn_app (goodIn_of _ (by decide +kernel)) ggX7_hasOneWay_J9_floorMod_7cf53
set_option maxRecDepth 20000 in
theorem ggX7_hasOneWay_J9_floorDiv_7cf53 : GoodIn wsX7_hasOneWay wsJ9_floorDiv_7cf53 := goodIn_r _ [7] (by decide +kernel) (by decide +kernel)
set_option maxRecDepth 20000 in
theorem gX7_hasOneWay_J9_floorDiv_7cf53 : GoodIn wsX7_hasOneWay (va_wsS RX7 48 yJ9_floorDiv_7cf53 wsJ9_floorDiv_7cf53) := goodIn_app (goodIn_of _ (by decide +kernel)) ggX7_hasOneWay_J9_floorDiv_7cf53
set_option maxRecDepth 20000 in
theorem ggX7_hasOneWay_X7_of : GoodIn wsX7_hasOneWay wsX7_of := goodIn_ca (goodIn_r _ [12, 13, 21, 22, 23, 24, 25, 26, 27, 28, 29, 30, 31, 32, 33, 34, 35, 36, 37] (by decide +kernel) (by decide +kernel)) (goodIn_sub (fun _ h => List.mem_cons_of_mem _ (List.mem_append_right _ h)) (by decide +kernel))
set_option maxRecDepth 20000 in
theorem gX7_hasOneWay_X7_of : GoodIn wsX7_hasOneWay (wsV RX7 68 RX7 yX7_of wsX7_of) := goodIn_app (goodIn_of _ (by decide +kernel)) ggX7_hasOneWay_X7_of
set_option maxRecDepth 20000 in
theorem ggX7_hasOneWay_X7_rowOf : GoodIn wsX7_hasOneWay wsX7_rowOf := goodIn_r _ [16, 5, 6, 3, 7] (by decide +kernel) (by decide +kernel)
set_option maxRecDepth 20000 in
theorem gX7_hasOneWay_X7_rowOf : GoodIn wsX7_hasOneWay (va_wsS RX7 54 yX7_rowOf wsX7_rowOf) := goodIn_app (goodIn_of _ (by decide +kernel)) ggX7_hasOneWay_X7_rowOf
set_option maxRecDepth 20000 in
theorem ggX7_hasOneWay_X7_kindIn : GoodIn wsX7_hasOneWay wsX7_kindIn := goodIn_ca (goodIn_r _ [20, 13, 21, 22, 23, 24, 25, 26, 27, 28, 29, 30, 31, 32, 33, 34, 35, 36, 37] (by decide +kernel) (by decide +kernel)) (goodIn_sub (fun _ h => List.mem_cons_of_mem _ (List.mem_append_right _ h)) (by decide +kernel))
set_option maxRecDepth 20000 in
theorem gX7_hasOneWay_X7_kindIn : GoodIn wsX7_hasOneWay (wsV RX7 58 RX7 yX7_kindIn wsX7_kindIn) := goodIn_app (goodIn_of _ (by decide +kernel)) ggX7_hasOneWay_X7_kindIn
theorem dX7_hasOneWay_0 : decode cX7_hasOneWay 0 = .ok (.iload_n 3, 1) := by decide +kernel
theorem dX7_hasOneWay_1 : decode cX7_hasOneWay 1 = .ok (.bipush 16, 2) := by decide +kernel
theorem dX7_hasOneWay_3 : decode cX7_hasOneWay 3 = .ok (.invokestatic 88, 3) := by decide +kernel
