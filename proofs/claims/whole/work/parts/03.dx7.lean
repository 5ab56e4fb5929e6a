set_option maxRecDepth 20000 in
theorem ggX7_init_Jx4a65c_init_da8c8 : GoodIn wsX7_init wsJx4a65c_init_da8c8 := goodIn_r _ [22, 23, 24, 25, 26, 27, 28, 29, 30, 31, 32, 33, 34, 2, 3, 42, 43, 44] (by decide +kernel) (by decide +kernel)
set_option maxRecDepth 20000 in
theorem gX7_init_Jx4a65c_init_da8c8 : GoodIn wsX7_init (wsJx4a65c_init_da8c8) := ggX7_init_Jx4a65c_init_da8c8
set_option maxRecDepth 20000 in
theorem ggX7_init_X5_init : GoodIn wsX7_init wsX5_init := goodIn_r _ [36, 37, 2, 3, 38, 39, 40, 41, 54, 55, 56] (by decide +kernel) (by decide +kernel)
set_option maxRecDepth 20000 in
theorem gX7_init_X5_init_n31 : GoodIn wsX7_init (wsX5_init) := ggX7_init_X5_init
theorem dX7_init_0 : decode cX7_init 0 = .ok (.aload_n 0, 1) := by decide +kernel
theorem dX7_init_1 : decode cX7_init 1 = .ok (.invokespecial 1, 3) := by decide +kernel
theorem dX7_init_4 : decode cX7_init 4 = .ok (.aload_n 0, 1) := by decide +kernel
theorem dX7_init_5 : decode cX7_init 5 = .ok (.new 7, 3) := by decide +kernel
theorem dX7_init_8 : decode cX7_init 8 = .ok (.dup, 1) := by decide +kernel
theorem dX7_init_9 : decode cX7_init 9 = .ok (.invokespecial 9, 3) := by decide +kernel
theorem dX7_init_12 : decode cX7_init 12 = .ok (.putfield 10, 3) := by decide +kernel
theorem dX7_init_15 : decode cX7_init 15 = .ok (.aload_n 0, 1) := by decide +kernel
theorem dX7_init_16 : decode cX7_init 16 = .ok (.new 7, 3) := by decide +kernel
theorem dX7_init_19 : decode cX7_init 19 = .ok (.dup, 1) := by decide +kernel
theorem dX7_init_20 : decode cX7_init 20 = .ok (.invokespecial 9, 3) := by decide +kernel
theorem dX7_init_23 : decode cX7_init 23 = .ok (.putfield 16, 3) := by decide +kernel
theorem dX7_init_26 : decode cX7_init 26 = .ok (.aload_n 0, 1) := by decide +kernel
theorem dX7_init_27 : decode cX7_init 27 = .ok (.new 7, 3) := by decide +kernel
theorem dX7_init_30 : decode cX7_init 30 = .ok (.dup, 1) := by decide +kernel
theorem dX7_init_31 : decode cX7_init 31 = .ok (.invokespecial 9, 3) := by decide +kernel
theorem dX7_init_34 : decode cX7_init 34 = .ok (.putfield 19, 3) := by decide +kernel
theorem dX7_init_37 : decode cX7_init 37 = .ok (.aload_n 0, 1) := by decide +kernel
theorem dX7_init_38 : decode cX7_init 38 = .ok (.new 7, 3) := by decide +kernel
theorem dX7_init_41 : decode cX7_init 41 = .ok (.dup, 1) := by decide +kernel
theorem dX7_init_42 : decode cX7_init 42 = .ok (.invokespecial 9, 3) := by decide +kernel
theorem dX7_init_45 : decode cX7_init 45 = .ok (.putfield 22, 3) := by decide +kernel
theorem dX7_init_48 : decode cX7_init 48 = .ok (.aload_n 0, 1) := by decide +kernel
theorem dX7_init_49 : decode cX7_init 49 = .ok (.sipush 600, 3) := by decide +kernel
theorem dX7_init_52 : decode cX7_init 52 = .ok (.newarray .byte, 2) := by decide +kernel
theorem dX7_init_54 : decode cX7_init 54 = .ok (.putfield 25, 3) := by decide +kernel
theorem dX7_init_57 : decode cX7_init 57 = .ok (.aload_n 0, 1) := by decide +kernel
theorem dX7_init_58 : decode cX7_init 58 = .ok (.new 29, 3) := by decide +kernel
theorem dX7_init_61 : decode cX7_init 61 = .ok (.dup, 1) := by decide +kernel
theorem dX7_init_62 : decode cX7_init 62 = .ok (.invokespecial 31, 3) := by decide +kernel
theorem dX7_init_65 : decode cX7_init 65 = .ok (.putfield 32, 3) := by decide +kernel
theorem dX7_init_68 : decode cX7_init 68 = .ok (.aload_n 0, 1) := by decide +kernel
theorem dX7_init_69 : decode cX7_init 69 = .ok (.iconst 0, 1) := by decide +kernel
theorem dX7_init_70 : decode cX7_init 70 = .ok (.putfield 36, 3) := by decide +kernel
theorem dX7_init_73 : decode cX7_init 73 = .ok (.aload_n 0, 1) := by decide +kernel
theorem dX7_init_74 : decode cX7_init 74 = .ok (.iconst 0, 1) := by decide +kernel
theorem dX7_init_75 : decode cX7_init 75 = .ok (.putfield 40, 3) := by decide +kernel
theorem dX7_init_78 : decode cX7_init 78 = .ok (.aload_n 0, 1) := by decide +kernel
theorem dX7_init_79 : decode cX7_init 79 = .ok (.iconst (-1), 1) := by decide +kernel
theorem dX7_init_80 : decode cX7_init 80 = .ok (.putfield 43, 3) := by decide +kernel
theorem dX7_init_83 : decode cX7_init 83 = .ok (.return_, 1) := by decide +kernel
theorem dX7_day_0 : decode cX7_day 0 = .ok (.iload_n 1, 1) := by decide +kernel
theorem dX7_day_1 : decode cX7_day 1 = .ok (.aload_n 0, 1) := by decide +kernel
theorem dX7_day_2 : decode cX7_day 2 = .ok (.getfield 40, 3) := by decide +kernel
theorem dX7_day_5 : decode cX7_day 5 = .ok (.if_icmp .le 10, 3) := by decide +kernel
theorem dX7_day_8 : decode cX7_day 8 = .ok (.iload_n 1, 1) := by decide +kernel
theorem dX7_day_9 : decode cX7_day 9 = .ok (.sipush 9999, 3) := by decide +kernel
theorem dX7_day_12 : decode cX7_day 12 = .ok (.if_icmp .le 5, 3) := by decide +kernel
theorem dX7_day_15 : decode cX7_day 15 = .ok (.iconst 0, 1) := by decide +kernel
theorem dX7_day_16 : decode cX7_day 16 = .ok (.ireturn, 1) := by decide +kernel
theorem dX7_day_17 : decode cX7_day 17 = .ok (.aload_n 0, 1) := by decide +kernel
theorem dX7_day_18 : decode cX7_day 18 = .ok (.iload_n 1, 1) := by decide +kernel
theorem dX7_day_19 : decode cX7_day 19 = .ok (.putfield 40, 3) := by decide +kernel
theorem dX7_day_22 : decode cX7_day 22 = .ok (.iconst 1, 1) := by decide +kernel
theorem dX7_day_23 : decode cX7_day 23 = .ok (.ireturn, 1) := by decide +kernel
set_option maxRecDepth 20000 in
theorem ggX7_corner_X7_isPlace : GoodIn wsX7_corner wsX7_isPlace := goodIn_r _ [5, 6, 7, 4, 8] (by decide +kernel) (by decide +kernel)
set_option maxRecDepth 20000 in
theorem gX7_corner_X7_isPlace : GoodIn wsX7_corner (va_wsS RX7 46 yX7_isPlace wsX7_isPlace) := goodIn_app (goodIn_of _ (by decide +kernel)) ggX7_corner_X7_isPlace
set_option maxRecDepth 20000 in
theorem ggX7_corner_X5_addCorner : GoodIn wsX7_corner wsX5_addCorner := goodIn_r _ [13, 14, 15, 16, 26, 27, 28] (by decide +kernel) (by decide +kernel)
set_option maxRecDepth 20000 in
theorem gX7_corner_X5_addCorner : GoodIn wsX7_corner (wsV RX7 50 RX5 yX5_addCorner wsX5_addCorner) := goodIn_app (goodIn_of _ (by decide +kernel)) ggX7_corner_X5_addCorner
theorem dX7_corner_0 : decode cX7_corner 0 = .ok (.iload_n 1, 1) := by decide +kernel
theorem dX7_corner_1 : decode cX7_corner 1 = .ok (.invokestatic 46, 3) := by decide +kernel
theorem dX7_corner_4 : decode cX7_corner 4 = .ok (.ifCond .eq 22, 3) := by decide +kernel
theorem dX7_corner_7 : decode cX7_corner 7 = .ok (.iload_n 2, 1) := by decide +kernel
theorem dX7_corner_8 : decode cX7_corner 8 = .ok (.invokestatic 46, 3) := by decide +kernel
theorem dX7_corner_11 : decode cX7_corner 11 = .ok (.ifCond .eq 15, 3) := by decide +kernel
theorem dX7_corner_14 : decode cX7_corner 14 = .ok (.aload_n 0, 1) := by decide +kernel
theorem dX7_corner_15 : decode cX7_corner 15 = .ok (.getfield 32, 3) := by decide +kernel
theorem dX7_corner_18 : decode cX7_corner 18 = .ok (.iload_n 1, 1) := by decide +kernel
theorem dX7_corner_19 : decode cX7_corner 19 = .ok (.iload_n 2, 1) := by decide +kernel
theorem dX7_corner_20 : decode cX7_corner 20 = .ok (.invokevirtual 50, 3) := by decide +kernel
theorem dX7_corner_23 : decode cX7_corner 23 = .ok (.ifCond .ne 5, 3) := by decide +kernel
theorem dX7_corner_26 : decode cX7_corner 26 = .ok (.iconst (-1), 1) := by decide +kernel
theorem dX7_corner_27 : decode cX7_corner 27 = .ok (.ireturn, 1) := by decide +kernel
theorem dX7_corner_28 : decode cX7_corner 28 = .ok (.aload_n 0, 1) := by decide +kernel
theorem dX7_corner_29 : decode cX7_corner 29 = .ok (.getfield 32, 3) := by decide +kernel
theorem dX7_corner_32 : decode cX7_corner 32 = .ok (.getfield 54, 3) := by decide +kernel
theorem dX7_corner_35 : decode cX7_corner 35 = .ok (.ireturn, 1) := by decide +kernel
set_option maxRecDepth 20000 in
theorem ggX7_plot_Jx4a65c_size_8abf5 : GoodIn wsX7_plot wsJx4a65c_size_8abf5 := goodIn_r _ [10, 11, 141, 142, 143] (by decide +kernel) (by decide +kernel)
set_option maxRecDepth 20000 in
theorem gX7_plot_Jx4a65c_size_8abf5 : GoodIn wsX7_plot (wsV RX7 57 RJx4a65c yJx4a65c_size_8abf5 wsJx4a65c_size_8abf5) := goodIn_app (goodIn_of _ (by decide +kernel)) ggX7_plot_Jx4a65c_size_8abf5
set_option maxRecDepth 20000 in
theorem ggX7_plot_X5_goesRoundLeft : GoodIn wsX7_plot wsX5_goesRoundLeft := goodIn_r _ [15, 16, 17, 18, 19, 5, 20, 21, 22, 23, 24, 25, 26, 27, 28, 29, 30, 138, 139, 140] (by decide +kernel) (by decide +kernel)
set_option maxRecDepth 20000 in
theorem gX7_plot_X5_goesRoundLeft : GoodIn wsX7_plot (wsV RX7 60 RX5 yX5_goesRoundLeft wsX5_goesRoundLeft) := goodIn_app (goodIn_of _ (by decide +kernel)) ggX7_plot_X5_goesRoundLeft
set_option maxRecDepth 20000 in
theorem ggX7_plot_X7_overlapsPlot : GoodIn wsX7_plot wsX7_overlapsPlot := goodIn_r _ [35, 1, 36, 6, 7, 8, 9, 10, 11, 37, 38, 39, 40, 41, 42, 43, 44, 45, 46, 47, 48, 49, 50, 51, 52, 53, 54, 55, 56, 5, 57, 58, 59, 60, 61, 16, 62, 63, 64, 65, 21, 22, 27, 28, 29, 30, 23, 24, 25, 26, 129, 130, 131, 132, 133, 134, 135, 136, 137, 141, 142, 143, 138, 139, 140] (by decide +kernel) (by decide +kernel)
set_option maxRecDepth 20000 in
theorem gX7_plot_X7_overlapsPlot : GoodIn wsX7_plot (wsV RX7 64 RX7 yX7_overlapsPlot wsX7_overlapsPlot) := goodIn_app (goodIn_of _ (by decide +kernel)) ggX7_plot_X7_overlapsPlot
set_option maxRecDepth 20000 in
theorem ggX7_plot_X5_empty : GoodIn wsX7_plot wsX5_empty := goodIn_r _ [69, 16, 138, 139, 140] (by decide +kernel) (by decide +kernel)
set_option maxRecDepth 20000 in
theorem gX7_plot_X5_empty : GoodIn wsX7_plot (wsV RX7 68 RX5 yX5_empty wsX5_empty) := goodIn_app (goodIn_of _ (by decide +kernel)) ggX7_plot_X5_empty
set_option maxRecDepth 20000 in
theorem ggX7_plot_Jx4a65c_add_9ea2d : GoodIn wsX7_plot wsJx4a65c_add_9ea2d := goodIn_r _ [73, 74, 75, 53, 11, 76, 77, 78, 9, 79, 80, 81, 82, 83, 84, 85, 86, 87, 88, 89, 90, 91, 92, 93, 94, 95, 96, 97, 98, 99, 100, 101, 102, 103, 104, 105, 106, 107, 108, 109, 110, 111, 112, 113, 114, 115, 116, 117, 118, 119, 120, 121, 122, 141, 142, 143] (by decide +kernel) (by decide +kernel)
set_option maxRecDepth 20000 in
theorem gX7_plot_Jx4a65c_add_9ea2d : GoodIn wsX7_plot (wsV RX7 71 RJx4a65c yJx4a65c_add_9ea2d wsJx4a65c_add_9ea2d) := goodIn_app (goodIn_of _ (by decide +kernel)) ggX7_plot_Jx4a65c_add_9ea2d
set_option maxRecDepth 20000 in
theorem ggX7_plot_X5_init : GoodIn wsX7_plot wsX5_init := goodIn_r _ [124, 125, 126, 127, 128, 21, 22, 16, 138, 139, 140] (by decide +kernel) (by decide +kernel)
set_option maxRecDepth 20000 in
theorem gX7_plot_X5_init_n31 : GoodIn wsX7_plot (wsX5_init) := ggX7_plot_X5_init
theorem dX7_plot_0 : decode cX7_plot 0 = .ok (.aload_n 0, 1) := by decide +kernel
theorem dX7_plot_1 : decode cX7_plot 1 = .ok (.getfield 10, 3) := by decide +kernel
theorem dX7_plot_4 : decode cX7_plot 4 = .ok (.invokevirtual 57, 3) := by decide +kernel
theorem dX7_plot_7 : decode cX7_plot 7 = .ok (.bipush 12, 2) := by decide +kernel
theorem dX7_plot_9 : decode cX7_plot 9 = .ok (.if_icmp .ge 24, 3) := by decide +kernel
theorem dX7_plot_12 : decode cX7_plot 12 = .ok (.aload_n 0, 1) := by decide +kernel
theorem dX7_plot_13 : decode cX7_plot 13 = .ok (.getfield 32, 3) := by decide +kernel
theorem dX7_plot_16 : decode cX7_plot 16 = .ok (.invokevirtual 60, 3) := by decide +kernel
theorem dX7_plot_19 : decode cX7_plot 19 = .ok (.ifCond .eq 14, 3) := by decide +kernel
theorem dX7_plot_22 : decode cX7_plot 22 = .ok (.aload_n 0, 1) := by decide +kernel
theorem dX7_plot_23 : decode cX7_plot 23 = .ok (.aload_n 0, 1) := by decide +kernel
theorem dX7_plot_24 : decode cX7_plot 24 = .ok (.getfield 32, 3) := by decide +kernel
theorem dX7_plot_27 : decode cX7_plot 27 = .ok (.invokevirtual 64, 3) := by decide +kernel
theorem dX7_plot_30 : decode cX7_plot 30 = .ok (.ifCond .eq 12, 3) := by decide +kernel
theorem dX7_plot_33 : decode cX7_plot 33 = .ok (.aload_n 0, 1) := by decide +kernel
theorem dX7_plot_34 : decode cX7_plot 34 = .ok (.getfield 32, 3) := by decide +kernel
theorem dX7_plot_37 : decode cX7_plot 37 = .ok (.invokevirtual 68, 3) := by decide +kernel
theorem dX7_plot_40 : decode cX7_plot 40 = .ok (.iconst (-1), 1) := by decide +kernel
theorem dX7_plot_41 : decode cX7_plot 41 = .ok (.ireturn, 1) := by decide +kernel
theorem dX7_plot_42 : decode cX7_plot 42 = .ok (.aload_n 0, 1) := by decide +kernel
theorem dX7_plot_43 : decode cX7_plot 43 = .ok (.getfield 10, 3) := by decide +kernel
theorem dX7_plot_46 : decode cX7_plot 46 = .ok (.aload_n 0, 1) := by decide +kernel
theorem dX7_plot_47 : decode cX7_plot 47 = .ok (.getfield 32, 3) := by decide +kernel
theorem dX7_plot_50 : decode cX7_plot 50 = .ok (.invokevirtual 71, 3) := by decide +kernel
theorem dX7_plot_53 : decode cX7_plot 53 = .ok (.pop, 1) := by decide +kernel
theorem dX7_plot_54 : decode cX7_plot 54 = .ok (.aload_n 0, 1) := by decide +kernel
theorem dX7_plot_55 : decode cX7_plot 55 = .ok (.new 29, 3) := by decide +kernel
theorem dX7_plot_58 : decode cX7_plot 58 = .ok (.dup, 1) := by decide +kernel
theorem dX7_plot_59 : decode cX7_plot 59 = .ok (.invokespecial 31, 3) := by decide +kernel
theorem dX7_plot_62 : decode cX7_plot 62 = .ok (.putfield 32, 3) := by decide +kernel
theorem dX7_plot_65 : decode cX7_plot 65 = .ok (.aload_n 0, 1) := by decide +kernel
theorem dX7_plot_66 : decode cX7_plot 66 = .ok (.getfield 10, 3) := by decide +kernel
theorem dX7_plot_69 : decode cX7_plot 69 = .ok (.invokevirtual 57, 3) := by decide +kernel
theorem dX7_plot_72 : decode cX7_plot 72 = .ok (.iconst 1, 1) := by decide +kernel
theorem dX7_plot_73 : decode cX7_plot 73 = .ok (.isub, 1) := by decide +kernel
theorem dX7_plot_74 : decode cX7_plot 74 = .ok (.ireturn, 1) := by decide +kernel
set_option maxRecDepth 20000 in
theorem ggX7_ring_X7_ringAt : GoodIn wsX7_ring wsX7_ringAt := goodIn_r _ [5, 6, 7, 8, 9, 10, 11, 12, 13, 14, 15, 16, 17, 18, 19, 20, 21, 22, 23, 24, 25, 26, 27, 28, 29, 30, 50, 51, 52, 53, 54, 55, 56, 57, 58, 59, 60, 61] (by decide +kernel) (by decide +kernel)
set_option maxRecDepth 20000 in
theorem gX7_ring_X7_ringAt : GoodIn wsX7_ring (wsV RX7 75 RX7 yX7_ringAt wsX7_ringAt) := goodIn_app (goodIn_of _ (by decide +kernel)) ggX7_ring_X7_ringAt
set_option maxRecDepth 20000 in
theorem ggX7_ring_X5_twiceArea : GoodIn wsX7_ring wsX5_twiceArea := goodIn_r _ [35, 36, 37, 38, 39, 40, 41, 34, 42, 47, 48, 49] (by decide +kernel) (by decide +kernel)
set_option maxRecDepth 20000 in
theorem gX7_ring_X5_twiceArea : GoodIn wsX7_ring (wsV RX7 79 RX5 yX5_twiceArea wsX5_twiceArea) := goodIn_app (goodIn_of _ (by decide +kernel)) ggX7_ring_X5_twiceArea
set_option maxRecDepth 20000 in
theorem ggX7_ring_X5_coordinate : GoodIn wsX7_ring wsX5_coordinate := goodIn_r _ [46, 36, 37, 38, 47, 48, 49] (by decide +kernel) (by decide +kernel)
set_option maxRecDepth 20000 in
theorem gX7_ring_X5_coordinate : GoodIn wsX7_ring (wsV RX7 82 RX5 yX5_coordinate wsX5_coordinate) := goodIn_app (goodIn_of _ (by decide +kernel)) ggX7_ring_X5_coordinate
theorem dX7_ring_0 : decode cX7_ring 0 = .ok (.aload_n 0, 1) := by decide +kernel
theorem dX7_ring_1 : decode cX7_ring 1 = .ok (.iload_n 1, 1) := by decide +kernel
theorem dX7_ring_2 : decode cX7_ring 2 = .ok (.invokevirtual 75, 3) := by decide +kernel
theorem dX7_ring_5 : decode cX7_ring 5 = .ok (.astore_n 3, 1) := by decide +kernel
theorem dX7_ring_6 : decode cX7_ring 6 = .ok (.aload_n 3, 1) := by decide +kernel
theorem dX7_ring_7 : decode cX7_ring 7 = .ok (.ifnonnull 5, 3) := by decide +kernel
theorem dX7_ring_10 : decode cX7_ring 10 = .ok (.iconst (-1), 1) := by decide +kernel
theorem dX7_ring_11 : decode cX7_ring 11 = .ok (.ireturn, 1) := by decide +kernel
theorem dX7_ring_12 : decode cX7_ring 12 = .ok (.iload_n 2, 1) := by decide +kernel
theorem dX7_ring_13 : decode cX7_ring 13 = .ok (.ifCond .ne 8, 3) := by decide +kernel
theorem dX7_ring_16 : decode cX7_ring 16 = .ok (.aload_n 3, 1) := by decide +kernel
theorem dX7_ring_17 : decode cX7_ring 17 = .ok (.getfield 54, 3) := by decide +kernel
theorem dX7_ring_20 : decode cX7_ring 20 = .ok (.ireturn, 1) := by decide +kernel
theorem dX7_ring_21 : decode cX7_ring 21 = .ok (.iload_n 2, 1) := by decide +kernel
theorem dX7_ring_22 : decode cX7_ring 22 = .ok (.iconst 1, 1) := by decide +kernel
theorem dX7_ring_23 : decode cX7_ring 23 = .ok (.if_icmp .ne 8, 3) := by decide +kernel
theorem dX7_ring_26 : decode cX7_ring 26 = .ok (.aload_n 3, 1) := by decide +kernel
theorem dX7_ring_27 : decode cX7_ring 27 = .ok (.invokevirtual 79, 3) := by decide +kernel
theorem dX7_ring_30 : decode cX7_ring 30 = .ok (.ireturn, 1) := by decide +kernel
theorem dX7_ring_31 : decode cX7_ring 31 = .ok (.iload_n 2, 1) := by decide +kernel
theorem dX7_ring_32 : decode cX7_ring 32 = .ok (.iconst 2, 1) := by decide +kernel
theorem dX7_ring_33 : decode cX7_ring 33 = .ok (.if_icmp .ge 7, 3) := by decide +kernel
theorem dX7_ring_36 : decode cX7_ring 36 = .ok (.iconst (-1), 1) := by decide +kernel
theorem dX7_ring_37 : decode cX7_ring 37 = .ok (.goto 10, 3) := by decide +kernel
theorem dX7_ring_40 : decode cX7_ring 40 = .ok (.aload_n 3, 1) := by decide +kernel
theorem dX7_ring_41 : decode cX7_ring 41 = .ok (.iload_n 2, 1) := by decide +kernel
theorem dX7_ring_42 : decode cX7_ring 42 = .ok (.iconst 2, 1) := by decide +kernel
theorem dX7_ring_43 : decode cX7_ring 43 = .ok (.isub, 1) := by decide +kernel
theorem dX7_ring_44 : decode cX7_ring 44 = .ok (.invokevirtual 82, 3) := by decide +kernel
theorem dX7_ring_47 : decode cX7_ring 47 = .ok (.ireturn, 1) := by decide +kernel
set_option maxRecDepth 20000 in
theorem ggX7_near_X7_ringAt : GoodIn wsX7_near wsX7_ringAt := goodIn_r _ [5, 6, 7, 8, 9, 10, 11, 12, 13, 14, 15, 16, 17, 18, 19, 20, 21, 22, 23, 24, 25, 26, 27, 28, 29, 30, 58, 59, 60, 61, 62, 63, 64, 65, 66, 67, 68, 69] (by decide +kernel) (by decide +kernel)
set_option maxRecDepth 20000 in
theorem gX7_near_X7_ringAt : GoodIn wsX7_near (wsV RX7 75 RX7 yX7_ringAt wsX7_ringAt) := goodIn_app (goodIn_of _ (by decide +kernel)) ggX7_near_X7_ringAt
set_option maxRecDepth 20000 in
theorem ggX7_near_X7_isWithin : GoodIn wsX7_near wsX7_isWithin := goodIn_r _ [33] (by decide +kernel) (by decide +kernel)
set_option maxRecDepth 20000 in
theorem gX7_near_X7_isWithin : GoodIn wsX7_near (va_wsS RX7 86 yX7_isWithin wsX7_isWithin) := goodIn_app (goodIn_of _ (by decide +kernel)) ggX7_near_X7_isWithin
set_option maxRecDepth 20000 in
theorem ggX7_near_X5_isWithinOf : GoodIn wsX7_near wsX5_isWithinOf := goodIn_r _ [38, 39, 40, 41, 37, 42, 43, 44, 45, 46, 47, 48, 49, 50, 51, 52, 53, 54, 55, 56, 57, 70, 71, 72] (by decide +kernel) (by decide +kernel)
set_option maxRecDepth 20000 in
theorem gX7_near_X5_isWithinOf : GoodIn wsX7_near (wsV RX7 90 RX5 yX5_isWithinOf wsX5_isWithinOf) := goodIn_app (goodIn_of _ (by decide +kernel)) ggX7_near_X5_isWithinOf
theorem dX7_near_0 : decode cX7_near 0 = .ok (.aload_n 0, 1) := by decide +kernel
theorem dX7_near_1 : decode cX7_near 1 = .ok (.iload_n 1, 1) := by decide +kernel
theorem dX7_near_2 : decode cX7_near 2 = .ok (.invokevirtual 75, 3) := by decide +kernel
theorem dX7_near_5 : decode cX7_near 5 = .ok (.astore 4, 2) := by decide +kernel
theorem dX7_near_7 : decode cX7_near 7 = .ok (.aload_n 0, 1) := by decide +kernel
theorem dX7_near_8 : decode cX7_near 8 = .ok (.iload_n 2, 1) := by decide +kernel
theorem dX7_near_9 : decode cX7_near 9 = .ok (.invokevirtual 75, 3) := by decide +kernel
theorem dX7_near_12 : decode cX7_near 12 = .ok (.astore 5, 2) := by decide +kernel
theorem dX7_near_14 : decode cX7_near 14 = .ok (.aload 4, 2) := by decide +kernel
theorem dX7_near_16 : decode cX7_near 16 = .ok (.ifnull 23, 3) := by decide +kernel
theorem dX7_near_19 : decode cX7_near 19 = .ok (.aload 5, 2) := by decide +kernel
theorem dX7_near_21 : decode cX7_near 21 = .ok (.ifnull 18, 3) := by decide +kernel
theorem dX7_near_24 : decode cX7_near 24 = .ok (.iload_n 1, 1) := by decide +kernel
theorem dX7_near_25 : decode cX7_near 25 = .ok (.iload_n 2, 1) := by decide +kernel
theorem dX7_near_26 : decode cX7_near 26 = .ok (.if_icmp .eq 13, 3) := by decide +kernel
theorem dX7_near_29 : decode cX7_near 29 = .ok (.iload_n 3, 1) := by decide +kernel
theorem dX7_near_30 : decode cX7_near 30 = .ok (.iconst 0, 1) := by decide +kernel
theorem dX7_near_31 : decode cX7_near 31 = .ok (.bipush 100, 2) := by decide +kernel
theorem dX7_near_33 : decode cX7_near 33 = .ok (.invokestatic 86, 3) := by decide +kernel
theorem dX7_near_36 : decode cX7_near 36 = .ok (.ifCond .ne 5, 3) := by decide +kernel
theorem dX7_near_39 : decode cX7_near 39 = .ok (.iconst 0, 1) := by decide +kernel
theorem dX7_near_40 : decode cX7_near 40 = .ok (.ireturn, 1) := by decide +kernel
theorem dX7_near_41 : decode cX7_near 41 = .ok (.aload 4, 2) := by decide +kernel
theorem dX7_near_43 : decode cX7_near 43 = .ok (.aload 5, 2) := by decide +kernel
theorem dX7_near_45 : decode cX7_near 45 = .ok (.iload_n 3, 1) := by decide +kernel
theorem dX7_near_46 : decode cX7_near 46 = .ok (.invokevirtual 90, 3) := by decide +kernel
theorem dX7_near_49 : decode cX7_near 49 = .ok (.ireturn, 1) := by decide +kernel
set_option maxRecDepth 20000 in
theorem ggX7_overlapsPlot_Jx4a65c_size_8abf5 : GoodIn wsX7_overlapsPlot wsJx4a65c_size_8abf5 := goodIn_r _ [7, 8, 59, 60, 61] (by decide +kernel) (by decide +kernel)
set_option maxRecDepth 20000 in
theorem gX7_overlapsPlot_Jx4a65c_size_8abf5 : GoodIn wsX7_overlapsPlot (wsV RX7 57 RJx4a65c yJx4a65c_size_8abf5 wsJx4a65c_size_8abf5) := goodIn_app (goodIn_of _ (by decide +kernel)) ggX7_overlapsPlot_Jx4a65c_size_8abf5
set_option maxRecDepth 20000 in
theorem ggX7_overlapsPlot_Jx4a65c_get_915e3 : GoodIn wsX7_overlapsPlot wsJx4a65c_get_915e3 := goodIn_r _ [12, 8, 13, 14, 15, 16, 17, 18, 19, 20, 21, 22, 23, 6, 24, 25, 59, 60, 61] (by decide +kernel) (by decide +kernel)
set_option maxRecDepth 20000 in
theorem gX7_overlapsPlot_Jx4a65c_get_915e3 : GoodIn wsX7_overlapsPlot (wsV RX7 94 RJx4a65c yJx4a65c_get_915e3 wsJx4a65c_get_915e3) := goodIn_app (goodIn_of _ (by decide +kernel)) ggX7_overlapsPlot_Jx4a65c_get_915e3
set_option maxRecDepth 20000 in
theorem ggX7_overlapsPlot_X5_overlaps : GoodIn wsX7_overlapsPlot wsX5_overlaps := goodIn_r _ [30, 31, 32, 33, 29, 34, 35, 36, 37, 38, 39, 40, 41, 42, 43, 44, 45, 46, 47, 48, 49, 62, 63, 64] (by decide +kernel) (by decide +kernel)
set_option maxRecDepth 20000 in
theorem gX7_overlapsPlot_X5_overlaps : GoodIn wsX7_overlapsPlot (wsV RX7 98 RX5 yX5_overlaps wsX5_overlaps) := goodIn_app (goodIn_of _ (by decide +kernel)) ggX7_overlapsPlot_X5_overlaps
theorem dX7_overlapsPlot_0 : decode cX7_overlapsPlot 0 = .ok (.iconst 0, 1) := by decide +kernel
theorem dX7_overlapsPlot_1 : decode cX7_overlapsPlot 1 = .ok (.istore_n 2, 1) := by decide +kernel
theorem dX7_overlapsPlot_2 : decode cX7_overlapsPlot 2 = .ok (.iload_n 2, 1) := by decide +kernel
theorem dX7_overlapsPlot_3 : decode cX7_overlapsPlot 3 = .ok (.aload_n 0, 1) := by decide +kernel
theorem dX7_overlapsPlot_4 : decode cX7_overlapsPlot 4 = .ok (.getfield 10, 3) := by decide +kernel
theorem dX7_overlapsPlot_7 : decode cX7_overlapsPlot 7 = .ok (.invokevirtual 57, 3) := by decide +kernel
theorem dX7_overlapsPlot_10 : decode cX7_overlapsPlot 10 = .ok (.if_icmp .ge 29, 3) := by decide +kernel
theorem dX7_overlapsPlot_13 : decode cX7_overlapsPlot 13 = .ok (.aload_n 1, 1) := by decide +kernel
theorem dX7_overlapsPlot_14 : decode cX7_overlapsPlot 14 = .ok (.aload_n 0, 1) := by decide +kernel
theorem dX7_overlapsPlot_15 : decode cX7_overlapsPlot 15 = .ok (.getfield 10, 3) := by decide +kernel
theorem dX7_overlapsPlot_18 : decode cX7_overlapsPlot 18 = .ok (.iload_n 2, 1) := by decide +kernel
theorem dX7_overlapsPlot_19 : decode cX7_overlapsPlot 19 = .ok (.invokevirtual 94, 3) := by decide +kernel
theorem dX7_overlapsPlot_22 : decode cX7_overlapsPlot 22 = .ok (.checkcast 29, 3) := by decide +kernel
theorem dX7_overlapsPlot_25 : decode cX7_overlapsPlot 25 = .ok (.invokevirtual 98, 3) := by decide +kernel
theorem dX7_overlapsPlot_28 : decode cX7_overlapsPlot 28 = .ok (.ifCond .eq 5, 3) := by decide +kernel
theorem dX7_overlapsPlot_31 : decode cX7_overlapsPlot 31 = .ok (.iconst 1, 1) := by decide +kernel
theorem dX7_overlapsPlot_32 : decode cX7_overlapsPlot 32 = .ok (.ireturn, 1) := by decide +kernel
theorem dX7_overlapsPlot_33 : decode cX7_overlapsPlot 33 = .ok (.iinc 2 1, 3) := by decide +kernel
theorem dX7_overlapsPlot_36 : decode cX7_overlapsPlot 36 = .ok (.goto (-34), 3) := by decide +kernel
theorem dX7_overlapsPlot_39 : decode cX7_overlapsPlot 39 = .ok (.iconst 0, 1) := by decide +kernel
theorem dX7_overlapsPlot_40 : decode cX7_overlapsPlot 40 = .ok (.ireturn, 1) := by decide +kernel
set_option maxRecDepth 20000 in
theorem ggX7_ringAt_Jx4a65c_size_8abf5 : GoodIn wsX7_ringAt wsJx4a65c_size_8abf5 := goodIn_r _ [7, 8, 35, 36, 37] (by decide +kernel) (by decide +kernel)
set_option maxRecDepth 20000 in
theorem gX7_ringAt_Jx4a65c_size_8abf5 : GoodIn wsX7_ringAt (wsV RX7 57 RJx4a65c yJx4a65c_size_8abf5 wsJx4a65c_size_8abf5) := goodIn_app (goodIn_of _ (by decide +kernel)) ggX7_ringAt_Jx4a65c_size_8abf5
set_option maxRecDepth 20000 in
theorem ggX7_ringAt_Jx4a65c_get_915e3 : GoodIn wsX7_ringAt wsJx4a65c_get_915e3 := goodIn_r _ [12, 8, 13, 14, 15, 16, 17, 18, 19, 20, 21, 22, 23, 6, 24, 25, 35, 36, 37] (by decide +kernel) (by decide +kernel)
set_option maxRecDepth 20000 in
theorem gX7_ringAt_Jx4a65c_get_915e3 : GoodIn wsX7_ringAt (wsV RX7 94 RJx4a65c yJx4a65c_get_915e3 wsJx4a65c_get_915e3) := goodIn_app (goodIn_of _ (by decide +kernel)) ggX7_ringAt_Jx4a65c_get_915e3
theorem dX7_ringAt_0 : decode cX7_ringAt 0 = .ok (.iload_n 1, 1) := by decide +kernel
theorem dX7_ringAt_1 : decode cX7_ringAt 1 = .ok (.ifCond .lt 28, 3) := by decide +kernel
theorem dX7_ringAt_4 : decode cX7_ringAt 4 = .ok (.iload_n 1, 1) := by decide +kernel
theorem dX7_ringAt_5 : decode cX7_ringAt 5 = .ok (.aload_n 0, 1) := by decide +kernel
theorem dX7_ringAt_6 : decode cX7_ringAt 6 = .ok (.getfield 10, 3) := by decide +kernel
theorem dX7_ringAt_9 : decode cX7_ringAt 9 = .ok (.invokevirtual 57, 3) := by decide +kernel
theorem dX7_ringAt_12 : decode cX7_ringAt 12 = .ok (.if_icmp .ge 17, 3) := by decide +kernel
theorem dX7_ringAt_15 : decode cX7_ringAt 15 = .ok (.aload_n 0, 1) := by decide +kernel
theorem dX7_ringAt_16 : decode cX7_ringAt 16 = .ok (.getfield 10, 3) := by decide +kernel
theorem dX7_ringAt_19 : decode cX7_ringAt 19 = .ok (.iload_n 1, 1) := by decide +kernel
theorem dX7_ringAt_20 : decode cX7_ringAt 20 = .ok (.invokevirtual 94, 3) := by decide +kernel
theorem dX7_ringAt_23 : decode cX7_ringAt 23 = .ok (.checkcast 29, 3) := by decide +kernel
theorem dX7_ringAt_26 : decode cX7_ringAt 26 = .ok (.goto 4, 3) := by decide +kernel
theorem dX7_ringAt_29 : decode cX7_ringAt 29 = .ok (.aconst_null, 1) := by decide +kernel
theorem dX7_ringAt_30 : decode cX7_ringAt 30 = .ok (.areturn, 1) := by decide +kernel
set_option maxRecDepth 20000 in
theorem ggX7_feed_X7_putOnTape : GoodIn wsX7_feed wsX7_putOnTape := goodIn_r _ [6, 1, 7, 8, 9, 10, 11, 12, 13, 14, 15, 16] (by decide +kernel) (by decide +kernel)
set_option maxRecDepth 20000 in
theorem gX7_feed_X7_putOnTape : GoodIn wsX7_feed (wsV RX7 101 RX7 yX7_putOnTape wsX7_putOnTape) := goodIn_app (goodIn_of _ (by decide +kernel)) ggX7_feed_X7_putOnTape
theorem dX7_feed_0 : decode cX7_feed 0 = .ok (.aload_n 0, 1) := by decide +kernel
theorem dX7_feed_1 : decode cX7_feed 1 = .ok (.getfield 36, 3) := by decide +kernel
theorem dX7_feed_4 : decode cX7_feed 4 = .ok (.sipush 580, 3) := by decide +kernel
theorem dX7_feed_7 : decode cX7_feed 7 = .ok (.if_icmp .le 5, 3) := by decide +kernel
theorem dX7_feed_10 : decode cX7_feed 10 = .ok (.iconst (-1), 1) := by decide +kernel
theorem dX7_feed_11 : decode cX7_feed 11 = .ok (.ireturn, 1) := by decide +kernel
theorem dX7_feed_12 : decode cX7_feed 12 = .ok (.aload_n 0, 1) := by decide +kernel
theorem dX7_feed_13 : decode cX7_feed 13 = .ok (.iload_n 1, 1) := by decide +kernel
theorem dX7_feed_14 : decode cX7_feed 14 = .ok (.invokevirtual 101, 3) := by decide +kernel
theorem dX7_feed_17 : decode cX7_feed 17 = .ok (.aload_n 0, 1) := by decide +kernel
theorem dX7_feed_18 : decode cX7_feed 18 = .ok (.iload_n 2, 1) := by decide +kernel
theorem dX7_feed_19 : decode cX7_feed 19 = .ok (.invokevirtual 101, 3) := by decide +kernel
theorem dX7_feed_22 : decode cX7_feed 22 = .ok (.aload_n 0, 1) := by decide +kernel
theorem dX7_feed_23 : decode cX7_feed 23 = .ok (.iload_n 3, 1) := by decide +kernel
theorem dX7_feed_24 : decode cX7_feed 24 = .ok (.invokevirtual 101, 3) := by decide +kernel
theorem dX7_feed_27 : decode cX7_feed 27 = .ok (.aload_n 0, 1) := by decide +kernel
theorem dX7_feed_28 : decode cX7_feed 28 = .ok (.iload 4, 2) := by decide +kernel
theorem dX7_feed_30 : decode cX7_feed 30 = .ok (.invokevirtual 101, 3) := by decide +kernel
theorem dX7_feed_33 : decode cX7_feed 33 = .ok (.aload_n 0, 1) := by decide +kernel
theorem dX7_feed_34 : decode cX7_feed 34 = .ok (.iload 5, 2) := by decide +kernel
theorem dX7_feed_36 : decode cX7_feed 36 = .ok (.invokevirtual 101, 3) := by decide +kernel
theorem dX7_feed_39 : decode cX7_feed 39 = .ok (.aload_n 0, 1) := by decide +kernel
theorem dX7_feed_40 : decode cX7_feed 40 = .ok (.getfield 36, 3) := by decide +kernel
theorem dX7_feed_43 : decode cX7_feed 43 = .ok (.ireturn, 1) := by decide +kernel
set_option maxRecDepth 20000 in
theorem ggX7_adopt_X7_isDay : GoodIn wsX7_adopt wsX7_isDay := goodIn_r _ [15, 16, 17, 14, 18] (by decide +kernel) (by decide +kernel)
set_option maxRecDepth 20000 in
theorem gX7_adopt_X7_isDay : GoodIn wsX7_adopt (va_wsS RX7 105 yX7_isDay wsX7_isDay) := goodIn_app (goodIn_of _ (by decide +kernel)) ggX7_adopt_X7_isDay
set_option maxRecDepth 20000 in
theorem ggX7_adopt_Jx4a65c_size_8abf5 : GoodIn wsX7_adopt wsJx4a65c_size_8abf5 := goodIn_r _ [23, 24, 242, 243, 244] (by decide +kernel) (by decide +kernel)
set_option maxRecDepth 20000 in
theorem gX7_adopt_Jx4a65c_size_8abf5 : GoodIn wsX7_adopt (wsV RX7 57 RJx4a65c yJx4a65c_size_8abf5 wsJx4a65c_size_8abf5) := goodIn_app (goodIn_of _ (by decide +kernel)) ggX7_adopt_Jx4a65c_size_8abf5
set_option maxRecDepth 20000 in
theorem ggX7_adopt_X3_init : GoodIn wsX7_adopt wsX3_init := goodIn_r _ [27, 28, 29, 30, 31, 32, 22, 33, 34, 35, 36, 37, 38, 39, 40, 41, 42, 43, 44, 45, 46, 47, 48, 49, 50, 242, 243, 244, 235, 236, 237] (by decide +kernel) (by decide +kernel)
set_option maxRecDepth 20000 in
theorem gX7_adopt_X3_init : GoodIn wsX7_adopt (wsX3_init) := ggX7_adopt_X3_init
set_option maxRecDepth 20000 in
theorem ggX7_adopt_X4_init : GoodIn wsX7_adopt wsX4_init := goodIn_r _ [53, 54, 29, 30, 55, 56, 57, 58, 59, 60, 61, 62, 238, 239, 240, 241] (by decide +kernel) (by decide +kernel)
set_option maxRecDepth 20000 in
theorem gX7_adopt_X4_init : GoodIn wsX7_adopt (wsX4_init) := ggX7_adopt_X4_init
set_option maxRecDepth 20000 in
theorem ggX7_adopt_X4_readInto : GoodIn wsX7_adopt wsX4_readInto := goodIn_r _ [66, 55, 62, 67, 68, 69, 70, 71, 72, 9, 73, 56, 57, 74, 75, 76, 77, 78, 79, 80, 81, 82, 83, 84, 85, 29, 30, 86, 87, 88, 89, 90, 91, 92, 93, 94, 95, 96, 97, 98, 99, 100, 101, 102, 103, 104, 105, 106, 107, 108, 109, 110, 111, 112, 113, 114, 115, 116, 117, 118, 119, 120, 121, 122, 123, 124, 125, 126, 127, 128, 129, 130, 131, 132, 133, 134, 135, 136, 137, 138, 139, 140, 141, 142, 143, 144, 145, 146, 147, 148, 149, 150, 151, 152, 153, 154, 155, 156, 157, 158, 159, 160, 161, 162, 163, 164, 165, 166, 167, 168, 169, 170, 171, 17, 14, 18, 172, 173, 174, 175, 176, 177, 178, 22, 179, 180, 181, 40, 24, 182, 183, 184, 185, 186, 187, 188, 189, 190, 191, 192, 193, 39, 194, 195, 60, 196, 197, 198, 199, 200, 201, 202, 203, 204, 205, 206, 207, 208, 209, 210, 211, 212, 213, 214, 215, 216, 217, 218, 219, 220, 59, 61, 221, 222, 223, 224, 238, 239, 240, 241, 245, 246, 247, 248, 249, 250, 235, 236, 237, 242, 243, 244] (by decide +kernel) (by decide +kernel)
set_option maxRecDepth 20000 in
theorem gX7_adopt_X4_readInto : GoodIn wsX7_adopt (wsV RX7 118 RX4 yX4_readInto wsX4_readInto) := goodIn_app (goodIn_of _ (by decide +kernel)) ggX7_adopt_X4_readInto
set_option maxRecDepth 20000 in
theorem ggX7_adopt_Jx4a65c_add_9ea2d : GoodIn wsX7_adopt wsJx4a65c_add_9ea2d := goodIn_r _ [179, 180, 181, 40, 24, 182, 183, 184, 22, 185, 186, 187, 188, 189, 190, 191, 192, 193, 39, 194, 195, 60, 196, 197, 198, 199, 200, 201, 202, 203, 204, 205, 206, 207, 208, 209, 210, 211, 212, 213, 214, 215, 216, 217, 218, 219, 220, 59, 61, 221, 222, 223, 224, 242, 243, 244] (by decide +kernel) (by decide +kernel)
set_option maxRecDepth 20000 in
theorem gX7_adopt_Jx4a65c_add_9ea2d : GoodIn wsX7_adopt (wsV RX7 71 RJx4a65c yJx4a65c_add_9ea2d wsJx4a65c_add_9ea2d) := goodIn_app (goodIn_of _ (by decide +kernel)) ggX7_adopt_Jx4a65c_add_9ea2d
theorem dX7_adopt_0 : decode cX7_adopt 0 = .ok (.iload_n 1, 1) := by decide +kernel
theorem dX7_adopt_1 : decode cX7_adopt 1 = .ok (.ifCond .lt 18, 3) := by decide +kernel
theorem dX7_adopt_4 : decode cX7_adopt 4 = .ok (.iload_n 1, 1) := by decide +kernel
theorem dX7_adopt_5 : decode cX7_adopt 5 = .ok (.aload_n 0, 1) := by decide +kernel
theorem dX7_adopt_6 : decode cX7_adopt 6 = .ok (.getfield 36, 3) := by decide +kernel
theorem dX7_adopt_9 : decode cX7_adopt 9 = .ok (.if_icmp .gt 10, 3) := by decide +kernel
theorem dX7_adopt_12 : decode cX7_adopt 12 = .ok (.iload_n 2, 1) := by decide +kernel
theorem dX7_adopt_13 : decode cX7_adopt 13 = .ok (.invokestatic 105, 3) := by decide +kernel
theorem dX7_adopt_16 : decode cX7_adopt 16 = .ok (.ifCond .ne 6, 3) := by decide +kernel
theorem dX7_adopt_19 : decode cX7_adopt 19 = .ok (.bipush (-2), 2) := by decide +kernel
theorem dX7_adopt_21 : decode cX7_adopt 21 = .ok (.ireturn, 1) := by decide +kernel
theorem dX7_adopt_22 : decode cX7_adopt 22 = .ok (.aload_n 0, 1) := by decide +kernel
theorem dX7_adopt_23 : decode cX7_adopt 23 = .ok (.getfield 16, 3) := by decide +kernel
theorem dX7_adopt_26 : decode cX7_adopt 26 = .ok (.invokevirtual 57, 3) := by decide +kernel
theorem dX7_adopt_29 : decode cX7_adopt 29 = .ok (.bipush 20, 2) := by decide +kernel
theorem dX7_adopt_31 : decode cX7_adopt 31 = .ok (.if_icmp .lt 6, 3) := by decide +kernel
theorem dX7_adopt_34 : decode cX7_adopt 34 = .ok (.bipush (-3), 2) := by decide +kernel
theorem dX7_adopt_36 : decode cX7_adopt 36 = .ok (.ireturn, 1) := by decide +kernel
theorem dX7_adopt_37 : decode cX7_adopt 37 = .ok (.aload_n 0, 1) := by decide +kernel
theorem dX7_adopt_38 : decode cX7_adopt 38 = .ok (.iconst 0, 1) := by decide +kernel
theorem dX7_adopt_39 : decode cX7_adopt 39 = .ok (.putfield 36, 3) := by decide +kernel
theorem dX7_adopt_42 : decode cX7_adopt 42 = .ok (.new 108, 3) := by decide +kernel
theorem dX7_adopt_45 : decode cX7_adopt 45 = .ok (.dup, 1) := by decide +kernel
theorem dX7_adopt_46 : decode cX7_adopt 46 = .ok (.iload_n 2, 1) := by decide +kernel
theorem dX7_adopt_47 : decode cX7_adopt 47 = .ok (.aload_n 0, 1) := by decide +kernel
theorem dX7_adopt_48 : decode cX7_adopt 48 = .ok (.getfield 40, 3) := by decide +kernel
theorem dX7_adopt_51 : decode cX7_adopt 51 = .ok (.invokespecial 110, 3) := by decide +kernel
theorem dX7_adopt_54 : decode cX7_adopt 54 = .ok (.astore_n 3, 1) := by decide +kernel
theorem dX7_adopt_55 : decode cX7_adopt 55 = .ok (.aload_n 0, 1) := by decide +kernel
theorem dX7_adopt_56 : decode cX7_adopt 56 = .ok (.new 113, 3) := by decide +kernel
theorem dX7_adopt_59 : decode cX7_adopt 59 = .ok (.dup, 1) := by decide +kernel
theorem dX7_adopt_60 : decode cX7_adopt 60 = .ok (.aload_n 0, 1) := by decide +kernel
theorem dX7_adopt_61 : decode cX7_adopt 61 = .ok (.getfield 25, 3) := by decide +kernel
theorem dX7_adopt_64 : decode cX7_adopt 64 = .ok (.iload_n 1, 1) := by decide +kernel
theorem dX7_adopt_65 : decode cX7_adopt 65 = .ok (.invokespecial 115, 3) := by decide +kernel
theorem dX7_adopt_68 : decode cX7_adopt 68 = .ok (.aload_n 3, 1) := by decide +kernel
theorem dX7_adopt_69 : decode cX7_adopt 69 = .ok (.invokevirtual 118, 3) := by decide +kernel
theorem dX7_adopt_72 : decode cX7_adopt 72 = .ok (.putfield 43, 3) := by decide +kernel
theorem dX7_adopt_75 : decode cX7_adopt 75 = .ok (.aload_n 0, 1) := by decide +kernel
theorem dX7_adopt_76 : decode cX7_adopt 76 = .ok (.getfield 43, 3) := by decide +kernel
theorem dX7_adopt_79 : decode cX7_adopt 79 = .ok (.iconst (-1), 1) := by decide +kernel
theorem dX7_adopt_80 : decode cX7_adopt 80 = .ok (.if_icmp .eq 5, 3) := by decide +kernel
theorem dX7_adopt_83 : decode cX7_adopt 83 = .ok (.iconst (-1), 1) := by decide +kernel
theorem dX7_adopt_84 : decode cX7_adopt 84 = .ok (.ireturn, 1) := by decide +kernel
theorem dX7_adopt_85 : decode cX7_adopt 85 = .ok (.aload_n 0, 1) := by decide +kernel
theorem dX7_adopt_86 : decode cX7_adopt 86 = .ok (.getfield 16, 3) := by decide +kernel
theorem dX7_adopt_89 : decode cX7_adopt 89 = .ok (.aload_n 3, 1) := by decide +kernel
theorem dX7_adopt_90 : decode cX7_adopt 90 = .ok (.invokevirtual 71, 3) := by decide +kernel
theorem dX7_adopt_93 : decode cX7_adopt 93 = .ok (.pop, 1) := by decide +kernel
theorem dX7_adopt_94 : decode cX7_adopt 94 = .ok (.aload_n 0, 1) := by decide +kernel
theorem dX7_adopt_95 : decode cX7_adopt 95 = .ok (.getfield 16, 3) := by decide +kernel
theorem dX7_adopt_98 : decode cX7_adopt 98 = .ok (.invokevirtual 57, 3) := by decide +kernel
theorem dX7_adopt_101 : decode cX7_adopt 101 = .ok (.iconst 1, 1) := by decide +kernel
theorem dX7_adopt_102 : decode cX7_adopt 102 = .ok (.isub, 1) := by decide +kernel
theorem dX7_adopt_103 : decode cX7_adopt 103 = .ok (.ireturn, 1) := by decide +kernel
theorem dX7_fault_0 : decode cX7_fault 0 = .ok (.aload_n 0, 1) := by decide +kernel
theorem dX7_fault_1 : decode cX7_fault 1 = .ok (.getfield 43, 3) := by decide +kernel
theorem dX7_fault_4 : decode cX7_fault 4 = .ok (.ireturn, 1) := by decide +kernel
set_option maxRecDepth 20000 in
theorem ggX7_plan_X7_isDay : GoodIn wsX7_plan wsX7_isDay := goodIn_r _ [4, 5, 6, 3, 7] (by decide +kernel) (by decide +kernel)
set_option maxRecDepth 20000 in
theorem gX7_plan_X7_isDay : GoodIn wsX7_plan (va_wsS RX7 105 yX7_isDay wsX7_isDay) := goodIn_app (goodIn_of _ (by decide +kernel)) ggX7_plan_X7_isDay
set_option maxRecDepth 20000 in
theorem ggX7_plan_X7_planInForce : GoodIn wsX7_plan wsX7_planInForce := goodIn_r _ [11, 12, 13, 14, 15, 16, 17, 18, 19, 20, 21, 22, 23, 24, 25, 26, 27, 28, 29, 30, 31, 32, 33, 34, 35, 36, 37, 38, 39, 40, 41, 42, 43, 44, 45, 46, 47, 48, 49, 50, 51] (by decide +kernel) (by decide +kernel)
set_option maxRecDepth 20000 in
theorem gX7_plan_X7_planInForce : GoodIn wsX7_plan (wsV RX7 122 RX7 yX7_planInForce wsX7_planInForce) := goodIn_app (goodIn_of _ (by decide +kernel)) ggX7_plan_X7_planInForce
theorem dX7_plan_0 : decode cX7_plan 0 = .ok (.iload_n 1, 1) := by decide +kernel
theorem dX7_plan_1 : decode cX7_plan 1 = .ok (.invokestatic 105, 3) := by decide +kernel
theorem dX7_plan_4 : decode cX7_plan 4 = .ok (.ifCond .eq 19, 3) := by decide +kernel
theorem dX7_plan_7 : decode cX7_plan 7 = .ok (.iload_n 2, 1) := by decide +kernel
theorem dX7_plan_8 : decode cX7_plan 8 = .ok (.invokestatic 105, 3) := by decide +kernel
theorem dX7_plan_11 : decode cX7_plan 11 = .ok (.ifCond .eq 12, 3) := by decide +kernel
theorem dX7_plan_14 : decode cX7_plan 14 = .ok (.aload_n 0, 1) := by decide +kernel
theorem dX7_plan_15 : decode cX7_plan 15 = .ok (.iload_n 1, 1) := by decide +kernel
theorem dX7_plan_16 : decode cX7_plan 16 = .ok (.iload_n 2, 1) := by decide +kernel
theorem dX7_plan_17 : decode cX7_plan 17 = .ok (.invokevirtual 122, 3) := by decide +kernel
theorem dX7_plan_20 : decode cX7_plan 20 = .ok (.goto 4, 3) := by decide +kernel
theorem dX7_plan_23 : decode cX7_plan 23 = .ok (.iconst (-1), 1) := by decide +kernel
theorem dX7_plan_24 : decode cX7_plan 24 = .ok (.ireturn, 1) := by decide +kernel
set_option maxRecDepth 20000 in
theorem ggX7_zone_X7_planAt : GoodIn wsX7_zone wsX7_planAt := goodIn_r _ [5, 6, 7, 8, 9, 10, 11, 12, 13, 14, 15, 16, 17, 18, 19, 20, 21, 22, 23, 24, 25, 26, 27, 28, 29, 30, 78, 79, 80, 81, 82, 83, 84, 85, 86, 87, 88, 89] (by decide +kernel) (by decide +kernel)
set_option maxRecDepth 20000 in
theorem gX7_zone_X7_planAt : GoodIn wsX7_zone (wsV RX7 126 RX7 yX7_planAt wsX7_planAt) := goodIn_app (goodIn_of _ (by decide +kernel)) ggX7_zone_X7_planAt
set_option maxRecDepth 20000 in
theorem ggX7_zone_X7_ringAt : GoodIn wsX7_zone wsX7_ringAt := goodIn_r _ [34, 35, 36, 8, 9, 10, 11, 12, 13, 14, 15, 16, 17, 18, 19, 20, 21, 22, 23, 24, 25, 26, 27, 28, 29, 30, 78, 79, 80, 81, 82, 83, 84, 85, 86, 87, 88, 89] (by decide +kernel) (by decide +kernel)
set_option maxRecDepth 20000 in
theorem gX7_zone_X7_ringAt : GoodIn wsX7_zone (wsV RX7 75 RX7 yX7_ringAt wsX7_ringAt) := goodIn_app (goodIn_of _ (by decide +kernel)) ggX7_zone_X7_ringAt
set_option maxRecDepth 20000 in
theorem ggX7_zone_X3_zoneNaming : GoodIn wsX7_zone wsX3_zoneNaming := goodIn_r _ [41, 42, 43, 44, 9, 10, 11, 12, 13, 45, 15, 16, 17, 18, 19, 20, 21, 22, 23, 24, 25, 26, 27, 28, 29, 30, 46, 47, 48, 49, 50, 51, 52, 53, 54, 55, 4, 56, 90, 91, 92, 87, 88, 89, 93, 94, 95, 96, 97, 98] (by decide +kernel) (by decide +kernel)
set_option maxRecDepth 20000 in
theorem gX7_zone_X3_zoneNaming : GoodIn wsX7_zone (wsV RX7 130 RX3 yX3_zoneNaming wsX3_zoneNaming) := goodIn_app (goodIn_of _ (by decide +kernel)) ggX7_zone_X3_zoneNaming
set_option maxRecDepth 20000 in
theorem ggX7_zone_X3_zoneAt : GoodIn wsX7_zone wsX3_zoneAt := goodIn_r _ [60, 42, 43, 44, 9, 10, 11, 12, 13, 45, 15, 16, 17, 18, 19, 20, 21, 22, 23, 24, 25, 26, 27, 28, 29, 30, 90, 91, 92, 87, 88, 89] (by decide +kernel) (by decide +kernel)
set_option maxRecDepth 20000 in
theorem gX7_zone_X3_zoneAt : GoodIn wsX7_zone (wsV RX7 133 RX3 yX3_zoneAt wsX3_zoneAt) := goodIn_app (goodIn_of _ (by decide +kernel)) ggX7_zone_X3_zoneAt
set_option maxRecDepth 20000 in
theorem ggX7_zone_X6_tell : GoodIn wsX7_zone wsX6_tell := goodIn_r _ [64, 65, 66, 67, 68, 69, 70, 71, 49, 72, 55, 4, 56, 73, 74, 75, 76, 77, 52, 53, 54, 93, 94, 95, 96, 97, 98] (by decide +kernel) (by decide +kernel)
set_option maxRecDepth 20000 in
theorem gX7_zone_X6_tell : GoodIn wsX7_zone (wsV RX7 137 RX6 yX6_tell wsX6_tell) := goodIn_app (goodIn_of _ (by decide +kernel)) ggX7_zone_X6_tell
theorem dX7_zone_0 : decode cX7_zone 0 = .ok (.aload_n 0, 1) := by decide +kernel
theorem dX7_zone_1 : decode cX7_zone 1 = .ok (.iload_n 1, 1) := by decide +kernel
theorem dX7_zone_2 : decode cX7_zone 2 = .ok (.invokevirtual 126, 3) := by decide +kernel
theorem dX7_zone_5 : decode cX7_zone 5 = .ok (.astore 4, 2) := by decide +kernel
theorem dX7_zone_7 : decode cX7_zone 7 = .ok (.aload 4, 2) := by decide +kernel
theorem dX7_zone_9 : decode cX7_zone 9 = .ok (.ifnull 11, 3) := by decide +kernel
theorem dX7_zone_12 : decode cX7_zone 12 = .ok (.aload_n 0, 1) := by decide +kernel
theorem dX7_zone_13 : decode cX7_zone 13 = .ok (.iload_n 2, 1) := by decide +kernel
theorem dX7_zone_14 : decode cX7_zone 14 = .ok (.invokevirtual 75, 3) := by decide +kernel
theorem dX7_zone_17 : decode cX7_zone 17 = .ok (.ifnonnull 5, 3) := by decide +kernel
theorem dX7_zone_20 : decode cX7_zone 20 = .ok (.iconst (-1), 1) := by decide +kernel
theorem dX7_zone_21 : decode cX7_zone 21 = .ok (.ireturn, 1) := by decide +kernel
theorem dX7_zone_22 : decode cX7_zone 22 = .ok (.aload 4, 2) := by decide +kernel
theorem dX7_zone_24 : decode cX7_zone 24 = .ok (.iload_n 2, 1) := by decide +kernel
theorem dX7_zone_25 : decode cX7_zone 25 = .ok (.invokevirtual 130, 3) := by decide +kernel
theorem dX7_zone_28 : decode cX7_zone 28 = .ok (.istore 5, 2) := by decide +kernel
theorem dX7_zone_30 : decode cX7_zone 30 = .ok (.aload 4, 2) := by decide +kernel
theorem dX7_zone_32 : decode cX7_zone 32 = .ok (.iload 5, 2) := by decide +kernel
theorem dX7_zone_34 : decode cX7_zone 34 = .ok (.invokevirtual 133, 3) := by decide +kernel
theorem dX7_zone_37 : decode cX7_zone 37 = .ok (.astore 6, 2) := by decide +kernel
theorem dX7_zone_39 : decode cX7_zone 39 = .ok (.aload 6, 2) := by decide +kernel
theorem dX7_zone_41 : decode cX7_zone 41 = .ok (.ifnull 7, 3) := by decide +kernel
theorem dX7_zone_44 : decode cX7_zone 44 = .ok (.iload_n 3, 1) := by decide +kernel
theorem dX7_zone_45 : decode cX7_zone 45 = .ok (.ifCond .ne 6, 3) := by decide +kernel
theorem dX7_zone_48 : decode cX7_zone 48 = .ok (.iload 5, 2) := by decide +kernel
theorem dX7_zone_50 : decode cX7_zone 50 = .ok (.ireturn, 1) := by decide +kernel
theorem dX7_zone_51 : decode cX7_zone 51 = .ok (.aload 6, 2) := by decide +kernel
theorem dX7_zone_53 : decode cX7_zone 53 = .ok (.iload_n 3, 1) := by decide +kernel
theorem dX7_zone_54 : decode cX7_zone 54 = .ok (.invokevirtual 137, 3) := by decide +kernel
theorem dX7_zone_57 : decode cX7_zone 57 = .ok (.ireturn, 1) := by decide +kernel
theorem dX7_putOnTape_0 : decode cX7_putOnTape 0 = .ok (.bipush 24, 2) := by decide +kernel
theorem dX7_putOnTape_2 : decode cX7_putOnTape 2 = .ok (.istore_n 2, 1) := by decide +kernel
theorem dX7_putOnTape_3 : decode cX7_putOnTape 3 = .ok (.iload_n 2, 1) := by decide +kernel
theorem dX7_putOnTape_4 : decode cX7_putOnTape 4 = .ok (.ifCond .lt 42, 3) := by decide +kernel
theorem dX7_putOnTape_7 : decode cX7_putOnTape 7 = .ok (.aload_n 0, 1) := by decide +kernel
theorem dX7_putOnTape_8 : decode cX7_putOnTape 8 = .ok (.getfield 36, 3) := by decide +kernel
theorem dX7_putOnTape_11 : decode cX7_putOnTape 11 = .ok (.sipush 600, 3) := by decide +kernel
theorem dX7_putOnTape_14 : decode cX7_putOnTape 14 = .ok (.if_icmp .ge 32, 3) := by decide +kernel
theorem dX7_putOnTape_17 : decode cX7_putOnTape 17 = .ok (.aload_n 0, 1) := by decide +kernel
theorem dX7_putOnTape_18 : decode cX7_putOnTape 18 = .ok (.getfield 25, 3) := by decide +kernel
theorem dX7_putOnTape_21 : decode cX7_putOnTape 21 = .ok (.aload_n 0, 1) := by decide +kernel
theorem dX7_putOnTape_22 : decode cX7_putOnTape 22 = .ok (.getfield 36, 3) := by decide +kernel
theorem dX7_putOnTape_25 : decode cX7_putOnTape 25 = .ok (.iload_n 1, 1) := by decide +kernel
theorem dX7_putOnTape_26 : decode cX7_putOnTape 26 = .ok (.iload_n 2, 1) := by decide +kernel
theorem dX7_putOnTape_27 : decode cX7_putOnTape 27 = .ok (.iushr, 1) := by decide +kernel
theorem dX7_putOnTape_28 : decode cX7_putOnTape 28 = .ok (.i2b, 1) := by decide +kernel
theorem dX7_putOnTape_29 : decode cX7_putOnTape 29 = .ok (.bastore, 1) := by decide +kernel
theorem dX7_putOnTape_30 : decode cX7_putOnTape 30 = .ok (.aload_n 0, 1) := by decide +kernel
theorem dX7_putOnTape_31 : decode cX7_putOnTape 31 = .ok (.dup, 1) := by decide +kernel
theorem dX7_putOnTape_32 : decode cX7_putOnTape 32 = .ok (.getfield 36, 3) := by decide +kernel
theorem dX7_putOnTape_35 : decode cX7_putOnTape 35 = .ok (.iconst 1, 1) := by decide +kernel
theorem dX7_putOnTape_36 : decode cX7_putOnTape 36 = .ok (.iadd, 1) := by decide +kernel
theorem dX7_putOnTape_37 : decode cX7_putOnTape 37 = .ok (.putfield 36, 3) := by decide +kernel
theorem dX7_putOnTape_40 : decode cX7_putOnTape 40 = .ok (.iinc 2 (-8), 3) := by decide +kernel
theorem dX7_putOnTape_43 : decode cX7_putOnTape 43 = .ok (.goto (-40), 3) := by decide +kernel
theorem dX7_putOnTape_46 : decode cX7_putOnTape 46 = .ok (.return_, 1) := by decide +kernel
set_option maxRecDepth 20000 in
theorem ggX7_planInForce_Jx4a65c_size_8abf5 : GoodIn wsX7_planInForce wsJx4a65c_size_8abf5 := goodIn_r _ [7, 8, 38, 39, 40] (by decide +kernel) (by decide +kernel)
set_option maxRecDepth 20000 in
theorem gX7_planInForce_Jx4a65c_size_8abf5 : GoodIn wsX7_planInForce (wsV RX7 57 RJx4a65c yJx4a65c_size_8abf5 wsJx4a65c_size_8abf5) := goodIn_app (goodIn_of _ (by decide +kernel)) ggX7_planInForce_Jx4a65c_size_8abf5
set_option maxRecDepth 20000 in
theorem ggX7_planInForce_Jx4a65c_get_915e3 : GoodIn wsX7_planInForce wsJx4a65c_get_915e3 := goodIn_r _ [12, 8, 13, 14, 15, 16, 17, 18, 19, 20, 21, 22, 23, 6, 24, 25, 38, 39, 40] (by decide +kernel) (by decide +kernel)
set_option maxRecDepth 20000 in
theorem gX7_planInForce_Jx4a65c_get_915e3 : GoodIn wsX7_planInForce (wsV RX7 94 RJx4a65c yJx4a65c_get_915e3 wsJx4a65c_get_915e3) := goodIn_app (goodIn_of _ (by decide +kernel)) ggX7_planInForce_Jx4a65c_get_915e3
theorem dX7_planInForce_0 : decode cX7_planInForce 0 = .ok (.iconst (-1), 1) := by decide +kernel
theorem dX7_planInForce_1 : decode cX7_planInForce 1 = .ok (.istore_n 3, 1) := by decide +kernel
theorem dX7_planInForce_2 : decode cX7_planInForce 2 = .ok (.iconst (-1), 1) := by decide +kernel
theorem dX7_planInForce_3 : decode cX7_planInForce 3 = .ok (.istore 4, 2) := by decide +kernel
theorem dX7_planInForce_5 : decode cX7_planInForce 5 = .ok (.iconst 0, 1) := by decide +kernel
theorem dX7_planInForce_6 : decode cX7_planInForce 6 = .ok (.istore 5, 2) := by decide +kernel
theorem dX7_planInForce_8 : decode cX7_planInForce 8 = .ok (.iload 5, 2) := by decide +kernel
theorem dX7_planInForce_10 : decode cX7_planInForce 10 = .ok (.aload_n 0, 1) := by decide +kernel
theorem dX7_planInForce_11 : decode cX7_planInForce 11 = .ok (.getfield 16, 3) := by decide +kernel
theorem dX7_planInForce_14 : decode cX7_planInForce 14 = .ok (.invokevirtual 57, 3) := by decide +kernel
theorem dX7_planInForce_17 : decode cX7_planInForce 17 = .ok (.if_icmp .ge 61, 3) := by decide +kernel
theorem dX7_planInForce_20 : decode cX7_planInForce 20 = .ok (.aload_n 0, 1) := by decide +kernel
theorem dX7_planInForce_21 : decode cX7_planInForce 21 = .ok (.getfield 16, 3) := by decide +kernel
theorem dX7_planInForce_24 : decode cX7_planInForce 24 = .ok (.iload 5, 2) := by decide +kernel
theorem dX7_planInForce_26 : decode cX7_planInForce 26 = .ok (.invokevirtual 94, 3) := by decide +kernel
theorem dX7_planInForce_29 : decode cX7_planInForce 29 = .ok (.checkcast 108, 3) := by decide +kernel
theorem dX7_planInForce_32 : decode cX7_planInForce 32 = .ok (.astore 6, 2) := by decide +kernel
theorem dX7_planInForce_34 : decode cX7_planInForce 34 = .ok (.aload 6, 2) := by decide +kernel
theorem dX7_planInForce_36 : decode cX7_planInForce 36 = .ok (.getfield 142, 3) := by decide +kernel
theorem dX7_planInForce_39 : decode cX7_planInForce 39 = .ok (.iload_n 2, 1) := by decide +kernel
theorem dX7_planInForce_40 : decode cX7_planInForce 40 = .ok (.if_icmp .gt 32, 3) := by decide +kernel
theorem dX7_planInForce_43 : decode cX7_planInForce 43 = .ok (.aload 6, 2) := by decide +kernel
theorem dX7_planInForce_45 : decode cX7_planInForce 45 = .ok (.getfield 145, 3) := by decide +kernel
theorem dX7_planInForce_48 : decode cX7_planInForce 48 = .ok (.iload_n 1, 1) := by decide +kernel
theorem dX7_planInForce_49 : decode cX7_planInForce 49 = .ok (.if_icmp .gt 23, 3) := by decide +kernel
theorem dX7_planInForce_52 : decode cX7_planInForce 52 = .ok (.aload 6, 2) := by decide +kernel
theorem dX7_planInForce_54 : decode cX7_planInForce 54 = .ok (.getfield 145, 3) := by decide +kernel
theorem dX7_planInForce_57 : decode cX7_planInForce 57 = .ok (.iload 4, 2) := by decide +kernel
theorem dX7_planInForce_59 : decode cX7_planInForce 59 = .ok (.if_icmp .lt 13, 3) := by decide +kernel
theorem dX7_planInForce_62 : decode cX7_planInForce 62 = .ok (.iload 5, 2) := by decide +kernel
theorem dX7_planInForce_64 : decode cX7_planInForce 64 = .ok (.istore_n 3, 1) := by decide +kernel
theorem dX7_planInForce_65 : decode cX7_planInForce 65 = .ok (.aload 6, 2) := by decide +kernel
theorem dX7_planInForce_67 : decode cX7_planInForce 67 = .ok (.getfield 145, 3) := by decide +kernel
theorem dX7_planInForce_70 : decode cX7_planInForce 70 = .ok (.istore 4, 2) := by decide +kernel
theorem dX7_planInForce_72 : decode cX7_planInForce 72 = .ok (.iinc 5 1, 3) := by decide +kernel
theorem dX7_planInForce_75 : decode cX7_planInForce 75 = .ok (.goto (-67), 3) := by decide +kernel
theorem dX7_planInForce_78 : decode cX7_planInForce 78 = .ok (.iload_n 3, 1) := by decide +kernel
theorem dX7_planInForce_79 : decode cX7_planInForce 79 = .ok (.ireturn, 1) := by decide +kernel
set_option maxRecDepth 20000 in
theorem ggX7_zoneInForce_X7_planInForce : GoodIn wsX7_zoneInForce wsX7_planInForce := goodIn_r _ [5, 6, 7, 8, 9, 10, 11, 12, 13, 14, 15, 16, 17, 18, 19, 20, 21, 22, 23, 24, 25, 26, 27, 28, 29, 30, 59, 60, 61, 62, 63, 64, 65, 66, 67, 68, 69, 70, 71, 72, 73] (by decide +kernel) (by decide +kernel)
set_option maxRecDepth 20000 in
theorem gX7_zoneInForce_X7_planInForce : GoodIn wsX7_zoneInForce (wsV RX7 122 RX7 yX7_planInForce wsX7_planInForce) := goodIn_app (goodIn_of _ (by decide +kernel)) ggX7_zoneInForce_X7_planInForce
set_option maxRecDepth 20000 in
theorem ggX7_zoneInForce_X7_planAt : GoodIn wsX7_zoneInForce wsX7_planAt := goodIn_r _ [34, 6, 7, 8, 9, 10, 11, 12, 13, 14, 15, 16, 17, 18, 19, 20, 21, 22, 23, 24, 25, 26, 27, 28, 29, 30, 59, 60, 61, 62, 63, 64, 65, 66, 67, 71, 72, 73] (by decide +kernel) (by decide +kernel)
set_option maxRecDepth 20000 in
theorem gX7_zoneInForce_X7_planAt : GoodIn wsX7_zoneInForce (wsV RX7 126 RX7 yX7_planAt wsX7_planAt) := goodIn_app (goodIn_of _ (by decide +kernel)) ggX7_zoneInForce_X7_planAt
set_option maxRecDepth 20000 in
theorem ggX7_zoneInForce_X3_zoneNaming : GoodIn wsX7_zoneInForce wsX3_zoneNaming := goodIn_r _ [39, 40, 41, 42, 9, 10, 11, 12, 13, 43, 15, 16, 17, 18, 19, 20, 21, 22, 23, 24, 25, 26, 27, 28, 29, 30, 44, 45, 46, 47, 48, 49, 50, 51, 52, 53, 4, 54, 68, 69, 70, 71, 72, 73, 74, 75, 76, 77, 78, 79] (by decide +kernel) (by decide +kernel)
set_option maxRecDepth 20000 in
theorem gX7_zoneInForce_X3_zoneNaming : GoodIn wsX7_zoneInForce (wsV RX7 130 RX3 yX3_zoneNaming wsX3_zoneNaming) := goodIn_app (goodIn_of _ (by decide +kernel)) ggX7_zoneInForce_X3_zoneNaming
set_option maxRecDepth 20000 in
theorem ggX7_zoneInForce_X3_zoneAt : GoodIn wsX7_zoneInForce wsX3_zoneAt := goodIn_r _ [58, 40, 41, 42, 9, 10, 11, 12, 13, 43, 15, 16, 17, 18, 19, 20, 21, 22, 23, 24, 25, 26, 27, 28, 29, 30, 68, 69, 70, 71, 72, 73] (by decide +kernel) (by decide +kernel)
set_option maxRecDepth 20000 in
theorem gX7_zoneInForce_X3_zoneAt : GoodIn wsX7_zoneInForce (wsV RX7 133 RX3 yX3_zoneAt wsX3_zoneAt) := goodIn_app (goodIn_of _ (by decide +kernel)) ggX7_zoneInForce_X3_zoneAt
theorem dX7_zoneInForce_0 : decode cX7_zoneInForce 0 = .ok (.aload_n 0, 1) := by decide +kernel
theorem dX7_zoneInForce_1 : decode cX7_zoneInForce 1 = .ok (.aload_n 0, 1) := by decide +kernel
theorem dX7_zoneInForce_2 : decode cX7_zoneInForce 2 = .ok (.iload_n 2, 1) := by decide +kernel
theorem dX7_zoneInForce_3 : decode cX7_zoneInForce 3 = .ok (.iload_n 3, 1) := by decide +kernel
theorem dX7_zoneInForce_4 : decode cX7_zoneInForce 4 = .ok (.invokevirtual 122, 3) := by decide +kernel
theorem dX7_zoneInForce_7 : decode cX7_zoneInForce 7 = .ok (.invokevirtual 126, 3) := by decide +kernel
theorem dX7_zoneInForce_10 : decode cX7_zoneInForce 10 = .ok (.astore 4, 2) := by decide +kernel
theorem dX7_zoneInForce_12 : decode cX7_zoneInForce 12 = .ok (.aload 4, 2) := by decide +kernel
theorem dX7_zoneInForce_14 : decode cX7_zoneInForce 14 = .ok (.ifnonnull 7, 3) := by decide +kernel
theorem dX7_zoneInForce_17 : decode cX7_zoneInForce 17 = .ok (.aconst_null, 1) := by decide +kernel
theorem dX7_zoneInForce_18 : decode cX7_zoneInForce 18 = .ok (.goto 14, 3) := by decide +kernel
theorem dX7_zoneInForce_21 : decode cX7_zoneInForce 21 = .ok (.aload 4, 2) := by decide +kernel
theorem dX7_zoneInForce_23 : decode cX7_zoneInForce 23 = .ok (.aload 4, 2) := by decide +kernel
theorem dX7_zoneInForce_25 : decode cX7_zoneInForce 25 = .ok (.iload_n 1, 1) := by decide +kernel
theorem dX7_zoneInForce_26 : decode cX7_zoneInForce 26 = .ok (.invokevirtual 130, 3) := by decide +kernel
theorem dX7_zoneInForce_29 : decode cX7_zoneInForce 29 = .ok (.invokevirtual 133, 3) := by decide +kernel
theorem dX7_zoneInForce_32 : decode cX7_zoneInForce 32 = .ok (.areturn, 1) := by decide +kernel
set_option maxRecDepth 20000 in
theorem ggX7_planAt_Jx4a65c_size_8abf5 : GoodIn wsX7_planAt wsJx4a65c_size_8abf5 := goodIn_r _ [7, 8, 35, 36, 37] (by decide +kernel) (by decide +kernel)
set_option maxRecDepth 20000 in
theorem gX7_planAt_Jx4a65c_size_8abf5 : GoodIn wsX7_planAt (wsV RX7 57 RJx4a65c yJx4a65c_size_8abf5 wsJx4a65c_size_8abf5) := goodIn_app (goodIn_of _ (by decide +kernel)) ggX7_planAt_Jx4a65c_size_8abf5
set_option maxRecDepth 20000 in
theorem ggX7_planAt_Jx4a65c_get_915e3 : GoodIn wsX7_planAt wsJx4a65c_get_915e3 := goodIn_r _ [12, 8, 13, 14, 15, 16, 17, 18, 19, 20, 21, 22, 23, 6, 24, 25, 35, 36, 37] (by decide +kernel) (by decide +kernel)
set_option maxRecDepth 20000 in
theorem gX7_planAt_Jx4a65c_get_915e3 : GoodIn wsX7_planAt (wsV RX7 94 RJx4a65c yJx4a65c_get_915e3 wsJx4a65c_get_915e3) := goodIn_app (goodIn_of _ (by decide +kernel)) ggX7_planAt_Jx4a65c_get_915e3
theorem dX7_planAt_0 : decode cX7_planAt 0 = .ok (.iload_n 1, 1) := by decide +kernel
theorem dX7_planAt_1 : decode cX7_planAt 1 = .ok (.ifCond .lt 28, 3) := by decide +kernel
theorem dX7_planAt_4 : decode cX7_planAt 4 = .ok (.iload_n 1, 1) := by decide +kernel
theorem dX7_planAt_5 : decode cX7_planAt 5 = .ok (.aload_n 0, 1) := by decide +kernel
theorem dX7_planAt_6 : decode cX7_planAt 6 = .ok (.getfield 16, 3) := by decide +kernel
theorem dX7_planAt_9 : decode cX7_planAt 9 = .ok (.invokevirtual 57, 3) := by decide +kernel
theorem dX7_planAt_12 : decode cX7_planAt 12 = .ok (.if_icmp .ge 17, 3) := by decide +kernel
theorem dX7_planAt_15 : decode cX7_planAt 15 = .ok (.aload_n 0, 1) := by decide +kernel
theorem dX7_planAt_16 : decode cX7_planAt 16 = .ok (.getfield 16, 3) := by decide +kernel
theorem dX7_planAt_19 : decode cX7_planAt 19 = .ok (.iload_n 1, 1) := by decide +kernel
theorem dX7_planAt_20 : decode cX7_planAt 20 = .ok (.invokevirtual 94, 3) := by decide +kernel
theorem dX7_planAt_23 : decode cX7_planAt 23 = .ok (.checkcast 108, 3) := by decide +kernel
theorem dX7_planAt_26 : decode cX7_planAt 26 = .ok (.goto 4, 3) := by decide +kernel
theorem dX7_planAt_29 : decode cX7_planAt 29 = .ok (.aconst_null, 1) := by decide +kernel
theorem dX7_planAt_30 : decode cX7_planAt 30 = .ok (.areturn, 1) := by decide +kernel
set_option maxRecDepth 20000 in
theorem ggX7_judge_X7_designOn : GoodIn wsX7_judge wsX7_designOn := goodIn_r _ [5, 6, 7, 8, 9, 10, 11, 4, 12, 13, 14, 15, 16, 17, 18, 19, 20, 21, 22, 23, 24, 25, 26, 27, 28, 29, 30, 31, 32, 33, 34, 35, 36, 37, 38, 39, 40, 41, 42, 43, 44, 45, 46, 47, 48, 49, 50, 51, 52, 53, 54, 55, 56, 180, 181, 182, 183, 184, 185, 186, 187, 188, 189, 190, 191, 192, 193, 194, 195, 196, 197, 198] (by decide +kernel) (by decide +kernel)
set_option maxRecDepth 20000 in
theorem gX7_judge_X7_designOn : GoodIn wsX7_judge (wsV RX7 148 RX7 yX7_designOn wsX7_designOn) := goodIn_app (goodIn_of _ (by decide +kernel)) ggX7_judge_X7_designOn
set_option maxRecDepth 20000 in
theorem ggX7_judge_X7_isDay : GoodIn wsX7_judge wsX7_isDay := goodIn_r _ [59, 41, 42, 4, 43] (by decide +kernel) (by decide +kernel)
set_option maxRecDepth 20000 in
theorem gX7_judge_X7_isDay : GoodIn wsX7_judge (va_wsS RX7 105 yX7_isDay wsX7_isDay) := goodIn_app (goodIn_of _ (by decide +kernel)) ggX7_judge_X7_isDay
set_option maxRecDepth 20000 in
theorem ggX7_judge_X7_ruleBroken : GoodIn wsX7_judge wsX7_ruleBroken := goodIn_r _ [63, 9, 10, 11, 4, 12, 13, 14, 15, 16, 17, 18, 19, 20, 21, 22, 23, 24, 25, 26, 27, 28, 29, 30, 31, 32, 33, 34, 35, 36, 37, 64, 65, 66, 67, 68, 69, 70, 71, 72, 73, 74, 75, 76, 77, 78, 79, 80, 81, 82, 83, 84, 85, 86, 87, 88, 89, 90, 91, 92, 93, 94, 95, 96, 97, 98, 99, 100, 101, 102, 103, 104, 105, 106, 107, 108, 109, 110, 111, 112, 113, 114, 115, 42, 43, 116, 117, 118, 119, 120, 121, 122, 123, 124, 125, 126, 127, 128, 129, 130, 131, 132, 133, 134, 135, 136, 137, 8, 138, 53, 51, 54, 52, 139, 140, 141, 142, 143, 144, 145, 146, 147, 148, 149, 150, 151, 152, 153, 154, 155, 156, 157, 158, 159, 160, 161, 162, 163, 164, 165, 166, 167, 168, 169, 170, 171, 172, 173, 174, 175, 176, 177, 178, 179, 55, 180, 181, 182, 183, 184, 185, 186, 199, 200, 201, 202, 203, 204, 187, 188, 189, 190, 191, 192, 193, 194, 195, 196, 197, 198, 205, 206, 207, 208, 209, 210, 211, 212, 213, 214, 215, 216, 217, 218, 219, 220, 221, 222] (by decide +kernel) (by decide +kernel)
set_option maxRecDepth 20000 in
theorem gX7_judge_X7_ruleBroken : GoodIn wsX7_judge (wsV RX7 152 RX7 yX7_ruleBroken wsX7_ruleBroken) := goodIn_app (goodIn_of _ (by decide +kernel)) ggX7_judge_X7_ruleBroken
theorem dX7_judge_0 : decode cX7_judge 0 = .ok (.aload_n 0, 1) := by decide +kernel
theorem dX7_judge_1 : decode cX7_judge 1 = .ok (.iload_n 1, 1) := by decide +kernel
theorem dX7_judge_2 : decode cX7_judge 2 = .ok (.iload_n 2, 1) := by decide +kernel
theorem dX7_judge_3 : decode cX7_judge 3 = .ok (.iload_n 3, 1) := by decide +kernel
theorem dX7_judge_4 : decode cX7_judge 4 = .ok (.iload 4, 2) := by decide +kernel
theorem dX7_judge_6 : decode cX7_judge 6 = .ok (.iload 5, 2) := by decide +kernel
theorem dX7_judge_8 : decode cX7_judge 8 = .ok (.iload 6, 2) := by decide +kernel
theorem dX7_judge_10 : decode cX7_judge 10 = .ok (.iload 7, 2) := by decide +kernel
theorem dX7_judge_12 : decode cX7_judge 12 = .ok (.invokevirtual 148, 3) := by decide +kernel
theorem dX7_judge_15 : decode cX7_judge 15 = .ok (.astore 10, 2) := by decide +kernel
theorem dX7_judge_17 : decode cX7_judge 17 = .ok (.aload 10, 2) := by decide +kernel
theorem dX7_judge_19 : decode cX7_judge 19 = .ok (.ifnull 19, 3) := by decide +kernel
theorem dX7_judge_22 : decode cX7_judge 22 = .ok (.iload 8, 2) := by decide +kernel
theorem dX7_judge_24 : decode cX7_judge 24 = .ok (.invokestatic 105, 3) := by decide +kernel
theorem dX7_judge_27 : decode cX7_judge 27 = .ok (.ifCond .eq 11, 3) := by decide +kernel
theorem dX7_judge_30 : decode cX7_judge 30 = .ok (.iload 9, 2) := by decide +kernel
theorem dX7_judge_32 : decode cX7_judge 32 = .ok (.invokestatic 105, 3) := by decide +kernel
theorem dX7_judge_35 : decode cX7_judge 35 = .ok (.ifCond .ne 5, 3) := by decide +kernel
theorem dX7_judge_38 : decode cX7_judge 38 = .ok (.iconst (-1), 1) := by decide +kernel
theorem dX7_judge_39 : decode cX7_judge 39 = .ok (.ireturn, 1) := by decide +kernel
theorem dX7_judge_40 : decode cX7_judge 40 = .ok (.aload_n 0, 1) := by decide +kernel
theorem dX7_judge_41 : decode cX7_judge 41 = .ok (.aload 10, 2) := by decide +kernel
theorem dX7_judge_43 : decode cX7_judge 43 = .ok (.iload 8, 2) := by decide +kernel
theorem dX7_judge_45 : decode cX7_judge 45 = .ok (.iload 9, 2) := by decide +kernel
theorem dX7_judge_47 : decode cX7_judge 47 = .ok (.invokevirtual 152, 3) := by decide +kernel
theorem dX7_judge_50 : decode cX7_judge 50 = .ok (.ireturn, 1) := by decide +kernel
set_option maxRecDepth 20000 in
theorem ggX7_designOn_X7_ringAt : GoodIn wsX7_designOn wsX7_ringAt := goodIn_r _ [8, 9, 10, 11, 12, 13, 14, 15, 16, 17, 18, 19, 20, 21, 22, 23, 24, 25, 26, 27, 28, 29, 30, 31, 32, 33, 60, 61, 62, 63, 64, 65, 66, 67, 68, 69, 70, 71] (by decide +kernel) (by decide +kernel)
set_option maxRecDepth 20000 in
theorem gX7_designOn_X7_ringAt : GoodIn wsX7_designOn (wsV RX7 75 RX7 yX7_ringAt wsX7_ringAt) := goodIn_app (goodIn_of _ (by decide +kernel)) ggX7_designOn_X7_ringAt
set_option maxRecDepth 20000 in
theorem ggX7_designOn_X7_isPlace : GoodIn wsX7_designOn wsX7_isPlace := goodIn_r _ [36, 37, 38, 7, 39] (by decide +kernel) (by decide +kernel)
set_option maxRecDepth 20000 in
theorem gX7_designOn_X7_isPlace : GoodIn wsX7_designOn (va_wsS RX7 46 yX7_isPlace wsX7_isPlace) := goodIn_app (goodIn_of _ (by decide +kernel)) ggX7_designOn_X7_isPlace
set_option maxRecDepth 20000 in
theorem ggX7_designOn_X7_isWithin : GoodIn wsX7_designOn wsX7_isWithin := goodIn_r _ [39] (by decide +kernel) (by decide +kernel)
set_option maxRecDepth 20000 in
theorem gX7_designOn_X7_isWithin : GoodIn wsX7_designOn (va_wsS RX7 86 yX7_isWithin wsX7_isWithin) := goodIn_app (goodIn_of _ (by decide +kernel)) ggX7_designOn_X7_isWithin
set_option maxRecDepth 20000 in
theorem ggX7_designOn_X1_init : GoodIn wsX7_designOn wsX1_init := goodIn_r _ [42, 43, 44, 45, 46, 47, 48, 49, 50, 51, 52, 53, 54, 55, 56, 57, 58, 59] (by decide +kernel) (by decide +kernel)
set_option maxRecDepth 20000 in
theorem gX7_designOn_X1_init : GoodIn wsX7_designOn (wsX1_init) := ggX7_designOn_X1_init
theorem dX7_designOn_0 : decode cX7_designOn 0 = .ok (.aload_n 0, 1) := by decide +kernel
theorem dX7_designOn_1 : decode cX7_designOn 1 = .ok (.iload_n 1, 1) := by decide +kernel
theorem dX7_designOn_2 : decode cX7_designOn 2 = .ok (.invokevirtual 75, 3) := by decide +kernel
theorem dX7_designOn_5 : decode cX7_designOn 5 = .ok (.ifnull 71, 3) := by decide +kernel
theorem dX7_designOn_8 : decode cX7_designOn 8 = .ok (.iload_n 2, 1) := by decide +kernel
theorem dX7_designOn_9 : decode cX7_designOn 9 = .ok (.invokestatic 46, 3) := by decide +kernel
theorem dX7_designOn_12 : decode cX7_designOn 12 = .ok (.ifCond .eq 64, 3) := by decide +kernel
theorem dX7_designOn_15 : decode cX7_designOn 15 = .ok (.iload 4, 2) := by decide +kernel
theorem dX7_designOn_17 : decode cX7_designOn 17 = .ok (.invokestatic 46, 3) := by decide +kernel
theorem dX7_designOn_20 : decode cX7_designOn 20 = .ok (.ifCond .eq 56, 3) := by decide +kernel
theorem dX7_designOn_23 : decode cX7_designOn 23 = .ok (.iload_n 2, 1) := by decide +kernel
theorem dX7_designOn_24 : decode cX7_designOn 24 = .ok (.iload 4, 2) := by decide +kernel
theorem dX7_designOn_26 : decode cX7_designOn 26 = .ok (.if_icmp .ge 50, 3) := by decide +kernel
theorem dX7_designOn_29 : decode cX7_designOn 29 = .ok (.iload_n 3, 1) := by decide +kernel
theorem dX7_designOn_30 : decode cX7_designOn 30 = .ok (.invokestatic 46, 3) := by decide +kernel
theorem dX7_designOn_33 : decode cX7_designOn 33 = .ok (.ifCond .eq 43, 3) := by decide +kernel
theorem dX7_designOn_36 : decode cX7_designOn 36 = .ok (.iload 5, 2) := by decide +kernel
theorem dX7_designOn_38 : decode cX7_designOn 38 = .ok (.invokestatic 46, 3) := by decide +kernel
theorem dX7_designOn_41 : decode cX7_designOn 41 = .ok (.ifCond .eq 35, 3) := by decide +kernel
theorem dX7_designOn_44 : decode cX7_designOn 44 = .ok (.iload_n 3, 1) := by decide +kernel
theorem dX7_designOn_45 : decode cX7_designOn 45 = .ok (.iload 5, 2) := by decide +kernel
theorem dX7_designOn_47 : decode cX7_designOn 47 = .ok (.if_icmp .ge 29, 3) := by decide +kernel
theorem dX7_designOn_50 : decode cX7_designOn 50 = .ok (.iload 6, 2) := by decide +kernel
theorem dX7_designOn_52 : decode cX7_designOn 52 = .ok (.iconst 1, 1) := by decide +kernel
theorem dX7_designOn_53 : decode cX7_designOn 53 = .ok (.bipush 40, 2) := by decide +kernel
theorem dX7_designOn_55 : decode cX7_designOn 55 = .ok (.invokestatic 86, 3) := by decide +kernel
theorem dX7_designOn_58 : decode cX7_designOn 58 = .ok (.ifCond .eq 18, 3) := by decide +kernel
theorem dX7_designOn_61 : decode cX7_designOn 61 = .ok (.iload 7, 2) := by decide +kernel
theorem dX7_designOn_63 : decode cX7_designOn 63 = .ok (.iconst 0, 1) := by decide +kernel
theorem dX7_designOn_64 : decode cX7_designOn 64 = .ok (.bipush 7, 2) := by decide +kernel
theorem dX7_designOn_66 : decode cX7_designOn 66 = .ok (.invokestatic 86, 3) := by decide +kernel
theorem dX7_designOn_69 : decode cX7_designOn 69 = .ok (.ifCond .eq 7, 3) := by decide +kernel
theorem dX7_designOn_72 : decode cX7_designOn 72 = .ok (.iconst 1, 1) := by decide +kernel
theorem dX7_designOn_73 : decode cX7_designOn 73 = .ok (.goto 4, 3) := by decide +kernel
theorem dX7_designOn_76 : decode cX7_designOn 76 = .ok (.iconst 0, 1) := by decide +kernel
theorem dX7_designOn_77 : decode cX7_designOn 77 = .ok (.istore 8, 2) := by decide +kernel
theorem dX7_designOn_79 : decode cX7_designOn 79 = .ok (.iload 8, 2) := by decide +kernel
theorem dX7_designOn_81 : decode cX7_designOn 81 = .ok (.ifCond .eq 24, 3) := by decide +kernel
theorem dX7_designOn_84 : decode cX7_designOn 84 = .ok (.new 156, 3) := by decide +kernel
theorem dX7_designOn_87 : decode cX7_designOn 87 = .ok (.dup, 1) := by decide +kernel
theorem dX7_designOn_88 : decode cX7_designOn 88 = .ok (.iload_n 1, 1) := by decide +kernel
theorem dX7_designOn_89 : decode cX7_designOn 89 = .ok (.iload_n 2, 1) := by decide +kernel
theorem dX7_designOn_90 : decode cX7_designOn 90 = .ok (.iload_n 3, 1) := by decide +kernel
theorem dX7_designOn_91 : decode cX7_designOn 91 = .ok (.iload 4, 2) := by decide +kernel
theorem dX7_designOn_93 : decode cX7_designOn 93 = .ok (.iload 5, 2) := by decide +kernel
theorem dX7_designOn_95 : decode cX7_designOn 95 = .ok (.iload 6, 2) := by decide +kernel
theorem dX7_designOn_97 : decode cX7_designOn 97 = .ok (.iload 7, 2) := by decide +kernel
theorem dX7_designOn_99 : decode cX7_designOn 99 = .ok (.invokespecial 158, 3) := by decide +kernel
theorem dX7_designOn_102 : decode cX7_designOn 102 = .ok (.goto 4, 3) := by decide +kernel
theorem dX7_designOn_105 : decode cX7_designOn 105 = .ok (.aconst_null, 1) := by decide +kernel
theorem dX7_designOn_106 : decode cX7_designOn 106 = .ok (.areturn, 1) := by decide +kernel
set_option maxRecDepth 20000 in
theorem ggX7_ruleBroken_X7_ringAt : GoodIn wsX7_ruleBroken wsX7_ringAt := goodIn_r _ [5, 6, 7, 8, 9, 10, 11, 12, 13, 14, 15, 16, 17, 18, 19, 20, 21, 22, 23, 24, 25, 26, 27, 28, 29, 30, 168, 169, 170, 171, 172, 173, 174, 175, 176, 177, 178, 179] (by decide +kernel) (by decide +kernel)
set_option maxRecDepth 20000 in
theorem gX7_ruleBroken_X7_ringAt : GoodIn wsX7_ruleBroken (wsV RX7 75 RX7 yX7_ringAt wsX7_ringAt) := goodIn_app (goodIn_of _ (by decide +kernel)) ggX7_ruleBroken_X7_ringAt
set_option maxRecDepth 20000 in
theorem ggX7_ruleBroken_X5_surrounds : GoodIn wsX7_ruleBroken wsX5_surrounds := goodIn_r _ [35, 36, 37, 38, 34, 39, 40, 41, 42, 43, 44, 45, 46, 47, 48, 49, 50, 155, 156, 157, 158, 159, 160, 161, 180, 181, 182] (by decide +kernel) (by decide +kernel)
set_option maxRecDepth 20000 in
theorem gX7_ruleBroken_X5_surrounds : GoodIn wsX7_ruleBroken (wsV RX7 164 RX5 yX5_surrounds wsX5_surrounds) := goodIn_app (goodIn_of _ (by decide +kernel)) ggX7_ruleBroken_X5_surrounds
set_option maxRecDepth 20000 in
theorem ggX7_ruleBroken_X7_zoneInForce : GoodIn wsX7_ruleBroken wsX7_zoneInForce := goodIn_r _ [54, 55, 56, 57, 4, 58, 59, 60, 8, 9, 10, 11, 12, 13, 14, 15, 16, 17, 18, 19, 20, 21, 22, 23, 24, 25, 26, 27, 28, 29, 30, 61, 62, 63, 64, 65, 66, 67, 68, 69, 70, 71, 72, 73, 74, 75, 76, 77, 78, 79, 80, 81, 82, 83, 84, 85, 86, 87, 88, 168, 169, 170, 171, 172, 173, 174, 175, 176, 183, 184, 185, 177, 178, 179, 162, 163, 164, 165, 166, 167] (by decide +kernel) (by decide +kernel)
set_option maxRecDepth 20000 in
theorem gX7_ruleBroken_X7_zoneInForce : GoodIn wsX7_ruleBroken (wsV RX7 168 RX7 yX7_zoneInForce wsX7_zoneInForce) := goodIn_app (goodIn_of _ (by decide +kernel)) ggX7_ruleBroken_X7_zoneInForce
set_option maxRecDepth 20000 in
theorem ggX7_ruleBroken_X6_allowsUse : GoodIn wsX7_ruleBroken wsX6_allowsUse := goodIn_r _ [92, 93, 80, 81, 77, 82, 83, 4, 84, 162, 163, 164, 165, 166, 167] (by decide +kernel) (by decide +kernel)
set_option maxRecDepth 20000 in
theorem gX7_ruleBroken_X6_allowsUse : GoodIn wsX7_ruleBroken (wsV RX7 175 RX6 yX6_allowsUse wsX6_allowsUse) := goodIn_app (goodIn_of _ (by decide +kernel)) ggX7_ruleBroken_X6_allowsUse
set_option maxRecDepth 20000 in
theorem ggX7_ruleBroken_X5_twiceArea : GoodIn wsX7_ruleBroken wsX5_twiceArea := goodIn_r _ [97, 40, 45, 46, 47, 48, 49, 34, 50, 180, 181, 182] (by decide +kernel) (by decide +kernel)
set_option maxRecDepth 20000 in
theorem gX7_ruleBroken_X5_twiceArea : GoodIn wsX7_ruleBroken (wsV RX7 79 RX5 yX5_twiceArea wsX5_twiceArea) := goodIn_app (goodIn_of _ (by decide +kernel)) ggX7_ruleBroken_X5_twiceArea
set_option maxRecDepth 20000 in
theorem ggX7_ruleBroken_X7_coversTooMuch : GoodIn wsX7_ruleBroken wsX7_coversTooMuch := goodIn_r _ [101, 102, 103, 104, 105, 106, 107, 108, 109, 110, 111, 112, 8, 9, 10, 11, 12, 13, 14, 15, 16, 17, 18, 19, 20, 21, 22, 23, 24, 25, 26, 27, 28, 29, 30, 113, 114, 115, 116, 117, 118, 119, 120, 121, 168, 169, 170, 171, 172, 173, 174, 175, 176, 186, 187, 188, 189, 190, 191, 192, 193, 194, 195, 196, 197, 155, 156, 157, 158, 159, 160, 161, 177, 178, 179] (by decide +kernel) (by decide +kernel)
set_option maxRecDepth 20000 in
theorem gX7_ruleBroken_X7_coversTooMuch : GoodIn wsX7_ruleBroken (wsV RX7 185 RX7 yX7_coversTooMuch wsX7_coversTooMuch) := goodIn_app (goodIn_of _ (by decide +kernel)) ggX7_ruleBroken_X7_coversTooMuch
set_option maxRecDepth 20000 in
theorem ggX7_ruleBroken_X5_hasSideNearerThan : GoodIn wsX7_ruleBroken wsX5_hasSideNearerThan := goodIn_r _ [125, 126, 127, 128, 34, 129, 40, 130, 131, 132, 133, 45, 46, 47, 48, 49, 50, 134, 135, 136, 137, 155, 156, 157, 158, 159, 160, 161, 180, 181, 182] (by decide +kernel) (by decide +kernel)
set_option maxRecDepth 20000 in
theorem gX7_ruleBroken_X5_hasSideNearerThan : GoodIn wsX7_ruleBroken (wsV RX7 192 RX5 yX5_hasSideNearerThan wsX5_hasSideNearerThan) := goodIn_app (goodIn_of _ (by decide +kernel)) ggX7_ruleBroken_X5_hasSideNearerThan
set_option maxRecDepth 20000 in
theorem ggX7_ruleBroken_X7_meetsStanding : GoodIn wsX7_ruleBroken wsX7_meetsStanding := goodIn_r _ [141, 102, 103, 8, 9, 10, 11, 12, 13, 14, 15, 16, 17, 18, 19, 20, 21, 22, 23, 24, 25, 26, 27, 28, 29, 30, 113, 114, 115, 116, 117, 118, 119, 120, 121, 142, 143, 144, 107, 145, 110, 109, 112, 111, 168, 169, 170, 171, 172, 173, 174, 175, 176, 186, 187, 188, 189, 190, 191, 192, 193, 194, 195, 196, 197, 177, 178, 179, 155, 156, 157, 158, 159, 160, 161] (by decide +kernel) (by decide +kernel)
set_option maxRecDepth 20000 in
theorem gX7_ruleBroken_X7_meetsStanding : GoodIn wsX7_ruleBroken (wsV RX7 196 RX7 yX7_meetsStanding wsX7_meetsStanding) := goodIn_app (goodIn_of _ (by decide +kernel)) ggX7_ruleBroken_X7_meetsStanding
set_option maxRecDepth 20000 in
theorem ggX7_ruleBroken_X7_shadesStanding : GoodIn wsX7_ruleBroken wsX7_shadesStanding := goodIn_r _ [149, 102, 103, 8, 9, 10, 11, 12, 13, 14, 15, 16, 17, 18, 19, 20, 21, 22, 23, 24, 25, 26, 27, 28, 29, 30, 113, 114, 115, 116, 117, 118, 119, 120, 121, 150, 151, 152, 107, 153, 154, 110, 109, 111, 112, 168, 169, 170, 171, 172, 173, 174, 175, 176, 186, 187, 188, 189, 190, 191, 192, 193, 194, 195, 196, 197, 155, 156, 157, 158, 159, 160, 161, 177, 178, 179] (by decide +kernel) (by decide +kernel)
set_option maxRecDepth 20000 in
theorem gX7_ruleBroken_X7_shadesStanding : GoodIn wsX7_ruleBroken (wsV RX7 203 RX7 yX7_shadesStanding wsX7_shadesStanding) := goodIn_app (goodIn_of _ (by decide +kernel)) ggX7_ruleBroken_X7_shadesStanding
theorem dX7_ruleBroken_0 : decode cX7_ruleBroken 0 = .ok (.aload_n 0, 1) := by decide +kernel
theorem dX7_ruleBroken_1 : decode cX7_ruleBroken 1 = .ok (.aload_n 1, 1) := by decide +kernel
theorem dX7_ruleBroken_2 : decode cX7_ruleBroken 2 = .ok (.getfield 161, 3) := by decide +kernel
theorem dX7_ruleBroken_5 : decode cX7_ruleBroken 5 = .ok (.invokevirtual 75, 3) := by decide +kernel
theorem dX7_ruleBroken_8 : decode cX7_ruleBroken 8 = .ok (.astore 4, 2) := by decide +kernel
theorem dX7_ruleBroken_10 : decode cX7_ruleBroken 10 = .ok (.aload 4, 2) := by decide +kernel
theorem dX7_ruleBroken_12 : decode cX7_ruleBroken 12 = .ok (.ifnull 12, 3) := by decide +kernel
theorem dX7_ruleBroken_15 : decode cX7_ruleBroken 15 = .ok (.aload 4, 2) := by decide +kernel
theorem dX7_ruleBroken_17 : decode cX7_ruleBroken 17 = .ok (.aload_n 1, 1) := by decide +kernel
theorem dX7_ruleBroken_18 : decode cX7_ruleBroken 18 = .ok (.invokevirtual 164, 3) := by decide +kernel
theorem dX7_ruleBroken_21 : decode cX7_ruleBroken 21 = .ok (.ifCond .ne 5, 3) := by decide +kernel
theorem dX7_ruleBroken_24 : decode cX7_ruleBroken 24 = .ok (.iconst 1, 1) := by decide +kernel
theorem dX7_ruleBroken_25 : decode cX7_ruleBroken 25 = .ok (.ireturn, 1) := by decide +kernel
theorem dX7_ruleBroken_26 : decode cX7_ruleBroken 26 = .ok (.aload_n 0, 1) := by decide +kernel
theorem dX7_ruleBroken_27 : decode cX7_ruleBroken 27 = .ok (.aload_n 1, 1) := by decide +kernel
theorem dX7_ruleBroken_28 : decode cX7_ruleBroken 28 = .ok (.getfield 161, 3) := by decide +kernel
theorem dX7_ruleBroken_31 : decode cX7_ruleBroken 31 = .ok (.iload_n 2, 1) := by decide +kernel
theorem dX7_ruleBroken_32 : decode cX7_ruleBroken 32 = .ok (.iload_n 3, 1) := by decide +kernel
theorem dX7_ruleBroken_33 : decode cX7_ruleBroken 33 = .ok (.invokevirtual 168, 3) := by decide +kernel
theorem dX7_ruleBroken_36 : decode cX7_ruleBroken 36 = .ok (.astore 5, 2) := by decide +kernel
theorem dX7_ruleBroken_38 : decode cX7_ruleBroken 38 = .ok (.aload 5, 2) := by decide +kernel
theorem dX7_ruleBroken_40 : decode cX7_ruleBroken 40 = .ok (.ifnonnull 5, 3) := by decide +kernel
theorem dX7_ruleBroken_43 : decode cX7_ruleBroken 43 = .ok (.iconst 2, 1) := by decide +kernel
theorem dX7_ruleBroken_44 : decode cX7_ruleBroken 44 = .ok (.ireturn, 1) := by decide +kernel
theorem dX7_ruleBroken_45 : decode cX7_ruleBroken 45 = .ok (.aload 5, 2) := by decide +kernel
theorem dX7_ruleBroken_47 : decode cX7_ruleBroken 47 = .ok (.aload_n 1, 1) := by decide +kernel
theorem dX7_ruleBroken_48 : decode cX7_ruleBroken 48 = .ok (.getfield 172, 3) := by decide +kernel
theorem dX7_ruleBroken_51 : decode cX7_ruleBroken 51 = .ok (.invokevirtual 175, 3) := by decide +kernel
theorem dX7_ruleBroken_54 : decode cX7_ruleBroken 54 = .ok (.ifCond .ne 5, 3) := by decide +kernel
theorem dX7_ruleBroken_57 : decode cX7_ruleBroken 57 = .ok (.iconst 3, 1) := by decide +kernel
theorem dX7_ruleBroken_58 : decode cX7_ruleBroken 58 = .ok (.ireturn, 1) := by decide +kernel
theorem dX7_ruleBroken_59 : decode cX7_ruleBroken 59 = .ok (.aload 5, 2) := by decide +kernel
theorem dX7_ruleBroken_61 : decode cX7_ruleBroken 61 = .ok (.getfield 178, 3) := by decide +kernel
theorem dX7_ruleBroken_64 : decode cX7_ruleBroken 64 = .ok (.iconst (-1), 1) := by decide +kernel
theorem dX7_ruleBroken_65 : decode cX7_ruleBroken 65 = .ok (.if_icmp .eq 17, 3) := by decide +kernel
theorem dX7_ruleBroken_68 : decode cX7_ruleBroken 68 = .ok (.aload_n 1, 1) := by decide +kernel
theorem dX7_ruleBroken_69 : decode cX7_ruleBroken 69 = .ok (.getfield 181, 3) := by decide +kernel
theorem dX7_ruleBroken_72 : decode cX7_ruleBroken 72 = .ok (.aload 5, 2) := by decide +kernel
theorem dX7_ruleBroken_74 : decode cX7_ruleBroken 74 = .ok (.getfield 178, 3) := by decide +kernel
theorem dX7_ruleBroken_77 : decode cX7_ruleBroken 77 = .ok (.if_icmp .le 5, 3) := by decide +kernel
theorem dX7_ruleBroken_80 : decode cX7_ruleBroken 80 = .ok (.iconst 4, 1) := by decide +kernel
theorem dX7_ruleBroken_81 : decode cX7_ruleBroken 81 = .ok (.ireturn, 1) := by decide +kernel
theorem dX7_ruleBroken_82 : decode cX7_ruleBroken 82 = .ok (.aload 5, 2) := by decide +kernel
theorem dX7_ruleBroken_84 : decode cX7_ruleBroken 84 = .ok (.getfield 182, 3) := by decide +kernel
theorem dX7_ruleBroken_87 : decode cX7_ruleBroken 87 = .ok (.iconst (-1), 1) := by decide +kernel
theorem dX7_ruleBroken_88 : decode cX7_ruleBroken 88 = .ok (.if_icmp .eq 26, 3) := by decide +kernel
theorem dX7_ruleBroken_91 : decode cX7_ruleBroken 91 = .ok (.aload_n 0, 1) := by decide +kernel
theorem dX7_ruleBroken_92 : decode cX7_ruleBroken 92 = .ok (.aload_n 1, 1) := by decide +kernel
theorem dX7_ruleBroken_93 : decode cX7_ruleBroken 93 = .ok (.aload 5, 2) := by decide +kernel
theorem dX7_ruleBroken_95 : decode cX7_ruleBroken 95 = .ok (.getfield 182, 3) := by decide +kernel
theorem dX7_ruleBroken_98 : decode cX7_ruleBroken 98 = .ok (.aload 4, 2) := by decide +kernel
theorem dX7_ruleBroken_100 : decode cX7_ruleBroken 100 = .ok (.invokevirtual 79, 3) := by decide +kernel
theorem dX7_ruleBroken_103 : decode cX7_ruleBroken 103 = .ok (.imul, 1) := by decide +kernel
theorem dX7_ruleBroken_104 : decode cX7_ruleBroken 104 = .ok (.iload_n 2, 1) := by decide +kernel
theorem dX7_ruleBroken_105 : decode cX7_ruleBroken 105 = .ok (.iload_n 3, 1) := by decide +kernel
theorem dX7_ruleBroken_106 : decode cX7_ruleBroken 106 = .ok (.invokevirtual 185, 3) := by decide +kernel
theorem dX7_ruleBroken_109 : decode cX7_ruleBroken 109 = .ok (.ifCond .eq 5, 3) := by decide +kernel
theorem dX7_ruleBroken_112 : decode cX7_ruleBroken 112 = .ok (.iconst 5, 1) := by decide +kernel
theorem dX7_ruleBroken_113 : decode cX7_ruleBroken 113 = .ok (.ireturn, 1) := by decide +kernel
theorem dX7_ruleBroken_114 : decode cX7_ruleBroken 114 = .ok (.aload 5, 2) := by decide +kernel
theorem dX7_ruleBroken_116 : decode cX7_ruleBroken 116 = .ok (.getfield 189, 3) := by decide +kernel
theorem dX7_ruleBroken_119 : decode cX7_ruleBroken 119 = .ok (.iconst (-1), 1) := by decide +kernel
theorem dX7_ruleBroken_120 : decode cX7_ruleBroken 120 = .ok (.if_icmp .eq 20, 3) := by decide +kernel
theorem dX7_ruleBroken_123 : decode cX7_ruleBroken 123 = .ok (.aload 4, 2) := by decide +kernel
theorem dX7_ruleBroken_125 : decode cX7_ruleBroken 125 = .ok (.aload 5, 2) := by decide +kernel
theorem dX7_ruleBroken_127 : decode cX7_ruleBroken 127 = .ok (.getfield 189, 3) := by decide +kernel
theorem dX7_ruleBroken_130 : decode cX7_ruleBroken 130 = .ok (.aload_n 1, 1) := by decide +kernel
theorem dX7_ruleBroken_131 : decode cX7_ruleBroken 131 = .ok (.invokevirtual 192, 3) := by decide +kernel
theorem dX7_ruleBroken_134 : decode cX7_ruleBroken 134 = .ok (.ifCond .eq 6, 3) := by decide +kernel
theorem dX7_ruleBroken_137 : decode cX7_ruleBroken 137 = .ok (.bipush 6, 2) := by decide +kernel
theorem dX7_ruleBroken_139 : decode cX7_ruleBroken 139 = .ok (.ireturn, 1) := by decide +kernel
theorem dX7_ruleBroken_140 : decode cX7_ruleBroken 140 = .ok (.aload_n 0, 1) := by decide +kernel
theorem dX7_ruleBroken_141 : decode cX7_ruleBroken 141 = .ok (.aload_n 1, 1) := by decide +kernel
theorem dX7_ruleBroken_142 : decode cX7_ruleBroken 142 = .ok (.iload_n 2, 1) := by decide +kernel
theorem dX7_ruleBroken_143 : decode cX7_ruleBroken 143 = .ok (.iload_n 3, 1) := by decide +kernel
theorem dX7_ruleBroken_144 : decode cX7_ruleBroken 144 = .ok (.invokevirtual 196, 3) := by decide +kernel
theorem dX7_ruleBroken_147 : decode cX7_ruleBroken 147 = .ok (.ifCond .eq 6, 3) := by decide +kernel
theorem dX7_ruleBroken_150 : decode cX7_ruleBroken 150 = .ok (.bipush 7, 2) := by decide +kernel
theorem dX7_ruleBroken_152 : decode cX7_ruleBroken 152 = .ok (.ireturn, 1) := by decide +kernel
theorem dX7_ruleBroken_153 : decode cX7_ruleBroken 153 = .ok (.aload 5, 2) := by decide +kernel
theorem dX7_ruleBroken_155 : decode cX7_ruleBroken 155 = .ok (.getfield 200, 3) := by decide +kernel
theorem dX7_ruleBroken_158 : decode cX7_ruleBroken 158 = .ok (.iconst (-1), 1) := by decide +kernel
theorem dX7_ruleBroken_159 : decode cX7_ruleBroken 159 = .ok (.if_icmp .eq 21, 3) := by decide +kernel
theorem dX7_ruleBroken_162 : decode cX7_ruleBroken 162 = .ok (.aload_n 0, 1) := by decide +kernel
theorem dX7_ruleBroken_163 : decode cX7_ruleBroken 163 = .ok (.aload_n 1, 1) := by decide +kernel
theorem dX7_ruleBroken_164 : decode cX7_ruleBroken 164 = .ok (.aload 5, 2) := by decide +kernel
theorem dX7_ruleBroken_166 : decode cX7_ruleBroken 166 = .ok (.getfield 200, 3) := by decide +kernel
theorem dX7_ruleBroken_169 : decode cX7_ruleBroken 169 = .ok (.iload_n 2, 1) := by decide +kernel
theorem dX7_ruleBroken_170 : decode cX7_ruleBroken 170 = .ok (.iload_n 3, 1) := by decide +kernel
theorem dX7_ruleBroken_171 : decode cX7_ruleBroken 171 = .ok (.invokevirtual 203, 3) := by decide +kernel
theorem dX7_ruleBroken_174 : decode cX7_ruleBroken 174 = .ok (.ifCond .eq 6, 3) := by decide +kernel
theorem dX7_ruleBroken_177 : decode cX7_ruleBroken 177 = .ok (.bipush 8, 2) := by decide +kernel
theorem dX7_ruleBroken_179 : decode cX7_ruleBroken 179 = .ok (.ireturn, 1) := by decide +kernel
theorem dX7_ruleBroken_180 : decode cX7_ruleBroken 180 = .ok (.iconst 0, 1) := by decide +kernel
theorem dX7_ruleBroken_181 : decode cX7_ruleBroken 181 = .ok (.ireturn, 1) := by decide +kernel
set_option maxRecDepth 20000 in
theorem ggX7_coversTooMuch_X1_area : GoodIn wsX7_coversTooMuch wsX1_area := goodIn_r _ [7, 8, 9, 10, 11, 65, 66, 67, 68, 69, 70, 71] (by decide +kernel) (by decide +kernel)
set_option maxRecDepth 20000 in
theorem gX7_coversTooMuch_X1_area : GoodIn wsX7_coversTooMuch (wsV RX7 206 RX1 yX1_area wsX1_area) := goodIn_app (goodIn_of _ (by decide +kernel)) ggX7_coversTooMuch_X1_area
set_option maxRecDepth 20000 in
theorem ggX7_coversTooMuch_Jx4a65c_size_8abf5 : GoodIn wsX7_coversTooMuch wsJx4a65c_size_8abf5 := goodIn_r _ [16, 17, 72, 73, 74] (by decide +kernel) (by decide +kernel)
set_option maxRecDepth 20000 in
theorem gX7_coversTooMuch_Jx4a65c_size_8abf5 : GoodIn wsX7_coversTooMuch (wsV RX7 57 RJx4a65c yJx4a65c_size_8abf5 wsJx4a65c_size_8abf5) := goodIn_app (goodIn_of _ (by decide +kernel)) ggX7_coversTooMuch_Jx4a65c_size_8abf5
set_option maxRecDepth 20000 in
theorem ggX7_coversTooMuch_Jx4a65c_get_915e3 : GoodIn wsX7_coversTooMuch wsJx4a65c_get_915e3 := goodIn_r _ [21, 17, 22, 23, 24, 25, 26, 27, 28, 29, 30, 31, 32, 15, 33, 34, 72, 73, 74] (by decide +kernel) (by decide +kernel)
set_option maxRecDepth 20000 in
theorem gX7_coversTooMuch_Jx4a65c_get_915e3 : GoodIn wsX7_coversTooMuch (wsV RX7 94 RJx4a65c yJx4a65c_get_915e3 wsJx4a65c_get_915e3) := goodIn_app (goodIn_of _ (by decide +kernel)) ggX7_coversTooMuch_Jx4a65c_get_915e3
set_option maxRecDepth 20000 in
theorem ggX7_coversTooMuch_X0_stoodOn : GoodIn wsX7_coversTooMuch wsX0_stoodOn := goodIn_r _ [39, 40, 41, 42, 43, 53, 54, 55, 56, 57, 58, 59, 60, 61, 62, 63, 64] (by decide +kernel) (by decide +kernel)
set_option maxRecDepth 20000 in
theorem gX7_coversTooMuch_X0_stoodOn : GoodIn wsX7_coversTooMuch (wsV RX7 215 RX0 yX0_stoodOn wsX0_stoodOn) := goodIn_app (goodIn_of _ (by decide +kernel)) ggX7_coversTooMuch_X0_stoodOn
theorem dX7_coversTooMuch_0 : decode cX7_coversTooMuch 0 = .ok (.aload_n 1, 1) := by decide +kernel
theorem dX7_coversTooMuch_1 : decode cX7_coversTooMuch 1 = .ok (.invokevirtual 206, 3) := by decide +kernel
theorem dX7_coversTooMuch_4 : decode cX7_coversTooMuch 4 = .ok (.istore 5, 2) := by decide +kernel
theorem dX7_coversTooMuch_6 : decode cX7_coversTooMuch 6 = .ok (.iconst 0, 1) := by decide +kernel
theorem dX7_coversTooMuch_7 : decode cX7_coversTooMuch 7 = .ok (.istore 6, 2) := by decide +kernel
theorem dX7_coversTooMuch_9 : decode cX7_coversTooMuch 9 = .ok (.iload 6, 2) := by decide +kernel
theorem dX7_coversTooMuch_11 : decode cX7_coversTooMuch 11 = .ok (.aload_n 0, 1) := by decide +kernel
theorem dX7_coversTooMuch_12 : decode cX7_coversTooMuch 12 = .ok (.getfield 19, 3) := by decide +kernel
theorem dX7_coversTooMuch_15 : decode cX7_coversTooMuch 15 = .ok (.invokevirtual 57, 3) := by decide +kernel
theorem dX7_coversTooMuch_18 : decode cX7_coversTooMuch 18 = .ok (.if_icmp .ge 62, 3) := by decide +kernel
theorem dX7_coversTooMuch_21 : decode cX7_coversTooMuch 21 = .ok (.aload_n 0, 1) := by decide +kernel
theorem dX7_coversTooMuch_22 : decode cX7_coversTooMuch 22 = .ok (.getfield 19, 3) := by decide +kernel
theorem dX7_coversTooMuch_25 : decode cX7_coversTooMuch 25 = .ok (.iload 6, 2) := by decide +kernel
theorem dX7_coversTooMuch_27 : decode cX7_coversTooMuch 27 = .ok (.invokevirtual 94, 3) := by decide +kernel
theorem dX7_coversTooMuch_30 : decode cX7_coversTooMuch 30 = .ok (.checkcast 209, 3) := by decide +kernel
theorem dX7_coversTooMuch_33 : decode cX7_coversTooMuch 33 = .ok (.astore 7, 2) := by decide +kernel
theorem dX7_coversTooMuch_35 : decode cX7_coversTooMuch 35 = .ok (.aload 7, 2) := by decide +kernel
theorem dX7_coversTooMuch_37 : decode cX7_coversTooMuch 37 = .ok (.getfield 211, 3) := by decide +kernel
theorem dX7_coversTooMuch_40 : decode cX7_coversTooMuch 40 = .ok (.getfield 161, 3) := by decide +kernel
theorem dX7_coversTooMuch_43 : decode cX7_coversTooMuch 43 = .ok (.aload_n 1, 1) := by decide +kernel
theorem dX7_coversTooMuch_44 : decode cX7_coversTooMuch 44 = .ok (.getfield 161, 3) := by decide +kernel
theorem dX7_coversTooMuch_47 : decode cX7_coversTooMuch 47 = .ok (.if_icmp .ne 27, 3) := by decide +kernel
theorem dX7_coversTooMuch_50 : decode cX7_coversTooMuch 50 = .ok (.aload 7, 2) := by decide +kernel
theorem dX7_coversTooMuch_52 : decode cX7_coversTooMuch 52 = .ok (.iload_n 3, 1) := by decide +kernel
theorem dX7_coversTooMuch_53 : decode cX7_coversTooMuch 53 = .ok (.iload 4, 2) := by decide +kernel
theorem dX7_coversTooMuch_55 : decode cX7_coversTooMuch 55 = .ok (.invokevirtual 215, 3) := by decide +kernel
theorem dX7_coversTooMuch_58 : decode cX7_coversTooMuch 58 = .ok (.ifCond .eq 16, 3) := by decide +kernel
theorem dX7_coversTooMuch_61 : decode cX7_coversTooMuch 61 = .ok (.iload 5, 2) := by decide +kernel
theorem dX7_coversTooMuch_63 : decode cX7_coversTooMuch 63 = .ok (.aload 7, 2) := by decide +kernel
theorem dX7_coversTooMuch_65 : decode cX7_coversTooMuch 65 = .ok (.getfield 211, 3) := by decide +kernel
theorem dX7_coversTooMuch_68 : decode cX7_coversTooMuch 68 = .ok (.invokevirtual 206, 3) := by decide +kernel
theorem dX7_coversTooMuch_71 : decode cX7_coversTooMuch 71 = .ok (.iadd, 1) := by decide +kernel
theorem dX7_coversTooMuch_72 : decode cX7_coversTooMuch 72 = .ok (.istore 5, 2) := by decide +kernel
theorem dX7_coversTooMuch_74 : decode cX7_coversTooMuch 74 = .ok (.iinc 6 1, 3) := by decide +kernel
theorem dX7_coversTooMuch_77 : decode cX7_coversTooMuch 77 = .ok (.goto (-68), 3) := by decide +kernel
theorem dX7_coversTooMuch_80 : decode cX7_coversTooMuch 80 = .ok (.sipush 200, 3) := by decide +kernel
theorem dX7_coversTooMuch_83 : decode cX7_coversTooMuch 83 = .ok (.iload 5, 2) := by decide +kernel
theorem dX7_coversTooMuch_85 : decode cX7_coversTooMuch 85 = .ok (.imul, 1) := by decide +kernel
theorem dX7_coversTooMuch_86 : decode cX7_coversTooMuch 86 = .ok (.iload_n 2, 1) := by decide +kernel
theorem dX7_coversTooMuch_87 : decode cX7_coversTooMuch 87 = .ok (.if_icmp .le 7, 3) := by decide +kernel
theorem dX7_coversTooMuch_90 : decode cX7_coversTooMuch 90 = .ok (.iconst 1, 1) := by decide +kernel
theorem dX7_coversTooMuch_91 : decode cX7_coversTooMuch 91 = .ok (.goto 4, 3) := by decide +kernel
theorem dX7_coversTooMuch_94 : decode cX7_coversTooMuch 94 = .ok (.iconst 0, 1) := by decide +kernel
theorem dX7_coversTooMuch_95 : decode cX7_coversTooMuch 95 = .ok (.ireturn, 1) := by decide +kernel
set_option maxRecDepth 20000 in
theorem ggX7_meetsStanding_Jx4a65c_size_8abf5 : GoodIn wsX7_meetsStanding wsJx4a65c_size_8abf5 := goodIn_r _ [7, 8, 65, 66, 67] (by decide +kernel) (by decide +kernel)
set_option maxRecDepth 20000 in
theorem gX7_meetsStanding_Jx4a65c_size_8abf5 : GoodIn wsX7_meetsStanding (wsV RX7 57 RJx4a65c yJx4a65c_size_8abf5 wsJx4a65c_size_8abf5) := goodIn_app (goodIn_of _ (by decide +kernel)) ggX7_meetsStanding_Jx4a65c_size_8abf5
set_option maxRecDepth 20000 in
theorem ggX7_meetsStanding_Jx4a65c_get_915e3 : GoodIn wsX7_meetsStanding wsJx4a65c_get_915e3 := goodIn_r _ [12, 8, 13, 14, 15, 16, 17, 18, 19, 20, 21, 22, 23, 6, 24, 25, 65, 66, 67] (by decide +kernel) (by decide +kernel)
set_option maxRecDepth 20000 in
theorem gX7_meetsStanding_Jx4a65c_get_915e3 : GoodIn wsX7_meetsStanding (wsV RX7 94 RJx4a65c yJx4a65c_get_915e3 wsJx4a65c_get_915e3) := goodIn_app (goodIn_of _ (by decide +kernel)) ggX7_meetsStanding_Jx4a65c_get_915e3
set_option maxRecDepth 20000 in
theorem ggX7_meetsStanding_X0_stoodOn : GoodIn wsX7_meetsStanding wsX0_stoodOn := goodIn_r _ [30, 31, 32, 33, 34, 53, 54, 55, 56, 57, 58, 59, 60, 61, 62, 63, 64] (by decide +kernel) (by decide +kernel)
set_option maxRecDepth 20000 in
theorem gX7_meetsStanding_X0_stoodOn : GoodIn wsX7_meetsStanding (wsV RX7 215 RX0 yX0_stoodOn wsX0_stoodOn) := goodIn_app (goodIn_of _ (by decide +kernel)) ggX7_meetsStanding_X0_stoodOn
set_option maxRecDepth 20000 in
theorem ggX7_meetsStanding_X1_meets : GoodIn wsX7_meetsStanding wsX1_meets := goodIn_r _ [39, 40, 41, 42, 43, 68, 69, 70, 71, 72, 73, 74] (by decide +kernel) (by decide +kernel)
set_option maxRecDepth 20000 in
theorem gX7_meetsStanding_X1_meets : GoodIn wsX7_meetsStanding (wsV RX7 218 RX1 yX1_meets wsX1_meets) := goodIn_app (goodIn_of _ (by decide +kernel)) ggX7_meetsStanding_X1_meets
theorem dX7_meetsStanding_0 : decode cX7_meetsStanding 0 = .ok (.iconst 0, 1) := by decide +kernel
theorem dX7_meetsStanding_1 : decode cX7_meetsStanding 1 = .ok (.istore 4, 2) := by decide +kernel
theorem dX7_meetsStanding_3 : decode cX7_meetsStanding 3 = .ok (.iload 4, 2) := by decide +kernel
theorem dX7_meetsStanding_5 : decode cX7_meetsStanding 5 = .ok (.aload_n 0, 1) := by decide +kernel
theorem dX7_meetsStanding_6 : decode cX7_meetsStanding 6 = .ok (.getfield 19, 3) := by decide +kernel
theorem dX7_meetsStanding_9 : decode cX7_meetsStanding 9 = .ok (.invokevirtual 57, 3) := by decide +kernel
theorem dX7_meetsStanding_12 : decode cX7_meetsStanding 12 = .ok (.if_icmp .ge 47, 3) := by decide +kernel
theorem dX7_meetsStanding_15 : decode cX7_meetsStanding 15 = .ok (.aload_n 0, 1) := by decide +kernel
theorem dX7_meetsStanding_16 : decode cX7_meetsStanding 16 = .ok (.getfield 19, 3) := by decide +kernel
theorem dX7_meetsStanding_19 : decode cX7_meetsStanding 19 = .ok (.iload 4, 2) := by decide +kernel
theorem dX7_meetsStanding_21 : decode cX7_meetsStanding 21 = .ok (.invokevirtual 94, 3) := by decide +kernel
theorem dX7_meetsStanding_24 : decode cX7_meetsStanding 24 = .ok (.checkcast 209, 3) := by decide +kernel
theorem dX7_meetsStanding_27 : decode cX7_meetsStanding 27 = .ok (.astore 5, 2) := by decide +kernel
theorem dX7_meetsStanding_29 : decode cX7_meetsStanding 29 = .ok (.aload 5, 2) := by decide +kernel
theorem dX7_meetsStanding_31 : decode cX7_meetsStanding 31 = .ok (.iload_n 2, 1) := by decide +kernel
theorem dX7_meetsStanding_32 : decode cX7_meetsStanding 32 = .ok (.iload_n 3, 1) := by decide +kernel
theorem dX7_meetsStanding_33 : decode cX7_meetsStanding 33 = .ok (.invokevirtual 215, 3) := by decide +kernel
theorem dX7_meetsStanding_36 : decode cX7_meetsStanding 36 = .ok (.ifCond .eq 17, 3) := by decide +kernel
theorem dX7_meetsStanding_39 : decode cX7_meetsStanding 39 = .ok (.aload_n 1, 1) := by decide +kernel
theorem dX7_meetsStanding_40 : decode cX7_meetsStanding 40 = .ok (.aload 5, 2) := by decide +kernel
theorem dX7_meetsStanding_42 : decode cX7_meetsStanding 42 = .ok (.getfield 211, 3) := by decide +kernel
theorem dX7_meetsStanding_45 : decode cX7_meetsStanding 45 = .ok (.invokevirtual 218, 3) := by decide +kernel
theorem dX7_meetsStanding_48 : decode cX7_meetsStanding 48 = .ok (.ifCond .eq 5, 3) := by decide +kernel
theorem dX7_meetsStanding_51 : decode cX7_meetsStanding 51 = .ok (.iconst 1, 1) := by decide +kernel
theorem dX7_meetsStanding_52 : decode cX7_meetsStanding 52 = .ok (.ireturn, 1) := by decide +kernel
theorem dX7_meetsStanding_53 : decode cX7_meetsStanding 53 = .ok (.iinc 4 1, 3) := by decide +kernel
theorem dX7_meetsStanding_56 : decode cX7_meetsStanding 56 = .ok (.goto (-53), 3) := by decide +kernel
theorem dX7_meetsStanding_59 : decode cX7_meetsStanding 59 = .ok (.iconst 0, 1) := by decide +kernel
theorem dX7_meetsStanding_60 : decode cX7_meetsStanding 60 = .ok (.ireturn, 1) := by decide +kernel
set_option maxRecDepth 20000 in
theorem ggX7_shadesStanding_Jx4a65c_size_8abf5 : GoodIn wsX7_shadesStanding wsJx4a65c_size_8abf5 := goodIn_r _ [7, 8, 73, 74, 75] (by decide +kernel) (by decide +kernel)
set_option maxRecDepth 20000 in
theorem gX7_shadesStanding_Jx4a65c_size_8abf5 : GoodIn wsX7_shadesStanding (wsV RX7 57 RJx4a65c yJx4a65c_size_8abf5 wsJx4a65c_size_8abf5) := goodIn_app (goodIn_of _ (by decide +kernel)) ggX7_shadesStanding_Jx4a65c_size_8abf5
set_option maxRecDepth 20000 in
theorem ggX7_shadesStanding_Jx4a65c_get_915e3 : GoodIn wsX7_shadesStanding wsJx4a65c_get_915e3 := goodIn_r _ [12, 8, 13, 14, 15, 16, 17, 18, 19, 20, 21, 22, 23, 6, 24, 25, 73, 74, 75] (by decide +kernel) (by decide +kernel)
set_option maxRecDepth 20000 in
theorem gX7_shadesStanding_Jx4a65c_get_915e3 : GoodIn wsX7_shadesStanding (wsV RX7 94 RJx4a65c yJx4a65c_get_915e3 wsJx4a65c_get_915e3) := goodIn_app (goodIn_of _ (by decide +kernel)) ggX7_shadesStanding_Jx4a65c_get_915e3
set_option maxRecDepth 20000 in
theorem ggX7_shadesStanding_X0_stoodOn : GoodIn wsX7_shadesStanding wsX0_stoodOn := goodIn_r _ [30, 31, 32, 33, 34, 54, 55, 56, 57, 58, 59, 60, 61, 62, 63, 64, 65] (by decide +kernel) (by decide +kernel)
set_option maxRecDepth 20000 in
theorem gX7_shadesStanding_X0_stoodOn : GoodIn wsX7_shadesStanding (wsV RX7 215 RX0 yX0_stoodOn wsX0_stoodOn) := goodIn_app (goodIn_of _ (by decide +kernel)) ggX7_shadesStanding_X0_stoodOn
set_option maxRecDepth 20000 in
theorem ggX7_shadesStanding_X1_shades : GoodIn wsX7_shadesStanding wsX1_shades := goodIn_r _ [39, 40, 41, 42, 43, 44, 66, 67, 68, 69, 70, 71, 72] (by decide +kernel) (by decide +kernel)
set_option maxRecDepth 20000 in
theorem gX7_shadesStanding_X1_shades : GoodIn wsX7_shadesStanding (wsV RX7 221 RX1 yX1_shades wsX1_shades) := goodIn_app (goodIn_of _ (by decide +kernel)) ggX7_shadesStanding_X1_shades
theorem dX7_shadesStanding_0 : decode cX7_shadesStanding 0 = .ok (.iconst 0, 1) := by decide +kernel
theorem dX7_shadesStanding_1 : decode cX7_shadesStanding 1 = .ok (.istore 5, 2) := by decide +kernel
theorem dX7_shadesStanding_3 : decode cX7_shadesStanding 3 = .ok (.iload 5, 2) := by decide +kernel
theorem dX7_shadesStanding_5 : decode cX7_shadesStanding 5 = .ok (.aload_n 0, 1) := by decide +kernel
theorem dX7_shadesStanding_6 : decode cX7_shadesStanding 6 = .ok (.getfield 19, 3) := by decide +kernel
theorem dX7_shadesStanding_9 : decode cX7_shadesStanding 9 = .ok (.invokevirtual 57, 3) := by decide +kernel
theorem dX7_shadesStanding_12 : decode cX7_shadesStanding 12 = .ok (.if_icmp .ge 64, 3) := by decide +kernel
theorem dX7_shadesStanding_15 : decode cX7_shadesStanding 15 = .ok (.aload_n 0, 1) := by decide +kernel
theorem dX7_shadesStanding_16 : decode cX7_shadesStanding 16 = .ok (.getfield 19, 3) := by decide +kernel
theorem dX7_shadesStanding_19 : decode cX7_shadesStanding 19 = .ok (.iload 5, 2) := by decide +kernel
theorem dX7_shadesStanding_21 : decode cX7_shadesStanding 21 = .ok (.invokevirtual 94, 3) := by decide +kernel
theorem dX7_shadesStanding_24 : decode cX7_shadesStanding 24 = .ok (.checkcast 209, 3) := by decide +kernel
theorem dX7_shadesStanding_27 : decode cX7_shadesStanding 27 = .ok (.astore 6, 2) := by decide +kernel
theorem dX7_shadesStanding_29 : decode cX7_shadesStanding 29 = .ok (.aload 6, 2) := by decide +kernel
theorem dX7_shadesStanding_31 : decode cX7_shadesStanding 31 = .ok (.getfield 211, 3) := by decide +kernel
theorem dX7_shadesStanding_34 : decode cX7_shadesStanding 34 = .ok (.getfield 161, 3) := by decide +kernel
theorem dX7_shadesStanding_37 : decode cX7_shadesStanding 37 = .ok (.aload_n 1, 1) := by decide +kernel
theorem dX7_shadesStanding_38 : decode cX7_shadesStanding 38 = .ok (.getfield 161, 3) := by decide +kernel
theorem dX7_shadesStanding_41 : decode cX7_shadesStanding 41 = .ok (.if_icmp .eq 29, 3) := by decide +kernel
theorem dX7_shadesStanding_44 : decode cX7_shadesStanding 44 = .ok (.aload 6, 2) := by decide +kernel
theorem dX7_shadesStanding_46 : decode cX7_shadesStanding 46 = .ok (.iload_n 3, 1) := by decide +kernel
theorem dX7_shadesStanding_47 : decode cX7_shadesStanding 47 = .ok (.iload 4, 2) := by decide +kernel
theorem dX7_shadesStanding_49 : decode cX7_shadesStanding 49 = .ok (.invokevirtual 215, 3) := by decide +kernel
theorem dX7_shadesStanding_52 : decode cX7_shadesStanding 52 = .ok (.ifCond .eq 18, 3) := by decide +kernel
theorem dX7_shadesStanding_55 : decode cX7_shadesStanding 55 = .ok (.aload_n 1, 1) := by decide +kernel
theorem dX7_shadesStanding_56 : decode cX7_shadesStanding 56 = .ok (.aload 6, 2) := by decide +kernel
theorem dX7_shadesStanding_58 : decode cX7_shadesStanding 58 = .ok (.getfield 211, 3) := by decide +kernel
theorem dX7_shadesStanding_61 : decode cX7_shadesStanding 61 = .ok (.iload_n 2, 1) := by decide +kernel
theorem dX7_shadesStanding_62 : decode cX7_shadesStanding 62 = .ok (.invokevirtual 221, 3) := by decide +kernel
theorem dX7_shadesStanding_65 : decode cX7_shadesStanding 65 = .ok (.ifCond .eq 5, 3) := by decide +kernel
theorem dX7_shadesStanding_68 : decode cX7_shadesStanding 68 = .ok (.iconst 1, 1) := by decide +kernel
theorem dX7_shadesStanding_69 : decode cX7_shadesStanding 69 = .ok (.ireturn, 1) := by decide +kernel
theorem dX7_shadesStanding_70 : decode cX7_shadesStanding 70 = .ok (.iinc 5 1, 3) := by decide +kernel
theorem dX7_shadesStanding_73 : decode cX7_shadesStanding 73 = .ok (.goto (-70), 3) := by decide +kernel
theorem dX7_shadesStanding_76 : decode cX7_shadesStanding 76 = .ok (.iconst 0, 1) := by decide +kernel
theorem dX7_shadesStanding_77 : decode cX7_shadesStanding 77 = .ok (.ireturn, 1) := by decide +kernel
set_option maxRecDepth 20000 in
theorem ggX7_apply_Jx4a65c_size_8abf5 : GoodIn wsX7_apply wsJx4a65c_size_8abf5 := goodIn_r _ [10, 11, 152, 153, 154] (by decide +kernel) (by decide +kernel)
set_option maxRecDepth 20000 in
theorem gX7_apply_Jx4a65c_size_8abf5 : GoodIn wsX7_apply (wsV RX7 57 RJx4a65c yJx4a65c_size_8abf5 wsJx4a65c_size_8abf5) := goodIn_app (goodIn_of _ (by decide +kernel)) ggX7_apply_Jx4a65c_size_8abf5
set_option maxRecDepth 20000 in
theorem ggX7_apply_X7_designOn : GoodIn wsX7_apply wsX7_designOn := goodIn_r _ [16, 17, 18, 19, 20, 21, 22, 15, 23, 24, 25, 6, 7, 8, 9, 10, 11, 26, 27, 28, 29, 30, 31, 32, 33, 34, 35, 36, 37, 38, 39, 40, 41, 42, 43, 44, 45, 46, 47, 48, 49, 50, 51, 52, 53, 54, 55, 56, 57, 58, 59, 60, 61, 155, 156, 157, 158, 159, 160, 161, 131, 132, 133, 134, 135, 136, 137, 138, 139, 152, 153, 154] (by decide +kernel) (by decide +kernel)
set_option maxRecDepth 20000 in
theorem gX7_apply_X7_designOn : GoodIn wsX7_apply (wsV RX7 148 RX7 yX7_designOn wsX7_designOn) := goodIn_app (goodIn_of _ (by decide +kernel)) ggX7_apply_X7_designOn
set_option maxRecDepth 20000 in
theorem ggX7_apply_X0_init : GoodIn wsX7_apply wsX0_init := goodIn_r _ [64, 65, 53, 54, 66, 67, 68, 69, 70, 71, 72, 73, 74, 75, 76, 77, 140, 141, 142, 143, 144, 145, 146, 147, 148, 149, 150, 151] (by decide +kernel) (by decide +kernel)
set_option maxRecDepth 20000 in
theorem gX7_apply_X0_init : GoodIn wsX7_apply (wsX0_init) := ggX7_apply_X0_init
set_option maxRecDepth 20000 in
theorem ggX7_apply_Jx4a65c_add_9ea2d : GoodIn wsX7_apply wsJx4a65c_add_9ea2d := goodIn_r _ [81, 82, 83, 42, 11, 84, 85, 86, 9, 87, 88, 89, 90, 91, 92, 93, 94, 95, 96, 97, 98, 99, 100, 101, 102, 103, 104, 105, 106, 107, 108, 109, 110, 111, 112, 113, 114, 115, 116, 117, 118, 119, 120, 121, 122, 123, 124, 125, 126, 127, 128, 129, 130, 152, 153, 154] (by decide +kernel) (by decide +kernel)
set_option maxRecDepth 20000 in
theorem gX7_apply_Jx4a65c_add_9ea2d : GoodIn wsX7_apply (wsV RX7 71 RJx4a65c yJx4a65c_add_9ea2d wsJx4a65c_add_9ea2d) := goodIn_app (goodIn_of _ (by decide +kernel)) ggX7_apply_Jx4a65c_add_9ea2d
theorem dX7_apply_0 : decode cX7_apply 0 = .ok (.aload_n 0, 1) := by decide +kernel
theorem dX7_apply_1 : decode cX7_apply 1 = .ok (.getfield 19, 3) := by decide +kernel
theorem dX7_apply_4 : decode cX7_apply 4 = .ok (.invokevirtual 57, 3) := by decide +kernel
theorem dX7_apply_7 : decode cX7_apply 7 = .ok (.bipush 40, 2) := by decide +kernel
theorem dX7_apply_9 : decode cX7_apply 9 = .ok (.if_icmp .lt 5, 3) := by decide +kernel
theorem dX7_apply_12 : decode cX7_apply 12 = .ok (.iconst (-1), 1) := by decide +kernel
theorem dX7_apply_13 : decode cX7_apply 13 = .ok (.ireturn, 1) := by decide +kernel
theorem dX7_apply_14 : decode cX7_apply 14 = .ok (.aload_n 0, 1) := by decide +kernel
theorem dX7_apply_15 : decode cX7_apply 15 = .ok (.iload_n 1, 1) := by decide +kernel
theorem dX7_apply_16 : decode cX7_apply 16 = .ok (.iload_n 2, 1) := by decide +kernel
theorem dX7_apply_17 : decode cX7_apply 17 = .ok (.iload_n 3, 1) := by decide +kernel
theorem dX7_apply_18 : decode cX7_apply 18 = .ok (.iload 4, 2) := by decide +kernel
theorem dX7_apply_20 : decode cX7_apply 20 = .ok (.iload 5, 2) := by decide +kernel
theorem dX7_apply_22 : decode cX7_apply 22 = .ok (.iload 6, 2) := by decide +kernel
theorem dX7_apply_24 : decode cX7_apply 24 = .ok (.iload 7, 2) := by decide +kernel
theorem dX7_apply_26 : decode cX7_apply 26 = .ok (.invokevirtual 148, 3) := by decide +kernel
theorem dX7_apply_29 : decode cX7_apply 29 = .ok (.astore 8, 2) := by decide +kernel
theorem dX7_apply_31 : decode cX7_apply 31 = .ok (.aload 8, 2) := by decide +kernel
theorem dX7_apply_33 : decode cX7_apply 33 = .ok (.ifnonnull 5, 3) := by decide +kernel
theorem dX7_apply_36 : decode cX7_apply 36 = .ok (.iconst (-1), 1) := by decide +kernel
theorem dX7_apply_37 : decode cX7_apply 37 = .ok (.ireturn, 1) := by decide +kernel
theorem dX7_apply_38 : decode cX7_apply 38 = .ok (.aload_n 0, 1) := by decide +kernel
theorem dX7_apply_39 : decode cX7_apply 39 = .ok (.getfield 19, 3) := by decide +kernel
theorem dX7_apply_42 : decode cX7_apply 42 = .ok (.new 209, 3) := by decide +kernel
theorem dX7_apply_45 : decode cX7_apply 45 = .ok (.dup, 1) := by decide +kernel
theorem dX7_apply_46 : decode cX7_apply 46 = .ok (.aload 8, 2) := by decide +kernel
theorem dX7_apply_48 : decode cX7_apply 48 = .ok (.aload_n 0, 1) := by decide +kernel
theorem dX7_apply_49 : decode cX7_apply 49 = .ok (.getfield 40, 3) := by decide +kernel
theorem dX7_apply_52 : decode cX7_apply 52 = .ok (.invokespecial 225, 3) := by decide +kernel
theorem dX7_apply_55 : decode cX7_apply 55 = .ok (.invokevirtual 71, 3) := by decide +kernel
theorem dX7_apply_58 : decode cX7_apply 58 = .ok (.pop, 1) := by decide +kernel
theorem dX7_apply_59 : decode cX7_apply 59 = .ok (.aload_n 0, 1) := by decide +kernel
theorem dX7_apply_60 : decode cX7_apply 60 = .ok (.getfield 19, 3) := by decide +kernel
theorem dX7_apply_63 : decode cX7_apply 63 = .ok (.invokevirtual 57, 3) := by decide +kernel
theorem dX7_apply_66 : decode cX7_apply 66 = .ok (.iconst 1, 1) := by decide +kernel
theorem dX7_apply_67 : decode cX7_apply 67 = .ok (.isub, 1) := by decide +kernel
theorem dX7_apply_68 : decode cX7_apply 68 = .ok (.ireturn, 1) := by decide +kernel
set_option maxRecDepth 20000 in
theorem ggX7_object_X7_applicationAt : GoodIn wsX7_object wsX7_applicationAt := goodIn_r _ [6, 7, 8, 9, 10, 11, 12, 13, 14, 15, 16, 17, 18, 19, 20, 21, 22, 23, 24, 25, 26, 27, 28, 29, 30, 31, 103, 104, 105, 106, 107, 108, 109, 110, 111, 112, 113, 114] (by decide +kernel) (by decide +kernel)
set_option maxRecDepth 20000 in
theorem gX7_object_X7_applicationAt : GoodIn wsX7_object (wsV RX7 228 RX7 yX7_applicationAt wsX7_applicationAt) := goodIn_app (goodIn_of _ (by decide +kernel)) ggX7_object_X7_applicationAt
set_option maxRecDepth 20000 in
theorem ggX7_object_X7_ringAt : GoodIn wsX7_object wsX7_ringAt := goodIn_r _ [35, 36, 37, 9, 10, 11, 12, 13, 14, 15, 16, 17, 18, 19, 20, 21, 22, 23, 24, 25, 26, 27, 28, 29, 30, 31, 103, 104, 105, 106, 107, 108, 109, 110, 111, 112, 113, 114] (by decide +kernel) (by decide +kernel)
set_option maxRecDepth 20000 in
theorem gX7_object_X7_ringAt : GoodIn wsX7_object (wsV RX7 75 RX7 yX7_ringAt wsX7_ringAt) := goodIn_app (goodIn_of _ (by decide +kernel)) ggX7_object_X7_ringAt
set_option maxRecDepth 20000 in
theorem ggX7_object_X5_isWithinOf : GoodIn wsX7_object wsX5_isWithinOf := goodIn_r _ [42, 43, 44, 45, 41, 46, 47, 48, 49, 50, 51, 52, 53, 54, 55, 56, 57, 58, 59, 60, 61, 115, 116, 117] (by decide +kernel) (by decide +kernel)
set_option maxRecDepth 20000 in
theorem gX7_object_X5_isWithinOf : GoodIn wsX7_object (wsV RX7 90 RX5 yX5_isWithinOf wsX5_isWithinOf) := goodIn_app (goodIn_of _ (by decide +kernel)) ggX7_object_X5_isWithinOf
set_option maxRecDepth 20000 in
theorem ggX7_object_X0_lastDayToObject : GoodIn wsX7_object wsX0_lastDayToObject := goodIn_r _ [66, 67, 84, 85, 86, 87, 88, 89, 90, 91, 92, 93, 94, 95] (by decide +kernel) (by decide +kernel)
set_option maxRecDepth 20000 in
theorem gX7_object_X0_lastDayToObject : GoodIn wsX7_object (wsV RX7 235 RX0 yX0_lastDayToObject wsX0_lastDayToObject) := goodIn_app (goodIn_of _ (by decide +kernel)) ggX7_object_X0_lastDayToObject
set_option maxRecDepth 20000 in
theorem ggX7_object_X0_hasObjected : GoodIn wsX7_object wsX0_hasObjected := goodIn_r _ [71, 72, 73, 74, 75, 76, 77, 5, 78, 84, 85, 86, 87, 88, 89, 90, 91, 92, 93, 94, 95] (by decide +kernel) (by decide +kernel)
set_option maxRecDepth 20000 in
theorem gX7_object_X0_hasObjected : GoodIn wsX7_object (wsV RX7 238 RX0 yX0_hasObjected wsX0_hasObjected) := goodIn_app (goodIn_of _ (by decide +kernel)) ggX7_object_X0_hasObjected
set_option maxRecDepth 20000 in
theorem ggX7_object_X0_addObjection : GoodIn wsX7_object wsX0_addObjection := goodIn_r _ [82, 72, 83, 73, 74, 75, 76, 77, 5, 78, 84, 85, 86, 87, 88, 89, 90, 91, 92, 93, 94, 95] (by decide +kernel) (by decide +kernel)
set_option maxRecDepth 20000 in
theorem gX7_object_X0_addObjection : GoodIn wsX7_object (wsV RX7 241 RX0 yX0_addObjection wsX0_addObjection) := goodIn_app (goodIn_of _ (by decide +kernel)) ggX7_object_X0_addObjection
theorem dX7_object_0 : decode cX7_object 0 = .ok (.aload_n 0, 1) := by decide +kernel
theorem dX7_object_1 : decode cX7_object 1 = .ok (.iload_n 1, 1) := by decide +kernel
theorem dX7_object_2 : decode cX7_object 2 = .ok (.invokevirtual 228, 3) := by decide +kernel
theorem dX7_object_5 : decode cX7_object 5 = .ok (.astore_n 3, 1) := by decide +kernel
theorem dX7_object_6 : decode cX7_object 6 = .ok (.aload_n 0, 1) := by decide +kernel
theorem dX7_object_7 : decode cX7_object 7 = .ok (.iload_n 2, 1) := by decide +kernel
theorem dX7_object_8 : decode cX7_object 8 = .ok (.invokevirtual 75, 3) := by decide +kernel
theorem dX7_object_11 : decode cX7_object 11 = .ok (.astore 4, 2) := by decide +kernel
theorem dX7_object_13 : decode cX7_object 13 = .ok (.aload_n 3, 1) := by decide +kernel
theorem dX7_object_14 : decode cX7_object 14 = .ok (.ifnull 26, 3) := by decide +kernel
theorem dX7_object_17 : decode cX7_object 17 = .ok (.aload_n 3, 1) := by decide +kernel
theorem dX7_object_18 : decode cX7_object 18 = .ok (.getfield 232, 3) := by decide +kernel
theorem dX7_object_21 : decode cX7_object 21 = .ok (.ifCond .ne 19, 3) := by decide +kernel
theorem dX7_object_24 : decode cX7_object 24 = .ok (.aload 4, 2) := by decide +kernel
theorem dX7_object_26 : decode cX7_object 26 = .ok (.ifnull 14, 3) := by decide +kernel
theorem dX7_object_29 : decode cX7_object 29 = .ok (.iload_n 2, 1) := by decide +kernel
theorem dX7_object_30 : decode cX7_object 30 = .ok (.aload_n 3, 1) := by decide +kernel
theorem dX7_object_31 : decode cX7_object 31 = .ok (.getfield 211, 3) := by decide +kernel
theorem dX7_object_34 : decode cX7_object 34 = .ok (.getfield 161, 3) := by decide +kernel
theorem dX7_object_37 : decode cX7_object 37 = .ok (.if_icmp .ne 6, 3) := by decide +kernel
theorem dX7_object_40 : decode cX7_object 40 = .ok (.bipush (-4), 2) := by decide +kernel
theorem dX7_object_42 : decode cX7_object 42 = .ok (.ireturn, 1) := by decide +kernel
theorem dX7_object_43 : decode cX7_object 43 = .ok (.aload_n 0, 1) := by decide +kernel
theorem dX7_object_44 : decode cX7_object 44 = .ok (.aload_n 3, 1) := by decide +kernel
theorem dX7_object_45 : decode cX7_object 45 = .ok (.getfield 211, 3) := by decide +kernel
theorem dX7_object_48 : decode cX7_object 48 = .ok (.getfield 161, 3) := by decide +kernel
theorem dX7_object_51 : decode cX7_object 51 = .ok (.invokevirtual 75, 3) := by decide +kernel
theorem dX7_object_54 : decode cX7_object 54 = .ok (.astore 5, 2) := by decide +kernel
theorem dX7_object_56 : decode cX7_object 56 = .ok (.aload 5, 2) := by decide +kernel
theorem dX7_object_58 : decode cX7_object 58 = .ok (.ifnull 15, 3) := by decide +kernel
theorem dX7_object_61 : decode cX7_object 61 = .ok (.aload 5, 2) := by decide +kernel
theorem dX7_object_63 : decode cX7_object 63 = .ok (.aload 4, 2) := by decide +kernel
theorem dX7_object_65 : decode cX7_object 65 = .ok (.bipush 20, 2) := by decide +kernel
theorem dX7_object_67 : decode cX7_object 67 = .ok (.invokevirtual 90, 3) := by decide +kernel
theorem dX7_object_70 : decode cX7_object 70 = .ok (.ifCond .ne 6, 3) := by decide +kernel
theorem dX7_object_73 : decode cX7_object 73 = .ok (.bipush (-2), 2) := by decide +kernel
theorem dX7_object_75 : decode cX7_object 75 = .ok (.ireturn, 1) := by decide +kernel
theorem dX7_object_76 : decode cX7_object 76 = .ok (.aload_n 0, 1) := by decide +kernel
theorem dX7_object_77 : decode cX7_object 77 = .ok (.getfield 40, 3) := by decide +kernel
theorem dX7_object_80 : decode cX7_object 80 = .ok (.aload_n 3, 1) := by decide +kernel
theorem dX7_object_81 : decode cX7_object 81 = .ok (.invokevirtual 235, 3) := by decide +kernel
theorem dX7_object_84 : decode cX7_object 84 = .ok (.if_icmp .le 5, 3) := by decide +kernel
theorem dX7_object_87 : decode cX7_object 87 = .ok (.iconst (-1), 1) := by decide +kernel
theorem dX7_object_88 : decode cX7_object 88 = .ok (.ireturn, 1) := by decide +kernel
theorem dX7_object_89 : decode cX7_object 89 = .ok (.aload_n 3, 1) := by decide +kernel
theorem dX7_object_90 : decode cX7_object 90 = .ok (.iload_n 2, 1) := by decide +kernel
theorem dX7_object_91 : decode cX7_object 91 = .ok (.invokevirtual 238, 3) := by decide +kernel
theorem dX7_object_94 : decode cX7_object 94 = .ok (.ifCond .eq 6, 3) := by decide +kernel
theorem dX7_object_97 : decode cX7_object 97 = .ok (.bipush (-3), 2) := by decide +kernel
theorem dX7_object_99 : decode cX7_object 99 = .ok (.ireturn, 1) := by decide +kernel
theorem dX7_object_100 : decode cX7_object 100 = .ok (.aload 5, 2) := by decide +kernel
theorem dX7_object_102 : decode cX7_object 102 = .ok (.aload 4, 2) := by decide +kernel
theorem dX7_object_104 : decode cX7_object 104 = .ok (.iconst 0, 1) := by decide +kernel
theorem dX7_object_105 : decode cX7_object 105 = .ok (.invokevirtual 90, 3) := by decide +kernel
theorem dX7_object_108 : decode cX7_object 108 = .ok (.ifCond .eq 7, 3) := by decide +kernel
theorem dX7_object_111 : decode cX7_object 111 = .ok (.iconst 2, 1) := by decide +kernel
theorem dX7_object_112 : decode cX7_object 112 = .ok (.goto 4, 3) := by decide +kernel
theorem dX7_object_115 : decode cX7_object 115 = .ok (.iconst 1, 1) := by decide +kernel
theorem dX7_object_116 : decode cX7_object 116 = .ok (.istore 6, 2) := by decide +kernel
theorem dX7_object_118 : decode cX7_object 118 = .ok (.aload_n 3, 1) := by decide +kernel
theorem dX7_object_119 : decode cX7_object 119 = .ok (.iload_n 2, 1) := by decide +kernel
theorem dX7_object_120 : decode cX7_object 120 = .ok (.iload 6, 2) := by decide +kernel
theorem dX7_object_122 : decode cX7_object 122 = .ok (.invokevirtual 241, 3) := by decide +kernel
theorem dX7_object_125 : decode cX7_object 125 = .ok (.iload 6, 2) := by decide +kernel
theorem dX7_object_127 : decode cX7_object 127 = .ok (.ireturn, 1) := by decide +kernel
set_option maxRecDepth 20000 in
theorem ggX7_decide_X7_applicationAt : GoodIn wsX7_decide wsX7_applicationAt := goodIn_r _ [6, 7, 8, 9, 10, 11, 12, 13, 14, 15, 16, 17, 18, 19, 20, 21, 22, 23, 24, 25, 26, 27, 28, 29, 30, 31, 191, 192, 193, 194, 195, 196, 197, 198, 199, 200, 201, 202] (by decide +kernel) (by decide +kernel)
set_option maxRecDepth 20000 in
theorem gX7_decide_X7_applicationAt : GoodIn wsX7_decide (wsV RX7 228 RX7 yX7_applicationAt wsX7_applicationAt) := goodIn_app (goodIn_of _ (by decide +kernel)) ggX7_decide_X7_applicationAt
set_option maxRecDepth 20000 in
theorem ggX7_decide_X0_lastDayToObject : GoodIn wsX7_decide wsX0_lastDayToObject := goodIn_r _ [36, 37, 179, 180, 181, 182, 183, 184, 185, 186, 187, 188, 189, 190] (by decide +kernel) (by decide +kernel)
set_option maxRecDepth 20000 in
theorem gX7_decide_X0_lastDayToObject : GoodIn wsX7_decide (wsV RX7 235 RX0 yX0_lastDayToObject wsX0_lastDayToObject) := goodIn_app (goodIn_of _ (by decide +kernel)) ggX7_decide_X0_lastDayToObject
set_option maxRecDepth 20000 in
theorem ggX7_decide_X7_ruleBroken : GoodIn wsX7_decide wsX7_ruleBroken := goodIn_r _ [41, 42, 43, 44, 5, 45, 46, 47, 9, 10, 11, 12, 13, 14, 15, 16, 17, 18, 19, 20, 21, 22, 23, 24, 25, 26, 27, 28, 29, 30, 31, 48, 49, 50, 51, 52, 53, 54, 55, 56, 57, 58, 59, 60, 61, 62, 63, 64, 65, 66, 67, 68, 69, 70, 71, 72, 73, 74, 75, 76, 77, 78, 79, 80, 81, 82, 83, 84, 85, 86, 87, 88, 89, 90, 91, 92, 93, 94, 95, 96, 97, 98, 99, 100, 101, 102, 103, 104, 105, 106, 107, 108, 109, 110, 111, 112, 113, 114, 115, 116, 117, 118, 7, 8, 119, 120, 121, 122, 123, 124, 125, 126, 127, 128, 129, 130, 35, 131, 132, 133, 134, 135, 136, 137, 138, 139, 140, 141, 142, 143, 144, 145, 146, 147, 148, 149, 150, 151, 152, 153, 154, 155, 156, 157, 158, 159, 160, 161, 162, 163, 164, 165, 166, 167, 168, 203, 204, 205, 206, 207, 208, 209, 210, 211, 212, 213, 214, 215, 191, 192, 193, 194, 195, 196, 197, 198, 199, 200, 201, 202, 216, 217, 218, 219, 220, 221, 179, 180, 181, 182, 183, 184, 185, 186, 187, 188, 189, 190] (by decide +kernel) (by decide +kernel)
set_option maxRecDepth 20000 in
theorem gX7_decide_X7_ruleBroken : GoodIn wsX7_decide (wsV RX7 152 RX7 yX7_ruleBroken wsX7_ruleBroken) := goodIn_app (goodIn_of _ (by decide +kernel)) ggX7_decide_X7_ruleBroken
set_option maxRecDepth 20000 in
theorem ggX7_decide_X0_permit : GoodIn wsX7_decide wsX0_permit := goodIn_r _ [172, 132, 173, 179, 180, 181, 182, 183, 184, 185, 186, 187, 188, 189, 190] (by decide +kernel) (by decide +kernel)
set_option maxRecDepth 20000 in
theorem gX7_decide_X0_permit : GoodIn wsX7_decide (wsV RX7 250 RX0 yX0_permit wsX0_permit) := goodIn_app (goodIn_of _ (by decide +kernel)) ggX7_decide_X0_permit
set_option maxRecDepth 20000 in
theorem ggX7_decide_X0_refuse : GoodIn wsX7_decide wsX0_refuse := goodIn_r _ [177, 132, 178, 173, 179, 180, 181, 182, 183, 184, 185, 186, 187, 188, 189, 190] (by decide +kernel) (by decide +kernel)
set_option maxRecDepth 20000 in
theorem gX7_decide_X0_refuse : GoodIn wsX7_decide (wsV RX7 253 RX0 yX0_refuse wsX0_refuse) := goodIn_app (goodIn_of _ (by decide +kernel)) ggX7_decide_X0_refuse
theorem dX7_decide_0 : decode cX7_decide 0 = .ok (.aload_n 0, 1) := by decide +kernel
theorem dX7_decide_1 : decode cX7_decide 1 = .ok (.iload_n 1, 1) := by decide +kernel
theorem dX7_decide_2 : decode cX7_decide 2 = .ok (.invokevirtual 228, 3) := by decide +kernel
theorem dX7_decide_5 : decode cX7_decide 5 = .ok (.astore_n 2, 1) := by decide +kernel
theorem dX7_decide_6 : decode cX7_decide 6 = .ok (.aload_n 2, 1) := by decide +kernel
theorem dX7_decide_7 : decode cX7_decide 7 = .ok (.ifnull 21, 3) := by decide +kernel
theorem dX7_decide_10 : decode cX7_decide 10 = .ok (.aload_n 2, 1) := by decide +kernel
theorem dX7_decide_11 : decode cX7_decide 11 = .ok (.getfield 232, 3) := by decide +kernel
theorem dX7_decide_14 : decode cX7_decide 14 = .ok (.ifCond .ne 14, 3) := by decide +kernel
theorem dX7_decide_17 : decode cX7_decide 17 = .ok (.aload_n 0, 1) := by decide +kernel
theorem dX7_decide_18 : decode cX7_decide 18 = .ok (.getfield 40, 3) := by decide +kernel
theorem dX7_decide_21 : decode cX7_decide 21 = .ok (.aload_n 2, 1) := by decide +kernel
theorem dX7_decide_22 : decode cX7_decide 22 = .ok (.invokevirtual 235, 3) := by decide +kernel
theorem dX7_decide_25 : decode cX7_decide 25 = .ok (.if_icmp .gt 5, 3) := by decide +kernel
theorem dX7_decide_28 : decode cX7_decide 28 = .ok (.iconst (-1), 1) := by decide +kernel
theorem dX7_decide_29 : decode cX7_decide 29 = .ok (.ireturn, 1) := by decide +kernel
theorem dX7_decide_30 : decode cX7_decide 30 = .ok (.aload_n 0, 1) := by decide +kernel
theorem dX7_decide_31 : decode cX7_decide 31 = .ok (.aload_n 2, 1) := by decide +kernel
theorem dX7_decide_32 : decode cX7_decide 32 = .ok (.getfield 211, 3) := by decide +kernel
theorem dX7_decide_35 : decode cX7_decide 35 = .ok (.aload_n 2, 1) := by decide +kernel
theorem dX7_decide_36 : decode cX7_decide 36 = .ok (.getfield 244, 3) := by decide +kernel
theorem dX7_decide_39 : decode cX7_decide 39 = .ok (.aload_n 0, 1) := by decide +kernel
theorem dX7_decide_40 : decode cX7_decide 40 = .ok (.getfield 40, 3) := by decide +kernel
theorem dX7_decide_43 : decode cX7_decide 43 = .ok (.invokevirtual 152, 3) := by decide +kernel
theorem dX7_decide_46 : decode cX7_decide 46 = .ok (.istore_n 3, 1) := by decide +kernel
theorem dX7_decide_47 : decode cX7_decide 47 = .ok (.iload_n 3, 1) := by decide +kernel
theorem dX7_decide_48 : decode cX7_decide 48 = .ok (.ifCond .ne 15, 3) := by decide +kernel
theorem dX7_decide_51 : decode cX7_decide 51 = .ok (.aload_n 2, 1) := by decide +kernel
theorem dX7_decide_52 : decode cX7_decide 52 = .ok (.getfield 247, 3) := by decide +kernel
theorem dX7_decide_55 : decode cX7_decide 55 = .ok (.bipush 6, 2) := by decide +kernel
theorem dX7_decide_57 : decode cX7_decide 57 = .ok (.if_icmp .lt 6, 3) := by decide +kernel
theorem dX7_decide_60 : decode cX7_decide 60 = .ok (.bipush 9, 2) := by decide +kernel
theorem dX7_decide_62 : decode cX7_decide 62 = .ok (.istore_n 3, 1) := by decide +kernel
theorem dX7_decide_63 : decode cX7_decide 63 = .ok (.iload_n 3, 1) := by decide +kernel
theorem dX7_decide_64 : decode cX7_decide 64 = .ok (.ifCond .ne 14, 3) := by decide +kernel
theorem dX7_decide_67 : decode cX7_decide 67 = .ok (.aload_n 2, 1) := by decide +kernel
theorem dX7_decide_68 : decode cX7_decide 68 = .ok (.aload_n 0, 1) := by decide +kernel
theorem dX7_decide_69 : decode cX7_decide 69 = .ok (.getfield 40, 3) := by decide +kernel
theorem dX7_decide_72 : decode cX7_decide 72 = .ok (.invokevirtual 250, 3) := by decide +kernel
theorem dX7_decide_75 : decode cX7_decide 75 = .ok (.goto 12, 3) := by decide +kernel
theorem dX7_decide_78 : decode cX7_decide 78 = .ok (.aload_n 2, 1) := by decide +kernel
theorem dX7_decide_79 : decode cX7_decide 79 = .ok (.iload_n 3, 1) := by decide +kernel
theorem dX7_decide_80 : decode cX7_decide 80 = .ok (.aload_n 0, 1) := by decide +kernel
theorem dX7_decide_81 : decode cX7_decide 81 = .ok (.getfield 40, 3) := by decide +kernel
theorem dX7_decide_84 : decode cX7_decide 84 = .ok (.invokevirtual 253, 3) := by decide +kernel
theorem dX7_decide_87 : decode cX7_decide 87 = .ok (.iload_n 3, 1) := by decide +kernel
theorem dX7_decide_88 : decode cX7_decide 88 = .ok (.ireturn, 1) := by decide +kernel
set_option maxRecDepth 20000 in
theorem ggX7_build_X7_applicationAt : GoodIn wsX7_build wsX7_applicationAt := goodIn_r _ [6, 7, 8, 9, 10, 11, 12, 13, 14, 15, 16, 17, 18, 19, 20, 21, 22, 23, 24, 25, 26, 27, 28, 29, 30, 31, 45, 46, 47, 48, 49, 50, 51, 52, 53, 54, 55, 56] (by decide +kernel) (by decide +kernel)
set_option maxRecDepth 20000 in
theorem gX7_build_X7_applicationAt : GoodIn wsX7_build (wsV RX7 228 RX7 yX7_applicationAt wsX7_applicationAt) := goodIn_app (goodIn_of _ (by decide +kernel)) ggX7_build_X7_applicationAt
set_option maxRecDepth 20000 in
theorem ggX7_build_X0_goOn : GoodIn wsX7_build wsX0_goOn := goodIn_r _ [36, 37, 38, 39, 40, 41, 42, 35, 43, 44, 57, 58, 59, 60, 61, 62, 63, 64, 65, 66, 67, 68] (by decide +kernel) (by decide +kernel)
set_option maxRecDepth 20000 in
theorem gX7_build_X0_goOn : GoodIn wsX7_build (wsV RX7 256 RX0 yX0_goOn wsX0_goOn) := goodIn_app (goodIn_of _ (by decide +kernel)) ggX7_build_X0_goOn
theorem dX7_build_0 : decode cX7_build 0 = .ok (.aload_n 0, 1) := by decide +kernel
theorem dX7_build_1 : decode cX7_build 1 = .ok (.iload_n 1, 1) := by decide +kernel
theorem dX7_build_2 : decode cX7_build 2 = .ok (.invokevirtual 228, 3) := by decide +kernel
theorem dX7_build_5 : decode cX7_build 5 = .ok (.astore_n 2, 1) := by decide +kernel
theorem dX7_build_6 : decode cX7_build 6 = .ok (.aload_n 2, 1) := by decide +kernel
theorem dX7_build_7 : decode cX7_build 7 = .ok (.ifnonnull 7, 3) := by decide +kernel
theorem dX7_build_10 : decode cX7_build 10 = .ok (.iconst (-1), 1) := by decide +kernel
theorem dX7_build_11 : decode cX7_build 11 = .ok (.goto 11, 3) := by decide +kernel
theorem dX7_build_14 : decode cX7_build 14 = .ok (.aload_n 2, 1) := by decide +kernel
theorem dX7_build_15 : decode cX7_build 15 = .ok (.aload_n 0, 1) := by decide +kernel
theorem dX7_build_16 : decode cX7_build 16 = .ok (.getfield 40, 3) := by decide +kernel
theorem dX7_build_19 : decode cX7_build 19 = .ok (.invokevirtual 256, 3) := by decide +kernel
theorem dX7_build_22 : decode cX7_build 22 = .ok (.ireturn, 1) := by decide +kernel
set_option maxRecDepth 20000 in
theorem ggX7_appeal_X7_applicationAt : GoodIn wsX7_appeal wsX7_applicationAt := goodIn_r _ [6, 7, 8, 9, 10, 11, 12, 13, 14, 15, 16, 17, 18, 19, 20, 21, 22, 23, 24, 25, 26, 27, 28, 29, 30, 31, 174, 175, 176, 177, 178, 179, 180, 181, 182, 195, 196, 197] (by decide +kernel) (by decide +kernel)
set_option maxRecDepth 20000 in
theorem gX7_appeal_X7_applicationAt : GoodIn wsX7_appeal (wsV RX7 228 RX7 yX7_applicationAt wsX7_applicationAt) := goodIn_app (goodIn_of _ (by decide +kernel)) ggX7_appeal_X7_applicationAt
set_option maxRecDepth 20000 in
theorem ggX7_appeal_X0_mayBeAppealed : GoodIn wsX7_appeal wsX0_mayBeAppealed := goodIn_r _ [36, 37, 38, 39, 183, 184, 185, 186, 187, 188, 189, 190, 191, 192, 193, 194] (by decide +kernel) (by decide +kernel)
set_option maxRecDepth 20000 in
theorem gX7_appeal_X0_mayBeAppealed : GoodIn wsX7_appeal (wsV RX7 259 RX0 yX0_mayBeAppealed wsX0_mayBeAppealed) := goodIn_app (goodIn_of _ (by decide +kernel)) ggX7_appeal_X0_mayBeAppealed
set_option maxRecDepth 20000 in
theorem ggX7_appeal_X7_ruleBroken : GoodIn wsX7_appeal wsX7_ruleBroken := goodIn_r _ [43, 44, 45, 46, 5, 47, 48, 49, 9, 10, 11, 12, 13, 14, 15, 16, 17, 18, 19, 20, 21, 22, 23, 24, 25, 26, 27, 28, 29, 30, 31, 50, 51, 52, 53, 54, 55, 56, 57, 58, 59, 60, 61, 62, 63, 64, 65, 66, 67, 68, 69, 70, 71, 72, 73, 74, 75, 76, 77, 78, 79, 80, 81, 82, 83, 84, 85, 86, 87, 88, 89, 90, 91, 92, 93, 94, 95, 96, 97, 98, 99, 100, 101, 102, 103, 104, 105, 106, 107, 108, 109, 110, 111, 112, 113, 114, 115, 116, 117, 118, 119, 120, 7, 8, 121, 122, 123, 124, 125, 126, 127, 128, 129, 130, 131, 132, 35, 133, 37, 134, 135, 136, 137, 138, 139, 140, 141, 142, 143, 144, 145, 146, 147, 148, 149, 150, 151, 152, 153, 154, 155, 156, 157, 158, 159, 160, 161, 162, 163, 164, 165, 166, 167, 168, 169, 198, 199, 200, 201, 202, 203, 204, 205, 206, 207, 208, 209, 210, 174, 175, 176, 177, 178, 179, 180, 181, 182, 195, 196, 197, 211, 212, 213, 214, 215, 216, 183, 184, 185, 186, 187, 188, 189, 190, 191, 192, 193, 194] (by decide +kernel) (by decide +kernel)
set_option maxRecDepth 20000 in
theorem gX7_appeal_X7_ruleBroken : GoodIn wsX7_appeal (wsV RX7 152 RX7 yX7_ruleBroken wsX7_ruleBroken) := goodIn_app (goodIn_of _ (by decide +kernel)) ggX7_appeal_X7_ruleBroken
set_option maxRecDepth 20000 in
theorem ggX7_appeal_X0_permit : GoodIn wsX7_appeal wsX0_permit := goodIn_r _ [173, 37, 39, 183, 184, 185, 186, 187, 188, 189, 190, 191, 192, 193, 194] (by decide +kernel) (by decide +kernel)
set_option maxRecDepth 20000 in
theorem gX7_appeal_X0_permit : GoodIn wsX7_appeal (wsV RX7 250 RX0 yX0_permit wsX0_permit) := goodIn_app (goodIn_of _ (by decide +kernel)) ggX7_appeal_X0_permit
theorem dX7_appeal_0 : decode cX7_appeal 0 = .ok (.aload_n 0, 1) := by decide +kernel
theorem dX7_appeal_1 : decode cX7_appeal 1 = .ok (.iload_n 1, 1) := by decide +kernel
theorem dX7_appeal_2 : decode cX7_appeal 2 = .ok (.invokevirtual 228, 3) := by decide +kernel
theorem dX7_appeal_5 : decode cX7_appeal 5 = .ok (.astore_n 2, 1) := by decide +kernel
theorem dX7_appeal_6 : decode cX7_appeal 6 = .ok (.aload_n 2, 1) := by decide +kernel
theorem dX7_appeal_7 : decode cX7_appeal 7 = .ok (.ifnull 14, 3) := by decide +kernel
theorem dX7_appeal_10 : decode cX7_appeal 10 = .ok (.aload_n 2, 1) := by decide +kernel
theorem dX7_appeal_11 : decode cX7_appeal 11 = .ok (.aload_n 0, 1) := by decide +kernel
theorem dX7_appeal_12 : decode cX7_appeal 12 = .ok (.getfield 40, 3) := by decide +kernel
theorem dX7_appeal_15 : decode cX7_appeal 15 = .ok (.invokevirtual 259, 3) := by decide +kernel
theorem dX7_appeal_18 : decode cX7_appeal 18 = .ok (.ifCond .ne 5, 3) := by decide +kernel
theorem dX7_appeal_21 : decode cX7_appeal 21 = .ok (.iconst (-1), 1) := by decide +kernel
theorem dX7_appeal_22 : decode cX7_appeal 22 = .ok (.ireturn, 1) := by decide +kernel
theorem dX7_appeal_23 : decode cX7_appeal 23 = .ok (.aload_n 2, 1) := by decide +kernel
theorem dX7_appeal_24 : decode cX7_appeal 24 = .ok (.iconst 1, 1) := by decide +kernel
theorem dX7_appeal_25 : decode cX7_appeal 25 = .ok (.putfield 262, 3) := by decide +kernel
theorem dX7_appeal_28 : decode cX7_appeal 28 = .ok (.aload_n 0, 1) := by decide +kernel
theorem dX7_appeal_29 : decode cX7_appeal 29 = .ok (.aload_n 2, 1) := by decide +kernel
theorem dX7_appeal_30 : decode cX7_appeal 30 = .ok (.getfield 211, 3) := by decide +kernel
theorem dX7_appeal_33 : decode cX7_appeal 33 = .ok (.aload_n 2, 1) := by decide +kernel
theorem dX7_appeal_34 : decode cX7_appeal 34 = .ok (.getfield 244, 3) := by decide +kernel
theorem dX7_appeal_37 : decode cX7_appeal 37 = .ok (.aload_n 0, 1) := by decide +kernel
theorem dX7_appeal_38 : decode cX7_appeal 38 = .ok (.getfield 40, 3) := by decide +kernel
theorem dX7_appeal_41 : decode cX7_appeal 41 = .ok (.invokevirtual 152, 3) := by decide +kernel
theorem dX7_appeal_44 : decode cX7_appeal 44 = .ok (.istore_n 3, 1) := by decide +kernel
theorem dX7_appeal_45 : decode cX7_appeal 45 = .ok (.iload_n 3, 1) := by decide +kernel
theorem dX7_appeal_46 : decode cX7_appeal 46 = .ok (.ifCond .ne 11, 3) := by decide +kernel
theorem dX7_appeal_49 : decode cX7_appeal 49 = .ok (.aload_n 2, 1) := by decide +kernel
theorem dX7_appeal_50 : decode cX7_appeal 50 = .ok (.aload_n 0, 1) := by decide +kernel
theorem dX7_appeal_51 : decode cX7_appeal 51 = .ok (.getfield 40, 3) := by decide +kernel
theorem dX7_appeal_54 : decode cX7_appeal 54 = .ok (.invokevirtual 250, 3) := by decide +kernel
theorem dX7_appeal_57 : decode cX7_appeal 57 = .ok (.iload_n 3, 1) := by decide +kernel
theorem dX7_appeal_58 : decode cX7_appeal 58 = .ok (.ireturn, 1) := by decide +kernel
set_option maxRecDepth 20000 in
theorem ggX7_clash_X7_applicationAt : GoodIn wsX7_clash wsX7_applicationAt := goodIn_r _ [8, 1, 2, 9, 10, 11, 12, 13, 14, 15, 16, 17, 18, 19, 20, 21, 22, 23, 24, 25, 26, 27, 28, 29, 30, 31, 50, 51, 52, 53, 54, 55, 56, 57, 58, 71, 72, 73] (by decide +kernel) (by decide +kernel)
set_option maxRecDepth 20000 in
theorem gX7_clash_X7_applicationAt : GoodIn wsX7_clash (wsV RX7 228 RX7 yX7_applicationAt wsX7_applicationAt) := goodIn_app (goodIn_of _ (by decide +kernel)) ggX7_clash_X7_applicationAt
set_option maxRecDepth 20000 in
theorem ggX7_clash_Jx4a65c_size_8abf5 : GoodIn wsX7_clash wsJx4a65c_size_8abf5 := goodIn_r _ [13, 14, 71, 72, 73] (by decide +kernel) (by decide +kernel)
set_option maxRecDepth 20000 in
theorem gX7_clash_Jx4a65c_size_8abf5 : GoodIn wsX7_clash (wsV RX7 57 RJx4a65c yJx4a65c_size_8abf5 wsJx4a65c_size_8abf5) := goodIn_app (goodIn_of _ (by decide +kernel)) ggX7_clash_Jx4a65c_size_8abf5
set_option maxRecDepth 20000 in
theorem ggX7_clash_Jx4a65c_get_915e3 : GoodIn wsX7_clash wsJx4a65c_get_915e3 := goodIn_r _ [18, 14, 19, 20, 21, 22, 23, 24, 25, 26, 27, 28, 29, 12, 30, 31, 71, 72, 73] (by decide +kernel) (by decide +kernel)
set_option maxRecDepth 20000 in
theorem gX7_clash_Jx4a65c_get_915e3 : GoodIn wsX7_clash (wsV RX7 94 RJx4a65c yJx4a65c_get_915e3 wsJx4a65c_get_915e3) := goodIn_app (goodIn_of _ (by decide +kernel)) ggX7_clash_Jx4a65c_get_915e3
set_option maxRecDepth 20000 in
theorem ggX7_clash_X0_stoodOn : GoodIn wsX7_clash wsX0_stoodOn := goodIn_r _ [36, 37, 38, 39, 40, 59, 60, 61, 62, 63, 64, 65, 66, 67, 68, 69, 70] (by decide +kernel) (by decide +kernel)
set_option maxRecDepth 20000 in
theorem gX7_clash_X0_stoodOn : GoodIn wsX7_clash (wsV RX7 215 RX0 yX0_stoodOn wsX0_stoodOn) := goodIn_app (goodIn_of _ (by decide +kernel)) ggX7_clash_X0_stoodOn
set_option maxRecDepth 20000 in
theorem ggX7_clash_X1_meets : GoodIn wsX7_clash wsX1_meets := goodIn_r _ [45, 46, 47, 48, 49, 74, 75, 76, 77, 78, 79, 80] (by decide +kernel) (by decide +kernel)
set_option maxRecDepth 20000 in
theorem gX7_clash_X1_meets : GoodIn wsX7_clash (wsV RX7 218 RX1 yX1_meets wsX1_meets) := goodIn_app (goodIn_of _ (by decide +kernel)) ggX7_clash_X1_meets
theorem dX7_clash_0 : decode cX7_clash 0 = .ok (.aload_n 0, 1) := by decide +kernel
theorem dX7_clash_1 : decode cX7_clash 1 = .ok (.iload_n 1, 1) := by decide +kernel
theorem dX7_clash_2 : decode cX7_clash 2 = .ok (.invokevirtual 228, 3) := by decide +kernel
theorem dX7_clash_5 : decode cX7_clash 5 = .ok (.astore_n 2, 1) := by decide +kernel
theorem dX7_clash_6 : decode cX7_clash 6 = .ok (.aload_n 2, 1) := by decide +kernel
theorem dX7_clash_7 : decode cX7_clash 7 = .ok (.ifnonnull 5, 3) := by decide +kernel
theorem dX7_clash_10 : decode cX7_clash 10 = .ok (.iconst (-1), 1) := by decide +kernel
theorem dX7_clash_11 : decode cX7_clash 11 = .ok (.ireturn, 1) := by decide +kernel
theorem dX7_clash_12 : decode cX7_clash 12 = .ok (.iconst 0, 1) := by decide +kernel
theorem dX7_clash_13 : decode cX7_clash 13 = .ok (.istore_n 3, 1) := by decide +kernel
theorem dX7_clash_14 : decode cX7_clash 14 = .ok (.iconst 0, 1) := by decide +kernel
theorem dX7_clash_15 : decode cX7_clash 15 = .ok (.istore 4, 2) := by decide +kernel
theorem dX7_clash_17 : decode cX7_clash 17 = .ok (.iload 4, 2) := by decide +kernel
theorem dX7_clash_19 : decode cX7_clash 19 = .ok (.aload_n 0, 1) := by decide +kernel
theorem dX7_clash_20 : decode cX7_clash 20 = .ok (.getfield 19, 3) := by decide +kernel
theorem dX7_clash_23 : decode cX7_clash 23 = .ok (.invokevirtual 57, 3) := by decide +kernel
theorem dX7_clash_26 : decode cX7_clash 26 = .ok (.if_icmp .ge 63, 3) := by decide +kernel
theorem dX7_clash_29 : decode cX7_clash 29 = .ok (.aload_n 0, 1) := by decide +kernel
theorem dX7_clash_30 : decode cX7_clash 30 = .ok (.getfield 19, 3) := by decide +kernel
theorem dX7_clash_33 : decode cX7_clash 33 = .ok (.iload 4, 2) := by decide +kernel
theorem dX7_clash_35 : decode cX7_clash 35 = .ok (.invokevirtual 94, 3) := by decide +kernel
theorem dX7_clash_38 : decode cX7_clash 38 = .ok (.checkcast 209, 3) := by decide +kernel
theorem dX7_clash_41 : decode cX7_clash 41 = .ok (.astore 5, 2) := by decide +kernel
theorem dX7_clash_43 : decode cX7_clash 43 = .ok (.iload 4, 2) := by decide +kernel
theorem dX7_clash_45 : decode cX7_clash 45 = .ok (.iload_n 1, 1) := by decide +kernel
theorem dX7_clash_46 : decode cX7_clash 46 = .ok (.if_icmp .eq 37, 3) := by decide +kernel
theorem dX7_clash_49 : decode cX7_clash 49 = .ok (.aload 5, 2) := by decide +kernel
theorem dX7_clash_51 : decode cX7_clash 51 = .ok (.aload_n 0, 1) := by decide +kernel
theorem dX7_clash_52 : decode cX7_clash 52 = .ok (.getfield 40, 3) := by decide +kernel
theorem dX7_clash_55 : decode cX7_clash 55 = .ok (.aload_n 0, 1) := by decide +kernel
theorem dX7_clash_56 : decode cX7_clash 56 = .ok (.getfield 40, 3) := by decide +kernel
theorem dX7_clash_59 : decode cX7_clash 59 = .ok (.invokevirtual 215, 3) := by decide +kernel
theorem dX7_clash_62 : decode cX7_clash 62 = .ok (.ifCond .eq 21, 3) := by decide +kernel
theorem dX7_clash_65 : decode cX7_clash 65 = .ok (.aload_n 2, 1) := by decide +kernel
theorem dX7_clash_66 : decode cX7_clash 66 = .ok (.getfield 211, 3) := by decide +kernel
theorem dX7_clash_69 : decode cX7_clash 69 = .ok (.aload 5, 2) := by decide +kernel
theorem dX7_clash_71 : decode cX7_clash 71 = .ok (.getfield 211, 3) := by decide +kernel
theorem dX7_clash_74 : decode cX7_clash 74 = .ok (.invokevirtual 218, 3) := by decide +kernel
theorem dX7_clash_77 : decode cX7_clash 77 = .ok (.ifCond .eq 6, 3) := by decide +kernel
theorem dX7_clash_80 : decode cX7_clash 80 = .ok (.iinc 3 1, 3) := by decide +kernel
theorem dX7_clash_83 : decode cX7_clash 83 = .ok (.iinc 4 1, 3) := by decide +kernel
theorem dX7_clash_86 : decode cX7_clash 86 = .ok (.goto (-69), 3) := by decide +kernel
theorem dX7_clash_89 : decode cX7_clash 89 = .ok (.iload_n 3, 1) := by decide +kernel
theorem dX7_clash_90 : decode cX7_clash 90 = .ok (.ireturn, 1) := by decide +kernel
set_option maxRecDepth 20000 in
theorem ggX7_told_X7_applicationAt : GoodIn wsX7_told wsX7_applicationAt := goodIn_r _ [6, 7, 8, 9, 10, 11, 12, 13, 14, 15, 16, 17, 18, 19, 20, 21, 22, 23, 24, 25, 26, 27, 28, 29, 30, 31, 58, 59, 60, 61, 62, 63, 64, 65, 66, 67, 68, 69] (by decide +kernel) (by decide +kernel)
set_option maxRecDepth 20000 in
theorem gX7_told_X7_applicationAt : GoodIn wsX7_told (wsV RX7 228 RX7 yX7_applicationAt wsX7_applicationAt) := goodIn_app (goodIn_of _ (by decide +kernel)) ggX7_told_X7_applicationAt
set_option maxRecDepth 20000 in
theorem ggX7_told_X0_tell : GoodIn wsX7_told wsX0_tell := goodIn_r _ [36, 37, 38, 39, 40, 41, 42, 43, 44, 45, 46, 47, 35, 48, 49, 50, 51, 52, 53, 54, 55, 56, 57, 70, 71, 72, 73, 74, 75, 76, 77, 78, 79, 80, 81, 82, 83, 84, 85, 86, 87, 88] (by decide +kernel) (by decide +kernel)
set_option maxRecDepth 20000 in
theorem gX7_told_X0_tell : GoodIn wsX7_told (wsV RX7 266 RX0 yX0_tell wsX0_tell) := goodIn_app (goodIn_of _ (by decide +kernel)) ggX7_told_X0_tell
theorem dX7_told_0 : decode cX7_told 0 = .ok (.aload_n 0, 1) := by decide +kernel
theorem dX7_told_1 : decode cX7_told 1 = .ok (.iload_n 1, 1) := by decide +kernel
theorem dX7_told_2 : decode cX7_told 2 = .ok (.invokevirtual 228, 3) := by decide +kernel
theorem dX7_told_5 : decode cX7_told 5 = .ok (.astore_n 3, 1) := by decide +kernel
theorem dX7_told_6 : decode cX7_told 6 = .ok (.aload_n 3, 1) := by decide +kernel
theorem dX7_told_7 : decode cX7_told 7 = .ok (.ifnonnull 7, 3) := by decide +kernel
theorem dX7_told_10 : decode cX7_told 10 = .ok (.iconst (-1), 1) := by decide +kernel
theorem dX7_told_11 : decode cX7_told 11 = .ok (.goto 12, 3) := by decide +kernel
theorem dX7_told_14 : decode cX7_told 14 = .ok (.aload_n 3, 1) := by decide +kernel
theorem dX7_told_15 : decode cX7_told 15 = .ok (.iload_n 2, 1) := by decide +kernel
theorem dX7_told_16 : decode cX7_told 16 = .ok (.aload_n 0, 1) := by decide +kernel
theorem dX7_told_17 : decode cX7_told 17 = .ok (.getfield 40, 3) := by decide +kernel
theorem dX7_told_20 : decode cX7_told 20 = .ok (.invokevirtual 266, 3) := by decide +kernel
theorem dX7_told_23 : decode cX7_told 23 = .ok (.ireturn, 1) := by decide +kernel
set_option maxRecDepth 20000 in
theorem ggX7_raze_X7_applicationAt : GoodIn wsX7_raze wsX7_applicationAt := goodIn_r _ [6, 7, 8, 9, 10, 11, 12, 13, 14, 15, 16, 17, 18, 19, 20, 21, 22, 23, 24, 25, 26, 27, 28, 29, 30, 31, 41, 42, 43, 44, 45, 46, 47, 48, 49, 50, 51, 52] (by decide +kernel) (by decide +kernel)
set_option maxRecDepth 20000 in
theorem gX7_raze_X7_applicationAt : GoodIn wsX7_raze (wsV RX7 228 RX7 yX7_applicationAt wsX7_applicationAt) := goodIn_app (goodIn_of _ (by decide +kernel)) ggX7_raze_X7_applicationAt
set_option maxRecDepth 20000 in
theorem ggX7_raze_X0_razeSince : GoodIn wsX7_raze wsX0_razeSince := goodIn_r _ [36, 37, 38, 39, 40, 53, 54, 55, 56, 57, 58, 59, 60, 61, 62, 63, 64] (by decide +kernel) (by decide +kernel)
set_option maxRecDepth 20000 in
theorem gX7_raze_X0_razeSince : GoodIn wsX7_raze (wsV RX7 268 RX0 yX0_razeSince wsX0_razeSince) := goodIn_app (goodIn_of _ (by decide +kernel)) ggX7_raze_X0_razeSince
theorem dX7_raze_0 : decode cX7_raze 0 = .ok (.aload_n 0, 1) := by decide +kernel
theorem dX7_raze_1 : decode cX7_raze 1 = .ok (.iload_n 1, 1) := by decide +kernel
theorem dX7_raze_2 : decode cX7_raze 2 = .ok (.invokevirtual 228, 3) := by decide +kernel
theorem dX7_raze_5 : decode cX7_raze 5 = .ok (.astore_n 3, 1) := by decide +kernel
theorem dX7_raze_6 : decode cX7_raze 6 = .ok (.aload_n 3, 1) := by decide +kernel
theorem dX7_raze_7 : decode cX7_raze 7 = .ok (.ifnull 11, 3) := by decide +kernel
theorem dX7_raze_10 : decode cX7_raze 10 = .ok (.iload_n 2, 1) := by decide +kernel
theorem dX7_raze_11 : decode cX7_raze 11 = .ok (.aload_n 0, 1) := by decide +kernel
theorem dX7_raze_12 : decode cX7_raze 12 = .ok (.getfield 40, 3) := by decide +kernel
theorem dX7_raze_15 : decode cX7_raze 15 = .ok (.if_icmp .le 5, 3) := by decide +kernel
theorem dX7_raze_18 : decode cX7_raze 18 = .ok (.iconst 0, 1) := by decide +kernel
theorem dX7_raze_19 : decode cX7_raze 19 = .ok (.ireturn, 1) := by decide +kernel
theorem dX7_raze_20 : decode cX7_raze 20 = .ok (.aload_n 3, 1) := by decide +kernel
theorem dX7_raze_21 : decode cX7_raze 21 = .ok (.iload_n 2, 1) := by decide +kernel
theorem dX7_raze_22 : decode cX7_raze 22 = .ok (.aload_n 0, 1) := by decide +kernel
theorem dX7_raze_23 : decode cX7_raze 23 = .ok (.getfield 40, 3) := by decide +kernel
theorem dX7_raze_26 : decode cX7_raze 26 = .ok (.invokevirtual 268, 3) := by decide +kernel
theorem dX7_raze_29 : decode cX7_raze 29 = .ok (.ireturn, 1) := by decide +kernel
set_option maxRecDepth 20000 in
theorem ggX7_stands_X7_applicationAt : GoodIn wsX7_stands wsX7_applicationAt := goodIn_r _ [5, 6, 7, 8, 9, 10, 11, 12, 13, 14, 15, 16, 17, 18, 19, 20, 21, 22, 23, 24, 25, 26, 27, 28, 29, 30, 46, 47, 48, 49, 50, 51, 52, 53, 54, 55, 56, 57] (by decide +kernel) (by decide +kernel)
set_option maxRecDepth 20000 in
theorem gX7_stands_X7_applicationAt : GoodIn wsX7_stands (wsV RX7 228 RX7 yX7_applicationAt wsX7_applicationAt) := goodIn_app (goodIn_of _ (by decide +kernel)) ggX7_stands_X7_applicationAt
set_option maxRecDepth 20000 in
theorem ggX7_stands_X7_isDay : GoodIn wsX7_stands wsX7_isDay := goodIn_r _ [33, 34, 35, 4, 36] (by decide +kernel) (by decide +kernel)
set_option maxRecDepth 20000 in
theorem gX7_stands_X7_isDay : GoodIn wsX7_stands (va_wsS RX7 105 yX7_isDay wsX7_isDay) := goodIn_app (goodIn_of _ (by decide +kernel)) ggX7_stands_X7_isDay
set_option maxRecDepth 20000 in
theorem ggX7_stands_X0_stoodOn : GoodIn wsX7_stands wsX0_stoodOn := goodIn_r _ [41, 42, 43, 44, 45, 58, 59, 60, 61, 62, 63, 64, 65, 66, 67, 68, 69] (by decide +kernel) (by decide +kernel)
set_option maxRecDepth 20000 in
theorem gX7_stands_X0_stoodOn : GoodIn wsX7_stands (wsV RX7 215 RX0 yX0_stoodOn wsX0_stoodOn) := goodIn_app (goodIn_of _ (by decide +kernel)) ggX7_stands_X0_stoodOn
theorem dX7_stands_0 : decode cX7_stands 0 = .ok (.aload_n 0, 1) := by decide +kernel
theorem dX7_stands_1 : decode cX7_stands 1 = .ok (.iload_n 1, 1) := by decide +kernel
theorem dX7_stands_2 : decode cX7_stands 2 = .ok (.invokevirtual 228, 3) := by decide +kernel
theorem dX7_stands_5 : decode cX7_stands 5 = .ok (.astore 4, 2) := by decide +kernel
theorem dX7_stands_7 : decode cX7_stands 7 = .ok (.aload 4, 2) := by decide +kernel
theorem dX7_stands_9 : decode cX7_stands 9 = .ok (.ifnull 17, 3) := by decide +kernel
theorem dX7_stands_12 : decode cX7_stands 12 = .ok (.iload_n 2, 1) := by decide +kernel
theorem dX7_stands_13 : decode cX7_stands 13 = .ok (.invokestatic 105, 3) := by decide +kernel
theorem dX7_stands_16 : decode cX7_stands 16 = .ok (.ifCond .eq 10, 3) := by decide +kernel
theorem dX7_stands_19 : decode cX7_stands 19 = .ok (.iload_n 3, 1) := by decide +kernel
theorem dX7_stands_20 : decode cX7_stands 20 = .ok (.invokestatic 105, 3) := by decide +kernel
theorem dX7_stands_23 : decode cX7_stands 23 = .ok (.ifCond .ne 5, 3) := by decide +kernel
theorem dX7_stands_26 : decode cX7_stands 26 = .ok (.iconst 0, 1) := by decide +kernel
theorem dX7_stands_27 : decode cX7_stands 27 = .ok (.ireturn, 1) := by decide +kernel
theorem dX7_stands_28 : decode cX7_stands 28 = .ok (.aload 4, 2) := by decide +kernel
theorem dX7_stands_30 : decode cX7_stands 30 = .ok (.iload_n 2, 1) := by decide +kernel
theorem dX7_stands_31 : decode cX7_stands 31 = .ok (.iload_n 3, 1) := by decide +kernel
theorem dX7_stands_32 : decode cX7_stands 32 = .ok (.invokevirtual 215, 3) := by decide +kernel
theorem dX7_stands_35 : decode cX7_stands 35 = .ok (.ireturn, 1) := by decide +kernel
set_option maxRecDepth 20000 in
theorem ggX7_applicationAt_Jx4a65c_size_8abf5 : GoodIn wsX7_applicationAt wsJx4a65c_size_8abf5 := goodIn_r _ [7, 8, 35, 36, 37] (by decide +kernel) (by decide +kernel)
set_option maxRecDepth 20000 in
theorem gX7_applicationAt_Jx4a65c_size_8abf5 : GoodIn wsX7_applicationAt (wsV RX7 57 RJx4a65c yJx4a65c_size_8abf5 wsJx4a65c_size_8abf5) := goodIn_app (goodIn_of _ (by decide +kernel)) ggX7_applicationAt_Jx4a65c_size_8abf5
set_option maxRecDepth 20000 in
theorem ggX7_applicationAt_Jx4a65c_get_915e3 : GoodIn wsX7_applicationAt wsJx4a65c_get_915e3 := goodIn_r _ [12, 8, 13, 14, 15, 16, 17, 18, 19, 20, 21, 22, 23, 6, 24, 25, 35, 36, 37] (by decide +kernel) (by decide +kernel)
set_option maxRecDepth 20000 in
theorem gX7_applicationAt_Jx4a65c_get_915e3 : GoodIn wsX7_applicationAt (wsV RX7 94 RJx4a65c yJx4a65c_get_915e3 wsJx4a65c_get_915e3) := goodIn_app (goodIn_of _ (by decide +kernel)) ggX7_applicationAt_Jx4a65c_get_915e3
theorem dX7_applicationAt_0 : decode cX7_applicationAt 0 = .ok (.iload_n 1, 1) := by decide +kernel
theorem dX7_applicationAt_1 : decode cX7_applicationAt 1 = .ok (.ifCond .lt 28, 3) := by decide +kernel
theorem dX7_applicationAt_4 : decode cX7_applicationAt 4 = .ok (.iload_n 1, 1) := by decide +kernel
theorem dX7_applicationAt_5 : decode cX7_applicationAt 5 = .ok (.aload_n 0, 1) := by decide +kernel
theorem dX7_applicationAt_6 : decode cX7_applicationAt 6 = .ok (.getfield 19, 3) := by decide +kernel
theorem dX7_applicationAt_9 : decode cX7_applicationAt 9 = .ok (.invokevirtual 57, 3) := by decide +kernel
theorem dX7_applicationAt_12 : decode cX7_applicationAt 12 = .ok (.if_icmp .ge 17, 3) := by decide +kernel
theorem dX7_applicationAt_15 : decode cX7_applicationAt 15 = .ok (.aload_n 0, 1) := by decide +kernel
theorem dX7_applicationAt_16 : decode cX7_applicationAt 16 = .ok (.getfield 19, 3) := by decide +kernel
theorem dX7_applicationAt_19 : decode cX7_applicationAt 19 = .ok (.iload_n 1, 1) := by decide +kernel
theorem dX7_applicationAt_20 : decode cX7_applicationAt 20 = .ok (.invokevirtual 94, 3) := by decide +kernel
theorem dX7_applicationAt_23 : decode cX7_applicationAt 23 = .ok (.checkcast 209, 3) := by decide +kernel
theorem dX7_applicationAt_26 : decode cX7_applicationAt 26 = .ok (.goto 4, 3) := by decide +kernel
theorem dX7_applicationAt_29 : decode cX7_applicationAt 29 = .ok (.aconst_null, 1) := by decide +kernel
theorem dX7_applicationAt_30 : decode cX7_applicationAt 30 = .ok (.areturn, 1) := by decide +kernel
set_option maxRecDepth 20000 in
theorem ggX7_standingToday_Jx4a65c_size_8abf5 : GoodIn wsX7_standingToday wsJx4a65c_size_8abf5 := goodIn_r _ [8, 9, 45, 46, 47] (by decide +kernel) (by decide +kernel)
set_option maxRecDepth 20000 in
theorem gX7_standingToday_Jx4a65c_size_8abf5 : GoodIn wsX7_standingToday (wsV RX7 57 RJx4a65c yJx4a65c_size_8abf5 wsJx4a65c_size_8abf5) := goodIn_app (goodIn_of _ (by decide +kernel)) ggX7_standingToday_Jx4a65c_size_8abf5
set_option maxRecDepth 20000 in
theorem ggX7_standingToday_Jx4a65c_get_915e3 : GoodIn wsX7_standingToday wsJx4a65c_get_915e3 := goodIn_r _ [13, 9, 14, 15, 16, 17, 18, 19, 20, 21, 22, 23, 24, 7, 25, 26, 45, 46, 47] (by decide +kernel) (by decide +kernel)
set_option maxRecDepth 20000 in
theorem gX7_standingToday_Jx4a65c_get_915e3 : GoodIn wsX7_standingToday (wsV RX7 94 RJx4a65c yJx4a65c_get_915e3 wsJx4a65c_get_915e3) := goodIn_app (goodIn_of _ (by decide +kernel)) ggX7_standingToday_Jx4a65c_get_915e3
set_option maxRecDepth 20000 in
theorem ggX7_standingToday_X0_stoodOn : GoodIn wsX7_standingToday wsX0_stoodOn := goodIn_r _ [31, 32, 33, 34, 35, 48, 49, 50, 51, 52, 53, 54, 55, 56, 57, 58, 59] (by decide +kernel) (by decide +kernel)
set_option maxRecDepth 20000 in
theorem gX7_standingToday_X0_stoodOn : GoodIn wsX7_standingToday (wsV RX7 215 RX0 yX0_stoodOn wsX0_stoodOn) := goodIn_app (goodIn_of _ (by decide +kernel)) ggX7_standingToday_X0_stoodOn
theorem dX7_standingToday_0 : decode cX7_standingToday 0 = .ok (.iconst 0, 1) := by decide +kernel
theorem dX7_standingToday_1 : decode cX7_standingToday 1 = .ok (.istore_n 1, 1) := by decide +kernel
theorem dX7_standingToday_2 : decode cX7_standingToday 2 = .ok (.iconst 0, 1) := by decide +kernel
theorem dX7_standingToday_3 : decode cX7_standingToday 3 = .ok (.istore_n 2, 1) := by decide +kernel
theorem dX7_standingToday_4 : decode cX7_standingToday 4 = .ok (.iload_n 2, 1) := by decide +kernel
theorem dX7_standingToday_5 : decode cX7_standingToday 5 = .ok (.aload_n 0, 1) := by decide +kernel
theorem dX7_standingToday_6 : decode cX7_standingToday 6 = .ok (.getfield 19, 3) := by decide +kernel
theorem dX7_standingToday_9 : decode cX7_standingToday 9 = .ok (.invokevirtual 57, 3) := by decide +kernel
theorem dX7_standingToday_12 : decode cX7_standingToday 12 = .ok (.if_icmp .ge 37, 3) := by decide +kernel
theorem dX7_standingToday_15 : decode cX7_standingToday 15 = .ok (.aload_n 0, 1) := by decide +kernel
theorem dX7_standingToday_16 : decode cX7_standingToday 16 = .ok (.getfield 19, 3) := by decide +kernel
theorem dX7_standingToday_19 : decode cX7_standingToday 19 = .ok (.iload_n 2, 1) := by decide +kernel
theorem dX7_standingToday_20 : decode cX7_standingToday 20 = .ok (.invokevirtual 94, 3) := by decide +kernel
theorem dX7_standingToday_23 : decode cX7_standingToday 23 = .ok (.checkcast 209, 3) := by decide +kernel
theorem dX7_standingToday_26 : decode cX7_standingToday 26 = .ok (.aload_n 0, 1) := by decide +kernel
theorem dX7_standingToday_27 : decode cX7_standingToday 27 = .ok (.getfield 40, 3) := by decide +kernel
theorem dX7_standingToday_30 : decode cX7_standingToday 30 = .ok (.aload_n 0, 1) := by decide +kernel
theorem dX7_standingToday_31 : decode cX7_standingToday 31 = .ok (.getfield 40, 3) := by decide +kernel
theorem dX7_standingToday_34 : decode cX7_standingToday 34 = .ok (.invokevirtual 215, 3) := by decide +kernel
theorem dX7_standingToday_37 : decode cX7_standingToday 37 = .ok (.ifCond .eq 6, 3) := by decide +kernel
theorem dX7_standingToday_40 : decode cX7_standingToday 40 = .ok (.iinc 1 1, 3) := by decide +kernel
theorem dX7_standingToday_43 : decode cX7_standingToday 43 = .ok (.iinc 2 1, 3) := by decide +kernel
theorem dX7_standingToday_46 : decode cX7_standingToday 46 = .ok (.goto (-42), 3) := by decide +kernel
theorem dX7_standingToday_49 : decode cX7_standingToday 49 = .ok (.iload_n 1, 1) := by decide +kernel
theorem dX7_standingToday_50 : decode cX7_standingToday 50 = .ok (.ireturn, 1) := by decide +kernel
set_option maxRecDepth 20000 in
theorem ggX7_hold_X7_ringAt : GoodIn wsX7_hold wsX7_ringAt := goodIn_r _ [10, 11, 12, 13, 14, 15, 16, 17, 18, 19, 20, 21, 22, 23, 24, 25, 26, 27, 28, 29, 30, 31, 32, 33, 34, 35, 102, 103, 104, 105, 106, 107, 108, 109, 110, 115, 116, 117] (by decide +kernel) (by decide +kernel)
set_option maxRecDepth 20000 in
theorem gX7_hold_X7_ringAt : GoodIn wsX7_hold (wsV RX7 75 RX7 yX7_ringAt wsX7_ringAt) := goodIn_app (goodIn_of _ (by decide +kernel)) ggX7_hold_X7_ringAt
set_option maxRecDepth 20000 in
theorem ggX7_hold_X7_isWithin : GoodIn wsX7_hold wsX7_isWithin := goodIn_r _ [38] (by decide +kernel) (by decide +kernel)
set_option maxRecDepth 20000 in
theorem gX7_hold_X7_isWithin : GoodIn wsX7_hold (va_wsS RX7 86 yX7_isWithin wsX7_isWithin) := goodIn_app (goodIn_of _ (by decide +kernel)) ggX7_hold_X7_isWithin
set_option maxRecDepth 20000 in
theorem ggX7_hold_Jx4a65c_size_8abf5 : GoodIn wsX7_hold wsJx4a65c_size_8abf5 := goodIn_r _ [17, 18, 115, 116, 117] (by decide +kernel) (by decide +kernel)
set_option maxRecDepth 20000 in
theorem gX7_hold_Jx4a65c_size_8abf5 : GoodIn wsX7_hold (wsV RX7 57 RJx4a65c yJx4a65c_size_8abf5 wsJx4a65c_size_8abf5) := goodIn_app (goodIn_of _ (by decide +kernel)) ggX7_hold_Jx4a65c_size_8abf5
set_option maxRecDepth 20000 in
theorem ggX7_hold_X2_init : GoodIn wsX7_hold wsX2_init := goodIn_r _ [41, 42, 43, 44, 45, 46, 47, 48, 111, 112, 113, 114] (by decide +kernel) (by decide +kernel)
set_option maxRecDepth 20000 in
theorem gX7_hold_X2_init : GoodIn wsX7_hold (wsX2_init) := ggX7_hold_X2_init
set_option maxRecDepth 20000 in
theorem ggX7_hold_Jx4a65c_add_9ea2d : GoodIn wsX7_hold wsJx4a65c_add_9ea2d := goodIn_r _ [52, 53, 54, 35, 18, 55, 56, 57, 16, 58, 59, 60, 61, 62, 63, 64, 65, 66, 67, 68, 69, 70, 71, 72, 73, 74, 75, 76, 77, 78, 79, 80, 81, 82, 83, 84, 85, 86, 87, 88, 89, 90, 91, 92, 93, 94, 95, 96, 97, 98, 99, 100, 101, 115, 116, 117] (by decide +kernel) (by decide +kernel)
set_option maxRecDepth 20000 in
theorem gX7_hold_Jx4a65c_add_9ea2d : GoodIn wsX7_hold (wsV RX7 71 RJx4a65c yJx4a65c_add_9ea2d wsJx4a65c_add_9ea2d) := goodIn_app (goodIn_of _ (by decide +kernel)) ggX7_hold_Jx4a65c_add_9ea2d
theorem dX7_hold_0 : decode cX7_hold 0 = .ok (.aload_n 0, 1) := by decide +kernel
theorem dX7_hold_1 : decode cX7_hold 1 = .ok (.iload_n 1, 1) := by decide +kernel
theorem dX7_hold_2 : decode cX7_hold 2 = .ok (.invokevirtual 75, 3) := by decide +kernel
theorem dX7_hold_5 : decode cX7_hold 5 = .ok (.ifnull 37, 3) := by decide +kernel
theorem dX7_hold_8 : decode cX7_hold 8 = .ok (.iload_n 2, 1) := by decide +kernel
theorem dX7_hold_9 : decode cX7_hold 9 = .ok (.iconst 0, 1) := by decide +kernel
theorem dX7_hold_10 : decode cX7_hold 10 = .ok (.bipush 99, 2) := by decide +kernel
theorem dX7_hold_12 : decode cX7_hold 12 = .ok (.invokestatic 86, 3) := by decide +kernel
theorem dX7_hold_15 : decode cX7_hold 15 = .ok (.ifCond .eq 27, 3) := by decide +kernel
theorem dX7_hold_18 : decode cX7_hold 18 = .ok (.iload_n 3, 1) := by decide +kernel
theorem dX7_hold_19 : decode cX7_hold 19 = .ok (.iconst 0, 1) := by decide +kernel
theorem dX7_hold_20 : decode cX7_hold 20 = .ok (.aload_n 0, 1) := by decide +kernel
theorem dX7_hold_21 : decode cX7_hold 21 = .ok (.getfield 40, 3) := by decide +kernel
theorem dX7_hold_24 : decode cX7_hold 24 = .ok (.invokestatic 86, 3) := by decide +kernel
theorem dX7_hold_27 : decode cX7_hold 27 = .ok (.ifCond .eq 15, 3) := by decide +kernel
theorem dX7_hold_30 : decode cX7_hold 30 = .ok (.aload_n 0, 1) := by decide +kernel
theorem dX7_hold_31 : decode cX7_hold 31 = .ok (.getfield 22, 3) := by decide +kernel
theorem dX7_hold_34 : decode cX7_hold 34 = .ok (.invokevirtual 57, 3) := by decide +kernel
theorem dX7_hold_37 : decode cX7_hold 37 = .ok (.bipush 100, 2) := by decide +kernel
theorem dX7_hold_39 : decode cX7_hold 39 = .ok (.if_icmp .lt 5, 3) := by decide +kernel
theorem dX7_hold_42 : decode cX7_hold 42 = .ok (.iconst 0, 1) := by decide +kernel
theorem dX7_hold_43 : decode cX7_hold 43 = .ok (.ireturn, 1) := by decide +kernel
theorem dX7_hold_44 : decode cX7_hold 44 = .ok (.aload_n 0, 1) := by decide +kernel
theorem dX7_hold_45 : decode cX7_hold 45 = .ok (.getfield 22, 3) := by decide +kernel
theorem dX7_hold_48 : decode cX7_hold 48 = .ok (.new 271, 3) := by decide +kernel
theorem dX7_hold_51 : decode cX7_hold 51 = .ok (.dup, 1) := by decide +kernel
theorem dX7_hold_52 : decode cX7_hold 52 = .ok (.iload_n 1, 1) := by decide +kernel
theorem dX7_hold_53 : decode cX7_hold 53 = .ok (.iload_n 2, 1) := by decide +kernel
theorem dX7_hold_54 : decode cX7_hold 54 = .ok (.iload_n 3, 1) := by decide +kernel
theorem dX7_hold_55 : decode cX7_hold 55 = .ok (.aload_n 0, 1) := by decide +kernel
theorem dX7_hold_56 : decode cX7_hold 56 = .ok (.getfield 40, 3) := by decide +kernel
theorem dX7_hold_59 : decode cX7_hold 59 = .ok (.invokespecial 273, 3) := by decide +kernel
theorem dX7_hold_62 : decode cX7_hold 62 = .ok (.invokevirtual 71, 3) := by decide +kernel
theorem dX7_hold_65 : decode cX7_hold 65 = .ok (.pop, 1) := by decide +kernel
theorem dX7_hold_66 : decode cX7_hold 66 = .ok (.iconst 1, 1) := by decide +kernel
theorem dX7_hold_67 : decode cX7_hold 67 = .ok (.ireturn, 1) := by decide +kernel
set_option maxRecDepth 20000 in
theorem ggX7_holder_X7_ringAt : GoodIn wsX7_holder wsX7_ringAt := goodIn_r _ [7, 8, 9, 10, 11, 12, 13, 14, 15, 16, 17, 18, 19, 20, 21, 22, 23, 24, 25, 26, 27, 28, 29, 30, 31, 32, 39, 40, 41, 42, 43, 44, 45, 46, 47, 52, 53, 54] (by decide +kernel) (by decide +kernel)
set_option maxRecDepth 20000 in
theorem gX7_holder_X7_ringAt : GoodIn wsX7_holder (wsV RX7 75 RX7 yX7_ringAt wsX7_ringAt) := goodIn_app (goodIn_of _ (by decide +kernel)) ggX7_holder_X7_ringAt
set_option maxRecDepth 20000 in
theorem ggX7_holder_X7_isDay : GoodIn wsX7_holder wsX7_isDay := goodIn_r _ [35, 36, 37, 6, 38] (by decide +kernel) (by decide +kernel)
set_option maxRecDepth 20000 in
theorem gX7_holder_X7_isDay : GoodIn wsX7_holder (va_wsS RX7 105 yX7_isDay wsX7_isDay) := goodIn_app (goodIn_of _ (by decide +kernel)) ggX7_holder_X7_isDay
set_option maxRecDepth 20000 in
theorem ggX7_holder_Jx4a65c_size_8abf5 : GoodIn wsX7_holder wsJx4a65c_size_8abf5 := goodIn_r _ [14, 15, 52, 53, 54] (by decide +kernel) (by decide +kernel)
set_option maxRecDepth 20000 in
theorem gX7_holder_Jx4a65c_size_8abf5 : GoodIn wsX7_holder (wsV RX7 57 RJx4a65c yJx4a65c_size_8abf5 wsJx4a65c_size_8abf5) := goodIn_app (goodIn_of _ (by decide +kernel)) ggX7_holder_Jx4a65c_size_8abf5
set_option maxRecDepth 20000 in
theorem ggX7_holder_Jx4a65c_get_915e3 : GoodIn wsX7_holder wsJx4a65c_get_915e3 := goodIn_r _ [19, 15, 20, 21, 22, 23, 24, 25, 26, 27, 28, 29, 30, 13, 31, 32, 52, 53, 54] (by decide +kernel) (by decide +kernel)
set_option maxRecDepth 20000 in
theorem gX7_holder_Jx4a65c_get_915e3 : GoodIn wsX7_holder (wsV RX7 94 RJx4a65c yJx4a65c_get_915e3 wsJx4a65c_get_915e3) := goodIn_app (goodIn_of _ (by decide +kernel)) ggX7_holder_Jx4a65c_get_915e3
theorem dX7_holder_0 : decode cX7_holder 0 = .ok (.aload_n 0, 1) := by decide +kernel
theorem dX7_holder_1 : decode cX7_holder 1 = .ok (.iload_n 1, 1) := by decide +kernel
theorem dX7_holder_2 : decode cX7_holder 2 = .ok (.invokevirtual 75, 3) := by decide +kernel
theorem dX7_holder_5 : decode cX7_holder 5 = .ok (.ifnull 17, 3) := by decide +kernel
theorem dX7_holder_8 : decode cX7_holder 8 = .ok (.iload_n 2, 1) := by decide +kernel
theorem dX7_holder_9 : decode cX7_holder 9 = .ok (.invokestatic 105, 3) := by decide +kernel
theorem dX7_holder_12 : decode cX7_holder 12 = .ok (.ifCond .eq 10, 3) := by decide +kernel
theorem dX7_holder_15 : decode cX7_holder 15 = .ok (.iload_n 3, 1) := by decide +kernel
theorem dX7_holder_16 : decode cX7_holder 16 = .ok (.invokestatic 105, 3) := by decide +kernel
theorem dX7_holder_19 : decode cX7_holder 19 = .ok (.ifCond .ne 5, 3) := by decide +kernel
theorem dX7_holder_22 : decode cX7_holder 22 = .ok (.iconst (-1), 1) := by decide +kernel
theorem dX7_holder_23 : decode cX7_holder 23 = .ok (.ireturn, 1) := by decide +kernel
theorem dX7_holder_24 : decode cX7_holder 24 = .ok (.iconst (-1), 1) := by decide +kernel
theorem dX7_holder_25 : decode cX7_holder 25 = .ok (.istore 4, 2) := by decide +kernel
theorem dX7_holder_27 : decode cX7_holder 27 = .ok (.iconst (-1), 1) := by decide +kernel
theorem dX7_holder_28 : decode cX7_holder 28 = .ok (.istore 5, 2) := by decide +kernel
theorem dX7_holder_30 : decode cX7_holder 30 = .ok (.iconst 0, 1) := by decide +kernel
theorem dX7_holder_31 : decode cX7_holder 31 = .ok (.istore 6, 2) := by decide +kernel
theorem dX7_holder_33 : decode cX7_holder 33 = .ok (.iload 6, 2) := by decide +kernel
theorem dX7_holder_35 : decode cX7_holder 35 = .ok (.aload_n 0, 1) := by decide +kernel
theorem dX7_holder_36 : decode cX7_holder 36 = .ok (.getfield 22, 3) := by decide +kernel
theorem dX7_holder_39 : decode cX7_holder 39 = .ok (.invokevirtual 57, 3) := by decide +kernel
theorem dX7_holder_42 : decode cX7_holder 42 = .ok (.if_icmp .ge 74, 3) := by decide +kernel
theorem dX7_holder_45 : decode cX7_holder 45 = .ok (.aload_n 0, 1) := by decide +kernel
theorem dX7_holder_46 : decode cX7_holder 46 = .ok (.getfield 22, 3) := by decide +kernel
theorem dX7_holder_49 : decode cX7_holder 49 = .ok (.iload 6, 2) := by decide +kernel
theorem dX7_holder_51 : decode cX7_holder 51 = .ok (.invokevirtual 94, 3) := by decide +kernel
theorem dX7_holder_54 : decode cX7_holder 54 = .ok (.checkcast 271, 3) := by decide +kernel
theorem dX7_holder_57 : decode cX7_holder 57 = .ok (.astore 7, 2) := by decide +kernel
theorem dX7_holder_59 : decode cX7_holder 59 = .ok (.aload 7, 2) := by decide +kernel
theorem dX7_holder_61 : decode cX7_holder 61 = .ok (.getfield 276, 3) := by decide +kernel
theorem dX7_holder_64 : decode cX7_holder 64 = .ok (.iload_n 1, 1) := by decide +kernel
theorem dX7_holder_65 : decode cX7_holder 65 = .ok (.if_icmp .ne 45, 3) := by decide +kernel
theorem dX7_holder_68 : decode cX7_holder 68 = .ok (.aload 7, 2) := by decide +kernel
theorem dX7_holder_70 : decode cX7_holder 70 = .ok (.getfield 277, 3) := by decide +kernel
theorem dX7_holder_73 : decode cX7_holder 73 = .ok (.iload_n 3, 1) := by decide +kernel
theorem dX7_holder_74 : decode cX7_holder 74 = .ok (.if_icmp .gt 36, 3) := by decide +kernel
theorem dX7_holder_77 : decode cX7_holder 77 = .ok (.aload 7, 2) := by decide +kernel
theorem dX7_holder_79 : decode cX7_holder 79 = .ok (.getfield 278, 3) := by decide +kernel
theorem dX7_holder_82 : decode cX7_holder 82 = .ok (.iload_n 2, 1) := by decide +kernel
theorem dX7_holder_83 : decode cX7_holder 83 = .ok (.if_icmp .gt 27, 3) := by decide +kernel
theorem dX7_holder_86 : decode cX7_holder 86 = .ok (.aload 7, 2) := by decide +kernel
theorem dX7_holder_88 : decode cX7_holder 88 = .ok (.getfield 278, 3) := by decide +kernel
theorem dX7_holder_91 : decode cX7_holder 91 = .ok (.iload 5, 2) := by decide +kernel
theorem dX7_holder_93 : decode cX7_holder 93 = .ok (.if_icmp .lt 17, 3) := by decide +kernel
theorem dX7_holder_96 : decode cX7_holder 96 = .ok (.aload 7, 2) := by decide +kernel
theorem dX7_holder_98 : decode cX7_holder 98 = .ok (.getfield 281, 3) := by decide +kernel
theorem dX7_holder_101 : decode cX7_holder 101 = .ok (.istore 4, 2) := by decide +kernel
theorem dX7_holder_103 : decode cX7_holder 103 = .ok (.aload 7, 2) := by decide +kernel
theorem dX7_holder_105 : decode cX7_holder 105 = .ok (.getfield 278, 3) := by decide +kernel
theorem dX7_holder_108 : decode cX7_holder 108 = .ok (.istore 5, 2) := by decide +kernel
theorem dX7_holder_110 : decode cX7_holder 110 = .ok (.iinc 6 1, 3) := by decide +kernel
theorem dX7_holder_113 : decode cX7_holder 113 = .ok (.goto (-80), 3) := by decide +kernel
theorem dX7_holder_116 : decode cX7_holder 116 = .ok (.iload 4, 2) := by decide +kernel
theorem dX7_holder_118 : decode cX7_holder 118 = .ok (.ireturn, 1) := by decide +kernel
set_option maxRecDepth 20000 in
theorem ggX7_count_Jx4a65c_size_8abf5 : GoodIn wsX7_count wsJx4a65c_size_8abf5 := goodIn_r _ [11, 12, 57, 58, 59] (by decide +kernel) (by decide +kernel)
set_option maxRecDepth 20000 in
theorem gX7_count_Jx4a65c_size_8abf5 : GoodIn wsX7_count (wsV RX7 57 RJx4a65c yJx4a65c_size_8abf5 wsJx4a65c_size_8abf5) := goodIn_app (goodIn_of _ (by decide +kernel)) ggX7_count_Jx4a65c_size_8abf5
set_option maxRecDepth 20000 in
theorem ggX7_count_X7_standingToday : GoodIn wsX7_count wsX7_standingToday := goodIn_r _ [17, 4, 18, 1, 7, 8, 9, 10, 11, 12, 19, 20, 21, 22, 23, 24, 25, 26, 27, 28, 29, 30, 31, 32, 33, 34, 35, 36, 37, 38, 39, 40, 41, 42, 43, 44, 45, 46, 47, 48, 49, 50, 51, 52, 53, 57, 58, 59, 60, 61, 62, 63, 64, 65, 66, 67, 68, 69, 70, 71] (by decide +kernel) (by decide +kernel)
set_option maxRecDepth 20000 in
theorem gX7_count_X7_standingToday : GoodIn wsX7_count (wsV RX7 284 RX7 yX7_standingToday wsX7_standingToday) := goodIn_app (goodIn_of _ (by decide +kernel)) ggX7_count_X7_standingToday
theorem dX7_count_0 : decode cX7_count 0 = .ok (.iload_n 1, 1) := by decide +kernel
theorem dX7_count_1 : decode cX7_count 1 = .ok (.tableswitch 90 0 6 #[43, 48, 56, 64, 72, 77, 85], 43) := by decide +kernel
theorem dX7_count_44 : decode cX7_count 44 = .ok (.aload_n 0, 1) := by decide +kernel
theorem dX7_count_45 : decode cX7_count 45 = .ok (.getfield 40, 3) := by decide +kernel
theorem dX7_count_48 : decode cX7_count 48 = .ok (.ireturn, 1) := by decide +kernel
theorem dX7_count_49 : decode cX7_count 49 = .ok (.aload_n 0, 1) := by decide +kernel
theorem dX7_count_50 : decode cX7_count 50 = .ok (.getfield 10, 3) := by decide +kernel
theorem dX7_count_53 : decode cX7_count 53 = .ok (.invokevirtual 57, 3) := by decide +kernel
theorem dX7_count_56 : decode cX7_count 56 = .ok (.ireturn, 1) := by decide +kernel
theorem dX7_count_57 : decode cX7_count 57 = .ok (.aload_n 0, 1) := by decide +kernel
theorem dX7_count_58 : decode cX7_count 58 = .ok (.getfield 16, 3) := by decide +kernel
theorem dX7_count_61 : decode cX7_count 61 = .ok (.invokevirtual 57, 3) := by decide +kernel
theorem dX7_count_64 : decode cX7_count 64 = .ok (.ireturn, 1) := by decide +kernel
theorem dX7_count_65 : decode cX7_count 65 = .ok (.aload_n 0, 1) := by decide +kernel
theorem dX7_count_66 : decode cX7_count 66 = .ok (.getfield 19, 3) := by decide +kernel
theorem dX7_count_69 : decode cX7_count 69 = .ok (.invokevirtual 57, 3) := by decide +kernel
theorem dX7_count_72 : decode cX7_count 72 = .ok (.ireturn, 1) := by decide +kernel
theorem dX7_count_73 : decode cX7_count 73 = .ok (.aload_n 0, 1) := by decide +kernel
theorem dX7_count_74 : decode cX7_count 74 = .ok (.getfield 36, 3) := by decide +kernel
theorem dX7_count_77 : decode cX7_count 77 = .ok (.ireturn, 1) := by decide +kernel
theorem dX7_count_78 : decode cX7_count 78 = .ok (.aload_n 0, 1) := by decide +kernel
theorem dX7_count_79 : decode cX7_count 79 = .ok (.getfield 32, 3) := by decide +kernel
theorem dX7_count_82 : decode cX7_count 82 = .ok (.getfield 54, 3) := by decide +kernel
theorem dX7_count_85 : decode cX7_count 85 = .ok (.ireturn, 1) := by decide +kernel
theorem dX7_count_86 : decode cX7_count 86 = .ok (.aload_n 0, 1) := by decide +kernel
theorem dX7_count_87 : decode cX7_count 87 = .ok (.invokevirtual 284, 3) := by decide +kernel
theorem dX7_count_90 : decode cX7_count 90 = .ok (.ireturn, 1) := by decide +kernel
theorem dX7_count_91 : decode cX7_count 91 = .ok (.iconst (-1), 1) := by decide +kernel
theorem dX7_count_92 : decode cX7_count 92 = .ok (.ireturn, 1) := by decide +kernel
set_option maxRecDepth 20000 in
theorem ggX7_isDay_X7_isWithin : GoodIn wsX7_isDay wsX7_isWithin := goodIn_r _ [4] (by decide +kernel) (by decide +kernel)
set_option maxRecDepth 20000 in
theorem gX7_isDay_X7_isWithin : GoodIn wsX7_isDay (va_wsS RX7 86 yX7_isWithin wsX7_isWithin) := goodIn_app (goodIn_of _ (by decide +kernel)) ggX7_isDay_X7_isWithin
theorem dX7_isDay_0 : decode cX7_isDay 0 = .ok (.iload_n 0, 1) := by decide +kernel
theorem dX7_isDay_1 : decode cX7_isDay 1 = .ok (.iconst 0, 1) := by decide +kernel
theorem dX7_isDay_2 : decode cX7_isDay 2 = .ok (.sipush 9999, 3) := by decide +kernel
theorem dX7_isDay_5 : decode cX7_isDay 5 = .ok (.invokestatic 86, 3) := by decide +kernel
theorem dX7_isDay_8 : decode cX7_isDay 8 = .ok (.ireturn, 1) := by decide +kernel
set_option maxRecDepth 20000 in
theorem ggX7_isPlace_X7_isWithin : GoodIn wsX7_isPlace wsX7_isWithin := goodIn_r _ [4] (by decide +kernel) (by decide +kernel)
set_option maxRecDepth 20000 in
theorem gX7_isPlace_X7_isWithin : GoodIn wsX7_isPlace (va_wsS RX7 86 yX7_isWithin wsX7_isWithin) := goodIn_app (goodIn_of _ (by decide +kernel)) ggX7_isPlace_X7_isWithin
theorem dX7_isPlace_0 : decode cX7_isPlace 0 = .ok (.iload_n 0, 1) := by decide +kernel
theorem dX7_isPlace_1 : decode cX7_isPlace 1 = .ok (.iconst 0, 1) := by decide +kernel
theorem dX7_isPlace_2 : decode cX7_isPlace 2 = .ok (.bipush 63, 2) := by decide +kernel
theorem dX7_isPlace_4 : decode cX7_isPlace 4 = .ok (.invokestatic 86, 3) := by decide +kernel
theorem dX7_isPlace_7 : decode cX7_isPlace 7 = .ok (.ireturn, 1) := by decide +kernel
theorem dX7_isWithin_0 : decode cX7_isWithin 0 = .ok (.iload_n 0, 1) := by decide +kernel
theorem dX7_isWithin_1 : decode cX7_isWithin 1 = .ok (.iload_n 1, 1) := by decide +kernel
theorem dX7_isWithin_2 : decode cX7_isWithin 2 = .ok (.if_icmp .lt 12, 3) := by decide +kernel
theorem dX7_isWithin_5 : decode cX7_isWithin 5 = .ok (.iload_n 0, 1) := by decide +kernel
theorem dX7_isWithin_6 : decode cX7_isWithin 6 = .ok (.iload_n 2, 1) := by decide +kernel
theorem dX7_isWithin_7 : decode cX7_isWithin 7 = .ok (.if_icmp .gt 7, 3) := by decide +kernel
theorem dX7_isWithin_10 : decode cX7_isWithin 10 = .ok (.iconst 1, 1) := by decide +kernel
theorem dX7_isWithin_11 : decode cX7_isWithin 11 = .ok (.goto 4, 3) := by decide +kernel
theorem dX7_isWithin_14 : decode cX7_isWithin 14 = .ok (.iconst 0, 1) := by decide +kernel
theorem dX7_isWithin_15 : decode cX7_isWithin 15 = .ok (.ireturn, 1) := by decide +kernel
