set_option maxRecDepth 20000 in
theorem ggX8_stands_X8_isApplication : GoodIn wsX8_stands wsX8_isApplication := goodIn_r _ [5, 6, 7, 8, 4, 9, 20, 21, 22, 23, 24, 25, 26, 27, 28, 29, 30, 31, 32, 33, 34, 35, 36, 37, 38, 39, 40, 41, 42, 43, 44, 45, 46, 47, 48, 49, 50, 51, 52, 53, 54, 55, 56, 57, 58, 59, 60, 61, 62, 63, 64] rfl (by decide +kernel)
set_option maxRecDepth 20000 in
theorem gX8_stands_X8_isApplication : GoodIn wsX8_stands (wsV RX8 229 RX8 yX8_isApplication wsX8_isApplication) := goodIn_app (goodIn_of _ (by decide +kernel)) ggX8_stands_X8_isApplication
set_option maxRecDepth 20000 in
theorem ggX8_stands_X8_isDay : GoodIn wsX8_stands wsX8_isDay := goodIn_r _ [12, 7, 8, 4, 9] rfl (by decide +kernel)
set_option maxRecDepth 20000 in
theorem gX8_stands_X8_isDay : GoodIn wsX8_stands (va_wsS RX8 216 yX8_isDay wsX8_isDay) := goodIn_app (goodIn_of _ (by decide +kernel)) ggX8_stands_X8_isDay
set_option maxRecDepth 20000 in
theorem ggX8_stands_X8_stood : GoodIn wsX8_stands wsX8_stood := goodIn_r _ [16, 17, 18, 19, 20, 21, 22, 23, 24, 25, 26, 27, 28, 29, 30, 31, 32, 33, 34, 35, 36, 37, 38, 39, 40, 41, 42, 43, 44, 45, 46, 47, 48, 49, 50, 51, 52, 53, 54, 55, 56, 57, 58, 59, 60, 61, 62, 63, 64] rfl (by decide +kernel)
set_option maxRecDepth 20000 in
theorem gX8_stands_X8_stood : GoodIn wsX8_stands (wsV RX8 232 RX8 yX8_stood wsX8_stood) := goodIn_app (goodIn_of _ (by decide +kernel)) ggX8_stands_X8_stood
theorem dX8_stands_0 : decode cX8_stands 0 = .ok (.aload_n 0, 1) := by decide +kernel
theorem dX8_stands_1 : decode cX8_stands 1 = .ok (.iload_n 1, 1) := by decide +kernel
theorem dX8_stands_2 : decode cX8_stands 2 = .ok (.invokevirtual 229, 3) := by decide +kernel
theorem dX8_stands_5 : decode cX8_stands 5 = .ok (.ifCond .eq 31, 3) := by decide +kernel
theorem dX8_stands_8 : decode cX8_stands 8 = .ok (.iload_n 2, 1) := by decide +kernel
theorem dX8_stands_9 : decode cX8_stands 9 = .ok (.invokestatic 216, 3) := by decide +kernel
theorem dX8_stands_12 : decode cX8_stands 12 = .ok (.ifCond .eq 24, 3) := by decide +kernel
theorem dX8_stands_15 : decode cX8_stands 15 = .ok (.iload_n 3, 1) := by decide +kernel
theorem dX8_stands_16 : decode cX8_stands 16 = .ok (.invokestatic 216, 3) := by decide +kernel
theorem dX8_stands_19 : decode cX8_stands 19 = .ok (.ifCond .eq 17, 3) := by decide +kernel
theorem dX8_stands_22 : decode cX8_stands 22 = .ok (.aload_n 0, 1) := by decide +kernel
theorem dX8_stands_23 : decode cX8_stands 23 = .ok (.iload_n 1, 1) := by decide +kernel
theorem dX8_stands_24 : decode cX8_stands 24 = .ok (.iload_n 2, 1) := by decide +kernel
theorem dX8_stands_25 : decode cX8_stands 25 = .ok (.iload_n 3, 1) := by decide +kernel
theorem dX8_stands_26 : decode cX8_stands 26 = .ok (.invokevirtual 232, 3) := by decide +kernel
theorem dX8_stands_29 : decode cX8_stands 29 = .ok (.ifCond .eq 7, 3) := by decide +kernel
theorem dX8_stands_32 : decode cX8_stands 32 = .ok (.iconst 1, 1) := by decide +kernel
theorem dX8_stands_33 : decode cX8_stands 33 = .ok (.goto 4, 3) := by decide +kernel
theorem dX8_stands_36 : decode cX8_stands 36 = .ok (.iconst 0, 1) := by decide +kernel
theorem dX8_stands_37 : decode cX8_stands 37 = .ok (.ireturn, 1) := by decide +kernel
theorem dX8_stood_0 : decode cX8_stood 0 = .ok (.aload_n 0, 1) := by decide +kernel
theorem dX8_stood_1 : decode cX8_stood 1 = .ok (.getfield 87, 3) := by decide +kernel
theorem dX8_stood_4 : decode cX8_stood 4 = .ok (.iload_n 1, 1) := by decide +kernel
theorem dX8_stood_5 : decode cX8_stood 5 = .ok (.iaload, 1) := by decide +kernel
theorem dX8_stood_6 : decode cX8_stood 6 = .ok (.iconst (-1), 1) := by decide +kernel
theorem dX8_stood_7 : decode cX8_stood 7 = .ok (.if_icmp .eq 23, 3) := by decide +kernel
theorem dX8_stood_10 : decode cX8_stood 10 = .ok (.aload_n 0, 1) := by decide +kernel
theorem dX8_stood_11 : decode cX8_stood 11 = .ok (.getfield 87, 3) := by decide +kernel
theorem dX8_stood_14 : decode cX8_stood 14 = .ok (.iload_n 1, 1) := by decide +kernel
theorem dX8_stood_15 : decode cX8_stood 15 = .ok (.iaload, 1) := by decide +kernel
theorem dX8_stood_16 : decode cX8_stood 16 = .ok (.iload_n 2, 1) := by decide +kernel
theorem dX8_stood_17 : decode cX8_stood 17 = .ok (.if_icmp .gt 13, 3) := by decide +kernel
theorem dX8_stood_20 : decode cX8_stood 20 = .ok (.aload_n 0, 1) := by decide +kernel
theorem dX8_stood_21 : decode cX8_stood 21 = .ok (.getfield 87, 3) := by decide +kernel
theorem dX8_stood_24 : decode cX8_stood 24 = .ok (.iload_n 1, 1) := by decide +kernel
theorem dX8_stood_25 : decode cX8_stood 25 = .ok (.iaload, 1) := by decide +kernel
theorem dX8_stood_26 : decode cX8_stood 26 = .ok (.iload_n 3, 1) := by decide +kernel
theorem dX8_stood_27 : decode cX8_stood 27 = .ok (.if_icmp .le 5, 3) := by decide +kernel
theorem dX8_stood_30 : decode cX8_stood 30 = .ok (.iconst 0, 1) := by decide +kernel
theorem dX8_stood_31 : decode cX8_stood 31 = .ok (.ireturn, 1) := by decide +kernel
theorem dX8_stood_32 : decode cX8_stood 32 = .ok (.aload_n 0, 1) := by decide +kernel
theorem dX8_stood_33 : decode cX8_stood 33 = .ok (.getfield 90, 3) := by decide +kernel
theorem dX8_stood_36 : decode cX8_stood 36 = .ok (.iload_n 1, 1) := by decide +kernel
theorem dX8_stood_37 : decode cX8_stood 37 = .ok (.iaload, 1) := by decide +kernel
theorem dX8_stood_38 : decode cX8_stood 38 = .ok (.iconst (-1), 1) := by decide +kernel
theorem dX8_stood_39 : decode cX8_stood 39 = .ok (.if_icmp .eq 23, 3) := by decide +kernel
theorem dX8_stood_42 : decode cX8_stood 42 = .ok (.aload_n 0, 1) := by decide +kernel
theorem dX8_stood_43 : decode cX8_stood 43 = .ok (.getfield 93, 3) := by decide +kernel
theorem dX8_stood_46 : decode cX8_stood 46 = .ok (.iload_n 1, 1) := by decide +kernel
theorem dX8_stood_47 : decode cX8_stood 47 = .ok (.iaload, 1) := by decide +kernel
theorem dX8_stood_48 : decode cX8_stood 48 = .ok (.iload_n 3, 1) := by decide +kernel
theorem dX8_stood_49 : decode cX8_stood 49 = .ok (.if_icmp .gt 13, 3) := by decide +kernel
theorem dX8_stood_52 : decode cX8_stood 52 = .ok (.iload_n 2, 1) := by decide +kernel
theorem dX8_stood_53 : decode cX8_stood 53 = .ok (.aload_n 0, 1) := by decide +kernel
theorem dX8_stood_54 : decode cX8_stood 54 = .ok (.getfield 90, 3) := by decide +kernel
theorem dX8_stood_57 : decode cX8_stood 57 = .ok (.iload_n 1, 1) := by decide +kernel
theorem dX8_stood_58 : decode cX8_stood 58 = .ok (.iaload, 1) := by decide +kernel
theorem dX8_stood_59 : decode cX8_stood 59 = .ok (.if_icmp .ge 7, 3) := by decide +kernel
theorem dX8_stood_62 : decode cX8_stood 62 = .ok (.iconst 1, 1) := by decide +kernel
theorem dX8_stood_63 : decode cX8_stood 63 = .ok (.goto 4, 3) := by decide +kernel
theorem dX8_stood_66 : decode cX8_stood 66 = .ok (.iconst 0, 1) := by decide +kernel
theorem dX8_stood_67 : decode cX8_stood 67 = .ok (.ireturn, 1) := by decide +kernel
theorem dX8_meets_0 : decode cX8_meets 0 = .ok (.iload_n 2, 1) := by decide +kernel
theorem dX8_meets_1 : decode cX8_meets 1 = .ok (.iload 4, 2) := by decide +kernel
theorem dX8_meets_3 : decode cX8_meets 3 = .ok (.if_icmp .ge 55, 3) := by decide +kernel
theorem dX8_meets_6 : decode cX8_meets 6 = .ok (.iload_n 3, 1) := by decide +kernel
theorem dX8_meets_7 : decode cX8_meets 7 = .ok (.iload 5, 2) := by decide +kernel
theorem dX8_meets_9 : decode cX8_meets 9 = .ok (.if_icmp .ge 49, 3) := by decide +kernel
theorem dX8_meets_12 : decode cX8_meets 12 = .ok (.iload_n 2, 1) := by decide +kernel
theorem dX8_meets_13 : decode cX8_meets 13 = .ok (.aload_n 0, 1) := by decide +kernel
theorem dX8_meets_14 : decode cX8_meets 14 = .ok (.getfield 57, 3) := by decide +kernel
theorem dX8_meets_17 : decode cX8_meets 17 = .ok (.iload_n 1, 1) := by decide +kernel
theorem dX8_meets_18 : decode cX8_meets 18 = .ok (.iaload, 1) := by decide +kernel
theorem dX8_meets_19 : decode cX8_meets 19 = .ok (.if_icmp .ge 39, 3) := by decide +kernel
theorem dX8_meets_22 : decode cX8_meets 22 = .ok (.aload_n 0, 1) := by decide +kernel
theorem dX8_meets_23 : decode cX8_meets 23 = .ok (.getfield 51, 3) := by decide +kernel
theorem dX8_meets_26 : decode cX8_meets 26 = .ok (.iload_n 1, 1) := by decide +kernel
theorem dX8_meets_27 : decode cX8_meets 27 = .ok (.iaload, 1) := by decide +kernel
theorem dX8_meets_28 : decode cX8_meets 28 = .ok (.iload 4, 2) := by decide +kernel
theorem dX8_meets_30 : decode cX8_meets 30 = .ok (.if_icmp .ge 28, 3) := by decide +kernel
theorem dX8_meets_33 : decode cX8_meets 33 = .ok (.iload_n 3, 1) := by decide +kernel
theorem dX8_meets_34 : decode cX8_meets 34 = .ok (.aload_n 0, 1) := by decide +kernel
theorem dX8_meets_35 : decode cX8_meets 35 = .ok (.getfield 60, 3) := by decide +kernel
theorem dX8_meets_38 : decode cX8_meets 38 = .ok (.iload_n 1, 1) := by decide +kernel
theorem dX8_meets_39 : decode cX8_meets 39 = .ok (.iaload, 1) := by decide +kernel
theorem dX8_meets_40 : decode cX8_meets 40 = .ok (.if_icmp .ge 18, 3) := by decide +kernel
theorem dX8_meets_43 : decode cX8_meets 43 = .ok (.aload_n 0, 1) := by decide +kernel
theorem dX8_meets_44 : decode cX8_meets 44 = .ok (.getfield 54, 3) := by decide +kernel
theorem dX8_meets_47 : decode cX8_meets 47 = .ok (.iload_n 1, 1) := by decide +kernel
theorem dX8_meets_48 : decode cX8_meets 48 = .ok (.iaload, 1) := by decide +kernel
theorem dX8_meets_49 : decode cX8_meets 49 = .ok (.iload 5, 2) := by decide +kernel
theorem dX8_meets_51 : decode cX8_meets 51 = .ok (.if_icmp .ge 7, 3) := by decide +kernel
theorem dX8_meets_54 : decode cX8_meets 54 = .ok (.iconst 1, 1) := by decide +kernel
theorem dX8_meets_55 : decode cX8_meets 55 = .ok (.goto 4, 3) := by decide +kernel
theorem dX8_meets_58 : decode cX8_meets 58 = .ok (.iconst 0, 1) := by decide +kernel
theorem dX8_meets_59 : decode cX8_meets 59 = .ok (.ireturn, 1) := by decide +kernel
set_option maxRecDepth 20000 in
theorem ggX8_isDesign_X8_isIn : GoodIn wsX8_isDesign wsX8_isIn := goodIn_r _ [4] rfl (by decide +kernel)
set_option maxRecDepth 20000 in
theorem gX8_isDesign_X8_isIn : GoodIn wsX8_isDesign (va_wsS RX8 115 yX8_isIn wsX8_isIn) := goodIn_app (goodIn_of _ (by decide +kernel)) ggX8_isDesign_X8_isIn
theorem dX8_isDesign_0 : decode cX8_isDesign 0 = .ok (.iload_n 0, 1) := by decide +kernel
theorem dX8_isDesign_1 : decode cX8_isDesign 1 = .ok (.iconst 0, 1) := by decide +kernel
theorem dX8_isDesign_2 : decode cX8_isDesign 2 = .ok (.bipush 63, 2) := by decide +kernel
theorem dX8_isDesign_4 : decode cX8_isDesign 4 = .ok (.invokestatic 115, 3) := by decide +kernel
theorem dX8_isDesign_7 : decode cX8_isDesign 7 = .ok (.ifCond .eq 69, 3) := by decide +kernel
theorem dX8_isDesign_10 : decode cX8_isDesign 10 = .ok (.iload_n 2, 1) := by decide +kernel
theorem dX8_isDesign_11 : decode cX8_isDesign 11 = .ok (.iconst 0, 1) := by decide +kernel
theorem dX8_isDesign_12 : decode cX8_isDesign 12 = .ok (.bipush 63, 2) := by decide +kernel
theorem dX8_isDesign_14 : decode cX8_isDesign 14 = .ok (.invokestatic 115, 3) := by decide +kernel
theorem dX8_isDesign_17 : decode cX8_isDesign 17 = .ok (.ifCond .eq 59, 3) := by decide +kernel
theorem dX8_isDesign_20 : decode cX8_isDesign 20 = .ok (.iload_n 1, 1) := by decide +kernel
theorem dX8_isDesign_21 : decode cX8_isDesign 21 = .ok (.iconst 0, 1) := by decide +kernel
theorem dX8_isDesign_22 : decode cX8_isDesign 22 = .ok (.bipush 63, 2) := by decide +kernel
theorem dX8_isDesign_24 : decode cX8_isDesign 24 = .ok (.invokestatic 115, 3) := by decide +kernel
theorem dX8_isDesign_27 : decode cX8_isDesign 27 = .ok (.ifCond .eq 49, 3) := by decide +kernel
theorem dX8_isDesign_30 : decode cX8_isDesign 30 = .ok (.iload_n 3, 1) := by decide +kernel
theorem dX8_isDesign_31 : decode cX8_isDesign 31 = .ok (.iconst 0, 1) := by decide +kernel
theorem dX8_isDesign_32 : decode cX8_isDesign 32 = .ok (.bipush 63, 2) := by decide +kernel
theorem dX8_isDesign_34 : decode cX8_isDesign 34 = .ok (.invokestatic 115, 3) := by decide +kernel
theorem dX8_isDesign_37 : decode cX8_isDesign 37 = .ok (.ifCond .eq 39, 3) := by decide +kernel
theorem dX8_isDesign_40 : decode cX8_isDesign 40 = .ok (.iload_n 0, 1) := by decide +kernel
theorem dX8_isDesign_41 : decode cX8_isDesign 41 = .ok (.iload_n 2, 1) := by decide +kernel
theorem dX8_isDesign_42 : decode cX8_isDesign 42 = .ok (.if_icmp .ge 34, 3) := by decide +kernel
theorem dX8_isDesign_45 : decode cX8_isDesign 45 = .ok (.iload_n 1, 1) := by decide +kernel
theorem dX8_isDesign_46 : decode cX8_isDesign 46 = .ok (.iload_n 3, 1) := by decide +kernel
theorem dX8_isDesign_47 : decode cX8_isDesign 47 = .ok (.if_icmp .ge 29, 3) := by decide +kernel
theorem dX8_isDesign_50 : decode cX8_isDesign 50 = .ok (.iload 4, 2) := by decide +kernel
theorem dX8_isDesign_52 : decode cX8_isDesign 52 = .ok (.iconst 1, 1) := by decide +kernel
theorem dX8_isDesign_53 : decode cX8_isDesign 53 = .ok (.bipush 40, 2) := by decide +kernel
theorem dX8_isDesign_55 : decode cX8_isDesign 55 = .ok (.invokestatic 115, 3) := by decide +kernel
theorem dX8_isDesign_58 : decode cX8_isDesign 58 = .ok (.ifCond .eq 18, 3) := by decide +kernel
theorem dX8_isDesign_61 : decode cX8_isDesign 61 = .ok (.iload 5, 2) := by decide +kernel
theorem dX8_isDesign_63 : decode cX8_isDesign 63 = .ok (.iconst 0, 1) := by decide +kernel
theorem dX8_isDesign_64 : decode cX8_isDesign 64 = .ok (.bipush 7, 2) := by decide +kernel
theorem dX8_isDesign_66 : decode cX8_isDesign 66 = .ok (.invokestatic 115, 3) := by decide +kernel
theorem dX8_isDesign_69 : decode cX8_isDesign 69 = .ok (.ifCond .eq 7, 3) := by decide +kernel
theorem dX8_isDesign_72 : decode cX8_isDesign 72 = .ok (.iconst 1, 1) := by decide +kernel
theorem dX8_isDesign_73 : decode cX8_isDesign 73 = .ok (.goto 4, 3) := by decide +kernel
theorem dX8_isDesign_76 : decode cX8_isDesign 76 = .ok (.iconst 0, 1) := by decide +kernel
theorem dX8_isDesign_77 : decode cX8_isDesign 77 = .ok (.ireturn, 1) := by decide +kernel
set_option maxRecDepth 20000 in
theorem ggX8_judge_X8_isPlot : GoodIn wsX8_judge wsX8_isPlot := goodIn_r _ [5, 6, 7, 8, 4, 9, 71, 72, 73, 74, 75, 76, 77, 78, 79, 80, 81, 82, 83, 84, 85, 86, 87, 88, 89, 90, 91, 92, 93, 94, 95, 96, 97, 98, 99, 100, 101, 102, 103, 104, 105, 106, 107, 108, 109, 110, 111, 112, 113, 114, 115] rfl (by decide +kernel)
set_option maxRecDepth 20000 in
theorem gX8_judge_X8_isPlot : GoodIn wsX8_judge (wsV RX8 143 RX8 yX8_isPlot wsX8_isPlot) := goodIn_app (goodIn_of _ (by decide +kernel)) ggX8_judge_X8_isPlot
set_option maxRecDepth 20000 in
theorem ggX8_judge_X8_isDesign : GoodIn wsX8_judge wsX8_isDesign := goodIn_r _ [12, 7, 8, 4, 9] rfl (by decide +kernel)
set_option maxRecDepth 20000 in
theorem gX8_judge_X8_isDesign : GoodIn wsX8_judge (va_wsS RX8 235 yX8_isDesign wsX8_isDesign) := goodIn_app (goodIn_of _ (by decide +kernel)) ggX8_judge_X8_isDesign
set_option maxRecDepth 20000 in
theorem ggX8_judge_X8_isDay : GoodIn wsX8_judge wsX8_isDay := goodIn_r _ [15, 7, 8, 4, 9] rfl (by decide +kernel)
set_option maxRecDepth 20000 in
theorem gX8_judge_X8_isDay : GoodIn wsX8_judge (va_wsS RX8 216 yX8_isDay wsX8_isDay) := goodIn_app (goodIn_of _ (by decide +kernel)) ggX8_judge_X8_isDay
set_option maxRecDepth 20000 in
theorem ggX8_judge_X8_broken : GoodIn wsX8_judge wsX8_broken := goodIn_r _ [19, 20, 21, 22, 23, 24, 25, 26, 27, 28, 29, 30, 31, 32, 4, 33, 34, 35, 36, 37, 38, 39, 40, 41, 42, 13, 14, 15, 7, 8, 9, 43, 44, 45, 46, 47, 48, 49, 50, 51, 52, 53, 54, 55, 56, 57, 58, 59, 60, 61, 62, 63, 64, 65, 66, 67, 68, 69, 70, 71, 72, 73, 74, 75, 76, 77, 78, 79, 80, 81, 82, 83, 84, 85, 86, 87, 88, 89, 90, 91, 92, 93, 94, 95, 96, 97, 98, 99, 100, 101, 102, 103, 104, 105, 106, 107, 108, 109, 110, 111, 112, 113, 114, 115] rfl (by decide +kernel)
set_option maxRecDepth 20000 in
theorem gX8_judge_X8_broken : GoodIn wsX8_judge (wsV RX8 239 RX8 yX8_broken wsX8_broken) := goodIn_app (goodIn_of _ (by decide +kernel)) ggX8_judge_X8_broken
theorem dX8_judge_0 : decode cX8_judge 0 = .ok (.aload_n 0, 1) := by decide +kernel
theorem dX8_judge_1 : decode cX8_judge 1 = .ok (.iload_n 1, 1) := by decide +kernel
theorem dX8_judge_2 : decode cX8_judge 2 = .ok (.invokevirtual 143, 3) := by decide +kernel
theorem dX8_judge_5 : decode cX8_judge 5 = .ok (.ifCond .eq 57, 3) := by decide +kernel
theorem dX8_judge_8 : decode cX8_judge 8 = .ok (.iload_n 2, 1) := by decide +kernel
theorem dX8_judge_9 : decode cX8_judge 9 = .ok (.iload_n 3, 1) := by decide +kernel
theorem dX8_judge_10 : decode cX8_judge 10 = .ok (.iload 4, 2) := by decide +kernel
theorem dX8_judge_12 : decode cX8_judge 12 = .ok (.iload 5, 2) := by decide +kernel
theorem dX8_judge_14 : decode cX8_judge 14 = .ok (.iload 6, 2) := by decide +kernel
theorem dX8_judge_16 : decode cX8_judge 16 = .ok (.iload 7, 2) := by decide +kernel
theorem dX8_judge_18 : decode cX8_judge 18 = .ok (.invokestatic 235, 3) := by decide +kernel
theorem dX8_judge_21 : decode cX8_judge 21 = .ok (.ifCond .eq 41, 3) := by decide +kernel
theorem dX8_judge_24 : decode cX8_judge 24 = .ok (.iload 8, 2) := by decide +kernel
theorem dX8_judge_26 : decode cX8_judge 26 = .ok (.invokestatic 216, 3) := by decide +kernel
theorem dX8_judge_29 : decode cX8_judge 29 = .ok (.ifCond .eq 33, 3) := by decide +kernel
theorem dX8_judge_32 : decode cX8_judge 32 = .ok (.iload 9, 2) := by decide +kernel
theorem dX8_judge_34 : decode cX8_judge 34 = .ok (.invokestatic 216, 3) := by decide +kernel
theorem dX8_judge_37 : decode cX8_judge 37 = .ok (.ifCond .eq 25, 3) := by decide +kernel
theorem dX8_judge_40 : decode cX8_judge 40 = .ok (.aload_n 0, 1) := by decide +kernel
theorem dX8_judge_41 : decode cX8_judge 41 = .ok (.iload_n 1, 1) := by decide +kernel
theorem dX8_judge_42 : decode cX8_judge 42 = .ok (.iload_n 2, 1) := by decide +kernel
theorem dX8_judge_43 : decode cX8_judge 43 = .ok (.iload_n 3, 1) := by decide +kernel
theorem dX8_judge_44 : decode cX8_judge 44 = .ok (.iload 4, 2) := by decide +kernel
theorem dX8_judge_46 : decode cX8_judge 46 = .ok (.iload 5, 2) := by decide +kernel
theorem dX8_judge_48 : decode cX8_judge 48 = .ok (.iload 6, 2) := by decide +kernel
theorem dX8_judge_50 : decode cX8_judge 50 = .ok (.iload 7, 2) := by decide +kernel
theorem dX8_judge_52 : decode cX8_judge 52 = .ok (.iload 8, 2) := by decide +kernel
theorem dX8_judge_54 : decode cX8_judge 54 = .ok (.iload 9, 2) := by decide +kernel
theorem dX8_judge_56 : decode cX8_judge 56 = .ok (.invokevirtual 239, 3) := by decide +kernel
theorem dX8_judge_59 : decode cX8_judge 59 = .ok (.goto 4, 3) := by decide +kernel
theorem dX8_judge_62 : decode cX8_judge 62 = .ok (.iconst (-1), 1) := by decide +kernel
theorem dX8_judge_63 : decode cX8_judge 63 = .ok (.ireturn, 1) := by decide +kernel
set_option maxRecDepth 20000 in
theorem ggX8_broken_X8_left : GoodIn wsX8_broken wsX8_left := goodIn_r _ [15, 1, 16, 17, 59, 60, 61, 62, 63, 64, 65, 66, 67, 68, 69, 70, 71, 72, 73, 74, 75, 76, 77, 78, 79, 80, 81, 82, 83, 84, 85, 86, 87, 88, 89, 90, 91, 92, 93, 94, 95, 96, 97, 98, 99, 100, 101, 102, 103] rfl (by decide +kernel)
set_option maxRecDepth 20000 in
theorem gX8_broken_X8_left : GoodIn wsX8_broken (wsV RX8 131 RX8 yX8_left wsX8_left) := goodIn_app (goodIn_of _ (by decide +kernel)) ggX8_broken_X8_left
set_option maxRecDepth 20000 in
theorem ggX8_broken_X8_plan : GoodIn wsX8_broken wsX8_plan := goodIn_r _ [21, 22, 23, 24, 25, 26, 14, 27, 28, 29, 30, 59, 60, 61, 62, 63, 64, 65, 66, 67, 68, 69, 70, 71, 72, 73, 74, 75, 76, 77, 78, 79, 80, 81, 82, 83, 84, 85, 86, 87, 88, 89, 90, 91, 92, 93, 94, 95, 96, 97, 98, 99, 100, 101, 102, 103] rfl (by decide +kernel)
set_option maxRecDepth 20000 in
theorem gX8_broken_X8_plan : GoodIn wsX8_broken (wsV RX8 243 RX8 yX8_plan wsX8_plan) := goodIn_app (goodIn_of _ (by decide +kernel)) ggX8_broken_X8_plan
set_option maxRecDepth 20000 in
theorem ggX8_broken_X8_zoneOf : GoodIn wsX8_broken wsX8_zoneOf := goodIn_r _ [34, 35, 36, 59, 60, 61, 62, 63, 64, 65, 66, 67, 68, 69, 70, 71, 72, 73, 74, 75, 76, 77, 78, 79, 80, 81, 82, 83, 84, 85, 86, 87, 88, 89, 90, 91, 92, 93, 94, 95, 96, 97, 98, 99, 100, 101, 102, 103] rfl (by decide +kernel)
set_option maxRecDepth 20000 in
theorem gX8_broken_X8_zoneOf : GoodIn wsX8_broken (wsV RX8 225 RX8 yX8_zoneOf wsX8_zoneOf) := goodIn_app (goodIn_of _ (by decide +kernel)) ggX8_broken_X8_zoneOf
set_option maxRecDepth 20000 in
theorem ggX8_broken_X8_stood : GoodIn wsX8_broken wsX8_stood := goodIn_r _ [40, 41, 42, 43, 59, 60, 61, 62, 63, 64, 65, 66, 67, 68, 69, 70, 71, 72, 73, 74, 75, 76, 77, 78, 79, 80, 81, 82, 83, 84, 85, 86, 87, 88, 89, 90, 91, 92, 93, 94, 95, 96, 97, 98, 99, 100, 101, 102, 103] rfl (by decide +kernel)
set_option maxRecDepth 20000 in
theorem gX8_broken_X8_stood : GoodIn wsX8_broken (wsV RX8 232 RX8 yX8_stood wsX8_stood) := goodIn_app (goodIn_of _ (by decide +kernel)) ggX8_broken_X8_stood
set_option maxRecDepth 20000 in
theorem ggX8_broken_X8_area : GoodIn wsX8_broken wsX8_area := goodIn_r _ [47, 1, 11, 12, 13, 14, 15, 16, 17, 59, 60, 61, 62, 63, 64, 65, 66, 67, 68, 69, 70, 71, 72, 73, 74, 75, 76, 77, 78, 79, 80, 81, 82, 83, 84, 85, 86, 87, 88, 89, 90, 91, 92, 93, 94, 95, 96, 97, 98, 99, 100, 101, 102, 103] rfl (by decide +kernel)
set_option maxRecDepth 20000 in
theorem gX8_broken_X8_area : GoodIn wsX8_broken (wsV RX8 146 RX8 yX8_area wsX8_area) := goodIn_app (goodIn_of _ (by decide +kernel)) ggX8_broken_X8_area
set_option maxRecDepth 20000 in
theorem ggX8_broken_X8_isTight : GoodIn wsX8_broken wsX8_isTight := goodIn_r _ [51, 1, 16, 17, 52, 53, 14, 54, 59, 60, 61, 62, 63, 64, 65, 66, 67, 68, 69, 70, 71, 72, 73, 74, 75, 76, 77, 78, 79, 80, 81, 82, 83, 84, 85, 86, 87, 88, 89, 90, 91, 92, 93, 94, 95, 96, 97, 98, 99, 100, 101, 102, 103] rfl (by decide +kernel)
set_option maxRecDepth 20000 in
theorem gX8_broken_X8_isTight : GoodIn wsX8_broken (wsV RX8 248 RX8 yX8_isTight wsX8_isTight) := goodIn_app (goodIn_of _ (by decide +kernel)) ggX8_broken_X8_isTight
set_option maxRecDepth 20000 in
theorem ggX8_broken_X8_meets : GoodIn wsX8_broken wsX8_meets := goodIn_r _ [58, 6, 7, 8, 9, 59, 60, 61, 62, 63, 64, 65, 66, 67, 68, 69, 70, 71, 72, 73, 74, 75, 76, 77, 78, 79, 80, 81, 82, 83, 84, 85, 86, 87, 88, 89, 90, 91, 92, 93, 94, 95, 96, 97, 98, 99, 100, 101, 102, 103] rfl (by decide +kernel)
set_option maxRecDepth 20000 in
theorem gX8_broken_X8_meets : GoodIn wsX8_broken (wsV RX8 251 RX8 yX8_meets wsX8_meets) := goodIn_app (goodIn_of _ (by decide +kernel)) ggX8_broken_X8_meets
theorem dX8_broken_0 : decode cX8_broken 0 = .ok (.iconst 0, 1) := by decide +kernel
theorem dX8_broken_1 : decode cX8_broken 1 = .ok (.istore 10, 2) := by decide +kernel
theorem dX8_broken_3 : decode cX8_broken 3 = .ok (.iload 10, 2) := by decide +kernel
theorem dX8_broken_5 : decode cX8_broken 5 = .ok (.aload_n 0, 1) := by decide +kernel
theorem dX8_broken_6 : decode cX8_broken 6 = .ok (.getfield 7, 3) := by decide +kernel
theorem dX8_broken_9 : decode cX8_broken 9 = .ok (.iload_n 1, 1) := by decide +kernel
theorem dX8_broken_10 : decode cX8_broken 10 = .ok (.iaload, 1) := by decide +kernel
theorem dX8_broken_11 : decode cX8_broken 11 = .ok (.if_icmp .ge 63, 3) := by decide +kernel
theorem dX8_broken_14 : decode cX8_broken 14 = .ok (.aload_n 0, 1) := by decide +kernel
theorem dX8_broken_15 : decode cX8_broken 15 = .ok (.iload_n 1, 1) := by decide +kernel
theorem dX8_broken_16 : decode cX8_broken 16 = .ok (.iload 10, 2) := by decide +kernel
theorem dX8_broken_18 : decode cX8_broken 18 = .ok (.iload_n 2, 1) := by decide +kernel
theorem dX8_broken_19 : decode cX8_broken 19 = .ok (.iload_n 3, 1) := by decide +kernel
theorem dX8_broken_20 : decode cX8_broken 20 = .ok (.invokevirtual 131, 3) := by decide +kernel
theorem dX8_broken_23 : decode cX8_broken 23 = .ok (.ifCond .lt 43, 3) := by decide +kernel
theorem dX8_broken_26 : decode cX8_broken 26 = .ok (.aload_n 0, 1) := by decide +kernel
theorem dX8_broken_27 : decode cX8_broken 27 = .ok (.iload_n 1, 1) := by decide +kernel
theorem dX8_broken_28 : decode cX8_broken 28 = .ok (.iload 10, 2) := by decide +kernel
theorem dX8_broken_30 : decode cX8_broken 30 = .ok (.iload 4, 2) := by decide +kernel
theorem dX8_broken_32 : decode cX8_broken 32 = .ok (.iload_n 3, 1) := by decide +kernel
theorem dX8_broken_33 : decode cX8_broken 33 = .ok (.invokevirtual 131, 3) := by decide +kernel
theorem dX8_broken_36 : decode cX8_broken 36 = .ok (.ifCond .lt 30, 3) := by decide +kernel
theorem dX8_broken_39 : decode cX8_broken 39 = .ok (.aload_n 0, 1) := by decide +kernel
theorem dX8_broken_40 : decode cX8_broken 40 = .ok (.iload_n 1, 1) := by decide +kernel
theorem dX8_broken_41 : decode cX8_broken 41 = .ok (.iload 10, 2) := by decide +kernel
theorem dX8_broken_43 : decode cX8_broken 43 = .ok (.iload_n 2, 1) := by decide +kernel
theorem dX8_broken_44 : decode cX8_broken 44 = .ok (.iload 5, 2) := by decide +kernel
theorem dX8_broken_46 : decode cX8_broken 46 = .ok (.invokevirtual 131, 3) := by decide +kernel
theorem dX8_broken_49 : decode cX8_broken 49 = .ok (.ifCond .lt 17, 3) := by decide +kernel
theorem dX8_broken_52 : decode cX8_broken 52 = .ok (.aload_n 0, 1) := by decide +kernel
theorem dX8_broken_53 : decode cX8_broken 53 = .ok (.iload_n 1, 1) := by decide +kernel
theorem dX8_broken_54 : decode cX8_broken 54 = .ok (.iload 10, 2) := by decide +kernel
theorem dX8_broken_56 : decode cX8_broken 56 = .ok (.iload 4, 2) := by decide +kernel
theorem dX8_broken_58 : decode cX8_broken 58 = .ok (.iload 5, 2) := by decide +kernel
theorem dX8_broken_60 : decode cX8_broken 60 = .ok (.invokevirtual 131, 3) := by decide +kernel
theorem dX8_broken_63 : decode cX8_broken 63 = .ok (.ifCond .ge 5, 3) := by decide +kernel
theorem dX8_broken_66 : decode cX8_broken 66 = .ok (.iconst 1, 1) := by decide +kernel
theorem dX8_broken_67 : decode cX8_broken 67 = .ok (.ireturn, 1) := by decide +kernel
theorem dX8_broken_68 : decode cX8_broken 68 = .ok (.iinc 10 1, 3) := by decide +kernel
theorem dX8_broken_71 : decode cX8_broken 71 = .ok (.goto (-68), 3) := by decide +kernel
theorem dX8_broken_74 : decode cX8_broken 74 = .ok (.aload_n 0, 1) := by decide +kernel
theorem dX8_broken_75 : decode cX8_broken 75 = .ok (.iload 8, 2) := by decide +kernel
theorem dX8_broken_77 : decode cX8_broken 77 = .ok (.iload 9, 2) := by decide +kernel
theorem dX8_broken_79 : decode cX8_broken 79 = .ok (.invokevirtual 243, 3) := by decide +kernel
theorem dX8_broken_82 : decode cX8_broken 82 = .ok (.istore 10, 2) := by decide +kernel
theorem dX8_broken_84 : decode cX8_broken 84 = .ok (.iload 10, 2) := by decide +kernel
theorem dX8_broken_86 : decode cX8_broken 86 = .ok (.iconst (-1), 1) := by decide +kernel
theorem dX8_broken_87 : decode cX8_broken 87 = .ok (.if_icmp .ne 7, 3) := by decide +kernel
theorem dX8_broken_90 : decode cX8_broken 90 = .ok (.iconst (-1), 1) := by decide +kernel
theorem dX8_broken_91 : decode cX8_broken 91 = .ok (.goto 10, 3) := by decide +kernel
theorem dX8_broken_94 : decode cX8_broken 94 = .ok (.aload_n 0, 1) := by decide +kernel
theorem dX8_broken_95 : decode cX8_broken 95 = .ok (.iload 10, 2) := by decide +kernel
theorem dX8_broken_97 : decode cX8_broken 97 = .ok (.iload_n 1, 1) := by decide +kernel
theorem dX8_broken_98 : decode cX8_broken 98 = .ok (.invokevirtual 225, 3) := by decide +kernel
theorem dX8_broken_101 : decode cX8_broken 101 = .ok (.istore 11, 2) := by decide +kernel
theorem dX8_broken_103 : decode cX8_broken 103 = .ok (.iload 11, 2) := by decide +kernel
theorem dX8_broken_105 : decode cX8_broken 105 = .ok (.iconst (-1), 1) := by decide +kernel
theorem dX8_broken_106 : decode cX8_broken 106 = .ok (.if_icmp .ne 5, 3) := by decide +kernel
theorem dX8_broken_109 : decode cX8_broken 109 = .ok (.iconst 2, 1) := by decide +kernel
theorem dX8_broken_110 : decode cX8_broken 110 = .ok (.ireturn, 1) := by decide +kernel
theorem dX8_broken_111 : decode cX8_broken 111 = .ok (.aload_n 0, 1) := by decide +kernel
theorem dX8_broken_112 : decode cX8_broken 112 = .ok (.getfield 42, 3) := by decide +kernel
theorem dX8_broken_115 : decode cX8_broken 115 = .ok (.iload 11, 2) := by decide +kernel
theorem dX8_broken_117 : decode cX8_broken 117 = .ok (.iaload, 1) := by decide +kernel
theorem dX8_broken_118 : decode cX8_broken 118 = .ok (.iload 7, 2) := by decide +kernel
theorem dX8_broken_120 : decode cX8_broken 120 = .ok (.ishr, 1) := by decide +kernel
theorem dX8_broken_121 : decode cX8_broken 121 = .ok (.iconst 1, 1) := by decide +kernel
theorem dX8_broken_122 : decode cX8_broken 122 = .ok (.iand, 1) := by decide +kernel
theorem dX8_broken_123 : decode cX8_broken 123 = .ok (.ifCond .ne 5, 3) := by decide +kernel
theorem dX8_broken_126 : decode cX8_broken 126 = .ok (.iconst 3, 1) := by decide +kernel
theorem dX8_broken_127 : decode cX8_broken 127 = .ok (.ireturn, 1) := by decide +kernel
theorem dX8_broken_128 : decode cX8_broken 128 = .ok (.aload_n 0, 1) := by decide +kernel
theorem dX8_broken_129 : decode cX8_broken 129 = .ok (.getfield 45, 3) := by decide +kernel
theorem dX8_broken_132 : decode cX8_broken 132 = .ok (.iconst 4, 1) := by decide +kernel
theorem dX8_broken_133 : decode cX8_broken 133 = .ok (.iload 11, 2) := by decide +kernel
theorem dX8_broken_135 : decode cX8_broken 135 = .ok (.imul, 1) := by decide +kernel
theorem dX8_broken_136 : decode cX8_broken 136 = .ok (.iaload, 1) := by decide +kernel
theorem dX8_broken_137 : decode cX8_broken 137 = .ok (.iconst (-1), 1) := by decide +kernel
theorem dX8_broken_138 : decode cX8_broken 138 = .ok (.if_icmp .eq 19, 3) := by decide +kernel
theorem dX8_broken_141 : decode cX8_broken 141 = .ok (.iload 6, 2) := by decide +kernel
theorem dX8_broken_143 : decode cX8_broken 143 = .ok (.aload_n 0, 1) := by decide +kernel
theorem dX8_broken_144 : decode cX8_broken 144 = .ok (.getfield 45, 3) := by decide +kernel
theorem dX8_broken_147 : decode cX8_broken 147 = .ok (.iconst 4, 1) := by decide +kernel
theorem dX8_broken_148 : decode cX8_broken 148 = .ok (.iload 11, 2) := by decide +kernel
theorem dX8_broken_150 : decode cX8_broken 150 = .ok (.imul, 1) := by decide +kernel
theorem dX8_broken_151 : decode cX8_broken 151 = .ok (.iaload, 1) := by decide +kernel
theorem dX8_broken_152 : decode cX8_broken 152 = .ok (.if_icmp .le 5, 3) := by decide +kernel
theorem dX8_broken_155 : decode cX8_broken 155 = .ok (.iconst 4, 1) := by decide +kernel
theorem dX8_broken_156 : decode cX8_broken 156 = .ok (.ireturn, 1) := by decide +kernel
theorem dX8_broken_157 : decode cX8_broken 157 = .ok (.aload_n 0, 1) := by decide +kernel
theorem dX8_broken_158 : decode cX8_broken 158 = .ok (.getfield 45, 3) := by decide +kernel
theorem dX8_broken_161 : decode cX8_broken 161 = .ok (.iconst 4, 1) := by decide +kernel
theorem dX8_broken_162 : decode cX8_broken 162 = .ok (.iload 11, 2) := by decide +kernel
theorem dX8_broken_164 : decode cX8_broken 164 = .ok (.imul, 1) := by decide +kernel
theorem dX8_broken_165 : decode cX8_broken 165 = .ok (.iconst 1, 1) := by decide +kernel
theorem dX8_broken_166 : decode cX8_broken 166 = .ok (.iadd, 1) := by decide +kernel
theorem dX8_broken_167 : decode cX8_broken 167 = .ok (.iaload, 1) := by decide +kernel
theorem dX8_broken_168 : decode cX8_broken 168 = .ok (.iconst (-1), 1) := by decide +kernel
theorem dX8_broken_169 : decode cX8_broken 169 = .ok (.if_icmp .eq 124, 3) := by decide +kernel
theorem dX8_broken_172 : decode cX8_broken 172 = .ok (.iload 4, 2) := by decide +kernel
theorem dX8_broken_174 : decode cX8_broken 174 = .ok (.iload_n 2, 1) := by decide +kernel
theorem dX8_broken_175 : decode cX8_broken 175 = .ok (.isub, 1) := by decide +kernel
theorem dX8_broken_176 : decode cX8_broken 176 = .ok (.iload 5, 2) := by decide +kernel
theorem dX8_broken_178 : decode cX8_broken 178 = .ok (.iload_n 3, 1) := by decide +kernel
theorem dX8_broken_179 : decode cX8_broken 179 = .ok (.isub, 1) := by decide +kernel
theorem dX8_broken_180 : decode cX8_broken 180 = .ok (.imul, 1) := by decide +kernel
theorem dX8_broken_181 : decode cX8_broken 181 = .ok (.istore 12, 2) := by decide +kernel
theorem dX8_broken_183 : decode cX8_broken 183 = .ok (.iconst 0, 1) := by decide +kernel
theorem dX8_broken_184 : decode cX8_broken 184 = .ok (.istore 13, 2) := by decide +kernel
theorem dX8_broken_186 : decode cX8_broken 186 = .ok (.iload 13, 2) := by decide +kernel
theorem dX8_broken_188 : decode cX8_broken 188 = .ok (.aload_n 0, 1) := by decide +kernel
theorem dX8_broken_189 : decode cX8_broken 189 = .ok (.getfield 122, 3) := by decide +kernel
theorem dX8_broken_192 : decode cX8_broken 192 = .ok (.if_icmp .ge 69, 3) := by decide +kernel
theorem dX8_broken_195 : decode cX8_broken 195 = .ok (.aload_n 0, 1) := by decide +kernel
theorem dX8_broken_196 : decode cX8_broken 196 = .ok (.getfield 48, 3) := by decide +kernel
theorem dX8_broken_199 : decode cX8_broken 199 = .ok (.iload 13, 2) := by decide +kernel
theorem dX8_broken_201 : decode cX8_broken 201 = .ok (.iaload, 1) := by decide +kernel
theorem dX8_broken_202 : decode cX8_broken 202 = .ok (.iload_n 1, 1) := by decide +kernel
theorem dX8_broken_203 : decode cX8_broken 203 = .ok (.if_icmp .ne 52, 3) := by decide +kernel
theorem dX8_broken_206 : decode cX8_broken 206 = .ok (.aload_n 0, 1) := by decide +kernel
theorem dX8_broken_207 : decode cX8_broken 207 = .ok (.iload 13, 2) := by decide +kernel
theorem dX8_broken_209 : decode cX8_broken 209 = .ok (.iload 8, 2) := by decide +kernel
theorem dX8_broken_211 : decode cX8_broken 211 = .ok (.iload 9, 2) := by decide +kernel
theorem dX8_broken_213 : decode cX8_broken 213 = .ok (.invokevirtual 232, 3) := by decide +kernel
theorem dX8_broken_216 : decode cX8_broken 216 = .ok (.ifCond .eq 39, 3) := by decide +kernel
theorem dX8_broken_219 : decode cX8_broken 219 = .ok (.iload 12, 2) := by decide +kernel
theorem dX8_broken_221 : decode cX8_broken 221 = .ok (.aload_n 0, 1) := by decide +kernel
theorem dX8_broken_222 : decode cX8_broken 222 = .ok (.getfield 57, 3) := by decide +kernel
theorem dX8_broken_225 : decode cX8_broken 225 = .ok (.iload 13, 2) := by decide +kernel
theorem dX8_broken_227 : decode cX8_broken 227 = .ok (.iaload, 1) := by decide +kernel
theorem dX8_broken_228 : decode cX8_broken 228 = .ok (.aload_n 0, 1) := by decide +kernel
theorem dX8_broken_229 : decode cX8_broken 229 = .ok (.getfield 51, 3) := by decide +kernel
theorem dX8_broken_232 : decode cX8_broken 232 = .ok (.iload 13, 2) := by decide +kernel
theorem dX8_broken_234 : decode cX8_broken 234 = .ok (.iaload, 1) := by decide +kernel
theorem dX8_broken_235 : decode cX8_broken 235 = .ok (.isub, 1) := by decide +kernel
theorem dX8_broken_236 : decode cX8_broken 236 = .ok (.aload_n 0, 1) := by decide +kernel
theorem dX8_broken_237 : decode cX8_broken 237 = .ok (.getfield 60, 3) := by decide +kernel
theorem dX8_broken_240 : decode cX8_broken 240 = .ok (.iload 13, 2) := by decide +kernel
theorem dX8_broken_242 : decode cX8_broken 242 = .ok (.iaload, 1) := by decide +kernel
theorem dX8_broken_243 : decode cX8_broken 243 = .ok (.aload_n 0, 1) := by decide +kernel
theorem dX8_broken_244 : decode cX8_broken 244 = .ok (.getfield 54, 3) := by decide +kernel
theorem dX8_broken_247 : decode cX8_broken 247 = .ok (.iload 13, 2) := by decide +kernel
theorem dX8_broken_249 : decode cX8_broken 249 = .ok (.iaload, 1) := by decide +kernel
theorem dX8_broken_250 : decode cX8_broken 250 = .ok (.isub, 1) := by decide +kernel
theorem dX8_broken_251 : decode cX8_broken 251 = .ok (.imul, 1) := by decide +kernel
theorem dX8_broken_252 : decode cX8_broken 252 = .ok (.iadd, 1) := by decide +kernel
theorem dX8_broken_253 : decode cX8_broken 253 = .ok (.istore 12, 2) := by decide +kernel
theorem dX8_broken_255 : decode cX8_broken 255 = .ok (.iinc 13 1, 3) := by decide +kernel
theorem dX8_broken_258 : decode cX8_broken 258 = .ok (.goto (-72), 3) := by decide +kernel
theorem dX8_broken_261 : decode cX8_broken 261 = .ok (.ldc2_w 246, 3) := by decide +kernel
theorem dX8_broken_264 : decode cX8_broken 264 = .ok (.iload 12, 2) := by decide +kernel
theorem dX8_broken_266 : decode cX8_broken 266 = .ok (.i2l, 1) := by decide +kernel
theorem dX8_broken_267 : decode cX8_broken 267 = .ok (.lmul, 1) := by decide +kernel
theorem dX8_broken_268 : decode cX8_broken 268 = .ok (.aload_n 0, 1) := by decide +kernel
theorem dX8_broken_269 : decode cX8_broken 269 = .ok (.getfield 45, 3) := by decide +kernel
theorem dX8_broken_272 : decode cX8_broken 272 = .ok (.iconst 4, 1) := by decide +kernel
theorem dX8_broken_273 : decode cX8_broken 273 = .ok (.iload 11, 2) := by decide +kernel
theorem dX8_broken_275 : decode cX8_broken 275 = .ok (.imul, 1) := by decide +kernel
theorem dX8_broken_276 : decode cX8_broken 276 = .ok (.iconst 1, 1) := by decide +kernel
theorem dX8_broken_277 : decode cX8_broken 277 = .ok (.iadd, 1) := by decide +kernel
theorem dX8_broken_278 : decode cX8_broken 278 = .ok (.iaload, 1) := by decide +kernel
theorem dX8_broken_279 : decode cX8_broken 279 = .ok (.i2l, 1) := by decide +kernel
theorem dX8_broken_280 : decode cX8_broken 280 = .ok (.aload_n 0, 1) := by decide +kernel
theorem dX8_broken_281 : decode cX8_broken 281 = .ok (.iload_n 1, 1) := by decide +kernel
theorem dX8_broken_282 : decode cX8_broken 282 = .ok (.invokevirtual 146, 3) := by decide +kernel
theorem dX8_broken_285 : decode cX8_broken 285 = .ok (.i2l, 1) := by decide +kernel
theorem dX8_broken_286 : decode cX8_broken 286 = .ok (.lmul, 1) := by decide +kernel
theorem dX8_broken_287 : decode cX8_broken 287 = .ok (.lcmp, 1) := by decide +kernel
theorem dX8_broken_288 : decode cX8_broken 288 = .ok (.ifCond .le 5, 3) := by decide +kernel
theorem dX8_broken_291 : decode cX8_broken 291 = .ok (.iconst 5, 1) := by decide +kernel
theorem dX8_broken_292 : decode cX8_broken 292 = .ok (.ireturn, 1) := by decide +kernel
theorem dX8_broken_293 : decode cX8_broken 293 = .ok (.aload_n 0, 1) := by decide +kernel
theorem dX8_broken_294 : decode cX8_broken 294 = .ok (.getfield 45, 3) := by decide +kernel
theorem dX8_broken_297 : decode cX8_broken 297 = .ok (.iconst 4, 1) := by decide +kernel
theorem dX8_broken_298 : decode cX8_broken 298 = .ok (.iload 11, 2) := by decide +kernel
theorem dX8_broken_300 : decode cX8_broken 300 = .ok (.imul, 1) := by decide +kernel
theorem dX8_broken_301 : decode cX8_broken 301 = .ok (.iconst 2, 1) := by decide +kernel
theorem dX8_broken_302 : decode cX8_broken 302 = .ok (.iadd, 1) := by decide +kernel
theorem dX8_broken_303 : decode cX8_broken 303 = .ok (.iaload, 1) := by decide +kernel
theorem dX8_broken_304 : decode cX8_broken 304 = .ok (.iconst (-1), 1) := by decide +kernel
theorem dX8_broken_305 : decode cX8_broken 305 = .ok (.if_icmp .eq 31, 3) := by decide +kernel
theorem dX8_broken_308 : decode cX8_broken 308 = .ok (.aload_n 0, 1) := by decide +kernel
theorem dX8_broken_309 : decode cX8_broken 309 = .ok (.iload_n 1, 1) := by decide +kernel
theorem dX8_broken_310 : decode cX8_broken 310 = .ok (.iload_n 2, 1) := by decide +kernel
theorem dX8_broken_311 : decode cX8_broken 311 = .ok (.iload_n 3, 1) := by decide +kernel
theorem dX8_broken_312 : decode cX8_broken 312 = .ok (.iload 4, 2) := by decide +kernel
theorem dX8_broken_314 : decode cX8_broken 314 = .ok (.iload 5, 2) := by decide +kernel
theorem dX8_broken_316 : decode cX8_broken 316 = .ok (.aload_n 0, 1) := by decide +kernel
theorem dX8_broken_317 : decode cX8_broken 317 = .ok (.getfield 45, 3) := by decide +kernel
theorem dX8_broken_320 : decode cX8_broken 320 = .ok (.iconst 4, 1) := by decide +kernel
theorem dX8_broken_321 : decode cX8_broken 321 = .ok (.iload 11, 2) := by decide +kernel
theorem dX8_broken_323 : decode cX8_broken 323 = .ok (.imul, 1) := by decide +kernel
theorem dX8_broken_324 : decode cX8_broken 324 = .ok (.iconst 2, 1) := by decide +kernel
theorem dX8_broken_325 : decode cX8_broken 325 = .ok (.iadd, 1) := by decide +kernel
theorem dX8_broken_326 : decode cX8_broken 326 = .ok (.iaload, 1) := by decide +kernel
theorem dX8_broken_327 : decode cX8_broken 327 = .ok (.invokevirtual 248, 3) := by decide +kernel
theorem dX8_broken_330 : decode cX8_broken 330 = .ok (.ifCond .eq 6, 3) := by decide +kernel
theorem dX8_broken_333 : decode cX8_broken 333 = .ok (.bipush 6, 2) := by decide +kernel
theorem dX8_broken_335 : decode cX8_broken 335 = .ok (.ireturn, 1) := by decide +kernel
theorem dX8_broken_336 : decode cX8_broken 336 = .ok (.iconst 0, 1) := by decide +kernel
theorem dX8_broken_337 : decode cX8_broken 337 = .ok (.istore 12, 2) := by decide +kernel
theorem dX8_broken_339 : decode cX8_broken 339 = .ok (.iload 12, 2) := by decide +kernel
theorem dX8_broken_341 : decode cX8_broken 341 = .ok (.aload_n 0, 1) := by decide +kernel
theorem dX8_broken_342 : decode cX8_broken 342 = .ok (.getfield 122, 3) := by decide +kernel
theorem dX8_broken_345 : decode cX8_broken 345 = .ok (.if_icmp .ge 40, 3) := by decide +kernel
theorem dX8_broken_348 : decode cX8_broken 348 = .ok (.aload_n 0, 1) := by decide +kernel
theorem dX8_broken_349 : decode cX8_broken 349 = .ok (.iload 12, 2) := by decide +kernel
theorem dX8_broken_351 : decode cX8_broken 351 = .ok (.iload 8, 2) := by decide +kernel
theorem dX8_broken_353 : decode cX8_broken 353 = .ok (.iload 9, 2) := by decide +kernel
theorem dX8_broken_355 : decode cX8_broken 355 = .ok (.invokevirtual 232, 3) := by decide +kernel
theorem dX8_broken_358 : decode cX8_broken 358 = .ok (.ifCond .eq 21, 3) := by decide +kernel
theorem dX8_broken_361 : decode cX8_broken 361 = .ok (.aload_n 0, 1) := by decide +kernel
theorem dX8_broken_362 : decode cX8_broken 362 = .ok (.iload 12, 2) := by decide +kernel
theorem dX8_broken_364 : decode cX8_broken 364 = .ok (.iload_n 2, 1) := by decide +kernel
theorem dX8_broken_365 : decode cX8_broken 365 = .ok (.iload_n 3, 1) := by decide +kernel
theorem dX8_broken_366 : decode cX8_broken 366 = .ok (.iload 4, 2) := by decide +kernel
theorem dX8_broken_368 : decode cX8_broken 368 = .ok (.iload 5, 2) := by decide +kernel
theorem dX8_broken_370 : decode cX8_broken 370 = .ok (.invokevirtual 251, 3) := by decide +kernel
theorem dX8_broken_373 : decode cX8_broken 373 = .ok (.ifCond .eq 6, 3) := by decide +kernel
theorem dX8_broken_376 : decode cX8_broken 376 = .ok (.bipush 7, 2) := by decide +kernel
theorem dX8_broken_378 : decode cX8_broken 378 = .ok (.ireturn, 1) := by decide +kernel
theorem dX8_broken_379 : decode cX8_broken 379 = .ok (.iinc 12 1, 3) := by decide +kernel
theorem dX8_broken_382 : decode cX8_broken 382 = .ok (.goto (-43), 3) := by decide +kernel
theorem dX8_broken_385 : decode cX8_broken 385 = .ok (.aload_n 0, 1) := by decide +kernel
theorem dX8_broken_386 : decode cX8_broken 386 = .ok (.getfield 45, 3) := by decide +kernel
theorem dX8_broken_389 : decode cX8_broken 389 = .ok (.iconst 4, 1) := by decide +kernel
theorem dX8_broken_390 : decode cX8_broken 390 = .ok (.iload 11, 2) := by decide +kernel
theorem dX8_broken_392 : decode cX8_broken 392 = .ok (.imul, 1) := by decide +kernel
theorem dX8_broken_393 : decode cX8_broken 393 = .ok (.iconst 3, 1) := by decide +kernel
theorem dX8_broken_394 : decode cX8_broken 394 = .ok (.iadd, 1) := by decide +kernel
theorem dX8_broken_395 : decode cX8_broken 395 = .ok (.iaload, 1) := by decide +kernel
theorem dX8_broken_396 : decode cX8_broken 396 = .ok (.iconst (-1), 1) := by decide +kernel
theorem dX8_broken_397 : decode cX8_broken 397 = .ok (.if_icmp .ne 7, 3) := by decide +kernel
theorem dX8_broken_400 : decode cX8_broken 400 = .ok (.iconst 0, 1) := by decide +kernel
theorem dX8_broken_401 : decode cX8_broken 401 = .ok (.goto 20, 3) := by decide +kernel
theorem dX8_broken_404 : decode cX8_broken 404 = .ok (.iload 6, 2) := by decide +kernel
theorem dX8_broken_406 : decode cX8_broken 406 = .ok (.aload_n 0, 1) := by decide +kernel
theorem dX8_broken_407 : decode cX8_broken 407 = .ok (.getfield 45, 3) := by decide +kernel
theorem dX8_broken_410 : decode cX8_broken 410 = .ok (.iconst 4, 1) := by decide +kernel
theorem dX8_broken_411 : decode cX8_broken 411 = .ok (.iload 11, 2) := by decide +kernel
theorem dX8_broken_413 : decode cX8_broken 413 = .ok (.imul, 1) := by decide +kernel
theorem dX8_broken_414 : decode cX8_broken 414 = .ok (.iconst 3, 1) := by decide +kernel
theorem dX8_broken_415 : decode cX8_broken 415 = .ok (.iadd, 1) := by decide +kernel
theorem dX8_broken_416 : decode cX8_broken 416 = .ok (.iaload, 1) := by decide +kernel
theorem dX8_broken_417 : decode cX8_broken 417 = .ok (.imul, 1) := by decide +kernel
theorem dX8_broken_418 : decode cX8_broken 418 = .ok (.bipush 10, 2) := by decide +kernel
theorem dX8_broken_420 : decode cX8_broken 420 = .ok (.idiv, 1) := by decide +kernel
theorem dX8_broken_421 : decode cX8_broken 421 = .ok (.istore 12, 2) := by decide +kernel
theorem dX8_broken_423 : decode cX8_broken 423 = .ok (.iconst 0, 1) := by decide +kernel
theorem dX8_broken_424 : decode cX8_broken 424 = .ok (.istore 13, 2) := by decide +kernel
theorem dX8_broken_426 : decode cX8_broken 426 = .ok (.iload 13, 2) := by decide +kernel
theorem dX8_broken_428 : decode cX8_broken 428 = .ok (.aload_n 0, 1) := by decide +kernel
theorem dX8_broken_429 : decode cX8_broken 429 = .ok (.getfield 122, 3) := by decide +kernel
theorem dX8_broken_432 : decode cX8_broken 432 = .ok (.if_icmp .ge 55, 3) := by decide +kernel
theorem dX8_broken_435 : decode cX8_broken 435 = .ok (.aload_n 0, 1) := by decide +kernel
theorem dX8_broken_436 : decode cX8_broken 436 = .ok (.getfield 48, 3) := by decide +kernel
theorem dX8_broken_439 : decode cX8_broken 439 = .ok (.iload 13, 2) := by decide +kernel
theorem dX8_broken_441 : decode cX8_broken 441 = .ok (.iaload, 1) := by decide +kernel
theorem dX8_broken_442 : decode cX8_broken 442 = .ok (.iload_n 1, 1) := by decide +kernel
theorem dX8_broken_443 : decode cX8_broken 443 = .ok (.if_icmp .eq 38, 3) := by decide +kernel
theorem dX8_broken_446 : decode cX8_broken 446 = .ok (.aload_n 0, 1) := by decide +kernel
theorem dX8_broken_447 : decode cX8_broken 447 = .ok (.iload 13, 2) := by decide +kernel
theorem dX8_broken_449 : decode cX8_broken 449 = .ok (.iload 8, 2) := by decide +kernel
theorem dX8_broken_451 : decode cX8_broken 451 = .ok (.iload 9, 2) := by decide +kernel
theorem dX8_broken_453 : decode cX8_broken 453 = .ok (.invokevirtual 232, 3) := by decide +kernel
theorem dX8_broken_456 : decode cX8_broken 456 = .ok (.ifCond .eq 25, 3) := by decide +kernel
theorem dX8_broken_459 : decode cX8_broken 459 = .ok (.aload_n 0, 1) := by decide +kernel
theorem dX8_broken_460 : decode cX8_broken 460 = .ok (.iload 13, 2) := by decide +kernel
theorem dX8_broken_462 : decode cX8_broken 462 = .ok (.iload_n 2, 1) := by decide +kernel
theorem dX8_broken_463 : decode cX8_broken 463 = .ok (.iload 5, 2) := by decide +kernel
theorem dX8_broken_465 : decode cX8_broken 465 = .ok (.iload 4, 2) := by decide +kernel
theorem dX8_broken_467 : decode cX8_broken 467 = .ok (.iload 5, 2) := by decide +kernel
theorem dX8_broken_469 : decode cX8_broken 469 = .ok (.iload 12, 2) := by decide +kernel
theorem dX8_broken_471 : decode cX8_broken 471 = .ok (.iadd, 1) := by decide +kernel
theorem dX8_broken_472 : decode cX8_broken 472 = .ok (.invokevirtual 251, 3) := by decide +kernel
theorem dX8_broken_475 : decode cX8_broken 475 = .ok (.ifCond .eq 6, 3) := by decide +kernel
theorem dX8_broken_478 : decode cX8_broken 478 = .ok (.bipush 8, 2) := by decide +kernel
theorem dX8_broken_480 : decode cX8_broken 480 = .ok (.ireturn, 1) := by decide +kernel
theorem dX8_broken_481 : decode cX8_broken 481 = .ok (.iinc 13 1, 3) := by decide +kernel
theorem dX8_broken_484 : decode cX8_broken 484 = .ok (.goto (-58), 3) := by decide +kernel
theorem dX8_broken_487 : decode cX8_broken 487 = .ok (.iconst 0, 1) := by decide +kernel
theorem dX8_broken_488 : decode cX8_broken 488 = .ok (.ireturn, 1) := by decide +kernel
set_option maxRecDepth 20000 in
theorem ggX8_isTight_X8_reaches : GoodIn wsX8_isTight wsX8_reaches := goodIn_r _ [7] rfl (by decide +kernel)
set_option maxRecDepth 20000 in
theorem gX8_isTight_X8_reaches : GoodIn wsX8_isTight (va_wsS RX8 150 yX8_reaches wsX8_reaches) := goodIn_app (goodIn_of _ (by decide +kernel)) ggX8_isTight_X8_reaches
theorem dX8_isTight_0 : decode cX8_isTight 0 = .ok (.iconst 0, 1) := by decide +kernel
theorem dX8_isTight_1 : decode cX8_isTight 1 = .ok (.istore 7, 2) := by decide +kernel
theorem dX8_isTight_3 : decode cX8_isTight 3 = .ok (.iload 7, 2) := by decide +kernel
theorem dX8_isTight_5 : decode cX8_isTight 5 = .ok (.aload_n 0, 1) := by decide +kernel
theorem dX8_isTight_6 : decode cX8_isTight 6 = .ok (.getfield 7, 3) := by decide +kernel
theorem dX8_isTight_9 : decode cX8_isTight 9 = .ok (.iload_n 1, 1) := by decide +kernel
theorem dX8_isTight_10 : decode cX8_isTight 10 = .ok (.iaload, 1) := by decide +kernel
theorem dX8_isTight_11 : decode cX8_isTight 11 = .ok (.if_icmp .ge 304, 3) := by decide +kernel
theorem dX8_isTight_14 : decode cX8_isTight 14 = .ok (.bipush 8, 2) := by decide +kernel
theorem dX8_isTight_16 : decode cX8_isTight 16 = .ok (.iload_n 1, 1) := by decide +kernel
theorem dX8_isTight_17 : decode cX8_isTight 17 = .ok (.imul, 1) := by decide +kernel
theorem dX8_isTight_18 : decode cX8_isTight 18 = .ok (.iload 7, 2) := by decide +kernel
theorem dX8_isTight_20 : decode cX8_isTight 20 = .ok (.iadd, 1) := by decide +kernel
theorem dX8_isTight_21 : decode cX8_isTight 21 = .ok (.istore 8, 2) := by decide +kernel
theorem dX8_isTight_23 : decode cX8_isTight 23 = .ok (.bipush 8, 2) := by decide +kernel
theorem dX8_isTight_25 : decode cX8_isTight 25 = .ok (.iload_n 1, 1) := by decide +kernel
theorem dX8_isTight_26 : decode cX8_isTight 26 = .ok (.imul, 1) := by decide +kernel
theorem dX8_isTight_27 : decode cX8_isTight 27 = .ok (.iload 7, 2) := by decide +kernel
theorem dX8_isTight_29 : decode cX8_isTight 29 = .ok (.iconst 1, 1) := by decide +kernel
theorem dX8_isTight_30 : decode cX8_isTight 30 = .ok (.iadd, 1) := by decide +kernel
theorem dX8_isTight_31 : decode cX8_isTight 31 = .ok (.aload_n 0, 1) := by decide +kernel
theorem dX8_isTight_32 : decode cX8_isTight 32 = .ok (.getfield 7, 3) := by decide +kernel
theorem dX8_isTight_35 : decode cX8_isTight 35 = .ok (.iload_n 1, 1) := by decide +kernel
theorem dX8_isTight_36 : decode cX8_isTight 36 = .ok (.iaload, 1) := by decide +kernel
theorem dX8_isTight_37 : decode cX8_isTight 37 = .ok (.irem, 1) := by decide +kernel
theorem dX8_isTight_38 : decode cX8_isTight 38 = .ok (.iadd, 1) := by decide +kernel
theorem dX8_isTight_39 : decode cX8_isTight 39 = .ok (.istore 9, 2) := by decide +kernel
theorem dX8_isTight_41 : decode cX8_isTight 41 = .ok (.iload_n 2, 1) := by decide +kernel
theorem dX8_isTight_42 : decode cX8_isTight 42 = .ok (.iload_n 3, 1) := by decide +kernel
theorem dX8_isTight_43 : decode cX8_isTight 43 = .ok (.aload_n 0, 1) := by decide +kernel
theorem dX8_isTight_44 : decode cX8_isTight 44 = .ok (.getfield 13, 3) := by decide +kernel
theorem dX8_isTight_47 : decode cX8_isTight 47 = .ok (.iload 8, 2) := by decide +kernel
theorem dX8_isTight_49 : decode cX8_isTight 49 = .ok (.iaload, 1) := by decide +kernel
theorem dX8_isTight_50 : decode cX8_isTight 50 = .ok (.aload_n 0, 1) := by decide +kernel
theorem dX8_isTight_51 : decode cX8_isTight 51 = .ok (.getfield 16, 3) := by decide +kernel
theorem dX8_isTight_54 : decode cX8_isTight 54 = .ok (.iload 8, 2) := by decide +kernel
theorem dX8_isTight_56 : decode cX8_isTight 56 = .ok (.iaload, 1) := by decide +kernel
theorem dX8_isTight_57 : decode cX8_isTight 57 = .ok (.aload_n 0, 1) := by decide +kernel
theorem dX8_isTight_58 : decode cX8_isTight 58 = .ok (.getfield 13, 3) := by decide +kernel
theorem dX8_isTight_61 : decode cX8_isTight 61 = .ok (.iload 9, 2) := by decide +kernel
theorem dX8_isTight_63 : decode cX8_isTight 63 = .ok (.iaload, 1) := by decide +kernel
theorem dX8_isTight_64 : decode cX8_isTight 64 = .ok (.aload_n 0, 1) := by decide +kernel
theorem dX8_isTight_65 : decode cX8_isTight 65 = .ok (.getfield 16, 3) := by decide +kernel
theorem dX8_isTight_68 : decode cX8_isTight 68 = .ok (.iload 9, 2) := by decide +kernel
theorem dX8_isTight_70 : decode cX8_isTight 70 = .ok (.iaload, 1) := by decide +kernel
theorem dX8_isTight_71 : decode cX8_isTight 71 = .ok (.iload 6, 2) := by decide +kernel
theorem dX8_isTight_73 : decode cX8_isTight 73 = .ok (.i2l, 1) := by decide +kernel
theorem dX8_isTight_74 : decode cX8_isTight 74 = .ok (.iconst 1, 1) := by decide +kernel
theorem dX8_isTight_75 : decode cX8_isTight 75 = .ok (.invokestatic 150, 3) := by decide +kernel
theorem dX8_isTight_78 : decode cX8_isTight 78 = .ok (.ifCond .ne 44, 3) := by decide +kernel
theorem dX8_isTight_81 : decode cX8_isTight 81 = .ok (.iload 4, 2) := by decide +kernel
theorem dX8_isTight_83 : decode cX8_isTight 83 = .ok (.iload_n 3, 1) := by decide +kernel
theorem dX8_isTight_84 : decode cX8_isTight 84 = .ok (.aload_n 0, 1) := by decide +kernel
theorem dX8_isTight_85 : decode cX8_isTight 85 = .ok (.getfield 13, 3) := by decide +kernel
theorem dX8_isTight_88 : decode cX8_isTight 88 = .ok (.iload 8, 2) := by decide +kernel
theorem dX8_isTight_90 : decode cX8_isTight 90 = .ok (.iaload, 1) := by decide +kernel
theorem dX8_isTight_91 : decode cX8_isTight 91 = .ok (.aload_n 0, 1) := by decide +kernel
theorem dX8_isTight_92 : decode cX8_isTight 92 = .ok (.getfield 16, 3) := by decide +kernel
theorem dX8_isTight_95 : decode cX8_isTight 95 = .ok (.iload 8, 2) := by decide +kernel
theorem dX8_isTight_97 : decode cX8_isTight 97 = .ok (.iaload, 1) := by decide +kernel
theorem dX8_isTight_98 : decode cX8_isTight 98 = .ok (.aload_n 0, 1) := by decide +kernel
theorem dX8_isTight_99 : decode cX8_isTight 99 = .ok (.getfield 13, 3) := by decide +kernel
theorem dX8_isTight_102 : decode cX8_isTight 102 = .ok (.iload 9, 2) := by decide +kernel
theorem dX8_isTight_104 : decode cX8_isTight 104 = .ok (.iaload, 1) := by decide +kernel
theorem dX8_isTight_105 : decode cX8_isTight 105 = .ok (.aload_n 0, 1) := by decide +kernel
theorem dX8_isTight_106 : decode cX8_isTight 106 = .ok (.getfield 16, 3) := by decide +kernel
theorem dX8_isTight_109 : decode cX8_isTight 109 = .ok (.iload 9, 2) := by decide +kernel
theorem dX8_isTight_111 : decode cX8_isTight 111 = .ok (.iaload, 1) := by decide +kernel
theorem dX8_isTight_112 : decode cX8_isTight 112 = .ok (.iload 6, 2) := by decide +kernel
theorem dX8_isTight_114 : decode cX8_isTight 114 = .ok (.i2l, 1) := by decide +kernel
theorem dX8_isTight_115 : decode cX8_isTight 115 = .ok (.iconst 1, 1) := by decide +kernel
theorem dX8_isTight_116 : decode cX8_isTight 116 = .ok (.invokestatic 150, 3) := by decide +kernel
theorem dX8_isTight_119 : decode cX8_isTight 119 = .ok (.ifCond .eq 5, 3) := by decide +kernel
theorem dX8_isTight_122 : decode cX8_isTight 122 = .ok (.iconst 1, 1) := by decide +kernel
theorem dX8_isTight_123 : decode cX8_isTight 123 = .ok (.ireturn, 1) := by decide +kernel
theorem dX8_isTight_124 : decode cX8_isTight 124 = .ok (.iload_n 2, 1) := by decide +kernel
theorem dX8_isTight_125 : decode cX8_isTight 125 = .ok (.iload 5, 2) := by decide +kernel
theorem dX8_isTight_127 : decode cX8_isTight 127 = .ok (.aload_n 0, 1) := by decide +kernel
theorem dX8_isTight_128 : decode cX8_isTight 128 = .ok (.getfield 13, 3) := by decide +kernel
theorem dX8_isTight_131 : decode cX8_isTight 131 = .ok (.iload 8, 2) := by decide +kernel
theorem dX8_isTight_133 : decode cX8_isTight 133 = .ok (.iaload, 1) := by decide +kernel
theorem dX8_isTight_134 : decode cX8_isTight 134 = .ok (.aload_n 0, 1) := by decide +kernel
theorem dX8_isTight_135 : decode cX8_isTight 135 = .ok (.getfield 16, 3) := by decide +kernel
theorem dX8_isTight_138 : decode cX8_isTight 138 = .ok (.iload 8, 2) := by decide +kernel
theorem dX8_isTight_140 : decode cX8_isTight 140 = .ok (.iaload, 1) := by decide +kernel
theorem dX8_isTight_141 : decode cX8_isTight 141 = .ok (.aload_n 0, 1) := by decide +kernel
theorem dX8_isTight_142 : decode cX8_isTight 142 = .ok (.getfield 13, 3) := by decide +kernel
theorem dX8_isTight_145 : decode cX8_isTight 145 = .ok (.iload 9, 2) := by decide +kernel
theorem dX8_isTight_147 : decode cX8_isTight 147 = .ok (.iaload, 1) := by decide +kernel
theorem dX8_isTight_148 : decode cX8_isTight 148 = .ok (.aload_n 0, 1) := by decide +kernel
theorem dX8_isTight_149 : decode cX8_isTight 149 = .ok (.getfield 16, 3) := by decide +kernel
theorem dX8_isTight_152 : decode cX8_isTight 152 = .ok (.iload 9, 2) := by decide +kernel
theorem dX8_isTight_154 : decode cX8_isTight 154 = .ok (.iaload, 1) := by decide +kernel
theorem dX8_isTight_155 : decode cX8_isTight 155 = .ok (.iload 6, 2) := by decide +kernel
theorem dX8_isTight_157 : decode cX8_isTight 157 = .ok (.i2l, 1) := by decide +kernel
theorem dX8_isTight_158 : decode cX8_isTight 158 = .ok (.iconst 1, 1) := by decide +kernel
theorem dX8_isTight_159 : decode cX8_isTight 159 = .ok (.invokestatic 150, 3) := by decide +kernel
theorem dX8_isTight_162 : decode cX8_isTight 162 = .ok (.ifCond .ne 45, 3) := by decide +kernel
theorem dX8_isTight_165 : decode cX8_isTight 165 = .ok (.iload 4, 2) := by decide +kernel
theorem dX8_isTight_167 : decode cX8_isTight 167 = .ok (.iload 5, 2) := by decide +kernel
theorem dX8_isTight_169 : decode cX8_isTight 169 = .ok (.aload_n 0, 1) := by decide +kernel
theorem dX8_isTight_170 : decode cX8_isTight 170 = .ok (.getfield 13, 3) := by decide +kernel
theorem dX8_isTight_173 : decode cX8_isTight 173 = .ok (.iload 8, 2) := by decide +kernel
theorem dX8_isTight_175 : decode cX8_isTight 175 = .ok (.iaload, 1) := by decide +kernel
theorem dX8_isTight_176 : decode cX8_isTight 176 = .ok (.aload_n 0, 1) := by decide +kernel
theorem dX8_isTight_177 : decode cX8_isTight 177 = .ok (.getfield 16, 3) := by decide +kernel
theorem dX8_isTight_180 : decode cX8_isTight 180 = .ok (.iload 8, 2) := by decide +kernel
theorem dX8_isTight_182 : decode cX8_isTight 182 = .ok (.iaload, 1) := by decide +kernel
theorem dX8_isTight_183 : decode cX8_isTight 183 = .ok (.aload_n 0, 1) := by decide +kernel
theorem dX8_isTight_184 : decode cX8_isTight 184 = .ok (.getfield 13, 3) := by decide +kernel
theorem dX8_isTight_187 : decode cX8_isTight 187 = .ok (.iload 9, 2) := by decide +kernel
theorem dX8_isTight_189 : decode cX8_isTight 189 = .ok (.iaload, 1) := by decide +kernel
theorem dX8_isTight_190 : decode cX8_isTight 190 = .ok (.aload_n 0, 1) := by decide +kernel
theorem dX8_isTight_191 : decode cX8_isTight 191 = .ok (.getfield 16, 3) := by decide +kernel
theorem dX8_isTight_194 : decode cX8_isTight 194 = .ok (.iload 9, 2) := by decide +kernel
theorem dX8_isTight_196 : decode cX8_isTight 196 = .ok (.iaload, 1) := by decide +kernel
theorem dX8_isTight_197 : decode cX8_isTight 197 = .ok (.iload 6, 2) := by decide +kernel
theorem dX8_isTight_199 : decode cX8_isTight 199 = .ok (.i2l, 1) := by decide +kernel
theorem dX8_isTight_200 : decode cX8_isTight 200 = .ok (.iconst 1, 1) := by decide +kernel
theorem dX8_isTight_201 : decode cX8_isTight 201 = .ok (.invokestatic 150, 3) := by decide +kernel
theorem dX8_isTight_204 : decode cX8_isTight 204 = .ok (.ifCond .eq 5, 3) := by decide +kernel
theorem dX8_isTight_207 : decode cX8_isTight 207 = .ok (.iconst 1, 1) := by decide +kernel
theorem dX8_isTight_208 : decode cX8_isTight 208 = .ok (.ireturn, 1) := by decide +kernel
theorem dX8_isTight_209 : decode cX8_isTight 209 = .ok (.aload_n 0, 1) := by decide +kernel
theorem dX8_isTight_210 : decode cX8_isTight 210 = .ok (.getfield 13, 3) := by decide +kernel
theorem dX8_isTight_213 : decode cX8_isTight 213 = .ok (.iload 8, 2) := by decide +kernel
theorem dX8_isTight_215 : decode cX8_isTight 215 = .ok (.iaload, 1) := by decide +kernel
theorem dX8_isTight_216 : decode cX8_isTight 216 = .ok (.istore 10, 2) := by decide +kernel
theorem dX8_isTight_218 : decode cX8_isTight 218 = .ok (.aload_n 0, 1) := by decide +kernel
theorem dX8_isTight_219 : decode cX8_isTight 219 = .ok (.getfield 16, 3) := by decide +kernel
theorem dX8_isTight_222 : decode cX8_isTight 222 = .ok (.iload 8, 2) := by decide +kernel
theorem dX8_isTight_224 : decode cX8_isTight 224 = .ok (.iaload, 1) := by decide +kernel
theorem dX8_isTight_225 : decode cX8_isTight 225 = .ok (.istore 11, 2) := by decide +kernel
theorem dX8_isTight_227 : decode cX8_isTight 227 = .ok (.iload 10, 2) := by decide +kernel
theorem dX8_isTight_229 : decode cX8_isTight 229 = .ok (.iload 11, 2) := by decide +kernel
theorem dX8_isTight_231 : decode cX8_isTight 231 = .ok (.iload_n 2, 1) := by decide +kernel
theorem dX8_isTight_232 : decode cX8_isTight 232 = .ok (.iload_n 3, 1) := by decide +kernel
theorem dX8_isTight_233 : decode cX8_isTight 233 = .ok (.iload 4, 2) := by decide +kernel
theorem dX8_isTight_235 : decode cX8_isTight 235 = .ok (.iload_n 3, 1) := by decide +kernel
theorem dX8_isTight_236 : decode cX8_isTight 236 = .ok (.iload 6, 2) := by decide +kernel
theorem dX8_isTight_238 : decode cX8_isTight 238 = .ok (.i2l, 1) := by decide +kernel
theorem dX8_isTight_239 : decode cX8_isTight 239 = .ok (.iconst 1, 1) := by decide +kernel
theorem dX8_isTight_240 : decode cX8_isTight 240 = .ok (.invokestatic 150, 3) := by decide +kernel
theorem dX8_isTight_243 : decode cX8_isTight 243 = .ok (.ifCond .ne 64, 3) := by decide +kernel
theorem dX8_isTight_246 : decode cX8_isTight 246 = .ok (.iload 10, 2) := by decide +kernel
theorem dX8_isTight_248 : decode cX8_isTight 248 = .ok (.iload 11, 2) := by decide +kernel
theorem dX8_isTight_250 : decode cX8_isTight 250 = .ok (.iload 4, 2) := by decide +kernel
theorem dX8_isTight_252 : decode cX8_isTight 252 = .ok (.iload_n 3, 1) := by decide +kernel
theorem dX8_isTight_253 : decode cX8_isTight 253 = .ok (.iload 4, 2) := by decide +kernel
theorem dX8_isTight_255 : decode cX8_isTight 255 = .ok (.iload 5, 2) := by decide +kernel
theorem dX8_isTight_257 : decode cX8_isTight 257 = .ok (.iload 6, 2) := by decide +kernel
theorem dX8_isTight_259 : decode cX8_isTight 259 = .ok (.i2l, 1) := by decide +kernel
theorem dX8_isTight_260 : decode cX8_isTight 260 = .ok (.iconst 1, 1) := by decide +kernel
theorem dX8_isTight_261 : decode cX8_isTight 261 = .ok (.invokestatic 150, 3) := by decide +kernel
theorem dX8_isTight_264 : decode cX8_isTight 264 = .ok (.ifCond .ne 43, 3) := by decide +kernel
theorem dX8_isTight_267 : decode cX8_isTight 267 = .ok (.iload 10, 2) := by decide +kernel
theorem dX8_isTight_269 : decode cX8_isTight 269 = .ok (.iload 11, 2) := by decide +kernel
theorem dX8_isTight_271 : decode cX8_isTight 271 = .ok (.iload_n 2, 1) := by decide +kernel
theorem dX8_isTight_272 : decode cX8_isTight 272 = .ok (.iload 5, 2) := by decide +kernel
theorem dX8_isTight_274 : decode cX8_isTight 274 = .ok (.iload 4, 2) := by decide +kernel
theorem dX8_isTight_276 : decode cX8_isTight 276 = .ok (.iload 5, 2) := by decide +kernel
theorem dX8_isTight_278 : decode cX8_isTight 278 = .ok (.iload 6, 2) := by decide +kernel
theorem dX8_isTight_280 : decode cX8_isTight 280 = .ok (.i2l, 1) := by decide +kernel
theorem dX8_isTight_281 : decode cX8_isTight 281 = .ok (.iconst 1, 1) := by decide +kernel
theorem dX8_isTight_282 : decode cX8_isTight 282 = .ok (.invokestatic 150, 3) := by decide +kernel
theorem dX8_isTight_285 : decode cX8_isTight 285 = .ok (.ifCond .ne 22, 3) := by decide +kernel
theorem dX8_isTight_288 : decode cX8_isTight 288 = .ok (.iload 10, 2) := by decide +kernel
theorem dX8_isTight_290 : decode cX8_isTight 290 = .ok (.iload 11, 2) := by decide +kernel
theorem dX8_isTight_292 : decode cX8_isTight 292 = .ok (.iload_n 2, 1) := by decide +kernel
theorem dX8_isTight_293 : decode cX8_isTight 293 = .ok (.iload_n 3, 1) := by decide +kernel
theorem dX8_isTight_294 : decode cX8_isTight 294 = .ok (.iload_n 2, 1) := by decide +kernel
theorem dX8_isTight_295 : decode cX8_isTight 295 = .ok (.iload 5, 2) := by decide +kernel
theorem dX8_isTight_297 : decode cX8_isTight 297 = .ok (.iload 6, 2) := by decide +kernel
theorem dX8_isTight_299 : decode cX8_isTight 299 = .ok (.i2l, 1) := by decide +kernel
theorem dX8_isTight_300 : decode cX8_isTight 300 = .ok (.iconst 1, 1) := by decide +kernel
theorem dX8_isTight_301 : decode cX8_isTight 301 = .ok (.invokestatic 150, 3) := by decide +kernel
theorem dX8_isTight_304 : decode cX8_isTight 304 = .ok (.ifCond .eq 5, 3) := by decide +kernel
theorem dX8_isTight_307 : decode cX8_isTight 307 = .ok (.iconst 1, 1) := by decide +kernel
theorem dX8_isTight_308 : decode cX8_isTight 308 = .ok (.ireturn, 1) := by decide +kernel
theorem dX8_isTight_309 : decode cX8_isTight 309 = .ok (.iinc 7 1, 3) := by decide +kernel
theorem dX8_isTight_312 : decode cX8_isTight 312 = .ok (.goto (-309), 3) := by decide +kernel
theorem dX8_isTight_315 : decode cX8_isTight 315 = .ok (.iconst 0, 1) := by decide +kernel
theorem dX8_isTight_316 : decode cX8_isTight 316 = .ok (.ireturn, 1) := by decide +kernel
set_option maxRecDepth 20000 in
theorem ggX8_apply_X8_isPlot : GoodIn wsX8_apply wsX8_isPlot := goodIn_r _ [19, 20, 21, 22, 18, 23, 27, 28, 29, 30, 31, 32, 33, 34, 35, 36, 37, 38, 39, 40, 41, 42, 43, 44, 45, 46, 47, 48, 49, 50, 51, 52, 53, 54, 55, 56, 57, 58, 59, 60, 61, 62, 63, 64, 65, 66, 67, 68, 69, 70, 71] rfl (by decide +kernel)
set_option maxRecDepth 20000 in
theorem gX8_apply_X8_isPlot : GoodIn wsX8_apply (wsV RX8 143 RX8 yX8_isPlot wsX8_isPlot) := goodIn_app (goodIn_of _ (by decide +kernel)) ggX8_apply_X8_isPlot
set_option maxRecDepth 20000 in
theorem ggX8_apply_X8_isDesign : GoodIn wsX8_apply wsX8_isDesign := goodIn_r _ [26, 21, 22, 18, 23] rfl (by decide +kernel)
set_option maxRecDepth 20000 in
theorem gX8_apply_X8_isDesign : GoodIn wsX8_apply (va_wsS RX8 235 yX8_isDesign wsX8_isDesign) := goodIn_app (goodIn_of _ (by decide +kernel)) ggX8_apply_X8_isDesign
theorem dX8_apply_0 : decode cX8_apply 0 = .ok (.aload_n 0, 1) := by decide +kernel
theorem dX8_apply_1 : decode cX8_apply 1 = .ok (.iload_n 1, 1) := by decide +kernel
theorem dX8_apply_2 : decode cX8_apply 2 = .ok (.invokevirtual 143, 3) := by decide +kernel
theorem dX8_apply_5 : decode cX8_apply 5 = .ok (.ifCond .eq 28, 3) := by decide +kernel
theorem dX8_apply_8 : decode cX8_apply 8 = .ok (.iload_n 2, 1) := by decide +kernel
theorem dX8_apply_9 : decode cX8_apply 9 = .ok (.iload_n 3, 1) := by decide +kernel
theorem dX8_apply_10 : decode cX8_apply 10 = .ok (.iload 4, 2) := by decide +kernel
theorem dX8_apply_12 : decode cX8_apply 12 = .ok (.iload 5, 2) := by decide +kernel
theorem dX8_apply_14 : decode cX8_apply 14 = .ok (.iload 6, 2) := by decide +kernel
theorem dX8_apply_16 : decode cX8_apply 16 = .ok (.iload 7, 2) := by decide +kernel
theorem dX8_apply_18 : decode cX8_apply 18 = .ok (.invokestatic 235, 3) := by decide +kernel
theorem dX8_apply_21 : decode cX8_apply 21 = .ok (.ifCond .eq 12, 3) := by decide +kernel
theorem dX8_apply_24 : decode cX8_apply 24 = .ok (.aload_n 0, 1) := by decide +kernel
theorem dX8_apply_25 : decode cX8_apply 25 = .ok (.getfield 122, 3) := by decide +kernel
theorem dX8_apply_28 : decode cX8_apply 28 = .ok (.bipush 40, 2) := by decide +kernel
theorem dX8_apply_30 : decode cX8_apply 30 = .ok (.if_icmp .ne 5, 3) := by decide +kernel
theorem dX8_apply_33 : decode cX8_apply 33 = .ok (.iconst (-1), 1) := by decide +kernel
theorem dX8_apply_34 : decode cX8_apply 34 = .ok (.ireturn, 1) := by decide +kernel
theorem dX8_apply_35 : decode cX8_apply 35 = .ok (.aload_n 0, 1) := by decide +kernel
theorem dX8_apply_36 : decode cX8_apply 36 = .ok (.getfield 122, 3) := by decide +kernel
theorem dX8_apply_39 : decode cX8_apply 39 = .ok (.istore 8, 2) := by decide +kernel
theorem dX8_apply_41 : decode cX8_apply 41 = .ok (.aload_n 0, 1) := by decide +kernel
theorem dX8_apply_42 : decode cX8_apply 42 = .ok (.dup, 1) := by decide +kernel
theorem dX8_apply_43 : decode cX8_apply 43 = .ok (.getfield 122, 3) := by decide +kernel
theorem dX8_apply_46 : decode cX8_apply 46 = .ok (.iconst 1, 1) := by decide +kernel
theorem dX8_apply_47 : decode cX8_apply 47 = .ok (.iadd, 1) := by decide +kernel
theorem dX8_apply_48 : decode cX8_apply 48 = .ok (.putfield 122, 3) := by decide +kernel
theorem dX8_apply_51 : decode cX8_apply 51 = .ok (.aload_n 0, 1) := by decide +kernel
theorem dX8_apply_52 : decode cX8_apply 52 = .ok (.getfield 48, 3) := by decide +kernel
theorem dX8_apply_55 : decode cX8_apply 55 = .ok (.iload 8, 2) := by decide +kernel
theorem dX8_apply_57 : decode cX8_apply 57 = .ok (.iload_n 1, 1) := by decide +kernel
theorem dX8_apply_58 : decode cX8_apply 58 = .ok (.iastore, 1) := by decide +kernel
theorem dX8_apply_59 : decode cX8_apply 59 = .ok (.aload_n 0, 1) := by decide +kernel
theorem dX8_apply_60 : decode cX8_apply 60 = .ok (.getfield 51, 3) := by decide +kernel
theorem dX8_apply_63 : decode cX8_apply 63 = .ok (.iload 8, 2) := by decide +kernel
theorem dX8_apply_65 : decode cX8_apply 65 = .ok (.iload_n 2, 1) := by decide +kernel
theorem dX8_apply_66 : decode cX8_apply 66 = .ok (.iastore, 1) := by decide +kernel
theorem dX8_apply_67 : decode cX8_apply 67 = .ok (.aload_n 0, 1) := by decide +kernel
theorem dX8_apply_68 : decode cX8_apply 68 = .ok (.getfield 54, 3) := by decide +kernel
theorem dX8_apply_71 : decode cX8_apply 71 = .ok (.iload 8, 2) := by decide +kernel
theorem dX8_apply_73 : decode cX8_apply 73 = .ok (.iload_n 3, 1) := by decide +kernel
theorem dX8_apply_74 : decode cX8_apply 74 = .ok (.iastore, 1) := by decide +kernel
theorem dX8_apply_75 : decode cX8_apply 75 = .ok (.aload_n 0, 1) := by decide +kernel
theorem dX8_apply_76 : decode cX8_apply 76 = .ok (.getfield 57, 3) := by decide +kernel
theorem dX8_apply_79 : decode cX8_apply 79 = .ok (.iload 8, 2) := by decide +kernel
theorem dX8_apply_81 : decode cX8_apply 81 = .ok (.iload 4, 2) := by decide +kernel
theorem dX8_apply_83 : decode cX8_apply 83 = .ok (.iastore, 1) := by decide +kernel
theorem dX8_apply_84 : decode cX8_apply 84 = .ok (.aload_n 0, 1) := by decide +kernel
theorem dX8_apply_85 : decode cX8_apply 85 = .ok (.getfield 60, 3) := by decide +kernel
theorem dX8_apply_88 : decode cX8_apply 88 = .ok (.iload 8, 2) := by decide +kernel
theorem dX8_apply_90 : decode cX8_apply 90 = .ok (.iload 5, 2) := by decide +kernel
theorem dX8_apply_92 : decode cX8_apply 92 = .ok (.iastore, 1) := by decide +kernel
theorem dX8_apply_93 : decode cX8_apply 93 = .ok (.aload_n 0, 1) := by decide +kernel
theorem dX8_apply_94 : decode cX8_apply 94 = .ok (.getfield 63, 3) := by decide +kernel
theorem dX8_apply_97 : decode cX8_apply 97 = .ok (.iload 8, 2) := by decide +kernel
theorem dX8_apply_99 : decode cX8_apply 99 = .ok (.iload 6, 2) := by decide +kernel
theorem dX8_apply_101 : decode cX8_apply 101 = .ok (.iastore, 1) := by decide +kernel
theorem dX8_apply_102 : decode cX8_apply 102 = .ok (.aload_n 0, 1) := by decide +kernel
theorem dX8_apply_103 : decode cX8_apply 103 = .ok (.getfield 66, 3) := by decide +kernel
theorem dX8_apply_106 : decode cX8_apply 106 = .ok (.iload 8, 2) := by decide +kernel
theorem dX8_apply_108 : decode cX8_apply 108 = .ok (.iload 7, 2) := by decide +kernel
theorem dX8_apply_110 : decode cX8_apply 110 = .ok (.iastore, 1) := by decide +kernel
theorem dX8_apply_111 : decode cX8_apply 111 = .ok (.aload_n 0, 1) := by decide +kernel
theorem dX8_apply_112 : decode cX8_apply 112 = .ok (.getfield 69, 3) := by decide +kernel
theorem dX8_apply_115 : decode cX8_apply 115 = .ok (.iload 8, 2) := by decide +kernel
theorem dX8_apply_117 : decode cX8_apply 117 = .ok (.aload_n 0, 1) := by decide +kernel
theorem dX8_apply_118 : decode cX8_apply 118 = .ok (.getfield 125, 3) := by decide +kernel
theorem dX8_apply_121 : decode cX8_apply 121 = .ok (.iastore, 1) := by decide +kernel
theorem dX8_apply_122 : decode cX8_apply 122 = .ok (.aload_n 0, 1) := by decide +kernel
theorem dX8_apply_123 : decode cX8_apply 123 = .ok (.getfield 81, 3) := by decide +kernel
theorem dX8_apply_126 : decode cX8_apply 126 = .ok (.iload 8, 2) := by decide +kernel
theorem dX8_apply_128 : decode cX8_apply 128 = .ok (.iconst (-1), 1) := by decide +kernel
theorem dX8_apply_129 : decode cX8_apply 129 = .ok (.iastore, 1) := by decide +kernel
theorem dX8_apply_130 : decode cX8_apply 130 = .ok (.aload_n 0, 1) := by decide +kernel
theorem dX8_apply_131 : decode cX8_apply 131 = .ok (.getfield 84, 3) := by decide +kernel
theorem dX8_apply_134 : decode cX8_apply 134 = .ok (.iload 8, 2) := by decide +kernel
theorem dX8_apply_136 : decode cX8_apply 136 = .ok (.iconst (-1), 1) := by decide +kernel
theorem dX8_apply_137 : decode cX8_apply 137 = .ok (.iastore, 1) := by decide +kernel
theorem dX8_apply_138 : decode cX8_apply 138 = .ok (.aload_n 0, 1) := by decide +kernel
theorem dX8_apply_139 : decode cX8_apply 139 = .ok (.getfield 87, 3) := by decide +kernel
theorem dX8_apply_142 : decode cX8_apply 142 = .ok (.iload 8, 2) := by decide +kernel
theorem dX8_apply_144 : decode cX8_apply 144 = .ok (.iconst (-1), 1) := by decide +kernel
theorem dX8_apply_145 : decode cX8_apply 145 = .ok (.iastore, 1) := by decide +kernel
theorem dX8_apply_146 : decode cX8_apply 146 = .ok (.aload_n 0, 1) := by decide +kernel
theorem dX8_apply_147 : decode cX8_apply 147 = .ok (.getfield 90, 3) := by decide +kernel
theorem dX8_apply_150 : decode cX8_apply 150 = .ok (.iload 8, 2) := by decide +kernel
theorem dX8_apply_152 : decode cX8_apply 152 = .ok (.iconst (-1), 1) := by decide +kernel
theorem dX8_apply_153 : decode cX8_apply 153 = .ok (.iastore, 1) := by decide +kernel
theorem dX8_apply_154 : decode cX8_apply 154 = .ok (.iload 8, 2) := by decide +kernel
theorem dX8_apply_156 : decode cX8_apply 156 = .ok (.ireturn, 1) := by decide +kernel
theorem dX8_howNow_0 : decode cX8_howNow 0 = .ok (.aload_n 0, 1) := by decide +kernel
theorem dX8_howNow_1 : decode cX8_howNow 1 = .ok (.getfield 72, 3) := by decide +kernel
theorem dX8_howNow_4 : decode cX8_howNow 4 = .ok (.iload_n 1, 1) := by decide +kernel
theorem dX8_howNow_5 : decode cX8_howNow 5 = .ok (.iaload, 1) := by decide +kernel
theorem dX8_howNow_6 : decode cX8_howNow 6 = .ok (.iconst 1, 1) := by decide +kernel
theorem dX8_howNow_7 : decode cX8_howNow 7 = .ok (.if_icmp .ne 20, 3) := by decide +kernel
theorem dX8_howNow_10 : decode cX8_howNow 10 = .ok (.aload_n 0, 1) := by decide +kernel
theorem dX8_howNow_11 : decode cX8_howNow 11 = .ok (.getfield 125, 3) := by decide +kernel
theorem dX8_howNow_14 : decode cX8_howNow 14 = .ok (.aload_n 0, 1) := by decide +kernel
theorem dX8_howNow_15 : decode cX8_howNow 15 = .ok (.getfield 81, 3) := by decide +kernel
theorem dX8_howNow_18 : decode cX8_howNow 18 = .ok (.iload_n 1, 1) := by decide +kernel
theorem dX8_howNow_19 : decode cX8_howNow 19 = .ok (.iaload, 1) := by decide +kernel
theorem dX8_howNow_20 : decode cX8_howNow 20 = .ok (.sipush 400, 3) := by decide +kernel
theorem dX8_howNow_23 : decode cX8_howNow 23 = .ok (.iadd, 1) := by decide +kernel
theorem dX8_howNow_24 : decode cX8_howNow 24 = .ok (.if_icmp .gt 30, 3) := by decide +kernel
theorem dX8_howNow_27 : decode cX8_howNow 27 = .ok (.aload_n 0, 1) := by decide +kernel
theorem dX8_howNow_28 : decode cX8_howNow 28 = .ok (.getfield 72, 3) := by decide +kernel
theorem dX8_howNow_31 : decode cX8_howNow 31 = .ok (.iload_n 1, 1) := by decide +kernel
theorem dX8_howNow_32 : decode cX8_howNow 32 = .ok (.iaload, 1) := by decide +kernel
theorem dX8_howNow_33 : decode cX8_howNow 33 = .ok (.iconst 3, 1) := by decide +kernel
theorem dX8_howNow_34 : decode cX8_howNow 34 = .ok (.if_icmp .ne 22, 3) := by decide +kernel
theorem dX8_howNow_37 : decode cX8_howNow 37 = .ok (.aload_n 0, 1) := by decide +kernel
theorem dX8_howNow_38 : decode cX8_howNow 38 = .ok (.getfield 125, 3) := by decide +kernel
theorem dX8_howNow_41 : decode cX8_howNow 41 = .ok (.aload_n 0, 1) := by decide +kernel
theorem dX8_howNow_42 : decode cX8_howNow 42 = .ok (.getfield 84, 3) := by decide +kernel
theorem dX8_howNow_45 : decode cX8_howNow 45 = .ok (.iload_n 1, 1) := by decide +kernel
theorem dX8_howNow_46 : decode cX8_howNow 46 = .ok (.iaload, 1) := by decide +kernel
theorem dX8_howNow_47 : decode cX8_howNow 47 = .ok (.sipush 300, 3) := by decide +kernel
theorem dX8_howNow_50 : decode cX8_howNow 50 = .ok (.iadd, 1) := by decide +kernel
theorem dX8_howNow_51 : decode cX8_howNow 51 = .ok (.if_icmp .le 5, 3) := by decide +kernel
theorem dX8_howNow_54 : decode cX8_howNow 54 = .ok (.iconst 5, 1) := by decide +kernel
theorem dX8_howNow_55 : decode cX8_howNow 55 = .ok (.ireturn, 1) := by decide +kernel
theorem dX8_howNow_56 : decode cX8_howNow 56 = .ok (.aload_n 0, 1) := by decide +kernel
theorem dX8_howNow_57 : decode cX8_howNow 57 = .ok (.getfield 72, 3) := by decide +kernel
theorem dX8_howNow_60 : decode cX8_howNow 60 = .ok (.iload_n 1, 1) := by decide +kernel
theorem dX8_howNow_61 : decode cX8_howNow 61 = .ok (.iaload, 1) := by decide +kernel
theorem dX8_howNow_62 : decode cX8_howNow 62 = .ok (.ireturn, 1) := by decide +kernel
set_option maxRecDepth 20000 in
theorem ggX8_object_X8_isApplication : GoodIn wsX8_object wsX8_isApplication := goodIn_r _ [11, 12, 13, 14, 10, 15, 35, 36, 37, 38, 39, 40, 41, 42, 43, 44, 45, 46, 47, 48, 49, 50, 51, 52, 53, 54, 55, 56, 57, 58, 59, 60, 61, 62, 63, 64, 65, 66, 67, 68, 69, 70, 71, 72, 73, 74, 75, 76, 77, 78, 79] rfl (by decide +kernel)
set_option maxRecDepth 20000 in
theorem gX8_object_X8_isApplication : GoodIn wsX8_object (wsV RX8 229 RX8 yX8_isApplication wsX8_isApplication) := goodIn_app (goodIn_of _ (by decide +kernel)) ggX8_object_X8_isApplication
set_option maxRecDepth 20000 in
theorem ggX8_object_X8_isPlot : GoodIn wsX8_object wsX8_isPlot := goodIn_r _ [19, 20, 13, 14, 10, 15, 35, 36, 37, 38, 39, 40, 41, 42, 43, 44, 45, 46, 47, 48, 49, 50, 51, 52, 53, 54, 55, 56, 57, 58, 59, 60, 61, 62, 63, 64, 65, 66, 67, 68, 69, 70, 71, 72, 73, 74, 75, 76, 77, 78, 79] rfl (by decide +kernel)
set_option maxRecDepth 20000 in
theorem gX8_object_X8_isPlot : GoodIn wsX8_object (wsV RX8 143 RX8 yX8_isPlot wsX8_isPlot) := goodIn_app (goodIn_of _ (by decide +kernel)) ggX8_object_X8_isPlot
set_option maxRecDepth 20000 in
theorem ggX8_object_X8_isNear : GoodIn wsX8_object wsX8_isNear := goodIn_r _ [24, 25, 26, 27, 10, 28, 29, 30, 31, 32, 33, 34, 35, 36, 37, 38, 39, 40, 41, 42, 43, 44, 45, 46, 47, 48, 49, 50, 51, 52, 53, 54, 55, 56, 57, 58, 59, 60, 61, 62, 63, 64, 65, 66, 67, 68, 69, 70, 71, 72, 73, 74, 75, 76, 77, 78, 79] rfl (by decide +kernel)
set_option maxRecDepth 20000 in
theorem gX8_object_X8_isNear : GoodIn wsX8_object (wsV RX8 157 RX8 yX8_isNear wsX8_isNear) := goodIn_app (goodIn_of _ (by decide +kernel)) ggX8_object_X8_isNear
theorem dX8_object_0 : decode cX8_object 0 = .ok (.aload_n 0, 1) := by decide +kernel
theorem dX8_object_1 : decode cX8_object 1 = .ok (.iload_n 1, 1) := by decide +kernel
theorem dX8_object_2 : decode cX8_object 2 = .ok (.invokevirtual 229, 3) := by decide +kernel
theorem dX8_object_5 : decode cX8_object 5 = .ok (.ifCond .eq 30, 3) := by decide +kernel
theorem dX8_object_8 : decode cX8_object 8 = .ok (.aload_n 0, 1) := by decide +kernel
theorem dX8_object_9 : decode cX8_object 9 = .ok (.getfield 72, 3) := by decide +kernel
theorem dX8_object_12 : decode cX8_object 12 = .ok (.iload_n 1, 1) := by decide +kernel
theorem dX8_object_13 : decode cX8_object 13 = .ok (.iaload, 1) := by decide +kernel
theorem dX8_object_14 : decode cX8_object 14 = .ok (.ifCond .ne 21, 3) := by decide +kernel
theorem dX8_object_17 : decode cX8_object 17 = .ok (.aload_n 0, 1) := by decide +kernel
theorem dX8_object_18 : decode cX8_object 18 = .ok (.iload_n 2, 1) := by decide +kernel
theorem dX8_object_19 : decode cX8_object 19 = .ok (.invokevirtual 143, 3) := by decide +kernel
theorem dX8_object_22 : decode cX8_object 22 = .ok (.ifCond .eq 13, 3) := by decide +kernel
theorem dX8_object_25 : decode cX8_object 25 = .ok (.aload_n 0, 1) := by decide +kernel
theorem dX8_object_26 : decode cX8_object 26 = .ok (.getfield 48, 3) := by decide +kernel
theorem dX8_object_29 : decode cX8_object 29 = .ok (.iload_n 1, 1) := by decide +kernel
theorem dX8_object_30 : decode cX8_object 30 = .ok (.iaload, 1) := by decide +kernel
theorem dX8_object_31 : decode cX8_object 31 = .ok (.iload_n 2, 1) := by decide +kernel
theorem dX8_object_32 : decode cX8_object 32 = .ok (.if_icmp .ne 6, 3) := by decide +kernel
theorem dX8_object_35 : decode cX8_object 35 = .ok (.bipush (-4), 2) := by decide +kernel
theorem dX8_object_37 : decode cX8_object 37 = .ok (.ireturn, 1) := by decide +kernel
theorem dX8_object_38 : decode cX8_object 38 = .ok (.aload_n 0, 1) := by decide +kernel
theorem dX8_object_39 : decode cX8_object 39 = .ok (.getfield 48, 3) := by decide +kernel
theorem dX8_object_42 : decode cX8_object 42 = .ok (.iload_n 1, 1) := by decide +kernel
theorem dX8_object_43 : decode cX8_object 43 = .ok (.iaload, 1) := by decide +kernel
theorem dX8_object_44 : decode cX8_object 44 = .ok (.istore_n 3, 1) := by decide +kernel
theorem dX8_object_45 : decode cX8_object 45 = .ok (.aload_n 0, 1) := by decide +kernel
theorem dX8_object_46 : decode cX8_object 46 = .ok (.iload_n 3, 1) := by decide +kernel
theorem dX8_object_47 : decode cX8_object 47 = .ok (.iload_n 2, 1) := by decide +kernel
theorem dX8_object_48 : decode cX8_object 48 = .ok (.bipush 20, 2) := by decide +kernel
theorem dX8_object_50 : decode cX8_object 50 = .ok (.invokevirtual 157, 3) := by decide +kernel
theorem dX8_object_53 : decode cX8_object 53 = .ok (.ifCond .ne 6, 3) := by decide +kernel
theorem dX8_object_56 : decode cX8_object 56 = .ok (.bipush (-2), 2) := by decide +kernel
theorem dX8_object_58 : decode cX8_object 58 = .ok (.ireturn, 1) := by decide +kernel
theorem dX8_object_59 : decode cX8_object 59 = .ok (.aload_n 0, 1) := by decide +kernel
theorem dX8_object_60 : decode cX8_object 60 = .ok (.getfield 125, 3) := by decide +kernel
theorem dX8_object_63 : decode cX8_object 63 = .ok (.aload_n 0, 1) := by decide +kernel
theorem dX8_object_64 : decode cX8_object 64 = .ok (.getfield 69, 3) := by decide +kernel
theorem dX8_object_67 : decode cX8_object 67 = .ok (.iload_n 1, 1) := by decide +kernel
theorem dX8_object_68 : decode cX8_object 68 = .ok (.iaload, 1) := by decide +kernel
theorem dX8_object_69 : decode cX8_object 69 = .ok (.bipush 30, 2) := by decide +kernel
theorem dX8_object_71 : decode cX8_object 71 = .ok (.iadd, 1) := by decide +kernel
theorem dX8_object_72 : decode cX8_object 72 = .ok (.if_icmp .le 5, 3) := by decide +kernel
theorem dX8_object_75 : decode cX8_object 75 = .ok (.iconst (-1), 1) := by decide +kernel
theorem dX8_object_76 : decode cX8_object 76 = .ok (.ireturn, 1) := by decide +kernel
theorem dX8_object_77 : decode cX8_object 77 = .ok (.aload_n 0, 1) := by decide +kernel
theorem dX8_object_78 : decode cX8_object 78 = .ok (.getfield 100, 3) := by decide +kernel
theorem dX8_object_81 : decode cX8_object 81 = .ok (.bipush 12, 2) := by decide +kernel
theorem dX8_object_83 : decode cX8_object 83 = .ok (.iload_n 1, 1) := by decide +kernel
theorem dX8_object_84 : decode cX8_object 84 = .ok (.imul, 1) := by decide +kernel
theorem dX8_object_85 : decode cX8_object 85 = .ok (.iload_n 2, 1) := by decide +kernel
theorem dX8_object_86 : decode cX8_object 86 = .ok (.iadd, 1) := by decide +kernel
theorem dX8_object_87 : decode cX8_object 87 = .ok (.baload, 1) := by decide +kernel
theorem dX8_object_88 : decode cX8_object 88 = .ok (.ifCond .eq 6, 3) := by decide +kernel
theorem dX8_object_91 : decode cX8_object 91 = .ok (.bipush (-3), 2) := by decide +kernel
theorem dX8_object_93 : decode cX8_object 93 = .ok (.ireturn, 1) := by decide +kernel
theorem dX8_object_94 : decode cX8_object 94 = .ok (.aload_n 0, 1) := by decide +kernel
theorem dX8_object_95 : decode cX8_object 95 = .ok (.getfield 100, 3) := by decide +kernel
theorem dX8_object_98 : decode cX8_object 98 = .ok (.bipush 12, 2) := by decide +kernel
theorem dX8_object_100 : decode cX8_object 100 = .ok (.iload_n 1, 1) := by decide +kernel
theorem dX8_object_101 : decode cX8_object 101 = .ok (.imul, 1) := by decide +kernel
theorem dX8_object_102 : decode cX8_object 102 = .ok (.iload_n 2, 1) := by decide +kernel
theorem dX8_object_103 : decode cX8_object 103 = .ok (.iadd, 1) := by decide +kernel
theorem dX8_object_104 : decode cX8_object 104 = .ok (.iconst 1, 1) := by decide +kernel
theorem dX8_object_105 : decode cX8_object 105 = .ok (.bastore, 1) := by decide +kernel
theorem dX8_object_106 : decode cX8_object 106 = .ok (.aload_n 0, 1) := by decide +kernel
theorem dX8_object_107 : decode cX8_object 107 = .ok (.iload_n 3, 1) := by decide +kernel
theorem dX8_object_108 : decode cX8_object 108 = .ok (.iload_n 2, 1) := by decide +kernel
theorem dX8_object_109 : decode cX8_object 109 = .ok (.iconst 0, 1) := by decide +kernel
theorem dX8_object_110 : decode cX8_object 110 = .ok (.invokevirtual 157, 3) := by decide +kernel
theorem dX8_object_113 : decode cX8_object 113 = .ok (.ifCond .eq 7, 3) := by decide +kernel
theorem dX8_object_116 : decode cX8_object 116 = .ok (.iconst 2, 1) := by decide +kernel
theorem dX8_object_117 : decode cX8_object 117 = .ok (.goto 4, 3) := by decide +kernel
theorem dX8_object_120 : decode cX8_object 120 = .ok (.iconst 1, 1) := by decide +kernel
theorem dX8_object_121 : decode cX8_object 121 = .ok (.istore 4, 2) := by decide +kernel
theorem dX8_object_123 : decode cX8_object 123 = .ok (.aload_n 0, 1) := by decide +kernel
theorem dX8_object_124 : decode cX8_object 124 = .ok (.getfield 78, 3) := by decide +kernel
theorem dX8_object_127 : decode cX8_object 127 = .ok (.iload_n 1, 1) := by decide +kernel
theorem dX8_object_128 : decode cX8_object 128 = .ok (.dup2, 1) := by decide +kernel
theorem dX8_object_129 : decode cX8_object 129 = .ok (.iaload, 1) := by decide +kernel
theorem dX8_object_130 : decode cX8_object 130 = .ok (.iload 4, 2) := by decide +kernel
theorem dX8_object_132 : decode cX8_object 132 = .ok (.iadd, 1) := by decide +kernel
theorem dX8_object_133 : decode cX8_object 133 = .ok (.iastore, 1) := by decide +kernel
theorem dX8_object_134 : decode cX8_object 134 = .ok (.iload 4, 2) := by decide +kernel
theorem dX8_object_136 : decode cX8_object 136 = .ok (.ireturn, 1) := by decide +kernel
set_option maxRecDepth 20000 in
theorem ggX8_ruleOf_X8_broken : GoodIn wsX8_ruleOf wsX8_broken := goodIn_r _ [14, 15, 16, 17, 18, 1, 4, 2, 5, 3, 19, 20, 21, 22, 13, 23, 24, 25, 26, 27, 28, 29, 30, 31, 32, 33, 34, 35, 36, 37, 38, 39, 40, 41, 42, 43, 44, 45, 46, 47, 48, 49, 50, 51, 52, 53, 54, 55, 56, 57, 58, 59, 60, 61, 62, 63, 64, 65, 66, 67, 68, 69, 70, 71, 72, 73, 74, 75, 76, 77, 78, 79, 80, 81, 82, 83, 84, 85, 86, 87, 88, 89, 90, 91, 92, 93, 94, 95, 96, 97, 98, 99, 100, 101, 102, 103, 104, 105, 106, 107, 108, 109, 110, 111] rfl (by decide +kernel)
set_option maxRecDepth 20000 in
theorem gX8_ruleOf_X8_broken : GoodIn wsX8_ruleOf (wsV RX8 239 RX8 yX8_broken wsX8_broken) := goodIn_app (goodIn_of _ (by decide +kernel)) ggX8_ruleOf_X8_broken
theorem dX8_ruleOf_0 : decode cX8_ruleOf 0 = .ok (.aload_n 0, 1) := by decide +kernel
theorem dX8_ruleOf_1 : decode cX8_ruleOf 1 = .ok (.aload_n 0, 1) := by decide +kernel
theorem dX8_ruleOf_2 : decode cX8_ruleOf 2 = .ok (.getfield 48, 3) := by decide +kernel
theorem dX8_ruleOf_5 : decode cX8_ruleOf 5 = .ok (.iload_n 1, 1) := by decide +kernel
theorem dX8_ruleOf_6 : decode cX8_ruleOf 6 = .ok (.iaload, 1) := by decide +kernel
theorem dX8_ruleOf_7 : decode cX8_ruleOf 7 = .ok (.aload_n 0, 1) := by decide +kernel
theorem dX8_ruleOf_8 : decode cX8_ruleOf 8 = .ok (.getfield 51, 3) := by decide +kernel
theorem dX8_ruleOf_11 : decode cX8_ruleOf 11 = .ok (.iload_n 1, 1) := by decide +kernel
theorem dX8_ruleOf_12 : decode cX8_ruleOf 12 = .ok (.iaload, 1) := by decide +kernel
theorem dX8_ruleOf_13 : decode cX8_ruleOf 13 = .ok (.aload_n 0, 1) := by decide +kernel
theorem dX8_ruleOf_14 : decode cX8_ruleOf 14 = .ok (.getfield 54, 3) := by decide +kernel
theorem dX8_ruleOf_17 : decode cX8_ruleOf 17 = .ok (.iload_n 1, 1) := by decide +kernel
theorem dX8_ruleOf_18 : decode cX8_ruleOf 18 = .ok (.iaload, 1) := by decide +kernel
theorem dX8_ruleOf_19 : decode cX8_ruleOf 19 = .ok (.aload_n 0, 1) := by decide +kernel
theorem dX8_ruleOf_20 : decode cX8_ruleOf 20 = .ok (.getfield 57, 3) := by decide +kernel
theorem dX8_ruleOf_23 : decode cX8_ruleOf 23 = .ok (.iload_n 1, 1) := by decide +kernel
theorem dX8_ruleOf_24 : decode cX8_ruleOf 24 = .ok (.iaload, 1) := by decide +kernel
theorem dX8_ruleOf_25 : decode cX8_ruleOf 25 = .ok (.aload_n 0, 1) := by decide +kernel
theorem dX8_ruleOf_26 : decode cX8_ruleOf 26 = .ok (.getfield 60, 3) := by decide +kernel
theorem dX8_ruleOf_29 : decode cX8_ruleOf 29 = .ok (.iload_n 1, 1) := by decide +kernel
theorem dX8_ruleOf_30 : decode cX8_ruleOf 30 = .ok (.iaload, 1) := by decide +kernel
theorem dX8_ruleOf_31 : decode cX8_ruleOf 31 = .ok (.aload_n 0, 1) := by decide +kernel
theorem dX8_ruleOf_32 : decode cX8_ruleOf 32 = .ok (.getfield 63, 3) := by decide +kernel
theorem dX8_ruleOf_35 : decode cX8_ruleOf 35 = .ok (.iload_n 1, 1) := by decide +kernel
theorem dX8_ruleOf_36 : decode cX8_ruleOf 36 = .ok (.iaload, 1) := by decide +kernel
theorem dX8_ruleOf_37 : decode cX8_ruleOf 37 = .ok (.aload_n 0, 1) := by decide +kernel
theorem dX8_ruleOf_38 : decode cX8_ruleOf 38 = .ok (.getfield 66, 3) := by decide +kernel
theorem dX8_ruleOf_41 : decode cX8_ruleOf 41 = .ok (.iload_n 1, 1) := by decide +kernel
theorem dX8_ruleOf_42 : decode cX8_ruleOf 42 = .ok (.iaload, 1) := by decide +kernel
theorem dX8_ruleOf_43 : decode cX8_ruleOf 43 = .ok (.aload_n 0, 1) := by decide +kernel
theorem dX8_ruleOf_44 : decode cX8_ruleOf 44 = .ok (.getfield 69, 3) := by decide +kernel
theorem dX8_ruleOf_47 : decode cX8_ruleOf 47 = .ok (.iload_n 1, 1) := by decide +kernel
theorem dX8_ruleOf_48 : decode cX8_ruleOf 48 = .ok (.iaload, 1) := by decide +kernel
theorem dX8_ruleOf_49 : decode cX8_ruleOf 49 = .ok (.aload_n 0, 1) := by decide +kernel
theorem dX8_ruleOf_50 : decode cX8_ruleOf 50 = .ok (.getfield 125, 3) := by decide +kernel
theorem dX8_ruleOf_53 : decode cX8_ruleOf 53 = .ok (.invokevirtual 239, 3) := by decide +kernel
theorem dX8_ruleOf_56 : decode cX8_ruleOf 56 = .ok (.ireturn, 1) := by decide +kernel
set_option maxRecDepth 20000 in
theorem ggX8_decide_X8_isApplication : GoodIn wsX8_decide wsX8_isApplication := goodIn_r _ [11, 12, 13, 14, 10, 15, 79, 80, 81, 82, 83, 84, 85, 86, 87, 88, 89, 90, 91, 92, 93, 94, 95, 96, 97, 98, 99, 100, 101, 102, 103, 104, 105, 106, 107, 108, 109, 110, 111, 112, 113, 114, 115, 116, 117, 118, 119, 120, 121, 122, 123] rfl (by decide +kernel)
set_option maxRecDepth 20000 in
theorem gX8_decide_X8_isApplication : GoodIn wsX8_decide (wsV RX8 229 RX8 yX8_isApplication wsX8_isApplication) := goodIn_app (goodIn_of _ (by decide +kernel)) ggX8_decide_X8_isApplication
set_option maxRecDepth 20000 in
theorem ggX8_decide_X8_ruleOf : GoodIn wsX8_decide wsX8_ruleOf := goodIn_r _ [19, 20, 21, 22, 23, 24, 25, 26, 3, 2, 27, 28, 29, 10, 30, 31, 32, 33, 12, 34, 35, 36, 37, 38, 39, 40, 41, 42, 43, 44, 45, 46, 47, 48, 49, 50, 13, 14, 15, 51, 52, 53, 54, 55, 56, 57, 58, 59, 60, 61, 62, 63, 64, 65, 66, 67, 68, 69, 70, 71, 72, 73, 74, 75, 76, 77, 78, 79, 80, 81, 82, 83, 84, 85, 86, 87, 88, 89, 90, 91, 92, 93, 94, 95, 96, 97, 98, 99, 100, 101, 102, 103, 104, 105, 106, 107, 108, 109, 110, 111, 112, 113, 114, 115, 116, 117, 118, 119, 120, 121, 122, 123] rfl (by decide +kernel)
set_option maxRecDepth 20000 in
theorem gX8_decide_X8_ruleOf : GoodIn wsX8_decide (wsV RX8 255 RX8 yX8_ruleOf wsX8_ruleOf) := goodIn_app (goodIn_of _ (by decide +kernel)) ggX8_decide_X8_ruleOf
theorem dX8_decide_0 : decode cX8_decide 0 = .ok (.aload_n 0, 1) := by decide +kernel
theorem dX8_decide_1 : decode cX8_decide 1 = .ok (.iload_n 1, 1) := by decide +kernel
theorem dX8_decide_2 : decode cX8_decide 2 = .ok (.invokevirtual 229, 3) := by decide +kernel
theorem dX8_decide_5 : decode cX8_decide 5 = .ok (.ifCond .eq 28, 3) := by decide +kernel
theorem dX8_decide_8 : decode cX8_decide 8 = .ok (.aload_n 0, 1) := by decide +kernel
theorem dX8_decide_9 : decode cX8_decide 9 = .ok (.getfield 72, 3) := by decide +kernel
theorem dX8_decide_12 : decode cX8_decide 12 = .ok (.iload_n 1, 1) := by decide +kernel
theorem dX8_decide_13 : decode cX8_decide 13 = .ok (.iaload, 1) := by decide +kernel
theorem dX8_decide_14 : decode cX8_decide 14 = .ok (.ifCond .ne 19, 3) := by decide +kernel
theorem dX8_decide_17 : decode cX8_decide 17 = .ok (.aload_n 0, 1) := by decide +kernel
theorem dX8_decide_18 : decode cX8_decide 18 = .ok (.getfield 125, 3) := by decide +kernel
theorem dX8_decide_21 : decode cX8_decide 21 = .ok (.aload_n 0, 1) := by decide +kernel
theorem dX8_decide_22 : decode cX8_decide 22 = .ok (.getfield 69, 3) := by decide +kernel
theorem dX8_decide_25 : decode cX8_decide 25 = .ok (.iload_n 1, 1) := by decide +kernel
theorem dX8_decide_26 : decode cX8_decide 26 = .ok (.iaload, 1) := by decide +kernel
theorem dX8_decide_27 : decode cX8_decide 27 = .ok (.bipush 31, 2) := by decide +kernel
theorem dX8_decide_29 : decode cX8_decide 29 = .ok (.iadd, 1) := by decide +kernel
theorem dX8_decide_30 : decode cX8_decide 30 = .ok (.if_icmp .ge 5, 3) := by decide +kernel
theorem dX8_decide_33 : decode cX8_decide 33 = .ok (.iconst (-1), 1) := by decide +kernel
theorem dX8_decide_34 : decode cX8_decide 34 = .ok (.ireturn, 1) := by decide +kernel
theorem dX8_decide_35 : decode cX8_decide 35 = .ok (.aload_n 0, 1) := by decide +kernel
theorem dX8_decide_36 : decode cX8_decide 36 = .ok (.iload_n 1, 1) := by decide +kernel
theorem dX8_decide_37 : decode cX8_decide 37 = .ok (.invokevirtual 255, 3) := by decide +kernel
theorem dX8_decide_40 : decode cX8_decide 40 = .ok (.istore_n 2, 1) := by decide +kernel
theorem dX8_decide_41 : decode cX8_decide 41 = .ok (.iload_n 2, 1) := by decide +kernel
theorem dX8_decide_42 : decode cX8_decide 42 = .ok (.ifCond .ne 17, 3) := by decide +kernel
theorem dX8_decide_45 : decode cX8_decide 45 = .ok (.aload_n 0, 1) := by decide +kernel
theorem dX8_decide_46 : decode cX8_decide 46 = .ok (.getfield 78, 3) := by decide +kernel
theorem dX8_decide_49 : decode cX8_decide 49 = .ok (.iload_n 1, 1) := by decide +kernel
theorem dX8_decide_50 : decode cX8_decide 50 = .ok (.iaload, 1) := by decide +kernel
theorem dX8_decide_51 : decode cX8_decide 51 = .ok (.bipush 6, 2) := by decide +kernel
theorem dX8_decide_53 : decode cX8_decide 53 = .ok (.if_icmp .lt 6, 3) := by decide +kernel
theorem dX8_decide_56 : decode cX8_decide 56 = .ok (.bipush 9, 2) := by decide +kernel
theorem dX8_decide_58 : decode cX8_decide 58 = .ok (.istore_n 2, 1) := by decide +kernel
theorem dX8_decide_59 : decode cX8_decide 59 = .ok (.aload_n 0, 1) := by decide +kernel
theorem dX8_decide_60 : decode cX8_decide 60 = .ok (.getfield 72, 3) := by decide +kernel
theorem dX8_decide_63 : decode cX8_decide 63 = .ok (.iload_n 1, 1) := by decide +kernel
theorem dX8_decide_64 : decode cX8_decide 64 = .ok (.iload_n 2, 1) := by decide +kernel
theorem dX8_decide_65 : decode cX8_decide 65 = .ok (.ifCond .ne 7, 3) := by decide +kernel
theorem dX8_decide_68 : decode cX8_decide 68 = .ok (.iconst 1, 1) := by decide +kernel
theorem dX8_decide_69 : decode cX8_decide 69 = .ok (.goto 4, 3) := by decide +kernel
theorem dX8_decide_72 : decode cX8_decide 72 = .ok (.iconst 2, 1) := by decide +kernel
theorem dX8_decide_73 : decode cX8_decide 73 = .ok (.iastore, 1) := by decide +kernel
theorem dX8_decide_74 : decode cX8_decide 74 = .ok (.aload_n 0, 1) := by decide +kernel
theorem dX8_decide_75 : decode cX8_decide 75 = .ok (.getfield 75, 3) := by decide +kernel
theorem dX8_decide_78 : decode cX8_decide 78 = .ok (.iload_n 1, 1) := by decide +kernel
theorem dX8_decide_79 : decode cX8_decide 79 = .ok (.iload_n 2, 1) := by decide +kernel
theorem dX8_decide_80 : decode cX8_decide 80 = .ok (.iastore, 1) := by decide +kernel
theorem dX8_decide_81 : decode cX8_decide 81 = .ok (.aload_n 0, 1) := by decide +kernel
theorem dX8_decide_82 : decode cX8_decide 82 = .ok (.getfield 81, 3) := by decide +kernel
theorem dX8_decide_85 : decode cX8_decide 85 = .ok (.iload_n 1, 1) := by decide +kernel
theorem dX8_decide_86 : decode cX8_decide 86 = .ok (.aload_n 0, 1) := by decide +kernel
theorem dX8_decide_87 : decode cX8_decide 87 = .ok (.getfield 125, 3) := by decide +kernel
theorem dX8_decide_90 : decode cX8_decide 90 = .ok (.iastore, 1) := by decide +kernel
theorem dX8_decide_91 : decode cX8_decide 91 = .ok (.iload_n 2, 1) := by decide +kernel
theorem dX8_decide_92 : decode cX8_decide 92 = .ok (.ireturn, 1) := by decide +kernel
set_option maxRecDepth 20000 in
theorem ggX8_build_X8_isApplication : GoodIn wsX8_build wsX8_isApplication := goodIn_r _ [9, 10, 11, 12, 8, 13, 19, 20, 21, 22, 23, 24, 25, 26, 27, 28, 29, 30, 31, 32, 33, 34, 35, 36, 37, 38, 39, 40, 41, 42, 43, 44, 45, 46, 47, 48, 49, 50, 51, 52, 53, 54, 55, 56, 57, 58, 59, 60, 61, 62, 63] rfl (by decide +kernel)
set_option maxRecDepth 20000 in
theorem gX8_build_X8_isApplication : GoodIn wsX8_build (wsV RX8 229 RX8 yX8_isApplication wsX8_isApplication) := goodIn_app (goodIn_of _ (by decide +kernel)) ggX8_build_X8_isApplication
set_option maxRecDepth 20000 in
theorem ggX8_build_X8_howNow : GoodIn wsX8_build wsX8_howNow := goodIn_r _ [17, 4, 2, 18, 1, 19, 20, 21, 22, 23, 24, 25, 26, 27, 28, 29, 30, 31, 32, 33, 34, 35, 36, 37, 38, 39, 40, 41, 42, 43, 44, 45, 46, 47, 48, 49, 50, 51, 52, 53, 54, 55, 56, 57, 58, 59, 60, 61, 62, 63] rfl (by decide +kernel)
set_option maxRecDepth 20000 in
theorem gX8_build_X8_howNow : GoodIn wsX8_build (wsV RX8 258 RX8 yX8_howNow wsX8_howNow) := goodIn_app (goodIn_of _ (by decide +kernel)) ggX8_build_X8_howNow
theorem dX8_build_0 : decode cX8_build 0 = .ok (.aload_n 0, 1) := by decide +kernel
theorem dX8_build_1 : decode cX8_build 1 = .ok (.iload_n 1, 1) := by decide +kernel
theorem dX8_build_2 : decode cX8_build 2 = .ok (.invokevirtual 229, 3) := by decide +kernel
theorem dX8_build_5 : decode cX8_build 5 = .ok (.ifCond .ne 5, 3) := by decide +kernel
theorem dX8_build_8 : decode cX8_build 8 = .ok (.iconst (-1), 1) := by decide +kernel
theorem dX8_build_9 : decode cX8_build 9 = .ok (.ireturn, 1) := by decide +kernel
theorem dX8_build_10 : decode cX8_build 10 = .ok (.aload_n 0, 1) := by decide +kernel
theorem dX8_build_11 : decode cX8_build 11 = .ok (.iload_n 1, 1) := by decide +kernel
theorem dX8_build_12 : decode cX8_build 12 = .ok (.invokevirtual 258, 3) := by decide +kernel
theorem dX8_build_15 : decode cX8_build 15 = .ok (.istore_n 2, 1) := by decide +kernel
theorem dX8_build_16 : decode cX8_build 16 = .ok (.iload_n 2, 1) := by decide +kernel
theorem dX8_build_17 : decode cX8_build 17 = .ok (.iconst 1, 1) := by decide +kernel
theorem dX8_build_18 : decode cX8_build 18 = .ok (.if_icmp .eq 10, 3) := by decide +kernel
theorem dX8_build_21 : decode cX8_build 21 = .ok (.iload_n 2, 1) := by decide +kernel
theorem dX8_build_22 : decode cX8_build 22 = .ok (.iconst 3, 1) := by decide +kernel
theorem dX8_build_23 : decode cX8_build 23 = .ok (.if_icmp .eq 5, 3) := by decide +kernel
theorem dX8_build_26 : decode cX8_build 26 = .ok (.iconst (-1), 1) := by decide +kernel
theorem dX8_build_27 : decode cX8_build 27 = .ok (.ireturn, 1) := by decide +kernel
theorem dX8_build_28 : decode cX8_build 28 = .ok (.iload_n 2, 1) := by decide +kernel
theorem dX8_build_29 : decode cX8_build 29 = .ok (.iconst 1, 1) := by decide +kernel
theorem dX8_build_30 : decode cX8_build 30 = .ok (.if_icmp .ne 16, 3) := by decide +kernel
theorem dX8_build_33 : decode cX8_build 33 = .ok (.aload_n 0, 1) := by decide +kernel
theorem dX8_build_34 : decode cX8_build 34 = .ok (.getfield 84, 3) := by decide +kernel
theorem dX8_build_37 : decode cX8_build 37 = .ok (.iload_n 1, 1) := by decide +kernel
theorem dX8_build_38 : decode cX8_build 38 = .ok (.aload_n 0, 1) := by decide +kernel
theorem dX8_build_39 : decode cX8_build 39 = .ok (.getfield 125, 3) := by decide +kernel
theorem dX8_build_42 : decode cX8_build 42 = .ok (.iastore, 1) := by decide +kernel
theorem dX8_build_43 : decode cX8_build 43 = .ok (.goto 13, 3) := by decide +kernel
theorem dX8_build_46 : decode cX8_build 46 = .ok (.aload_n 0, 1) := by decide +kernel
theorem dX8_build_47 : decode cX8_build 47 = .ok (.getfield 87, 3) := by decide +kernel
theorem dX8_build_50 : decode cX8_build 50 = .ok (.iload_n 1, 1) := by decide +kernel
theorem dX8_build_51 : decode cX8_build 51 = .ok (.aload_n 0, 1) := by decide +kernel
theorem dX8_build_52 : decode cX8_build 52 = .ok (.getfield 125, 3) := by decide +kernel
theorem dX8_build_55 : decode cX8_build 55 = .ok (.iastore, 1) := by decide +kernel
theorem dX8_build_56 : decode cX8_build 56 = .ok (.aload_n 0, 1) := by decide +kernel
theorem dX8_build_57 : decode cX8_build 57 = .ok (.getfield 72, 3) := by decide +kernel
theorem dX8_build_60 : decode cX8_build 60 = .ok (.iload_n 1, 1) := by decide +kernel
theorem dX8_build_61 : decode cX8_build 61 = .ok (.iload_n 2, 1) := by decide +kernel
theorem dX8_build_62 : decode cX8_build 62 = .ok (.iconst 1, 1) := by decide +kernel
theorem dX8_build_63 : decode cX8_build 63 = .ok (.if_icmp .ne 7, 3) := by decide +kernel
theorem dX8_build_66 : decode cX8_build 66 = .ok (.iconst 3, 1) := by decide +kernel
theorem dX8_build_67 : decode cX8_build 67 = .ok (.goto 4, 3) := by decide +kernel
theorem dX8_build_70 : decode cX8_build 70 = .ok (.iconst 4, 1) := by decide +kernel
theorem dX8_build_71 : decode cX8_build 71 = .ok (.iastore, 1) := by decide +kernel
theorem dX8_build_72 : decode cX8_build 72 = .ok (.aload_n 0, 1) := by decide +kernel
theorem dX8_build_73 : decode cX8_build 73 = .ok (.getfield 72, 3) := by decide +kernel
theorem dX8_build_76 : decode cX8_build 76 = .ok (.iload_n 1, 1) := by decide +kernel
theorem dX8_build_77 : decode cX8_build 77 = .ok (.iaload, 1) := by decide +kernel
theorem dX8_build_78 : decode cX8_build 78 = .ok (.ireturn, 1) := by decide +kernel
set_option maxRecDepth 20000 in
theorem ggX8_appeal_X8_isApplication : GoodIn wsX8_appeal wsX8_isApplication := goodIn_r _ [9, 10, 11, 12, 8, 13, 78, 79, 80, 81, 82, 83, 84, 85, 86, 87, 88, 89, 90, 91, 92, 93, 94, 95, 96, 97, 98, 99, 100, 101, 102, 103, 104, 105, 106, 107, 108, 109, 110, 111, 112, 113, 114, 115, 116, 117, 118, 119, 120, 121, 122] rfl (by decide +kernel)
set_option maxRecDepth 20000 in
theorem gX8_appeal_X8_isApplication : GoodIn wsX8_appeal (wsV RX8 229 RX8 yX8_isApplication wsX8_isApplication) := goodIn_app (goodIn_of _ (by decide +kernel)) ggX8_appeal_X8_isApplication
set_option maxRecDepth 20000 in
theorem ggX8_appeal_X8_ruleOf : GoodIn wsX8_appeal wsX8_ruleOf := goodIn_r _ [17, 18, 19, 20, 21, 22, 23, 24, 25, 3, 26, 27, 28, 8, 29, 30, 31, 32, 10, 33, 34, 35, 36, 37, 38, 39, 40, 41, 42, 43, 44, 45, 46, 47, 48, 49, 11, 12, 13, 50, 51, 52, 53, 54, 55, 56, 57, 58, 59, 60, 61, 62, 63, 64, 65, 66, 67, 68, 69, 70, 71, 72, 73, 74, 75, 76, 77, 78, 79, 80, 81, 82, 83, 84, 85, 86, 87, 88, 89, 90, 91, 92, 93, 94, 95, 96, 97, 98, 99, 100, 101, 102, 103, 104, 105, 106, 107, 108, 109, 110, 111, 112, 113, 114, 115, 116, 117, 118, 119, 120, 121, 122] rfl (by decide +kernel)
set_option maxRecDepth 20000 in
theorem gX8_appeal_X8_ruleOf : GoodIn wsX8_appeal (wsV RX8 255 RX8 yX8_ruleOf wsX8_ruleOf) := goodIn_app (goodIn_of _ (by decide +kernel)) ggX8_appeal_X8_ruleOf
theorem dX8_appeal_0 : decode cX8_appeal 0 = .ok (.aload_n 0, 1) := by decide +kernel
theorem dX8_appeal_1 : decode cX8_appeal 1 = .ok (.iload_n 1, 1) := by decide +kernel
theorem dX8_appeal_2 : decode cX8_appeal 2 = .ok (.invokevirtual 229, 3) := by decide +kernel
theorem dX8_appeal_5 : decode cX8_appeal 5 = .ok (.ifCond .eq 38, 3) := by decide +kernel
theorem dX8_appeal_8 : decode cX8_appeal 8 = .ok (.aload_n 0, 1) := by decide +kernel
theorem dX8_appeal_9 : decode cX8_appeal 9 = .ok (.getfield 72, 3) := by decide +kernel
theorem dX8_appeal_12 : decode cX8_appeal 12 = .ok (.iload_n 1, 1) := by decide +kernel
theorem dX8_appeal_13 : decode cX8_appeal 13 = .ok (.iaload, 1) := by decide +kernel
theorem dX8_appeal_14 : decode cX8_appeal 14 = .ok (.iconst 2, 1) := by decide +kernel
theorem dX8_appeal_15 : decode cX8_appeal 15 = .ok (.if_icmp .ne 28, 3) := by decide +kernel
theorem dX8_appeal_18 : decode cX8_appeal 18 = .ok (.aload_n 0, 1) := by decide +kernel
theorem dX8_appeal_19 : decode cX8_appeal 19 = .ok (.getfield 96, 3) := by decide +kernel
theorem dX8_appeal_22 : decode cX8_appeal 22 = .ok (.iload_n 1, 1) := by decide +kernel
theorem dX8_appeal_23 : decode cX8_appeal 23 = .ok (.baload, 1) := by decide +kernel
theorem dX8_appeal_24 : decode cX8_appeal 24 = .ok (.ifCond .ne 19, 3) := by decide +kernel
theorem dX8_appeal_27 : decode cX8_appeal 27 = .ok (.aload_n 0, 1) := by decide +kernel
theorem dX8_appeal_28 : decode cX8_appeal 28 = .ok (.getfield 125, 3) := by decide +kernel
theorem dX8_appeal_31 : decode cX8_appeal 31 = .ok (.aload_n 0, 1) := by decide +kernel
theorem dX8_appeal_32 : decode cX8_appeal 32 = .ok (.getfield 81, 3) := by decide +kernel
theorem dX8_appeal_35 : decode cX8_appeal 35 = .ok (.iload_n 1, 1) := by decide +kernel
theorem dX8_appeal_36 : decode cX8_appeal 36 = .ok (.iaload, 1) := by decide +kernel
theorem dX8_appeal_37 : decode cX8_appeal 37 = .ok (.bipush 60, 2) := by decide +kernel
theorem dX8_appeal_39 : decode cX8_appeal 39 = .ok (.iadd, 1) := by decide +kernel
theorem dX8_appeal_40 : decode cX8_appeal 40 = .ok (.if_icmp .le 5, 3) := by decide +kernel
theorem dX8_appeal_43 : decode cX8_appeal 43 = .ok (.iconst (-1), 1) := by decide +kernel
theorem dX8_appeal_44 : decode cX8_appeal 44 = .ok (.ireturn, 1) := by decide +kernel
theorem dX8_appeal_45 : decode cX8_appeal 45 = .ok (.aload_n 0, 1) := by decide +kernel
theorem dX8_appeal_46 : decode cX8_appeal 46 = .ok (.getfield 96, 3) := by decide +kernel
theorem dX8_appeal_49 : decode cX8_appeal 49 = .ok (.iload_n 1, 1) := by decide +kernel
theorem dX8_appeal_50 : decode cX8_appeal 50 = .ok (.iconst 1, 1) := by decide +kernel
theorem dX8_appeal_51 : decode cX8_appeal 51 = .ok (.bastore, 1) := by decide +kernel
theorem dX8_appeal_52 : decode cX8_appeal 52 = .ok (.aload_n 0, 1) := by decide +kernel
theorem dX8_appeal_53 : decode cX8_appeal 53 = .ok (.iload_n 1, 1) := by decide +kernel
theorem dX8_appeal_54 : decode cX8_appeal 54 = .ok (.invokevirtual 255, 3) := by decide +kernel
theorem dX8_appeal_57 : decode cX8_appeal 57 = .ok (.istore_n 2, 1) := by decide +kernel
theorem dX8_appeal_58 : decode cX8_appeal 58 = .ok (.iload_n 2, 1) := by decide +kernel
theorem dX8_appeal_59 : decode cX8_appeal 59 = .ok (.ifCond .eq 5, 3) := by decide +kernel
theorem dX8_appeal_62 : decode cX8_appeal 62 = .ok (.iload_n 2, 1) := by decide +kernel
theorem dX8_appeal_63 : decode cX8_appeal 63 = .ok (.ireturn, 1) := by decide +kernel
theorem dX8_appeal_64 : decode cX8_appeal 64 = .ok (.aload_n 0, 1) := by decide +kernel
theorem dX8_appeal_65 : decode cX8_appeal 65 = .ok (.getfield 72, 3) := by decide +kernel
theorem dX8_appeal_68 : decode cX8_appeal 68 = .ok (.iload_n 1, 1) := by decide +kernel
theorem dX8_appeal_69 : decode cX8_appeal 69 = .ok (.iconst 1, 1) := by decide +kernel
theorem dX8_appeal_70 : decode cX8_appeal 70 = .ok (.iastore, 1) := by decide +kernel
theorem dX8_appeal_71 : decode cX8_appeal 71 = .ok (.aload_n 0, 1) := by decide +kernel
theorem dX8_appeal_72 : decode cX8_appeal 72 = .ok (.getfield 81, 3) := by decide +kernel
theorem dX8_appeal_75 : decode cX8_appeal 75 = .ok (.iload_n 1, 1) := by decide +kernel
theorem dX8_appeal_76 : decode cX8_appeal 76 = .ok (.aload_n 0, 1) := by decide +kernel
theorem dX8_appeal_77 : decode cX8_appeal 77 = .ok (.getfield 125, 3) := by decide +kernel
theorem dX8_appeal_80 : decode cX8_appeal 80 = .ok (.iastore, 1) := by decide +kernel
theorem dX8_appeal_81 : decode cX8_appeal 81 = .ok (.iconst 0, 1) := by decide +kernel
theorem dX8_appeal_82 : decode cX8_appeal 82 = .ok (.ireturn, 1) := by decide +kernel
set_option maxRecDepth 20000 in
theorem ggX8_clash_X8_isApplication : GoodIn wsX8_clash wsX8_isApplication := goodIn_r _ [11, 1, 12, 13, 10, 14, 26, 27, 28, 29, 30, 31, 32, 33, 34, 35, 36, 37, 38, 39, 40, 41, 42, 43, 44, 45, 46, 47, 48, 49, 50, 51, 52, 53, 54, 55, 56, 57, 58, 59, 60, 61, 62, 63, 64, 65, 66, 67, 68, 69, 70] rfl (by decide +kernel)
set_option maxRecDepth 20000 in
theorem gX8_clash_X8_isApplication : GoodIn wsX8_clash (wsV RX8 229 RX8 yX8_isApplication wsX8_isApplication) := goodIn_app (goodIn_of _ (by decide +kernel)) ggX8_clash_X8_isApplication
set_option maxRecDepth 20000 in
theorem ggX8_clash_X8_stood : GoodIn wsX8_clash wsX8_stood := goodIn_r _ [18, 19, 20, 21, 26, 27, 28, 29, 30, 31, 32, 33, 34, 35, 36, 37, 38, 39, 40, 41, 42, 43, 44, 45, 46, 47, 48, 49, 50, 51, 52, 53, 54, 55, 56, 57, 58, 59, 60, 61, 62, 63, 64, 65, 66, 67, 68, 69, 70] rfl (by decide +kernel)
set_option maxRecDepth 20000 in
theorem gX8_clash_X8_stood : GoodIn wsX8_clash (wsV RX8 232 RX8 yX8_stood wsX8_stood) := goodIn_app (goodIn_of _ (by decide +kernel)) ggX8_clash_X8_stood
set_option maxRecDepth 20000 in
theorem ggX8_clash_X8_meets : GoodIn wsX8_clash wsX8_meets := goodIn_r _ [25, 5, 3, 6, 4, 26, 27, 28, 29, 30, 31, 32, 33, 34, 35, 36, 37, 38, 39, 40, 41, 42, 43, 44, 45, 46, 47, 48, 49, 50, 51, 52, 53, 54, 55, 56, 57, 58, 59, 60, 61, 62, 63, 64, 65, 66, 67, 68, 69, 70] rfl (by decide +kernel)
set_option maxRecDepth 20000 in
theorem gX8_clash_X8_meets : GoodIn wsX8_clash (wsV RX8 251 RX8 yX8_meets wsX8_meets) := goodIn_app (goodIn_of _ (by decide +kernel)) ggX8_clash_X8_meets
theorem dX8_clash_0 : decode cX8_clash 0 = .ok (.aload_n 0, 1) := by decide +kernel
theorem dX8_clash_1 : decode cX8_clash 1 = .ok (.iload_n 1, 1) := by decide +kernel
theorem dX8_clash_2 : decode cX8_clash 2 = .ok (.invokevirtual 229, 3) := by decide +kernel
theorem dX8_clash_5 : decode cX8_clash 5 = .ok (.ifCond .ne 5, 3) := by decide +kernel
theorem dX8_clash_8 : decode cX8_clash 8 = .ok (.iconst (-1), 1) := by decide +kernel
theorem dX8_clash_9 : decode cX8_clash 9 = .ok (.ireturn, 1) := by decide +kernel
theorem dX8_clash_10 : decode cX8_clash 10 = .ok (.iconst 0, 1) := by decide +kernel
theorem dX8_clash_11 : decode cX8_clash 11 = .ok (.istore_n 2, 1) := by decide +kernel
theorem dX8_clash_12 : decode cX8_clash 12 = .ok (.iconst 0, 1) := by decide +kernel
theorem dX8_clash_13 : decode cX8_clash 13 = .ok (.istore_n 3, 1) := by decide +kernel
theorem dX8_clash_14 : decode cX8_clash 14 = .ok (.iload_n 3, 1) := by decide +kernel
theorem dX8_clash_15 : decode cX8_clash 15 = .ok (.aload_n 0, 1) := by decide +kernel
theorem dX8_clash_16 : decode cX8_clash 16 = .ok (.getfield 122, 3) := by decide +kernel
theorem dX8_clash_19 : decode cX8_clash 19 = .ok (.if_icmp .ge 70, 3) := by decide +kernel
theorem dX8_clash_22 : decode cX8_clash 22 = .ok (.iload_n 2, 1) := by decide +kernel
theorem dX8_clash_23 : decode cX8_clash 23 = .ok (.iload_n 3, 1) := by decide +kernel
theorem dX8_clash_24 : decode cX8_clash 24 = .ok (.iload_n 1, 1) := by decide +kernel
theorem dX8_clash_25 : decode cX8_clash 25 = .ok (.if_icmp .eq 55, 3) := by decide +kernel
theorem dX8_clash_28 : decode cX8_clash 28 = .ok (.aload_n 0, 1) := by decide +kernel
theorem dX8_clash_29 : decode cX8_clash 29 = .ok (.iload_n 3, 1) := by decide +kernel
theorem dX8_clash_30 : decode cX8_clash 30 = .ok (.aload_n 0, 1) := by decide +kernel
theorem dX8_clash_31 : decode cX8_clash 31 = .ok (.getfield 125, 3) := by decide +kernel
theorem dX8_clash_34 : decode cX8_clash 34 = .ok (.aload_n 0, 1) := by decide +kernel
theorem dX8_clash_35 : decode cX8_clash 35 = .ok (.getfield 125, 3) := by decide +kernel
theorem dX8_clash_38 : decode cX8_clash 38 = .ok (.invokevirtual 232, 3) := by decide +kernel
theorem dX8_clash_41 : decode cX8_clash 41 = .ok (.ifCond .eq 39, 3) := by decide +kernel
theorem dX8_clash_44 : decode cX8_clash 44 = .ok (.aload_n 0, 1) := by decide +kernel
theorem dX8_clash_45 : decode cX8_clash 45 = .ok (.iload_n 3, 1) := by decide +kernel
theorem dX8_clash_46 : decode cX8_clash 46 = .ok (.aload_n 0, 1) := by decide +kernel
theorem dX8_clash_47 : decode cX8_clash 47 = .ok (.getfield 51, 3) := by decide +kernel
theorem dX8_clash_50 : decode cX8_clash 50 = .ok (.iload_n 1, 1) := by decide +kernel
theorem dX8_clash_51 : decode cX8_clash 51 = .ok (.iaload, 1) := by decide +kernel
theorem dX8_clash_52 : decode cX8_clash 52 = .ok (.aload_n 0, 1) := by decide +kernel
theorem dX8_clash_53 : decode cX8_clash 53 = .ok (.getfield 54, 3) := by decide +kernel
theorem dX8_clash_56 : decode cX8_clash 56 = .ok (.iload_n 1, 1) := by decide +kernel
theorem dX8_clash_57 : decode cX8_clash 57 = .ok (.iaload, 1) := by decide +kernel
theorem dX8_clash_58 : decode cX8_clash 58 = .ok (.aload_n 0, 1) := by decide +kernel
theorem dX8_clash_59 : decode cX8_clash 59 = .ok (.getfield 57, 3) := by decide +kernel
theorem dX8_clash_62 : decode cX8_clash 62 = .ok (.iload_n 1, 1) := by decide +kernel
theorem dX8_clash_63 : decode cX8_clash 63 = .ok (.iaload, 1) := by decide +kernel
theorem dX8_clash_64 : decode cX8_clash 64 = .ok (.aload_n 0, 1) := by decide +kernel
theorem dX8_clash_65 : decode cX8_clash 65 = .ok (.getfield 60, 3) := by decide +kernel
theorem dX8_clash_68 : decode cX8_clash 68 = .ok (.iload_n 1, 1) := by decide +kernel
theorem dX8_clash_69 : decode cX8_clash 69 = .ok (.iaload, 1) := by decide +kernel
theorem dX8_clash_70 : decode cX8_clash 70 = .ok (.invokevirtual 251, 3) := by decide +kernel
theorem dX8_clash_73 : decode cX8_clash 73 = .ok (.ifCond .eq 7, 3) := by decide +kernel
theorem dX8_clash_76 : decode cX8_clash 76 = .ok (.iconst 1, 1) := by decide +kernel
theorem dX8_clash_77 : decode cX8_clash 77 = .ok (.goto 4, 3) := by decide +kernel
theorem dX8_clash_80 : decode cX8_clash 80 = .ok (.iconst 0, 1) := by decide +kernel
theorem dX8_clash_81 : decode cX8_clash 81 = .ok (.iadd, 1) := by decide +kernel
theorem dX8_clash_82 : decode cX8_clash 82 = .ok (.istore_n 2, 1) := by decide +kernel
theorem dX8_clash_83 : decode cX8_clash 83 = .ok (.iinc 3 1, 3) := by decide +kernel
theorem dX8_clash_86 : decode cX8_clash 86 = .ok (.goto (-72), 3) := by decide +kernel
theorem dX8_clash_89 : decode cX8_clash 89 = .ok (.iload_n 2, 1) := by decide +kernel
theorem dX8_clash_90 : decode cX8_clash 90 = .ok (.ireturn, 1) := by decide +kernel
set_option maxRecDepth 20000 in
theorem ggX8_told_X8_isApplication : GoodIn wsX8_told wsX8_isApplication := goodIn_r _ [13, 14, 15, 16, 12, 17, 24, 25, 26, 27, 28, 29, 30, 31, 32, 33, 34, 35, 36, 37, 38, 39, 40, 41, 42, 43, 44, 45, 46, 47, 48, 49, 50, 51, 52, 53, 54, 55, 56, 57, 58, 59, 60, 61, 62, 63, 64, 65, 66, 67, 68] rfl (by decide +kernel)
set_option maxRecDepth 20000 in
theorem gX8_told_X8_isApplication : GoodIn wsX8_told (wsV RX8 229 RX8 yX8_isApplication wsX8_isApplication) := goodIn_app (goodIn_of _ (by decide +kernel)) ggX8_told_X8_isApplication
set_option maxRecDepth 20000 in
theorem ggX8_told_X8_howNow : GoodIn wsX8_told wsX8_howNow := goodIn_r _ [21, 22, 23, 5, 6, 24, 25, 26, 27, 28, 29, 30, 31, 32, 33, 34, 35, 36, 37, 38, 39, 40, 41, 42, 43, 44, 45, 46, 47, 48, 49, 50, 51, 52, 53, 54, 55, 56, 57, 58, 59, 60, 61, 62, 63, 64, 65, 66, 67, 68] rfl (by decide +kernel)
set_option maxRecDepth 20000 in
theorem gX8_told_X8_howNow : GoodIn wsX8_told (wsV RX8 258 RX8 yX8_howNow wsX8_howNow) := goodIn_app (goodIn_of _ (by decide +kernel)) ggX8_told_X8_howNow
theorem dX8_told_0 : decode cX8_told 0 = .ok (.aload_n 0, 1) := by decide +kernel
theorem dX8_told_1 : decode cX8_told 1 = .ok (.iload_n 1, 1) := by decide +kernel
theorem dX8_told_2 : decode cX8_told 2 = .ok (.invokevirtual 229, 3) := by decide +kernel
theorem dX8_told_5 : decode cX8_told 5 = .ok (.ifCond .ne 5, 3) := by decide +kernel
theorem dX8_told_8 : decode cX8_told 8 = .ok (.iconst (-1), 1) := by decide +kernel
theorem dX8_told_9 : decode cX8_told 9 = .ok (.ireturn, 1) := by decide +kernel
theorem dX8_told_10 : decode cX8_told 10 = .ok (.iload_n 1, 1) := by decide +kernel
theorem dX8_told_11 : decode cX8_told 11 = .ok (.istore_n 3, 1) := by decide +kernel
theorem dX8_told_12 : decode cX8_told 12 = .ok (.aload_n 0, 1) := by decide +kernel
theorem dX8_told_13 : decode cX8_told 13 = .ok (.iload_n 3, 1) := by decide +kernel
theorem dX8_told_14 : decode cX8_told 14 = .ok (.invokevirtual 258, 3) := by decide +kernel
theorem dX8_told_17 : decode cX8_told 17 = .ok (.istore 4, 2) := by decide +kernel
theorem dX8_told_19 : decode cX8_told 19 = .ok (.iload_n 2, 1) := by decide +kernel
theorem dX8_told_20 : decode cX8_told 20 = .ok (.tableswitch 207 0 9 #[56, 59, 66, 73, 80, 87, 94, 101, 108, 192], 56) := by decide +kernel
theorem dX8_told_76 : decode cX8_told 76 = .ok (.iload 4, 2) := by decide +kernel
theorem dX8_told_78 : decode cX8_told 78 = .ok (.ireturn, 1) := by decide +kernel
theorem dX8_told_79 : decode cX8_told 79 = .ok (.aload_n 0, 1) := by decide +kernel
theorem dX8_told_80 : decode cX8_told 80 = .ok (.getfield 69, 3) := by decide +kernel
theorem dX8_told_83 : decode cX8_told 83 = .ok (.iload_n 3, 1) := by decide +kernel
theorem dX8_told_84 : decode cX8_told 84 = .ok (.iaload, 1) := by decide +kernel
theorem dX8_told_85 : decode cX8_told 85 = .ok (.ireturn, 1) := by decide +kernel
theorem dX8_told_86 : decode cX8_told 86 = .ok (.aload_n 0, 1) := by decide +kernel
theorem dX8_told_87 : decode cX8_told 87 = .ok (.getfield 48, 3) := by decide +kernel
theorem dX8_told_90 : decode cX8_told 90 = .ok (.iload_n 3, 1) := by decide +kernel
theorem dX8_told_91 : decode cX8_told 91 = .ok (.iaload, 1) := by decide +kernel
theorem dX8_told_92 : decode cX8_told 92 = .ok (.ireturn, 1) := by decide +kernel
theorem dX8_told_93 : decode cX8_told 93 = .ok (.aload_n 0, 1) := by decide +kernel
theorem dX8_told_94 : decode cX8_told 94 = .ok (.getfield 75, 3) := by decide +kernel
theorem dX8_told_97 : decode cX8_told 97 = .ok (.iload_n 3, 1) := by decide +kernel
theorem dX8_told_98 : decode cX8_told 98 = .ok (.iaload, 1) := by decide +kernel
theorem dX8_told_99 : decode cX8_told 99 = .ok (.ireturn, 1) := by decide +kernel
theorem dX8_told_100 : decode cX8_told 100 = .ok (.aload_n 0, 1) := by decide +kernel
theorem dX8_told_101 : decode cX8_told 101 = .ok (.getfield 78, 3) := by decide +kernel
theorem dX8_told_104 : decode cX8_told 104 = .ok (.iload_n 3, 1) := by decide +kernel
theorem dX8_told_105 : decode cX8_told 105 = .ok (.iaload, 1) := by decide +kernel
theorem dX8_told_106 : decode cX8_told 106 = .ok (.ireturn, 1) := by decide +kernel
theorem dX8_told_107 : decode cX8_told 107 = .ok (.aload_n 0, 1) := by decide +kernel
theorem dX8_told_108 : decode cX8_told 108 = .ok (.getfield 81, 3) := by decide +kernel
theorem dX8_told_111 : decode cX8_told 111 = .ok (.iload_n 3, 1) := by decide +kernel
theorem dX8_told_112 : decode cX8_told 112 = .ok (.iaload, 1) := by decide +kernel
theorem dX8_told_113 : decode cX8_told 113 = .ok (.ireturn, 1) := by decide +kernel
theorem dX8_told_114 : decode cX8_told 114 = .ok (.aload_n 0, 1) := by decide +kernel
theorem dX8_told_115 : decode cX8_told 115 = .ok (.getfield 84, 3) := by decide +kernel
theorem dX8_told_118 : decode cX8_told 118 = .ok (.iload_n 3, 1) := by decide +kernel
theorem dX8_told_119 : decode cX8_told 119 = .ok (.iaload, 1) := by decide +kernel
theorem dX8_told_120 : decode cX8_told 120 = .ok (.ireturn, 1) := by decide +kernel
theorem dX8_told_121 : decode cX8_told 121 = .ok (.aload_n 0, 1) := by decide +kernel
theorem dX8_told_122 : decode cX8_told 122 = .ok (.getfield 87, 3) := by decide +kernel
theorem dX8_told_125 : decode cX8_told 125 = .ok (.iload_n 3, 1) := by decide +kernel
theorem dX8_told_126 : decode cX8_told 126 = .ok (.iaload, 1) := by decide +kernel
theorem dX8_told_127 : decode cX8_told 127 = .ok (.ireturn, 1) := by decide +kernel
theorem dX8_told_128 : decode cX8_told 128 = .ok (.iload 4, 2) := by decide +kernel
theorem dX8_told_130 : decode cX8_told 130 = .ok (.ifCond .ne 15, 3) := by decide +kernel
theorem dX8_told_133 : decode cX8_told 133 = .ok (.aload_n 0, 1) := by decide +kernel
theorem dX8_told_134 : decode cX8_told 134 = .ok (.getfield 69, 3) := by decide +kernel
theorem dX8_told_137 : decode cX8_told 137 = .ok (.iload_n 3, 1) := by decide +kernel
theorem dX8_told_138 : decode cX8_told 138 = .ok (.iaload, 1) := by decide +kernel
theorem dX8_told_139 : decode cX8_told 139 = .ok (.bipush 30, 2) := by decide +kernel
theorem dX8_told_141 : decode cX8_told 141 = .ok (.iadd, 1) := by decide +kernel
theorem dX8_told_142 : decode cX8_told 142 = .ok (.goto 69, 3) := by decide +kernel
theorem dX8_told_145 : decode cX8_told 145 = .ok (.iload 4, 2) := by decide +kernel
theorem dX8_told_147 : decode cX8_told 147 = .ok (.iconst 1, 1) := by decide +kernel
theorem dX8_told_148 : decode cX8_told 148 = .ok (.if_icmp .ne 16, 3) := by decide +kernel
theorem dX8_told_151 : decode cX8_told 151 = .ok (.aload_n 0, 1) := by decide +kernel
theorem dX8_told_152 : decode cX8_told 152 = .ok (.getfield 81, 3) := by decide +kernel
theorem dX8_told_155 : decode cX8_told 155 = .ok (.iload_n 3, 1) := by decide +kernel
theorem dX8_told_156 : decode cX8_told 156 = .ok (.iaload, 1) := by decide +kernel
theorem dX8_told_157 : decode cX8_told 157 = .ok (.sipush 400, 3) := by decide +kernel
theorem dX8_told_160 : decode cX8_told 160 = .ok (.iadd, 1) := by decide +kernel
theorem dX8_told_161 : decode cX8_told 161 = .ok (.goto 50, 3) := by decide +kernel
theorem dX8_told_164 : decode cX8_told 164 = .ok (.iload 4, 2) := by decide +kernel
theorem dX8_told_166 : decode cX8_told 166 = .ok (.iconst 3, 1) := by decide +kernel
theorem dX8_told_167 : decode cX8_told 167 = .ok (.if_icmp .ne 16, 3) := by decide +kernel
theorem dX8_told_170 : decode cX8_told 170 = .ok (.aload_n 0, 1) := by decide +kernel
theorem dX8_told_171 : decode cX8_told 171 = .ok (.getfield 84, 3) := by decide +kernel
theorem dX8_told_174 : decode cX8_told 174 = .ok (.iload_n 3, 1) := by decide +kernel
theorem dX8_told_175 : decode cX8_told 175 = .ok (.iaload, 1) := by decide +kernel
theorem dX8_told_176 : decode cX8_told 176 = .ok (.sipush 300, 3) := by decide +kernel
theorem dX8_told_179 : decode cX8_told 179 = .ok (.iadd, 1) := by decide +kernel
theorem dX8_told_180 : decode cX8_told 180 = .ok (.goto 31, 3) := by decide +kernel
theorem dX8_told_183 : decode cX8_told 183 = .ok (.iload 4, 2) := by decide +kernel
theorem dX8_told_185 : decode cX8_told 185 = .ok (.iconst 2, 1) := by decide +kernel
theorem dX8_told_186 : decode cX8_told 186 = .ok (.if_icmp .ne 24, 3) := by decide +kernel
theorem dX8_told_189 : decode cX8_told 189 = .ok (.aload_n 0, 1) := by decide +kernel
theorem dX8_told_190 : decode cX8_told 190 = .ok (.getfield 96, 3) := by decide +kernel
theorem dX8_told_193 : decode cX8_told 193 = .ok (.iload_n 3, 1) := by decide +kernel
theorem dX8_told_194 : decode cX8_told 194 = .ok (.baload, 1) := by decide +kernel
theorem dX8_told_195 : decode cX8_told 195 = .ok (.ifCond .ne 15, 3) := by decide +kernel
theorem dX8_told_198 : decode cX8_told 198 = .ok (.aload_n 0, 1) := by decide +kernel
theorem dX8_told_199 : decode cX8_told 199 = .ok (.getfield 81, 3) := by decide +kernel
theorem dX8_told_202 : decode cX8_told 202 = .ok (.iload_n 3, 1) := by decide +kernel
theorem dX8_told_203 : decode cX8_told 203 = .ok (.iaload, 1) := by decide +kernel
theorem dX8_told_204 : decode cX8_told 204 = .ok (.bipush 60, 2) := by decide +kernel
theorem dX8_told_206 : decode cX8_told 206 = .ok (.iadd, 1) := by decide +kernel
theorem dX8_told_207 : decode cX8_told 207 = .ok (.goto 4, 3) := by decide +kernel
theorem dX8_told_210 : decode cX8_told 210 = .ok (.iconst (-1), 1) := by decide +kernel
theorem dX8_told_211 : decode cX8_told 211 = .ok (.ireturn, 1) := by decide +kernel
theorem dX8_told_212 : decode cX8_told 212 = .ok (.aload_n 0, 1) := by decide +kernel
theorem dX8_told_213 : decode cX8_told 213 = .ok (.getfield 96, 3) := by decide +kernel
theorem dX8_told_216 : decode cX8_told 216 = .ok (.iload_n 3, 1) := by decide +kernel
theorem dX8_told_217 : decode cX8_told 217 = .ok (.baload, 1) := by decide +kernel
theorem dX8_told_218 : decode cX8_told 218 = .ok (.ifCond .eq 7, 3) := by decide +kernel
theorem dX8_told_221 : decode cX8_told 221 = .ok (.iconst 1, 1) := by decide +kernel
theorem dX8_told_222 : decode cX8_told 222 = .ok (.goto 4, 3) := by decide +kernel
theorem dX8_told_225 : decode cX8_told 225 = .ok (.iconst 0, 1) := by decide +kernel
theorem dX8_told_226 : decode cX8_told 226 = .ok (.ireturn, 1) := by decide +kernel
theorem dX8_told_227 : decode cX8_told 227 = .ok (.iconst (-1), 1) := by decide +kernel
theorem dX8_told_228 : decode cX8_told 228 = .ok (.ireturn, 1) := by decide +kernel
set_option maxRecDepth 20000 in
theorem ggX8_raze_X8_isApplication : GoodIn wsX8_raze wsX8_isApplication := goodIn_r _ [9, 10, 11, 12, 8, 13, 14, 15, 16, 17, 18, 19, 20, 21, 22, 23, 24, 25, 26, 27, 28, 29, 30, 31, 32, 33, 34, 35, 36, 37, 38, 39, 40, 41, 42, 43, 44, 45, 46, 47, 48, 49, 50, 51, 52, 53, 54, 55, 56, 57, 58] rfl (by decide +kernel)
set_option maxRecDepth 20000 in
theorem gX8_raze_X8_isApplication : GoodIn wsX8_raze (wsV RX8 229 RX8 yX8_isApplication wsX8_isApplication) := goodIn_app (goodIn_of _ (by decide +kernel)) ggX8_raze_X8_isApplication
theorem dX8_raze_0 : decode cX8_raze 0 = .ok (.aload_n 0, 1) := by decide +kernel
theorem dX8_raze_1 : decode cX8_raze 1 = .ok (.iload_n 1, 1) := by decide +kernel
theorem dX8_raze_2 : decode cX8_raze 2 = .ok (.invokevirtual 229, 3) := by decide +kernel
theorem dX8_raze_5 : decode cX8_raze 5 = .ok (.ifCond .eq 41, 3) := by decide +kernel
theorem dX8_raze_8 : decode cX8_raze 8 = .ok (.aload_n 0, 1) := by decide +kernel
theorem dX8_raze_9 : decode cX8_raze 9 = .ok (.getfield 87, 3) := by decide +kernel
theorem dX8_raze_12 : decode cX8_raze 12 = .ok (.iload_n 1, 1) := by decide +kernel
theorem dX8_raze_13 : decode cX8_raze 13 = .ok (.iaload, 1) := by decide +kernel
theorem dX8_raze_14 : decode cX8_raze 14 = .ok (.iconst (-1), 1) := by decide +kernel
theorem dX8_raze_15 : decode cX8_raze 15 = .ok (.if_icmp .eq 31, 3) := by decide +kernel
theorem dX8_raze_18 : decode cX8_raze 18 = .ok (.iload_n 2, 1) := by decide +kernel
theorem dX8_raze_19 : decode cX8_raze 19 = .ok (.aload_n 0, 1) := by decide +kernel
theorem dX8_raze_20 : decode cX8_raze 20 = .ok (.getfield 87, 3) := by decide +kernel
theorem dX8_raze_23 : decode cX8_raze 23 = .ok (.iload_n 1, 1) := by decide +kernel
theorem dX8_raze_24 : decode cX8_raze 24 = .ok (.iaload, 1) := by decide +kernel
theorem dX8_raze_25 : decode cX8_raze 25 = .ok (.if_icmp .lt 21, 3) := by decide +kernel
theorem dX8_raze_28 : decode cX8_raze 28 = .ok (.iload_n 2, 1) := by decide +kernel
theorem dX8_raze_29 : decode cX8_raze 29 = .ok (.aload_n 0, 1) := by decide +kernel
theorem dX8_raze_30 : decode cX8_raze 30 = .ok (.getfield 125, 3) := by decide +kernel
theorem dX8_raze_33 : decode cX8_raze 33 = .ok (.if_icmp .gt 13, 3) := by decide +kernel
theorem dX8_raze_36 : decode cX8_raze 36 = .ok (.aload_n 0, 1) := by decide +kernel
theorem dX8_raze_37 : decode cX8_raze 37 = .ok (.getfield 90, 3) := by decide +kernel
theorem dX8_raze_40 : decode cX8_raze 40 = .ok (.iload_n 1, 1) := by decide +kernel
theorem dX8_raze_41 : decode cX8_raze 41 = .ok (.iaload, 1) := by decide +kernel
theorem dX8_raze_42 : decode cX8_raze 42 = .ok (.iconst (-1), 1) := by decide +kernel
theorem dX8_raze_43 : decode cX8_raze 43 = .ok (.if_icmp .eq 5, 3) := by decide +kernel
theorem dX8_raze_46 : decode cX8_raze 46 = .ok (.iconst 0, 1) := by decide +kernel
theorem dX8_raze_47 : decode cX8_raze 47 = .ok (.ireturn, 1) := by decide +kernel
theorem dX8_raze_48 : decode cX8_raze 48 = .ok (.aload_n 0, 1) := by decide +kernel
theorem dX8_raze_49 : decode cX8_raze 49 = .ok (.getfield 90, 3) := by decide +kernel
theorem dX8_raze_52 : decode cX8_raze 52 = .ok (.iload_n 1, 1) := by decide +kernel
theorem dX8_raze_53 : decode cX8_raze 53 = .ok (.iload_n 2, 1) := by decide +kernel
theorem dX8_raze_54 : decode cX8_raze 54 = .ok (.iastore, 1) := by decide +kernel
theorem dX8_raze_55 : decode cX8_raze 55 = .ok (.aload_n 0, 1) := by decide +kernel
theorem dX8_raze_56 : decode cX8_raze 56 = .ok (.getfield 93, 3) := by decide +kernel
theorem dX8_raze_59 : decode cX8_raze 59 = .ok (.iload_n 1, 1) := by decide +kernel
theorem dX8_raze_60 : decode cX8_raze 60 = .ok (.aload_n 0, 1) := by decide +kernel
theorem dX8_raze_61 : decode cX8_raze 61 = .ok (.getfield 125, 3) := by decide +kernel
theorem dX8_raze_64 : decode cX8_raze 64 = .ok (.iastore, 1) := by decide +kernel
theorem dX8_raze_65 : decode cX8_raze 65 = .ok (.iconst 1, 1) := by decide +kernel
theorem dX8_raze_66 : decode cX8_raze 66 = .ok (.ireturn, 1) := by decide +kernel
set_option maxRecDepth 20000 in
theorem ggX8_hold_X8_isPlot : GoodIn wsX8_hold wsX8_isPlot := goodIn_r _ [11, 12, 13, 14, 10, 15, 16, 17, 18, 19, 20, 21, 22, 23, 24, 25, 26, 27, 28, 29, 30, 31, 32, 33, 34, 35, 36, 37, 38, 39, 40, 41, 42, 43, 44, 45, 46, 47, 48, 49, 50, 51, 52, 53, 54, 55, 56, 57, 58, 59, 60] rfl (by decide +kernel)
set_option maxRecDepth 20000 in
theorem gX8_hold_X8_isPlot : GoodIn wsX8_hold (wsV RX8 143 RX8 yX8_isPlot wsX8_isPlot) := goodIn_app (goodIn_of _ (by decide +kernel)) ggX8_hold_X8_isPlot
set_option maxRecDepth 20000 in
theorem ggX8_hold_X8_isIn : GoodIn wsX8_hold wsX8_isIn := goodIn_r _ [15] rfl (by decide +kernel)
set_option maxRecDepth 20000 in
theorem gX8_hold_X8_isIn : GoodIn wsX8_hold (va_wsS RX8 115 yX8_isIn wsX8_isIn) := goodIn_app (goodIn_of _ (by decide +kernel)) ggX8_hold_X8_isIn
theorem dX8_hold_0 : decode cX8_hold 0 = .ok (.aload_n 0, 1) := by decide +kernel
theorem dX8_hold_1 : decode cX8_hold 1 = .ok (.iload_n 1, 1) := by decide +kernel
theorem dX8_hold_2 : decode cX8_hold 2 = .ok (.invokevirtual 143, 3) := by decide +kernel
theorem dX8_hold_5 : decode cX8_hold 5 = .ok (.ifCond .eq 34, 3) := by decide +kernel
theorem dX8_hold_8 : decode cX8_hold 8 = .ok (.iload_n 2, 1) := by decide +kernel
theorem dX8_hold_9 : decode cX8_hold 9 = .ok (.iconst 0, 1) := by decide +kernel
theorem dX8_hold_10 : decode cX8_hold 10 = .ok (.bipush 99, 2) := by decide +kernel
theorem dX8_hold_12 : decode cX8_hold 12 = .ok (.invokestatic 115, 3) := by decide +kernel
theorem dX8_hold_15 : decode cX8_hold 15 = .ok (.ifCond .eq 24, 3) := by decide +kernel
theorem dX8_hold_18 : decode cX8_hold 18 = .ok (.iload_n 3, 1) := by decide +kernel
theorem dX8_hold_19 : decode cX8_hold 19 = .ok (.iconst 0, 1) := by decide +kernel
theorem dX8_hold_20 : decode cX8_hold 20 = .ok (.aload_n 0, 1) := by decide +kernel
theorem dX8_hold_21 : decode cX8_hold 21 = .ok (.getfield 125, 3) := by decide +kernel
theorem dX8_hold_24 : decode cX8_hold 24 = .ok (.invokestatic 115, 3) := by decide +kernel
theorem dX8_hold_27 : decode cX8_hold 27 = .ok (.ifCond .eq 12, 3) := by decide +kernel
theorem dX8_hold_30 : decode cX8_hold 30 = .ok (.aload_n 0, 1) := by decide +kernel
theorem dX8_hold_31 : decode cX8_hold 31 = .ok (.getfield 261, 3) := by decide +kernel
theorem dX8_hold_34 : decode cX8_hold 34 = .ok (.bipush 100, 2) := by decide +kernel
theorem dX8_hold_36 : decode cX8_hold 36 = .ok (.if_icmp .ne 5, 3) := by decide +kernel
theorem dX8_hold_39 : decode cX8_hold 39 = .ok (.iconst 0, 1) := by decide +kernel
theorem dX8_hold_40 : decode cX8_hold 40 = .ok (.ireturn, 1) := by decide +kernel
theorem dX8_hold_41 : decode cX8_hold 41 = .ok (.aload_n 0, 1) := by decide +kernel
theorem dX8_hold_42 : decode cX8_hold 42 = .ok (.getfield 103, 3) := by decide +kernel
theorem dX8_hold_45 : decode cX8_hold 45 = .ok (.aload_n 0, 1) := by decide +kernel
theorem dX8_hold_46 : decode cX8_hold 46 = .ok (.getfield 261, 3) := by decide +kernel
theorem dX8_hold_49 : decode cX8_hold 49 = .ok (.iload_n 1, 1) := by decide +kernel
theorem dX8_hold_50 : decode cX8_hold 50 = .ok (.iastore, 1) := by decide +kernel
theorem dX8_hold_51 : decode cX8_hold 51 = .ok (.aload_n 0, 1) := by decide +kernel
theorem dX8_hold_52 : decode cX8_hold 52 = .ok (.getfield 106, 3) := by decide +kernel
theorem dX8_hold_55 : decode cX8_hold 55 = .ok (.aload_n 0, 1) := by decide +kernel
theorem dX8_hold_56 : decode cX8_hold 56 = .ok (.getfield 261, 3) := by decide +kernel
theorem dX8_hold_59 : decode cX8_hold 59 = .ok (.iload_n 2, 1) := by decide +kernel
theorem dX8_hold_60 : decode cX8_hold 60 = .ok (.iastore, 1) := by decide +kernel
theorem dX8_hold_61 : decode cX8_hold 61 = .ok (.aload_n 0, 1) := by decide +kernel
theorem dX8_hold_62 : decode cX8_hold 62 = .ok (.getfield 109, 3) := by decide +kernel
theorem dX8_hold_65 : decode cX8_hold 65 = .ok (.aload_n 0, 1) := by decide +kernel
theorem dX8_hold_66 : decode cX8_hold 66 = .ok (.getfield 261, 3) := by decide +kernel
theorem dX8_hold_69 : decode cX8_hold 69 = .ok (.iload_n 3, 1) := by decide +kernel
theorem dX8_hold_70 : decode cX8_hold 70 = .ok (.iastore, 1) := by decide +kernel
theorem dX8_hold_71 : decode cX8_hold 71 = .ok (.aload_n 0, 1) := by decide +kernel
theorem dX8_hold_72 : decode cX8_hold 72 = .ok (.getfield 112, 3) := by decide +kernel
theorem dX8_hold_75 : decode cX8_hold 75 = .ok (.aload_n 0, 1) := by decide +kernel
theorem dX8_hold_76 : decode cX8_hold 76 = .ok (.getfield 261, 3) := by decide +kernel
theorem dX8_hold_79 : decode cX8_hold 79 = .ok (.aload_n 0, 1) := by decide +kernel
theorem dX8_hold_80 : decode cX8_hold 80 = .ok (.getfield 125, 3) := by decide +kernel
theorem dX8_hold_83 : decode cX8_hold 83 = .ok (.iastore, 1) := by decide +kernel
theorem dX8_hold_84 : decode cX8_hold 84 = .ok (.aload_n 0, 1) := by decide +kernel
theorem dX8_hold_85 : decode cX8_hold 85 = .ok (.dup, 1) := by decide +kernel
theorem dX8_hold_86 : decode cX8_hold 86 = .ok (.getfield 261, 3) := by decide +kernel
theorem dX8_hold_89 : decode cX8_hold 89 = .ok (.iconst 1, 1) := by decide +kernel
theorem dX8_hold_90 : decode cX8_hold 90 = .ok (.iadd, 1) := by decide +kernel
theorem dX8_hold_91 : decode cX8_hold 91 = .ok (.putfield 261, 3) := by decide +kernel
theorem dX8_hold_94 : decode cX8_hold 94 = .ok (.iconst 1, 1) := by decide +kernel
theorem dX8_hold_95 : decode cX8_hold 95 = .ok (.ireturn, 1) := by decide +kernel
set_option maxRecDepth 20000 in
theorem ggX8_holder_X8_isPlot : GoodIn wsX8_holder wsX8_isPlot := goodIn_r _ [10, 11, 12, 13, 9, 14, 18, 19, 20, 21, 22, 23, 24, 25, 26, 27, 28, 29, 30, 31, 32, 33, 34, 35, 36, 37, 38, 39, 40, 41, 42, 43, 44, 45, 46, 47, 48, 49, 50, 51, 52, 53, 54, 55, 56, 57, 58, 59, 60, 61, 62] rfl (by decide +kernel)
set_option maxRecDepth 20000 in
theorem gX8_holder_X8_isPlot : GoodIn wsX8_holder (wsV RX8 143 RX8 yX8_isPlot wsX8_isPlot) := goodIn_app (goodIn_of _ (by decide +kernel)) ggX8_holder_X8_isPlot
set_option maxRecDepth 20000 in
theorem ggX8_holder_X8_isDay : GoodIn wsX8_holder wsX8_isDay := goodIn_r _ [17, 12, 13, 9, 14] rfl (by decide +kernel)
set_option maxRecDepth 20000 in
theorem gX8_holder_X8_isDay : GoodIn wsX8_holder (va_wsS RX8 216 yX8_isDay wsX8_isDay) := goodIn_app (goodIn_of _ (by decide +kernel)) ggX8_holder_X8_isDay
theorem dX8_holder_0 : decode cX8_holder 0 = .ok (.aload_n 0, 1) := by decide +kernel
theorem dX8_holder_1 : decode cX8_holder 1 = .ok (.iload_n 1, 1) := by decide +kernel
theorem dX8_holder_2 : decode cX8_holder 2 = .ok (.invokevirtual 143, 3) := by decide +kernel
theorem dX8_holder_5 : decode cX8_holder 5 = .ok (.ifCond .eq 17, 3) := by decide +kernel
theorem dX8_holder_8 : decode cX8_holder 8 = .ok (.iload_n 2, 1) := by decide +kernel
theorem dX8_holder_9 : decode cX8_holder 9 = .ok (.invokestatic 216, 3) := by decide +kernel
theorem dX8_holder_12 : decode cX8_holder 12 = .ok (.ifCond .eq 10, 3) := by decide +kernel
theorem dX8_holder_15 : decode cX8_holder 15 = .ok (.iload_n 3, 1) := by decide +kernel
theorem dX8_holder_16 : decode cX8_holder 16 = .ok (.invokestatic 216, 3) := by decide +kernel
theorem dX8_holder_19 : decode cX8_holder 19 = .ok (.ifCond .ne 5, 3) := by decide +kernel
theorem dX8_holder_22 : decode cX8_holder 22 = .ok (.iconst (-1), 1) := by decide +kernel
theorem dX8_holder_23 : decode cX8_holder 23 = .ok (.ireturn, 1) := by decide +kernel
theorem dX8_holder_24 : decode cX8_holder 24 = .ok (.iconst (-1), 1) := by decide +kernel
theorem dX8_holder_25 : decode cX8_holder 25 = .ok (.istore 4, 2) := by decide +kernel
theorem dX8_holder_27 : decode cX8_holder 27 = .ok (.iconst 0, 1) := by decide +kernel
theorem dX8_holder_28 : decode cX8_holder 28 = .ok (.istore 5, 2) := by decide +kernel
theorem dX8_holder_30 : decode cX8_holder 30 = .ok (.iload 5, 2) := by decide +kernel
theorem dX8_holder_32 : decode cX8_holder 32 = .ok (.aload_n 0, 1) := by decide +kernel
theorem dX8_holder_33 : decode cX8_holder 33 = .ok (.getfield 261, 3) := by decide +kernel
theorem dX8_holder_36 : decode cX8_holder 36 = .ok (.if_icmp .ge 69, 3) := by decide +kernel
theorem dX8_holder_39 : decode cX8_holder 39 = .ok (.aload_n 0, 1) := by decide +kernel
theorem dX8_holder_40 : decode cX8_holder 40 = .ok (.getfield 103, 3) := by decide +kernel
theorem dX8_holder_43 : decode cX8_holder 43 = .ok (.iload 5, 2) := by decide +kernel
theorem dX8_holder_45 : decode cX8_holder 45 = .ok (.iaload, 1) := by decide +kernel
theorem dX8_holder_46 : decode cX8_holder 46 = .ok (.iload_n 1, 1) := by decide +kernel
theorem dX8_holder_47 : decode cX8_holder 47 = .ok (.if_icmp .ne 52, 3) := by decide +kernel
theorem dX8_holder_50 : decode cX8_holder 50 = .ok (.aload_n 0, 1) := by decide +kernel
theorem dX8_holder_51 : decode cX8_holder 51 = .ok (.getfield 109, 3) := by decide +kernel
theorem dX8_holder_54 : decode cX8_holder 54 = .ok (.iload 5, 2) := by decide +kernel
theorem dX8_holder_56 : decode cX8_holder 56 = .ok (.iaload, 1) := by decide +kernel
theorem dX8_holder_57 : decode cX8_holder 57 = .ok (.iload_n 2, 1) := by decide +kernel
theorem dX8_holder_58 : decode cX8_holder 58 = .ok (.if_icmp .gt 41, 3) := by decide +kernel
theorem dX8_holder_61 : decode cX8_holder 61 = .ok (.aload_n 0, 1) := by decide +kernel
theorem dX8_holder_62 : decode cX8_holder 62 = .ok (.getfield 112, 3) := by decide +kernel
theorem dX8_holder_65 : decode cX8_holder 65 = .ok (.iload 5, 2) := by decide +kernel
theorem dX8_holder_67 : decode cX8_holder 67 = .ok (.iaload, 1) := by decide +kernel
theorem dX8_holder_68 : decode cX8_holder 68 = .ok (.iload_n 3, 1) := by decide +kernel
theorem dX8_holder_69 : decode cX8_holder 69 = .ok (.if_icmp .gt 30, 3) := by decide +kernel
theorem dX8_holder_72 : decode cX8_holder 72 = .ok (.iload 4, 2) := by decide +kernel
theorem dX8_holder_74 : decode cX8_holder 74 = .ok (.iconst (-1), 1) := by decide +kernel
theorem dX8_holder_75 : decode cX8_holder 75 = .ok (.if_icmp .eq 20, 3) := by decide +kernel
theorem dX8_holder_78 : decode cX8_holder 78 = .ok (.aload_n 0, 1) := by decide +kernel
theorem dX8_holder_79 : decode cX8_holder 79 = .ok (.getfield 109, 3) := by decide +kernel
theorem dX8_holder_82 : decode cX8_holder 82 = .ok (.iload 5, 2) := by decide +kernel
theorem dX8_holder_84 : decode cX8_holder 84 = .ok (.iaload, 1) := by decide +kernel
theorem dX8_holder_85 : decode cX8_holder 85 = .ok (.aload_n 0, 1) := by decide +kernel
theorem dX8_holder_86 : decode cX8_holder 86 = .ok (.getfield 109, 3) := by decide +kernel
theorem dX8_holder_89 : decode cX8_holder 89 = .ok (.iload 4, 2) := by decide +kernel
theorem dX8_holder_91 : decode cX8_holder 91 = .ok (.iaload, 1) := by decide +kernel
theorem dX8_holder_92 : decode cX8_holder 92 = .ok (.if_icmp .lt 7, 3) := by decide +kernel
theorem dX8_holder_95 : decode cX8_holder 95 = .ok (.iload 5, 2) := by decide +kernel
theorem dX8_holder_97 : decode cX8_holder 97 = .ok (.istore 4, 2) := by decide +kernel
theorem dX8_holder_99 : decode cX8_holder 99 = .ok (.iinc 5 1, 3) := by decide +kernel
theorem dX8_holder_102 : decode cX8_holder 102 = .ok (.goto (-72), 3) := by decide +kernel
theorem dX8_holder_105 : decode cX8_holder 105 = .ok (.iload 4, 2) := by decide +kernel
theorem dX8_holder_107 : decode cX8_holder 107 = .ok (.iconst (-1), 1) := by decide +kernel
theorem dX8_holder_108 : decode cX8_holder 108 = .ok (.if_icmp .ne 7, 3) := by decide +kernel
theorem dX8_holder_111 : decode cX8_holder 111 = .ok (.iconst (-1), 1) := by decide +kernel
theorem dX8_holder_112 : decode cX8_holder 112 = .ok (.goto 10, 3) := by decide +kernel
theorem dX8_holder_115 : decode cX8_holder 115 = .ok (.aload_n 0, 1) := by decide +kernel
theorem dX8_holder_116 : decode cX8_holder 116 = .ok (.getfield 106, 3) := by decide +kernel
theorem dX8_holder_119 : decode cX8_holder 119 = .ok (.iload 4, 2) := by decide +kernel
theorem dX8_holder_121 : decode cX8_holder 121 = .ok (.iaload, 1) := by decide +kernel
theorem dX8_holder_122 : decode cX8_holder 122 = .ok (.ireturn, 1) := by decide +kernel
set_option maxRecDepth 20000 in
theorem ggX8_count_X8_stood : GoodIn wsX8_count wsX8_stood := goodIn_r _ [11, 12, 13, 14, 15, 16, 17, 18, 19, 20, 21, 22, 23, 24, 25, 26, 27, 28, 29, 30, 31, 32, 33, 34, 35, 36, 37, 38, 39, 40, 41, 42, 43, 44, 45, 46, 47, 48, 49, 50, 51, 52, 53, 54, 55, 56, 57, 58, 59] rfl (by decide +kernel)
set_option maxRecDepth 20000 in
theorem gX8_count_X8_stood : GoodIn wsX8_count (wsV RX8 232 RX8 yX8_stood wsX8_stood) := goodIn_app (goodIn_of _ (by decide +kernel)) ggX8_count_X8_stood
theorem dX8_count_0 : decode cX8_count 0 = .ok (.iload_n 1, 1) := by decide +kernel
theorem dX8_count_1 : decode cX8_count 1 = .ok (.tableswitch 117 0 6 #[43, 48, 53, 58, 63, 68, 73], 43) := by decide +kernel
theorem dX8_count_44 : decode cX8_count 44 = .ok (.aload_n 0, 1) := by decide +kernel
theorem dX8_count_45 : decode cX8_count 45 = .ok (.getfield 125, 3) := by decide +kernel
theorem dX8_count_48 : decode cX8_count 48 = .ok (.ireturn, 1) := by decide +kernel
theorem dX8_count_49 : decode cX8_count 49 = .ok (.aload_n 0, 1) := by decide +kernel
theorem dX8_count_50 : decode cX8_count 50 = .ok (.getfield 119, 3) := by decide +kernel
theorem dX8_count_53 : decode cX8_count 53 = .ok (.ireturn, 1) := by decide +kernel
theorem dX8_count_54 : decode cX8_count 54 = .ok (.aload_n 0, 1) := by decide +kernel
theorem dX8_count_55 : decode cX8_count 55 = .ok (.getfield 219, 3) := by decide +kernel
theorem dX8_count_58 : decode cX8_count 58 = .ok (.ireturn, 1) := by decide +kernel
theorem dX8_count_59 : decode cX8_count 59 = .ok (.aload_n 0, 1) := by decide +kernel
theorem dX8_count_60 : decode cX8_count 60 = .ok (.getfield 122, 3) := by decide +kernel
theorem dX8_count_63 : decode cX8_count 63 = .ok (.ireturn, 1) := by decide +kernel
theorem dX8_count_64 : decode cX8_count 64 = .ok (.aload_n 0, 1) := by decide +kernel
theorem dX8_count_65 : decode cX8_count 65 = .ok (.getfield 160, 3) := by decide +kernel
theorem dX8_count_68 : decode cX8_count 68 = .ok (.ireturn, 1) := by decide +kernel
theorem dX8_count_69 : decode cX8_count 69 = .ok (.aload_n 0, 1) := by decide +kernel
theorem dX8_count_70 : decode cX8_count 70 = .ok (.getfield 128, 3) := by decide +kernel
theorem dX8_count_73 : decode cX8_count 73 = .ok (.ireturn, 1) := by decide +kernel
theorem dX8_count_74 : decode cX8_count 74 = .ok (.iconst 0, 1) := by decide +kernel
theorem dX8_count_75 : decode cX8_count 75 = .ok (.istore_n 2, 1) := by decide +kernel
theorem dX8_count_76 : decode cX8_count 76 = .ok (.iconst 0, 1) := by decide +kernel
theorem dX8_count_77 : decode cX8_count 77 = .ok (.istore_n 3, 1) := by decide +kernel
theorem dX8_count_78 : decode cX8_count 78 = .ok (.iload_n 3, 1) := by decide +kernel
theorem dX8_count_79 : decode cX8_count 79 = .ok (.aload_n 0, 1) := by decide +kernel
theorem dX8_count_80 : decode cX8_count 80 = .ok (.getfield 122, 3) := by decide +kernel
theorem dX8_count_83 : decode cX8_count 83 = .ok (.if_icmp .ge 33, 3) := by decide +kernel
theorem dX8_count_86 : decode cX8_count 86 = .ok (.iload_n 2, 1) := by decide +kernel
theorem dX8_count_87 : decode cX8_count 87 = .ok (.aload_n 0, 1) := by decide +kernel
theorem dX8_count_88 : decode cX8_count 88 = .ok (.iload_n 3, 1) := by decide +kernel
theorem dX8_count_89 : decode cX8_count 89 = .ok (.aload_n 0, 1) := by decide +kernel
theorem dX8_count_90 : decode cX8_count 90 = .ok (.getfield 125, 3) := by decide +kernel
theorem dX8_count_93 : decode cX8_count 93 = .ok (.aload_n 0, 1) := by decide +kernel
theorem dX8_count_94 : decode cX8_count 94 = .ok (.getfield 125, 3) := by decide +kernel
theorem dX8_count_97 : decode cX8_count 97 = .ok (.invokevirtual 232, 3) := by decide +kernel
theorem dX8_count_100 : decode cX8_count 100 = .ok (.ifCond .eq 7, 3) := by decide +kernel
theorem dX8_count_103 : decode cX8_count 103 = .ok (.iconst 1, 1) := by decide +kernel
theorem dX8_count_104 : decode cX8_count 104 = .ok (.goto 4, 3) := by decide +kernel
theorem dX8_count_107 : decode cX8_count 107 = .ok (.iconst 0, 1) := by decide +kernel
theorem dX8_count_108 : decode cX8_count 108 = .ok (.iadd, 1) := by decide +kernel
theorem dX8_count_109 : decode cX8_count 109 = .ok (.istore_n 2, 1) := by decide +kernel
theorem dX8_count_110 : decode cX8_count 110 = .ok (.iinc 3 1, 3) := by decide +kernel
theorem dX8_count_113 : decode cX8_count 113 = .ok (.goto (-35), 3) := by decide +kernel
theorem dX8_count_116 : decode cX8_count 116 = .ok (.iload_n 2, 1) := by decide +kernel
theorem dX8_count_117 : decode cX8_count 117 = .ok (.ireturn, 1) := by decide +kernel
theorem dX8_count_118 : decode cX8_count 118 = .ok (.iconst (-1), 1) := by decide +kernel
theorem dX8_count_119 : decode cX8_count 119 = .ok (.ireturn, 1) := by decide +kernel
