theorem dX0_init_0 : decode cX0_init 0 = .ok (.aload_n 0, 1) := by decide +kernel
theorem dX0_init_1 : decode cX0_init 1 = .ok (.invokespecial 3, 3) := by decide +kernel
theorem dX0_init_4 : decode cX0_init 4 = .ok (.aload_n 0, 1) := by decide +kernel
theorem dX0_init_5 : decode cX0_init 5 = .ok (.iconst 0, 1) := by decide +kernel
theorem dX0_init_6 : decode cX0_init 6 = .ok (.putfield 9, 3) := by decide +kernel
theorem dX0_init_9 : decode cX0_init 9 = .ok (.aload_n 0, 1) := by decide +kernel
theorem dX0_init_10 : decode cX0_init 10 = .ok (.iconst 0, 1) := by decide +kernel
theorem dX0_init_11 : decode cX0_init 11 = .ok (.putfield 15, 3) := by decide +kernel
theorem dX0_init_14 : decode cX0_init 14 = .ok (.aload_n 0, 1) := by decide +kernel
theorem dX0_init_15 : decode cX0_init 15 = .ok (.iconst 0, 1) := by decide +kernel
theorem dX0_init_16 : decode cX0_init 16 = .ok (.putfield 18, 3) := by decide +kernel
theorem dX0_init_19 : decode cX0_init 19 = .ok (.aload_n 0, 1) := by decide +kernel
theorem dX0_init_20 : decode cX0_init 20 = .ok (.iconst 0, 1) := by decide +kernel
theorem dX0_init_21 : decode cX0_init 21 = .ok (.putfield 21, 3) := by decide +kernel
theorem dX0_init_24 : decode cX0_init 24 = .ok (.aload_n 0, 1) := by decide +kernel
theorem dX0_init_25 : decode cX0_init 25 = .ok (.iconst (-1), 1) := by decide +kernel
theorem dX0_init_26 : decode cX0_init 26 = .ok (.putfield 24, 3) := by decide +kernel
theorem dX0_init_29 : decode cX0_init 29 = .ok (.aload_n 0, 1) := by decide +kernel
theorem dX0_init_30 : decode cX0_init 30 = .ok (.iconst (-1), 1) := by decide +kernel
theorem dX0_init_31 : decode cX0_init 31 = .ok (.putfield 27, 3) := by decide +kernel
theorem dX0_init_34 : decode cX0_init 34 = .ok (.aload_n 0, 1) := by decide +kernel
theorem dX0_init_35 : decode cX0_init 35 = .ok (.iconst (-1), 1) := by decide +kernel
theorem dX0_init_36 : decode cX0_init 36 = .ok (.putfield 30, 3) := by decide +kernel
theorem dX0_init_39 : decode cX0_init 39 = .ok (.aload_n 0, 1) := by decide +kernel
theorem dX0_init_40 : decode cX0_init 40 = .ok (.iconst 0, 1) := by decide +kernel
theorem dX0_init_41 : decode cX0_init 41 = .ok (.putfield 33, 3) := by decide +kernel
theorem dX0_init_44 : decode cX0_init 44 = .ok (.aload_n 0, 1) := by decide +kernel
theorem dX0_init_45 : decode cX0_init 45 = .ok (.iconst (-1), 1) := by decide +kernel
theorem dX0_init_46 : decode cX0_init 46 = .ok (.putfield 37, 3) := by decide +kernel
theorem dX0_init_49 : decode cX0_init 49 = .ok (.aload_n 0, 1) := by decide +kernel
theorem dX0_init_50 : decode cX0_init 50 = .ok (.iconst (-1), 1) := by decide +kernel
theorem dX0_init_51 : decode cX0_init 51 = .ok (.putfield 40, 3) := by decide +kernel
theorem dX0_init_54 : decode cX0_init 54 = .ok (.aload_n 0, 1) := by decide +kernel
theorem dX0_init_55 : decode cX0_init 55 = .ok (.aload_n 1, 1) := by decide +kernel
theorem dX0_init_56 : decode cX0_init 56 = .ok (.putfield 43, 3) := by decide +kernel
theorem dX0_init_59 : decode cX0_init 59 = .ok (.aload_n 0, 1) := by decide +kernel
theorem dX0_init_60 : decode cX0_init 60 = .ok (.iload_n 2, 1) := by decide +kernel
theorem dX0_init_61 : decode cX0_init 61 = .ok (.putfield 47, 3) := by decide +kernel
theorem dX0_init_64 : decode cX0_init 64 = .ok (.return_, 1) := by decide +kernel
theorem dX0_lastDayToObject_0 : decode cX0_lastDayToObject 0 = .ok (.aload_n 0, 1) := by decide +kernel
theorem dX0_lastDayToObject_1 : decode cX0_lastDayToObject 1 = .ok (.getfield 47, 3) := by decide +kernel
theorem dX0_lastDayToObject_4 : decode cX0_lastDayToObject 4 = .ok (.bipush 30, 2) := by decide +kernel
theorem dX0_lastDayToObject_6 : decode cX0_lastDayToObject 6 = .ok (.iadd, 1) := by decide +kernel
theorem dX0_lastDayToObject_7 : decode cX0_lastDayToObject 7 = .ok (.ireturn, 1) := by decide +kernel
set_option maxRecDepth 20000 in
theorem ggX0_hasObjected_X6_bitOf : GoodIn wsX0_hasObjected wsX6_bitOf := goodIn_r _ [5, 6, 7, 8] (by decide +kernel) (by decide +kernel)
set_option maxRecDepth 20000 in
theorem gX0_hasObjected_X6_bitOf : GoodIn wsX0_hasObjected (va_wsS RX0 50 yX6_bitOf wsX6_bitOf) := goodIn_app (goodIn_of _ (by decide +kernel)) ggX0_hasObjected_X6_bitOf
theorem dX0_hasObjected_0 : decode cX0_hasObjected 0 = .ok (.aload_n 0, 1) := by decide +kernel
theorem dX0_hasObjected_1 : decode cX0_hasObjected 1 = .ok (.getfield 15, 3) := by decide +kernel
theorem dX0_hasObjected_4 : decode cX0_hasObjected 4 = .ok (.iload_n 1, 1) := by decide +kernel
theorem dX0_hasObjected_5 : decode cX0_hasObjected 5 = .ok (.invokestatic 50, 3) := by decide +kernel
theorem dX0_hasObjected_8 : decode cX0_hasObjected 8 = .ok (.iand, 1) := by decide +kernel
theorem dX0_hasObjected_9 : decode cX0_hasObjected 9 = .ok (.ifCond .eq 7, 3) := by decide +kernel
theorem dX0_hasObjected_12 : decode cX0_hasObjected 12 = .ok (.iconst 1, 1) := by decide +kernel
theorem dX0_hasObjected_13 : decode cX0_hasObjected 13 = .ok (.goto 4, 3) := by decide +kernel
theorem dX0_hasObjected_16 : decode cX0_hasObjected 16 = .ok (.iconst 0, 1) := by decide +kernel
theorem dX0_hasObjected_17 : decode cX0_hasObjected 17 = .ok (.ireturn, 1) := by decide +kernel
set_option maxRecDepth 20000 in
theorem ggX0_addObjection_X6_bitOf : GoodIn wsX0_addObjection wsX6_bitOf := goodIn_r _ [6, 7, 8, 9] (by decide +kernel) (by decide +kernel)
set_option maxRecDepth 20000 in
theorem gX0_addObjection_X6_bitOf : GoodIn wsX0_addObjection (va_wsS RX0 50 yX6_bitOf wsX6_bitOf) := goodIn_app (goodIn_of _ (by decide +kernel)) ggX0_addObjection_X6_bitOf
theorem dX0_addObjection_0 : decode cX0_addObjection 0 = .ok (.aload_n 0, 1) := by decide +kernel
theorem dX0_addObjection_1 : decode cX0_addObjection 1 = .ok (.dup, 1) := by decide +kernel
theorem dX0_addObjection_2 : decode cX0_addObjection 2 = .ok (.getfield 15, 3) := by decide +kernel
theorem dX0_addObjection_5 : decode cX0_addObjection 5 = .ok (.iload_n 1, 1) := by decide +kernel
theorem dX0_addObjection_6 : decode cX0_addObjection 6 = .ok (.invokestatic 50, 3) := by decide +kernel
theorem dX0_addObjection_9 : decode cX0_addObjection 9 = .ok (.ior, 1) := by decide +kernel
theorem dX0_addObjection_10 : decode cX0_addObjection 10 = .ok (.putfield 15, 3) := by decide +kernel
theorem dX0_addObjection_13 : decode cX0_addObjection 13 = .ok (.aload_n 0, 1) := by decide +kernel
theorem dX0_addObjection_14 : decode cX0_addObjection 14 = .ok (.dup, 1) := by decide +kernel
theorem dX0_addObjection_15 : decode cX0_addObjection 15 = .ok (.getfield 18, 3) := by decide +kernel
theorem dX0_addObjection_18 : decode cX0_addObjection 18 = .ok (.iload_n 2, 1) := by decide +kernel
theorem dX0_addObjection_19 : decode cX0_addObjection 19 = .ok (.iadd, 1) := by decide +kernel
theorem dX0_addObjection_20 : decode cX0_addObjection 20 = .ok (.putfield 18, 3) := by decide +kernel
theorem dX0_addObjection_23 : decode cX0_addObjection 23 = .ok (.return_, 1) := by decide +kernel
theorem dX0_permit_0 : decode cX0_permit 0 = .ok (.aload_n 0, 1) := by decide +kernel
theorem dX0_permit_1 : decode cX0_permit 1 = .ok (.iconst 1, 1) := by decide +kernel
theorem dX0_permit_2 : decode cX0_permit 2 = .ok (.putfield 9, 3) := by decide +kernel
theorem dX0_permit_5 : decode cX0_permit 5 = .ok (.aload_n 0, 1) := by decide +kernel
theorem dX0_permit_6 : decode cX0_permit 6 = .ok (.iload_n 1, 1) := by decide +kernel
theorem dX0_permit_7 : decode cX0_permit 7 = .ok (.putfield 24, 3) := by decide +kernel
theorem dX0_permit_10 : decode cX0_permit 10 = .ok (.return_, 1) := by decide +kernel
theorem dX0_refuse_0 : decode cX0_refuse 0 = .ok (.aload_n 0, 1) := by decide +kernel
theorem dX0_refuse_1 : decode cX0_refuse 1 = .ok (.iconst 2, 1) := by decide +kernel
theorem dX0_refuse_2 : decode cX0_refuse 2 = .ok (.putfield 9, 3) := by decide +kernel
theorem dX0_refuse_5 : decode cX0_refuse 5 = .ok (.aload_n 0, 1) := by decide +kernel
theorem dX0_refuse_6 : decode cX0_refuse 6 = .ok (.iload_n 1, 1) := by decide +kernel
theorem dX0_refuse_7 : decode cX0_refuse 7 = .ok (.putfield 21, 3) := by decide +kernel
theorem dX0_refuse_10 : decode cX0_refuse 10 = .ok (.aload_n 0, 1) := by decide +kernel
theorem dX0_refuse_11 : decode cX0_refuse 11 = .ok (.iload_n 2, 1) := by decide +kernel
theorem dX0_refuse_12 : decode cX0_refuse 12 = .ok (.putfield 24, 3) := by decide +kernel
theorem dX0_refuse_15 : decode cX0_refuse 15 = .ok (.return_, 1) := by decide +kernel
theorem dX0_mayBeAppealed_0 : decode cX0_mayBeAppealed 0 = .ok (.aload_n 0, 1) := by decide +kernel
theorem dX0_mayBeAppealed_1 : decode cX0_mayBeAppealed 1 = .ok (.getfield 9, 3) := by decide +kernel
theorem dX0_mayBeAppealed_4 : decode cX0_mayBeAppealed 4 = .ok (.iconst 2, 1) := by decide +kernel
theorem dX0_mayBeAppealed_5 : decode cX0_mayBeAppealed 5 = .ok (.if_icmp .ne 25, 3) := by decide +kernel
theorem dX0_mayBeAppealed_8 : decode cX0_mayBeAppealed 8 = .ok (.aload_n 0, 1) := by decide +kernel
theorem dX0_mayBeAppealed_9 : decode cX0_mayBeAppealed 9 = .ok (.getfield 33, 3) := by decide +kernel
theorem dX0_mayBeAppealed_12 : decode cX0_mayBeAppealed 12 = .ok (.ifCond .ne 18, 3) := by decide +kernel
theorem dX0_mayBeAppealed_15 : decode cX0_mayBeAppealed 15 = .ok (.iload_n 1, 1) := by decide +kernel
theorem dX0_mayBeAppealed_16 : decode cX0_mayBeAppealed 16 = .ok (.aload_n 0, 1) := by decide +kernel
theorem dX0_mayBeAppealed_17 : decode cX0_mayBeAppealed 17 = .ok (.getfield 24, 3) := by decide +kernel
theorem dX0_mayBeAppealed_20 : decode cX0_mayBeAppealed 20 = .ok (.bipush 60, 2) := by decide +kernel
theorem dX0_mayBeAppealed_22 : decode cX0_mayBeAppealed 22 = .ok (.iadd, 1) := by decide +kernel
theorem dX0_mayBeAppealed_23 : decode cX0_mayBeAppealed 23 = .ok (.if_icmp .gt 7, 3) := by decide +kernel
theorem dX0_mayBeAppealed_26 : decode cX0_mayBeAppealed 26 = .ok (.iconst 1, 1) := by decide +kernel
theorem dX0_mayBeAppealed_27 : decode cX0_mayBeAppealed 27 = .ok (.goto 4, 3) := by decide +kernel
theorem dX0_mayBeAppealed_30 : decode cX0_mayBeAppealed 30 = .ok (.iconst 0, 1) := by decide +kernel
theorem dX0_mayBeAppealed_31 : decode cX0_mayBeAppealed 31 = .ok (.ireturn, 1) := by decide +kernel
set_option maxRecDepth 20000 in
theorem ggX0_goOn_X0_stateOn : GoodIn wsX0_goOn wsX0_stateOn := goodIn_r _ [8, 1, 9, 2, 10, 11, 12, 13, 14, 15, 16, 17, 18, 19, 20, 21] (by decide +kernel) (by decide +kernel)
set_option maxRecDepth 20000 in
theorem gX0_goOn_X0_stateOn : GoodIn wsX0_goOn (wsV RX0 56 RX0 yX0_stateOn wsX0_stateOn) := goodIn_app (goodIn_of _ (by decide +kernel)) ggX0_goOn_X0_stateOn
theorem dX0_goOn_0 : decode cX0_goOn 0 = .ok (.aload_n 0, 1) := by decide +kernel
theorem dX0_goOn_1 : decode cX0_goOn 1 = .ok (.iload_n 1, 1) := by decide +kernel
theorem dX0_goOn_2 : decode cX0_goOn 2 = .ok (.invokevirtual 56, 3) := by decide +kernel
theorem dX0_goOn_5 : decode cX0_goOn 5 = .ok (.istore_n 2, 1) := by decide +kernel
theorem dX0_goOn_6 : decode cX0_goOn 6 = .ok (.iload_n 2, 1) := by decide +kernel
theorem dX0_goOn_7 : decode cX0_goOn 7 = .ok (.iconst 1, 1) := by decide +kernel
theorem dX0_goOn_8 : decode cX0_goOn 8 = .ok (.if_icmp .ne 18, 3) := by decide +kernel
theorem dX0_goOn_11 : decode cX0_goOn 11 = .ok (.aload_n 0, 1) := by decide +kernel
theorem dX0_goOn_12 : decode cX0_goOn 12 = .ok (.iconst 3, 1) := by decide +kernel
theorem dX0_goOn_13 : decode cX0_goOn 13 = .ok (.putfield 9, 3) := by decide +kernel
theorem dX0_goOn_16 : decode cX0_goOn 16 = .ok (.aload_n 0, 1) := by decide +kernel
theorem dX0_goOn_17 : decode cX0_goOn 17 = .ok (.iload_n 1, 1) := by decide +kernel
theorem dX0_goOn_18 : decode cX0_goOn 18 = .ok (.putfield 27, 3) := by decide +kernel
theorem dX0_goOn_21 : decode cX0_goOn 21 = .ok (.aload_n 0, 1) := by decide +kernel
theorem dX0_goOn_22 : decode cX0_goOn 22 = .ok (.getfield 9, 3) := by decide +kernel
theorem dX0_goOn_25 : decode cX0_goOn 25 = .ok (.ireturn, 1) := by decide +kernel
theorem dX0_goOn_26 : decode cX0_goOn 26 = .ok (.iload_n 2, 1) := by decide +kernel
theorem dX0_goOn_27 : decode cX0_goOn 27 = .ok (.iconst 3, 1) := by decide +kernel
theorem dX0_goOn_28 : decode cX0_goOn 28 = .ok (.if_icmp .ne 18, 3) := by decide +kernel
theorem dX0_goOn_31 : decode cX0_goOn 31 = .ok (.aload_n 0, 1) := by decide +kernel
theorem dX0_goOn_32 : decode cX0_goOn 32 = .ok (.iconst 4, 1) := by decide +kernel
theorem dX0_goOn_33 : decode cX0_goOn 33 = .ok (.putfield 9, 3) := by decide +kernel
theorem dX0_goOn_36 : decode cX0_goOn 36 = .ok (.aload_n 0, 1) := by decide +kernel
theorem dX0_goOn_37 : decode cX0_goOn 37 = .ok (.iload_n 1, 1) := by decide +kernel
theorem dX0_goOn_38 : decode cX0_goOn 38 = .ok (.putfield 30, 3) := by decide +kernel
theorem dX0_goOn_41 : decode cX0_goOn 41 = .ok (.aload_n 0, 1) := by decide +kernel
theorem dX0_goOn_42 : decode cX0_goOn 42 = .ok (.getfield 9, 3) := by decide +kernel
theorem dX0_goOn_45 : decode cX0_goOn 45 = .ok (.ireturn, 1) := by decide +kernel
theorem dX0_goOn_46 : decode cX0_goOn 46 = .ok (.iconst (-1), 1) := by decide +kernel
theorem dX0_goOn_47 : decode cX0_goOn 47 = .ok (.ireturn, 1) := by decide +kernel
theorem dX0_stateOn_0 : decode cX0_stateOn 0 = .ok (.aload_n 0, 1) := by decide +kernel
theorem dX0_stateOn_1 : decode cX0_stateOn 1 = .ok (.getfield 9, 3) := by decide +kernel
theorem dX0_stateOn_4 : decode cX0_stateOn 4 = .ok (.iconst 1, 1) := by decide +kernel
theorem dX0_stateOn_5 : decode cX0_stateOn 5 = .ok (.if_icmp .ne 15, 3) := by decide +kernel
theorem dX0_stateOn_8 : decode cX0_stateOn 8 = .ok (.iload_n 1, 1) := by decide +kernel
theorem dX0_stateOn_9 : decode cX0_stateOn 9 = .ok (.aload_n 0, 1) := by decide +kernel
theorem dX0_stateOn_10 : decode cX0_stateOn 10 = .ok (.getfield 24, 3) := by decide +kernel
theorem dX0_stateOn_13 : decode cX0_stateOn 13 = .ok (.sipush 400, 3) := by decide +kernel
theorem dX0_stateOn_16 : decode cX0_stateOn 16 = .ok (.iadd, 1) := by decide +kernel
theorem dX0_stateOn_17 : decode cX0_stateOn 17 = .ok (.if_icmp .gt 23, 3) := by decide +kernel
theorem dX0_stateOn_20 : decode cX0_stateOn 20 = .ok (.aload_n 0, 1) := by decide +kernel
theorem dX0_stateOn_21 : decode cX0_stateOn 21 = .ok (.getfield 9, 3) := by decide +kernel
theorem dX0_stateOn_24 : decode cX0_stateOn 24 = .ok (.iconst 3, 1) := by decide +kernel
theorem dX0_stateOn_25 : decode cX0_stateOn 25 = .ok (.if_icmp .ne 19, 3) := by decide +kernel
theorem dX0_stateOn_28 : decode cX0_stateOn 28 = .ok (.iload_n 1, 1) := by decide +kernel
theorem dX0_stateOn_29 : decode cX0_stateOn 29 = .ok (.aload_n 0, 1) := by decide +kernel
theorem dX0_stateOn_30 : decode cX0_stateOn 30 = .ok (.getfield 27, 3) := by decide +kernel
theorem dX0_stateOn_33 : decode cX0_stateOn 33 = .ok (.sipush 300, 3) := by decide +kernel
theorem dX0_stateOn_36 : decode cX0_stateOn 36 = .ok (.iadd, 1) := by decide +kernel
theorem dX0_stateOn_37 : decode cX0_stateOn 37 = .ok (.if_icmp .le 7, 3) := by decide +kernel
theorem dX0_stateOn_40 : decode cX0_stateOn 40 = .ok (.iconst 1, 1) := by decide +kernel
theorem dX0_stateOn_41 : decode cX0_stateOn 41 = .ok (.goto 4, 3) := by decide +kernel
theorem dX0_stateOn_44 : decode cX0_stateOn 44 = .ok (.iconst 0, 1) := by decide +kernel
theorem dX0_stateOn_45 : decode cX0_stateOn 45 = .ok (.istore_n 2, 1) := by decide +kernel
theorem dX0_stateOn_46 : decode cX0_stateOn 46 = .ok (.iload_n 2, 1) := by decide +kernel
theorem dX0_stateOn_47 : decode cX0_stateOn 47 = .ok (.ifCond .eq 7, 3) := by decide +kernel
theorem dX0_stateOn_50 : decode cX0_stateOn 50 = .ok (.iconst 5, 1) := by decide +kernel
theorem dX0_stateOn_51 : decode cX0_stateOn 51 = .ok (.goto 7, 3) := by decide +kernel
theorem dX0_stateOn_54 : decode cX0_stateOn 54 = .ok (.aload_n 0, 1) := by decide +kernel
theorem dX0_stateOn_55 : decode cX0_stateOn 55 = .ok (.getfield 9, 3) := by decide +kernel
theorem dX0_stateOn_58 : decode cX0_stateOn 58 = .ok (.ireturn, 1) := by decide +kernel
set_option maxRecDepth 20000 in
theorem ggX0_lastDayToGoOn_X0_stateOn : GoodIn wsX0_lastDayToGoOn wsX0_stateOn := goodIn_r _ [8, 9, 1, 2, 15, 16, 17, 18, 19, 20, 21, 22, 23, 24, 25, 26] (by decide +kernel) (by decide +kernel)
set_option maxRecDepth 20000 in
theorem gX0_lastDayToGoOn_X0_stateOn : GoodIn wsX0_lastDayToGoOn (wsV RX0 56 RX0 yX0_stateOn wsX0_stateOn) := goodIn_app (goodIn_of _ (by decide +kernel)) ggX0_lastDayToGoOn_X0_stateOn
set_option maxRecDepth 20000 in
theorem ggX0_lastDayToGoOn_X0_lastDayToObject : GoodIn wsX0_lastDayToGoOn wsX0_lastDayToObject := goodIn_r _ [13, 14, 15, 16, 17, 18, 19, 20, 21, 22, 23, 24, 25, 26] (by decide +kernel) (by decide +kernel)
set_option maxRecDepth 20000 in
theorem gX0_lastDayToGoOn_X0_lastDayToObject : GoodIn wsX0_lastDayToGoOn (wsV RX0 59 RX0 yX0_lastDayToObject wsX0_lastDayToObject) := goodIn_app (goodIn_of _ (by decide +kernel)) ggX0_lastDayToGoOn_X0_lastDayToObject
theorem dX0_lastDayToGoOn_0 : decode cX0_lastDayToGoOn 0 = .ok (.aload_n 0, 1) := by decide +kernel
theorem dX0_lastDayToGoOn_1 : decode cX0_lastDayToGoOn 1 = .ok (.iload_n 1, 1) := by decide +kernel
theorem dX0_lastDayToGoOn_2 : decode cX0_lastDayToGoOn 2 = .ok (.invokevirtual 56, 3) := by decide +kernel
theorem dX0_lastDayToGoOn_5 : decode cX0_lastDayToGoOn 5 = .ok (.tableswitch 73 0 3 #[31, 36, 54, 45], 31) := by decide +kernel
theorem dX0_lastDayToGoOn_36 : decode cX0_lastDayToGoOn 36 = .ok (.aload_n 0, 1) := by decide +kernel
theorem dX0_lastDayToGoOn_37 : decode cX0_lastDayToGoOn 37 = .ok (.invokevirtual 59, 3) := by decide +kernel
theorem dX0_lastDayToGoOn_40 : decode cX0_lastDayToGoOn 40 = .ok (.ireturn, 1) := by decide +kernel
theorem dX0_lastDayToGoOn_41 : decode cX0_lastDayToGoOn 41 = .ok (.aload_n 0, 1) := by decide +kernel
theorem dX0_lastDayToGoOn_42 : decode cX0_lastDayToGoOn 42 = .ok (.getfield 24, 3) := by decide +kernel
theorem dX0_lastDayToGoOn_45 : decode cX0_lastDayToGoOn 45 = .ok (.sipush 400, 3) := by decide +kernel
theorem dX0_lastDayToGoOn_48 : decode cX0_lastDayToGoOn 48 = .ok (.iadd, 1) := by decide +kernel
theorem dX0_lastDayToGoOn_49 : decode cX0_lastDayToGoOn 49 = .ok (.ireturn, 1) := by decide +kernel
theorem dX0_lastDayToGoOn_50 : decode cX0_lastDayToGoOn 50 = .ok (.aload_n 0, 1) := by decide +kernel
theorem dX0_lastDayToGoOn_51 : decode cX0_lastDayToGoOn 51 = .ok (.getfield 27, 3) := by decide +kernel
theorem dX0_lastDayToGoOn_54 : decode cX0_lastDayToGoOn 54 = .ok (.sipush 300, 3) := by decide +kernel
theorem dX0_lastDayToGoOn_57 : decode cX0_lastDayToGoOn 57 = .ok (.iadd, 1) := by decide +kernel
theorem dX0_lastDayToGoOn_58 : decode cX0_lastDayToGoOn 58 = .ok (.ireturn, 1) := by decide +kernel
theorem dX0_lastDayToGoOn_59 : decode cX0_lastDayToGoOn 59 = .ok (.aload_n 0, 1) := by decide +kernel
theorem dX0_lastDayToGoOn_60 : decode cX0_lastDayToGoOn 60 = .ok (.getfield 33, 3) := by decide +kernel
theorem dX0_lastDayToGoOn_63 : decode cX0_lastDayToGoOn 63 = .ok (.ifCond .eq 7, 3) := by decide +kernel
theorem dX0_lastDayToGoOn_66 : decode cX0_lastDayToGoOn 66 = .ok (.iconst (-1), 1) := by decide +kernel
theorem dX0_lastDayToGoOn_67 : decode cX0_lastDayToGoOn 67 = .ok (.goto 10, 3) := by decide +kernel
theorem dX0_lastDayToGoOn_70 : decode cX0_lastDayToGoOn 70 = .ok (.aload_n 0, 1) := by decide +kernel
theorem dX0_lastDayToGoOn_71 : decode cX0_lastDayToGoOn 71 = .ok (.getfield 24, 3) := by decide +kernel
theorem dX0_lastDayToGoOn_74 : decode cX0_lastDayToGoOn 74 = .ok (.bipush 60, 2) := by decide +kernel
theorem dX0_lastDayToGoOn_76 : decode cX0_lastDayToGoOn 76 = .ok (.iadd, 1) := by decide +kernel
theorem dX0_lastDayToGoOn_77 : decode cX0_lastDayToGoOn 77 = .ok (.ireturn, 1) := by decide +kernel
theorem dX0_lastDayToGoOn_78 : decode cX0_lastDayToGoOn 78 = .ok (.iconst (-1), 1) := by decide +kernel
theorem dX0_lastDayToGoOn_79 : decode cX0_lastDayToGoOn 79 = .ok (.ireturn, 1) := by decide +kernel
set_option maxRecDepth 20000 in
theorem ggX0_tell_X0_stateOn : GoodIn wsX0_tell wsX0_stateOn := goodIn_r _ [13, 14, 5, 6, 23, 24, 25, 26, 27, 28, 29, 30, 31, 32, 33, 34] (by decide +kernel) (by decide +kernel)
set_option maxRecDepth 20000 in
theorem gX0_tell_X0_stateOn : GoodIn wsX0_tell (wsV RX0 56 RX0 yX0_stateOn wsX0_stateOn) := goodIn_app (goodIn_of _ (by decide +kernel)) ggX0_tell_X0_stateOn
set_option maxRecDepth 20000 in
theorem ggX0_tell_X0_lastDayToGoOn : GoodIn wsX0_tell wsX0_lastDayToGoOn := goodIn_r _ [18, 5, 6, 8, 9, 10, 11, 12, 13, 14, 19, 20, 21, 22, 1, 23, 24, 25, 26, 27, 28, 29, 30, 31, 32, 33, 34] (by decide +kernel) (by decide +kernel)
set_option maxRecDepth 20000 in
theorem gX0_tell_X0_lastDayToGoOn : GoodIn wsX0_tell (wsV RX0 68 RX0 yX0_lastDayToGoOn wsX0_lastDayToGoOn) := goodIn_app (goodIn_of _ (by decide +kernel)) ggX0_tell_X0_lastDayToGoOn
theorem dX0_tell_0 : decode cX0_tell 0 = .ok (.iload_n 1, 1) := by decide +kernel
theorem dX0_tell_1 : decode cX0_tell 1 = .ok (.tableswitch 118 0 9 #[55, 61, 66, 74, 79, 84, 89, 94, 99, 105], 55) := by decide +kernel
theorem dX0_tell_56 : decode cX0_tell 56 = .ok (.aload_n 0, 1) := by decide +kernel
theorem dX0_tell_57 : decode cX0_tell 57 = .ok (.iload_n 2, 1) := by decide +kernel
theorem dX0_tell_58 : decode cX0_tell 58 = .ok (.invokevirtual 56, 3) := by decide +kernel
theorem dX0_tell_61 : decode cX0_tell 61 = .ok (.ireturn, 1) := by decide +kernel
theorem dX0_tell_62 : decode cX0_tell 62 = .ok (.aload_n 0, 1) := by decide +kernel
theorem dX0_tell_63 : decode cX0_tell 63 = .ok (.getfield 47, 3) := by decide +kernel
theorem dX0_tell_66 : decode cX0_tell 66 = .ok (.ireturn, 1) := by decide +kernel
theorem dX0_tell_67 : decode cX0_tell 67 = .ok (.aload_n 0, 1) := by decide +kernel
theorem dX0_tell_68 : decode cX0_tell 68 = .ok (.getfield 43, 3) := by decide +kernel
theorem dX0_tell_71 : decode cX0_tell 71 = .ok (.getfield 63, 3) := by decide +kernel
theorem dX0_tell_74 : decode cX0_tell 74 = .ok (.ireturn, 1) := by decide +kernel
theorem dX0_tell_75 : decode cX0_tell 75 = .ok (.aload_n 0, 1) := by decide +kernel
theorem dX0_tell_76 : decode cX0_tell 76 = .ok (.getfield 21, 3) := by decide +kernel
theorem dX0_tell_79 : decode cX0_tell 79 = .ok (.ireturn, 1) := by decide +kernel
theorem dX0_tell_80 : decode cX0_tell 80 = .ok (.aload_n 0, 1) := by decide +kernel
theorem dX0_tell_81 : decode cX0_tell 81 = .ok (.getfield 18, 3) := by decide +kernel
theorem dX0_tell_84 : decode cX0_tell 84 = .ok (.ireturn, 1) := by decide +kernel
theorem dX0_tell_85 : decode cX0_tell 85 = .ok (.aload_n 0, 1) := by decide +kernel
theorem dX0_tell_86 : decode cX0_tell 86 = .ok (.getfield 24, 3) := by decide +kernel
theorem dX0_tell_89 : decode cX0_tell 89 = .ok (.ireturn, 1) := by decide +kernel
theorem dX0_tell_90 : decode cX0_tell 90 = .ok (.aload_n 0, 1) := by decide +kernel
theorem dX0_tell_91 : decode cX0_tell 91 = .ok (.getfield 27, 3) := by decide +kernel
theorem dX0_tell_94 : decode cX0_tell 94 = .ok (.ireturn, 1) := by decide +kernel
theorem dX0_tell_95 : decode cX0_tell 95 = .ok (.aload_n 0, 1) := by decide +kernel
theorem dX0_tell_96 : decode cX0_tell 96 = .ok (.getfield 30, 3) := by decide +kernel
theorem dX0_tell_99 : decode cX0_tell 99 = .ok (.ireturn, 1) := by decide +kernel
theorem dX0_tell_100 : decode cX0_tell 100 = .ok (.aload_n 0, 1) := by decide +kernel
theorem dX0_tell_101 : decode cX0_tell 101 = .ok (.iload_n 2, 1) := by decide +kernel
theorem dX0_tell_102 : decode cX0_tell 102 = .ok (.invokevirtual 68, 3) := by decide +kernel
theorem dX0_tell_105 : decode cX0_tell 105 = .ok (.ireturn, 1) := by decide +kernel
theorem dX0_tell_106 : decode cX0_tell 106 = .ok (.aload_n 0, 1) := by decide +kernel
theorem dX0_tell_107 : decode cX0_tell 107 = .ok (.getfield 33, 3) := by decide +kernel
theorem dX0_tell_110 : decode cX0_tell 110 = .ok (.ifCond .eq 7, 3) := by decide +kernel
theorem dX0_tell_113 : decode cX0_tell 113 = .ok (.iconst 1, 1) := by decide +kernel
theorem dX0_tell_114 : decode cX0_tell 114 = .ok (.goto 4, 3) := by decide +kernel
theorem dX0_tell_117 : decode cX0_tell 117 = .ok (.iconst 0, 1) := by decide +kernel
theorem dX0_tell_118 : decode cX0_tell 118 = .ok (.ireturn, 1) := by decide +kernel
theorem dX0_tell_119 : decode cX0_tell 119 = .ok (.iconst (-1), 1) := by decide +kernel
theorem dX0_tell_120 : decode cX0_tell 120 = .ok (.ireturn, 1) := by decide +kernel
theorem dX0_razeSince_0 : decode cX0_razeSince 0 = .ok (.aload_n 0, 1) := by decide +kernel
theorem dX0_razeSince_1 : decode cX0_razeSince 1 = .ok (.getfield 9, 3) := by decide +kernel
theorem dX0_razeSince_4 : decode cX0_razeSince 4 = .ok (.iconst 4, 1) := by decide +kernel
theorem dX0_razeSince_5 : decode cX0_razeSince 5 = .ok (.if_icmp .ne 19, 3) := by decide +kernel
theorem dX0_razeSince_8 : decode cX0_razeSince 8 = .ok (.iload_n 1, 1) := by decide +kernel
theorem dX0_razeSince_9 : decode cX0_razeSince 9 = .ok (.aload_n 0, 1) := by decide +kernel
theorem dX0_razeSince_10 : decode cX0_razeSince 10 = .ok (.getfield 30, 3) := by decide +kernel
theorem dX0_razeSince_13 : decode cX0_razeSince 13 = .ok (.if_icmp .lt 11, 3) := by decide +kernel
theorem dX0_razeSince_16 : decode cX0_razeSince 16 = .ok (.aload_n 0, 1) := by decide +kernel
theorem dX0_razeSince_17 : decode cX0_razeSince 17 = .ok (.getfield 37, 3) := by decide +kernel
theorem dX0_razeSince_20 : decode cX0_razeSince 20 = .ok (.iconst (-1), 1) := by decide +kernel
theorem dX0_razeSince_21 : decode cX0_razeSince 21 = .ok (.if_icmp .eq 5, 3) := by decide +kernel
theorem dX0_razeSince_24 : decode cX0_razeSince 24 = .ok (.iconst 0, 1) := by decide +kernel
theorem dX0_razeSince_25 : decode cX0_razeSince 25 = .ok (.ireturn, 1) := by decide +kernel
theorem dX0_razeSince_26 : decode cX0_razeSince 26 = .ok (.aload_n 0, 1) := by decide +kernel
theorem dX0_razeSince_27 : decode cX0_razeSince 27 = .ok (.iload_n 1, 1) := by decide +kernel
theorem dX0_razeSince_28 : decode cX0_razeSince 28 = .ok (.putfield 37, 3) := by decide +kernel
theorem dX0_razeSince_31 : decode cX0_razeSince 31 = .ok (.aload_n 0, 1) := by decide +kernel
theorem dX0_razeSince_32 : decode cX0_razeSince 32 = .ok (.iload_n 2, 1) := by decide +kernel
theorem dX0_razeSince_33 : decode cX0_razeSince 33 = .ok (.putfield 40, 3) := by decide +kernel
theorem dX0_razeSince_36 : decode cX0_razeSince 36 = .ok (.iconst 1, 1) := by decide +kernel
theorem dX0_razeSince_37 : decode cX0_razeSince 37 = .ok (.ireturn, 1) := by decide +kernel
theorem dX0_stoodOn_0 : decode cX0_stoodOn 0 = .ok (.aload_n 0, 1) := by decide +kernel
theorem dX0_stoodOn_1 : decode cX0_stoodOn 1 = .ok (.getfield 9, 3) := by decide +kernel
theorem dX0_stoodOn_4 : decode cX0_stoodOn 4 = .ok (.iconst 4, 1) := by decide +kernel
theorem dX0_stoodOn_5 : decode cX0_stoodOn 5 = .ok (.if_icmp .ne 19, 3) := by decide +kernel
theorem dX0_stoodOn_8 : decode cX0_stoodOn 8 = .ok (.iload_n 1, 1) := by decide +kernel
theorem dX0_stoodOn_9 : decode cX0_stoodOn 9 = .ok (.aload_n 0, 1) := by decide +kernel
theorem dX0_stoodOn_10 : decode cX0_stoodOn 10 = .ok (.getfield 30, 3) := by decide +kernel
theorem dX0_stoodOn_13 : decode cX0_stoodOn 13 = .ok (.if_icmp .lt 11, 3) := by decide +kernel
theorem dX0_stoodOn_16 : decode cX0_stoodOn 16 = .ok (.iload_n 2, 1) := by decide +kernel
theorem dX0_stoodOn_17 : decode cX0_stoodOn 17 = .ok (.aload_n 0, 1) := by decide +kernel
theorem dX0_stoodOn_18 : decode cX0_stoodOn 18 = .ok (.getfield 30, 3) := by decide +kernel
theorem dX0_stoodOn_21 : decode cX0_stoodOn 21 = .ok (.if_icmp .ge 5, 3) := by decide +kernel
theorem dX0_stoodOn_24 : decode cX0_stoodOn 24 = .ok (.iconst 0, 1) := by decide +kernel
theorem dX0_stoodOn_25 : decode cX0_stoodOn 25 = .ok (.ireturn, 1) := by decide +kernel
theorem dX0_stoodOn_26 : decode cX0_stoodOn 26 = .ok (.aload_n 0, 1) := by decide +kernel
theorem dX0_stoodOn_27 : decode cX0_stoodOn 27 = .ok (.getfield 37, 3) := by decide +kernel
theorem dX0_stoodOn_30 : decode cX0_stoodOn 30 = .ok (.iconst (-1), 1) := by decide +kernel
theorem dX0_stoodOn_31 : decode cX0_stoodOn 31 = .ok (.if_icmp .eq 19, 3) := by decide +kernel
theorem dX0_stoodOn_34 : decode cX0_stoodOn 34 = .ok (.iload_n 1, 1) := by decide +kernel
theorem dX0_stoodOn_35 : decode cX0_stoodOn 35 = .ok (.aload_n 0, 1) := by decide +kernel
theorem dX0_stoodOn_36 : decode cX0_stoodOn 36 = .ok (.getfield 37, 3) := by decide +kernel
theorem dX0_stoodOn_39 : decode cX0_stoodOn 39 = .ok (.if_icmp .lt 11, 3) := by decide +kernel
theorem dX0_stoodOn_42 : decode cX0_stoodOn 42 = .ok (.iload_n 2, 1) := by decide +kernel
theorem dX0_stoodOn_43 : decode cX0_stoodOn 43 = .ok (.aload_n 0, 1) := by decide +kernel
theorem dX0_stoodOn_44 : decode cX0_stoodOn 44 = .ok (.getfield 40, 3) := by decide +kernel
theorem dX0_stoodOn_47 : decode cX0_stoodOn 47 = .ok (.if_icmp .ge 7, 3) := by decide +kernel
theorem dX0_stoodOn_50 : decode cX0_stoodOn 50 = .ok (.iconst 1, 1) := by decide +kernel
theorem dX0_stoodOn_51 : decode cX0_stoodOn 51 = .ok (.goto 4, 3) := by decide +kernel
theorem dX0_stoodOn_54 : decode cX0_stoodOn 54 = .ok (.iconst 0, 1) := by decide +kernel
theorem dX0_stoodOn_55 : decode cX0_stoodOn 55 = .ok (.ireturn, 1) := by decide +kernel
theorem dX1_init_0 : decode cX1_init 0 = .ok (.aload_n 0, 1) := by decide +kernel
theorem dX1_init_1 : decode cX1_init 1 = .ok (.invokespecial 1, 3) := by decide +kernel
theorem dX1_init_4 : decode cX1_init 4 = .ok (.aload_n 0, 1) := by decide +kernel
theorem dX1_init_5 : decode cX1_init 5 = .ok (.iload_n 1, 1) := by decide +kernel
theorem dX1_init_6 : decode cX1_init 6 = .ok (.putfield 7, 3) := by decide +kernel
theorem dX1_init_9 : decode cX1_init 9 = .ok (.aload_n 0, 1) := by decide +kernel
theorem dX1_init_10 : decode cX1_init 10 = .ok (.iload_n 2, 1) := by decide +kernel
theorem dX1_init_11 : decode cX1_init 11 = .ok (.putfield 13, 3) := by decide +kernel
theorem dX1_init_14 : decode cX1_init 14 = .ok (.aload_n 0, 1) := by decide +kernel
theorem dX1_init_15 : decode cX1_init 15 = .ok (.iload_n 3, 1) := by decide +kernel
theorem dX1_init_16 : decode cX1_init 16 = .ok (.putfield 16, 3) := by decide +kernel
theorem dX1_init_19 : decode cX1_init 19 = .ok (.aload_n 0, 1) := by decide +kernel
theorem dX1_init_20 : decode cX1_init 20 = .ok (.iload 4, 2) := by decide +kernel
theorem dX1_init_22 : decode cX1_init 22 = .ok (.putfield 19, 3) := by decide +kernel
theorem dX1_init_25 : decode cX1_init 25 = .ok (.aload_n 0, 1) := by decide +kernel
theorem dX1_init_26 : decode cX1_init 26 = .ok (.iload 5, 2) := by decide +kernel
theorem dX1_init_28 : decode cX1_init 28 = .ok (.putfield 22, 3) := by decide +kernel
theorem dX1_init_31 : decode cX1_init 31 = .ok (.aload_n 0, 1) := by decide +kernel
theorem dX1_init_32 : decode cX1_init 32 = .ok (.iload 6, 2) := by decide +kernel
theorem dX1_init_34 : decode cX1_init 34 = .ok (.putfield 25, 3) := by decide +kernel
theorem dX1_init_37 : decode cX1_init 37 = .ok (.aload_n 0, 1) := by decide +kernel
theorem dX1_init_38 : decode cX1_init 38 = .ok (.iload 7, 2) := by decide +kernel
theorem dX1_init_40 : decode cX1_init 40 = .ok (.putfield 28, 3) := by decide +kernel
theorem dX1_init_43 : decode cX1_init 43 = .ok (.return_, 1) := by decide +kernel
theorem dX1_area_0 : decode cX1_area 0 = .ok (.aload_n 0, 1) := by decide +kernel
theorem dX1_area_1 : decode cX1_area 1 = .ok (.getfield 19, 3) := by decide +kernel
theorem dX1_area_4 : decode cX1_area 4 = .ok (.aload_n 0, 1) := by decide +kernel
theorem dX1_area_5 : decode cX1_area 5 = .ok (.getfield 13, 3) := by decide +kernel
theorem dX1_area_8 : decode cX1_area 8 = .ok (.isub, 1) := by decide +kernel
theorem dX1_area_9 : decode cX1_area 9 = .ok (.aload_n 0, 1) := by decide +kernel
theorem dX1_area_10 : decode cX1_area 10 = .ok (.getfield 22, 3) := by decide +kernel
theorem dX1_area_13 : decode cX1_area 13 = .ok (.aload_n 0, 1) := by decide +kernel
theorem dX1_area_14 : decode cX1_area 14 = .ok (.getfield 16, 3) := by decide +kernel
theorem dX1_area_17 : decode cX1_area 17 = .ok (.isub, 1) := by decide +kernel
theorem dX1_area_18 : decode cX1_area 18 = .ok (.imul, 1) := by decide +kernel
theorem dX1_area_19 : decode cX1_area 19 = .ok (.ireturn, 1) := by decide +kernel
theorem dX1_meets_0 : decode cX1_meets 0 = .ok (.aload_n 0, 1) := by decide +kernel
theorem dX1_meets_1 : decode cX1_meets 1 = .ok (.getfield 13, 3) := by decide +kernel
theorem dX1_meets_4 : decode cX1_meets 4 = .ok (.aload_n 1, 1) := by decide +kernel
theorem dX1_meets_5 : decode cX1_meets 5 = .ok (.getfield 19, 3) := by decide +kernel
theorem dX1_meets_8 : decode cX1_meets 8 = .ok (.if_icmp .ge 40, 3) := by decide +kernel
theorem dX1_meets_11 : decode cX1_meets 11 = .ok (.aload_n 1, 1) := by decide +kernel
theorem dX1_meets_12 : decode cX1_meets 12 = .ok (.getfield 13, 3) := by decide +kernel
theorem dX1_meets_15 : decode cX1_meets 15 = .ok (.aload_n 0, 1) := by decide +kernel
theorem dX1_meets_16 : decode cX1_meets 16 = .ok (.getfield 19, 3) := by decide +kernel
theorem dX1_meets_19 : decode cX1_meets 19 = .ok (.if_icmp .ge 29, 3) := by decide +kernel
theorem dX1_meets_22 : decode cX1_meets 22 = .ok (.aload_n 0, 1) := by decide +kernel
theorem dX1_meets_23 : decode cX1_meets 23 = .ok (.getfield 16, 3) := by decide +kernel
theorem dX1_meets_26 : decode cX1_meets 26 = .ok (.aload_n 1, 1) := by decide +kernel
theorem dX1_meets_27 : decode cX1_meets 27 = .ok (.getfield 22, 3) := by decide +kernel
theorem dX1_meets_30 : decode cX1_meets 30 = .ok (.if_icmp .ge 18, 3) := by decide +kernel
theorem dX1_meets_33 : decode cX1_meets 33 = .ok (.aload_n 1, 1) := by decide +kernel
theorem dX1_meets_34 : decode cX1_meets 34 = .ok (.getfield 16, 3) := by decide +kernel
theorem dX1_meets_37 : decode cX1_meets 37 = .ok (.aload_n 0, 1) := by decide +kernel
theorem dX1_meets_38 : decode cX1_meets 38 = .ok (.getfield 22, 3) := by decide +kernel
theorem dX1_meets_41 : decode cX1_meets 41 = .ok (.if_icmp .ge 7, 3) := by decide +kernel
theorem dX1_meets_44 : decode cX1_meets 44 = .ok (.iconst 1, 1) := by decide +kernel
theorem dX1_meets_45 : decode cX1_meets 45 = .ok (.goto 4, 3) := by decide +kernel
theorem dX1_meets_48 : decode cX1_meets 48 = .ok (.iconst 0, 1) := by decide +kernel
theorem dX1_meets_49 : decode cX1_meets 49 = .ok (.ireturn, 1) := by decide +kernel
theorem dX1_shades_0 : decode cX1_shades 0 = .ok (.aload_n 0, 1) := by decide +kernel
theorem dX1_shades_1 : decode cX1_shades 1 = .ok (.getfield 25, 3) := by decide +kernel
theorem dX1_shades_4 : decode cX1_shades 4 = .ok (.iload_n 2, 1) := by decide +kernel
theorem dX1_shades_5 : decode cX1_shades 5 = .ok (.imul, 1) := by decide +kernel
theorem dX1_shades_6 : decode cX1_shades 6 = .ok (.bipush 10, 2) := by decide +kernel
theorem dX1_shades_8 : decode cX1_shades 8 = .ok (.idiv, 1) := by decide +kernel
theorem dX1_shades_9 : decode cX1_shades 9 = .ok (.istore_n 3, 1) := by decide +kernel
theorem dX1_shades_10 : decode cX1_shades 10 = .ok (.iload_n 3, 1) := by decide +kernel
theorem dX1_shades_11 : decode cX1_shades 11 = .ok (.ifCond .le 53, 3) := by decide +kernel
theorem dX1_shades_14 : decode cX1_shades 14 = .ok (.aload_n 0, 1) := by decide +kernel
theorem dX1_shades_15 : decode cX1_shades 15 = .ok (.getfield 13, 3) := by decide +kernel
theorem dX1_shades_18 : decode cX1_shades 18 = .ok (.aload_n 1, 1) := by decide +kernel
theorem dX1_shades_19 : decode cX1_shades 19 = .ok (.getfield 19, 3) := by decide +kernel
theorem dX1_shades_22 : decode cX1_shades 22 = .ok (.if_icmp .ge 42, 3) := by decide +kernel
theorem dX1_shades_25 : decode cX1_shades 25 = .ok (.aload_n 1, 1) := by decide +kernel
theorem dX1_shades_26 : decode cX1_shades 26 = .ok (.getfield 13, 3) := by decide +kernel
theorem dX1_shades_29 : decode cX1_shades 29 = .ok (.aload_n 0, 1) := by decide +kernel
theorem dX1_shades_30 : decode cX1_shades 30 = .ok (.getfield 19, 3) := by decide +kernel
theorem dX1_shades_33 : decode cX1_shades 33 = .ok (.if_icmp .ge 31, 3) := by decide +kernel
theorem dX1_shades_36 : decode cX1_shades 36 = .ok (.aload_n 0, 1) := by decide +kernel
theorem dX1_shades_37 : decode cX1_shades 37 = .ok (.getfield 22, 3) := by decide +kernel
theorem dX1_shades_40 : decode cX1_shades 40 = .ok (.aload_n 1, 1) := by decide +kernel
theorem dX1_shades_41 : decode cX1_shades 41 = .ok (.getfield 22, 3) := by decide +kernel
theorem dX1_shades_44 : decode cX1_shades 44 = .ok (.if_icmp .ge 20, 3) := by decide +kernel
theorem dX1_shades_47 : decode cX1_shades 47 = .ok (.aload_n 1, 1) := by decide +kernel
theorem dX1_shades_48 : decode cX1_shades 48 = .ok (.getfield 16, 3) := by decide +kernel
theorem dX1_shades_51 : decode cX1_shades 51 = .ok (.aload_n 0, 1) := by decide +kernel
theorem dX1_shades_52 : decode cX1_shades 52 = .ok (.getfield 22, 3) := by decide +kernel
theorem dX1_shades_55 : decode cX1_shades 55 = .ok (.iload_n 3, 1) := by decide +kernel
theorem dX1_shades_56 : decode cX1_shades 56 = .ok (.iadd, 1) := by decide +kernel
theorem dX1_shades_57 : decode cX1_shades 57 = .ok (.if_icmp .ge 7, 3) := by decide +kernel
theorem dX1_shades_60 : decode cX1_shades 60 = .ok (.iconst 1, 1) := by decide +kernel
theorem dX1_shades_61 : decode cX1_shades 61 = .ok (.goto 4, 3) := by decide +kernel
theorem dX1_shades_64 : decode cX1_shades 64 = .ok (.iconst 0, 1) := by decide +kernel
theorem dX1_shades_65 : decode cX1_shades 65 = .ok (.ireturn, 1) := by decide +kernel
theorem dX2_init_0 : decode cX2_init 0 = .ok (.aload_n 0, 1) := by decide +kernel
theorem dX2_init_1 : decode cX2_init 1 = .ok (.invokespecial 1, 3) := by decide +kernel
theorem dX2_init_4 : decode cX2_init 4 = .ok (.aload_n 0, 1) := by decide +kernel
theorem dX2_init_5 : decode cX2_init 5 = .ok (.iload_n 1, 1) := by decide +kernel
theorem dX2_init_6 : decode cX2_init 6 = .ok (.putfield 7, 3) := by decide +kernel
theorem dX2_init_9 : decode cX2_init 9 = .ok (.aload_n 0, 1) := by decide +kernel
theorem dX2_init_10 : decode cX2_init 10 = .ok (.iload_n 2, 1) := by decide +kernel
theorem dX2_init_11 : decode cX2_init 11 = .ok (.putfield 13, 3) := by decide +kernel
theorem dX2_init_14 : decode cX2_init 14 = .ok (.aload_n 0, 1) := by decide +kernel
theorem dX2_init_15 : decode cX2_init 15 = .ok (.iload_n 3, 1) := by decide +kernel
theorem dX2_init_16 : decode cX2_init 16 = .ok (.putfield 16, 3) := by decide +kernel
theorem dX2_init_19 : decode cX2_init 19 = .ok (.aload_n 0, 1) := by decide +kernel
theorem dX2_init_20 : decode cX2_init 20 = .ok (.iload 4, 2) := by decide +kernel
theorem dX2_init_22 : decode cX2_init 22 = .ok (.putfield 19, 3) := by decide +kernel
theorem dX2_init_25 : decode cX2_init 25 = .ok (.return_, 1) := by decide +kernel
set_option maxRecDepth 20000 in
theorem ggX3_init_Jx4a65c_init_da8c8 : GoodIn wsX3_init wsJx4a65c_init_da8c8 := goodIn_r _ [12, 13, 14, 15, 16, 17, 18, 19, 20, 21, 22, 23, 24, 2, 3, 25, 26, 27] (by decide +kernel) (by decide +kernel)
set_option maxRecDepth 20000 in
theorem gX3_init_Jx4a65c_init_da8c8 : GoodIn wsX3_init (wsJx4a65c_init_da8c8) := ggX3_init_Jx4a65c_init_da8c8
theorem dX3_init_0 : decode cX3_init 0 = .ok (.aload_n 0, 1) := by decide +kernel
theorem dX3_init_1 : decode cX3_init 1 = .ok (.invokespecial 3, 3) := by decide +kernel
theorem dX3_init_4 : decode cX3_init 4 = .ok (.aload_n 0, 1) := by decide +kernel
theorem dX3_init_5 : decode cX3_init 5 = .ok (.new 9, 3) := by decide +kernel
theorem dX3_init_8 : decode cX3_init 8 = .ok (.dup, 1) := by decide +kernel
theorem dX3_init_9 : decode cX3_init 9 = .ok (.invokespecial 11, 3) := by decide +kernel
theorem dX3_init_12 : decode cX3_init 12 = .ok (.putfield 12, 3) := by decide +kernel
theorem dX3_init_15 : decode cX3_init 15 = .ok (.aload_n 0, 1) := by decide +kernel
theorem dX3_init_16 : decode cX3_init 16 = .ok (.iload_n 1, 1) := by decide +kernel
theorem dX3_init_17 : decode cX3_init 17 = .ok (.putfield 18, 3) := by decide +kernel
theorem dX3_init_20 : decode cX3_init 20 = .ok (.aload_n 0, 1) := by decide +kernel
theorem dX3_init_21 : decode cX3_init 21 = .ok (.iload_n 2, 1) := by decide +kernel
theorem dX3_init_22 : decode cX3_init 22 = .ok (.putfield 22, 3) := by decide +kernel
theorem dX3_init_25 : decode cX3_init 25 = .ok (.return_, 1) := by decide +kernel
set_option maxRecDepth 20000 in
theorem ggX3_zoneNaming_Jx4a65c_size_8abf5 : GoodIn wsX3_zoneNaming wsJx4a65c_size_8abf5 := goodIn_r _ [7, 8, 41, 42, 43] (by decide +kernel) (by decide +kernel)
set_option maxRecDepth 20000 in
theorem gX3_zoneNaming_Jx4a65c_size_8abf5 : GoodIn wsX3_zoneNaming (wsV RX3 25 RJx4a65c yJx4a65c_size_8abf5 wsJx4a65c_size_8abf5) := goodIn_app (goodIn_of _ (by decide +kernel)) ggX3_zoneNaming_Jx4a65c_size_8abf5
set_option maxRecDepth 20000 in
theorem ggX3_zoneNaming_Jx4a65c_get_915e3 : GoodIn wsX3_zoneNaming wsJx4a65c_get_915e3 := goodIn_r _ [12, 8, 13, 14, 15, 16, 17, 18, 19, 20, 21, 22, 23, 6, 24, 25, 41, 42, 43] (by decide +kernel) (by decide +kernel)
set_option maxRecDepth 20000 in
theorem gX3_zoneNaming_Jx4a65c_get_915e3 : GoodIn wsX3_zoneNaming (wsV RX3 29 RJx4a65c yJx4a65c_get_915e3 wsJx4a65c_get_915e3) := goodIn_app (goodIn_of _ (by decide +kernel)) ggX3_zoneNaming_Jx4a65c_get_915e3
set_option maxRecDepth 20000 in
theorem ggX3_zoneNaming_X6_names : GoodIn wsX3_zoneNaming wsX6_names := goodIn_r _ [30, 31, 32, 33, 29, 34, 35, 36, 37, 44, 45, 46, 47, 48, 49] (by decide +kernel) (by decide +kernel)
set_option maxRecDepth 20000 in
theorem gX3_zoneNaming_X6_names : GoodIn wsX3_zoneNaming (wsV RX3 35 RX6 yX6_names wsX6_names) := goodIn_app (goodIn_of _ (by decide +kernel)) ggX3_zoneNaming_X6_names
theorem dX3_zoneNaming_0 : decode cX3_zoneNaming 0 = .ok (.iconst 0, 1) := by decide +kernel
theorem dX3_zoneNaming_1 : decode cX3_zoneNaming 1 = .ok (.istore_n 2, 1) := by decide +kernel
theorem dX3_zoneNaming_2 : decode cX3_zoneNaming 2 = .ok (.iload_n 2, 1) := by decide +kernel
theorem dX3_zoneNaming_3 : decode cX3_zoneNaming 3 = .ok (.aload_n 0, 1) := by decide +kernel
theorem dX3_zoneNaming_4 : decode cX3_zoneNaming 4 = .ok (.getfield 12, 3) := by decide +kernel
theorem dX3_zoneNaming_7 : decode cX3_zoneNaming 7 = .ok (.invokevirtual 25, 3) := by decide +kernel
theorem dX3_zoneNaming_10 : decode cX3_zoneNaming 10 = .ok (.if_icmp .ge 29, 3) := by decide +kernel
theorem dX3_zoneNaming_13 : decode cX3_zoneNaming 13 = .ok (.aload_n 0, 1) := by decide +kernel
theorem dX3_zoneNaming_14 : decode cX3_zoneNaming 14 = .ok (.getfield 12, 3) := by decide +kernel
theorem dX3_zoneNaming_17 : decode cX3_zoneNaming 17 = .ok (.iload_n 2, 1) := by decide +kernel
theorem dX3_zoneNaming_18 : decode cX3_zoneNaming 18 = .ok (.invokevirtual 29, 3) := by decide +kernel
theorem dX3_zoneNaming_21 : decode cX3_zoneNaming 21 = .ok (.checkcast 33, 3) := by decide +kernel
theorem dX3_zoneNaming_24 : decode cX3_zoneNaming 24 = .ok (.iload_n 1, 1) := by decide +kernel
theorem dX3_zoneNaming_25 : decode cX3_zoneNaming 25 = .ok (.invokevirtual 35, 3) := by decide +kernel
theorem dX3_zoneNaming_28 : decode cX3_zoneNaming 28 = .ok (.ifCond .eq 5, 3) := by decide +kernel
theorem dX3_zoneNaming_31 : decode cX3_zoneNaming 31 = .ok (.iload_n 2, 1) := by decide +kernel
theorem dX3_zoneNaming_32 : decode cX3_zoneNaming 32 = .ok (.ireturn, 1) := by decide +kernel
theorem dX3_zoneNaming_33 : decode cX3_zoneNaming 33 = .ok (.iinc 2 1, 3) := by decide +kernel
theorem dX3_zoneNaming_36 : decode cX3_zoneNaming 36 = .ok (.goto (-34), 3) := by decide +kernel
theorem dX3_zoneNaming_39 : decode cX3_zoneNaming 39 = .ok (.iconst (-1), 1) := by decide +kernel
theorem dX3_zoneNaming_40 : decode cX3_zoneNaming 40 = .ok (.ireturn, 1) := by decide +kernel
set_option maxRecDepth 20000 in
theorem ggX3_zoneAt_Jx4a65c_size_8abf5 : GoodIn wsX3_zoneAt wsJx4a65c_size_8abf5 := goodIn_r _ [7, 8, 29, 30, 31] (by decide +kernel) (by decide +kernel)
set_option maxRecDepth 20000 in
theorem gX3_zoneAt_Jx4a65c_size_8abf5 : GoodIn wsX3_zoneAt (wsV RX3 25 RJx4a65c yJx4a65c_size_8abf5 wsJx4a65c_size_8abf5) := goodIn_app (goodIn_of _ (by decide +kernel)) ggX3_zoneAt_Jx4a65c_size_8abf5
set_option maxRecDepth 20000 in
theorem ggX3_zoneAt_Jx4a65c_get_915e3 : GoodIn wsX3_zoneAt wsJx4a65c_get_915e3 := goodIn_r _ [12, 8, 13, 14, 15, 16, 17, 18, 19, 20, 21, 22, 23, 6, 24, 25, 29, 30, 31] (by decide +kernel) (by decide +kernel)
set_option maxRecDepth 20000 in
theorem gX3_zoneAt_Jx4a65c_get_915e3 : GoodIn wsX3_zoneAt (wsV RX3 29 RJx4a65c yJx4a65c_get_915e3 wsJx4a65c_get_915e3) := goodIn_app (goodIn_of _ (by decide +kernel)) ggX3_zoneAt_Jx4a65c_get_915e3
theorem dX3_zoneAt_0 : decode cX3_zoneAt 0 = .ok (.iload_n 1, 1) := by decide +kernel
theorem dX3_zoneAt_1 : decode cX3_zoneAt 1 = .ok (.ifCond .lt 28, 3) := by decide +kernel
theorem dX3_zoneAt_4 : decode cX3_zoneAt 4 = .ok (.iload_n 1, 1) := by decide +kernel
theorem dX3_zoneAt_5 : decode cX3_zoneAt 5 = .ok (.aload_n 0, 1) := by decide +kernel
theorem dX3_zoneAt_6 : decode cX3_zoneAt 6 = .ok (.getfield 12, 3) := by decide +kernel
theorem dX3_zoneAt_9 : decode cX3_zoneAt 9 = .ok (.invokevirtual 25, 3) := by decide +kernel
theorem dX3_zoneAt_12 : decode cX3_zoneAt 12 = .ok (.if_icmp .ge 17, 3) := by decide +kernel
theorem dX3_zoneAt_15 : decode cX3_zoneAt 15 = .ok (.aload_n 0, 1) := by decide +kernel
theorem dX3_zoneAt_16 : decode cX3_zoneAt 16 = .ok (.getfield 12, 3) := by decide +kernel
theorem dX3_zoneAt_19 : decode cX3_zoneAt 19 = .ok (.iload_n 1, 1) := by decide +kernel
theorem dX3_zoneAt_20 : decode cX3_zoneAt 20 = .ok (.invokevirtual 29, 3) := by decide +kernel
theorem dX3_zoneAt_23 : decode cX3_zoneAt 23 = .ok (.checkcast 33, 3) := by decide +kernel
theorem dX3_zoneAt_26 : decode cX3_zoneAt 26 = .ok (.goto 4, 3) := by decide +kernel
theorem dX3_zoneAt_29 : decode cX3_zoneAt 29 = .ok (.aconst_null, 1) := by decide +kernel
theorem dX3_zoneAt_30 : decode cX3_zoneAt 30 = .ok (.areturn, 1) := by decide +kernel
theorem dX4_init_0 : decode cX4_init 0 = .ok (.aload_n 0, 1) := by decide +kernel
theorem dX4_init_1 : decode cX4_init 1 = .ok (.invokespecial 3, 3) := by decide +kernel
theorem dX4_init_4 : decode cX4_init 4 = .ok (.aload_n 0, 1) := by decide +kernel
theorem dX4_init_5 : decode cX4_init 5 = .ok (.iconst 0, 1) := by decide +kernel
theorem dX4_init_6 : decode cX4_init 6 = .ok (.putfield 9, 3) := by decide +kernel
theorem dX4_init_9 : decode cX4_init 9 = .ok (.aload_n 0, 1) := by decide +kernel
theorem dX4_init_10 : decode cX4_init 10 = .ok (.iconst 0, 1) := by decide +kernel
theorem dX4_init_11 : decode cX4_init 11 = .ok (.putfield 15, 3) := by decide +kernel
theorem dX4_init_14 : decode cX4_init 14 = .ok (.aload_n 0, 1) := by decide +kernel
theorem dX4_init_15 : decode cX4_init 15 = .ok (.aload_n 1, 1) := by decide +kernel
theorem dX4_init_16 : decode cX4_init 16 = .ok (.putfield 18, 3) := by decide +kernel
theorem dX4_init_19 : decode cX4_init 19 = .ok (.aload_n 0, 1) := by decide +kernel
theorem dX4_init_20 : decode cX4_init 20 = .ok (.iload_n 2, 1) := by decide +kernel
theorem dX4_init_21 : decode cX4_init 21 = .ok (.aload_n 1, 1) := by decide +kernel
theorem dX4_init_22 : decode cX4_init 22 = .ok (.arraylength, 1) := by decide +kernel
theorem dX4_init_23 : decode cX4_init 23 = .ok (.invokestatic 22, 3) := by decide +kernel
theorem dX4_init_26 : decode cX4_init 26 = .ok (.putfield 28, 3) := by decide +kernel
theorem dX4_init_29 : decode cX4_init 29 = .ok (.return_, 1) := by decide +kernel
set_option maxRecDepth 20000 in
theorem ggX4_readInto_X4_advance : GoodIn wsX4_readInto wsX4_advance := goodIn_r _ [10, 11, 1, 2, 12, 13, 14, 9, 15, 16, 17, 18, 19, 20, 21, 176, 177, 178, 179] (by decide +kernel) (by decide +kernel)
set_option maxRecDepth 20000 in
theorem gX4_readInto_X4_advance : GoodIn wsX4_readInto (wsV RX4 31 RX4 yX4_advance wsX4_advance) := goodIn_app (goodIn_of _ (by decide +kernel)) ggX4_readInto_X4_advance
set_option maxRecDepth 20000 in
theorem ggX4_readInto_X6_init : GoodIn wsX4_readInto wsX6_init := goodIn_r _ [23, 24, 25, 26, 27, 28, 29, 30, 31, 32, 180, 181, 182, 183, 184, 185] (by decide +kernel) (by decide +kernel)
set_option maxRecDepth 20000 in
theorem gX4_readInto_X6_init_n36 : GoodIn wsX4_readInto (wsX6_init) := ggX4_readInto_X6_init
set_option maxRecDepth 20000 in
theorem ggX4_readInto_X4_readZone : GoodIn wsX4_readInto wsX4_readZone := goodIn_r _ [36, 2, 37, 38, 39, 9, 40, 41, 42, 43, 44, 11, 1, 12, 45, 46, 47, 48, 49, 50, 51, 52, 53, 54, 55, 56, 57, 58, 59, 60, 61, 62, 63, 64, 65, 66, 67, 68, 69, 70, 71, 72, 73, 74, 75, 76, 77, 78, 79, 80, 81, 82, 83, 84, 85, 86, 87, 88, 89, 90, 91, 92, 93, 6, 7, 8, 10, 13, 14, 15, 16, 17, 18, 19, 20, 21, 94, 95, 96, 97, 98, 99, 100, 101, 102, 103, 104, 105, 106, 107, 108, 109, 110, 111, 5, 112, 113, 114, 115, 116, 117, 118, 119, 27, 28, 29, 30, 31, 32, 176, 177, 178, 179, 180, 181, 182, 183, 184, 185] (by decide +kernel) (by decide +kernel)
set_option maxRecDepth 20000 in
theorem gX4_readInto_X4_readZone : GoodIn wsX4_readInto (wsV RX4 37 RX4 yX4_readZone wsX4_readZone) := goodIn_app (goodIn_of _ (by decide +kernel)) ggX4_readInto_X4_readZone
set_option maxRecDepth 20000 in
theorem ggX4_readInto_Jx4a65c_add_9ea2d : GoodIn wsX4_readInto wsJx4a65c_add_9ea2d := goodIn_r _ [124, 125, 126, 127, 128, 129, 130, 131, 123, 132, 133, 134, 135, 136, 137, 138, 139, 140, 141, 142, 143, 144, 145, 146, 147, 148, 149, 150, 151, 152, 153, 154, 155, 156, 157, 158, 159, 160, 161, 162, 163, 164, 165, 166, 167, 168, 169, 170, 171, 172, 173, 174, 175, 189, 190, 191] (by decide +kernel) (by decide +kernel)
set_option maxRecDepth 20000 in
theorem gX4_readInto_Jx4a65c_add_9ea2d : GoodIn wsX4_readInto (wsV RX4 47 RJx4a65c yJx4a65c_add_9ea2d wsJx4a65c_add_9ea2d) := goodIn_app (goodIn_of _ (by decide +kernel)) ggX4_readInto_Jx4a65c_add_9ea2d
theorem dX4_readInto_0 : decode cX4_readInto 0 = .ok (.aload_n 0, 1) := by decide +kernel
theorem dX4_readInto_1 : decode cX4_readInto 1 = .ok (.invokevirtual 31, 3) := by decide +kernel
theorem dX4_readInto_4 : decode cX4_readInto 4 = .ok (.iconst 0, 1) := by decide +kernel
theorem dX4_readInto_5 : decode cX4_readInto 5 = .ok (.istore_n 2, 1) := by decide +kernel
theorem dX4_readInto_6 : decode cX4_readInto 6 = .ok (.iload_n 2, 1) := by decide +kernel
theorem dX4_readInto_7 : decode cX4_readInto 7 = .ok (.bipush 8, 2) := by decide +kernel
theorem dX4_readInto_9 : decode cX4_readInto 9 = .ok (.if_icmp .ge 50, 3) := by decide +kernel
theorem dX4_readInto_12 : decode cX4_readInto 12 = .ok (.aload_n 0, 1) := by decide +kernel
theorem dX4_readInto_13 : decode cX4_readInto 13 = .ok (.getfield 9, 3) := by decide +kernel
theorem dX4_readInto_16 : decode cX4_readInto 16 = .ok (.aload_n 0, 1) := by decide +kernel
theorem dX4_readInto_17 : decode cX4_readInto 17 = .ok (.getfield 28, 3) := by decide +kernel
theorem dX4_readInto_20 : decode cX4_readInto 20 = .ok (.if_icmp .ge 39, 3) := by decide +kernel
theorem dX4_readInto_23 : decode cX4_readInto 23 = .ok (.new 34, 3) := by decide +kernel
theorem dX4_readInto_26 : decode cX4_readInto 26 = .ok (.dup, 1) := by decide +kernel
theorem dX4_readInto_27 : decode cX4_readInto 27 = .ok (.invokespecial 36, 3) := by decide +kernel
theorem dX4_readInto_30 : decode cX4_readInto 30 = .ok (.astore_n 3, 1) := by decide +kernel
theorem dX4_readInto_31 : decode cX4_readInto 31 = .ok (.aload_n 0, 1) := by decide +kernel
theorem dX4_readInto_32 : decode cX4_readInto 32 = .ok (.aload_n 3, 1) := by decide +kernel
theorem dX4_readInto_33 : decode cX4_readInto 33 = .ok (.invokevirtual 37, 3) := by decide +kernel
theorem dX4_readInto_36 : decode cX4_readInto 36 = .ok (.ifCond .ne 8, 3) := by decide +kernel
theorem dX4_readInto_39 : decode cX4_readInto 39 = .ok (.aload_n 0, 1) := by decide +kernel
theorem dX4_readInto_40 : decode cX4_readInto 40 = .ok (.getfield 9, 3) := by decide +kernel
theorem dX4_readInto_43 : decode cX4_readInto 43 = .ok (.ireturn, 1) := by decide +kernel
theorem dX4_readInto_44 : decode cX4_readInto 44 = .ok (.aload_n 1, 1) := by decide +kernel
theorem dX4_readInto_45 : decode cX4_readInto 45 = .ok (.getfield 41, 3) := by decide +kernel
theorem dX4_readInto_48 : decode cX4_readInto 48 = .ok (.aload_n 3, 1) := by decide +kernel
theorem dX4_readInto_49 : decode cX4_readInto 49 = .ok (.invokevirtual 47, 3) := by decide +kernel
theorem dX4_readInto_52 : decode cX4_readInto 52 = .ok (.pop, 1) := by decide +kernel
theorem dX4_readInto_53 : decode cX4_readInto 53 = .ok (.iinc 2 1, 3) := by decide +kernel
theorem dX4_readInto_56 : decode cX4_readInto 56 = .ok (.goto (-50), 3) := by decide +kernel
theorem dX4_readInto_59 : decode cX4_readInto 59 = .ok (.aload_n 0, 1) := by decide +kernel
theorem dX4_readInto_60 : decode cX4_readInto 60 = .ok (.getfield 9, 3) := by decide +kernel
theorem dX4_readInto_63 : decode cX4_readInto 63 = .ok (.aload_n 0, 1) := by decide +kernel
theorem dX4_readInto_64 : decode cX4_readInto 64 = .ok (.getfield 28, 3) := by decide +kernel
theorem dX4_readInto_67 : decode cX4_readInto 67 = .ok (.if_icmp .ge 10, 3) := by decide +kernel
theorem dX4_readInto_70 : decode cX4_readInto 70 = .ok (.aload_n 0, 1) := by decide +kernel
theorem dX4_readInto_71 : decode cX4_readInto 71 = .ok (.getfield 9, 3) := by decide +kernel
theorem dX4_readInto_74 : decode cX4_readInto 74 = .ok (.goto 4, 3) := by decide +kernel
theorem dX4_readInto_77 : decode cX4_readInto 77 = .ok (.iconst (-1), 1) := by decide +kernel
theorem dX4_readInto_78 : decode cX4_readInto 78 = .ok (.ireturn, 1) := by decide +kernel
set_option maxRecDepth 20000 in
theorem ggX4_readZone_X4_take : GoodIn wsX4_readZone wsX4_take := goodIn_r _ [6, 7, 8, 9, 5, 10, 11, 12, 13, 14, 15, 16, 17, 18, 19, 20, 21, 22, 23, 24, 25, 26, 27, 28, 29, 30, 31, 32, 33, 34, 35, 36, 37, 38, 39, 40, 41, 42, 43, 44, 45, 46, 47, 48, 49, 50, 51, 52, 53, 54, 55, 56, 57, 58, 59, 60, 61, 62, 63, 64, 65, 66, 1, 67, 68, 69, 70, 71, 72, 73, 74, 75, 109, 110, 111, 112] (by decide +kernel) (by decide +kernel)
set_option maxRecDepth 20000 in
theorem gX4_readZone_X4_take : GoodIn wsX4_readZone (wsV RX4 55 RX4 yX4_take wsX4_take) := goodIn_app (goodIn_of _ (by decide +kernel)) ggX4_readZone_X4_take
set_option maxRecDepth 20000 in
theorem ggX4_readZone_X4_isHere : GoodIn wsX4_readZone wsX4_isHere := goodIn_r _ [10, 11, 12, 13, 14, 15, 16, 17, 18, 19, 20, 21, 22, 23, 24, 25, 26, 27, 28, 29, 30, 31, 32, 33, 34, 35, 36, 37, 38, 39, 40, 41, 42, 43, 44, 45, 46, 47, 48, 49, 50, 51, 52, 53, 54, 55, 56, 57, 58, 59, 60, 61, 62, 109, 110, 111, 112] (by decide +kernel) (by decide +kernel)
set_option maxRecDepth 20000 in
theorem gX4_readZone_X4_isHere : GoodIn wsX4_readZone (wsV RX4 63 RX4 yX4_isHere wsX4_isHere) := goodIn_app (goodIn_of _ (by decide +kernel)) ggX4_readZone_X4_isHere
set_option maxRecDepth 20000 in
theorem ggX4_readZone_X4_readItem : GoodIn wsX4_readZone wsX4_readItem := goodIn_r _ [79, 80, 81, 82, 5, 83, 7, 8, 9, 10, 11, 12, 13, 14, 15, 16, 17, 18, 19, 20, 21, 22, 23, 24, 25, 26, 27, 28, 29, 30, 31, 32, 33, 34, 35, 36, 37, 38, 39, 40, 41, 42, 43, 44, 45, 46, 47, 48, 49, 50, 51, 52, 53, 54, 55, 56, 57, 58, 59, 60, 61, 62, 63, 64, 65, 66, 1, 67, 68, 69, 70, 71, 72, 73, 74, 75, 84, 85, 86, 87, 88, 89, 90, 91, 92, 93, 94, 95, 96, 97, 98, 2, 3, 4, 6, 99, 100, 101, 102, 103, 104, 105, 106, 107, 108, 109, 110, 111, 112, 113, 114, 115, 116, 117, 118] (by decide +kernel) (by decide +kernel)
set_option maxRecDepth 20000 in
theorem gX4_readZone_X4_readItem : GoodIn wsX4_readZone (wsV RX4 66 RX4 yX4_readItem wsX4_readItem) := goodIn_app (goodIn_of _ (by decide +kernel)) ggX4_readZone_X4_readItem
theorem dX4_readZone_0 : decode cX4_readZone 0 = .ok (.aload_n 0, 1) := by decide +kernel
theorem dX4_readZone_1 : decode cX4_readZone 1 = .ok (.ldc 53, 2) := by decide +kernel
theorem dX4_readZone_3 : decode cX4_readZone 3 = .ok (.invokevirtual 55, 3) := by decide +kernel
theorem dX4_readZone_6 : decode cX4_readZone 6 = .ok (.ifCond .eq 12, 3) := by decide +kernel
theorem dX4_readZone_9 : decode cX4_readZone 9 = .ok (.aload_n 0, 1) := by decide +kernel
theorem dX4_readZone_10 : decode cX4_readZone 10 = .ok (.ldc 59, 2) := by decide +kernel
theorem dX4_readZone_12 : decode cX4_readZone 12 = .ok (.invokevirtual 55, 3) := by decide +kernel
theorem dX4_readZone_15 : decode cX4_readZone 15 = .ok (.ifCond .ne 5, 3) := by decide +kernel
theorem dX4_readZone_18 : decode cX4_readZone 18 = .ok (.iconst 0, 1) := by decide +kernel
theorem dX4_readZone_19 : decode cX4_readZone 19 = .ok (.ireturn, 1) := by decide +kernel
theorem dX4_readZone_20 : decode cX4_readZone 20 = .ok (.iconst 0, 1) := by decide +kernel
theorem dX4_readZone_21 : decode cX4_readZone 21 = .ok (.istore_n 2, 1) := by decide +kernel
theorem dX4_readZone_22 : decode cX4_readZone 22 = .ok (.iload_n 2, 1) := by decide +kernel
theorem dX4_readZone_23 : decode cX4_readZone 23 = .ok (.aload_n 0, 1) := by decide +kernel
theorem dX4_readZone_24 : decode cX4_readZone 24 = .ok (.getfield 28, 3) := by decide +kernel
theorem dX4_readZone_27 : decode cX4_readZone 27 = .ok (.if_icmp .ge 28, 3) := by decide +kernel
theorem dX4_readZone_30 : decode cX4_readZone 30 = .ok (.aload_n 0, 1) := by decide +kernel
theorem dX4_readZone_31 : decode cX4_readZone 31 = .ok (.ldc 61, 2) := by decide +kernel
theorem dX4_readZone_33 : decode cX4_readZone 33 = .ok (.invokevirtual 63, 3) := by decide +kernel
theorem dX4_readZone_36 : decode cX4_readZone 36 = .ok (.ifCond .ne 19, 3) := by decide +kernel
theorem dX4_readZone_39 : decode cX4_readZone 39 = .ok (.aload_n 0, 1) := by decide +kernel
theorem dX4_readZone_40 : decode cX4_readZone 40 = .ok (.aload_n 1, 1) := by decide +kernel
theorem dX4_readZone_41 : decode cX4_readZone 41 = .ok (.invokevirtual 66, 3) := by decide +kernel
theorem dX4_readZone_44 : decode cX4_readZone 44 = .ok (.ifCond .ne 5, 3) := by decide +kernel
theorem dX4_readZone_47 : decode cX4_readZone 47 = .ok (.iconst 0, 1) := by decide +kernel
theorem dX4_readZone_48 : decode cX4_readZone 48 = .ok (.ireturn, 1) := by decide +kernel
theorem dX4_readZone_49 : decode cX4_readZone 49 = .ok (.iinc 2 1, 3) := by decide +kernel
theorem dX4_readZone_52 : decode cX4_readZone 52 = .ok (.goto (-30), 3) := by decide +kernel
theorem dX4_readZone_55 : decode cX4_readZone 55 = .ok (.aload_n 0, 1) := by decide +kernel
theorem dX4_readZone_56 : decode cX4_readZone 56 = .ok (.ldc 61, 2) := by decide +kernel
theorem dX4_readZone_58 : decode cX4_readZone 58 = .ok (.invokevirtual 55, 3) := by decide +kernel
theorem dX4_readZone_61 : decode cX4_readZone 61 = .ok (.ireturn, 1) := by decide +kernel
set_option maxRecDepth 20000 in
theorem ggX4_readItem_X4_itemHere : GoodIn wsX4_readItem wsX4_itemHere := goodIn_r _ [5, 6, 7, 8, 4, 9, 10, 11, 12, 13, 14, 15, 16, 17, 18, 19, 20, 21, 22, 23, 24, 25, 26, 27, 28, 29, 30, 31, 32, 33, 34, 35, 36, 37, 38, 39, 40, 41, 42, 43, 44, 45, 46, 47, 48, 49, 50, 51, 52, 53, 54, 55, 56, 57, 58, 59, 60, 61, 105, 106, 107, 108] (by decide +kernel) (by decide +kernel)
set_option maxRecDepth 20000 in
theorem gX4_readItem_X4_itemHere : GoodIn wsX4_readItem (wsV RX4 69 RX4 yX4_itemHere wsX4_itemHere) := goodIn_app (goodIn_of _ (by decide +kernel)) ggX4_readItem_X4_itemHere
set_option maxRecDepth 20000 in
theorem ggX4_readItem_X4_advance : GoodIn wsX4_readItem wsX4_advance := goodIn_r _ [65, 10, 11, 66, 12, 67, 68, 4, 69, 70, 71, 72, 73, 74, 75, 105, 106, 107, 108] (by decide +kernel) (by decide +kernel)
set_option maxRecDepth 20000 in
theorem gX4_readItem_X4_advance : GoodIn wsX4_readItem (wsV RX4 31 RX4 yX4_advance wsX4_advance) := goodIn_app (goodIn_of _ (by decide +kernel)) ggX4_readItem_X4_advance
set_option maxRecDepth 20000 in
theorem ggX4_readItem_X4_readSet : GoodIn wsX4_readItem wsX4_readSet := goodIn_r _ [79, 66, 80, 81, 82, 4, 83, 11, 12, 10, 73, 74, 75, 62, 63, 64, 65, 67, 68, 69, 70, 71, 72, 84, 85, 86, 87, 88, 89, 90, 105, 106, 107, 108] (by decide +kernel) (by decide +kernel)
set_option maxRecDepth 20000 in
theorem gX4_readItem_X4_readSet : GoodIn wsX4_readItem (wsV RX4 73 RX4 yX4_readSet wsX4_readSet) := goodIn_app (goodIn_of _ (by decide +kernel)) ggX4_readItem_X4_readSet
set_option maxRecDepth 20000 in
theorem ggX4_readItem_X4_readNumber : GoodIn wsX4_readItem wsX4_readNumber := goodIn_r _ [83, 11, 66, 12, 10, 73, 74, 4, 75, 62, 63, 64, 65, 67, 68, 69, 70, 71, 72, 105, 106, 107, 108] (by decide +kernel) (by decide +kernel)
set_option maxRecDepth 20000 in
theorem gX4_readItem_X4_readNumber : GoodIn wsX4_readItem (wsV RX4 76 RX4 yX4_readNumber wsX4_readNumber) := goodIn_app (goodIn_of _ (by decide +kernel)) ggX4_readItem_X4_readNumber
set_option maxRecDepth 20000 in
theorem ggX4_readItem_X4_take : GoodIn wsX4_readItem wsX4_take := goodIn_r _ [94, 6, 7, 8, 4, 9, 10, 11, 12, 13, 14, 15, 16, 17, 18, 19, 20, 21, 22, 23, 24, 25, 26, 27, 28, 29, 30, 31, 32, 33, 34, 35, 36, 37, 38, 39, 40, 41, 42, 43, 44, 45, 46, 47, 48, 49, 50, 51, 52, 53, 54, 55, 56, 57, 58, 59, 60, 61, 62, 63, 64, 65, 66, 67, 68, 69, 70, 71, 72, 73, 74, 75, 105, 106, 107, 108] (by decide +kernel) (by decide +kernel)
set_option maxRecDepth 20000 in
theorem gX4_readItem_X4_take : GoodIn wsX4_readItem (wsV RX4 55 RX4 yX4_take wsX4_take) := goodIn_app (goodIn_of _ (by decide +kernel)) ggX4_readItem_X4_take
set_option maxRecDepth 20000 in
theorem ggX4_readItem_X6_put : GoodIn wsX4_readItem wsX6_put := goodIn_r _ [98, 99, 100, 101, 102, 103, 104, 109, 110, 111, 112, 113, 114] (by decide +kernel) (by decide +kernel)
set_option maxRecDepth 20000 in
theorem gX4_readItem_X6_put : GoodIn wsX4_readItem (wsV RX4 81 RX6 yX6_put wsX6_put) := goodIn_app (goodIn_of _ (by decide +kernel)) ggX4_readItem_X6_put
theorem dX4_readItem_0 : decode cX4_readItem 0 = .ok (.aload_n 0, 1) := by decide +kernel
theorem dX4_readItem_1 : decode cX4_readItem 1 = .ok (.invokevirtual 69, 3) := by decide +kernel
theorem dX4_readItem_4 : decode cX4_readItem 4 = .ok (.istore_n 2, 1) := by decide +kernel
theorem dX4_readItem_5 : decode cX4_readItem 5 = .ok (.iload_n 2, 1) := by decide +kernel
theorem dX4_readItem_6 : decode cX4_readItem 6 = .ok (.iconst (-1), 1) := by decide +kernel
theorem dX4_readItem_7 : decode cX4_readItem 7 = .ok (.if_icmp .ne 5, 3) := by decide +kernel
theorem dX4_readItem_10 : decode cX4_readItem 10 = .ok (.iconst 0, 1) := by decide +kernel
theorem dX4_readItem_11 : decode cX4_readItem 11 = .ok (.ireturn, 1) := by decide +kernel
theorem dX4_readItem_12 : decode cX4_readItem 12 = .ok (.aload_n 0, 1) := by decide +kernel
theorem dX4_readItem_13 : decode cX4_readItem 13 = .ok (.invokevirtual 31, 3) := by decide +kernel
theorem dX4_readItem_16 : decode cX4_readItem 16 = .ok (.iload_n 2, 1) := by decide +kernel
theorem dX4_readItem_17 : decode cX4_readItem 17 = .ok (.ifCond .eq 8, 3) := by decide +kernel
theorem dX4_readItem_20 : decode cX4_readItem 20 = .ok (.iload_n 2, 1) := by decide +kernel
theorem dX4_readItem_21 : decode cX4_readItem 21 = .ok (.iconst 1, 1) := by decide +kernel
theorem dX4_readItem_22 : decode cX4_readItem 22 = .ok (.if_icmp .ne 10, 3) := by decide +kernel
theorem dX4_readItem_25 : decode cX4_readItem 25 = .ok (.aload_n 0, 1) := by decide +kernel
theorem dX4_readItem_26 : decode cX4_readItem 26 = .ok (.invokevirtual 73, 3) := by decide +kernel
theorem dX4_readItem_29 : decode cX4_readItem 29 = .ok (.goto 7, 3) := by decide +kernel
theorem dX4_readItem_32 : decode cX4_readItem 32 = .ok (.aload_n 0, 1) := by decide +kernel
theorem dX4_readItem_33 : decode cX4_readItem 33 = .ok (.invokevirtual 76, 3) := by decide +kernel
theorem dX4_readItem_36 : decode cX4_readItem 36 = .ok (.istore_n 3, 1) := by decide +kernel
theorem dX4_readItem_37 : decode cX4_readItem 37 = .ok (.iload_n 3, 1) := by decide +kernel
theorem dX4_readItem_38 : decode cX4_readItem 38 = .ok (.iconst (-1), 1) := by decide +kernel
theorem dX4_readItem_39 : decode cX4_readItem 39 = .ok (.if_icmp .eq 12, 3) := by decide +kernel
theorem dX4_readItem_42 : decode cX4_readItem 42 = .ok (.aload_n 0, 1) := by decide +kernel
theorem dX4_readItem_43 : decode cX4_readItem 43 = .ok (.ldc 79, 2) := by decide +kernel
theorem dX4_readItem_45 : decode cX4_readItem 45 = .ok (.invokevirtual 55, 3) := by decide +kernel
theorem dX4_readItem_48 : decode cX4_readItem 48 = .ok (.ifCond .ne 5, 3) := by decide +kernel
theorem dX4_readItem_51 : decode cX4_readItem 51 = .ok (.iconst 0, 1) := by decide +kernel
theorem dX4_readItem_52 : decode cX4_readItem 52 = .ok (.ireturn, 1) := by decide +kernel
theorem dX4_readItem_53 : decode cX4_readItem 53 = .ok (.aload_n 1, 1) := by decide +kernel
theorem dX4_readItem_54 : decode cX4_readItem 54 = .ok (.iload_n 2, 1) := by decide +kernel
theorem dX4_readItem_55 : decode cX4_readItem 55 = .ok (.iload_n 3, 1) := by decide +kernel
theorem dX4_readItem_56 : decode cX4_readItem 56 = .ok (.invokevirtual 81, 3) := by decide +kernel
theorem dX4_readItem_59 : decode cX4_readItem 59 = .ok (.iconst 1, 1) := by decide +kernel
theorem dX4_readItem_60 : decode cX4_readItem 60 = .ok (.ireturn, 1) := by decide +kernel
set_option maxRecDepth 20000 in
theorem ggX4_itemHere_X4_isHere : GoodIn wsX4_itemHere wsX4_isHere := goodIn_r _ [5, 6, 7, 8, 9, 10, 11, 12, 13, 14, 15, 16, 17, 18, 19, 20, 21, 22, 23, 24, 25, 26, 27, 28, 29, 30, 31, 32, 33, 34, 35, 36, 37, 38, 39, 40, 41, 42, 43, 44, 45, 46, 47, 48, 49, 50, 51, 52, 53, 54, 55, 56, 57, 58, 59, 60, 61] (by decide +kernel) (by decide +kernel)
set_option maxRecDepth 20000 in
theorem gX4_itemHere_X4_isHere : GoodIn wsX4_itemHere (wsV RX4 63 RX4 yX4_isHere wsX4_isHere) := goodIn_app (goodIn_of _ (by decide +kernel)) ggX4_itemHere_X4_isHere
theorem dX4_itemHere_0 : decode cX4_itemHere 0 = .ok (.aload_n 0, 1) := by decide +kernel
theorem dX4_itemHere_1 : decode cX4_itemHere 1 = .ok (.ldc 85, 2) := by decide +kernel
theorem dX4_itemHere_3 : decode cX4_itemHere 3 = .ok (.invokevirtual 63, 3) := by decide +kernel
theorem dX4_itemHere_6 : decode cX4_itemHere 6 = .ok (.ifCond .eq 5, 3) := by decide +kernel
theorem dX4_itemHere_9 : decode cX4_itemHere 9 = .ok (.iconst 0, 1) := by decide +kernel
theorem dX4_itemHere_10 : decode cX4_itemHere 10 = .ok (.ireturn, 1) := by decide +kernel
theorem dX4_itemHere_11 : decode cX4_itemHere 11 = .ok (.aload_n 0, 1) := by decide +kernel
theorem dX4_itemHere_12 : decode cX4_itemHere 12 = .ok (.ldc 87, 2) := by decide +kernel
theorem dX4_itemHere_14 : decode cX4_itemHere 14 = .ok (.invokevirtual 63, 3) := by decide +kernel
theorem dX4_itemHere_17 : decode cX4_itemHere 17 = .ok (.ifCond .eq 5, 3) := by decide +kernel
theorem dX4_itemHere_20 : decode cX4_itemHere 20 = .ok (.iconst 1, 1) := by decide +kernel
theorem dX4_itemHere_21 : decode cX4_itemHere 21 = .ok (.ireturn, 1) := by decide +kernel
theorem dX4_itemHere_22 : decode cX4_itemHere 22 = .ok (.aload_n 0, 1) := by decide +kernel
theorem dX4_itemHere_23 : decode cX4_itemHere 23 = .ok (.ldc 89, 2) := by decide +kernel
theorem dX4_itemHere_25 : decode cX4_itemHere 25 = .ok (.invokevirtual 63, 3) := by decide +kernel
theorem dX4_itemHere_28 : decode cX4_itemHere 28 = .ok (.ifCond .eq 5, 3) := by decide +kernel
theorem dX4_itemHere_31 : decode cX4_itemHere 31 = .ok (.iconst 2, 1) := by decide +kernel
theorem dX4_itemHere_32 : decode cX4_itemHere 32 = .ok (.ireturn, 1) := by decide +kernel
theorem dX4_itemHere_33 : decode cX4_itemHere 33 = .ok (.aload_n 0, 1) := by decide +kernel
theorem dX4_itemHere_34 : decode cX4_itemHere 34 = .ok (.ldc 91, 2) := by decide +kernel
theorem dX4_itemHere_36 : decode cX4_itemHere 36 = .ok (.invokevirtual 63, 3) := by decide +kernel
theorem dX4_itemHere_39 : decode cX4_itemHere 39 = .ok (.ifCond .eq 5, 3) := by decide +kernel
theorem dX4_itemHere_42 : decode cX4_itemHere 42 = .ok (.iconst 3, 1) := by decide +kernel
theorem dX4_itemHere_43 : decode cX4_itemHere 43 = .ok (.ireturn, 1) := by decide +kernel
theorem dX4_itemHere_44 : decode cX4_itemHere 44 = .ok (.aload_n 0, 1) := by decide +kernel
theorem dX4_itemHere_45 : decode cX4_itemHere 45 = .ok (.ldc 93, 2) := by decide +kernel
theorem dX4_itemHere_47 : decode cX4_itemHere 47 = .ok (.invokevirtual 63, 3) := by decide +kernel
theorem dX4_itemHere_50 : decode cX4_itemHere 50 = .ok (.ifCond .eq 5, 3) := by decide +kernel
theorem dX4_itemHere_53 : decode cX4_itemHere 53 = .ok (.iconst 4, 1) := by decide +kernel
theorem dX4_itemHere_54 : decode cX4_itemHere 54 = .ok (.ireturn, 1) := by decide +kernel
theorem dX4_itemHere_55 : decode cX4_itemHere 55 = .ok (.aload_n 0, 1) := by decide +kernel
theorem dX4_itemHere_56 : decode cX4_itemHere 56 = .ok (.ldc 95, 2) := by decide +kernel
theorem dX4_itemHere_58 : decode cX4_itemHere 58 = .ok (.invokevirtual 63, 3) := by decide +kernel
theorem dX4_itemHere_61 : decode cX4_itemHere 61 = .ok (.ifCond .eq 7, 3) := by decide +kernel
theorem dX4_itemHere_64 : decode cX4_itemHere 64 = .ok (.iconst 5, 1) := by decide +kernel
theorem dX4_itemHere_65 : decode cX4_itemHere 65 = .ok (.goto 4, 3) := by decide +kernel
theorem dX4_itemHere_68 : decode cX4_itemHere 68 = .ok (.iconst (-1), 1) := by decide +kernel
theorem dX4_itemHere_69 : decode cX4_itemHere 69 = .ok (.ireturn, 1) := by decide +kernel
set_option maxRecDepth 20000 in
theorem ggX4_readSet_X4_readNumber : GoodIn wsX4_readSet wsX4_readNumber := goodIn_r _ [6, 7, 1, 8, 9, 10, 11, 5, 12, 13, 14, 15, 16, 17, 18, 19, 20, 21, 22, 30, 31, 32, 33] (by decide +kernel) (by decide +kernel)
set_option maxRecDepth 20000 in
theorem gX4_readSet_X4_readNumber : GoodIn wsX4_readSet (wsV RX4 76 RX4 yX4_readNumber wsX4_readNumber) := goodIn_app (goodIn_of _ (by decide +kernel)) ggX4_readSet_X4_readNumber
set_option maxRecDepth 20000 in
theorem ggX4_readSet_X6_bitOf : GoodIn wsX4_readSet wsX6_bitOf := goodIn_r _ [26, 27, 28, 29] (by decide +kernel) (by decide +kernel)
set_option maxRecDepth 20000 in
theorem gX4_readSet_X6_bitOf : GoodIn wsX4_readSet (va_wsS RX4 97 yX6_bitOf wsX6_bitOf) := goodIn_app (goodIn_of _ (by decide +kernel)) ggX4_readSet_X6_bitOf
theorem dX4_readSet_0 : decode cX4_readSet 0 = .ok (.aload_n 0, 1) := by decide +kernel
theorem dX4_readSet_1 : decode cX4_readSet 1 = .ok (.invokevirtual 76, 3) := by decide +kernel
theorem dX4_readSet_4 : decode cX4_readSet 4 = .ok (.istore_n 1, 1) := by decide +kernel
theorem dX4_readSet_5 : decode cX4_readSet 5 = .ok (.iload_n 1, 1) := by decide +kernel
theorem dX4_readSet_6 : decode cX4_readSet 6 = .ok (.iconst (-1), 1) := by decide +kernel
theorem dX4_readSet_7 : decode cX4_readSet 7 = .ok (.if_icmp .ne 5, 3) := by decide +kernel
theorem dX4_readSet_10 : decode cX4_readSet 10 = .ok (.iconst (-1), 1) := by decide +kernel
theorem dX4_readSet_11 : decode cX4_readSet 11 = .ok (.ireturn, 1) := by decide +kernel
theorem dX4_readSet_12 : decode cX4_readSet 12 = .ok (.iload_n 1, 1) := by decide +kernel
theorem dX4_readSet_13 : decode cX4_readSet 13 = .ok (.invokestatic 97, 3) := by decide +kernel
theorem dX4_readSet_16 : decode cX4_readSet 16 = .ok (.istore_n 2, 1) := by decide +kernel
theorem dX4_readSet_17 : decode cX4_readSet 17 = .ok (.iconst 0, 1) := by decide +kernel
theorem dX4_readSet_18 : decode cX4_readSet 18 = .ok (.istore_n 3, 1) := by decide +kernel
theorem dX4_readSet_19 : decode cX4_readSet 19 = .ok (.iload_n 3, 1) := by decide +kernel
theorem dX4_readSet_20 : decode cX4_readSet 20 = .ok (.aload_n 0, 1) := by decide +kernel
theorem dX4_readSet_21 : decode cX4_readSet 21 = .ok (.getfield 28, 3) := by decide +kernel
theorem dX4_readSet_24 : decode cX4_readSet 24 = .ok (.if_icmp .ge 26, 3) := by decide +kernel
theorem dX4_readSet_27 : decode cX4_readSet 27 = .ok (.iload_n 1, 1) := by decide +kernel
theorem dX4_readSet_28 : decode cX4_readSet 28 = .ok (.iconst (-1), 1) := by decide +kernel
theorem dX4_readSet_29 : decode cX4_readSet 29 = .ok (.if_icmp .eq 21, 3) := by decide +kernel
theorem dX4_readSet_32 : decode cX4_readSet 32 = .ok (.aload_n 0, 1) := by decide +kernel
theorem dX4_readSet_33 : decode cX4_readSet 33 = .ok (.invokevirtual 76, 3) := by decide +kernel
theorem dX4_readSet_36 : decode cX4_readSet 36 = .ok (.istore_n 1, 1) := by decide +kernel
theorem dX4_readSet_37 : decode cX4_readSet 37 = .ok (.iload_n 2, 1) := by decide +kernel
theorem dX4_readSet_38 : decode cX4_readSet 38 = .ok (.iload_n 1, 1) := by decide +kernel
theorem dX4_readSet_39 : decode cX4_readSet 39 = .ok (.invokestatic 97, 3) := by decide +kernel
theorem dX4_readSet_42 : decode cX4_readSet 42 = .ok (.ior, 1) := by decide +kernel
theorem dX4_readSet_43 : decode cX4_readSet 43 = .ok (.istore_n 2, 1) := by decide +kernel
theorem dX4_readSet_44 : decode cX4_readSet 44 = .ok (.iinc 3 1, 3) := by decide +kernel
theorem dX4_readSet_47 : decode cX4_readSet 47 = .ok (.goto (-28), 3) := by decide +kernel
theorem dX4_readSet_50 : decode cX4_readSet 50 = .ok (.iload_n 2, 1) := by decide +kernel
theorem dX4_readSet_51 : decode cX4_readSet 51 = .ok (.ireturn, 1) := by decide +kernel
set_option maxRecDepth 20000 in
theorem ggX4_readNumber_X4_isDigit : GoodIn wsX4_readNumber wsX4_isDigit := goodIn_r _ [8] (by decide +kernel) (by decide +kernel)
set_option maxRecDepth 20000 in
theorem gX4_readNumber_X4_isDigit : GoodIn wsX4_readNumber (va_wsS RX4 101 yX4_isDigit wsX4_isDigit) := goodIn_app (goodIn_of _ (by decide +kernel)) ggX4_readNumber_X4_isDigit
set_option maxRecDepth 20000 in
theorem ggX4_readNumber_X4_advance : GoodIn wsX4_readNumber wsX4_advance := goodIn_r _ [12, 4, 1, 2, 3, 13, 14, 7, 15, 16, 17, 18, 5, 6, 8, 19, 20, 21, 22] (by decide +kernel) (by decide +kernel)
set_option maxRecDepth 20000 in
theorem gX4_readNumber_X4_advance : GoodIn wsX4_readNumber (wsV RX4 31 RX4 yX4_advance wsX4_advance) := goodIn_app (goodIn_of _ (by decide +kernel)) ggX4_readNumber_X4_advance
theorem dX4_readNumber_0 : decode cX4_readNumber 0 = .ok (.aload_n 0, 1) := by decide +kernel
theorem dX4_readNumber_1 : decode cX4_readNumber 1 = .ok (.getfield 9, 3) := by decide +kernel
theorem dX4_readNumber_4 : decode cX4_readNumber 4 = .ok (.aload_n 0, 1) := by decide +kernel
theorem dX4_readNumber_5 : decode cX4_readNumber 5 = .ok (.getfield 28, 3) := by decide +kernel
theorem dX4_readNumber_8 : decode cX4_readNumber 8 = .ok (.if_icmp .ge 31, 3) := by decide +kernel
theorem dX4_readNumber_11 : decode cX4_readNumber 11 = .ok (.aload_n 0, 1) := by decide +kernel
theorem dX4_readNumber_12 : decode cX4_readNumber 12 = .ok (.getfield 18, 3) := by decide +kernel
theorem dX4_readNumber_15 : decode cX4_readNumber 15 = .ok (.aload_n 0, 1) := by decide +kernel
theorem dX4_readNumber_16 : decode cX4_readNumber 16 = .ok (.getfield 9, 3) := by decide +kernel
theorem dX4_readNumber_19 : decode cX4_readNumber 19 = .ok (.baload, 1) := by decide +kernel
theorem dX4_readNumber_20 : decode cX4_readNumber 20 = .ok (.invokestatic 101, 3) := by decide +kernel
theorem dX4_readNumber_23 : decode cX4_readNumber 23 = .ok (.ifCond .eq 16, 3) := by decide +kernel
theorem dX4_readNumber_26 : decode cX4_readNumber 26 = .ok (.aload_n 0, 1) := by decide +kernel
theorem dX4_readNumber_27 : decode cX4_readNumber 27 = .ok (.getfield 15, 3) := by decide +kernel
theorem dX4_readNumber_30 : decode cX4_readNumber 30 = .ok (.aload_n 0, 1) := by decide +kernel
theorem dX4_readNumber_31 : decode cX4_readNumber 31 = .ok (.getfield 9, 3) := by decide +kernel
theorem dX4_readNumber_34 : decode cX4_readNumber 34 = .ok (.isub, 1) := by decide +kernel
theorem dX4_readNumber_35 : decode cX4_readNumber 35 = .ok (.iconst 3, 1) := by decide +kernel
theorem dX4_readNumber_36 : decode cX4_readNumber 36 = .ok (.if_icmp .le 5, 3) := by decide +kernel
theorem dX4_readNumber_39 : decode cX4_readNumber 39 = .ok (.iconst (-1), 1) := by decide +kernel
theorem dX4_readNumber_40 : decode cX4_readNumber 40 = .ok (.ireturn, 1) := by decide +kernel
theorem dX4_readNumber_41 : decode cX4_readNumber 41 = .ok (.iconst 0, 1) := by decide +kernel
theorem dX4_readNumber_42 : decode cX4_readNumber 42 = .ok (.istore_n 1, 1) := by decide +kernel
theorem dX4_readNumber_43 : decode cX4_readNumber 43 = .ok (.aload_n 0, 1) := by decide +kernel
theorem dX4_readNumber_44 : decode cX4_readNumber 44 = .ok (.getfield 9, 3) := by decide +kernel
theorem dX4_readNumber_47 : decode cX4_readNumber 47 = .ok (.istore_n 2, 1) := by decide +kernel
theorem dX4_readNumber_48 : decode cX4_readNumber 48 = .ok (.iload_n 2, 1) := by decide +kernel
theorem dX4_readNumber_49 : decode cX4_readNumber 49 = .ok (.aload_n 0, 1) := by decide +kernel
theorem dX4_readNumber_50 : decode cX4_readNumber 50 = .ok (.getfield 15, 3) := by decide +kernel
theorem dX4_readNumber_53 : decode cX4_readNumber 53 = .ok (.if_icmp .ge 24, 3) := by decide +kernel
theorem dX4_readNumber_56 : decode cX4_readNumber 56 = .ok (.bipush 10, 2) := by decide +kernel
theorem dX4_readNumber_58 : decode cX4_readNumber 58 = .ok (.iload_n 1, 1) := by decide +kernel
theorem dX4_readNumber_59 : decode cX4_readNumber 59 = .ok (.imul, 1) := by decide +kernel
theorem dX4_readNumber_60 : decode cX4_readNumber 60 = .ok (.aload_n 0, 1) := by decide +kernel
theorem dX4_readNumber_61 : decode cX4_readNumber 61 = .ok (.getfield 18, 3) := by decide +kernel
theorem dX4_readNumber_64 : decode cX4_readNumber 64 = .ok (.iload_n 2, 1) := by decide +kernel
theorem dX4_readNumber_65 : decode cX4_readNumber 65 = .ok (.baload, 1) := by decide +kernel
theorem dX4_readNumber_66 : decode cX4_readNumber 66 = .ok (.iadd, 1) := by decide +kernel
theorem dX4_readNumber_67 : decode cX4_readNumber 67 = .ok (.bipush 48, 2) := by decide +kernel
theorem dX4_readNumber_69 : decode cX4_readNumber 69 = .ok (.isub, 1) := by decide +kernel
theorem dX4_readNumber_70 : decode cX4_readNumber 70 = .ok (.istore_n 1, 1) := by decide +kernel
theorem dX4_readNumber_71 : decode cX4_readNumber 71 = .ok (.iinc 2 1, 3) := by decide +kernel
theorem dX4_readNumber_74 : decode cX4_readNumber 74 = .ok (.goto (-26), 3) := by decide +kernel
theorem dX4_readNumber_77 : decode cX4_readNumber 77 = .ok (.aload_n 0, 1) := by decide +kernel
theorem dX4_readNumber_78 : decode cX4_readNumber 78 = .ok (.invokevirtual 31, 3) := by decide +kernel
theorem dX4_readNumber_81 : decode cX4_readNumber 81 = .ok (.iload_n 1, 1) := by decide +kernel
theorem dX4_readNumber_82 : decode cX4_readNumber 82 = .ok (.ireturn, 1) := by decide +kernel
set_option maxRecDepth 20000 in
theorem ggX4_take_X4_isHere : GoodIn wsX4_take wsX4_isHere := goodIn_r _ [5, 6, 7, 8, 9, 10, 11, 12, 13, 14, 15, 16, 17, 18, 19, 20, 21, 22, 23, 24, 25, 26, 27, 28, 29, 30, 31, 32, 33, 34, 35, 36, 37, 38, 39, 40, 41, 42, 43, 44, 45, 46, 47, 48, 49, 50, 51, 52, 53, 54, 55, 56, 57, 72, 73, 74, 75] (by decide +kernel) (by decide +kernel)
set_option maxRecDepth 20000 in
theorem gX4_take_X4_isHere : GoodIn wsX4_take (wsV RX4 63 RX4 yX4_isHere wsX4_isHere) := goodIn_app (goodIn_of _ (by decide +kernel)) ggX4_take_X4_isHere
set_option maxRecDepth 20000 in
theorem ggX4_take_X4_advance : GoodIn wsX4_take wsX4_advance := goodIn_r _ [61, 6, 7, 62, 8, 63, 64, 4, 65, 66, 67, 68, 69, 70, 71, 72, 73, 74, 75] (by decide +kernel) (by decide +kernel)
set_option maxRecDepth 20000 in
theorem gX4_take_X4_advance : GoodIn wsX4_take (wsV RX4 31 RX4 yX4_advance wsX4_advance) := goodIn_app (goodIn_of _ (by decide +kernel)) ggX4_take_X4_advance
theorem dX4_take_0 : decode cX4_take 0 = .ok (.aload_n 0, 1) := by decide +kernel
theorem dX4_take_1 : decode cX4_take 1 = .ok (.aload_n 1, 1) := by decide +kernel
theorem dX4_take_2 : decode cX4_take 2 = .ok (.invokevirtual 63, 3) := by decide +kernel
theorem dX4_take_5 : decode cX4_take 5 = .ok (.ifCond .ne 5, 3) := by decide +kernel
theorem dX4_take_8 : decode cX4_take 8 = .ok (.iconst 0, 1) := by decide +kernel
theorem dX4_take_9 : decode cX4_take 9 = .ok (.ireturn, 1) := by decide +kernel
theorem dX4_take_10 : decode cX4_take 10 = .ok (.aload_n 0, 1) := by decide +kernel
theorem dX4_take_11 : decode cX4_take 11 = .ok (.invokevirtual 31, 3) := by decide +kernel
theorem dX4_take_14 : decode cX4_take 14 = .ok (.iconst 1, 1) := by decide +kernel
theorem dX4_take_15 : decode cX4_take 15 = .ok (.ireturn, 1) := by decide +kernel
set_option maxRecDepth 20000 in
theorem ggX4_isHere_J0_length_8abf5 : GoodIn wsX4_isHere wsJ0_length_8abf5 := goodIn_r _ [8, 9, 10, 11, 12, 7, 13, 14, 15] (by decide +kernel) (by decide +kernel)
set_option maxRecDepth 20000 in
theorem gX4_isHere_J0_length_8abf5 : GoodIn wsX4_isHere (wsV RX4 105 RJ0 yJ0_length_8abf5 wsJ0_length_8abf5) := goodIn_app (goodIn_of _ (by decide +kernel)) ggX4_isHere_J0_length_8abf5
set_option maxRecDepth 20000 in
theorem ggX4_isHere_J0_charAt_5068e : GoodIn wsX4_isHere wsJ0_charAt_5068e := goodIn_r _ [19, 9, 20, 21, 22, 7, 23, 14, 15, 24, 25, 26, 27, 28, 29, 30, 31, 32, 33, 34, 35, 36, 37, 38, 39, 40, 41, 42, 43, 44, 45, 46, 47, 48, 49, 50, 51, 52] (by decide +kernel) (by decide +kernel)
set_option maxRecDepth 20000 in
theorem gX4_isHere_J0_charAt_5068e : GoodIn wsX4_isHere (wsV RX4 109 RJ0 yJ0_charAt_5068e wsJ0_charAt_5068e) := goodIn_app (goodIn_of _ (by decide +kernel)) ggX4_isHere_J0_charAt_5068e
theorem dX4_isHere_0 : decode cX4_isHere 0 = .ok (.aload_n 0, 1) := by decide +kernel
theorem dX4_isHere_1 : decode cX4_isHere 1 = .ok (.getfield 15, 3) := by decide +kernel
theorem dX4_isHere_4 : decode cX4_isHere 4 = .ok (.aload_n 0, 1) := by decide +kernel
theorem dX4_isHere_5 : decode cX4_isHere 5 = .ok (.getfield 9, 3) := by decide +kernel
theorem dX4_isHere_8 : decode cX4_isHere 8 = .ok (.isub, 1) := by decide +kernel
theorem dX4_isHere_9 : decode cX4_isHere 9 = .ok (.aload_n 1, 1) := by decide +kernel
theorem dX4_isHere_10 : decode cX4_isHere 10 = .ok (.invokevirtual 105, 3) := by decide +kernel
theorem dX4_isHere_13 : decode cX4_isHere 13 = .ok (.if_icmp .eq 5, 3) := by decide +kernel
theorem dX4_isHere_16 : decode cX4_isHere 16 = .ok (.iconst 0, 1) := by decide +kernel
theorem dX4_isHere_17 : decode cX4_isHere 17 = .ok (.ireturn, 1) := by decide +kernel
theorem dX4_isHere_18 : decode cX4_isHere 18 = .ok (.iconst 0, 1) := by decide +kernel
theorem dX4_isHere_19 : decode cX4_isHere 19 = .ok (.istore_n 2, 1) := by decide +kernel
theorem dX4_isHere_20 : decode cX4_isHere 20 = .ok (.iload_n 2, 1) := by decide +kernel
theorem dX4_isHere_21 : decode cX4_isHere 21 = .ok (.aload_n 1, 1) := by decide +kernel
theorem dX4_isHere_22 : decode cX4_isHere 22 = .ok (.invokevirtual 105, 3) := by decide +kernel
theorem dX4_isHere_25 : decode cX4_isHere 25 = .ok (.if_icmp .ge 30, 3) := by decide +kernel
theorem dX4_isHere_28 : decode cX4_isHere 28 = .ok (.aload_n 0, 1) := by decide +kernel
theorem dX4_isHere_29 : decode cX4_isHere 29 = .ok (.getfield 18, 3) := by decide +kernel
theorem dX4_isHere_32 : decode cX4_isHere 32 = .ok (.aload_n 0, 1) := by decide +kernel
theorem dX4_isHere_33 : decode cX4_isHere 33 = .ok (.getfield 9, 3) := by decide +kernel
theorem dX4_isHere_36 : decode cX4_isHere 36 = .ok (.iload_n 2, 1) := by decide +kernel
theorem dX4_isHere_37 : decode cX4_isHere 37 = .ok (.iadd, 1) := by decide +kernel
theorem dX4_isHere_38 : decode cX4_isHere 38 = .ok (.baload, 1) := by decide +kernel
theorem dX4_isHere_39 : decode cX4_isHere 39 = .ok (.aload_n 1, 1) := by decide +kernel
theorem dX4_isHere_40 : decode cX4_isHere 40 = .ok (.iload_n 2, 1) := by decide +kernel
theorem dX4_isHere_41 : decode cX4_isHere 41 = .ok (.invokevirtual 109, 3) := by decide +kernel
theorem dX4_isHere_44 : decode cX4_isHere 44 = .ok (.if_icmp .eq 5, 3) := by decide +kernel
theorem dX4_isHere_47 : decode cX4_isHere 47 = .ok (.iconst 0, 1) := by decide +kernel
theorem dX4_isHere_48 : decode cX4_isHere 48 = .ok (.ireturn, 1) := by decide +kernel
theorem dX4_isHere_49 : decode cX4_isHere 49 = .ok (.iinc 2 1, 3) := by decide +kernel
theorem dX4_isHere_52 : decode cX4_isHere 52 = .ok (.goto (-32), 3) := by decide +kernel
theorem dX4_isHere_55 : decode cX4_isHere 55 = .ok (.iconst 1, 1) := by decide +kernel
theorem dX4_isHere_56 : decode cX4_isHere 56 = .ok (.ireturn, 1) := by decide +kernel
set_option maxRecDepth 20000 in
theorem ggX4_advance_X4_isBlank : GoodIn wsX4_advance wsX4_isBlank := goodIn_r _ [8] (by decide +kernel) (by decide +kernel)
set_option maxRecDepth 20000 in
theorem gX4_advance_X4_isBlank : GoodIn wsX4_advance (va_wsS RX4 113 yX4_isBlank wsX4_isBlank) := goodIn_app (goodIn_of _ (by decide +kernel)) ggX4_advance_X4_isBlank
set_option maxRecDepth 20000 in
theorem ggX4_advance_X4_isLetter : GoodIn wsX4_advance wsX4_isLetter := goodIn_r _ [11] (by decide +kernel) (by decide +kernel)
set_option maxRecDepth 20000 in
theorem gX4_advance_X4_isLetter : GoodIn wsX4_advance (va_wsS RX4 116 yX4_isLetter wsX4_isLetter) := goodIn_app (goodIn_of _ (by decide +kernel)) ggX4_advance_X4_isLetter
set_option maxRecDepth 20000 in
theorem ggX4_advance_X4_isDigit : GoodIn wsX4_advance wsX4_isDigit := goodIn_r _ [14] (by decide +kernel) (by decide +kernel)
set_option maxRecDepth 20000 in
theorem gX4_advance_X4_isDigit : GoodIn wsX4_advance (va_wsS RX4 101 yX4_isDigit wsX4_isDigit) := goodIn_app (goodIn_of _ (by decide +kernel)) ggX4_advance_X4_isDigit
theorem dX4_advance_0 : decode cX4_advance 0 = .ok (.aload_n 0, 1) := by decide +kernel
theorem dX4_advance_1 : decode cX4_advance 1 = .ok (.aload_n 0, 1) := by decide +kernel
theorem dX4_advance_2 : decode cX4_advance 2 = .ok (.getfield 15, 3) := by decide +kernel
theorem dX4_advance_5 : decode cX4_advance 5 = .ok (.putfield 9, 3) := by decide +kernel
theorem dX4_advance_8 : decode cX4_advance 8 = .ok (.aload_n 0, 1) := by decide +kernel
theorem dX4_advance_9 : decode cX4_advance 9 = .ok (.getfield 9, 3) := by decide +kernel
theorem dX4_advance_12 : decode cX4_advance 12 = .ok (.aload_n 0, 1) := by decide +kernel
theorem dX4_advance_13 : decode cX4_advance 13 = .ok (.getfield 28, 3) := by decide +kernel
theorem dX4_advance_16 : decode cX4_advance 16 = .ok (.if_icmp .ge 31, 3) := by decide +kernel
theorem dX4_advance_19 : decode cX4_advance 19 = .ok (.aload_n 0, 1) := by decide +kernel
theorem dX4_advance_20 : decode cX4_advance 20 = .ok (.getfield 18, 3) := by decide +kernel
theorem dX4_advance_23 : decode cX4_advance 23 = .ok (.aload_n 0, 1) := by decide +kernel
theorem dX4_advance_24 : decode cX4_advance 24 = .ok (.getfield 9, 3) := by decide +kernel
theorem dX4_advance_27 : decode cX4_advance 27 = .ok (.baload, 1) := by decide +kernel
theorem dX4_advance_28 : decode cX4_advance 28 = .ok (.invokestatic 113, 3) := by decide +kernel
theorem dX4_advance_31 : decode cX4_advance 31 = .ok (.ifCond .eq 16, 3) := by decide +kernel
theorem dX4_advance_34 : decode cX4_advance 34 = .ok (.aload_n 0, 1) := by decide +kernel
theorem dX4_advance_35 : decode cX4_advance 35 = .ok (.dup, 1) := by decide +kernel
theorem dX4_advance_36 : decode cX4_advance 36 = .ok (.getfield 9, 3) := by decide +kernel
theorem dX4_advance_39 : decode cX4_advance 39 = .ok (.iconst 1, 1) := by decide +kernel
theorem dX4_advance_40 : decode cX4_advance 40 = .ok (.iadd, 1) := by decide +kernel
theorem dX4_advance_41 : decode cX4_advance 41 = .ok (.putfield 9, 3) := by decide +kernel
theorem dX4_advance_44 : decode cX4_advance 44 = .ok (.goto (-36), 3) := by decide +kernel
theorem dX4_advance_47 : decode cX4_advance 47 = .ok (.aload_n 0, 1) := by decide +kernel
theorem dX4_advance_48 : decode cX4_advance 48 = .ok (.aload_n 0, 1) := by decide +kernel
theorem dX4_advance_49 : decode cX4_advance 49 = .ok (.getfield 9, 3) := by decide +kernel
theorem dX4_advance_52 : decode cX4_advance 52 = .ok (.putfield 15, 3) := by decide +kernel
theorem dX4_advance_55 : decode cX4_advance 55 = .ok (.aload_n 0, 1) := by decide +kernel
theorem dX4_advance_56 : decode cX4_advance 56 = .ok (.getfield 15, 3) := by decide +kernel
theorem dX4_advance_59 : decode cX4_advance 59 = .ok (.aload_n 0, 1) := by decide +kernel
theorem dX4_advance_60 : decode cX4_advance 60 = .ok (.getfield 28, 3) := by decide +kernel
theorem dX4_advance_63 : decode cX4_advance 63 = .ok (.if_icmp .ge 31, 3) := by decide +kernel
theorem dX4_advance_66 : decode cX4_advance 66 = .ok (.aload_n 0, 1) := by decide +kernel
theorem dX4_advance_67 : decode cX4_advance 67 = .ok (.getfield 18, 3) := by decide +kernel
theorem dX4_advance_70 : decode cX4_advance 70 = .ok (.aload_n 0, 1) := by decide +kernel
theorem dX4_advance_71 : decode cX4_advance 71 = .ok (.getfield 15, 3) := by decide +kernel
theorem dX4_advance_74 : decode cX4_advance 74 = .ok (.baload, 1) := by decide +kernel
theorem dX4_advance_75 : decode cX4_advance 75 = .ok (.invokestatic 116, 3) := by decide +kernel
theorem dX4_advance_78 : decode cX4_advance 78 = .ok (.ifCond .eq 16, 3) := by decide +kernel
theorem dX4_advance_81 : decode cX4_advance 81 = .ok (.aload_n 0, 1) := by decide +kernel
theorem dX4_advance_82 : decode cX4_advance 82 = .ok (.dup, 1) := by decide +kernel
theorem dX4_advance_83 : decode cX4_advance 83 = .ok (.getfield 15, 3) := by decide +kernel
theorem dX4_advance_86 : decode cX4_advance 86 = .ok (.iconst 1, 1) := by decide +kernel
theorem dX4_advance_87 : decode cX4_advance 87 = .ok (.iadd, 1) := by decide +kernel
theorem dX4_advance_88 : decode cX4_advance 88 = .ok (.putfield 15, 3) := by decide +kernel
theorem dX4_advance_91 : decode cX4_advance 91 = .ok (.goto (-36), 3) := by decide +kernel
theorem dX4_advance_94 : decode cX4_advance 94 = .ok (.aload_n 0, 1) := by decide +kernel
theorem dX4_advance_95 : decode cX4_advance 95 = .ok (.getfield 15, 3) := by decide +kernel
theorem dX4_advance_98 : decode cX4_advance 98 = .ok (.aload_n 0, 1) := by decide +kernel
theorem dX4_advance_99 : decode cX4_advance 99 = .ok (.getfield 9, 3) := by decide +kernel
theorem dX4_advance_102 : decode cX4_advance 102 = .ok (.if_icmp .le 4, 3) := by decide +kernel
theorem dX4_advance_105 : decode cX4_advance 105 = .ok (.return_, 1) := by decide +kernel
theorem dX4_advance_106 : decode cX4_advance 106 = .ok (.aload_n 0, 1) := by decide +kernel
theorem dX4_advance_107 : decode cX4_advance 107 = .ok (.getfield 15, 3) := by decide +kernel
theorem dX4_advance_110 : decode cX4_advance 110 = .ok (.aload_n 0, 1) := by decide +kernel
theorem dX4_advance_111 : decode cX4_advance 111 = .ok (.getfield 28, 3) := by decide +kernel
theorem dX4_advance_114 : decode cX4_advance 114 = .ok (.if_icmp .ge 31, 3) := by decide +kernel
theorem dX4_advance_117 : decode cX4_advance 117 = .ok (.aload_n 0, 1) := by decide +kernel
theorem dX4_advance_118 : decode cX4_advance 118 = .ok (.getfield 18, 3) := by decide +kernel
theorem dX4_advance_121 : decode cX4_advance 121 = .ok (.aload_n 0, 1) := by decide +kernel
theorem dX4_advance_122 : decode cX4_advance 122 = .ok (.getfield 15, 3) := by decide +kernel
theorem dX4_advance_125 : decode cX4_advance 125 = .ok (.baload, 1) := by decide +kernel
theorem dX4_advance_126 : decode cX4_advance 126 = .ok (.invokestatic 101, 3) := by decide +kernel
theorem dX4_advance_129 : decode cX4_advance 129 = .ok (.ifCond .eq 16, 3) := by decide +kernel
theorem dX4_advance_132 : decode cX4_advance 132 = .ok (.aload_n 0, 1) := by decide +kernel
theorem dX4_advance_133 : decode cX4_advance 133 = .ok (.dup, 1) := by decide +kernel
theorem dX4_advance_134 : decode cX4_advance 134 = .ok (.getfield 15, 3) := by decide +kernel
theorem dX4_advance_137 : decode cX4_advance 137 = .ok (.iconst 1, 1) := by decide +kernel
theorem dX4_advance_138 : decode cX4_advance 138 = .ok (.iadd, 1) := by decide +kernel
theorem dX4_advance_139 : decode cX4_advance 139 = .ok (.putfield 15, 3) := by decide +kernel
theorem dX4_advance_142 : decode cX4_advance 142 = .ok (.goto (-36), 3) := by decide +kernel
theorem dX4_advance_145 : decode cX4_advance 145 = .ok (.aload_n 0, 1) := by decide +kernel
theorem dX4_advance_146 : decode cX4_advance 146 = .ok (.getfield 15, 3) := by decide +kernel
theorem dX4_advance_149 : decode cX4_advance 149 = .ok (.aload_n 0, 1) := by decide +kernel
theorem dX4_advance_150 : decode cX4_advance 150 = .ok (.getfield 9, 3) := by decide +kernel
theorem dX4_advance_153 : decode cX4_advance 153 = .ok (.if_icmp .ne 24, 3) := by decide +kernel
theorem dX4_advance_156 : decode cX4_advance 156 = .ok (.aload_n 0, 1) := by decide +kernel
theorem dX4_advance_157 : decode cX4_advance 157 = .ok (.getfield 15, 3) := by decide +kernel
theorem dX4_advance_160 : decode cX4_advance 160 = .ok (.aload_n 0, 1) := by decide +kernel
theorem dX4_advance_161 : decode cX4_advance 161 = .ok (.getfield 28, 3) := by decide +kernel
theorem dX4_advance_164 : decode cX4_advance 164 = .ok (.if_icmp .ge 13, 3) := by decide +kernel
theorem dX4_advance_167 : decode cX4_advance 167 = .ok (.aload_n 0, 1) := by decide +kernel
theorem dX4_advance_168 : decode cX4_advance 168 = .ok (.dup, 1) := by decide +kernel
theorem dX4_advance_169 : decode cX4_advance 169 = .ok (.getfield 15, 3) := by decide +kernel
theorem dX4_advance_172 : decode cX4_advance 172 = .ok (.iconst 1, 1) := by decide +kernel
theorem dX4_advance_173 : decode cX4_advance 173 = .ok (.iadd, 1) := by decide +kernel
theorem dX4_advance_174 : decode cX4_advance 174 = .ok (.putfield 15, 3) := by decide +kernel
theorem dX4_advance_177 : decode cX4_advance 177 = .ok (.return_, 1) := by decide +kernel
theorem dX4_isBlank_0 : decode cX4_isBlank 0 = .ok (.iload_n 0, 1) := by decide +kernel
theorem dX4_isBlank_1 : decode cX4_isBlank 1 = .ok (.bipush 32, 2) := by decide +kernel
theorem dX4_isBlank_3 : decode cX4_isBlank 3 = .ok (.if_icmp .eq 9, 3) := by decide +kernel
theorem dX4_isBlank_6 : decode cX4_isBlank 6 = .ok (.iload_n 0, 1) := by decide +kernel
theorem dX4_isBlank_7 : decode cX4_isBlank 7 = .ok (.bipush 10, 2) := by decide +kernel
theorem dX4_isBlank_9 : decode cX4_isBlank 9 = .ok (.if_icmp .ne 7, 3) := by decide +kernel
theorem dX4_isBlank_12 : decode cX4_isBlank 12 = .ok (.iconst 1, 1) := by decide +kernel
theorem dX4_isBlank_13 : decode cX4_isBlank 13 = .ok (.goto 4, 3) := by decide +kernel
theorem dX4_isBlank_16 : decode cX4_isBlank 16 = .ok (.iconst 0, 1) := by decide +kernel
theorem dX4_isBlank_17 : decode cX4_isBlank 17 = .ok (.ireturn, 1) := by decide +kernel
theorem dX4_isLetter_0 : decode cX4_isLetter 0 = .ok (.iload_n 0, 1) := by decide +kernel
theorem dX4_isLetter_1 : decode cX4_isLetter 1 = .ok (.bipush 97, 2) := by decide +kernel
theorem dX4_isLetter_3 : decode cX4_isLetter 3 = .ok (.if_icmp .lt 13, 3) := by decide +kernel
theorem dX4_isLetter_6 : decode cX4_isLetter 6 = .ok (.iload_n 0, 1) := by decide +kernel
theorem dX4_isLetter_7 : decode cX4_isLetter 7 = .ok (.bipush 122, 2) := by decide +kernel
theorem dX4_isLetter_9 : decode cX4_isLetter 9 = .ok (.if_icmp .gt 7, 3) := by decide +kernel
theorem dX4_isLetter_12 : decode cX4_isLetter 12 = .ok (.iconst 1, 1) := by decide +kernel
theorem dX4_isLetter_13 : decode cX4_isLetter 13 = .ok (.goto 4, 3) := by decide +kernel
theorem dX4_isLetter_16 : decode cX4_isLetter 16 = .ok (.iconst 0, 1) := by decide +kernel
theorem dX4_isLetter_17 : decode cX4_isLetter 17 = .ok (.ireturn, 1) := by decide +kernel
theorem dX4_isDigit_0 : decode cX4_isDigit 0 = .ok (.iload_n 0, 1) := by decide +kernel
theorem dX4_isDigit_1 : decode cX4_isDigit 1 = .ok (.bipush 48, 2) := by decide +kernel
theorem dX4_isDigit_3 : decode cX4_isDigit 3 = .ok (.if_icmp .lt 13, 3) := by decide +kernel
theorem dX4_isDigit_6 : decode cX4_isDigit 6 = .ok (.iload_n 0, 1) := by decide +kernel
theorem dX4_isDigit_7 : decode cX4_isDigit 7 = .ok (.bipush 57, 2) := by decide +kernel
theorem dX4_isDigit_9 : decode cX4_isDigit 9 = .ok (.if_icmp .gt 7, 3) := by decide +kernel
theorem dX4_isDigit_12 : decode cX4_isDigit 12 = .ok (.iconst 1, 1) := by decide +kernel
theorem dX4_isDigit_13 : decode cX4_isDigit 13 = .ok (.goto 4, 3) := by decide +kernel
theorem dX4_isDigit_16 : decode cX4_isDigit 16 = .ok (.iconst 0, 1) := by decide +kernel
theorem dX4_isDigit_17 : decode cX4_isDigit 17 = .ok (.ireturn, 1) := by decide +kernel
theorem dX5_init_0 : decode cX5_init 0 = .ok (.aload_n 0, 1) := by decide +kernel
theorem dX5_init_1 : decode cX5_init 1 = .ok (.invokespecial 3, 3) := by decide +kernel
theorem dX5_init_4 : decode cX5_init 4 = .ok (.aload_n 0, 1) := by decide +kernel
theorem dX5_init_5 : decode cX5_init 5 = .ok (.bipush 8, 2) := by decide +kernel
theorem dX5_init_7 : decode cX5_init 7 = .ok (.newarray .int, 2) := by decide +kernel
theorem dX5_init_9 : decode cX5_init 9 = .ok (.putfield 11, 3) := by decide +kernel
theorem dX5_init_12 : decode cX5_init 12 = .ok (.aload_n 0, 1) := by decide +kernel
theorem dX5_init_13 : decode cX5_init 13 = .ok (.bipush 8, 2) := by decide +kernel
theorem dX5_init_15 : decode cX5_init 15 = .ok (.newarray .int, 2) := by decide +kernel
theorem dX5_init_17 : decode cX5_init 17 = .ok (.putfield 15, 3) := by decide +kernel
theorem dX5_init_20 : decode cX5_init 20 = .ok (.aload_n 0, 1) := by decide +kernel
theorem dX5_init_21 : decode cX5_init 21 = .ok (.iconst 0, 1) := by decide +kernel
theorem dX5_init_22 : decode cX5_init 22 = .ok (.putfield 18, 3) := by decide +kernel
theorem dX5_init_25 : decode cX5_init 25 = .ok (.return_, 1) := by decide +kernel
theorem dX5_addCorner_0 : decode cX5_addCorner 0 = .ok (.aload_n 0, 1) := by decide +kernel
theorem dX5_addCorner_1 : decode cX5_addCorner 1 = .ok (.getfield 18, 3) := by decide +kernel
theorem dX5_addCorner_4 : decode cX5_addCorner 4 = .ok (.bipush 8, 2) := by decide +kernel
theorem dX5_addCorner_6 : decode cX5_addCorner 6 = .ok (.if_icmp .lt 5, 3) := by decide +kernel
theorem dX5_addCorner_9 : decode cX5_addCorner 9 = .ok (.iconst 0, 1) := by decide +kernel
theorem dX5_addCorner_10 : decode cX5_addCorner 10 = .ok (.ireturn, 1) := by decide +kernel
theorem dX5_addCorner_11 : decode cX5_addCorner 11 = .ok (.aload_n 0, 1) := by decide +kernel
theorem dX5_addCorner_12 : decode cX5_addCorner 12 = .ok (.getfield 11, 3) := by decide +kernel
theorem dX5_addCorner_15 : decode cX5_addCorner 15 = .ok (.aload_n 0, 1) := by decide +kernel
theorem dX5_addCorner_16 : decode cX5_addCorner 16 = .ok (.getfield 18, 3) := by decide +kernel
theorem dX5_addCorner_19 : decode cX5_addCorner 19 = .ok (.iload_n 1, 1) := by decide +kernel
theorem dX5_addCorner_20 : decode cX5_addCorner 20 = .ok (.iastore, 1) := by decide +kernel
theorem dX5_addCorner_21 : decode cX5_addCorner 21 = .ok (.aload_n 0, 1) := by decide +kernel
theorem dX5_addCorner_22 : decode cX5_addCorner 22 = .ok (.getfield 15, 3) := by decide +kernel
theorem dX5_addCorner_25 : decode cX5_addCorner 25 = .ok (.aload_n 0, 1) := by decide +kernel
theorem dX5_addCorner_26 : decode cX5_addCorner 26 = .ok (.getfield 18, 3) := by decide +kernel
theorem dX5_addCorner_29 : decode cX5_addCorner 29 = .ok (.iload_n 2, 1) := by decide +kernel
theorem dX5_addCorner_30 : decode cX5_addCorner 30 = .ok (.iastore, 1) := by decide +kernel
theorem dX5_addCorner_31 : decode cX5_addCorner 31 = .ok (.aload_n 0, 1) := by decide +kernel
theorem dX5_addCorner_32 : decode cX5_addCorner 32 = .ok (.dup, 1) := by decide +kernel
theorem dX5_addCorner_33 : decode cX5_addCorner 33 = .ok (.getfield 18, 3) := by decide +kernel
theorem dX5_addCorner_36 : decode cX5_addCorner 36 = .ok (.iconst 1, 1) := by decide +kernel
theorem dX5_addCorner_37 : decode cX5_addCorner 37 = .ok (.iadd, 1) := by decide +kernel
theorem dX5_addCorner_38 : decode cX5_addCorner 38 = .ok (.putfield 18, 3) := by decide +kernel
theorem dX5_addCorner_41 : decode cX5_addCorner 41 = .ok (.iconst 1, 1) := by decide +kernel
theorem dX5_addCorner_42 : decode cX5_addCorner 42 = .ok (.ireturn, 1) := by decide +kernel
theorem dX5_empty_0 : decode cX5_empty 0 = .ok (.aload_n 0, 1) := by decide +kernel
theorem dX5_empty_1 : decode cX5_empty 1 = .ok (.iconst 0, 1) := by decide +kernel
theorem dX5_empty_2 : decode cX5_empty 2 = .ok (.putfield 18, 3) := by decide +kernel
theorem dX5_empty_5 : decode cX5_empty 5 = .ok (.return_, 1) := by decide +kernel
theorem dX5_coordinate_0 : decode cX5_coordinate 0 = .ok (.iload_n 1, 1) := by decide +kernel
theorem dX5_coordinate_1 : decode cX5_coordinate 1 = .ok (.ifCond .lt 13, 3) := by decide +kernel
theorem dX5_coordinate_4 : decode cX5_coordinate 4 = .ok (.iload_n 1, 1) := by decide +kernel
theorem dX5_coordinate_5 : decode cX5_coordinate 5 = .ok (.iconst 2, 1) := by decide +kernel
theorem dX5_coordinate_6 : decode cX5_coordinate 6 = .ok (.aload_n 0, 1) := by decide +kernel
theorem dX5_coordinate_7 : decode cX5_coordinate 7 = .ok (.getfield 18, 3) := by decide +kernel
theorem dX5_coordinate_10 : decode cX5_coordinate 10 = .ok (.imul, 1) := by decide +kernel
theorem dX5_coordinate_11 : decode cX5_coordinate 11 = .ok (.if_icmp .lt 5, 3) := by decide +kernel
theorem dX5_coordinate_14 : decode cX5_coordinate 14 = .ok (.iconst (-1), 1) := by decide +kernel
theorem dX5_coordinate_15 : decode cX5_coordinate 15 = .ok (.ireturn, 1) := by decide +kernel
theorem dX5_coordinate_16 : decode cX5_coordinate 16 = .ok (.iload_n 1, 1) := by decide +kernel
theorem dX5_coordinate_17 : decode cX5_coordinate 17 = .ok (.iconst 2, 1) := by decide +kernel
theorem dX5_coordinate_18 : decode cX5_coordinate 18 = .ok (.irem, 1) := by decide +kernel
theorem dX5_coordinate_19 : decode cX5_coordinate 19 = .ok (.ifCond .ne 14, 3) := by decide +kernel
theorem dX5_coordinate_22 : decode cX5_coordinate 22 = .ok (.aload_n 0, 1) := by decide +kernel
theorem dX5_coordinate_23 : decode cX5_coordinate 23 = .ok (.getfield 11, 3) := by decide +kernel
theorem dX5_coordinate_26 : decode cX5_coordinate 26 = .ok (.iload_n 1, 1) := by decide +kernel
theorem dX5_coordinate_27 : decode cX5_coordinate 27 = .ok (.iconst 2, 1) := by decide +kernel
theorem dX5_coordinate_28 : decode cX5_coordinate 28 = .ok (.idiv, 1) := by decide +kernel
theorem dX5_coordinate_29 : decode cX5_coordinate 29 = .ok (.iaload, 1) := by decide +kernel
theorem dX5_coordinate_30 : decode cX5_coordinate 30 = .ok (.goto 11, 3) := by decide +kernel
theorem dX5_coordinate_33 : decode cX5_coordinate 33 = .ok (.aload_n 0, 1) := by decide +kernel
theorem dX5_coordinate_34 : decode cX5_coordinate 34 = .ok (.getfield 15, 3) := by decide +kernel
theorem dX5_coordinate_37 : decode cX5_coordinate 37 = .ok (.iload_n 1, 1) := by decide +kernel
theorem dX5_coordinate_38 : decode cX5_coordinate 38 = .ok (.iconst 2, 1) := by decide +kernel
theorem dX5_coordinate_39 : decode cX5_coordinate 39 = .ok (.idiv, 1) := by decide +kernel
theorem dX5_coordinate_40 : decode cX5_coordinate 40 = .ok (.iaload, 1) := by decide +kernel
theorem dX5_coordinate_41 : decode cX5_coordinate 41 = .ok (.ireturn, 1) := by decide +kernel
set_option maxRecDepth 20000 in
theorem ggX5_twiceArea_X5_after : GoodIn wsX5_twiceArea wsX5_after := goodIn_r _ [8, 1, 9, 10, 11] (by decide +kernel) (by decide +kernel)
set_option maxRecDepth 20000 in
theorem gX5_twiceArea_X5_after : GoodIn wsX5_twiceArea (wsV RX5 22 RX5 yX5_after wsX5_after) := goodIn_app (goodIn_of _ (by decide +kernel)) ggX5_twiceArea_X5_after
theorem dX5_twiceArea_0 : decode cX5_twiceArea 0 = .ok (.iconst 0, 1) := by decide +kernel
theorem dX5_twiceArea_1 : decode cX5_twiceArea 1 = .ok (.istore_n 1, 1) := by decide +kernel
theorem dX5_twiceArea_2 : decode cX5_twiceArea 2 = .ok (.iconst 0, 1) := by decide +kernel
theorem dX5_twiceArea_3 : decode cX5_twiceArea 3 = .ok (.istore_n 2, 1) := by decide +kernel
theorem dX5_twiceArea_4 : decode cX5_twiceArea 4 = .ok (.iload_n 2, 1) := by decide +kernel
theorem dX5_twiceArea_5 : decode cX5_twiceArea 5 = .ok (.aload_n 0, 1) := by decide +kernel
theorem dX5_twiceArea_6 : decode cX5_twiceArea 6 = .ok (.getfield 18, 3) := by decide +kernel
theorem dX5_twiceArea_9 : decode cX5_twiceArea 9 = .ok (.if_icmp .ge 45, 3) := by decide +kernel
theorem dX5_twiceArea_12 : decode cX5_twiceArea 12 = .ok (.aload_n 0, 1) := by decide +kernel
theorem dX5_twiceArea_13 : decode cX5_twiceArea 13 = .ok (.iload_n 2, 1) := by decide +kernel
theorem dX5_twiceArea_14 : decode cX5_twiceArea 14 = .ok (.invokevirtual 22, 3) := by decide +kernel
theorem dX5_twiceArea_17 : decode cX5_twiceArea 17 = .ok (.istore_n 3, 1) := by decide +kernel
theorem dX5_twiceArea_18 : decode cX5_twiceArea 18 = .ok (.iload_n 1, 1) := by decide +kernel
theorem dX5_twiceArea_19 : decode cX5_twiceArea 19 = .ok (.aload_n 0, 1) := by decide +kernel
theorem dX5_twiceArea_20 : decode cX5_twiceArea 20 = .ok (.getfield 11, 3) := by decide +kernel
theorem dX5_twiceArea_23 : decode cX5_twiceArea 23 = .ok (.iload_n 2, 1) := by decide +kernel
theorem dX5_twiceArea_24 : decode cX5_twiceArea 24 = .ok (.iaload, 1) := by decide +kernel
theorem dX5_twiceArea_25 : decode cX5_twiceArea 25 = .ok (.aload_n 0, 1) := by decide +kernel
theorem dX5_twiceArea_26 : decode cX5_twiceArea 26 = .ok (.getfield 15, 3) := by decide +kernel
theorem dX5_twiceArea_29 : decode cX5_twiceArea 29 = .ok (.iload_n 3, 1) := by decide +kernel
theorem dX5_twiceArea_30 : decode cX5_twiceArea 30 = .ok (.iaload, 1) := by decide +kernel
theorem dX5_twiceArea_31 : decode cX5_twiceArea 31 = .ok (.imul, 1) := by decide +kernel
theorem dX5_twiceArea_32 : decode cX5_twiceArea 32 = .ok (.aload_n 0, 1) := by decide +kernel
theorem dX5_twiceArea_33 : decode cX5_twiceArea 33 = .ok (.getfield 11, 3) := by decide +kernel
theorem dX5_twiceArea_36 : decode cX5_twiceArea 36 = .ok (.iload_n 3, 1) := by decide +kernel
theorem dX5_twiceArea_37 : decode cX5_twiceArea 37 = .ok (.iaload, 1) := by decide +kernel
theorem dX5_twiceArea_38 : decode cX5_twiceArea 38 = .ok (.aload_n 0, 1) := by decide +kernel
theorem dX5_twiceArea_39 : decode cX5_twiceArea 39 = .ok (.getfield 15, 3) := by decide +kernel
theorem dX5_twiceArea_42 : decode cX5_twiceArea 42 = .ok (.iload_n 2, 1) := by decide +kernel
theorem dX5_twiceArea_43 : decode cX5_twiceArea 43 = .ok (.iaload, 1) := by decide +kernel
theorem dX5_twiceArea_44 : decode cX5_twiceArea 44 = .ok (.imul, 1) := by decide +kernel
theorem dX5_twiceArea_45 : decode cX5_twiceArea 45 = .ok (.isub, 1) := by decide +kernel
theorem dX5_twiceArea_46 : decode cX5_twiceArea 46 = .ok (.iadd, 1) := by decide +kernel
theorem dX5_twiceArea_47 : decode cX5_twiceArea 47 = .ok (.istore_n 1, 1) := by decide +kernel
theorem dX5_twiceArea_48 : decode cX5_twiceArea 48 = .ok (.iinc 2 1, 3) := by decide +kernel
theorem dX5_twiceArea_51 : decode cX5_twiceArea 51 = .ok (.goto (-47), 3) := by decide +kernel
theorem dX5_twiceArea_54 : decode cX5_twiceArea 54 = .ok (.iload_n 1, 1) := by decide +kernel
theorem dX5_twiceArea_55 : decode cX5_twiceArea 55 = .ok (.ireturn, 1) := by decide +kernel
set_option maxRecDepth 20000 in
theorem ggX5_goesRoundLeft_X5_hasOthersLeftOf : GoodIn wsX5_goesRoundLeft wsX5_hasOthersLeftOf := goodIn_r _ [6, 1, 7, 8, 9, 10, 11, 5, 12, 13, 14, 15, 16, 17, 18, 19] (by decide +kernel) (by decide +kernel)
set_option maxRecDepth 20000 in
theorem gX5_goesRoundLeft_X5_hasOthersLeftOf : GoodIn wsX5_goesRoundLeft (wsV RX5 26 RX5 yX5_hasOthersLeftOf wsX5_hasOthersLeftOf) := goodIn_app (goodIn_of _ (by decide +kernel)) ggX5_goesRoundLeft_X5_hasOthersLeftOf
theorem dX5_goesRoundLeft_0 : decode cX5_goesRoundLeft 0 = .ok (.aload_n 0, 1) := by decide +kernel
theorem dX5_goesRoundLeft_1 : decode cX5_goesRoundLeft 1 = .ok (.getfield 18, 3) := by decide +kernel
theorem dX5_goesRoundLeft_4 : decode cX5_goesRoundLeft 4 = .ok (.iconst 3, 1) := by decide +kernel
theorem dX5_goesRoundLeft_5 : decode cX5_goesRoundLeft 5 = .ok (.if_icmp .ge 5, 3) := by decide +kernel
theorem dX5_goesRoundLeft_8 : decode cX5_goesRoundLeft 8 = .ok (.iconst 0, 1) := by decide +kernel
theorem dX5_goesRoundLeft_9 : decode cX5_goesRoundLeft 9 = .ok (.ireturn, 1) := by decide +kernel
theorem dX5_goesRoundLeft_10 : decode cX5_goesRoundLeft 10 = .ok (.iconst 0, 1) := by decide +kernel
theorem dX5_goesRoundLeft_11 : decode cX5_goesRoundLeft 11 = .ok (.istore_n 1, 1) := by decide +kernel
theorem dX5_goesRoundLeft_12 : decode cX5_goesRoundLeft 12 = .ok (.iload_n 1, 1) := by decide +kernel
theorem dX5_goesRoundLeft_13 : decode cX5_goesRoundLeft 13 = .ok (.aload_n 0, 1) := by decide +kernel
theorem dX5_goesRoundLeft_14 : decode cX5_goesRoundLeft 14 = .ok (.getfield 18, 3) := by decide +kernel
theorem dX5_goesRoundLeft_17 : decode cX5_goesRoundLeft 17 = .ok (.if_icmp .ge 19, 3) := by decide +kernel
theorem dX5_goesRoundLeft_20 : decode cX5_goesRoundLeft 20 = .ok (.aload_n 0, 1) := by decide +kernel
theorem dX5_goesRoundLeft_21 : decode cX5_goesRoundLeft 21 = .ok (.iload_n 1, 1) := by decide +kernel
theorem dX5_goesRoundLeft_22 : decode cX5_goesRoundLeft 22 = .ok (.invokevirtual 26, 3) := by decide +kernel
theorem dX5_goesRoundLeft_25 : decode cX5_goesRoundLeft 25 = .ok (.ifCond .ne 5, 3) := by decide +kernel
theorem dX5_goesRoundLeft_28 : decode cX5_goesRoundLeft 28 = .ok (.iconst 0, 1) := by decide +kernel
theorem dX5_goesRoundLeft_29 : decode cX5_goesRoundLeft 29 = .ok (.ireturn, 1) := by decide +kernel
theorem dX5_goesRoundLeft_30 : decode cX5_goesRoundLeft 30 = .ok (.iinc 1 1, 3) := by decide +kernel
theorem dX5_goesRoundLeft_33 : decode cX5_goesRoundLeft 33 = .ok (.goto (-21), 3) := by decide +kernel
theorem dX5_goesRoundLeft_36 : decode cX5_goesRoundLeft 36 = .ok (.iconst 1, 1) := by decide +kernel
theorem dX5_goesRoundLeft_37 : decode cX5_goesRoundLeft 37 = .ok (.ireturn, 1) := by decide +kernel
set_option maxRecDepth 20000 in
theorem ggX5_hasOthersLeftOf_X5_after : GoodIn wsX5_hasOthersLeftOf wsX5_after := goodIn_r _ [8, 1, 13, 14, 15] (by decide +kernel) (by decide +kernel)
set_option maxRecDepth 20000 in
theorem gX5_hasOthersLeftOf_X5_after : GoodIn wsX5_hasOthersLeftOf (wsV RX5 22 RX5 yX5_after wsX5_after) := goodIn_app (goodIn_of _ (by decide +kernel)) ggX5_hasOthersLeftOf_X5_after
set_option maxRecDepth 20000 in
theorem ggX5_hasOthersLeftOf_X5_leftness : GoodIn wsX5_hasOthersLeftOf wsX5_leftness := goodIn_r _ [12, 2, 3, 4, 5, 6, 7, 8, 1, 13, 14, 15] (by decide +kernel) (by decide +kernel)
set_option maxRecDepth 20000 in
theorem gX5_hasOthersLeftOf_X5_leftness : GoodIn wsX5_hasOthersLeftOf (wsV RX5 30 RX5 yX5_leftness wsX5_leftness) := goodIn_app (goodIn_of _ (by decide +kernel)) ggX5_hasOthersLeftOf_X5_leftness
theorem dX5_hasOthersLeftOf_0 : decode cX5_hasOthersLeftOf 0 = .ok (.iconst 0, 1) := by decide +kernel
theorem dX5_hasOthersLeftOf_1 : decode cX5_hasOthersLeftOf 1 = .ok (.istore_n 2, 1) := by decide +kernel
theorem dX5_hasOthersLeftOf_2 : decode cX5_hasOthersLeftOf 2 = .ok (.iload_n 2, 1) := by decide +kernel
theorem dX5_hasOthersLeftOf_3 : decode cX5_hasOthersLeftOf 3 = .ok (.aload_n 0, 1) := by decide +kernel
theorem dX5_hasOthersLeftOf_4 : decode cX5_hasOthersLeftOf 4 = .ok (.getfield 18, 3) := by decide +kernel
theorem dX5_hasOthersLeftOf_7 : decode cX5_hasOthersLeftOf 7 = .ok (.if_icmp .ge 45, 3) := by decide +kernel
theorem dX5_hasOthersLeftOf_10 : decode cX5_hasOthersLeftOf 10 = .ok (.iload_n 2, 1) := by decide +kernel
theorem dX5_hasOthersLeftOf_11 : decode cX5_hasOthersLeftOf 11 = .ok (.iload_n 1, 1) := by decide +kernel
theorem dX5_hasOthersLeftOf_12 : decode cX5_hasOthersLeftOf 12 = .ok (.if_icmp .eq 34, 3) := by decide +kernel
theorem dX5_hasOthersLeftOf_15 : decode cX5_hasOthersLeftOf 15 = .ok (.iload_n 2, 1) := by decide +kernel
theorem dX5_hasOthersLeftOf_16 : decode cX5_hasOthersLeftOf 16 = .ok (.aload_n 0, 1) := by decide +kernel
theorem dX5_hasOthersLeftOf_17 : decode cX5_hasOthersLeftOf 17 = .ok (.iload_n 1, 1) := by decide +kernel
theorem dX5_hasOthersLeftOf_18 : decode cX5_hasOthersLeftOf 18 = .ok (.invokevirtual 22, 3) := by decide +kernel
theorem dX5_hasOthersLeftOf_21 : decode cX5_hasOthersLeftOf 21 = .ok (.if_icmp .eq 25, 3) := by decide +kernel
theorem dX5_hasOthersLeftOf_24 : decode cX5_hasOthersLeftOf 24 = .ok (.aload_n 0, 1) := by decide +kernel
theorem dX5_hasOthersLeftOf_25 : decode cX5_hasOthersLeftOf 25 = .ok (.iload_n 1, 1) := by decide +kernel
theorem dX5_hasOthersLeftOf_26 : decode cX5_hasOthersLeftOf 26 = .ok (.aload_n 0, 1) := by decide +kernel
theorem dX5_hasOthersLeftOf_27 : decode cX5_hasOthersLeftOf 27 = .ok (.getfield 11, 3) := by decide +kernel
theorem dX5_hasOthersLeftOf_30 : decode cX5_hasOthersLeftOf 30 = .ok (.iload_n 2, 1) := by decide +kernel
theorem dX5_hasOthersLeftOf_31 : decode cX5_hasOthersLeftOf 31 = .ok (.iaload, 1) := by decide +kernel
theorem dX5_hasOthersLeftOf_32 : decode cX5_hasOthersLeftOf 32 = .ok (.aload_n 0, 1) := by decide +kernel
theorem dX5_hasOthersLeftOf_33 : decode cX5_hasOthersLeftOf 33 = .ok (.getfield 15, 3) := by decide +kernel
theorem dX5_hasOthersLeftOf_36 : decode cX5_hasOthersLeftOf 36 = .ok (.iload_n 2, 1) := by decide +kernel
theorem dX5_hasOthersLeftOf_37 : decode cX5_hasOthersLeftOf 37 = .ok (.iaload, 1) := by decide +kernel
theorem dX5_hasOthersLeftOf_38 : decode cX5_hasOthersLeftOf 38 = .ok (.invokevirtual 30, 3) := by decide +kernel
theorem dX5_hasOthersLeftOf_41 : decode cX5_hasOthersLeftOf 41 = .ok (.ifCond .gt 5, 3) := by decide +kernel
theorem dX5_hasOthersLeftOf_44 : decode cX5_hasOthersLeftOf 44 = .ok (.iconst 0, 1) := by decide +kernel
theorem dX5_hasOthersLeftOf_45 : decode cX5_hasOthersLeftOf 45 = .ok (.ireturn, 1) := by decide +kernel
theorem dX5_hasOthersLeftOf_46 : decode cX5_hasOthersLeftOf 46 = .ok (.iinc 2 1, 3) := by decide +kernel
theorem dX5_hasOthersLeftOf_49 : decode cX5_hasOthersLeftOf 49 = .ok (.goto (-47), 3) := by decide +kernel
theorem dX5_hasOthersLeftOf_52 : decode cX5_hasOthersLeftOf 52 = .ok (.iconst 1, 1) := by decide +kernel
theorem dX5_hasOthersLeftOf_53 : decode cX5_hasOthersLeftOf 53 = .ok (.ireturn, 1) := by decide +kernel
set_option maxRecDepth 20000 in
theorem ggX5_overlaps_X5_hasSideBefore : GoodIn wsX5_overlaps wsX5_hasSideBefore := goodIn_r _ [5, 6, 7, 8, 9, 4, 10, 11, 12, 13, 14, 15, 16, 17, 18, 19, 20, 21, 22, 23] (by decide +kernel) (by decide +kernel)
set_option maxRecDepth 20000 in
theorem gX5_overlaps_X5_hasSideBefore : GoodIn wsX5_overlaps (wsV RX5 34 RX5 yX5_hasSideBefore wsX5_hasSideBefore) := goodIn_app (goodIn_of _ (by decide +kernel)) ggX5_overlaps_X5_hasSideBefore
theorem dX5_overlaps_0 : decode cX5_overlaps 0 = .ok (.aload_n 0, 1) := by decide +kernel
theorem dX5_overlaps_1 : decode cX5_overlaps 1 = .ok (.aload_n 1, 1) := by decide +kernel
theorem dX5_overlaps_2 : decode cX5_overlaps 2 = .ok (.invokevirtual 34, 3) := by decide +kernel
theorem dX5_overlaps_5 : decode cX5_overlaps 5 = .ok (.ifCond .ne 15, 3) := by decide +kernel
theorem dX5_overlaps_8 : decode cX5_overlaps 8 = .ok (.aload_n 1, 1) := by decide +kernel
theorem dX5_overlaps_9 : decode cX5_overlaps 9 = .ok (.aload_n 0, 1) := by decide +kernel
theorem dX5_overlaps_10 : decode cX5_overlaps 10 = .ok (.invokevirtual 34, 3) := by decide +kernel
theorem dX5_overlaps_13 : decode cX5_overlaps 13 = .ok (.ifCond .ne 7, 3) := by decide +kernel
theorem dX5_overlaps_16 : decode cX5_overlaps 16 = .ok (.iconst 1, 1) := by decide +kernel
theorem dX5_overlaps_17 : decode cX5_overlaps 17 = .ok (.goto 4, 3) := by decide +kernel
theorem dX5_overlaps_20 : decode cX5_overlaps 20 = .ok (.iconst 0, 1) := by decide +kernel
theorem dX5_overlaps_21 : decode cX5_overlaps 21 = .ok (.ireturn, 1) := by decide +kernel
set_option maxRecDepth 20000 in
theorem ggX5_hasSideBefore_X5_reachesLeftOf : GoodIn wsX5_hasSideBefore wsX5_reachesLeftOf := goodIn_r _ [6, 1, 7, 8, 9, 10, 11, 5, 12, 13, 14, 15, 16, 17, 18, 19] (by decide +kernel) (by decide +kernel)
set_option maxRecDepth 20000 in
theorem gX5_hasSideBefore_X5_reachesLeftOf : GoodIn wsX5_hasSideBefore (wsV RX5 38 RX5 yX5_reachesLeftOf wsX5_reachesLeftOf) := goodIn_app (goodIn_of _ (by decide +kernel)) ggX5_hasSideBefore_X5_reachesLeftOf
theorem dX5_hasSideBefore_0 : decode cX5_hasSideBefore 0 = .ok (.iconst 0, 1) := by decide +kernel
theorem dX5_hasSideBefore_1 : decode cX5_hasSideBefore 1 = .ok (.istore_n 2, 1) := by decide +kernel
theorem dX5_hasSideBefore_2 : decode cX5_hasSideBefore 2 = .ok (.iload_n 2, 1) := by decide +kernel
theorem dX5_hasSideBefore_3 : decode cX5_hasSideBefore 3 = .ok (.aload_n 0, 1) := by decide +kernel
theorem dX5_hasSideBefore_4 : decode cX5_hasSideBefore 4 = .ok (.getfield 18, 3) := by decide +kernel
theorem dX5_hasSideBefore_7 : decode cX5_hasSideBefore 7 = .ok (.if_icmp .ge 20, 3) := by decide +kernel
theorem dX5_hasSideBefore_10 : decode cX5_hasSideBefore 10 = .ok (.aload_n 0, 1) := by decide +kernel
theorem dX5_hasSideBefore_11 : decode cX5_hasSideBefore 11 = .ok (.iload_n 2, 1) := by decide +kernel
theorem dX5_hasSideBefore_12 : decode cX5_hasSideBefore 12 = .ok (.aload_n 1, 1) := by decide +kernel
theorem dX5_hasSideBefore_13 : decode cX5_hasSideBefore 13 = .ok (.invokevirtual 38, 3) := by decide +kernel
theorem dX5_hasSideBefore_16 : decode cX5_hasSideBefore 16 = .ok (.ifCond .ne 5, 3) := by decide +kernel
theorem dX5_hasSideBefore_19 : decode cX5_hasSideBefore 19 = .ok (.iconst 1, 1) := by decide +kernel
theorem dX5_hasSideBefore_20 : decode cX5_hasSideBefore 20 = .ok (.ireturn, 1) := by decide +kernel
theorem dX5_hasSideBefore_21 : decode cX5_hasSideBefore 21 = .ok (.iinc 2 1, 3) := by decide +kernel
theorem dX5_hasSideBefore_24 : decode cX5_hasSideBefore 24 = .ok (.goto (-22), 3) := by decide +kernel
theorem dX5_hasSideBefore_27 : decode cX5_hasSideBefore 27 = .ok (.iconst 0, 1) := by decide +kernel
theorem dX5_hasSideBefore_28 : decode cX5_hasSideBefore 28 = .ok (.ireturn, 1) := by decide +kernel
set_option maxRecDepth 20000 in
theorem ggX5_reachesLeftOf_X5_leftness : GoodIn wsX5_reachesLeftOf wsX5_leftness := goodIn_r _ [8, 2, 3, 9, 10, 11, 7, 12, 1, 13, 14, 15] (by decide +kernel) (by decide +kernel)
set_option maxRecDepth 20000 in
theorem gX5_reachesLeftOf_X5_leftness : GoodIn wsX5_reachesLeftOf (wsV RX5 30 RX5 yX5_leftness wsX5_leftness) := goodIn_app (goodIn_of _ (by decide +kernel)) ggX5_reachesLeftOf_X5_leftness
theorem dX5_reachesLeftOf_0 : decode cX5_reachesLeftOf 0 = .ok (.iconst 0, 1) := by decide +kernel
theorem dX5_reachesLeftOf_1 : decode cX5_reachesLeftOf 1 = .ok (.istore_n 3, 1) := by decide +kernel
theorem dX5_reachesLeftOf_2 : decode cX5_reachesLeftOf 2 = .ok (.iload_n 3, 1) := by decide +kernel
theorem dX5_reachesLeftOf_3 : decode cX5_reachesLeftOf 3 = .ok (.aload_n 2, 1) := by decide +kernel
theorem dX5_reachesLeftOf_4 : decode cX5_reachesLeftOf 4 = .ok (.getfield 18, 3) := by decide +kernel
theorem dX5_reachesLeftOf_7 : decode cX5_reachesLeftOf 7 = .ok (.if_icmp .ge 31, 3) := by decide +kernel
theorem dX5_reachesLeftOf_10 : decode cX5_reachesLeftOf 10 = .ok (.aload_n 0, 1) := by decide +kernel
theorem dX5_reachesLeftOf_11 : decode cX5_reachesLeftOf 11 = .ok (.iload_n 1, 1) := by decide +kernel
theorem dX5_reachesLeftOf_12 : decode cX5_reachesLeftOf 12 = .ok (.aload_n 2, 1) := by decide +kernel
theorem dX5_reachesLeftOf_13 : decode cX5_reachesLeftOf 13 = .ok (.getfield 11, 3) := by decide +kernel
theorem dX5_reachesLeftOf_16 : decode cX5_reachesLeftOf 16 = .ok (.iload_n 3, 1) := by decide +kernel
theorem dX5_reachesLeftOf_17 : decode cX5_reachesLeftOf 17 = .ok (.iaload, 1) := by decide +kernel
theorem dX5_reachesLeftOf_18 : decode cX5_reachesLeftOf 18 = .ok (.aload_n 2, 1) := by decide +kernel
theorem dX5_reachesLeftOf_19 : decode cX5_reachesLeftOf 19 = .ok (.getfield 15, 3) := by decide +kernel
theorem dX5_reachesLeftOf_22 : decode cX5_reachesLeftOf 22 = .ok (.iload_n 3, 1) := by decide +kernel
theorem dX5_reachesLeftOf_23 : decode cX5_reachesLeftOf 23 = .ok (.iaload, 1) := by decide +kernel
theorem dX5_reachesLeftOf_24 : decode cX5_reachesLeftOf 24 = .ok (.invokevirtual 30, 3) := by decide +kernel
theorem dX5_reachesLeftOf_27 : decode cX5_reachesLeftOf 27 = .ok (.ifCond .le 5, 3) := by decide +kernel
theorem dX5_reachesLeftOf_30 : decode cX5_reachesLeftOf 30 = .ok (.iconst 1, 1) := by decide +kernel
theorem dX5_reachesLeftOf_31 : decode cX5_reachesLeftOf 31 = .ok (.ireturn, 1) := by decide +kernel
theorem dX5_reachesLeftOf_32 : decode cX5_reachesLeftOf 32 = .ok (.iinc 3 1, 3) := by decide +kernel
theorem dX5_reachesLeftOf_35 : decode cX5_reachesLeftOf 35 = .ok (.goto (-33), 3) := by decide +kernel
theorem dX5_reachesLeftOf_38 : decode cX5_reachesLeftOf 38 = .ok (.iconst 0, 1) := by decide +kernel
theorem dX5_reachesLeftOf_39 : decode cX5_reachesLeftOf 39 = .ok (.ireturn, 1) := by decide +kernel
set_option maxRecDepth 20000 in
theorem ggX5_isWithinOf_X5_hasSideWithinOfCorner : GoodIn wsX5_isWithinOf wsX5_hasSideWithinOfCorner := goodIn_r _ [5, 6, 7, 8, 9, 10, 11, 4, 12, 13, 14, 15, 16, 17, 18, 19, 20, 21, 22, 23] (by decide +kernel) (by decide +kernel)
set_option maxRecDepth 20000 in
theorem gX5_isWithinOf_X5_hasSideWithinOfCorner : GoodIn wsX5_isWithinOf (wsV RX5 42 RX5 yX5_hasSideWithinOfCorner wsX5_hasSideWithinOfCorner) := goodIn_app (goodIn_of _ (by decide +kernel)) ggX5_isWithinOf_X5_hasSideWithinOfCorner
theorem dX5_isWithinOf_0 : decode cX5_isWithinOf 0 = .ok (.aload_n 0, 1) := by decide +kernel
theorem dX5_isWithinOf_1 : decode cX5_isWithinOf 1 = .ok (.aload_n 1, 1) := by decide +kernel
theorem dX5_isWithinOf_2 : decode cX5_isWithinOf 2 = .ok (.iload_n 2, 1) := by decide +kernel
theorem dX5_isWithinOf_3 : decode cX5_isWithinOf 3 = .ok (.invokevirtual 42, 3) := by decide +kernel
theorem dX5_isWithinOf_6 : decode cX5_isWithinOf 6 = .ok (.ifCond .ne 12, 3) := by decide +kernel
theorem dX5_isWithinOf_9 : decode cX5_isWithinOf 9 = .ok (.aload_n 1, 1) := by decide +kernel
theorem dX5_isWithinOf_10 : decode cX5_isWithinOf 10 = .ok (.aload_n 0, 1) := by decide +kernel
theorem dX5_isWithinOf_11 : decode cX5_isWithinOf 11 = .ok (.iload_n 2, 1) := by decide +kernel
theorem dX5_isWithinOf_12 : decode cX5_isWithinOf 12 = .ok (.invokevirtual 42, 3) := by decide +kernel
theorem dX5_isWithinOf_15 : decode cX5_isWithinOf 15 = .ok (.ifCond .eq 7, 3) := by decide +kernel
theorem dX5_isWithinOf_18 : decode cX5_isWithinOf 18 = .ok (.iconst 1, 1) := by decide +kernel
theorem dX5_isWithinOf_19 : decode cX5_isWithinOf 19 = .ok (.goto 4, 3) := by decide +kernel
theorem dX5_isWithinOf_22 : decode cX5_isWithinOf 22 = .ok (.iconst 0, 1) := by decide +kernel
theorem dX5_isWithinOf_23 : decode cX5_isWithinOf 23 = .ok (.ireturn, 1) := by decide +kernel
set_option maxRecDepth 20000 in
theorem ggX5_hasSideWithinOfCorner_X5_compareDistance : GoodIn wsX5_hasSideWithinOfCorner wsX5_compareDistance := goodIn_r _ [8, 2, 3, 9, 10, 11, 7, 12, 1, 13, 14, 15, 16, 17, 18, 19] (by decide +kernel) (by decide +kernel)
set_option maxRecDepth 20000 in
theorem gX5_hasSideWithinOfCorner_X5_compareDistance : GoodIn wsX5_hasSideWithinOfCorner (wsV RX5 46 RX5 yX5_compareDistance wsX5_compareDistance) := goodIn_app (goodIn_of _ (by decide +kernel)) ggX5_hasSideWithinOfCorner_X5_compareDistance
theorem dX5_hasSideWithinOfCorner_0 : decode cX5_hasSideWithinOfCorner 0 = .ok (.iconst 0, 1) := by decide +kernel
theorem dX5_hasSideWithinOfCorner_1 : decode cX5_hasSideWithinOfCorner 1 = .ok (.istore_n 3, 1) := by decide +kernel
theorem dX5_hasSideWithinOfCorner_2 : decode cX5_hasSideWithinOfCorner 2 = .ok (.iload_n 3, 1) := by decide +kernel
theorem dX5_hasSideWithinOfCorner_3 : decode cX5_hasSideWithinOfCorner 3 = .ok (.aload_n 1, 1) := by decide +kernel
theorem dX5_hasSideWithinOfCorner_4 : decode cX5_hasSideWithinOfCorner 4 = .ok (.getfield 18, 3) := by decide +kernel
theorem dX5_hasSideWithinOfCorner_7 : decode cX5_hasSideWithinOfCorner 7 = .ok (.if_icmp .ge 51, 3) := by decide +kernel
theorem dX5_hasSideWithinOfCorner_10 : decode cX5_hasSideWithinOfCorner 10 = .ok (.iconst 0, 1) := by decide +kernel
theorem dX5_hasSideWithinOfCorner_11 : decode cX5_hasSideWithinOfCorner 11 = .ok (.istore 4, 2) := by decide +kernel
theorem dX5_hasSideWithinOfCorner_13 : decode cX5_hasSideWithinOfCorner 13 = .ok (.iload 4, 2) := by decide +kernel
theorem dX5_hasSideWithinOfCorner_15 : decode cX5_hasSideWithinOfCorner 15 = .ok (.aload_n 0, 1) := by decide +kernel
theorem dX5_hasSideWithinOfCorner_16 : decode cX5_hasSideWithinOfCorner 16 = .ok (.getfield 18, 3) := by decide +kernel
theorem dX5_hasSideWithinOfCorner_19 : decode cX5_hasSideWithinOfCorner 19 = .ok (.if_icmp .ge 33, 3) := by decide +kernel
theorem dX5_hasSideWithinOfCorner_22 : decode cX5_hasSideWithinOfCorner 22 = .ok (.aload_n 0, 1) := by decide +kernel
theorem dX5_hasSideWithinOfCorner_23 : decode cX5_hasSideWithinOfCorner 23 = .ok (.iload 4, 2) := by decide +kernel
theorem dX5_hasSideWithinOfCorner_25 : decode cX5_hasSideWithinOfCorner 25 = .ok (.aload_n 1, 1) := by decide +kernel
theorem dX5_hasSideWithinOfCorner_26 : decode cX5_hasSideWithinOfCorner 26 = .ok (.getfield 11, 3) := by decide +kernel
theorem dX5_hasSideWithinOfCorner_29 : decode cX5_hasSideWithinOfCorner 29 = .ok (.iload_n 3, 1) := by decide +kernel
theorem dX5_hasSideWithinOfCorner_30 : decode cX5_hasSideWithinOfCorner 30 = .ok (.iaload, 1) := by decide +kernel
theorem dX5_hasSideWithinOfCorner_31 : decode cX5_hasSideWithinOfCorner 31 = .ok (.aload_n 1, 1) := by decide +kernel
theorem dX5_hasSideWithinOfCorner_32 : decode cX5_hasSideWithinOfCorner 32 = .ok (.getfield 15, 3) := by decide +kernel
theorem dX5_hasSideWithinOfCorner_35 : decode cX5_hasSideWithinOfCorner 35 = .ok (.iload_n 3, 1) := by decide +kernel
theorem dX5_hasSideWithinOfCorner_36 : decode cX5_hasSideWithinOfCorner 36 = .ok (.iaload, 1) := by decide +kernel
theorem dX5_hasSideWithinOfCorner_37 : decode cX5_hasSideWithinOfCorner 37 = .ok (.iload_n 2, 1) := by decide +kernel
theorem dX5_hasSideWithinOfCorner_38 : decode cX5_hasSideWithinOfCorner 38 = .ok (.invokevirtual 46, 3) := by decide +kernel
theorem dX5_hasSideWithinOfCorner_41 : decode cX5_hasSideWithinOfCorner 41 = .ok (.ifCond .gt 5, 3) := by decide +kernel
theorem dX5_hasSideWithinOfCorner_44 : decode cX5_hasSideWithinOfCorner 44 = .ok (.iconst 1, 1) := by decide +kernel
theorem dX5_hasSideWithinOfCorner_45 : decode cX5_hasSideWithinOfCorner 45 = .ok (.ireturn, 1) := by decide +kernel
theorem dX5_hasSideWithinOfCorner_46 : decode cX5_hasSideWithinOfCorner 46 = .ok (.iinc 4 1, 3) := by decide +kernel
theorem dX5_hasSideWithinOfCorner_49 : decode cX5_hasSideWithinOfCorner 49 = .ok (.goto (-36), 3) := by decide +kernel
theorem dX5_hasSideWithinOfCorner_52 : decode cX5_hasSideWithinOfCorner 52 = .ok (.iinc 3 1, 3) := by decide +kernel
theorem dX5_hasSideWithinOfCorner_55 : decode cX5_hasSideWithinOfCorner 55 = .ok (.goto (-53), 3) := by decide +kernel
theorem dX5_hasSideWithinOfCorner_58 : decode cX5_hasSideWithinOfCorner 58 = .ok (.iconst 0, 1) := by decide +kernel
theorem dX5_hasSideWithinOfCorner_59 : decode cX5_hasSideWithinOfCorner 59 = .ok (.ireturn, 1) := by decide +kernel
set_option maxRecDepth 20000 in
theorem ggX5_surrounds_X5_hasInside : GoodIn wsX5_surrounds wsX5_hasInside := goodIn_r _ [5, 6, 7, 8, 9, 4, 10, 11, 12, 13, 14, 15, 16, 24, 25, 26] (by decide +kernel) (by decide +kernel)
set_option maxRecDepth 20000 in
theorem gX5_surrounds_X5_hasInside : GoodIn wsX5_surrounds (wsV RX5 58 RX5 yX5_hasInside wsX5_hasInside) := goodIn_app (goodIn_of _ (by decide +kernel)) ggX5_surrounds_X5_hasInside
theorem dX5_surrounds_0 : decode cX5_surrounds 0 = .ok (.aload_n 0, 1) := by decide +kernel
theorem dX5_surrounds_1 : decode cX5_surrounds 1 = .ok (.aload_n 1, 1) := by decide +kernel
theorem dX5_surrounds_2 : decode cX5_surrounds 2 = .ok (.getfield 50, 3) := by decide +kernel
theorem dX5_surrounds_5 : decode cX5_surrounds 5 = .ok (.aload_n 1, 1) := by decide +kernel
theorem dX5_surrounds_6 : decode cX5_surrounds 6 = .ok (.getfield 55, 3) := by decide +kernel
theorem dX5_surrounds_9 : decode cX5_surrounds 9 = .ok (.invokevirtual 58, 3) := by decide +kernel
theorem dX5_surrounds_12 : decode cX5_surrounds 12 = .ok (.ifCond .eq 52, 3) := by decide +kernel
theorem dX5_surrounds_15 : decode cX5_surrounds 15 = .ok (.aload_n 0, 1) := by decide +kernel
theorem dX5_surrounds_16 : decode cX5_surrounds 16 = .ok (.aload_n 1, 1) := by decide +kernel
theorem dX5_surrounds_17 : decode cX5_surrounds 17 = .ok (.getfield 62, 3) := by decide +kernel
theorem dX5_surrounds_20 : decode cX5_surrounds 20 = .ok (.aload_n 1, 1) := by decide +kernel
theorem dX5_surrounds_21 : decode cX5_surrounds 21 = .ok (.getfield 55, 3) := by decide +kernel
theorem dX5_surrounds_24 : decode cX5_surrounds 24 = .ok (.invokevirtual 58, 3) := by decide +kernel
theorem dX5_surrounds_27 : decode cX5_surrounds 27 = .ok (.ifCond .eq 37, 3) := by decide +kernel
theorem dX5_surrounds_30 : decode cX5_surrounds 30 = .ok (.aload_n 0, 1) := by decide +kernel
theorem dX5_surrounds_31 : decode cX5_surrounds 31 = .ok (.aload_n 1, 1) := by decide +kernel
theorem dX5_surrounds_32 : decode cX5_surrounds 32 = .ok (.getfield 62, 3) := by decide +kernel
theorem dX5_surrounds_35 : decode cX5_surrounds 35 = .ok (.aload_n 1, 1) := by decide +kernel
theorem dX5_surrounds_36 : decode cX5_surrounds 36 = .ok (.getfield 65, 3) := by decide +kernel
theorem dX5_surrounds_39 : decode cX5_surrounds 39 = .ok (.invokevirtual 58, 3) := by decide +kernel
theorem dX5_surrounds_42 : decode cX5_surrounds 42 = .ok (.ifCond .eq 22, 3) := by decide +kernel
theorem dX5_surrounds_45 : decode cX5_surrounds 45 = .ok (.aload_n 0, 1) := by decide +kernel
theorem dX5_surrounds_46 : decode cX5_surrounds 46 = .ok (.aload_n 1, 1) := by decide +kernel
theorem dX5_surrounds_47 : decode cX5_surrounds 47 = .ok (.getfield 50, 3) := by decide +kernel
theorem dX5_surrounds_50 : decode cX5_surrounds 50 = .ok (.aload_n 1, 1) := by decide +kernel
theorem dX5_surrounds_51 : decode cX5_surrounds 51 = .ok (.getfield 65, 3) := by decide +kernel
theorem dX5_surrounds_54 : decode cX5_surrounds 54 = .ok (.invokevirtual 58, 3) := by decide +kernel
theorem dX5_surrounds_57 : decode cX5_surrounds 57 = .ok (.ifCond .eq 7, 3) := by decide +kernel
theorem dX5_surrounds_60 : decode cX5_surrounds 60 = .ok (.iconst 1, 1) := by decide +kernel
theorem dX5_surrounds_61 : decode cX5_surrounds 61 = .ok (.goto 4, 3) := by decide +kernel
theorem dX5_surrounds_64 : decode cX5_surrounds 64 = .ok (.iconst 0, 1) := by decide +kernel
theorem dX5_surrounds_65 : decode cX5_surrounds 65 = .ok (.ireturn, 1) := by decide +kernel
set_option maxRecDepth 20000 in
theorem ggX5_hasInside_X5_leftness : GoodIn wsX5_hasInside wsX5_leftness := goodIn_r _ [6, 7, 8, 9, 10, 11, 5, 12, 1, 13, 14, 15] (by decide +kernel) (by decide +kernel)
set_option maxRecDepth 20000 in
theorem gX5_hasInside_X5_leftness : GoodIn wsX5_hasInside (wsV RX5 30 RX5 yX5_leftness wsX5_leftness) := goodIn_app (goodIn_of _ (by decide +kernel)) ggX5_hasInside_X5_leftness
theorem dX5_hasInside_0 : decode cX5_hasInside 0 = .ok (.iconst 0, 1) := by decide +kernel
theorem dX5_hasInside_1 : decode cX5_hasInside 1 = .ok (.istore_n 3, 1) := by decide +kernel
theorem dX5_hasInside_2 : decode cX5_hasInside 2 = .ok (.iload_n 3, 1) := by decide +kernel
theorem dX5_hasInside_3 : decode cX5_hasInside 3 = .ok (.aload_n 0, 1) := by decide +kernel
theorem dX5_hasInside_4 : decode cX5_hasInside 4 = .ok (.getfield 18, 3) := by decide +kernel
theorem dX5_hasInside_7 : decode cX5_hasInside 7 = .ok (.if_icmp .ge 21, 3) := by decide +kernel
theorem dX5_hasInside_10 : decode cX5_hasInside 10 = .ok (.aload_n 0, 1) := by decide +kernel
theorem dX5_hasInside_11 : decode cX5_hasInside 11 = .ok (.iload_n 3, 1) := by decide +kernel
theorem dX5_hasInside_12 : decode cX5_hasInside 12 = .ok (.iload_n 1, 1) := by decide +kernel
theorem dX5_hasInside_13 : decode cX5_hasInside 13 = .ok (.iload_n 2, 1) := by decide +kernel
theorem dX5_hasInside_14 : decode cX5_hasInside 14 = .ok (.invokevirtual 30, 3) := by decide +kernel
theorem dX5_hasInside_17 : decode cX5_hasInside 17 = .ok (.ifCond .ge 5, 3) := by decide +kernel
theorem dX5_hasInside_20 : decode cX5_hasInside 20 = .ok (.iconst 0, 1) := by decide +kernel
theorem dX5_hasInside_21 : decode cX5_hasInside 21 = .ok (.ireturn, 1) := by decide +kernel
theorem dX5_hasInside_22 : decode cX5_hasInside 22 = .ok (.iinc 3 1, 3) := by decide +kernel
theorem dX5_hasInside_25 : decode cX5_hasInside 25 = .ok (.goto (-23), 3) := by decide +kernel
theorem dX5_hasInside_28 : decode cX5_hasInside 28 = .ok (.iconst 1, 1) := by decide +kernel
theorem dX5_hasInside_29 : decode cX5_hasInside 29 = .ok (.ireturn, 1) := by decide +kernel
set_option maxRecDepth 20000 in
theorem ggX5_hasSideNearerThan_X5_hasSideNearer : GoodIn wsX5_hasSideNearerThan wsX5_hasSideNearer := goodIn_r _ [5, 6, 7, 8, 9, 4, 10, 11, 12, 13, 14, 15, 16, 17, 18, 19, 20, 28, 29, 30] (by decide +kernel) (by decide +kernel)
set_option maxRecDepth 20000 in
theorem gX5_hasSideNearerThan_X5_hasSideNearer : GoodIn wsX5_hasSideNearerThan (wsV RX5 68 RX5 yX5_hasSideNearer wsX5_hasSideNearer) := goodIn_app (goodIn_of _ (by decide +kernel)) ggX5_hasSideNearerThan_X5_hasSideNearer
theorem dX5_hasSideNearerThan_0 : decode cX5_hasSideNearerThan 0 = .ok (.aload_n 0, 1) := by decide +kernel
theorem dX5_hasSideNearerThan_1 : decode cX5_hasSideNearerThan 1 = .ok (.aload_n 2, 1) := by decide +kernel
theorem dX5_hasSideNearerThan_2 : decode cX5_hasSideNearerThan 2 = .ok (.getfield 50, 3) := by decide +kernel
theorem dX5_hasSideNearerThan_5 : decode cX5_hasSideNearerThan 5 = .ok (.aload_n 2, 1) := by decide +kernel
theorem dX5_hasSideNearerThan_6 : decode cX5_hasSideNearerThan 6 = .ok (.getfield 55, 3) := by decide +kernel
theorem dX5_hasSideNearerThan_9 : decode cX5_hasSideNearerThan 9 = .ok (.iload_n 1, 1) := by decide +kernel
theorem dX5_hasSideNearerThan_10 : decode cX5_hasSideNearerThan 10 = .ok (.invokevirtual 68, 3) := by decide +kernel
theorem dX5_hasSideNearerThan_13 : decode cX5_hasSideNearerThan 13 = .ok (.ifCond .ne 51, 3) := by decide +kernel
theorem dX5_hasSideNearerThan_16 : decode cX5_hasSideNearerThan 16 = .ok (.aload_n 0, 1) := by decide +kernel
theorem dX5_hasSideNearerThan_17 : decode cX5_hasSideNearerThan 17 = .ok (.aload_n 2, 1) := by decide +kernel
theorem dX5_hasSideNearerThan_18 : decode cX5_hasSideNearerThan 18 = .ok (.getfield 62, 3) := by decide +kernel
theorem dX5_hasSideNearerThan_21 : decode cX5_hasSideNearerThan 21 = .ok (.aload_n 2, 1) := by decide +kernel
theorem dX5_hasSideNearerThan_22 : decode cX5_hasSideNearerThan 22 = .ok (.getfield 55, 3) := by decide +kernel
theorem dX5_hasSideNearerThan_25 : decode cX5_hasSideNearerThan 25 = .ok (.iload_n 1, 1) := by decide +kernel
theorem dX5_hasSideNearerThan_26 : decode cX5_hasSideNearerThan 26 = .ok (.invokevirtual 68, 3) := by decide +kernel
theorem dX5_hasSideNearerThan_29 : decode cX5_hasSideNearerThan 29 = .ok (.ifCond .ne 35, 3) := by decide +kernel
theorem dX5_hasSideNearerThan_32 : decode cX5_hasSideNearerThan 32 = .ok (.aload_n 0, 1) := by decide +kernel
theorem dX5_hasSideNearerThan_33 : decode cX5_hasSideNearerThan 33 = .ok (.aload_n 2, 1) := by decide +kernel
theorem dX5_hasSideNearerThan_34 : decode cX5_hasSideNearerThan 34 = .ok (.getfield 62, 3) := by decide +kernel
theorem dX5_hasSideNearerThan_37 : decode cX5_hasSideNearerThan 37 = .ok (.aload_n 2, 1) := by decide +kernel
theorem dX5_hasSideNearerThan_38 : decode cX5_hasSideNearerThan 38 = .ok (.getfield 65, 3) := by decide +kernel
theorem dX5_hasSideNearerThan_41 : decode cX5_hasSideNearerThan 41 = .ok (.iload_n 1, 1) := by decide +kernel
theorem dX5_hasSideNearerThan_42 : decode cX5_hasSideNearerThan 42 = .ok (.invokevirtual 68, 3) := by decide +kernel
theorem dX5_hasSideNearerThan_45 : decode cX5_hasSideNearerThan 45 = .ok (.ifCond .ne 19, 3) := by decide +kernel
theorem dX5_hasSideNearerThan_48 : decode cX5_hasSideNearerThan 48 = .ok (.aload_n 0, 1) := by decide +kernel
theorem dX5_hasSideNearerThan_49 : decode cX5_hasSideNearerThan 49 = .ok (.aload_n 2, 1) := by decide +kernel
theorem dX5_hasSideNearerThan_50 : decode cX5_hasSideNearerThan 50 = .ok (.getfield 50, 3) := by decide +kernel
theorem dX5_hasSideNearerThan_53 : decode cX5_hasSideNearerThan 53 = .ok (.aload_n 2, 1) := by decide +kernel
theorem dX5_hasSideNearerThan_54 : decode cX5_hasSideNearerThan 54 = .ok (.getfield 65, 3) := by decide +kernel
theorem dX5_hasSideNearerThan_57 : decode cX5_hasSideNearerThan 57 = .ok (.iload_n 1, 1) := by decide +kernel
theorem dX5_hasSideNearerThan_58 : decode cX5_hasSideNearerThan 58 = .ok (.invokevirtual 68, 3) := by decide +kernel
theorem dX5_hasSideNearerThan_61 : decode cX5_hasSideNearerThan 61 = .ok (.ifCond .eq 7, 3) := by decide +kernel
theorem dX5_hasSideNearerThan_64 : decode cX5_hasSideNearerThan 64 = .ok (.iconst 1, 1) := by decide +kernel
theorem dX5_hasSideNearerThan_65 : decode cX5_hasSideNearerThan 65 = .ok (.goto 4, 3) := by decide +kernel
theorem dX5_hasSideNearerThan_68 : decode cX5_hasSideNearerThan 68 = .ok (.iconst 0, 1) := by decide +kernel
theorem dX5_hasSideNearerThan_69 : decode cX5_hasSideNearerThan 69 = .ok (.ireturn, 1) := by decide +kernel
set_option maxRecDepth 20000 in
theorem ggX5_hasSideNearer_X5_compareDistance : GoodIn wsX5_hasSideNearer wsX5_compareDistance := goodIn_r _ [6, 7, 8, 9, 10, 11, 5, 12, 1, 13, 14, 15, 16, 17, 18, 19] (by decide +kernel) (by decide +kernel)
set_option maxRecDepth 20000 in
theorem gX5_hasSideNearer_X5_compareDistance : GoodIn wsX5_hasSideNearer (wsV RX5 46 RX5 yX5_compareDistance wsX5_compareDistance) := goodIn_app (goodIn_of _ (by decide +kernel)) ggX5_hasSideNearer_X5_compareDistance
theorem dX5_hasSideNearer_0 : decode cX5_hasSideNearer 0 = .ok (.iconst 0, 1) := by decide +kernel
theorem dX5_hasSideNearer_1 : decode cX5_hasSideNearer 1 = .ok (.istore 4, 2) := by decide +kernel
theorem dX5_hasSideNearer_3 : decode cX5_hasSideNearer 3 = .ok (.iload 4, 2) := by decide +kernel
theorem dX5_hasSideNearer_5 : decode cX5_hasSideNearer 5 = .ok (.aload_n 0, 1) := by decide +kernel
theorem dX5_hasSideNearer_6 : decode cX5_hasSideNearer 6 = .ok (.getfield 18, 3) := by decide +kernel
theorem dX5_hasSideNearer_9 : decode cX5_hasSideNearer 9 = .ok (.if_icmp .ge 23, 3) := by decide +kernel
theorem dX5_hasSideNearer_12 : decode cX5_hasSideNearer 12 = .ok (.aload_n 0, 1) := by decide +kernel
theorem dX5_hasSideNearer_13 : decode cX5_hasSideNearer 13 = .ok (.iload 4, 2) := by decide +kernel
theorem dX5_hasSideNearer_15 : decode cX5_hasSideNearer 15 = .ok (.iload_n 1, 1) := by decide +kernel
theorem dX5_hasSideNearer_16 : decode cX5_hasSideNearer 16 = .ok (.iload_n 2, 1) := by decide +kernel
theorem dX5_hasSideNearer_17 : decode cX5_hasSideNearer 17 = .ok (.iload_n 3, 1) := by decide +kernel
theorem dX5_hasSideNearer_18 : decode cX5_hasSideNearer 18 = .ok (.invokevirtual 46, 3) := by decide +kernel
theorem dX5_hasSideNearer_21 : decode cX5_hasSideNearer 21 = .ok (.ifCond .ge 5, 3) := by decide +kernel
theorem dX5_hasSideNearer_24 : decode cX5_hasSideNearer 24 = .ok (.iconst 1, 1) := by decide +kernel
theorem dX5_hasSideNearer_25 : decode cX5_hasSideNearer 25 = .ok (.ireturn, 1) := by decide +kernel
theorem dX5_hasSideNearer_26 : decode cX5_hasSideNearer 26 = .ok (.iinc 4 1, 3) := by decide +kernel
theorem dX5_hasSideNearer_29 : decode cX5_hasSideNearer 29 = .ok (.goto (-26), 3) := by decide +kernel
theorem dX5_hasSideNearer_32 : decode cX5_hasSideNearer 32 = .ok (.iconst 0, 1) := by decide +kernel
theorem dX5_hasSideNearer_33 : decode cX5_hasSideNearer 33 = .ok (.ireturn, 1) := by decide +kernel
set_option maxRecDepth 20000 in
theorem ggX5_leftness_X5_after : GoodIn wsX5_leftness wsX5_after := goodIn_r _ [7, 8, 9, 10, 11] (by decide +kernel) (by decide +kernel)
set_option maxRecDepth 20000 in
theorem gX5_leftness_X5_after : GoodIn wsX5_leftness (wsV RX5 22 RX5 yX5_after wsX5_after) := goodIn_app (goodIn_of _ (by decide +kernel)) ggX5_leftness_X5_after
theorem dX5_leftness_0 : decode cX5_leftness 0 = .ok (.aload_n 0, 1) := by decide +kernel
theorem dX5_leftness_1 : decode cX5_leftness 1 = .ok (.iload_n 1, 1) := by decide +kernel
theorem dX5_leftness_2 : decode cX5_leftness 2 = .ok (.invokevirtual 22, 3) := by decide +kernel
theorem dX5_leftness_5 : decode cX5_leftness 5 = .ok (.istore 4, 2) := by decide +kernel
theorem dX5_leftness_7 : decode cX5_leftness 7 = .ok (.aload_n 0, 1) := by decide +kernel
theorem dX5_leftness_8 : decode cX5_leftness 8 = .ok (.getfield 11, 3) := by decide +kernel
theorem dX5_leftness_11 : decode cX5_leftness 11 = .ok (.iload 4, 2) := by decide +kernel
theorem dX5_leftness_13 : decode cX5_leftness 13 = .ok (.iaload, 1) := by decide +kernel
theorem dX5_leftness_14 : decode cX5_leftness 14 = .ok (.aload_n 0, 1) := by decide +kernel
theorem dX5_leftness_15 : decode cX5_leftness 15 = .ok (.getfield 11, 3) := by decide +kernel
theorem dX5_leftness_18 : decode cX5_leftness 18 = .ok (.iload_n 1, 1) := by decide +kernel
theorem dX5_leftness_19 : decode cX5_leftness 19 = .ok (.iaload, 1) := by decide +kernel
theorem dX5_leftness_20 : decode cX5_leftness 20 = .ok (.isub, 1) := by decide +kernel
theorem dX5_leftness_21 : decode cX5_leftness 21 = .ok (.iload_n 3, 1) := by decide +kernel
theorem dX5_leftness_22 : decode cX5_leftness 22 = .ok (.aload_n 0, 1) := by decide +kernel
theorem dX5_leftness_23 : decode cX5_leftness 23 = .ok (.getfield 15, 3) := by decide +kernel
theorem dX5_leftness_26 : decode cX5_leftness 26 = .ok (.iload_n 1, 1) := by decide +kernel
theorem dX5_leftness_27 : decode cX5_leftness 27 = .ok (.iaload, 1) := by decide +kernel
theorem dX5_leftness_28 : decode cX5_leftness 28 = .ok (.isub, 1) := by decide +kernel
theorem dX5_leftness_29 : decode cX5_leftness 29 = .ok (.imul, 1) := by decide +kernel
theorem dX5_leftness_30 : decode cX5_leftness 30 = .ok (.aload_n 0, 1) := by decide +kernel
theorem dX5_leftness_31 : decode cX5_leftness 31 = .ok (.getfield 15, 3) := by decide +kernel
theorem dX5_leftness_34 : decode cX5_leftness 34 = .ok (.iload 4, 2) := by decide +kernel
theorem dX5_leftness_36 : decode cX5_leftness 36 = .ok (.iaload, 1) := by decide +kernel
theorem dX5_leftness_37 : decode cX5_leftness 37 = .ok (.aload_n 0, 1) := by decide +kernel
theorem dX5_leftness_38 : decode cX5_leftness 38 = .ok (.getfield 15, 3) := by decide +kernel
theorem dX5_leftness_41 : decode cX5_leftness 41 = .ok (.iload_n 1, 1) := by decide +kernel
theorem dX5_leftness_42 : decode cX5_leftness 42 = .ok (.iaload, 1) := by decide +kernel
theorem dX5_leftness_43 : decode cX5_leftness 43 = .ok (.isub, 1) := by decide +kernel
theorem dX5_leftness_44 : decode cX5_leftness 44 = .ok (.iload_n 2, 1) := by decide +kernel
theorem dX5_leftness_45 : decode cX5_leftness 45 = .ok (.aload_n 0, 1) := by decide +kernel
theorem dX5_leftness_46 : decode cX5_leftness 46 = .ok (.getfield 11, 3) := by decide +kernel
theorem dX5_leftness_49 : decode cX5_leftness 49 = .ok (.iload_n 1, 1) := by decide +kernel
theorem dX5_leftness_50 : decode cX5_leftness 50 = .ok (.iaload, 1) := by decide +kernel
theorem dX5_leftness_51 : decode cX5_leftness 51 = .ok (.isub, 1) := by decide +kernel
theorem dX5_leftness_52 : decode cX5_leftness 52 = .ok (.imul, 1) := by decide +kernel
theorem dX5_leftness_53 : decode cX5_leftness 53 = .ok (.isub, 1) := by decide +kernel
theorem dX5_leftness_54 : decode cX5_leftness 54 = .ok (.ireturn, 1) := by decide +kernel
set_option maxRecDepth 20000 in
theorem ggX5_compareDistance_X5_after : GoodIn wsX5_compareDistance wsX5_after := goodIn_r _ [7, 8, 13, 14, 15] (by decide +kernel) (by decide +kernel)
set_option maxRecDepth 20000 in
theorem gX5_compareDistance_X5_after : GoodIn wsX5_compareDistance (wsV RX5 22 RX5 yX5_after wsX5_after) := goodIn_app (goodIn_of _ (by decide +kernel)) ggX5_compareDistance_X5_after
set_option maxRecDepth 20000 in
theorem ggX5_compareDistance_J13_compare_74951 : GoodIn wsX5_compareDistance wsJ13_compare_74951 := goodIn_r _ [12] (by decide +kernel) (by decide +kernel)
set_option maxRecDepth 20000 in
theorem gX5_compareDistance_J13_compare_74951 : GoodIn wsX5_compareDistance (va_wsS RX5 72 yJ13_compare_74951 wsJ13_compare_74951) := goodIn_app (goodIn_of _ (by decide +kernel)) ggX5_compareDistance_J13_compare_74951
theorem dX5_compareDistance_0 : decode cX5_compareDistance 0 = .ok (.aload_n 0, 1) := by decide +kernel
theorem dX5_compareDistance_1 : decode cX5_compareDistance 1 = .ok (.iload_n 1, 1) := by decide +kernel
theorem dX5_compareDistance_2 : decode cX5_compareDistance 2 = .ok (.invokevirtual 22, 3) := by decide +kernel
theorem dX5_compareDistance_5 : decode cX5_compareDistance 5 = .ok (.istore 5, 2) := by decide +kernel
theorem dX5_compareDistance_7 : decode cX5_compareDistance 7 = .ok (.aload_n 0, 1) := by decide +kernel
theorem dX5_compareDistance_8 : decode cX5_compareDistance 8 = .ok (.getfield 11, 3) := by decide +kernel
theorem dX5_compareDistance_11 : decode cX5_compareDistance 11 = .ok (.iload 5, 2) := by decide +kernel
theorem dX5_compareDistance_13 : decode cX5_compareDistance 13 = .ok (.iaload, 1) := by decide +kernel
theorem dX5_compareDistance_14 : decode cX5_compareDistance 14 = .ok (.aload_n 0, 1) := by decide +kernel
theorem dX5_compareDistance_15 : decode cX5_compareDistance 15 = .ok (.getfield 11, 3) := by decide +kernel
theorem dX5_compareDistance_18 : decode cX5_compareDistance 18 = .ok (.iload_n 1, 1) := by decide +kernel
theorem dX5_compareDistance_19 : decode cX5_compareDistance 19 = .ok (.iaload, 1) := by decide +kernel
theorem dX5_compareDistance_20 : decode cX5_compareDistance 20 = .ok (.isub, 1) := by decide +kernel
theorem dX5_compareDistance_21 : decode cX5_compareDistance 21 = .ok (.i2l, 1) := by decide +kernel
theorem dX5_compareDistance_22 : decode cX5_compareDistance 22 = .ok (.lstore 6, 2) := by decide +kernel
theorem dX5_compareDistance_24 : decode cX5_compareDistance 24 = .ok (.aload_n 0, 1) := by decide +kernel
theorem dX5_compareDistance_25 : decode cX5_compareDistance 25 = .ok (.getfield 15, 3) := by decide +kernel
theorem dX5_compareDistance_28 : decode cX5_compareDistance 28 = .ok (.iload 5, 2) := by decide +kernel
theorem dX5_compareDistance_30 : decode cX5_compareDistance 30 = .ok (.iaload, 1) := by decide +kernel
theorem dX5_compareDistance_31 : decode cX5_compareDistance 31 = .ok (.aload_n 0, 1) := by decide +kernel
theorem dX5_compareDistance_32 : decode cX5_compareDistance 32 = .ok (.getfield 15, 3) := by decide +kernel
theorem dX5_compareDistance_35 : decode cX5_compareDistance 35 = .ok (.iload_n 1, 1) := by decide +kernel
theorem dX5_compareDistance_36 : decode cX5_compareDistance 36 = .ok (.iaload, 1) := by decide +kernel
theorem dX5_compareDistance_37 : decode cX5_compareDistance 37 = .ok (.isub, 1) := by decide +kernel
theorem dX5_compareDistance_38 : decode cX5_compareDistance 38 = .ok (.i2l, 1) := by decide +kernel
theorem dX5_compareDistance_39 : decode cX5_compareDistance 39 = .ok (.lstore 8, 2) := by decide +kernel
theorem dX5_compareDistance_41 : decode cX5_compareDistance 41 = .ok (.iload_n 2, 1) := by decide +kernel
theorem dX5_compareDistance_42 : decode cX5_compareDistance 42 = .ok (.aload_n 0, 1) := by decide +kernel
theorem dX5_compareDistance_43 : decode cX5_compareDistance 43 = .ok (.getfield 11, 3) := by decide +kernel
theorem dX5_compareDistance_46 : decode cX5_compareDistance 46 = .ok (.iload_n 1, 1) := by decide +kernel
theorem dX5_compareDistance_47 : decode cX5_compareDistance 47 = .ok (.iaload, 1) := by decide +kernel
theorem dX5_compareDistance_48 : decode cX5_compareDistance 48 = .ok (.isub, 1) := by decide +kernel
theorem dX5_compareDistance_49 : decode cX5_compareDistance 49 = .ok (.i2l, 1) := by decide +kernel
theorem dX5_compareDistance_50 : decode cX5_compareDistance 50 = .ok (.lstore 10, 2) := by decide +kernel
theorem dX5_compareDistance_52 : decode cX5_compareDistance 52 = .ok (.iload_n 3, 1) := by decide +kernel
theorem dX5_compareDistance_53 : decode cX5_compareDistance 53 = .ok (.aload_n 0, 1) := by decide +kernel
theorem dX5_compareDistance_54 : decode cX5_compareDistance 54 = .ok (.getfield 15, 3) := by decide +kernel
theorem dX5_compareDistance_57 : decode cX5_compareDistance 57 = .ok (.iload_n 1, 1) := by decide +kernel
theorem dX5_compareDistance_58 : decode cX5_compareDistance 58 = .ok (.iaload, 1) := by decide +kernel
theorem dX5_compareDistance_59 : decode cX5_compareDistance 59 = .ok (.isub, 1) := by decide +kernel
theorem dX5_compareDistance_60 : decode cX5_compareDistance 60 = .ok (.i2l, 1) := by decide +kernel
theorem dX5_compareDistance_61 : decode cX5_compareDistance 61 = .ok (.lstore 12, 2) := by decide +kernel
theorem dX5_compareDistance_63 : decode cX5_compareDistance 63 = .ok (.iload 4, 2) := by decide +kernel
theorem dX5_compareDistance_65 : decode cX5_compareDistance 65 = .ok (.i2l, 1) := by decide +kernel
theorem dX5_compareDistance_66 : decode cX5_compareDistance 66 = .ok (.iload 4, 2) := by decide +kernel
theorem dX5_compareDistance_68 : decode cX5_compareDistance 68 = .ok (.i2l, 1) := by decide +kernel
theorem dX5_compareDistance_69 : decode cX5_compareDistance 69 = .ok (.lmul, 1) := by decide +kernel
theorem dX5_compareDistance_70 : decode cX5_compareDistance 70 = .ok (.lstore 14, 2) := by decide +kernel
theorem dX5_compareDistance_72 : decode cX5_compareDistance 72 = .ok (.lload 6, 2) := by decide +kernel
theorem dX5_compareDistance_74 : decode cX5_compareDistance 74 = .ok (.lload 6, 2) := by decide +kernel
theorem dX5_compareDistance_76 : decode cX5_compareDistance 76 = .ok (.lmul, 1) := by decide +kernel
theorem dX5_compareDistance_77 : decode cX5_compareDistance 77 = .ok (.lload 8, 2) := by decide +kernel
theorem dX5_compareDistance_79 : decode cX5_compareDistance 79 = .ok (.lload 8, 2) := by decide +kernel
theorem dX5_compareDistance_81 : decode cX5_compareDistance 81 = .ok (.lmul, 1) := by decide +kernel
theorem dX5_compareDistance_82 : decode cX5_compareDistance 82 = .ok (.ladd, 1) := by decide +kernel
theorem dX5_compareDistance_83 : decode cX5_compareDistance 83 = .ok (.lstore 16, 2) := by decide +kernel
theorem dX5_compareDistance_85 : decode cX5_compareDistance 85 = .ok (.lload 10, 2) := by decide +kernel
theorem dX5_compareDistance_87 : decode cX5_compareDistance 87 = .ok (.lload 6, 2) := by decide +kernel
theorem dX5_compareDistance_89 : decode cX5_compareDistance 89 = .ok (.lmul, 1) := by decide +kernel
theorem dX5_compareDistance_90 : decode cX5_compareDistance 90 = .ok (.lload 12, 2) := by decide +kernel
theorem dX5_compareDistance_92 : decode cX5_compareDistance 92 = .ok (.lload 8, 2) := by decide +kernel
theorem dX5_compareDistance_94 : decode cX5_compareDistance 94 = .ok (.lmul, 1) := by decide +kernel
theorem dX5_compareDistance_95 : decode cX5_compareDistance 95 = .ok (.ladd, 1) := by decide +kernel
theorem dX5_compareDistance_96 : decode cX5_compareDistance 96 = .ok (.lstore 18, 2) := by decide +kernel
theorem dX5_compareDistance_98 : decode cX5_compareDistance 98 = .ok (.lload 18, 2) := by decide +kernel
theorem dX5_compareDistance_100 : decode cX5_compareDistance 100 = .ok (.lconst 0, 1) := by decide +kernel
theorem dX5_compareDistance_101 : decode cX5_compareDistance 101 = .ok (.lcmp, 1) := by decide +kernel
theorem dX5_compareDistance_102 : decode cX5_compareDistance 102 = .ok (.ifCond .gt 20, 3) := by decide +kernel
theorem dX5_compareDistance_105 : decode cX5_compareDistance 105 = .ok (.lload 10, 2) := by decide +kernel
theorem dX5_compareDistance_107 : decode cX5_compareDistance 107 = .ok (.lload 10, 2) := by decide +kernel
theorem dX5_compareDistance_109 : decode cX5_compareDistance 109 = .ok (.lmul, 1) := by decide +kernel
theorem dX5_compareDistance_110 : decode cX5_compareDistance 110 = .ok (.lload 12, 2) := by decide +kernel
theorem dX5_compareDistance_112 : decode cX5_compareDistance 112 = .ok (.lload 12, 2) := by decide +kernel
theorem dX5_compareDistance_114 : decode cX5_compareDistance 114 = .ok (.lmul, 1) := by decide +kernel
theorem dX5_compareDistance_115 : decode cX5_compareDistance 115 = .ok (.ladd, 1) := by decide +kernel
theorem dX5_compareDistance_116 : decode cX5_compareDistance 116 = .ok (.lload 14, 2) := by decide +kernel
theorem dX5_compareDistance_118 : decode cX5_compareDistance 118 = .ok (.invokestatic 72, 3) := by decide +kernel
theorem dX5_compareDistance_121 : decode cX5_compareDistance 121 = .ok (.ireturn, 1) := by decide +kernel
theorem dX5_compareDistance_122 : decode cX5_compareDistance 122 = .ok (.lload 18, 2) := by decide +kernel
theorem dX5_compareDistance_124 : decode cX5_compareDistance 124 = .ok (.lload 16, 2) := by decide +kernel
theorem dX5_compareDistance_126 : decode cX5_compareDistance 126 = .ok (.lcmp, 1) := by decide +kernel
theorem dX5_compareDistance_127 : decode cX5_compareDistance 127 = .ok (.ifCond .lt 34, 3) := by decide +kernel
theorem dX5_compareDistance_130 : decode cX5_compareDistance 130 = .ok (.lload 10, 2) := by decide +kernel
theorem dX5_compareDistance_132 : decode cX5_compareDistance 132 = .ok (.lload 6, 2) := by decide +kernel
theorem dX5_compareDistance_134 : decode cX5_compareDistance 134 = .ok (.lsub, 1) := by decide +kernel
theorem dX5_compareDistance_135 : decode cX5_compareDistance 135 = .ok (.lstore 20, 2) := by decide +kernel
theorem dX5_compareDistance_137 : decode cX5_compareDistance 137 = .ok (.lload 12, 2) := by decide +kernel
theorem dX5_compareDistance_139 : decode cX5_compareDistance 139 = .ok (.lload 8, 2) := by decide +kernel
theorem dX5_compareDistance_141 : decode cX5_compareDistance 141 = .ok (.lsub, 1) := by decide +kernel
theorem dX5_compareDistance_142 : decode cX5_compareDistance 142 = .ok (.lstore 22, 2) := by decide +kernel
theorem dX5_compareDistance_144 : decode cX5_compareDistance 144 = .ok (.lload 20, 2) := by decide +kernel
theorem dX5_compareDistance_146 : decode cX5_compareDistance 146 = .ok (.lload 20, 2) := by decide +kernel
theorem dX5_compareDistance_148 : decode cX5_compareDistance 148 = .ok (.lmul, 1) := by decide +kernel
theorem dX5_compareDistance_149 : decode cX5_compareDistance 149 = .ok (.lload 22, 2) := by decide +kernel
theorem dX5_compareDistance_151 : decode cX5_compareDistance 151 = .ok (.lload 22, 2) := by decide +kernel
theorem dX5_compareDistance_153 : decode cX5_compareDistance 153 = .ok (.lmul, 1) := by decide +kernel
theorem dX5_compareDistance_154 : decode cX5_compareDistance 154 = .ok (.ladd, 1) := by decide +kernel
theorem dX5_compareDistance_155 : decode cX5_compareDistance 155 = .ok (.lload 14, 2) := by decide +kernel
theorem dX5_compareDistance_157 : decode cX5_compareDistance 157 = .ok (.invokestatic 72, 3) := by decide +kernel
theorem dX5_compareDistance_160 : decode cX5_compareDistance 160 = .ok (.ireturn, 1) := by decide +kernel
theorem dX5_compareDistance_161 : decode cX5_compareDistance 161 = .ok (.lload 6, 2) := by decide +kernel
theorem dX5_compareDistance_163 : decode cX5_compareDistance 163 = .ok (.lload 12, 2) := by decide +kernel
theorem dX5_compareDistance_165 : decode cX5_compareDistance 165 = .ok (.lmul, 1) := by decide +kernel
theorem dX5_compareDistance_166 : decode cX5_compareDistance 166 = .ok (.lload 8, 2) := by decide +kernel
theorem dX5_compareDistance_168 : decode cX5_compareDistance 168 = .ok (.lload 10, 2) := by decide +kernel
theorem dX5_compareDistance_170 : decode cX5_compareDistance 170 = .ok (.lmul, 1) := by decide +kernel
theorem dX5_compareDistance_171 : decode cX5_compareDistance 171 = .ok (.lsub, 1) := by decide +kernel
theorem dX5_compareDistance_172 : decode cX5_compareDistance 172 = .ok (.lstore 20, 2) := by decide +kernel
theorem dX5_compareDistance_174 : decode cX5_compareDistance 174 = .ok (.lload 20, 2) := by decide +kernel
theorem dX5_compareDistance_176 : decode cX5_compareDistance 176 = .ok (.lload 20, 2) := by decide +kernel
theorem dX5_compareDistance_178 : decode cX5_compareDistance 178 = .ok (.lmul, 1) := by decide +kernel
theorem dX5_compareDistance_179 : decode cX5_compareDistance 179 = .ok (.lload 14, 2) := by decide +kernel
theorem dX5_compareDistance_181 : decode cX5_compareDistance 181 = .ok (.lload 16, 2) := by decide +kernel
theorem dX5_compareDistance_183 : decode cX5_compareDistance 183 = .ok (.lmul, 1) := by decide +kernel
theorem dX5_compareDistance_184 : decode cX5_compareDistance 184 = .ok (.invokestatic 72, 3) := by decide +kernel
theorem dX5_compareDistance_187 : decode cX5_compareDistance 187 = .ok (.ireturn, 1) := by decide +kernel
theorem dX5_after_0 : decode cX5_after 0 = .ok (.iload_n 1, 1) := by decide +kernel
theorem dX5_after_1 : decode cX5_after 1 = .ok (.iconst 1, 1) := by decide +kernel
theorem dX5_after_2 : decode cX5_after 2 = .ok (.iadd, 1) := by decide +kernel
theorem dX5_after_3 : decode cX5_after 3 = .ok (.aload_n 0, 1) := by decide +kernel
theorem dX5_after_4 : decode cX5_after 4 = .ok (.getfield 18, 3) := by decide +kernel
theorem dX5_after_7 : decode cX5_after 7 = .ok (.if_icmp .ge 9, 3) := by decide +kernel
theorem dX5_after_10 : decode cX5_after 10 = .ok (.iload_n 1, 1) := by decide +kernel
theorem dX5_after_11 : decode cX5_after 11 = .ok (.iconst 1, 1) := by decide +kernel
theorem dX5_after_12 : decode cX5_after 12 = .ok (.iadd, 1) := by decide +kernel
theorem dX5_after_13 : decode cX5_after 13 = .ok (.goto 4, 3) := by decide +kernel
theorem dX5_after_16 : decode cX5_after 16 = .ok (.iconst 0, 1) := by decide +kernel
theorem dX5_after_17 : decode cX5_after 17 = .ok (.ireturn, 1) := by decide +kernel
theorem dX6_init_0 : decode cX6_init 0 = .ok (.aload_n 0, 1) := by decide +kernel
theorem dX6_init_1 : decode cX6_init 1 = .ok (.invokespecial 3, 3) := by decide +kernel
theorem dX6_init_4 : decode cX6_init 4 = .ok (.aload_n 0, 1) := by decide +kernel
theorem dX6_init_5 : decode cX6_init 5 = .ok (.iconst 0, 1) := by decide +kernel
theorem dX6_init_6 : decode cX6_init 6 = .ok (.putfield 9, 3) := by decide +kernel
theorem dX6_init_9 : decode cX6_init 9 = .ok (.aload_n 0, 1) := by decide +kernel
theorem dX6_init_10 : decode cX6_init 10 = .ok (.iconst 0, 1) := by decide +kernel
theorem dX6_init_11 : decode cX6_init 11 = .ok (.putfield 15, 3) := by decide +kernel
theorem dX6_init_14 : decode cX6_init 14 = .ok (.aload_n 0, 1) := by decide +kernel
theorem dX6_init_15 : decode cX6_init 15 = .ok (.iconst (-1), 1) := by decide +kernel
theorem dX6_init_16 : decode cX6_init 16 = .ok (.putfield 18, 3) := by decide +kernel
theorem dX6_init_19 : decode cX6_init 19 = .ok (.aload_n 0, 1) := by decide +kernel
theorem dX6_init_20 : decode cX6_init 20 = .ok (.iconst (-1), 1) := by decide +kernel
theorem dX6_init_21 : decode cX6_init 21 = .ok (.putfield 21, 3) := by decide +kernel
theorem dX6_init_24 : decode cX6_init 24 = .ok (.aload_n 0, 1) := by decide +kernel
theorem dX6_init_25 : decode cX6_init 25 = .ok (.iconst (-1), 1) := by decide +kernel
theorem dX6_init_26 : decode cX6_init 26 = .ok (.putfield 24, 3) := by decide +kernel
theorem dX6_init_29 : decode cX6_init 29 = .ok (.aload_n 0, 1) := by decide +kernel
theorem dX6_init_30 : decode cX6_init 30 = .ok (.iconst (-1), 1) := by decide +kernel
theorem dX6_init_31 : decode cX6_init 31 = .ok (.putfield 27, 3) := by decide +kernel
theorem dX6_init_34 : decode cX6_init 34 = .ok (.return_, 1) := by decide +kernel
set_option maxRecDepth 20000 in
theorem ggX6_bitOf_X7_isWithin : GoodIn wsX6_bitOf wsX7_isWithin := goodIn_r _ [3] (by decide +kernel) (by decide +kernel)
set_option maxRecDepth 20000 in
theorem gX6_bitOf_X7_isWithin_n30 : GoodIn wsX6_bitOf (wsX7_isWithin) := ggX6_bitOf_X7_isWithin
theorem dX6_bitOf_0 : decode cX6_bitOf 0 = .ok (.iload_n 0, 1) := by decide +kernel
theorem dX6_bitOf_1 : decode cX6_bitOf 1 = .ok (.iconst 0, 1) := by decide +kernel
theorem dX6_bitOf_2 : decode cX6_bitOf 2 = .ok (.bipush 15, 2) := by decide +kernel
theorem dX6_bitOf_4 : decode cX6_bitOf 4 = .ok (.invokestatic 30, 3) := by decide +kernel
theorem dX6_bitOf_7 : decode cX6_bitOf 7 = .ok (.ifCond .eq 9, 3) := by decide +kernel
theorem dX6_bitOf_10 : decode cX6_bitOf 10 = .ok (.iconst 1, 1) := by decide +kernel
theorem dX6_bitOf_11 : decode cX6_bitOf 11 = .ok (.iload_n 0, 1) := by decide +kernel
theorem dX6_bitOf_12 : decode cX6_bitOf 12 = .ok (.ishl, 1) := by decide +kernel
theorem dX6_bitOf_13 : decode cX6_bitOf 13 = .ok (.goto 4, 3) := by decide +kernel
theorem dX6_bitOf_16 : decode cX6_bitOf 16 = .ok (.iconst 0, 1) := by decide +kernel
theorem dX6_bitOf_17 : decode cX6_bitOf 17 = .ok (.ireturn, 1) := by decide +kernel
theorem dX6_put_0 : decode cX6_put 0 = .ok (.iload_n 1, 1) := by decide +kernel
theorem dX6_put_1 : decode cX6_put 1 = .ok (.tableswitch 87 0 5 #[39, 47, 55, 63, 71, 79], 39) := by decide +kernel
theorem dX6_put_40 : decode cX6_put 40 = .ok (.aload_n 0, 1) := by decide +kernel
theorem dX6_put_41 : decode cX6_put 41 = .ok (.iload_n 2, 1) := by decide +kernel
theorem dX6_put_42 : decode cX6_put 42 = .ok (.putfield 9, 3) := by decide +kernel
theorem dX6_put_45 : decode cX6_put 45 = .ok (.goto 43, 3) := by decide +kernel
theorem dX6_put_48 : decode cX6_put 48 = .ok (.aload_n 0, 1) := by decide +kernel
theorem dX6_put_49 : decode cX6_put 49 = .ok (.iload_n 2, 1) := by decide +kernel
theorem dX6_put_50 : decode cX6_put 50 = .ok (.putfield 15, 3) := by decide +kernel
theorem dX6_put_53 : decode cX6_put 53 = .ok (.goto 35, 3) := by decide +kernel
theorem dX6_put_56 : decode cX6_put 56 = .ok (.aload_n 0, 1) := by decide +kernel
theorem dX6_put_57 : decode cX6_put 57 = .ok (.iload_n 2, 1) := by decide +kernel
theorem dX6_put_58 : decode cX6_put 58 = .ok (.putfield 18, 3) := by decide +kernel
theorem dX6_put_61 : decode cX6_put 61 = .ok (.goto 27, 3) := by decide +kernel
theorem dX6_put_64 : decode cX6_put 64 = .ok (.aload_n 0, 1) := by decide +kernel
theorem dX6_put_65 : decode cX6_put 65 = .ok (.iload_n 2, 1) := by decide +kernel
theorem dX6_put_66 : decode cX6_put 66 = .ok (.putfield 21, 3) := by decide +kernel
theorem dX6_put_69 : decode cX6_put 69 = .ok (.goto 19, 3) := by decide +kernel
theorem dX6_put_72 : decode cX6_put 72 = .ok (.aload_n 0, 1) := by decide +kernel
theorem dX6_put_73 : decode cX6_put 73 = .ok (.iload_n 2, 1) := by decide +kernel
theorem dX6_put_74 : decode cX6_put 74 = .ok (.putfield 24, 3) := by decide +kernel
theorem dX6_put_77 : decode cX6_put 77 = .ok (.goto 11, 3) := by decide +kernel
theorem dX6_put_80 : decode cX6_put 80 = .ok (.aload_n 0, 1) := by decide +kernel
theorem dX6_put_81 : decode cX6_put 81 = .ok (.iload_n 2, 1) := by decide +kernel
theorem dX6_put_82 : decode cX6_put 82 = .ok (.putfield 27, 3) := by decide +kernel
theorem dX6_put_85 : decode cX6_put 85 = .ok (.goto 3, 3) := by decide +kernel
theorem dX6_put_88 : decode cX6_put 88 = .ok (.return_, 1) := by decide +kernel
set_option maxRecDepth 20000 in
theorem ggX6_names_X6_bitOf : GoodIn wsX6_names wsX6_bitOf := goodIn_r _ [5, 6, 7, 8] (by decide +kernel) (by decide +kernel)
set_option maxRecDepth 20000 in
theorem gX6_names_X6_bitOf : GoodIn wsX6_names (va_wsS RX6 34 yX6_bitOf wsX6_bitOf) := goodIn_app (goodIn_of _ (by decide +kernel)) ggX6_names_X6_bitOf
theorem dX6_names_0 : decode cX6_names 0 = .ok (.aload_n 0, 1) := by decide +kernel
theorem dX6_names_1 : decode cX6_names 1 = .ok (.getfield 9, 3) := by decide +kernel
theorem dX6_names_4 : decode cX6_names 4 = .ok (.iload_n 1, 1) := by decide +kernel
theorem dX6_names_5 : decode cX6_names 5 = .ok (.invokestatic 34, 3) := by decide +kernel
theorem dX6_names_8 : decode cX6_names 8 = .ok (.iand, 1) := by decide +kernel
theorem dX6_names_9 : decode cX6_names 9 = .ok (.ifCond .eq 7, 3) := by decide +kernel
theorem dX6_names_12 : decode cX6_names 12 = .ok (.iconst 1, 1) := by decide +kernel
theorem dX6_names_13 : decode cX6_names 13 = .ok (.goto 4, 3) := by decide +kernel
theorem dX6_names_16 : decode cX6_names 16 = .ok (.iconst 0, 1) := by decide +kernel
theorem dX6_names_17 : decode cX6_names 17 = .ok (.ireturn, 1) := by decide +kernel
set_option maxRecDepth 20000 in
theorem ggX6_allowsUse_X6_bitOf : GoodIn wsX6_allowsUse wsX6_bitOf := goodIn_r _ [5, 6, 7, 8] (by decide +kernel) (by decide +kernel)
set_option maxRecDepth 20000 in
theorem gX6_allowsUse_X6_bitOf : GoodIn wsX6_allowsUse (va_wsS RX6 34 yX6_bitOf wsX6_bitOf) := goodIn_app (goodIn_of _ (by decide +kernel)) ggX6_allowsUse_X6_bitOf
theorem dX6_allowsUse_0 : decode cX6_allowsUse 0 = .ok (.aload_n 0, 1) := by decide +kernel
theorem dX6_allowsUse_1 : decode cX6_allowsUse 1 = .ok (.getfield 15, 3) := by decide +kernel
theorem dX6_allowsUse_4 : decode cX6_allowsUse 4 = .ok (.iload_n 1, 1) := by decide +kernel
theorem dX6_allowsUse_5 : decode cX6_allowsUse 5 = .ok (.invokestatic 34, 3) := by decide +kernel
theorem dX6_allowsUse_8 : decode cX6_allowsUse 8 = .ok (.iand, 1) := by decide +kernel
theorem dX6_allowsUse_9 : decode cX6_allowsUse 9 = .ok (.ifCond .eq 7, 3) := by decide +kernel
theorem dX6_allowsUse_12 : decode cX6_allowsUse 12 = .ok (.iconst 1, 1) := by decide +kernel
theorem dX6_allowsUse_13 : decode cX6_allowsUse 13 = .ok (.goto 4, 3) := by decide +kernel
theorem dX6_allowsUse_16 : decode cX6_allowsUse 16 = .ok (.iconst 0, 1) := by decide +kernel
theorem dX6_allowsUse_17 : decode cX6_allowsUse 17 = .ok (.ireturn, 1) := by decide +kernel
set_option maxRecDepth 20000 in
theorem ggX6_tell_X6_tellUse : GoodIn wsX6_tell wsX6_tellUse := goodIn_r _ [9, 10, 11, 12, 13, 14, 15, 8, 16, 17, 18, 19, 20, 21, 22, 23, 24, 25, 26] (by decide +kernel) (by decide +kernel)
set_option maxRecDepth 20000 in
theorem gX6_tell_X6_tellUse : GoodIn wsX6_tell (wsV RX6 38 RX6 yX6_tellUse wsX6_tellUse) := goodIn_app (goodIn_of _ (by decide +kernel)) ggX6_tell_X6_tellUse
theorem dX6_tell_0 : decode cX6_tell 0 = .ok (.iload_n 1, 1) := by decide +kernel
theorem dX6_tell_1 : decode cX6_tell 1 = .ok (.tableswitch 51 1 4 #[31, 36, 41, 46], 31) := by decide +kernel
theorem dX6_tell_32 : decode cX6_tell 32 = .ok (.aload_n 0, 1) := by decide +kernel
theorem dX6_tell_33 : decode cX6_tell 33 = .ok (.getfield 18, 3) := by decide +kernel
theorem dX6_tell_36 : decode cX6_tell 36 = .ok (.ireturn, 1) := by decide +kernel
theorem dX6_tell_37 : decode cX6_tell 37 = .ok (.aload_n 0, 1) := by decide +kernel
theorem dX6_tell_38 : decode cX6_tell 38 = .ok (.getfield 21, 3) := by decide +kernel
theorem dX6_tell_41 : decode cX6_tell 41 = .ok (.ireturn, 1) := by decide +kernel
theorem dX6_tell_42 : decode cX6_tell 42 = .ok (.aload_n 0, 1) := by decide +kernel
theorem dX6_tell_43 : decode cX6_tell 43 = .ok (.getfield 24, 3) := by decide +kernel
theorem dX6_tell_46 : decode cX6_tell 46 = .ok (.ireturn, 1) := by decide +kernel
theorem dX6_tell_47 : decode cX6_tell 47 = .ok (.aload_n 0, 1) := by decide +kernel
theorem dX6_tell_48 : decode cX6_tell 48 = .ok (.getfield 27, 3) := by decide +kernel
theorem dX6_tell_51 : decode cX6_tell 51 = .ok (.ireturn, 1) := by decide +kernel
theorem dX6_tell_52 : decode cX6_tell 52 = .ok (.aload_n 0, 1) := by decide +kernel
theorem dX6_tell_53 : decode cX6_tell 53 = .ok (.iload_n 1, 1) := by decide +kernel
theorem dX6_tell_54 : decode cX6_tell 54 = .ok (.invokevirtual 38, 3) := by decide +kernel
theorem dX6_tell_57 : decode cX6_tell 57 = .ok (.ireturn, 1) := by decide +kernel
set_option maxRecDepth 20000 in
theorem ggX6_tellUse_X7_isWithin : GoodIn wsX6_tellUse wsX7_isWithin := goodIn_r _ [3] (by decide +kernel) (by decide +kernel)
set_option maxRecDepth 20000 in
theorem gX6_tellUse_X7_isWithin_n30 : GoodIn wsX6_tellUse (wsX7_isWithin) := ggX6_tellUse_X7_isWithin
set_option maxRecDepth 20000 in
theorem ggX6_tellUse_X6_allowsUse : GoodIn wsX6_tellUse wsX6_allowsUse := goodIn_r _ [8, 9, 10, 11, 7, 12, 1, 2, 3, 13, 14, 15, 16, 17, 18] (by decide +kernel) (by decide +kernel)
set_option maxRecDepth 20000 in
theorem gX6_tellUse_X6_allowsUse : GoodIn wsX6_tellUse (wsV RX6 41 RX6 yX6_allowsUse wsX6_allowsUse) := goodIn_app (goodIn_of _ (by decide +kernel)) ggX6_tellUse_X6_allowsUse
theorem dX6_tellUse_0 : decode cX6_tellUse 0 = .ok (.iload_n 1, 1) := by decide +kernel
theorem dX6_tellUse_1 : decode cX6_tellUse 1 = .ok (.bipush 10, 2) := by decide +kernel
theorem dX6_tellUse_3 : decode cX6_tellUse 3 = .ok (.bipush 17, 2) := by decide +kernel
theorem dX6_tellUse_5 : decode cX6_tellUse 5 = .ok (.invokestatic 30, 3) := by decide +kernel
theorem dX6_tellUse_8 : decode cX6_tellUse 8 = .ok (.ifCond .ne 5, 3) := by decide +kernel
theorem dX6_tellUse_11 : decode cX6_tellUse 11 = .ok (.iconst (-1), 1) := by decide +kernel
theorem dX6_tellUse_12 : decode cX6_tellUse 12 = .ok (.ireturn, 1) := by decide +kernel
theorem dX6_tellUse_13 : decode cX6_tellUse 13 = .ok (.aload_n 0, 1) := by decide +kernel
theorem dX6_tellUse_14 : decode cX6_tellUse 14 = .ok (.iload_n 1, 1) := by decide +kernel
theorem dX6_tellUse_15 : decode cX6_tellUse 15 = .ok (.bipush 10, 2) := by decide +kernel
theorem dX6_tellUse_17 : decode cX6_tellUse 17 = .ok (.isub, 1) := by decide +kernel
theorem dX6_tellUse_18 : decode cX6_tellUse 18 = .ok (.invokevirtual 41, 3) := by decide +kernel
theorem dX6_tellUse_21 : decode cX6_tellUse 21 = .ok (.ifCond .eq 7, 3) := by decide +kernel
theorem dX6_tellUse_24 : decode cX6_tellUse 24 = .ok (.iconst 1, 1) := by decide +kernel
theorem dX6_tellUse_25 : decode cX6_tellUse 25 = .ok (.goto 4, 3) := by decide +kernel
theorem dX6_tellUse_28 : decode cX6_tellUse 28 = .ok (.iconst 0, 1) := by decide +kernel
theorem dX6_tellUse_29 : decode cX6_tellUse 29 = .ok (.ireturn, 1) := by decide +kernel
