theorem dX5_isSheet_14 : decode cX5_isSheet 14 = .ok (.ireturn, 1) := by decide +kernel
theorem dX5_isLane_0 : decode cX5_isLane 0 = .ok (.iload_n 0, 1) := by decide +kernel
theorem dX5_isLane_1 : decode cX5_isLane 1 = .ok (.ifCond .lt 12, 3) := by decide +kernel
theorem dX5_isLane_4 : decode cX5_isLane 4 = .ok (.iload_n 0, 1) := by decide +kernel
theorem dX5_isLane_5 : decode cX5_isLane 5 = .ok (.iconst 2, 1) := by decide +kernel
theorem dX5_isLane_6 : decode cX5_isLane 6 = .ok (.if_icmp .gt 7, 3) := by decide +kernel
theorem dX5_isLane_9 : decode cX5_isLane 9 = .ok (.iconst 1, 1) := by decide +kernel
theorem dX5_isLane_10 : decode cX5_isLane 10 = .ok (.goto 4, 3) := by decide +kernel
theorem dX5_isLane_13 : decode cX5_isLane 13 = .ok (.iconst 0, 1) := by decide +kernel
theorem dX5_isLane_14 : decode cX5_isLane 14 = .ok (.ireturn, 1) := by decide +kernel
theorem dX5_faulty_0 : decode cX5_faulty 0 = .ok (.aload_n 0, 1) := by decide +kernel
theorem dX5_faulty_1 : decode cX5_faulty 1 = .ok (.iload_n 1, 1) := by decide +kernel
theorem dX5_faulty_2 : decode cX5_faulty 2 = .ok (.putfield 53, 3) := by decide +kernel
theorem dX5_faulty_5 : decode cX5_faulty 5 = .ok (.bipush (-10), 2) := by decide +kernel
theorem dX5_faulty_7 : decode cX5_faulty 7 = .ok (.iload_n 1, 1) := by decide +kernel
theorem dX5_faulty_8 : decode cX5_faulty 8 = .ok (.isub, 1) := by decide +kernel
theorem dX5_faulty_9 : decode cX5_faulty 9 = .ok (.ireturn, 1) := by decide +kernel
theorem dX5_commonDivisor_0 : decode cX5_commonDivisor 0 = .ok (.iload_n 1, 1) := by decide +kernel
theorem dX5_commonDivisor_1 : decode cX5_commonDivisor 1 = .ok (.istore_n 2, 1) := by decide +kernel
theorem dX5_commonDivisor_2 : decode cX5_commonDivisor 2 = .ok (.iload_n 2, 1) := by decide +kernel
theorem dX5_commonDivisor_3 : decode cX5_commonDivisor 3 = .ok (.iconst 1, 1) := by decide +kernel
theorem dX5_commonDivisor_4 : decode cX5_commonDivisor 4 = .ok (.if_icmp .le 23, 3) := by decide +kernel
theorem dX5_commonDivisor_7 : decode cX5_commonDivisor 7 = .ok (.iload_n 0, 1) := by decide +kernel
theorem dX5_commonDivisor_8 : decode cX5_commonDivisor 8 = .ok (.iload_n 2, 1) := by decide +kernel
theorem dX5_commonDivisor_9 : decode cX5_commonDivisor 9 = .ok (.irem, 1) := by decide +kernel
theorem dX5_commonDivisor_10 : decode cX5_commonDivisor 10 = .ok (.ifCond .ne 11, 3) := by decide +kernel
theorem dX5_commonDivisor_13 : decode cX5_commonDivisor 13 = .ok (.iload_n 1, 1) := by decide +kernel
theorem dX5_commonDivisor_14 : decode cX5_commonDivisor 14 = .ok (.iload_n 2, 1) := by decide +kernel
theorem dX5_commonDivisor_15 : decode cX5_commonDivisor 15 = .ok (.irem, 1) := by decide +kernel
theorem dX5_commonDivisor_16 : decode cX5_commonDivisor 16 = .ok (.ifCond .ne 5, 3) := by decide +kernel
theorem dX5_commonDivisor_19 : decode cX5_commonDivisor 19 = .ok (.iload_n 2, 1) := by decide +kernel
theorem dX5_commonDivisor_20 : decode cX5_commonDivisor 20 = .ok (.ireturn, 1) := by decide +kernel
theorem dX5_commonDivisor_21 : decode cX5_commonDivisor 21 = .ok (.iinc 2 (-1), 3) := by decide +kernel
theorem dX5_commonDivisor_24 : decode cX5_commonDivisor 24 = .ok (.goto (-22), 3) := by decide +kernel
theorem dX5_commonDivisor_27 : decode cX5_commonDivisor 27 = .ok (.iconst 1, 1) := by decide +kernel
theorem dX5_commonDivisor_28 : decode cX5_commonDivisor 28 = .ok (.ireturn, 1) := by decide +kernel
theorem dX5_isAskedOfSeason_0 : decode cX5_isAskedOfSeason 0 = .ok (.iload_n 0, 1) := by decide +kernel
theorem dX5_isAskedOfSeason_1 : decode cX5_isAskedOfSeason 1 = .ok (.ifCond .lt 8, 3) := by decide +kernel
theorem dX5_isAskedOfSeason_4 : decode cX5_isAskedOfSeason 4 = .ok (.iload_n 0, 1) := by decide +kernel
theorem dX5_isAskedOfSeason_5 : decode cX5_isAskedOfSeason 5 = .ok (.iconst 4, 1) := by decide +kernel
theorem dX5_isAskedOfSeason_6 : decode cX5_isAskedOfSeason 6 = .ok (.if_icmp .le 15, 3) := by decide +kernel
theorem dX5_isAskedOfSeason_9 : decode cX5_isAskedOfSeason 9 = .ok (.iload_n 0, 1) := by decide +kernel
theorem dX5_isAskedOfSeason_10 : decode cX5_isAskedOfSeason 10 = .ok (.bipush 10, 2) := by decide +kernel
theorem dX5_isAskedOfSeason_12 : decode cX5_isAskedOfSeason 12 = .ok (.if_icmp .lt 13, 3) := by decide +kernel
theorem dX5_isAskedOfSeason_15 : decode cX5_isAskedOfSeason 15 = .ok (.iload_n 0, 1) := by decide +kernel
theorem dX5_isAskedOfSeason_16 : decode cX5_isAskedOfSeason 16 = .ok (.bipush 14, 2) := by decide +kernel
theorem dX5_isAskedOfSeason_18 : decode cX5_isAskedOfSeason 18 = .ok (.if_icmp .ge 7, 3) := by decide +kernel
theorem dX5_isAskedOfSeason_21 : decode cX5_isAskedOfSeason 21 = .ok (.iconst 1, 1) := by decide +kernel
theorem dX5_isAskedOfSeason_22 : decode cX5_isAskedOfSeason 22 = .ok (.goto 4, 3) := by decide +kernel
theorem dX5_isAskedOfSeason_25 : decode cX5_isAskedOfSeason 25 = .ok (.iconst 0, 1) := by decide +kernel
theorem dX5_isAskedOfSeason_26 : decode cX5_isAskedOfSeason 26 = .ok (.ireturn, 1) := by decide +kernel
set_option maxRecDepth 20000 in
theorem ggX5_refusalOfActs_X5_refusalOfAct : GoodIn wsX5_refusalOfActs wsX5_refusalOfAct := goodIn_r _ [6, 7, 8, 9, 10, 11, 12, 13, 14, 15, 16, 17, 18, 23, 24, 25, 26, 27, 28, 29, 30, 31, 32, 33, 34, 35, 36, 37, 38, 39, 40, 41, 42] (by decide +kernel) (by decide +kernel)
set_option maxRecDepth 20000 in
theorem gX5_refusalOfActs_X5_refusalOfAct : GoodIn wsX5_refusalOfActs (wsV RX5 257 RX5 yX5_refusalOfAct wsX5_refusalOfAct) := goodIn_app (goodIn_of _ (by decide +kernel)) ggX5_refusalOfActs_X5_refusalOfAct
theorem dX5_refusalOfActs_0 : decode cX5_refusalOfActs 0 = .ok (.iconst 0, 1) := by decide +kernel
theorem dX5_refusalOfActs_1 : decode cX5_refusalOfActs 1 = .ok (.istore 4, 2) := by decide +kernel
theorem dX5_refusalOfActs_3 : decode cX5_refusalOfActs 3 = .ok (.iload 4, 2) := by decide +kernel
theorem dX5_refusalOfActs_5 : decode cX5_refusalOfActs 5 = .ok (.iload_n 3, 1) := by decide +kernel
theorem dX5_refusalOfActs_6 : decode cX5_refusalOfActs 6 = .ok (.if_icmp .ge 47, 3) := by decide +kernel
theorem dX5_refusalOfActs_9 : decode cX5_refusalOfActs 9 = .ok (.aload_n 0, 1) := by decide +kernel
theorem dX5_refusalOfActs_10 : decode cX5_refusalOfActs 10 = .ok (.aload_n 1, 1) := by decide +kernel
theorem dX5_refusalOfActs_11 : decode cX5_refusalOfActs 11 = .ok (.getfield 224, 3) := by decide +kernel
theorem dX5_refusalOfActs_14 : decode cX5_refusalOfActs 14 = .ok (.iload_n 2, 1) := by decide +kernel
theorem dX5_refusalOfActs_15 : decode cX5_refusalOfActs 15 = .ok (.iconst 2, 1) := by decide +kernel
theorem dX5_refusalOfActs_16 : decode cX5_refusalOfActs 16 = .ok (.iload 4, 2) := by decide +kernel
theorem dX5_refusalOfActs_18 : decode cX5_refusalOfActs 18 = .ok (.imul, 1) := by decide +kernel
theorem dX5_refusalOfActs_19 : decode cX5_refusalOfActs 19 = .ok (.iadd, 1) := by decide +kernel
theorem dX5_refusalOfActs_20 : decode cX5_refusalOfActs 20 = .ok (.iaload, 1) := by decide +kernel
theorem dX5_refusalOfActs_21 : decode cX5_refusalOfActs 21 = .ok (.aload_n 1, 1) := by decide +kernel
theorem dX5_refusalOfActs_22 : decode cX5_refusalOfActs 22 = .ok (.getfield 224, 3) := by decide +kernel
theorem dX5_refusalOfActs_25 : decode cX5_refusalOfActs 25 = .ok (.iload_n 2, 1) := by decide +kernel
theorem dX5_refusalOfActs_26 : decode cX5_refusalOfActs 26 = .ok (.iconst 2, 1) := by decide +kernel
theorem dX5_refusalOfActs_27 : decode cX5_refusalOfActs 27 = .ok (.iload 4, 2) := by decide +kernel
theorem dX5_refusalOfActs_29 : decode cX5_refusalOfActs 29 = .ok (.imul, 1) := by decide +kernel
theorem dX5_refusalOfActs_30 : decode cX5_refusalOfActs 30 = .ok (.iadd, 1) := by decide +kernel
theorem dX5_refusalOfActs_31 : decode cX5_refusalOfActs 31 = .ok (.iconst 1, 1) := by decide +kernel
theorem dX5_refusalOfActs_32 : decode cX5_refusalOfActs 32 = .ok (.iadd, 1) := by decide +kernel
theorem dX5_refusalOfActs_33 : decode cX5_refusalOfActs 33 = .ok (.iaload, 1) := by decide +kernel
theorem dX5_refusalOfActs_34 : decode cX5_refusalOfActs 34 = .ok (.invokevirtual 257, 3) := by decide +kernel
theorem dX5_refusalOfActs_37 : decode cX5_refusalOfActs 37 = .ok (.istore 5, 2) := by decide +kernel
theorem dX5_refusalOfActs_39 : decode cX5_refusalOfActs 39 = .ok (.iload 5, 2) := by decide +kernel
theorem dX5_refusalOfActs_41 : decode cX5_refusalOfActs 41 = .ok (.ifCond .eq 6, 3) := by decide +kernel
theorem dX5_refusalOfActs_44 : decode cX5_refusalOfActs 44 = .ok (.iload 5, 2) := by decide +kernel
theorem dX5_refusalOfActs_46 : decode cX5_refusalOfActs 46 = .ok (.ireturn, 1) := by decide +kernel
theorem dX5_refusalOfActs_47 : decode cX5_refusalOfActs 47 = .ok (.iinc 4 1, 3) := by decide +kernel
theorem dX5_refusalOfActs_50 : decode cX5_refusalOfActs 50 = .ok (.goto (-47), 3) := by decide +kernel
theorem dX5_refusalOfActs_53 : decode cX5_refusalOfActs 53 = .ok (.iconst 0, 1) := by decide +kernel
theorem dX5_refusalOfActs_54 : decode cX5_refusalOfActs 54 = .ok (.ireturn, 1) := by decide +kernel
set_option maxRecDepth 20000 in
theorem ggX5_refusalOfAct_X3_hasClock : GoodIn wsX5_refusalOfAct wsX3_hasClock := goodIn_r _ [6, 7, 23, 24, 25, 26, 27, 28, 29, 30, 31, 32] (by decide +kernel) (by decide +kernel)
set_option maxRecDepth 20000 in
theorem gX5_refusalOfAct_X3_hasClock : GoodIn wsX5_refusalOfAct (wsV RX5 110 RX3 yX3_hasClock wsX3_hasClock) := goodIn_app (goodIn_of _ (by decide +kernel)) ggX5_refusalOfAct_X3_hasClock
set_option maxRecDepth 20000 in
theorem ggX5_refusalOfAct_X3_hasHouse : GoodIn wsX5_refusalOfAct wsX3_hasHouse := goodIn_r _ [11, 12, 23, 24, 25, 26, 27, 28, 29, 30, 31, 32] (by decide +kernel) (by decide +kernel)
set_option maxRecDepth 20000 in
theorem gX5_refusalOfAct_X3_hasHouse : GoodIn wsX5_refusalOfAct (wsV RX5 92 RX3 yX3_hasHouse wsX3_hasHouse) := goodIn_app (goodIn_of _ (by decide +kernel)) ggX5_refusalOfAct_X3_hasHouse
theorem dX5_refusalOfAct_0 : decode cX5_refusalOfAct 0 = .ok (.iload_n 2, 1) := by decide +kernel
theorem dX5_refusalOfAct_1 : decode cX5_refusalOfAct 1 = .ok (.tableswitch 65 0 3 #[31, 31, 31, 48], 31) := by decide +kernel
theorem dX5_refusalOfAct_32 : decode cX5_refusalOfAct 32 = .ok (.aload_n 0, 1) := by decide +kernel
theorem dX5_refusalOfAct_33 : decode cX5_refusalOfAct 33 = .ok (.getfield 12, 3) := by decide +kernel
theorem dX5_refusalOfAct_36 : decode cX5_refusalOfAct 36 = .ok (.iload_n 1, 1) := by decide +kernel
theorem dX5_refusalOfAct_37 : decode cX5_refusalOfAct 37 = .ok (.invokevirtual 110, 3) := by decide +kernel
theorem dX5_refusalOfAct_40 : decode cX5_refusalOfAct 40 = .ok (.ifCond .eq 7, 3) := by decide +kernel
theorem dX5_refusalOfAct_43 : decode cX5_refusalOfAct 43 = .ok (.iconst 0, 1) := by decide +kernel
theorem dX5_refusalOfAct_44 : decode cX5_refusalOfAct 44 = .ok (.goto 4, 3) := by decide +kernel
theorem dX5_refusalOfAct_47 : decode cX5_refusalOfAct 47 = .ok (.iconst (-1), 1) := by decide +kernel
theorem dX5_refusalOfAct_48 : decode cX5_refusalOfAct 48 = .ok (.ireturn, 1) := by decide +kernel
theorem dX5_refusalOfAct_49 : decode cX5_refusalOfAct 49 = .ok (.iload_n 1, 1) := by decide +kernel
theorem dX5_refusalOfAct_50 : decode cX5_refusalOfAct 50 = .ok (.ifCond .lt 13, 3) := by decide +kernel
theorem dX5_refusalOfAct_53 : decode cX5_refusalOfAct 53 = .ok (.iload_n 1, 1) := by decide +kernel
theorem dX5_refusalOfAct_54 : decode cX5_refusalOfAct 54 = .ok (.bipush 9, 2) := by decide +kernel
theorem dX5_refusalOfAct_56 : decode cX5_refusalOfAct 56 = .ok (.if_icmp .gt 7, 3) := by decide +kernel
theorem dX5_refusalOfAct_59 : decode cX5_refusalOfAct 59 = .ok (.iconst 0, 1) := by decide +kernel
theorem dX5_refusalOfAct_60 : decode cX5_refusalOfAct 60 = .ok (.goto 5, 3) := by decide +kernel
theorem dX5_refusalOfAct_63 : decode cX5_refusalOfAct 63 = .ok (.bipush (-2), 2) := by decide +kernel
theorem dX5_refusalOfAct_65 : decode cX5_refusalOfAct 65 = .ok (.ireturn, 1) := by decide +kernel
theorem dX5_refusalOfAct_66 : decode cX5_refusalOfAct 66 = .ok (.iload_n 2, 1) := by decide +kernel
theorem dX5_refusalOfAct_67 : decode cX5_refusalOfAct 67 = .ok (.bipush 10, 2) := by decide +kernel
theorem dX5_refusalOfAct_69 : decode cX5_refusalOfAct 69 = .ok (.if_icmp .lt 9, 3) := by decide +kernel
theorem dX5_refusalOfAct_72 : decode cX5_refusalOfAct 72 = .ok (.iload_n 2, 1) := by decide +kernel
theorem dX5_refusalOfAct_73 : decode cX5_refusalOfAct 73 = .ok (.bipush 14, 2) := by decide +kernel
theorem dX5_refusalOfAct_75 : decode cX5_refusalOfAct 75 = .ok (.if_icmp .lt 6, 3) := by decide +kernel
theorem dX5_refusalOfAct_78 : decode cX5_refusalOfAct 78 = .ok (.bipush (-2), 2) := by decide +kernel
theorem dX5_refusalOfAct_80 : decode cX5_refusalOfAct 80 = .ok (.ireturn, 1) := by decide +kernel
theorem dX5_refusalOfAct_81 : decode cX5_refusalOfAct 81 = .ok (.aload_n 0, 1) := by decide +kernel
theorem dX5_refusalOfAct_82 : decode cX5_refusalOfAct 82 = .ok (.getfield 12, 3) := by decide +kernel
theorem dX5_refusalOfAct_85 : decode cX5_refusalOfAct 85 = .ok (.iload_n 1, 1) := by decide +kernel
theorem dX5_refusalOfAct_86 : decode cX5_refusalOfAct 86 = .ok (.invokevirtual 92, 3) := by decide +kernel
theorem dX5_refusalOfAct_89 : decode cX5_refusalOfAct 89 = .ok (.ifCond .eq 7, 3) := by decide +kernel
theorem dX5_refusalOfAct_92 : decode cX5_refusalOfAct 92 = .ok (.iconst 0, 1) := by decide +kernel
theorem dX5_refusalOfAct_93 : decode cX5_refusalOfAct 93 = .ok (.goto 4, 3) := by decide +kernel
theorem dX5_refusalOfAct_96 : decode cX5_refusalOfAct 96 = .ok (.iconst (-1), 1) := by decide +kernel
theorem dX5_refusalOfAct_97 : decode cX5_refusalOfAct 97 = .ok (.ireturn, 1) := by decide +kernel
set_option maxRecDepth 20000 in
theorem ggX5_playOnTrial_X3_become : GoodIn wsX5_playOnTrial wsX3_become := goodIn_r _ [8, 9, 10, 11, 12, 13, 14, 15, 16, 17, 18, 19, 7, 20, 21, 22, 92, 93, 94, 95, 96, 97, 98, 99, 100, 101] (by decide +kernel) (by decide +kernel)
set_option maxRecDepth 20000 in
theorem gX5_playOnTrial_X3_become : GoodIn wsX5_playOnTrial (wsV RX5 79 RX3 yX3_become wsX3_become) := goodIn_app (goodIn_of _ (by decide +kernel)) ggX5_playOnTrial_X3_become
set_option maxRecDepth 20000 in
theorem ggX5_playOnTrial_X5_canAct : GoodIn wsX5_playOnTrial wsX5_canAct := goodIn_r _ [27, 1, 28, 29, 30, 7, 31, 15, 22, 21, 32, 33, 34, 35, 9, 36, 37, 38, 39, 16, 40, 41, 42, 43, 14, 44, 45, 46, 47, 11, 48, 49, 50, 51, 52, 53, 54, 55, 12, 13, 56, 57, 58, 59, 60, 61, 26, 62, 63, 64, 65, 66, 67, 10, 68, 69, 70, 71, 72, 73, 74, 75, 76, 77, 78, 79, 80, 81, 82, 83, 84, 85, 86, 87, 92, 93, 94, 95, 96, 97, 98, 99, 100, 101] (by decide +kernel) (by decide +kernel)
set_option maxRecDepth 20000 in
theorem gX5_playOnTrial_X5_canAct : GoodIn wsX5_playOnTrial (wsV RX5 260 RX5 yX5_canAct wsX5_canAct) := goodIn_app (goodIn_of _ (by decide +kernel)) ggX5_playOnTrial_X5_canAct
theorem dX5_playOnTrial_0 : decode cX5_playOnTrial 0 = .ok (.aload_n 0, 1) := by decide +kernel
theorem dX5_playOnTrial_1 : decode cX5_playOnTrial 1 = .ok (.getfield 18, 3) := by decide +kernel
theorem dX5_playOnTrial_4 : decode cX5_playOnTrial 4 = .ok (.aload_n 0, 1) := by decide +kernel
theorem dX5_playOnTrial_5 : decode cX5_playOnTrial 5 = .ok (.getfield 12, 3) := by decide +kernel
theorem dX5_playOnTrial_8 : decode cX5_playOnTrial 8 = .ok (.invokevirtual 79, 3) := by decide +kernel
theorem dX5_playOnTrial_11 : decode cX5_playOnTrial 11 = .ok (.iconst 0, 1) := by decide +kernel
theorem dX5_playOnTrial_12 : decode cX5_playOnTrial 12 = .ok (.istore 4, 2) := by decide +kernel
theorem dX5_playOnTrial_14 : decode cX5_playOnTrial 14 = .ok (.iload 4, 2) := by decide +kernel
theorem dX5_playOnTrial_16 : decode cX5_playOnTrial 16 = .ok (.iload_n 3, 1) := by decide +kernel
theorem dX5_playOnTrial_17 : decode cX5_playOnTrial 17 = .ok (.if_icmp .ge 43, 3) := by decide +kernel
theorem dX5_playOnTrial_20 : decode cX5_playOnTrial 20 = .ok (.aload_n 0, 1) := by decide +kernel
theorem dX5_playOnTrial_21 : decode cX5_playOnTrial 21 = .ok (.aload_n 1, 1) := by decide +kernel
theorem dX5_playOnTrial_22 : decode cX5_playOnTrial 22 = .ok (.getfield 224, 3) := by decide +kernel
theorem dX5_playOnTrial_25 : decode cX5_playOnTrial 25 = .ok (.iload_n 2, 1) := by decide +kernel
theorem dX5_playOnTrial_26 : decode cX5_playOnTrial 26 = .ok (.iconst 2, 1) := by decide +kernel
theorem dX5_playOnTrial_27 : decode cX5_playOnTrial 27 = .ok (.iload 4, 2) := by decide +kernel
theorem dX5_playOnTrial_29 : decode cX5_playOnTrial 29 = .ok (.imul, 1) := by decide +kernel
theorem dX5_playOnTrial_30 : decode cX5_playOnTrial 30 = .ok (.iadd, 1) := by decide +kernel
theorem dX5_playOnTrial_31 : decode cX5_playOnTrial 31 = .ok (.iaload, 1) := by decide +kernel
theorem dX5_playOnTrial_32 : decode cX5_playOnTrial 32 = .ok (.aload_n 1, 1) := by decide +kernel
theorem dX5_playOnTrial_33 : decode cX5_playOnTrial 33 = .ok (.getfield 224, 3) := by decide +kernel
theorem dX5_playOnTrial_36 : decode cX5_playOnTrial 36 = .ok (.iload_n 2, 1) := by decide +kernel
theorem dX5_playOnTrial_37 : decode cX5_playOnTrial 37 = .ok (.iconst 2, 1) := by decide +kernel
theorem dX5_playOnTrial_38 : decode cX5_playOnTrial 38 = .ok (.iload 4, 2) := by decide +kernel
theorem dX5_playOnTrial_40 : decode cX5_playOnTrial 40 = .ok (.imul, 1) := by decide +kernel
theorem dX5_playOnTrial_41 : decode cX5_playOnTrial 41 = .ok (.iadd, 1) := by decide +kernel
theorem dX5_playOnTrial_42 : decode cX5_playOnTrial 42 = .ok (.iconst 1, 1) := by decide +kernel
theorem dX5_playOnTrial_43 : decode cX5_playOnTrial 43 = .ok (.iadd, 1) := by decide +kernel
theorem dX5_playOnTrial_44 : decode cX5_playOnTrial 44 = .ok (.iaload, 1) := by decide +kernel
theorem dX5_playOnTrial_45 : decode cX5_playOnTrial 45 = .ok (.invokevirtual 260, 3) := by decide +kernel
theorem dX5_playOnTrial_48 : decode cX5_playOnTrial 48 = .ok (.ifCond .ne 6, 3) := by decide +kernel
theorem dX5_playOnTrial_51 : decode cX5_playOnTrial 51 = .ok (.iload 4, 2) := by decide +kernel
theorem dX5_playOnTrial_53 : decode cX5_playOnTrial 53 = .ok (.ireturn, 1) := by decide +kernel
theorem dX5_playOnTrial_54 : decode cX5_playOnTrial 54 = .ok (.iinc 4 1, 3) := by decide +kernel
theorem dX5_playOnTrial_57 : decode cX5_playOnTrial 57 = .ok (.goto (-43), 3) := by decide +kernel
theorem dX5_playOnTrial_60 : decode cX5_playOnTrial 60 = .ok (.bipush (-9), 2) := by decide +kernel
theorem dX5_playOnTrial_62 : decode cX5_playOnTrial 62 = .ok (.ireturn, 1) := by decide +kernel
set_option maxRecDepth 20000 in
theorem ggX5_canAct_X3_strike : GoodIn wsX5_canAct wsX3_strike := goodIn_r _ [6, 7, 8, 9, 10, 11, 12, 5, 13, 14, 15, 16, 17, 18, 19, 20, 21, 22, 23, 24, 25, 26, 27, 28, 29, 30, 31, 32, 33, 34, 35, 36, 37, 38, 39, 40, 41, 42, 74, 75, 76, 77, 78, 79, 80, 81, 82, 83] (by decide +kernel) (by decide +kernel)
set_option maxRecDepth 20000 in
theorem gX5_canAct_X3_strike : GoodIn wsX5_canAct (wsV RX5 146 RX3 yX3_strike wsX3_strike) := goodIn_app (goodIn_of _ (by decide +kernel)) ggX5_canAct_X3_strike
set_option maxRecDepth 20000 in
theorem ggX5_canAct_X5_canTurn : GoodIn wsX5_canAct wsX5_canTurn := goodIn_r _ [47, 1, 48, 64, 65, 66, 67, 68, 69, 70, 71, 72, 73, 74, 75, 76, 77, 78, 79, 80, 81, 82, 83] (by decide +kernel) (by decide +kernel)
set_option maxRecDepth 20000 in
theorem gX5_canAct_X5_canTurn : GoodIn wsX5_canAct (wsV RX5 263 RX5 yX5_canTurn wsX5_canTurn) := goodIn_app (goodIn_of _ (by decide +kernel)) ggX5_canAct_X5_canTurn
set_option maxRecDepth 20000 in
theorem ggX5_canAct_X3_passNights : GoodIn wsX5_canAct wsX3_passNights := goodIn_r _ [52, 53, 54, 3, 4, 5, 6, 7, 8, 9, 10, 11, 12, 13, 14, 15, 16, 17, 18, 19, 20, 21, 22, 23, 24, 25, 26, 27, 28, 29, 30, 31, 32, 33, 34, 35, 36, 37, 38, 39, 40, 41, 42, 74, 75, 76, 77, 78, 79, 80, 81, 82, 83] (by decide +kernel) (by decide +kernel)
set_option maxRecDepth 20000 in
theorem gX5_canAct_X3_passNights : GoodIn wsX5_canAct (wsV RX5 149 RX3 yX3_passNights wsX3_passNights) := goodIn_app (goodIn_of _ (by decide +kernel)) ggX5_canAct_X3_passNights
set_option maxRecDepth 20000 in
theorem ggX5_canAct_X5_canCarry : GoodIn wsX5_canAct wsX5_canCarry := goodIn_r _ [58, 1, 59, 60, 61, 62, 5, 63, 53, 64, 65, 66, 67, 68, 69, 70, 71, 72, 73, 74, 75, 76, 77, 78, 79, 80, 81, 82, 83] (by decide +kernel) (by decide +kernel)
set_option maxRecDepth 20000 in
theorem gX5_canAct_X5_canCarry : GoodIn wsX5_canAct (wsV RX5 267 RX5 yX5_canCarry wsX5_canCarry) := goodIn_app (goodIn_of _ (by decide +kernel)) ggX5_canAct_X5_canCarry
theorem dX5_canAct_0 : decode cX5_canAct 0 = .ok (.iload_n 2, 1) := by decide +kernel
theorem dX5_canAct_1 : decode cX5_canAct 1 = .ok (.tableswitch 66 0 3 #[31, 42, 49, 56], 31) := by decide +kernel
theorem dX5_canAct_32 : decode cX5_canAct 32 = .ok (.aload_n 0, 1) := by decide +kernel
theorem dX5_canAct_33 : decode cX5_canAct 33 = .ok (.getfield 18, 3) := by decide +kernel
theorem dX5_canAct_36 : decode cX5_canAct 36 = .ok (.iload_n 1, 1) := by decide +kernel
theorem dX5_canAct_37 : decode cX5_canAct 37 = .ok (.invokevirtual 146, 3) := by decide +kernel
theorem dX5_canAct_40 : decode cX5_canAct 40 = .ok (.pop, 1) := by decide +kernel
theorem dX5_canAct_41 : decode cX5_canAct 41 = .ok (.iconst 1, 1) := by decide +kernel
theorem dX5_canAct_42 : decode cX5_canAct 42 = .ok (.ireturn, 1) := by decide +kernel
theorem dX5_canAct_43 : decode cX5_canAct 43 = .ok (.aload_n 0, 1) := by decide +kernel
theorem dX5_canAct_44 : decode cX5_canAct 44 = .ok (.iload_n 1, 1) := by decide +kernel
theorem dX5_canAct_45 : decode cX5_canAct 45 = .ok (.iconst 1, 1) := by decide +kernel
theorem dX5_canAct_46 : decode cX5_canAct 46 = .ok (.invokevirtual 263, 3) := by decide +kernel
theorem dX5_canAct_49 : decode cX5_canAct 49 = .ok (.ireturn, 1) := by decide +kernel
theorem dX5_canAct_50 : decode cX5_canAct 50 = .ok (.aload_n 0, 1) := by decide +kernel
theorem dX5_canAct_51 : decode cX5_canAct 51 = .ok (.iload_n 1, 1) := by decide +kernel
theorem dX5_canAct_52 : decode cX5_canAct 52 = .ok (.iconst 0, 1) := by decide +kernel
theorem dX5_canAct_53 : decode cX5_canAct 53 = .ok (.invokevirtual 263, 3) := by decide +kernel
theorem dX5_canAct_56 : decode cX5_canAct 56 = .ok (.ireturn, 1) := by decide +kernel
theorem dX5_canAct_57 : decode cX5_canAct 57 = .ok (.aload_n 0, 1) := by decide +kernel
theorem dX5_canAct_58 : decode cX5_canAct 58 = .ok (.getfield 18, 3) := by decide +kernel
theorem dX5_canAct_61 : decode cX5_canAct 61 = .ok (.iload_n 1, 1) := by decide +kernel
theorem dX5_canAct_62 : decode cX5_canAct 62 = .ok (.invokevirtual 149, 3) := by decide +kernel
theorem dX5_canAct_65 : decode cX5_canAct 65 = .ok (.iconst 1, 1) := by decide +kernel
theorem dX5_canAct_66 : decode cX5_canAct 66 = .ok (.ireturn, 1) := by decide +kernel
theorem dX5_canAct_67 : decode cX5_canAct 67 = .ok (.aload_n 0, 1) := by decide +kernel
theorem dX5_canAct_68 : decode cX5_canAct 68 = .ok (.iload_n 2, 1) := by decide +kernel
theorem dX5_canAct_69 : decode cX5_canAct 69 = .ok (.bipush 10, 2) := by decide +kernel
theorem dX5_canAct_71 : decode cX5_canAct 71 = .ok (.isub, 1) := by decide +kernel
theorem dX5_canAct_72 : decode cX5_canAct 72 = .ok (.iload_n 1, 1) := by decide +kernel
theorem dX5_canAct_73 : decode cX5_canAct 73 = .ok (.invokevirtual 267, 3) := by decide +kernel
theorem dX5_canAct_76 : decode cX5_canAct 76 = .ok (.ireturn, 1) := by decide +kernel
theorem dX5_canTurn_0 : decode cX5_canTurn 0 = .ok (.aload_n 0, 1) := by decide +kernel
theorem dX5_canTurn_1 : decode cX5_canTurn 1 = .ok (.getfield 18, 3) := by decide +kernel
theorem dX5_canTurn_4 : decode cX5_canTurn 4 = .ok (.getfield 122, 3) := by decide +kernel
theorem dX5_canTurn_7 : decode cX5_canTurn 7 = .ok (.iload_n 1, 1) := by decide +kernel
theorem dX5_canTurn_8 : decode cX5_canTurn 8 = .ok (.baload, 1) := by decide +kernel
theorem dX5_canTurn_9 : decode cX5_canTurn 9 = .ok (.iload_n 2, 1) := by decide +kernel
theorem dX5_canTurn_10 : decode cX5_canTurn 10 = .ok (.if_icmp .ne 5, 3) := by decide +kernel
theorem dX5_canTurn_13 : decode cX5_canTurn 13 = .ok (.iconst 0, 1) := by decide +kernel
theorem dX5_canTurn_14 : decode cX5_canTurn 14 = .ok (.ireturn, 1) := by decide +kernel
theorem dX5_canTurn_15 : decode cX5_canTurn 15 = .ok (.aload_n 0, 1) := by decide +kernel
theorem dX5_canTurn_16 : decode cX5_canTurn 16 = .ok (.getfield 18, 3) := by decide +kernel
theorem dX5_canTurn_19 : decode cX5_canTurn 19 = .ok (.getfield 122, 3) := by decide +kernel
theorem dX5_canTurn_22 : decode cX5_canTurn 22 = .ok (.iload_n 1, 1) := by decide +kernel
theorem dX5_canTurn_23 : decode cX5_canTurn 23 = .ok (.iload_n 2, 1) := by decide +kernel
theorem dX5_canTurn_24 : decode cX5_canTurn 24 = .ok (.bastore, 1) := by decide +kernel
theorem dX5_canTurn_25 : decode cX5_canTurn 25 = .ok (.iconst 1, 1) := by decide +kernel
theorem dX5_canTurn_26 : decode cX5_canTurn 26 = .ok (.ireturn, 1) := by decide +kernel
set_option maxRecDepth 20000 in
theorem ggX5_canCarry_X3_hasClock : GoodIn wsX5_canCarry wsX3_hasClock := goodIn_r _ [7, 8, 19, 20, 21, 22, 23, 24, 25, 26, 27, 28] (by decide +kernel) (by decide +kernel)
set_option maxRecDepth 20000 in
theorem gX5_canCarry_X3_hasClock : GoodIn wsX5_canCarry (wsV RX5 110 RX3 yX3_hasClock wsX3_hasClock) := goodIn_app (goodIn_of _ (by decide +kernel)) ggX5_canCarry_X3_hasClock
theorem dX5_canCarry_0 : decode cX5_canCarry 0 = .ok (.aload_n 0, 1) := by decide +kernel
theorem dX5_canCarry_1 : decode cX5_canCarry 1 = .ok (.getfield 18, 3) := by decide +kernel
theorem dX5_canCarry_4 : decode cX5_canCarry 4 = .ok (.iload_n 1, 1) := by decide +kernel
theorem dX5_canCarry_5 : decode cX5_canCarry 5 = .ok (.invokevirtual 110, 3) := by decide +kernel
theorem dX5_canCarry_8 : decode cX5_canCarry 8 = .ok (.ifCond .ne 5, 3) := by decide +kernel
theorem dX5_canCarry_11 : decode cX5_canCarry 11 = .ok (.iconst 0, 1) := by decide +kernel
theorem dX5_canCarry_12 : decode cX5_canCarry 12 = .ok (.ireturn, 1) := by decide +kernel
theorem dX5_canCarry_13 : decode cX5_canCarry 13 = .ok (.aload_n 0, 1) := by decide +kernel
theorem dX5_canCarry_14 : decode cX5_canCarry 14 = .ok (.getfield 18, 3) := by decide +kernel
theorem dX5_canCarry_17 : decode cX5_canCarry 17 = .ok (.getfield 119, 3) := by decide +kernel
theorem dX5_canCarry_20 : decode cX5_canCarry 20 = .ok (.iload_n 1, 1) := by decide +kernel
theorem dX5_canCarry_21 : decode cX5_canCarry 21 = .ok (.iload_n 2, 1) := by decide +kernel
theorem dX5_canCarry_22 : decode cX5_canCarry 22 = .ok (.iastore, 1) := by decide +kernel
theorem dX5_canCarry_23 : decode cX5_canCarry 23 = .ok (.iconst 1, 1) := by decide +kernel
theorem dX5_canCarry_24 : decode cX5_canCarry 24 = .ok (.ireturn, 1) := by decide +kernel
set_option maxRecDepth 20000 in
theorem ggX5_answerOfTrial_X3_stuffedClocks : GoodIn wsX5_answerOfTrial wsX3_stuffedClocks := goodIn_r _ [9, 10, 11, 31, 32, 33, 34, 35, 36, 37, 38, 39, 40] (by decide +kernel) (by decide +kernel)
set_option maxRecDepth 20000 in
theorem gX5_answerOfTrial_X3_stuffedClocks : GoodIn wsX5_answerOfTrial (wsV RX5 153 RX3 yX3_stuffedClocks wsX3_stuffedClocks) := goodIn_app (goodIn_of _ (by decide +kernel)) ggX5_answerOfTrial_X3_stuffedClocks
set_option maxRecDepth 20000 in
theorem ggX5_answerOfTrial_X3_housesWithClocks : GoodIn wsX5_answerOfTrial wsX3_housesWithClocks := goodIn_r _ [15, 10, 16, 31, 32, 33, 34, 35, 36, 37, 38, 39, 40] (by decide +kernel) (by decide +kernel)
set_option maxRecDepth 20000 in
theorem gX5_answerOfTrial_X3_housesWithClocks : GoodIn wsX5_answerOfTrial (wsV RX5 273 RX3 yX3_housesWithClocks wsX3_housesWithClocks) := goodIn_app (goodIn_of _ (by decide +kernel)) ggX5_answerOfTrial_X3_housesWithClocks
set_option maxRecDepth 20000 in
theorem ggX5_answerOfTrial_X3_hasClock : GoodIn wsX5_answerOfTrial wsX3_hasClock := goodIn_r _ [20, 10, 31, 32, 33, 34, 35, 36, 37, 38, 39, 40] (by decide +kernel) (by decide +kernel)
set_option maxRecDepth 20000 in
theorem gX5_answerOfTrial_X3_hasClock : GoodIn wsX5_answerOfTrial (wsV RX5 110 RX3 yX3_hasClock wsX3_hasClock) := goodIn_app (goodIn_of _ (by decide +kernel)) ggX5_answerOfTrial_X3_hasClock
theorem dX5_answerOfTrial_0 : decode cX5_answerOfTrial 0 = .ok (.iload_n 1, 1) := by decide +kernel
theorem dX5_answerOfTrial_1 : decode cX5_answerOfTrial 1 = .ok (.tableswitch 67 0 4 #[35, 67, 43, 51, 59], 35) := by decide +kernel
theorem dX5_answerOfTrial_36 : decode cX5_answerOfTrial 36 = .ok (.aload_n 0, 1) := by decide +kernel
theorem dX5_answerOfTrial_37 : decode cX5_answerOfTrial 37 = .ok (.getfield 18, 3) := by decide +kernel
theorem dX5_answerOfTrial_40 : decode cX5_answerOfTrial 40 = .ok (.invokevirtual 153, 3) := by decide +kernel
theorem dX5_answerOfTrial_43 : decode cX5_answerOfTrial 43 = .ok (.ireturn, 1) := by decide +kernel
theorem dX5_answerOfTrial_44 : decode cX5_answerOfTrial 44 = .ok (.aload_n 0, 1) := by decide +kernel
theorem dX5_answerOfTrial_45 : decode cX5_answerOfTrial 45 = .ok (.getfield 18, 3) := by decide +kernel
theorem dX5_answerOfTrial_48 : decode cX5_answerOfTrial 48 = .ok (.getfield 187, 3) := by decide +kernel
theorem dX5_answerOfTrial_51 : decode cX5_answerOfTrial 51 = .ok (.ireturn, 1) := by decide +kernel
theorem dX5_answerOfTrial_52 : decode cX5_answerOfTrial 52 = .ok (.aload_n 0, 1) := by decide +kernel
theorem dX5_answerOfTrial_53 : decode cX5_answerOfTrial 53 = .ok (.getfield 18, 3) := by decide +kernel
theorem dX5_answerOfTrial_56 : decode cX5_answerOfTrial 56 = .ok (.getfield 270, 3) := by decide +kernel
theorem dX5_answerOfTrial_59 : decode cX5_answerOfTrial 59 = .ok (.ireturn, 1) := by decide +kernel
theorem dX5_answerOfTrial_60 : decode cX5_answerOfTrial 60 = .ok (.aload_n 0, 1) := by decide +kernel
theorem dX5_answerOfTrial_61 : decode cX5_answerOfTrial 61 = .ok (.getfield 18, 3) := by decide +kernel
theorem dX5_answerOfTrial_64 : decode cX5_answerOfTrial 64 = .ok (.invokevirtual 273, 3) := by decide +kernel
theorem dX5_answerOfTrial_67 : decode cX5_answerOfTrial 67 = .ok (.ireturn, 1) := by decide +kernel
theorem dX5_answerOfTrial_68 : decode cX5_answerOfTrial 68 = .ok (.aload_n 0, 1) := by decide +kernel
theorem dX5_answerOfTrial_69 : decode cX5_answerOfTrial 69 = .ok (.getfield 18, 3) := by decide +kernel
theorem dX5_answerOfTrial_72 : decode cX5_answerOfTrial 72 = .ok (.iload_n 1, 1) := by decide +kernel
theorem dX5_answerOfTrial_73 : decode cX5_answerOfTrial 73 = .ok (.bipush 10, 2) := by decide +kernel
theorem dX5_answerOfTrial_75 : decode cX5_answerOfTrial 75 = .ok (.isub, 1) := by decide +kernel
theorem dX5_answerOfTrial_76 : decode cX5_answerOfTrial 76 = .ok (.invokevirtual 110, 3) := by decide +kernel
theorem dX5_answerOfTrial_79 : decode cX5_answerOfTrial 79 = .ok (.ifCond .eq 18, 3) := by decide +kernel
theorem dX5_answerOfTrial_82 : decode cX5_answerOfTrial 82 = .ok (.aload_n 0, 1) := by decide +kernel
theorem dX5_answerOfTrial_83 : decode cX5_answerOfTrial 83 = .ok (.getfield 18, 3) := by decide +kernel
theorem dX5_answerOfTrial_86 : decode cX5_answerOfTrial 86 = .ok (.getfield 119, 3) := by decide +kernel
theorem dX5_answerOfTrial_89 : decode cX5_answerOfTrial 89 = .ok (.iload_n 1, 1) := by decide +kernel
theorem dX5_answerOfTrial_90 : decode cX5_answerOfTrial 90 = .ok (.bipush 10, 2) := by decide +kernel
theorem dX5_answerOfTrial_92 : decode cX5_answerOfTrial 92 = .ok (.isub, 1) := by decide +kernel
theorem dX5_answerOfTrial_93 : decode cX5_answerOfTrial 93 = .ok (.iaload, 1) := by decide +kernel
theorem dX5_answerOfTrial_94 : decode cX5_answerOfTrial 94 = .ok (.goto 5, 3) := by decide +kernel
theorem dX5_answerOfTrial_97 : decode cX5_answerOfTrial 97 = .ok (.bipush (-9), 2) := by decide +kernel
theorem dX5_answerOfTrial_99 : decode cX5_answerOfTrial 99 = .ok (.ireturn, 1) := by decide +kernel
theorem dX5_leave_0 : decode cX5_leave 0 = .ok (.aload_n 0, 1) := by decide +kernel
theorem dX5_leave_1 : decode cX5_leave 1 = .ok (.bipush 31, 2) := by decide +kernel
theorem dX5_leave_3 : decode cX5_leave 3 = .ok (.aload_n 0, 1) := by decide +kernel
theorem dX5_leave_4 : decode cX5_leave 4 = .ok (.getfield 254, 3) := by decide +kernel
theorem dX5_leave_7 : decode cX5_leave 7 = .ok (.imul, 1) := by decide +kernel
theorem dX5_leave_8 : decode cX5_leave 8 = .ok (.iload_n 1, 1) := by decide +kernel
theorem dX5_leave_9 : decode cX5_leave 9 = .ok (.iadd, 1) := by decide +kernel
theorem dX5_leave_10 : decode cX5_leave 10 = .ok (.putfield 254, 3) := by decide +kernel
theorem dX5_leave_13 : decode cX5_leave 13 = .ok (.return_, 1) := by decide +kernel
set_option maxRecDepth 20000 in
theorem ggX5_sleeperTells_X5_leave : GoodIn wsX5_sleeperTells wsX5_leave := goodIn_r _ [7, 8, 9, 10, 11, 12, 13, 14, 15, 16, 17, 18] (by decide +kernel) (by decide +kernel)
set_option maxRecDepth 20000 in
theorem gX5_sleeperTells_X5_leave : GoodIn wsX5_sleeperTells (wsV RX5 276 RX5 yX5_leave wsX5_leave) := goodIn_app (goodIn_of _ (by decide +kernel)) ggX5_sleeperTells_X5_leave
theorem dX5_sleeperTells_0 : decode cX5_sleeperTells 0 = .ok (.aload_n 0, 1) := by decide +kernel
theorem dX5_sleeperTells_1 : decode cX5_sleeperTells 1 = .ok (.iconst 1, 1) := by decide +kernel
theorem dX5_sleeperTells_2 : decode cX5_sleeperTells 2 = .ok (.invokevirtual 276, 3) := by decide +kernel
theorem dX5_sleeperTells_5 : decode cX5_sleeperTells 5 = .ok (.aload_n 0, 1) := by decide +kernel
theorem dX5_sleeperTells_6 : decode cX5_sleeperTells 6 = .ok (.getfield 12, 3) := by decide +kernel
theorem dX5_sleeperTells_9 : decode cX5_sleeperTells 9 = .ok (.getfield 98, 3) := by decide +kernel
theorem dX5_sleeperTells_12 : decode cX5_sleeperTells 12 = .ok (.iload_n 1, 1) := by decide +kernel
theorem dX5_sleeperTells_13 : decode cX5_sleeperTells 13 = .ok (.iaload, 1) := by decide +kernel
theorem dX5_sleeperTells_14 : decode cX5_sleeperTells 14 = .ok (.ireturn, 1) := by decide +kernel
set_option maxRecDepth 20000 in
theorem ggX5_nervousTells_X5_leave : GoodIn wsX5_nervousTells wsX5_leave := goodIn_r _ [5, 6, 13, 14, 15, 16, 17, 18, 19, 20, 21, 22] (by decide +kernel) (by decide +kernel)
set_option maxRecDepth 20000 in
theorem gX5_nervousTells_X5_leave : GoodIn wsX5_nervousTells (wsV RX5 276 RX5 yX5_leave wsX5_leave) := goodIn_app (goodIn_of _ (by decide +kernel)) ggX5_nervousTells_X5_leave
set_option maxRecDepth 20000 in
theorem ggX5_nervousTells_X5_sleeperTells : GoodIn wsX5_nervousTells wsX5_sleeperTells := goodIn_r _ [10, 11, 12, 1, 2, 3, 4, 5, 6, 13, 14, 15, 16, 17, 18, 19, 20, 21, 22, 23, 24, 25, 26, 27, 28, 29, 30, 31, 32] (by decide +kernel) (by decide +kernel)
set_option maxRecDepth 20000 in
theorem gX5_nervousTells_X5_sleeperTells : GoodIn wsX5_nervousTells (wsV RX5 245 RX5 yX5_sleeperTells wsX5_sleeperTells) := goodIn_app (goodIn_of _ (by decide +kernel)) ggX5_nervousTells_X5_sleeperTells
theorem dX5_nervousTells_0 : decode cX5_nervousTells 0 = .ok (.aload_n 0, 1) := by decide +kernel
theorem dX5_nervousTells_1 : decode cX5_nervousTells 1 = .ok (.iconst 2, 1) := by decide +kernel
theorem dX5_nervousTells_2 : decode cX5_nervousTells 2 = .ok (.invokevirtual 276, 3) := by decide +kernel
theorem dX5_nervousTells_5 : decode cX5_nervousTells 5 = .ok (.aload_n 0, 1) := by decide +kernel
theorem dX5_nervousTells_6 : decode cX5_nervousTells 6 = .ok (.iload_n 1, 1) := by decide +kernel
theorem dX5_nervousTells_7 : decode cX5_nervousTells 7 = .ok (.invokevirtual 245, 3) := by decide +kernel
theorem dX5_nervousTells_10 : decode cX5_nervousTells 10 = .ok (.bipush 100, 2) := by decide +kernel
theorem dX5_nervousTells_12 : decode cX5_nervousTells 12 = .ok (.iadd, 1) := by decide +kernel
theorem dX5_nervousTells_13 : decode cX5_nervousTells 13 = .ok (.ireturn, 1) := by decide +kernel
set_option maxRecDepth 20000 in
theorem ggX5_babyTells_X5_leave : GoodIn wsX5_babyTells wsX5_leave := goodIn_r _ [5, 6, 17, 18, 19, 20, 21, 22, 23, 24, 25, 26] (by decide +kernel) (by decide +kernel)
set_option maxRecDepth 20000 in
theorem gX5_babyTells_X5_leave : GoodIn wsX5_babyTells (wsV RX5 276 RX5 yX5_leave wsX5_leave) := goodIn_app (goodIn_of _ (by decide +kernel)) ggX5_babyTells_X5_leave
set_option maxRecDepth 20000 in
theorem ggX5_babyTells_X5_nervousTells : GoodIn wsX5_babyTells wsX5_nervousTells := goodIn_r _ [10, 1, 2, 3, 4, 5, 6, 11, 12, 13, 14, 15, 16, 17, 18, 19, 20, 21, 22, 23, 24, 25, 26, 27, 28, 29, 30, 31, 32, 33, 34, 35, 36] (by decide +kernel) (by decide +kernel)
set_option maxRecDepth 20000 in
theorem gX5_babyTells_X5_nervousTells : GoodIn wsX5_babyTells (wsV RX5 239 RX5 yX5_nervousTells wsX5_nervousTells) := goodIn_app (goodIn_of _ (by decide +kernel)) ggX5_babyTells_X5_nervousTells
set_option maxRecDepth 20000 in
theorem ggX5_babyTells_X5_sleeperTells : GoodIn wsX5_babyTells wsX5_sleeperTells := goodIn_r _ [14, 15, 16, 1, 2, 3, 4, 5, 6, 17, 18, 19, 20, 21, 22, 23, 24, 25, 26, 27, 28, 29, 30, 31, 32, 33, 34, 35, 36] (by decide +kernel) (by decide +kernel)
set_option maxRecDepth 20000 in
theorem gX5_babyTells_X5_sleeperTells : GoodIn wsX5_babyTells (wsV RX5 245 RX5 yX5_sleeperTells wsX5_sleeperTells) := goodIn_app (goodIn_of _ (by decide +kernel)) ggX5_babyTells_X5_sleeperTells
theorem dX5_babyTells_0 : decode cX5_babyTells 0 = .ok (.aload_n 0, 1) := by decide +kernel
theorem dX5_babyTells_1 : decode cX5_babyTells 1 = .ok (.iconst 3, 1) := by decide +kernel
theorem dX5_babyTells_2 : decode cX5_babyTells 2 = .ok (.invokevirtual 276, 3) := by decide +kernel
theorem dX5_babyTells_5 : decode cX5_babyTells 5 = .ok (.aload_n 0, 1) := by decide +kernel
theorem dX5_babyTells_6 : decode cX5_babyTells 6 = .ok (.iload_n 1, 1) := by decide +kernel
theorem dX5_babyTells_7 : decode cX5_babyTells 7 = .ok (.invokevirtual 239, 3) := by decide +kernel
theorem dX5_babyTells_10 : decode cX5_babyTells 10 = .ok (.istore_n 2, 1) := by decide +kernel
theorem dX5_babyTells_11 : decode cX5_babyTells 11 = .ok (.iload_n 2, 1) := by decide +kernel
theorem dX5_babyTells_12 : decode cX5_babyTells 12 = .ok (.aload_n 0, 1) := by decide +kernel
theorem dX5_babyTells_13 : decode cX5_babyTells 13 = .ok (.iload_n 1, 1) := by decide +kernel
theorem dX5_babyTells_14 : decode cX5_babyTells 14 = .ok (.invokevirtual 245, 3) := by decide +kernel
theorem dX5_babyTells_17 : decode cX5_babyTells 17 = .ok (.iadd, 1) := by decide +kernel
theorem dX5_babyTells_18 : decode cX5_babyTells 18 = .ok (.ireturn, 1) := by decide +kernel
set_option maxRecDepth 20000 in
theorem ggX5_sleeperIsCalled_X5_leave : GoodIn wsX5_sleeperIsCalled wsX5_leave := goodIn_r _ [5, 6, 7, 8, 9, 10, 11, 12, 13, 14, 15, 16] (by decide +kernel) (by decide +kernel)
set_option maxRecDepth 20000 in
theorem gX5_sleeperIsCalled_X5_leave : GoodIn wsX5_sleeperIsCalled (wsV RX5 276 RX5 yX5_leave wsX5_leave) := goodIn_app (goodIn_of _ (by decide +kernel)) ggX5_sleeperIsCalled_X5_leave
theorem dX5_sleeperIsCalled_0 : decode cX5_sleeperIsCalled 0 = .ok (.aload_n 0, 1) := by decide +kernel
theorem dX5_sleeperIsCalled_1 : decode cX5_sleeperIsCalled 1 = .ok (.iconst 4, 1) := by decide +kernel
theorem dX5_sleeperIsCalled_2 : decode cX5_sleeperIsCalled 2 = .ok (.invokevirtual 276, 3) := by decide +kernel
theorem dX5_sleeperIsCalled_5 : decode cX5_sleeperIsCalled 5 = .ok (.iload_n 1, 1) := by decide +kernel
theorem dX5_sleeperIsCalled_6 : decode cX5_sleeperIsCalled 6 = .ok (.ireturn, 1) := by decide +kernel
set_option maxRecDepth 20000 in
theorem ggX5_babyIsCalled_X5_leave : GoodIn wsX5_babyIsCalled wsX5_leave := goodIn_r _ [5, 6, 7, 8, 9, 10, 11, 12, 13, 14, 15, 16] (by decide +kernel) (by decide +kernel)
set_option maxRecDepth 20000 in
theorem gX5_babyIsCalled_X5_leave : GoodIn wsX5_babyIsCalled (wsV RX5 276 RX5 yX5_leave wsX5_leave) := goodIn_app (goodIn_of _ (by decide +kernel)) ggX5_babyIsCalled_X5_leave
theorem dX5_babyIsCalled_0 : decode cX5_babyIsCalled 0 = .ok (.aload_n 0, 1) := by decide +kernel
theorem dX5_babyIsCalled_1 : decode cX5_babyIsCalled 1 = .ok (.iconst 5, 1) := by decide +kernel
theorem dX5_babyIsCalled_2 : decode cX5_babyIsCalled 2 = .ok (.invokevirtual 276, 3) := by decide +kernel
theorem dX5_babyIsCalled_5 : decode cX5_babyIsCalled 5 = .ok (.bipush 80, 2) := by decide +kernel
theorem dX5_babyIsCalled_7 : decode cX5_babyIsCalled 7 = .ok (.ireturn, 1) := by decide +kernel
theorem dX6_init_0 : decode cX6_init 0 = .ok (.aload_n 0, 1) := by decide +kernel
theorem dX6_init_1 : decode cX6_init 1 = .ok (.invokespecial 1, 3) := by decide +kernel
theorem dX6_init_4 : decode cX6_init 4 = .ok (.aload_n 0, 1) := by decide +kernel
theorem dX6_init_5 : decode cX6_init 5 = .ok (.iconst 4, 1) := by decide +kernel
theorem dX6_init_6 : decode cX6_init 6 = .ok (.newarray .int, 2) := by decide +kernel
theorem dX6_init_8 : decode cX6_init 8 = .ok (.dup, 1) := by decide +kernel
theorem dX6_init_9 : decode cX6_init 9 = .ok (.iconst 0, 1) := by decide +kernel
theorem dX6_init_10 : decode cX6_init 10 = .ok (.bipush (-9), 2) := by decide +kernel
theorem dX6_init_12 : decode cX6_init 12 = .ok (.iastore, 1) := by decide +kernel
theorem dX6_init_13 : decode cX6_init 13 = .ok (.dup, 1) := by decide +kernel
theorem dX6_init_14 : decode cX6_init 14 = .ok (.iconst 1, 1) := by decide +kernel
theorem dX6_init_15 : decode cX6_init 15 = .ok (.bipush (-9), 2) := by decide +kernel
theorem dX6_init_17 : decode cX6_init 17 = .ok (.iastore, 1) := by decide +kernel
theorem dX6_init_18 : decode cX6_init 18 = .ok (.dup, 1) := by decide +kernel
theorem dX6_init_19 : decode cX6_init 19 = .ok (.iconst 2, 1) := by decide +kernel
theorem dX6_init_20 : decode cX6_init 20 = .ok (.bipush (-9), 2) := by decide +kernel
theorem dX6_init_22 : decode cX6_init 22 = .ok (.iastore, 1) := by decide +kernel
theorem dX6_init_23 : decode cX6_init 23 = .ok (.dup, 1) := by decide +kernel
theorem dX6_init_24 : decode cX6_init 24 = .ok (.iconst 3, 1) := by decide +kernel
theorem dX6_init_25 : decode cX6_init 25 = .ok (.bipush (-9), 2) := by decide +kernel
theorem dX6_init_27 : decode cX6_init 27 = .ok (.iastore, 1) := by decide +kernel
theorem dX6_init_28 : decode cX6_init 28 = .ok (.putfield 9, 3) := by decide +kernel
theorem dX6_init_31 : decode cX6_init 31 = .ok (.aload_n 0, 1) := by decide +kernel
theorem dX6_init_32 : decode cX6_init 32 = .ok (.iconst 4, 1) := by decide +kernel
theorem dX6_init_33 : decode cX6_init 33 = .ok (.newarray .int, 2) := by decide +kernel
theorem dX6_init_35 : decode cX6_init 35 = .ok (.putfield 13, 3) := by decide +kernel
theorem dX6_init_38 : decode cX6_init 38 = .ok (.aload_n 0, 1) := by decide +kernel
theorem dX6_init_39 : decode cX6_init 39 = .ok (.sipush 240, 3) := by decide +kernel
theorem dX6_init_42 : decode cX6_init 42 = .ok (.newarray .int, 2) := by decide +kernel
theorem dX6_init_44 : decode cX6_init 44 = .ok (.putfield 16, 3) := by decide +kernel
theorem dX6_init_47 : decode cX6_init 47 = .ok (.aload_n 0, 1) := by decide +kernel
theorem dX6_init_48 : decode cX6_init 48 = .ok (.bipush 6, 2) := by decide +kernel
theorem dX6_init_50 : decode cX6_init 50 = .ok (.newarray .int, 2) := by decide +kernel
theorem dX6_init_52 : decode cX6_init 52 = .ok (.putfield 19, 3) := by decide +kernel
theorem dX6_init_55 : decode cX6_init 55 = .ok (.aload_n 0, 1) := by decide +kernel
theorem dX6_init_56 : decode cX6_init 56 = .ok (.bipush 6, 2) := by decide +kernel
theorem dX6_init_58 : decode cX6_init 58 = .ok (.newarray .int, 2) := by decide +kernel
theorem dX6_init_60 : decode cX6_init 60 = .ok (.putfield 22, 3) := by decide +kernel
theorem dX6_init_63 : decode cX6_init 63 = .ok (.aload_n 0, 1) := by decide +kernel
theorem dX6_init_64 : decode cX6_init 64 = .ok (.iconst 4, 1) := by decide +kernel
theorem dX6_init_65 : decode cX6_init 65 = .ok (.newarray .int, 2) := by decide +kernel
theorem dX6_init_67 : decode cX6_init 67 = .ok (.putfield 25, 3) := by decide +kernel
theorem dX6_init_70 : decode cX6_init 70 = .ok (.aload_n 0, 1) := by decide +kernel
theorem dX6_init_71 : decode cX6_init 71 = .ok (.iconst 4, 1) := by decide +kernel
theorem dX6_init_72 : decode cX6_init 72 = .ok (.newarray .int, 2) := by decide +kernel
theorem dX6_init_74 : decode cX6_init 74 = .ok (.putfield 28, 3) := by decide +kernel
theorem dX6_init_77 : decode cX6_init 77 = .ok (.aload_n 0, 1) := by decide +kernel
theorem dX6_init_78 : decode cX6_init 78 = .ok (.bipush 12, 2) := by decide +kernel
theorem dX6_init_80 : decode cX6_init 80 = .ok (.newarray .int, 2) := by decide +kernel
theorem dX6_init_82 : decode cX6_init 82 = .ok (.putfield 31, 3) := by decide +kernel
theorem dX6_init_85 : decode cX6_init 85 = .ok (.aload_n 0, 1) := by decide +kernel
theorem dX6_init_86 : decode cX6_init 86 = .ok (.bipush 8, 2) := by decide +kernel
theorem dX6_init_88 : decode cX6_init 88 = .ok (.newarray .int, 2) := by decide +kernel
theorem dX6_init_90 : decode cX6_init 90 = .ok (.putfield 34, 3) := by decide +kernel
theorem dX6_init_93 : decode cX6_init 93 = .ok (.aload_n 0, 1) := by decide +kernel
theorem dX6_init_94 : decode cX6_init 94 = .ok (.iconst 4, 1) := by decide +kernel
theorem dX6_init_95 : decode cX6_init 95 = .ok (.newarray .int, 2) := by decide +kernel
theorem dX6_init_97 : decode cX6_init 97 = .ok (.putfield 37, 3) := by decide +kernel
theorem dX6_init_100 : decode cX6_init 100 = .ok (.aload_n 0, 1) := by decide +kernel
theorem dX6_init_101 : decode cX6_init 101 = .ok (.iconst 4, 1) := by decide +kernel
theorem dX6_init_102 : decode cX6_init 102 = .ok (.newarray .int, 2) := by decide +kernel
theorem dX6_init_104 : decode cX6_init 104 = .ok (.putfield 40, 3) := by decide +kernel
theorem dX6_init_107 : decode cX6_init 107 = .ok (.aload_n 0, 1) := by decide +kernel
theorem dX6_init_108 : decode cX6_init 108 = .ok (.iconst 4, 1) := by decide +kernel
theorem dX6_init_109 : decode cX6_init 109 = .ok (.newarray .int, 2) := by decide +kernel
theorem dX6_init_111 : decode cX6_init 111 = .ok (.putfield 43, 3) := by decide +kernel
theorem dX6_init_114 : decode cX6_init 114 = .ok (.aload_n 0, 1) := by decide +kernel
theorem dX6_init_115 : decode cX6_init 115 = .ok (.bipush 8, 2) := by decide +kernel
theorem dX6_init_117 : decode cX6_init 117 = .ok (.newarray .int, 2) := by decide +kernel
theorem dX6_init_119 : decode cX6_init 119 = .ok (.putfield 46, 3) := by decide +kernel
theorem dX6_init_122 : decode cX6_init 122 = .ok (.aload_n 0, 1) := by decide +kernel
theorem dX6_init_123 : decode cX6_init 123 = .ok (.bipush 8, 2) := by decide +kernel
theorem dX6_init_125 : decode cX6_init 125 = .ok (.newarray .int, 2) := by decide +kernel
theorem dX6_init_127 : decode cX6_init 127 = .ok (.putfield 49, 3) := by decide +kernel
theorem dX6_init_130 : decode cX6_init 130 = .ok (.aload_n 0, 1) := by decide +kernel
theorem dX6_init_131 : decode cX6_init 131 = .ok (.bipush 8, 2) := by decide +kernel
theorem dX6_init_133 : decode cX6_init 133 = .ok (.newarray .int, 2) := by decide +kernel
theorem dX6_init_135 : decode cX6_init 135 = .ok (.putfield 52, 3) := by decide +kernel
theorem dX6_init_138 : decode cX6_init 138 = .ok (.aload_n 0, 1) := by decide +kernel
theorem dX6_init_139 : decode cX6_init 139 = .ok (.bipush 8, 2) := by decide +kernel
theorem dX6_init_141 : decode cX6_init 141 = .ok (.newarray .int, 2) := by decide +kernel
theorem dX6_init_143 : decode cX6_init 143 = .ok (.putfield 55, 3) := by decide +kernel
theorem dX6_init_146 : decode cX6_init 146 = .ok (.return_, 1) := by decide +kernel
theorem dX6_fails_0 : decode cX6_fails 0 = .ok (.aload_n 0, 1) := by decide +kernel
theorem dX6_fails_1 : decode cX6_fails 1 = .ok (.iload_n 1, 1) := by decide +kernel
theorem dX6_fails_2 : decode cX6_fails 2 = .ok (.putfield 58, 3) := by decide +kernel
theorem dX6_fails_5 : decode cX6_fails 5 = .ok (.bipush (-10), 2) := by decide +kernel
theorem dX6_fails_7 : decode cX6_fails 7 = .ok (.iload_n 1, 1) := by decide +kernel
theorem dX6_fails_8 : decode cX6_fails 8 = .ok (.isub, 1) := by decide +kernel
theorem dX6_fails_9 : decode cX6_fails 9 = .ok (.ireturn, 1) := by decide +kernel
theorem dX6_lost_0 : decode cX6_lost 0 = .ok (.aload_n 0, 1) := by decide +kernel
theorem dX6_lost_1 : decode cX6_lost 1 = .ok (.iload_n 1, 1) := by decide +kernel
theorem dX6_lost_2 : decode cX6_lost 2 = .ok (.putfield 58, 3) := by decide +kernel
theorem dX6_lost_5 : decode cX6_lost 5 = .ok (.ldc2_w 62, 3) := by decide +kernel
theorem dX6_lost_8 : decode cX6_lost 8 = .ok (.lreturn, 1) := by decide +kernel
theorem dX6_within_0 : decode cX6_within 0 = .ok (.iload_n 0, 1) := by decide +kernel
theorem dX6_within_1 : decode cX6_within 1 = .ok (.iload_n 1, 1) := by decide +kernel
theorem dX6_within_2 : decode cX6_within 2 = .ok (.if_icmp .lt 12, 3) := by decide +kernel
theorem dX6_within_5 : decode cX6_within 5 = .ok (.iload_n 0, 1) := by decide +kernel
theorem dX6_within_6 : decode cX6_within 6 = .ok (.iload_n 2, 1) := by decide +kernel
theorem dX6_within_7 : decode cX6_within 7 = .ok (.if_icmp .gt 7, 3) := by decide +kernel
theorem dX6_within_10 : decode cX6_within 10 = .ok (.iconst 1, 1) := by decide +kernel
theorem dX6_within_11 : decode cX6_within 11 = .ok (.goto 4, 3) := by decide +kernel
theorem dX6_within_14 : decode cX6_within 14 = .ok (.iconst 0, 1) := by decide +kernel
theorem dX6_within_15 : decode cX6_within 15 = .ok (.ireturn, 1) := by decide +kernel
set_option maxRecDepth 20000 in
theorem ggX6_isSheet_X6_within : GoodIn wsX6_isSheet wsX6_within := goodIn_r _ [4] (by decide +kernel) (by decide +kernel)
set_option maxRecDepth 20000 in
theorem gX6_isSheet_X6_within : GoodIn wsX6_isSheet (va_wsS RX6 64 yX6_within wsX6_within) := goodIn_app (goodIn_of _ (by decide +kernel)) ggX6_isSheet_X6_within
theorem dX6_isSheet_0 : decode cX6_isSheet 0 = .ok (.iload_n 0, 1) := by decide +kernel
theorem dX6_isSheet_1 : decode cX6_isSheet 1 = .ok (.iconst 0, 1) := by decide +kernel
theorem dX6_isSheet_2 : decode cX6_isSheet 2 = .ok (.iconst 3, 1) := by decide +kernel
theorem dX6_isSheet_3 : decode cX6_isSheet 3 = .ok (.invokestatic 64, 3) := by decide +kernel
theorem dX6_isSheet_6 : decode cX6_isSheet 6 = .ok (.ireturn, 1) := by decide +kernel
set_option maxRecDepth 20000 in
theorem ggX6_isSort_X6_within : GoodIn wsX6_isSort wsX6_within := goodIn_r _ [4] (by decide +kernel) (by decide +kernel)
set_option maxRecDepth 20000 in
theorem gX6_isSort_X6_within : GoodIn wsX6_isSort (va_wsS RX6 64 yX6_within wsX6_within) := goodIn_app (goodIn_of _ (by decide +kernel)) ggX6_isSort_X6_within
theorem dX6_isSort_0 : decode cX6_isSort 0 = .ok (.iload_n 0, 1) := by decide +kernel
theorem dX6_isSort_1 : decode cX6_isSort 1 = .ok (.iconst 0, 1) := by decide +kernel
theorem dX6_isSort_2 : decode cX6_isSort 2 = .ok (.iconst 2, 1) := by decide +kernel
theorem dX6_isSort_3 : decode cX6_isSort 3 = .ok (.invokestatic 64, 3) := by decide +kernel
theorem dX6_isSort_6 : decode cX6_isSort 6 = .ok (.ireturn, 1) := by decide +kernel
theorem dX6_against_0 : decode cX6_against 0 = .ok (.aload_n 0, 1) := by decide +kernel
theorem dX6_against_1 : decode cX6_against 1 = .ok (.getfield 9, 3) := by decide +kernel
theorem dX6_against_4 : decode cX6_against 4 = .ok (.iload_n 1, 1) := by decide +kernel
theorem dX6_against_5 : decode cX6_against 5 = .ok (.iaload, 1) := by decide +kernel
theorem dX6_against_6 : decode cX6_against 6 = .ok (.bipush (-9), 2) := by decide +kernel
theorem dX6_against_8 : decode cX6_against 8 = .ok (.if_icmp .eq 15, 3) := by decide +kernel
theorem dX6_against_11 : decode cX6_against 11 = .ok (.aload_n 0, 1) := by decide +kernel
theorem dX6_against_12 : decode cX6_against 12 = .ok (.getfield 9, 3) := by decide +kernel
theorem dX6_against_15 : decode cX6_against 15 = .ok (.iload_n 1, 1) := by decide +kernel
theorem dX6_against_16 : decode cX6_against 16 = .ok (.iaload, 1) := by decide +kernel
theorem dX6_against_17 : decode cX6_against 17 = .ok (.iload_n 2, 1) := by decide +kernel
theorem dX6_against_18 : decode cX6_against 18 = .ok (.if_icmp .eq 5, 3) := by decide +kernel
theorem dX6_against_21 : decode cX6_against 21 = .ok (.iconst 2, 1) := by decide +kernel
theorem dX6_against_22 : decode cX6_against 22 = .ok (.ireturn, 1) := by decide +kernel
theorem dX6_against_23 : decode cX6_against 23 = .ok (.aload_n 0, 1) := by decide +kernel
theorem dX6_against_24 : decode cX6_against 24 = .ok (.getfield 9, 3) := by decide +kernel
theorem dX6_against_27 : decode cX6_against 27 = .ok (.iload_n 1, 1) := by decide +kernel
theorem dX6_against_28 : decode cX6_against 28 = .ok (.iaload, 1) := by decide +kernel
theorem dX6_against_29 : decode cX6_against 29 = .ok (.bipush (-9), 2) := by decide +kernel
theorem dX6_against_31 : decode cX6_against 31 = .ok (.if_icmp .ne 5, 3) := by decide +kernel
theorem dX6_against_34 : decode cX6_against 34 = .ok (.iconst 1, 1) := by decide +kernel
theorem dX6_against_35 : decode cX6_against 35 = .ok (.ireturn, 1) := by decide +kernel
theorem dX6_against_36 : decode cX6_against 36 = .ok (.iload 4, 2) := by decide +kernel
theorem dX6_against_38 : decode cX6_against 38 = .ok (.ifCond .ge 5, 3) := by decide +kernel
theorem dX6_against_41 : decode cX6_against 41 = .ok (.iconst 4, 1) := by decide +kernel
theorem dX6_against_42 : decode cX6_against 42 = .ok (.ireturn, 1) := by decide +kernel
theorem dX6_against_43 : decode cX6_against 43 = .ok (.iload_n 3, 1) := by decide +kernel
theorem dX6_against_44 : decode cX6_against 44 = .ok (.ifCond .lt 26, 3) := by decide +kernel
theorem dX6_against_47 : decode cX6_against 47 = .ok (.iload_n 3, 1) := by decide +kernel
theorem dX6_against_48 : decode cX6_against 48 = .ok (.aload_n 0, 1) := by decide +kernel
theorem dX6_against_49 : decode cX6_against 49 = .ok (.getfield 13, 3) := by decide +kernel
theorem dX6_against_52 : decode cX6_against 52 = .ok (.iload_n 1, 1) := by decide +kernel
theorem dX6_against_53 : decode cX6_against 53 = .ok (.iaload, 1) := by decide +kernel
theorem dX6_against_54 : decode cX6_against 54 = .ok (.if_icmp .gt 16, 3) := by decide +kernel
theorem dX6_against_57 : decode cX6_against 57 = .ok (.iload 4, 2) := by decide +kernel
theorem dX6_against_59 : decode cX6_against 59 = .ok (.aload_n 0, 1) := by decide +kernel
theorem dX6_against_60 : decode cX6_against 60 = .ok (.getfield 13, 3) := by decide +kernel
theorem dX6_against_63 : decode cX6_against 63 = .ok (.iload_n 1, 1) := by decide +kernel
theorem dX6_against_64 : decode cX6_against 64 = .ok (.iaload, 1) := by decide +kernel
theorem dX6_against_65 : decode cX6_against 65 = .ok (.iload_n 3, 1) := by decide +kernel
theorem dX6_against_66 : decode cX6_against 66 = .ok (.isub, 1) := by decide +kernel
theorem dX6_against_67 : decode cX6_against 67 = .ok (.if_icmp .le 7, 3) := by decide +kernel
theorem dX6_against_70 : decode cX6_against 70 = .ok (.iconst 3, 1) := by decide +kernel
theorem dX6_against_71 : decode cX6_against 71 = .ok (.goto 4, 3) := by decide +kernel
theorem dX6_against_74 : decode cX6_against 74 = .ok (.iconst 0, 1) := by decide +kernel
theorem dX6_against_75 : decode cX6_against 75 = .ok (.ireturn, 1) := by decide +kernel
theorem dX6_isHouse_0 : decode cX6_isHouse 0 = .ok (.iload_n 1, 1) := by decide +kernel
theorem dX6_isHouse_1 : decode cX6_isHouse 1 = .ok (.ifCond .lt 15, 3) := by decide +kernel
theorem dX6_isHouse_4 : decode cX6_isHouse 4 = .ok (.iload_n 1, 1) := by decide +kernel
theorem dX6_isHouse_5 : decode cX6_isHouse 5 = .ok (.aload_n 0, 1) := by decide +kernel
theorem dX6_isHouse_6 : decode cX6_isHouse 6 = .ok (.getfield 68, 3) := by decide +kernel
theorem dX6_isHouse_9 : decode cX6_isHouse 9 = .ok (.if_icmp .ge 7, 3) := by decide +kernel
theorem dX6_isHouse_12 : decode cX6_isHouse 12 = .ok (.iconst 1, 1) := by decide +kernel
theorem dX6_isHouse_13 : decode cX6_isHouse 13 = .ok (.goto 4, 3) := by decide +kernel
theorem dX6_isHouse_16 : decode cX6_isHouse 16 = .ok (.iconst 0, 1) := by decide +kernel
theorem dX6_isHouse_17 : decode cX6_isHouse 17 = .ok (.ireturn, 1) := by decide +kernel
theorem dX6_isClock_0 : decode cX6_isClock 0 = .ok (.iload_n 1, 1) := by decide +kernel
theorem dX6_isClock_1 : decode cX6_isClock 1 = .ok (.ifCond .lt 15, 3) := by decide +kernel
theorem dX6_isClock_4 : decode cX6_isClock 4 = .ok (.iload_n 1, 1) := by decide +kernel
theorem dX6_isClock_5 : decode cX6_isClock 5 = .ok (.aload_n 0, 1) := by decide +kernel
theorem dX6_isClock_6 : decode cX6_isClock 6 = .ok (.getfield 71, 3) := by decide +kernel
theorem dX6_isClock_9 : decode cX6_isClock 9 = .ok (.if_icmp .ge 7, 3) := by decide +kernel
theorem dX6_isClock_12 : decode cX6_isClock 12 = .ok (.iconst 1, 1) := by decide +kernel
theorem dX6_isClock_13 : decode cX6_isClock 13 = .ok (.goto 4, 3) := by decide +kernel
theorem dX6_isClock_16 : decode cX6_isClock 16 = .ok (.iconst 0, 1) := by decide +kernel
theorem dX6_isClock_17 : decode cX6_isClock 17 = .ok (.ireturn, 1) := by decide +kernel
theorem dX6_isOf_0 : decode cX6_isOf 0 = .ok (.iload_n 0, 1) := by decide +kernel
theorem dX6_isOf_1 : decode cX6_isOf 1 = .ok (.iload_n 1, 1) := by decide +kernel
theorem dX6_isOf_2 : decode cX6_isOf 2 = .ok (.ishr, 1) := by decide +kernel
theorem dX6_isOf_3 : decode cX6_isOf 3 = .ok (.iconst 1, 1) := by decide +kernel
theorem dX6_isOf_4 : decode cX6_isOf 4 = .ok (.iand, 1) := by decide +kernel
theorem dX6_isOf_5 : decode cX6_isOf 5 = .ok (.iconst 1, 1) := by decide +kernel
theorem dX6_isOf_6 : decode cX6_isOf 6 = .ok (.if_icmp .ne 7, 3) := by decide +kernel
theorem dX6_isOf_9 : decode cX6_isOf 9 = .ok (.iconst 1, 1) := by decide +kernel
theorem dX6_isOf_10 : decode cX6_isOf 10 = .ok (.goto 4, 3) := by decide +kernel
theorem dX6_isOf_13 : decode cX6_isOf 13 = .ok (.iconst 0, 1) := by decide +kernel
theorem dX6_isOf_14 : decode cX6_isOf 14 = .ok (.ireturn, 1) := by decide +kernel
theorem dX6_size_0 : decode cX6_size 0 = .ok (.iconst 0, 1) := by decide +kernel
theorem dX6_size_1 : decode cX6_size 1 = .ok (.istore_n 1, 1) := by decide +kernel
theorem dX6_size_2 : decode cX6_size 2 = .ok (.iload_n 0, 1) := by decide +kernel
theorem dX6_size_3 : decode cX6_size 3 = .ok (.istore_n 2, 1) := by decide +kernel
theorem dX6_size_4 : decode cX6_size 4 = .ok (.iload_n 2, 1) := by decide +kernel
theorem dX6_size_5 : decode cX6_size 5 = .ok (.ifCond .le 16, 3) := by decide +kernel
theorem dX6_size_8 : decode cX6_size 8 = .ok (.iload_n 1, 1) := by decide +kernel
theorem dX6_size_9 : decode cX6_size 9 = .ok (.iload_n 2, 1) := by decide +kernel
theorem dX6_size_10 : decode cX6_size 10 = .ok (.iconst 1, 1) := by decide +kernel
theorem dX6_size_11 : decode cX6_size 11 = .ok (.iand, 1) := by decide +kernel
theorem dX6_size_12 : decode cX6_size 12 = .ok (.iadd, 1) := by decide +kernel
theorem dX6_size_13 : decode cX6_size 13 = .ok (.istore_n 1, 1) := by decide +kernel
theorem dX6_size_14 : decode cX6_size 14 = .ok (.iload_n 2, 1) := by decide +kernel
theorem dX6_size_15 : decode cX6_size 15 = .ok (.iconst 1, 1) := by decide +kernel
theorem dX6_size_16 : decode cX6_size 16 = .ok (.ishr, 1) := by decide +kernel
theorem dX6_size_17 : decode cX6_size 17 = .ok (.istore_n 2, 1) := by decide +kernel
theorem dX6_size_18 : decode cX6_size 18 = .ok (.goto (-14), 3) := by decide +kernel
theorem dX6_size_21 : decode cX6_size 21 = .ok (.iload_n 1, 1) := by decide +kernel
theorem dX6_size_22 : decode cX6_size 22 = .ok (.ireturn, 1) := by decide +kernel
set_option maxRecDepth 20000 in
theorem ggX6_digit_X6_within : GoodIn wsX6_digit wsX6_within := goodIn_r _ [6] (by decide +kernel) (by decide +kernel)
set_option maxRecDepth 20000 in
theorem gX6_digit_X6_within : GoodIn wsX6_digit (va_wsS RX6 64 yX6_within wsX6_within) := goodIn_app (goodIn_of _ (by decide +kernel)) ggX6_digit_X6_within
theorem dX6_digit_0 : decode cX6_digit 0 = .ok (.aload_n 0, 1) := by decide +kernel
theorem dX6_digit_1 : decode cX6_digit 1 = .ok (.getfield 74, 3) := by decide +kernel
theorem dX6_digit_4 : decode cX6_digit 4 = .ok (.iload_n 1, 1) := by decide +kernel
theorem dX6_digit_5 : decode cX6_digit 5 = .ok (.if_icmp .ge 26, 3) := by decide +kernel
theorem dX6_digit_8 : decode cX6_digit 8 = .ok (.aload_n 0, 1) := by decide +kernel
theorem dX6_digit_9 : decode cX6_digit 9 = .ok (.getfield 16, 3) := by decide +kernel
theorem dX6_digit_12 : decode cX6_digit 12 = .ok (.aload_n 0, 1) := by decide +kernel
theorem dX6_digit_13 : decode cX6_digit 13 = .ok (.getfield 74, 3) := by decide +kernel
theorem dX6_digit_16 : decode cX6_digit 16 = .ok (.iaload, 1) := by decide +kernel
theorem dX6_digit_17 : decode cX6_digit 17 = .ok (.bipush 48, 2) := by decide +kernel
theorem dX6_digit_19 : decode cX6_digit 19 = .ok (.iload_n 2, 1) := by decide +kernel
theorem dX6_digit_20 : decode cX6_digit 20 = .ok (.iadd, 1) := by decide +kernel
theorem dX6_digit_21 : decode cX6_digit 21 = .ok (.bipush 48, 2) := by decide +kernel
theorem dX6_digit_23 : decode cX6_digit 23 = .ok (.iload_n 3, 1) := by decide +kernel
theorem dX6_digit_24 : decode cX6_digit 24 = .ok (.iadd, 1) := by decide +kernel
theorem dX6_digit_25 : decode cX6_digit 25 = .ok (.invokestatic 64, 3) := by decide +kernel
theorem dX6_digit_28 : decode cX6_digit 28 = .ok (.ifCond .ne 6, 3) := by decide +kernel
theorem dX6_digit_31 : decode cX6_digit 31 = .ok (.bipush (-9), 2) := by decide +kernel
theorem dX6_digit_33 : decode cX6_digit 33 = .ok (.ireturn, 1) := by decide +kernel
theorem dX6_digit_34 : decode cX6_digit 34 = .ok (.aload_n 0, 1) := by decide +kernel
theorem dX6_digit_35 : decode cX6_digit 35 = .ok (.dup, 1) := by decide +kernel
theorem dX6_digit_36 : decode cX6_digit 36 = .ok (.getfield 74, 3) := by decide +kernel
theorem dX6_digit_39 : decode cX6_digit 39 = .ok (.iconst 1, 1) := by decide +kernel
theorem dX6_digit_40 : decode cX6_digit 40 = .ok (.iadd, 1) := by decide +kernel
theorem dX6_digit_41 : decode cX6_digit 41 = .ok (.putfield 74, 3) := by decide +kernel
theorem dX6_digit_44 : decode cX6_digit 44 = .ok (.aload_n 0, 1) := by decide +kernel
theorem dX6_digit_45 : decode cX6_digit 45 = .ok (.getfield 16, 3) := by decide +kernel
theorem dX6_digit_48 : decode cX6_digit 48 = .ok (.aload_n 0, 1) := by decide +kernel
theorem dX6_digit_49 : decode cX6_digit 49 = .ok (.getfield 74, 3) := by decide +kernel
theorem dX6_digit_52 : decode cX6_digit 52 = .ok (.iconst 1, 1) := by decide +kernel
theorem dX6_digit_53 : decode cX6_digit 53 = .ok (.isub, 1) := by decide +kernel
theorem dX6_digit_54 : decode cX6_digit 54 = .ok (.iaload, 1) := by decide +kernel
theorem dX6_digit_55 : decode cX6_digit 55 = .ok (.bipush 48, 2) := by decide +kernel
theorem dX6_digit_57 : decode cX6_digit 57 = .ok (.isub, 1) := by decide +kernel
theorem dX6_digit_58 : decode cX6_digit 58 = .ok (.ireturn, 1) := by decide +kernel
theorem dX6_isNext_0 : decode cX6_isNext 0 = .ok (.aload_n 0, 1) := by decide +kernel
theorem dX6_isNext_1 : decode cX6_isNext 1 = .ok (.getfield 74, 3) := by decide +kernel
theorem dX6_isNext_4 : decode cX6_isNext 4 = .ok (.iload_n 1, 1) := by decide +kernel
theorem dX6_isNext_5 : decode cX6_isNext 5 = .ok (.if_icmp .ge 20, 3) := by decide +kernel
theorem dX6_isNext_8 : decode cX6_isNext 8 = .ok (.aload_n 0, 1) := by decide +kernel
theorem dX6_isNext_9 : decode cX6_isNext 9 = .ok (.getfield 16, 3) := by decide +kernel
theorem dX6_isNext_12 : decode cX6_isNext 12 = .ok (.aload_n 0, 1) := by decide +kernel
theorem dX6_isNext_13 : decode cX6_isNext 13 = .ok (.getfield 74, 3) := by decide +kernel
theorem dX6_isNext_16 : decode cX6_isNext 16 = .ok (.iaload, 1) := by decide +kernel
theorem dX6_isNext_17 : decode cX6_isNext 17 = .ok (.iload_n 2, 1) := by decide +kernel
theorem dX6_isNext_18 : decode cX6_isNext 18 = .ok (.if_icmp .ne 7, 3) := by decide +kernel
theorem dX6_isNext_21 : decode cX6_isNext 21 = .ok (.iconst 1, 1) := by decide +kernel
theorem dX6_isNext_22 : decode cX6_isNext 22 = .ok (.goto 4, 3) := by decide +kernel
theorem dX6_isNext_25 : decode cX6_isNext 25 = .ok (.iconst 0, 1) := by decide +kernel
theorem dX6_isNext_26 : decode cX6_isNext 26 = .ok (.ireturn, 1) := by decide +kernel
set_option maxRecDepth 20000 in
theorem ggX6_isSign_X6_isNext : GoodIn wsX6_isSign wsX6_isNext := goodIn_r _ [6, 1, 7, 8, 9, 10, 11, 12, 13, 14, 15, 16, 17, 18, 19, 20, 21, 22, 23, 24, 25, 26, 27, 28, 29, 30, 31, 32, 33, 34, 35, 36, 37] (by decide +kernel) (by decide +kernel)
set_option maxRecDepth 20000 in
theorem gX6_isSign_X6_isNext : GoodIn wsX6_isSign (wsV RX6 77 RX6 yX6_isNext wsX6_isNext) := goodIn_app (goodIn_of _ (by decide +kernel)) ggX6_isSign_X6_isNext
theorem dX6_isSign_0 : decode cX6_isSign 0 = .ok (.aload_n 0, 1) := by decide +kernel
theorem dX6_isSign_1 : decode cX6_isSign 1 = .ok (.iload_n 1, 1) := by decide +kernel
theorem dX6_isSign_2 : decode cX6_isSign 2 = .ok (.iload_n 2, 1) := by decide +kernel
theorem dX6_isSign_3 : decode cX6_isSign 3 = .ok (.invokevirtual 77, 3) := by decide +kernel
theorem dX6_isSign_6 : decode cX6_isSign 6 = .ok (.ifCond .ne 5, 3) := by decide +kernel
theorem dX6_isSign_9 : decode cX6_isSign 9 = .ok (.iconst 0, 1) := by decide +kernel
theorem dX6_isSign_10 : decode cX6_isSign 10 = .ok (.ireturn, 1) := by decide +kernel
theorem dX6_isSign_11 : decode cX6_isSign 11 = .ok (.aload_n 0, 1) := by decide +kernel
theorem dX6_isSign_12 : decode cX6_isSign 12 = .ok (.dup, 1) := by decide +kernel
theorem dX6_isSign_13 : decode cX6_isSign 13 = .ok (.getfield 74, 3) := by decide +kernel
theorem dX6_isSign_16 : decode cX6_isSign 16 = .ok (.iconst 1, 1) := by decide +kernel
theorem dX6_isSign_17 : decode cX6_isSign 17 = .ok (.iadd, 1) := by decide +kernel
theorem dX6_isSign_18 : decode cX6_isSign 18 = .ok (.putfield 74, 3) := by decide +kernel
theorem dX6_isSign_21 : decode cX6_isSign 21 = .ok (.iconst 1, 1) := by decide +kernel
theorem dX6_isSign_22 : decode cX6_isSign 22 = .ok (.ireturn, 1) := by decide +kernel
set_option maxRecDepth 20000 in
theorem ggX6_street_X6_isSheet : GoodIn wsX6_street wsX6_isSheet := goodIn_r _ [7, 8, 9, 6, 10] (by decide +kernel) (by decide +kernel)
set_option maxRecDepth 20000 in
theorem gX6_street_X6_isSheet : GoodIn wsX6_street (va_wsS RX6 81 yX6_isSheet wsX6_isSheet) := goodIn_app (goodIn_of _ (by decide +kernel)) ggX6_street_X6_isSheet
set_option maxRecDepth 20000 in
theorem ggX6_street_X6_isSort : GoodIn wsX6_street wsX6_isSort := goodIn_r _ [13, 8, 9, 6, 10] (by decide +kernel) (by decide +kernel)
set_option maxRecDepth 20000 in
theorem gX6_street_X6_isSort : GoodIn wsX6_street (va_wsS RX6 85 yX6_isSort wsX6_isSort) := goodIn_app (goodIn_of _ (by decide +kernel)) ggX6_street_X6_isSort
set_option maxRecDepth 20000 in
theorem ggX6_street_X6_against : GoodIn wsX6_street wsX6_against := goodIn_r _ [17, 18, 19, 67, 68, 69, 70, 71, 72, 73, 74, 75, 76, 77, 78, 79, 80, 81, 82, 83, 84, 85, 86, 87, 88, 89, 90, 91, 92, 93, 94, 95, 96] (by decide +kernel) (by decide +kernel)
set_option maxRecDepth 20000 in
theorem gX6_street_X6_against : GoodIn wsX6_street (wsV RX6 88 RX6 yX6_against wsX6_against) := goodIn_app (goodIn_of _ (by decide +kernel)) ggX6_street_X6_against
set_option maxRecDepth 20000 in
theorem ggX6_street_X6_fails : GoodIn wsX6_street wsX6_fails := goodIn_r _ [23, 1, 67, 68, 69, 70, 71, 72, 73, 74, 75, 76, 77, 78, 79, 80, 81, 82, 83, 84, 85, 86, 87, 88, 89, 90, 91, 92, 93, 94, 95, 96] (by decide +kernel) (by decide +kernel)
set_option maxRecDepth 20000 in
theorem gX6_street_X6_fails : GoodIn wsX6_street (wsV RX6 92 RX6 yX6_fails wsX6_fails) := goodIn_app (goodIn_of _ (by decide +kernel)) ggX6_street_X6_fails
set_option maxRecDepth 20000 in
theorem ggX6_street_X6_readStreet : GoodIn wsX6_street wsX6_readStreet := goodIn_r _ [27, 28, 29, 30, 2, 31, 32, 33, 6, 34, 35, 36, 37, 38, 39, 40, 41, 42, 43, 8, 9, 10, 44, 45, 46, 47, 48, 49, 50, 51, 52, 53, 67, 68, 69, 70, 71, 72, 73, 74, 75, 76, 77, 78, 79, 80, 81, 82, 83, 84, 85, 86, 87, 88, 89, 90, 91, 92, 93, 94, 95, 96] (by decide +kernel) (by decide +kernel)
set_option maxRecDepth 20000 in
theorem gX6_street_X6_readStreet : GoodIn wsX6_street (wsV RX6 96 RX6 yX6_readStreet wsX6_readStreet) := goodIn_app (goodIn_of _ (by decide +kernel)) ggX6_street_X6_readStreet
set_option maxRecDepth 20000 in
theorem ggX6_street_X6_takeStreet : GoodIn wsX6_street wsX6_takeStreet := goodIn_r _ [57, 30, 58, 28, 59, 60, 48, 61, 29, 3, 62, 53, 63, 64, 65, 66, 67, 68, 69, 70, 71, 72, 73, 74, 75, 76, 77, 78, 79, 80, 81, 82, 83, 84, 85, 86, 87, 88, 89, 90, 91, 92, 93, 94, 95, 96] (by decide +kernel) (by decide +kernel)
set_option maxRecDepth 20000 in
theorem gX6_street_X6_takeStreet : GoodIn wsX6_street (wsV RX6 99 RX6 yX6_takeStreet wsX6_takeStreet) := goodIn_app (goodIn_of _ (by decide +kernel)) ggX6_street_X6_takeStreet
theorem dX6_street_0 : decode cX6_street 0 = .ok (.aload_n 0, 1) := by decide +kernel
theorem dX6_street_1 : decode cX6_street 1 = .ok (.iconst 0, 1) := by decide +kernel
theorem dX6_street_2 : decode cX6_street 2 = .ok (.putfield 58, 3) := by decide +kernel
theorem dX6_street_5 : decode cX6_street 5 = .ok (.iload_n 1, 1) := by decide +kernel
theorem dX6_street_6 : decode cX6_street 6 = .ok (.invokestatic 81, 3) := by decide +kernel
theorem dX6_street_9 : decode cX6_street 9 = .ok (.ifCond .ne 5, 3) := by decide +kernel
theorem dX6_street_12 : decode cX6_street 12 = .ok (.iconst (-1), 1) := by decide +kernel
theorem dX6_street_13 : decode cX6_street 13 = .ok (.ireturn, 1) := by decide +kernel
theorem dX6_street_14 : decode cX6_street 14 = .ok (.iload_n 2, 1) := by decide +kernel
theorem dX6_street_15 : decode cX6_street 15 = .ok (.invokestatic 85, 3) := by decide +kernel
theorem dX6_street_18 : decode cX6_street 18 = .ok (.ifCond .ne 6, 3) := by decide +kernel
theorem dX6_street_21 : decode cX6_street 21 = .ok (.bipush (-2), 2) := by decide +kernel
theorem dX6_street_23 : decode cX6_street 23 = .ok (.ireturn, 1) := by decide +kernel
theorem dX6_street_24 : decode cX6_street 24 = .ok (.aload_n 0, 1) := by decide +kernel
theorem dX6_street_25 : decode cX6_street 25 = .ok (.iload_n 1, 1) := by decide +kernel
theorem dX6_street_26 : decode cX6_street 26 = .ok (.iload_n 2, 1) := by decide +kernel
theorem dX6_street_27 : decode cX6_street 27 = .ok (.iload_n 3, 1) := by decide +kernel
theorem dX6_street_28 : decode cX6_street 28 = .ok (.iload 4, 2) := by decide +kernel
theorem dX6_street_30 : decode cX6_street 30 = .ok (.invokevirtual 88, 3) := by decide +kernel
theorem dX6_street_33 : decode cX6_street 33 = .ok (.istore 5, 2) := by decide +kernel
theorem dX6_street_35 : decode cX6_street 35 = .ok (.iload 5, 2) := by decide +kernel
theorem dX6_street_37 : decode cX6_street 37 = .ok (.ifCond .eq 10, 3) := by decide +kernel
theorem dX6_street_40 : decode cX6_street 40 = .ok (.aload_n 0, 1) := by decide +kernel
theorem dX6_street_41 : decode cX6_street 41 = .ok (.iload 5, 2) := by decide +kernel
theorem dX6_street_43 : decode cX6_street 43 = .ok (.invokevirtual 92, 3) := by decide +kernel
theorem dX6_street_46 : decode cX6_street 46 = .ok (.ireturn, 1) := by decide +kernel
theorem dX6_street_47 : decode cX6_street 47 = .ok (.bipush 60, 2) := by decide +kernel
theorem dX6_street_49 : decode cX6_street 49 = .ok (.iload_n 1, 1) := by decide +kernel
theorem dX6_street_50 : decode cX6_street 50 = .ok (.imul, 1) := by decide +kernel
theorem dX6_street_51 : decode cX6_street 51 = .ok (.iload_n 3, 1) := by decide +kernel
theorem dX6_street_52 : decode cX6_street 52 = .ok (.iadd, 1) := by decide +kernel
theorem dX6_street_53 : decode cX6_street 53 = .ok (.istore 6, 2) := by decide +kernel
theorem dX6_street_55 : decode cX6_street 55 = .ok (.aload_n 0, 1) := by decide +kernel
theorem dX6_street_56 : decode cX6_street 56 = .ok (.iload 6, 2) := by decide +kernel
theorem dX6_street_58 : decode cX6_street 58 = .ok (.putfield 74, 3) := by decide +kernel
theorem dX6_street_61 : decode cX6_street 61 = .ok (.aload_n 0, 1) := by decide +kernel
theorem dX6_street_62 : decode cX6_street 62 = .ok (.iload 6, 2) := by decide +kernel
theorem dX6_street_64 : decode cX6_street 64 = .ok (.iload 4, 2) := by decide +kernel
theorem dX6_street_66 : decode cX6_street 66 = .ok (.iadd, 1) := by decide +kernel
theorem dX6_street_67 : decode cX6_street 67 = .ok (.invokevirtual 96, 3) := by decide +kernel
theorem dX6_street_70 : decode cX6_street 70 = .ok (.ifCond .ne 14, 3) := by decide +kernel
theorem dX6_street_73 : decode cX6_street 73 = .ok (.bipush (-100), 2) := by decide +kernel
theorem dX6_street_75 : decode cX6_street 75 = .ok (.aload_n 0, 1) := by decide +kernel
theorem dX6_street_76 : decode cX6_street 76 = .ok (.getfield 74, 3) := by decide +kernel
theorem dX6_street_79 : decode cX6_street 79 = .ok (.iload 6, 2) := by decide +kernel
theorem dX6_street_81 : decode cX6_street 81 = .ok (.isub, 1) := by decide +kernel
theorem dX6_street_82 : decode cX6_street 82 = .ok (.isub, 1) := by decide +kernel
theorem dX6_street_83 : decode cX6_street 83 = .ok (.ireturn, 1) := by decide +kernel
theorem dX6_street_84 : decode cX6_street 84 = .ok (.aload_n 0, 1) := by decide +kernel
theorem dX6_street_85 : decode cX6_street 85 = .ok (.invokevirtual 99, 3) := by decide +kernel
theorem dX6_street_88 : decode cX6_street 88 = .ok (.aload_n 0, 1) := by decide +kernel
theorem dX6_street_89 : decode cX6_street 89 = .ok (.getfield 71, 3) := by decide +kernel
theorem dX6_street_92 : decode cX6_street 92 = .ok (.ireturn, 1) := by decide +kernel
theorem dX6_takeStreet_0 : decode cX6_takeStreet 0 = .ok (.aload_n 0, 1) := by decide +kernel
theorem dX6_takeStreet_1 : decode cX6_takeStreet 1 = .ok (.aload_n 0, 1) := by decide +kernel
theorem dX6_takeStreet_2 : decode cX6_takeStreet 2 = .ok (.getfield 102, 3) := by decide +kernel
theorem dX6_takeStreet_5 : decode cX6_takeStreet 5 = .ok (.putfield 105, 3) := by decide +kernel
theorem dX6_takeStreet_8 : decode cX6_takeStreet 8 = .ok (.aload_n 0, 1) := by decide +kernel
theorem dX6_takeStreet_9 : decode cX6_takeStreet 9 = .ok (.aload_n 0, 1) := by decide +kernel
theorem dX6_takeStreet_10 : decode cX6_takeStreet 10 = .ok (.getfield 108, 3) := by decide +kernel
theorem dX6_takeStreet_13 : decode cX6_takeStreet 13 = .ok (.putfield 68, 3) := by decide +kernel
theorem dX6_takeStreet_16 : decode cX6_takeStreet 16 = .ok (.iconst 0, 1) := by decide +kernel
theorem dX6_takeStreet_17 : decode cX6_takeStreet 17 = .ok (.istore_n 1, 1) := by decide +kernel
theorem dX6_takeStreet_18 : decode cX6_takeStreet 18 = .ok (.iload_n 1, 1) := by decide +kernel
theorem dX6_takeStreet_19 : decode cX6_takeStreet 19 = .ok (.aload_n 0, 1) := by decide +kernel
theorem dX6_takeStreet_20 : decode cX6_takeStreet 20 = .ok (.getfield 68, 3) := by decide +kernel
theorem dX6_takeStreet_23 : decode cX6_takeStreet 23 = .ok (.if_icmp .ge 39, 3) := by decide +kernel
theorem dX6_takeStreet_26 : decode cX6_takeStreet 26 = .ok (.aload_n 0, 1) := by decide +kernel
theorem dX6_takeStreet_27 : decode cX6_takeStreet 27 = .ok (.getfield 19, 3) := by decide +kernel
theorem dX6_takeStreet_30 : decode cX6_takeStreet 30 = .ok (.iload_n 1, 1) := by decide +kernel
theorem dX6_takeStreet_31 : decode cX6_takeStreet 31 = .ok (.aload_n 0, 1) := by decide +kernel
theorem dX6_takeStreet_32 : decode cX6_takeStreet 32 = .ok (.getfield 31, 3) := by decide +kernel
theorem dX6_takeStreet_35 : decode cX6_takeStreet 35 = .ok (.iconst 2, 1) := by decide +kernel
theorem dX6_takeStreet_36 : decode cX6_takeStreet 36 = .ok (.iload_n 1, 1) := by decide +kernel
theorem dX6_takeStreet_37 : decode cX6_takeStreet 37 = .ok (.imul, 1) := by decide +kernel
theorem dX6_takeStreet_38 : decode cX6_takeStreet 38 = .ok (.iaload, 1) := by decide +kernel
theorem dX6_takeStreet_39 : decode cX6_takeStreet 39 = .ok (.iastore, 1) := by decide +kernel
theorem dX6_takeStreet_40 : decode cX6_takeStreet 40 = .ok (.aload_n 0, 1) := by decide +kernel
theorem dX6_takeStreet_41 : decode cX6_takeStreet 41 = .ok (.getfield 22, 3) := by decide +kernel
theorem dX6_takeStreet_44 : decode cX6_takeStreet 44 = .ok (.iload_n 1, 1) := by decide +kernel
theorem dX6_takeStreet_45 : decode cX6_takeStreet 45 = .ok (.aload_n 0, 1) := by decide +kernel
theorem dX6_takeStreet_46 : decode cX6_takeStreet 46 = .ok (.getfield 31, 3) := by decide +kernel
theorem dX6_takeStreet_49 : decode cX6_takeStreet 49 = .ok (.iconst 2, 1) := by decide +kernel
theorem dX6_takeStreet_50 : decode cX6_takeStreet 50 = .ok (.iload_n 1, 1) := by decide +kernel
theorem dX6_takeStreet_51 : decode cX6_takeStreet 51 = .ok (.imul, 1) := by decide +kernel
theorem dX6_takeStreet_52 : decode cX6_takeStreet 52 = .ok (.iconst 1, 1) := by decide +kernel
theorem dX6_takeStreet_53 : decode cX6_takeStreet 53 = .ok (.iadd, 1) := by decide +kernel
theorem dX6_takeStreet_54 : decode cX6_takeStreet 54 = .ok (.iaload, 1) := by decide +kernel
theorem dX6_takeStreet_55 : decode cX6_takeStreet 55 = .ok (.iastore, 1) := by decide +kernel
theorem dX6_takeStreet_56 : decode cX6_takeStreet 56 = .ok (.iinc 1 1, 3) := by decide +kernel
theorem dX6_takeStreet_59 : decode cX6_takeStreet 59 = .ok (.goto (-41), 3) := by decide +kernel
theorem dX6_takeStreet_62 : decode cX6_takeStreet 62 = .ok (.aload_n 0, 1) := by decide +kernel
theorem dX6_takeStreet_63 : decode cX6_takeStreet 63 = .ok (.aload_n 0, 1) := by decide +kernel
theorem dX6_takeStreet_64 : decode cX6_takeStreet 64 = .ok (.getfield 111, 3) := by decide +kernel
theorem dX6_takeStreet_67 : decode cX6_takeStreet 67 = .ok (.putfield 71, 3) := by decide +kernel
theorem dX6_takeStreet_70 : decode cX6_takeStreet 70 = .ok (.iconst 0, 1) := by decide +kernel
theorem dX6_takeStreet_71 : decode cX6_takeStreet 71 = .ok (.istore_n 1, 1) := by decide +kernel
theorem dX6_takeStreet_72 : decode cX6_takeStreet 72 = .ok (.iload_n 1, 1) := by decide +kernel
theorem dX6_takeStreet_73 : decode cX6_takeStreet 73 = .ok (.aload_n 0, 1) := by decide +kernel
theorem dX6_takeStreet_74 : decode cX6_takeStreet 74 = .ok (.getfield 71, 3) := by decide +kernel
theorem dX6_takeStreet_77 : decode cX6_takeStreet 77 = .ok (.if_icmp .ge 39, 3) := by decide +kernel
theorem dX6_takeStreet_80 : decode cX6_takeStreet 80 = .ok (.aload_n 0, 1) := by decide +kernel
theorem dX6_takeStreet_81 : decode cX6_takeStreet 81 = .ok (.getfield 25, 3) := by decide +kernel
theorem dX6_takeStreet_84 : decode cX6_takeStreet 84 = .ok (.iload_n 1, 1) := by decide +kernel
theorem dX6_takeStreet_85 : decode cX6_takeStreet 85 = .ok (.aload_n 0, 1) := by decide +kernel
theorem dX6_takeStreet_86 : decode cX6_takeStreet 86 = .ok (.getfield 34, 3) := by decide +kernel
theorem dX6_takeStreet_89 : decode cX6_takeStreet 89 = .ok (.iconst 2, 1) := by decide +kernel
theorem dX6_takeStreet_90 : decode cX6_takeStreet 90 = .ok (.iload_n 1, 1) := by decide +kernel
theorem dX6_takeStreet_91 : decode cX6_takeStreet 91 = .ok (.imul, 1) := by decide +kernel
theorem dX6_takeStreet_92 : decode cX6_takeStreet 92 = .ok (.iaload, 1) := by decide +kernel
theorem dX6_takeStreet_93 : decode cX6_takeStreet 93 = .ok (.iastore, 1) := by decide +kernel
theorem dX6_takeStreet_94 : decode cX6_takeStreet 94 = .ok (.aload_n 0, 1) := by decide +kernel
theorem dX6_takeStreet_95 : decode cX6_takeStreet 95 = .ok (.getfield 28, 3) := by decide +kernel
theorem dX6_takeStreet_98 : decode cX6_takeStreet 98 = .ok (.iload_n 1, 1) := by decide +kernel
theorem dX6_takeStreet_99 : decode cX6_takeStreet 99 = .ok (.aload_n 0, 1) := by decide +kernel
theorem dX6_takeStreet_100 : decode cX6_takeStreet 100 = .ok (.getfield 34, 3) := by decide +kernel
theorem dX6_takeStreet_103 : decode cX6_takeStreet 103 = .ok (.iconst 2, 1) := by decide +kernel
theorem dX6_takeStreet_104 : decode cX6_takeStreet 104 = .ok (.iload_n 1, 1) := by decide +kernel
theorem dX6_takeStreet_105 : decode cX6_takeStreet 105 = .ok (.imul, 1) := by decide +kernel
theorem dX6_takeStreet_106 : decode cX6_takeStreet 106 = .ok (.iconst 1, 1) := by decide +kernel
theorem dX6_takeStreet_107 : decode cX6_takeStreet 107 = .ok (.iadd, 1) := by decide +kernel
theorem dX6_takeStreet_108 : decode cX6_takeStreet 108 = .ok (.iaload, 1) := by decide +kernel
theorem dX6_takeStreet_109 : decode cX6_takeStreet 109 = .ok (.iastore, 1) := by decide +kernel
theorem dX6_takeStreet_110 : decode cX6_takeStreet 110 = .ok (.iinc 1 1, 3) := by decide +kernel
theorem dX6_takeStreet_113 : decode cX6_takeStreet 113 = .ok (.goto (-41), 3) := by decide +kernel
theorem dX6_takeStreet_116 : decode cX6_takeStreet 116 = .ok (.aload_n 0, 1) := by decide +kernel
theorem dX6_takeStreet_117 : decode cX6_takeStreet 117 = .ok (.iconst 0, 1) := by decide +kernel
theorem dX6_takeStreet_118 : decode cX6_takeStreet 118 = .ok (.putfield 114, 3) := by decide +kernel
theorem dX6_takeStreet_121 : decode cX6_takeStreet 121 = .ok (.aload_n 0, 1) := by decide +kernel
theorem dX6_takeStreet_122 : decode cX6_takeStreet 122 = .ok (.iconst 0, 1) := by decide +kernel
theorem dX6_takeStreet_123 : decode cX6_takeStreet 123 = .ok (.putfield 117, 3) := by decide +kernel
theorem dX6_takeStreet_126 : decode cX6_takeStreet 126 = .ok (.aload_n 0, 1) := by decide +kernel
theorem dX6_takeStreet_127 : decode cX6_takeStreet 127 = .ok (.iconst 0, 1) := by decide +kernel
theorem dX6_takeStreet_128 : decode cX6_takeStreet 128 = .ok (.putfield 120, 3) := by decide +kernel
theorem dX6_takeStreet_131 : decode cX6_takeStreet 131 = .ok (.return_, 1) := by decide +kernel
set_option maxRecDepth 20000 in
theorem ggX6_readStreet_X6_isSign : GoodIn wsX6_readStreet wsX6_isSign := goodIn_r _ [9, 4, 10, 11, 12, 8, 13, 14, 32, 33, 34, 35, 36, 37, 38, 39, 40, 41, 42, 43, 44, 45, 46, 47, 48, 49, 50, 51, 52, 53, 54, 55, 56, 57, 58, 59, 60, 61] (by decide +kernel) (by decide +kernel)
set_option maxRecDepth 20000 in
theorem gX6_readStreet_X6_isSign : GoodIn wsX6_readStreet (wsV RX6 123 RX6 yX6_isSign wsX6_isSign) := goodIn_app (goodIn_of _ (by decide +kernel)) ggX6_readStreet_X6_isSign
set_option maxRecDepth 20000 in
theorem ggX6_readStreet_X6_digit : GoodIn wsX6_readStreet wsX6_digit := goodIn_r _ [18, 4, 14, 19, 20, 8, 21, 32, 33, 34, 35, 36, 37, 38, 39, 40, 41, 42, 43, 44, 45, 46, 47, 48, 49, 50, 51, 52, 53, 54, 55, 56, 57, 58, 59, 60, 61] (by decide +kernel) (by decide +kernel)
set_option maxRecDepth 20000 in
theorem gX6_readStreet_X6_digit : GoodIn wsX6_readStreet (wsV RX6 126 RX6 yX6_digit wsX6_digit) := goodIn_app (goodIn_of _ (by decide +kernel)) ggX6_readStreet_X6_digit
set_option maxRecDepth 20000 in
theorem ggX6_readStreet_X6_isNext : GoodIn wsX6_readStreet wsX6_isNext := goodIn_r _ [13, 4, 14, 32, 33, 34, 35, 36, 37, 38, 39, 40, 41, 42, 43, 44, 45, 46, 47, 48, 49, 50, 51, 52, 53, 54, 55, 56, 57, 58, 59, 60, 61] (by decide +kernel) (by decide +kernel)
set_option maxRecDepth 20000 in
theorem gX6_readStreet_X6_isNext : GoodIn wsX6_readStreet (wsV RX6 77 RX6 yX6_isNext wsX6_isNext) := goodIn_app (goodIn_of _ (by decide +kernel)) ggX6_readStreet_X6_isNext
set_option maxRecDepth 20000 in
theorem ggX6_readStreet_X6_readTheHouse : GoodIn wsX6_readStreet wsX6_readTheHouse := goodIn_r _ [25, 4, 14, 1, 26, 15, 16, 17, 8, 18, 19, 20, 21, 32, 33, 34, 35, 36, 37, 38, 39, 40, 41, 42, 43, 44, 45, 46, 47, 48, 49, 50, 51, 52, 53, 54, 55, 56, 57, 58, 59, 60, 61] (by decide +kernel) (by decide +kernel)
set_option maxRecDepth 20000 in
theorem gX6_readStreet_X6_readTheHouse : GoodIn wsX6_readStreet (wsV RX6 130 RX6 yX6_readTheHouse wsX6_readTheHouse) := goodIn_app (goodIn_of _ (by decide +kernel)) ggX6_readStreet_X6_readTheHouse
set_option maxRecDepth 20000 in
theorem ggX6_readStreet_X6_readTheClock : GoodIn wsX6_readStreet wsX6_readTheClock := goodIn_r _ [30, 2, 31, 1, 15, 16, 17, 8, 18, 4, 14, 19, 20, 21, 32, 33, 34, 35, 36, 37, 38, 39, 40, 41, 42, 43, 44, 45, 46, 47, 48, 49, 50, 51, 52, 53, 54, 55, 56, 57, 58, 59, 60, 61] (by decide +kernel) (by decide +kernel)
set_option maxRecDepth 20000 in
theorem gX6_readStreet_X6_readTheClock : GoodIn wsX6_readStreet (wsV RX6 133 RX6 yX6_readTheClock wsX6_readTheClock) := goodIn_app (goodIn_of _ (by decide +kernel)) ggX6_readStreet_X6_readTheClock
theorem dX6_readStreet_0 : decode cX6_readStreet 0 = .ok (.aload_n 0, 1) := by decide +kernel
theorem dX6_readStreet_1 : decode cX6_readStreet 1 = .ok (.iconst 0, 1) := by decide +kernel
theorem dX6_readStreet_2 : decode cX6_readStreet 2 = .ok (.putfield 108, 3) := by decide +kernel
theorem dX6_readStreet_5 : decode cX6_readStreet 5 = .ok (.aload_n 0, 1) := by decide +kernel
theorem dX6_readStreet_6 : decode cX6_readStreet 6 = .ok (.iconst 0, 1) := by decide +kernel
theorem dX6_readStreet_7 : decode cX6_readStreet 7 = .ok (.putfield 111, 3) := by decide +kernel
theorem dX6_readStreet_10 : decode cX6_readStreet 10 = .ok (.aload_n 0, 1) := by decide +kernel
theorem dX6_readStreet_11 : decode cX6_readStreet 11 = .ok (.iload_n 1, 1) := by decide +kernel
theorem dX6_readStreet_12 : decode cX6_readStreet 12 = .ok (.bipush 99, 2) := by decide +kernel
theorem dX6_readStreet_14 : decode cX6_readStreet 14 = .ok (.invokevirtual 123, 3) := by decide +kernel
theorem dX6_readStreet_17 : decode cX6_readStreet 17 = .ok (.ifCond .ne 5, 3) := by decide +kernel
theorem dX6_readStreet_20 : decode cX6_readStreet 20 = .ok (.iconst 0, 1) := by decide +kernel
theorem dX6_readStreet_21 : decode cX6_readStreet 21 = .ok (.ireturn, 1) := by decide +kernel
theorem dX6_readStreet_22 : decode cX6_readStreet 22 = .ok (.aload_n 0, 1) := by decide +kernel
theorem dX6_readStreet_23 : decode cX6_readStreet 23 = .ok (.aload_n 0, 1) := by decide +kernel
theorem dX6_readStreet_24 : decode cX6_readStreet 24 = .ok (.iload_n 1, 1) := by decide +kernel
theorem dX6_readStreet_25 : decode cX6_readStreet 25 = .ok (.iconst 0, 1) := by decide +kernel
theorem dX6_readStreet_26 : decode cX6_readStreet 26 = .ok (.iconst 3, 1) := by decide +kernel
theorem dX6_readStreet_27 : decode cX6_readStreet 27 = .ok (.invokevirtual 126, 3) := by decide +kernel
theorem dX6_readStreet_30 : decode cX6_readStreet 30 = .ok (.putfield 102, 3) := by decide +kernel
theorem dX6_readStreet_33 : decode cX6_readStreet 33 = .ok (.aload_n 0, 1) := by decide +kernel
theorem dX6_readStreet_34 : decode cX6_readStreet 34 = .ok (.getfield 102, 3) := by decide +kernel
theorem dX6_readStreet_37 : decode cX6_readStreet 37 = .ok (.bipush (-9), 2) := by decide +kernel
theorem dX6_readStreet_39 : decode cX6_readStreet 39 = .ok (.if_icmp .ne 5, 3) := by decide +kernel
theorem dX6_readStreet_42 : decode cX6_readStreet 42 = .ok (.iconst 0, 1) := by decide +kernel
theorem dX6_readStreet_43 : decode cX6_readStreet 43 = .ok (.ireturn, 1) := by decide +kernel
theorem dX6_readStreet_44 : decode cX6_readStreet 44 = .ok (.aload_n 0, 1) := by decide +kernel
theorem dX6_readStreet_45 : decode cX6_readStreet 45 = .ok (.getfield 108, 3) := by decide +kernel
theorem dX6_readStreet_48 : decode cX6_readStreet 48 = .ok (.iconst 2, 1) := by decide +kernel
theorem dX6_readStreet_49 : decode cX6_readStreet 49 = .ok (.if_icmp .lt 22, 3) := by decide +kernel
theorem dX6_readStreet_52 : decode cX6_readStreet 52 = .ok (.aload_n 0, 1) := by decide +kernel
theorem dX6_readStreet_53 : decode cX6_readStreet 53 = .ok (.getfield 108, 3) := by decide +kernel
theorem dX6_readStreet_56 : decode cX6_readStreet 56 = .ok (.bipush 6, 2) := by decide +kernel
theorem dX6_readStreet_58 : decode cX6_readStreet 58 = .ok (.if_icmp .ge 33, 3) := by decide +kernel
theorem dX6_readStreet_61 : decode cX6_readStreet 61 = .ok (.aload_n 0, 1) := by decide +kernel
theorem dX6_readStreet_62 : decode cX6_readStreet 62 = .ok (.iload_n 1, 1) := by decide +kernel
theorem dX6_readStreet_63 : decode cX6_readStreet 63 = .ok (.bipush 59, 2) := by decide +kernel
theorem dX6_readStreet_65 : decode cX6_readStreet 65 = .ok (.invokevirtual 77, 3) := by decide +kernel
theorem dX6_readStreet_68 : decode cX6_readStreet 68 = .ok (.ifCond .eq 23, 3) := by decide +kernel
theorem dX6_readStreet_71 : decode cX6_readStreet 71 = .ok (.aload_n 0, 1) := by decide +kernel
theorem dX6_readStreet_72 : decode cX6_readStreet 72 = .ok (.iload_n 1, 1) := by decide +kernel
theorem dX6_readStreet_73 : decode cX6_readStreet 73 = .ok (.bipush 59, 2) := by decide +kernel
theorem dX6_readStreet_75 : decode cX6_readStreet 75 = .ok (.invokevirtual 123, 3) := by decide +kernel
theorem dX6_readStreet_78 : decode cX6_readStreet 78 = .ok (.ifCond .eq 11, 3) := by decide +kernel
theorem dX6_readStreet_81 : decode cX6_readStreet 81 = .ok (.aload_n 0, 1) := by decide +kernel
theorem dX6_readStreet_82 : decode cX6_readStreet 82 = .ok (.iload_n 1, 1) := by decide +kernel
theorem dX6_readStreet_83 : decode cX6_readStreet 83 = .ok (.invokevirtual 130, 3) := by decide +kernel
theorem dX6_readStreet_86 : decode cX6_readStreet 86 = .ok (.ifCond .ne (-42), 3) := by decide +kernel
theorem dX6_readStreet_89 : decode cX6_readStreet 89 = .ok (.iconst 0, 1) := by decide +kernel
theorem dX6_readStreet_90 : decode cX6_readStreet 90 = .ok (.ireturn, 1) := by decide +kernel
theorem dX6_readStreet_91 : decode cX6_readStreet 91 = .ok (.aload_n 0, 1) := by decide +kernel
theorem dX6_readStreet_92 : decode cX6_readStreet 92 = .ok (.getfield 111, 3) := by decide +kernel
theorem dX6_readStreet_95 : decode cX6_readStreet 95 = .ok (.ifCond .eq 19, 3) := by decide +kernel
theorem dX6_readStreet_98 : decode cX6_readStreet 98 = .ok (.aload_n 0, 1) := by decide +kernel
theorem dX6_readStreet_99 : decode cX6_readStreet 99 = .ok (.getfield 111, 3) := by decide +kernel
theorem dX6_readStreet_102 : decode cX6_readStreet 102 = .ok (.iconst 4, 1) := by decide +kernel
theorem dX6_readStreet_103 : decode cX6_readStreet 103 = .ok (.if_icmp .ge 31, 3) := by decide +kernel
theorem dX6_readStreet_106 : decode cX6_readStreet 106 = .ok (.aload_n 0, 1) := by decide +kernel
theorem dX6_readStreet_107 : decode cX6_readStreet 107 = .ok (.getfield 74, 3) := by decide +kernel
theorem dX6_readStreet_110 : decode cX6_readStreet 110 = .ok (.iload_n 1, 1) := by decide +kernel
theorem dX6_readStreet_111 : decode cX6_readStreet 111 = .ok (.if_icmp .ge 23, 3) := by decide +kernel
theorem dX6_readStreet_114 : decode cX6_readStreet 114 = .ok (.aload_n 0, 1) := by decide +kernel
theorem dX6_readStreet_115 : decode cX6_readStreet 115 = .ok (.iload_n 1, 1) := by decide +kernel
theorem dX6_readStreet_116 : decode cX6_readStreet 116 = .ok (.bipush 44, 2) := by decide +kernel
theorem dX6_readStreet_118 : decode cX6_readStreet 118 = .ok (.invokevirtual 123, 3) := by decide +kernel
theorem dX6_readStreet_121 : decode cX6_readStreet 121 = .ok (.ifCond .eq 11, 3) := by decide +kernel
theorem dX6_readStreet_124 : decode cX6_readStreet 124 = .ok (.aload_n 0, 1) := by decide +kernel
theorem dX6_readStreet_125 : decode cX6_readStreet 125 = .ok (.iload_n 1, 1) := by decide +kernel
theorem dX6_readStreet_126 : decode cX6_readStreet 126 = .ok (.invokevirtual 133, 3) := by decide +kernel
theorem dX6_readStreet_129 : decode cX6_readStreet 129 = .ok (.ifCond .ne (-38), 3) := by decide +kernel
theorem dX6_readStreet_132 : decode cX6_readStreet 132 = .ok (.iconst 0, 1) := by decide +kernel
theorem dX6_readStreet_133 : decode cX6_readStreet 133 = .ok (.ireturn, 1) := by decide +kernel
theorem dX6_readStreet_134 : decode cX6_readStreet 134 = .ok (.aload_n 0, 1) := by decide +kernel
theorem dX6_readStreet_135 : decode cX6_readStreet 135 = .ok (.getfield 74, 3) := by decide +kernel
theorem dX6_readStreet_138 : decode cX6_readStreet 138 = .ok (.iload_n 1, 1) := by decide +kernel
theorem dX6_readStreet_139 : decode cX6_readStreet 139 = .ok (.if_icmp .ne 7, 3) := by decide +kernel
theorem dX6_readStreet_142 : decode cX6_readStreet 142 = .ok (.iconst 1, 1) := by decide +kernel
theorem dX6_readStreet_143 : decode cX6_readStreet 143 = .ok (.goto 4, 3) := by decide +kernel
theorem dX6_readStreet_146 : decode cX6_readStreet 146 = .ok (.iconst 0, 1) := by decide +kernel
theorem dX6_readStreet_147 : decode cX6_readStreet 147 = .ok (.ireturn, 1) := by decide +kernel
set_option maxRecDepth 20000 in
theorem ggX6_readTheHouse_X6_digit : GoodIn wsX6_readTheHouse wsX6_digit := goodIn_r _ [9, 1, 2, 10, 11, 8, 12, 13, 14, 15, 16, 17, 18, 19, 20, 21, 22, 23, 24, 25, 26, 27, 28, 29, 30, 31, 32, 33, 34, 35, 36, 37, 38, 39, 40, 41, 42] (by decide +kernel) (by decide +kernel)
set_option maxRecDepth 20000 in
theorem gX6_readTheHouse_X6_digit : GoodIn wsX6_readTheHouse (wsV RX6 126 RX6 yX6_digit wsX6_digit) := goodIn_app (goodIn_of _ (by decide +kernel)) ggX6_readTheHouse_X6_digit
theorem dX6_readTheHouse_0 : decode cX6_readTheHouse 0 = .ok (.aload_n 0, 1) := by decide +kernel
theorem dX6_readTheHouse_1 : decode cX6_readTheHouse 1 = .ok (.getfield 74, 3) := by decide +kernel
theorem dX6_readTheHouse_4 : decode cX6_readTheHouse 4 = .ok (.iload_n 1, 1) := by decide +kernel
theorem dX6_readTheHouse_5 : decode cX6_readTheHouse 5 = .ok (.if_icmp .ge 15, 3) := by decide +kernel
theorem dX6_readTheHouse_8 : decode cX6_readTheHouse 8 = .ok (.aload_n 0, 1) := by decide +kernel
theorem dX6_readTheHouse_9 : decode cX6_readTheHouse 9 = .ok (.getfield 16, 3) := by decide +kernel
theorem dX6_readTheHouse_12 : decode cX6_readTheHouse 12 = .ok (.aload_n 0, 1) := by decide +kernel
theorem dX6_readTheHouse_13 : decode cX6_readTheHouse 13 = .ok (.getfield 74, 3) := by decide +kernel
theorem dX6_readTheHouse_16 : decode cX6_readTheHouse 16 = .ok (.iaload, 1) := by decide +kernel
theorem dX6_readTheHouse_17 : decode cX6_readTheHouse 17 = .ok (.goto 4, 3) := by decide +kernel
theorem dX6_readTheHouse_20 : decode cX6_readTheHouse 20 = .ok (.iconst 0, 1) := by decide +kernel
theorem dX6_readTheHouse_21 : decode cX6_readTheHouse 21 = .ok (.istore_n 2, 1) := by decide +kernel
theorem dX6_readTheHouse_22 : decode cX6_readTheHouse 22 = .ok (.iconst 2, 1) := by decide +kernel
theorem dX6_readTheHouse_23 : decode cX6_readTheHouse 23 = .ok (.aload_n 0, 1) := by decide +kernel
theorem dX6_readTheHouse_24 : decode cX6_readTheHouse 24 = .ok (.getfield 108, 3) := by decide +kernel
theorem dX6_readTheHouse_27 : decode cX6_readTheHouse 27 = .ok (.imul, 1) := by decide +kernel
theorem dX6_readTheHouse_28 : decode cX6_readTheHouse 28 = .ok (.istore_n 3, 1) := by decide +kernel
theorem dX6_readTheHouse_29 : decode cX6_readTheHouse 29 = .ok (.aload_n 0, 1) := by decide +kernel
theorem dX6_readTheHouse_30 : decode cX6_readTheHouse 30 = .ok (.getfield 31, 3) := by decide +kernel
theorem dX6_readTheHouse_33 : decode cX6_readTheHouse 33 = .ok (.iload_n 3, 1) := by decide +kernel
theorem dX6_readTheHouse_34 : decode cX6_readTheHouse 34 = .ok (.iload_n 2, 1) := by decide +kernel
theorem dX6_readTheHouse_35 : decode cX6_readTheHouse 35 = .ok (.bipush 115, 2) := by decide +kernel
theorem dX6_readTheHouse_37 : decode cX6_readTheHouse 37 = .ok (.if_icmp .ne 7, 3) := by decide +kernel
theorem dX6_readTheHouse_40 : decode cX6_readTheHouse 40 = .ok (.iconst 0, 1) := by decide +kernel
theorem dX6_readTheHouse_41 : decode cX6_readTheHouse 41 = .ok (.goto 25, 3) := by decide +kernel
theorem dX6_readTheHouse_44 : decode cX6_readTheHouse 44 = .ok (.iload_n 2, 1) := by decide +kernel
theorem dX6_readTheHouse_45 : decode cX6_readTheHouse 45 = .ok (.bipush 110, 2) := by decide +kernel
theorem dX6_readTheHouse_47 : decode cX6_readTheHouse 47 = .ok (.if_icmp .ne 7, 3) := by decide +kernel
theorem dX6_readTheHouse_50 : decode cX6_readTheHouse 50 = .ok (.iconst 1, 1) := by decide +kernel
theorem dX6_readTheHouse_51 : decode cX6_readTheHouse 51 = .ok (.goto 15, 3) := by decide +kernel
theorem dX6_readTheHouse_54 : decode cX6_readTheHouse 54 = .ok (.iload_n 2, 1) := by decide +kernel
theorem dX6_readTheHouse_55 : decode cX6_readTheHouse 55 = .ok (.bipush 98, 2) := by decide +kernel
theorem dX6_readTheHouse_57 : decode cX6_readTheHouse 57 = .ok (.if_icmp .ne 7, 3) := by decide +kernel
theorem dX6_readTheHouse_60 : decode cX6_readTheHouse 60 = .ok (.iconst 2, 1) := by decide +kernel
theorem dX6_readTheHouse_61 : decode cX6_readTheHouse 61 = .ok (.goto 5, 3) := by decide +kernel
theorem dX6_readTheHouse_64 : decode cX6_readTheHouse 64 = .ok (.bipush (-9), 2) := by decide +kernel
theorem dX6_readTheHouse_66 : decode cX6_readTheHouse 66 = .ok (.iastore, 1) := by decide +kernel
theorem dX6_readTheHouse_67 : decode cX6_readTheHouse 67 = .ok (.aload_n 0, 1) := by decide +kernel
theorem dX6_readTheHouse_68 : decode cX6_readTheHouse 68 = .ok (.getfield 31, 3) := by decide +kernel
theorem dX6_readTheHouse_71 : decode cX6_readTheHouse 71 = .ok (.iload_n 3, 1) := by decide +kernel
theorem dX6_readTheHouse_72 : decode cX6_readTheHouse 72 = .ok (.iaload, 1) := by decide +kernel
theorem dX6_readTheHouse_73 : decode cX6_readTheHouse 73 = .ok (.bipush (-9), 2) := by decide +kernel
theorem dX6_readTheHouse_75 : decode cX6_readTheHouse 75 = .ok (.if_icmp .ne 5, 3) := by decide +kernel
theorem dX6_readTheHouse_78 : decode cX6_readTheHouse 78 = .ok (.iconst 0, 1) := by decide +kernel
theorem dX6_readTheHouse_79 : decode cX6_readTheHouse 79 = .ok (.ireturn, 1) := by decide +kernel
theorem dX6_readTheHouse_80 : decode cX6_readTheHouse 80 = .ok (.aload_n 0, 1) := by decide +kernel
theorem dX6_readTheHouse_81 : decode cX6_readTheHouse 81 = .ok (.dup, 1) := by decide +kernel
theorem dX6_readTheHouse_82 : decode cX6_readTheHouse 82 = .ok (.getfield 74, 3) := by decide +kernel
theorem dX6_readTheHouse_85 : decode cX6_readTheHouse 85 = .ok (.iconst 1, 1) := by decide +kernel
theorem dX6_readTheHouse_86 : decode cX6_readTheHouse 86 = .ok (.iadd, 1) := by decide +kernel
theorem dX6_readTheHouse_87 : decode cX6_readTheHouse 87 = .ok (.putfield 74, 3) := by decide +kernel
theorem dX6_readTheHouse_90 : decode cX6_readTheHouse 90 = .ok (.aload_n 0, 1) := by decide +kernel
theorem dX6_readTheHouse_91 : decode cX6_readTheHouse 91 = .ok (.getfield 31, 3) := by decide +kernel
theorem dX6_readTheHouse_94 : decode cX6_readTheHouse 94 = .ok (.iload_n 3, 1) := by decide +kernel
theorem dX6_readTheHouse_95 : decode cX6_readTheHouse 95 = .ok (.iconst 1, 1) := by decide +kernel
theorem dX6_readTheHouse_96 : decode cX6_readTheHouse 96 = .ok (.iadd, 1) := by decide +kernel
theorem dX6_readTheHouse_97 : decode cX6_readTheHouse 97 = .ok (.aload_n 0, 1) := by decide +kernel
theorem dX6_readTheHouse_98 : decode cX6_readTheHouse 98 = .ok (.iload_n 1, 1) := by decide +kernel
theorem dX6_readTheHouse_99 : decode cX6_readTheHouse 99 = .ok (.iconst 1, 1) := by decide +kernel
theorem dX6_readTheHouse_100 : decode cX6_readTheHouse 100 = .ok (.bipush 9, 2) := by decide +kernel
theorem dX6_readTheHouse_102 : decode cX6_readTheHouse 102 = .ok (.invokevirtual 126, 3) := by decide +kernel
theorem dX6_readTheHouse_105 : decode cX6_readTheHouse 105 = .ok (.iastore, 1) := by decide +kernel
theorem dX6_readTheHouse_106 : decode cX6_readTheHouse 106 = .ok (.aload_n 0, 1) := by decide +kernel
theorem dX6_readTheHouse_107 : decode cX6_readTheHouse 107 = .ok (.dup, 1) := by decide +kernel
theorem dX6_readTheHouse_108 : decode cX6_readTheHouse 108 = .ok (.getfield 108, 3) := by decide +kernel
theorem dX6_readTheHouse_111 : decode cX6_readTheHouse 111 = .ok (.iconst 1, 1) := by decide +kernel
theorem dX6_readTheHouse_112 : decode cX6_readTheHouse 112 = .ok (.iadd, 1) := by decide +kernel
theorem dX6_readTheHouse_113 : decode cX6_readTheHouse 113 = .ok (.putfield 108, 3) := by decide +kernel
theorem dX6_readTheHouse_116 : decode cX6_readTheHouse 116 = .ok (.aload_n 0, 1) := by decide +kernel
theorem dX6_readTheHouse_117 : decode cX6_readTheHouse 117 = .ok (.getfield 31, 3) := by decide +kernel
theorem dX6_readTheHouse_120 : decode cX6_readTheHouse 120 = .ok (.iload_n 3, 1) := by decide +kernel
theorem dX6_readTheHouse_121 : decode cX6_readTheHouse 121 = .ok (.iconst 1, 1) := by decide +kernel
theorem dX6_readTheHouse_122 : decode cX6_readTheHouse 122 = .ok (.iadd, 1) := by decide +kernel
theorem dX6_readTheHouse_123 : decode cX6_readTheHouse 123 = .ok (.iaload, 1) := by decide +kernel
theorem dX6_readTheHouse_124 : decode cX6_readTheHouse 124 = .ok (.bipush (-9), 2) := by decide +kernel
theorem dX6_readTheHouse_126 : decode cX6_readTheHouse 126 = .ok (.if_icmp .eq 7, 3) := by decide +kernel
theorem dX6_readTheHouse_129 : decode cX6_readTheHouse 129 = .ok (.iconst 1, 1) := by decide +kernel
theorem dX6_readTheHouse_130 : decode cX6_readTheHouse 130 = .ok (.goto 4, 3) := by decide +kernel
theorem dX6_readTheHouse_133 : decode cX6_readTheHouse 133 = .ok (.iconst 0, 1) := by decide +kernel
theorem dX6_readTheHouse_134 : decode cX6_readTheHouse 134 = .ok (.ireturn, 1) := by decide +kernel
set_option maxRecDepth 20000 in
theorem ggX6_readTheClock_X6_digit : GoodIn wsX6_readTheClock wsX6_digit := goodIn_r _ [8, 9, 10, 11, 12, 7, 13, 14, 15, 16, 17, 18, 19, 20, 21, 22, 23, 24, 25, 26, 27, 28, 29, 30, 31, 32, 33, 34, 35, 36, 37, 38, 39, 40, 41, 42, 43] (by decide +kernel) (by decide +kernel)
set_option maxRecDepth 20000 in
theorem gX6_readTheClock_X6_digit : GoodIn wsX6_readTheClock (wsV RX6 126 RX6 yX6_digit wsX6_digit) := goodIn_app (goodIn_of _ (by decide +kernel)) ggX6_readTheClock_X6_digit
theorem dX6_readTheClock_0 : decode cX6_readTheClock 0 = .ok (.iconst 2, 1) := by decide +kernel
theorem dX6_readTheClock_1 : decode cX6_readTheClock 1 = .ok (.aload_n 0, 1) := by decide +kernel
theorem dX6_readTheClock_2 : decode cX6_readTheClock 2 = .ok (.getfield 111, 3) := by decide +kernel
theorem dX6_readTheClock_5 : decode cX6_readTheClock 5 = .ok (.imul, 1) := by decide +kernel
theorem dX6_readTheClock_6 : decode cX6_readTheClock 6 = .ok (.istore_n 2, 1) := by decide +kernel
theorem dX6_readTheClock_7 : decode cX6_readTheClock 7 = .ok (.aload_n 0, 1) := by decide +kernel
theorem dX6_readTheClock_8 : decode cX6_readTheClock 8 = .ok (.getfield 34, 3) := by decide +kernel
theorem dX6_readTheClock_11 : decode cX6_readTheClock 11 = .ok (.iload_n 2, 1) := by decide +kernel
theorem dX6_readTheClock_12 : decode cX6_readTheClock 12 = .ok (.aload_n 0, 1) := by decide +kernel
theorem dX6_readTheClock_13 : decode cX6_readTheClock 13 = .ok (.iload_n 1, 1) := by decide +kernel
theorem dX6_readTheClock_14 : decode cX6_readTheClock 14 = .ok (.iconst 1, 1) := by decide +kernel
theorem dX6_readTheClock_15 : decode cX6_readTheClock 15 = .ok (.bipush 9, 2) := by decide +kernel
theorem dX6_readTheClock_17 : decode cX6_readTheClock 17 = .ok (.invokevirtual 126, 3) := by decide +kernel
theorem dX6_readTheClock_20 : decode cX6_readTheClock 20 = .ok (.iastore, 1) := by decide +kernel
theorem dX6_readTheClock_21 : decode cX6_readTheClock 21 = .ok (.aload_n 0, 1) := by decide +kernel
theorem dX6_readTheClock_22 : decode cX6_readTheClock 22 = .ok (.getfield 34, 3) := by decide +kernel
theorem dX6_readTheClock_25 : decode cX6_readTheClock 25 = .ok (.iload_n 2, 1) := by decide +kernel
theorem dX6_readTheClock_26 : decode cX6_readTheClock 26 = .ok (.iaload, 1) := by decide +kernel
theorem dX6_readTheClock_27 : decode cX6_readTheClock 27 = .ok (.bipush (-9), 2) := by decide +kernel
theorem dX6_readTheClock_29 : decode cX6_readTheClock 29 = .ok (.if_icmp .ne 5, 3) := by decide +kernel
theorem dX6_readTheClock_32 : decode cX6_readTheClock 32 = .ok (.iconst 0, 1) := by decide +kernel
theorem dX6_readTheClock_33 : decode cX6_readTheClock 33 = .ok (.ireturn, 1) := by decide +kernel
theorem dX6_readTheClock_34 : decode cX6_readTheClock 34 = .ok (.aload_n 0, 1) := by decide +kernel
theorem dX6_readTheClock_35 : decode cX6_readTheClock 35 = .ok (.getfield 34, 3) := by decide +kernel
theorem dX6_readTheClock_38 : decode cX6_readTheClock 38 = .ok (.iload_n 2, 1) := by decide +kernel
theorem dX6_readTheClock_39 : decode cX6_readTheClock 39 = .ok (.iconst 1, 1) := by decide +kernel
theorem dX6_readTheClock_40 : decode cX6_readTheClock 40 = .ok (.iadd, 1) := by decide +kernel
theorem dX6_readTheClock_41 : decode cX6_readTheClock 41 = .ok (.aload_n 0, 1) := by decide +kernel
theorem dX6_readTheClock_42 : decode cX6_readTheClock 42 = .ok (.iload_n 1, 1) := by decide +kernel
theorem dX6_readTheClock_43 : decode cX6_readTheClock 43 = .ok (.iconst 0, 1) := by decide +kernel
theorem dX6_readTheClock_44 : decode cX6_readTheClock 44 = .ok (.aload_n 0, 1) := by decide +kernel
theorem dX6_readTheClock_45 : decode cX6_readTheClock 45 = .ok (.getfield 108, 3) := by decide +kernel
theorem dX6_readTheClock_48 : decode cX6_readTheClock 48 = .ok (.iconst 1, 1) := by decide +kernel
theorem dX6_readTheClock_49 : decode cX6_readTheClock 49 = .ok (.isub, 1) := by decide +kernel
theorem dX6_readTheClock_50 : decode cX6_readTheClock 50 = .ok (.invokevirtual 126, 3) := by decide +kernel
theorem dX6_readTheClock_53 : decode cX6_readTheClock 53 = .ok (.iastore, 1) := by decide +kernel
theorem dX6_readTheClock_54 : decode cX6_readTheClock 54 = .ok (.aload_n 0, 1) := by decide +kernel
theorem dX6_readTheClock_55 : decode cX6_readTheClock 55 = .ok (.dup, 1) := by decide +kernel
theorem dX6_readTheClock_56 : decode cX6_readTheClock 56 = .ok (.getfield 111, 3) := by decide +kernel
theorem dX6_readTheClock_59 : decode cX6_readTheClock 59 = .ok (.iconst 1, 1) := by decide +kernel
theorem dX6_readTheClock_60 : decode cX6_readTheClock 60 = .ok (.iadd, 1) := by decide +kernel
theorem dX6_readTheClock_61 : decode cX6_readTheClock 61 = .ok (.putfield 111, 3) := by decide +kernel
theorem dX6_readTheClock_64 : decode cX6_readTheClock 64 = .ok (.aload_n 0, 1) := by decide +kernel
theorem dX6_readTheClock_65 : decode cX6_readTheClock 65 = .ok (.getfield 34, 3) := by decide +kernel
theorem dX6_readTheClock_68 : decode cX6_readTheClock 68 = .ok (.iload_n 2, 1) := by decide +kernel
theorem dX6_readTheClock_69 : decode cX6_readTheClock 69 = .ok (.iconst 1, 1) := by decide +kernel
theorem dX6_readTheClock_70 : decode cX6_readTheClock 70 = .ok (.iadd, 1) := by decide +kernel
theorem dX6_readTheClock_71 : decode cX6_readTheClock 71 = .ok (.iaload, 1) := by decide +kernel
theorem dX6_readTheClock_72 : decode cX6_readTheClock 72 = .ok (.bipush (-9), 2) := by decide +kernel
theorem dX6_readTheClock_74 : decode cX6_readTheClock 74 = .ok (.if_icmp .eq 7, 3) := by decide +kernel
theorem dX6_readTheClock_77 : decode cX6_readTheClock 77 = .ok (.iconst 1, 1) := by decide +kernel
theorem dX6_readTheClock_78 : decode cX6_readTheClock 78 = .ok (.goto 4, 3) := by decide +kernel
theorem dX6_readTheClock_81 : decode cX6_readTheClock 81 = .ok (.iconst 0, 1) := by decide +kernel
theorem dX6_readTheClock_82 : decode cX6_readTheClock 82 = .ok (.ireturn, 1) := by decide +kernel
theorem dX6_needsOf_0 : decode cX6_needsOf 0 = .ok (.aload_n 0, 1) := by decide +kernel
theorem dX6_needsOf_1 : decode cX6_needsOf 1 = .ok (.getfield 19, 3) := by decide +kernel
theorem dX6_needsOf_4 : decode cX6_needsOf 4 = .ok (.iload_n 1, 1) := by decide +kernel
theorem dX6_needsOf_5 : decode cX6_needsOf 5 = .ok (.iaload, 1) := by decide +kernel
theorem dX6_needsOf_6 : decode cX6_needsOf 6 = .ok (.ifCond .ne 12, 3) := by decide +kernel
theorem dX6_needsOf_9 : decode cX6_needsOf 9 = .ok (.aload_n 0, 1) := by decide +kernel
theorem dX6_needsOf_10 : decode cX6_needsOf 10 = .ok (.getfield 22, 3) := by decide +kernel
theorem dX6_needsOf_13 : decode cX6_needsOf 13 = .ok (.iload_n 1, 1) := by decide +kernel
theorem dX6_needsOf_14 : decode cX6_needsOf 14 = .ok (.iaload, 1) := by decide +kernel
theorem dX6_needsOf_15 : decode cX6_needsOf 15 = .ok (.goto 32, 3) := by decide +kernel
theorem dX6_needsOf_18 : decode cX6_needsOf 18 = .ok (.aload_n 0, 1) := by decide +kernel
theorem dX6_needsOf_19 : decode cX6_needsOf 19 = .ok (.getfield 19, 3) := by decide +kernel
theorem dX6_needsOf_22 : decode cX6_needsOf 22 = .ok (.iload_n 1, 1) := by decide +kernel
theorem dX6_needsOf_23 : decode cX6_needsOf 23 = .ok (.iaload, 1) := by decide +kernel
theorem dX6_needsOf_24 : decode cX6_needsOf 24 = .ok (.iconst 1, 1) := by decide +kernel
theorem dX6_needsOf_25 : decode cX6_needsOf 25 = .ok (.if_icmp .ne 14, 3) := by decide +kernel
theorem dX6_needsOf_28 : decode cX6_needsOf 28 = .ok (.aload_n 0, 1) := by decide +kernel
theorem dX6_needsOf_29 : decode cX6_needsOf 29 = .ok (.getfield 22, 3) := by decide +kernel
theorem dX6_needsOf_32 : decode cX6_needsOf 32 = .ok (.iload_n 1, 1) := by decide +kernel
theorem dX6_needsOf_33 : decode cX6_needsOf 33 = .ok (.iaload, 1) := by decide +kernel
theorem dX6_needsOf_34 : decode cX6_needsOf 34 = .ok (.iconst 1, 1) := by decide +kernel
theorem dX6_needsOf_35 : decode cX6_needsOf 35 = .ok (.isub, 1) := by decide +kernel
theorem dX6_needsOf_36 : decode cX6_needsOf 36 = .ok (.goto 11, 3) := by decide +kernel
theorem dX6_needsOf_39 : decode cX6_needsOf 39 = .ok (.aload_n 0, 1) := by decide +kernel
theorem dX6_needsOf_40 : decode cX6_needsOf 40 = .ok (.getfield 22, 3) := by decide +kernel
theorem dX6_needsOf_43 : decode cX6_needsOf 43 = .ok (.iload_n 1, 1) := by decide +kernel
theorem dX6_needsOf_44 : decode cX6_needsOf 44 = .ok (.iaload, 1) := by decide +kernel
theorem dX6_needsOf_45 : decode cX6_needsOf 45 = .ok (.iconst 2, 1) := by decide +kernel
theorem dX6_needsOf_46 : decode cX6_needsOf 46 = .ok (.idiv, 1) := by decide +kernel
theorem dX6_needsOf_47 : decode cX6_needsOf 47 = .ok (.ireturn, 1) := by decide +kernel
set_option maxRecDepth 20000 in
theorem ggX6_soundOf_X6_isOf : GoodIn wsX6_soundOf wsX6_isOf := goodIn_r _ [6] (by decide +kernel) (by decide +kernel)
set_option maxRecDepth 20000 in
theorem gX6_soundOf_X6_isOf : GoodIn wsX6_soundOf (va_wsS RX6 136 yX6_isOf wsX6_isOf) := goodIn_app (goodIn_of _ (by decide +kernel)) ggX6_soundOf_X6_isOf
theorem dX6_soundOf_0 : decode cX6_soundOf 0 = .ok (.aload_n 0, 1) := by decide +kernel
theorem dX6_soundOf_1 : decode cX6_soundOf 1 = .ok (.getfield 114, 3) := by decide +kernel
theorem dX6_soundOf_4 : decode cX6_soundOf 4 = .ok (.iload_n 1, 1) := by decide +kernel
theorem dX6_soundOf_5 : decode cX6_soundOf 5 = .ok (.invokestatic 136, 3) := by decide +kernel
theorem dX6_soundOf_8 : decode cX6_soundOf 8 = .ok (.ifCond .eq 14, 3) := by decide +kernel
theorem dX6_soundOf_11 : decode cX6_soundOf 11 = .ok (.aload_n 0, 1) := by decide +kernel
theorem dX6_soundOf_12 : decode cX6_soundOf 12 = .ok (.getfield 25, 3) := by decide +kernel
theorem dX6_soundOf_15 : decode cX6_soundOf 15 = .ok (.iload_n 1, 1) := by decide +kernel
theorem dX6_soundOf_16 : decode cX6_soundOf 16 = .ok (.iaload, 1) := by decide +kernel
theorem dX6_soundOf_17 : decode cX6_soundOf 17 = .ok (.iconst 2, 1) := by decide +kernel
theorem dX6_soundOf_18 : decode cX6_soundOf 18 = .ok (.idiv, 1) := by decide +kernel
theorem dX6_soundOf_19 : decode cX6_soundOf 19 = .ok (.goto 9, 3) := by decide +kernel
theorem dX6_soundOf_22 : decode cX6_soundOf 22 = .ok (.aload_n 0, 1) := by decide +kernel
theorem dX6_soundOf_23 : decode cX6_soundOf 23 = .ok (.getfield 25, 3) := by decide +kernel
theorem dX6_soundOf_26 : decode cX6_soundOf 26 = .ok (.iload_n 1, 1) := by decide +kernel
theorem dX6_soundOf_27 : decode cX6_soundOf 27 = .ok (.iaload, 1) := by decide +kernel
theorem dX6_soundOf_28 : decode cX6_soundOf 28 = .ok (.ireturn, 1) := by decide +kernel
set_option maxRecDepth 20000 in
theorem ggX6_heardFrom_X6_soundOf : GoodIn wsX6_heardFrom wsX6_soundOf := goodIn_r _ [6, 7, 8, 9, 10, 5, 11, 12, 13, 14, 15, 16, 17, 18, 19, 20, 21, 22, 23, 24, 25, 26, 27, 28, 29, 30, 31, 32, 33, 34, 35, 36, 37, 38, 39, 40, 41] (by decide +kernel) (by decide +kernel)
set_option maxRecDepth 20000 in
theorem gX6_heardFrom_X6_soundOf : GoodIn wsX6_heardFrom (wsV RX6 139 RX6 yX6_soundOf wsX6_soundOf) := goodIn_app (goodIn_of _ (by decide +kernel)) ggX6_heardFrom_X6_soundOf
theorem dX6_heardFrom_0 : decode cX6_heardFrom 0 = .ok (.aload_n 0, 1) := by decide +kernel
theorem dX6_heardFrom_1 : decode cX6_heardFrom 1 = .ok (.iload_n 2, 1) := by decide +kernel
theorem dX6_heardFrom_2 : decode cX6_heardFrom 2 = .ok (.invokevirtual 139, 3) := by decide +kernel
theorem dX6_heardFrom_5 : decode cX6_heardFrom 5 = .ok (.aload_n 0, 1) := by decide +kernel
theorem dX6_heardFrom_6 : decode cX6_heardFrom 6 = .ok (.getfield 105, 3) := by decide +kernel
theorem dX6_heardFrom_9 : decode cX6_heardFrom 9 = .ok (.iload_n 1, 1) := by decide +kernel
theorem dX6_heardFrom_10 : decode cX6_heardFrom 10 = .ok (.iload_n 3, 1) := by decide +kernel
theorem dX6_heardFrom_11 : decode cX6_heardFrom 11 = .ok (.if_icmp .ge 9, 3) := by decide +kernel
theorem dX6_heardFrom_14 : decode cX6_heardFrom 14 = .ok (.iload_n 3, 1) := by decide +kernel
theorem dX6_heardFrom_15 : decode cX6_heardFrom 15 = .ok (.iload_n 1, 1) := by decide +kernel
theorem dX6_heardFrom_16 : decode cX6_heardFrom 16 = .ok (.isub, 1) := by decide +kernel
theorem dX6_heardFrom_17 : decode cX6_heardFrom 17 = .ok (.goto 6, 3) := by decide +kernel
theorem dX6_heardFrom_20 : decode cX6_heardFrom 20 = .ok (.iload_n 1, 1) := by decide +kernel
theorem dX6_heardFrom_21 : decode cX6_heardFrom 21 = .ok (.iload_n 3, 1) := by decide +kernel
theorem dX6_heardFrom_22 : decode cX6_heardFrom 22 = .ok (.isub, 1) := by decide +kernel
theorem dX6_heardFrom_23 : decode cX6_heardFrom 23 = .ok (.imul, 1) := by decide +kernel
theorem dX6_heardFrom_24 : decode cX6_heardFrom 24 = .ok (.isub, 1) := by decide +kernel
theorem dX6_heardFrom_25 : decode cX6_heardFrom 25 = .ok (.ireturn, 1) := by decide +kernel
set_option maxRecDepth 20000 in
theorem ggX6_wakesFrom_X6_heardFrom : GoodIn wsX6_wakesFrom wsX6_heardFrom := goodIn_r _ [5, 6, 7, 8, 9, 4, 10, 11, 12, 13, 14, 15, 22, 23, 24, 25, 26, 27, 28, 29, 30, 31, 32, 33, 34, 35, 36, 37, 38, 39, 40, 41, 42, 43, 44, 45, 46, 47, 48, 49, 50, 51] (by decide +kernel) (by decide +kernel)
set_option maxRecDepth 20000 in
theorem gX6_wakesFrom_X6_heardFrom : GoodIn wsX6_wakesFrom (wsV RX6 142 RX6 yX6_heardFrom wsX6_heardFrom) := goodIn_app (goodIn_of _ (by decide +kernel)) ggX6_wakesFrom_X6_heardFrom
set_option maxRecDepth 20000 in
theorem ggX6_wakesFrom_X6_needsOf : GoodIn wsX6_wakesFrom wsX6_needsOf := goodIn_r _ [19, 20, 21, 22, 23, 24, 25, 26, 27, 28, 29, 30, 31, 32, 33, 34, 35, 36, 37, 38, 39, 40, 41, 42, 43, 44, 45, 46, 47, 48, 49, 50, 51] (by decide +kernel) (by decide +kernel)
set_option maxRecDepth 20000 in
theorem gX6_wakesFrom_X6_needsOf : GoodIn wsX6_wakesFrom (wsV RX6 145 RX6 yX6_needsOf wsX6_needsOf) := goodIn_app (goodIn_of _ (by decide +kernel)) ggX6_wakesFrom_X6_needsOf
theorem dX6_wakesFrom_0 : decode cX6_wakesFrom 0 = .ok (.aload_n 0, 1) := by decide +kernel
theorem dX6_wakesFrom_1 : decode cX6_wakesFrom 1 = .ok (.iload_n 1, 1) := by decide +kernel
theorem dX6_wakesFrom_2 : decode cX6_wakesFrom 2 = .ok (.iload_n 2, 1) := by decide +kernel
theorem dX6_wakesFrom_3 : decode cX6_wakesFrom 3 = .ok (.iload_n 3, 1) := by decide +kernel
theorem dX6_wakesFrom_4 : decode cX6_wakesFrom 4 = .ok (.invokevirtual 142, 3) := by decide +kernel
theorem dX6_wakesFrom_7 : decode cX6_wakesFrom 7 = .ok (.istore 4, 2) := by decide +kernel
theorem dX6_wakesFrom_9 : decode cX6_wakesFrom 9 = .ok (.iload 4, 2) := by decide +kernel
theorem dX6_wakesFrom_11 : decode cX6_wakesFrom 11 = .ok (.aload_n 0, 1) := by decide +kernel
theorem dX6_wakesFrom_12 : decode cX6_wakesFrom 12 = .ok (.iload_n 1, 1) := by decide +kernel
theorem dX6_wakesFrom_13 : decode cX6_wakesFrom 13 = .ok (.invokevirtual 145, 3) := by decide +kernel
theorem dX6_wakesFrom_16 : decode cX6_wakesFrom 16 = .ok (.if_icmp .lt 12, 3) := by decide +kernel
theorem dX6_wakesFrom_19 : decode cX6_wakesFrom 19 = .ok (.iload 4, 2) := by decide +kernel
theorem dX6_wakesFrom_21 : decode cX6_wakesFrom 21 = .ok (.ifCond .le 7, 3) := by decide +kernel
theorem dX6_wakesFrom_24 : decode cX6_wakesFrom 24 = .ok (.iconst 1, 1) := by decide +kernel
theorem dX6_wakesFrom_25 : decode cX6_wakesFrom 25 = .ok (.goto 4, 3) := by decide +kernel
theorem dX6_wakesFrom_28 : decode cX6_wakesFrom 28 = .ok (.iconst 0, 1) := by decide +kernel
theorem dX6_wakesFrom_29 : decode cX6_wakesFrom 29 = .ok (.ireturn, 1) := by decide +kernel
set_option maxRecDepth 20000 in
theorem ggX6_ownerFrom_X6_wakesFrom : GoodIn wsX6_ownerFrom wsX6_wakesFrom := goodIn_r _ [6, 7, 8, 9, 5, 10, 11, 12, 13, 14, 15, 16, 17, 18, 19, 20, 21, 22, 23, 24, 25, 26, 27, 28, 29, 30, 31, 32, 33, 34, 35, 36, 37, 38, 39, 40, 41, 42, 43, 44, 45, 46, 47, 48, 49, 50, 51, 52, 53, 54, 55, 56] (by decide +kernel) (by decide +kernel)
set_option maxRecDepth 20000 in
theorem gX6_ownerFrom_X6_wakesFrom : GoodIn wsX6_ownerFrom (wsV RX6 148 RX6 yX6_wakesFrom wsX6_wakesFrom) := goodIn_app (goodIn_of _ (by decide +kernel)) ggX6_ownerFrom_X6_wakesFrom
set_option maxRecDepth 20000 in
theorem ggX6_ownerFrom_X6_heardFrom : GoodIn wsX6_ownerFrom wsX6_heardFrom := goodIn_r _ [10, 11, 12, 13, 14, 5, 15, 16, 17, 18, 19, 20, 27, 28, 29, 30, 31, 32, 33, 34, 35, 36, 37, 38, 39, 40, 41, 42, 43, 44, 45, 46, 47, 48, 49, 50, 51, 52, 53, 54, 55, 56] (by decide +kernel) (by decide +kernel)
set_option maxRecDepth 20000 in
theorem gX6_ownerFrom_X6_heardFrom : GoodIn wsX6_ownerFrom (wsV RX6 142 RX6 yX6_heardFrom wsX6_heardFrom) := goodIn_app (goodIn_of _ (by decide +kernel)) ggX6_ownerFrom_X6_heardFrom
set_option maxRecDepth 20000 in
theorem ggX6_ownerFrom_X6_needsOf : GoodIn wsX6_ownerFrom wsX6_needsOf := goodIn_r _ [24, 25, 26, 27, 28, 29, 30, 31, 32, 33, 34, 35, 36, 37, 38, 39, 40, 41, 42, 43, 44, 45, 46, 47, 48, 49, 50, 51, 52, 53, 54, 55, 56] (by decide +kernel) (by decide +kernel)
set_option maxRecDepth 20000 in
theorem gX6_ownerFrom_X6_needsOf : GoodIn wsX6_ownerFrom (wsV RX6 145 RX6 yX6_needsOf wsX6_needsOf) := goodIn_app (goodIn_of _ (by decide +kernel)) ggX6_ownerFrom_X6_needsOf
theorem dX6_ownerFrom_0 : decode cX6_ownerFrom 0 = .ok (.bipush (-9), 2) := by decide +kernel
theorem dX6_ownerFrom_2 : decode cX6_ownerFrom 2 = .ok (.istore_n 3, 1) := by decide +kernel
theorem dX6_ownerFrom_3 : decode cX6_ownerFrom 3 = .ok (.iconst 0, 1) := by decide +kernel
theorem dX6_ownerFrom_4 : decode cX6_ownerFrom 4 = .ok (.istore 4, 2) := by decide +kernel
theorem dX6_ownerFrom_6 : decode cX6_ownerFrom 6 = .ok (.iload 4, 2) := by decide +kernel
theorem dX6_ownerFrom_8 : decode cX6_ownerFrom 8 = .ok (.aload_n 0, 1) := by decide +kernel
theorem dX6_ownerFrom_9 : decode cX6_ownerFrom 9 = .ok (.getfield 68, 3) := by decide +kernel
theorem dX6_ownerFrom_12 : decode cX6_ownerFrom 12 = .ok (.if_icmp .ge 68, 3) := by decide +kernel
theorem dX6_ownerFrom_15 : decode cX6_ownerFrom 15 = .ok (.aload_n 0, 1) := by decide +kernel
theorem dX6_ownerFrom_16 : decode cX6_ownerFrom 16 = .ok (.iload 4, 2) := by decide +kernel
theorem dX6_ownerFrom_18 : decode cX6_ownerFrom 18 = .ok (.iload_n 1, 1) := by decide +kernel
theorem dX6_ownerFrom_19 : decode cX6_ownerFrom 19 = .ok (.iload_n 2, 1) := by decide +kernel
theorem dX6_ownerFrom_20 : decode cX6_ownerFrom 20 = .ok (.invokevirtual 148, 3) := by decide +kernel
theorem dX6_ownerFrom_23 : decode cX6_ownerFrom 23 = .ok (.ifCond .eq 51, 3) := by decide +kernel
theorem dX6_ownerFrom_26 : decode cX6_ownerFrom 26 = .ok (.aload_n 0, 1) := by decide +kernel
theorem dX6_ownerFrom_27 : decode cX6_ownerFrom 27 = .ok (.iload 4, 2) := by decide +kernel
theorem dX6_ownerFrom_29 : decode cX6_ownerFrom 29 = .ok (.iload_n 1, 1) := by decide +kernel
theorem dX6_ownerFrom_30 : decode cX6_ownerFrom 30 = .ok (.iload_n 2, 1) := by decide +kernel
theorem dX6_ownerFrom_31 : decode cX6_ownerFrom 31 = .ok (.invokevirtual 142, 3) := by decide +kernel
theorem dX6_ownerFrom_34 : decode cX6_ownerFrom 34 = .ok (.aload_n 0, 1) := by decide +kernel
theorem dX6_ownerFrom_35 : decode cX6_ownerFrom 35 = .ok (.iload 4, 2) := by decide +kernel
theorem dX6_ownerFrom_37 : decode cX6_ownerFrom 37 = .ok (.invokevirtual 145, 3) := by decide +kernel
theorem dX6_ownerFrom_40 : decode cX6_ownerFrom 40 = .ok (.isub, 1) := by decide +kernel
theorem dX6_ownerFrom_41 : decode cX6_ownerFrom 41 = .ok (.istore 5, 2) := by decide +kernel
theorem dX6_ownerFrom_43 : decode cX6_ownerFrom 43 = .ok (.iload_n 3, 1) := by decide +kernel
theorem dX6_ownerFrom_44 : decode cX6_ownerFrom 44 = .ok (.bipush (-9), 2) := by decide +kernel
theorem dX6_ownerFrom_46 : decode cX6_ownerFrom 46 = .ok (.if_icmp .eq 21, 3) := by decide +kernel
theorem dX6_ownerFrom_49 : decode cX6_ownerFrom 49 = .ok (.iload 5, 2) := by decide +kernel
theorem dX6_ownerFrom_51 : decode cX6_ownerFrom 51 = .ok (.aload_n 0, 1) := by decide +kernel
theorem dX6_ownerFrom_52 : decode cX6_ownerFrom 52 = .ok (.iload_n 3, 1) := by decide +kernel
theorem dX6_ownerFrom_53 : decode cX6_ownerFrom 53 = .ok (.iload_n 1, 1) := by decide +kernel
theorem dX6_ownerFrom_54 : decode cX6_ownerFrom 54 = .ok (.iload_n 2, 1) := by decide +kernel
theorem dX6_ownerFrom_55 : decode cX6_ownerFrom 55 = .ok (.invokevirtual 142, 3) := by decide +kernel
theorem dX6_ownerFrom_58 : decode cX6_ownerFrom 58 = .ok (.aload_n 0, 1) := by decide +kernel
theorem dX6_ownerFrom_59 : decode cX6_ownerFrom 59 = .ok (.iload_n 3, 1) := by decide +kernel
theorem dX6_ownerFrom_60 : decode cX6_ownerFrom 60 = .ok (.invokevirtual 145, 3) := by decide +kernel
theorem dX6_ownerFrom_63 : decode cX6_ownerFrom 63 = .ok (.isub, 1) := by decide +kernel
theorem dX6_ownerFrom_64 : decode cX6_ownerFrom 64 = .ok (.if_icmp .le 8, 3) := by decide +kernel
theorem dX6_ownerFrom_67 : decode cX6_ownerFrom 67 = .ok (.iload 4, 2) := by decide +kernel
theorem dX6_ownerFrom_69 : decode cX6_ownerFrom 69 = .ok (.goto 4, 3) := by decide +kernel
theorem dX6_ownerFrom_72 : decode cX6_ownerFrom 72 = .ok (.iload_n 3, 1) := by decide +kernel
theorem dX6_ownerFrom_73 : decode cX6_ownerFrom 73 = .ok (.istore_n 3, 1) := by decide +kernel
theorem dX6_ownerFrom_74 : decode cX6_ownerFrom 74 = .ok (.iinc 4 1, 3) := by decide +kernel
theorem dX6_ownerFrom_77 : decode cX6_ownerFrom 77 = .ok (.goto (-71), 3) := by decide +kernel
theorem dX6_ownerFrom_80 : decode cX6_ownerFrom 80 = .ok (.iload_n 3, 1) := by decide +kernel
theorem dX6_ownerFrom_81 : decode cX6_ownerFrom 81 = .ok (.ireturn, 1) := by decide +kernel
set_option maxRecDepth 20000 in
theorem ggX6_wakersOf_X6_wakesFrom : GoodIn wsX6_wakersOf wsX6_wakesFrom := goodIn_r _ [6, 7, 8, 9, 5, 10, 11, 12, 13, 14, 15, 16, 17, 18, 19, 20, 21, 22, 23, 24, 25, 26, 27, 28, 29, 30, 31, 32, 33, 34, 35, 36, 37, 38, 39, 40, 41, 42, 43, 44, 45, 46, 47, 48, 49, 50, 51, 52, 53, 54, 55, 56] (by decide +kernel) (by decide +kernel)
set_option maxRecDepth 20000 in
theorem gX6_wakersOf_X6_wakesFrom : GoodIn wsX6_wakersOf (wsV RX6 148 RX6 yX6_wakesFrom wsX6_wakesFrom) := goodIn_app (goodIn_of _ (by decide +kernel)) ggX6_wakersOf_X6_wakesFrom
theorem dX6_wakersOf_0 : decode cX6_wakersOf 0 = .ok (.iconst 0, 1) := by decide +kernel
theorem dX6_wakersOf_1 : decode cX6_wakersOf 1 = .ok (.istore_n 3, 1) := by decide +kernel
theorem dX6_wakersOf_2 : decode cX6_wakersOf 2 = .ok (.iconst 0, 1) := by decide +kernel
theorem dX6_wakersOf_3 : decode cX6_wakersOf 3 = .ok (.istore 4, 2) := by decide +kernel
theorem dX6_wakersOf_5 : decode cX6_wakersOf 5 = .ok (.iload 4, 2) := by decide +kernel
theorem dX6_wakersOf_7 : decode cX6_wakersOf 7 = .ok (.aload_n 0, 1) := by decide +kernel
theorem dX6_wakersOf_8 : decode cX6_wakersOf 8 = .ok (.getfield 68, 3) := by decide +kernel
theorem dX6_wakersOf_11 : decode cX6_wakersOf 11 = .ok (.if_icmp .ge 31, 3) := by decide +kernel
theorem dX6_wakersOf_14 : decode cX6_wakersOf 14 = .ok (.iload_n 3, 1) := by decide +kernel
theorem dX6_wakersOf_15 : decode cX6_wakersOf 15 = .ok (.aload_n 0, 1) := by decide +kernel
theorem dX6_wakersOf_16 : decode cX6_wakersOf 16 = .ok (.iload 4, 2) := by decide +kernel
theorem dX6_wakersOf_18 : decode cX6_wakersOf 18 = .ok (.iload_n 1, 1) := by decide +kernel
theorem dX6_wakersOf_19 : decode cX6_wakersOf 19 = .ok (.iload_n 2, 1) := by decide +kernel
theorem dX6_wakersOf_20 : decode cX6_wakersOf 20 = .ok (.invokevirtual 148, 3) := by decide +kernel
theorem dX6_wakersOf_23 : decode cX6_wakersOf 23 = .ok (.ifCond .eq 10, 3) := by decide +kernel
theorem dX6_wakersOf_26 : decode cX6_wakersOf 26 = .ok (.iconst 1, 1) := by decide +kernel
theorem dX6_wakersOf_27 : decode cX6_wakersOf 27 = .ok (.iload 4, 2) := by decide +kernel
theorem dX6_wakersOf_29 : decode cX6_wakersOf 29 = .ok (.ishl, 1) := by decide +kernel
theorem dX6_wakersOf_30 : decode cX6_wakersOf 30 = .ok (.goto 4, 3) := by decide +kernel
theorem dX6_wakersOf_33 : decode cX6_wakersOf 33 = .ok (.iconst 0, 1) := by decide +kernel
theorem dX6_wakersOf_34 : decode cX6_wakersOf 34 = .ok (.ior, 1) := by decide +kernel
theorem dX6_wakersOf_35 : decode cX6_wakersOf 35 = .ok (.istore_n 3, 1) := by decide +kernel
theorem dX6_wakersOf_36 : decode cX6_wakersOf 36 = .ok (.iinc 4 1, 3) := by decide +kernel
theorem dX6_wakersOf_39 : decode cX6_wakersOf 39 = .ok (.goto (-34), 3) := by decide +kernel
theorem dX6_wakersOf_42 : decode cX6_wakersOf 42 = .ok (.iload_n 3, 1) := by decide +kernel
theorem dX6_wakersOf_43 : decode cX6_wakersOf 43 = .ok (.ireturn, 1) := by decide +kernel
set_option maxRecDepth 20000 in
theorem ggX6_ofHouse_X6_isHouse : GoodIn wsX6_ofHouse wsX6_isHouse := goodIn_r _ [9, 10, 36, 37, 38, 39, 40, 41, 42, 43, 44, 45, 46, 47, 48, 49, 50, 51, 52, 53, 54, 55, 56, 57, 58, 59, 60, 61, 62, 63, 64, 65] (by decide +kernel) (by decide +kernel)
set_option maxRecDepth 20000 in
theorem gX6_ofHouse_X6_isHouse : GoodIn wsX6_ofHouse (wsV RX6 151 RX6 yX6_isHouse wsX6_isHouse) := goodIn_app (goodIn_of _ (by decide +kernel)) ggX6_ofHouse_X6_isHouse
set_option maxRecDepth 20000 in
theorem ggX6_ofHouse_X6_within : GoodIn wsX6_ofHouse wsX6_within := goodIn_r _ [13] (by decide +kernel) (by decide +kernel)
set_option maxRecDepth 20000 in
theorem gX6_ofHouse_X6_within : GoodIn wsX6_ofHouse (va_wsS RX6 64 yX6_within wsX6_within) := goodIn_app (goodIn_of _ (by decide +kernel)) ggX6_ofHouse_X6_within
set_option maxRecDepth 20000 in
theorem ggX6_ofHouse_X6_needsOf : GoodIn wsX6_ofHouse wsX6_needsOf := goodIn_r _ [17, 1, 2, 36, 37, 38, 39, 40, 41, 42, 43, 44, 45, 46, 47, 48, 49, 50, 51, 52, 53, 54, 55, 56, 57, 58, 59, 60, 61, 62, 63, 64, 65] (by decide +kernel) (by decide +kernel)
set_option maxRecDepth 20000 in
theorem gX6_ofHouse_X6_needsOf : GoodIn wsX6_ofHouse (wsV RX6 145 RX6 yX6_needsOf wsX6_needsOf) := goodIn_app (goodIn_of _ (by decide +kernel)) ggX6_ofHouse_X6_needsOf
set_option maxRecDepth 20000 in
theorem ggX6_ofHouse_X6_wakesFrom : GoodIn wsX6_ofHouse wsX6_wakesFrom := goodIn_r _ [21, 22, 23, 24, 8, 25, 26, 27, 28, 29, 30, 31, 32, 33, 34, 35, 14, 15, 16, 17, 1, 2, 36, 37, 38, 39, 40, 41, 42, 43, 44, 45, 46, 47, 48, 49, 50, 51, 52, 53, 54, 55, 56, 57, 58, 59, 60, 61, 62, 63, 64, 65] (by decide +kernel) (by decide +kernel)
set_option maxRecDepth 20000 in
theorem gX6_ofHouse_X6_wakesFrom : GoodIn wsX6_ofHouse (wsV RX6 148 RX6 yX6_wakesFrom wsX6_wakesFrom) := goodIn_app (goodIn_of _ (by decide +kernel)) ggX6_ofHouse_X6_wakesFrom
theorem dX6_ofHouse_0 : decode cX6_ofHouse 0 = .ok (.aload_n 0, 1) := by decide +kernel
theorem dX6_ofHouse_1 : decode cX6_ofHouse 1 = .ok (.iload_n 1, 1) := by decide +kernel
theorem dX6_ofHouse_2 : decode cX6_ofHouse 2 = .ok (.invokevirtual 151, 3) := by decide +kernel
theorem dX6_ofHouse_5 : decode cX6_ofHouse 5 = .ok (.ifCond .ne 5, 3) := by decide +kernel
theorem dX6_ofHouse_8 : decode cX6_ofHouse 8 = .ok (.iconst (-1), 1) := by decide +kernel
theorem dX6_ofHouse_9 : decode cX6_ofHouse 9 = .ok (.ireturn, 1) := by decide +kernel
theorem dX6_ofHouse_10 : decode cX6_ofHouse 10 = .ok (.iload_n 2, 1) := by decide +kernel
theorem dX6_ofHouse_11 : decode cX6_ofHouse 11 = .ok (.iconst 3, 1) := by decide +kernel
theorem dX6_ofHouse_12 : decode cX6_ofHouse 12 = .ok (.iconst 4, 1) := by decide +kernel
theorem dX6_ofHouse_13 : decode cX6_ofHouse 13 = .ok (.invokestatic 64, 3) := by decide +kernel
theorem dX6_ofHouse_16 : decode cX6_ofHouse 16 = .ok (.ifCond .ne 46, 3) := by decide +kernel
theorem dX6_ofHouse_19 : decode cX6_ofHouse 19 = .ok (.iload_n 2, 1) := by decide +kernel
theorem dX6_ofHouse_20 : decode cX6_ofHouse 20 = .ok (.ifCond .ne 12, 3) := by decide +kernel
theorem dX6_ofHouse_23 : decode cX6_ofHouse 23 = .ok (.aload_n 0, 1) := by decide +kernel
theorem dX6_ofHouse_24 : decode cX6_ofHouse 24 = .ok (.getfield 19, 3) := by decide +kernel
theorem dX6_ofHouse_27 : decode cX6_ofHouse 27 = .ok (.iload_n 1, 1) := by decide +kernel
theorem dX6_ofHouse_28 : decode cX6_ofHouse 28 = .ok (.iaload, 1) := by decide +kernel
theorem dX6_ofHouse_29 : decode cX6_ofHouse 29 = .ok (.goto 32, 3) := by decide +kernel
theorem dX6_ofHouse_32 : decode cX6_ofHouse 32 = .ok (.iload_n 2, 1) := by decide +kernel
theorem dX6_ofHouse_33 : decode cX6_ofHouse 33 = .ok (.iconst 1, 1) := by decide +kernel
theorem dX6_ofHouse_34 : decode cX6_ofHouse 34 = .ok (.if_icmp .ne 12, 3) := by decide +kernel
theorem dX6_ofHouse_37 : decode cX6_ofHouse 37 = .ok (.aload_n 0, 1) := by decide +kernel
theorem dX6_ofHouse_38 : decode cX6_ofHouse 38 = .ok (.getfield 22, 3) := by decide +kernel
theorem dX6_ofHouse_41 : decode cX6_ofHouse 41 = .ok (.iload_n 1, 1) := by decide +kernel
theorem dX6_ofHouse_42 : decode cX6_ofHouse 42 = .ok (.iaload, 1) := by decide +kernel
theorem dX6_ofHouse_43 : decode cX6_ofHouse 43 = .ok (.goto 18, 3) := by decide +kernel
theorem dX6_ofHouse_46 : decode cX6_ofHouse 46 = .ok (.iload_n 2, 1) := by decide +kernel
theorem dX6_ofHouse_47 : decode cX6_ofHouse 47 = .ok (.iconst 2, 1) := by decide +kernel
theorem dX6_ofHouse_48 : decode cX6_ofHouse 48 = .ok (.if_icmp .ne 11, 3) := by decide +kernel
theorem dX6_ofHouse_51 : decode cX6_ofHouse 51 = .ok (.aload_n 0, 1) := by decide +kernel
theorem dX6_ofHouse_52 : decode cX6_ofHouse 52 = .ok (.iload_n 1, 1) := by decide +kernel
theorem dX6_ofHouse_53 : decode cX6_ofHouse 53 = .ok (.invokevirtual 145, 3) := by decide +kernel
theorem dX6_ofHouse_56 : decode cX6_ofHouse 56 = .ok (.goto 5, 3) := by decide +kernel
theorem dX6_ofHouse_59 : decode cX6_ofHouse 59 = .ok (.bipush (-2), 2) := by decide +kernel
theorem dX6_ofHouse_61 : decode cX6_ofHouse 61 = .ok (.ireturn, 1) := by decide +kernel
theorem dX6_ofHouse_62 : decode cX6_ofHouse 62 = .ok (.iconst 0, 1) := by decide +kernel
theorem dX6_ofHouse_63 : decode cX6_ofHouse 63 = .ok (.istore_n 3, 1) := by decide +kernel
theorem dX6_ofHouse_64 : decode cX6_ofHouse 64 = .ok (.iconst 0, 1) := by decide +kernel
theorem dX6_ofHouse_65 : decode cX6_ofHouse 65 = .ok (.istore 4, 2) := by decide +kernel
theorem dX6_ofHouse_67 : decode cX6_ofHouse 67 = .ok (.iload 4, 2) := by decide +kernel
theorem dX6_ofHouse_69 : decode cX6_ofHouse 69 = .ok (.aload_n 0, 1) := by decide +kernel
theorem dX6_ofHouse_70 : decode cX6_ofHouse 70 = .ok (.getfield 71, 3) := by decide +kernel
theorem dX6_ofHouse_73 : decode cX6_ofHouse 73 = .ok (.if_icmp .ge 65, 3) := by decide +kernel
theorem dX6_ofHouse_76 : decode cX6_ofHouse 76 = .ok (.iload_n 2, 1) := by decide +kernel
theorem dX6_ofHouse_77 : decode cX6_ofHouse 77 = .ok (.iconst 3, 1) := by decide +kernel
theorem dX6_ofHouse_78 : decode cX6_ofHouse 78 = .ok (.if_icmp .ne 22, 3) := by decide +kernel
theorem dX6_ofHouse_81 : decode cX6_ofHouse 81 = .ok (.aload_n 0, 1) := by decide +kernel
theorem dX6_ofHouse_82 : decode cX6_ofHouse 82 = .ok (.getfield 28, 3) := by decide +kernel
theorem dX6_ofHouse_85 : decode cX6_ofHouse 85 = .ok (.iload 4, 2) := by decide +kernel
theorem dX6_ofHouse_87 : decode cX6_ofHouse 87 = .ok (.iaload, 1) := by decide +kernel
theorem dX6_ofHouse_88 : decode cX6_ofHouse 88 = .ok (.iload_n 1, 1) := by decide +kernel
theorem dX6_ofHouse_89 : decode cX6_ofHouse 89 = .ok (.if_icmp .ne 7, 3) := by decide +kernel
theorem dX6_ofHouse_92 : decode cX6_ofHouse 92 = .ok (.iconst 1, 1) := by decide +kernel
theorem dX6_ofHouse_93 : decode cX6_ofHouse 93 = .ok (.goto 21, 3) := by decide +kernel
theorem dX6_ofHouse_96 : decode cX6_ofHouse 96 = .ok (.iconst 0, 1) := by decide +kernel
theorem dX6_ofHouse_97 : decode cX6_ofHouse 97 = .ok (.goto 17, 3) := by decide +kernel
theorem dX6_ofHouse_100 : decode cX6_ofHouse 100 = .ok (.aload_n 0, 1) := by decide +kernel
theorem dX6_ofHouse_101 : decode cX6_ofHouse 101 = .ok (.iload_n 1, 1) := by decide +kernel
theorem dX6_ofHouse_102 : decode cX6_ofHouse 102 = .ok (.iload 4, 2) := by decide +kernel
theorem dX6_ofHouse_104 : decode cX6_ofHouse 104 = .ok (.aload_n 0, 1) := by decide +kernel
theorem dX6_ofHouse_105 : decode cX6_ofHouse 105 = .ok (.getfield 28, 3) := by decide +kernel
theorem dX6_ofHouse_108 : decode cX6_ofHouse 108 = .ok (.iload 4, 2) := by decide +kernel
theorem dX6_ofHouse_110 : decode cX6_ofHouse 110 = .ok (.iaload, 1) := by decide +kernel
theorem dX6_ofHouse_111 : decode cX6_ofHouse 111 = .ok (.invokevirtual 148, 3) := by decide +kernel
theorem dX6_ofHouse_114 : decode cX6_ofHouse 114 = .ok (.istore 5, 2) := by decide +kernel
theorem dX6_ofHouse_116 : decode cX6_ofHouse 116 = .ok (.iload_n 3, 1) := by decide +kernel
theorem dX6_ofHouse_117 : decode cX6_ofHouse 117 = .ok (.iload 5, 2) := by decide +kernel
theorem dX6_ofHouse_119 : decode cX6_ofHouse 119 = .ok (.ifCond .eq 10, 3) := by decide +kernel
theorem dX6_ofHouse_122 : decode cX6_ofHouse 122 = .ok (.iconst 1, 1) := by decide +kernel
theorem dX6_ofHouse_123 : decode cX6_ofHouse 123 = .ok (.iload 4, 2) := by decide +kernel
theorem dX6_ofHouse_125 : decode cX6_ofHouse 125 = .ok (.ishl, 1) := by decide +kernel
theorem dX6_ofHouse_126 : decode cX6_ofHouse 126 = .ok (.goto 4, 3) := by decide +kernel
theorem dX6_ofHouse_129 : decode cX6_ofHouse 129 = .ok (.iconst 0, 1) := by decide +kernel
theorem dX6_ofHouse_130 : decode cX6_ofHouse 130 = .ok (.ior, 1) := by decide +kernel
theorem dX6_ofHouse_131 : decode cX6_ofHouse 131 = .ok (.istore_n 3, 1) := by decide +kernel
theorem dX6_ofHouse_132 : decode cX6_ofHouse 132 = .ok (.iinc 4 1, 3) := by decide +kernel
theorem dX6_ofHouse_135 : decode cX6_ofHouse 135 = .ok (.goto (-68), 3) := by decide +kernel
theorem dX6_ofHouse_138 : decode cX6_ofHouse 138 = .ok (.iload_n 3, 1) := by decide +kernel
theorem dX6_ofHouse_139 : decode cX6_ofHouse 139 = .ok (.ireturn, 1) := by decide +kernel
set_option maxRecDepth 20000 in
theorem ggX6_ofClock_X6_isClock : GoodIn wsX6_ofClock wsX6_isClock := goodIn_r _ [8, 9, 41, 42, 43, 44, 45, 46, 47, 48, 49, 50, 51, 52, 53, 54, 55, 56, 57, 58, 59, 60, 61, 62, 63, 64, 65, 66, 67, 68, 69, 70] (by decide +kernel) (by decide +kernel)
set_option maxRecDepth 20000 in
theorem gX6_ofClock_X6_isClock : GoodIn wsX6_ofClock (wsV RX6 154 RX6 yX6_isClock wsX6_isClock) := goodIn_app (goodIn_of _ (by decide +kernel)) ggX6_ofClock_X6_isClock
set_option maxRecDepth 20000 in
theorem ggX6_ofClock_X6_soundOf : GoodIn wsX6_ofClock wsX6_soundOf := goodIn_r _ [13, 3, 1, 14, 15, 7, 16, 41, 42, 43, 44, 45, 46, 47, 48, 49, 50, 51, 52, 53, 54, 55, 56, 57, 58, 59, 60, 61, 62, 63, 64, 65, 66, 67, 68, 69, 70] (by decide +kernel) (by decide +kernel)
set_option maxRecDepth 20000 in
theorem gX6_ofClock_X6_soundOf : GoodIn wsX6_ofClock (wsV RX6 139 RX6 yX6_soundOf wsX6_soundOf) := goodIn_app (goodIn_of _ (by decide +kernel)) ggX6_ofClock_X6_soundOf
set_option maxRecDepth 20000 in
theorem ggX6_ofClock_X6_wakersOf : GoodIn wsX6_ofClock wsX6_wakersOf := goodIn_r _ [20, 21, 22, 23, 24, 7, 25, 26, 27, 28, 29, 30, 10, 11, 12, 13, 3, 1, 14, 15, 16, 31, 32, 33, 34, 35, 36, 41, 42, 43, 44, 45, 46, 47, 48, 49, 50, 51, 52, 53, 54, 55, 56, 57, 58, 59, 60, 61, 62, 63, 64, 65, 66, 67, 68, 69, 70] (by decide +kernel) (by decide +kernel)
set_option maxRecDepth 20000 in
theorem gX6_ofClock_X6_wakersOf : GoodIn wsX6_ofClock (wsV RX6 157 RX6 yX6_wakersOf wsX6_wakersOf) := goodIn_app (goodIn_of _ (by decide +kernel)) ggX6_ofClock_X6_wakersOf
set_option maxRecDepth 20000 in
theorem ggX6_ofClock_X6_ownerFrom : GoodIn wsX6_ofClock wsX6_ownerFrom := goodIn_r _ [40, 21, 22, 23, 24, 7, 25, 26, 27, 28, 29, 30, 10, 11, 12, 13, 3, 1, 14, 15, 16, 31, 32, 33, 34, 35, 36, 41, 42, 43, 44, 45, 46, 47, 48, 49, 50, 51, 52, 53, 54, 55, 56, 57, 58, 59, 60, 61, 62, 63, 64, 65, 66, 67, 68, 69, 70] (by decide +kernel) (by decide +kernel)
set_option maxRecDepth 20000 in
theorem gX6_ofClock_X6_ownerFrom : GoodIn wsX6_ofClock (wsV RX6 161 RX6 yX6_ownerFrom wsX6_ownerFrom) := goodIn_app (goodIn_of _ (by decide +kernel)) ggX6_ofClock_X6_ownerFrom
theorem dX6_ofClock_0 : decode cX6_ofClock 0 = .ok (.aload_n 0, 1) := by decide +kernel
theorem dX6_ofClock_1 : decode cX6_ofClock 1 = .ok (.iload_n 1, 1) := by decide +kernel
theorem dX6_ofClock_2 : decode cX6_ofClock 2 = .ok (.invokevirtual 154, 3) := by decide +kernel
theorem dX6_ofClock_5 : decode cX6_ofClock 5 = .ok (.ifCond .ne 5, 3) := by decide +kernel
theorem dX6_ofClock_8 : decode cX6_ofClock 8 = .ok (.iconst (-1), 1) := by decide +kernel
theorem dX6_ofClock_9 : decode cX6_ofClock 9 = .ok (.ireturn, 1) := by decide +kernel
theorem dX6_ofClock_10 : decode cX6_ofClock 10 = .ok (.iload_n 2, 1) := by decide +kernel
theorem dX6_ofClock_11 : decode cX6_ofClock 11 = .ok (.tableswitch 90 0 5 #[37, 44, 50, 57, 66, 78], 37) := by decide +kernel
theorem dX6_ofClock_48 : decode cX6_ofClock 48 = .ok (.aload_n 0, 1) := by decide +kernel
theorem dX6_ofClock_49 : decode cX6_ofClock 49 = .ok (.getfield 25, 3) := by decide +kernel
theorem dX6_ofClock_52 : decode cX6_ofClock 52 = .ok (.iload_n 1, 1) := by decide +kernel
theorem dX6_ofClock_53 : decode cX6_ofClock 53 = .ok (.iaload, 1) := by decide +kernel
theorem dX6_ofClock_54 : decode cX6_ofClock 54 = .ok (.ireturn, 1) := by decide +kernel
theorem dX6_ofClock_55 : decode cX6_ofClock 55 = .ok (.aload_n 0, 1) := by decide +kernel
theorem dX6_ofClock_56 : decode cX6_ofClock 56 = .ok (.iload_n 1, 1) := by decide +kernel
theorem dX6_ofClock_57 : decode cX6_ofClock 57 = .ok (.invokevirtual 139, 3) := by decide +kernel
theorem dX6_ofClock_60 : decode cX6_ofClock 60 = .ok (.ireturn, 1) := by decide +kernel
theorem dX6_ofClock_61 : decode cX6_ofClock 61 = .ok (.aload_n 0, 1) := by decide +kernel
theorem dX6_ofClock_62 : decode cX6_ofClock 62 = .ok (.getfield 28, 3) := by decide +kernel
theorem dX6_ofClock_65 : decode cX6_ofClock 65 = .ok (.iload_n 1, 1) := by decide +kernel
theorem dX6_ofClock_66 : decode cX6_ofClock 66 = .ok (.iaload, 1) := by decide +kernel
theorem dX6_ofClock_67 : decode cX6_ofClock 67 = .ok (.ireturn, 1) := by decide +kernel
theorem dX6_ofClock_68 : decode cX6_ofClock 68 = .ok (.aload_n 0, 1) := by decide +kernel
theorem dX6_ofClock_69 : decode cX6_ofClock 69 = .ok (.getfield 114, 3) := by decide +kernel
theorem dX6_ofClock_72 : decode cX6_ofClock 72 = .ok (.iload_n 1, 1) := by decide +kernel
theorem dX6_ofClock_73 : decode cX6_ofClock 73 = .ok (.ishr, 1) := by decide +kernel
theorem dX6_ofClock_74 : decode cX6_ofClock 74 = .ok (.iconst 1, 1) := by decide +kernel
theorem dX6_ofClock_75 : decode cX6_ofClock 75 = .ok (.iand, 1) := by decide +kernel
theorem dX6_ofClock_76 : decode cX6_ofClock 76 = .ok (.ireturn, 1) := by decide +kernel
theorem dX6_ofClock_77 : decode cX6_ofClock 77 = .ok (.aload_n 0, 1) := by decide +kernel
theorem dX6_ofClock_78 : decode cX6_ofClock 78 = .ok (.iload_n 1, 1) := by decide +kernel
theorem dX6_ofClock_79 : decode cX6_ofClock 79 = .ok (.aload_n 0, 1) := by decide +kernel
theorem dX6_ofClock_80 : decode cX6_ofClock 80 = .ok (.getfield 28, 3) := by decide +kernel
theorem dX6_ofClock_83 : decode cX6_ofClock 83 = .ok (.iload_n 1, 1) := by decide +kernel
theorem dX6_ofClock_84 : decode cX6_ofClock 84 = .ok (.iaload, 1) := by decide +kernel
theorem dX6_ofClock_85 : decode cX6_ofClock 85 = .ok (.invokevirtual 157, 3) := by decide +kernel
theorem dX6_ofClock_88 : decode cX6_ofClock 88 = .ok (.ireturn, 1) := by decide +kernel
theorem dX6_ofClock_89 : decode cX6_ofClock 89 = .ok (.aload_n 0, 1) := by decide +kernel
theorem dX6_ofClock_90 : decode cX6_ofClock 90 = .ok (.iload_n 1, 1) := by decide +kernel
theorem dX6_ofClock_91 : decode cX6_ofClock 91 = .ok (.aload_n 0, 1) := by decide +kernel
theorem dX6_ofClock_92 : decode cX6_ofClock 92 = .ok (.getfield 28, 3) := by decide +kernel
theorem dX6_ofClock_95 : decode cX6_ofClock 95 = .ok (.iload_n 1, 1) := by decide +kernel
theorem dX6_ofClock_96 : decode cX6_ofClock 96 = .ok (.iaload, 1) := by decide +kernel
theorem dX6_ofClock_97 : decode cX6_ofClock 97 = .ok (.invokevirtual 161, 3) := by decide +kernel
theorem dX6_ofClock_100 : decode cX6_ofClock 100 = .ok (.ireturn, 1) := by decide +kernel
theorem dX6_ofClock_101 : decode cX6_ofClock 101 = .ok (.bipush (-2), 2) := by decide +kernel
theorem dX6_ofClock_103 : decode cX6_ofClock 103 = .ok (.ireturn, 1) := by decide +kernel
set_option maxRecDepth 20000 in
theorem ggX6_drowse_X6_isHouse : GoodIn wsX6_drowse wsX6_isHouse := goodIn_r _ [6, 7, 11, 12, 13, 14, 15, 16, 17, 18, 19, 20, 21, 22, 23, 24, 25, 26, 27, 28, 29, 30, 31, 32, 33, 34, 35, 36, 37, 38, 39, 40] (by decide +kernel) (by decide +kernel)
set_option maxRecDepth 20000 in
theorem gX6_drowse_X6_isHouse : GoodIn wsX6_drowse (wsV RX6 151 RX6 yX6_isHouse wsX6_isHouse) := goodIn_app (goodIn_of _ (by decide +kernel)) ggX6_drowse_X6_isHouse
set_option maxRecDepth 20000 in
theorem ggX6_drowse_X6_within : GoodIn wsX6_drowse wsX6_within := goodIn_r _ [10] (by decide +kernel) (by decide +kernel)
set_option maxRecDepth 20000 in
theorem gX6_drowse_X6_within : GoodIn wsX6_drowse (va_wsS RX6 64 yX6_within wsX6_within) := goodIn_app (goodIn_of _ (by decide +kernel)) ggX6_drowse_X6_within
theorem dX6_drowse_0 : decode cX6_drowse 0 = .ok (.aload_n 0, 1) := by decide +kernel
theorem dX6_drowse_1 : decode cX6_drowse 1 = .ok (.iload_n 1, 1) := by decide +kernel
theorem dX6_drowse_2 : decode cX6_drowse 2 = .ok (.invokevirtual 151, 3) := by decide +kernel
theorem dX6_drowse_5 : decode cX6_drowse 5 = .ok (.ifCond .ne 5, 3) := by decide +kernel
theorem dX6_drowse_8 : decode cX6_drowse 8 = .ok (.iconst (-1), 1) := by decide +kernel
theorem dX6_drowse_9 : decode cX6_drowse 9 = .ok (.ireturn, 1) := by decide +kernel
theorem dX6_drowse_10 : decode cX6_drowse 10 = .ok (.iload_n 2, 1) := by decide +kernel
theorem dX6_drowse_11 : decode cX6_drowse 11 = .ok (.iconst 1, 1) := by decide +kernel
theorem dX6_drowse_12 : decode cX6_drowse 12 = .ok (.bipush 9, 2) := by decide +kernel
theorem dX6_drowse_14 : decode cX6_drowse 14 = .ok (.invokestatic 64, 3) := by decide +kernel
theorem dX6_drowse_17 : decode cX6_drowse 17 = .ok (.ifCond .ne 6, 3) := by decide +kernel
theorem dX6_drowse_20 : decode cX6_drowse 20 = .ok (.bipush (-2), 2) := by decide +kernel
theorem dX6_drowse_22 : decode cX6_drowse 22 = .ok (.ireturn, 1) := by decide +kernel
theorem dX6_drowse_23 : decode cX6_drowse 23 = .ok (.aload_n 0, 1) := by decide +kernel
theorem dX6_drowse_24 : decode cX6_drowse 24 = .ok (.getfield 22, 3) := by decide +kernel
theorem dX6_drowse_27 : decode cX6_drowse 27 = .ok (.iload_n 1, 1) := by decide +kernel
theorem dX6_drowse_28 : decode cX6_drowse 28 = .ok (.iaload, 1) := by decide +kernel
theorem dX6_drowse_29 : decode cX6_drowse 29 = .ok (.istore_n 3, 1) := by decide +kernel
theorem dX6_drowse_30 : decode cX6_drowse 30 = .ok (.aload_n 0, 1) := by decide +kernel
theorem dX6_drowse_31 : decode cX6_drowse 31 = .ok (.getfield 22, 3) := by decide +kernel
theorem dX6_drowse_34 : decode cX6_drowse 34 = .ok (.iload_n 1, 1) := by decide +kernel
theorem dX6_drowse_35 : decode cX6_drowse 35 = .ok (.iload_n 2, 1) := by decide +kernel
theorem dX6_drowse_36 : decode cX6_drowse 36 = .ok (.iastore, 1) := by decide +kernel
theorem dX6_drowse_37 : decode cX6_drowse 37 = .ok (.iload_n 3, 1) := by decide +kernel
theorem dX6_drowse_38 : decode cX6_drowse 38 = .ok (.ireturn, 1) := by decide +kernel
set_option maxRecDepth 20000 in
theorem ggX6_tune_X6_isClock : GoodIn wsX6_tune wsX6_isClock := goodIn_r _ [6, 7, 11, 12, 13, 14, 15, 16, 17, 18, 19, 20, 21, 22, 23, 24, 25, 26, 27, 28, 29, 30, 31, 32, 33, 34, 35, 36, 37, 38, 39, 40] (by decide +kernel) (by decide +kernel)
set_option maxRecDepth 20000 in
theorem gX6_tune_X6_isClock : GoodIn wsX6_tune (wsV RX6 154 RX6 yX6_isClock wsX6_isClock) := goodIn_app (goodIn_of _ (by decide +kernel)) ggX6_tune_X6_isClock
set_option maxRecDepth 20000 in
theorem ggX6_tune_X6_within : GoodIn wsX6_tune wsX6_within := goodIn_r _ [10] (by decide +kernel) (by decide +kernel)
set_option maxRecDepth 20000 in
theorem gX6_tune_X6_within : GoodIn wsX6_tune (va_wsS RX6 64 yX6_within wsX6_within) := goodIn_app (goodIn_of _ (by decide +kernel)) ggX6_tune_X6_within
theorem dX6_tune_0 : decode cX6_tune 0 = .ok (.aload_n 0, 1) := by decide +kernel
theorem dX6_tune_1 : decode cX6_tune 1 = .ok (.iload_n 1, 1) := by decide +kernel
theorem dX6_tune_2 : decode cX6_tune 2 = .ok (.invokevirtual 154, 3) := by decide +kernel
theorem dX6_tune_5 : decode cX6_tune 5 = .ok (.ifCond .ne 5, 3) := by decide +kernel
theorem dX6_tune_8 : decode cX6_tune 8 = .ok (.iconst (-1), 1) := by decide +kernel
theorem dX6_tune_9 : decode cX6_tune 9 = .ok (.ireturn, 1) := by decide +kernel
theorem dX6_tune_10 : decode cX6_tune 10 = .ok (.iload_n 2, 1) := by decide +kernel
theorem dX6_tune_11 : decode cX6_tune 11 = .ok (.iconst 1, 1) := by decide +kernel
theorem dX6_tune_12 : decode cX6_tune 12 = .ok (.bipush 9, 2) := by decide +kernel
theorem dX6_tune_14 : decode cX6_tune 14 = .ok (.invokestatic 64, 3) := by decide +kernel
theorem dX6_tune_17 : decode cX6_tune 17 = .ok (.ifCond .ne 6, 3) := by decide +kernel
theorem dX6_tune_20 : decode cX6_tune 20 = .ok (.bipush (-2), 2) := by decide +kernel
theorem dX6_tune_22 : decode cX6_tune 22 = .ok (.ireturn, 1) := by decide +kernel
theorem dX6_tune_23 : decode cX6_tune 23 = .ok (.aload_n 0, 1) := by decide +kernel
theorem dX6_tune_24 : decode cX6_tune 24 = .ok (.getfield 25, 3) := by decide +kernel
theorem dX6_tune_27 : decode cX6_tune 27 = .ok (.iload_n 1, 1) := by decide +kernel
theorem dX6_tune_28 : decode cX6_tune 28 = .ok (.iaload, 1) := by decide +kernel
theorem dX6_tune_29 : decode cX6_tune 29 = .ok (.istore_n 3, 1) := by decide +kernel
theorem dX6_tune_30 : decode cX6_tune 30 = .ok (.aload_n 0, 1) := by decide +kernel
theorem dX6_tune_31 : decode cX6_tune 31 = .ok (.getfield 25, 3) := by decide +kernel
theorem dX6_tune_34 : decode cX6_tune 34 = .ok (.iload_n 1, 1) := by decide +kernel
theorem dX6_tune_35 : decode cX6_tune 35 = .ok (.iload_n 2, 1) := by decide +kernel
theorem dX6_tune_36 : decode cX6_tune 36 = .ok (.iastore, 1) := by decide +kernel
theorem dX6_tune_37 : decode cX6_tune 37 = .ok (.iload_n 3, 1) := by decide +kernel
theorem dX6_tune_38 : decode cX6_tune 38 = .ok (.ireturn, 1) := by decide +kernel
set_option maxRecDepth 20000 in
theorem ggX6_wall_X6_within : GoodIn wsX6_wall wsX6_within := goodIn_r _ [6] (by decide +kernel) (by decide +kernel)
set_option maxRecDepth 20000 in
theorem gX6_wall_X6_within : GoodIn wsX6_wall (va_wsS RX6 64 yX6_within wsX6_within) := goodIn_app (goodIn_of _ (by decide +kernel)) ggX6_wall_X6_within
theorem dX6_wall_0 : decode cX6_wall 0 = .ok (.iload_n 1, 1) := by decide +kernel
