theorem dX0_init_0 : decode cX0_init 0 = .ok (.aload_n 0, 1) := by decide +kernel
theorem dX0_init_1 : decode cX0_init 1 = .ok (.invokespecial 3, 3) := by decide +kernel
theorem dX0_init_4 : decode cX0_init 4 = .ok (.aload_n 0, 1) := by decide +kernel
theorem dX0_init_5 : decode cX0_init 5 = .ok (.iconst 4, 1) := by decide +kernel
theorem dX0_init_6 : decode cX0_init 6 = .ok (.newarray .int, 2) := by decide +kernel
theorem dX0_init_8 : decode cX0_init 8 = .ok (.putfield 9, 3) := by decide +kernel
theorem dX0_init_11 : decode cX0_init 11 = .ok (.aload_n 0, 1) := by decide +kernel
theorem dX0_init_12 : decode cX0_init 12 = .ok (.iconst 4, 1) := by decide +kernel
theorem dX0_init_13 : decode cX0_init 13 = .ok (.newarray .int, 2) := by decide +kernel
theorem dX0_init_15 : decode cX0_init 15 = .ok (.putfield 15, 3) := by decide +kernel
theorem dX0_init_18 : decode cX0_init 18 = .ok (.aload_n 0, 1) := by decide +kernel
theorem dX0_init_19 : decode cX0_init 19 = .ok (.iconst 4, 1) := by decide +kernel
theorem dX0_init_20 : decode cX0_init 20 = .ok (.bipush 6, 2) := by decide +kernel
theorem dX0_init_22 : decode cX0_init 22 = .ok (.multianewarray 18 2, 4) := by decide +kernel
theorem dX0_init_26 : decode cX0_init 26 = .ok (.putfield 20, 3) := by decide +kernel
theorem dX0_init_29 : decode cX0_init 29 = .ok (.return_, 1) := by decide +kernel
set_option maxRecDepth 20000 in
theorem ggX0_findStillest_X3_wakers : GoodIn wsX0_findStillest wsX3_wakers := goodIn_r _ [14, 15, 16, 17, 18, 13, 19, 20, 21, 22, 23, 24, 25, 26, 27, 28, 29, 30, 31, 32, 33, 34, 35, 36, 37, 38, 39, 40, 41, 42, 43, 44, 45, 46, 47, 64, 65, 66, 67, 68, 69, 70, 71, 72, 73] (by decide +kernel) (by decide +kernel)
set_option maxRecDepth 20000 in
theorem gX0_findStillest_X3_wakers : GoodIn wsX0_findStillest (wsV RX0 32 RX3 yX3_wakers wsX3_wakers) := goodIn_app (goodIn_of _ (by decide +kernel)) ggX0_findStillest_X3_wakers
set_option maxRecDepth 20000 in
theorem ggX0_findStillest_X0_wakersOfRow : GoodIn wsX0_findStillest wsX0_wakersOfRow := goodIn_r _ [52, 4, 3, 74, 75, 76] (by decide +kernel) (by decide +kernel)
set_option maxRecDepth 20000 in
theorem gX0_findStillest_X0_wakersOfRow : GoodIn wsX0_findStillest (wsV RX0 35 RX0 yX0_wakersOfRow wsX0_wakersOfRow) := goodIn_app (goodIn_of _ (by decide +kernel)) ggX0_findStillest_X0_wakersOfRow
set_option maxRecDepth 20000 in
theorem ggX0_findStillest_J6_bitCount_0f7a4 : GoodIn wsX0_findStillest wsJ6_bitCount_0f7a4 := goodIn_r _ [56, 57, 58, 59] (by decide +kernel) (by decide +kernel)
set_option maxRecDepth 20000 in
theorem gX0_findStillest_J6_bitCount_0f7a4 : GoodIn wsX0_findStillest (va_wsS RX0 39 yJ6_bitCount_0f7a4 wsJ6_bitCount_0f7a4) := goodIn_app (goodIn_of _ (by decide +kernel)) ggX0_findStillest_J6_bitCount_0f7a4
set_option maxRecDepth 20000 in
theorem ggX0_findStillest_X0_stepRow : GoodIn wsX0_findStillest wsX0_stepRow := goodIn_r _ [63, 3, 74, 75, 76] (by decide +kernel) (by decide +kernel)
set_option maxRecDepth 20000 in
theorem gX0_findStillest_X0_stepRow : GoodIn wsX0_findStillest (wsV RX0 50 RX0 yX0_stepRow wsX0_stepRow) := goodIn_app (goodIn_of _ (by decide +kernel)) ggX0_findStillest_X0_stepRow
theorem dX0_findStillest_0 : decode cX0_findStillest 0 = .ok (.iconst 1, 1) := by decide +kernel
theorem dX0_findStillest_1 : decode cX0_findStillest 1 = .ok (.istore_n 2, 1) := by decide +kernel
theorem dX0_findStillest_2 : decode cX0_findStillest 2 = .ok (.iconst 0, 1) := by decide +kernel
theorem dX0_findStillest_3 : decode cX0_findStillest 3 = .ok (.istore_n 3, 1) := by decide +kernel
theorem dX0_findStillest_4 : decode cX0_findStillest 4 = .ok (.iload_n 3, 1) := by decide +kernel
theorem dX0_findStillest_5 : decode cX0_findStillest 5 = .ok (.aload_n 1, 1) := by decide +kernel
theorem dX0_findStillest_6 : decode cX0_findStillest 6 = .ok (.getfield 23, 3) := by decide +kernel
theorem dX0_findStillest_9 : decode cX0_findStillest 9 = .ok (.if_icmp .ge 57, 3) := by decide +kernel
theorem dX0_findStillest_12 : decode cX0_findStillest 12 = .ok (.iload_n 2, 1) := by decide +kernel
theorem dX0_findStillest_13 : decode cX0_findStillest 13 = .ok (.aload_n 1, 1) := by decide +kernel
theorem dX0_findStillest_14 : decode cX0_findStillest 14 = .ok (.getfield 29, 3) := by decide +kernel
theorem dX0_findStillest_17 : decode cX0_findStillest 17 = .ok (.imul, 1) := by decide +kernel
theorem dX0_findStillest_18 : decode cX0_findStillest 18 = .ok (.istore_n 2, 1) := by decide +kernel
theorem dX0_findStillest_19 : decode cX0_findStillest 19 = .ok (.aload_n 0, 1) := by decide +kernel
theorem dX0_findStillest_20 : decode cX0_findStillest 20 = .ok (.getfield 15, 3) := by decide +kernel
theorem dX0_findStillest_23 : decode cX0_findStillest 23 = .ok (.iload_n 3, 1) := by decide +kernel
theorem dX0_findStillest_24 : decode cX0_findStillest 24 = .ok (.iconst 0, 1) := by decide +kernel
theorem dX0_findStillest_25 : decode cX0_findStillest 25 = .ok (.iastore, 1) := by decide +kernel
theorem dX0_findStillest_26 : decode cX0_findStillest 26 = .ok (.iconst 0, 1) := by decide +kernel
theorem dX0_findStillest_27 : decode cX0_findStillest 27 = .ok (.istore 4, 2) := by decide +kernel
theorem dX0_findStillest_29 : decode cX0_findStillest 29 = .ok (.iload 4, 2) := by decide +kernel
theorem dX0_findStillest_31 : decode cX0_findStillest 31 = .ok (.aload_n 1, 1) := by decide +kernel
theorem dX0_findStillest_32 : decode cX0_findStillest 32 = .ok (.getfield 29, 3) := by decide +kernel
theorem dX0_findStillest_35 : decode cX0_findStillest 35 = .ok (.if_icmp .ge 25, 3) := by decide +kernel
theorem dX0_findStillest_38 : decode cX0_findStillest 38 = .ok (.aload_n 0, 1) := by decide +kernel
theorem dX0_findStillest_39 : decode cX0_findStillest 39 = .ok (.getfield 20, 3) := by decide +kernel
theorem dX0_findStillest_42 : decode cX0_findStillest 42 = .ok (.iload_n 3, 1) := by decide +kernel
theorem dX0_findStillest_43 : decode cX0_findStillest 43 = .ok (.aaload, 1) := by decide +kernel
theorem dX0_findStillest_44 : decode cX0_findStillest 44 = .ok (.iload 4, 2) := by decide +kernel
theorem dX0_findStillest_46 : decode cX0_findStillest 46 = .ok (.aload_n 1, 1) := by decide +kernel
theorem dX0_findStillest_47 : decode cX0_findStillest 47 = .ok (.iload_n 3, 1) := by decide +kernel
theorem dX0_findStillest_48 : decode cX0_findStillest 48 = .ok (.iload 4, 2) := by decide +kernel
theorem dX0_findStillest_50 : decode cX0_findStillest 50 = .ok (.invokevirtual 32, 3) := by decide +kernel
theorem dX0_findStillest_53 : decode cX0_findStillest 53 = .ok (.iastore, 1) := by decide +kernel
theorem dX0_findStillest_54 : decode cX0_findStillest 54 = .ok (.iinc 4 1, 3) := by decide +kernel
theorem dX0_findStillest_57 : decode cX0_findStillest 57 = .ok (.goto (-28), 3) := by decide +kernel
theorem dX0_findStillest_60 : decode cX0_findStillest 60 = .ok (.iinc 3 1, 3) := by decide +kernel
theorem dX0_findStillest_63 : decode cX0_findStillest 63 = .ok (.goto (-59), 3) := by decide +kernel
theorem dX0_findStillest_66 : decode cX0_findStillest 66 = .ok (.aload_n 1, 1) := by decide +kernel
theorem dX0_findStillest_67 : decode cX0_findStillest 67 = .ok (.getfield 29, 3) := by decide +kernel
theorem dX0_findStillest_70 : decode cX0_findStillest 70 = .ok (.iconst 1, 1) := by decide +kernel
theorem dX0_findStillest_71 : decode cX0_findStillest 71 = .ok (.iadd, 1) := by decide +kernel
theorem dX0_findStillest_72 : decode cX0_findStillest 72 = .ok (.istore_n 3, 1) := by decide +kernel
theorem dX0_findStillest_73 : decode cX0_findStillest 73 = .ok (.iconst 0, 1) := by decide +kernel
theorem dX0_findStillest_74 : decode cX0_findStillest 74 = .ok (.istore 4, 2) := by decide +kernel
theorem dX0_findStillest_76 : decode cX0_findStillest 76 = .ok (.iload 4, 2) := by decide +kernel
theorem dX0_findStillest_78 : decode cX0_findStillest 78 = .ok (.iload_n 2, 1) := by decide +kernel
theorem dX0_findStillest_79 : decode cX0_findStillest 79 = .ok (.if_icmp .ge 60, 3) := by decide +kernel
theorem dX0_findStillest_82 : decode cX0_findStillest 82 = .ok (.aload_n 0, 1) := by decide +kernel
theorem dX0_findStillest_83 : decode cX0_findStillest 83 = .ok (.aload_n 1, 1) := by decide +kernel
theorem dX0_findStillest_84 : decode cX0_findStillest 84 = .ok (.getfield 23, 3) := by decide +kernel
theorem dX0_findStillest_87 : decode cX0_findStillest 87 = .ok (.invokevirtual 35, 3) := by decide +kernel
theorem dX0_findStillest_90 : decode cX0_findStillest 90 = .ok (.invokestatic 39, 3) := by decide +kernel
theorem dX0_findStillest_93 : decode cX0_findStillest 93 = .ok (.istore 5, 2) := by decide +kernel
theorem dX0_findStillest_95 : decode cX0_findStillest 95 = .ok (.iload 5, 2) := by decide +kernel
theorem dX0_findStillest_97 : decode cX0_findStillest 97 = .ok (.iload_n 3, 1) := by decide +kernel
theorem dX0_findStillest_98 : decode cX0_findStillest 98 = .ok (.if_icmp .ge 23, 3) := by decide +kernel
theorem dX0_findStillest_101 : decode cX0_findStillest 101 = .ok (.iload 5, 2) := by decide +kernel
theorem dX0_findStillest_103 : decode cX0_findStillest 103 = .ok (.istore_n 3, 1) := by decide +kernel
theorem dX0_findStillest_104 : decode cX0_findStillest 104 = .ok (.aload_n 0, 1) := by decide +kernel
theorem dX0_findStillest_105 : decode cX0_findStillest 105 = .ok (.getfield 15, 3) := by decide +kernel
theorem dX0_findStillest_108 : decode cX0_findStillest 108 = .ok (.iconst 0, 1) := by decide +kernel
theorem dX0_findStillest_109 : decode cX0_findStillest 109 = .ok (.aload_n 0, 1) := by decide +kernel
theorem dX0_findStillest_110 : decode cX0_findStillest 110 = .ok (.getfield 9, 3) := by decide +kernel
theorem dX0_findStillest_113 : decode cX0_findStillest 113 = .ok (.iconst 0, 1) := by decide +kernel
theorem dX0_findStillest_114 : decode cX0_findStillest 114 = .ok (.aload_n 1, 1) := by decide +kernel
theorem dX0_findStillest_115 : decode cX0_findStillest 115 = .ok (.getfield 23, 3) := by decide +kernel
theorem dX0_findStillest_118 : decode cX0_findStillest 118 = .ok (.invokestatic 44, 3) := by decide +kernel
theorem dX0_findStillest_121 : decode cX0_findStillest 121 = .ok (.aload_n 0, 1) := by decide +kernel
theorem dX0_findStillest_122 : decode cX0_findStillest 122 = .ok (.aload_n 1, 1) := by decide +kernel
theorem dX0_findStillest_123 : decode cX0_findStillest 123 = .ok (.getfield 23, 3) := by decide +kernel
theorem dX0_findStillest_126 : decode cX0_findStillest 126 = .ok (.aload_n 1, 1) := by decide +kernel
theorem dX0_findStillest_127 : decode cX0_findStillest 127 = .ok (.getfield 29, 3) := by decide +kernel
theorem dX0_findStillest_130 : decode cX0_findStillest 130 = .ok (.invokevirtual 50, 3) := by decide +kernel
theorem dX0_findStillest_133 : decode cX0_findStillest 133 = .ok (.iinc 4 1, 3) := by decide +kernel
theorem dX0_findStillest_136 : decode cX0_findStillest 136 = .ok (.goto (-60), 3) := by decide +kernel
theorem dX0_findStillest_139 : decode cX0_findStillest 139 = .ok (.iload_n 3, 1) := by decide +kernel
theorem dX0_findStillest_140 : decode cX0_findStillest 140 = .ok (.ireturn, 1) := by decide +kernel
theorem dX0_wakersOfRow_0 : decode cX0_wakersOfRow 0 = .ok (.iconst 0, 1) := by decide +kernel
theorem dX0_wakersOfRow_1 : decode cX0_wakersOfRow 1 = .ok (.istore_n 2, 1) := by decide +kernel
theorem dX0_wakersOfRow_2 : decode cX0_wakersOfRow 2 = .ok (.iconst 0, 1) := by decide +kernel
theorem dX0_wakersOfRow_3 : decode cX0_wakersOfRow 3 = .ok (.istore_n 3, 1) := by decide +kernel
theorem dX0_wakersOfRow_4 : decode cX0_wakersOfRow 4 = .ok (.iload_n 3, 1) := by decide +kernel
theorem dX0_wakersOfRow_5 : decode cX0_wakersOfRow 5 = .ok (.iload_n 1, 1) := by decide +kernel
theorem dX0_wakersOfRow_6 : decode cX0_wakersOfRow 6 = .ok (.if_icmp .ge 25, 3) := by decide +kernel
theorem dX0_wakersOfRow_9 : decode cX0_wakersOfRow 9 = .ok (.iload_n 2, 1) := by decide +kernel
theorem dX0_wakersOfRow_10 : decode cX0_wakersOfRow 10 = .ok (.aload_n 0, 1) := by decide +kernel
theorem dX0_wakersOfRow_11 : decode cX0_wakersOfRow 11 = .ok (.getfield 20, 3) := by decide +kernel
theorem dX0_wakersOfRow_14 : decode cX0_wakersOfRow 14 = .ok (.iload_n 3, 1) := by decide +kernel
theorem dX0_wakersOfRow_15 : decode cX0_wakersOfRow 15 = .ok (.aaload, 1) := by decide +kernel
theorem dX0_wakersOfRow_16 : decode cX0_wakersOfRow 16 = .ok (.aload_n 0, 1) := by decide +kernel
theorem dX0_wakersOfRow_17 : decode cX0_wakersOfRow 17 = .ok (.getfield 15, 3) := by decide +kernel
theorem dX0_wakersOfRow_20 : decode cX0_wakersOfRow 20 = .ok (.iload_n 3, 1) := by decide +kernel
theorem dX0_wakersOfRow_21 : decode cX0_wakersOfRow 21 = .ok (.iaload, 1) := by decide +kernel
theorem dX0_wakersOfRow_22 : decode cX0_wakersOfRow 22 = .ok (.iaload, 1) := by decide +kernel
theorem dX0_wakersOfRow_23 : decode cX0_wakersOfRow 23 = .ok (.ior, 1) := by decide +kernel
theorem dX0_wakersOfRow_24 : decode cX0_wakersOfRow 24 = .ok (.istore_n 2, 1) := by decide +kernel
theorem dX0_wakersOfRow_25 : decode cX0_wakersOfRow 25 = .ok (.iinc 3 1, 3) := by decide +kernel
theorem dX0_wakersOfRow_28 : decode cX0_wakersOfRow 28 = .ok (.goto (-24), 3) := by decide +kernel
theorem dX0_wakersOfRow_31 : decode cX0_wakersOfRow 31 = .ok (.iload_n 2, 1) := by decide +kernel
theorem dX0_wakersOfRow_32 : decode cX0_wakersOfRow 32 = .ok (.ireturn, 1) := by decide +kernel
theorem dX0_stepRow_0 : decode cX0_stepRow 0 = .ok (.iload_n 1, 1) := by decide +kernel
theorem dX0_stepRow_1 : decode cX0_stepRow 1 = .ok (.iconst 1, 1) := by decide +kernel
theorem dX0_stepRow_2 : decode cX0_stepRow 2 = .ok (.isub, 1) := by decide +kernel
theorem dX0_stepRow_3 : decode cX0_stepRow 3 = .ok (.istore_n 3, 1) := by decide +kernel
theorem dX0_stepRow_4 : decode cX0_stepRow 4 = .ok (.iload_n 3, 1) := by decide +kernel
theorem dX0_stepRow_5 : decode cX0_stepRow 5 = .ok (.ifCond .lt 37, 3) := by decide +kernel
theorem dX0_stepRow_8 : decode cX0_stepRow 8 = .ok (.aload_n 0, 1) := by decide +kernel
theorem dX0_stepRow_9 : decode cX0_stepRow 9 = .ok (.getfield 15, 3) := by decide +kernel
theorem dX0_stepRow_12 : decode cX0_stepRow 12 = .ok (.iload_n 3, 1) := by decide +kernel
theorem dX0_stepRow_13 : decode cX0_stepRow 13 = .ok (.dup2, 1) := by decide +kernel
theorem dX0_stepRow_14 : decode cX0_stepRow 14 = .ok (.iaload, 1) := by decide +kernel
theorem dX0_stepRow_15 : decode cX0_stepRow 15 = .ok (.iconst 1, 1) := by decide +kernel
theorem dX0_stepRow_16 : decode cX0_stepRow 16 = .ok (.iadd, 1) := by decide +kernel
theorem dX0_stepRow_17 : decode cX0_stepRow 17 = .ok (.iastore, 1) := by decide +kernel
theorem dX0_stepRow_18 : decode cX0_stepRow 18 = .ok (.aload_n 0, 1) := by decide +kernel
theorem dX0_stepRow_19 : decode cX0_stepRow 19 = .ok (.getfield 15, 3) := by decide +kernel
theorem dX0_stepRow_22 : decode cX0_stepRow 22 = .ok (.iload_n 3, 1) := by decide +kernel
theorem dX0_stepRow_23 : decode cX0_stepRow 23 = .ok (.iaload, 1) := by decide +kernel
theorem dX0_stepRow_24 : decode cX0_stepRow 24 = .ok (.iload_n 2, 1) := by decide +kernel
theorem dX0_stepRow_25 : decode cX0_stepRow 25 = .ok (.if_icmp .ge 4, 3) := by decide +kernel
theorem dX0_stepRow_28 : decode cX0_stepRow 28 = .ok (.return_, 1) := by decide +kernel
theorem dX0_stepRow_29 : decode cX0_stepRow 29 = .ok (.aload_n 0, 1) := by decide +kernel
theorem dX0_stepRow_30 : decode cX0_stepRow 30 = .ok (.getfield 15, 3) := by decide +kernel
theorem dX0_stepRow_33 : decode cX0_stepRow 33 = .ok (.iload_n 3, 1) := by decide +kernel
theorem dX0_stepRow_34 : decode cX0_stepRow 34 = .ok (.iconst 0, 1) := by decide +kernel
theorem dX0_stepRow_35 : decode cX0_stepRow 35 = .ok (.iastore, 1) := by decide +kernel
theorem dX0_stepRow_36 : decode cX0_stepRow 36 = .ok (.iinc 3 (-1), 3) := by decide +kernel
theorem dX0_stepRow_39 : decode cX0_stepRow 39 = .ok (.goto (-35), 3) := by decide +kernel
theorem dX0_stepRow_42 : decode cX0_stepRow 42 = .ok (.return_, 1) := by decide +kernel
theorem dX1_init_0 : decode cX1_init 0 = .ok (.aload_n 0, 1) := by decide +kernel
theorem dX1_init_1 : decode cX1_init 1 = .ok (.invokespecial 3, 3) := by decide +kernel
theorem dX1_init_4 : decode cX1_init 4 = .ok (.aload_n 0, 1) := by decide +kernel
theorem dX1_init_5 : decode cX1_init 5 = .ok (.bipush 8, 2) := by decide +kernel
theorem dX1_init_7 : decode cX1_init 7 = .ok (.newarray .int, 2) := by decide +kernel
theorem dX1_init_9 : decode cX1_init 9 = .ok (.putfield 9, 3) := by decide +kernel
theorem dX1_init_12 : decode cX1_init 12 = .ok (.aload_n 0, 1) := by decide +kernel
theorem dX1_init_13 : decode cX1_init 13 = .ok (.bipush 8, 2) := by decide +kernel
theorem dX1_init_15 : decode cX1_init 15 = .ok (.newarray .int, 2) := by decide +kernel
theorem dX1_init_17 : decode cX1_init 17 = .ok (.putfield 15, 3) := by decide +kernel
theorem dX1_init_20 : decode cX1_init 20 = .ok (.aload_n 0, 1) := by decide +kernel
theorem dX1_init_21 : decode cX1_init 21 = .ok (.bipush 8, 2) := by decide +kernel
theorem dX1_init_23 : decode cX1_init 23 = .ok (.newarray .int, 2) := by decide +kernel
theorem dX1_init_25 : decode cX1_init 25 = .ok (.putfield 18, 3) := by decide +kernel
theorem dX1_init_28 : decode cX1_init 28 = .ok (.aload_n 0, 1) := by decide +kernel
theorem dX1_init_29 : decode cX1_init 29 = .ok (.bipush 8, 2) := by decide +kernel
theorem dX1_init_31 : decode cX1_init 31 = .ok (.newarray .boolean, 2) := by decide +kernel
theorem dX1_init_33 : decode cX1_init 33 = .ok (.putfield 21, 3) := by decide +kernel
theorem dX1_init_36 : decode cX1_init 36 = .ok (.return_, 1) := by decide +kernel
theorem dX1_note_0 : decode cX1_note 0 = .ok (.aload_n 0, 1) := by decide +kernel
theorem dX1_note_1 : decode cX1_note 1 = .ok (.getfield 9, 3) := by decide +kernel
theorem dX1_note_4 : decode cX1_note 4 = .ok (.aload_n 0, 1) := by decide +kernel
theorem dX1_note_5 : decode cX1_note 5 = .ok (.getfield 25, 3) := by decide +kernel
theorem dX1_note_8 : decode cX1_note 8 = .ok (.iload_n 1, 1) := by decide +kernel
theorem dX1_note_9 : decode cX1_note 9 = .ok (.iastore, 1) := by decide +kernel
theorem dX1_note_10 : decode cX1_note 10 = .ok (.aload_n 0, 1) := by decide +kernel
theorem dX1_note_11 : decode cX1_note 11 = .ok (.getfield 15, 3) := by decide +kernel
theorem dX1_note_14 : decode cX1_note 14 = .ok (.aload_n 0, 1) := by decide +kernel
theorem dX1_note_15 : decode cX1_note 15 = .ok (.getfield 25, 3) := by decide +kernel
theorem dX1_note_18 : decode cX1_note 18 = .ok (.iload_n 2, 1) := by decide +kernel
theorem dX1_note_19 : decode cX1_note 19 = .ok (.iastore, 1) := by decide +kernel
theorem dX1_note_20 : decode cX1_note 20 = .ok (.aload_n 0, 1) := by decide +kernel
theorem dX1_note_21 : decode cX1_note 21 = .ok (.getfield 18, 3) := by decide +kernel
theorem dX1_note_24 : decode cX1_note 24 = .ok (.aload_n 0, 1) := by decide +kernel
theorem dX1_note_25 : decode cX1_note 25 = .ok (.getfield 25, 3) := by decide +kernel
theorem dX1_note_28 : decode cX1_note 28 = .ok (.iload_n 3, 1) := by decide +kernel
theorem dX1_note_29 : decode cX1_note 29 = .ok (.iastore, 1) := by decide +kernel
theorem dX1_note_30 : decode cX1_note 30 = .ok (.aload_n 0, 1) := by decide +kernel
theorem dX1_note_31 : decode cX1_note 31 = .ok (.getfield 21, 3) := by decide +kernel
theorem dX1_note_34 : decode cX1_note 34 = .ok (.aload_n 0, 1) := by decide +kernel
theorem dX1_note_35 : decode cX1_note 35 = .ok (.getfield 25, 3) := by decide +kernel
theorem dX1_note_38 : decode cX1_note 38 = .ok (.iload 4, 2) := by decide +kernel
theorem dX1_note_40 : decode cX1_note 40 = .ok (.bastore, 1) := by decide +kernel
theorem dX1_note_41 : decode cX1_note 41 = .ok (.aload_n 0, 1) := by decide +kernel
theorem dX1_note_42 : decode cX1_note 42 = .ok (.dup, 1) := by decide +kernel
theorem dX1_note_43 : decode cX1_note 43 = .ok (.getfield 25, 3) := by decide +kernel
theorem dX1_note_46 : decode cX1_note 46 = .ok (.dup_x1, 1) := by decide +kernel
theorem dX1_note_47 : decode cX1_note 47 = .ok (.iconst 1, 1) := by decide +kernel
theorem dX1_note_48 : decode cX1_note 48 = .ok (.iadd, 1) := by decide +kernel
theorem dX1_note_49 : decode cX1_note 49 = .ok (.putfield 25, 3) := by decide +kernel
theorem dX1_note_52 : decode cX1_note 52 = .ok (.ireturn, 1) := by decide +kernel
set_option maxRecDepth 20000 in
theorem ggX1_bitIfAllHold_X3_sound : GoodIn wsX1_bitIfAllHold wsX3_sound := goodIn_r _ [10, 11, 12, 13, 14, 9, 15, 16, 44, 45, 46, 47, 48, 49, 50, 51, 52, 53] (by decide +kernel) (by decide +kernel)
set_option maxRecDepth 20000 in
theorem gX1_bitIfAllHold_X3_sound : GoodIn wsX1_bitIfAllHold (wsV RX1 29 RX3 yX3_sound wsX3_sound) := goodIn_app (goodIn_of _ (by decide +kernel)) ggX1_bitIfAllHold_X3_sound
set_option maxRecDepth 20000 in
theorem ggX1_bitIfAllHold_X3_wakes : GoodIn wsX1_bitIfAllHold wsX3_wakes := goodIn_r _ [20, 21, 22, 23, 9, 24, 25, 26, 27, 28, 29, 30, 31, 32, 33, 34, 35, 36, 37, 38, 44, 45, 46, 47, 48, 49, 50, 51, 52, 53] (by decide +kernel) (by decide +kernel)
set_option maxRecDepth 20000 in
theorem gX1_bitIfAllHold_X3_wakes : GoodIn wsX1_bitIfAllHold (wsV RX1 35 RX3 yX3_wakes wsX3_wakes) := goodIn_app (goodIn_of _ (by decide +kernel)) ggX1_bitIfAllHold_X3_wakes
theorem dX1_bitIfAllHold_0 : decode cX1_bitIfAllHold 0 = .ok (.iconst 0, 1) := by decide +kernel
theorem dX1_bitIfAllHold_1 : decode cX1_bitIfAllHold 1 = .ok (.istore_n 3, 1) := by decide +kernel
theorem dX1_bitIfAllHold_2 : decode cX1_bitIfAllHold 2 = .ok (.iload_n 3, 1) := by decide +kernel
theorem dX1_bitIfAllHold_3 : decode cX1_bitIfAllHold 3 = .ok (.aload_n 0, 1) := by decide +kernel
theorem dX1_bitIfAllHold_4 : decode cX1_bitIfAllHold 4 = .ok (.getfield 25, 3) := by decide +kernel
theorem dX1_bitIfAllHold_7 : decode cX1_bitIfAllHold 7 = .ok (.if_icmp .ge 46, 3) := by decide +kernel
theorem dX1_bitIfAllHold_10 : decode cX1_bitIfAllHold 10 = .ok (.aload_n 1, 1) := by decide +kernel
theorem dX1_bitIfAllHold_11 : decode cX1_bitIfAllHold 11 = .ok (.aload_n 0, 1) := by decide +kernel
theorem dX1_bitIfAllHold_12 : decode cX1_bitIfAllHold 12 = .ok (.getfield 18, 3) := by decide +kernel
theorem dX1_bitIfAllHold_15 : decode cX1_bitIfAllHold 15 = .ok (.iload_n 3, 1) := by decide +kernel
theorem dX1_bitIfAllHold_16 : decode cX1_bitIfAllHold 16 = .ok (.iaload, 1) := by decide +kernel
theorem dX1_bitIfAllHold_17 : decode cX1_bitIfAllHold 17 = .ok (.aload_n 1, 1) := by decide +kernel
theorem dX1_bitIfAllHold_18 : decode cX1_bitIfAllHold 18 = .ok (.aload_n 0, 1) := by decide +kernel
theorem dX1_bitIfAllHold_19 : decode cX1_bitIfAllHold 19 = .ok (.getfield 9, 3) := by decide +kernel
theorem dX1_bitIfAllHold_22 : decode cX1_bitIfAllHold 22 = .ok (.iload_n 3, 1) := by decide +kernel
theorem dX1_bitIfAllHold_23 : decode cX1_bitIfAllHold 23 = .ok (.iaload, 1) := by decide +kernel
theorem dX1_bitIfAllHold_24 : decode cX1_bitIfAllHold 24 = .ok (.invokevirtual 29, 3) := by decide +kernel
theorem dX1_bitIfAllHold_27 : decode cX1_bitIfAllHold 27 = .ok (.aload_n 0, 1) := by decide +kernel
theorem dX1_bitIfAllHold_28 : decode cX1_bitIfAllHold 28 = .ok (.getfield 15, 3) := by decide +kernel
theorem dX1_bitIfAllHold_31 : decode cX1_bitIfAllHold 31 = .ok (.iload_n 3, 1) := by decide +kernel
theorem dX1_bitIfAllHold_32 : decode cX1_bitIfAllHold 32 = .ok (.iaload, 1) := by decide +kernel
theorem dX1_bitIfAllHold_33 : decode cX1_bitIfAllHold 33 = .ok (.invokevirtual 35, 3) := by decide +kernel
theorem dX1_bitIfAllHold_36 : decode cX1_bitIfAllHold 36 = .ok (.aload_n 0, 1) := by decide +kernel
theorem dX1_bitIfAllHold_37 : decode cX1_bitIfAllHold 37 = .ok (.getfield 21, 3) := by decide +kernel
theorem dX1_bitIfAllHold_40 : decode cX1_bitIfAllHold 40 = .ok (.iload_n 3, 1) := by decide +kernel
theorem dX1_bitIfAllHold_41 : decode cX1_bitIfAllHold 41 = .ok (.baload, 1) := by decide +kernel
theorem dX1_bitIfAllHold_42 : decode cX1_bitIfAllHold 42 = .ok (.if_icmp .eq 5, 3) := by decide +kernel
theorem dX1_bitIfAllHold_45 : decode cX1_bitIfAllHold 45 = .ok (.iconst 0, 1) := by decide +kernel
theorem dX1_bitIfAllHold_46 : decode cX1_bitIfAllHold 46 = .ok (.ireturn, 1) := by decide +kernel
theorem dX1_bitIfAllHold_47 : decode cX1_bitIfAllHold 47 = .ok (.iinc 3 1, 3) := by decide +kernel
theorem dX1_bitIfAllHold_50 : decode cX1_bitIfAllHold 50 = .ok (.goto (-48), 3) := by decide +kernel
theorem dX1_bitIfAllHold_53 : decode cX1_bitIfAllHold 53 = .ok (.iconst 1, 1) := by decide +kernel
theorem dX1_bitIfAllHold_54 : decode cX1_bitIfAllHold 54 = .ok (.iload_n 2, 1) := by decide +kernel
theorem dX1_bitIfAllHold_55 : decode cX1_bitIfAllHold 55 = .ok (.ishl, 1) := by decide +kernel
theorem dX1_bitIfAllHold_56 : decode cX1_bitIfAllHold 56 = .ok (.ireturn, 1) := by decide +kernel
theorem dX2_init_0 : decode cX2_init 0 = .ok (.aload_n 0, 1) := by decide +kernel
theorem dX2_init_1 : decode cX2_init 1 = .ok (.invokespecial 3, 3) := by decide +kernel
theorem dX2_init_4 : decode cX2_init 4 = .ok (.aload_n 0, 1) := by decide +kernel
theorem dX2_init_5 : decode cX2_init 5 = .ok (.bipush 60, 2) := by decide +kernel
theorem dX2_init_7 : decode cX2_init 7 = .ok (.newarray .int, 2) := by decide +kernel
theorem dX2_init_9 : decode cX2_init 9 = .ok (.putfield 9, 3) := by decide +kernel
theorem dX2_init_12 : decode cX2_init 12 = .ok (.return_, 1) := by decide +kernel
set_option maxRecDepth 20000 in
theorem ggX2_renew_J7_fill_53178 : GoodIn wsX2_renew wsJ7_fill_53178 := goodIn_r _ [8] (by decide +kernel) (by decide +kernel)
set_option maxRecDepth 20000 in
theorem gX2_renew_J7_fill_53178 : GoodIn wsX2_renew (va_wsS RX2 26 yJ7_fill_53178 wsJ7_fill_53178) := goodIn_app (goodIn_of _ (by decide +kernel)) ggX2_renew_J7_fill_53178
theorem dX2_renew_0 : decode cX2_renew 0 = .ok (.aload_n 0, 1) := by decide +kernel
theorem dX2_renew_1 : decode cX2_renew 1 = .ok (.iconst 1, 1) := by decide +kernel
theorem dX2_renew_2 : decode cX2_renew 2 = .ok (.putfield 15, 3) := by decide +kernel
theorem dX2_renew_5 : decode cX2_renew 5 = .ok (.aload_n 0, 1) := by decide +kernel
theorem dX2_renew_6 : decode cX2_renew 6 = .ok (.iload_n 1, 1) := by decide +kernel
theorem dX2_renew_7 : decode cX2_renew 7 = .ok (.putfield 19, 3) := by decide +kernel
theorem dX2_renew_10 : decode cX2_renew 10 = .ok (.aload_n 0, 1) := by decide +kernel
theorem dX2_renew_11 : decode cX2_renew 11 = .ok (.iload_n 2, 1) := by decide +kernel
theorem dX2_renew_12 : decode cX2_renew 12 = .ok (.putfield 23, 3) := by decide +kernel
theorem dX2_renew_15 : decode cX2_renew 15 = .ok (.aload_n 0, 1) := by decide +kernel
theorem dX2_renew_16 : decode cX2_renew 16 = .ok (.getfield 9, 3) := by decide +kernel
theorem dX2_renew_19 : decode cX2_renew 19 = .ok (.iconst 0, 1) := by decide +kernel
theorem dX2_renew_20 : decode cX2_renew 20 = .ok (.invokestatic 26, 3) := by decide +kernel
theorem dX2_renew_23 : decode cX2_renew 23 = .ok (.return_, 1) := by decide +kernel
theorem dX2_faultAs_0 : decode cX2_faultAs 0 = .ok (.aload_n 0, 1) := by decide +kernel
theorem dX2_faultAs_1 : decode cX2_faultAs 1 = .ok (.getfield 15, 3) := by decide +kernel
theorem dX2_faultAs_4 : decode cX2_faultAs 4 = .ok (.ifCond .ne 5, 3) := by decide +kernel
theorem dX2_faultAs_7 : decode cX2_faultAs 7 = .ok (.iconst 1, 1) := by decide +kernel
theorem dX2_faultAs_8 : decode cX2_faultAs 8 = .ok (.ireturn, 1) := by decide +kernel
theorem dX2_faultAs_9 : decode cX2_faultAs 9 = .ok (.aload_n 0, 1) := by decide +kernel
theorem dX2_faultAs_10 : decode cX2_faultAs 10 = .ok (.getfield 19, 3) := by decide +kernel
theorem dX2_faultAs_13 : decode cX2_faultAs 13 = .ok (.iload_n 1, 1) := by decide +kernel
theorem dX2_faultAs_14 : decode cX2_faultAs 14 = .ok (.if_icmp .ne 7, 3) := by decide +kernel
theorem dX2_faultAs_17 : decode cX2_faultAs 17 = .ok (.iconst 0, 1) := by decide +kernel
theorem dX2_faultAs_18 : decode cX2_faultAs 18 = .ok (.goto 4, 3) := by decide +kernel
theorem dX2_faultAs_21 : decode cX2_faultAs 21 = .ok (.iconst 2, 1) := by decide +kernel
theorem dX2_faultAs_22 : decode cX2_faultAs 22 = .ok (.ireturn, 1) := by decide +kernel
theorem dX2_lacks_0 : decode cX2_lacks 0 = .ok (.iload_n 1, 1) := by decide +kernel
theorem dX2_lacks_1 : decode cX2_lacks 1 = .ok (.ifCond .lt 25, 3) := by decide +kernel
theorem dX2_lacks_4 : decode cX2_lacks 4 = .ok (.iload_n 1, 1) := by decide +kernel
theorem dX2_lacks_5 : decode cX2_lacks 5 = .ok (.aload_n 0, 1) := by decide +kernel
theorem dX2_lacks_6 : decode cX2_lacks 6 = .ok (.getfield 23, 3) := by decide +kernel
theorem dX2_lacks_9 : decode cX2_lacks 9 = .ok (.if_icmp .gt 17, 3) := by decide +kernel
theorem dX2_lacks_12 : decode cX2_lacks 12 = .ok (.iload_n 2, 1) := by decide +kernel
theorem dX2_lacks_13 : decode cX2_lacks 13 = .ok (.ifCond .lt 13, 3) := by decide +kernel
theorem dX2_lacks_16 : decode cX2_lacks 16 = .ok (.iload_n 2, 1) := by decide +kernel
theorem dX2_lacks_17 : decode cX2_lacks 17 = .ok (.aload_n 0, 1) := by decide +kernel
theorem dX2_lacks_18 : decode cX2_lacks 18 = .ok (.getfield 23, 3) := by decide +kernel
theorem dX2_lacks_21 : decode cX2_lacks 21 = .ok (.iload_n 1, 1) := by decide +kernel
theorem dX2_lacks_22 : decode cX2_lacks 22 = .ok (.isub, 1) := by decide +kernel
theorem dX2_lacks_23 : decode cX2_lacks 23 = .ok (.if_icmp .le 7, 3) := by decide +kernel
theorem dX2_lacks_26 : decode cX2_lacks 26 = .ok (.iconst 1, 1) := by decide +kernel
theorem dX2_lacks_27 : decode cX2_lacks 27 = .ok (.goto 4, 3) := by decide +kernel
theorem dX2_lacks_30 : decode cX2_lacks 30 = .ok (.iconst 0, 1) := by decide +kernel
theorem dX2_lacks_31 : decode cX2_lacks 31 = .ok (.ireturn, 1) := by decide +kernel
theorem dX2_cut_0 : decode cX2_cut 0 = .ok (.aload_n 0, 1) := by decide +kernel
theorem dX2_cut_1 : decode cX2_cut 1 = .ok (.getfield 19, 3) := by decide +kernel
theorem dX2_cut_4 : decode cX2_cut 4 = .ok (.lookupswitch 34 #[(0, 28), (1, 31)], 28) := by decide +kernel
theorem dX2_cut_32 : decode cX2_cut 32 = .ok (.iload_n 1, 1) := by decide +kernel
theorem dX2_cut_33 : decode cX2_cut 33 = .ok (.i2b, 1) := by decide +kernel
theorem dX2_cut_34 : decode cX2_cut 34 = .ok (.ireturn, 1) := by decide +kernel
theorem dX2_cut_35 : decode cX2_cut 35 = .ok (.iload_n 1, 1) := by decide +kernel
theorem dX2_cut_36 : decode cX2_cut 36 = .ok (.i2s, 1) := by decide +kernel
theorem dX2_cut_37 : decode cX2_cut 37 = .ok (.ireturn, 1) := by decide +kernel
theorem dX2_cut_38 : decode cX2_cut 38 = .ok (.iload_n 1, 1) := by decide +kernel
theorem dX2_cut_39 : decode cX2_cut 39 = .ok (.ireturn, 1) := by decide +kernel
theorem dX3_init_0 : decode cX3_init 0 = .ok (.aload_n 0, 1) := by decide +kernel
theorem dX3_init_1 : decode cX3_init 1 = .ok (.invokespecial 3, 3) := by decide +kernel
theorem dX3_init_4 : decode cX3_init 4 = .ok (.aload_n 0, 1) := by decide +kernel
theorem dX3_init_5 : decode cX3_init 5 = .ok (.bipush 6, 2) := by decide +kernel
theorem dX3_init_7 : decode cX3_init 7 = .ok (.newarray .int, 2) := by decide +kernel
theorem dX3_init_9 : decode cX3_init 9 = .ok (.putfield 9, 3) := by decide +kernel
theorem dX3_init_12 : decode cX3_init 12 = .ok (.aload_n 0, 1) := by decide +kernel
theorem dX3_init_13 : decode cX3_init 13 = .ok (.bipush 6, 2) := by decide +kernel
theorem dX3_init_15 : decode cX3_init 15 = .ok (.newarray .int, 2) := by decide +kernel
theorem dX3_init_17 : decode cX3_init 17 = .ok (.putfield 15, 3) := by decide +kernel
theorem dX3_init_20 : decode cX3_init 20 = .ok (.aload_n 0, 1) := by decide +kernel
theorem dX3_init_21 : decode cX3_init 21 = .ok (.iconst 4, 1) := by decide +kernel
theorem dX3_init_22 : decode cX3_init 22 = .ok (.newarray .int, 2) := by decide +kernel
theorem dX3_init_24 : decode cX3_init 24 = .ok (.putfield 18, 3) := by decide +kernel
theorem dX3_init_27 : decode cX3_init 27 = .ok (.aload_n 0, 1) := by decide +kernel
theorem dX3_init_28 : decode cX3_init 28 = .ok (.iconst 4, 1) := by decide +kernel
theorem dX3_init_29 : decode cX3_init 29 = .ok (.newarray .int, 2) := by decide +kernel
theorem dX3_init_31 : decode cX3_init 31 = .ok (.putfield 21, 3) := by decide +kernel
theorem dX3_init_34 : decode cX3_init 34 = .ok (.aload_n 0, 1) := by decide +kernel
theorem dX3_init_35 : decode cX3_init 35 = .ok (.iconst 4, 1) := by decide +kernel
theorem dX3_init_36 : decode cX3_init 36 = .ok (.newarray .boolean, 2) := by decide +kernel
theorem dX3_init_38 : decode cX3_init 38 = .ok (.putfield 24, 3) := by decide +kernel
theorem dX3_init_41 : decode cX3_init 41 = .ok (.return_, 1) := by decide +kernel
theorem dX3_clear_0 : decode cX3_clear 0 = .ok (.aload_n 0, 1) := by decide +kernel
theorem dX3_clear_1 : decode cX3_clear 1 = .ok (.iconst 0, 1) := by decide +kernel
theorem dX3_clear_2 : decode cX3_clear 2 = .ok (.putfield 28, 3) := by decide +kernel
theorem dX3_clear_5 : decode cX3_clear 5 = .ok (.aload_n 0, 1) := by decide +kernel
theorem dX3_clear_6 : decode cX3_clear 6 = .ok (.iconst 0, 1) := by decide +kernel
theorem dX3_clear_7 : decode cX3_clear 7 = .ok (.putfield 32, 3) := by decide +kernel
theorem dX3_clear_10 : decode cX3_clear 10 = .ok (.aload_n 0, 1) := by decide +kernel
theorem dX3_clear_11 : decode cX3_clear 11 = .ok (.iconst 0, 1) := by decide +kernel
theorem dX3_clear_12 : decode cX3_clear 12 = .ok (.putfield 35, 3) := by decide +kernel
theorem dX3_clear_15 : decode cX3_clear 15 = .ok (.aload_n 0, 1) := by decide +kernel
theorem dX3_clear_16 : decode cX3_clear 16 = .ok (.iconst 0, 1) := by decide +kernel
theorem dX3_clear_17 : decode cX3_clear 17 = .ok (.putfield 38, 3) := by decide +kernel
theorem dX3_clear_20 : decode cX3_clear 20 = .ok (.aload_n 0, 1) := by decide +kernel
theorem dX3_clear_21 : decode cX3_clear 21 = .ok (.iconst 0, 1) := by decide +kernel
theorem dX3_clear_22 : decode cX3_clear 22 = .ok (.putfield 41, 3) := by decide +kernel
theorem dX3_clear_25 : decode cX3_clear 25 = .ok (.return_, 1) := by decide +kernel
set_option maxRecDepth 20000 in
theorem ggX3_become_X3_clear : GoodIn wsX3_become wsX3_clear := goodIn_r _ [13, 1, 2, 3, 14, 15, 16, 17, 18, 19, 20, 21, 22, 23, 24, 25] (by decide +kernel) (by decide +kernel)
set_option maxRecDepth 20000 in
theorem gX3_become_X3_clear : GoodIn wsX3_become (wsV RX3 44 RX3 yX3_clear wsX3_clear) := goodIn_app (goodIn_of _ (by decide +kernel)) ggX3_become_X3_clear
theorem dX3_become_0 : decode cX3_become 0 = .ok (.aload_n 0, 1) := by decide +kernel
theorem dX3_become_1 : decode cX3_become 1 = .ok (.invokevirtual 44, 3) := by decide +kernel
theorem dX3_become_4 : decode cX3_become 4 = .ok (.aload_n 0, 1) := by decide +kernel
theorem dX3_become_5 : decode cX3_become 5 = .ok (.aload_n 1, 1) := by decide +kernel
theorem dX3_become_6 : decode cX3_become 6 = .ok (.getfield 28, 3) := by decide +kernel
theorem dX3_become_9 : decode cX3_become 9 = .ok (.putfield 28, 3) := by decide +kernel
theorem dX3_become_12 : decode cX3_become 12 = .ok (.aload_n 0, 1) := by decide +kernel
theorem dX3_become_13 : decode cX3_become 13 = .ok (.aload_n 1, 1) := by decide +kernel
theorem dX3_become_14 : decode cX3_become 14 = .ok (.getfield 32, 3) := by decide +kernel
theorem dX3_become_17 : decode cX3_become 17 = .ok (.putfield 32, 3) := by decide +kernel
theorem dX3_become_20 : decode cX3_become 20 = .ok (.aload_n 0, 1) := by decide +kernel
theorem dX3_become_21 : decode cX3_become 21 = .ok (.aload_n 1, 1) := by decide +kernel
theorem dX3_become_22 : decode cX3_become 22 = .ok (.getfield 35, 3) := by decide +kernel
theorem dX3_become_25 : decode cX3_become 25 = .ok (.putfield 35, 3) := by decide +kernel
theorem dX3_become_28 : decode cX3_become 28 = .ok (.iconst 0, 1) := by decide +kernel
theorem dX3_become_29 : decode cX3_become 29 = .ok (.istore_n 2, 1) := by decide +kernel
theorem dX3_become_30 : decode cX3_become 30 = .ok (.iload_n 2, 1) := by decide +kernel
theorem dX3_become_31 : decode cX3_become 31 = .ok (.aload_n 0, 1) := by decide +kernel
theorem dX3_become_32 : decode cX3_become 32 = .ok (.getfield 28, 3) := by decide +kernel
theorem dX3_become_35 : decode cX3_become 35 = .ok (.if_icmp .ge 33, 3) := by decide +kernel
theorem dX3_become_38 : decode cX3_become 38 = .ok (.aload_n 0, 1) := by decide +kernel
theorem dX3_become_39 : decode cX3_become 39 = .ok (.getfield 9, 3) := by decide +kernel
theorem dX3_become_42 : decode cX3_become 42 = .ok (.iload_n 2, 1) := by decide +kernel
theorem dX3_become_43 : decode cX3_become 43 = .ok (.aload_n 1, 1) := by decide +kernel
theorem dX3_become_44 : decode cX3_become 44 = .ok (.getfield 9, 3) := by decide +kernel
theorem dX3_become_47 : decode cX3_become 47 = .ok (.iload_n 2, 1) := by decide +kernel
theorem dX3_become_48 : decode cX3_become 48 = .ok (.iaload, 1) := by decide +kernel
theorem dX3_become_49 : decode cX3_become 49 = .ok (.iastore, 1) := by decide +kernel
theorem dX3_become_50 : decode cX3_become 50 = .ok (.aload_n 0, 1) := by decide +kernel
theorem dX3_become_51 : decode cX3_become 51 = .ok (.getfield 15, 3) := by decide +kernel
theorem dX3_become_54 : decode cX3_become 54 = .ok (.iload_n 2, 1) := by decide +kernel
theorem dX3_become_55 : decode cX3_become 55 = .ok (.aload_n 1, 1) := by decide +kernel
theorem dX3_become_56 : decode cX3_become 56 = .ok (.getfield 15, 3) := by decide +kernel
theorem dX3_become_59 : decode cX3_become 59 = .ok (.iload_n 2, 1) := by decide +kernel
theorem dX3_become_60 : decode cX3_become 60 = .ok (.iaload, 1) := by decide +kernel
theorem dX3_become_61 : decode cX3_become 61 = .ok (.iastore, 1) := by decide +kernel
theorem dX3_become_62 : decode cX3_become 62 = .ok (.iinc 2 1, 3) := by decide +kernel
theorem dX3_become_65 : decode cX3_become 65 = .ok (.goto (-35), 3) := by decide +kernel
theorem dX3_become_68 : decode cX3_become 68 = .ok (.iconst 0, 1) := by decide +kernel
theorem dX3_become_69 : decode cX3_become 69 = .ok (.istore_n 2, 1) := by decide +kernel
theorem dX3_become_70 : decode cX3_become 70 = .ok (.iload_n 2, 1) := by decide +kernel
theorem dX3_become_71 : decode cX3_become 71 = .ok (.aload_n 0, 1) := by decide +kernel
theorem dX3_become_72 : decode cX3_become 72 = .ok (.getfield 32, 3) := by decide +kernel
theorem dX3_become_75 : decode cX3_become 75 = .ok (.if_icmp .ge 45, 3) := by decide +kernel
theorem dX3_become_78 : decode cX3_become 78 = .ok (.aload_n 0, 1) := by decide +kernel
theorem dX3_become_79 : decode cX3_become 79 = .ok (.getfield 18, 3) := by decide +kernel
theorem dX3_become_82 : decode cX3_become 82 = .ok (.iload_n 2, 1) := by decide +kernel
theorem dX3_become_83 : decode cX3_become 83 = .ok (.aload_n 1, 1) := by decide +kernel
theorem dX3_become_84 : decode cX3_become 84 = .ok (.getfield 18, 3) := by decide +kernel
theorem dX3_become_87 : decode cX3_become 87 = .ok (.iload_n 2, 1) := by decide +kernel
theorem dX3_become_88 : decode cX3_become 88 = .ok (.iaload, 1) := by decide +kernel
theorem dX3_become_89 : decode cX3_become 89 = .ok (.iastore, 1) := by decide +kernel
theorem dX3_become_90 : decode cX3_become 90 = .ok (.aload_n 0, 1) := by decide +kernel
theorem dX3_become_91 : decode cX3_become 91 = .ok (.getfield 21, 3) := by decide +kernel
theorem dX3_become_94 : decode cX3_become 94 = .ok (.iload_n 2, 1) := by decide +kernel
theorem dX3_become_95 : decode cX3_become 95 = .ok (.aload_n 1, 1) := by decide +kernel
theorem dX3_become_96 : decode cX3_become 96 = .ok (.getfield 21, 3) := by decide +kernel
theorem dX3_become_99 : decode cX3_become 99 = .ok (.iload_n 2, 1) := by decide +kernel
theorem dX3_become_100 : decode cX3_become 100 = .ok (.iaload, 1) := by decide +kernel
theorem dX3_become_101 : decode cX3_become 101 = .ok (.iastore, 1) := by decide +kernel
theorem dX3_become_102 : decode cX3_become 102 = .ok (.aload_n 0, 1) := by decide +kernel
theorem dX3_become_103 : decode cX3_become 103 = .ok (.getfield 24, 3) := by decide +kernel
theorem dX3_become_106 : decode cX3_become 106 = .ok (.iload_n 2, 1) := by decide +kernel
theorem dX3_become_107 : decode cX3_become 107 = .ok (.aload_n 1, 1) := by decide +kernel
theorem dX3_become_108 : decode cX3_become 108 = .ok (.getfield 24, 3) := by decide +kernel
theorem dX3_become_111 : decode cX3_become 111 = .ok (.iload_n 2, 1) := by decide +kernel
theorem dX3_become_112 : decode cX3_become 112 = .ok (.baload, 1) := by decide +kernel
theorem dX3_become_113 : decode cX3_become 113 = .ok (.bastore, 1) := by decide +kernel
theorem dX3_become_114 : decode cX3_become 114 = .ok (.iinc 2 1, 3) := by decide +kernel
theorem dX3_become_117 : decode cX3_become 117 = .ok (.goto (-47), 3) := by decide +kernel
theorem dX3_become_120 : decode cX3_become 120 = .ok (.return_, 1) := by decide +kernel
theorem dX3_addHouse_0 : decode cX3_addHouse 0 = .ok (.aload_n 0, 1) := by decide +kernel
theorem dX3_addHouse_1 : decode cX3_addHouse 1 = .ok (.getfield 9, 3) := by decide +kernel
theorem dX3_addHouse_4 : decode cX3_addHouse 4 = .ok (.aload_n 0, 1) := by decide +kernel
theorem dX3_addHouse_5 : decode cX3_addHouse 5 = .ok (.getfield 28, 3) := by decide +kernel
theorem dX3_addHouse_8 : decode cX3_addHouse 8 = .ok (.iload_n 1, 1) := by decide +kernel
theorem dX3_addHouse_9 : decode cX3_addHouse 9 = .ok (.iastore, 1) := by decide +kernel
theorem dX3_addHouse_10 : decode cX3_addHouse 10 = .ok (.aload_n 0, 1) := by decide +kernel
theorem dX3_addHouse_11 : decode cX3_addHouse 11 = .ok (.getfield 15, 3) := by decide +kernel
theorem dX3_addHouse_14 : decode cX3_addHouse 14 = .ok (.aload_n 0, 1) := by decide +kernel
theorem dX3_addHouse_15 : decode cX3_addHouse 15 = .ok (.getfield 28, 3) := by decide +kernel
theorem dX3_addHouse_18 : decode cX3_addHouse 18 = .ok (.iload_n 2, 1) := by decide +kernel
theorem dX3_addHouse_19 : decode cX3_addHouse 19 = .ok (.iastore, 1) := by decide +kernel
theorem dX3_addHouse_20 : decode cX3_addHouse 20 = .ok (.aload_n 0, 1) := by decide +kernel
theorem dX3_addHouse_21 : decode cX3_addHouse 21 = .ok (.dup, 1) := by decide +kernel
theorem dX3_addHouse_22 : decode cX3_addHouse 22 = .ok (.getfield 28, 3) := by decide +kernel
theorem dX3_addHouse_25 : decode cX3_addHouse 25 = .ok (.iconst 1, 1) := by decide +kernel
theorem dX3_addHouse_26 : decode cX3_addHouse 26 = .ok (.iadd, 1) := by decide +kernel
theorem dX3_addHouse_27 : decode cX3_addHouse 27 = .ok (.putfield 28, 3) := by decide +kernel
theorem dX3_addHouse_30 : decode cX3_addHouse 30 = .ok (.return_, 1) := by decide +kernel
theorem dX3_addClock_0 : decode cX3_addClock 0 = .ok (.aload_n 0, 1) := by decide +kernel
theorem dX3_addClock_1 : decode cX3_addClock 1 = .ok (.getfield 18, 3) := by decide +kernel
theorem dX3_addClock_4 : decode cX3_addClock 4 = .ok (.aload_n 0, 1) := by decide +kernel
theorem dX3_addClock_5 : decode cX3_addClock 5 = .ok (.getfield 32, 3) := by decide +kernel
theorem dX3_addClock_8 : decode cX3_addClock 8 = .ok (.iload_n 1, 1) := by decide +kernel
theorem dX3_addClock_9 : decode cX3_addClock 9 = .ok (.iastore, 1) := by decide +kernel
theorem dX3_addClock_10 : decode cX3_addClock 10 = .ok (.aload_n 0, 1) := by decide +kernel
theorem dX3_addClock_11 : decode cX3_addClock 11 = .ok (.getfield 21, 3) := by decide +kernel
theorem dX3_addClock_14 : decode cX3_addClock 14 = .ok (.aload_n 0, 1) := by decide +kernel
theorem dX3_addClock_15 : decode cX3_addClock 15 = .ok (.getfield 32, 3) := by decide +kernel
theorem dX3_addClock_18 : decode cX3_addClock 18 = .ok (.iload_n 2, 1) := by decide +kernel
theorem dX3_addClock_19 : decode cX3_addClock 19 = .ok (.iastore, 1) := by decide +kernel
theorem dX3_addClock_20 : decode cX3_addClock 20 = .ok (.aload_n 0, 1) := by decide +kernel
theorem dX3_addClock_21 : decode cX3_addClock 21 = .ok (.getfield 24, 3) := by decide +kernel
theorem dX3_addClock_24 : decode cX3_addClock 24 = .ok (.aload_n 0, 1) := by decide +kernel
theorem dX3_addClock_25 : decode cX3_addClock 25 = .ok (.getfield 32, 3) := by decide +kernel
theorem dX3_addClock_28 : decode cX3_addClock 28 = .ok (.iconst 0, 1) := by decide +kernel
theorem dX3_addClock_29 : decode cX3_addClock 29 = .ok (.bastore, 1) := by decide +kernel
theorem dX3_addClock_30 : decode cX3_addClock 30 = .ok (.aload_n 0, 1) := by decide +kernel
theorem dX3_addClock_31 : decode cX3_addClock 31 = .ok (.dup, 1) := by decide +kernel
theorem dX3_addClock_32 : decode cX3_addClock 32 = .ok (.getfield 32, 3) := by decide +kernel
theorem dX3_addClock_35 : decode cX3_addClock 35 = .ok (.iconst 1, 1) := by decide +kernel
theorem dX3_addClock_36 : decode cX3_addClock 36 = .ok (.iadd, 1) := by decide +kernel
theorem dX3_addClock_37 : decode cX3_addClock 37 = .ok (.putfield 32, 3) := by decide +kernel
theorem dX3_addClock_40 : decode cX3_addClock 40 = .ok (.return_, 1) := by decide +kernel
theorem dX3_stands_0 : decode cX3_stands 0 = .ok (.aload_n 0, 1) := by decide +kernel
theorem dX3_stands_1 : decode cX3_stands 1 = .ok (.getfield 28, 3) := by decide +kernel
theorem dX3_stands_4 : decode cX3_stands 4 = .ok (.ifCond .le 7, 3) := by decide +kernel
theorem dX3_stands_7 : decode cX3_stands 7 = .ok (.iconst 1, 1) := by decide +kernel
theorem dX3_stands_8 : decode cX3_stands 8 = .ok (.goto 4, 3) := by decide +kernel
theorem dX3_stands_11 : decode cX3_stands 11 = .ok (.iconst 0, 1) := by decide +kernel
theorem dX3_stands_12 : decode cX3_stands 12 = .ok (.ireturn, 1) := by decide +kernel
theorem dX3_hasHouse_0 : decode cX3_hasHouse 0 = .ok (.iload_n 1, 1) := by decide +kernel
theorem dX3_hasHouse_1 : decode cX3_hasHouse 1 = .ok (.ifCond .lt 15, 3) := by decide +kernel
theorem dX3_hasHouse_4 : decode cX3_hasHouse 4 = .ok (.iload_n 1, 1) := by decide +kernel
theorem dX3_hasHouse_5 : decode cX3_hasHouse 5 = .ok (.aload_n 0, 1) := by decide +kernel
theorem dX3_hasHouse_6 : decode cX3_hasHouse 6 = .ok (.getfield 28, 3) := by decide +kernel
theorem dX3_hasHouse_9 : decode cX3_hasHouse 9 = .ok (.if_icmp .ge 7, 3) := by decide +kernel
theorem dX3_hasHouse_12 : decode cX3_hasHouse 12 = .ok (.iconst 1, 1) := by decide +kernel
theorem dX3_hasHouse_13 : decode cX3_hasHouse 13 = .ok (.goto 4, 3) := by decide +kernel
theorem dX3_hasHouse_16 : decode cX3_hasHouse 16 = .ok (.iconst 0, 1) := by decide +kernel
theorem dX3_hasHouse_17 : decode cX3_hasHouse 17 = .ok (.ireturn, 1) := by decide +kernel
theorem dX3_hasClock_0 : decode cX3_hasClock 0 = .ok (.iload_n 1, 1) := by decide +kernel
theorem dX3_hasClock_1 : decode cX3_hasClock 1 = .ok (.ifCond .lt 15, 3) := by decide +kernel
theorem dX3_hasClock_4 : decode cX3_hasClock 4 = .ok (.iload_n 1, 1) := by decide +kernel
theorem dX3_hasClock_5 : decode cX3_hasClock 5 = .ok (.aload_n 0, 1) := by decide +kernel
theorem dX3_hasClock_6 : decode cX3_hasClock 6 = .ok (.getfield 32, 3) := by decide +kernel
theorem dX3_hasClock_9 : decode cX3_hasClock 9 = .ok (.if_icmp .ge 7, 3) := by decide +kernel
theorem dX3_hasClock_12 : decode cX3_hasClock 12 = .ok (.iconst 1, 1) := by decide +kernel
theorem dX3_hasClock_13 : decode cX3_hasClock 13 = .ok (.goto 4, 3) := by decide +kernel
theorem dX3_hasClock_16 : decode cX3_hasClock 16 = .ok (.iconst 0, 1) := by decide +kernel
theorem dX3_hasClock_17 : decode cX3_hasClock 17 = .ok (.ireturn, 1) := by decide +kernel
theorem dX3_needs_0 : decode cX3_needs 0 = .ok (.aload_n 0, 1) := by decide +kernel
theorem dX3_needs_1 : decode cX3_needs 1 = .ok (.getfield 9, 3) := by decide +kernel
theorem dX3_needs_4 : decode cX3_needs 4 = .ok (.iload_n 1, 1) := by decide +kernel
theorem dX3_needs_5 : decode cX3_needs 5 = .ok (.iaload, 1) := by decide +kernel
theorem dX3_needs_6 : decode cX3_needs 6 = .ok (.lookupswitch 44 #[(1, 26), (2, 35)], 26) := by decide +kernel
theorem dX3_needs_32 : decode cX3_needs 32 = .ok (.aload_n 0, 1) := by decide +kernel
theorem dX3_needs_33 : decode cX3_needs 33 = .ok (.getfield 15, 3) := by decide +kernel
theorem dX3_needs_36 : decode cX3_needs 36 = .ok (.iload_n 1, 1) := by decide +kernel
theorem dX3_needs_37 : decode cX3_needs 37 = .ok (.iaload, 1) := by decide +kernel
theorem dX3_needs_38 : decode cX3_needs 38 = .ok (.iconst 1, 1) := by decide +kernel
theorem dX3_needs_39 : decode cX3_needs 39 = .ok (.isub, 1) := by decide +kernel
theorem dX3_needs_40 : decode cX3_needs 40 = .ok (.ireturn, 1) := by decide +kernel
theorem dX3_needs_41 : decode cX3_needs 41 = .ok (.aload_n 0, 1) := by decide +kernel
theorem dX3_needs_42 : decode cX3_needs 42 = .ok (.getfield 15, 3) := by decide +kernel
theorem dX3_needs_45 : decode cX3_needs 45 = .ok (.iload_n 1, 1) := by decide +kernel
theorem dX3_needs_46 : decode cX3_needs 46 = .ok (.iaload, 1) := by decide +kernel
theorem dX3_needs_47 : decode cX3_needs 47 = .ok (.iconst 2, 1) := by decide +kernel
theorem dX3_needs_48 : decode cX3_needs 48 = .ok (.idiv, 1) := by decide +kernel
theorem dX3_needs_49 : decode cX3_needs 49 = .ok (.ireturn, 1) := by decide +kernel
theorem dX3_needs_50 : decode cX3_needs 50 = .ok (.aload_n 0, 1) := by decide +kernel
theorem dX3_needs_51 : decode cX3_needs 51 = .ok (.getfield 15, 3) := by decide +kernel
theorem dX3_needs_54 : decode cX3_needs 54 = .ok (.iload_n 1, 1) := by decide +kernel
theorem dX3_needs_55 : decode cX3_needs 55 = .ok (.iaload, 1) := by decide +kernel
theorem dX3_needs_56 : decode cX3_needs 56 = .ok (.ireturn, 1) := by decide +kernel
set_option maxRecDepth 20000 in
theorem ggX3_sound_X3_soundIf : GoodIn wsX3_sound wsX3_soundIf := goodIn_r _ [6, 7, 8, 9, 10, 11, 12, 13, 14, 15, 16, 17] (by decide +kernel) (by decide +kernel)
set_option maxRecDepth 20000 in
theorem gX3_sound_X3_soundIf : GoodIn wsX3_sound (wsV RX3 47 RX3 yX3_soundIf wsX3_soundIf) := goodIn_app (goodIn_of _ (by decide +kernel)) ggX3_sound_X3_soundIf
theorem dX3_sound_0 : decode cX3_sound 0 = .ok (.aload_n 0, 1) := by decide +kernel
theorem dX3_sound_1 : decode cX3_sound 1 = .ok (.iload_n 1, 1) := by decide +kernel
theorem dX3_sound_2 : decode cX3_sound 2 = .ok (.aload_n 0, 1) := by decide +kernel
theorem dX3_sound_3 : decode cX3_sound 3 = .ok (.getfield 24, 3) := by decide +kernel
theorem dX3_sound_6 : decode cX3_sound 6 = .ok (.iload_n 1, 1) := by decide +kernel
theorem dX3_sound_7 : decode cX3_sound 7 = .ok (.baload, 1) := by decide +kernel
theorem dX3_sound_8 : decode cX3_sound 8 = .ok (.invokevirtual 47, 3) := by decide +kernel
theorem dX3_sound_11 : decode cX3_sound 11 = .ok (.ireturn, 1) := by decide +kernel
theorem dX3_soundIf_0 : decode cX3_soundIf 0 = .ok (.iload_n 2, 1) := by decide +kernel
theorem dX3_soundIf_1 : decode cX3_soundIf 1 = .ok (.ifCond .eq 14, 3) := by decide +kernel
theorem dX3_soundIf_4 : decode cX3_soundIf 4 = .ok (.aload_n 0, 1) := by decide +kernel
theorem dX3_soundIf_5 : decode cX3_soundIf 5 = .ok (.getfield 18, 3) := by decide +kernel
theorem dX3_soundIf_8 : decode cX3_soundIf 8 = .ok (.iload_n 1, 1) := by decide +kernel
theorem dX3_soundIf_9 : decode cX3_soundIf 9 = .ok (.iaload, 1) := by decide +kernel
theorem dX3_soundIf_10 : decode cX3_soundIf 10 = .ok (.iconst 2, 1) := by decide +kernel
theorem dX3_soundIf_11 : decode cX3_soundIf 11 = .ok (.idiv, 1) := by decide +kernel
theorem dX3_soundIf_12 : decode cX3_soundIf 12 = .ok (.goto 9, 3) := by decide +kernel
theorem dX3_soundIf_15 : decode cX3_soundIf 15 = .ok (.aload_n 0, 1) := by decide +kernel
theorem dX3_soundIf_16 : decode cX3_soundIf 16 = .ok (.getfield 18, 3) := by decide +kernel
theorem dX3_soundIf_19 : decode cX3_soundIf 19 = .ok (.iload_n 1, 1) := by decide +kernel
theorem dX3_soundIf_20 : decode cX3_soundIf 20 = .ok (.iaload, 1) := by decide +kernel
theorem dX3_soundIf_21 : decode cX3_soundIf 21 = .ok (.ireturn, 1) := by decide +kernel
theorem dX3_heard_0 : decode cX3_heard 0 = .ok (.iload_n 2, 1) := by decide +kernel
theorem dX3_heard_1 : decode cX3_heard 1 = .ok (.aload_n 0, 1) := by decide +kernel
theorem dX3_heard_2 : decode cX3_heard 2 = .ok (.getfield 35, 3) := by decide +kernel
theorem dX3_heard_5 : decode cX3_heard 5 = .ok (.iload_n 1, 1) := by decide +kernel
theorem dX3_heard_6 : decode cX3_heard 6 = .ok (.iload_n 3, 1) := by decide +kernel
theorem dX3_heard_7 : decode cX3_heard 7 = .ok (.isub, 1) := by decide +kernel
theorem dX3_heard_8 : decode cX3_heard 8 = .ok (.invokestatic 51, 3) := by decide +kernel
theorem dX3_heard_11 : decode cX3_heard 11 = .ok (.imul, 1) := by decide +kernel
theorem dX3_heard_12 : decode cX3_heard 12 = .ok (.isub, 1) := by decide +kernel
theorem dX3_heard_13 : decode cX3_heard 13 = .ok (.ireturn, 1) := by decide +kernel
theorem dX3_spare_0 : decode cX3_spare 0 = .ok (.iload_n 0, 1) := by decide +kernel
theorem dX3_spare_1 : decode cX3_spare 1 = .ok (.ifCond .le 14, 3) := by decide +kernel
theorem dX3_spare_4 : decode cX3_spare 4 = .ok (.iload_n 0, 1) := by decide +kernel
theorem dX3_spare_5 : decode cX3_spare 5 = .ok (.iload_n 1, 1) := by decide +kernel
theorem dX3_spare_6 : decode cX3_spare 6 = .ok (.if_icmp .lt 9, 3) := by decide +kernel
theorem dX3_spare_9 : decode cX3_spare 9 = .ok (.iload_n 0, 1) := by decide +kernel
theorem dX3_spare_10 : decode cX3_spare 10 = .ok (.iload_n 1, 1) := by decide +kernel
theorem dX3_spare_11 : decode cX3_spare 11 = .ok (.isub, 1) := by decide +kernel
theorem dX3_spare_12 : decode cX3_spare 12 = .ok (.goto 4, 3) := by decide +kernel
theorem dX3_spare_15 : decode cX3_spare 15 = .ok (.iconst (-1), 1) := by decide +kernel
theorem dX3_spare_16 : decode cX3_spare 16 = .ok (.ireturn, 1) := by decide +kernel
set_option maxRecDepth 20000 in
theorem ggX3_wakes_X3_heard : GoodIn wsX3_wakes wsX3_heard := goodIn_r _ [5, 6, 7, 8, 9, 10, 20, 21, 22, 23, 24, 25, 26, 27, 28, 29] (by decide +kernel) (by decide +kernel)
set_option maxRecDepth 20000 in
theorem gX3_wakes_X3_heard : GoodIn wsX3_wakes (wsV RX3 57 RX3 yX3_heard wsX3_heard) := goodIn_app (goodIn_of _ (by decide +kernel)) ggX3_wakes_X3_heard
set_option maxRecDepth 20000 in
theorem ggX3_wakes_X3_needs : GoodIn wsX3_wakes wsX3_needs := goodIn_r _ [14, 15, 16, 20, 21, 22, 23, 24, 25, 26, 27, 28, 29] (by decide +kernel) (by decide +kernel)
set_option maxRecDepth 20000 in
theorem gX3_wakes_X3_needs : GoodIn wsX3_wakes (wsV RX3 61 RX3 yX3_needs wsX3_needs) := goodIn_app (goodIn_of _ (by decide +kernel)) ggX3_wakes_X3_needs
set_option maxRecDepth 20000 in
theorem ggX3_wakes_X3_spare : GoodIn wsX3_wakes wsX3_spare := goodIn_r _ [19] (by decide +kernel) (by decide +kernel)
set_option maxRecDepth 20000 in
theorem gX3_wakes_X3_spare : GoodIn wsX3_wakes (va_wsS RX3 64 yX3_spare wsX3_spare) := goodIn_app (goodIn_of _ (by decide +kernel)) ggX3_wakes_X3_spare
theorem dX3_wakes_0 : decode cX3_wakes 0 = .ok (.aload_n 0, 1) := by decide +kernel
theorem dX3_wakes_1 : decode cX3_wakes 1 = .ok (.iload_n 1, 1) := by decide +kernel
theorem dX3_wakes_2 : decode cX3_wakes 2 = .ok (.iload_n 2, 1) := by decide +kernel
theorem dX3_wakes_3 : decode cX3_wakes 3 = .ok (.iload_n 3, 1) := by decide +kernel
theorem dX3_wakes_4 : decode cX3_wakes 4 = .ok (.invokevirtual 57, 3) := by decide +kernel
theorem dX3_wakes_7 : decode cX3_wakes 7 = .ok (.aload_n 0, 1) := by decide +kernel
theorem dX3_wakes_8 : decode cX3_wakes 8 = .ok (.iload_n 1, 1) := by decide +kernel
theorem dX3_wakes_9 : decode cX3_wakes 9 = .ok (.invokevirtual 61, 3) := by decide +kernel
theorem dX3_wakes_12 : decode cX3_wakes 12 = .ok (.invokestatic 64, 3) := by decide +kernel
theorem dX3_wakes_15 : decode cX3_wakes 15 = .ok (.iconst (-1), 1) := by decide +kernel
theorem dX3_wakes_16 : decode cX3_wakes 16 = .ok (.if_icmp .eq 7, 3) := by decide +kernel
theorem dX3_wakes_19 : decode cX3_wakes 19 = .ok (.iconst 1, 1) := by decide +kernel
theorem dX3_wakes_20 : decode cX3_wakes 20 = .ok (.goto 4, 3) := by decide +kernel
theorem dX3_wakes_23 : decode cX3_wakes 23 = .ok (.iconst 0, 1) := by decide +kernel
theorem dX3_wakes_24 : decode cX3_wakes 24 = .ok (.ireturn, 1) := by decide +kernel
set_option maxRecDepth 20000 in
theorem ggX3_wakers_X3_sound : GoodIn wsX3_wakers wsX3_sound := goodIn_r _ [6, 7, 8, 9, 10, 5, 11, 12, 35, 36, 37, 38, 39, 40, 41, 42, 43, 44] (by decide +kernel) (by decide +kernel)
set_option maxRecDepth 20000 in
theorem gX3_wakers_X3_sound : GoodIn wsX3_wakers (wsV RX3 68 RX3 yX3_sound wsX3_sound) := goodIn_app (goodIn_of _ (by decide +kernel)) ggX3_wakers_X3_sound
set_option maxRecDepth 20000 in
theorem ggX3_wakers_X3_wakes : GoodIn wsX3_wakers wsX3_wakes := goodIn_r _ [16, 17, 18, 19, 5, 20, 21, 22, 23, 24, 25, 26, 27, 28, 29, 30, 31, 32, 33, 34, 35, 36, 37, 38, 39, 40, 41, 42, 43, 44] (by decide +kernel) (by decide +kernel)
set_option maxRecDepth 20000 in
theorem gX3_wakers_X3_wakes : GoodIn wsX3_wakers (wsV RX3 71 RX3 yX3_wakes wsX3_wakes) := goodIn_app (goodIn_of _ (by decide +kernel)) ggX3_wakers_X3_wakes
theorem dX3_wakers_0 : decode cX3_wakers 0 = .ok (.aload_n 0, 1) := by decide +kernel
theorem dX3_wakers_1 : decode cX3_wakers 1 = .ok (.iload_n 1, 1) := by decide +kernel
theorem dX3_wakers_2 : decode cX3_wakers 2 = .ok (.invokevirtual 68, 3) := by decide +kernel
theorem dX3_wakers_5 : decode cX3_wakers 5 = .ok (.istore_n 3, 1) := by decide +kernel
theorem dX3_wakers_6 : decode cX3_wakers 6 = .ok (.iconst 0, 1) := by decide +kernel
theorem dX3_wakers_7 : decode cX3_wakers 7 = .ok (.istore 4, 2) := by decide +kernel
theorem dX3_wakers_9 : decode cX3_wakers 9 = .ok (.iconst 0, 1) := by decide +kernel
theorem dX3_wakers_10 : decode cX3_wakers 10 = .ok (.istore 5, 2) := by decide +kernel
theorem dX3_wakers_12 : decode cX3_wakers 12 = .ok (.iload 5, 2) := by decide +kernel
theorem dX3_wakers_14 : decode cX3_wakers 14 = .ok (.aload_n 0, 1) := by decide +kernel
theorem dX3_wakers_15 : decode cX3_wakers 15 = .ok (.getfield 28, 3) := by decide +kernel
theorem dX3_wakers_18 : decode cX3_wakers 18 = .ok (.if_icmp .ge 29, 3) := by decide +kernel
theorem dX3_wakers_21 : decode cX3_wakers 21 = .ok (.aload_n 0, 1) := by decide +kernel
theorem dX3_wakers_22 : decode cX3_wakers 22 = .ok (.iload 5, 2) := by decide +kernel
theorem dX3_wakers_24 : decode cX3_wakers 24 = .ok (.iload_n 3, 1) := by decide +kernel
theorem dX3_wakers_25 : decode cX3_wakers 25 = .ok (.iload_n 2, 1) := by decide +kernel
theorem dX3_wakers_26 : decode cX3_wakers 26 = .ok (.invokevirtual 71, 3) := by decide +kernel
theorem dX3_wakers_29 : decode cX3_wakers 29 = .ok (.ifCond .eq 12, 3) := by decide +kernel
theorem dX3_wakers_32 : decode cX3_wakers 32 = .ok (.iload 4, 2) := by decide +kernel
theorem dX3_wakers_34 : decode cX3_wakers 34 = .ok (.iconst 1, 1) := by decide +kernel
theorem dX3_wakers_35 : decode cX3_wakers 35 = .ok (.iload 5, 2) := by decide +kernel
theorem dX3_wakers_37 : decode cX3_wakers 37 = .ok (.ishl, 1) := by decide +kernel
theorem dX3_wakers_38 : decode cX3_wakers 38 = .ok (.ior, 1) := by decide +kernel
theorem dX3_wakers_39 : decode cX3_wakers 39 = .ok (.istore 4, 2) := by decide +kernel
theorem dX3_wakers_41 : decode cX3_wakers 41 = .ok (.iinc 5 1, 3) := by decide +kernel
theorem dX3_wakers_44 : decode cX3_wakers 44 = .ok (.goto (-32), 3) := by decide +kernel
theorem dX3_wakers_47 : decode cX3_wakers 47 = .ok (.iload 4, 2) := by decide +kernel
theorem dX3_wakers_49 : decode cX3_wakers 49 = .ok (.ireturn, 1) := by decide +kernel
set_option maxRecDepth 20000 in
theorem ggX3_owner_X3_sound : GoodIn wsX3_owner wsX3_sound := goodIn_r _ [6, 7, 8, 9, 10, 5, 11, 12, 31, 32, 33, 34, 35, 36, 37, 38, 39, 40] (by decide +kernel) (by decide +kernel)
set_option maxRecDepth 20000 in
theorem gX3_owner_X3_sound : GoodIn wsX3_owner (wsV RX3 68 RX3 yX3_sound wsX3_sound) := goodIn_app (goodIn_of _ (by decide +kernel)) ggX3_owner_X3_sound
set_option maxRecDepth 20000 in
theorem ggX3_owner_X3_heard : GoodIn wsX3_owner wsX3_heard := goodIn_r _ [16, 17, 18, 19, 20, 21, 31, 32, 33, 34, 35, 36, 37, 38, 39, 40] (by decide +kernel) (by decide +kernel)
set_option maxRecDepth 20000 in
theorem gX3_owner_X3_heard : GoodIn wsX3_owner (wsV RX3 57 RX3 yX3_heard wsX3_heard) := goodIn_app (goodIn_of _ (by decide +kernel)) ggX3_owner_X3_heard
set_option maxRecDepth 20000 in
theorem ggX3_owner_X3_needs : GoodIn wsX3_owner wsX3_needs := goodIn_r _ [25, 26, 27, 31, 32, 33, 34, 35, 36, 37, 38, 39, 40] (by decide +kernel) (by decide +kernel)
set_option maxRecDepth 20000 in
theorem gX3_owner_X3_needs : GoodIn wsX3_owner (wsV RX3 61 RX3 yX3_needs wsX3_needs) := goodIn_app (goodIn_of _ (by decide +kernel)) ggX3_owner_X3_needs
set_option maxRecDepth 20000 in
theorem ggX3_owner_X3_spare : GoodIn wsX3_owner wsX3_spare := goodIn_r _ [30] (by decide +kernel) (by decide +kernel)
set_option maxRecDepth 20000 in
theorem gX3_owner_X3_spare : GoodIn wsX3_owner (va_wsS RX3 64 yX3_spare wsX3_spare) := goodIn_app (goodIn_of _ (by decide +kernel)) ggX3_owner_X3_spare
theorem dX3_owner_0 : decode cX3_owner 0 = .ok (.aload_n 0, 1) := by decide +kernel
theorem dX3_owner_1 : decode cX3_owner 1 = .ok (.iload_n 1, 1) := by decide +kernel
theorem dX3_owner_2 : decode cX3_owner 2 = .ok (.invokevirtual 68, 3) := by decide +kernel
theorem dX3_owner_5 : decode cX3_owner 5 = .ok (.istore_n 3, 1) := by decide +kernel
theorem dX3_owner_6 : decode cX3_owner 6 = .ok (.bipush (-9), 2) := by decide +kernel
theorem dX3_owner_8 : decode cX3_owner 8 = .ok (.istore 4, 2) := by decide +kernel
theorem dX3_owner_10 : decode cX3_owner 10 = .ok (.iconst (-1), 1) := by decide +kernel
theorem dX3_owner_11 : decode cX3_owner 11 = .ok (.istore 5, 2) := by decide +kernel
theorem dX3_owner_13 : decode cX3_owner 13 = .ok (.iconst 0, 1) := by decide +kernel
theorem dX3_owner_14 : decode cX3_owner 14 = .ok (.istore 6, 2) := by decide +kernel
theorem dX3_owner_16 : decode cX3_owner 16 = .ok (.iload 6, 2) := by decide +kernel
theorem dX3_owner_18 : decode cX3_owner 18 = .ok (.aload_n 0, 1) := by decide +kernel
theorem dX3_owner_19 : decode cX3_owner 19 = .ok (.getfield 28, 3) := by decide +kernel
theorem dX3_owner_22 : decode cX3_owner 22 = .ok (.if_icmp .ge 43, 3) := by decide +kernel
theorem dX3_owner_25 : decode cX3_owner 25 = .ok (.aload_n 0, 1) := by decide +kernel
theorem dX3_owner_26 : decode cX3_owner 26 = .ok (.iload 6, 2) := by decide +kernel
theorem dX3_owner_28 : decode cX3_owner 28 = .ok (.iload_n 3, 1) := by decide +kernel
theorem dX3_owner_29 : decode cX3_owner 29 = .ok (.iload_n 2, 1) := by decide +kernel
theorem dX3_owner_30 : decode cX3_owner 30 = .ok (.invokevirtual 57, 3) := by decide +kernel
theorem dX3_owner_33 : decode cX3_owner 33 = .ok (.aload_n 0, 1) := by decide +kernel
theorem dX3_owner_34 : decode cX3_owner 34 = .ok (.iload 6, 2) := by decide +kernel
theorem dX3_owner_36 : decode cX3_owner 36 = .ok (.invokevirtual 61, 3) := by decide +kernel
theorem dX3_owner_39 : decode cX3_owner 39 = .ok (.invokestatic 64, 3) := by decide +kernel
theorem dX3_owner_42 : decode cX3_owner 42 = .ok (.istore 7, 2) := by decide +kernel
theorem dX3_owner_44 : decode cX3_owner 44 = .ok (.iload 7, 2) := by decide +kernel
theorem dX3_owner_46 : decode cX3_owner 46 = .ok (.iload 5, 2) := by decide +kernel
theorem dX3_owner_48 : decode cX3_owner 48 = .ok (.if_icmp .le 11, 3) := by decide +kernel
theorem dX3_owner_51 : decode cX3_owner 51 = .ok (.iload 7, 2) := by decide +kernel
theorem dX3_owner_53 : decode cX3_owner 53 = .ok (.istore 5, 2) := by decide +kernel
theorem dX3_owner_55 : decode cX3_owner 55 = .ok (.iload 6, 2) := by decide +kernel
theorem dX3_owner_57 : decode cX3_owner 57 = .ok (.istore 4, 2) := by decide +kernel
theorem dX3_owner_59 : decode cX3_owner 59 = .ok (.iinc 6 1, 3) := by decide +kernel
theorem dX3_owner_62 : decode cX3_owner 62 = .ok (.goto (-46), 3) := by decide +kernel
theorem dX3_owner_65 : decode cX3_owner 65 = .ok (.iload 4, 2) := by decide +kernel
theorem dX3_owner_67 : decode cX3_owner 67 = .ok (.ireturn, 1) := by decide +kernel
set_option maxRecDepth 20000 in
theorem ggX3_placeAfterStroke_X3_owner : GoodIn wsX3_placeAfterStroke wsX3_owner := goodIn_r _ [5, 6, 7, 8, 9, 4, 10, 11, 12, 13, 14, 15, 16, 17, 18, 19, 20, 21, 22, 23, 24, 25, 26, 27, 28, 29, 30, 31, 32, 33, 34, 35, 36, 37, 38, 39, 40, 41, 42, 43, 44] (by decide +kernel) (by decide +kernel)
set_option maxRecDepth 20000 in
theorem gX3_placeAfterStroke_X3_owner : GoodIn wsX3_placeAfterStroke (wsV RX3 75 RX3 yX3_owner wsX3_owner) := goodIn_app (goodIn_of _ (by decide +kernel)) ggX3_placeAfterStroke_X3_owner
theorem dX3_placeAfterStroke_0 : decode cX3_placeAfterStroke 0 = .ok (.aload_n 0, 1) := by decide +kernel
theorem dX3_placeAfterStroke_1 : decode cX3_placeAfterStroke 1 = .ok (.iload_n 1, 1) := by decide +kernel
theorem dX3_placeAfterStroke_2 : decode cX3_placeAfterStroke 2 = .ok (.iload_n 2, 1) := by decide +kernel
theorem dX3_placeAfterStroke_3 : decode cX3_placeAfterStroke 3 = .ok (.invokevirtual 75, 3) := by decide +kernel
theorem dX3_placeAfterStroke_6 : decode cX3_placeAfterStroke 6 = .ok (.istore_n 3, 1) := by decide +kernel
theorem dX3_placeAfterStroke_7 : decode cX3_placeAfterStroke 7 = .ok (.iload_n 3, 1) := by decide +kernel
theorem dX3_placeAfterStroke_8 : decode cX3_placeAfterStroke 8 = .ok (.bipush (-9), 2) := by decide +kernel
theorem dX3_placeAfterStroke_10 : decode cX3_placeAfterStroke 10 = .ok (.if_icmp .ne 7, 3) := by decide +kernel
theorem dX3_placeAfterStroke_13 : decode cX3_placeAfterStroke 13 = .ok (.iload_n 2, 1) := by decide +kernel
theorem dX3_placeAfterStroke_14 : decode cX3_placeAfterStroke 14 = .ok (.goto 4, 3) := by decide +kernel
theorem dX3_placeAfterStroke_17 : decode cX3_placeAfterStroke 17 = .ok (.iload_n 3, 1) := by decide +kernel
theorem dX3_placeAfterStroke_18 : decode cX3_placeAfterStroke 18 = .ok (.ireturn, 1) := by decide +kernel
set_option maxRecDepth 20000 in
theorem ggX3_strike_X3_owner : GoodIn wsX3_strike wsX3_owner := goodIn_r _ [8, 9, 10, 11, 12, 7, 13, 14, 15, 16, 17, 18, 19, 20, 21, 22, 23, 24, 25, 26, 27, 28, 29, 30, 31, 32, 33, 34, 35, 36, 37, 38, 39, 40, 41, 42, 43, 44, 45, 46, 47] (by decide +kernel) (by decide +kernel)
set_option maxRecDepth 20000 in
theorem gX3_strike_X3_owner : GoodIn wsX3_strike (wsV RX3 75 RX3 yX3_owner wsX3_owner) := goodIn_app (goodIn_of _ (by decide +kernel)) ggX3_strike_X3_owner
theorem dX3_strike_0 : decode cX3_strike 0 = .ok (.aload_n 0, 1) := by decide +kernel
theorem dX3_strike_1 : decode cX3_strike 1 = .ok (.iload_n 1, 1) := by decide +kernel
theorem dX3_strike_2 : decode cX3_strike 2 = .ok (.aload_n 0, 1) := by decide +kernel
theorem dX3_strike_3 : decode cX3_strike 3 = .ok (.getfield 21, 3) := by decide +kernel
theorem dX3_strike_6 : decode cX3_strike 6 = .ok (.iload_n 1, 1) := by decide +kernel
theorem dX3_strike_7 : decode cX3_strike 7 = .ok (.iaload, 1) := by decide +kernel
theorem dX3_strike_8 : decode cX3_strike 8 = .ok (.invokevirtual 75, 3) := by decide +kernel
theorem dX3_strike_11 : decode cX3_strike 11 = .ok (.istore_n 2, 1) := by decide +kernel
theorem dX3_strike_12 : decode cX3_strike 12 = .ok (.iload_n 2, 1) := by decide +kernel
theorem dX3_strike_13 : decode cX3_strike 13 = .ok (.bipush (-9), 2) := by decide +kernel
theorem dX3_strike_15 : decode cX3_strike 15 = .ok (.if_icmp .ne 16, 3) := by decide +kernel
theorem dX3_strike_18 : decode cX3_strike 18 = .ok (.aload_n 0, 1) := by decide +kernel
theorem dX3_strike_19 : decode cX3_strike 19 = .ok (.dup, 1) := by decide +kernel
theorem dX3_strike_20 : decode cX3_strike 20 = .ok (.getfield 41, 3) := by decide +kernel
theorem dX3_strike_23 : decode cX3_strike 23 = .ok (.iconst 1, 1) := by decide +kernel
theorem dX3_strike_24 : decode cX3_strike 24 = .ok (.iadd, 1) := by decide +kernel
theorem dX3_strike_25 : decode cX3_strike 25 = .ok (.putfield 41, 3) := by decide +kernel
theorem dX3_strike_28 : decode cX3_strike 28 = .ok (.goto 30, 3) := by decide +kernel
theorem dX3_strike_31 : decode cX3_strike 31 = .ok (.iload_n 2, 1) := by decide +kernel
theorem dX3_strike_32 : decode cX3_strike 32 = .ok (.aload_n 0, 1) := by decide +kernel
theorem dX3_strike_33 : decode cX3_strike 33 = .ok (.getfield 21, 3) := by decide +kernel
theorem dX3_strike_36 : decode cX3_strike 36 = .ok (.iload_n 1, 1) := by decide +kernel
theorem dX3_strike_37 : decode cX3_strike 37 = .ok (.iaload, 1) := by decide +kernel
theorem dX3_strike_38 : decode cX3_strike 38 = .ok (.if_icmp .eq 20, 3) := by decide +kernel
theorem dX3_strike_41 : decode cX3_strike 41 = .ok (.aload_n 0, 1) := by decide +kernel
theorem dX3_strike_42 : decode cX3_strike 42 = .ok (.getfield 21, 3) := by decide +kernel
theorem dX3_strike_45 : decode cX3_strike 45 = .ok (.iload_n 1, 1) := by decide +kernel
theorem dX3_strike_46 : decode cX3_strike 46 = .ok (.iload_n 2, 1) := by decide +kernel
theorem dX3_strike_47 : decode cX3_strike 47 = .ok (.iastore, 1) := by decide +kernel
theorem dX3_strike_48 : decode cX3_strike 48 = .ok (.aload_n 0, 1) := by decide +kernel
theorem dX3_strike_49 : decode cX3_strike 49 = .ok (.dup, 1) := by decide +kernel
theorem dX3_strike_50 : decode cX3_strike 50 = .ok (.getfield 38, 3) := by decide +kernel
theorem dX3_strike_53 : decode cX3_strike 53 = .ok (.iconst 1, 1) := by decide +kernel
theorem dX3_strike_54 : decode cX3_strike 54 = .ok (.iadd, 1) := by decide +kernel
theorem dX3_strike_55 : decode cX3_strike 55 = .ok (.putfield 38, 3) := by decide +kernel
theorem dX3_strike_58 : decode cX3_strike 58 = .ok (.iload_n 2, 1) := by decide +kernel
theorem dX3_strike_59 : decode cX3_strike 59 = .ok (.ireturn, 1) := by decide +kernel
set_option maxRecDepth 20000 in
theorem ggX3_passNights_X3_strike : GoodIn wsX3_passNights wsX3_strike := goodIn_r _ [6, 7, 8, 9, 10, 11, 12, 5, 13, 14, 15, 16, 17, 18, 19, 20, 21, 22, 23, 24, 25, 26, 27, 28, 29, 30, 31, 32, 33, 34, 35, 36, 37, 38, 39, 40, 41, 42, 43, 44, 45, 46, 47, 48, 49, 50, 51, 52] (by decide +kernel) (by decide +kernel)
set_option maxRecDepth 20000 in
theorem gX3_passNights_X3_strike : GoodIn wsX3_passNights (wsV RX3 78 RX3 yX3_strike wsX3_strike) := goodIn_app (goodIn_of _ (by decide +kernel)) ggX3_passNights_X3_strike
theorem dX3_passNights_0 : decode cX3_passNights 0 = .ok (.iconst 0, 1) := by decide +kernel
theorem dX3_passNights_1 : decode cX3_passNights 1 = .ok (.istore_n 2, 1) := by decide +kernel
theorem dX3_passNights_2 : decode cX3_passNights 2 = .ok (.iload_n 2, 1) := by decide +kernel
theorem dX3_passNights_3 : decode cX3_passNights 3 = .ok (.iload_n 1, 1) := by decide +kernel
theorem dX3_passNights_4 : decode cX3_passNights 4 = .ok (.if_icmp .ge 31, 3) := by decide +kernel
theorem dX3_passNights_7 : decode cX3_passNights 7 = .ok (.iconst 0, 1) := by decide +kernel
theorem dX3_passNights_8 : decode cX3_passNights 8 = .ok (.istore_n 3, 1) := by decide +kernel
theorem dX3_passNights_9 : decode cX3_passNights 9 = .ok (.iload_n 3, 1) := by decide +kernel
theorem dX3_passNights_10 : decode cX3_passNights 10 = .ok (.aload_n 0, 1) := by decide +kernel
theorem dX3_passNights_11 : decode cX3_passNights 11 = .ok (.getfield 32, 3) := by decide +kernel
theorem dX3_passNights_14 : decode cX3_passNights 14 = .ok (.if_icmp .ge 15, 3) := by decide +kernel
theorem dX3_passNights_17 : decode cX3_passNights 17 = .ok (.aload_n 0, 1) := by decide +kernel
theorem dX3_passNights_18 : decode cX3_passNights 18 = .ok (.iload_n 3, 1) := by decide +kernel
theorem dX3_passNights_19 : decode cX3_passNights 19 = .ok (.invokevirtual 78, 3) := by decide +kernel
theorem dX3_passNights_22 : decode cX3_passNights 22 = .ok (.pop, 1) := by decide +kernel
theorem dX3_passNights_23 : decode cX3_passNights 23 = .ok (.iinc 3 1, 3) := by decide +kernel
theorem dX3_passNights_26 : decode cX3_passNights 26 = .ok (.goto (-17), 3) := by decide +kernel
theorem dX3_passNights_29 : decode cX3_passNights 29 = .ok (.iinc 2 1, 3) := by decide +kernel
theorem dX3_passNights_32 : decode cX3_passNights 32 = .ok (.goto (-30), 3) := by decide +kernel
theorem dX3_passNights_35 : decode cX3_passNights 35 = .ok (.return_, 1) := by decide +kernel
theorem dX3_clocksIn_0 : decode cX3_clocksIn 0 = .ok (.iconst 0, 1) := by decide +kernel
theorem dX3_clocksIn_1 : decode cX3_clocksIn 1 = .ok (.istore_n 2, 1) := by decide +kernel
theorem dX3_clocksIn_2 : decode cX3_clocksIn 2 = .ok (.iconst 0, 1) := by decide +kernel
theorem dX3_clocksIn_3 : decode cX3_clocksIn 3 = .ok (.istore_n 3, 1) := by decide +kernel
theorem dX3_clocksIn_4 : decode cX3_clocksIn 4 = .ok (.iload_n 3, 1) := by decide +kernel
theorem dX3_clocksIn_5 : decode cX3_clocksIn 5 = .ok (.aload_n 0, 1) := by decide +kernel
theorem dX3_clocksIn_6 : decode cX3_clocksIn 6 = .ok (.getfield 32, 3) := by decide +kernel
theorem dX3_clocksIn_9 : decode cX3_clocksIn 9 = .ok (.if_icmp .ge 25, 3) := by decide +kernel
theorem dX3_clocksIn_12 : decode cX3_clocksIn 12 = .ok (.aload_n 0, 1) := by decide +kernel
theorem dX3_clocksIn_13 : decode cX3_clocksIn 13 = .ok (.getfield 21, 3) := by decide +kernel
theorem dX3_clocksIn_16 : decode cX3_clocksIn 16 = .ok (.iload_n 3, 1) := by decide +kernel
theorem dX3_clocksIn_17 : decode cX3_clocksIn 17 = .ok (.iaload, 1) := by decide +kernel
theorem dX3_clocksIn_18 : decode cX3_clocksIn 18 = .ok (.iload_n 1, 1) := by decide +kernel
theorem dX3_clocksIn_19 : decode cX3_clocksIn 19 = .ok (.if_icmp .ne 9, 3) := by decide +kernel
theorem dX3_clocksIn_22 : decode cX3_clocksIn 22 = .ok (.iload_n 2, 1) := by decide +kernel
theorem dX3_clocksIn_23 : decode cX3_clocksIn 23 = .ok (.iconst 1, 1) := by decide +kernel
theorem dX3_clocksIn_24 : decode cX3_clocksIn 24 = .ok (.iload_n 3, 1) := by decide +kernel
theorem dX3_clocksIn_25 : decode cX3_clocksIn 25 = .ok (.ishl, 1) := by decide +kernel
theorem dX3_clocksIn_26 : decode cX3_clocksIn 26 = .ok (.ior, 1) := by decide +kernel
theorem dX3_clocksIn_27 : decode cX3_clocksIn 27 = .ok (.istore_n 2, 1) := by decide +kernel
theorem dX3_clocksIn_28 : decode cX3_clocksIn 28 = .ok (.iinc 3 1, 3) := by decide +kernel
theorem dX3_clocksIn_31 : decode cX3_clocksIn 31 = .ok (.goto (-27), 3) := by decide +kernel
theorem dX3_clocksIn_34 : decode cX3_clocksIn 34 = .ok (.iload_n 2, 1) := by decide +kernel
theorem dX3_clocksIn_35 : decode cX3_clocksIn 35 = .ok (.ireturn, 1) := by decide +kernel
set_option maxRecDepth 20000 in
theorem ggX3_clocksWaking_X3_sound : GoodIn wsX3_clocksWaking wsX3_sound := goodIn_r _ [7, 8, 9, 10, 11, 6, 12, 13, 36, 37, 38, 39, 40, 41, 42, 43, 44, 45] (by decide +kernel) (by decide +kernel)
set_option maxRecDepth 20000 in
theorem gX3_clocksWaking_X3_sound : GoodIn wsX3_clocksWaking (wsV RX3 68 RX3 yX3_sound wsX3_sound) := goodIn_app (goodIn_of _ (by decide +kernel)) ggX3_clocksWaking_X3_sound
set_option maxRecDepth 20000 in
theorem ggX3_clocksWaking_X3_wakes : GoodIn wsX3_clocksWaking wsX3_wakes := goodIn_r _ [17, 18, 19, 20, 6, 21, 22, 23, 24, 25, 26, 27, 28, 29, 30, 31, 32, 33, 34, 35, 36, 37, 38, 39, 40, 41, 42, 43, 44, 45] (by decide +kernel) (by decide +kernel)
set_option maxRecDepth 20000 in
theorem gX3_clocksWaking_X3_wakes : GoodIn wsX3_clocksWaking (wsV RX3 71 RX3 yX3_wakes wsX3_wakes) := goodIn_app (goodIn_of _ (by decide +kernel)) ggX3_clocksWaking_X3_wakes
theorem dX3_clocksWaking_0 : decode cX3_clocksWaking 0 = .ok (.iconst 0, 1) := by decide +kernel
theorem dX3_clocksWaking_1 : decode cX3_clocksWaking 1 = .ok (.istore_n 2, 1) := by decide +kernel
theorem dX3_clocksWaking_2 : decode cX3_clocksWaking 2 = .ok (.iconst 0, 1) := by decide +kernel
theorem dX3_clocksWaking_3 : decode cX3_clocksWaking 3 = .ok (.istore_n 3, 1) := by decide +kernel
theorem dX3_clocksWaking_4 : decode cX3_clocksWaking 4 = .ok (.iload_n 3, 1) := by decide +kernel
theorem dX3_clocksWaking_5 : decode cX3_clocksWaking 5 = .ok (.aload_n 0, 1) := by decide +kernel
theorem dX3_clocksWaking_6 : decode cX3_clocksWaking 6 = .ok (.getfield 32, 3) := by decide +kernel
theorem dX3_clocksWaking_9 : decode cX3_clocksWaking 9 = .ok (.if_icmp .ge 34, 3) := by decide +kernel
theorem dX3_clocksWaking_12 : decode cX3_clocksWaking 12 = .ok (.aload_n 0, 1) := by decide +kernel
theorem dX3_clocksWaking_13 : decode cX3_clocksWaking 13 = .ok (.iload_n 1, 1) := by decide +kernel
theorem dX3_clocksWaking_14 : decode cX3_clocksWaking 14 = .ok (.aload_n 0, 1) := by decide +kernel
theorem dX3_clocksWaking_15 : decode cX3_clocksWaking 15 = .ok (.iload_n 3, 1) := by decide +kernel
theorem dX3_clocksWaking_16 : decode cX3_clocksWaking 16 = .ok (.invokevirtual 68, 3) := by decide +kernel
theorem dX3_clocksWaking_19 : decode cX3_clocksWaking 19 = .ok (.aload_n 0, 1) := by decide +kernel
theorem dX3_clocksWaking_20 : decode cX3_clocksWaking 20 = .ok (.getfield 21, 3) := by decide +kernel
theorem dX3_clocksWaking_23 : decode cX3_clocksWaking 23 = .ok (.iload_n 3, 1) := by decide +kernel
theorem dX3_clocksWaking_24 : decode cX3_clocksWaking 24 = .ok (.iaload, 1) := by decide +kernel
theorem dX3_clocksWaking_25 : decode cX3_clocksWaking 25 = .ok (.invokevirtual 71, 3) := by decide +kernel
theorem dX3_clocksWaking_28 : decode cX3_clocksWaking 28 = .ok (.ifCond .eq 9, 3) := by decide +kernel
theorem dX3_clocksWaking_31 : decode cX3_clocksWaking 31 = .ok (.iload_n 2, 1) := by decide +kernel
theorem dX3_clocksWaking_32 : decode cX3_clocksWaking 32 = .ok (.iconst 1, 1) := by decide +kernel
theorem dX3_clocksWaking_33 : decode cX3_clocksWaking 33 = .ok (.iload_n 3, 1) := by decide +kernel
theorem dX3_clocksWaking_34 : decode cX3_clocksWaking 34 = .ok (.ishl, 1) := by decide +kernel
theorem dX3_clocksWaking_35 : decode cX3_clocksWaking 35 = .ok (.ior, 1) := by decide +kernel
theorem dX3_clocksWaking_36 : decode cX3_clocksWaking 36 = .ok (.istore_n 2, 1) := by decide +kernel
theorem dX3_clocksWaking_37 : decode cX3_clocksWaking 37 = .ok (.iinc 3 1, 3) := by decide +kernel
theorem dX3_clocksWaking_40 : decode cX3_clocksWaking 40 = .ok (.goto (-36), 3) := by decide +kernel
theorem dX3_clocksWaking_43 : decode cX3_clocksWaking 43 = .ok (.iload_n 2, 1) := by decide +kernel
theorem dX3_clocksWaking_44 : decode cX3_clocksWaking 44 = .ok (.ireturn, 1) := by decide +kernel
theorem dX3_stuffedClocks_0 : decode cX3_stuffedClocks 0 = .ok (.iconst 0, 1) := by decide +kernel
theorem dX3_stuffedClocks_1 : decode cX3_stuffedClocks 1 = .ok (.istore_n 1, 1) := by decide +kernel
theorem dX3_stuffedClocks_2 : decode cX3_stuffedClocks 2 = .ok (.iconst 0, 1) := by decide +kernel
theorem dX3_stuffedClocks_3 : decode cX3_stuffedClocks 3 = .ok (.istore_n 2, 1) := by decide +kernel
theorem dX3_stuffedClocks_4 : decode cX3_stuffedClocks 4 = .ok (.iload_n 2, 1) := by decide +kernel
theorem dX3_stuffedClocks_5 : decode cX3_stuffedClocks 5 = .ok (.aload_n 0, 1) := by decide +kernel
theorem dX3_stuffedClocks_6 : decode cX3_stuffedClocks 6 = .ok (.getfield 32, 3) := by decide +kernel
theorem dX3_stuffedClocks_9 : decode cX3_stuffedClocks 9 = .ok (.if_icmp .ge 24, 3) := by decide +kernel
theorem dX3_stuffedClocks_12 : decode cX3_stuffedClocks 12 = .ok (.aload_n 0, 1) := by decide +kernel
theorem dX3_stuffedClocks_13 : decode cX3_stuffedClocks 13 = .ok (.getfield 24, 3) := by decide +kernel
theorem dX3_stuffedClocks_16 : decode cX3_stuffedClocks 16 = .ok (.iload_n 2, 1) := by decide +kernel
theorem dX3_stuffedClocks_17 : decode cX3_stuffedClocks 17 = .ok (.baload, 1) := by decide +kernel
theorem dX3_stuffedClocks_18 : decode cX3_stuffedClocks 18 = .ok (.ifCond .eq 9, 3) := by decide +kernel
theorem dX3_stuffedClocks_21 : decode cX3_stuffedClocks 21 = .ok (.iload_n 1, 1) := by decide +kernel
theorem dX3_stuffedClocks_22 : decode cX3_stuffedClocks 22 = .ok (.iconst 1, 1) := by decide +kernel
theorem dX3_stuffedClocks_23 : decode cX3_stuffedClocks 23 = .ok (.iload_n 2, 1) := by decide +kernel
theorem dX3_stuffedClocks_24 : decode cX3_stuffedClocks 24 = .ok (.ishl, 1) := by decide +kernel
theorem dX3_stuffedClocks_25 : decode cX3_stuffedClocks 25 = .ok (.ior, 1) := by decide +kernel
theorem dX3_stuffedClocks_26 : decode cX3_stuffedClocks 26 = .ok (.istore_n 1, 1) := by decide +kernel
theorem dX3_stuffedClocks_27 : decode cX3_stuffedClocks 27 = .ok (.iinc 2 1, 3) := by decide +kernel
theorem dX3_stuffedClocks_30 : decode cX3_stuffedClocks 30 = .ok (.goto (-26), 3) := by decide +kernel
theorem dX3_stuffedClocks_33 : decode cX3_stuffedClocks 33 = .ok (.iload_n 1, 1) := by decide +kernel
theorem dX3_stuffedClocks_34 : decode cX3_stuffedClocks 34 = .ok (.ireturn, 1) := by decide +kernel
theorem dX3_housesWithClocks_0 : decode cX3_housesWithClocks 0 = .ok (.iconst 0, 1) := by decide +kernel
theorem dX3_housesWithClocks_1 : decode cX3_housesWithClocks 1 = .ok (.istore_n 1, 1) := by decide +kernel
theorem dX3_housesWithClocks_2 : decode cX3_housesWithClocks 2 = .ok (.iconst 0, 1) := by decide +kernel
theorem dX3_housesWithClocks_3 : decode cX3_housesWithClocks 3 = .ok (.istore_n 2, 1) := by decide +kernel
theorem dX3_housesWithClocks_4 : decode cX3_housesWithClocks 4 = .ok (.iload_n 2, 1) := by decide +kernel
theorem dX3_housesWithClocks_5 : decode cX3_housesWithClocks 5 = .ok (.aload_n 0, 1) := by decide +kernel
theorem dX3_housesWithClocks_6 : decode cX3_housesWithClocks 6 = .ok (.getfield 32, 3) := by decide +kernel
theorem dX3_housesWithClocks_9 : decode cX3_housesWithClocks 9 = .ok (.if_icmp .ge 20, 3) := by decide +kernel
theorem dX3_housesWithClocks_12 : decode cX3_housesWithClocks 12 = .ok (.iload_n 1, 1) := by decide +kernel
theorem dX3_housesWithClocks_13 : decode cX3_housesWithClocks 13 = .ok (.iconst 1, 1) := by decide +kernel
theorem dX3_housesWithClocks_14 : decode cX3_housesWithClocks 14 = .ok (.aload_n 0, 1) := by decide +kernel
theorem dX3_housesWithClocks_15 : decode cX3_housesWithClocks 15 = .ok (.getfield 21, 3) := by decide +kernel
theorem dX3_housesWithClocks_18 : decode cX3_housesWithClocks 18 = .ok (.iload_n 2, 1) := by decide +kernel
theorem dX3_housesWithClocks_19 : decode cX3_housesWithClocks 19 = .ok (.iaload, 1) := by decide +kernel
theorem dX3_housesWithClocks_20 : decode cX3_housesWithClocks 20 = .ok (.ishl, 1) := by decide +kernel
theorem dX3_housesWithClocks_21 : decode cX3_housesWithClocks 21 = .ok (.ior, 1) := by decide +kernel
theorem dX3_housesWithClocks_22 : decode cX3_housesWithClocks 22 = .ok (.istore_n 1, 1) := by decide +kernel
theorem dX3_housesWithClocks_23 : decode cX3_housesWithClocks 23 = .ok (.iinc 2 1, 3) := by decide +kernel
theorem dX3_housesWithClocks_26 : decode cX3_housesWithClocks 26 = .ok (.goto (-22), 3) := by decide +kernel
theorem dX3_housesWithClocks_29 : decode cX3_housesWithClocks 29 = .ok (.iload_n 1, 1) := by decide +kernel
theorem dX3_housesWithClocks_30 : decode cX3_housesWithClocks 30 = .ok (.ireturn, 1) := by decide +kernel
theorem dX4_init_0 : decode cX4_init 0 = .ok (.aload_n 0, 1) := by decide +kernel
theorem dX4_init_1 : decode cX4_init 1 = .ok (.invokespecial 3, 3) := by decide +kernel
theorem dX4_init_4 : decode cX4_init 4 = .ok (.aload_n 0, 1) := by decide +kernel
theorem dX4_init_5 : decode cX4_init 5 = .ok (.bipush 60, 2) := by decide +kernel
theorem dX4_init_7 : decode cX4_init 7 = .ok (.newarray .int, 2) := by decide +kernel
theorem dX4_init_9 : decode cX4_init 9 = .ok (.putfield 9, 3) := by decide +kernel
theorem dX4_init_12 : decode cX4_init 12 = .ok (.return_, 1) := by decide +kernel
set_option maxRecDepth 20000 in
theorem ggX4_read_X3_clear : GoodIn wsX4_read wsX3_clear := goodIn_r _ [13, 14, 15, 16, 17, 18, 67, 68, 69, 70, 71, 72, 73, 74, 75, 76] (by decide +kernel) (by decide +kernel)
set_option maxRecDepth 20000 in
theorem gX4_read_X3_clear : GoodIn wsX4_read (wsV RX4 33 RX3 yX3_clear wsX3_clear) := goodIn_app (goodIn_of _ (by decide +kernel)) ggX4_read_X3_clear
set_option maxRecDepth 20000 in
theorem ggX4_read_X4_readWall : GoodIn wsX4_read wsX4_readWall := goodIn_r _ [23, 24, 25, 26, 27, 22, 28, 8, 7, 2, 29, 30, 31, 32, 67, 68, 69, 70, 71, 72, 73, 74, 75, 76, 64, 65, 66] (by decide +kernel) (by decide +kernel)
set_option maxRecDepth 20000 in
theorem gX4_read_X4_readWall : GoodIn wsX4_read (wsV RX4 38 RX4 yX4_readWall wsX4_readWall) := goodIn_app (goodIn_of _ (by decide +kernel)) ggX4_read_X4_readWall
set_option maxRecDepth 20000 in
theorem ggX4_read_X4_readHouses : GoodIn wsX4_read wsX4_readHouses := goodIn_r _ [36, 37, 25, 26, 27, 22, 28, 8, 7, 2, 38, 39, 40, 41, 29, 30, 31, 32, 42, 43, 44, 12, 45, 46, 14, 47, 67, 68, 69, 70, 71, 72, 73, 74, 75, 76, 64, 65, 66] (by decide +kernel) (by decide +kernel)
set_option maxRecDepth 20000 in
theorem gX4_read_X4_readHouses : GoodIn wsX4_read (wsV RX4 42 RX4 yX4_readHouses wsX4_readHouses) := goodIn_app (goodIn_of _ (by decide +kernel)) ggX4_read_X4_readHouses
set_option maxRecDepth 20000 in
theorem ggX4_read_X4_readClocks : GoodIn wsX4_read wsX4_readClocks := goodIn_r _ [51, 37, 52, 25, 26, 27, 22, 28, 8, 7, 2, 29, 30, 31, 32, 53, 54, 55, 12, 56, 57, 15, 58, 59, 67, 68, 69, 70, 71, 72, 73, 74, 75, 76, 64, 65, 66] (by decide +kernel) (by decide +kernel)
set_option maxRecDepth 20000 in
theorem gX4_read_X4_readClocks : GoodIn wsX4_read (wsV RX4 45 RX4 yX4_readClocks wsX4_readClocks) := goodIn_app (goodIn_of _ (by decide +kernel)) ggX4_read_X4_readClocks
theorem dX4_read_0 : decode cX4_read 0 = .ok (.aload_n 1, 1) := by decide +kernel
theorem dX4_read_1 : decode cX4_read 1 = .ok (.getfield 15, 3) := by decide +kernel
theorem dX4_read_4 : decode cX4_read 4 = .ok (.iload_n 2, 1) := by decide +kernel
theorem dX4_read_5 : decode cX4_read 5 = .ok (.aload_n 0, 1) := by decide +kernel
theorem dX4_read_6 : decode cX4_read 6 = .ok (.getfield 9, 3) := by decide +kernel
theorem dX4_read_9 : decode cX4_read 9 = .ok (.iconst 0, 1) := by decide +kernel
theorem dX4_read_10 : decode cX4_read 10 = .ok (.iload_n 3, 1) := by decide +kernel
theorem dX4_read_11 : decode cX4_read 11 = .ok (.invokestatic 20, 3) := by decide +kernel
theorem dX4_read_14 : decode cX4_read 14 = .ok (.aload_n 0, 1) := by decide +kernel
theorem dX4_read_15 : decode cX4_read 15 = .ok (.iload_n 3, 1) := by decide +kernel
theorem dX4_read_16 : decode cX4_read 16 = .ok (.putfield 26, 3) := by decide +kernel
theorem dX4_read_19 : decode cX4_read 19 = .ok (.aload_n 0, 1) := by decide +kernel
theorem dX4_read_20 : decode cX4_read 20 = .ok (.iconst 0, 1) := by decide +kernel
theorem dX4_read_21 : decode cX4_read 21 = .ok (.putfield 30, 3) := by decide +kernel
theorem dX4_read_24 : decode cX4_read 24 = .ok (.aload 4, 2) := by decide +kernel
theorem dX4_read_26 : decode cX4_read 26 = .ok (.invokevirtual 33, 3) := by decide +kernel
theorem dX4_read_29 : decode cX4_read 29 = .ok (.aload_n 0, 1) := by decide +kernel
theorem dX4_read_30 : decode cX4_read 30 = .ok (.aload 4, 2) := by decide +kernel
theorem dX4_read_32 : decode cX4_read 32 = .ok (.invokevirtual 38, 3) := by decide +kernel
theorem dX4_read_35 : decode cX4_read 35 = .ok (.ifCond .eq 36, 3) := by decide +kernel
theorem dX4_read_38 : decode cX4_read 38 = .ok (.aload_n 0, 1) := by decide +kernel
theorem dX4_read_39 : decode cX4_read 39 = .ok (.aload 4, 2) := by decide +kernel
theorem dX4_read_41 : decode cX4_read 41 = .ok (.invokevirtual 42, 3) := by decide +kernel
theorem dX4_read_44 : decode cX4_read 44 = .ok (.ifCond .eq 27, 3) := by decide +kernel
theorem dX4_read_47 : decode cX4_read 47 = .ok (.aload_n 0, 1) := by decide +kernel
theorem dX4_read_48 : decode cX4_read 48 = .ok (.aload 4, 2) := by decide +kernel
theorem dX4_read_50 : decode cX4_read 50 = .ok (.invokevirtual 45, 3) := by decide +kernel
theorem dX4_read_53 : decode cX4_read 53 = .ok (.ifCond .eq 18, 3) := by decide +kernel
theorem dX4_read_56 : decode cX4_read 56 = .ok (.aload_n 0, 1) := by decide +kernel
theorem dX4_read_57 : decode cX4_read 57 = .ok (.getfield 30, 3) := by decide +kernel
theorem dX4_read_60 : decode cX4_read 60 = .ok (.aload_n 0, 1) := by decide +kernel
theorem dX4_read_61 : decode cX4_read 61 = .ok (.getfield 26, 3) := by decide +kernel
theorem dX4_read_64 : decode cX4_read 64 = .ok (.if_icmp .ne 7, 3) := by decide +kernel
theorem dX4_read_67 : decode cX4_read 67 = .ok (.iconst 1, 1) := by decide +kernel
theorem dX4_read_68 : decode cX4_read 68 = .ok (.goto 4, 3) := by decide +kernel
theorem dX4_read_71 : decode cX4_read 71 = .ok (.iconst 0, 1) := by decide +kernel
theorem dX4_read_72 : decode cX4_read 72 = .ok (.istore 5, 2) := by decide +kernel
theorem dX4_read_74 : decode cX4_read 74 = .ok (.iload 5, 2) := by decide +kernel
theorem dX4_read_76 : decode cX4_read 76 = .ok (.ifCond .eq 8, 3) := by decide +kernel
theorem dX4_read_79 : decode cX4_read 79 = .ok (.bipush (-9), 2) := by decide +kernel
theorem dX4_read_81 : decode cX4_read 81 = .ok (.goto 7, 3) := by decide +kernel
theorem dX4_read_84 : decode cX4_read 84 = .ok (.aload_n 0, 1) := by decide +kernel
theorem dX4_read_85 : decode cX4_read 85 = .ok (.getfield 30, 3) := by decide +kernel
theorem dX4_read_88 : decode cX4_read 88 = .ok (.ireturn, 1) := by decide +kernel
set_option maxRecDepth 20000 in
theorem ggX4_readWall_X4_takeSign : GoodIn wsX4_readWall wsX4_takeSign := goodIn_r _ [6, 7, 8, 9, 24, 25, 26] (by decide +kernel) (by decide +kernel)
set_option maxRecDepth 20000 in
theorem gX4_readWall_X4_takeSign : GoodIn wsX4_readWall (wsV RX4 48 RX4 yX4_takeSign wsX4_takeSign) := goodIn_app (goodIn_of _ (by decide +kernel)) ggX4_readWall_X4_takeSign
set_option maxRecDepth 20000 in
theorem ggX4_readWall_X4_takeDigit : GoodIn wsX4_readWall wsX4_takeDigit := goodIn_r _ [13, 7, 8, 9, 24, 25, 26] (by decide +kernel) (by decide +kernel)
set_option maxRecDepth 20000 in
theorem gX4_readWall_X4_takeDigit : GoodIn wsX4_readWall (wsV RX4 52 RX4 yX4_takeDigit wsX4_takeDigit) := goodIn_app (goodIn_of _ (by decide +kernel)) ggX4_readWall_X4_takeDigit
theorem dX4_readWall_0 : decode cX4_readWall 0 = .ok (.aload_n 0, 1) := by decide +kernel
theorem dX4_readWall_1 : decode cX4_readWall 1 = .ok (.bipush 99, 2) := by decide +kernel
theorem dX4_readWall_3 : decode cX4_readWall 3 = .ok (.invokevirtual 48, 3) := by decide +kernel
theorem dX4_readWall_6 : decode cX4_readWall 6 = .ok (.ifCond .ne 5, 3) := by decide +kernel
theorem dX4_readWall_9 : decode cX4_readWall 9 = .ok (.iconst 0, 1) := by decide +kernel
theorem dX4_readWall_10 : decode cX4_readWall 10 = .ok (.ireturn, 1) := by decide +kernel
theorem dX4_readWall_11 : decode cX4_readWall 11 = .ok (.aload_n 1, 1) := by decide +kernel
theorem dX4_readWall_12 : decode cX4_readWall 12 = .ok (.aload_n 0, 1) := by decide +kernel
theorem dX4_readWall_13 : decode cX4_readWall 13 = .ok (.iconst 0, 1) := by decide +kernel
theorem dX4_readWall_14 : decode cX4_readWall 14 = .ok (.iconst 3, 1) := by decide +kernel
theorem dX4_readWall_15 : decode cX4_readWall 15 = .ok (.invokevirtual 52, 3) := by decide +kernel
theorem dX4_readWall_18 : decode cX4_readWall 18 = .ok (.putfield 56, 3) := by decide +kernel
theorem dX4_readWall_21 : decode cX4_readWall 21 = .ok (.aload_n 1, 1) := by decide +kernel
theorem dX4_readWall_22 : decode cX4_readWall 22 = .ok (.getfield 56, 3) := by decide +kernel
theorem dX4_readWall_25 : decode cX4_readWall 25 = .ok (.iconst (-1), 1) := by decide +kernel
theorem dX4_readWall_26 : decode cX4_readWall 26 = .ok (.if_icmp .eq 7, 3) := by decide +kernel
theorem dX4_readWall_29 : decode cX4_readWall 29 = .ok (.iconst 1, 1) := by decide +kernel
theorem dX4_readWall_30 : decode cX4_readWall 30 = .ok (.goto 4, 3) := by decide +kernel
theorem dX4_readWall_33 : decode cX4_readWall 33 = .ok (.iconst 0, 1) := by decide +kernel
theorem dX4_readWall_34 : decode cX4_readWall 34 = .ok (.ireturn, 1) := by decide +kernel
set_option maxRecDepth 20000 in
theorem ggX4_readHouses_X4_takeSign : GoodIn wsX4_readHouses wsX4_takeSign := goodIn_r _ [6, 7, 8, 9, 36, 37, 38] (by decide +kernel) (by decide +kernel)
set_option maxRecDepth 20000 in
theorem gX4_readHouses_X4_takeSign : GoodIn wsX4_readHouses (wsV RX4 48 RX4 yX4_takeSign wsX4_takeSign) := goodIn_app (goodIn_of _ (by decide +kernel)) ggX4_readHouses_X4_takeSign
set_option maxRecDepth 20000 in
theorem ggX4_readHouses_X4_takeKind : GoodIn wsX4_readHouses wsX4_takeKind := goodIn_r _ [13, 2, 3, 4, 5, 6, 7, 8, 9, 36, 37, 38] (by decide +kernel) (by decide +kernel)
set_option maxRecDepth 20000 in
theorem gX4_readHouses_X4_takeKind : GoodIn wsX4_readHouses (wsV RX4 59 RX4 yX4_takeKind wsX4_takeKind) := goodIn_app (goodIn_of _ (by decide +kernel)) ggX4_readHouses_X4_takeKind
set_option maxRecDepth 20000 in
theorem ggX4_readHouses_X4_takeDigit : GoodIn wsX4_readHouses wsX4_takeDigit := goodIn_r _ [17, 7, 8, 9, 36, 37, 38] (by decide +kernel) (by decide +kernel)
set_option maxRecDepth 20000 in
theorem gX4_readHouses_X4_takeDigit : GoodIn wsX4_readHouses (wsV RX4 52 RX4 yX4_takeDigit wsX4_takeDigit) := goodIn_app (goodIn_of _ (by decide +kernel)) ggX4_readHouses_X4_takeDigit
set_option maxRecDepth 20000 in
theorem ggX4_readHouses_X3_addHouse : GoodIn wsX4_readHouses wsX3_addHouse := goodIn_r _ [22, 23, 24, 25, 26, 27, 28, 29, 30, 31, 32, 33, 34, 35] (by decide +kernel) (by decide +kernel)
set_option maxRecDepth 20000 in
theorem gX4_readHouses_X3_addHouse : GoodIn wsX4_readHouses (wsV RX4 63 RX3 yX3_addHouse wsX3_addHouse) := goodIn_app (goodIn_of _ (by decide +kernel)) ggX4_readHouses_X3_addHouse
theorem dX4_readHouses_0 : decode cX4_readHouses 0 = .ok (.iconst 0, 1) := by decide +kernel
theorem dX4_readHouses_1 : decode cX4_readHouses 1 = .ok (.istore_n 2, 1) := by decide +kernel
theorem dX4_readHouses_2 : decode cX4_readHouses 2 = .ok (.iload_n 2, 1) := by decide +kernel
theorem dX4_readHouses_3 : decode cX4_readHouses 3 = .ok (.bipush 6, 2) := by decide +kernel
theorem dX4_readHouses_5 : decode cX4_readHouses 5 = .ok (.if_icmp .ge 55, 3) := by decide +kernel
theorem dX4_readHouses_8 : decode cX4_readHouses 8 = .ok (.aload_n 0, 1) := by decide +kernel
theorem dX4_readHouses_9 : decode cX4_readHouses 9 = .ok (.bipush 59, 2) := by decide +kernel
theorem dX4_readHouses_11 : decode cX4_readHouses 11 = .ok (.invokevirtual 48, 3) := by decide +kernel
theorem dX4_readHouses_14 : decode cX4_readHouses 14 = .ok (.ifCond .eq 46, 3) := by decide +kernel
theorem dX4_readHouses_17 : decode cX4_readHouses 17 = .ok (.aload_n 0, 1) := by decide +kernel
theorem dX4_readHouses_18 : decode cX4_readHouses 18 = .ok (.invokevirtual 59, 3) := by decide +kernel
theorem dX4_readHouses_21 : decode cX4_readHouses 21 = .ok (.istore_n 3, 1) := by decide +kernel
theorem dX4_readHouses_22 : decode cX4_readHouses 22 = .ok (.iload_n 3, 1) := by decide +kernel
theorem dX4_readHouses_23 : decode cX4_readHouses 23 = .ok (.bipush (-9), 2) := by decide +kernel
theorem dX4_readHouses_25 : decode cX4_readHouses 25 = .ok (.if_icmp .ne 5, 3) := by decide +kernel
theorem dX4_readHouses_28 : decode cX4_readHouses 28 = .ok (.iconst 0, 1) := by decide +kernel
theorem dX4_readHouses_29 : decode cX4_readHouses 29 = .ok (.ireturn, 1) := by decide +kernel
theorem dX4_readHouses_30 : decode cX4_readHouses 30 = .ok (.aload_n 0, 1) := by decide +kernel
theorem dX4_readHouses_31 : decode cX4_readHouses 31 = .ok (.iconst 1, 1) := by decide +kernel
theorem dX4_readHouses_32 : decode cX4_readHouses 32 = .ok (.bipush 9, 2) := by decide +kernel
theorem dX4_readHouses_34 : decode cX4_readHouses 34 = .ok (.invokevirtual 52, 3) := by decide +kernel
theorem dX4_readHouses_37 : decode cX4_readHouses 37 = .ok (.istore 4, 2) := by decide +kernel
theorem dX4_readHouses_39 : decode cX4_readHouses 39 = .ok (.iload 4, 2) := by decide +kernel
theorem dX4_readHouses_41 : decode cX4_readHouses 41 = .ok (.iconst (-1), 1) := by decide +kernel
theorem dX4_readHouses_42 : decode cX4_readHouses 42 = .ok (.if_icmp .ne 5, 3) := by decide +kernel
theorem dX4_readHouses_45 : decode cX4_readHouses 45 = .ok (.iconst 0, 1) := by decide +kernel
theorem dX4_readHouses_46 : decode cX4_readHouses 46 = .ok (.ireturn, 1) := by decide +kernel
theorem dX4_readHouses_47 : decode cX4_readHouses 47 = .ok (.aload_n 1, 1) := by decide +kernel
theorem dX4_readHouses_48 : decode cX4_readHouses 48 = .ok (.iload_n 3, 1) := by decide +kernel
theorem dX4_readHouses_49 : decode cX4_readHouses 49 = .ok (.iload 4, 2) := by decide +kernel
theorem dX4_readHouses_51 : decode cX4_readHouses 51 = .ok (.invokevirtual 63, 3) := by decide +kernel
theorem dX4_readHouses_54 : decode cX4_readHouses 54 = .ok (.iinc 2 1, 3) := by decide +kernel
theorem dX4_readHouses_57 : decode cX4_readHouses 57 = .ok (.goto (-55), 3) := by decide +kernel
theorem dX4_readHouses_60 : decode cX4_readHouses 60 = .ok (.aload_n 1, 1) := by decide +kernel
theorem dX4_readHouses_61 : decode cX4_readHouses 61 = .ok (.getfield 67, 3) := by decide +kernel
theorem dX4_readHouses_64 : decode cX4_readHouses 64 = .ok (.iconst 2, 1) := by decide +kernel
theorem dX4_readHouses_65 : decode cX4_readHouses 65 = .ok (.if_icmp .lt 7, 3) := by decide +kernel
theorem dX4_readHouses_68 : decode cX4_readHouses 68 = .ok (.iconst 1, 1) := by decide +kernel
theorem dX4_readHouses_69 : decode cX4_readHouses 69 = .ok (.goto 4, 3) := by decide +kernel
theorem dX4_readHouses_72 : decode cX4_readHouses 72 = .ok (.iconst 0, 1) := by decide +kernel
theorem dX4_readHouses_73 : decode cX4_readHouses 73 = .ok (.ireturn, 1) := by decide +kernel
set_option maxRecDepth 20000 in
theorem ggX4_readClocks_X4_takeSign : GoodIn wsX4_readClocks wsX4_takeSign := goodIn_r _ [7, 8, 9, 10, 34, 35, 36] (by decide +kernel) (by decide +kernel)
set_option maxRecDepth 20000 in
theorem gX4_readClocks_X4_takeSign : GoodIn wsX4_readClocks (wsV RX4 48 RX4 yX4_takeSign wsX4_takeSign) := goodIn_app (goodIn_of _ (by decide +kernel)) ggX4_readClocks_X4_takeSign
set_option maxRecDepth 20000 in
theorem ggX4_readClocks_X4_takeDigit : GoodIn wsX4_readClocks wsX4_takeDigit := goodIn_r _ [14, 8, 9, 10, 34, 35, 36] (by decide +kernel) (by decide +kernel)
set_option maxRecDepth 20000 in
theorem gX4_readClocks_X4_takeDigit : GoodIn wsX4_readClocks (wsV RX4 52 RX4 yX4_takeDigit wsX4_takeDigit) := goodIn_app (goodIn_of _ (by decide +kernel)) ggX4_readClocks_X4_takeDigit
set_option maxRecDepth 20000 in
theorem ggX4_readClocks_X3_addClock : GoodIn wsX4_readClocks wsX3_addClock := goodIn_r _ [19, 20, 21, 22, 23, 24, 25, 26, 27, 28, 29, 30, 31, 32, 33] (by decide +kernel) (by decide +kernel)
set_option maxRecDepth 20000 in
theorem gX4_readClocks_X3_addClock : GoodIn wsX4_readClocks (wsV RX4 70 RX3 yX3_addClock wsX3_addClock) := goodIn_app (goodIn_of _ (by decide +kernel)) ggX4_readClocks_X3_addClock
theorem dX4_readClocks_0 : decode cX4_readClocks 0 = .ok (.iconst 0, 1) := by decide +kernel
theorem dX4_readClocks_1 : decode cX4_readClocks 1 = .ok (.istore_n 2, 1) := by decide +kernel
theorem dX4_readClocks_2 : decode cX4_readClocks 2 = .ok (.iload_n 2, 1) := by decide +kernel
theorem dX4_readClocks_3 : decode cX4_readClocks 3 = .ok (.iconst 4, 1) := by decide +kernel
theorem dX4_readClocks_4 : decode cX4_readClocks 4 = .ok (.if_icmp .ge 61, 3) := by decide +kernel
theorem dX4_readClocks_7 : decode cX4_readClocks 7 = .ok (.aload_n 0, 1) := by decide +kernel
theorem dX4_readClocks_8 : decode cX4_readClocks 8 = .ok (.bipush 44, 2) := by decide +kernel
theorem dX4_readClocks_10 : decode cX4_readClocks 10 = .ok (.invokevirtual 48, 3) := by decide +kernel
theorem dX4_readClocks_13 : decode cX4_readClocks 13 = .ok (.ifCond .eq 52, 3) := by decide +kernel
theorem dX4_readClocks_16 : decode cX4_readClocks 16 = .ok (.aload_n 0, 1) := by decide +kernel
theorem dX4_readClocks_17 : decode cX4_readClocks 17 = .ok (.iconst 1, 1) := by decide +kernel
theorem dX4_readClocks_18 : decode cX4_readClocks 18 = .ok (.bipush 9, 2) := by decide +kernel
theorem dX4_readClocks_20 : decode cX4_readClocks 20 = .ok (.invokevirtual 52, 3) := by decide +kernel
theorem dX4_readClocks_23 : decode cX4_readClocks 23 = .ok (.istore_n 3, 1) := by decide +kernel
theorem dX4_readClocks_24 : decode cX4_readClocks 24 = .ok (.iload_n 3, 1) := by decide +kernel
theorem dX4_readClocks_25 : decode cX4_readClocks 25 = .ok (.iconst (-1), 1) := by decide +kernel
theorem dX4_readClocks_26 : decode cX4_readClocks 26 = .ok (.if_icmp .ne 5, 3) := by decide +kernel
theorem dX4_readClocks_29 : decode cX4_readClocks 29 = .ok (.iconst 0, 1) := by decide +kernel
theorem dX4_readClocks_30 : decode cX4_readClocks 30 = .ok (.ireturn, 1) := by decide +kernel
theorem dX4_readClocks_31 : decode cX4_readClocks 31 = .ok (.aload_n 0, 1) := by decide +kernel
theorem dX4_readClocks_32 : decode cX4_readClocks 32 = .ok (.iconst 0, 1) := by decide +kernel
theorem dX4_readClocks_33 : decode cX4_readClocks 33 = .ok (.aload_n 1, 1) := by decide +kernel
theorem dX4_readClocks_34 : decode cX4_readClocks 34 = .ok (.getfield 67, 3) := by decide +kernel
theorem dX4_readClocks_37 : decode cX4_readClocks 37 = .ok (.iconst 1, 1) := by decide +kernel
theorem dX4_readClocks_38 : decode cX4_readClocks 38 = .ok (.isub, 1) := by decide +kernel
theorem dX4_readClocks_39 : decode cX4_readClocks 39 = .ok (.invokevirtual 52, 3) := by decide +kernel
theorem dX4_readClocks_42 : decode cX4_readClocks 42 = .ok (.istore 4, 2) := by decide +kernel
theorem dX4_readClocks_44 : decode cX4_readClocks 44 = .ok (.iload 4, 2) := by decide +kernel
theorem dX4_readClocks_46 : decode cX4_readClocks 46 = .ok (.iconst (-1), 1) := by decide +kernel
theorem dX4_readClocks_47 : decode cX4_readClocks 47 = .ok (.if_icmp .ne 5, 3) := by decide +kernel
theorem dX4_readClocks_50 : decode cX4_readClocks 50 = .ok (.iconst 0, 1) := by decide +kernel
theorem dX4_readClocks_51 : decode cX4_readClocks 51 = .ok (.ireturn, 1) := by decide +kernel
theorem dX4_readClocks_52 : decode cX4_readClocks 52 = .ok (.aload_n 1, 1) := by decide +kernel
theorem dX4_readClocks_53 : decode cX4_readClocks 53 = .ok (.iload_n 3, 1) := by decide +kernel
theorem dX4_readClocks_54 : decode cX4_readClocks 54 = .ok (.iload 4, 2) := by decide +kernel
theorem dX4_readClocks_56 : decode cX4_readClocks 56 = .ok (.invokevirtual 70, 3) := by decide +kernel
theorem dX4_readClocks_59 : decode cX4_readClocks 59 = .ok (.iinc 2 1, 3) := by decide +kernel
theorem dX4_readClocks_62 : decode cX4_readClocks 62 = .ok (.goto (-60), 3) := by decide +kernel
theorem dX4_readClocks_65 : decode cX4_readClocks 65 = .ok (.aload_n 1, 1) := by decide +kernel
theorem dX4_readClocks_66 : decode cX4_readClocks 66 = .ok (.getfield 73, 3) := by decide +kernel
theorem dX4_readClocks_69 : decode cX4_readClocks 69 = .ok (.ifCond .le 7, 3) := by decide +kernel
theorem dX4_readClocks_72 : decode cX4_readClocks 72 = .ok (.iconst 1, 1) := by decide +kernel
theorem dX4_readClocks_73 : decode cX4_readClocks 73 = .ok (.goto 4, 3) := by decide +kernel
theorem dX4_readClocks_76 : decode cX4_readClocks 76 = .ok (.iconst 0, 1) := by decide +kernel
theorem dX4_readClocks_77 : decode cX4_readClocks 77 = .ok (.ireturn, 1) := by decide +kernel
theorem dX4_takeSign_0 : decode cX4_takeSign 0 = .ok (.aload_n 0, 1) := by decide +kernel
theorem dX4_takeSign_1 : decode cX4_takeSign 1 = .ok (.getfield 30, 3) := by decide +kernel
theorem dX4_takeSign_4 : decode cX4_takeSign 4 = .ok (.aload_n 0, 1) := by decide +kernel
theorem dX4_takeSign_5 : decode cX4_takeSign 5 = .ok (.getfield 26, 3) := by decide +kernel
theorem dX4_takeSign_8 : decode cX4_takeSign 8 = .ok (.if_icmp .ge 16, 3) := by decide +kernel
theorem dX4_takeSign_11 : decode cX4_takeSign 11 = .ok (.aload_n 0, 1) := by decide +kernel
theorem dX4_takeSign_12 : decode cX4_takeSign 12 = .ok (.getfield 9, 3) := by decide +kernel
theorem dX4_takeSign_15 : decode cX4_takeSign 15 = .ok (.aload_n 0, 1) := by decide +kernel
theorem dX4_takeSign_16 : decode cX4_takeSign 16 = .ok (.getfield 30, 3) := by decide +kernel
theorem dX4_takeSign_19 : decode cX4_takeSign 19 = .ok (.iaload, 1) := by decide +kernel
theorem dX4_takeSign_20 : decode cX4_takeSign 20 = .ok (.iload_n 1, 1) := by decide +kernel
theorem dX4_takeSign_21 : decode cX4_takeSign 21 = .ok (.if_icmp .eq 5, 3) := by decide +kernel
theorem dX4_takeSign_24 : decode cX4_takeSign 24 = .ok (.iconst 0, 1) := by decide +kernel
theorem dX4_takeSign_25 : decode cX4_takeSign 25 = .ok (.ireturn, 1) := by decide +kernel
theorem dX4_takeSign_26 : decode cX4_takeSign 26 = .ok (.aload_n 0, 1) := by decide +kernel
theorem dX4_takeSign_27 : decode cX4_takeSign 27 = .ok (.dup, 1) := by decide +kernel
theorem dX4_takeSign_28 : decode cX4_takeSign 28 = .ok (.getfield 30, 3) := by decide +kernel
theorem dX4_takeSign_31 : decode cX4_takeSign 31 = .ok (.iconst 1, 1) := by decide +kernel
theorem dX4_takeSign_32 : decode cX4_takeSign 32 = .ok (.iadd, 1) := by decide +kernel
theorem dX4_takeSign_33 : decode cX4_takeSign 33 = .ok (.putfield 30, 3) := by decide +kernel
theorem dX4_takeSign_36 : decode cX4_takeSign 36 = .ok (.iconst 1, 1) := by decide +kernel
theorem dX4_takeSign_37 : decode cX4_takeSign 37 = .ok (.ireturn, 1) := by decide +kernel
theorem dX4_takeDigit_0 : decode cX4_takeDigit 0 = .ok (.aload_n 0, 1) := by decide +kernel
theorem dX4_takeDigit_1 : decode cX4_takeDigit 1 = .ok (.getfield 30, 3) := by decide +kernel
theorem dX4_takeDigit_4 : decode cX4_takeDigit 4 = .ok (.aload_n 0, 1) := by decide +kernel
theorem dX4_takeDigit_5 : decode cX4_takeDigit 5 = .ok (.getfield 26, 3) := by decide +kernel
theorem dX4_takeDigit_8 : decode cX4_takeDigit 8 = .ok (.if_icmp .lt 5, 3) := by decide +kernel
theorem dX4_takeDigit_11 : decode cX4_takeDigit 11 = .ok (.iconst (-1), 1) := by decide +kernel
theorem dX4_takeDigit_12 : decode cX4_takeDigit 12 = .ok (.ireturn, 1) := by decide +kernel
theorem dX4_takeDigit_13 : decode cX4_takeDigit 13 = .ok (.aload_n 0, 1) := by decide +kernel
theorem dX4_takeDigit_14 : decode cX4_takeDigit 14 = .ok (.getfield 9, 3) := by decide +kernel
theorem dX4_takeDigit_17 : decode cX4_takeDigit 17 = .ok (.aload_n 0, 1) := by decide +kernel
theorem dX4_takeDigit_18 : decode cX4_takeDigit 18 = .ok (.getfield 30, 3) := by decide +kernel
theorem dX4_takeDigit_21 : decode cX4_takeDigit 21 = .ok (.iaload, 1) := by decide +kernel
theorem dX4_takeDigit_22 : decode cX4_takeDigit 22 = .ok (.istore_n 3, 1) := by decide +kernel
theorem dX4_takeDigit_23 : decode cX4_takeDigit 23 = .ok (.iload_n 3, 1) := by decide +kernel
theorem dX4_takeDigit_24 : decode cX4_takeDigit 24 = .ok (.bipush 48, 2) := by decide +kernel
theorem dX4_takeDigit_26 : decode cX4_takeDigit 26 = .ok (.iload_n 1, 1) := by decide +kernel
theorem dX4_takeDigit_27 : decode cX4_takeDigit 27 = .ok (.iadd, 1) := by decide +kernel
theorem dX4_takeDigit_28 : decode cX4_takeDigit 28 = .ok (.if_icmp .lt 11, 3) := by decide +kernel
theorem dX4_takeDigit_31 : decode cX4_takeDigit 31 = .ok (.iload_n 3, 1) := by decide +kernel
theorem dX4_takeDigit_32 : decode cX4_takeDigit 32 = .ok (.bipush 48, 2) := by decide +kernel
theorem dX4_takeDigit_34 : decode cX4_takeDigit 34 = .ok (.iload_n 2, 1) := by decide +kernel
theorem dX4_takeDigit_35 : decode cX4_takeDigit 35 = .ok (.iadd, 1) := by decide +kernel
theorem dX4_takeDigit_36 : decode cX4_takeDigit 36 = .ok (.if_icmp .le 5, 3) := by decide +kernel
theorem dX4_takeDigit_39 : decode cX4_takeDigit 39 = .ok (.iconst (-1), 1) := by decide +kernel
theorem dX4_takeDigit_40 : decode cX4_takeDigit 40 = .ok (.ireturn, 1) := by decide +kernel
theorem dX4_takeDigit_41 : decode cX4_takeDigit 41 = .ok (.aload_n 0, 1) := by decide +kernel
theorem dX4_takeDigit_42 : decode cX4_takeDigit 42 = .ok (.dup, 1) := by decide +kernel
theorem dX4_takeDigit_43 : decode cX4_takeDigit 43 = .ok (.getfield 30, 3) := by decide +kernel
theorem dX4_takeDigit_46 : decode cX4_takeDigit 46 = .ok (.iconst 1, 1) := by decide +kernel
theorem dX4_takeDigit_47 : decode cX4_takeDigit 47 = .ok (.iadd, 1) := by decide +kernel
theorem dX4_takeDigit_48 : decode cX4_takeDigit 48 = .ok (.putfield 30, 3) := by decide +kernel
theorem dX4_takeDigit_51 : decode cX4_takeDigit 51 = .ok (.iload_n 3, 1) := by decide +kernel
theorem dX4_takeDigit_52 : decode cX4_takeDigit 52 = .ok (.bipush 48, 2) := by decide +kernel
theorem dX4_takeDigit_54 : decode cX4_takeDigit 54 = .ok (.isub, 1) := by decide +kernel
theorem dX4_takeDigit_55 : decode cX4_takeDigit 55 = .ok (.ireturn, 1) := by decide +kernel
set_option maxRecDepth 20000 in
theorem ggX4_takeKind_X4_takeSign : GoodIn wsX4_takeKind wsX4_takeSign := goodIn_r _ [5, 6, 7, 8, 9, 10, 11] (by decide +kernel) (by decide +kernel)
set_option maxRecDepth 20000 in
theorem gX4_takeKind_X4_takeSign : GoodIn wsX4_takeKind (wsV RX4 48 RX4 yX4_takeSign wsX4_takeSign) := goodIn_app (goodIn_of _ (by decide +kernel)) ggX4_takeKind_X4_takeSign
theorem dX4_takeKind_0 : decode cX4_takeKind 0 = .ok (.aload_n 0, 1) := by decide +kernel
theorem dX4_takeKind_1 : decode cX4_takeKind 1 = .ok (.bipush 115, 2) := by decide +kernel
theorem dX4_takeKind_3 : decode cX4_takeKind 3 = .ok (.invokevirtual 48, 3) := by decide +kernel
theorem dX4_takeKind_6 : decode cX4_takeKind 6 = .ok (.ifCond .eq 5, 3) := by decide +kernel
theorem dX4_takeKind_9 : decode cX4_takeKind 9 = .ok (.iconst 0, 1) := by decide +kernel
theorem dX4_takeKind_10 : decode cX4_takeKind 10 = .ok (.ireturn, 1) := by decide +kernel
theorem dX4_takeKind_11 : decode cX4_takeKind 11 = .ok (.aload_n 0, 1) := by decide +kernel
theorem dX4_takeKind_12 : decode cX4_takeKind 12 = .ok (.bipush 110, 2) := by decide +kernel
theorem dX4_takeKind_14 : decode cX4_takeKind 14 = .ok (.invokevirtual 48, 3) := by decide +kernel
theorem dX4_takeKind_17 : decode cX4_takeKind 17 = .ok (.ifCond .eq 5, 3) := by decide +kernel
theorem dX4_takeKind_20 : decode cX4_takeKind 20 = .ok (.iconst 1, 1) := by decide +kernel
theorem dX4_takeKind_21 : decode cX4_takeKind 21 = .ok (.ireturn, 1) := by decide +kernel
theorem dX4_takeKind_22 : decode cX4_takeKind 22 = .ok (.aload_n 0, 1) := by decide +kernel
theorem dX4_takeKind_23 : decode cX4_takeKind 23 = .ok (.bipush 98, 2) := by decide +kernel
theorem dX4_takeKind_25 : decode cX4_takeKind 25 = .ok (.invokevirtual 48, 3) := by decide +kernel
theorem dX4_takeKind_28 : decode cX4_takeKind 28 = .ok (.ifCond .eq 7, 3) := by decide +kernel
theorem dX4_takeKind_31 : decode cX4_takeKind 31 = .ok (.iconst 2, 1) := by decide +kernel
theorem dX4_takeKind_32 : decode cX4_takeKind 32 = .ok (.goto 5, 3) := by decide +kernel
theorem dX4_takeKind_35 : decode cX4_takeKind 35 = .ok (.bipush (-9), 2) := by decide +kernel
theorem dX4_takeKind_37 : decode cX4_takeKind 37 = .ok (.ireturn, 1) := by decide +kernel
set_option maxRecDepth 20000 in
theorem ggX5_init_X3_init : GoodIn wsX5_init wsX3_init := goodIn_r _ [28, 29, 2, 3, 25, 30, 31, 32, 33, 34, 35, 58, 59, 60, 61, 62, 63, 64, 65, 66, 67] (by decide +kernel) (by decide +kernel)
set_option maxRecDepth 20000 in
theorem gX5_init_X3_init_n11 : GoodIn wsX5_init (wsX3_init) := ggX5_init_X3_init
set_option maxRecDepth 20000 in
theorem ggX5_init_X4_init : GoodIn wsX5_init wsX4_init := goodIn_r _ [37, 38, 2, 3, 25, 39, 78, 79, 80] (by decide +kernel) (by decide +kernel)
set_option maxRecDepth 20000 in
theorem gX5_init_X4_init_n23 : GoodIn wsX5_init (wsX4_init) := ggX5_init_X4_init
set_option maxRecDepth 20000 in
theorem ggX5_init_X1_init : GoodIn wsX5_init wsX1_init := goodIn_r _ [41, 42, 2, 3, 25, 43, 44, 45, 34, 46, 81, 82, 83, 84, 85] (by decide +kernel) (by decide +kernel)
set_option maxRecDepth 20000 in
theorem gX5_init_X1_init_n30 : GoodIn wsX5_init (wsX1_init) := ggX5_init_X1_init
set_option maxRecDepth 20000 in
theorem ggX5_init_X0_init : GoodIn wsX5_init wsX0_init := goodIn_r _ [48, 49, 2, 3, 25, 50, 51, 52, 53, 86, 87, 88] (by decide +kernel) (by decide +kernel)
set_option maxRecDepth 20000 in
theorem gX5_init_X0_init_n37 : GoodIn wsX5_init (wsX0_init) := ggX5_init_X0_init
set_option maxRecDepth 20000 in
theorem ggX5_init_X2_init : GoodIn wsX5_init wsX2_init := goodIn_r _ [55, 56, 2, 3, 25, 57, 89, 90, 91, 92] (by decide +kernel) (by decide +kernel)
set_option maxRecDepth 20000 in
theorem gX5_init_X2_init_n44 : GoodIn wsX5_init (wsX2_init) := ggX5_init_X2_init
theorem dX5_init_0 : decode cX5_init 0 = .ok (.aload_n 0, 1) := by decide +kernel
theorem dX5_init_1 : decode cX5_init 1 = .ok (.invokespecial 3, 3) := by decide +kernel
theorem dX5_init_4 : decode cX5_init 4 = .ok (.aload_n 0, 1) := by decide +kernel
theorem dX5_init_5 : decode cX5_init 5 = .ok (.new 9, 3) := by decide +kernel
theorem dX5_init_8 : decode cX5_init 8 = .ok (.dup, 1) := by decide +kernel
theorem dX5_init_9 : decode cX5_init 9 = .ok (.invokespecial 11, 3) := by decide +kernel
theorem dX5_init_12 : decode cX5_init 12 = .ok (.putfield 12, 3) := by decide +kernel
theorem dX5_init_15 : decode cX5_init 15 = .ok (.aload_n 0, 1) := by decide +kernel
theorem dX5_init_16 : decode cX5_init 16 = .ok (.new 9, 3) := by decide +kernel
theorem dX5_init_19 : decode cX5_init 19 = .ok (.dup, 1) := by decide +kernel
theorem dX5_init_20 : decode cX5_init 20 = .ok (.invokespecial 11, 3) := by decide +kernel
theorem dX5_init_23 : decode cX5_init 23 = .ok (.putfield 18, 3) := by decide +kernel
theorem dX5_init_26 : decode cX5_init 26 = .ok (.aload_n 0, 1) := by decide +kernel
theorem dX5_init_27 : decode cX5_init 27 = .ok (.new 21, 3) := by decide +kernel
theorem dX5_init_30 : decode cX5_init 30 = .ok (.dup, 1) := by decide +kernel
theorem dX5_init_31 : decode cX5_init 31 = .ok (.invokespecial 23, 3) := by decide +kernel
theorem dX5_init_34 : decode cX5_init 34 = .ok (.putfield 24, 3) := by decide +kernel
theorem dX5_init_37 : decode cX5_init 37 = .ok (.aload_n 0, 1) := by decide +kernel
theorem dX5_init_38 : decode cX5_init 38 = .ok (.new 28, 3) := by decide +kernel
theorem dX5_init_41 : decode cX5_init 41 = .ok (.dup, 1) := by decide +kernel
theorem dX5_init_42 : decode cX5_init 42 = .ok (.invokespecial 30, 3) := by decide +kernel
theorem dX5_init_45 : decode cX5_init 45 = .ok (.putfield 31, 3) := by decide +kernel
theorem dX5_init_48 : decode cX5_init 48 = .ok (.aload_n 0, 1) := by decide +kernel
theorem dX5_init_49 : decode cX5_init 49 = .ok (.new 35, 3) := by decide +kernel
theorem dX5_init_52 : decode cX5_init 52 = .ok (.dup, 1) := by decide +kernel
theorem dX5_init_53 : decode cX5_init 53 = .ok (.invokespecial 37, 3) := by decide +kernel
theorem dX5_init_56 : decode cX5_init 56 = .ok (.putfield 38, 3) := by decide +kernel
theorem dX5_init_59 : decode cX5_init 59 = .ok (.aload_n 0, 1) := by decide +kernel
theorem dX5_init_60 : decode cX5_init 60 = .ok (.iconst 4, 1) := by decide +kernel
theorem dX5_init_61 : decode cX5_init 61 = .ok (.anewarray 42, 3) := by decide +kernel
theorem dX5_init_64 : decode cX5_init 64 = .ok (.dup, 1) := by decide +kernel
theorem dX5_init_65 : decode cX5_init 65 = .ok (.iconst 0, 1) := by decide +kernel
theorem dX5_init_66 : decode cX5_init 66 = .ok (.new 42, 3) := by decide +kernel
theorem dX5_init_69 : decode cX5_init 69 = .ok (.dup, 1) := by decide +kernel
theorem dX5_init_70 : decode cX5_init 70 = .ok (.invokespecial 44, 3) := by decide +kernel
theorem dX5_init_73 : decode cX5_init 73 = .ok (.aastore, 1) := by decide +kernel
theorem dX5_init_74 : decode cX5_init 74 = .ok (.dup, 1) := by decide +kernel
theorem dX5_init_75 : decode cX5_init 75 = .ok (.iconst 1, 1) := by decide +kernel
theorem dX5_init_76 : decode cX5_init 76 = .ok (.new 42, 3) := by decide +kernel
theorem dX5_init_79 : decode cX5_init 79 = .ok (.dup, 1) := by decide +kernel
theorem dX5_init_80 : decode cX5_init 80 = .ok (.invokespecial 44, 3) := by decide +kernel
theorem dX5_init_83 : decode cX5_init 83 = .ok (.aastore, 1) := by decide +kernel
theorem dX5_init_84 : decode cX5_init 84 = .ok (.dup, 1) := by decide +kernel
theorem dX5_init_85 : decode cX5_init 85 = .ok (.iconst 2, 1) := by decide +kernel
theorem dX5_init_86 : decode cX5_init 86 = .ok (.new 42, 3) := by decide +kernel
theorem dX5_init_89 : decode cX5_init 89 = .ok (.dup, 1) := by decide +kernel
theorem dX5_init_90 : decode cX5_init 90 = .ok (.invokespecial 44, 3) := by decide +kernel
theorem dX5_init_93 : decode cX5_init 93 = .ok (.aastore, 1) := by decide +kernel
theorem dX5_init_94 : decode cX5_init 94 = .ok (.dup, 1) := by decide +kernel
theorem dX5_init_95 : decode cX5_init 95 = .ok (.iconst 3, 1) := by decide +kernel
theorem dX5_init_96 : decode cX5_init 96 = .ok (.new 42, 3) := by decide +kernel
theorem dX5_init_99 : decode cX5_init 99 = .ok (.dup, 1) := by decide +kernel
theorem dX5_init_100 : decode cX5_init 100 = .ok (.invokespecial 44, 3) := by decide +kernel
theorem dX5_init_103 : decode cX5_init 103 = .ok (.aastore, 1) := by decide +kernel
theorem dX5_init_104 : decode cX5_init 104 = .ok (.putfield 45, 3) := by decide +kernel
theorem dX5_init_107 : decode cX5_init 107 = .ok (.aload_n 0, 1) := by decide +kernel
theorem dX5_init_108 : decode cX5_init 108 = .ok (.bipush 6, 2) := by decide +kernel
theorem dX5_init_110 : decode cX5_init 110 = .ok (.newarray .int, 2) := by decide +kernel
theorem dX5_init_112 : decode cX5_init 112 = .ok (.putfield 49, 3) := by decide +kernel
theorem dX5_init_115 : decode cX5_init 115 = .ok (.return_, 1) := by decide +kernel
set_option maxRecDepth 20000 in
theorem ggX5_street_X5_isSheet : GoodIn wsX5_street wsX5_isSheet := goodIn_r _ [13] (by decide +kernel) (by decide +kernel)
set_option maxRecDepth 20000 in
theorem gX5_street_X5_isSheet : GoodIn wsX5_street (va_wsS RX5 57 yX5_isSheet wsX5_isSheet) := goodIn_app (goodIn_of _ (by decide +kernel)) ggX5_street_X5_isSheet
set_option maxRecDepth 20000 in
theorem ggX5_street_X5_isLane : GoodIn wsX5_street wsX5_isLane := goodIn_r _ [16] (by decide +kernel) (by decide +kernel)
set_option maxRecDepth 20000 in
theorem gX5_street_X5_isLane : GoodIn wsX5_street (va_wsS RX5 61 yX5_isLane wsX5_isLane) := goodIn_app (goodIn_of _ (by decide +kernel)) ggX5_street_X5_isLane
set_option maxRecDepth 20000 in
theorem ggX5_street_X2_faultAs : GoodIn wsX5_street wsX2_faultAs := goodIn_r _ [21, 22, 23, 126, 127, 128, 129] (by decide +kernel) (by decide +kernel)
set_option maxRecDepth 20000 in
theorem gX5_street_X2_faultAs : GoodIn wsX5_street (wsV RX5 64 RX2 yX2_faultAs wsX2_faultAs) := goodIn_app (goodIn_of _ (by decide +kernel)) ggX5_street_X2_faultAs
set_option maxRecDepth 20000 in
theorem ggX5_street_X2_lacks : GoodIn wsX5_street wsX2_lacks := goodIn_r _ [27, 28, 126, 127, 128, 129] (by decide +kernel) (by decide +kernel)
set_option maxRecDepth 20000 in
theorem gX5_street_X2_lacks : GoodIn wsX5_street (wsV RX5 68 RX2 yX2_lacks wsX2_lacks) := goodIn_app (goodIn_of _ (by decide +kernel)) ggX5_street_X2_lacks
set_option maxRecDepth 20000 in
theorem ggX5_street_X5_faulty : GoodIn wsX5_street wsX5_faulty := goodIn_r _ [32, 1, 101, 102, 103, 104, 105, 106, 107, 108, 109, 110] (by decide +kernel) (by decide +kernel)
set_option maxRecDepth 20000 in
theorem gX5_street_X5_faulty : GoodIn wsX5_street (wsV RX5 72 RX5 yX5_faulty wsX5_faulty) := goodIn_app (goodIn_of _ (by decide +kernel)) ggX5_street_X5_faulty
set_option maxRecDepth 20000 in
theorem ggX5_street_X4_read : GoodIn wsX5_street wsX4_read := goodIn_r _ [37, 38, 39, 40, 41, 42, 43, 44, 45, 46, 47, 48, 49, 50, 51, 52, 53, 54, 55, 56, 57, 58, 36, 59, 60, 61, 62, 63, 64, 65, 66, 67, 68, 69, 70, 71, 72, 73, 74, 75, 76, 77, 78, 79, 80, 81, 82, 83, 84, 85, 86, 87, 88, 89, 90, 91, 92, 93, 94, 95, 126, 127, 128, 129, 130, 131, 132, 116, 117, 118, 119, 120, 121, 122, 123, 124, 125] (by decide +kernel) (by decide +kernel)
set_option maxRecDepth 20000 in
theorem gX5_street_X4_read : GoodIn wsX5_street (wsV RX5 75 RX4 yX4_read wsX4_read) := goodIn_app (goodIn_of _ (by decide +kernel)) ggX5_street_X4_read
set_option maxRecDepth 20000 in
theorem ggX5_street_X3_become : GoodIn wsX5_street wsX3_become := goodIn_r _ [99, 51, 52, 53, 82, 83, 93, 94, 95, 100, 47, 48, 49, 50, 54, 55, 116, 117, 118, 119, 120, 121, 122, 123, 124, 125] (by decide +kernel) (by decide +kernel)
set_option maxRecDepth 20000 in
theorem gX5_street_X3_become : GoodIn wsX5_street (wsV RX5 79 RX3 yX3_become wsX3_become) := goodIn_app (goodIn_of _ (by decide +kernel)) ggX5_street_X3_become
theorem dX5_street_0 : decode cX5_street 0 = .ok (.aload_n 0, 1) := by decide +kernel
theorem dX5_street_1 : decode cX5_street 1 = .ok (.iconst 0, 1) := by decide +kernel
theorem dX5_street_2 : decode cX5_street 2 = .ok (.putfield 53, 3) := by decide +kernel
theorem dX5_street_5 : decode cX5_street 5 = .ok (.iload_n 1, 1) := by decide +kernel
theorem dX5_street_6 : decode cX5_street 6 = .ok (.invokestatic 57, 3) := by decide +kernel
theorem dX5_street_9 : decode cX5_street 9 = .ok (.ifCond .ne 5, 3) := by decide +kernel
theorem dX5_street_12 : decode cX5_street 12 = .ok (.iconst (-1), 1) := by decide +kernel
theorem dX5_street_13 : decode cX5_street 13 = .ok (.ireturn, 1) := by decide +kernel
theorem dX5_street_14 : decode cX5_street 14 = .ok (.iload_n 2, 1) := by decide +kernel
theorem dX5_street_15 : decode cX5_street 15 = .ok (.invokestatic 61, 3) := by decide +kernel
theorem dX5_street_18 : decode cX5_street 18 = .ok (.ifCond .ne 6, 3) := by decide +kernel
theorem dX5_street_21 : decode cX5_street 21 = .ok (.bipush (-2), 2) := by decide +kernel
theorem dX5_street_23 : decode cX5_street 23 = .ok (.ireturn, 1) := by decide +kernel
theorem dX5_street_24 : decode cX5_street 24 = .ok (.aload_n 0, 1) := by decide +kernel
theorem dX5_street_25 : decode cX5_street 25 = .ok (.getfield 45, 3) := by decide +kernel
theorem dX5_street_28 : decode cX5_street 28 = .ok (.iload_n 1, 1) := by decide +kernel
theorem dX5_street_29 : decode cX5_street 29 = .ok (.aaload, 1) := by decide +kernel
theorem dX5_street_30 : decode cX5_street 30 = .ok (.astore 5, 2) := by decide +kernel
theorem dX5_street_32 : decode cX5_street 32 = .ok (.aload 5, 2) := by decide +kernel
theorem dX5_street_34 : decode cX5_street 34 = .ok (.iload_n 2, 1) := by decide +kernel
theorem dX5_street_35 : decode cX5_street 35 = .ok (.invokevirtual 64, 3) := by decide +kernel
theorem dX5_street_38 : decode cX5_street 38 = .ok (.istore 6, 2) := by decide +kernel
theorem dX5_street_40 : decode cX5_street 40 = .ok (.iload 6, 2) := by decide +kernel
theorem dX5_street_42 : decode cX5_street 42 = .ok (.ifCond .ne 11, 3) := by decide +kernel
theorem dX5_street_45 : decode cX5_street 45 = .ok (.iload 4, 2) := by decide +kernel
theorem dX5_street_47 : decode cX5_street 47 = .ok (.ifCond .ge 6, 3) := by decide +kernel
theorem dX5_street_50 : decode cX5_street 50 = .ok (.iconst 4, 1) := by decide +kernel
theorem dX5_street_51 : decode cX5_street 51 = .ok (.istore 6, 2) := by decide +kernel
theorem dX5_street_53 : decode cX5_street 53 = .ok (.iload 6, 2) := by decide +kernel
theorem dX5_street_55 : decode cX5_street 55 = .ok (.ifCond .ne 17, 3) := by decide +kernel
theorem dX5_street_58 : decode cX5_street 58 = .ok (.aload 5, 2) := by decide +kernel
theorem dX5_street_60 : decode cX5_street 60 = .ok (.iload_n 3, 1) := by decide +kernel
theorem dX5_street_61 : decode cX5_street 61 = .ok (.iload 4, 2) := by decide +kernel
theorem dX5_street_63 : decode cX5_street 63 = .ok (.invokevirtual 68, 3) := by decide +kernel
theorem dX5_street_66 : decode cX5_street 66 = .ok (.ifCond .eq 6, 3) := by decide +kernel
theorem dX5_street_69 : decode cX5_street 69 = .ok (.iconst 3, 1) := by decide +kernel
theorem dX5_street_70 : decode cX5_street 70 = .ok (.istore 6, 2) := by decide +kernel
theorem dX5_street_72 : decode cX5_street 72 = .ok (.iload 6, 2) := by decide +kernel
theorem dX5_street_74 : decode cX5_street 74 = .ok (.ifCond .eq 10, 3) := by decide +kernel
theorem dX5_street_77 : decode cX5_street 77 = .ok (.aload_n 0, 1) := by decide +kernel
theorem dX5_street_78 : decode cX5_street 78 = .ok (.iload 6, 2) := by decide +kernel
theorem dX5_street_80 : decode cX5_street 80 = .ok (.invokevirtual 72, 3) := by decide +kernel
theorem dX5_street_83 : decode cX5_street 83 = .ok (.ireturn, 1) := by decide +kernel
theorem dX5_street_84 : decode cX5_street 84 = .ok (.aload_n 0, 1) := by decide +kernel
theorem dX5_street_85 : decode cX5_street 85 = .ok (.getfield 24, 3) := by decide +kernel
theorem dX5_street_88 : decode cX5_street 88 = .ok (.aload 5, 2) := by decide +kernel
theorem dX5_street_90 : decode cX5_street 90 = .ok (.iload_n 3, 1) := by decide +kernel
theorem dX5_street_91 : decode cX5_street 91 = .ok (.iload 4, 2) := by decide +kernel
theorem dX5_street_93 : decode cX5_street 93 = .ok (.aload_n 0, 1) := by decide +kernel
theorem dX5_street_94 : decode cX5_street 94 = .ok (.getfield 18, 3) := by decide +kernel
theorem dX5_street_97 : decode cX5_street 97 = .ok (.invokevirtual 75, 3) := by decide +kernel
theorem dX5_street_100 : decode cX5_street 100 = .ok (.istore 7, 2) := by decide +kernel
theorem dX5_street_102 : decode cX5_street 102 = .ok (.iload 7, 2) := by decide +kernel
theorem dX5_street_104 : decode cX5_street 104 = .ok (.bipush (-9), 2) := by decide +kernel
theorem dX5_street_106 : decode cX5_street 106 = .ok (.if_icmp .eq 9, 3) := by decide +kernel
theorem dX5_street_109 : decode cX5_street 109 = .ok (.bipush (-100), 2) := by decide +kernel
theorem dX5_street_111 : decode cX5_street 111 = .ok (.iload 7, 2) := by decide +kernel
theorem dX5_street_113 : decode cX5_street 113 = .ok (.isub, 1) := by decide +kernel
theorem dX5_street_114 : decode cX5_street 114 = .ok (.ireturn, 1) := by decide +kernel
theorem dX5_street_115 : decode cX5_street 115 = .ok (.aload_n 0, 1) := by decide +kernel
theorem dX5_street_116 : decode cX5_street 116 = .ok (.getfield 12, 3) := by decide +kernel
theorem dX5_street_119 : decode cX5_street 119 = .ok (.aload_n 0, 1) := by decide +kernel
theorem dX5_street_120 : decode cX5_street 120 = .ok (.getfield 18, 3) := by decide +kernel
theorem dX5_street_123 : decode cX5_street 123 = .ok (.invokevirtual 79, 3) := by decide +kernel
theorem dX5_street_126 : decode cX5_street 126 = .ok (.aload_n 0, 1) := by decide +kernel
theorem dX5_street_127 : decode cX5_street 127 = .ok (.iconst 0, 1) := by decide +kernel
theorem dX5_street_128 : decode cX5_street 128 = .ok (.putfield 83, 3) := by decide +kernel
theorem dX5_street_131 : decode cX5_street 131 = .ok (.aload_n 0, 1) := by decide +kernel
theorem dX5_street_132 : decode cX5_street 132 = .ok (.getfield 31, 3) := by decide +kernel
theorem dX5_street_135 : decode cX5_street 135 = .ok (.iconst 0, 1) := by decide +kernel
theorem dX5_street_136 : decode cX5_street 136 = .ok (.putfield 86, 3) := by decide +kernel
theorem dX5_street_139 : decode cX5_street 139 = .ok (.aload_n 0, 1) := by decide +kernel
theorem dX5_street_140 : decode cX5_street 140 = .ok (.getfield 12, 3) := by decide +kernel
theorem dX5_street_143 : decode cX5_street 143 = .ok (.getfield 89, 3) := by decide +kernel
theorem dX5_street_146 : decode cX5_street 146 = .ok (.ireturn, 1) := by decide +kernel
set_option maxRecDepth 20000 in
theorem ggX5_ofHouse_X3_hasHouse : GoodIn wsX5_ofHouse wsX3_hasHouse := goodIn_r _ [8, 9, 63, 64, 65, 66, 67, 68, 69, 70, 71, 72] (by decide +kernel) (by decide +kernel)
set_option maxRecDepth 20000 in
theorem gX5_ofHouse_X3_hasHouse : GoodIn wsX5_ofHouse (wsV RX5 92 RX3 yX3_hasHouse wsX3_hasHouse) := goodIn_app (goodIn_of _ (by decide +kernel)) ggX5_ofHouse_X3_hasHouse
set_option maxRecDepth 20000 in
theorem ggX5_ofHouse_X3_needs : GoodIn wsX5_ofHouse wsX3_needs := goodIn_r _ [13, 14, 15, 63, 64, 65, 66, 67, 68, 69, 70, 71, 72] (by decide +kernel) (by decide +kernel)
set_option maxRecDepth 20000 in
theorem gX5_ofHouse_X3_needs : GoodIn wsX5_ofHouse (wsV RX5 101 RX3 yX3_needs wsX3_needs) := goodIn_app (goodIn_of _ (by decide +kernel)) ggX5_ofHouse_X3_needs
set_option maxRecDepth 20000 in
theorem ggX5_ofHouse_X3_clocksIn : GoodIn wsX5_ofHouse wsX3_clocksIn := goodIn_r _ [19, 20, 21, 63, 64, 65, 66, 67, 68, 69, 70, 71, 72] (by decide +kernel) (by decide +kernel)
set_option maxRecDepth 20000 in
theorem gX5_ofHouse_X3_clocksIn : GoodIn wsX5_ofHouse (wsV RX5 104 RX3 yX3_clocksIn wsX3_clocksIn) := goodIn_app (goodIn_of _ (by decide +kernel)) ggX5_ofHouse_X3_clocksIn
set_option maxRecDepth 20000 in
theorem ggX5_ofHouse_X3_clocksWaking : GoodIn wsX5_ofHouse wsX3_clocksWaking := goodIn_r _ [25, 20, 21, 26, 27, 28, 7, 29, 30, 31, 32, 33, 34, 35, 36, 37, 38, 39, 40, 41, 42, 43, 44, 45, 46, 47, 48, 49, 11, 12, 13, 14, 15, 50, 51, 52, 63, 64, 65, 66, 67, 68, 69, 70, 71, 72] (by decide +kernel) (by decide +kernel)
set_option maxRecDepth 20000 in
theorem gX5_ofHouse_X3_clocksWaking : GoodIn wsX5_ofHouse (wsV RX5 107 RX3 yX3_clocksWaking wsX3_clocksWaking) := goodIn_app (goodIn_of _ (by decide +kernel)) ggX5_ofHouse_X3_clocksWaking
theorem dX5_ofHouse_0 : decode cX5_ofHouse 0 = .ok (.aload_n 0, 1) := by decide +kernel
theorem dX5_ofHouse_1 : decode cX5_ofHouse 1 = .ok (.getfield 12, 3) := by decide +kernel
theorem dX5_ofHouse_4 : decode cX5_ofHouse 4 = .ok (.iload_n 1, 1) := by decide +kernel
theorem dX5_ofHouse_5 : decode cX5_ofHouse 5 = .ok (.invokevirtual 92, 3) := by decide +kernel
theorem dX5_ofHouse_8 : decode cX5_ofHouse 8 = .ok (.ifCond .ne 5, 3) := by decide +kernel
theorem dX5_ofHouse_11 : decode cX5_ofHouse 11 = .ok (.iconst (-1), 1) := by decide +kernel
theorem dX5_ofHouse_12 : decode cX5_ofHouse 12 = .ok (.ireturn, 1) := by decide +kernel
theorem dX5_ofHouse_13 : decode cX5_ofHouse 13 = .ok (.iload_n 2, 1) := by decide +kernel
theorem dX5_ofHouse_14 : decode cX5_ofHouse 14 = .ok (.tableswitch 81 0 4 #[34, 44, 54, 63, 72], 34) := by decide +kernel
theorem dX5_ofHouse_48 : decode cX5_ofHouse 48 = .ok (.aload_n 0, 1) := by decide +kernel
theorem dX5_ofHouse_49 : decode cX5_ofHouse 49 = .ok (.getfield 12, 3) := by decide +kernel
theorem dX5_ofHouse_52 : decode cX5_ofHouse 52 = .ok (.getfield 95, 3) := by decide +kernel
theorem dX5_ofHouse_55 : decode cX5_ofHouse 55 = .ok (.iload_n 1, 1) := by decide +kernel
theorem dX5_ofHouse_56 : decode cX5_ofHouse 56 = .ok (.iaload, 1) := by decide +kernel
theorem dX5_ofHouse_57 : decode cX5_ofHouse 57 = .ok (.ireturn, 1) := by decide +kernel
theorem dX5_ofHouse_58 : decode cX5_ofHouse 58 = .ok (.aload_n 0, 1) := by decide +kernel
theorem dX5_ofHouse_59 : decode cX5_ofHouse 59 = .ok (.getfield 12, 3) := by decide +kernel
theorem dX5_ofHouse_62 : decode cX5_ofHouse 62 = .ok (.getfield 98, 3) := by decide +kernel
theorem dX5_ofHouse_65 : decode cX5_ofHouse 65 = .ok (.iload_n 1, 1) := by decide +kernel
theorem dX5_ofHouse_66 : decode cX5_ofHouse 66 = .ok (.iaload, 1) := by decide +kernel
theorem dX5_ofHouse_67 : decode cX5_ofHouse 67 = .ok (.ireturn, 1) := by decide +kernel
theorem dX5_ofHouse_68 : decode cX5_ofHouse 68 = .ok (.aload_n 0, 1) := by decide +kernel
theorem dX5_ofHouse_69 : decode cX5_ofHouse 69 = .ok (.getfield 12, 3) := by decide +kernel
theorem dX5_ofHouse_72 : decode cX5_ofHouse 72 = .ok (.iload_n 1, 1) := by decide +kernel
theorem dX5_ofHouse_73 : decode cX5_ofHouse 73 = .ok (.invokevirtual 101, 3) := by decide +kernel
theorem dX5_ofHouse_76 : decode cX5_ofHouse 76 = .ok (.ireturn, 1) := by decide +kernel
theorem dX5_ofHouse_77 : decode cX5_ofHouse 77 = .ok (.aload_n 0, 1) := by decide +kernel
theorem dX5_ofHouse_78 : decode cX5_ofHouse 78 = .ok (.getfield 12, 3) := by decide +kernel
theorem dX5_ofHouse_81 : decode cX5_ofHouse 81 = .ok (.iload_n 1, 1) := by decide +kernel
theorem dX5_ofHouse_82 : decode cX5_ofHouse 82 = .ok (.invokevirtual 104, 3) := by decide +kernel
theorem dX5_ofHouse_85 : decode cX5_ofHouse 85 = .ok (.ireturn, 1) := by decide +kernel
theorem dX5_ofHouse_86 : decode cX5_ofHouse 86 = .ok (.aload_n 0, 1) := by decide +kernel
theorem dX5_ofHouse_87 : decode cX5_ofHouse 87 = .ok (.getfield 12, 3) := by decide +kernel
theorem dX5_ofHouse_90 : decode cX5_ofHouse 90 = .ok (.iload_n 1, 1) := by decide +kernel
theorem dX5_ofHouse_91 : decode cX5_ofHouse 91 = .ok (.invokevirtual 107, 3) := by decide +kernel
theorem dX5_ofHouse_94 : decode cX5_ofHouse 94 = .ok (.ireturn, 1) := by decide +kernel
theorem dX5_ofHouse_95 : decode cX5_ofHouse 95 = .ok (.bipush (-2), 2) := by decide +kernel
theorem dX5_ofHouse_97 : decode cX5_ofHouse 97 = .ok (.ireturn, 1) := by decide +kernel
set_option maxRecDepth 20000 in
theorem ggX5_ofClock_X3_hasClock : GoodIn wsX5_ofClock wsX3_hasClock := goodIn_r _ [9, 10, 63, 64, 65, 66, 67, 68, 69, 70, 71, 72] (by decide +kernel) (by decide +kernel)
set_option maxRecDepth 20000 in
theorem gX5_ofClock_X3_hasClock : GoodIn wsX5_ofClock (wsV RX5 110 RX3 yX3_hasClock wsX3_hasClock) := goodIn_app (goodIn_of _ (by decide +kernel)) ggX5_ofClock_X3_hasClock
set_option maxRecDepth 20000 in
theorem ggX5_ofClock_X3_sound : GoodIn wsX5_ofClock wsX3_sound := goodIn_r _ [14, 15, 16, 17, 18, 8, 19, 20, 63, 64, 65, 66, 67, 68, 69, 70, 71, 72] (by decide +kernel) (by decide +kernel)
set_option maxRecDepth 20000 in
theorem gX5_ofClock_X3_sound : GoodIn wsX5_ofClock (wsV RX5 116 RX3 yX3_sound wsX3_sound) := goodIn_app (goodIn_of _ (by decide +kernel)) ggX5_ofClock_X3_sound
set_option maxRecDepth 20000 in
theorem ggX5_ofClock_X3_wakers : GoodIn wsX5_ofClock wsX3_wakers := goodIn_r _ [24, 25, 26, 12, 13, 8, 14, 15, 16, 17, 18, 19, 20, 27, 28, 29, 30, 31, 32, 33, 34, 35, 36, 37, 38, 39, 40, 41, 42, 43, 44, 45, 46, 47, 48, 63, 64, 65, 66, 67, 68, 69, 70, 71, 72] (by decide +kernel) (by decide +kernel)
set_option maxRecDepth 20000 in
theorem gX5_ofClock_X3_wakers : GoodIn wsX5_ofClock (wsV RX5 126 RX3 yX3_wakers wsX3_wakers) := goodIn_app (goodIn_of _ (by decide +kernel)) ggX5_ofClock_X3_wakers
set_option maxRecDepth 20000 in
theorem ggX5_ofClock_X3_owner : GoodIn wsX5_ofClock wsX3_owner := goodIn_r _ [52, 25, 26, 12, 13, 8, 14, 15, 16, 17, 18, 19, 20, 31, 32, 33, 34, 35, 36, 37, 38, 39, 40, 41, 42, 43, 44, 45, 46, 47, 48, 63, 64, 65, 66, 67, 68, 69, 70, 71, 72] (by decide +kernel) (by decide +kernel)
set_option maxRecDepth 20000 in
theorem gX5_ofClock_X3_owner : GoodIn wsX5_ofClock (wsV RX5 130 RX3 yX3_owner wsX3_owner) := goodIn_app (goodIn_of _ (by decide +kernel)) ggX5_ofClock_X3_owner
theorem dX5_ofClock_0 : decode cX5_ofClock 0 = .ok (.aload_n 0, 1) := by decide +kernel
theorem dX5_ofClock_1 : decode cX5_ofClock 1 = .ok (.getfield 12, 3) := by decide +kernel
theorem dX5_ofClock_4 : decode cX5_ofClock 4 = .ok (.iload_n 1, 1) := by decide +kernel
theorem dX5_ofClock_5 : decode cX5_ofClock 5 = .ok (.invokevirtual 110, 3) := by decide +kernel
theorem dX5_ofClock_8 : decode cX5_ofClock 8 = .ok (.ifCond .ne 5, 3) := by decide +kernel
theorem dX5_ofClock_11 : decode cX5_ofClock 11 = .ok (.iconst (-1), 1) := by decide +kernel
theorem dX5_ofClock_12 : decode cX5_ofClock 12 = .ok (.ireturn, 1) := by decide +kernel
theorem dX5_ofClock_13 : decode cX5_ofClock 13 = .ok (.iload_n 2, 1) := by decide +kernel
theorem dX5_ofClock_14 : decode cX5_ofClock 14 = .ok (.tableswitch 121 0 5 #[38, 48, 57, 67, 85, 103], 38) := by decide +kernel
theorem dX5_ofClock_52 : decode cX5_ofClock 52 = .ok (.aload_n 0, 1) := by decide +kernel
theorem dX5_ofClock_53 : decode cX5_ofClock 53 = .ok (.getfield 12, 3) := by decide +kernel
theorem dX5_ofClock_56 : decode cX5_ofClock 56 = .ok (.getfield 113, 3) := by decide +kernel
theorem dX5_ofClock_59 : decode cX5_ofClock 59 = .ok (.iload_n 1, 1) := by decide +kernel
theorem dX5_ofClock_60 : decode cX5_ofClock 60 = .ok (.iaload, 1) := by decide +kernel
theorem dX5_ofClock_61 : decode cX5_ofClock 61 = .ok (.ireturn, 1) := by decide +kernel
theorem dX5_ofClock_62 : decode cX5_ofClock 62 = .ok (.aload_n 0, 1) := by decide +kernel
theorem dX5_ofClock_63 : decode cX5_ofClock 63 = .ok (.getfield 12, 3) := by decide +kernel
theorem dX5_ofClock_66 : decode cX5_ofClock 66 = .ok (.iload_n 1, 1) := by decide +kernel
theorem dX5_ofClock_67 : decode cX5_ofClock 67 = .ok (.invokevirtual 116, 3) := by decide +kernel
theorem dX5_ofClock_70 : decode cX5_ofClock 70 = .ok (.ireturn, 1) := by decide +kernel
theorem dX5_ofClock_71 : decode cX5_ofClock 71 = .ok (.aload_n 0, 1) := by decide +kernel
theorem dX5_ofClock_72 : decode cX5_ofClock 72 = .ok (.getfield 12, 3) := by decide +kernel
theorem dX5_ofClock_75 : decode cX5_ofClock 75 = .ok (.getfield 119, 3) := by decide +kernel
theorem dX5_ofClock_78 : decode cX5_ofClock 78 = .ok (.iload_n 1, 1) := by decide +kernel
theorem dX5_ofClock_79 : decode cX5_ofClock 79 = .ok (.iaload, 1) := by decide +kernel
theorem dX5_ofClock_80 : decode cX5_ofClock 80 = .ok (.ireturn, 1) := by decide +kernel
theorem dX5_ofClock_81 : decode cX5_ofClock 81 = .ok (.aload_n 0, 1) := by decide +kernel
theorem dX5_ofClock_82 : decode cX5_ofClock 82 = .ok (.getfield 12, 3) := by decide +kernel
theorem dX5_ofClock_85 : decode cX5_ofClock 85 = .ok (.getfield 122, 3) := by decide +kernel
theorem dX5_ofClock_88 : decode cX5_ofClock 88 = .ok (.iload_n 1, 1) := by decide +kernel
theorem dX5_ofClock_89 : decode cX5_ofClock 89 = .ok (.baload, 1) := by decide +kernel
theorem dX5_ofClock_90 : decode cX5_ofClock 90 = .ok (.ifCond .eq 7, 3) := by decide +kernel
theorem dX5_ofClock_93 : decode cX5_ofClock 93 = .ok (.iconst 1, 1) := by decide +kernel
theorem dX5_ofClock_94 : decode cX5_ofClock 94 = .ok (.goto 4, 3) := by decide +kernel
theorem dX5_ofClock_97 : decode cX5_ofClock 97 = .ok (.iconst 0, 1) := by decide +kernel
theorem dX5_ofClock_98 : decode cX5_ofClock 98 = .ok (.ireturn, 1) := by decide +kernel
theorem dX5_ofClock_99 : decode cX5_ofClock 99 = .ok (.aload_n 0, 1) := by decide +kernel
theorem dX5_ofClock_100 : decode cX5_ofClock 100 = .ok (.getfield 12, 3) := by decide +kernel
theorem dX5_ofClock_103 : decode cX5_ofClock 103 = .ok (.iload_n 1, 1) := by decide +kernel
theorem dX5_ofClock_104 : decode cX5_ofClock 104 = .ok (.aload_n 0, 1) := by decide +kernel
theorem dX5_ofClock_105 : decode cX5_ofClock 105 = .ok (.getfield 12, 3) := by decide +kernel
theorem dX5_ofClock_108 : decode cX5_ofClock 108 = .ok (.getfield 119, 3) := by decide +kernel
theorem dX5_ofClock_111 : decode cX5_ofClock 111 = .ok (.iload_n 1, 1) := by decide +kernel
theorem dX5_ofClock_112 : decode cX5_ofClock 112 = .ok (.iaload, 1) := by decide +kernel
theorem dX5_ofClock_113 : decode cX5_ofClock 113 = .ok (.invokevirtual 126, 3) := by decide +kernel
theorem dX5_ofClock_116 : decode cX5_ofClock 116 = .ok (.ireturn, 1) := by decide +kernel
theorem dX5_ofClock_117 : decode cX5_ofClock 117 = .ok (.aload_n 0, 1) := by decide +kernel
theorem dX5_ofClock_118 : decode cX5_ofClock 118 = .ok (.getfield 12, 3) := by decide +kernel
theorem dX5_ofClock_121 : decode cX5_ofClock 121 = .ok (.iload_n 1, 1) := by decide +kernel
theorem dX5_ofClock_122 : decode cX5_ofClock 122 = .ok (.aload_n 0, 1) := by decide +kernel
theorem dX5_ofClock_123 : decode cX5_ofClock 123 = .ok (.getfield 12, 3) := by decide +kernel
theorem dX5_ofClock_126 : decode cX5_ofClock 126 = .ok (.getfield 119, 3) := by decide +kernel
theorem dX5_ofClock_129 : decode cX5_ofClock 129 = .ok (.iload_n 1, 1) := by decide +kernel
theorem dX5_ofClock_130 : decode cX5_ofClock 130 = .ok (.iaload, 1) := by decide +kernel
theorem dX5_ofClock_131 : decode cX5_ofClock 131 = .ok (.invokevirtual 130, 3) := by decide +kernel
theorem dX5_ofClock_134 : decode cX5_ofClock 134 = .ok (.ireturn, 1) := by decide +kernel
theorem dX5_ofClock_135 : decode cX5_ofClock 135 = .ok (.bipush (-2), 2) := by decide +kernel
theorem dX5_ofClock_137 : decode cX5_ofClock 137 = .ok (.ireturn, 1) := by decide +kernel
set_option maxRecDepth 20000 in
theorem ggX5_drowse_X3_hasHouse : GoodIn wsX5_drowse wsX3_hasHouse := goodIn_r _ [7, 8, 19, 20, 21, 22, 23, 24, 25, 26, 27, 28] (by decide +kernel) (by decide +kernel)
set_option maxRecDepth 20000 in
theorem gX5_drowse_X3_hasHouse : GoodIn wsX5_drowse (wsV RX5 92 RX3 yX3_hasHouse wsX3_hasHouse) := goodIn_app (goodIn_of _ (by decide +kernel)) ggX5_drowse_X3_hasHouse
theorem dX5_drowse_0 : decode cX5_drowse 0 = .ok (.aload_n 0, 1) := by decide +kernel
theorem dX5_drowse_1 : decode cX5_drowse 1 = .ok (.getfield 12, 3) := by decide +kernel
theorem dX5_drowse_4 : decode cX5_drowse 4 = .ok (.iload_n 1, 1) := by decide +kernel
theorem dX5_drowse_5 : decode cX5_drowse 5 = .ok (.invokevirtual 92, 3) := by decide +kernel
theorem dX5_drowse_8 : decode cX5_drowse 8 = .ok (.ifCond .ne 5, 3) := by decide +kernel
theorem dX5_drowse_11 : decode cX5_drowse 11 = .ok (.iconst (-1), 1) := by decide +kernel
theorem dX5_drowse_12 : decode cX5_drowse 12 = .ok (.ireturn, 1) := by decide +kernel
theorem dX5_drowse_13 : decode cX5_drowse 13 = .ok (.iload_n 2, 1) := by decide +kernel
theorem dX5_drowse_14 : decode cX5_drowse 14 = .ok (.iconst 1, 1) := by decide +kernel
theorem dX5_drowse_15 : decode cX5_drowse 15 = .ok (.if_icmp .lt 9, 3) := by decide +kernel
theorem dX5_drowse_18 : decode cX5_drowse 18 = .ok (.iload_n 2, 1) := by decide +kernel
theorem dX5_drowse_19 : decode cX5_drowse 19 = .ok (.bipush 9, 2) := by decide +kernel
theorem dX5_drowse_21 : decode cX5_drowse 21 = .ok (.if_icmp .le 6, 3) := by decide +kernel
theorem dX5_drowse_24 : decode cX5_drowse 24 = .ok (.bipush (-2), 2) := by decide +kernel
theorem dX5_drowse_26 : decode cX5_drowse 26 = .ok (.ireturn, 1) := by decide +kernel
theorem dX5_drowse_27 : decode cX5_drowse 27 = .ok (.aload_n 0, 1) := by decide +kernel
