theorem dX6_wall_1 : decode cX6_wall 1 = .ok (.iconst 0, 1) := by decide +kernel
theorem dX6_wall_2 : decode cX6_wall 2 = .ok (.iconst 3, 1) := by decide +kernel
theorem dX6_wall_3 : decode cX6_wall 3 = .ok (.invokestatic 64, 3) := by decide +kernel
theorem dX6_wall_6 : decode cX6_wall 6 = .ok (.ifCond .ne 6, 3) := by decide +kernel
theorem dX6_wall_9 : decode cX6_wall 9 = .ok (.bipush (-2), 2) := by decide +kernel
theorem dX6_wall_11 : decode cX6_wall 11 = .ok (.ireturn, 1) := by decide +kernel
theorem dX6_wall_12 : decode cX6_wall 12 = .ok (.aload_n 0, 1) := by decide +kernel
theorem dX6_wall_13 : decode cX6_wall 13 = .ok (.getfield 68, 3) := by decide +kernel
theorem dX6_wall_16 : decode cX6_wall 16 = .ok (.ifCond .ne 6, 3) := by decide +kernel
theorem dX6_wall_19 : decode cX6_wall 19 = .ok (.bipush (-3), 2) := by decide +kernel
theorem dX6_wall_21 : decode cX6_wall 21 = .ok (.ireturn, 1) := by decide +kernel
theorem dX6_wall_22 : decode cX6_wall 22 = .ok (.aload_n 0, 1) := by decide +kernel
theorem dX6_wall_23 : decode cX6_wall 23 = .ok (.getfield 105, 3) := by decide +kernel
theorem dX6_wall_26 : decode cX6_wall 26 = .ok (.istore_n 2, 1) := by decide +kernel
theorem dX6_wall_27 : decode cX6_wall 27 = .ok (.aload_n 0, 1) := by decide +kernel
theorem dX6_wall_28 : decode cX6_wall 28 = .ok (.iload_n 1, 1) := by decide +kernel
theorem dX6_wall_29 : decode cX6_wall 29 = .ok (.putfield 105, 3) := by decide +kernel
theorem dX6_wall_32 : decode cX6_wall 32 = .ok (.iload_n 2, 1) := by decide +kernel
theorem dX6_wall_33 : decode cX6_wall 33 = .ok (.ireturn, 1) := by decide +kernel
set_option maxRecDepth 20000 in
theorem ggX6_hears_X6_isHouse : GoodIn wsX6_hears wsX6_isHouse := goodIn_r _ [7, 8, 28, 29, 30, 31, 32, 33, 34, 35, 36, 37, 38, 39, 40, 41, 42, 43, 44, 45, 46, 47, 48, 49, 50, 51, 52, 53, 54, 55, 56, 57] (by decide +kernel) (by decide +kernel)
set_option maxRecDepth 20000 in
theorem gX6_hears_X6_isHouse : GoodIn wsX6_hears (wsV RX6 151 RX6 yX6_isHouse wsX6_isHouse) := goodIn_app (goodIn_of _ (by decide +kernel)) ggX6_hears_X6_isHouse
set_option maxRecDepth 20000 in
theorem ggX6_hears_X6_isClock : GoodIn wsX6_hears wsX6_isClock := goodIn_r _ [12, 13, 28, 29, 30, 31, 32, 33, 34, 35, 36, 37, 38, 39, 40, 41, 42, 43, 44, 45, 46, 47, 48, 49, 50, 51, 52, 53, 54, 55, 56, 57] (by decide +kernel) (by decide +kernel)
set_option maxRecDepth 20000 in
theorem gX6_hears_X6_isClock : GoodIn wsX6_hears (wsV RX6 154 RX6 yX6_isClock wsX6_isClock) := goodIn_app (goodIn_of _ (by decide +kernel)) ggX6_hears_X6_isClock
set_option maxRecDepth 20000 in
theorem ggX6_hears_X6_heardFrom : GoodIn wsX6_hears wsX6_heardFrom := goodIn_r _ [17, 18, 19, 20, 21, 6, 22, 23, 24, 25, 26, 27, 28, 29, 30, 31, 32, 33, 34, 35, 36, 37, 38, 39, 40, 41, 42, 43, 44, 45, 46, 47, 48, 49, 50, 51, 52, 53, 54, 55, 56, 57] (by decide +kernel) (by decide +kernel)
set_option maxRecDepth 20000 in
theorem gX6_hears_X6_heardFrom : GoodIn wsX6_hears (wsV RX6 142 RX6 yX6_heardFrom wsX6_heardFrom) := goodIn_app (goodIn_of _ (by decide +kernel)) ggX6_hears_X6_heardFrom
theorem dX6_hears_0 : decode cX6_hears 0 = .ok (.aload_n 0, 1) := by decide +kernel
theorem dX6_hears_1 : decode cX6_hears 1 = .ok (.iload_n 1, 1) := by decide +kernel
theorem dX6_hears_2 : decode cX6_hears 2 = .ok (.invokevirtual 151, 3) := by decide +kernel
theorem dX6_hears_5 : decode cX6_hears 5 = .ok (.ifCond .eq 27, 3) := by decide +kernel
theorem dX6_hears_8 : decode cX6_hears 8 = .ok (.aload_n 0, 1) := by decide +kernel
theorem dX6_hears_9 : decode cX6_hears 9 = .ok (.iload_n 2, 1) := by decide +kernel
theorem dX6_hears_10 : decode cX6_hears 10 = .ok (.invokevirtual 154, 3) := by decide +kernel
theorem dX6_hears_13 : decode cX6_hears 13 = .ok (.ifCond .eq 19, 3) := by decide +kernel
theorem dX6_hears_16 : decode cX6_hears 16 = .ok (.aload_n 0, 1) := by decide +kernel
theorem dX6_hears_17 : decode cX6_hears 17 = .ok (.iload_n 1, 1) := by decide +kernel
theorem dX6_hears_18 : decode cX6_hears 18 = .ok (.iload_n 2, 1) := by decide +kernel
theorem dX6_hears_19 : decode cX6_hears 19 = .ok (.aload_n 0, 1) := by decide +kernel
theorem dX6_hears_20 : decode cX6_hears 20 = .ok (.getfield 28, 3) := by decide +kernel
theorem dX6_hears_23 : decode cX6_hears 23 = .ok (.iload_n 2, 1) := by decide +kernel
theorem dX6_hears_24 : decode cX6_hears 24 = .ok (.iaload, 1) := by decide +kernel
theorem dX6_hears_25 : decode cX6_hears 25 = .ok (.invokevirtual 142, 3) := by decide +kernel
theorem dX6_hears_28 : decode cX6_hears 28 = .ok (.i2l, 1) := by decide +kernel
theorem dX6_hears_29 : decode cX6_hears 29 = .ok (.goto 6, 3) := by decide +kernel
theorem dX6_hears_32 : decode cX6_hears 32 = .ok (.ldc2_w 62, 3) := by decide +kernel
theorem dX6_hears_35 : decode cX6_hears 35 = .ok (.lreturn, 1) := by decide +kernel
set_option maxRecDepth 20000 in
theorem ggX6_strikes_X6_ownerFrom : GoodIn wsX6_strikes wsX6_ownerFrom := goodIn_r _ [8, 9, 10, 11, 12, 7, 13, 14, 15, 16, 17, 18, 19, 20, 21, 22, 23, 24, 25, 26, 27, 28, 29, 30, 31, 32, 33, 34, 35, 36, 37, 38, 39, 40, 41, 42, 43, 44, 45, 46, 47, 48, 49, 50, 51, 52, 53, 54, 55, 56, 57, 58, 59, 60, 61, 62, 63] (by decide +kernel) (by decide +kernel)
set_option maxRecDepth 20000 in
theorem gX6_strikes_X6_ownerFrom : GoodIn wsX6_strikes (wsV RX6 161 RX6 yX6_ownerFrom wsX6_ownerFrom) := goodIn_app (goodIn_of _ (by decide +kernel)) ggX6_strikes_X6_ownerFrom
theorem dX6_strikes_0 : decode cX6_strikes 0 = .ok (.aload_n 0, 1) := by decide +kernel
theorem dX6_strikes_1 : decode cX6_strikes 1 = .ok (.iload_n 1, 1) := by decide +kernel
theorem dX6_strikes_2 : decode cX6_strikes 2 = .ok (.aload_n 0, 1) := by decide +kernel
theorem dX6_strikes_3 : decode cX6_strikes 3 = .ok (.getfield 28, 3) := by decide +kernel
theorem dX6_strikes_6 : decode cX6_strikes 6 = .ok (.iload_n 1, 1) := by decide +kernel
theorem dX6_strikes_7 : decode cX6_strikes 7 = .ok (.iaload, 1) := by decide +kernel
theorem dX6_strikes_8 : decode cX6_strikes 8 = .ok (.invokevirtual 161, 3) := by decide +kernel
theorem dX6_strikes_11 : decode cX6_strikes 11 = .ok (.istore_n 2, 1) := by decide +kernel
theorem dX6_strikes_12 : decode cX6_strikes 12 = .ok (.aload_n 0, 1) := by decide +kernel
theorem dX6_strikes_13 : decode cX6_strikes 13 = .ok (.dup, 1) := by decide +kernel
theorem dX6_strikes_14 : decode cX6_strikes 14 = .ok (.getfield 164, 3) := by decide +kernel
theorem dX6_strikes_17 : decode cX6_strikes 17 = .ok (.iload_n 2, 1) := by decide +kernel
theorem dX6_strikes_18 : decode cX6_strikes 18 = .ok (.bipush (-9), 2) := by decide +kernel
theorem dX6_strikes_20 : decode cX6_strikes 20 = .ok (.if_icmp .ne 7, 3) := by decide +kernel
theorem dX6_strikes_23 : decode cX6_strikes 23 = .ok (.iconst 1, 1) := by decide +kernel
theorem dX6_strikes_24 : decode cX6_strikes 24 = .ok (.goto 4, 3) := by decide +kernel
theorem dX6_strikes_27 : decode cX6_strikes 27 = .ok (.iconst 0, 1) := by decide +kernel
theorem dX6_strikes_28 : decode cX6_strikes 28 = .ok (.iadd, 1) := by decide +kernel
theorem dX6_strikes_29 : decode cX6_strikes 29 = .ok (.putfield 164, 3) := by decide +kernel
theorem dX6_strikes_32 : decode cX6_strikes 32 = .ok (.aload_n 0, 1) := by decide +kernel
theorem dX6_strikes_33 : decode cX6_strikes 33 = .ok (.dup, 1) := by decide +kernel
theorem dX6_strikes_34 : decode cX6_strikes 34 = .ok (.getfield 167, 3) := by decide +kernel
theorem dX6_strikes_37 : decode cX6_strikes 37 = .ok (.iload_n 2, 1) := by decide +kernel
theorem dX6_strikes_38 : decode cX6_strikes 38 = .ok (.bipush (-9), 2) := by decide +kernel
theorem dX6_strikes_40 : decode cX6_strikes 40 = .ok (.if_icmp .eq 17, 3) := by decide +kernel
theorem dX6_strikes_43 : decode cX6_strikes 43 = .ok (.iload_n 2, 1) := by decide +kernel
theorem dX6_strikes_44 : decode cX6_strikes 44 = .ok (.aload_n 0, 1) := by decide +kernel
theorem dX6_strikes_45 : decode cX6_strikes 45 = .ok (.getfield 28, 3) := by decide +kernel
theorem dX6_strikes_48 : decode cX6_strikes 48 = .ok (.iload_n 1, 1) := by decide +kernel
theorem dX6_strikes_49 : decode cX6_strikes 49 = .ok (.iaload, 1) := by decide +kernel
theorem dX6_strikes_50 : decode cX6_strikes 50 = .ok (.if_icmp .eq 7, 3) := by decide +kernel
theorem dX6_strikes_53 : decode cX6_strikes 53 = .ok (.iconst 1, 1) := by decide +kernel
theorem dX6_strikes_54 : decode cX6_strikes 54 = .ok (.goto 4, 3) := by decide +kernel
theorem dX6_strikes_57 : decode cX6_strikes 57 = .ok (.iconst 0, 1) := by decide +kernel
theorem dX6_strikes_58 : decode cX6_strikes 58 = .ok (.iadd, 1) := by decide +kernel
theorem dX6_strikes_59 : decode cX6_strikes 59 = .ok (.putfield 167, 3) := by decide +kernel
theorem dX6_strikes_62 : decode cX6_strikes 62 = .ok (.aload_n 0, 1) := by decide +kernel
theorem dX6_strikes_63 : decode cX6_strikes 63 = .ok (.getfield 28, 3) := by decide +kernel
theorem dX6_strikes_66 : decode cX6_strikes 66 = .ok (.iload_n 1, 1) := by decide +kernel
theorem dX6_strikes_67 : decode cX6_strikes 67 = .ok (.iload_n 2, 1) := by decide +kernel
theorem dX6_strikes_68 : decode cX6_strikes 68 = .ok (.bipush (-9), 2) := by decide +kernel
theorem dX6_strikes_70 : decode cX6_strikes 70 = .ok (.if_icmp .ne 12, 3) := by decide +kernel
theorem dX6_strikes_73 : decode cX6_strikes 73 = .ok (.aload_n 0, 1) := by decide +kernel
theorem dX6_strikes_74 : decode cX6_strikes 74 = .ok (.getfield 28, 3) := by decide +kernel
theorem dX6_strikes_77 : decode cX6_strikes 77 = .ok (.iload_n 1, 1) := by decide +kernel
theorem dX6_strikes_78 : decode cX6_strikes 78 = .ok (.iaload, 1) := by decide +kernel
theorem dX6_strikes_79 : decode cX6_strikes 79 = .ok (.goto 4, 3) := by decide +kernel
theorem dX6_strikes_82 : decode cX6_strikes 82 = .ok (.iload_n 2, 1) := by decide +kernel
theorem dX6_strikes_83 : decode cX6_strikes 83 = .ok (.iastore, 1) := by decide +kernel
theorem dX6_strikes_84 : decode cX6_strikes 84 = .ok (.iload_n 2, 1) := by decide +kernel
theorem dX6_strikes_85 : decode cX6_strikes 85 = .ok (.ireturn, 1) := by decide +kernel
set_option maxRecDepth 20000 in
theorem ggX6_oneNight_X6_strikes : GoodIn wsX6_oneNight wsX6_strikes := goodIn_r _ [6, 7, 8, 9, 10, 11, 12, 5, 13, 14, 15, 16, 17, 18, 19, 20, 21, 22, 23, 24, 25, 26, 27, 28, 29, 30, 31, 32, 33, 34, 35, 36, 37, 38, 39, 40, 41, 42, 43, 44, 45, 46, 47, 48, 49, 50, 51, 52, 53, 54, 55, 56, 57, 58, 59, 60, 61, 62, 63, 64, 65, 66, 67, 68] (by decide +kernel) (by decide +kernel)
set_option maxRecDepth 20000 in
theorem gX6_oneNight_X6_strikes : GoodIn wsX6_oneNight (wsV RX6 170 RX6 yX6_strikes wsX6_strikes) := goodIn_app (goodIn_of _ (by decide +kernel)) ggX6_oneNight_X6_strikes
theorem dX6_oneNight_0 : decode cX6_oneNight 0 = .ok (.iconst 0, 1) := by decide +kernel
theorem dX6_oneNight_1 : decode cX6_oneNight 1 = .ok (.istore_n 1, 1) := by decide +kernel
theorem dX6_oneNight_2 : decode cX6_oneNight 2 = .ok (.iload_n 1, 1) := by decide +kernel
theorem dX6_oneNight_3 : decode cX6_oneNight 3 = .ok (.aload_n 0, 1) := by decide +kernel
theorem dX6_oneNight_4 : decode cX6_oneNight 4 = .ok (.getfield 71, 3) := by decide +kernel
theorem dX6_oneNight_7 : decode cX6_oneNight 7 = .ok (.if_icmp .ge 15, 3) := by decide +kernel
theorem dX6_oneNight_10 : decode cX6_oneNight 10 = .ok (.aload_n 0, 1) := by decide +kernel
theorem dX6_oneNight_11 : decode cX6_oneNight 11 = .ok (.iload_n 1, 1) := by decide +kernel
theorem dX6_oneNight_12 : decode cX6_oneNight 12 = .ok (.invokevirtual 170, 3) := by decide +kernel
theorem dX6_oneNight_15 : decode cX6_oneNight 15 = .ok (.pop, 1) := by decide +kernel
theorem dX6_oneNight_16 : decode cX6_oneNight 16 = .ok (.iinc 1 1, 3) := by decide +kernel
theorem dX6_oneNight_19 : decode cX6_oneNight 19 = .ok (.goto (-17), 3) := by decide +kernel
theorem dX6_oneNight_22 : decode cX6_oneNight 22 = .ok (.return_, 1) := by decide +kernel
set_option maxRecDepth 20000 in
theorem ggX6_stroke_X6_isClock : GoodIn wsX6_stroke wsX6_isClock := goodIn_r _ [5, 6, 43, 44, 45, 46, 47, 48, 49, 50, 51, 52, 53, 54, 55, 56, 57, 58, 59, 60, 61, 62, 63, 64, 65, 66, 67, 68, 69, 70, 71, 72] (by decide +kernel) (by decide +kernel)
set_option maxRecDepth 20000 in
theorem gX6_stroke_X6_isClock : GoodIn wsX6_stroke (wsV RX6 154 RX6 yX6_isClock wsX6_isClock) := goodIn_app (goodIn_of _ (by decide +kernel)) ggX6_stroke_X6_isClock
set_option maxRecDepth 20000 in
theorem ggX6_stroke_X6_strikes : GoodIn wsX6_stroke wsX6_strikes := goodIn_r _ [10, 11, 12, 13, 14, 15, 16, 4, 17, 18, 19, 20, 21, 22, 23, 24, 25, 26, 27, 28, 29, 30, 31, 32, 33, 34, 35, 36, 37, 38, 39, 40, 41, 42, 43, 44, 45, 46, 47, 48, 49, 50, 51, 52, 53, 54, 55, 56, 57, 58, 59, 60, 61, 62, 63, 64, 65, 66, 67, 68, 69, 70, 71, 72] (by decide +kernel) (by decide +kernel)
set_option maxRecDepth 20000 in
theorem gX6_stroke_X6_strikes : GoodIn wsX6_stroke (wsV RX6 170 RX6 yX6_strikes wsX6_strikes) := goodIn_app (goodIn_of _ (by decide +kernel)) ggX6_stroke_X6_strikes
theorem dX6_stroke_0 : decode cX6_stroke 0 = .ok (.aload_n 0, 1) := by decide +kernel
theorem dX6_stroke_1 : decode cX6_stroke 1 = .ok (.iload_n 1, 1) := by decide +kernel
theorem dX6_stroke_2 : decode cX6_stroke 2 = .ok (.invokevirtual 154, 3) := by decide +kernel
theorem dX6_stroke_5 : decode cX6_stroke 5 = .ok (.ifCond .eq 11, 3) := by decide +kernel
theorem dX6_stroke_8 : decode cX6_stroke 8 = .ok (.aload_n 0, 1) := by decide +kernel
theorem dX6_stroke_9 : decode cX6_stroke 9 = .ok (.iload_n 1, 1) := by decide +kernel
theorem dX6_stroke_10 : decode cX6_stroke 10 = .ok (.invokevirtual 170, 3) := by decide +kernel
theorem dX6_stroke_13 : decode cX6_stroke 13 = .ok (.goto 4, 3) := by decide +kernel
theorem dX6_stroke_16 : decode cX6_stroke 16 = .ok (.iconst (-1), 1) := by decide +kernel
theorem dX6_stroke_17 : decode cX6_stroke 17 = .ok (.ireturn, 1) := by decide +kernel
theorem dX6_keep_0 : decode cX6_keep 0 = .ok (.iconst 0, 1) := by decide +kernel
theorem dX6_keep_1 : decode cX6_keep 1 = .ok (.istore_n 1, 1) := by decide +kernel
theorem dX6_keep_2 : decode cX6_keep 2 = .ok (.iload_n 1, 1) := by decide +kernel
theorem dX6_keep_3 : decode cX6_keep 3 = .ok (.aload_n 0, 1) := by decide +kernel
theorem dX6_keep_4 : decode cX6_keep 4 = .ok (.getfield 71, 3) := by decide +kernel
theorem dX6_keep_7 : decode cX6_keep 7 = .ok (.if_icmp .ge 21, 3) := by decide +kernel
theorem dX6_keep_10 : decode cX6_keep 10 = .ok (.aload_n 0, 1) := by decide +kernel
theorem dX6_keep_11 : decode cX6_keep 11 = .ok (.getfield 37, 3) := by decide +kernel
theorem dX6_keep_14 : decode cX6_keep 14 = .ok (.iload_n 1, 1) := by decide +kernel
theorem dX6_keep_15 : decode cX6_keep 15 = .ok (.aload_n 0, 1) := by decide +kernel
theorem dX6_keep_16 : decode cX6_keep 16 = .ok (.getfield 28, 3) := by decide +kernel
theorem dX6_keep_19 : decode cX6_keep 19 = .ok (.iload_n 1, 1) := by decide +kernel
theorem dX6_keep_20 : decode cX6_keep 20 = .ok (.iaload, 1) := by decide +kernel
theorem dX6_keep_21 : decode cX6_keep 21 = .ok (.iastore, 1) := by decide +kernel
theorem dX6_keep_22 : decode cX6_keep 22 = .ok (.iinc 1 1, 3) := by decide +kernel
theorem dX6_keep_25 : decode cX6_keep 25 = .ok (.goto (-23), 3) := by decide +kernel
theorem dX6_keep_28 : decode cX6_keep 28 = .ok (.return_, 1) := by decide +kernel
theorem dX6_putBack_0 : decode cX6_putBack 0 = .ok (.iconst 0, 1) := by decide +kernel
theorem dX6_putBack_1 : decode cX6_putBack 1 = .ok (.istore_n 1, 1) := by decide +kernel
theorem dX6_putBack_2 : decode cX6_putBack 2 = .ok (.iload_n 1, 1) := by decide +kernel
theorem dX6_putBack_3 : decode cX6_putBack 3 = .ok (.aload_n 0, 1) := by decide +kernel
theorem dX6_putBack_4 : decode cX6_putBack 4 = .ok (.getfield 71, 3) := by decide +kernel
theorem dX6_putBack_7 : decode cX6_putBack 7 = .ok (.if_icmp .ge 21, 3) := by decide +kernel
theorem dX6_putBack_10 : decode cX6_putBack 10 = .ok (.aload_n 0, 1) := by decide +kernel
theorem dX6_putBack_11 : decode cX6_putBack 11 = .ok (.getfield 28, 3) := by decide +kernel
theorem dX6_putBack_14 : decode cX6_putBack 14 = .ok (.iload_n 1, 1) := by decide +kernel
theorem dX6_putBack_15 : decode cX6_putBack 15 = .ok (.aload_n 0, 1) := by decide +kernel
theorem dX6_putBack_16 : decode cX6_putBack 16 = .ok (.getfield 37, 3) := by decide +kernel
theorem dX6_putBack_19 : decode cX6_putBack 19 = .ok (.iload_n 1, 1) := by decide +kernel
theorem dX6_putBack_20 : decode cX6_putBack 20 = .ok (.iaload, 1) := by decide +kernel
theorem dX6_putBack_21 : decode cX6_putBack 21 = .ok (.iastore, 1) := by decide +kernel
theorem dX6_putBack_22 : decode cX6_putBack 22 = .ok (.iinc 1 1, 3) := by decide +kernel
theorem dX6_putBack_25 : decode cX6_putBack 25 = .ok (.goto (-23), 3) := by decide +kernel
theorem dX6_putBack_28 : decode cX6_putBack 28 = .ok (.return_, 1) := by decide +kernel
theorem dX6_elsewhere_0 : decode cX6_elsewhere 0 = .ok (.iconst 0, 1) := by decide +kernel
theorem dX6_elsewhere_1 : decode cX6_elsewhere 1 = .ok (.istore_n 1, 1) := by decide +kernel
theorem dX6_elsewhere_2 : decode cX6_elsewhere 2 = .ok (.iconst 0, 1) := by decide +kernel
theorem dX6_elsewhere_3 : decode cX6_elsewhere 3 = .ok (.istore_n 2, 1) := by decide +kernel
theorem dX6_elsewhere_4 : decode cX6_elsewhere 4 = .ok (.iload_n 2, 1) := by decide +kernel
theorem dX6_elsewhere_5 : decode cX6_elsewhere 5 = .ok (.aload_n 0, 1) := by decide +kernel
theorem dX6_elsewhere_6 : decode cX6_elsewhere 6 = .ok (.getfield 71, 3) := by decide +kernel
theorem dX6_elsewhere_9 : decode cX6_elsewhere 9 = .ok (.if_icmp .ge 32, 3) := by decide +kernel
theorem dX6_elsewhere_12 : decode cX6_elsewhere 12 = .ok (.iload_n 1, 1) := by decide +kernel
theorem dX6_elsewhere_13 : decode cX6_elsewhere 13 = .ok (.aload_n 0, 1) := by decide +kernel
theorem dX6_elsewhere_14 : decode cX6_elsewhere 14 = .ok (.getfield 28, 3) := by decide +kernel
theorem dX6_elsewhere_17 : decode cX6_elsewhere 17 = .ok (.iload_n 2, 1) := by decide +kernel
theorem dX6_elsewhere_18 : decode cX6_elsewhere 18 = .ok (.iaload, 1) := by decide +kernel
theorem dX6_elsewhere_19 : decode cX6_elsewhere 19 = .ok (.aload_n 0, 1) := by decide +kernel
theorem dX6_elsewhere_20 : decode cX6_elsewhere 20 = .ok (.getfield 37, 3) := by decide +kernel
theorem dX6_elsewhere_23 : decode cX6_elsewhere 23 = .ok (.iload_n 2, 1) := by decide +kernel
theorem dX6_elsewhere_24 : decode cX6_elsewhere 24 = .ok (.iaload, 1) := by decide +kernel
theorem dX6_elsewhere_25 : decode cX6_elsewhere 25 = .ok (.if_icmp .ne 7, 3) := by decide +kernel
theorem dX6_elsewhere_28 : decode cX6_elsewhere 28 = .ok (.iconst 0, 1) := by decide +kernel
theorem dX6_elsewhere_29 : decode cX6_elsewhere 29 = .ok (.goto 4, 3) := by decide +kernel
theorem dX6_elsewhere_32 : decode cX6_elsewhere 32 = .ok (.iconst 1, 1) := by decide +kernel
theorem dX6_elsewhere_33 : decode cX6_elsewhere 33 = .ok (.iadd, 1) := by decide +kernel
theorem dX6_elsewhere_34 : decode cX6_elsewhere 34 = .ok (.istore_n 1, 1) := by decide +kernel
theorem dX6_elsewhere_35 : decode cX6_elsewhere 35 = .ok (.iinc 2 1, 3) := by decide +kernel
theorem dX6_elsewhere_38 : decode cX6_elsewhere 38 = .ok (.goto (-34), 3) := by decide +kernel
theorem dX6_elsewhere_41 : decode cX6_elsewhere 41 = .ok (.iload_n 1, 1) := by decide +kernel
theorem dX6_elsewhere_42 : decode cX6_elsewhere 42 = .ok (.ireturn, 1) := by decide +kernel
set_option maxRecDepth 20000 in
theorem ggX6_nights_X6_within : GoodIn wsX6_nights wsX6_within := goodIn_r _ [6] (by decide +kernel) (by decide +kernel)
set_option maxRecDepth 20000 in
theorem gX6_nights_X6_within : GoodIn wsX6_nights (va_wsS RX6 64 yX6_within wsX6_within) := goodIn_app (goodIn_of _ (by decide +kernel)) ggX6_nights_X6_within
set_option maxRecDepth 20000 in
theorem ggX6_nights_X6_keep : GoodIn wsX6_nights wsX6_keep := goodIn_r _ [10, 11, 12, 13, 56, 57, 58, 59, 60, 61, 62, 63, 64, 65, 66, 67, 68, 69, 70, 71, 72, 73, 74, 75, 76, 77, 78, 79, 80, 81, 82, 83, 84, 85] (by decide +kernel) (by decide +kernel)
set_option maxRecDepth 20000 in
theorem gX6_nights_X6_keep : GoodIn wsX6_nights (wsV RX6 173 RX6 yX6_keep wsX6_keep) := goodIn_app (goodIn_of _ (by decide +kernel)) ggX6_nights_X6_keep
set_option maxRecDepth 20000 in
theorem ggX6_nights_X6_oneNight : GoodIn wsX6_nights wsX6_oneNight := goodIn_r _ [17, 11, 18, 19, 20, 5, 21, 13, 22, 23, 24, 25, 26, 27, 1, 28, 29, 30, 31, 32, 33, 34, 35, 36, 37, 38, 39, 40, 41, 42, 43, 44, 45, 46, 47, 48, 49, 50, 51, 56, 57, 58, 59, 60, 61, 62, 63, 64, 65, 66, 67, 68, 69, 70, 71, 72, 73, 74, 75, 76, 77, 78, 79, 80, 81, 82, 83, 84, 85] (by decide +kernel) (by decide +kernel)
set_option maxRecDepth 20000 in
theorem gX6_nights_X6_oneNight : GoodIn wsX6_nights (wsV RX6 176 RX6 yX6_oneNight wsX6_oneNight) := goodIn_app (goodIn_of _ (by decide +kernel)) ggX6_nights_X6_oneNight
set_option maxRecDepth 20000 in
theorem ggX6_nights_X6_elsewhere : GoodIn wsX6_nights wsX6_elsewhere := goodIn_r _ [55, 11, 13, 12, 56, 57, 58, 59, 60, 61, 62, 63, 64, 65, 66, 67, 68, 69, 70, 71, 72, 73, 74, 75, 76, 77, 78, 79, 80, 81, 82, 83, 84, 85] (by decide +kernel) (by decide +kernel)
set_option maxRecDepth 20000 in
theorem gX6_nights_X6_elsewhere : GoodIn wsX6_nights (wsV RX6 179 RX6 yX6_elsewhere wsX6_elsewhere) := goodIn_app (goodIn_of _ (by decide +kernel)) ggX6_nights_X6_elsewhere
theorem dX6_nights_0 : decode cX6_nights 0 = .ok (.iload_n 1, 1) := by decide +kernel
theorem dX6_nights_1 : decode cX6_nights 1 = .ok (.iconst 1, 1) := by decide +kernel
theorem dX6_nights_2 : decode cX6_nights 2 = .ok (.bipush 60, 2) := by decide +kernel
theorem dX6_nights_4 : decode cX6_nights 4 = .ok (.invokestatic 64, 3) := by decide +kernel
theorem dX6_nights_7 : decode cX6_nights 7 = .ok (.ifCond .ne 6, 3) := by decide +kernel
theorem dX6_nights_10 : decode cX6_nights 10 = .ok (.bipush (-2), 2) := by decide +kernel
theorem dX6_nights_12 : decode cX6_nights 12 = .ok (.ireturn, 1) := by decide +kernel
theorem dX6_nights_13 : decode cX6_nights 13 = .ok (.aload_n 0, 1) := by decide +kernel
theorem dX6_nights_14 : decode cX6_nights 14 = .ok (.getfield 68, 3) := by decide +kernel
theorem dX6_nights_17 : decode cX6_nights 17 = .ok (.ifCond .ne 6, 3) := by decide +kernel
theorem dX6_nights_20 : decode cX6_nights 20 = .ok (.bipush (-3), 2) := by decide +kernel
theorem dX6_nights_22 : decode cX6_nights 22 = .ok (.ireturn, 1) := by decide +kernel
theorem dX6_nights_23 : decode cX6_nights 23 = .ok (.aload_n 0, 1) := by decide +kernel
theorem dX6_nights_24 : decode cX6_nights 24 = .ok (.invokevirtual 173, 3) := by decide +kernel
theorem dX6_nights_27 : decode cX6_nights 27 = .ok (.iconst 0, 1) := by decide +kernel
theorem dX6_nights_28 : decode cX6_nights 28 = .ok (.istore_n 2, 1) := by decide +kernel
theorem dX6_nights_29 : decode cX6_nights 29 = .ok (.iload_n 2, 1) := by decide +kernel
theorem dX6_nights_30 : decode cX6_nights 30 = .ok (.iload_n 1, 1) := by decide +kernel
theorem dX6_nights_31 : decode cX6_nights 31 = .ok (.if_icmp .ge 13, 3) := by decide +kernel
theorem dX6_nights_34 : decode cX6_nights 34 = .ok (.aload_n 0, 1) := by decide +kernel
theorem dX6_nights_35 : decode cX6_nights 35 = .ok (.invokevirtual 176, 3) := by decide +kernel
theorem dX6_nights_38 : decode cX6_nights 38 = .ok (.iinc 2 1, 3) := by decide +kernel
theorem dX6_nights_41 : decode cX6_nights 41 = .ok (.goto (-12), 3) := by decide +kernel
theorem dX6_nights_44 : decode cX6_nights 44 = .ok (.aload_n 0, 1) := by decide +kernel
theorem dX6_nights_45 : decode cX6_nights 45 = .ok (.dup, 1) := by decide +kernel
theorem dX6_nights_46 : decode cX6_nights 46 = .ok (.getfield 117, 3) := by decide +kernel
theorem dX6_nights_49 : decode cX6_nights 49 = .ok (.iload_n 1, 1) := by decide +kernel
theorem dX6_nights_50 : decode cX6_nights 50 = .ok (.iadd, 1) := by decide +kernel
theorem dX6_nights_51 : decode cX6_nights 51 = .ok (.putfield 117, 3) := by decide +kernel
theorem dX6_nights_54 : decode cX6_nights 54 = .ok (.aload_n 0, 1) := by decide +kernel
theorem dX6_nights_55 : decode cX6_nights 55 = .ok (.invokevirtual 179, 3) := by decide +kernel
theorem dX6_nights_58 : decode cX6_nights 58 = .ok (.ireturn, 1) := by decide +kernel
set_option maxRecDepth 20000 in
theorem ggX6_stuff_X6_isClock : GoodIn wsX6_stuff wsX6_isClock := goodIn_r _ [6, 7, 14, 15, 16, 17, 18, 19, 20, 21, 22, 23, 24, 25, 26, 27, 28, 29, 30, 31, 32, 33, 34, 35, 36, 37, 38, 39, 40, 41, 42, 43] (by decide +kernel) (by decide +kernel)
set_option maxRecDepth 20000 in
theorem gX6_stuff_X6_isClock : GoodIn wsX6_stuff (wsV RX6 154 RX6 yX6_isClock wsX6_isClock) := goodIn_app (goodIn_of _ (by decide +kernel)) ggX6_stuff_X6_isClock
set_option maxRecDepth 20000 in
theorem ggX6_stuff_X6_isOf : GoodIn wsX6_stuff wsX6_isOf := goodIn_r _ [10] (by decide +kernel) (by decide +kernel)
set_option maxRecDepth 20000 in
theorem gX6_stuff_X6_isOf : GoodIn wsX6_stuff (va_wsS RX6 136 yX6_isOf wsX6_isOf) := goodIn_app (goodIn_of _ (by decide +kernel)) ggX6_stuff_X6_isOf
set_option maxRecDepth 20000 in
theorem ggX6_stuff_X6_size : GoodIn wsX6_stuff wsX6_size := goodIn_r _ [13] (by decide +kernel) (by decide +kernel)
set_option maxRecDepth 20000 in
theorem gX6_stuff_X6_size : GoodIn wsX6_stuff (va_wsS RX6 183 yX6_size wsX6_size) := goodIn_app (goodIn_of _ (by decide +kernel)) ggX6_stuff_X6_size
theorem dX6_stuff_0 : decode cX6_stuff 0 = .ok (.aload_n 0, 1) := by decide +kernel
theorem dX6_stuff_1 : decode cX6_stuff 1 = .ok (.iload_n 1, 1) := by decide +kernel
theorem dX6_stuff_2 : decode cX6_stuff 2 = .ok (.invokevirtual 154, 3) := by decide +kernel
theorem dX6_stuff_5 : decode cX6_stuff 5 = .ok (.ifCond .ne 5, 3) := by decide +kernel
theorem dX6_stuff_8 : decode cX6_stuff 8 = .ok (.iconst (-1), 1) := by decide +kernel
theorem dX6_stuff_9 : decode cX6_stuff 9 = .ok (.ireturn, 1) := by decide +kernel
theorem dX6_stuff_10 : decode cX6_stuff 10 = .ok (.aload_n 0, 1) := by decide +kernel
theorem dX6_stuff_11 : decode cX6_stuff 11 = .ok (.getfield 114, 3) := by decide +kernel
theorem dX6_stuff_14 : decode cX6_stuff 14 = .ok (.iload_n 1, 1) := by decide +kernel
theorem dX6_stuff_15 : decode cX6_stuff 15 = .ok (.invokestatic 136, 3) := by decide +kernel
theorem dX6_stuff_18 : decode cX6_stuff 18 = .ok (.ifCond .eq 6, 3) := by decide +kernel
theorem dX6_stuff_21 : decode cX6_stuff 21 = .ok (.bipush (-3), 2) := by decide +kernel
theorem dX6_stuff_23 : decode cX6_stuff 23 = .ok (.ireturn, 1) := by decide +kernel
theorem dX6_stuff_24 : decode cX6_stuff 24 = .ok (.aload_n 0, 1) := by decide +kernel
theorem dX6_stuff_25 : decode cX6_stuff 25 = .ok (.dup, 1) := by decide +kernel
theorem dX6_stuff_26 : decode cX6_stuff 26 = .ok (.getfield 114, 3) := by decide +kernel
theorem dX6_stuff_29 : decode cX6_stuff 29 = .ok (.iconst 1, 1) := by decide +kernel
theorem dX6_stuff_30 : decode cX6_stuff 30 = .ok (.iload_n 1, 1) := by decide +kernel
theorem dX6_stuff_31 : decode cX6_stuff 31 = .ok (.ishl, 1) := by decide +kernel
theorem dX6_stuff_32 : decode cX6_stuff 32 = .ok (.ior, 1) := by decide +kernel
theorem dX6_stuff_33 : decode cX6_stuff 33 = .ok (.putfield 114, 3) := by decide +kernel
theorem dX6_stuff_36 : decode cX6_stuff 36 = .ok (.aload_n 0, 1) := by decide +kernel
theorem dX6_stuff_37 : decode cX6_stuff 37 = .ok (.getfield 114, 3) := by decide +kernel
theorem dX6_stuff_40 : decode cX6_stuff 40 = .ok (.invokestatic 183, 3) := by decide +kernel
theorem dX6_stuff_43 : decode cX6_stuff 43 = .ok (.ireturn, 1) := by decide +kernel
set_option maxRecDepth 20000 in
theorem ggX6_ease_X6_isClock : GoodIn wsX6_ease wsX6_isClock := goodIn_r _ [6, 7, 14, 15, 16, 17, 18, 19, 20, 21, 22, 23, 24, 25, 26, 27, 28, 29, 30, 31, 32, 33, 34, 35, 36, 37, 38, 39, 40, 41, 42, 43] (by decide +kernel) (by decide +kernel)
set_option maxRecDepth 20000 in
theorem gX6_ease_X6_isClock : GoodIn wsX6_ease (wsV RX6 154 RX6 yX6_isClock wsX6_isClock) := goodIn_app (goodIn_of _ (by decide +kernel)) ggX6_ease_X6_isClock
set_option maxRecDepth 20000 in
theorem ggX6_ease_X6_isOf : GoodIn wsX6_ease wsX6_isOf := goodIn_r _ [10] (by decide +kernel) (by decide +kernel)
set_option maxRecDepth 20000 in
theorem gX6_ease_X6_isOf : GoodIn wsX6_ease (va_wsS RX6 136 yX6_isOf wsX6_isOf) := goodIn_app (goodIn_of _ (by decide +kernel)) ggX6_ease_X6_isOf
set_option maxRecDepth 20000 in
theorem ggX6_ease_X6_size : GoodIn wsX6_ease wsX6_size := goodIn_r _ [13] (by decide +kernel) (by decide +kernel)
set_option maxRecDepth 20000 in
theorem gX6_ease_X6_size : GoodIn wsX6_ease (va_wsS RX6 183 yX6_size wsX6_size) := goodIn_app (goodIn_of _ (by decide +kernel)) ggX6_ease_X6_size
theorem dX6_ease_0 : decode cX6_ease 0 = .ok (.aload_n 0, 1) := by decide +kernel
theorem dX6_ease_1 : decode cX6_ease 1 = .ok (.iload_n 1, 1) := by decide +kernel
theorem dX6_ease_2 : decode cX6_ease 2 = .ok (.invokevirtual 154, 3) := by decide +kernel
theorem dX6_ease_5 : decode cX6_ease 5 = .ok (.ifCond .ne 5, 3) := by decide +kernel
theorem dX6_ease_8 : decode cX6_ease 8 = .ok (.iconst (-1), 1) := by decide +kernel
theorem dX6_ease_9 : decode cX6_ease 9 = .ok (.ireturn, 1) := by decide +kernel
theorem dX6_ease_10 : decode cX6_ease 10 = .ok (.aload_n 0, 1) := by decide +kernel
theorem dX6_ease_11 : decode cX6_ease 11 = .ok (.getfield 114, 3) := by decide +kernel
theorem dX6_ease_14 : decode cX6_ease 14 = .ok (.iload_n 1, 1) := by decide +kernel
theorem dX6_ease_15 : decode cX6_ease 15 = .ok (.invokestatic 136, 3) := by decide +kernel
theorem dX6_ease_18 : decode cX6_ease 18 = .ok (.ifCond .ne 6, 3) := by decide +kernel
theorem dX6_ease_21 : decode cX6_ease 21 = .ok (.bipush (-3), 2) := by decide +kernel
theorem dX6_ease_23 : decode cX6_ease 23 = .ok (.ireturn, 1) := by decide +kernel
theorem dX6_ease_24 : decode cX6_ease 24 = .ok (.aload_n 0, 1) := by decide +kernel
theorem dX6_ease_25 : decode cX6_ease 25 = .ok (.dup, 1) := by decide +kernel
theorem dX6_ease_26 : decode cX6_ease 26 = .ok (.getfield 114, 3) := by decide +kernel
theorem dX6_ease_29 : decode cX6_ease 29 = .ok (.iconst 1, 1) := by decide +kernel
theorem dX6_ease_30 : decode cX6_ease 30 = .ok (.iload_n 1, 1) := by decide +kernel
theorem dX6_ease_31 : decode cX6_ease 31 = .ok (.ishl, 1) := by decide +kernel
theorem dX6_ease_32 : decode cX6_ease 32 = .ok (.iconst (-1), 1) := by decide +kernel
theorem dX6_ease_33 : decode cX6_ease 33 = .ok (.ixor, 1) := by decide +kernel
theorem dX6_ease_34 : decode cX6_ease 34 = .ok (.iand, 1) := by decide +kernel
theorem dX6_ease_35 : decode cX6_ease 35 = .ok (.putfield 114, 3) := by decide +kernel
theorem dX6_ease_38 : decode cX6_ease 38 = .ok (.aload_n 0, 1) := by decide +kernel
theorem dX6_ease_39 : decode cX6_ease 39 = .ok (.getfield 114, 3) := by decide +kernel
theorem dX6_ease_42 : decode cX6_ease 42 = .ok (.invokestatic 183, 3) := by decide +kernel
theorem dX6_ease_45 : decode cX6_ease 45 = .ok (.ireturn, 1) := by decide +kernel
set_option maxRecDepth 20000 in
theorem ggX6_carry_X6_isClock : GoodIn wsX6_carry wsX6_isClock := goodIn_r _ [6, 7, 13, 14, 15, 16, 17, 18, 19, 20, 21, 22, 23, 24, 25, 26, 27, 28, 29, 30, 31, 32, 33, 34, 35, 36, 37, 38, 39, 40, 41, 42] (by decide +kernel) (by decide +kernel)
set_option maxRecDepth 20000 in
theorem gX6_carry_X6_isClock : GoodIn wsX6_carry (wsV RX6 154 RX6 yX6_isClock wsX6_isClock) := goodIn_app (goodIn_of _ (by decide +kernel)) ggX6_carry_X6_isClock
set_option maxRecDepth 20000 in
theorem ggX6_carry_X6_isHouse : GoodIn wsX6_carry wsX6_isHouse := goodIn_r _ [11, 12, 13, 14, 15, 16, 17, 18, 19, 20, 21, 22, 23, 24, 25, 26, 27, 28, 29, 30, 31, 32, 33, 34, 35, 36, 37, 38, 39, 40, 41, 42] (by decide +kernel) (by decide +kernel)
set_option maxRecDepth 20000 in
theorem gX6_carry_X6_isHouse : GoodIn wsX6_carry (wsV RX6 151 RX6 yX6_isHouse wsX6_isHouse) := goodIn_app (goodIn_of _ (by decide +kernel)) ggX6_carry_X6_isHouse
theorem dX6_carry_0 : decode cX6_carry 0 = .ok (.aload_n 0, 1) := by decide +kernel
theorem dX6_carry_1 : decode cX6_carry 1 = .ok (.iload_n 1, 1) := by decide +kernel
theorem dX6_carry_2 : decode cX6_carry 2 = .ok (.invokevirtual 154, 3) := by decide +kernel
theorem dX6_carry_5 : decode cX6_carry 5 = .ok (.ifCond .eq 11, 3) := by decide +kernel
theorem dX6_carry_8 : decode cX6_carry 8 = .ok (.aload_n 0, 1) := by decide +kernel
theorem dX6_carry_9 : decode cX6_carry 9 = .ok (.iload_n 2, 1) := by decide +kernel
theorem dX6_carry_10 : decode cX6_carry 10 = .ok (.invokevirtual 151, 3) := by decide +kernel
theorem dX6_carry_13 : decode cX6_carry 13 = .ok (.ifCond .ne 5, 3) := by decide +kernel
theorem dX6_carry_16 : decode cX6_carry 16 = .ok (.iconst (-1), 1) := by decide +kernel
theorem dX6_carry_17 : decode cX6_carry 17 = .ok (.ireturn, 1) := by decide +kernel
theorem dX6_carry_18 : decode cX6_carry 18 = .ok (.aload_n 0, 1) := by decide +kernel
theorem dX6_carry_19 : decode cX6_carry 19 = .ok (.getfield 28, 3) := by decide +kernel
theorem dX6_carry_22 : decode cX6_carry 22 = .ok (.iload_n 1, 1) := by decide +kernel
theorem dX6_carry_23 : decode cX6_carry 23 = .ok (.iaload, 1) := by decide +kernel
theorem dX6_carry_24 : decode cX6_carry 24 = .ok (.istore_n 3, 1) := by decide +kernel
theorem dX6_carry_25 : decode cX6_carry 25 = .ok (.aload_n 0, 1) := by decide +kernel
theorem dX6_carry_26 : decode cX6_carry 26 = .ok (.getfield 28, 3) := by decide +kernel
theorem dX6_carry_29 : decode cX6_carry 29 = .ok (.iload_n 1, 1) := by decide +kernel
theorem dX6_carry_30 : decode cX6_carry 30 = .ok (.iload_n 2, 1) := by decide +kernel
theorem dX6_carry_31 : decode cX6_carry 31 = .ok (.iastore, 1) := by decide +kernel
theorem dX6_carry_32 : decode cX6_carry 32 = .ok (.iload_n 3, 1) := by decide +kernel
theorem dX6_carry_33 : decode cX6_carry 33 = .ok (.ireturn, 1) := by decide +kernel
set_option maxRecDepth 20000 in
theorem ggX6_does_X6_oneNight : GoodIn wsX6_does wsX6_oneNight := goodIn_r _ [7, 8, 9, 10, 11, 6, 12, 1, 13, 14, 15, 16, 17, 18, 19, 20, 21, 22, 23, 24, 25, 26, 27, 28, 29, 30, 31, 32, 2, 33, 34, 35, 36, 37, 38, 39, 40, 41, 42, 47, 48, 49, 50, 51, 52, 53, 54, 55, 56, 57, 58, 59, 60, 61, 62, 63, 64, 65, 66, 67, 68, 69, 70, 71, 72, 73, 74, 75, 76] (by decide +kernel) (by decide +kernel)
set_option maxRecDepth 20000 in
theorem gX6_does_X6_oneNight : GoodIn wsX6_does (wsV RX6 176 RX6 yX6_oneNight wsX6_oneNight) := goodIn_app (goodIn_of _ (by decide +kernel)) ggX6_does_X6_oneNight
set_option maxRecDepth 20000 in
theorem ggX6_does_X6_isClock : GoodIn wsX6_does wsX6_isClock := goodIn_r _ [46, 8, 47, 48, 49, 50, 51, 52, 53, 54, 55, 56, 57, 58, 59, 60, 61, 62, 63, 64, 65, 66, 67, 68, 69, 70, 71, 72, 73, 74, 75, 76] (by decide +kernel) (by decide +kernel)
set_option maxRecDepth 20000 in
theorem gX6_does_X6_isClock : GoodIn wsX6_does (wsV RX6 154 RX6 yX6_isClock wsX6_isClock) := goodIn_app (goodIn_of _ (by decide +kernel)) ggX6_does_X6_isClock
set_option maxRecDepth 20000 in
theorem ggX6_does_X6_strikes : GoodIn wsX6_does wsX6_strikes := goodIn_r _ [12, 1, 13, 14, 15, 16, 17, 6, 18, 19, 20, 21, 22, 23, 24, 25, 26, 27, 28, 29, 30, 31, 32, 2, 33, 34, 35, 36, 37, 38, 39, 40, 41, 42, 47, 48, 49, 50, 51, 52, 53, 54, 55, 56, 57, 58, 59, 60, 61, 62, 63, 64, 65, 66, 67, 68, 69, 70, 71, 72, 73, 74, 75, 76] (by decide +kernel) (by decide +kernel)
set_option maxRecDepth 20000 in
theorem gX6_does_X6_strikes : GoodIn wsX6_does (wsV RX6 170 RX6 yX6_strikes wsX6_strikes) := goodIn_app (goodIn_of _ (by decide +kernel)) ggX6_does_X6_strikes
set_option maxRecDepth 20000 in
theorem ggX6_does_X6_isOf : GoodIn wsX6_does wsX6_isOf := goodIn_r _ [36] (by decide +kernel) (by decide +kernel)
set_option maxRecDepth 20000 in
theorem gX6_does_X6_isOf : GoodIn wsX6_does (va_wsS RX6 136 yX6_isOf wsX6_isOf) := goodIn_app (goodIn_of _ (by decide +kernel)) ggX6_does_X6_isOf
theorem dX6_does_0 : decode cX6_does 0 = .ok (.iload_n 2, 1) := by decide +kernel
theorem dX6_does_1 : decode cX6_does 1 = .ok (.iconst 3, 1) := by decide +kernel
theorem dX6_does_2 : decode cX6_does 2 = .ok (.if_icmp .ne 22, 3) := by decide +kernel
theorem dX6_does_5 : decode cX6_does 5 = .ok (.iconst 0, 1) := by decide +kernel
theorem dX6_does_6 : decode cX6_does 6 = .ok (.istore_n 3, 1) := by decide +kernel
theorem dX6_does_7 : decode cX6_does 7 = .ok (.iload_n 3, 1) := by decide +kernel
theorem dX6_does_8 : decode cX6_does 8 = .ok (.iload_n 1, 1) := by decide +kernel
theorem dX6_does_9 : decode cX6_does 9 = .ok (.if_icmp .ge 13, 3) := by decide +kernel
theorem dX6_does_12 : decode cX6_does 12 = .ok (.aload_n 0, 1) := by decide +kernel
theorem dX6_does_13 : decode cX6_does 13 = .ok (.invokevirtual 176, 3) := by decide +kernel
theorem dX6_does_16 : decode cX6_does 16 = .ok (.iinc 3 1, 3) := by decide +kernel
theorem dX6_does_19 : decode cX6_does 19 = .ok (.goto (-12), 3) := by decide +kernel
theorem dX6_does_22 : decode cX6_does 22 = .ok (.iconst 1, 1) := by decide +kernel
theorem dX6_does_23 : decode cX6_does 23 = .ok (.ireturn, 1) := by decide +kernel
theorem dX6_does_24 : decode cX6_does 24 = .ok (.iload_n 2, 1) := by decide +kernel
theorem dX6_does_25 : decode cX6_does 25 = .ok (.bipush 10, 2) := by decide +kernel
theorem dX6_does_27 : decode cX6_does 27 = .ok (.if_icmp .lt 28, 3) := by decide +kernel
theorem dX6_does_30 : decode cX6_does 30 = .ok (.aload_n 0, 1) := by decide +kernel
theorem dX6_does_31 : decode cX6_does 31 = .ok (.iload_n 2, 1) := by decide +kernel
theorem dX6_does_32 : decode cX6_does 32 = .ok (.bipush 10, 2) := by decide +kernel
theorem dX6_does_34 : decode cX6_does 34 = .ok (.isub, 1) := by decide +kernel
theorem dX6_does_35 : decode cX6_does 35 = .ok (.invokevirtual 154, 3) := by decide +kernel
theorem dX6_does_38 : decode cX6_does 38 = .ok (.ifCond .ne 5, 3) := by decide +kernel
theorem dX6_does_41 : decode cX6_does 41 = .ok (.iconst 0, 1) := by decide +kernel
theorem dX6_does_42 : decode cX6_does 42 = .ok (.ireturn, 1) := by decide +kernel
theorem dX6_does_43 : decode cX6_does 43 = .ok (.aload_n 0, 1) := by decide +kernel
theorem dX6_does_44 : decode cX6_does 44 = .ok (.getfield 28, 3) := by decide +kernel
theorem dX6_does_47 : decode cX6_does 47 = .ok (.iload_n 2, 1) := by decide +kernel
theorem dX6_does_48 : decode cX6_does 48 = .ok (.bipush 10, 2) := by decide +kernel
theorem dX6_does_50 : decode cX6_does 50 = .ok (.isub, 1) := by decide +kernel
theorem dX6_does_51 : decode cX6_does 51 = .ok (.iload_n 1, 1) := by decide +kernel
theorem dX6_does_52 : decode cX6_does 52 = .ok (.iastore, 1) := by decide +kernel
theorem dX6_does_53 : decode cX6_does 53 = .ok (.iconst 1, 1) := by decide +kernel
theorem dX6_does_54 : decode cX6_does 54 = .ok (.ireturn, 1) := by decide +kernel
theorem dX6_does_55 : decode cX6_does 55 = .ok (.iload_n 2, 1) := by decide +kernel
theorem dX6_does_56 : decode cX6_does 56 = .ok (.ifCond .ne 11, 3) := by decide +kernel
theorem dX6_does_59 : decode cX6_does 59 = .ok (.aload_n 0, 1) := by decide +kernel
theorem dX6_does_60 : decode cX6_does 60 = .ok (.iload_n 1, 1) := by decide +kernel
theorem dX6_does_61 : decode cX6_does 61 = .ok (.invokevirtual 170, 3) := by decide +kernel
theorem dX6_does_64 : decode cX6_does 64 = .ok (.pop, 1) := by decide +kernel
theorem dX6_does_65 : decode cX6_does 65 = .ok (.iconst 1, 1) := by decide +kernel
theorem dX6_does_66 : decode cX6_does 66 = .ok (.ireturn, 1) := by decide +kernel
theorem dX6_does_67 : decode cX6_does 67 = .ok (.aload_n 0, 1) := by decide +kernel
theorem dX6_does_68 : decode cX6_does 68 = .ok (.getfield 114, 3) := by decide +kernel
theorem dX6_does_71 : decode cX6_does 71 = .ok (.iload_n 1, 1) := by decide +kernel
theorem dX6_does_72 : decode cX6_does 72 = .ok (.invokestatic 136, 3) := by decide +kernel
theorem dX6_does_75 : decode cX6_does 75 = .ok (.iload_n 2, 1) := by decide +kernel
theorem dX6_does_76 : decode cX6_does 76 = .ok (.iconst 2, 1) := by decide +kernel
theorem dX6_does_77 : decode cX6_does 77 = .ok (.if_icmp .ne 7, 3) := by decide +kernel
theorem dX6_does_80 : decode cX6_does 80 = .ok (.iconst 1, 1) := by decide +kernel
theorem dX6_does_81 : decode cX6_does 81 = .ok (.goto 4, 3) := by decide +kernel
theorem dX6_does_84 : decode cX6_does 84 = .ok (.iconst 0, 1) := by decide +kernel
theorem dX6_does_85 : decode cX6_does 85 = .ok (.if_icmp .eq 5, 3) := by decide +kernel
theorem dX6_does_88 : decode cX6_does 88 = .ok (.iconst 0, 1) := by decide +kernel
theorem dX6_does_89 : decode cX6_does 89 = .ok (.ireturn, 1) := by decide +kernel
theorem dX6_does_90 : decode cX6_does 90 = .ok (.aload_n 0, 1) := by decide +kernel
theorem dX6_does_91 : decode cX6_does 91 = .ok (.dup, 1) := by decide +kernel
theorem dX6_does_92 : decode cX6_does 92 = .ok (.getfield 114, 3) := by decide +kernel
theorem dX6_does_95 : decode cX6_does 95 = .ok (.iconst 1, 1) := by decide +kernel
theorem dX6_does_96 : decode cX6_does 96 = .ok (.iload_n 1, 1) := by decide +kernel
theorem dX6_does_97 : decode cX6_does 97 = .ok (.ishl, 1) := by decide +kernel
theorem dX6_does_98 : decode cX6_does 98 = .ok (.ixor, 1) := by decide +kernel
theorem dX6_does_99 : decode cX6_does 99 = .ok (.putfield 114, 3) := by decide +kernel
theorem dX6_does_102 : decode cX6_does 102 = .ok (.iconst 1, 1) := by decide +kernel
theorem dX6_does_103 : decode cX6_does 103 = .ok (.ireturn, 1) := by decide +kernel
set_option maxRecDepth 20000 in
theorem ggX6_goSeason_X6_does : GoodIn wsX6_goSeason wsX6_does := goodIn_r _ [8, 9, 10, 11, 12, 13, 7, 14, 15, 16, 17, 18, 19, 2, 1, 20, 21, 22, 23, 24, 25, 26, 27, 28, 29, 30, 31, 32, 33, 34, 35, 36, 37, 38, 39, 40, 41, 42, 43, 44, 45, 46, 47, 48, 49, 50, 51, 52, 53, 54, 55, 56, 57, 58, 59, 60, 61, 62, 63, 64, 65, 66, 67, 68, 69, 70, 71, 72, 73, 74, 75, 76, 77, 78, 79, 80, 81] (by decide +kernel) (by decide +kernel)
set_option maxRecDepth 20000 in
theorem gX6_goSeason_X6_does : GoodIn wsX6_goSeason (wsV RX6 186 RX6 yX6_does wsX6_does) := goodIn_app (goodIn_of _ (by decide +kernel)) ggX6_goSeason_X6_does
theorem dX6_goSeason_0 : decode cX6_goSeason 0 = .ok (.aload_n 0, 1) := by decide +kernel
theorem dX6_goSeason_1 : decode cX6_goSeason 1 = .ok (.iconst 0, 1) := by decide +kernel
theorem dX6_goSeason_2 : decode cX6_goSeason 2 = .ok (.putfield 167, 3) := by decide +kernel
theorem dX6_goSeason_5 : decode cX6_goSeason 5 = .ok (.aload_n 0, 1) := by decide +kernel
theorem dX6_goSeason_6 : decode cX6_goSeason 6 = .ok (.iconst 0, 1) := by decide +kernel
theorem dX6_goSeason_7 : decode cX6_goSeason 7 = .ok (.putfield 164, 3) := by decide +kernel
theorem dX6_goSeason_10 : decode cX6_goSeason 10 = .ok (.iconst 0, 1) := by decide +kernel
theorem dX6_goSeason_11 : decode cX6_goSeason 11 = .ok (.istore_n 3, 1) := by decide +kernel
theorem dX6_goSeason_12 : decode cX6_goSeason 12 = .ok (.iload_n 3, 1) := by decide +kernel
theorem dX6_goSeason_13 : decode cX6_goSeason 13 = .ok (.iload_n 2, 1) := by decide +kernel
theorem dX6_goSeason_14 : decode cX6_goSeason 14 = .ok (.if_icmp .ge 40, 3) := by decide +kernel
theorem dX6_goSeason_17 : decode cX6_goSeason 17 = .ok (.aload_n 0, 1) := by decide +kernel
theorem dX6_goSeason_18 : decode cX6_goSeason 18 = .ok (.aload_n 0, 1) := by decide +kernel
theorem dX6_goSeason_19 : decode cX6_goSeason 19 = .ok (.getfield 16, 3) := by decide +kernel
theorem dX6_goSeason_22 : decode cX6_goSeason 22 = .ok (.iload_n 1, 1) := by decide +kernel
theorem dX6_goSeason_23 : decode cX6_goSeason 23 = .ok (.iconst 2, 1) := by decide +kernel
theorem dX6_goSeason_24 : decode cX6_goSeason 24 = .ok (.iload_n 3, 1) := by decide +kernel
theorem dX6_goSeason_25 : decode cX6_goSeason 25 = .ok (.imul, 1) := by decide +kernel
theorem dX6_goSeason_26 : decode cX6_goSeason 26 = .ok (.iadd, 1) := by decide +kernel
theorem dX6_goSeason_27 : decode cX6_goSeason 27 = .ok (.iaload, 1) := by decide +kernel
theorem dX6_goSeason_28 : decode cX6_goSeason 28 = .ok (.aload_n 0, 1) := by decide +kernel
theorem dX6_goSeason_29 : decode cX6_goSeason 29 = .ok (.getfield 16, 3) := by decide +kernel
theorem dX6_goSeason_32 : decode cX6_goSeason 32 = .ok (.iload_n 1, 1) := by decide +kernel
theorem dX6_goSeason_33 : decode cX6_goSeason 33 = .ok (.iconst 2, 1) := by decide +kernel
theorem dX6_goSeason_34 : decode cX6_goSeason 34 = .ok (.iload_n 3, 1) := by decide +kernel
theorem dX6_goSeason_35 : decode cX6_goSeason 35 = .ok (.imul, 1) := by decide +kernel
theorem dX6_goSeason_36 : decode cX6_goSeason 36 = .ok (.iadd, 1) := by decide +kernel
theorem dX6_goSeason_37 : decode cX6_goSeason 37 = .ok (.iconst 1, 1) := by decide +kernel
theorem dX6_goSeason_38 : decode cX6_goSeason 38 = .ok (.iadd, 1) := by decide +kernel
theorem dX6_goSeason_39 : decode cX6_goSeason 39 = .ok (.iaload, 1) := by decide +kernel
theorem dX6_goSeason_40 : decode cX6_goSeason 40 = .ok (.invokevirtual 186, 3) := by decide +kernel
theorem dX6_goSeason_43 : decode cX6_goSeason 43 = .ok (.ifCond .ne 5, 3) := by decide +kernel
theorem dX6_goSeason_46 : decode cX6_goSeason 46 = .ok (.iload_n 3, 1) := by decide +kernel
theorem dX6_goSeason_47 : decode cX6_goSeason 47 = .ok (.ireturn, 1) := by decide +kernel
theorem dX6_goSeason_48 : decode cX6_goSeason 48 = .ok (.iinc 3 1, 3) := by decide +kernel
theorem dX6_goSeason_51 : decode cX6_goSeason 51 = .ok (.goto (-39), 3) := by decide +kernel
theorem dX6_goSeason_54 : decode cX6_goSeason 54 = .ok (.bipush (-9), 2) := by decide +kernel
theorem dX6_goSeason_56 : decode cX6_goSeason 56 = .ok (.ireturn, 1) := by decide +kernel
set_option maxRecDepth 20000 in
theorem ggX6_refusesPair_X6_within : GoodIn wsX6_refusesPair wsX6_within := goodIn_r _ [4] (by decide +kernel) (by decide +kernel)
set_option maxRecDepth 20000 in
theorem gX6_refusesPair_X6_within : GoodIn wsX6_refusesPair (va_wsS RX6 64 yX6_within wsX6_within) := goodIn_app (goodIn_of _ (by decide +kernel)) ggX6_refusesPair_X6_within
set_option maxRecDepth 20000 in
theorem ggX6_refusesPair_X6_isHouse : GoodIn wsX6_refusesPair wsX6_isHouse := goodIn_r _ [8, 9, 15, 16, 17, 18, 19, 20, 21, 22, 23, 24, 25, 26, 27, 28, 29, 30, 31, 32, 33, 34, 35, 36, 37, 38, 39, 40, 41, 42, 43, 44] (by decide +kernel) (by decide +kernel)
set_option maxRecDepth 20000 in
theorem gX6_refusesPair_X6_isHouse : GoodIn wsX6_refusesPair (wsV RX6 151 RX6 yX6_isHouse wsX6_isHouse) := goodIn_app (goodIn_of _ (by decide +kernel)) ggX6_refusesPair_X6_isHouse
set_option maxRecDepth 20000 in
theorem ggX6_refusesPair_X6_isClock : GoodIn wsX6_refusesPair wsX6_isClock := goodIn_r _ [13, 14, 15, 16, 17, 18, 19, 20, 21, 22, 23, 24, 25, 26, 27, 28, 29, 30, 31, 32, 33, 34, 35, 36, 37, 38, 39, 40, 41, 42, 43, 44] (by decide +kernel) (by decide +kernel)
set_option maxRecDepth 20000 in
theorem gX6_refusesPair_X6_isClock : GoodIn wsX6_refusesPair (wsV RX6 154 RX6 yX6_isClock wsX6_isClock) := goodIn_app (goodIn_of _ (by decide +kernel)) ggX6_refusesPair_X6_isClock
theorem dX6_refusesPair_0 : decode cX6_refusesPair 0 = .ok (.iload_n 2, 1) := by decide +kernel
theorem dX6_refusesPair_1 : decode cX6_refusesPair 1 = .ok (.bipush 10, 2) := by decide +kernel
theorem dX6_refusesPair_3 : decode cX6_refusesPair 3 = .ok (.bipush 13, 2) := by decide +kernel
theorem dX6_refusesPair_5 : decode cX6_refusesPair 5 = .ok (.invokestatic 64, 3) := by decide +kernel
theorem dX6_refusesPair_8 : decode cX6_refusesPair 8 = .ok (.istore_n 3, 1) := by decide +kernel
theorem dX6_refusesPair_9 : decode cX6_refusesPair 9 = .ok (.iload_n 2, 1) := by decide +kernel
theorem dX6_refusesPair_10 : decode cX6_refusesPair 10 = .ok (.iconst 0, 1) := by decide +kernel
theorem dX6_refusesPair_11 : decode cX6_refusesPair 11 = .ok (.iconst 3, 1) := by decide +kernel
theorem dX6_refusesPair_12 : decode cX6_refusesPair 12 = .ok (.invokestatic 64, 3) := by decide +kernel
theorem dX6_refusesPair_15 : decode cX6_refusesPair 15 = .ok (.ifCond .ne 7, 3) := by decide +kernel
theorem dX6_refusesPair_18 : decode cX6_refusesPair 18 = .ok (.iload_n 3, 1) := by decide +kernel
theorem dX6_refusesPair_19 : decode cX6_refusesPair 19 = .ok (.ifCond .eq 18, 3) := by decide +kernel
theorem dX6_refusesPair_22 : decode cX6_refusesPair 22 = .ok (.iload_n 2, 1) := by decide +kernel
theorem dX6_refusesPair_23 : decode cX6_refusesPair 23 = .ok (.iconst 3, 1) := by decide +kernel
theorem dX6_refusesPair_24 : decode cX6_refusesPair 24 = .ok (.if_icmp .ne 16, 3) := by decide +kernel
theorem dX6_refusesPair_27 : decode cX6_refusesPair 27 = .ok (.iload_n 1, 1) := by decide +kernel
theorem dX6_refusesPair_28 : decode cX6_refusesPair 28 = .ok (.iconst 0, 1) := by decide +kernel
theorem dX6_refusesPair_29 : decode cX6_refusesPair 29 = .ok (.bipush 9, 2) := by decide +kernel
theorem dX6_refusesPair_31 : decode cX6_refusesPair 31 = .ok (.invokestatic 64, 3) := by decide +kernel
theorem dX6_refusesPair_34 : decode cX6_refusesPair 34 = .ok (.ifCond .ne 6, 3) := by decide +kernel
theorem dX6_refusesPair_37 : decode cX6_refusesPair 37 = .ok (.bipush (-2), 2) := by decide +kernel
theorem dX6_refusesPair_39 : decode cX6_refusesPair 39 = .ok (.ireturn, 1) := by decide +kernel
theorem dX6_refusesPair_40 : decode cX6_refusesPair 40 = .ok (.iload_n 3, 1) := by decide +kernel
theorem dX6_refusesPair_41 : decode cX6_refusesPair 41 = .ok (.ifCond .eq 17, 3) := by decide +kernel
theorem dX6_refusesPair_44 : decode cX6_refusesPair 44 = .ok (.aload_n 0, 1) := by decide +kernel
theorem dX6_refusesPair_45 : decode cX6_refusesPair 45 = .ok (.iload_n 1, 1) := by decide +kernel
theorem dX6_refusesPair_46 : decode cX6_refusesPair 46 = .ok (.invokevirtual 151, 3) := by decide +kernel
theorem dX6_refusesPair_49 : decode cX6_refusesPair 49 = .ok (.ifCond .eq 7, 3) := by decide +kernel
theorem dX6_refusesPair_52 : decode cX6_refusesPair 52 = .ok (.iconst 0, 1) := by decide +kernel
theorem dX6_refusesPair_53 : decode cX6_refusesPair 53 = .ok (.goto 4, 3) := by decide +kernel
theorem dX6_refusesPair_56 : decode cX6_refusesPair 56 = .ok (.iconst (-1), 1) := by decide +kernel
theorem dX6_refusesPair_57 : decode cX6_refusesPair 57 = .ok (.ireturn, 1) := by decide +kernel
theorem dX6_refusesPair_58 : decode cX6_refusesPair 58 = .ok (.iload_n 2, 1) := by decide +kernel
theorem dX6_refusesPair_59 : decode cX6_refusesPair 59 = .ok (.iconst 3, 1) := by decide +kernel
theorem dX6_refusesPair_60 : decode cX6_refusesPair 60 = .ok (.if_icmp .eq 11, 3) := by decide +kernel
theorem dX6_refusesPair_63 : decode cX6_refusesPair 63 = .ok (.aload_n 0, 1) := by decide +kernel
theorem dX6_refusesPair_64 : decode cX6_refusesPair 64 = .ok (.iload_n 1, 1) := by decide +kernel
theorem dX6_refusesPair_65 : decode cX6_refusesPair 65 = .ok (.invokevirtual 154, 3) := by decide +kernel
theorem dX6_refusesPair_68 : decode cX6_refusesPair 68 = .ok (.ifCond .eq 7, 3) := by decide +kernel
theorem dX6_refusesPair_71 : decode cX6_refusesPair 71 = .ok (.iconst 0, 1) := by decide +kernel
theorem dX6_refusesPair_72 : decode cX6_refusesPair 72 = .ok (.goto 4, 3) := by decide +kernel
theorem dX6_refusesPair_75 : decode cX6_refusesPair 75 = .ok (.iconst (-1), 1) := by decide +kernel
theorem dX6_refusesPair_76 : decode cX6_refusesPair 76 = .ok (.ireturn, 1) := by decide +kernel
set_option maxRecDepth 20000 in
theorem ggX6_season_X6_isSheet : GoodIn wsX6_season wsX6_isSheet := goodIn_r _ [8, 9, 10, 7, 11] (by decide +kernel) (by decide +kernel)
set_option maxRecDepth 20000 in
theorem gX6_season_X6_isSheet : GoodIn wsX6_season (va_wsS RX6 81 yX6_isSheet wsX6_isSheet) := goodIn_app (goodIn_of _ (by decide +kernel)) ggX6_season_X6_isSheet
set_option maxRecDepth 20000 in
theorem ggX6_season_X6_isSort : GoodIn wsX6_season wsX6_isSort := goodIn_r _ [14, 9, 10, 7, 11] (by decide +kernel) (by decide +kernel)
set_option maxRecDepth 20000 in
theorem gX6_season_X6_isSort : GoodIn wsX6_season (va_wsS RX6 85 yX6_isSort wsX6_isSort) := goodIn_app (goodIn_of _ (by decide +kernel)) ggX6_season_X6_isSort
set_option maxRecDepth 20000 in
theorem ggX6_season_X6_within : GoodIn wsX6_season wsX6_within := goodIn_r _ [11] (by decide +kernel) (by decide +kernel)
set_option maxRecDepth 20000 in
theorem gX6_season_X6_within : GoodIn wsX6_season (va_wsS RX6 64 yX6_within wsX6_within) := goodIn_app (goodIn_of _ (by decide +kernel)) ggX6_season_X6_within
set_option maxRecDepth 20000 in
theorem ggX6_season_X6_against : GoodIn wsX6_season wsX6_against := goodIn_r _ [18, 19, 20, 97, 98, 99, 100, 101, 102, 103, 104, 105, 106, 107, 108, 109, 110, 111, 112, 113, 114, 115, 116, 117, 118, 119, 120, 121, 122, 123, 124, 125, 126] (by decide +kernel) (by decide +kernel)
set_option maxRecDepth 20000 in
theorem gX6_season_X6_against : GoodIn wsX6_season (wsV RX6 88 RX6 yX6_against wsX6_against) := goodIn_app (goodIn_of _ (by decide +kernel)) ggX6_season_X6_against
set_option maxRecDepth 20000 in
theorem ggX6_season_X6_fails : GoodIn wsX6_season wsX6_fails := goodIn_r _ [24, 1, 97, 98, 99, 100, 101, 102, 103, 104, 105, 106, 107, 108, 109, 110, 111, 112, 113, 114, 115, 116, 117, 118, 119, 120, 121, 122, 123, 124, 125, 126] (by decide +kernel) (by decide +kernel)
set_option maxRecDepth 20000 in
theorem gX6_season_X6_fails : GoodIn wsX6_season (wsV RX6 92 RX6 yX6_fails wsX6_fails) := goodIn_app (goodIn_of _ (by decide +kernel)) ggX6_season_X6_fails
set_option maxRecDepth 20000 in
theorem ggX6_season_X6_refusesPair : GoodIn wsX6_season wsX6_refusesPair := goodIn_r _ [28, 9, 10, 7, 11, 29, 30, 31, 32, 2, 33, 34, 35, 36, 37, 97, 98, 99, 100, 101, 102, 103, 104, 105, 106, 107, 108, 109, 110, 111, 112, 113, 114, 115, 116, 117, 118, 119, 120, 121, 122, 123, 124, 125, 126] (by decide +kernel) (by decide +kernel)
set_option maxRecDepth 20000 in
theorem gX6_season_X6_refusesPair : GoodIn wsX6_season (wsV RX6 189 RX6 yX6_refusesPair wsX6_refusesPair) := goodIn_app (goodIn_of _ (by decide +kernel)) ggX6_season_X6_refusesPair
set_option maxRecDepth 20000 in
theorem ggX6_season_X6_keep : GoodIn wsX6_season wsX6_keep := goodIn_r _ [41, 37, 42, 43, 97, 98, 99, 100, 101, 102, 103, 104, 105, 106, 107, 108, 109, 110, 111, 112, 113, 114, 115, 116, 117, 118, 119, 120, 121, 122, 123, 124, 125, 126] (by decide +kernel) (by decide +kernel)
set_option maxRecDepth 20000 in
theorem gX6_season_X6_keep : GoodIn wsX6_season (wsV RX6 173 RX6 yX6_keep wsX6_keep) := goodIn_app (goodIn_of _ (by decide +kernel)) ggX6_season_X6_keep
set_option maxRecDepth 20000 in
theorem ggX6_season_X6_goSeason : GoodIn wsX6_season wsX6_goSeason := goodIn_r _ [47, 48, 49, 3, 50, 51, 52, 7, 53, 43, 4, 54, 55, 56, 57, 37, 58, 59, 60, 61, 62, 63, 64, 65, 2, 66, 67, 68, 69, 70, 71, 72, 73, 74, 75, 76, 77, 78, 79, 80, 81, 82, 83, 84, 85, 86, 87, 88, 33, 34, 35, 36, 97, 98, 99, 100, 101, 102, 103, 104, 105, 106, 107, 108, 109, 110, 111, 112, 113, 114, 115, 116, 117, 118, 119, 120, 121, 122, 123, 124, 125, 126] (by decide +kernel) (by decide +kernel)
set_option maxRecDepth 20000 in
theorem gX6_season_X6_goSeason : GoodIn wsX6_season (wsV RX6 192 RX6 yX6_goSeason wsX6_goSeason) := goodIn_app (goodIn_of _ (by decide +kernel)) ggX6_season_X6_goSeason
set_option maxRecDepth 20000 in
theorem ggX6_season_X6_tellSeason : GoodIn wsX6_season wsX6_tellSeason := goodIn_r _ [92, 43, 4, 48, 49, 37, 33, 34, 35, 7, 36, 97, 98, 99, 100, 101, 102, 103, 104, 105, 106, 107, 108, 109, 110, 111, 112, 113, 114, 115, 116, 117, 118, 119, 120, 121, 122, 123, 124, 125, 126] (by decide +kernel) (by decide +kernel)
set_option maxRecDepth 20000 in
theorem gX6_season_X6_tellSeason : GoodIn wsX6_season (wsV RX6 195 RX6 yX6_tellSeason wsX6_tellSeason) := goodIn_app (goodIn_of _ (by decide +kernel)) ggX6_season_X6_tellSeason
set_option maxRecDepth 20000 in
theorem ggX6_season_X6_putBack : GoodIn wsX6_season wsX6_putBack := goodIn_r _ [96, 37, 43, 42, 97, 98, 99, 100, 101, 102, 103, 104, 105, 106, 107, 108, 109, 110, 111, 112, 113, 114, 115, 116, 117, 118, 119, 120, 121, 122, 123, 124, 125, 126] (by decide +kernel) (by decide +kernel)
set_option maxRecDepth 20000 in
theorem gX6_season_X6_putBack : GoodIn wsX6_season (wsV RX6 198 RX6 yX6_putBack wsX6_putBack) := goodIn_app (goodIn_of _ (by decide +kernel)) ggX6_season_X6_putBack
theorem dX6_season_0 : decode cX6_season 0 = .ok (.aload_n 0, 1) := by decide +kernel
theorem dX6_season_1 : decode cX6_season 1 = .ok (.iconst 0, 1) := by decide +kernel
theorem dX6_season_2 : decode cX6_season 2 = .ok (.putfield 58, 3) := by decide +kernel
theorem dX6_season_5 : decode cX6_season 5 = .ok (.iload_n 1, 1) := by decide +kernel
theorem dX6_season_6 : decode cX6_season 6 = .ok (.invokestatic 81, 3) := by decide +kernel
theorem dX6_season_9 : decode cX6_season 9 = .ok (.ifCond .ne 5, 3) := by decide +kernel
theorem dX6_season_12 : decode cX6_season 12 = .ok (.iconst (-1), 1) := by decide +kernel
theorem dX6_season_13 : decode cX6_season 13 = .ok (.ireturn, 1) := by decide +kernel
theorem dX6_season_14 : decode cX6_season 14 = .ok (.iload_n 2, 1) := by decide +kernel
theorem dX6_season_15 : decode cX6_season 15 = .ok (.invokestatic 85, 3) := by decide +kernel
theorem dX6_season_18 : decode cX6_season 18 = .ok (.ifCond .eq 36, 3) := by decide +kernel
theorem dX6_season_21 : decode cX6_season 21 = .ok (.iload 4, 2) := by decide +kernel
theorem dX6_season_23 : decode cX6_season 23 = .ok (.iconst 0, 1) := by decide +kernel
theorem dX6_season_24 : decode cX6_season 24 = .ok (.bipush 20, 2) := by decide +kernel
theorem dX6_season_26 : decode cX6_season 26 = .ok (.invokestatic 64, 3) := by decide +kernel
theorem dX6_season_29 : decode cX6_season 29 = .ok (.ifCond .eq 25, 3) := by decide +kernel
theorem dX6_season_32 : decode cX6_season 32 = .ok (.iload 5, 2) := by decide +kernel
theorem dX6_season_34 : decode cX6_season 34 = .ok (.iconst 0, 1) := by decide +kernel
theorem dX6_season_35 : decode cX6_season 35 = .ok (.iconst 4, 1) := by decide +kernel
theorem dX6_season_36 : decode cX6_season 36 = .ok (.invokestatic 64, 3) := by decide +kernel
theorem dX6_season_39 : decode cX6_season 39 = .ok (.ifCond .ne 18, 3) := by decide +kernel
theorem dX6_season_42 : decode cX6_season 42 = .ok (.iload 5, 2) := by decide +kernel
theorem dX6_season_44 : decode cX6_season 44 = .ok (.bipush 10, 2) := by decide +kernel
theorem dX6_season_46 : decode cX6_season 46 = .ok (.bipush 13, 2) := by decide +kernel
theorem dX6_season_48 : decode cX6_season 48 = .ok (.invokestatic 64, 3) := by decide +kernel
theorem dX6_season_51 : decode cX6_season 51 = .ok (.ifCond .ne 6, 3) := by decide +kernel
theorem dX6_season_54 : decode cX6_season 54 = .ok (.bipush (-2), 2) := by decide +kernel
theorem dX6_season_56 : decode cX6_season 56 = .ok (.ireturn, 1) := by decide +kernel
theorem dX6_season_57 : decode cX6_season 57 = .ok (.aload_n 0, 1) := by decide +kernel
theorem dX6_season_58 : decode cX6_season 58 = .ok (.iload_n 1, 1) := by decide +kernel
theorem dX6_season_59 : decode cX6_season 59 = .ok (.iload_n 2, 1) := by decide +kernel
theorem dX6_season_60 : decode cX6_season 60 = .ok (.iload_n 3, 1) := by decide +kernel
theorem dX6_season_61 : decode cX6_season 61 = .ok (.iconst 2, 1) := by decide +kernel
theorem dX6_season_62 : decode cX6_season 62 = .ok (.iload 4, 2) := by decide +kernel
theorem dX6_season_64 : decode cX6_season 64 = .ok (.imul, 1) := by decide +kernel
theorem dX6_season_65 : decode cX6_season 65 = .ok (.invokevirtual 88, 3) := by decide +kernel
theorem dX6_season_68 : decode cX6_season 68 = .ok (.istore 6, 2) := by decide +kernel
theorem dX6_season_70 : decode cX6_season 70 = .ok (.iload 6, 2) := by decide +kernel
theorem dX6_season_72 : decode cX6_season 72 = .ok (.ifCond .eq 10, 3) := by decide +kernel
theorem dX6_season_75 : decode cX6_season 75 = .ok (.aload_n 0, 1) := by decide +kernel
theorem dX6_season_76 : decode cX6_season 76 = .ok (.iload 6, 2) := by decide +kernel
theorem dX6_season_78 : decode cX6_season 78 = .ok (.invokevirtual 92, 3) := by decide +kernel
theorem dX6_season_81 : decode cX6_season 81 = .ok (.ireturn, 1) := by decide +kernel
theorem dX6_season_82 : decode cX6_season 82 = .ok (.aload_n 0, 1) := by decide +kernel
theorem dX6_season_83 : decode cX6_season 83 = .ok (.getfield 68, 3) := by decide +kernel
theorem dX6_season_86 : decode cX6_season 86 = .ok (.ifCond .ne 6, 3) := by decide +kernel
theorem dX6_season_89 : decode cX6_season 89 = .ok (.bipush (-3), 2) := by decide +kernel
theorem dX6_season_91 : decode cX6_season 91 = .ok (.ireturn, 1) := by decide +kernel
theorem dX6_season_92 : decode cX6_season 92 = .ok (.bipush 60, 2) := by decide +kernel
theorem dX6_season_94 : decode cX6_season 94 = .ok (.iload_n 1, 1) := by decide +kernel
theorem dX6_season_95 : decode cX6_season 95 = .ok (.imul, 1) := by decide +kernel
theorem dX6_season_96 : decode cX6_season 96 = .ok (.iload_n 3, 1) := by decide +kernel
theorem dX6_season_97 : decode cX6_season 97 = .ok (.iadd, 1) := by decide +kernel
theorem dX6_season_98 : decode cX6_season 98 = .ok (.istore 7, 2) := by decide +kernel
theorem dX6_season_100 : decode cX6_season 100 = .ok (.iconst 0, 1) := by decide +kernel
theorem dX6_season_101 : decode cX6_season 101 = .ok (.istore 8, 2) := by decide +kernel
theorem dX6_season_103 : decode cX6_season 103 = .ok (.iload 8, 2) := by decide +kernel
theorem dX6_season_105 : decode cX6_season 105 = .ok (.iload 4, 2) := by decide +kernel
theorem dX6_season_107 : decode cX6_season 107 = .ok (.if_icmp .ge 49, 3) := by decide +kernel
theorem dX6_season_110 : decode cX6_season 110 = .ok (.aload_n 0, 1) := by decide +kernel
theorem dX6_season_111 : decode cX6_season 111 = .ok (.aload_n 0, 1) := by decide +kernel
theorem dX6_season_112 : decode cX6_season 112 = .ok (.getfield 16, 3) := by decide +kernel
theorem dX6_season_115 : decode cX6_season 115 = .ok (.iload 7, 2) := by decide +kernel
theorem dX6_season_117 : decode cX6_season 117 = .ok (.iconst 2, 1) := by decide +kernel
theorem dX6_season_118 : decode cX6_season 118 = .ok (.iload 8, 2) := by decide +kernel
theorem dX6_season_120 : decode cX6_season 120 = .ok (.imul, 1) := by decide +kernel
theorem dX6_season_121 : decode cX6_season 121 = .ok (.iadd, 1) := by decide +kernel
theorem dX6_season_122 : decode cX6_season 122 = .ok (.iaload, 1) := by decide +kernel
theorem dX6_season_123 : decode cX6_season 123 = .ok (.aload_n 0, 1) := by decide +kernel
theorem dX6_season_124 : decode cX6_season 124 = .ok (.getfield 16, 3) := by decide +kernel
theorem dX6_season_127 : decode cX6_season 127 = .ok (.iload 7, 2) := by decide +kernel
theorem dX6_season_129 : decode cX6_season 129 = .ok (.iconst 2, 1) := by decide +kernel
theorem dX6_season_130 : decode cX6_season 130 = .ok (.iload 8, 2) := by decide +kernel
theorem dX6_season_132 : decode cX6_season 132 = .ok (.imul, 1) := by decide +kernel
theorem dX6_season_133 : decode cX6_season 133 = .ok (.iadd, 1) := by decide +kernel
theorem dX6_season_134 : decode cX6_season 134 = .ok (.iconst 1, 1) := by decide +kernel
theorem dX6_season_135 : decode cX6_season 135 = .ok (.iadd, 1) := by decide +kernel
theorem dX6_season_136 : decode cX6_season 136 = .ok (.iaload, 1) := by decide +kernel
theorem dX6_season_137 : decode cX6_season 137 = .ok (.invokevirtual 189, 3) := by decide +kernel
theorem dX6_season_140 : decode cX6_season 140 = .ok (.istore 9, 2) := by decide +kernel
theorem dX6_season_142 : decode cX6_season 142 = .ok (.iload 9, 2) := by decide +kernel
theorem dX6_season_144 : decode cX6_season 144 = .ok (.ifCond .eq 6, 3) := by decide +kernel
theorem dX6_season_147 : decode cX6_season 147 = .ok (.iload 9, 2) := by decide +kernel
theorem dX6_season_149 : decode cX6_season 149 = .ok (.ireturn, 1) := by decide +kernel
theorem dX6_season_150 : decode cX6_season 150 = .ok (.iinc 8 1, 3) := by decide +kernel
theorem dX6_season_153 : decode cX6_season 153 = .ok (.goto (-50), 3) := by decide +kernel
theorem dX6_season_156 : decode cX6_season 156 = .ok (.aload_n 0, 1) := by decide +kernel
theorem dX6_season_157 : decode cX6_season 157 = .ok (.invokevirtual 173, 3) := by decide +kernel
theorem dX6_season_160 : decode cX6_season 160 = .ok (.aload_n 0, 1) := by decide +kernel
theorem dX6_season_161 : decode cX6_season 161 = .ok (.getfield 114, 3) := by decide +kernel
theorem dX6_season_164 : decode cX6_season 164 = .ok (.istore 8, 2) := by decide +kernel
theorem dX6_season_166 : decode cX6_season 166 = .ok (.aload_n 0, 1) := by decide +kernel
theorem dX6_season_167 : decode cX6_season 167 = .ok (.iload 7, 2) := by decide +kernel
theorem dX6_season_169 : decode cX6_season 169 = .ok (.iload 4, 2) := by decide +kernel
theorem dX6_season_171 : decode cX6_season 171 = .ok (.invokevirtual 192, 3) := by decide +kernel
theorem dX6_season_174 : decode cX6_season 174 = .ok (.istore 9, 2) := by decide +kernel
theorem dX6_season_176 : decode cX6_season 176 = .ok (.aload_n 0, 1) := by decide +kernel
theorem dX6_season_177 : decode cX6_season 177 = .ok (.iload 5, 2) := by decide +kernel
theorem dX6_season_179 : decode cX6_season 179 = .ok (.invokevirtual 195, 3) := by decide +kernel
theorem dX6_season_182 : decode cX6_season 182 = .ok (.istore 10, 2) := by decide +kernel
theorem dX6_season_184 : decode cX6_season 184 = .ok (.aload_n 0, 1) := by decide +kernel
theorem dX6_season_185 : decode cX6_season 185 = .ok (.invokevirtual 198, 3) := by decide +kernel
theorem dX6_season_188 : decode cX6_season 188 = .ok (.aload_n 0, 1) := by decide +kernel
theorem dX6_season_189 : decode cX6_season 189 = .ok (.iload 8, 2) := by decide +kernel
theorem dX6_season_191 : decode cX6_season 191 = .ok (.putfield 114, 3) := by decide +kernel
theorem dX6_season_194 : decode cX6_season 194 = .ok (.iload 5, 2) := by decide +kernel
theorem dX6_season_196 : decode cX6_season 196 = .ok (.iconst 1, 1) := by decide +kernel
theorem dX6_season_197 : decode cX6_season 197 = .ok (.if_icmp .ne 8, 3) := by decide +kernel
theorem dX6_season_200 : decode cX6_season 200 = .ok (.iload 9, 2) := by decide +kernel
theorem dX6_season_202 : decode cX6_season 202 = .ok (.goto 20, 3) := by decide +kernel
theorem dX6_season_205 : decode cX6_season 205 = .ok (.iload 9, 2) := by decide +kernel
theorem dX6_season_207 : decode cX6_season 207 = .ok (.bipush (-9), 2) := by decide +kernel
theorem dX6_season_209 : decode cX6_season 209 = .ok (.if_icmp .ne 8, 3) := by decide +kernel
theorem dX6_season_212 : decode cX6_season 212 = .ok (.iload 10, 2) := by decide +kernel
theorem dX6_season_214 : decode cX6_season 214 = .ok (.goto 8, 3) := by decide +kernel
theorem dX6_season_217 : decode cX6_season 217 = .ok (.bipush (-100), 2) := by decide +kernel
theorem dX6_season_219 : decode cX6_season 219 = .ok (.iload 9, 2) := by decide +kernel
theorem dX6_season_221 : decode cX6_season 221 = .ok (.isub, 1) := by decide +kernel
theorem dX6_season_222 : decode cX6_season 222 = .ok (.ireturn, 1) := by decide +kernel
set_option maxRecDepth 20000 in
theorem ggX6_tellSeason_X6_isClock : GoodIn wsX6_tellSeason wsX6_isClock := goodIn_r _ [10, 5, 11, 12, 13, 14, 15, 16, 17, 18, 19, 20, 21, 22, 23, 24, 25, 26, 27, 28, 29, 30, 31, 32, 33, 34, 35, 36, 37, 38, 39, 40] (by decide +kernel) (by decide +kernel)
set_option maxRecDepth 20000 in
theorem gX6_tellSeason_X6_isClock : GoodIn wsX6_tellSeason (wsV RX6 154 RX6 yX6_isClock wsX6_isClock) := goodIn_app (goodIn_of _ (by decide +kernel)) ggX6_tellSeason_X6_isClock
theorem dX6_tellSeason_0 : decode cX6_tellSeason 0 = .ok (.iload_n 1, 1) := by decide +kernel
theorem dX6_tellSeason_1 : decode cX6_tellSeason 1 = .ok (.bipush 10, 2) := by decide +kernel
theorem dX6_tellSeason_3 : decode cX6_tellSeason 3 = .ok (.if_icmp .lt 29, 3) := by decide +kernel
theorem dX6_tellSeason_6 : decode cX6_tellSeason 6 = .ok (.aload_n 0, 1) := by decide +kernel
theorem dX6_tellSeason_7 : decode cX6_tellSeason 7 = .ok (.iload_n 1, 1) := by decide +kernel
theorem dX6_tellSeason_8 : decode cX6_tellSeason 8 = .ok (.bipush 10, 2) := by decide +kernel
theorem dX6_tellSeason_10 : decode cX6_tellSeason 10 = .ok (.isub, 1) := by decide +kernel
theorem dX6_tellSeason_11 : decode cX6_tellSeason 11 = .ok (.invokevirtual 154, 3) := by decide +kernel
theorem dX6_tellSeason_14 : decode cX6_tellSeason 14 = .ok (.ifCond .eq 15, 3) := by decide +kernel
theorem dX6_tellSeason_17 : decode cX6_tellSeason 17 = .ok (.aload_n 0, 1) := by decide +kernel
theorem dX6_tellSeason_18 : decode cX6_tellSeason 18 = .ok (.getfield 28, 3) := by decide +kernel
theorem dX6_tellSeason_21 : decode cX6_tellSeason 21 = .ok (.iload_n 1, 1) := by decide +kernel
theorem dX6_tellSeason_22 : decode cX6_tellSeason 22 = .ok (.bipush 10, 2) := by decide +kernel
theorem dX6_tellSeason_24 : decode cX6_tellSeason 24 = .ok (.isub, 1) := by decide +kernel
theorem dX6_tellSeason_25 : decode cX6_tellSeason 25 = .ok (.iaload, 1) := by decide +kernel
theorem dX6_tellSeason_26 : decode cX6_tellSeason 26 = .ok (.goto 5, 3) := by decide +kernel
theorem dX6_tellSeason_29 : decode cX6_tellSeason 29 = .ok (.bipush (-9), 2) := by decide +kernel
theorem dX6_tellSeason_31 : decode cX6_tellSeason 31 = .ok (.ireturn, 1) := by decide +kernel
theorem dX6_tellSeason_32 : decode cX6_tellSeason 32 = .ok (.iload_n 1, 1) := by decide +kernel
theorem dX6_tellSeason_33 : decode cX6_tellSeason 33 = .ok (.iconst 4, 1) := by decide +kernel
theorem dX6_tellSeason_34 : decode cX6_tellSeason 34 = .ok (.if_icmp .ge 31, 3) := by decide +kernel
theorem dX6_tellSeason_37 : decode cX6_tellSeason 37 = .ok (.iload_n 1, 1) := by decide +kernel
theorem dX6_tellSeason_38 : decode cX6_tellSeason 38 = .ok (.ifCond .ne 10, 3) := by decide +kernel
theorem dX6_tellSeason_41 : decode cX6_tellSeason 41 = .ok (.aload_n 0, 1) := by decide +kernel
theorem dX6_tellSeason_42 : decode cX6_tellSeason 42 = .ok (.getfield 114, 3) := by decide +kernel
theorem dX6_tellSeason_45 : decode cX6_tellSeason 45 = .ok (.goto 19, 3) := by decide +kernel
theorem dX6_tellSeason_48 : decode cX6_tellSeason 48 = .ok (.iload_n 1, 1) := by decide +kernel
theorem dX6_tellSeason_49 : decode cX6_tellSeason 49 = .ok (.iconst 2, 1) := by decide +kernel
theorem dX6_tellSeason_50 : decode cX6_tellSeason 50 = .ok (.if_icmp .ne 10, 3) := by decide +kernel
theorem dX6_tellSeason_53 : decode cX6_tellSeason 53 = .ok (.aload_n 0, 1) := by decide +kernel
theorem dX6_tellSeason_54 : decode cX6_tellSeason 54 = .ok (.getfield 167, 3) := by decide +kernel
theorem dX6_tellSeason_57 : decode cX6_tellSeason 57 = .ok (.goto 7, 3) := by decide +kernel
theorem dX6_tellSeason_60 : decode cX6_tellSeason 60 = .ok (.aload_n 0, 1) := by decide +kernel
theorem dX6_tellSeason_61 : decode cX6_tellSeason 61 = .ok (.getfield 164, 3) := by decide +kernel
theorem dX6_tellSeason_64 : decode cX6_tellSeason 64 = .ok (.ireturn, 1) := by decide +kernel
theorem dX6_tellSeason_65 : decode cX6_tellSeason 65 = .ok (.iconst 0, 1) := by decide +kernel
theorem dX6_tellSeason_66 : decode cX6_tellSeason 66 = .ok (.istore_n 2, 1) := by decide +kernel
theorem dX6_tellSeason_67 : decode cX6_tellSeason 67 = .ok (.iconst 0, 1) := by decide +kernel
theorem dX6_tellSeason_68 : decode cX6_tellSeason 68 = .ok (.istore_n 3, 1) := by decide +kernel
theorem dX6_tellSeason_69 : decode cX6_tellSeason 69 = .ok (.iload_n 3, 1) := by decide +kernel
theorem dX6_tellSeason_70 : decode cX6_tellSeason 70 = .ok (.aload_n 0, 1) := by decide +kernel
theorem dX6_tellSeason_71 : decode cX6_tellSeason 71 = .ok (.getfield 71, 3) := by decide +kernel
theorem dX6_tellSeason_74 : decode cX6_tellSeason 74 = .ok (.if_icmp .ge 20, 3) := by decide +kernel
theorem dX6_tellSeason_77 : decode cX6_tellSeason 77 = .ok (.iload_n 2, 1) := by decide +kernel
theorem dX6_tellSeason_78 : decode cX6_tellSeason 78 = .ok (.iconst 1, 1) := by decide +kernel
theorem dX6_tellSeason_79 : decode cX6_tellSeason 79 = .ok (.aload_n 0, 1) := by decide +kernel
theorem dX6_tellSeason_80 : decode cX6_tellSeason 80 = .ok (.getfield 28, 3) := by decide +kernel
theorem dX6_tellSeason_83 : decode cX6_tellSeason 83 = .ok (.iload_n 3, 1) := by decide +kernel
theorem dX6_tellSeason_84 : decode cX6_tellSeason 84 = .ok (.iaload, 1) := by decide +kernel
theorem dX6_tellSeason_85 : decode cX6_tellSeason 85 = .ok (.ishl, 1) := by decide +kernel
theorem dX6_tellSeason_86 : decode cX6_tellSeason 86 = .ok (.ior, 1) := by decide +kernel
theorem dX6_tellSeason_87 : decode cX6_tellSeason 87 = .ok (.istore_n 2, 1) := by decide +kernel
theorem dX6_tellSeason_88 : decode cX6_tellSeason 88 = .ok (.iinc 3 1, 3) := by decide +kernel
theorem dX6_tellSeason_91 : decode cX6_tellSeason 91 = .ok (.goto (-22), 3) := by decide +kernel
theorem dX6_tellSeason_94 : decode cX6_tellSeason 94 = .ok (.iload_n 2, 1) := by decide +kernel
theorem dX6_tellSeason_95 : decode cX6_tellSeason 95 = .ok (.ireturn, 1) := by decide +kernel
set_option maxRecDepth 20000 in
theorem ggX6_nextFrom_X6_ownerFrom : GoodIn wsX6_nextFrom wsX6_ownerFrom := goodIn_r _ [5, 6, 7, 8, 9, 4, 10, 11, 12, 13, 14, 15, 16, 17, 18, 19, 20, 21, 22, 23, 24, 25, 26, 27, 28, 29, 30, 31, 32, 33, 34, 35, 36, 37, 38, 39, 40, 41, 42, 43, 44, 45, 46, 47, 48, 49, 50, 51, 52, 53, 54, 55, 56, 57, 58, 59, 60] (by decide +kernel) (by decide +kernel)
set_option maxRecDepth 20000 in
theorem gX6_nextFrom_X6_ownerFrom : GoodIn wsX6_nextFrom (wsV RX6 161 RX6 yX6_ownerFrom wsX6_ownerFrom) := goodIn_app (goodIn_of _ (by decide +kernel)) ggX6_nextFrom_X6_ownerFrom
theorem dX6_nextFrom_0 : decode cX6_nextFrom 0 = .ok (.aload_n 0, 1) := by decide +kernel
theorem dX6_nextFrom_1 : decode cX6_nextFrom 1 = .ok (.iload_n 1, 1) := by decide +kernel
theorem dX6_nextFrom_2 : decode cX6_nextFrom 2 = .ok (.iload_n 2, 1) := by decide +kernel
theorem dX6_nextFrom_3 : decode cX6_nextFrom 3 = .ok (.invokevirtual 161, 3) := by decide +kernel
theorem dX6_nextFrom_6 : decode cX6_nextFrom 6 = .ok (.istore_n 3, 1) := by decide +kernel
theorem dX6_nextFrom_7 : decode cX6_nextFrom 7 = .ok (.iload_n 3, 1) := by decide +kernel
theorem dX6_nextFrom_8 : decode cX6_nextFrom 8 = .ok (.bipush (-9), 2) := by decide +kernel
theorem dX6_nextFrom_10 : decode cX6_nextFrom 10 = .ok (.if_icmp .ne 7, 3) := by decide +kernel
theorem dX6_nextFrom_13 : decode cX6_nextFrom 13 = .ok (.iload_n 2, 1) := by decide +kernel
theorem dX6_nextFrom_14 : decode cX6_nextFrom 14 = .ok (.goto 4, 3) := by decide +kernel
theorem dX6_nextFrom_17 : decode cX6_nextFrom 17 = .ok (.iload_n 3, 1) := by decide +kernel
theorem dX6_nextFrom_18 : decode cX6_nextFrom 18 = .ok (.ireturn, 1) := by decide +kernel
set_option maxRecDepth 20000 in
theorem ggX6_round_X6_isClock : GoodIn wsX6_round wsX6_isClock := goodIn_r _ [7, 8, 44, 45, 46, 47, 48, 49, 50, 51, 52, 53, 54, 55, 56, 57, 58, 59, 60, 61, 62, 63, 64, 65, 66, 67, 68, 69, 70, 71, 72, 73] (by decide +kernel) (by decide +kernel)
set_option maxRecDepth 20000 in
theorem gX6_round_X6_isClock : GoodIn wsX6_round (wsV RX6 154 RX6 yX6_isClock wsX6_isClock) := goodIn_app (goodIn_of _ (by decide +kernel)) ggX6_round_X6_isClock
set_option maxRecDepth 20000 in
theorem ggX6_round_X6_within : GoodIn wsX6_round wsX6_within := goodIn_r _ [11] (by decide +kernel) (by decide +kernel)
set_option maxRecDepth 20000 in
theorem gX6_round_X6_within : GoodIn wsX6_round (va_wsS RX6 64 yX6_within wsX6_within) := goodIn_app (goodIn_of _ (by decide +kernel)) ggX6_round_X6_within
set_option maxRecDepth 20000 in
theorem ggX6_round_X6_nextFrom : GoodIn wsX6_round wsX6_nextFrom := goodIn_r _ [15, 16, 17, 18, 6, 19, 2, 20, 21, 22, 23, 24, 25, 26, 27, 28, 29, 30, 31, 32, 33, 34, 35, 36, 37, 38, 39, 40, 41, 42, 43, 44, 45, 46, 47, 48, 49, 50, 51, 52, 53, 54, 55, 56, 57, 58, 59, 60, 61, 62, 63, 64, 65, 66, 67, 68, 69, 70, 71, 72, 73] (by decide +kernel) (by decide +kernel)
set_option maxRecDepth 20000 in
theorem gX6_round_X6_nextFrom : GoodIn wsX6_round (wsV RX6 201 RX6 yX6_nextFrom wsX6_nextFrom) := goodIn_app (goodIn_of _ (by decide +kernel)) ggX6_round_X6_nextFrom
theorem dX6_round_0 : decode cX6_round 0 = .ok (.aload_n 0, 1) := by decide +kernel
theorem dX6_round_1 : decode cX6_round 1 = .ok (.iload_n 1, 1) := by decide +kernel
theorem dX6_round_2 : decode cX6_round 2 = .ok (.invokevirtual 154, 3) := by decide +kernel
theorem dX6_round_5 : decode cX6_round 5 = .ok (.ifCond .ne 5, 3) := by decide +kernel
theorem dX6_round_8 : decode cX6_round 8 = .ok (.iconst (-1), 1) := by decide +kernel
theorem dX6_round_9 : decode cX6_round 9 = .ok (.ireturn, 1) := by decide +kernel
theorem dX6_round_10 : decode cX6_round 10 = .ok (.iload_n 2, 1) := by decide +kernel
theorem dX6_round_11 : decode cX6_round 11 = .ok (.iconst 0, 1) := by decide +kernel
theorem dX6_round_12 : decode cX6_round 12 = .ok (.iconst 1, 1) := by decide +kernel
theorem dX6_round_13 : decode cX6_round 13 = .ok (.invokestatic 64, 3) := by decide +kernel
theorem dX6_round_16 : decode cX6_round 16 = .ok (.ifCond .ne 6, 3) := by decide +kernel
theorem dX6_round_19 : decode cX6_round 19 = .ok (.bipush (-2), 2) := by decide +kernel
theorem dX6_round_21 : decode cX6_round 21 = .ok (.ireturn, 1) := by decide +kernel
theorem dX6_round_22 : decode cX6_round 22 = .ok (.aload_n 0, 1) := by decide +kernel
theorem dX6_round_23 : decode cX6_round 23 = .ok (.getfield 28, 3) := by decide +kernel
theorem dX6_round_26 : decode cX6_round 26 = .ok (.iload_n 1, 1) := by decide +kernel
theorem dX6_round_27 : decode cX6_round 27 = .ok (.iaload, 1) := by decide +kernel
theorem dX6_round_28 : decode cX6_round 28 = .ok (.istore_n 3, 1) := by decide +kernel
theorem dX6_round_29 : decode cX6_round 29 = .ok (.iconst 0, 1) := by decide +kernel
theorem dX6_round_30 : decode cX6_round 30 = .ok (.istore 4, 2) := by decide +kernel
theorem dX6_round_32 : decode cX6_round 32 = .ok (.iload 4, 2) := by decide +kernel
theorem dX6_round_34 : decode cX6_round 34 = .ok (.aload_n 0, 1) := by decide +kernel
theorem dX6_round_35 : decode cX6_round 35 = .ok (.getfield 68, 3) := by decide +kernel
theorem dX6_round_38 : decode cX6_round 38 = .ok (.if_icmp .ge 16, 3) := by decide +kernel
theorem dX6_round_41 : decode cX6_round 41 = .ok (.aload_n 0, 1) := by decide +kernel
theorem dX6_round_42 : decode cX6_round 42 = .ok (.iload_n 1, 1) := by decide +kernel
theorem dX6_round_43 : decode cX6_round 43 = .ok (.iload_n 3, 1) := by decide +kernel
theorem dX6_round_44 : decode cX6_round 44 = .ok (.invokevirtual 201, 3) := by decide +kernel
theorem dX6_round_47 : decode cX6_round 47 = .ok (.istore_n 3, 1) := by decide +kernel
theorem dX6_round_48 : decode cX6_round 48 = .ok (.iinc 4 1, 3) := by decide +kernel
theorem dX6_round_51 : decode cX6_round 51 = .ok (.goto (-19), 3) := by decide +kernel
theorem dX6_round_54 : decode cX6_round 54 = .ok (.iconst 1, 1) := by decide +kernel
theorem dX6_round_55 : decode cX6_round 55 = .ok (.istore 4, 2) := by decide +kernel
theorem dX6_round_57 : decode cX6_round 57 = .ok (.aload_n 0, 1) := by decide +kernel
theorem dX6_round_58 : decode cX6_round 58 = .ok (.iload_n 1, 1) := by decide +kernel
theorem dX6_round_59 : decode cX6_round 59 = .ok (.iload_n 3, 1) := by decide +kernel
theorem dX6_round_60 : decode cX6_round 60 = .ok (.invokevirtual 201, 3) := by decide +kernel
theorem dX6_round_63 : decode cX6_round 63 = .ok (.istore 5, 2) := by decide +kernel
theorem dX6_round_65 : decode cX6_round 65 = .ok (.iload 5, 2) := by decide +kernel
theorem dX6_round_67 : decode cX6_round 67 = .ok (.iload_n 3, 1) := by decide +kernel
theorem dX6_round_68 : decode cX6_round 68 = .ok (.if_icmp .eq 18, 3) := by decide +kernel
theorem dX6_round_71 : decode cX6_round 71 = .ok (.iinc 4 1, 3) := by decide +kernel
theorem dX6_round_74 : decode cX6_round 74 = .ok (.aload_n 0, 1) := by decide +kernel
theorem dX6_round_75 : decode cX6_round 75 = .ok (.iload_n 1, 1) := by decide +kernel
theorem dX6_round_76 : decode cX6_round 76 = .ok (.iload 5, 2) := by decide +kernel
theorem dX6_round_78 : decode cX6_round 78 = .ok (.invokevirtual 201, 3) := by decide +kernel
theorem dX6_round_81 : decode cX6_round 81 = .ok (.istore 5, 2) := by decide +kernel
theorem dX6_round_83 : decode cX6_round 83 = .ok (.goto (-18), 3) := by decide +kernel
theorem dX6_round_86 : decode cX6_round 86 = .ok (.aload_n 0, 1) := by decide +kernel
theorem dX6_round_87 : decode cX6_round 87 = .ok (.getfield 28, 3) := by decide +kernel
theorem dX6_round_90 : decode cX6_round 90 = .ok (.iload_n 1, 1) := by decide +kernel
theorem dX6_round_91 : decode cX6_round 91 = .ok (.iaload, 1) := by decide +kernel
theorem dX6_round_92 : decode cX6_round 92 = .ok (.istore 5, 2) := by decide +kernel
theorem dX6_round_94 : decode cX6_round 94 = .ok (.iload 5, 2) := by decide +kernel
theorem dX6_round_96 : decode cX6_round 96 = .ok (.istore 6, 2) := by decide +kernel
theorem dX6_round_98 : decode cX6_round 98 = .ok (.iconst 0, 1) := by decide +kernel
theorem dX6_round_99 : decode cX6_round 99 = .ok (.istore 7, 2) := by decide +kernel
theorem dX6_round_101 : decode cX6_round 101 = .ok (.iload 7, 2) := by decide +kernel
theorem dX6_round_103 : decode cX6_round 103 = .ok (.iload 4, 2) := by decide +kernel
theorem dX6_round_105 : decode cX6_round 105 = .ok (.if_icmp .ge 18, 3) := by decide +kernel
theorem dX6_round_108 : decode cX6_round 108 = .ok (.aload_n 0, 1) := by decide +kernel
theorem dX6_round_109 : decode cX6_round 109 = .ok (.iload_n 1, 1) := by decide +kernel
theorem dX6_round_110 : decode cX6_round 110 = .ok (.iload 6, 2) := by decide +kernel
theorem dX6_round_112 : decode cX6_round 112 = .ok (.invokevirtual 201, 3) := by decide +kernel
theorem dX6_round_115 : decode cX6_round 115 = .ok (.istore 6, 2) := by decide +kernel
theorem dX6_round_117 : decode cX6_round 117 = .ok (.iinc 7 1, 3) := by decide +kernel
theorem dX6_round_120 : decode cX6_round 120 = .ok (.goto (-19), 3) := by decide +kernel
theorem dX6_round_123 : decode cX6_round 123 = .ok (.iconst 0, 1) := by decide +kernel
theorem dX6_round_124 : decode cX6_round 124 = .ok (.istore 7, 2) := by decide +kernel
theorem dX6_round_126 : decode cX6_round 126 = .ok (.iload 5, 2) := by decide +kernel
theorem dX6_round_128 : decode cX6_round 128 = .ok (.iload 6, 2) := by decide +kernel
theorem dX6_round_130 : decode cX6_round 130 = .ok (.if_icmp .eq 27, 3) := by decide +kernel
theorem dX6_round_133 : decode cX6_round 133 = .ok (.aload_n 0, 1) := by decide +kernel
theorem dX6_round_134 : decode cX6_round 134 = .ok (.iload_n 1, 1) := by decide +kernel
theorem dX6_round_135 : decode cX6_round 135 = .ok (.iload 5, 2) := by decide +kernel
theorem dX6_round_137 : decode cX6_round 137 = .ok (.invokevirtual 201, 3) := by decide +kernel
theorem dX6_round_140 : decode cX6_round 140 = .ok (.istore 5, 2) := by decide +kernel
theorem dX6_round_142 : decode cX6_round 142 = .ok (.aload_n 0, 1) := by decide +kernel
theorem dX6_round_143 : decode cX6_round 143 = .ok (.iload_n 1, 1) := by decide +kernel
theorem dX6_round_144 : decode cX6_round 144 = .ok (.iload 6, 2) := by decide +kernel
theorem dX6_round_146 : decode cX6_round 146 = .ok (.invokevirtual 201, 3) := by decide +kernel
theorem dX6_round_149 : decode cX6_round 149 = .ok (.istore 6, 2) := by decide +kernel
theorem dX6_round_151 : decode cX6_round 151 = .ok (.iinc 7 1, 3) := by decide +kernel
theorem dX6_round_154 : decode cX6_round 154 = .ok (.goto (-28), 3) := by decide +kernel
theorem dX6_round_157 : decode cX6_round 157 = .ok (.iload_n 2, 1) := by decide +kernel
theorem dX6_round_158 : decode cX6_round 158 = .ok (.ifCond .ne 8, 3) := by decide +kernel
theorem dX6_round_161 : decode cX6_round 161 = .ok (.iload 7, 2) := by decide +kernel
theorem dX6_round_163 : decode cX6_round 163 = .ok (.goto 5, 3) := by decide +kernel
theorem dX6_round_166 : decode cX6_round 166 = .ok (.iload 4, 2) := by decide +kernel
theorem dX6_round_168 : decode cX6_round 168 = .ok (.ireturn, 1) := by decide +kernel
set_option maxRecDepth 20000 in
theorem ggX6_from_X6_isHouse : GoodIn wsX6_from wsX6_isHouse := goodIn_r _ [6, 1, 40, 41, 42, 43, 44, 45, 46, 47, 48, 49, 50, 51, 52, 53, 54, 55, 56, 57, 58, 59, 60, 61, 62, 63, 64, 65, 66, 67, 68, 69] (by decide +kernel) (by decide +kernel)
set_option maxRecDepth 20000 in
theorem gX6_from_X6_isHouse : GoodIn wsX6_from (wsV RX6 151 RX6 yX6_isHouse wsX6_isHouse) := goodIn_app (goodIn_of _ (by decide +kernel)) ggX6_from_X6_isHouse
set_option maxRecDepth 20000 in
theorem ggX6_from_X6_isClock : GoodIn wsX6_from wsX6_isClock := goodIn_r _ [10, 11, 40, 41, 42, 43, 44, 45, 46, 47, 48, 49, 50, 51, 52, 53, 54, 55, 56, 57, 58, 59, 60, 61, 62, 63, 64, 65, 66, 67, 68, 69] (by decide +kernel) (by decide +kernel)
set_option maxRecDepth 20000 in
theorem gX6_from_X6_isClock : GoodIn wsX6_from (wsV RX6 154 RX6 yX6_isClock wsX6_isClock) := goodIn_app (goodIn_of _ (by decide +kernel)) ggX6_from_X6_isClock
set_option maxRecDepth 20000 in
theorem ggX6_from_X6_ownerFrom : GoodIn wsX6_from wsX6_ownerFrom := goodIn_r _ [15, 1, 16, 17, 18, 5, 19, 20, 21, 22, 23, 24, 25, 26, 27, 28, 29, 30, 31, 32, 33, 34, 35, 36, 37, 38, 39, 40, 41, 42, 43, 44, 45, 46, 47, 48, 49, 50, 51, 52, 53, 54, 55, 56, 57, 58, 59, 60, 61, 62, 63, 64, 65, 66, 67, 68, 69] (by decide +kernel) (by decide +kernel)
set_option maxRecDepth 20000 in
theorem gX6_from_X6_ownerFrom : GoodIn wsX6_from (wsV RX6 161 RX6 yX6_ownerFrom wsX6_ownerFrom) := goodIn_app (goodIn_of _ (by decide +kernel)) ggX6_from_X6_ownerFrom
theorem dX6_from_0 : decode cX6_from 0 = .ok (.aload_n 0, 1) := by decide +kernel
theorem dX6_from_1 : decode cX6_from 1 = .ok (.iload_n 1, 1) := by decide +kernel
theorem dX6_from_2 : decode cX6_from 2 = .ok (.invokevirtual 151, 3) := by decide +kernel
theorem dX6_from_5 : decode cX6_from 5 = .ok (.ifCond .eq 11, 3) := by decide +kernel
theorem dX6_from_8 : decode cX6_from 8 = .ok (.aload_n 0, 1) := by decide +kernel
theorem dX6_from_9 : decode cX6_from 9 = .ok (.iload_n 2, 1) := by decide +kernel
theorem dX6_from_10 : decode cX6_from 10 = .ok (.invokevirtual 154, 3) := by decide +kernel
theorem dX6_from_13 : decode cX6_from 13 = .ok (.ifCond .ne 5, 3) := by decide +kernel
theorem dX6_from_16 : decode cX6_from 16 = .ok (.iconst (-1), 1) := by decide +kernel
theorem dX6_from_17 : decode cX6_from 17 = .ok (.ireturn, 1) := by decide +kernel
theorem dX6_from_18 : decode cX6_from 18 = .ok (.iconst 0, 1) := by decide +kernel
theorem dX6_from_19 : decode cX6_from 19 = .ok (.istore_n 3, 1) := by decide +kernel
theorem dX6_from_20 : decode cX6_from 20 = .ok (.iconst 0, 1) := by decide +kernel
theorem dX6_from_21 : decode cX6_from 21 = .ok (.istore 4, 2) := by decide +kernel
theorem dX6_from_23 : decode cX6_from 23 = .ok (.iload 4, 2) := by decide +kernel
theorem dX6_from_25 : decode cX6_from 25 = .ok (.aload_n 0, 1) := by decide +kernel
theorem dX6_from_26 : decode cX6_from 26 = .ok (.getfield 68, 3) := by decide +kernel
theorem dX6_from_29 : decode cX6_from 29 = .ok (.if_icmp .ge 31, 3) := by decide +kernel
theorem dX6_from_32 : decode cX6_from 32 = .ok (.iload_n 3, 1) := by decide +kernel
theorem dX6_from_33 : decode cX6_from 33 = .ok (.aload_n 0, 1) := by decide +kernel
theorem dX6_from_34 : decode cX6_from 34 = .ok (.iload_n 2, 1) := by decide +kernel
theorem dX6_from_35 : decode cX6_from 35 = .ok (.iload 4, 2) := by decide +kernel
theorem dX6_from_37 : decode cX6_from 37 = .ok (.invokevirtual 161, 3) := by decide +kernel
theorem dX6_from_40 : decode cX6_from 40 = .ok (.iload_n 1, 1) := by decide +kernel
theorem dX6_from_41 : decode cX6_from 41 = .ok (.if_icmp .ne 10, 3) := by decide +kernel
theorem dX6_from_44 : decode cX6_from 44 = .ok (.iconst 1, 1) := by decide +kernel
theorem dX6_from_45 : decode cX6_from 45 = .ok (.iload 4, 2) := by decide +kernel
theorem dX6_from_47 : decode cX6_from 47 = .ok (.ishl, 1) := by decide +kernel
theorem dX6_from_48 : decode cX6_from 48 = .ok (.goto 4, 3) := by decide +kernel
theorem dX6_from_51 : decode cX6_from 51 = .ok (.iconst 0, 1) := by decide +kernel
theorem dX6_from_52 : decode cX6_from 52 = .ok (.ior, 1) := by decide +kernel
theorem dX6_from_53 : decode cX6_from 53 = .ok (.istore_n 3, 1) := by decide +kernel
theorem dX6_from_54 : decode cX6_from 54 = .ok (.iinc 4 1, 3) := by decide +kernel
theorem dX6_from_57 : decode cX6_from 57 = .ok (.goto (-34), 3) := by decide +kernel
theorem dX6_from_60 : decode cX6_from 60 = .ok (.iload_n 3, 1) := by decide +kernel
theorem dX6_from_61 : decode cX6_from 61 = .ok (.ireturn, 1) := by decide +kernel
set_option maxRecDepth 20000 in
theorem ggX6_isSettled_X6_oneNight : GoodIn wsX6_isSettled wsX6_oneNight := goodIn_r _ [8, 1, 9, 10, 11, 7, 12, 3, 13, 14, 15, 16, 17, 18, 19, 20, 21, 22, 23, 24, 25, 26, 27, 28, 29, 30, 31, 32, 33, 34, 35, 36, 37, 38, 39, 40, 41, 42, 43, 44, 45, 46, 47, 48, 49, 50, 51, 52, 53, 54, 55, 56, 57, 58, 59, 60, 61, 62, 63, 64, 65, 66, 67, 68, 69, 70, 71, 72, 73] (by decide +kernel) (by decide +kernel)
set_option maxRecDepth 20000 in
theorem gX6_isSettled_X6_oneNight : GoodIn wsX6_isSettled (wsV RX6 176 RX6 yX6_oneNight wsX6_oneNight) := goodIn_app (goodIn_of _ (by decide +kernel)) ggX6_isSettled_X6_oneNight
theorem dX6_isSettled_0 : decode cX6_isSettled 0 = .ok (.iconst 0, 1) := by decide +kernel
theorem dX6_isSettled_1 : decode cX6_isSettled 1 = .ok (.istore_n 1, 1) := by decide +kernel
theorem dX6_isSettled_2 : decode cX6_isSettled 2 = .ok (.iload_n 1, 1) := by decide +kernel
theorem dX6_isSettled_3 : decode cX6_isSettled 3 = .ok (.aload_n 0, 1) := by decide +kernel
theorem dX6_isSettled_4 : decode cX6_isSettled 4 = .ok (.getfield 71, 3) := by decide +kernel
theorem dX6_isSettled_7 : decode cX6_isSettled 7 = .ok (.if_icmp .ge 21, 3) := by decide +kernel
theorem dX6_isSettled_10 : decode cX6_isSettled 10 = .ok (.aload_n 0, 1) := by decide +kernel
theorem dX6_isSettled_11 : decode cX6_isSettled 11 = .ok (.getfield 40, 3) := by decide +kernel
theorem dX6_isSettled_14 : decode cX6_isSettled 14 = .ok (.iload_n 1, 1) := by decide +kernel
theorem dX6_isSettled_15 : decode cX6_isSettled 15 = .ok (.aload_n 0, 1) := by decide +kernel
theorem dX6_isSettled_16 : decode cX6_isSettled 16 = .ok (.getfield 28, 3) := by decide +kernel
theorem dX6_isSettled_19 : decode cX6_isSettled 19 = .ok (.iload_n 1, 1) := by decide +kernel
theorem dX6_isSettled_20 : decode cX6_isSettled 20 = .ok (.iaload, 1) := by decide +kernel
theorem dX6_isSettled_21 : decode cX6_isSettled 21 = .ok (.iastore, 1) := by decide +kernel
theorem dX6_isSettled_22 : decode cX6_isSettled 22 = .ok (.iinc 1 1, 3) := by decide +kernel
theorem dX6_isSettled_25 : decode cX6_isSettled 25 = .ok (.goto (-23), 3) := by decide +kernel
theorem dX6_isSettled_28 : decode cX6_isSettled 28 = .ok (.aload_n 0, 1) := by decide +kernel
theorem dX6_isSettled_29 : decode cX6_isSettled 29 = .ok (.invokevirtual 176, 3) := by decide +kernel
theorem dX6_isSettled_32 : decode cX6_isSettled 32 = .ok (.iconst 0, 1) := by decide +kernel
theorem dX6_isSettled_33 : decode cX6_isSettled 33 = .ok (.istore_n 1, 1) := by decide +kernel
theorem dX6_isSettled_34 : decode cX6_isSettled 34 = .ok (.iload_n 1, 1) := by decide +kernel
theorem dX6_isSettled_35 : decode cX6_isSettled 35 = .ok (.aload_n 0, 1) := by decide +kernel
theorem dX6_isSettled_36 : decode cX6_isSettled 36 = .ok (.getfield 71, 3) := by decide +kernel
theorem dX6_isSettled_39 : decode cX6_isSettled 39 = .ok (.if_icmp .ge 26, 3) := by decide +kernel
theorem dX6_isSettled_42 : decode cX6_isSettled 42 = .ok (.aload_n 0, 1) := by decide +kernel
theorem dX6_isSettled_43 : decode cX6_isSettled 43 = .ok (.getfield 28, 3) := by decide +kernel
theorem dX6_isSettled_46 : decode cX6_isSettled 46 = .ok (.iload_n 1, 1) := by decide +kernel
theorem dX6_isSettled_47 : decode cX6_isSettled 47 = .ok (.iaload, 1) := by decide +kernel
theorem dX6_isSettled_48 : decode cX6_isSettled 48 = .ok (.aload_n 0, 1) := by decide +kernel
theorem dX6_isSettled_49 : decode cX6_isSettled 49 = .ok (.getfield 40, 3) := by decide +kernel
theorem dX6_isSettled_52 : decode cX6_isSettled 52 = .ok (.iload_n 1, 1) := by decide +kernel
theorem dX6_isSettled_53 : decode cX6_isSettled 53 = .ok (.iaload, 1) := by decide +kernel
theorem dX6_isSettled_54 : decode cX6_isSettled 54 = .ok (.if_icmp .eq 5, 3) := by decide +kernel
theorem dX6_isSettled_57 : decode cX6_isSettled 57 = .ok (.iconst 0, 1) := by decide +kernel
theorem dX6_isSettled_58 : decode cX6_isSettled 58 = .ok (.ireturn, 1) := by decide +kernel
theorem dX6_isSettled_59 : decode cX6_isSettled 59 = .ok (.iinc 1 1, 3) := by decide +kernel
theorem dX6_isSettled_62 : decode cX6_isSettled 62 = .ok (.goto (-28), 3) := by decide +kernel
theorem dX6_isSettled_65 : decode cX6_isSettled 65 = .ok (.iconst 1, 1) := by decide +kernel
theorem dX6_isSettled_66 : decode cX6_isSettled 66 = .ok (.ireturn, 1) := by decide +kernel
set_option maxRecDepth 20000 in
theorem ggX6_settle_X6_keep : GoodIn wsX6_settle wsX6_keep := goodIn_r _ [6, 7, 8, 9, 57, 58, 59, 60, 61, 62, 63, 64, 65, 66, 67, 68, 69, 70, 71, 72, 73, 74, 75, 76, 77, 78, 79, 80, 81, 82, 83, 84, 85, 86] (by decide +kernel) (by decide +kernel)
set_option maxRecDepth 20000 in
theorem gX6_settle_X6_keep : GoodIn wsX6_settle (wsV RX6 173 RX6 yX6_keep wsX6_keep) := goodIn_app (goodIn_of _ (by decide +kernel)) ggX6_settle_X6_keep
set_option maxRecDepth 20000 in
theorem ggX6_settle_X6_isSettled : GoodIn wsX6_settle wsX6_isSettled := goodIn_r _ [13, 7, 14, 9, 15, 16, 17, 5, 18, 19, 20, 21, 22, 23, 24, 25, 26, 27, 28, 1, 29, 30, 31, 32, 33, 34, 35, 36, 37, 38, 39, 40, 41, 42, 43, 44, 45, 46, 47, 48, 49, 50, 51, 52, 57, 58, 59, 60, 61, 62, 63, 64, 65, 66, 67, 68, 69, 70, 71, 72, 73, 74, 75, 76, 77, 78, 79, 80, 81, 82, 83, 84, 85, 86] (by decide +kernel) (by decide +kernel)
set_option maxRecDepth 20000 in
theorem gX6_settle_X6_isSettled : GoodIn wsX6_settle (wsV RX6 204 RX6 yX6_isSettled wsX6_isSettled) := goodIn_app (goodIn_of _ (by decide +kernel)) ggX6_settle_X6_isSettled
set_option maxRecDepth 20000 in
theorem ggX6_settle_X6_putBack : GoodIn wsX6_settle wsX6_putBack := goodIn_r _ [56, 7, 9, 8, 57, 58, 59, 60, 61, 62, 63, 64, 65, 66, 67, 68, 69, 70, 71, 72, 73, 74, 75, 76, 77, 78, 79, 80, 81, 82, 83, 84, 85, 86] (by decide +kernel) (by decide +kernel)
set_option maxRecDepth 20000 in
theorem gX6_settle_X6_putBack : GoodIn wsX6_settle (wsV RX6 198 RX6 yX6_putBack wsX6_putBack) := goodIn_app (goodIn_of _ (by decide +kernel)) ggX6_settle_X6_putBack
theorem dX6_settle_0 : decode cX6_settle 0 = .ok (.aload_n 0, 1) := by decide +kernel
theorem dX6_settle_1 : decode cX6_settle 1 = .ok (.getfield 68, 3) := by decide +kernel
theorem dX6_settle_4 : decode cX6_settle 4 = .ok (.ifCond .ne 6, 3) := by decide +kernel
theorem dX6_settle_7 : decode cX6_settle 7 = .ok (.bipush (-3), 2) := by decide +kernel
theorem dX6_settle_9 : decode cX6_settle 9 = .ok (.ireturn, 1) := by decide +kernel
theorem dX6_settle_10 : decode cX6_settle 10 = .ok (.aload_n 0, 1) := by decide +kernel
theorem dX6_settle_11 : decode cX6_settle 11 = .ok (.invokevirtual 173, 3) := by decide +kernel
theorem dX6_settle_14 : decode cX6_settle 14 = .ok (.bipush (-9), 2) := by decide +kernel
theorem dX6_settle_16 : decode cX6_settle 16 = .ok (.istore_n 1, 1) := by decide +kernel
theorem dX6_settle_17 : decode cX6_settle 17 = .ok (.iconst 0, 1) := by decide +kernel
theorem dX6_settle_18 : decode cX6_settle 18 = .ok (.istore_n 2, 1) := by decide +kernel
theorem dX6_settle_19 : decode cX6_settle 19 = .ok (.iload_n 2, 1) := by decide +kernel
theorem dX6_settle_20 : decode cX6_settle 20 = .ok (.bipush 99, 2) := by decide +kernel
theorem dX6_settle_22 : decode cX6_settle 22 = .ok (.if_icmp .gt 29, 3) := by decide +kernel
theorem dX6_settle_25 : decode cX6_settle 25 = .ok (.iload_n 1, 1) := by decide +kernel
theorem dX6_settle_26 : decode cX6_settle 26 = .ok (.bipush (-9), 2) := by decide +kernel
theorem dX6_settle_28 : decode cX6_settle 28 = .ok (.if_icmp .ne 23, 3) := by decide +kernel
theorem dX6_settle_31 : decode cX6_settle 31 = .ok (.aload_n 0, 1) := by decide +kernel
theorem dX6_settle_32 : decode cX6_settle 32 = .ok (.invokevirtual 204, 3) := by decide +kernel
theorem dX6_settle_35 : decode cX6_settle 35 = .ok (.ifCond .eq 7, 3) := by decide +kernel
theorem dX6_settle_38 : decode cX6_settle 38 = .ok (.iload_n 2, 1) := by decide +kernel
theorem dX6_settle_39 : decode cX6_settle 39 = .ok (.goto 5, 3) := by decide +kernel
theorem dX6_settle_42 : decode cX6_settle 42 = .ok (.bipush (-9), 2) := by decide +kernel
theorem dX6_settle_44 : decode cX6_settle 44 = .ok (.istore_n 1, 1) := by decide +kernel
theorem dX6_settle_45 : decode cX6_settle 45 = .ok (.iinc 2 1, 3) := by decide +kernel
theorem dX6_settle_48 : decode cX6_settle 48 = .ok (.goto (-29), 3) := by decide +kernel
theorem dX6_settle_51 : decode cX6_settle 51 = .ok (.aload_n 0, 1) := by decide +kernel
theorem dX6_settle_52 : decode cX6_settle 52 = .ok (.invokevirtual 198, 3) := by decide +kernel
theorem dX6_settle_55 : decode cX6_settle 55 = .ok (.iload_n 1, 1) := by decide +kernel
theorem dX6_settle_56 : decode cX6_settle 56 = .ok (.ireturn, 1) := by decide +kernel
set_option maxRecDepth 20000 in
theorem ggX6_wakersBy_X6_wakersOf : GoodIn wsX6_wakersBy wsX6_wakersOf := goodIn_r _ [8, 3, 9, 10, 11, 7, 12, 13, 14, 15, 16, 17, 18, 19, 20, 21, 22, 23, 24, 25, 26, 27, 28, 29, 30, 31, 32, 33, 34, 35, 36, 37, 38, 39, 40, 41, 42, 43, 44, 45, 46, 47, 48, 49, 50, 51, 52, 53, 54, 55, 56, 57, 58, 59, 60, 61, 62] (by decide +kernel) (by decide +kernel)
set_option maxRecDepth 20000 in
theorem gX6_wakersBy_X6_wakersOf : GoodIn wsX6_wakersBy (wsV RX6 157 RX6 yX6_wakersOf wsX6_wakersOf) := goodIn_app (goodIn_of _ (by decide +kernel)) ggX6_wakersBy_X6_wakersOf
theorem dX6_wakersBy_0 : decode cX6_wakersBy 0 = .ok (.iload_n 1, 1) := by decide +kernel
theorem dX6_wakersBy_1 : decode cX6_wakersBy 1 = .ok (.istore_n 2, 1) := by decide +kernel
theorem dX6_wakersBy_2 : decode cX6_wakersBy 2 = .ok (.iconst 0, 1) := by decide +kernel
theorem dX6_wakersBy_3 : decode cX6_wakersBy 3 = .ok (.istore_n 3, 1) := by decide +kernel
theorem dX6_wakersBy_4 : decode cX6_wakersBy 4 = .ok (.aload_n 0, 1) := by decide +kernel
theorem dX6_wakersBy_5 : decode cX6_wakersBy 5 = .ok (.getfield 71, 3) := by decide +kernel
theorem dX6_wakersBy_8 : decode cX6_wakersBy 8 = .ok (.iconst 1, 1) := by decide +kernel
theorem dX6_wakersBy_9 : decode cX6_wakersBy 9 = .ok (.isub, 1) := by decide +kernel
theorem dX6_wakersBy_10 : decode cX6_wakersBy 10 = .ok (.istore 4, 2) := by decide +kernel
theorem dX6_wakersBy_12 : decode cX6_wakersBy 12 = .ok (.iload 4, 2) := by decide +kernel
theorem dX6_wakersBy_14 : decode cX6_wakersBy 14 = .ok (.ifCond .lt 45, 3) := by decide +kernel
theorem dX6_wakersBy_17 : decode cX6_wakersBy 17 = .ok (.aload_n 0, 1) := by decide +kernel
theorem dX6_wakersBy_18 : decode cX6_wakersBy 18 = .ok (.getfield 43, 3) := by decide +kernel
theorem dX6_wakersBy_21 : decode cX6_wakersBy 21 = .ok (.iload 4, 2) := by decide +kernel
theorem dX6_wakersBy_23 : decode cX6_wakersBy 23 = .ok (.iload_n 2, 1) := by decide +kernel
theorem dX6_wakersBy_24 : decode cX6_wakersBy 24 = .ok (.aload_n 0, 1) := by decide +kernel
theorem dX6_wakersBy_25 : decode cX6_wakersBy 25 = .ok (.getfield 68, 3) := by decide +kernel
theorem dX6_wakersBy_28 : decode cX6_wakersBy 28 = .ok (.irem, 1) := by decide +kernel
theorem dX6_wakersBy_29 : decode cX6_wakersBy 29 = .ok (.iastore, 1) := by decide +kernel
theorem dX6_wakersBy_30 : decode cX6_wakersBy 30 = .ok (.iload_n 2, 1) := by decide +kernel
theorem dX6_wakersBy_31 : decode cX6_wakersBy 31 = .ok (.aload_n 0, 1) := by decide +kernel
theorem dX6_wakersBy_32 : decode cX6_wakersBy 32 = .ok (.getfield 68, 3) := by decide +kernel
theorem dX6_wakersBy_35 : decode cX6_wakersBy 35 = .ok (.idiv, 1) := by decide +kernel
theorem dX6_wakersBy_36 : decode cX6_wakersBy 36 = .ok (.istore_n 2, 1) := by decide +kernel
theorem dX6_wakersBy_37 : decode cX6_wakersBy 37 = .ok (.iload_n 3, 1) := by decide +kernel
theorem dX6_wakersBy_38 : decode cX6_wakersBy 38 = .ok (.aload_n 0, 1) := by decide +kernel
theorem dX6_wakersBy_39 : decode cX6_wakersBy 39 = .ok (.iload 4, 2) := by decide +kernel
theorem dX6_wakersBy_41 : decode cX6_wakersBy 41 = .ok (.aload_n 0, 1) := by decide +kernel
theorem dX6_wakersBy_42 : decode cX6_wakersBy 42 = .ok (.getfield 43, 3) := by decide +kernel
theorem dX6_wakersBy_45 : decode cX6_wakersBy 45 = .ok (.iload 4, 2) := by decide +kernel
theorem dX6_wakersBy_47 : decode cX6_wakersBy 47 = .ok (.iaload, 1) := by decide +kernel
theorem dX6_wakersBy_48 : decode cX6_wakersBy 48 = .ok (.invokevirtual 157, 3) := by decide +kernel
theorem dX6_wakersBy_51 : decode cX6_wakersBy 51 = .ok (.ior, 1) := by decide +kernel
theorem dX6_wakersBy_52 : decode cX6_wakersBy 52 = .ok (.istore_n 3, 1) := by decide +kernel
theorem dX6_wakersBy_53 : decode cX6_wakersBy 53 = .ok (.iinc 4 (-1), 3) := by decide +kernel
theorem dX6_wakersBy_56 : decode cX6_wakersBy 56 = .ok (.goto (-44), 3) := by decide +kernel
theorem dX6_wakersBy_59 : decode cX6_wakersBy 59 = .ok (.iload_n 3, 1) := by decide +kernel
theorem dX6_wakersBy_60 : decode cX6_wakersBy 60 = .ok (.ireturn, 1) := by decide +kernel
set_option maxRecDepth 20000 in
theorem ggX6_still_X6_within : GoodIn wsX6_still wsX6_within := goodIn_r _ [7] (by decide +kernel) (by decide +kernel)
set_option maxRecDepth 20000 in
theorem gX6_still_X6_within : GoodIn wsX6_still (va_wsS RX6 64 yX6_within wsX6_within) := goodIn_app (goodIn_of _ (by decide +kernel)) ggX6_still_X6_within
set_option maxRecDepth 20000 in
theorem ggX6_still_X6_wakersBy : GoodIn wsX6_still wsX6_wakersBy := goodIn_r _ [11, 2, 3, 1, 12, 13, 14, 6, 15, 16, 17, 18, 19, 20, 21, 22, 23, 24, 25, 26, 27, 28, 29, 30, 31, 32, 33, 34, 35, 36, 37, 38, 39, 47, 48, 49, 50, 51, 52, 53, 54, 55, 56, 57, 58, 59, 60, 61, 62, 63, 64, 65, 66, 67, 68, 69, 70, 71, 72, 73, 74, 75, 76] (by decide +kernel) (by decide +kernel)
set_option maxRecDepth 20000 in
theorem gX6_still_X6_wakersBy : GoodIn wsX6_still (wsV RX6 208 RX6 yX6_wakersBy wsX6_wakersBy) := goodIn_app (goodIn_of _ (by decide +kernel)) ggX6_still_X6_wakersBy
set_option maxRecDepth 20000 in
theorem ggX6_still_X6_size : GoodIn wsX6_still wsX6_size := goodIn_r _ [42] (by decide +kernel) (by decide +kernel)
set_option maxRecDepth 20000 in
theorem gX6_still_X6_size : GoodIn wsX6_still (va_wsS RX6 183 yX6_size wsX6_size) := goodIn_app (goodIn_of _ (by decide +kernel)) ggX6_still_X6_size
set_option maxRecDepth 20000 in
theorem ggX6_still_X6_isClock : GoodIn wsX6_still wsX6_isClock := goodIn_r _ [46, 2, 47, 48, 49, 50, 51, 52, 53, 54, 55, 56, 57, 58, 59, 60, 61, 62, 63, 64, 65, 66, 67, 68, 69, 70, 71, 72, 73, 74, 75, 76] (by decide +kernel) (by decide +kernel)
set_option maxRecDepth 20000 in
theorem gX6_still_X6_isClock : GoodIn wsX6_still (wsV RX6 154 RX6 yX6_isClock wsX6_isClock) := goodIn_app (goodIn_of _ (by decide +kernel)) ggX6_still_X6_isClock
theorem dX6_still_0 : decode cX6_still 0 = .ok (.iload_n 1, 1) := by decide +kernel
theorem dX6_still_1 : decode cX6_still 1 = .ok (.iconst (-1), 1) := by decide +kernel
theorem dX6_still_2 : decode cX6_still 2 = .ok (.iconst 3, 1) := by decide +kernel
theorem dX6_still_3 : decode cX6_still 3 = .ok (.invokestatic 64, 3) := by decide +kernel
theorem dX6_still_6 : decode cX6_still 6 = .ok (.ifCond .ne 6, 3) := by decide +kernel
theorem dX6_still_9 : decode cX6_still 9 = .ok (.bipush (-2), 2) := by decide +kernel
theorem dX6_still_11 : decode cX6_still 11 = .ok (.ireturn, 1) := by decide +kernel
theorem dX6_still_12 : decode cX6_still 12 = .ok (.aload_n 0, 1) := by decide +kernel
theorem dX6_still_13 : decode cX6_still 13 = .ok (.getfield 68, 3) := by decide +kernel
theorem dX6_still_16 : decode cX6_still 16 = .ok (.ifCond .ne 6, 3) := by decide +kernel
theorem dX6_still_19 : decode cX6_still 19 = .ok (.bipush (-3), 2) := by decide +kernel
theorem dX6_still_21 : decode cX6_still 21 = .ok (.ireturn, 1) := by decide +kernel
theorem dX6_still_22 : decode cX6_still 22 = .ok (.iconst 1, 1) := by decide +kernel
theorem dX6_still_23 : decode cX6_still 23 = .ok (.istore_n 2, 1) := by decide +kernel
theorem dX6_still_24 : decode cX6_still 24 = .ok (.iconst 0, 1) := by decide +kernel
theorem dX6_still_25 : decode cX6_still 25 = .ok (.istore_n 3, 1) := by decide +kernel
theorem dX6_still_26 : decode cX6_still 26 = .ok (.iload_n 3, 1) := by decide +kernel
theorem dX6_still_27 : decode cX6_still 27 = .ok (.aload_n 0, 1) := by decide +kernel
theorem dX6_still_28 : decode cX6_still 28 = .ok (.getfield 71, 3) := by decide +kernel
theorem dX6_still_31 : decode cX6_still 31 = .ok (.if_icmp .ge 16, 3) := by decide +kernel
theorem dX6_still_34 : decode cX6_still 34 = .ok (.iload_n 2, 1) := by decide +kernel
theorem dX6_still_35 : decode cX6_still 35 = .ok (.aload_n 0, 1) := by decide +kernel
theorem dX6_still_36 : decode cX6_still 36 = .ok (.getfield 68, 3) := by decide +kernel
theorem dX6_still_39 : decode cX6_still 39 = .ok (.imul, 1) := by decide +kernel
theorem dX6_still_40 : decode cX6_still 40 = .ok (.istore_n 2, 1) := by decide +kernel
theorem dX6_still_41 : decode cX6_still 41 = .ok (.iinc 3 1, 3) := by decide +kernel
theorem dX6_still_44 : decode cX6_still 44 = .ok (.goto (-18), 3) := by decide +kernel
theorem dX6_still_47 : decode cX6_still 47 = .ok (.bipush (-9), 2) := by decide +kernel
theorem dX6_still_49 : decode cX6_still 49 = .ok (.istore_n 3, 1) := by decide +kernel
theorem dX6_still_50 : decode cX6_still 50 = .ok (.iconst 0, 1) := by decide +kernel
theorem dX6_still_51 : decode cX6_still 51 = .ok (.istore 4, 2) := by decide +kernel
theorem dX6_still_53 : decode cX6_still 53 = .ok (.iconst 0, 1) := by decide +kernel
theorem dX6_still_54 : decode cX6_still 54 = .ok (.istore 5, 2) := by decide +kernel
theorem dX6_still_56 : decode cX6_still 56 = .ok (.iload 5, 2) := by decide +kernel
theorem dX6_still_58 : decode cX6_still 58 = .ok (.iload_n 2, 1) := by decide +kernel
theorem dX6_still_59 : decode cX6_still 59 = .ok (.if_icmp .ge 40, 3) := by decide +kernel
theorem dX6_still_62 : decode cX6_still 62 = .ok (.aload_n 0, 1) := by decide +kernel
theorem dX6_still_63 : decode cX6_still 63 = .ok (.iload 5, 2) := by decide +kernel
theorem dX6_still_65 : decode cX6_still 65 = .ok (.invokevirtual 208, 3) := by decide +kernel
theorem dX6_still_68 : decode cX6_still 68 = .ok (.invokestatic 183, 3) := by decide +kernel
theorem dX6_still_71 : decode cX6_still 71 = .ok (.istore 6, 2) := by decide +kernel
theorem dX6_still_73 : decode cX6_still 73 = .ok (.iload_n 3, 1) := by decide +kernel
theorem dX6_still_74 : decode cX6_still 74 = .ok (.bipush (-9), 2) := by decide +kernel
theorem dX6_still_76 : decode cX6_still 76 = .ok (.if_icmp .eq 10, 3) := by decide +kernel
theorem dX6_still_79 : decode cX6_still 79 = .ok (.iload 6, 2) := by decide +kernel
theorem dX6_still_81 : decode cX6_still 81 = .ok (.iload 4, 2) := by decide +kernel
theorem dX6_still_83 : decode cX6_still 83 = .ok (.if_icmp .ge 10, 3) := by decide +kernel
theorem dX6_still_86 : decode cX6_still 86 = .ok (.iload 5, 2) := by decide +kernel
theorem dX6_still_88 : decode cX6_still 88 = .ok (.istore_n 3, 1) := by decide +kernel
theorem dX6_still_89 : decode cX6_still 89 = .ok (.iload 6, 2) := by decide +kernel
theorem dX6_still_91 : decode cX6_still 91 = .ok (.istore 4, 2) := by decide +kernel
theorem dX6_still_93 : decode cX6_still 93 = .ok (.iinc 5 1, 3) := by decide +kernel
theorem dX6_still_96 : decode cX6_still 96 = .ok (.goto (-40), 3) := by decide +kernel
theorem dX6_still_99 : decode cX6_still 99 = .ok (.iload_n 1, 1) := by decide +kernel
theorem dX6_still_100 : decode cX6_still 100 = .ok (.iconst (-1), 1) := by decide +kernel
theorem dX6_still_101 : decode cX6_still 101 = .ok (.if_icmp .ne 6, 3) := by decide +kernel
theorem dX6_still_104 : decode cX6_still 104 = .ok (.iload 4, 2) := by decide +kernel
theorem dX6_still_106 : decode cX6_still 106 = .ok (.ireturn, 1) := by decide +kernel
theorem dX6_still_107 : decode cX6_still 107 = .ok (.aload_n 0, 1) := by decide +kernel
theorem dX6_still_108 : decode cX6_still 108 = .ok (.iload_n 3, 1) := by decide +kernel
theorem dX6_still_109 : decode cX6_still 109 = .ok (.invokevirtual 208, 3) := by decide +kernel
theorem dX6_still_112 : decode cX6_still 112 = .ok (.pop, 1) := by decide +kernel
theorem dX6_still_113 : decode cX6_still 113 = .ok (.aload_n 0, 1) := by decide +kernel
theorem dX6_still_114 : decode cX6_still 114 = .ok (.iload_n 1, 1) := by decide +kernel
theorem dX6_still_115 : decode cX6_still 115 = .ok (.invokevirtual 154, 3) := by decide +kernel
theorem dX6_still_118 : decode cX6_still 118 = .ok (.ifCond .eq 12, 3) := by decide +kernel
theorem dX6_still_121 : decode cX6_still 121 = .ok (.aload_n 0, 1) := by decide +kernel
theorem dX6_still_122 : decode cX6_still 122 = .ok (.getfield 43, 3) := by decide +kernel
theorem dX6_still_125 : decode cX6_still 125 = .ok (.iload_n 1, 1) := by decide +kernel
theorem dX6_still_126 : decode cX6_still 126 = .ok (.iaload, 1) := by decide +kernel
theorem dX6_still_127 : decode cX6_still 127 = .ok (.goto 5, 3) := by decide +kernel
theorem dX6_still_130 : decode cX6_still 130 = .ok (.bipush (-9), 2) := by decide +kernel
theorem dX6_still_132 : decode cX6_still 132 = .ok (.ireturn, 1) := by decide +kernel
set_option maxRecDepth 20000 in
theorem ggX6_hush_X6_isHouse : GoodIn wsX6_hush wsX6_isHouse := goodIn_r _ [8, 9, 33, 34, 35, 36, 37, 38, 39, 40, 41, 42, 43, 44, 45, 46, 47, 48, 49, 50, 51, 52, 53, 54, 55, 56, 57, 58, 59, 60, 61, 62] (by decide +kernel) (by decide +kernel)
set_option maxRecDepth 20000 in
theorem gX6_hush_X6_isHouse : GoodIn wsX6_hush (wsV RX6 151 RX6 yX6_isHouse wsX6_isHouse) := goodIn_app (goodIn_of _ (by decide +kernel)) ggX6_hush_X6_isHouse
set_option maxRecDepth 20000 in
theorem ggX6_hush_X6_wakesFrom : GoodIn wsX6_hush wsX6_wakesFrom := goodIn_r _ [13, 14, 15, 16, 7, 17, 18, 19, 20, 21, 22, 1, 23, 24, 25, 26, 27, 28, 29, 30, 31, 32, 33, 34, 35, 36, 37, 38, 39, 40, 41, 42, 43, 44, 45, 46, 47, 48, 49, 50, 51, 52, 53, 54, 55, 56, 57, 58, 59, 60, 61, 62] (by decide +kernel) (by decide +kernel)
set_option maxRecDepth 20000 in
theorem gX6_hush_X6_wakesFrom : GoodIn wsX6_hush (wsV RX6 148 RX6 yX6_wakesFrom wsX6_wakesFrom) := goodIn_app (goodIn_of _ (by decide +kernel)) ggX6_hush_X6_wakesFrom
set_option maxRecDepth 20000 in
theorem ggX6_hush_X6_isOf : GoodIn wsX6_hush wsX6_isOf := goodIn_r _ [26] (by decide +kernel) (by decide +kernel)
set_option maxRecDepth 20000 in
theorem gX6_hush_X6_isOf : GoodIn wsX6_hush (va_wsS RX6 136 yX6_isOf wsX6_isOf) := goodIn_app (goodIn_of _ (by decide +kernel)) ggX6_hush_X6_isOf
theorem dX6_hush_0 : decode cX6_hush 0 = .ok (.aload_n 0, 1) := by decide +kernel
theorem dX6_hush_1 : decode cX6_hush 1 = .ok (.iload_n 1, 1) := by decide +kernel
theorem dX6_hush_2 : decode cX6_hush 2 = .ok (.invokevirtual 151, 3) := by decide +kernel
theorem dX6_hush_5 : decode cX6_hush 5 = .ok (.ifCond .ne 5, 3) := by decide +kernel
theorem dX6_hush_8 : decode cX6_hush 8 = .ok (.iconst (-1), 1) := by decide +kernel
theorem dX6_hush_9 : decode cX6_hush 9 = .ok (.ireturn, 1) := by decide +kernel
theorem dX6_hush_10 : decode cX6_hush 10 = .ok (.aload_n 0, 1) := by decide +kernel
theorem dX6_hush_11 : decode cX6_hush 11 = .ok (.getfield 114, 3) := by decide +kernel
theorem dX6_hush_14 : decode cX6_hush 14 = .ok (.istore_n 2, 1) := by decide +kernel
theorem dX6_hush_15 : decode cX6_hush 15 = .ok (.iconst 0, 1) := by decide +kernel
theorem dX6_hush_16 : decode cX6_hush 16 = .ok (.istore_n 3, 1) := by decide +kernel
theorem dX6_hush_17 : decode cX6_hush 17 = .ok (.iconst 1, 1) := by decide +kernel
theorem dX6_hush_18 : decode cX6_hush 18 = .ok (.istore 4, 2) := by decide +kernel
theorem dX6_hush_20 : decode cX6_hush 20 = .ok (.iconst 0, 1) := by decide +kernel
theorem dX6_hush_21 : decode cX6_hush 21 = .ok (.istore 5, 2) := by decide +kernel
theorem dX6_hush_23 : decode cX6_hush 23 = .ok (.iload 5, 2) := by decide +kernel
theorem dX6_hush_25 : decode cX6_hush 25 = .ok (.aload_n 0, 1) := by decide +kernel
theorem dX6_hush_26 : decode cX6_hush 26 = .ok (.getfield 71, 3) := by decide +kernel
theorem dX6_hush_29 : decode cX6_hush 29 = .ok (.if_icmp .ge 88, 3) := by decide +kernel
theorem dX6_hush_32 : decode cX6_hush 32 = .ok (.aload_n 0, 1) := by decide +kernel
theorem dX6_hush_33 : decode cX6_hush 33 = .ok (.iload_n 1, 1) := by decide +kernel
theorem dX6_hush_34 : decode cX6_hush 34 = .ok (.iload 5, 2) := by decide +kernel
theorem dX6_hush_36 : decode cX6_hush 36 = .ok (.aload_n 0, 1) := by decide +kernel
theorem dX6_hush_37 : decode cX6_hush 37 = .ok (.getfield 28, 3) := by decide +kernel
theorem dX6_hush_40 : decode cX6_hush 40 = .ok (.iload 5, 2) := by decide +kernel
theorem dX6_hush_42 : decode cX6_hush 42 = .ok (.iaload, 1) := by decide +kernel
theorem dX6_hush_43 : decode cX6_hush 43 = .ok (.invokevirtual 148, 3) := by decide +kernel
theorem dX6_hush_46 : decode cX6_hush 46 = .ok (.ifCond .eq 65, 3) := by decide +kernel
theorem dX6_hush_49 : decode cX6_hush 49 = .ok (.iload_n 3, 1) := by decide +kernel
theorem dX6_hush_50 : decode cX6_hush 50 = .ok (.iload_n 2, 1) := by decide +kernel
theorem dX6_hush_51 : decode cX6_hush 51 = .ok (.iload 5, 2) := by decide +kernel
theorem dX6_hush_53 : decode cX6_hush 53 = .ok (.invokestatic 136, 3) := by decide +kernel
theorem dX6_hush_56 : decode cX6_hush 56 = .ok (.ifCond .eq 7, 3) := by decide +kernel
theorem dX6_hush_59 : decode cX6_hush 59 = .ok (.iconst 0, 1) := by decide +kernel
theorem dX6_hush_60 : decode cX6_hush 60 = .ok (.goto 7, 3) := by decide +kernel
theorem dX6_hush_63 : decode cX6_hush 63 = .ok (.iconst 1, 1) := by decide +kernel
theorem dX6_hush_64 : decode cX6_hush 64 = .ok (.iload 5, 2) := by decide +kernel
theorem dX6_hush_66 : decode cX6_hush 66 = .ok (.ishl, 1) := by decide +kernel
theorem dX6_hush_67 : decode cX6_hush 67 = .ok (.ior, 1) := by decide +kernel
theorem dX6_hush_68 : decode cX6_hush 68 = .ok (.istore_n 3, 1) := by decide +kernel
theorem dX6_hush_69 : decode cX6_hush 69 = .ok (.aload_n 0, 1) := by decide +kernel
theorem dX6_hush_70 : decode cX6_hush 70 = .ok (.dup, 1) := by decide +kernel
theorem dX6_hush_71 : decode cX6_hush 71 = .ok (.getfield 114, 3) := by decide +kernel
theorem dX6_hush_74 : decode cX6_hush 74 = .ok (.iconst 1, 1) := by decide +kernel
theorem dX6_hush_75 : decode cX6_hush 75 = .ok (.iload 5, 2) := by decide +kernel
theorem dX6_hush_77 : decode cX6_hush 77 = .ok (.ishl, 1) := by decide +kernel
theorem dX6_hush_78 : decode cX6_hush 78 = .ok (.ior, 1) := by decide +kernel
theorem dX6_hush_79 : decode cX6_hush 79 = .ok (.putfield 114, 3) := by decide +kernel
theorem dX6_hush_82 : decode cX6_hush 82 = .ok (.iload 4, 2) := by decide +kernel
theorem dX6_hush_84 : decode cX6_hush 84 = .ok (.ifCond .eq 24, 3) := by decide +kernel
theorem dX6_hush_87 : decode cX6_hush 87 = .ok (.aload_n 0, 1) := by decide +kernel
theorem dX6_hush_88 : decode cX6_hush 88 = .ok (.iload_n 1, 1) := by decide +kernel
theorem dX6_hush_89 : decode cX6_hush 89 = .ok (.iload 5, 2) := by decide +kernel
theorem dX6_hush_91 : decode cX6_hush 91 = .ok (.aload_n 0, 1) := by decide +kernel
theorem dX6_hush_92 : decode cX6_hush 92 = .ok (.getfield 28, 3) := by decide +kernel
theorem dX6_hush_95 : decode cX6_hush 95 = .ok (.iload 5, 2) := by decide +kernel
theorem dX6_hush_97 : decode cX6_hush 97 = .ok (.iaload, 1) := by decide +kernel
theorem dX6_hush_98 : decode cX6_hush 98 = .ok (.invokevirtual 148, 3) := by decide +kernel
theorem dX6_hush_101 : decode cX6_hush 101 = .ok (.ifCond .ne 7, 3) := by decide +kernel
theorem dX6_hush_104 : decode cX6_hush 104 = .ok (.iconst 1, 1) := by decide +kernel
theorem dX6_hush_105 : decode cX6_hush 105 = .ok (.goto 4, 3) := by decide +kernel
theorem dX6_hush_108 : decode cX6_hush 108 = .ok (.iconst 0, 1) := by decide +kernel
theorem dX6_hush_109 : decode cX6_hush 109 = .ok (.istore 4, 2) := by decide +kernel
theorem dX6_hush_111 : decode cX6_hush 111 = .ok (.iinc 5 1, 3) := by decide +kernel
theorem dX6_hush_114 : decode cX6_hush 114 = .ok (.goto (-91), 3) := by decide +kernel
theorem dX6_hush_117 : decode cX6_hush 117 = .ok (.aload_n 0, 1) := by decide +kernel
theorem dX6_hush_118 : decode cX6_hush 118 = .ok (.iload_n 2, 1) := by decide +kernel
theorem dX6_hush_119 : decode cX6_hush 119 = .ok (.putfield 114, 3) := by decide +kernel
theorem dX6_hush_122 : decode cX6_hush 122 = .ok (.iload 4, 2) := by decide +kernel
theorem dX6_hush_124 : decode cX6_hush 124 = .ok (.ifCond .eq 7, 3) := by decide +kernel
theorem dX6_hush_127 : decode cX6_hush 127 = .ok (.iload_n 3, 1) := by decide +kernel
theorem dX6_hush_128 : decode cX6_hush 128 = .ok (.goto 5, 3) := by decide +kernel
theorem dX6_hush_131 : decode cX6_hush 131 = .ok (.bipush (-9), 2) := by decide +kernel
theorem dX6_hush_133 : decode cX6_hush 133 = .ok (.ireturn, 1) := by decide +kernel
set_option maxRecDepth 20000 in
theorem ggX6_reading_X6_isClock : GoodIn wsX6_reading wsX6_isClock := goodIn_r _ [10, 11, 20, 21, 22, 23, 24, 25, 26, 27, 28, 29, 30, 31, 32, 33, 34, 35, 36, 37, 38, 39, 40, 41, 42, 43, 44, 45, 46, 47, 48, 49] (by decide +kernel) (by decide +kernel)
set_option maxRecDepth 20000 in
theorem gX6_reading_X6_isClock : GoodIn wsX6_reading (wsV RX6 154 RX6 yX6_isClock wsX6_isClock) := goodIn_app (goodIn_of _ (by decide +kernel)) ggX6_reading_X6_isClock
set_option maxRecDepth 20000 in
theorem ggX6_reading_X6_isHouse : GoodIn wsX6_reading wsX6_isHouse := goodIn_r _ [15, 16, 20, 21, 22, 23, 24, 25, 26, 27, 28, 29, 30, 31, 32, 33, 34, 35, 36, 37, 38, 39, 40, 41, 42, 43, 44, 45, 46, 47, 48, 49] (by decide +kernel) (by decide +kernel)
set_option maxRecDepth 20000 in
theorem gX6_reading_X6_isHouse : GoodIn wsX6_reading (wsV RX6 151 RX6 yX6_isHouse wsX6_isHouse) := goodIn_app (goodIn_of _ (by decide +kernel)) ggX6_reading_X6_isHouse
set_option maxRecDepth 20000 in
theorem ggX6_reading_X6_within : GoodIn wsX6_reading wsX6_within := goodIn_r _ [19] (by decide +kernel) (by decide +kernel)
set_option maxRecDepth 20000 in
theorem gX6_reading_X6_within : GoodIn wsX6_reading (va_wsS RX6 64 yX6_within wsX6_within) := goodIn_app (goodIn_of _ (by decide +kernel)) ggX6_reading_X6_within
theorem dX6_reading_0 : decode cX6_reading 0 = .ok (.aload_n 0, 1) := by decide +kernel
theorem dX6_reading_1 : decode cX6_reading 1 = .ok (.iload_n 1, 1) := by decide +kernel
theorem dX6_reading_2 : decode cX6_reading 2 = .ok (.invokevirtual 154, 3) := by decide +kernel
theorem dX6_reading_5 : decode cX6_reading 5 = .ok (.ifCond .eq 19, 3) := by decide +kernel
theorem dX6_reading_8 : decode cX6_reading 8 = .ok (.aload_n 0, 1) := by decide +kernel
theorem dX6_reading_9 : decode cX6_reading 9 = .ok (.iload_n 2, 1) := by decide +kernel
theorem dX6_reading_10 : decode cX6_reading 10 = .ok (.invokevirtual 151, 3) := by decide +kernel
theorem dX6_reading_13 : decode cX6_reading 13 = .ok (.ifCond .eq 11, 3) := by decide +kernel
theorem dX6_reading_16 : decode cX6_reading 16 = .ok (.aload_n 0, 1) := by decide +kernel
theorem dX6_reading_17 : decode cX6_reading 17 = .ok (.iload_n 3, 1) := by decide +kernel
theorem dX6_reading_18 : decode cX6_reading 18 = .ok (.invokevirtual 151, 3) := by decide +kernel
theorem dX6_reading_21 : decode cX6_reading 21 = .ok (.ifCond .ne 5, 3) := by decide +kernel
theorem dX6_reading_24 : decode cX6_reading 24 = .ok (.iconst (-1), 1) := by decide +kernel
theorem dX6_reading_25 : decode cX6_reading 25 = .ok (.ireturn, 1) := by decide +kernel
theorem dX6_reading_26 : decode cX6_reading 26 = .ok (.iload 4, 2) := by decide +kernel
theorem dX6_reading_28 : decode cX6_reading 28 = .ok (.iconst 0, 1) := by decide +kernel
theorem dX6_reading_29 : decode cX6_reading 29 = .ok (.iconst 1, 1) := by decide +kernel
theorem dX6_reading_30 : decode cX6_reading 30 = .ok (.invokestatic 64, 3) := by decide +kernel
theorem dX6_reading_33 : decode cX6_reading 33 = .ok (.ifCond .ne 6, 3) := by decide +kernel
theorem dX6_reading_36 : decode cX6_reading 36 = .ok (.bipush (-2), 2) := by decide +kernel
theorem dX6_reading_38 : decode cX6_reading 38 = .ok (.ireturn, 1) := by decide +kernel
theorem dX6_reading_39 : decode cX6_reading 39 = .ok (.aload_n 0, 1) := by decide +kernel
theorem dX6_reading_40 : decode cX6_reading 40 = .ok (.getfield 120, 3) := by decide +kernel
theorem dX6_reading_43 : decode cX6_reading 43 = .ok (.bipush 8, 2) := by decide +kernel
theorem dX6_reading_45 : decode cX6_reading 45 = .ok (.if_icmp .ne 6, 3) := by decide +kernel
theorem dX6_reading_48 : decode cX6_reading 48 = .ok (.bipush (-4), 2) := by decide +kernel
theorem dX6_reading_50 : decode cX6_reading 50 = .ok (.ireturn, 1) := by decide +kernel
theorem dX6_reading_51 : decode cX6_reading 51 = .ok (.aload_n 0, 1) := by decide +kernel
theorem dX6_reading_52 : decode cX6_reading 52 = .ok (.getfield 46, 3) := by decide +kernel
theorem dX6_reading_55 : decode cX6_reading 55 = .ok (.aload_n 0, 1) := by decide +kernel
theorem dX6_reading_56 : decode cX6_reading 56 = .ok (.getfield 120, 3) := by decide +kernel
theorem dX6_reading_59 : decode cX6_reading 59 = .ok (.iload_n 1, 1) := by decide +kernel
theorem dX6_reading_60 : decode cX6_reading 60 = .ok (.iastore, 1) := by decide +kernel
theorem dX6_reading_61 : decode cX6_reading 61 = .ok (.aload_n 0, 1) := by decide +kernel
theorem dX6_reading_62 : decode cX6_reading 62 = .ok (.getfield 49, 3) := by decide +kernel
theorem dX6_reading_65 : decode cX6_reading 65 = .ok (.aload_n 0, 1) := by decide +kernel
theorem dX6_reading_66 : decode cX6_reading 66 = .ok (.getfield 120, 3) := by decide +kernel
theorem dX6_reading_69 : decode cX6_reading 69 = .ok (.iload_n 2, 1) := by decide +kernel
theorem dX6_reading_70 : decode cX6_reading 70 = .ok (.iastore, 1) := by decide +kernel
theorem dX6_reading_71 : decode cX6_reading 71 = .ok (.aload_n 0, 1) := by decide +kernel
theorem dX6_reading_72 : decode cX6_reading 72 = .ok (.getfield 52, 3) := by decide +kernel
theorem dX6_reading_75 : decode cX6_reading 75 = .ok (.aload_n 0, 1) := by decide +kernel
theorem dX6_reading_76 : decode cX6_reading 76 = .ok (.getfield 120, 3) := by decide +kernel
theorem dX6_reading_79 : decode cX6_reading 79 = .ok (.iload_n 3, 1) := by decide +kernel
theorem dX6_reading_80 : decode cX6_reading 80 = .ok (.iastore, 1) := by decide +kernel
theorem dX6_reading_81 : decode cX6_reading 81 = .ok (.aload_n 0, 1) := by decide +kernel
theorem dX6_reading_82 : decode cX6_reading 82 = .ok (.getfield 55, 3) := by decide +kernel
theorem dX6_reading_85 : decode cX6_reading 85 = .ok (.aload_n 0, 1) := by decide +kernel
theorem dX6_reading_86 : decode cX6_reading 86 = .ok (.getfield 120, 3) := by decide +kernel
theorem dX6_reading_89 : decode cX6_reading 89 = .ok (.iload 4, 2) := by decide +kernel
theorem dX6_reading_91 : decode cX6_reading 91 = .ok (.iastore, 1) := by decide +kernel
theorem dX6_reading_92 : decode cX6_reading 92 = .ok (.aload_n 0, 1) := by decide +kernel
theorem dX6_reading_93 : decode cX6_reading 93 = .ok (.dup, 1) := by decide +kernel
theorem dX6_reading_94 : decode cX6_reading 94 = .ok (.getfield 120, 3) := by decide +kernel
theorem dX6_reading_97 : decode cX6_reading 97 = .ok (.iconst 1, 1) := by decide +kernel
theorem dX6_reading_98 : decode cX6_reading 98 = .ok (.iadd, 1) := by decide +kernel
theorem dX6_reading_99 : decode cX6_reading 99 = .ok (.putfield 120, 3) := by decide +kernel
theorem dX6_reading_102 : decode cX6_reading 102 = .ok (.aload_n 0, 1) := by decide +kernel
theorem dX6_reading_103 : decode cX6_reading 103 = .ok (.getfield 120, 3) := by decide +kernel
theorem dX6_reading_106 : decode cX6_reading 106 = .ok (.iconst 1, 1) := by decide +kernel
theorem dX6_reading_107 : decode cX6_reading 107 = .ok (.isub, 1) := by decide +kernel
theorem dX6_reading_108 : decode cX6_reading 108 = .ok (.ireturn, 1) := by decide +kernel
set_option maxRecDepth 20000 in
theorem ggX6_back_X6_within : GoodIn wsX6_back wsX6_within := goodIn_r _ [5] (by decide +kernel) (by decide +kernel)
set_option maxRecDepth 20000 in
theorem gX6_back_X6_within : GoodIn wsX6_back (va_wsS RX6 64 yX6_within wsX6_within) := goodIn_app (goodIn_of _ (by decide +kernel)) ggX6_back_X6_within
theorem dX6_back_0 : decode cX6_back 0 = .ok (.iload_n 1, 1) := by decide +kernel
theorem dX6_back_1 : decode cX6_back 1 = .ok (.iconst 0, 1) := by decide +kernel
theorem dX6_back_2 : decode cX6_back 2 = .ok (.aload_n 0, 1) := by decide +kernel
theorem dX6_back_3 : decode cX6_back 3 = .ok (.getfield 120, 3) := by decide +kernel
theorem dX6_back_6 : decode cX6_back 6 = .ok (.invokestatic 64, 3) := by decide +kernel
theorem dX6_back_9 : decode cX6_back 9 = .ok (.ifCond .ne 6, 3) := by decide +kernel
theorem dX6_back_12 : decode cX6_back 12 = .ok (.bipush (-2), 2) := by decide +kernel
theorem dX6_back_14 : decode cX6_back 14 = .ok (.ireturn, 1) := by decide +kernel
theorem dX6_back_15 : decode cX6_back 15 = .ok (.aload_n 0, 1) := by decide +kernel
theorem dX6_back_16 : decode cX6_back 16 = .ok (.dup, 1) := by decide +kernel
theorem dX6_back_17 : decode cX6_back 17 = .ok (.getfield 120, 3) := by decide +kernel
theorem dX6_back_20 : decode cX6_back 20 = .ok (.iload_n 1, 1) := by decide +kernel
theorem dX6_back_21 : decode cX6_back 21 = .ok (.isub, 1) := by decide +kernel
theorem dX6_back_22 : decode cX6_back 22 = .ok (.putfield 120, 3) := by decide +kernel
theorem dX6_back_25 : decode cX6_back 25 = .ok (.aload_n 0, 1) := by decide +kernel
theorem dX6_back_26 : decode cX6_back 26 = .ok (.getfield 120, 3) := by decide +kernel
theorem dX6_back_29 : decode cX6_back 29 = .ok (.ireturn, 1) := by decide +kernel
set_option maxRecDepth 20000 in
theorem ggX6_areSo_X6_wakesFrom : GoodIn wsX6_areSo wsX6_wakesFrom := goodIn_r _ [10, 11, 12, 13, 9, 14, 15, 16, 17, 18, 19, 20, 21, 22, 23, 24, 25, 26, 27, 28, 29, 30, 31, 32, 33, 34, 35, 36, 37, 38, 39, 40, 41, 42, 43, 44, 45, 46, 47, 48, 49, 50, 51, 52, 53, 54, 55, 56, 57, 58, 59, 60] (by decide +kernel) (by decide +kernel)
set_option maxRecDepth 20000 in
theorem gX6_areSo_X6_wakesFrom : GoodIn wsX6_areSo (wsV RX6 148 RX6 yX6_wakesFrom wsX6_wakesFrom) := goodIn_app (goodIn_of _ (by decide +kernel)) ggX6_areSo_X6_wakesFrom
theorem dX6_areSo_0 : decode cX6_areSo 0 = .ok (.iconst 0, 1) := by decide +kernel
theorem dX6_areSo_1 : decode cX6_areSo 1 = .ok (.istore_n 1, 1) := by decide +kernel
theorem dX6_areSo_2 : decode cX6_areSo 2 = .ok (.iload_n 1, 1) := by decide +kernel
theorem dX6_areSo_3 : decode cX6_areSo 3 = .ok (.aload_n 0, 1) := by decide +kernel
theorem dX6_areSo_4 : decode cX6_areSo 4 = .ok (.getfield 120, 3) := by decide +kernel
theorem dX6_areSo_7 : decode cX6_areSo 7 = .ok (.if_icmp .ge 52, 3) := by decide +kernel
theorem dX6_areSo_10 : decode cX6_areSo 10 = .ok (.aload_n 0, 1) := by decide +kernel
theorem dX6_areSo_11 : decode cX6_areSo 11 = .ok (.aload_n 0, 1) := by decide +kernel
theorem dX6_areSo_12 : decode cX6_areSo 12 = .ok (.getfield 52, 3) := by decide +kernel
theorem dX6_areSo_15 : decode cX6_areSo 15 = .ok (.iload_n 1, 1) := by decide +kernel
theorem dX6_areSo_16 : decode cX6_areSo 16 = .ok (.iaload, 1) := by decide +kernel
theorem dX6_areSo_17 : decode cX6_areSo 17 = .ok (.aload_n 0, 1) := by decide +kernel
theorem dX6_areSo_18 : decode cX6_areSo 18 = .ok (.getfield 46, 3) := by decide +kernel
theorem dX6_areSo_21 : decode cX6_areSo 21 = .ok (.iload_n 1, 1) := by decide +kernel
theorem dX6_areSo_22 : decode cX6_areSo 22 = .ok (.iaload, 1) := by decide +kernel
theorem dX6_areSo_23 : decode cX6_areSo 23 = .ok (.aload_n 0, 1) := by decide +kernel
theorem dX6_areSo_24 : decode cX6_areSo 24 = .ok (.getfield 49, 3) := by decide +kernel
theorem dX6_areSo_27 : decode cX6_areSo 27 = .ok (.iload_n 1, 1) := by decide +kernel
theorem dX6_areSo_28 : decode cX6_areSo 28 = .ok (.iaload, 1) := by decide +kernel
theorem dX6_areSo_29 : decode cX6_areSo 29 = .ok (.invokevirtual 148, 3) := by decide +kernel
theorem dX6_areSo_32 : decode cX6_areSo 32 = .ok (.ifCond .eq 7, 3) := by decide +kernel
theorem dX6_areSo_35 : decode cX6_areSo 35 = .ok (.iconst 1, 1) := by decide +kernel
theorem dX6_areSo_36 : decode cX6_areSo 36 = .ok (.goto 4, 3) := by decide +kernel
theorem dX6_areSo_39 : decode cX6_areSo 39 = .ok (.iconst 0, 1) := by decide +kernel
theorem dX6_areSo_40 : decode cX6_areSo 40 = .ok (.istore_n 2, 1) := by decide +kernel
theorem dX6_areSo_41 : decode cX6_areSo 41 = .ok (.iload_n 2, 1) := by decide +kernel
theorem dX6_areSo_42 : decode cX6_areSo 42 = .ok (.aload_n 0, 1) := by decide +kernel
theorem dX6_areSo_43 : decode cX6_areSo 43 = .ok (.getfield 55, 3) := by decide +kernel
theorem dX6_areSo_46 : decode cX6_areSo 46 = .ok (.iload_n 1, 1) := by decide +kernel
theorem dX6_areSo_47 : decode cX6_areSo 47 = .ok (.iaload, 1) := by decide +kernel
theorem dX6_areSo_48 : decode cX6_areSo 48 = .ok (.if_icmp .eq 5, 3) := by decide +kernel
theorem dX6_areSo_51 : decode cX6_areSo 51 = .ok (.iconst 0, 1) := by decide +kernel
theorem dX6_areSo_52 : decode cX6_areSo 52 = .ok (.ireturn, 1) := by decide +kernel
theorem dX6_areSo_53 : decode cX6_areSo 53 = .ok (.iinc 1 1, 3) := by decide +kernel
theorem dX6_areSo_56 : decode cX6_areSo 56 = .ok (.goto (-54), 3) := by decide +kernel
theorem dX6_areSo_59 : decode cX6_areSo 59 = .ok (.iconst 1, 1) := by decide +kernel
theorem dX6_areSo_60 : decode cX6_areSo 60 = .ok (.ireturn, 1) := by decide +kernel
set_option maxRecDepth 20000 in
theorem ggX6_depths_X6_isHouse : GoodIn wsX6_depths wsX6_isHouse := goodIn_r _ [6, 7, 40, 41, 42, 43, 44, 45, 46, 47, 48, 49, 50, 51, 52, 53, 54, 55, 56, 57, 58, 59, 60, 61, 62, 63, 64, 65, 66, 67, 68, 69] (by decide +kernel) (by decide +kernel)
set_option maxRecDepth 20000 in
theorem gX6_depths_X6_isHouse : GoodIn wsX6_depths (wsV RX6 151 RX6 yX6_isHouse wsX6_isHouse) := goodIn_app (goodIn_of _ (by decide +kernel)) ggX6_depths_X6_isHouse
set_option maxRecDepth 20000 in
theorem ggX6_depths_X6_areSo : GoodIn wsX6_depths wsX6_areSo := goodIn_r _ [11, 12, 13, 14, 15, 16, 17, 18, 19, 5, 20, 21, 22, 23, 24, 25, 26, 27, 28, 29, 30, 31, 32, 33, 34, 35, 36, 37, 38, 39, 1, 40, 41, 42, 43, 44, 45, 46, 47, 48, 49, 50, 51, 52, 53, 54, 55, 56, 57, 58, 59, 60, 61, 62, 63, 64, 65, 66, 67, 68, 69] (by decide +kernel) (by decide +kernel)
set_option maxRecDepth 20000 in
theorem gX6_depths_X6_areSo : GoodIn wsX6_depths (wsV RX6 211 RX6 yX6_areSo wsX6_areSo) := goodIn_app (goodIn_of _ (by decide +kernel)) ggX6_depths_X6_areSo
theorem dX6_depths_0 : decode cX6_depths 0 = .ok (.aload_n 0, 1) := by decide +kernel
theorem dX6_depths_1 : decode cX6_depths 1 = .ok (.iload_n 1, 1) := by decide +kernel
theorem dX6_depths_2 : decode cX6_depths 2 = .ok (.invokevirtual 151, 3) := by decide +kernel
theorem dX6_depths_5 : decode cX6_depths 5 = .ok (.ifCond .ne 5, 3) := by decide +kernel
theorem dX6_depths_8 : decode cX6_depths 8 = .ok (.iconst (-1), 1) := by decide +kernel
theorem dX6_depths_9 : decode cX6_depths 9 = .ok (.ireturn, 1) := by decide +kernel
theorem dX6_depths_10 : decode cX6_depths 10 = .ok (.aload_n 0, 1) := by decide +kernel
theorem dX6_depths_11 : decode cX6_depths 11 = .ok (.getfield 22, 3) := by decide +kernel
theorem dX6_depths_14 : decode cX6_depths 14 = .ok (.iload_n 1, 1) := by decide +kernel
theorem dX6_depths_15 : decode cX6_depths 15 = .ok (.iaload, 1) := by decide +kernel
theorem dX6_depths_16 : decode cX6_depths 16 = .ok (.istore_n 2, 1) := by decide +kernel
theorem dX6_depths_17 : decode cX6_depths 17 = .ok (.iconst 0, 1) := by decide +kernel
theorem dX6_depths_18 : decode cX6_depths 18 = .ok (.istore_n 3, 1) := by decide +kernel
theorem dX6_depths_19 : decode cX6_depths 19 = .ok (.iconst 1, 1) := by decide +kernel
theorem dX6_depths_20 : decode cX6_depths 20 = .ok (.istore 4, 2) := by decide +kernel
theorem dX6_depths_22 : decode cX6_depths 22 = .ok (.iload 4, 2) := by decide +kernel
theorem dX6_depths_24 : decode cX6_depths 24 = .ok (.bipush 9, 2) := by decide +kernel
theorem dX6_depths_26 : decode cX6_depths 26 = .ok (.if_icmp .gt 35, 3) := by decide +kernel
theorem dX6_depths_29 : decode cX6_depths 29 = .ok (.aload_n 0, 1) := by decide +kernel
theorem dX6_depths_30 : decode cX6_depths 30 = .ok (.getfield 22, 3) := by decide +kernel
theorem dX6_depths_33 : decode cX6_depths 33 = .ok (.iload_n 1, 1) := by decide +kernel
theorem dX6_depths_34 : decode cX6_depths 34 = .ok (.iload 4, 2) := by decide +kernel
theorem dX6_depths_36 : decode cX6_depths 36 = .ok (.iastore, 1) := by decide +kernel
theorem dX6_depths_37 : decode cX6_depths 37 = .ok (.iload_n 3, 1) := by decide +kernel
theorem dX6_depths_38 : decode cX6_depths 38 = .ok (.aload_n 0, 1) := by decide +kernel
theorem dX6_depths_39 : decode cX6_depths 39 = .ok (.invokevirtual 211, 3) := by decide +kernel
theorem dX6_depths_42 : decode cX6_depths 42 = .ok (.ifCond .eq 10, 3) := by decide +kernel
theorem dX6_depths_45 : decode cX6_depths 45 = .ok (.iconst 1, 1) := by decide +kernel
theorem dX6_depths_46 : decode cX6_depths 46 = .ok (.iload 4, 2) := by decide +kernel
theorem dX6_depths_48 : decode cX6_depths 48 = .ok (.ishl, 1) := by decide +kernel
theorem dX6_depths_49 : decode cX6_depths 49 = .ok (.goto 4, 3) := by decide +kernel
theorem dX6_depths_52 : decode cX6_depths 52 = .ok (.iconst 0, 1) := by decide +kernel
theorem dX6_depths_53 : decode cX6_depths 53 = .ok (.ior, 1) := by decide +kernel
theorem dX6_depths_54 : decode cX6_depths 54 = .ok (.istore_n 3, 1) := by decide +kernel
theorem dX6_depths_55 : decode cX6_depths 55 = .ok (.iinc 4 1, 3) := by decide +kernel
theorem dX6_depths_58 : decode cX6_depths 58 = .ok (.goto (-36), 3) := by decide +kernel
theorem dX6_depths_61 : decode cX6_depths 61 = .ok (.aload_n 0, 1) := by decide +kernel
theorem dX6_depths_62 : decode cX6_depths 62 = .ok (.getfield 22, 3) := by decide +kernel
theorem dX6_depths_65 : decode cX6_depths 65 = .ok (.iload_n 1, 1) := by decide +kernel
theorem dX6_depths_66 : decode cX6_depths 66 = .ok (.iload_n 2, 1) := by decide +kernel
theorem dX6_depths_67 : decode cX6_depths 67 = .ok (.iastore, 1) := by decide +kernel
theorem dX6_depths_68 : decode cX6_depths 68 = .ok (.iload_n 3, 1) := by decide +kernel
theorem dX6_depths_69 : decode cX6_depths 69 = .ok (.ireturn, 1) := by decide +kernel
set_option maxRecDepth 20000 in
theorem ggX6_kinds_X6_isHouse : GoodIn wsX6_kinds wsX6_isHouse := goodIn_r _ [6, 7, 40, 41, 42, 43, 44, 45, 46, 47, 48, 49, 50, 51, 52, 53, 54, 55, 56, 57, 58, 59, 60, 61, 62, 63, 64, 65, 66, 67, 68, 69] (by decide +kernel) (by decide +kernel)
set_option maxRecDepth 20000 in
theorem gX6_kinds_X6_isHouse : GoodIn wsX6_kinds (wsV RX6 151 RX6 yX6_isHouse wsX6_isHouse) := goodIn_app (goodIn_of _ (by decide +kernel)) ggX6_kinds_X6_isHouse
set_option maxRecDepth 20000 in
theorem ggX6_kinds_X6_areSo : GoodIn wsX6_kinds wsX6_areSo := goodIn_r _ [11, 12, 13, 14, 15, 16, 17, 18, 19, 5, 20, 21, 22, 23, 24, 25, 26, 27, 28, 29, 30, 31, 32, 33, 34, 35, 36, 37, 38, 1, 39, 40, 41, 42, 43, 44, 45, 46, 47, 48, 49, 50, 51, 52, 53, 54, 55, 56, 57, 58, 59, 60, 61, 62, 63, 64, 65, 66, 67, 68, 69] (by decide +kernel) (by decide +kernel)
set_option maxRecDepth 20000 in
theorem gX6_kinds_X6_areSo : GoodIn wsX6_kinds (wsV RX6 211 RX6 yX6_areSo wsX6_areSo) := goodIn_app (goodIn_of _ (by decide +kernel)) ggX6_kinds_X6_areSo
theorem dX6_kinds_0 : decode cX6_kinds 0 = .ok (.aload_n 0, 1) := by decide +kernel
theorem dX6_kinds_1 : decode cX6_kinds 1 = .ok (.iload_n 1, 1) := by decide +kernel
theorem dX6_kinds_2 : decode cX6_kinds 2 = .ok (.invokevirtual 151, 3) := by decide +kernel
theorem dX6_kinds_5 : decode cX6_kinds 5 = .ok (.ifCond .ne 5, 3) := by decide +kernel
theorem dX6_kinds_8 : decode cX6_kinds 8 = .ok (.iconst (-1), 1) := by decide +kernel
theorem dX6_kinds_9 : decode cX6_kinds 9 = .ok (.ireturn, 1) := by decide +kernel
theorem dX6_kinds_10 : decode cX6_kinds 10 = .ok (.aload_n 0, 1) := by decide +kernel
theorem dX6_kinds_11 : decode cX6_kinds 11 = .ok (.getfield 19, 3) := by decide +kernel
theorem dX6_kinds_14 : decode cX6_kinds 14 = .ok (.iload_n 1, 1) := by decide +kernel
theorem dX6_kinds_15 : decode cX6_kinds 15 = .ok (.iaload, 1) := by decide +kernel
theorem dX6_kinds_16 : decode cX6_kinds 16 = .ok (.istore_n 2, 1) := by decide +kernel
theorem dX6_kinds_17 : decode cX6_kinds 17 = .ok (.iconst 0, 1) := by decide +kernel
theorem dX6_kinds_18 : decode cX6_kinds 18 = .ok (.istore_n 3, 1) := by decide +kernel
theorem dX6_kinds_19 : decode cX6_kinds 19 = .ok (.iconst 0, 1) := by decide +kernel
theorem dX6_kinds_20 : decode cX6_kinds 20 = .ok (.istore 4, 2) := by decide +kernel
theorem dX6_kinds_22 : decode cX6_kinds 22 = .ok (.iload 4, 2) := by decide +kernel
theorem dX6_kinds_24 : decode cX6_kinds 24 = .ok (.iconst 3, 1) := by decide +kernel
theorem dX6_kinds_25 : decode cX6_kinds 25 = .ok (.if_icmp .ge 35, 3) := by decide +kernel
theorem dX6_kinds_28 : decode cX6_kinds 28 = .ok (.aload_n 0, 1) := by decide +kernel
theorem dX6_kinds_29 : decode cX6_kinds 29 = .ok (.getfield 19, 3) := by decide +kernel
theorem dX6_kinds_32 : decode cX6_kinds 32 = .ok (.iload_n 1, 1) := by decide +kernel
theorem dX6_kinds_33 : decode cX6_kinds 33 = .ok (.iload 4, 2) := by decide +kernel
theorem dX6_kinds_35 : decode cX6_kinds 35 = .ok (.iastore, 1) := by decide +kernel
theorem dX6_kinds_36 : decode cX6_kinds 36 = .ok (.iload_n 3, 1) := by decide +kernel
theorem dX6_kinds_37 : decode cX6_kinds 37 = .ok (.aload_n 0, 1) := by decide +kernel
theorem dX6_kinds_38 : decode cX6_kinds 38 = .ok (.invokevirtual 211, 3) := by decide +kernel
theorem dX6_kinds_41 : decode cX6_kinds 41 = .ok (.ifCond .eq 10, 3) := by decide +kernel
theorem dX6_kinds_44 : decode cX6_kinds 44 = .ok (.iconst 1, 1) := by decide +kernel
theorem dX6_kinds_45 : decode cX6_kinds 45 = .ok (.iload 4, 2) := by decide +kernel
theorem dX6_kinds_47 : decode cX6_kinds 47 = .ok (.ishl, 1) := by decide +kernel
theorem dX6_kinds_48 : decode cX6_kinds 48 = .ok (.goto 4, 3) := by decide +kernel
theorem dX6_kinds_51 : decode cX6_kinds 51 = .ok (.iconst 0, 1) := by decide +kernel
theorem dX6_kinds_52 : decode cX6_kinds 52 = .ok (.ior, 1) := by decide +kernel
theorem dX6_kinds_53 : decode cX6_kinds 53 = .ok (.istore_n 3, 1) := by decide +kernel
theorem dX6_kinds_54 : decode cX6_kinds 54 = .ok (.iinc 4 1, 3) := by decide +kernel
theorem dX6_kinds_57 : decode cX6_kinds 57 = .ok (.goto (-35), 3) := by decide +kernel
theorem dX6_kinds_60 : decode cX6_kinds 60 = .ok (.aload_n 0, 1) := by decide +kernel
theorem dX6_kinds_61 : decode cX6_kinds 61 = .ok (.getfield 19, 3) := by decide +kernel
theorem dX6_kinds_64 : decode cX6_kinds 64 = .ok (.iload_n 1, 1) := by decide +kernel
theorem dX6_kinds_65 : decode cX6_kinds 65 = .ok (.iload_n 2, 1) := by decide +kernel
theorem dX6_kinds_66 : decode cX6_kinds 66 = .ok (.iastore, 1) := by decide +kernel
theorem dX6_kinds_67 : decode cX6_kinds 67 = .ok (.iload_n 3, 1) := by decide +kernel
theorem dX6_kinds_68 : decode cX6_kinds 68 = .ok (.ireturn, 1) := by decide +kernel
set_option maxRecDepth 20000 in
theorem ggX6_louds_X6_isClock : GoodIn wsX6_louds wsX6_isClock := goodIn_r _ [6, 7, 40, 41, 42, 43, 44, 45, 46, 47, 48, 49, 50, 51, 52, 53, 54, 55, 56, 57, 58, 59, 60, 61, 62, 63, 64, 65, 66, 67, 68, 69] (by decide +kernel) (by decide +kernel)
set_option maxRecDepth 20000 in
theorem gX6_louds_X6_isClock : GoodIn wsX6_louds (wsV RX6 154 RX6 yX6_isClock wsX6_isClock) := goodIn_app (goodIn_of _ (by decide +kernel)) ggX6_louds_X6_isClock
set_option maxRecDepth 20000 in
theorem ggX6_louds_X6_areSo : GoodIn wsX6_louds wsX6_areSo := goodIn_r _ [11, 12, 13, 14, 15, 16, 17, 18, 19, 5, 20, 21, 22, 23, 24, 25, 26, 27, 28, 29, 30, 1, 31, 32, 33, 34, 35, 36, 37, 38, 39, 40, 41, 42, 43, 44, 45, 46, 47, 48, 49, 50, 51, 52, 53, 54, 55, 56, 57, 58, 59, 60, 61, 62, 63, 64, 65, 66, 67, 68, 69] (by decide +kernel) (by decide +kernel)
set_option maxRecDepth 20000 in
theorem gX6_louds_X6_areSo : GoodIn wsX6_louds (wsV RX6 211 RX6 yX6_areSo wsX6_areSo) := goodIn_app (goodIn_of _ (by decide +kernel)) ggX6_louds_X6_areSo
theorem dX6_louds_0 : decode cX6_louds 0 = .ok (.aload_n 0, 1) := by decide +kernel
theorem dX6_louds_1 : decode cX6_louds 1 = .ok (.iload_n 1, 1) := by decide +kernel
theorem dX6_louds_2 : decode cX6_louds 2 = .ok (.invokevirtual 154, 3) := by decide +kernel
theorem dX6_louds_5 : decode cX6_louds 5 = .ok (.ifCond .ne 5, 3) := by decide +kernel
theorem dX6_louds_8 : decode cX6_louds 8 = .ok (.iconst (-1), 1) := by decide +kernel
theorem dX6_louds_9 : decode cX6_louds 9 = .ok (.ireturn, 1) := by decide +kernel
theorem dX6_louds_10 : decode cX6_louds 10 = .ok (.aload_n 0, 1) := by decide +kernel
theorem dX6_louds_11 : decode cX6_louds 11 = .ok (.getfield 25, 3) := by decide +kernel
theorem dX6_louds_14 : decode cX6_louds 14 = .ok (.iload_n 1, 1) := by decide +kernel
theorem dX6_louds_15 : decode cX6_louds 15 = .ok (.iaload, 1) := by decide +kernel
theorem dX6_louds_16 : decode cX6_louds 16 = .ok (.istore_n 2, 1) := by decide +kernel
theorem dX6_louds_17 : decode cX6_louds 17 = .ok (.iconst 0, 1) := by decide +kernel
theorem dX6_louds_18 : decode cX6_louds 18 = .ok (.istore_n 3, 1) := by decide +kernel
theorem dX6_louds_19 : decode cX6_louds 19 = .ok (.iconst 1, 1) := by decide +kernel
theorem dX6_louds_20 : decode cX6_louds 20 = .ok (.istore 4, 2) := by decide +kernel
theorem dX6_louds_22 : decode cX6_louds 22 = .ok (.iload 4, 2) := by decide +kernel
theorem dX6_louds_24 : decode cX6_louds 24 = .ok (.bipush 9, 2) := by decide +kernel
theorem dX6_louds_26 : decode cX6_louds 26 = .ok (.if_icmp .gt 35, 3) := by decide +kernel
theorem dX6_louds_29 : decode cX6_louds 29 = .ok (.aload_n 0, 1) := by decide +kernel
theorem dX6_louds_30 : decode cX6_louds 30 = .ok (.getfield 25, 3) := by decide +kernel
theorem dX6_louds_33 : decode cX6_louds 33 = .ok (.iload_n 1, 1) := by decide +kernel
theorem dX6_louds_34 : decode cX6_louds 34 = .ok (.iload 4, 2) := by decide +kernel
theorem dX6_louds_36 : decode cX6_louds 36 = .ok (.iastore, 1) := by decide +kernel
theorem dX6_louds_37 : decode cX6_louds 37 = .ok (.iload_n 3, 1) := by decide +kernel
theorem dX6_louds_38 : decode cX6_louds 38 = .ok (.aload_n 0, 1) := by decide +kernel
theorem dX6_louds_39 : decode cX6_louds 39 = .ok (.invokevirtual 211, 3) := by decide +kernel
theorem dX6_louds_42 : decode cX6_louds 42 = .ok (.ifCond .eq 10, 3) := by decide +kernel
theorem dX6_louds_45 : decode cX6_louds 45 = .ok (.iconst 1, 1) := by decide +kernel
theorem dX6_louds_46 : decode cX6_louds 46 = .ok (.iload 4, 2) := by decide +kernel
theorem dX6_louds_48 : decode cX6_louds 48 = .ok (.ishl, 1) := by decide +kernel
theorem dX6_louds_49 : decode cX6_louds 49 = .ok (.goto 4, 3) := by decide +kernel
theorem dX6_louds_52 : decode cX6_louds 52 = .ok (.iconst 0, 1) := by decide +kernel
theorem dX6_louds_53 : decode cX6_louds 53 = .ok (.ior, 1) := by decide +kernel
