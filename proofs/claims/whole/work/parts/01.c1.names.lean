theorem dX5_drowse_28 : decode cX5_drowse 28 = .ok (.getfield 12, 3) := by decide +kernel
theorem dX5_drowse_31 : decode cX5_drowse 31 = .ok (.getfield 98, 3) := by decide +kernel
theorem dX5_drowse_34 : decode cX5_drowse 34 = .ok (.iload_n 1, 1) := by decide +kernel
theorem dX5_drowse_35 : decode cX5_drowse 35 = .ok (.iaload, 1) := by decide +kernel
theorem dX5_drowse_36 : decode cX5_drowse 36 = .ok (.istore_n 3, 1) := by decide +kernel
theorem dX5_drowse_37 : decode cX5_drowse 37 = .ok (.aload_n 0, 1) := by decide +kernel
theorem dX5_drowse_38 : decode cX5_drowse 38 = .ok (.getfield 12, 3) := by decide +kernel
theorem dX5_drowse_41 : decode cX5_drowse 41 = .ok (.getfield 98, 3) := by decide +kernel
theorem dX5_drowse_44 : decode cX5_drowse 44 = .ok (.iload_n 1, 1) := by decide +kernel
theorem dX5_drowse_45 : decode cX5_drowse 45 = .ok (.iload_n 2, 1) := by decide +kernel
theorem dX5_drowse_46 : decode cX5_drowse 46 = .ok (.iastore, 1) := by decide +kernel
theorem dX5_drowse_47 : decode cX5_drowse 47 = .ok (.iload_n 3, 1) := by decide +kernel
theorem dX5_drowse_48 : decode cX5_drowse 48 = .ok (.ireturn, 1) := by decide +kernel
set_option maxRecDepth 20000 in
theorem ggX5_tune_X3_hasClock : GoodIn wsX5_tune wsX3_hasClock := goodIn_r _ [7, 8, 19, 20, 21, 22, 23, 24, 25, 26, 27, 28] (by decide +kernel) (by decide +kernel)
set_option maxRecDepth 20000 in
theorem gX5_tune_X3_hasClock : GoodIn wsX5_tune (wsV RX5 110 RX3 yX3_hasClock wsX3_hasClock) := goodIn_app (goodIn_of _ (by decide +kernel)) ggX5_tune_X3_hasClock
theorem dX5_tune_0 : decode cX5_tune 0 = .ok (.aload_n 0, 1) := by decide +kernel
theorem dX5_tune_1 : decode cX5_tune 1 = .ok (.getfield 12, 3) := by decide +kernel
theorem dX5_tune_4 : decode cX5_tune 4 = .ok (.iload_n 1, 1) := by decide +kernel
theorem dX5_tune_5 : decode cX5_tune 5 = .ok (.invokevirtual 110, 3) := by decide +kernel
theorem dX5_tune_8 : decode cX5_tune 8 = .ok (.ifCond .ne 5, 3) := by decide +kernel
theorem dX5_tune_11 : decode cX5_tune 11 = .ok (.iconst (-1), 1) := by decide +kernel
theorem dX5_tune_12 : decode cX5_tune 12 = .ok (.ireturn, 1) := by decide +kernel
theorem dX5_tune_13 : decode cX5_tune 13 = .ok (.iload_n 2, 1) := by decide +kernel
theorem dX5_tune_14 : decode cX5_tune 14 = .ok (.iconst 1, 1) := by decide +kernel
theorem dX5_tune_15 : decode cX5_tune 15 = .ok (.if_icmp .lt 9, 3) := by decide +kernel
theorem dX5_tune_18 : decode cX5_tune 18 = .ok (.iload_n 2, 1) := by decide +kernel
theorem dX5_tune_19 : decode cX5_tune 19 = .ok (.bipush 9, 2) := by decide +kernel
theorem dX5_tune_21 : decode cX5_tune 21 = .ok (.if_icmp .le 6, 3) := by decide +kernel
theorem dX5_tune_24 : decode cX5_tune 24 = .ok (.bipush (-2), 2) := by decide +kernel
theorem dX5_tune_26 : decode cX5_tune 26 = .ok (.ireturn, 1) := by decide +kernel
theorem dX5_tune_27 : decode cX5_tune 27 = .ok (.aload_n 0, 1) := by decide +kernel
theorem dX5_tune_28 : decode cX5_tune 28 = .ok (.getfield 12, 3) := by decide +kernel
theorem dX5_tune_31 : decode cX5_tune 31 = .ok (.getfield 113, 3) := by decide +kernel
theorem dX5_tune_34 : decode cX5_tune 34 = .ok (.iload_n 1, 1) := by decide +kernel
theorem dX5_tune_35 : decode cX5_tune 35 = .ok (.iaload, 1) := by decide +kernel
theorem dX5_tune_36 : decode cX5_tune 36 = .ok (.istore_n 3, 1) := by decide +kernel
theorem dX5_tune_37 : decode cX5_tune 37 = .ok (.aload_n 0, 1) := by decide +kernel
theorem dX5_tune_38 : decode cX5_tune 38 = .ok (.getfield 12, 3) := by decide +kernel
theorem dX5_tune_41 : decode cX5_tune 41 = .ok (.getfield 113, 3) := by decide +kernel
theorem dX5_tune_44 : decode cX5_tune 44 = .ok (.iload_n 1, 1) := by decide +kernel
theorem dX5_tune_45 : decode cX5_tune 45 = .ok (.iload_n 2, 1) := by decide +kernel
theorem dX5_tune_46 : decode cX5_tune 46 = .ok (.iastore, 1) := by decide +kernel
theorem dX5_tune_47 : decode cX5_tune 47 = .ok (.iload_n 3, 1) := by decide +kernel
theorem dX5_tune_48 : decode cX5_tune 48 = .ok (.ireturn, 1) := by decide +kernel
set_option maxRecDepth 20000 in
theorem ggX5_wall_X3_stands : GoodIn wsX5_wall wsX3_stands := goodIn_r _ [7, 8, 19, 20, 21, 22, 23, 24, 25, 26, 27, 28] (by decide +kernel) (by decide +kernel)
set_option maxRecDepth 20000 in
theorem gX5_wall_X3_stands : GoodIn wsX5_wall (wsV RX5 133 RX3 yX3_stands wsX3_stands) := goodIn_app (goodIn_of _ (by decide +kernel)) ggX5_wall_X3_stands
theorem dX5_wall_0 : decode cX5_wall 0 = .ok (.iload_n 1, 1) := by decide +kernel
theorem dX5_wall_1 : decode cX5_wall 1 = .ok (.ifCond .lt 8, 3) := by decide +kernel
theorem dX5_wall_4 : decode cX5_wall 4 = .ok (.iload_n 1, 1) := by decide +kernel
theorem dX5_wall_5 : decode cX5_wall 5 = .ok (.iconst 3, 1) := by decide +kernel
theorem dX5_wall_6 : decode cX5_wall 6 = .ok (.if_icmp .le 6, 3) := by decide +kernel
theorem dX5_wall_9 : decode cX5_wall 9 = .ok (.bipush (-2), 2) := by decide +kernel
theorem dX5_wall_11 : decode cX5_wall 11 = .ok (.ireturn, 1) := by decide +kernel
theorem dX5_wall_12 : decode cX5_wall 12 = .ok (.aload_n 0, 1) := by decide +kernel
theorem dX5_wall_13 : decode cX5_wall 13 = .ok (.getfield 12, 3) := by decide +kernel
theorem dX5_wall_16 : decode cX5_wall 16 = .ok (.invokevirtual 133, 3) := by decide +kernel
theorem dX5_wall_19 : decode cX5_wall 19 = .ok (.ifCond .ne 6, 3) := by decide +kernel
theorem dX5_wall_22 : decode cX5_wall 22 = .ok (.bipush (-3), 2) := by decide +kernel
theorem dX5_wall_24 : decode cX5_wall 24 = .ok (.ireturn, 1) := by decide +kernel
theorem dX5_wall_25 : decode cX5_wall 25 = .ok (.aload_n 0, 1) := by decide +kernel
theorem dX5_wall_26 : decode cX5_wall 26 = .ok (.getfield 12, 3) := by decide +kernel
theorem dX5_wall_29 : decode cX5_wall 29 = .ok (.getfield 137, 3) := by decide +kernel
theorem dX5_wall_32 : decode cX5_wall 32 = .ok (.istore_n 2, 1) := by decide +kernel
theorem dX5_wall_33 : decode cX5_wall 33 = .ok (.aload_n 0, 1) := by decide +kernel
theorem dX5_wall_34 : decode cX5_wall 34 = .ok (.getfield 12, 3) := by decide +kernel
theorem dX5_wall_37 : decode cX5_wall 37 = .ok (.iload_n 1, 1) := by decide +kernel
theorem dX5_wall_38 : decode cX5_wall 38 = .ok (.putfield 137, 3) := by decide +kernel
theorem dX5_wall_41 : decode cX5_wall 41 = .ok (.iload_n 2, 1) := by decide +kernel
theorem dX5_wall_42 : decode cX5_wall 42 = .ok (.ireturn, 1) := by decide +kernel
set_option maxRecDepth 20000 in
theorem ggX5_hears_X3_hasHouse : GoodIn wsX5_hears wsX3_hasHouse := goodIn_r _ [8, 9, 44, 45, 46, 47, 48, 49, 50, 51, 52, 53] (by decide +kernel) (by decide +kernel)
set_option maxRecDepth 20000 in
theorem gX5_hears_X3_hasHouse : GoodIn wsX5_hears (wsV RX5 92 RX3 yX3_hasHouse wsX3_hasHouse) := goodIn_app (goodIn_of _ (by decide +kernel)) ggX5_hears_X3_hasHouse
set_option maxRecDepth 20000 in
theorem ggX5_hears_X3_hasClock : GoodIn wsX5_hears wsX3_hasClock := goodIn_r _ [13, 14, 44, 45, 46, 47, 48, 49, 50, 51, 52, 53] (by decide +kernel) (by decide +kernel)
set_option maxRecDepth 20000 in
theorem gX5_hears_X3_hasClock : GoodIn wsX5_hears (wsV RX5 110 RX3 yX3_hasClock wsX3_hasClock) := goodIn_app (goodIn_of _ (by decide +kernel)) ggX5_hears_X3_hasClock
set_option maxRecDepth 20000 in
theorem ggX5_hears_X3_sound : GoodIn wsX5_hears wsX3_sound := goodIn_r _ [18, 19, 20, 21, 22, 7, 23, 24, 44, 45, 46, 47, 48, 49, 50, 51, 52, 53] (by decide +kernel) (by decide +kernel)
set_option maxRecDepth 20000 in
theorem gX5_hears_X3_sound : GoodIn wsX5_hears (wsV RX5 116 RX3 yX3_sound wsX3_sound) := goodIn_app (goodIn_of _ (by decide +kernel)) ggX5_hears_X3_sound
set_option maxRecDepth 20000 in
theorem ggX5_hears_X3_heard : GoodIn wsX5_hears wsX3_heard := goodIn_r _ [28, 29, 30, 31, 32, 33, 44, 45, 46, 47, 48, 49, 50, 51, 52, 53] (by decide +kernel) (by decide +kernel)
set_option maxRecDepth 20000 in
theorem gX5_hears_X3_heard : GoodIn wsX5_hears (wsV RX5 142 RX3 yX3_heard wsX3_heard) := goodIn_app (goodIn_of _ (by decide +kernel)) ggX5_hears_X3_heard
theorem dX5_hears_0 : decode cX5_hears 0 = .ok (.aload_n 0, 1) := by decide +kernel
theorem dX5_hears_1 : decode cX5_hears 1 = .ok (.getfield 12, 3) := by decide +kernel
theorem dX5_hears_4 : decode cX5_hears 4 = .ok (.iload_n 1, 1) := by decide +kernel
theorem dX5_hears_5 : decode cX5_hears 5 = .ok (.invokevirtual 92, 3) := by decide +kernel
theorem dX5_hears_8 : decode cX5_hears 8 = .ok (.ifCond .eq 14, 3) := by decide +kernel
theorem dX5_hears_11 : decode cX5_hears 11 = .ok (.aload_n 0, 1) := by decide +kernel
theorem dX5_hears_12 : decode cX5_hears 12 = .ok (.getfield 12, 3) := by decide +kernel
theorem dX5_hears_15 : decode cX5_hears 15 = .ok (.iload_n 2, 1) := by decide +kernel
theorem dX5_hears_16 : decode cX5_hears 16 = .ok (.invokevirtual 110, 3) := by decide +kernel
theorem dX5_hears_19 : decode cX5_hears 19 = .ok (.ifCond .ne 7, 3) := by decide +kernel
theorem dX5_hears_22 : decode cX5_hears 22 = .ok (.ldc2_w 140, 3) := by decide +kernel
theorem dX5_hears_25 : decode cX5_hears 25 = .ok (.lreturn, 1) := by decide +kernel
theorem dX5_hears_26 : decode cX5_hears 26 = .ok (.aload_n 0, 1) := by decide +kernel
theorem dX5_hears_27 : decode cX5_hears 27 = .ok (.getfield 12, 3) := by decide +kernel
theorem dX5_hears_30 : decode cX5_hears 30 = .ok (.iload_n 1, 1) := by decide +kernel
theorem dX5_hears_31 : decode cX5_hears 31 = .ok (.aload_n 0, 1) := by decide +kernel
theorem dX5_hears_32 : decode cX5_hears 32 = .ok (.getfield 12, 3) := by decide +kernel
theorem dX5_hears_35 : decode cX5_hears 35 = .ok (.iload_n 2, 1) := by decide +kernel
theorem dX5_hears_36 : decode cX5_hears 36 = .ok (.invokevirtual 116, 3) := by decide +kernel
theorem dX5_hears_39 : decode cX5_hears 39 = .ok (.aload_n 0, 1) := by decide +kernel
theorem dX5_hears_40 : decode cX5_hears 40 = .ok (.getfield 12, 3) := by decide +kernel
theorem dX5_hears_43 : decode cX5_hears 43 = .ok (.getfield 119, 3) := by decide +kernel
theorem dX5_hears_46 : decode cX5_hears 46 = .ok (.iload_n 2, 1) := by decide +kernel
theorem dX5_hears_47 : decode cX5_hears 47 = .ok (.iaload, 1) := by decide +kernel
theorem dX5_hears_48 : decode cX5_hears 48 = .ok (.invokevirtual 142, 3) := by decide +kernel
theorem dX5_hears_51 : decode cX5_hears 51 = .ok (.i2l, 1) := by decide +kernel
theorem dX5_hears_52 : decode cX5_hears 52 = .ok (.lreturn, 1) := by decide +kernel
set_option maxRecDepth 20000 in
theorem ggX5_stroke_X3_hasClock : GoodIn wsX5_stroke wsX3_hasClock := goodIn_r _ [6, 7, 58, 59, 60, 61, 62, 63, 64, 65, 66, 67] (by decide +kernel) (by decide +kernel)
set_option maxRecDepth 20000 in
theorem gX5_stroke_X3_hasClock : GoodIn wsX5_stroke (wsV RX5 110 RX3 yX3_hasClock wsX3_hasClock) := goodIn_app (goodIn_of _ (by decide +kernel)) ggX5_stroke_X3_hasClock
set_option maxRecDepth 20000 in
theorem ggX5_stroke_X3_strike : GoodIn wsX5_stroke wsX3_strike := goodIn_r _ [11, 12, 13, 14, 15, 16, 17, 5, 18, 19, 20, 21, 22, 23, 24, 25, 26, 27, 28, 29, 30, 31, 32, 33, 34, 35, 36, 37, 38, 39, 40, 41, 42, 43, 44, 45, 46, 47, 58, 59, 60, 61, 62, 63, 64, 65, 66, 67] (by decide +kernel) (by decide +kernel)
set_option maxRecDepth 20000 in
theorem gX5_stroke_X3_strike : GoodIn wsX5_stroke (wsV RX5 146 RX3 yX3_strike wsX3_strike) := goodIn_app (goodIn_of _ (by decide +kernel)) ggX5_stroke_X3_strike
theorem dX5_stroke_0 : decode cX5_stroke 0 = .ok (.aload_n 0, 1) := by decide +kernel
theorem dX5_stroke_1 : decode cX5_stroke 1 = .ok (.getfield 12, 3) := by decide +kernel
theorem dX5_stroke_4 : decode cX5_stroke 4 = .ok (.iload_n 1, 1) := by decide +kernel
theorem dX5_stroke_5 : decode cX5_stroke 5 = .ok (.invokevirtual 110, 3) := by decide +kernel
theorem dX5_stroke_8 : decode cX5_stroke 8 = .ok (.ifCond .eq 14, 3) := by decide +kernel
theorem dX5_stroke_11 : decode cX5_stroke 11 = .ok (.aload_n 0, 1) := by decide +kernel
theorem dX5_stroke_12 : decode cX5_stroke 12 = .ok (.getfield 12, 3) := by decide +kernel
theorem dX5_stroke_15 : decode cX5_stroke 15 = .ok (.iload_n 1, 1) := by decide +kernel
theorem dX5_stroke_16 : decode cX5_stroke 16 = .ok (.invokevirtual 146, 3) := by decide +kernel
theorem dX5_stroke_19 : decode cX5_stroke 19 = .ok (.goto 4, 3) := by decide +kernel
theorem dX5_stroke_22 : decode cX5_stroke 22 = .ok (.iconst (-1), 1) := by decide +kernel
theorem dX5_stroke_23 : decode cX5_stroke 23 = .ok (.ireturn, 1) := by decide +kernel
set_option maxRecDepth 20000 in
theorem ggX5_nights_X3_stands : GoodIn wsX5_nights wsX3_stands := goodIn_r _ [10, 11, 74, 75, 76, 77, 78, 79, 80, 81, 82, 83] (by decide +kernel) (by decide +kernel)
set_option maxRecDepth 20000 in
theorem gX5_nights_X3_stands : GoodIn wsX5_nights (wsV RX5 133 RX3 yX3_stands wsX3_stands) := goodIn_app (goodIn_of _ (by decide +kernel)) ggX5_nights_X3_stands
set_option maxRecDepth 20000 in
theorem ggX5_nights_X3_become : GoodIn wsX5_nights wsX3_become := goodIn_r _ [15, 11, 16, 17, 18, 19, 20, 21, 22, 23, 24, 25, 9, 26, 27, 28, 74, 75, 76, 77, 78, 79, 80, 81, 82, 83] (by decide +kernel) (by decide +kernel)
set_option maxRecDepth 20000 in
theorem gX5_nights_X3_become : GoodIn wsX5_nights (wsV RX5 79 RX3 yX3_become wsX3_become) := goodIn_app (goodIn_of _ (by decide +kernel)) ggX5_nights_X3_become
set_option maxRecDepth 20000 in
theorem ggX5_nights_X3_passNights : GoodIn wsX5_nights wsX3_passNights := goodIn_r _ [32, 16, 33, 34, 35, 9, 36, 21, 28, 27, 37, 38, 39, 40, 11, 41, 42, 43, 44, 22, 45, 46, 47, 48, 20, 49, 50, 51, 52, 17, 53, 54, 55, 56, 57, 58, 59, 60, 18, 19, 61, 62, 63, 74, 75, 76, 77, 78, 79, 80, 81, 82, 83] (by decide +kernel) (by decide +kernel)
set_option maxRecDepth 20000 in
theorem gX5_nights_X3_passNights : GoodIn wsX5_nights (wsV RX5 149 RX3 yX3_passNights wsX3_passNights) := goodIn_app (goodIn_of _ (by decide +kernel)) ggX5_nights_X3_passNights
theorem dX5_nights_0 : decode cX5_nights 0 = .ok (.iload_n 1, 1) := by decide +kernel
theorem dX5_nights_1 : decode cX5_nights 1 = .ok (.iconst 1, 1) := by decide +kernel
theorem dX5_nights_2 : decode cX5_nights 2 = .ok (.if_icmp .lt 9, 3) := by decide +kernel
theorem dX5_nights_5 : decode cX5_nights 5 = .ok (.iload_n 1, 1) := by decide +kernel
theorem dX5_nights_6 : decode cX5_nights 6 = .ok (.bipush 60, 2) := by decide +kernel
theorem dX5_nights_8 : decode cX5_nights 8 = .ok (.if_icmp .le 6, 3) := by decide +kernel
theorem dX5_nights_11 : decode cX5_nights 11 = .ok (.bipush (-2), 2) := by decide +kernel
theorem dX5_nights_13 : decode cX5_nights 13 = .ok (.ireturn, 1) := by decide +kernel
theorem dX5_nights_14 : decode cX5_nights 14 = .ok (.aload_n 0, 1) := by decide +kernel
theorem dX5_nights_15 : decode cX5_nights 15 = .ok (.getfield 12, 3) := by decide +kernel
theorem dX5_nights_18 : decode cX5_nights 18 = .ok (.invokevirtual 133, 3) := by decide +kernel
theorem dX5_nights_21 : decode cX5_nights 21 = .ok (.ifCond .ne 6, 3) := by decide +kernel
theorem dX5_nights_24 : decode cX5_nights 24 = .ok (.bipush (-3), 2) := by decide +kernel
theorem dX5_nights_26 : decode cX5_nights 26 = .ok (.ireturn, 1) := by decide +kernel
theorem dX5_nights_27 : decode cX5_nights 27 = .ok (.aload_n 0, 1) := by decide +kernel
theorem dX5_nights_28 : decode cX5_nights 28 = .ok (.getfield 18, 3) := by decide +kernel
theorem dX5_nights_31 : decode cX5_nights 31 = .ok (.aload_n 0, 1) := by decide +kernel
theorem dX5_nights_32 : decode cX5_nights 32 = .ok (.getfield 12, 3) := by decide +kernel
theorem dX5_nights_35 : decode cX5_nights 35 = .ok (.invokevirtual 79, 3) := by decide +kernel
theorem dX5_nights_38 : decode cX5_nights 38 = .ok (.aload_n 0, 1) := by decide +kernel
theorem dX5_nights_39 : decode cX5_nights 39 = .ok (.getfield 12, 3) := by decide +kernel
theorem dX5_nights_42 : decode cX5_nights 42 = .ok (.iload_n 1, 1) := by decide +kernel
theorem dX5_nights_43 : decode cX5_nights 43 = .ok (.invokevirtual 149, 3) := by decide +kernel
theorem dX5_nights_46 : decode cX5_nights 46 = .ok (.aload_n 0, 1) := by decide +kernel
theorem dX5_nights_47 : decode cX5_nights 47 = .ok (.dup, 1) := by decide +kernel
theorem dX5_nights_48 : decode cX5_nights 48 = .ok (.getfield 83, 3) := by decide +kernel
theorem dX5_nights_51 : decode cX5_nights 51 = .ok (.iload_n 1, 1) := by decide +kernel
theorem dX5_nights_52 : decode cX5_nights 52 = .ok (.iadd, 1) := by decide +kernel
theorem dX5_nights_53 : decode cX5_nights 53 = .ok (.putfield 83, 3) := by decide +kernel
theorem dX5_nights_56 : decode cX5_nights 56 = .ok (.iconst 0, 1) := by decide +kernel
theorem dX5_nights_57 : decode cX5_nights 57 = .ok (.istore_n 2, 1) := by decide +kernel
theorem dX5_nights_58 : decode cX5_nights 58 = .ok (.iconst 0, 1) := by decide +kernel
theorem dX5_nights_59 : decode cX5_nights 59 = .ok (.istore_n 3, 1) := by decide +kernel
theorem dX5_nights_60 : decode cX5_nights 60 = .ok (.iload_n 3, 1) := by decide +kernel
theorem dX5_nights_61 : decode cX5_nights 61 = .ok (.aload_n 0, 1) := by decide +kernel
theorem dX5_nights_62 : decode cX5_nights 62 = .ok (.getfield 12, 3) := by decide +kernel
theorem dX5_nights_65 : decode cX5_nights 65 = .ok (.getfield 89, 3) := by decide +kernel
theorem dX5_nights_68 : decode cX5_nights 68 = .ok (.if_icmp .ge 33, 3) := by decide +kernel
theorem dX5_nights_71 : decode cX5_nights 71 = .ok (.aload_n 0, 1) := by decide +kernel
theorem dX5_nights_72 : decode cX5_nights 72 = .ok (.getfield 12, 3) := by decide +kernel
theorem dX5_nights_75 : decode cX5_nights 75 = .ok (.getfield 119, 3) := by decide +kernel
theorem dX5_nights_78 : decode cX5_nights 78 = .ok (.iload_n 3, 1) := by decide +kernel
theorem dX5_nights_79 : decode cX5_nights 79 = .ok (.iaload, 1) := by decide +kernel
theorem dX5_nights_80 : decode cX5_nights 80 = .ok (.aload_n 0, 1) := by decide +kernel
theorem dX5_nights_81 : decode cX5_nights 81 = .ok (.getfield 18, 3) := by decide +kernel
theorem dX5_nights_84 : decode cX5_nights 84 = .ok (.getfield 119, 3) := by decide +kernel
theorem dX5_nights_87 : decode cX5_nights 87 = .ok (.iload_n 3, 1) := by decide +kernel
theorem dX5_nights_88 : decode cX5_nights 88 = .ok (.iaload, 1) := by decide +kernel
theorem dX5_nights_89 : decode cX5_nights 89 = .ok (.if_icmp .eq 6, 3) := by decide +kernel
theorem dX5_nights_92 : decode cX5_nights 92 = .ok (.iinc 2 1, 3) := by decide +kernel
theorem dX5_nights_95 : decode cX5_nights 95 = .ok (.iinc 3 1, 3) := by decide +kernel
theorem dX5_nights_98 : decode cX5_nights 98 = .ok (.goto (-38), 3) := by decide +kernel
theorem dX5_nights_101 : decode cX5_nights 101 = .ok (.iload_n 2, 1) := by decide +kernel
theorem dX5_nights_102 : decode cX5_nights 102 = .ok (.ireturn, 1) := by decide +kernel
set_option maxRecDepth 20000 in
theorem ggX5_stuff_X3_hasClock : GoodIn wsX5_stuff wsX3_hasClock := goodIn_r _ [7, 8, 31, 32, 33, 34, 35, 36, 37, 38, 39, 40] (by decide +kernel) (by decide +kernel)
set_option maxRecDepth 20000 in
theorem gX5_stuff_X3_hasClock : GoodIn wsX5_stuff (wsV RX5 110 RX3 yX3_hasClock wsX3_hasClock) := goodIn_app (goodIn_of _ (by decide +kernel)) ggX5_stuff_X3_hasClock
set_option maxRecDepth 20000 in
theorem ggX5_stuff_X3_stuffedClocks : GoodIn wsX5_stuff wsX3_stuffedClocks := goodIn_r _ [12, 8, 13, 31, 32, 33, 34, 35, 36, 37, 38, 39, 40] (by decide +kernel) (by decide +kernel)
set_option maxRecDepth 20000 in
theorem gX5_stuff_X3_stuffedClocks : GoodIn wsX5_stuff (wsV RX5 153 RX3 yX3_stuffedClocks wsX3_stuffedClocks) := goodIn_app (goodIn_of _ (by decide +kernel)) ggX5_stuff_X3_stuffedClocks
set_option maxRecDepth 20000 in
theorem ggX5_stuff_J6_bitCount_0f7a4 : GoodIn wsX5_stuff wsJ6_bitCount_0f7a4 := goodIn_r _ [17, 18, 19, 20] (by decide +kernel) (by decide +kernel)
set_option maxRecDepth 20000 in
theorem gX5_stuff_J6_bitCount_0f7a4 : GoodIn wsX5_stuff (va_wsS RX5 157 yJ6_bitCount_0f7a4 wsJ6_bitCount_0f7a4) := goodIn_app (goodIn_of _ (by decide +kernel)) ggX5_stuff_J6_bitCount_0f7a4
theorem dX5_stuff_0 : decode cX5_stuff 0 = .ok (.aload_n 0, 1) := by decide +kernel
theorem dX5_stuff_1 : decode cX5_stuff 1 = .ok (.getfield 12, 3) := by decide +kernel
theorem dX5_stuff_4 : decode cX5_stuff 4 = .ok (.iload_n 1, 1) := by decide +kernel
theorem dX5_stuff_5 : decode cX5_stuff 5 = .ok (.invokevirtual 110, 3) := by decide +kernel
theorem dX5_stuff_8 : decode cX5_stuff 8 = .ok (.ifCond .ne 5, 3) := by decide +kernel
theorem dX5_stuff_11 : decode cX5_stuff 11 = .ok (.iconst (-1), 1) := by decide +kernel
theorem dX5_stuff_12 : decode cX5_stuff 12 = .ok (.ireturn, 1) := by decide +kernel
theorem dX5_stuff_13 : decode cX5_stuff 13 = .ok (.aload_n 0, 1) := by decide +kernel
theorem dX5_stuff_14 : decode cX5_stuff 14 = .ok (.getfield 12, 3) := by decide +kernel
theorem dX5_stuff_17 : decode cX5_stuff 17 = .ok (.getfield 122, 3) := by decide +kernel
theorem dX5_stuff_20 : decode cX5_stuff 20 = .ok (.iload_n 1, 1) := by decide +kernel
theorem dX5_stuff_21 : decode cX5_stuff 21 = .ok (.baload, 1) := by decide +kernel
theorem dX5_stuff_22 : decode cX5_stuff 22 = .ok (.ifCond .eq 6, 3) := by decide +kernel
theorem dX5_stuff_25 : decode cX5_stuff 25 = .ok (.bipush (-3), 2) := by decide +kernel
theorem dX5_stuff_27 : decode cX5_stuff 27 = .ok (.ireturn, 1) := by decide +kernel
theorem dX5_stuff_28 : decode cX5_stuff 28 = .ok (.aload_n 0, 1) := by decide +kernel
theorem dX5_stuff_29 : decode cX5_stuff 29 = .ok (.getfield 12, 3) := by decide +kernel
theorem dX5_stuff_32 : decode cX5_stuff 32 = .ok (.getfield 122, 3) := by decide +kernel
theorem dX5_stuff_35 : decode cX5_stuff 35 = .ok (.iload_n 1, 1) := by decide +kernel
theorem dX5_stuff_36 : decode cX5_stuff 36 = .ok (.iconst 1, 1) := by decide +kernel
theorem dX5_stuff_37 : decode cX5_stuff 37 = .ok (.bastore, 1) := by decide +kernel
theorem dX5_stuff_38 : decode cX5_stuff 38 = .ok (.aload_n 0, 1) := by decide +kernel
theorem dX5_stuff_39 : decode cX5_stuff 39 = .ok (.getfield 12, 3) := by decide +kernel
theorem dX5_stuff_42 : decode cX5_stuff 42 = .ok (.invokevirtual 153, 3) := by decide +kernel
theorem dX5_stuff_45 : decode cX5_stuff 45 = .ok (.invokestatic 157, 3) := by decide +kernel
theorem dX5_stuff_48 : decode cX5_stuff 48 = .ok (.ireturn, 1) := by decide +kernel
set_option maxRecDepth 20000 in
theorem ggX5_ease_X3_hasClock : GoodIn wsX5_ease wsX3_hasClock := goodIn_r _ [7, 8, 31, 32, 33, 34, 35, 36, 37, 38, 39, 40] (by decide +kernel) (by decide +kernel)
set_option maxRecDepth 20000 in
theorem gX5_ease_X3_hasClock : GoodIn wsX5_ease (wsV RX5 110 RX3 yX3_hasClock wsX3_hasClock) := goodIn_app (goodIn_of _ (by decide +kernel)) ggX5_ease_X3_hasClock
set_option maxRecDepth 20000 in
theorem ggX5_ease_X3_stuffedClocks : GoodIn wsX5_ease wsX3_stuffedClocks := goodIn_r _ [12, 8, 13, 31, 32, 33, 34, 35, 36, 37, 38, 39, 40] (by decide +kernel) (by decide +kernel)
set_option maxRecDepth 20000 in
theorem gX5_ease_X3_stuffedClocks : GoodIn wsX5_ease (wsV RX5 153 RX3 yX3_stuffedClocks wsX3_stuffedClocks) := goodIn_app (goodIn_of _ (by decide +kernel)) ggX5_ease_X3_stuffedClocks
set_option maxRecDepth 20000 in
theorem ggX5_ease_J6_bitCount_0f7a4 : GoodIn wsX5_ease wsJ6_bitCount_0f7a4 := goodIn_r _ [17, 18, 19, 20] (by decide +kernel) (by decide +kernel)
set_option maxRecDepth 20000 in
theorem gX5_ease_J6_bitCount_0f7a4 : GoodIn wsX5_ease (va_wsS RX5 157 yJ6_bitCount_0f7a4 wsJ6_bitCount_0f7a4) := goodIn_app (goodIn_of _ (by decide +kernel)) ggX5_ease_J6_bitCount_0f7a4
theorem dX5_ease_0 : decode cX5_ease 0 = .ok (.aload_n 0, 1) := by decide +kernel
theorem dX5_ease_1 : decode cX5_ease 1 = .ok (.getfield 12, 3) := by decide +kernel
theorem dX5_ease_4 : decode cX5_ease 4 = .ok (.iload_n 1, 1) := by decide +kernel
theorem dX5_ease_5 : decode cX5_ease 5 = .ok (.invokevirtual 110, 3) := by decide +kernel
theorem dX5_ease_8 : decode cX5_ease 8 = .ok (.ifCond .ne 5, 3) := by decide +kernel
theorem dX5_ease_11 : decode cX5_ease 11 = .ok (.iconst (-1), 1) := by decide +kernel
theorem dX5_ease_12 : decode cX5_ease 12 = .ok (.ireturn, 1) := by decide +kernel
theorem dX5_ease_13 : decode cX5_ease 13 = .ok (.aload_n 0, 1) := by decide +kernel
theorem dX5_ease_14 : decode cX5_ease 14 = .ok (.getfield 12, 3) := by decide +kernel
theorem dX5_ease_17 : decode cX5_ease 17 = .ok (.getfield 122, 3) := by decide +kernel
theorem dX5_ease_20 : decode cX5_ease 20 = .ok (.iload_n 1, 1) := by decide +kernel
theorem dX5_ease_21 : decode cX5_ease 21 = .ok (.baload, 1) := by decide +kernel
theorem dX5_ease_22 : decode cX5_ease 22 = .ok (.ifCond .ne 6, 3) := by decide +kernel
theorem dX5_ease_25 : decode cX5_ease 25 = .ok (.bipush (-3), 2) := by decide +kernel
theorem dX5_ease_27 : decode cX5_ease 27 = .ok (.ireturn, 1) := by decide +kernel
theorem dX5_ease_28 : decode cX5_ease 28 = .ok (.aload_n 0, 1) := by decide +kernel
theorem dX5_ease_29 : decode cX5_ease 29 = .ok (.getfield 12, 3) := by decide +kernel
theorem dX5_ease_32 : decode cX5_ease 32 = .ok (.getfield 122, 3) := by decide +kernel
theorem dX5_ease_35 : decode cX5_ease 35 = .ok (.iload_n 1, 1) := by decide +kernel
theorem dX5_ease_36 : decode cX5_ease 36 = .ok (.iconst 0, 1) := by decide +kernel
theorem dX5_ease_37 : decode cX5_ease 37 = .ok (.bastore, 1) := by decide +kernel
theorem dX5_ease_38 : decode cX5_ease 38 = .ok (.aload_n 0, 1) := by decide +kernel
theorem dX5_ease_39 : decode cX5_ease 39 = .ok (.getfield 12, 3) := by decide +kernel
theorem dX5_ease_42 : decode cX5_ease 42 = .ok (.invokevirtual 153, 3) := by decide +kernel
theorem dX5_ease_45 : decode cX5_ease 45 = .ok (.invokestatic 157, 3) := by decide +kernel
theorem dX5_ease_48 : decode cX5_ease 48 = .ok (.ireturn, 1) := by decide +kernel
set_option maxRecDepth 20000 in
theorem ggX5_carry_X3_hasClock : GoodIn wsX5_carry wsX3_hasClock := goodIn_r _ [7, 8, 24, 25, 26, 27, 28, 29, 30, 31, 32, 33] (by decide +kernel) (by decide +kernel)
set_option maxRecDepth 20000 in
theorem gX5_carry_X3_hasClock : GoodIn wsX5_carry (wsV RX5 110 RX3 yX3_hasClock wsX3_hasClock) := goodIn_app (goodIn_of _ (by decide +kernel)) ggX5_carry_X3_hasClock
set_option maxRecDepth 20000 in
theorem ggX5_carry_X3_hasHouse : GoodIn wsX5_carry wsX3_hasHouse := goodIn_r _ [12, 13, 24, 25, 26, 27, 28, 29, 30, 31, 32, 33] (by decide +kernel) (by decide +kernel)
set_option maxRecDepth 20000 in
theorem gX5_carry_X3_hasHouse : GoodIn wsX5_carry (wsV RX5 92 RX3 yX3_hasHouse wsX3_hasHouse) := goodIn_app (goodIn_of _ (by decide +kernel)) ggX5_carry_X3_hasHouse
theorem dX5_carry_0 : decode cX5_carry 0 = .ok (.aload_n 0, 1) := by decide +kernel
theorem dX5_carry_1 : decode cX5_carry 1 = .ok (.getfield 12, 3) := by decide +kernel
theorem dX5_carry_4 : decode cX5_carry 4 = .ok (.iload_n 1, 1) := by decide +kernel
theorem dX5_carry_5 : decode cX5_carry 5 = .ok (.invokevirtual 110, 3) := by decide +kernel
theorem dX5_carry_8 : decode cX5_carry 8 = .ok (.ifCond .eq 14, 3) := by decide +kernel
theorem dX5_carry_11 : decode cX5_carry 11 = .ok (.aload_n 0, 1) := by decide +kernel
theorem dX5_carry_12 : decode cX5_carry 12 = .ok (.getfield 12, 3) := by decide +kernel
theorem dX5_carry_15 : decode cX5_carry 15 = .ok (.iload_n 2, 1) := by decide +kernel
theorem dX5_carry_16 : decode cX5_carry 16 = .ok (.invokevirtual 92, 3) := by decide +kernel
theorem dX5_carry_19 : decode cX5_carry 19 = .ok (.ifCond .ne 5, 3) := by decide +kernel
theorem dX5_carry_22 : decode cX5_carry 22 = .ok (.iconst (-1), 1) := by decide +kernel
theorem dX5_carry_23 : decode cX5_carry 23 = .ok (.ireturn, 1) := by decide +kernel
theorem dX5_carry_24 : decode cX5_carry 24 = .ok (.aload_n 0, 1) := by decide +kernel
theorem dX5_carry_25 : decode cX5_carry 25 = .ok (.getfield 12, 3) := by decide +kernel
theorem dX5_carry_28 : decode cX5_carry 28 = .ok (.getfield 119, 3) := by decide +kernel
theorem dX5_carry_31 : decode cX5_carry 31 = .ok (.iload_n 1, 1) := by decide +kernel
theorem dX5_carry_32 : decode cX5_carry 32 = .ok (.iaload, 1) := by decide +kernel
theorem dX5_carry_33 : decode cX5_carry 33 = .ok (.istore_n 3, 1) := by decide +kernel
theorem dX5_carry_34 : decode cX5_carry 34 = .ok (.aload_n 0, 1) := by decide +kernel
theorem dX5_carry_35 : decode cX5_carry 35 = .ok (.getfield 12, 3) := by decide +kernel
theorem dX5_carry_38 : decode cX5_carry 38 = .ok (.getfield 119, 3) := by decide +kernel
theorem dX5_carry_41 : decode cX5_carry 41 = .ok (.iload_n 1, 1) := by decide +kernel
theorem dX5_carry_42 : decode cX5_carry 42 = .ok (.iload_n 2, 1) := by decide +kernel
theorem dX5_carry_43 : decode cX5_carry 43 = .ok (.iastore, 1) := by decide +kernel
theorem dX5_carry_44 : decode cX5_carry 44 = .ok (.iload_n 3, 1) := by decide +kernel
theorem dX5_carry_45 : decode cX5_carry 45 = .ok (.ireturn, 1) := by decide +kernel
set_option maxRecDepth 20000 in
theorem ggX5_season_X5_isSheet : GoodIn wsX5_season wsX5_isSheet := goodIn_r _ [7] (by decide +kernel) (by decide +kernel)
set_option maxRecDepth 20000 in
theorem gX5_season_X5_isSheet : GoodIn wsX5_season (va_wsS RX5 57 yX5_isSheet wsX5_isSheet) := goodIn_app (goodIn_of _ (by decide +kernel)) ggX5_season_X5_isSheet
set_option maxRecDepth 20000 in
theorem ggX5_season_X5_isLane : GoodIn wsX5_season wsX5_isLane := goodIn_r _ [10] (by decide +kernel) (by decide +kernel)
set_option maxRecDepth 20000 in
theorem gX5_season_X5_isLane : GoodIn wsX5_season (va_wsS RX5 61 yX5_isLane wsX5_isLane) := goodIn_app (goodIn_of _ (by decide +kernel)) ggX5_season_X5_isLane
set_option maxRecDepth 20000 in
theorem ggX5_season_X5_isAskedOfSeason : GoodIn wsX5_season wsX5_isAskedOfSeason := goodIn_r _ [13] (by decide +kernel) (by decide +kernel)
set_option maxRecDepth 20000 in
theorem gX5_season_X5_isAskedOfSeason : GoodIn wsX5_season (va_wsS RX5 162 yX5_isAskedOfSeason wsX5_isAskedOfSeason) := goodIn_app (goodIn_of _ (by decide +kernel)) ggX5_season_X5_isAskedOfSeason
set_option maxRecDepth 20000 in
theorem ggX5_season_X2_faultAs : GoodIn wsX5_season wsX2_faultAs := goodIn_r _ [18, 19, 20, 149, 150, 151, 152] (by decide +kernel) (by decide +kernel)
set_option maxRecDepth 20000 in
theorem gX5_season_X2_faultAs : GoodIn wsX5_season (wsV RX5 64 RX2 yX2_faultAs wsX2_faultAs) := goodIn_app (goodIn_of _ (by decide +kernel)) ggX5_season_X2_faultAs
set_option maxRecDepth 20000 in
theorem ggX5_season_X2_lacks : GoodIn wsX5_season wsX2_lacks := goodIn_r _ [24, 25, 149, 150, 151, 152] (by decide +kernel) (by decide +kernel)
set_option maxRecDepth 20000 in
theorem gX5_season_X2_lacks : GoodIn wsX5_season (wsV RX5 68 RX2 yX2_lacks wsX2_lacks) := goodIn_app (goodIn_of _ (by decide +kernel)) ggX5_season_X2_lacks
set_option maxRecDepth 20000 in
theorem ggX5_season_X5_faulty : GoodIn wsX5_season wsX5_faulty := goodIn_r _ [29, 1, 139, 140, 141, 142, 143, 144, 145, 146, 147, 148] (by decide +kernel) (by decide +kernel)
set_option maxRecDepth 20000 in
theorem gX5_season_X5_faulty : GoodIn wsX5_season (wsV RX5 72 RX5 yX5_faulty wsX5_faulty) := goodIn_app (goodIn_of _ (by decide +kernel)) ggX5_season_X5_faulty
set_option maxRecDepth 20000 in
theorem ggX5_season_X3_stands : GoodIn wsX5_season wsX3_stands := goodIn_r _ [34, 35, 153, 154, 155, 156, 157, 158, 159, 160, 161, 162] (by decide +kernel) (by decide +kernel)
set_option maxRecDepth 20000 in
theorem gX5_season_X3_stands : GoodIn wsX5_season (wsV RX5 133 RX3 yX3_stands wsX3_stands) := goodIn_app (goodIn_of _ (by decide +kernel)) ggX5_season_X3_stands
set_option maxRecDepth 20000 in
theorem ggX5_season_X5_refusalOfActs : GoodIn wsX5_season wsX5_refusalOfActs := goodIn_r _ [39, 40, 41, 42, 43, 6, 44, 3, 45, 46, 47, 33, 48, 49, 50, 51, 52, 53, 35, 149, 150, 151, 152, 139, 140, 141, 142, 143, 144, 145, 146, 147, 148, 153, 154, 155, 156, 157, 158, 159, 160, 161, 162] (by decide +kernel) (by decide +kernel)
set_option maxRecDepth 20000 in
theorem gX5_season_X5_refusalOfActs : GoodIn wsX5_season (wsV RX5 165 RX5 yX5_refusalOfActs wsX5_refusalOfActs) := goodIn_app (goodIn_of _ (by decide +kernel)) ggX5_season_X5_refusalOfActs
set_option maxRecDepth 20000 in
theorem ggX5_season_X5_playOnTrial : GoodIn wsX5_season wsX5_playOnTrial := goodIn_r _ [57, 58, 3, 40, 59, 60, 61, 33, 62, 35, 49, 63, 64, 65, 66, 67, 68, 69, 70, 71, 72, 73, 74, 75, 76, 77, 6, 78, 79, 80, 81, 82, 83, 84, 85, 86, 87, 88, 89, 90, 91, 92, 93, 94, 95, 96, 97, 98, 99, 100, 101, 102, 103, 104, 105, 106, 107, 108, 109, 110, 111, 112, 113, 114, 115, 116, 117, 118, 119, 120, 121, 122, 123, 124, 45, 46, 47, 48, 139, 140, 141, 142, 143, 144, 145, 146, 147, 148, 149, 150, 151, 152, 153, 154, 155, 156, 157, 158, 159, 160, 161, 162] (by decide +kernel) (by decide +kernel)
set_option maxRecDepth 20000 in
theorem gX5_season_X5_playOnTrial : GoodIn wsX5_season (wsV RX5 169 RX5 yX5_playOnTrial wsX5_playOnTrial) := goodIn_app (goodIn_of _ (by decide +kernel)) ggX5_season_X5_playOnTrial
set_option maxRecDepth 20000 in
theorem ggX5_season_X5_answerOfTrial : GoodIn wsX5_season wsX5_answerOfTrial := goodIn_r _ [128, 58, 129, 130, 124, 131, 132, 133, 33, 134, 49, 68, 135, 136, 137, 138, 67, 45, 46, 47, 48, 139, 140, 141, 142, 143, 144, 145, 146, 147, 148, 153, 154, 155, 156, 157, 158, 159, 160, 161, 162] (by decide +kernel) (by decide +kernel)
set_option maxRecDepth 20000 in
theorem gX5_season_X5_answerOfTrial : GoodIn wsX5_season (wsV RX5 172 RX5 yX5_answerOfTrial wsX5_answerOfTrial) := goodIn_app (goodIn_of _ (by decide +kernel)) ggX5_season_X5_answerOfTrial
theorem dX5_season_0 : decode cX5_season 0 = .ok (.aload_n 0, 1) := by decide +kernel
theorem dX5_season_1 : decode cX5_season 1 = .ok (.iconst 0, 1) := by decide +kernel
theorem dX5_season_2 : decode cX5_season 2 = .ok (.putfield 53, 3) := by decide +kernel
theorem dX5_season_5 : decode cX5_season 5 = .ok (.iload_n 1, 1) := by decide +kernel
theorem dX5_season_6 : decode cX5_season 6 = .ok (.invokestatic 57, 3) := by decide +kernel
theorem dX5_season_9 : decode cX5_season 9 = .ok (.ifCond .ne 5, 3) := by decide +kernel
theorem dX5_season_12 : decode cX5_season 12 = .ok (.iconst (-1), 1) := by decide +kernel
theorem dX5_season_13 : decode cX5_season 13 = .ok (.ireturn, 1) := by decide +kernel
theorem dX5_season_14 : decode cX5_season 14 = .ok (.iload_n 2, 1) := by decide +kernel
theorem dX5_season_15 : decode cX5_season 15 = .ok (.invokestatic 61, 3) := by decide +kernel
theorem dX5_season_18 : decode cX5_season 18 = .ok (.ifCond .eq 23, 3) := by decide +kernel
theorem dX5_season_21 : decode cX5_season 21 = .ok (.iload 4, 2) := by decide +kernel
theorem dX5_season_23 : decode cX5_season 23 = .ok (.ifCond .lt 18, 3) := by decide +kernel
theorem dX5_season_26 : decode cX5_season 26 = .ok (.iload 4, 2) := by decide +kernel
theorem dX5_season_28 : decode cX5_season 28 = .ok (.bipush 20, 2) := by decide +kernel
theorem dX5_season_30 : decode cX5_season 30 = .ok (.if_icmp .gt 11, 3) := by decide +kernel
theorem dX5_season_33 : decode cX5_season 33 = .ok (.iload 5, 2) := by decide +kernel
theorem dX5_season_35 : decode cX5_season 35 = .ok (.invokestatic 162, 3) := by decide +kernel
theorem dX5_season_38 : decode cX5_season 38 = .ok (.ifCond .ne 6, 3) := by decide +kernel
theorem dX5_season_41 : decode cX5_season 41 = .ok (.bipush (-2), 2) := by decide +kernel
theorem dX5_season_43 : decode cX5_season 43 = .ok (.ireturn, 1) := by decide +kernel
theorem dX5_season_44 : decode cX5_season 44 = .ok (.aload_n 0, 1) := by decide +kernel
theorem dX5_season_45 : decode cX5_season 45 = .ok (.getfield 45, 3) := by decide +kernel
theorem dX5_season_48 : decode cX5_season 48 = .ok (.iload_n 1, 1) := by decide +kernel
theorem dX5_season_49 : decode cX5_season 49 = .ok (.aaload, 1) := by decide +kernel
theorem dX5_season_50 : decode cX5_season 50 = .ok (.astore 6, 2) := by decide +kernel
theorem dX5_season_52 : decode cX5_season 52 = .ok (.aload 6, 2) := by decide +kernel
theorem dX5_season_54 : decode cX5_season 54 = .ok (.iload_n 2, 1) := by decide +kernel
theorem dX5_season_55 : decode cX5_season 55 = .ok (.invokevirtual 64, 3) := by decide +kernel
theorem dX5_season_58 : decode cX5_season 58 = .ok (.istore 7, 2) := by decide +kernel
theorem dX5_season_60 : decode cX5_season 60 = .ok (.iload 7, 2) := by decide +kernel
theorem dX5_season_62 : decode cX5_season 62 = .ok (.ifCond .ne 19, 3) := by decide +kernel
theorem dX5_season_65 : decode cX5_season 65 = .ok (.aload 6, 2) := by decide +kernel
theorem dX5_season_67 : decode cX5_season 67 = .ok (.iload_n 3, 1) := by decide +kernel
theorem dX5_season_68 : decode cX5_season 68 = .ok (.iconst 2, 1) := by decide +kernel
theorem dX5_season_69 : decode cX5_season 69 = .ok (.iload 4, 2) := by decide +kernel
theorem dX5_season_71 : decode cX5_season 71 = .ok (.imul, 1) := by decide +kernel
theorem dX5_season_72 : decode cX5_season 72 = .ok (.invokevirtual 68, 3) := by decide +kernel
theorem dX5_season_75 : decode cX5_season 75 = .ok (.ifCond .eq 6, 3) := by decide +kernel
theorem dX5_season_78 : decode cX5_season 78 = .ok (.iconst 3, 1) := by decide +kernel
theorem dX5_season_79 : decode cX5_season 79 = .ok (.istore 7, 2) := by decide +kernel
theorem dX5_season_81 : decode cX5_season 81 = .ok (.iload 7, 2) := by decide +kernel
theorem dX5_season_83 : decode cX5_season 83 = .ok (.ifCond .eq 10, 3) := by decide +kernel
theorem dX5_season_86 : decode cX5_season 86 = .ok (.aload_n 0, 1) := by decide +kernel
theorem dX5_season_87 : decode cX5_season 87 = .ok (.iload 7, 2) := by decide +kernel
theorem dX5_season_89 : decode cX5_season 89 = .ok (.invokevirtual 72, 3) := by decide +kernel
theorem dX5_season_92 : decode cX5_season 92 = .ok (.ireturn, 1) := by decide +kernel
theorem dX5_season_93 : decode cX5_season 93 = .ok (.aload_n 0, 1) := by decide +kernel
theorem dX5_season_94 : decode cX5_season 94 = .ok (.getfield 12, 3) := by decide +kernel
theorem dX5_season_97 : decode cX5_season 97 = .ok (.invokevirtual 133, 3) := by decide +kernel
theorem dX5_season_100 : decode cX5_season 100 = .ok (.ifCond .ne 6, 3) := by decide +kernel
theorem dX5_season_103 : decode cX5_season 103 = .ok (.bipush (-3), 2) := by decide +kernel
theorem dX5_season_105 : decode cX5_season 105 = .ok (.ireturn, 1) := by decide +kernel
theorem dX5_season_106 : decode cX5_season 106 = .ok (.aload_n 0, 1) := by decide +kernel
theorem dX5_season_107 : decode cX5_season 107 = .ok (.aload 6, 2) := by decide +kernel
theorem dX5_season_109 : decode cX5_season 109 = .ok (.iload_n 3, 1) := by decide +kernel
theorem dX5_season_110 : decode cX5_season 110 = .ok (.iload 4, 2) := by decide +kernel
theorem dX5_season_112 : decode cX5_season 112 = .ok (.invokevirtual 165, 3) := by decide +kernel
theorem dX5_season_115 : decode cX5_season 115 = .ok (.istore 8, 2) := by decide +kernel
theorem dX5_season_117 : decode cX5_season 117 = .ok (.iload 8, 2) := by decide +kernel
theorem dX5_season_119 : decode cX5_season 119 = .ok (.ifCond .eq 6, 3) := by decide +kernel
theorem dX5_season_122 : decode cX5_season 122 = .ok (.iload 8, 2) := by decide +kernel
theorem dX5_season_124 : decode cX5_season 124 = .ok (.ireturn, 1) := by decide +kernel
theorem dX5_season_125 : decode cX5_season 125 = .ok (.aload_n 0, 1) := by decide +kernel
theorem dX5_season_126 : decode cX5_season 126 = .ok (.aload 6, 2) := by decide +kernel
theorem dX5_season_128 : decode cX5_season 128 = .ok (.iload_n 3, 1) := by decide +kernel
theorem dX5_season_129 : decode cX5_season 129 = .ok (.iload 4, 2) := by decide +kernel
theorem dX5_season_131 : decode cX5_season 131 = .ok (.invokevirtual 169, 3) := by decide +kernel
theorem dX5_season_134 : decode cX5_season 134 = .ok (.istore 9, 2) := by decide +kernel
theorem dX5_season_136 : decode cX5_season 136 = .ok (.iload 5, 2) := by decide +kernel
theorem dX5_season_138 : decode cX5_season 138 = .ok (.iconst 1, 1) := by decide +kernel
theorem dX5_season_139 : decode cX5_season 139 = .ok (.if_icmp .ne 6, 3) := by decide +kernel
theorem dX5_season_142 : decode cX5_season 142 = .ok (.iload 9, 2) := by decide +kernel
theorem dX5_season_144 : decode cX5_season 144 = .ok (.ireturn, 1) := by decide +kernel
theorem dX5_season_145 : decode cX5_season 145 = .ok (.iload 9, 2) := by decide +kernel
theorem dX5_season_147 : decode cX5_season 147 = .ok (.bipush (-9), 2) := by decide +kernel
theorem dX5_season_149 : decode cX5_season 149 = .ok (.if_icmp .ne 12, 3) := by decide +kernel
theorem dX5_season_152 : decode cX5_season 152 = .ok (.aload_n 0, 1) := by decide +kernel
theorem dX5_season_153 : decode cX5_season 153 = .ok (.iload 5, 2) := by decide +kernel
theorem dX5_season_155 : decode cX5_season 155 = .ok (.invokevirtual 172, 3) := by decide +kernel
theorem dX5_season_158 : decode cX5_season 158 = .ok (.goto 8, 3) := by decide +kernel
theorem dX5_season_161 : decode cX5_season 161 = .ok (.bipush (-100), 2) := by decide +kernel
theorem dX5_season_163 : decode cX5_season 163 = .ok (.iload 9, 2) := by decide +kernel
theorem dX5_season_165 : decode cX5_season 165 = .ok (.isub, 1) := by decide +kernel
theorem dX5_season_166 : decode cX5_season 166 = .ok (.ireturn, 1) := by decide +kernel
set_option maxRecDepth 20000 in
theorem ggX5_round_X3_hasClock : GoodIn wsX5_round wsX3_hasClock := goodIn_r _ [8, 9, 61, 62, 63, 64, 65, 66, 67, 68, 69, 70] (by decide +kernel) (by decide +kernel)
set_option maxRecDepth 20000 in
theorem gX5_round_X3_hasClock : GoodIn wsX5_round (wsV RX5 110 RX3 yX3_hasClock wsX3_hasClock) := goodIn_app (goodIn_of _ (by decide +kernel)) ggX5_round_X3_hasClock
set_option maxRecDepth 20000 in
theorem ggX5_round_J7_fill_53178 : GoodIn wsX5_round wsJ7_fill_53178 := goodIn_r _ [13] (by decide +kernel) (by decide +kernel)
set_option maxRecDepth 20000 in
theorem gX5_round_J7_fill_53178 : GoodIn wsX5_round (va_wsS RX5 175 yJ7_fill_53178 wsJ7_fill_53178) := goodIn_app (goodIn_of _ (by decide +kernel)) ggX5_round_J7_fill_53178
set_option maxRecDepth 20000 in
theorem ggX5_round_X3_placeAfterStroke : GoodIn wsX5_round wsX3_placeAfterStroke := goodIn_r _ [17, 18, 19, 20, 7, 21, 22, 23, 24, 25, 26, 27, 28, 29, 30, 31, 32, 33, 34, 35, 36, 37, 38, 39, 40, 41, 42, 43, 44, 45, 46, 47, 48, 49, 50, 61, 62, 63, 64, 65, 66, 67, 68, 69, 70] (by decide +kernel) (by decide +kernel)
set_option maxRecDepth 20000 in
theorem gX5_round_X3_placeAfterStroke : GoodIn wsX5_round (wsV RX5 181 RX3 yX3_placeAfterStroke wsX3_placeAfterStroke) := goodIn_app (goodIn_of _ (by decide +kernel)) ggX5_round_X3_placeAfterStroke
theorem dX5_round_0 : decode cX5_round 0 = .ok (.aload_n 0, 1) := by decide +kernel
theorem dX5_round_1 : decode cX5_round 1 = .ok (.getfield 12, 3) := by decide +kernel
theorem dX5_round_4 : decode cX5_round 4 = .ok (.iload_n 1, 1) := by decide +kernel
theorem dX5_round_5 : decode cX5_round 5 = .ok (.invokevirtual 110, 3) := by decide +kernel
theorem dX5_round_8 : decode cX5_round 8 = .ok (.ifCond .ne 5, 3) := by decide +kernel
theorem dX5_round_11 : decode cX5_round 11 = .ok (.iconst (-1), 1) := by decide +kernel
theorem dX5_round_12 : decode cX5_round 12 = .ok (.ireturn, 1) := by decide +kernel
theorem dX5_round_13 : decode cX5_round 13 = .ok (.iload_n 2, 1) := by decide +kernel
theorem dX5_round_14 : decode cX5_round 14 = .ok (.ifCond .lt 8, 3) := by decide +kernel
theorem dX5_round_17 : decode cX5_round 17 = .ok (.iload_n 2, 1) := by decide +kernel
theorem dX5_round_18 : decode cX5_round 18 = .ok (.iconst 1, 1) := by decide +kernel
theorem dX5_round_19 : decode cX5_round 19 = .ok (.if_icmp .le 6, 3) := by decide +kernel
theorem dX5_round_22 : decode cX5_round 22 = .ok (.bipush (-2), 2) := by decide +kernel
theorem dX5_round_24 : decode cX5_round 24 = .ok (.ireturn, 1) := by decide +kernel
theorem dX5_round_25 : decode cX5_round 25 = .ok (.aload_n 0, 1) := by decide +kernel
theorem dX5_round_26 : decode cX5_round 26 = .ok (.getfield 49, 3) := by decide +kernel
theorem dX5_round_29 : decode cX5_round 29 = .ok (.bipush (-9), 2) := by decide +kernel
theorem dX5_round_31 : decode cX5_round 31 = .ok (.invokestatic 175, 3) := by decide +kernel
theorem dX5_round_34 : decode cX5_round 34 = .ok (.aload_n 0, 1) := by decide +kernel
theorem dX5_round_35 : decode cX5_round 35 = .ok (.getfield 12, 3) := by decide +kernel
theorem dX5_round_38 : decode cX5_round 38 = .ok (.getfield 119, 3) := by decide +kernel
theorem dX5_round_41 : decode cX5_round 41 = .ok (.iload_n 1, 1) := by decide +kernel
theorem dX5_round_42 : decode cX5_round 42 = .ok (.iaload, 1) := by decide +kernel
theorem dX5_round_43 : decode cX5_round 43 = .ok (.istore_n 3, 1) := by decide +kernel
theorem dX5_round_44 : decode cX5_round 44 = .ok (.iconst 0, 1) := by decide +kernel
theorem dX5_round_45 : decode cX5_round 45 = .ok (.istore 4, 2) := by decide +kernel
theorem dX5_round_47 : decode cX5_round 47 = .ok (.iload 4, 2) := by decide +kernel
theorem dX5_round_49 : decode cX5_round 49 = .ok (.bipush 6, 2) := by decide +kernel
theorem dX5_round_51 : decode cX5_round 51 = .ok (.if_icmp .ge 38, 3) := by decide +kernel
theorem dX5_round_54 : decode cX5_round 54 = .ok (.aload_n 0, 1) := by decide +kernel
theorem dX5_round_55 : decode cX5_round 55 = .ok (.getfield 49, 3) := by decide +kernel
theorem dX5_round_58 : decode cX5_round 58 = .ok (.iload_n 3, 1) := by decide +kernel
theorem dX5_round_59 : decode cX5_round 59 = .ok (.iaload, 1) := by decide +kernel
theorem dX5_round_60 : decode cX5_round 60 = .ok (.bipush (-9), 2) := by decide +kernel
theorem dX5_round_62 : decode cX5_round 62 = .ok (.if_icmp .ne 27, 3) := by decide +kernel
theorem dX5_round_65 : decode cX5_round 65 = .ok (.aload_n 0, 1) := by decide +kernel
theorem dX5_round_66 : decode cX5_round 66 = .ok (.getfield 49, 3) := by decide +kernel
theorem dX5_round_69 : decode cX5_round 69 = .ok (.iload_n 3, 1) := by decide +kernel
theorem dX5_round_70 : decode cX5_round 70 = .ok (.iload 4, 2) := by decide +kernel
theorem dX5_round_72 : decode cX5_round 72 = .ok (.iastore, 1) := by decide +kernel
theorem dX5_round_73 : decode cX5_round 73 = .ok (.aload_n 0, 1) := by decide +kernel
theorem dX5_round_74 : decode cX5_round 74 = .ok (.getfield 12, 3) := by decide +kernel
theorem dX5_round_77 : decode cX5_round 77 = .ok (.iload_n 1, 1) := by decide +kernel
theorem dX5_round_78 : decode cX5_round 78 = .ok (.iload_n 3, 1) := by decide +kernel
theorem dX5_round_79 : decode cX5_round 79 = .ok (.invokevirtual 181, 3) := by decide +kernel
theorem dX5_round_82 : decode cX5_round 82 = .ok (.istore_n 3, 1) := by decide +kernel
theorem dX5_round_83 : decode cX5_round 83 = .ok (.iinc 4 1, 3) := by decide +kernel
theorem dX5_round_86 : decode cX5_round 86 = .ok (.goto (-39), 3) := by decide +kernel
theorem dX5_round_89 : decode cX5_round 89 = .ok (.iload_n 2, 1) := by decide +kernel
theorem dX5_round_90 : decode cX5_round 90 = .ok (.ifCond .ne 12, 3) := by decide +kernel
theorem dX5_round_93 : decode cX5_round 93 = .ok (.aload_n 0, 1) := by decide +kernel
theorem dX5_round_94 : decode cX5_round 94 = .ok (.getfield 49, 3) := by decide +kernel
theorem dX5_round_97 : decode cX5_round 97 = .ok (.iload_n 3, 1) := by decide +kernel
theorem dX5_round_98 : decode cX5_round 98 = .ok (.iaload, 1) := by decide +kernel
theorem dX5_round_99 : decode cX5_round 99 = .ok (.goto 12, 3) := by decide +kernel
theorem dX5_round_102 : decode cX5_round 102 = .ok (.iload 4, 2) := by decide +kernel
theorem dX5_round_104 : decode cX5_round 104 = .ok (.aload_n 0, 1) := by decide +kernel
theorem dX5_round_105 : decode cX5_round 105 = .ok (.getfield 49, 3) := by decide +kernel
theorem dX5_round_108 : decode cX5_round 108 = .ok (.iload_n 3, 1) := by decide +kernel
theorem dX5_round_109 : decode cX5_round 109 = .ok (.iaload, 1) := by decide +kernel
theorem dX5_round_110 : decode cX5_round 110 = .ok (.isub, 1) := by decide +kernel
theorem dX5_round_111 : decode cX5_round 111 = .ok (.ireturn, 1) := by decide +kernel
set_option maxRecDepth 20000 in
theorem ggX5_from_X3_hasHouse : GoodIn wsX5_from wsX3_hasHouse := goodIn_r _ [7, 8, 56, 57, 58, 59, 60, 61, 62, 63, 64, 65] (by decide +kernel) (by decide +kernel)
set_option maxRecDepth 20000 in
theorem gX5_from_X3_hasHouse : GoodIn wsX5_from (wsV RX5 92 RX3 yX3_hasHouse wsX3_hasHouse) := goodIn_app (goodIn_of _ (by decide +kernel)) ggX5_from_X3_hasHouse
set_option maxRecDepth 20000 in
theorem ggX5_from_X3_hasClock : GoodIn wsX5_from wsX3_hasClock := goodIn_r _ [12, 13, 56, 57, 58, 59, 60, 61, 62, 63, 64, 65] (by decide +kernel) (by decide +kernel)
set_option maxRecDepth 20000 in
theorem gX5_from_X3_hasClock : GoodIn wsX5_from (wsV RX5 110 RX3 yX3_hasClock wsX3_hasClock) := goodIn_app (goodIn_of _ (by decide +kernel)) ggX5_from_X3_hasClock
set_option maxRecDepth 20000 in
theorem ggX5_from_X3_owner : GoodIn wsX5_from wsX3_owner := goodIn_r _ [17, 8, 18, 19, 20, 6, 21, 22, 23, 24, 25, 26, 27, 28, 29, 30, 31, 32, 33, 34, 35, 36, 37, 38, 39, 40, 41, 42, 43, 44, 45, 56, 57, 58, 59, 60, 61, 62, 63, 64, 65] (by decide +kernel) (by decide +kernel)
set_option maxRecDepth 20000 in
theorem gX5_from_X3_owner : GoodIn wsX5_from (wsV RX5 130 RX3 yX3_owner wsX3_owner) := goodIn_app (goodIn_of _ (by decide +kernel)) ggX5_from_X3_owner
theorem dX5_from_0 : decode cX5_from 0 = .ok (.aload_n 0, 1) := by decide +kernel
theorem dX5_from_1 : decode cX5_from 1 = .ok (.getfield 12, 3) := by decide +kernel
theorem dX5_from_4 : decode cX5_from 4 = .ok (.iload_n 1, 1) := by decide +kernel
theorem dX5_from_5 : decode cX5_from 5 = .ok (.invokevirtual 92, 3) := by decide +kernel
theorem dX5_from_8 : decode cX5_from 8 = .ok (.ifCond .eq 14, 3) := by decide +kernel
theorem dX5_from_11 : decode cX5_from 11 = .ok (.aload_n 0, 1) := by decide +kernel
theorem dX5_from_12 : decode cX5_from 12 = .ok (.getfield 12, 3) := by decide +kernel
theorem dX5_from_15 : decode cX5_from 15 = .ok (.iload_n 2, 1) := by decide +kernel
theorem dX5_from_16 : decode cX5_from 16 = .ok (.invokevirtual 110, 3) := by decide +kernel
theorem dX5_from_19 : decode cX5_from 19 = .ok (.ifCond .ne 5, 3) := by decide +kernel
theorem dX5_from_22 : decode cX5_from 22 = .ok (.iconst (-1), 1) := by decide +kernel
theorem dX5_from_23 : decode cX5_from 23 = .ok (.ireturn, 1) := by decide +kernel
theorem dX5_from_24 : decode cX5_from 24 = .ok (.iconst 0, 1) := by decide +kernel
theorem dX5_from_25 : decode cX5_from 25 = .ok (.istore_n 3, 1) := by decide +kernel
theorem dX5_from_26 : decode cX5_from 26 = .ok (.iconst 0, 1) := by decide +kernel
theorem dX5_from_27 : decode cX5_from 27 = .ok (.istore 4, 2) := by decide +kernel
theorem dX5_from_29 : decode cX5_from 29 = .ok (.iload 4, 2) := by decide +kernel
theorem dX5_from_31 : decode cX5_from 31 = .ok (.aload_n 0, 1) := by decide +kernel
theorem dX5_from_32 : decode cX5_from 32 = .ok (.getfield 12, 3) := by decide +kernel
theorem dX5_from_35 : decode cX5_from 35 = .ok (.getfield 184, 3) := by decide +kernel
theorem dX5_from_38 : decode cX5_from 38 = .ok (.if_icmp .ge 30, 3) := by decide +kernel
theorem dX5_from_41 : decode cX5_from 41 = .ok (.aload_n 0, 1) := by decide +kernel
theorem dX5_from_42 : decode cX5_from 42 = .ok (.getfield 12, 3) := by decide +kernel
theorem dX5_from_45 : decode cX5_from 45 = .ok (.iload_n 2, 1) := by decide +kernel
theorem dX5_from_46 : decode cX5_from 46 = .ok (.iload 4, 2) := by decide +kernel
theorem dX5_from_48 : decode cX5_from 48 = .ok (.invokevirtual 130, 3) := by decide +kernel
theorem dX5_from_51 : decode cX5_from 51 = .ok (.iload_n 1, 1) := by decide +kernel
theorem dX5_from_52 : decode cX5_from 52 = .ok (.if_icmp .ne 10, 3) := by decide +kernel
theorem dX5_from_55 : decode cX5_from 55 = .ok (.iload_n 3, 1) := by decide +kernel
theorem dX5_from_56 : decode cX5_from 56 = .ok (.iconst 1, 1) := by decide +kernel
theorem dX5_from_57 : decode cX5_from 57 = .ok (.iload 4, 2) := by decide +kernel
theorem dX5_from_59 : decode cX5_from 59 = .ok (.ishl, 1) := by decide +kernel
theorem dX5_from_60 : decode cX5_from 60 = .ok (.ior, 1) := by decide +kernel
theorem dX5_from_61 : decode cX5_from 61 = .ok (.istore_n 3, 1) := by decide +kernel
theorem dX5_from_62 : decode cX5_from 62 = .ok (.iinc 4 1, 3) := by decide +kernel
theorem dX5_from_65 : decode cX5_from 65 = .ok (.goto (-36), 3) := by decide +kernel
theorem dX5_from_68 : decode cX5_from 68 = .ok (.iload_n 3, 1) := by decide +kernel
theorem dX5_from_69 : decode cX5_from 69 = .ok (.ireturn, 1) := by decide +kernel
set_option maxRecDepth 20000 in
theorem ggX5_settle_X3_stands : GoodIn wsX5_settle wsX3_stands := goodIn_r _ [8, 9, 72, 73, 74, 75, 76, 77, 78, 79, 80, 81] (by decide +kernel) (by decide +kernel)
set_option maxRecDepth 20000 in
theorem gX5_settle_X3_stands : GoodIn wsX5_settle (wsV RX5 133 RX3 yX3_stands wsX3_stands) := goodIn_app (goodIn_of _ (by decide +kernel)) ggX5_settle_X3_stands
set_option maxRecDepth 20000 in
theorem ggX5_settle_X3_become : GoodIn wsX5_settle wsX3_become := goodIn_r _ [13, 9, 14, 15, 16, 17, 18, 19, 20, 21, 22, 23, 7, 24, 25, 26, 72, 73, 74, 75, 76, 77, 78, 79, 80, 81] (by decide +kernel) (by decide +kernel)
set_option maxRecDepth 20000 in
theorem gX5_settle_X3_become : GoodIn wsX5_settle (wsV RX5 79 RX3 yX3_become wsX3_become) := goodIn_app (goodIn_of _ (by decide +kernel)) ggX5_settle_X3_become
set_option maxRecDepth 20000 in
theorem ggX5_settle_X3_passNights : GoodIn wsX5_settle wsX3_passNights := goodIn_r _ [30, 14, 31, 32, 33, 7, 34, 19, 26, 25, 35, 36, 37, 38, 9, 39, 40, 41, 42, 20, 43, 44, 45, 46, 18, 47, 48, 49, 50, 15, 51, 52, 53, 54, 55, 56, 57, 58, 16, 17, 59, 60, 61, 72, 73, 74, 75, 76, 77, 78, 79, 80, 81] (by decide +kernel) (by decide +kernel)
set_option maxRecDepth 20000 in
theorem gX5_settle_X3_passNights : GoodIn wsX5_settle (wsV RX5 149 RX3 yX3_passNights wsX3_passNights) := goodIn_app (goodIn_of _ (by decide +kernel)) ggX5_settle_X3_passNights
theorem dX5_settle_0 : decode cX5_settle 0 = .ok (.aload_n 0, 1) := by decide +kernel
theorem dX5_settle_1 : decode cX5_settle 1 = .ok (.getfield 12, 3) := by decide +kernel
theorem dX5_settle_4 : decode cX5_settle 4 = .ok (.invokevirtual 133, 3) := by decide +kernel
theorem dX5_settle_7 : decode cX5_settle 7 = .ok (.ifCond .ne 6, 3) := by decide +kernel
theorem dX5_settle_10 : decode cX5_settle 10 = .ok (.bipush (-3), 2) := by decide +kernel
theorem dX5_settle_12 : decode cX5_settle 12 = .ok (.ireturn, 1) := by decide +kernel
theorem dX5_settle_13 : decode cX5_settle 13 = .ok (.aload_n 0, 1) := by decide +kernel
theorem dX5_settle_14 : decode cX5_settle 14 = .ok (.getfield 18, 3) := by decide +kernel
theorem dX5_settle_17 : decode cX5_settle 17 = .ok (.aload_n 0, 1) := by decide +kernel
theorem dX5_settle_18 : decode cX5_settle 18 = .ok (.getfield 12, 3) := by decide +kernel
theorem dX5_settle_21 : decode cX5_settle 21 = .ok (.invokevirtual 79, 3) := by decide +kernel
theorem dX5_settle_24 : decode cX5_settle 24 = .ok (.iconst 0, 1) := by decide +kernel
theorem dX5_settle_25 : decode cX5_settle 25 = .ok (.istore_n 1, 1) := by decide +kernel
theorem dX5_settle_26 : decode cX5_settle 26 = .ok (.iload_n 1, 1) := by decide +kernel
theorem dX5_settle_27 : decode cX5_settle 27 = .ok (.bipush 99, 2) := by decide +kernel
theorem dX5_settle_29 : decode cX5_settle 29 = .ok (.if_icmp .gt 38, 3) := by decide +kernel
theorem dX5_settle_32 : decode cX5_settle 32 = .ok (.aload_n 0, 1) := by decide +kernel
theorem dX5_settle_33 : decode cX5_settle 33 = .ok (.getfield 18, 3) := by decide +kernel
theorem dX5_settle_36 : decode cX5_settle 36 = .ok (.getfield 187, 3) := by decide +kernel
theorem dX5_settle_39 : decode cX5_settle 39 = .ok (.istore_n 2, 1) := by decide +kernel
theorem dX5_settle_40 : decode cX5_settle 40 = .ok (.aload_n 0, 1) := by decide +kernel
theorem dX5_settle_41 : decode cX5_settle 41 = .ok (.getfield 18, 3) := by decide +kernel
theorem dX5_settle_44 : decode cX5_settle 44 = .ok (.iconst 1, 1) := by decide +kernel
theorem dX5_settle_45 : decode cX5_settle 45 = .ok (.invokevirtual 149, 3) := by decide +kernel
theorem dX5_settle_48 : decode cX5_settle 48 = .ok (.aload_n 0, 1) := by decide +kernel
theorem dX5_settle_49 : decode cX5_settle 49 = .ok (.getfield 18, 3) := by decide +kernel
theorem dX5_settle_52 : decode cX5_settle 52 = .ok (.getfield 187, 3) := by decide +kernel
theorem dX5_settle_55 : decode cX5_settle 55 = .ok (.iload_n 2, 1) := by decide +kernel
theorem dX5_settle_56 : decode cX5_settle 56 = .ok (.if_icmp .ne 5, 3) := by decide +kernel
theorem dX5_settle_59 : decode cX5_settle 59 = .ok (.iload_n 1, 1) := by decide +kernel
theorem dX5_settle_60 : decode cX5_settle 60 = .ok (.ireturn, 1) := by decide +kernel
theorem dX5_settle_61 : decode cX5_settle 61 = .ok (.iinc 1 1, 3) := by decide +kernel
theorem dX5_settle_64 : decode cX5_settle 64 = .ok (.goto (-38), 3) := by decide +kernel
theorem dX5_settle_67 : decode cX5_settle 67 = .ok (.bipush (-9), 2) := by decide +kernel
theorem dX5_settle_69 : decode cX5_settle 69 = .ok (.ireturn, 1) := by decide +kernel
set_option maxRecDepth 20000 in
theorem ggX5_still_X3_stands : GoodIn wsX5_still wsX3_stands := goodIn_r _ [9, 10, 86, 87, 88, 89, 90, 91, 92, 93, 94, 95] (by decide +kernel) (by decide +kernel)
set_option maxRecDepth 20000 in
theorem gX5_still_X3_stands : GoodIn wsX5_still (wsV RX5 133 RX3 yX3_stands wsX3_stands) := goodIn_app (goodIn_of _ (by decide +kernel)) ggX5_still_X3_stands
set_option maxRecDepth 20000 in
theorem ggX5_still_X0_findStillest : GoodIn wsX5_still wsX0_findStillest := goodIn_r _ [15, 16, 17, 18, 19, 20, 21, 22, 23, 24, 25, 26, 27, 8, 28, 10, 29, 30, 31, 32, 33, 34, 35, 36, 37, 38, 39, 40, 41, 42, 43, 44, 45, 46, 47, 48, 49, 50, 51, 52, 53, 54, 55, 56, 57, 58, 59, 60, 61, 62, 63, 14, 64, 65, 66, 67, 68, 69, 70, 71, 72, 73, 74, 75, 86, 87, 88, 89, 90, 91, 92, 93, 94, 95, 96, 97, 98] (by decide +kernel) (by decide +kernel)
set_option maxRecDepth 20000 in
theorem gX5_still_X0_findStillest : GoodIn wsX5_still (wsV RX5 190 RX0 yX0_findStillest wsX0_findStillest) := goodIn_app (goodIn_of _ (by decide +kernel)) ggX5_still_X0_findStillest
theorem dX5_still_0 : decode cX5_still 0 = .ok (.iload_n 1, 1) := by decide +kernel
theorem dX5_still_1 : decode cX5_still 1 = .ok (.iconst (-1), 1) := by decide +kernel
theorem dX5_still_2 : decode cX5_still 2 = .ok (.if_icmp .lt 8, 3) := by decide +kernel
theorem dX5_still_5 : decode cX5_still 5 = .ok (.iload_n 1, 1) := by decide +kernel
theorem dX5_still_6 : decode cX5_still 6 = .ok (.iconst 4, 1) := by decide +kernel
theorem dX5_still_7 : decode cX5_still 7 = .ok (.if_icmp .lt 6, 3) := by decide +kernel
theorem dX5_still_10 : decode cX5_still 10 = .ok (.bipush (-2), 2) := by decide +kernel
theorem dX5_still_12 : decode cX5_still 12 = .ok (.ireturn, 1) := by decide +kernel
theorem dX5_still_13 : decode cX5_still 13 = .ok (.aload_n 0, 1) := by decide +kernel
theorem dX5_still_14 : decode cX5_still 14 = .ok (.getfield 12, 3) := by decide +kernel
theorem dX5_still_17 : decode cX5_still 17 = .ok (.invokevirtual 133, 3) := by decide +kernel
theorem dX5_still_20 : decode cX5_still 20 = .ok (.ifCond .ne 6, 3) := by decide +kernel
theorem dX5_still_23 : decode cX5_still 23 = .ok (.bipush (-3), 2) := by decide +kernel
theorem dX5_still_25 : decode cX5_still 25 = .ok (.ireturn, 1) := by decide +kernel
theorem dX5_still_26 : decode cX5_still 26 = .ok (.iload_n 1, 1) := by decide +kernel
theorem dX5_still_27 : decode cX5_still 27 = .ok (.aload_n 0, 1) := by decide +kernel
theorem dX5_still_28 : decode cX5_still 28 = .ok (.getfield 12, 3) := by decide +kernel
theorem dX5_still_31 : decode cX5_still 31 = .ok (.getfield 89, 3) := by decide +kernel
theorem dX5_still_34 : decode cX5_still 34 = .ok (.if_icmp .lt 6, 3) := by decide +kernel
theorem dX5_still_37 : decode cX5_still 37 = .ok (.bipush (-9), 2) := by decide +kernel
theorem dX5_still_39 : decode cX5_still 39 = .ok (.ireturn, 1) := by decide +kernel
theorem dX5_still_40 : decode cX5_still 40 = .ok (.aload_n 0, 1) := by decide +kernel
theorem dX5_still_41 : decode cX5_still 41 = .ok (.getfield 38, 3) := by decide +kernel
theorem dX5_still_44 : decode cX5_still 44 = .ok (.aload_n 0, 1) := by decide +kernel
theorem dX5_still_45 : decode cX5_still 45 = .ok (.getfield 12, 3) := by decide +kernel
theorem dX5_still_48 : decode cX5_still 48 = .ok (.invokevirtual 190, 3) := by decide +kernel
theorem dX5_still_51 : decode cX5_still 51 = .ok (.istore_n 2, 1) := by decide +kernel
theorem dX5_still_52 : decode cX5_still 52 = .ok (.iload_n 1, 1) := by decide +kernel
theorem dX5_still_53 : decode cX5_still 53 = .ok (.ifCond .ge 7, 3) := by decide +kernel
theorem dX5_still_56 : decode cX5_still 56 = .ok (.iload_n 2, 1) := by decide +kernel
theorem dX5_still_57 : decode cX5_still 57 = .ok (.goto 12, 3) := by decide +kernel
theorem dX5_still_60 : decode cX5_still 60 = .ok (.aload_n 0, 1) := by decide +kernel
theorem dX5_still_61 : decode cX5_still 61 = .ok (.getfield 38, 3) := by decide +kernel
theorem dX5_still_64 : decode cX5_still 64 = .ok (.getfield 194, 3) := by decide +kernel
theorem dX5_still_67 : decode cX5_still 67 = .ok (.iload_n 1, 1) := by decide +kernel
theorem dX5_still_68 : decode cX5_still 68 = .ok (.iaload, 1) := by decide +kernel
theorem dX5_still_69 : decode cX5_still 69 = .ok (.ireturn, 1) := by decide +kernel
set_option maxRecDepth 20000 in
theorem ggX5_hush_X3_hasHouse : GoodIn wsX5_hush wsX3_hasHouse := goodIn_r _ [9, 10, 54, 55, 56, 57, 58, 59, 60, 61, 62, 63] (by decide +kernel) (by decide +kernel)
set_option maxRecDepth 20000 in
theorem gX5_hush_X3_hasHouse : GoodIn wsX5_hush (wsV RX5 92 RX3 yX3_hasHouse wsX3_hasHouse) := goodIn_app (goodIn_of _ (by decide +kernel)) ggX5_hush_X3_hasHouse
set_option maxRecDepth 20000 in
theorem ggX5_hush_X3_sound : GoodIn wsX5_hush wsX3_sound := goodIn_r _ [14, 15, 16, 17, 18, 8, 19, 20, 54, 55, 56, 57, 58, 59, 60, 61, 62, 63] (by decide +kernel) (by decide +kernel)
set_option maxRecDepth 20000 in
theorem gX5_hush_X3_sound : GoodIn wsX5_hush (wsV RX5 116 RX3 yX3_sound wsX3_sound) := goodIn_app (goodIn_of _ (by decide +kernel)) ggX5_hush_X3_sound
set_option maxRecDepth 20000 in
theorem ggX5_hush_X3_wakes : GoodIn wsX5_hush wsX3_wakes := goodIn_r _ [24, 25, 26, 27, 8, 28, 29, 30, 31, 32, 33, 34, 35, 36, 37, 38, 39, 40, 41, 42, 54, 55, 56, 57, 58, 59, 60, 61, 62, 63] (by decide +kernel) (by decide +kernel)
set_option maxRecDepth 20000 in
theorem gX5_hush_X3_wakes : GoodIn wsX5_hush (wsV RX5 197 RX3 yX3_wakes wsX3_wakes) := goodIn_app (goodIn_of _ (by decide +kernel)) ggX5_hush_X3_wakes
set_option maxRecDepth 20000 in
theorem ggX5_hush_X3_soundIf : GoodIn wsX5_hush wsX3_soundIf := goodIn_r _ [19, 20, 54, 55, 56, 57, 58, 59, 60, 61, 62, 63] (by decide +kernel) (by decide +kernel)
set_option maxRecDepth 20000 in
theorem gX5_hush_X3_soundIf : GoodIn wsX5_hush (wsV RX5 201 RX3 yX3_soundIf wsX3_soundIf) := goodIn_app (goodIn_of _ (by decide +kernel)) ggX5_hush_X3_soundIf
theorem dX5_hush_0 : decode cX5_hush 0 = .ok (.aload_n 0, 1) := by decide +kernel
theorem dX5_hush_1 : decode cX5_hush 1 = .ok (.getfield 12, 3) := by decide +kernel
theorem dX5_hush_4 : decode cX5_hush 4 = .ok (.iload_n 1, 1) := by decide +kernel
theorem dX5_hush_5 : decode cX5_hush 5 = .ok (.invokevirtual 92, 3) := by decide +kernel
theorem dX5_hush_8 : decode cX5_hush 8 = .ok (.ifCond .ne 5, 3) := by decide +kernel
theorem dX5_hush_11 : decode cX5_hush 11 = .ok (.iconst (-1), 1) := by decide +kernel
theorem dX5_hush_12 : decode cX5_hush 12 = .ok (.ireturn, 1) := by decide +kernel
theorem dX5_hush_13 : decode cX5_hush 13 = .ok (.iconst 0, 1) := by decide +kernel
theorem dX5_hush_14 : decode cX5_hush 14 = .ok (.istore_n 2, 1) := by decide +kernel
theorem dX5_hush_15 : decode cX5_hush 15 = .ok (.iconst 0, 1) := by decide +kernel
theorem dX5_hush_16 : decode cX5_hush 16 = .ok (.istore_n 3, 1) := by decide +kernel
theorem dX5_hush_17 : decode cX5_hush 17 = .ok (.iload_n 3, 1) := by decide +kernel
theorem dX5_hush_18 : decode cX5_hush 18 = .ok (.aload_n 0, 1) := by decide +kernel
theorem dX5_hush_19 : decode cX5_hush 19 = .ok (.getfield 12, 3) := by decide +kernel
theorem dX5_hush_22 : decode cX5_hush 22 = .ok (.getfield 89, 3) := by decide +kernel
theorem dX5_hush_25 : decode cX5_hush 25 = .ok (.if_icmp .ge 87, 3) := by decide +kernel
theorem dX5_hush_28 : decode cX5_hush 28 = .ok (.aload_n 0, 1) := by decide +kernel
theorem dX5_hush_29 : decode cX5_hush 29 = .ok (.getfield 12, 3) := by decide +kernel
theorem dX5_hush_32 : decode cX5_hush 32 = .ok (.iload_n 1, 1) := by decide +kernel
theorem dX5_hush_33 : decode cX5_hush 33 = .ok (.aload_n 0, 1) := by decide +kernel
theorem dX5_hush_34 : decode cX5_hush 34 = .ok (.getfield 12, 3) := by decide +kernel
theorem dX5_hush_37 : decode cX5_hush 37 = .ok (.iload_n 3, 1) := by decide +kernel
theorem dX5_hush_38 : decode cX5_hush 38 = .ok (.invokevirtual 116, 3) := by decide +kernel
theorem dX5_hush_41 : decode cX5_hush 41 = .ok (.aload_n 0, 1) := by decide +kernel
theorem dX5_hush_42 : decode cX5_hush 42 = .ok (.getfield 12, 3) := by decide +kernel
theorem dX5_hush_45 : decode cX5_hush 45 = .ok (.getfield 119, 3) := by decide +kernel
theorem dX5_hush_48 : decode cX5_hush 48 = .ok (.iload_n 3, 1) := by decide +kernel
theorem dX5_hush_49 : decode cX5_hush 49 = .ok (.iaload, 1) := by decide +kernel
theorem dX5_hush_50 : decode cX5_hush 50 = .ok (.invokevirtual 197, 3) := by decide +kernel
theorem dX5_hush_53 : decode cX5_hush 53 = .ok (.ifCond .eq 53, 3) := by decide +kernel
theorem dX5_hush_56 : decode cX5_hush 56 = .ok (.aload_n 0, 1) := by decide +kernel
theorem dX5_hush_57 : decode cX5_hush 57 = .ok (.getfield 12, 3) := by decide +kernel
theorem dX5_hush_60 : decode cX5_hush 60 = .ok (.getfield 122, 3) := by decide +kernel
theorem dX5_hush_63 : decode cX5_hush 63 = .ok (.iload_n 3, 1) := by decide +kernel
theorem dX5_hush_64 : decode cX5_hush 64 = .ok (.baload, 1) := by decide +kernel
theorem dX5_hush_65 : decode cX5_hush 65 = .ok (.ifCond .ne 32, 3) := by decide +kernel
theorem dX5_hush_68 : decode cX5_hush 68 = .ok (.aload_n 0, 1) := by decide +kernel
theorem dX5_hush_69 : decode cX5_hush 69 = .ok (.getfield 12, 3) := by decide +kernel
theorem dX5_hush_72 : decode cX5_hush 72 = .ok (.iload_n 1, 1) := by decide +kernel
theorem dX5_hush_73 : decode cX5_hush 73 = .ok (.aload_n 0, 1) := by decide +kernel
theorem dX5_hush_74 : decode cX5_hush 74 = .ok (.getfield 12, 3) := by decide +kernel
theorem dX5_hush_77 : decode cX5_hush 77 = .ok (.iload_n 3, 1) := by decide +kernel
theorem dX5_hush_78 : decode cX5_hush 78 = .ok (.iconst 1, 1) := by decide +kernel
theorem dX5_hush_79 : decode cX5_hush 79 = .ok (.invokevirtual 201, 3) := by decide +kernel
theorem dX5_hush_82 : decode cX5_hush 82 = .ok (.aload_n 0, 1) := by decide +kernel
theorem dX5_hush_83 : decode cX5_hush 83 = .ok (.getfield 12, 3) := by decide +kernel
theorem dX5_hush_86 : decode cX5_hush 86 = .ok (.getfield 119, 3) := by decide +kernel
theorem dX5_hush_89 : decode cX5_hush 89 = .ok (.iload_n 3, 1) := by decide +kernel
theorem dX5_hush_90 : decode cX5_hush 90 = .ok (.iaload, 1) := by decide +kernel
theorem dX5_hush_91 : decode cX5_hush 91 = .ok (.invokevirtual 197, 3) := by decide +kernel
theorem dX5_hush_94 : decode cX5_hush 94 = .ok (.ifCond .eq 6, 3) := by decide +kernel
theorem dX5_hush_97 : decode cX5_hush 97 = .ok (.bipush (-9), 2) := by decide +kernel
theorem dX5_hush_99 : decode cX5_hush 99 = .ok (.ireturn, 1) := by decide +kernel
theorem dX5_hush_100 : decode cX5_hush 100 = .ok (.iload_n 2, 1) := by decide +kernel
theorem dX5_hush_101 : decode cX5_hush 101 = .ok (.iconst 1, 1) := by decide +kernel
theorem dX5_hush_102 : decode cX5_hush 102 = .ok (.iload_n 3, 1) := by decide +kernel
theorem dX5_hush_103 : decode cX5_hush 103 = .ok (.ishl, 1) := by decide +kernel
theorem dX5_hush_104 : decode cX5_hush 104 = .ok (.ior, 1) := by decide +kernel
theorem dX5_hush_105 : decode cX5_hush 105 = .ok (.istore_n 2, 1) := by decide +kernel
theorem dX5_hush_106 : decode cX5_hush 106 = .ok (.iinc 3 1, 3) := by decide +kernel
theorem dX5_hush_109 : decode cX5_hush 109 = .ok (.goto (-92), 3) := by decide +kernel
theorem dX5_hush_112 : decode cX5_hush 112 = .ok (.iload_n 2, 1) := by decide +kernel
theorem dX5_hush_113 : decode cX5_hush 113 = .ok (.ireturn, 1) := by decide +kernel
set_option maxRecDepth 20000 in
theorem ggX5_reading_X3_hasClock : GoodIn wsX5_reading wsX3_hasClock := goodIn_r _ [8, 9, 40, 41, 42, 43, 44, 45, 46, 47, 48, 49] (by decide +kernel) (by decide +kernel)
set_option maxRecDepth 20000 in
theorem gX5_reading_X3_hasClock : GoodIn wsX5_reading (wsV RX5 110 RX3 yX3_hasClock wsX3_hasClock) := goodIn_app (goodIn_of _ (by decide +kernel)) ggX5_reading_X3_hasClock
set_option maxRecDepth 20000 in
theorem ggX5_reading_X3_hasHouse : GoodIn wsX5_reading wsX3_hasHouse := goodIn_r _ [13, 14, 40, 41, 42, 43, 44, 45, 46, 47, 48, 49] (by decide +kernel) (by decide +kernel)
set_option maxRecDepth 20000 in
theorem gX5_reading_X3_hasHouse : GoodIn wsX5_reading (wsV RX5 92 RX3 yX3_hasHouse wsX3_hasHouse) := goodIn_app (goodIn_of _ (by decide +kernel)) ggX5_reading_X3_hasHouse
set_option maxRecDepth 20000 in
theorem ggX5_reading_X1_note : GoodIn wsX5_reading wsX1_note := goodIn_r _ [19, 20, 21, 22, 23, 24, 35, 36, 37, 38, 39] (by decide +kernel) (by decide +kernel)
set_option maxRecDepth 20000 in
theorem gX5_reading_X1_note : GoodIn wsX5_reading (wsV RX5 205 RX1 yX1_note wsX1_note) := goodIn_app (goodIn_of _ (by decide +kernel)) ggX5_reading_X1_note
theorem dX5_reading_0 : decode cX5_reading 0 = .ok (.aload_n 0, 1) := by decide +kernel
theorem dX5_reading_1 : decode cX5_reading 1 = .ok (.getfield 12, 3) := by decide +kernel
theorem dX5_reading_4 : decode cX5_reading 4 = .ok (.iload_n 1, 1) := by decide +kernel
theorem dX5_reading_5 : decode cX5_reading 5 = .ok (.invokevirtual 110, 3) := by decide +kernel
theorem dX5_reading_8 : decode cX5_reading 8 = .ok (.ifCond .eq 25, 3) := by decide +kernel
theorem dX5_reading_11 : decode cX5_reading 11 = .ok (.aload_n 0, 1) := by decide +kernel
theorem dX5_reading_12 : decode cX5_reading 12 = .ok (.getfield 12, 3) := by decide +kernel
theorem dX5_reading_15 : decode cX5_reading 15 = .ok (.iload_n 2, 1) := by decide +kernel
theorem dX5_reading_16 : decode cX5_reading 16 = .ok (.invokevirtual 92, 3) := by decide +kernel
theorem dX5_reading_19 : decode cX5_reading 19 = .ok (.ifCond .eq 14, 3) := by decide +kernel
theorem dX5_reading_22 : decode cX5_reading 22 = .ok (.aload_n 0, 1) := by decide +kernel
theorem dX5_reading_23 : decode cX5_reading 23 = .ok (.getfield 12, 3) := by decide +kernel
theorem dX5_reading_26 : decode cX5_reading 26 = .ok (.iload_n 3, 1) := by decide +kernel
theorem dX5_reading_27 : decode cX5_reading 27 = .ok (.invokevirtual 92, 3) := by decide +kernel
theorem dX5_reading_30 : decode cX5_reading 30 = .ok (.ifCond .ne 5, 3) := by decide +kernel
theorem dX5_reading_33 : decode cX5_reading 33 = .ok (.iconst (-1), 1) := by decide +kernel
theorem dX5_reading_34 : decode cX5_reading 34 = .ok (.ireturn, 1) := by decide +kernel
theorem dX5_reading_35 : decode cX5_reading 35 = .ok (.iload 4, 2) := by decide +kernel
theorem dX5_reading_37 : decode cX5_reading 37 = .ok (.ifCond .lt 9, 3) := by decide +kernel
theorem dX5_reading_40 : decode cX5_reading 40 = .ok (.iload 4, 2) := by decide +kernel
theorem dX5_reading_42 : decode cX5_reading 42 = .ok (.iconst 1, 1) := by decide +kernel
theorem dX5_reading_43 : decode cX5_reading 43 = .ok (.if_icmp .le 6, 3) := by decide +kernel
theorem dX5_reading_46 : decode cX5_reading 46 = .ok (.bipush (-2), 2) := by decide +kernel
theorem dX5_reading_48 : decode cX5_reading 48 = .ok (.ireturn, 1) := by decide +kernel
theorem dX5_reading_49 : decode cX5_reading 49 = .ok (.aload_n 0, 1) := by decide +kernel
theorem dX5_reading_50 : decode cX5_reading 50 = .ok (.getfield 31, 3) := by decide +kernel
theorem dX5_reading_53 : decode cX5_reading 53 = .ok (.getfield 86, 3) := by decide +kernel
theorem dX5_reading_56 : decode cX5_reading 56 = .ok (.bipush 8, 2) := by decide +kernel
theorem dX5_reading_58 : decode cX5_reading 58 = .ok (.if_icmp .lt 6, 3) := by decide +kernel
theorem dX5_reading_61 : decode cX5_reading 61 = .ok (.bipush (-4), 2) := by decide +kernel
theorem dX5_reading_63 : decode cX5_reading 63 = .ok (.ireturn, 1) := by decide +kernel
theorem dX5_reading_64 : decode cX5_reading 64 = .ok (.aload_n 0, 1) := by decide +kernel
theorem dX5_reading_65 : decode cX5_reading 65 = .ok (.getfield 31, 3) := by decide +kernel
theorem dX5_reading_68 : decode cX5_reading 68 = .ok (.iload_n 1, 1) := by decide +kernel
theorem dX5_reading_69 : decode cX5_reading 69 = .ok (.iload_n 2, 1) := by decide +kernel
theorem dX5_reading_70 : decode cX5_reading 70 = .ok (.iload_n 3, 1) := by decide +kernel
theorem dX5_reading_71 : decode cX5_reading 71 = .ok (.iload 4, 2) := by decide +kernel
theorem dX5_reading_73 : decode cX5_reading 73 = .ok (.iconst 1, 1) := by decide +kernel
theorem dX5_reading_74 : decode cX5_reading 74 = .ok (.if_icmp .ne 7, 3) := by decide +kernel
theorem dX5_reading_77 : decode cX5_reading 77 = .ok (.iconst 1, 1) := by decide +kernel
theorem dX5_reading_78 : decode cX5_reading 78 = .ok (.goto 4, 3) := by decide +kernel
theorem dX5_reading_81 : decode cX5_reading 81 = .ok (.iconst 0, 1) := by decide +kernel
theorem dX5_reading_82 : decode cX5_reading 82 = .ok (.invokevirtual 205, 3) := by decide +kernel
theorem dX5_reading_85 : decode cX5_reading 85 = .ok (.ireturn, 1) := by decide +kernel
theorem dX5_back_0 : decode cX5_back 0 = .ok (.iload_n 1, 1) := by decide +kernel
theorem dX5_back_1 : decode cX5_back 1 = .ok (.ifCond .lt 14, 3) := by decide +kernel
theorem dX5_back_4 : decode cX5_back 4 = .ok (.iload_n 1, 1) := by decide +kernel
theorem dX5_back_5 : decode cX5_back 5 = .ok (.aload_n 0, 1) := by decide +kernel
theorem dX5_back_6 : decode cX5_back 6 = .ok (.getfield 31, 3) := by decide +kernel
theorem dX5_back_9 : decode cX5_back 9 = .ok (.getfield 86, 3) := by decide +kernel
theorem dX5_back_12 : decode cX5_back 12 = .ok (.if_icmp .le 6, 3) := by decide +kernel
theorem dX5_back_15 : decode cX5_back 15 = .ok (.bipush (-2), 2) := by decide +kernel
theorem dX5_back_17 : decode cX5_back 17 = .ok (.ireturn, 1) := by decide +kernel
theorem dX5_back_18 : decode cX5_back 18 = .ok (.aload_n 0, 1) := by decide +kernel
theorem dX5_back_19 : decode cX5_back 19 = .ok (.getfield 31, 3) := by decide +kernel
theorem dX5_back_22 : decode cX5_back 22 = .ok (.dup, 1) := by decide +kernel
theorem dX5_back_23 : decode cX5_back 23 = .ok (.getfield 86, 3) := by decide +kernel
theorem dX5_back_26 : decode cX5_back 26 = .ok (.iload_n 1, 1) := by decide +kernel
theorem dX5_back_27 : decode cX5_back 27 = .ok (.isub, 1) := by decide +kernel
theorem dX5_back_28 : decode cX5_back 28 = .ok (.putfield 86, 3) := by decide +kernel
theorem dX5_back_31 : decode cX5_back 31 = .ok (.aload_n 0, 1) := by decide +kernel
theorem dX5_back_32 : decode cX5_back 32 = .ok (.getfield 31, 3) := by decide +kernel
theorem dX5_back_35 : decode cX5_back 35 = .ok (.getfield 86, 3) := by decide +kernel
theorem dX5_back_38 : decode cX5_back 38 = .ok (.ireturn, 1) := by decide +kernel
set_option maxRecDepth 20000 in
theorem ggX5_depths_X3_hasHouse : GoodIn wsX5_depths wsX3_hasHouse := goodIn_r _ [9, 10, 75, 76, 77, 78, 79, 80, 81, 82, 83, 84] (by decide +kernel) (by decide +kernel)
set_option maxRecDepth 20000 in
theorem gX5_depths_X3_hasHouse : GoodIn wsX5_depths (wsV RX5 92 RX3 yX3_hasHouse wsX3_hasHouse) := goodIn_app (goodIn_of _ (by decide +kernel)) ggX5_depths_X3_hasHouse
set_option maxRecDepth 20000 in
theorem ggX5_depths_X3_become : GoodIn wsX5_depths wsX3_become := goodIn_r _ [14, 10, 15, 16, 17, 18, 19, 20, 21, 22, 23, 24, 8, 25, 26, 27, 75, 76, 77, 78, 79, 80, 81, 82, 83, 84] (by decide +kernel) (by decide +kernel)
set_option maxRecDepth 20000 in
theorem gX5_depths_X3_become : GoodIn wsX5_depths (wsV RX5 79 RX3 yX3_become wsX3_become) := goodIn_app (goodIn_of _ (by decide +kernel)) ggX5_depths_X3_become
set_option maxRecDepth 20000 in
theorem ggX5_depths_X1_bitIfAllHold : GoodIn wsX5_depths wsX1_bitIfAllHold := goodIn_r _ [32, 33, 34, 35, 36, 37, 38, 39, 40, 8, 41, 21, 42, 43, 44, 45, 19, 46, 47, 48, 49, 50, 51, 52, 53, 16, 54, 55, 56, 57, 58, 59, 60, 61, 17, 18, 62, 63, 64, 85, 86, 87, 88, 89, 75, 76, 77, 78, 79, 80, 81, 82, 83, 84] (by decide +kernel) (by decide +kernel)
set_option maxRecDepth 20000 in
theorem gX5_depths_X1_bitIfAllHold : GoodIn wsX5_depths (wsV RX5 209 RX1 yX1_bitIfAllHold wsX1_bitIfAllHold) := goodIn_app (goodIn_of _ (by decide +kernel)) ggX5_depths_X1_bitIfAllHold
theorem dX5_depths_0 : decode cX5_depths 0 = .ok (.aload_n 0, 1) := by decide +kernel
theorem dX5_depths_1 : decode cX5_depths 1 = .ok (.getfield 12, 3) := by decide +kernel
theorem dX5_depths_4 : decode cX5_depths 4 = .ok (.iload_n 1, 1) := by decide +kernel
theorem dX5_depths_5 : decode cX5_depths 5 = .ok (.invokevirtual 92, 3) := by decide +kernel
theorem dX5_depths_8 : decode cX5_depths 8 = .ok (.ifCond .ne 5, 3) := by decide +kernel
theorem dX5_depths_11 : decode cX5_depths 11 = .ok (.iconst (-1), 1) := by decide +kernel
theorem dX5_depths_12 : decode cX5_depths 12 = .ok (.ireturn, 1) := by decide +kernel
theorem dX5_depths_13 : decode cX5_depths 13 = .ok (.aload_n 0, 1) := by decide +kernel
theorem dX5_depths_14 : decode cX5_depths 14 = .ok (.getfield 18, 3) := by decide +kernel
theorem dX5_depths_17 : decode cX5_depths 17 = .ok (.aload_n 0, 1) := by decide +kernel
theorem dX5_depths_18 : decode cX5_depths 18 = .ok (.getfield 12, 3) := by decide +kernel
theorem dX5_depths_21 : decode cX5_depths 21 = .ok (.invokevirtual 79, 3) := by decide +kernel
theorem dX5_depths_24 : decode cX5_depths 24 = .ok (.iconst 0, 1) := by decide +kernel
theorem dX5_depths_25 : decode cX5_depths 25 = .ok (.istore_n 2, 1) := by decide +kernel
theorem dX5_depths_26 : decode cX5_depths 26 = .ok (.iconst 1, 1) := by decide +kernel
theorem dX5_depths_27 : decode cX5_depths 27 = .ok (.istore_n 3, 1) := by decide +kernel
theorem dX5_depths_28 : decode cX5_depths 28 = .ok (.iload_n 3, 1) := by decide +kernel
theorem dX5_depths_29 : decode cX5_depths 29 = .ok (.bipush 9, 2) := by decide +kernel
theorem dX5_depths_31 : decode cX5_depths 31 = .ok (.if_icmp .gt 34, 3) := by decide +kernel
theorem dX5_depths_34 : decode cX5_depths 34 = .ok (.aload_n 0, 1) := by decide +kernel
theorem dX5_depths_35 : decode cX5_depths 35 = .ok (.getfield 18, 3) := by decide +kernel
theorem dX5_depths_38 : decode cX5_depths 38 = .ok (.getfield 98, 3) := by decide +kernel
theorem dX5_depths_41 : decode cX5_depths 41 = .ok (.iload_n 1, 1) := by decide +kernel
theorem dX5_depths_42 : decode cX5_depths 42 = .ok (.iload_n 3, 1) := by decide +kernel
theorem dX5_depths_43 : decode cX5_depths 43 = .ok (.iastore, 1) := by decide +kernel
theorem dX5_depths_44 : decode cX5_depths 44 = .ok (.iload_n 2, 1) := by decide +kernel
theorem dX5_depths_45 : decode cX5_depths 45 = .ok (.aload_n 0, 1) := by decide +kernel
theorem dX5_depths_46 : decode cX5_depths 46 = .ok (.getfield 31, 3) := by decide +kernel
theorem dX5_depths_49 : decode cX5_depths 49 = .ok (.aload_n 0, 1) := by decide +kernel
theorem dX5_depths_50 : decode cX5_depths 50 = .ok (.getfield 18, 3) := by decide +kernel
theorem dX5_depths_53 : decode cX5_depths 53 = .ok (.iload_n 3, 1) := by decide +kernel
theorem dX5_depths_54 : decode cX5_depths 54 = .ok (.invokevirtual 209, 3) := by decide +kernel
theorem dX5_depths_57 : decode cX5_depths 57 = .ok (.ior, 1) := by decide +kernel
theorem dX5_depths_58 : decode cX5_depths 58 = .ok (.istore_n 2, 1) := by decide +kernel
theorem dX5_depths_59 : decode cX5_depths 59 = .ok (.iinc 3 1, 3) := by decide +kernel
theorem dX5_depths_62 : decode cX5_depths 62 = .ok (.goto (-34), 3) := by decide +kernel
theorem dX5_depths_65 : decode cX5_depths 65 = .ok (.iload_n 2, 1) := by decide +kernel
theorem dX5_depths_66 : decode cX5_depths 66 = .ok (.ireturn, 1) := by decide +kernel
set_option maxRecDepth 20000 in
theorem ggX5_kinds_X3_hasHouse : GoodIn wsX5_kinds wsX3_hasHouse := goodIn_r _ [9, 10, 75, 76, 77, 78, 79, 80, 81, 82, 83, 84] (by decide +kernel) (by decide +kernel)
set_option maxRecDepth 20000 in
theorem gX5_kinds_X3_hasHouse : GoodIn wsX5_kinds (wsV RX5 92 RX3 yX3_hasHouse wsX3_hasHouse) := goodIn_app (goodIn_of _ (by decide +kernel)) ggX5_kinds_X3_hasHouse
set_option maxRecDepth 20000 in
theorem ggX5_kinds_X3_become : GoodIn wsX5_kinds wsX3_become := goodIn_r _ [14, 10, 15, 16, 17, 18, 19, 20, 21, 22, 23, 24, 8, 25, 26, 27, 75, 76, 77, 78, 79, 80, 81, 82, 83, 84] (by decide +kernel) (by decide +kernel)
set_option maxRecDepth 20000 in
theorem gX5_kinds_X3_become : GoodIn wsX5_kinds (wsV RX5 79 RX3 yX3_become wsX3_become) := goodIn_app (goodIn_of _ (by decide +kernel)) ggX5_kinds_X3_become
set_option maxRecDepth 20000 in
theorem ggX5_kinds_X1_bitIfAllHold : GoodIn wsX5_kinds wsX1_bitIfAllHold := goodIn_r _ [32, 33, 34, 35, 36, 37, 38, 39, 40, 8, 41, 21, 42, 43, 44, 45, 19, 46, 47, 48, 49, 50, 51, 52, 53, 16, 54, 55, 56, 57, 58, 59, 60, 61, 17, 18, 62, 63, 64, 85, 86, 87, 88, 89, 75, 76, 77, 78, 79, 80, 81, 82, 83, 84] (by decide +kernel) (by decide +kernel)
set_option maxRecDepth 20000 in
theorem gX5_kinds_X1_bitIfAllHold : GoodIn wsX5_kinds (wsV RX5 209 RX1 yX1_bitIfAllHold wsX1_bitIfAllHold) := goodIn_app (goodIn_of _ (by decide +kernel)) ggX5_kinds_X1_bitIfAllHold
theorem dX5_kinds_0 : decode cX5_kinds 0 = .ok (.aload_n 0, 1) := by decide +kernel
theorem dX5_kinds_1 : decode cX5_kinds 1 = .ok (.getfield 12, 3) := by decide +kernel
theorem dX5_kinds_4 : decode cX5_kinds 4 = .ok (.iload_n 1, 1) := by decide +kernel
theorem dX5_kinds_5 : decode cX5_kinds 5 = .ok (.invokevirtual 92, 3) := by decide +kernel
theorem dX5_kinds_8 : decode cX5_kinds 8 = .ok (.ifCond .ne 5, 3) := by decide +kernel
theorem dX5_kinds_11 : decode cX5_kinds 11 = .ok (.iconst (-1), 1) := by decide +kernel
theorem dX5_kinds_12 : decode cX5_kinds 12 = .ok (.ireturn, 1) := by decide +kernel
theorem dX5_kinds_13 : decode cX5_kinds 13 = .ok (.aload_n 0, 1) := by decide +kernel
theorem dX5_kinds_14 : decode cX5_kinds 14 = .ok (.getfield 18, 3) := by decide +kernel
theorem dX5_kinds_17 : decode cX5_kinds 17 = .ok (.aload_n 0, 1) := by decide +kernel
theorem dX5_kinds_18 : decode cX5_kinds 18 = .ok (.getfield 12, 3) := by decide +kernel
theorem dX5_kinds_21 : decode cX5_kinds 21 = .ok (.invokevirtual 79, 3) := by decide +kernel
theorem dX5_kinds_24 : decode cX5_kinds 24 = .ok (.iconst 0, 1) := by decide +kernel
theorem dX5_kinds_25 : decode cX5_kinds 25 = .ok (.istore_n 2, 1) := by decide +kernel
theorem dX5_kinds_26 : decode cX5_kinds 26 = .ok (.iconst 0, 1) := by decide +kernel
theorem dX5_kinds_27 : decode cX5_kinds 27 = .ok (.istore_n 3, 1) := by decide +kernel
theorem dX5_kinds_28 : decode cX5_kinds 28 = .ok (.iload_n 3, 1) := by decide +kernel
theorem dX5_kinds_29 : decode cX5_kinds 29 = .ok (.iconst 2, 1) := by decide +kernel
theorem dX5_kinds_30 : decode cX5_kinds 30 = .ok (.if_icmp .gt 34, 3) := by decide +kernel
theorem dX5_kinds_33 : decode cX5_kinds 33 = .ok (.aload_n 0, 1) := by decide +kernel
theorem dX5_kinds_34 : decode cX5_kinds 34 = .ok (.getfield 18, 3) := by decide +kernel
theorem dX5_kinds_37 : decode cX5_kinds 37 = .ok (.getfield 95, 3) := by decide +kernel
theorem dX5_kinds_40 : decode cX5_kinds 40 = .ok (.iload_n 1, 1) := by decide +kernel
theorem dX5_kinds_41 : decode cX5_kinds 41 = .ok (.iload_n 3, 1) := by decide +kernel
theorem dX5_kinds_42 : decode cX5_kinds 42 = .ok (.iastore, 1) := by decide +kernel
theorem dX5_kinds_43 : decode cX5_kinds 43 = .ok (.iload_n 2, 1) := by decide +kernel
theorem dX5_kinds_44 : decode cX5_kinds 44 = .ok (.aload_n 0, 1) := by decide +kernel
theorem dX5_kinds_45 : decode cX5_kinds 45 = .ok (.getfield 31, 3) := by decide +kernel
theorem dX5_kinds_48 : decode cX5_kinds 48 = .ok (.aload_n 0, 1) := by decide +kernel
theorem dX5_kinds_49 : decode cX5_kinds 49 = .ok (.getfield 18, 3) := by decide +kernel
theorem dX5_kinds_52 : decode cX5_kinds 52 = .ok (.iload_n 3, 1) := by decide +kernel
theorem dX5_kinds_53 : decode cX5_kinds 53 = .ok (.invokevirtual 209, 3) := by decide +kernel
theorem dX5_kinds_56 : decode cX5_kinds 56 = .ok (.ior, 1) := by decide +kernel
theorem dX5_kinds_57 : decode cX5_kinds 57 = .ok (.istore_n 2, 1) := by decide +kernel
theorem dX5_kinds_58 : decode cX5_kinds 58 = .ok (.iinc 3 1, 3) := by decide +kernel
theorem dX5_kinds_61 : decode cX5_kinds 61 = .ok (.goto (-33), 3) := by decide +kernel
theorem dX5_kinds_64 : decode cX5_kinds 64 = .ok (.iload_n 2, 1) := by decide +kernel
theorem dX5_kinds_65 : decode cX5_kinds 65 = .ok (.ireturn, 1) := by decide +kernel
set_option maxRecDepth 20000 in
theorem ggX5_louds_X3_hasClock : GoodIn wsX5_louds wsX3_hasClock := goodIn_r _ [9, 10, 75, 76, 77, 78, 79, 80, 81, 82, 83, 84] (by decide +kernel) (by decide +kernel)
set_option maxRecDepth 20000 in
theorem gX5_louds_X3_hasClock : GoodIn wsX5_louds (wsV RX5 110 RX3 yX3_hasClock wsX3_hasClock) := goodIn_app (goodIn_of _ (by decide +kernel)) ggX5_louds_X3_hasClock
set_option maxRecDepth 20000 in
theorem ggX5_louds_X3_become : GoodIn wsX5_louds wsX3_become := goodIn_r _ [14, 15, 10, 16, 17, 18, 19, 20, 21, 22, 23, 24, 8, 25, 26, 27, 75, 76, 77, 78, 79, 80, 81, 82, 83, 84] (by decide +kernel) (by decide +kernel)
set_option maxRecDepth 20000 in
theorem gX5_louds_X3_become : GoodIn wsX5_louds (wsV RX5 79 RX3 yX3_become wsX3_become) := goodIn_app (goodIn_of _ (by decide +kernel)) ggX5_louds_X3_become
set_option maxRecDepth 20000 in
theorem ggX5_louds_X1_bitIfAllHold : GoodIn wsX5_louds wsX1_bitIfAllHold := goodIn_r _ [32, 33, 34, 35, 36, 37, 38, 39, 40, 8, 41, 21, 42, 43, 44, 45, 19, 46, 47, 48, 49, 50, 51, 52, 53, 16, 54, 55, 56, 57, 58, 59, 60, 61, 17, 18, 62, 63, 64, 85, 86, 87, 88, 89, 75, 76, 77, 78, 79, 80, 81, 82, 83, 84] (by decide +kernel) (by decide +kernel)
set_option maxRecDepth 20000 in
theorem gX5_louds_X1_bitIfAllHold : GoodIn wsX5_louds (wsV RX5 209 RX1 yX1_bitIfAllHold wsX1_bitIfAllHold) := goodIn_app (goodIn_of _ (by decide +kernel)) ggX5_louds_X1_bitIfAllHold
theorem dX5_louds_0 : decode cX5_louds 0 = .ok (.aload_n 0, 1) := by decide +kernel
theorem dX5_louds_1 : decode cX5_louds 1 = .ok (.getfield 12, 3) := by decide +kernel
theorem dX5_louds_4 : decode cX5_louds 4 = .ok (.iload_n 1, 1) := by decide +kernel
theorem dX5_louds_5 : decode cX5_louds 5 = .ok (.invokevirtual 110, 3) := by decide +kernel
theorem dX5_louds_8 : decode cX5_louds 8 = .ok (.ifCond .ne 5, 3) := by decide +kernel
theorem dX5_louds_11 : decode cX5_louds 11 = .ok (.iconst (-1), 1) := by decide +kernel
theorem dX5_louds_12 : decode cX5_louds 12 = .ok (.ireturn, 1) := by decide +kernel
theorem dX5_louds_13 : decode cX5_louds 13 = .ok (.aload_n 0, 1) := by decide +kernel
theorem dX5_louds_14 : decode cX5_louds 14 = .ok (.getfield 18, 3) := by decide +kernel
theorem dX5_louds_17 : decode cX5_louds 17 = .ok (.aload_n 0, 1) := by decide +kernel
theorem dX5_louds_18 : decode cX5_louds 18 = .ok (.getfield 12, 3) := by decide +kernel
theorem dX5_louds_21 : decode cX5_louds 21 = .ok (.invokevirtual 79, 3) := by decide +kernel
theorem dX5_louds_24 : decode cX5_louds 24 = .ok (.iconst 0, 1) := by decide +kernel
theorem dX5_louds_25 : decode cX5_louds 25 = .ok (.istore_n 2, 1) := by decide +kernel
theorem dX5_louds_26 : decode cX5_louds 26 = .ok (.iconst 1, 1) := by decide +kernel
theorem dX5_louds_27 : decode cX5_louds 27 = .ok (.istore_n 3, 1) := by decide +kernel
theorem dX5_louds_28 : decode cX5_louds 28 = .ok (.iload_n 3, 1) := by decide +kernel
theorem dX5_louds_29 : decode cX5_louds 29 = .ok (.bipush 9, 2) := by decide +kernel
theorem dX5_louds_31 : decode cX5_louds 31 = .ok (.if_icmp .gt 34, 3) := by decide +kernel
theorem dX5_louds_34 : decode cX5_louds 34 = .ok (.aload_n 0, 1) := by decide +kernel
theorem dX5_louds_35 : decode cX5_louds 35 = .ok (.getfield 18, 3) := by decide +kernel
theorem dX5_louds_38 : decode cX5_louds 38 = .ok (.getfield 113, 3) := by decide +kernel
theorem dX5_louds_41 : decode cX5_louds 41 = .ok (.iload_n 1, 1) := by decide +kernel
theorem dX5_louds_42 : decode cX5_louds 42 = .ok (.iload_n 3, 1) := by decide +kernel
theorem dX5_louds_43 : decode cX5_louds 43 = .ok (.iastore, 1) := by decide +kernel
theorem dX5_louds_44 : decode cX5_louds 44 = .ok (.iload_n 2, 1) := by decide +kernel
theorem dX5_louds_45 : decode cX5_louds 45 = .ok (.aload_n 0, 1) := by decide +kernel
theorem dX5_louds_46 : decode cX5_louds 46 = .ok (.getfield 31, 3) := by decide +kernel
theorem dX5_louds_49 : decode cX5_louds 49 = .ok (.aload_n 0, 1) := by decide +kernel
theorem dX5_louds_50 : decode cX5_louds 50 = .ok (.getfield 18, 3) := by decide +kernel
theorem dX5_louds_53 : decode cX5_louds 53 = .ok (.iload_n 3, 1) := by decide +kernel
theorem dX5_louds_54 : decode cX5_louds 54 = .ok (.invokevirtual 209, 3) := by decide +kernel
theorem dX5_louds_57 : decode cX5_louds 57 = .ok (.ior, 1) := by decide +kernel
theorem dX5_louds_58 : decode cX5_louds 58 = .ok (.istore_n 2, 1) := by decide +kernel
theorem dX5_louds_59 : decode cX5_louds 59 = .ok (.iinc 3 1, 3) := by decide +kernel
theorem dX5_louds_62 : decode cX5_louds 62 = .ok (.goto (-34), 3) := by decide +kernel
theorem dX5_louds_65 : decode cX5_louds 65 = .ok (.iload_n 2, 1) := by decide +kernel
theorem dX5_louds_66 : decode cX5_louds 66 = .ok (.ireturn, 1) := by decide +kernel
set_option maxRecDepth 20000 in
theorem ggX5_walls_X3_stands : GoodIn wsX5_walls wsX3_stands := goodIn_r _ [9, 10, 75, 76, 77, 78, 79, 80, 81, 82, 83, 84] (by decide +kernel) (by decide +kernel)
set_option maxRecDepth 20000 in
theorem gX5_walls_X3_stands : GoodIn wsX5_walls (wsV RX5 133 RX3 yX3_stands wsX3_stands) := goodIn_app (goodIn_of _ (by decide +kernel)) ggX5_walls_X3_stands
set_option maxRecDepth 20000 in
theorem ggX5_walls_X3_become : GoodIn wsX5_walls wsX3_become := goodIn_r _ [14, 10, 15, 16, 17, 18, 19, 20, 21, 22, 23, 24, 8, 25, 26, 27, 75, 76, 77, 78, 79, 80, 81, 82, 83, 84] (by decide +kernel) (by decide +kernel)
set_option maxRecDepth 20000 in
theorem gX5_walls_X3_become : GoodIn wsX5_walls (wsV RX5 79 RX3 yX3_become wsX3_become) := goodIn_app (goodIn_of _ (by decide +kernel)) ggX5_walls_X3_become
set_option maxRecDepth 20000 in
theorem ggX5_walls_X1_bitIfAllHold : GoodIn wsX5_walls wsX1_bitIfAllHold := goodIn_r _ [32, 33, 34, 35, 36, 37, 38, 39, 40, 8, 41, 21, 42, 43, 44, 45, 19, 46, 47, 48, 49, 50, 51, 52, 53, 16, 54, 55, 56, 57, 58, 59, 60, 61, 17, 18, 62, 63, 64, 85, 86, 87, 88, 89, 75, 76, 77, 78, 79, 80, 81, 82, 83, 84] (by decide +kernel) (by decide +kernel)
set_option maxRecDepth 20000 in
theorem gX5_walls_X1_bitIfAllHold : GoodIn wsX5_walls (wsV RX5 209 RX1 yX1_bitIfAllHold wsX1_bitIfAllHold) := goodIn_app (goodIn_of _ (by decide +kernel)) ggX5_walls_X1_bitIfAllHold
theorem dX5_walls_0 : decode cX5_walls 0 = .ok (.aload_n 0, 1) := by decide +kernel
theorem dX5_walls_1 : decode cX5_walls 1 = .ok (.getfield 12, 3) := by decide +kernel
theorem dX5_walls_4 : decode cX5_walls 4 = .ok (.invokevirtual 133, 3) := by decide +kernel
theorem dX5_walls_7 : decode cX5_walls 7 = .ok (.ifCond .ne 6, 3) := by decide +kernel
theorem dX5_walls_10 : decode cX5_walls 10 = .ok (.bipush (-3), 2) := by decide +kernel
theorem dX5_walls_12 : decode cX5_walls 12 = .ok (.ireturn, 1) := by decide +kernel
theorem dX5_walls_13 : decode cX5_walls 13 = .ok (.aload_n 0, 1) := by decide +kernel
theorem dX5_walls_14 : decode cX5_walls 14 = .ok (.getfield 18, 3) := by decide +kernel
theorem dX5_walls_17 : decode cX5_walls 17 = .ok (.aload_n 0, 1) := by decide +kernel
theorem dX5_walls_18 : decode cX5_walls 18 = .ok (.getfield 12, 3) := by decide +kernel
theorem dX5_walls_21 : decode cX5_walls 21 = .ok (.invokevirtual 79, 3) := by decide +kernel
theorem dX5_walls_24 : decode cX5_walls 24 = .ok (.iconst 0, 1) := by decide +kernel
theorem dX5_walls_25 : decode cX5_walls 25 = .ok (.istore_n 1, 1) := by decide +kernel
theorem dX5_walls_26 : decode cX5_walls 26 = .ok (.iconst 0, 1) := by decide +kernel
theorem dX5_walls_27 : decode cX5_walls 27 = .ok (.istore_n 2, 1) := by decide +kernel
theorem dX5_walls_28 : decode cX5_walls 28 = .ok (.iload_n 2, 1) := by decide +kernel
theorem dX5_walls_29 : decode cX5_walls 29 = .ok (.iconst 3, 1) := by decide +kernel
theorem dX5_walls_30 : decode cX5_walls 30 = .ok (.if_icmp .gt 32, 3) := by decide +kernel
theorem dX5_walls_33 : decode cX5_walls 33 = .ok (.aload_n 0, 1) := by decide +kernel
theorem dX5_walls_34 : decode cX5_walls 34 = .ok (.getfield 18, 3) := by decide +kernel
theorem dX5_walls_37 : decode cX5_walls 37 = .ok (.iload_n 2, 1) := by decide +kernel
theorem dX5_walls_38 : decode cX5_walls 38 = .ok (.putfield 137, 3) := by decide +kernel
theorem dX5_walls_41 : decode cX5_walls 41 = .ok (.iload_n 1, 1) := by decide +kernel
theorem dX5_walls_42 : decode cX5_walls 42 = .ok (.aload_n 0, 1) := by decide +kernel
theorem dX5_walls_43 : decode cX5_walls 43 = .ok (.getfield 31, 3) := by decide +kernel
theorem dX5_walls_46 : decode cX5_walls 46 = .ok (.aload_n 0, 1) := by decide +kernel
theorem dX5_walls_47 : decode cX5_walls 47 = .ok (.getfield 18, 3) := by decide +kernel
theorem dX5_walls_50 : decode cX5_walls 50 = .ok (.iload_n 2, 1) := by decide +kernel
theorem dX5_walls_51 : decode cX5_walls 51 = .ok (.invokevirtual 209, 3) := by decide +kernel
theorem dX5_walls_54 : decode cX5_walls 54 = .ok (.ior, 1) := by decide +kernel
theorem dX5_walls_55 : decode cX5_walls 55 = .ok (.istore_n 1, 1) := by decide +kernel
theorem dX5_walls_56 : decode cX5_walls 56 = .ok (.iinc 2 1, 3) := by decide +kernel
theorem dX5_walls_59 : decode cX5_walls 59 = .ok (.goto (-31), 3) := by decide +kernel
theorem dX5_walls_62 : decode cX5_walls 62 = .ok (.iload_n 1, 1) := by decide +kernel
theorem dX5_walls_63 : decode cX5_walls 63 = .ok (.ireturn, 1) := by decide +kernel
set_option maxRecDepth 20000 in
theorem ggX5_odds_X3_hasHouse : GoodIn wsX5_odds wsX3_hasHouse := goodIn_r _ [9, 10, 57, 58, 59, 60, 61, 62, 63, 64, 65, 66] (by decide +kernel) (by decide +kernel)
set_option maxRecDepth 20000 in
theorem gX5_odds_X3_hasHouse : GoodIn wsX5_odds (wsV RX5 92 RX3 yX3_hasHouse wsX3_hasHouse) := goodIn_app (goodIn_of _ (by decide +kernel)) ggX5_odds_X3_hasHouse
set_option maxRecDepth 20000 in
theorem ggX5_odds_X3_sound : GoodIn wsX5_odds wsX3_sound := goodIn_r _ [14, 15, 16, 17, 18, 8, 19, 20, 57, 58, 59, 60, 61, 62, 63, 64, 65, 66] (by decide +kernel) (by decide +kernel)
set_option maxRecDepth 20000 in
theorem gX5_odds_X3_sound : GoodIn wsX5_odds (wsV RX5 116 RX3 yX3_sound wsX3_sound) := goodIn_app (goodIn_of _ (by decide +kernel)) ggX5_odds_X3_sound
set_option maxRecDepth 20000 in
theorem ggX5_odds_X3_wakes : GoodIn wsX5_odds wsX3_wakes := goodIn_r _ [24, 25, 26, 27, 8, 28, 29, 30, 31, 32, 33, 34, 35, 36, 37, 38, 39, 40, 41, 42, 57, 58, 59, 60, 61, 62, 63, 64, 65, 66] (by decide +kernel) (by decide +kernel)
set_option maxRecDepth 20000 in
theorem gX5_odds_X3_wakes : GoodIn wsX5_odds (wsV RX5 197 RX3 yX3_wakes wsX3_wakes) := goodIn_app (goodIn_of _ (by decide +kernel)) ggX5_odds_X3_wakes
set_option maxRecDepth 20000 in
theorem ggX5_odds_X5_commonDivisor : GoodIn wsX5_odds wsX5_commonDivisor := goodIn_r _ [46] (by decide +kernel) (by decide +kernel)
set_option maxRecDepth 20000 in
theorem gX5_odds_X5_commonDivisor : GoodIn wsX5_odds (va_wsS RX5 213 yX5_commonDivisor wsX5_commonDivisor) := goodIn_app (goodIn_of _ (by decide +kernel)) ggX5_odds_X5_commonDivisor
theorem dX5_odds_0 : decode cX5_odds 0 = .ok (.aload_n 0, 1) := by decide +kernel
theorem dX5_odds_1 : decode cX5_odds 1 = .ok (.getfield 12, 3) := by decide +kernel
theorem dX5_odds_4 : decode cX5_odds 4 = .ok (.iload_n 1, 1) := by decide +kernel
theorem dX5_odds_5 : decode cX5_odds 5 = .ok (.invokevirtual 92, 3) := by decide +kernel
theorem dX5_odds_8 : decode cX5_odds 8 = .ok (.ifCond .eq 12, 3) := by decide +kernel
theorem dX5_odds_11 : decode cX5_odds 11 = .ok (.iload_n 2, 1) := by decide +kernel
theorem dX5_odds_12 : decode cX5_odds 12 = .ok (.ifCond .lt 8, 3) := by decide +kernel
theorem dX5_odds_15 : decode cX5_odds 15 = .ok (.iload_n 2, 1) := by decide +kernel
theorem dX5_odds_16 : decode cX5_odds 16 = .ok (.iconst 1, 1) := by decide +kernel
theorem dX5_odds_17 : decode cX5_odds 17 = .ok (.if_icmp .le 7, 3) := by decide +kernel
theorem dX5_odds_20 : decode cX5_odds 20 = .ok (.ldc2_w 140, 3) := by decide +kernel
theorem dX5_odds_23 : decode cX5_odds 23 = .ok (.lreturn, 1) := by decide +kernel
theorem dX5_odds_24 : decode cX5_odds 24 = .ok (.iconst 0, 1) := by decide +kernel
theorem dX5_odds_25 : decode cX5_odds 25 = .ok (.istore_n 3, 1) := by decide +kernel
theorem dX5_odds_26 : decode cX5_odds 26 = .ok (.iconst 0, 1) := by decide +kernel
theorem dX5_odds_27 : decode cX5_odds 27 = .ok (.istore 4, 2) := by decide +kernel
theorem dX5_odds_29 : decode cX5_odds 29 = .ok (.iload 4, 2) := by decide +kernel
theorem dX5_odds_31 : decode cX5_odds 31 = .ok (.aload_n 0, 1) := by decide +kernel
theorem dX5_odds_32 : decode cX5_odds 32 = .ok (.getfield 12, 3) := by decide +kernel
theorem dX5_odds_35 : decode cX5_odds 35 = .ok (.getfield 89, 3) := by decide +kernel
theorem dX5_odds_38 : decode cX5_odds 38 = .ok (.if_icmp .ge 55, 3) := by decide +kernel
theorem dX5_odds_41 : decode cX5_odds 41 = .ok (.iconst 0, 1) := by decide +kernel
theorem dX5_odds_42 : decode cX5_odds 42 = .ok (.istore 5, 2) := by decide +kernel
theorem dX5_odds_44 : decode cX5_odds 44 = .ok (.iload 5, 2) := by decide +kernel
theorem dX5_odds_46 : decode cX5_odds 46 = .ok (.aload_n 0, 1) := by decide +kernel
theorem dX5_odds_47 : decode cX5_odds 47 = .ok (.getfield 12, 3) := by decide +kernel
theorem dX5_odds_50 : decode cX5_odds 50 = .ok (.getfield 184, 3) := by decide +kernel
theorem dX5_odds_53 : decode cX5_odds 53 = .ok (.if_icmp .ge 34, 3) := by decide +kernel
theorem dX5_odds_56 : decode cX5_odds 56 = .ok (.aload_n 0, 1) := by decide +kernel
theorem dX5_odds_57 : decode cX5_odds 57 = .ok (.getfield 12, 3) := by decide +kernel
theorem dX5_odds_60 : decode cX5_odds 60 = .ok (.iload_n 1, 1) := by decide +kernel
theorem dX5_odds_61 : decode cX5_odds 61 = .ok (.aload_n 0, 1) := by decide +kernel
theorem dX5_odds_62 : decode cX5_odds 62 = .ok (.getfield 12, 3) := by decide +kernel
theorem dX5_odds_65 : decode cX5_odds 65 = .ok (.iload 4, 2) := by decide +kernel
theorem dX5_odds_67 : decode cX5_odds 67 = .ok (.invokevirtual 116, 3) := by decide +kernel
theorem dX5_odds_70 : decode cX5_odds 70 = .ok (.iload 5, 2) := by decide +kernel
theorem dX5_odds_72 : decode cX5_odds 72 = .ok (.invokevirtual 197, 3) := by decide +kernel
theorem dX5_odds_75 : decode cX5_odds 75 = .ok (.ifCond .eq 6, 3) := by decide +kernel
theorem dX5_odds_78 : decode cX5_odds 78 = .ok (.iinc 3 1, 3) := by decide +kernel
theorem dX5_odds_81 : decode cX5_odds 81 = .ok (.iinc 5 1, 3) := by decide +kernel
theorem dX5_odds_84 : decode cX5_odds 84 = .ok (.goto (-40), 3) := by decide +kernel
theorem dX5_odds_87 : decode cX5_odds 87 = .ok (.iinc 4 1, 3) := by decide +kernel
theorem dX5_odds_90 : decode cX5_odds 90 = .ok (.goto (-61), 3) := by decide +kernel
theorem dX5_odds_93 : decode cX5_odds 93 = .ok (.aload_n 0, 1) := by decide +kernel
theorem dX5_odds_94 : decode cX5_odds 94 = .ok (.getfield 12, 3) := by decide +kernel
theorem dX5_odds_97 : decode cX5_odds 97 = .ok (.getfield 89, 3) := by decide +kernel
theorem dX5_odds_100 : decode cX5_odds 100 = .ok (.aload_n 0, 1) := by decide +kernel
theorem dX5_odds_101 : decode cX5_odds 101 = .ok (.getfield 12, 3) := by decide +kernel
theorem dX5_odds_104 : decode cX5_odds 104 = .ok (.getfield 184, 3) := by decide +kernel
theorem dX5_odds_107 : decode cX5_odds 107 = .ok (.imul, 1) := by decide +kernel
theorem dX5_odds_108 : decode cX5_odds 108 = .ok (.istore 4, 2) := by decide +kernel
theorem dX5_odds_110 : decode cX5_odds 110 = .ok (.iload_n 3, 1) := by decide +kernel
theorem dX5_odds_111 : decode cX5_odds 111 = .ok (.iload 4, 2) := by decide +kernel
theorem dX5_odds_113 : decode cX5_odds 113 = .ok (.invokestatic 213, 3) := by decide +kernel
theorem dX5_odds_116 : decode cX5_odds 116 = .ok (.istore 5, 2) := by decide +kernel
theorem dX5_odds_118 : decode cX5_odds 118 = .ok (.iload_n 2, 1) := by decide +kernel
theorem dX5_odds_119 : decode cX5_odds 119 = .ok (.ifCond .ne 11, 3) := by decide +kernel
theorem dX5_odds_122 : decode cX5_odds 122 = .ok (.iload_n 3, 1) := by decide +kernel
theorem dX5_odds_123 : decode cX5_odds 123 = .ok (.iload 5, 2) := by decide +kernel
theorem dX5_odds_125 : decode cX5_odds 125 = .ok (.idiv, 1) := by decide +kernel
theorem dX5_odds_126 : decode cX5_odds 126 = .ok (.i2l, 1) := by decide +kernel
theorem dX5_odds_127 : decode cX5_odds 127 = .ok (.goto 9, 3) := by decide +kernel
theorem dX5_odds_130 : decode cX5_odds 130 = .ok (.iload 4, 2) := by decide +kernel
theorem dX5_odds_132 : decode cX5_odds 132 = .ok (.iload 5, 2) := by decide +kernel
theorem dX5_odds_134 : decode cX5_odds 134 = .ok (.idiv, 1) := by decide +kernel
theorem dX5_odds_135 : decode cX5_odds 135 = .ok (.i2l, 1) := by decide +kernel
theorem dX5_odds_136 : decode cX5_odds 136 = .ok (.lreturn, 1) := by decide +kernel
set_option maxRecDepth 20000 in
theorem ggX5_sheet_X5_isSheet : GoodIn wsX5_sheet wsX5_isSheet := goodIn_r _ [6] (by decide +kernel) (by decide +kernel)
set_option maxRecDepth 20000 in
theorem gX5_sheet_X5_isSheet : GoodIn wsX5_sheet (va_wsS RX5 57 yX5_isSheet wsX5_isSheet) := goodIn_app (goodIn_of _ (by decide +kernel)) ggX5_sheet_X5_isSheet
set_option maxRecDepth 20000 in
theorem ggX5_sheet_X5_isLane : GoodIn wsX5_sheet wsX5_isLane := goodIn_r _ [9] (by decide +kernel) (by decide +kernel)
set_option maxRecDepth 20000 in
theorem gX5_sheet_X5_isLane : GoodIn wsX5_sheet (va_wsS RX5 61 yX5_isLane wsX5_isLane) := goodIn_app (goodIn_of _ (by decide +kernel)) ggX5_sheet_X5_isLane
set_option maxRecDepth 20000 in
theorem ggX5_sheet_X5_faulty : GoodIn wsX5_sheet wsX5_faulty := goodIn_r _ [13, 1, 27, 28, 29, 30, 31, 32, 33, 34, 35, 36] (by decide +kernel) (by decide +kernel)
set_option maxRecDepth 20000 in
theorem gX5_sheet_X5_faulty : GoodIn wsX5_sheet (wsV RX5 72 RX5 yX5_faulty wsX5_faulty) := goodIn_app (goodIn_of _ (by decide +kernel)) ggX5_sheet_X5_faulty
set_option maxRecDepth 20000 in
theorem ggX5_sheet_X2_renew : GoodIn wsX5_sheet wsX2_renew := goodIn_r _ [18, 19, 20, 21, 22, 23, 24, 25, 26, 37, 38, 39, 40] (by decide +kernel) (by decide +kernel)
set_option maxRecDepth 20000 in
theorem gX5_sheet_X2_renew : GoodIn wsX5_sheet (wsV RX5 216 RX2 yX2_renew wsX2_renew) := goodIn_app (goodIn_of _ (by decide +kernel)) ggX5_sheet_X2_renew
theorem dX5_sheet_0 : decode cX5_sheet 0 = .ok (.aload_n 0, 1) := by decide +kernel
theorem dX5_sheet_1 : decode cX5_sheet 1 = .ok (.iconst 0, 1) := by decide +kernel
theorem dX5_sheet_2 : decode cX5_sheet 2 = .ok (.putfield 53, 3) := by decide +kernel
theorem dX5_sheet_5 : decode cX5_sheet 5 = .ok (.iload_n 1, 1) := by decide +kernel
theorem dX5_sheet_6 : decode cX5_sheet 6 = .ok (.invokestatic 57, 3) := by decide +kernel
theorem dX5_sheet_9 : decode cX5_sheet 9 = .ok (.ifCond .ne 5, 3) := by decide +kernel
theorem dX5_sheet_12 : decode cX5_sheet 12 = .ok (.iconst (-1), 1) := by decide +kernel
theorem dX5_sheet_13 : decode cX5_sheet 13 = .ok (.ireturn, 1) := by decide +kernel
theorem dX5_sheet_14 : decode cX5_sheet 14 = .ok (.iload_n 2, 1) := by decide +kernel
theorem dX5_sheet_15 : decode cX5_sheet 15 = .ok (.invokestatic 61, 3) := by decide +kernel
theorem dX5_sheet_18 : decode cX5_sheet 18 = .ok (.ifCond .eq 9, 3) := by decide +kernel
theorem dX5_sheet_21 : decode cX5_sheet 21 = .ok (.iload_n 3, 1) := by decide +kernel
theorem dX5_sheet_22 : decode cX5_sheet 22 = .ok (.bipush 60, 2) := by decide +kernel
theorem dX5_sheet_24 : decode cX5_sheet 24 = .ok (.if_icmp .le 6, 3) := by decide +kernel
theorem dX5_sheet_27 : decode cX5_sheet 27 = .ok (.bipush (-2), 2) := by decide +kernel
theorem dX5_sheet_29 : decode cX5_sheet 29 = .ok (.ireturn, 1) := by decide +kernel
theorem dX5_sheet_30 : decode cX5_sheet 30 = .ok (.iload_n 3, 1) := by decide +kernel
theorem dX5_sheet_31 : decode cX5_sheet 31 = .ok (.ifCond .ge 9, 3) := by decide +kernel
theorem dX5_sheet_34 : decode cX5_sheet 34 = .ok (.aload_n 0, 1) := by decide +kernel
theorem dX5_sheet_35 : decode cX5_sheet 35 = .ok (.iconst 4, 1) := by decide +kernel
theorem dX5_sheet_36 : decode cX5_sheet 36 = .ok (.invokevirtual 72, 3) := by decide +kernel
theorem dX5_sheet_39 : decode cX5_sheet 39 = .ok (.ireturn, 1) := by decide +kernel
theorem dX5_sheet_40 : decode cX5_sheet 40 = .ok (.aload_n 0, 1) := by decide +kernel
theorem dX5_sheet_41 : decode cX5_sheet 41 = .ok (.getfield 45, 3) := by decide +kernel
theorem dX5_sheet_44 : decode cX5_sheet 44 = .ok (.iload_n 1, 1) := by decide +kernel
theorem dX5_sheet_45 : decode cX5_sheet 45 = .ok (.aaload, 1) := by decide +kernel
theorem dX5_sheet_46 : decode cX5_sheet 46 = .ok (.iload_n 2, 1) := by decide +kernel
theorem dX5_sheet_47 : decode cX5_sheet 47 = .ok (.iload_n 3, 1) := by decide +kernel
theorem dX5_sheet_48 : decode cX5_sheet 48 = .ok (.invokevirtual 216, 3) := by decide +kernel
theorem dX5_sheet_51 : decode cX5_sheet 51 = .ok (.iconst 1, 1) := by decide +kernel
theorem dX5_sheet_52 : decode cX5_sheet 52 = .ok (.ireturn, 1) := by decide +kernel
set_option maxRecDepth 20000 in
theorem ggX5_lose_X5_isSheet : GoodIn wsX5_lose wsX5_isSheet := goodIn_r _ [6] (by decide +kernel) (by decide +kernel)
set_option maxRecDepth 20000 in
theorem gX5_lose_X5_isSheet : GoodIn wsX5_lose (va_wsS RX5 57 yX5_isSheet wsX5_isSheet) := goodIn_app (goodIn_of _ (by decide +kernel)) ggX5_lose_X5_isSheet
theorem dX5_lose_0 : decode cX5_lose 0 = .ok (.iload_n 1, 1) := by decide +kernel
theorem dX5_lose_1 : decode cX5_lose 1 = .ok (.invokestatic 57, 3) := by decide +kernel
theorem dX5_lose_4 : decode cX5_lose 4 = .ok (.ifCond .ne 5, 3) := by decide +kernel
theorem dX5_lose_7 : decode cX5_lose 7 = .ok (.iconst (-1), 1) := by decide +kernel
theorem dX5_lose_8 : decode cX5_lose 8 = .ok (.ireturn, 1) := by decide +kernel
theorem dX5_lose_9 : decode cX5_lose 9 = .ok (.aload_n 0, 1) := by decide +kernel
theorem dX5_lose_10 : decode cX5_lose 10 = .ok (.getfield 45, 3) := by decide +kernel
theorem dX5_lose_13 : decode cX5_lose 13 = .ok (.iload_n 1, 1) := by decide +kernel
theorem dX5_lose_14 : decode cX5_lose 14 = .ok (.aaload, 1) := by decide +kernel
theorem dX5_lose_15 : decode cX5_lose 15 = .ok (.getfield 220, 3) := by decide +kernel
theorem dX5_lose_18 : decode cX5_lose 18 = .ok (.ifCond .eq 7, 3) := by decide +kernel
theorem dX5_lose_21 : decode cX5_lose 21 = .ok (.iconst 1, 1) := by decide +kernel
theorem dX5_lose_22 : decode cX5_lose 22 = .ok (.goto 4, 3) := by decide +kernel
theorem dX5_lose_25 : decode cX5_lose 25 = .ok (.iconst 0, 1) := by decide +kernel
theorem dX5_lose_26 : decode cX5_lose 26 = .ok (.istore_n 2, 1) := by decide +kernel
theorem dX5_lose_27 : decode cX5_lose 27 = .ok (.aload_n 0, 1) := by decide +kernel
theorem dX5_lose_28 : decode cX5_lose 28 = .ok (.getfield 45, 3) := by decide +kernel
theorem dX5_lose_31 : decode cX5_lose 31 = .ok (.iload_n 1, 1) := by decide +kernel
theorem dX5_lose_32 : decode cX5_lose 32 = .ok (.aaload, 1) := by decide +kernel
theorem dX5_lose_33 : decode cX5_lose 33 = .ok (.iconst 0, 1) := by decide +kernel
theorem dX5_lose_34 : decode cX5_lose 34 = .ok (.putfield 220, 3) := by decide +kernel
theorem dX5_lose_37 : decode cX5_lose 37 = .ok (.iload_n 2, 1) := by decide +kernel
theorem dX5_lose_38 : decode cX5_lose 38 = .ok (.ireturn, 1) := by decide +kernel
set_option maxRecDepth 20000 in
theorem ggX5_put_X5_isSheet : GoodIn wsX5_put wsX5_isSheet := goodIn_r _ [8] (by decide +kernel) (by decide +kernel)
set_option maxRecDepth 20000 in
theorem gX5_put_X5_isSheet : GoodIn wsX5_put (va_wsS RX5 57 yX5_isSheet wsX5_isSheet) := goodIn_app (goodIn_of _ (by decide +kernel)) ggX5_put_X5_isSheet
set_option maxRecDepth 20000 in
theorem ggX5_put_X5_faulty : GoodIn wsX5_put wsX5_faulty := goodIn_r _ [12, 1, 24, 25, 26, 27, 28, 29, 30, 31, 32, 33] (by decide +kernel) (by decide +kernel)
set_option maxRecDepth 20000 in
theorem gX5_put_X5_faulty : GoodIn wsX5_put (wsV RX5 72 RX5 yX5_faulty wsX5_faulty) := goodIn_app (goodIn_of _ (by decide +kernel)) ggX5_put_X5_faulty
set_option maxRecDepth 20000 in
theorem ggX5_put_X2_lacks : GoodIn wsX5_put wsX2_lacks := goodIn_r _ [17, 18, 34, 35, 36, 37] (by decide +kernel) (by decide +kernel)
set_option maxRecDepth 20000 in
theorem gX5_put_X2_lacks : GoodIn wsX5_put (wsV RX5 68 RX2 yX2_lacks wsX2_lacks) := goodIn_app (goodIn_of _ (by decide +kernel)) ggX5_put_X2_lacks
set_option maxRecDepth 20000 in
theorem ggX5_put_X2_cut : GoodIn wsX5_put wsX2_cut := goodIn_r _ [22, 23, 34, 35, 36, 37] (by decide +kernel) (by decide +kernel)
set_option maxRecDepth 20000 in
theorem gX5_put_X2_cut : GoodIn wsX5_put (wsV RX5 227 RX2 yX2_cut wsX2_cut) := goodIn_app (goodIn_of _ (by decide +kernel)) ggX5_put_X2_cut
theorem dX5_put_0 : decode cX5_put 0 = .ok (.aload_n 0, 1) := by decide +kernel
theorem dX5_put_1 : decode cX5_put 1 = .ok (.iconst 0, 1) := by decide +kernel
theorem dX5_put_2 : decode cX5_put 2 = .ok (.putfield 53, 3) := by decide +kernel
theorem dX5_put_5 : decode cX5_put 5 = .ok (.iload_n 1, 1) := by decide +kernel
theorem dX5_put_6 : decode cX5_put 6 = .ok (.invokestatic 57, 3) := by decide +kernel
theorem dX5_put_9 : decode cX5_put 9 = .ok (.ifCond .ne 5, 3) := by decide +kernel
theorem dX5_put_12 : decode cX5_put 12 = .ok (.iconst (-1), 1) := by decide +kernel
theorem dX5_put_13 : decode cX5_put 13 = .ok (.ireturn, 1) := by decide +kernel
theorem dX5_put_14 : decode cX5_put 14 = .ok (.aload_n 0, 1) := by decide +kernel
theorem dX5_put_15 : decode cX5_put 15 = .ok (.getfield 45, 3) := by decide +kernel
theorem dX5_put_18 : decode cX5_put 18 = .ok (.iload_n 1, 1) := by decide +kernel
theorem dX5_put_19 : decode cX5_put 19 = .ok (.aaload, 1) := by decide +kernel
theorem dX5_put_20 : decode cX5_put 20 = .ok (.astore 4, 2) := by decide +kernel
theorem dX5_put_22 : decode cX5_put 22 = .ok (.aload 4, 2) := by decide +kernel
theorem dX5_put_24 : decode cX5_put 24 = .ok (.getfield 220, 3) := by decide +kernel
theorem dX5_put_27 : decode cX5_put 27 = .ok (.ifCond .ne 9, 3) := by decide +kernel
theorem dX5_put_30 : decode cX5_put 30 = .ok (.aload_n 0, 1) := by decide +kernel
theorem dX5_put_31 : decode cX5_put 31 = .ok (.iconst 1, 1) := by decide +kernel
theorem dX5_put_32 : decode cX5_put 32 = .ok (.invokevirtual 72, 3) := by decide +kernel
theorem dX5_put_35 : decode cX5_put 35 = .ok (.ireturn, 1) := by decide +kernel
theorem dX5_put_36 : decode cX5_put 36 = .ok (.aload 4, 2) := by decide +kernel
theorem dX5_put_38 : decode cX5_put 38 = .ok (.iload_n 2, 1) := by decide +kernel
theorem dX5_put_39 : decode cX5_put 39 = .ok (.iconst 1, 1) := by decide +kernel
theorem dX5_put_40 : decode cX5_put 40 = .ok (.invokevirtual 68, 3) := by decide +kernel
theorem dX5_put_43 : decode cX5_put 43 = .ok (.ifCond .eq 9, 3) := by decide +kernel
theorem dX5_put_46 : decode cX5_put 46 = .ok (.aload_n 0, 1) := by decide +kernel
theorem dX5_put_47 : decode cX5_put 47 = .ok (.iconst 3, 1) := by decide +kernel
theorem dX5_put_48 : decode cX5_put 48 = .ok (.invokevirtual 72, 3) := by decide +kernel
theorem dX5_put_51 : decode cX5_put 51 = .ok (.ireturn, 1) := by decide +kernel
theorem dX5_put_52 : decode cX5_put 52 = .ok (.aload 4, 2) := by decide +kernel
theorem dX5_put_54 : decode cX5_put 54 = .ok (.getfield 224, 3) := by decide +kernel
theorem dX5_put_57 : decode cX5_put 57 = .ok (.iload_n 2, 1) := by decide +kernel
theorem dX5_put_58 : decode cX5_put 58 = .ok (.aload 4, 2) := by decide +kernel
theorem dX5_put_60 : decode cX5_put 60 = .ok (.iload_n 3, 1) := by decide +kernel
theorem dX5_put_61 : decode cX5_put 61 = .ok (.invokevirtual 227, 3) := by decide +kernel
theorem dX5_put_64 : decode cX5_put 64 = .ok (.iastore, 1) := by decide +kernel
theorem dX5_put_65 : decode cX5_put 65 = .ok (.iconst 1, 1) := by decide +kernel
theorem dX5_put_66 : decode cX5_put 66 = .ok (.ireturn, 1) := by decide +kernel
set_option maxRecDepth 20000 in
theorem ggX5_cell_X5_isSheet : GoodIn wsX5_cell wsX5_isSheet := goodIn_r _ [8] (by decide +kernel) (by decide +kernel)
set_option maxRecDepth 20000 in
theorem gX5_cell_X5_isSheet : GoodIn wsX5_cell (va_wsS RX5 57 yX5_isSheet wsX5_isSheet) := goodIn_app (goodIn_of _ (by decide +kernel)) ggX5_cell_X5_isSheet
set_option maxRecDepth 20000 in
theorem ggX5_cell_X5_isLane : GoodIn wsX5_cell wsX5_isLane := goodIn_r _ [11] (by decide +kernel) (by decide +kernel)
set_option maxRecDepth 20000 in
theorem gX5_cell_X5_isLane : GoodIn wsX5_cell (va_wsS RX5 61 yX5_isLane wsX5_isLane) := goodIn_app (goodIn_of _ (by decide +kernel)) ggX5_cell_X5_isLane
set_option maxRecDepth 20000 in
theorem ggX5_cell_X2_faultAs : GoodIn wsX5_cell wsX2_faultAs := goodIn_r _ [16, 17, 18, 34, 35, 36, 37] (by decide +kernel) (by decide +kernel)
set_option maxRecDepth 20000 in
theorem gX5_cell_X2_faultAs : GoodIn wsX5_cell (wsV RX5 64 RX2 yX2_faultAs wsX2_faultAs) := goodIn_app (goodIn_of _ (by decide +kernel)) ggX5_cell_X2_faultAs
set_option maxRecDepth 20000 in
theorem ggX5_cell_X2_lacks : GoodIn wsX5_cell wsX2_lacks := goodIn_r _ [22, 23, 34, 35, 36, 37] (by decide +kernel) (by decide +kernel)
set_option maxRecDepth 20000 in
theorem gX5_cell_X2_lacks : GoodIn wsX5_cell (wsV RX5 68 RX2 yX2_lacks wsX2_lacks) := goodIn_app (goodIn_of _ (by decide +kernel)) ggX5_cell_X2_lacks
theorem dX5_cell_0 : decode cX5_cell 0 = .ok (.aload_n 0, 1) := by decide +kernel
theorem dX5_cell_1 : decode cX5_cell 1 = .ok (.iconst 0, 1) := by decide +kernel
theorem dX5_cell_2 : decode cX5_cell 2 = .ok (.putfield 53, 3) := by decide +kernel
theorem dX5_cell_5 : decode cX5_cell 5 = .ok (.iload_n 1, 1) := by decide +kernel
theorem dX5_cell_6 : decode cX5_cell 6 = .ok (.invokestatic 57, 3) := by decide +kernel
theorem dX5_cell_9 : decode cX5_cell 9 = .ok (.ifCond .eq 10, 3) := by decide +kernel
theorem dX5_cell_12 : decode cX5_cell 12 = .ok (.iload_n 3, 1) := by decide +kernel
theorem dX5_cell_13 : decode cX5_cell 13 = .ok (.invokestatic 61, 3) := by decide +kernel
theorem dX5_cell_16 : decode cX5_cell 16 = .ok (.ifCond .ne 7, 3) := by decide +kernel
theorem dX5_cell_19 : decode cX5_cell 19 = .ok (.ldc2_w 140, 3) := by decide +kernel
theorem dX5_cell_22 : decode cX5_cell 22 = .ok (.lreturn, 1) := by decide +kernel
theorem dX5_cell_23 : decode cX5_cell 23 = .ok (.aload_n 0, 1) := by decide +kernel
theorem dX5_cell_24 : decode cX5_cell 24 = .ok (.getfield 45, 3) := by decide +kernel
theorem dX5_cell_27 : decode cX5_cell 27 = .ok (.iload_n 1, 1) := by decide +kernel
theorem dX5_cell_28 : decode cX5_cell 28 = .ok (.aaload, 1) := by decide +kernel
theorem dX5_cell_29 : decode cX5_cell 29 = .ok (.astore 4, 2) := by decide +kernel
theorem dX5_cell_31 : decode cX5_cell 31 = .ok (.aload_n 0, 1) := by decide +kernel
theorem dX5_cell_32 : decode cX5_cell 32 = .ok (.aload 4, 2) := by decide +kernel
theorem dX5_cell_34 : decode cX5_cell 34 = .ok (.iload_n 3, 1) := by decide +kernel
theorem dX5_cell_35 : decode cX5_cell 35 = .ok (.invokevirtual 64, 3) := by decide +kernel
theorem dX5_cell_38 : decode cX5_cell 38 = .ok (.putfield 53, 3) := by decide +kernel
theorem dX5_cell_41 : decode cX5_cell 41 = .ok (.aload_n 0, 1) := by decide +kernel
theorem dX5_cell_42 : decode cX5_cell 42 = .ok (.getfield 53, 3) := by decide +kernel
theorem dX5_cell_45 : decode cX5_cell 45 = .ok (.ifCond .ne 18, 3) := by decide +kernel
theorem dX5_cell_48 : decode cX5_cell 48 = .ok (.aload 4, 2) := by decide +kernel
theorem dX5_cell_50 : decode cX5_cell 50 = .ok (.iload_n 2, 1) := by decide +kernel
theorem dX5_cell_51 : decode cX5_cell 51 = .ok (.iconst 1, 1) := by decide +kernel
theorem dX5_cell_52 : decode cX5_cell 52 = .ok (.invokevirtual 68, 3) := by decide +kernel
theorem dX5_cell_55 : decode cX5_cell 55 = .ok (.ifCond .eq 8, 3) := by decide +kernel
theorem dX5_cell_58 : decode cX5_cell 58 = .ok (.aload_n 0, 1) := by decide +kernel
theorem dX5_cell_59 : decode cX5_cell 59 = .ok (.iconst 3, 1) := by decide +kernel
theorem dX5_cell_60 : decode cX5_cell 60 = .ok (.putfield 53, 3) := by decide +kernel
theorem dX5_cell_63 : decode cX5_cell 63 = .ok (.aload_n 0, 1) := by decide +kernel
theorem dX5_cell_64 : decode cX5_cell 64 = .ok (.getfield 53, 3) := by decide +kernel
theorem dX5_cell_67 : decode cX5_cell 67 = .ok (.ifCond .ne 14, 3) := by decide +kernel
theorem dX5_cell_70 : decode cX5_cell 70 = .ok (.aload 4, 2) := by decide +kernel
theorem dX5_cell_72 : decode cX5_cell 72 = .ok (.getfield 224, 3) := by decide +kernel
theorem dX5_cell_75 : decode cX5_cell 75 = .ok (.iload_n 2, 1) := by decide +kernel
theorem dX5_cell_76 : decode cX5_cell 76 = .ok (.iaload, 1) := by decide +kernel
theorem dX5_cell_77 : decode cX5_cell 77 = .ok (.i2l, 1) := by decide +kernel
theorem dX5_cell_78 : decode cX5_cell 78 = .ok (.goto 6, 3) := by decide +kernel
theorem dX5_cell_81 : decode cX5_cell 81 = .ok (.ldc2_w 140, 3) := by decide +kernel
theorem dX5_cell_84 : decode cX5_cell 84 = .ok (.lreturn, 1) := by decide +kernel
set_option maxRecDepth 20000 in
theorem ggX5_copy_X5_isSheet : GoodIn wsX5_copy wsX5_isSheet := goodIn_r _ [13] (by decide +kernel) (by decide +kernel)
set_option maxRecDepth 20000 in
theorem gX5_copy_X5_isSheet : GoodIn wsX5_copy (va_wsS RX5 57 yX5_isSheet wsX5_isSheet) := goodIn_app (goodIn_of _ (by decide +kernel)) ggX5_copy_X5_isSheet
set_option maxRecDepth 20000 in
theorem ggX5_copy_X5_faulty : GoodIn wsX5_copy wsX5_faulty := goodIn_r _ [17, 1, 24, 25, 26, 27, 28, 29, 30, 31, 32, 33] (by decide +kernel) (by decide +kernel)
set_option maxRecDepth 20000 in
theorem gX5_copy_X5_faulty : GoodIn wsX5_copy (wsV RX5 72 RX5 yX5_faulty wsX5_faulty) := goodIn_app (goodIn_of _ (by decide +kernel)) ggX5_copy_X5_faulty
set_option maxRecDepth 20000 in
theorem ggX5_copy_X2_lacks : GoodIn wsX5_copy wsX2_lacks := goodIn_r _ [22, 23, 34, 35, 36, 37] (by decide +kernel) (by decide +kernel)
set_option maxRecDepth 20000 in
theorem gX5_copy_X2_lacks : GoodIn wsX5_copy (wsV RX5 68 RX2 yX2_lacks wsX2_lacks) := goodIn_app (goodIn_of _ (by decide +kernel)) ggX5_copy_X2_lacks
theorem dX5_copy_0 : decode cX5_copy 0 = .ok (.aload_n 0, 1) := by decide +kernel
theorem dX5_copy_1 : decode cX5_copy 1 = .ok (.iconst 0, 1) := by decide +kernel
theorem dX5_copy_2 : decode cX5_copy 2 = .ok (.putfield 53, 3) := by decide +kernel
theorem dX5_copy_5 : decode cX5_copy 5 = .ok (.iload_n 1, 1) := by decide +kernel
theorem dX5_copy_6 : decode cX5_copy 6 = .ok (.invokestatic 57, 3) := by decide +kernel
theorem dX5_copy_9 : decode cX5_copy 9 = .ok (.ifCond .eq 10, 3) := by decide +kernel
theorem dX5_copy_12 : decode cX5_copy 12 = .ok (.iload_n 3, 1) := by decide +kernel
theorem dX5_copy_13 : decode cX5_copy 13 = .ok (.invokestatic 57, 3) := by decide +kernel
theorem dX5_copy_16 : decode cX5_copy 16 = .ok (.ifCond .ne 5, 3) := by decide +kernel
theorem dX5_copy_19 : decode cX5_copy 19 = .ok (.iconst (-1), 1) := by decide +kernel
theorem dX5_copy_20 : decode cX5_copy 20 = .ok (.ireturn, 1) := by decide +kernel
theorem dX5_copy_21 : decode cX5_copy 21 = .ok (.aload_n 0, 1) := by decide +kernel
theorem dX5_copy_22 : decode cX5_copy 22 = .ok (.getfield 45, 3) := by decide +kernel
theorem dX5_copy_25 : decode cX5_copy 25 = .ok (.iload_n 1, 1) := by decide +kernel
theorem dX5_copy_26 : decode cX5_copy 26 = .ok (.aaload, 1) := by decide +kernel
theorem dX5_copy_27 : decode cX5_copy 27 = .ok (.astore 6, 2) := by decide +kernel
theorem dX5_copy_29 : decode cX5_copy 29 = .ok (.aload_n 0, 1) := by decide +kernel
theorem dX5_copy_30 : decode cX5_copy 30 = .ok (.getfield 45, 3) := by decide +kernel
theorem dX5_copy_33 : decode cX5_copy 33 = .ok (.iload_n 3, 1) := by decide +kernel
theorem dX5_copy_34 : decode cX5_copy 34 = .ok (.aaload, 1) := by decide +kernel
theorem dX5_copy_35 : decode cX5_copy 35 = .ok (.astore 7, 2) := by decide +kernel
theorem dX5_copy_37 : decode cX5_copy 37 = .ok (.aload 6, 2) := by decide +kernel
theorem dX5_copy_39 : decode cX5_copy 39 = .ok (.getfield 220, 3) := by decide +kernel
theorem dX5_copy_42 : decode cX5_copy 42 = .ok (.ifCond .eq 11, 3) := by decide +kernel
theorem dX5_copy_45 : decode cX5_copy 45 = .ok (.aload 7, 2) := by decide +kernel
theorem dX5_copy_47 : decode cX5_copy 47 = .ok (.getfield 220, 3) := by decide +kernel
theorem dX5_copy_50 : decode cX5_copy 50 = .ok (.ifCond .ne 9, 3) := by decide +kernel
theorem dX5_copy_53 : decode cX5_copy 53 = .ok (.aload_n 0, 1) := by decide +kernel
theorem dX5_copy_54 : decode cX5_copy 54 = .ok (.iconst 1, 1) := by decide +kernel
theorem dX5_copy_55 : decode cX5_copy 55 = .ok (.invokevirtual 72, 3) := by decide +kernel
theorem dX5_copy_58 : decode cX5_copy 58 = .ok (.ireturn, 1) := by decide +kernel
theorem dX5_copy_59 : decode cX5_copy 59 = .ok (.aload 6, 2) := by decide +kernel
theorem dX5_copy_61 : decode cX5_copy 61 = .ok (.getfield 230, 3) := by decide +kernel
theorem dX5_copy_64 : decode cX5_copy 64 = .ok (.aload 7, 2) := by decide +kernel
theorem dX5_copy_66 : decode cX5_copy 66 = .ok (.getfield 230, 3) := by decide +kernel
theorem dX5_copy_69 : decode cX5_copy 69 = .ok (.if_icmp .eq 9, 3) := by decide +kernel
theorem dX5_copy_72 : decode cX5_copy 72 = .ok (.aload_n 0, 1) := by decide +kernel
theorem dX5_copy_73 : decode cX5_copy 73 = .ok (.iconst 2, 1) := by decide +kernel
theorem dX5_copy_74 : decode cX5_copy 74 = .ok (.invokevirtual 72, 3) := by decide +kernel
theorem dX5_copy_77 : decode cX5_copy 77 = .ok (.ireturn, 1) := by decide +kernel
theorem dX5_copy_78 : decode cX5_copy 78 = .ok (.aload 6, 2) := by decide +kernel
theorem dX5_copy_80 : decode cX5_copy 80 = .ok (.iload_n 2, 1) := by decide +kernel
theorem dX5_copy_81 : decode cX5_copy 81 = .ok (.iload 5, 2) := by decide +kernel
theorem dX5_copy_83 : decode cX5_copy 83 = .ok (.invokevirtual 68, 3) := by decide +kernel
theorem dX5_copy_86 : decode cX5_copy 86 = .ok (.ifCond .ne 15, 3) := by decide +kernel
theorem dX5_copy_89 : decode cX5_copy 89 = .ok (.aload 7, 2) := by decide +kernel
theorem dX5_copy_91 : decode cX5_copy 91 = .ok (.iload 4, 2) := by decide +kernel
theorem dX5_copy_93 : decode cX5_copy 93 = .ok (.iload 5, 2) := by decide +kernel
theorem dX5_copy_95 : decode cX5_copy 95 = .ok (.invokevirtual 68, 3) := by decide +kernel
theorem dX5_copy_98 : decode cX5_copy 98 = .ok (.ifCond .eq 9, 3) := by decide +kernel
theorem dX5_copy_101 : decode cX5_copy 101 = .ok (.aload_n 0, 1) := by decide +kernel
theorem dX5_copy_102 : decode cX5_copy 102 = .ok (.iconst 3, 1) := by decide +kernel
theorem dX5_copy_103 : decode cX5_copy 103 = .ok (.invokevirtual 72, 3) := by decide +kernel
theorem dX5_copy_106 : decode cX5_copy 106 = .ok (.ireturn, 1) := by decide +kernel
theorem dX5_copy_107 : decode cX5_copy 107 = .ok (.aload 6, 2) := by decide +kernel
theorem dX5_copy_109 : decode cX5_copy 109 = .ok (.getfield 224, 3) := by decide +kernel
theorem dX5_copy_112 : decode cX5_copy 112 = .ok (.iload_n 2, 1) := by decide +kernel
theorem dX5_copy_113 : decode cX5_copy 113 = .ok (.aload 7, 2) := by decide +kernel
theorem dX5_copy_115 : decode cX5_copy 115 = .ok (.getfield 224, 3) := by decide +kernel
theorem dX5_copy_118 : decode cX5_copy 118 = .ok (.iload 4, 2) := by decide +kernel
theorem dX5_copy_120 : decode cX5_copy 120 = .ok (.iload 5, 2) := by decide +kernel
theorem dX5_copy_122 : decode cX5_copy 122 = .ok (.invokestatic 233, 3) := by decide +kernel
theorem dX5_copy_125 : decode cX5_copy 125 = .ok (.iload 5, 2) := by decide +kernel
theorem dX5_copy_127 : decode cX5_copy 127 = .ok (.ireturn, 1) := by decide +kernel
set_option maxRecDepth 20000 in
theorem ggX5_tell_X3_hasHouse : GoodIn wsX5_tell wsX3_hasHouse := goodIn_r _ [7, 8, 38, 39, 40, 41, 42, 43, 44, 45, 46, 47] (by decide +kernel) (by decide +kernel)
set_option maxRecDepth 20000 in
theorem gX5_tell_X3_hasHouse : GoodIn wsX5_tell (wsV RX5 92 RX3 yX3_hasHouse wsX3_hasHouse) := goodIn_app (goodIn_of _ (by decide +kernel)) ggX5_tell_X3_hasHouse
set_option maxRecDepth 20000 in
theorem ggX5_tell_X5_nervousTells : GoodIn wsX5_tell wsX5_nervousTells := goodIn_r _ [13, 14, 15, 16, 12, 17, 18, 19, 20, 21, 22, 1, 23, 28, 29, 30, 31, 32, 33, 34, 35, 36, 37, 38, 39, 40, 41, 42, 43, 44, 45, 46, 47] (by decide +kernel) (by decide +kernel)
set_option maxRecDepth 20000 in
theorem gX5_tell_X5_nervousTells : GoodIn wsX5_tell (wsV RX5 239 RX5 yX5_nervousTells wsX5_nervousTells) := goodIn_app (goodIn_of _ (by decide +kernel)) ggX5_tell_X5_nervousTells
set_option maxRecDepth 20000 in
theorem ggX5_tell_X5_babyTells : GoodIn wsX5_tell wsX5_babyTells := goodIn_r _ [27, 14, 15, 16, 12, 17, 18, 9, 10, 11, 13, 19, 20, 21, 22, 1, 23, 28, 29, 30, 31, 32, 33, 34, 35, 36, 37, 38, 39, 40, 41, 42, 43, 44, 45, 46, 47] (by decide +kernel) (by decide +kernel)
set_option maxRecDepth 20000 in
theorem gX5_tell_X5_babyTells : GoodIn wsX5_tell (wsV RX5 242 RX5 yX5_babyTells wsX5_babyTells) := goodIn_app (goodIn_of _ (by decide +kernel)) ggX5_tell_X5_babyTells
set_option maxRecDepth 20000 in
theorem ggX5_tell_X5_sleeperTells : GoodIn wsX5_tell wsX5_sleeperTells := goodIn_r _ [22, 1, 23, 14, 15, 16, 12, 17, 18, 28, 29, 30, 31, 32, 33, 34, 35, 36, 37, 38, 39, 40, 41, 42, 43, 44, 45, 46, 47] (by decide +kernel) (by decide +kernel)
set_option maxRecDepth 20000 in
theorem gX5_tell_X5_sleeperTells : GoodIn wsX5_tell (wsV RX5 245 RX5 yX5_sleeperTells wsX5_sleeperTells) := goodIn_app (goodIn_of _ (by decide +kernel)) ggX5_tell_X5_sleeperTells
theorem dX5_tell_0 : decode cX5_tell 0 = .ok (.aload_n 0, 1) := by decide +kernel
theorem dX5_tell_1 : decode cX5_tell 1 = .ok (.getfield 12, 3) := by decide +kernel
theorem dX5_tell_4 : decode cX5_tell 4 = .ok (.iload_n 1, 1) := by decide +kernel
theorem dX5_tell_5 : decode cX5_tell 5 = .ok (.invokevirtual 92, 3) := by decide +kernel
theorem dX5_tell_8 : decode cX5_tell 8 = .ok (.ifCond .ne 5, 3) := by decide +kernel
theorem dX5_tell_11 : decode cX5_tell 11 = .ok (.iconst (-1), 1) := by decide +kernel
theorem dX5_tell_12 : decode cX5_tell 12 = .ok (.ireturn, 1) := by decide +kernel
theorem dX5_tell_13 : decode cX5_tell 13 = .ok (.aload_n 0, 1) := by decide +kernel
theorem dX5_tell_14 : decode cX5_tell 14 = .ok (.getfield 12, 3) := by decide +kernel
theorem dX5_tell_17 : decode cX5_tell 17 = .ok (.getfield 95, 3) := by decide +kernel
theorem dX5_tell_20 : decode cX5_tell 20 = .ok (.iload_n 1, 1) := by decide +kernel
theorem dX5_tell_21 : decode cX5_tell 21 = .ok (.iaload, 1) := by decide +kernel
theorem dX5_tell_22 : decode cX5_tell 22 = .ok (.lookupswitch 38 #[(1, 26), (2, 32)], 26) := by decide +kernel
theorem dX5_tell_48 : decode cX5_tell 48 = .ok (.aload_n 0, 1) := by decide +kernel
theorem dX5_tell_49 : decode cX5_tell 49 = .ok (.iload_n 1, 1) := by decide +kernel
theorem dX5_tell_50 : decode cX5_tell 50 = .ok (.invokevirtual 239, 3) := by decide +kernel
theorem dX5_tell_53 : decode cX5_tell 53 = .ok (.ireturn, 1) := by decide +kernel
theorem dX5_tell_54 : decode cX5_tell 54 = .ok (.aload_n 0, 1) := by decide +kernel
theorem dX5_tell_55 : decode cX5_tell 55 = .ok (.iload_n 1, 1) := by decide +kernel
theorem dX5_tell_56 : decode cX5_tell 56 = .ok (.invokevirtual 242, 3) := by decide +kernel
theorem dX5_tell_59 : decode cX5_tell 59 = .ok (.ireturn, 1) := by decide +kernel
theorem dX5_tell_60 : decode cX5_tell 60 = .ok (.aload_n 0, 1) := by decide +kernel
theorem dX5_tell_61 : decode cX5_tell 61 = .ok (.iload_n 1, 1) := by decide +kernel
theorem dX5_tell_62 : decode cX5_tell 62 = .ok (.invokevirtual 245, 3) := by decide +kernel
theorem dX5_tell_65 : decode cX5_tell 65 = .ok (.ireturn, 1) := by decide +kernel
set_option maxRecDepth 20000 in
theorem ggX5_call_X3_hasHouse : GoodIn wsX5_call wsX3_hasHouse := goodIn_r _ [7, 8, 33, 34, 35, 36, 37, 38, 39, 40, 41, 42] (by decide +kernel) (by decide +kernel)
set_option maxRecDepth 20000 in
theorem gX5_call_X3_hasHouse : GoodIn wsX5_call (wsV RX5 92 RX3 yX3_hasHouse wsX3_hasHouse) := goodIn_app (goodIn_of _ (by decide +kernel)) ggX5_call_X3_hasHouse
set_option maxRecDepth 20000 in
theorem ggX5_call_X5_babyIsCalled : GoodIn wsX5_call wsX5_babyIsCalled := goodIn_r _ [13, 14, 15, 16, 12, 17, 18, 23, 24, 25, 26, 27, 28, 29, 30, 31, 32] (by decide +kernel) (by decide +kernel)
set_option maxRecDepth 20000 in
theorem gX5_call_X5_babyIsCalled : GoodIn wsX5_call (wsV RX5 248 RX5 yX5_babyIsCalled wsX5_babyIsCalled) := goodIn_app (goodIn_of _ (by decide +kernel)) ggX5_call_X5_babyIsCalled
set_option maxRecDepth 20000 in
theorem ggX5_call_X5_sleeperIsCalled : GoodIn wsX5_call wsX5_sleeperIsCalled := goodIn_r _ [22, 14, 15, 16, 12, 17, 18, 23, 24, 25, 26, 27, 28, 29, 30, 31, 32] (by decide +kernel) (by decide +kernel)
set_option maxRecDepth 20000 in
theorem gX5_call_X5_sleeperIsCalled : GoodIn wsX5_call (wsV RX5 251 RX5 yX5_sleeperIsCalled wsX5_sleeperIsCalled) := goodIn_app (goodIn_of _ (by decide +kernel)) ggX5_call_X5_sleeperIsCalled
theorem dX5_call_0 : decode cX5_call 0 = .ok (.aload_n 0, 1) := by decide +kernel
theorem dX5_call_1 : decode cX5_call 1 = .ok (.getfield 12, 3) := by decide +kernel
theorem dX5_call_4 : decode cX5_call 4 = .ok (.iload_n 1, 1) := by decide +kernel
theorem dX5_call_5 : decode cX5_call 5 = .ok (.invokevirtual 92, 3) := by decide +kernel
theorem dX5_call_8 : decode cX5_call 8 = .ok (.ifCond .ne 5, 3) := by decide +kernel
theorem dX5_call_11 : decode cX5_call 11 = .ok (.iconst (-1), 1) := by decide +kernel
theorem dX5_call_12 : decode cX5_call 12 = .ok (.ireturn, 1) := by decide +kernel
theorem dX5_call_13 : decode cX5_call 13 = .ok (.aload_n 0, 1) := by decide +kernel
theorem dX5_call_14 : decode cX5_call 14 = .ok (.getfield 12, 3) := by decide +kernel
theorem dX5_call_17 : decode cX5_call 17 = .ok (.getfield 95, 3) := by decide +kernel
theorem dX5_call_20 : decode cX5_call 20 = .ok (.iload_n 1, 1) := by decide +kernel
theorem dX5_call_21 : decode cX5_call 21 = .ok (.iaload, 1) := by decide +kernel
theorem dX5_call_22 : decode cX5_call 22 = .ok (.iconst 2, 1) := by decide +kernel
theorem dX5_call_23 : decode cX5_call 23 = .ok (.if_icmp .ne 10, 3) := by decide +kernel
theorem dX5_call_26 : decode cX5_call 26 = .ok (.aload_n 0, 1) := by decide +kernel
theorem dX5_call_27 : decode cX5_call 27 = .ok (.invokevirtual 248, 3) := by decide +kernel
theorem dX5_call_30 : decode cX5_call 30 = .ok (.goto 8, 3) := by decide +kernel
theorem dX5_call_33 : decode cX5_call 33 = .ok (.aload_n 0, 1) := by decide +kernel
theorem dX5_call_34 : decode cX5_call 34 = .ok (.iload_n 1, 1) := by decide +kernel
theorem dX5_call_35 : decode cX5_call 35 = .ok (.invokevirtual 251, 3) := by decide +kernel
theorem dX5_call_38 : decode cX5_call 38 = .ok (.ireturn, 1) := by decide +kernel
set_option maxRecDepth 20000 in
theorem ggX5_as_X3_hasHouse : GoodIn wsX5_as wsX3_hasHouse := goodIn_r _ [8, 9, 25, 26, 27, 28, 29, 30, 31, 32, 33, 34] (by decide +kernel) (by decide +kernel)
set_option maxRecDepth 20000 in
theorem gX5_as_X3_hasHouse : GoodIn wsX5_as (wsV RX5 92 RX3 yX3_hasHouse wsX3_hasHouse) := goodIn_app (goodIn_of _ (by decide +kernel)) ggX5_as_X3_hasHouse
set_option maxRecDepth 20000 in
theorem ggX5_as_X5_faulty : GoodIn wsX5_as wsX5_faulty := goodIn_r _ [14, 1, 15, 16, 17, 18, 19, 20, 21, 22, 23, 24] (by decide +kernel) (by decide +kernel)
set_option maxRecDepth 20000 in
theorem gX5_as_X5_faulty : GoodIn wsX5_as (wsV RX5 72 RX5 yX5_faulty wsX5_faulty) := goodIn_app (goodIn_of _ (by decide +kernel)) ggX5_as_X5_faulty
theorem dX5_as_0 : decode cX5_as 0 = .ok (.aload_n 0, 1) := by decide +kernel
theorem dX5_as_1 : decode cX5_as 1 = .ok (.iconst 0, 1) := by decide +kernel
theorem dX5_as_2 : decode cX5_as 2 = .ok (.putfield 53, 3) := by decide +kernel
theorem dX5_as_5 : decode cX5_as 5 = .ok (.aload_n 0, 1) := by decide +kernel
theorem dX5_as_6 : decode cX5_as 6 = .ok (.getfield 12, 3) := by decide +kernel
theorem dX5_as_9 : decode cX5_as 9 = .ok (.iload_n 1, 1) := by decide +kernel
theorem dX5_as_10 : decode cX5_as 10 = .ok (.invokevirtual 92, 3) := by decide +kernel
theorem dX5_as_13 : decode cX5_as 13 = .ok (.ifCond .ne 5, 3) := by decide +kernel
theorem dX5_as_16 : decode cX5_as 16 = .ok (.iconst (-1), 1) := by decide +kernel
theorem dX5_as_17 : decode cX5_as 17 = .ok (.ireturn, 1) := by decide +kernel
theorem dX5_as_18 : decode cX5_as 18 = .ok (.iload_n 2, 1) := by decide +kernel
theorem dX5_as_19 : decode cX5_as 19 = .ok (.ifCond .lt 8, 3) := by decide +kernel
theorem dX5_as_22 : decode cX5_as 22 = .ok (.iload_n 2, 1) := by decide +kernel
theorem dX5_as_23 : decode cX5_as 23 = .ok (.iconst 2, 1) := by decide +kernel
theorem dX5_as_24 : decode cX5_as 24 = .ok (.if_icmp .le 6, 3) := by decide +kernel
theorem dX5_as_27 : decode cX5_as 27 = .ok (.bipush (-2), 2) := by decide +kernel
theorem dX5_as_29 : decode cX5_as 29 = .ok (.ireturn, 1) := by decide +kernel
theorem dX5_as_30 : decode cX5_as 30 = .ok (.aload_n 0, 1) := by decide +kernel
theorem dX5_as_31 : decode cX5_as 31 = .ok (.getfield 12, 3) := by decide +kernel
theorem dX5_as_34 : decode cX5_as 34 = .ok (.getfield 95, 3) := by decide +kernel
theorem dX5_as_37 : decode cX5_as 37 = .ok (.iload_n 1, 1) := by decide +kernel
theorem dX5_as_38 : decode cX5_as 38 = .ok (.iaload, 1) := by decide +kernel
theorem dX5_as_39 : decode cX5_as 39 = .ok (.iload_n 2, 1) := by decide +kernel
theorem dX5_as_40 : decode cX5_as 40 = .ok (.if_icmp .ge 11, 3) := by decide +kernel
theorem dX5_as_43 : decode cX5_as 43 = .ok (.aload_n 0, 1) := by decide +kernel
theorem dX5_as_44 : decode cX5_as 44 = .ok (.iconst 2, 1) := by decide +kernel
theorem dX5_as_45 : decode cX5_as 45 = .ok (.invokevirtual 72, 3) := by decide +kernel
theorem dX5_as_48 : decode cX5_as 48 = .ok (.goto 4, 3) := by decide +kernel
theorem dX5_as_51 : decode cX5_as 51 = .ok (.iconst 1, 1) := by decide +kernel
theorem dX5_as_52 : decode cX5_as 52 = .ok (.ireturn, 1) := by decide +kernel
theorem dX5_trace_0 : decode cX5_trace 0 = .ok (.aload_n 0, 1) := by decide +kernel
theorem dX5_trace_1 : decode cX5_trace 1 = .ok (.getfield 254, 3) := by decide +kernel
theorem dX5_trace_4 : decode cX5_trace 4 = .ok (.ireturn, 1) := by decide +kernel
theorem dX5_fault_0 : decode cX5_fault 0 = .ok (.aload_n 0, 1) := by decide +kernel
theorem dX5_fault_1 : decode cX5_fault 1 = .ok (.getfield 53, 3) := by decide +kernel
theorem dX5_fault_4 : decode cX5_fault 4 = .ok (.ireturn, 1) := by decide +kernel
theorem dX5_many_0 : decode cX5_many 0 = .ok (.iload_n 1, 1) := by decide +kernel
theorem dX5_many_1 : decode cX5_many 1 = .ok (.tableswitch 72 0 4 #[35, 43, 51, 59, 64], 35) := by decide +kernel
theorem dX5_many_36 : decode cX5_many 36 = .ok (.aload_n 0, 1) := by decide +kernel
theorem dX5_many_37 : decode cX5_many 37 = .ok (.getfield 12, 3) := by decide +kernel
theorem dX5_many_40 : decode cX5_many 40 = .ok (.getfield 184, 3) := by decide +kernel
theorem dX5_many_43 : decode cX5_many 43 = .ok (.ireturn, 1) := by decide +kernel
theorem dX5_many_44 : decode cX5_many 44 = .ok (.aload_n 0, 1) := by decide +kernel
theorem dX5_many_45 : decode cX5_many 45 = .ok (.getfield 12, 3) := by decide +kernel
theorem dX5_many_48 : decode cX5_many 48 = .ok (.getfield 89, 3) := by decide +kernel
theorem dX5_many_51 : decode cX5_many 51 = .ok (.ireturn, 1) := by decide +kernel
theorem dX5_many_52 : decode cX5_many 52 = .ok (.aload_n 0, 1) := by decide +kernel
theorem dX5_many_53 : decode cX5_many 53 = .ok (.getfield 12, 3) := by decide +kernel
theorem dX5_many_56 : decode cX5_many 56 = .ok (.getfield 137, 3) := by decide +kernel
theorem dX5_many_59 : decode cX5_many 59 = .ok (.ireturn, 1) := by decide +kernel
theorem dX5_many_60 : decode cX5_many 60 = .ok (.aload_n 0, 1) := by decide +kernel
theorem dX5_many_61 : decode cX5_many 61 = .ok (.getfield 83, 3) := by decide +kernel
theorem dX5_many_64 : decode cX5_many 64 = .ok (.ireturn, 1) := by decide +kernel
theorem dX5_many_65 : decode cX5_many 65 = .ok (.aload_n 0, 1) := by decide +kernel
theorem dX5_many_66 : decode cX5_many 66 = .ok (.getfield 31, 3) := by decide +kernel
theorem dX5_many_69 : decode cX5_many 69 = .ok (.getfield 86, 3) := by decide +kernel
theorem dX5_many_72 : decode cX5_many 72 = .ok (.ireturn, 1) := by decide +kernel
theorem dX5_many_73 : decode cX5_many 73 = .ok (.bipush (-2), 2) := by decide +kernel
theorem dX5_many_75 : decode cX5_many 75 = .ok (.ireturn, 1) := by decide +kernel
theorem dX5_isSheet_0 : decode cX5_isSheet 0 = .ok (.iload_n 0, 1) := by decide +kernel
theorem dX5_isSheet_1 : decode cX5_isSheet 1 = .ok (.ifCond .lt 12, 3) := by decide +kernel
theorem dX5_isSheet_4 : decode cX5_isSheet 4 = .ok (.iload_n 0, 1) := by decide +kernel
theorem dX5_isSheet_5 : decode cX5_isSheet 5 = .ok (.iconst 4, 1) := by decide +kernel
theorem dX5_isSheet_6 : decode cX5_isSheet 6 = .ok (.if_icmp .ge 7, 3) := by decide +kernel
theorem dX5_isSheet_9 : decode cX5_isSheet 9 = .ok (.iconst 1, 1) := by decide +kernel
theorem dX5_isSheet_10 : decode cX5_isSheet 10 = .ok (.goto 4, 3) := by decide +kernel
theorem dX5_isSheet_13 : decode cX5_isSheet 13 = .ok (.iconst 0, 1) := by decide +kernel
