set_option maxRecDepth 20000 in
theorem ggX0_init_X1_init : GoodIn wsX0_init wsX1_init := goodIn_r _ [9, 10, 2, 3, 11, 12, 13, 14, 15, 16, 17, 18, 19, 20, 21, 22, 23, 24, 25, 26, 27, 28, 29, 30, 31, 32, 33, 34, 35, 36, 37] (by decide +kernel) (by decide +kernel)
set_option maxRecDepth 20000 in
theorem gX0_init_X1_init_n11 : GoodIn wsX0_init (wsX1_init) := ggX0_init_X1_init
theorem dX0_init_0 : decode cX0_init 0 = .ok (.aload_n 0, 1) := by decide +kernel
theorem dX0_init_1 : decode cX0_init 1 = .ok (.invokespecial 3, 3) := by decide +kernel
theorem dX0_init_4 : decode cX0_init 4 = .ok (.aload_n 0, 1) := by decide +kernel
theorem dX0_init_5 : decode cX0_init 5 = .ok (.new 9, 3) := by decide +kernel
theorem dX0_init_8 : decode cX0_init 8 = .ok (.dup, 1) := by decide +kernel
theorem dX0_init_9 : decode cX0_init 9 = .ok (.invokespecial 11, 3) := by decide +kernel
theorem dX0_init_12 : decode cX0_init 12 = .ok (.putfield 12, 3) := by decide +kernel
theorem dX0_init_15 : decode cX0_init 15 = .ok (.return_, 1) := by decide +kernel
set_option maxRecDepth 20000 in
theorem ggX0_goOn_X1_reignGoesBy : GoodIn wsX0_goOn wsX1_reignGoesBy := goodIn_r _ [6, 7, 8, 9, 10, 11, 12, 13, 14, 15, 16, 17, 5, 18, 19, 20, 21, 22, 23, 24, 25, 26, 27, 28, 29, 30, 31, 32, 33, 34, 35, 36, 37, 38, 39, 40, 41, 42, 44, 45, 46, 47, 48, 49, 50, 51, 52, 53, 54, 55, 56] (by decide +kernel) (by decide +kernel)
set_option maxRecDepth 20000 in
theorem gX0_goOn_X1_reignGoesBy : GoodIn wsX0_goOn (wsV RX0 18 RX1 yX1_reignGoesBy wsX1_reignGoesBy) := goodIn_app (goodIn_of _ (by decide +kernel)) ggX0_goOn_X1_reignGoesBy
theorem dX0_goOn_0 : decode cX0_goOn 0 = .ok (.iconst 1, 1) := by decide +kernel
theorem dX0_goOn_1 : decode cX0_goOn 1 = .ok (.istore_n 2, 1) := by decide +kernel
theorem dX0_goOn_2 : decode cX0_goOn 2 = .ok (.iconst 0, 1) := by decide +kernel
theorem dX0_goOn_3 : decode cX0_goOn 3 = .ok (.istore_n 3, 1) := by decide +kernel
theorem dX0_goOn_4 : decode cX0_goOn 4 = .ok (.iload_n 3, 1) := by decide +kernel
theorem dX0_goOn_5 : decode cX0_goOn 5 = .ok (.iload_n 1, 1) := by decide +kernel
theorem dX0_goOn_6 : decode cX0_goOn 6 = .ok (.if_icmp .ge 21, 3) := by decide +kernel
theorem dX0_goOn_9 : decode cX0_goOn 9 = .ok (.iload_n 2, 1) := by decide +kernel
theorem dX0_goOn_10 : decode cX0_goOn 10 = .ok (.ifCond .eq 17, 3) := by decide +kernel
theorem dX0_goOn_13 : decode cX0_goOn 13 = .ok (.aload_n 0, 1) := by decide +kernel
theorem dX0_goOn_14 : decode cX0_goOn 14 = .ok (.getfield 12, 3) := by decide +kernel
theorem dX0_goOn_17 : decode cX0_goOn 17 = .ok (.invokevirtual 18, 3) := by decide +kernel
theorem dX0_goOn_20 : decode cX0_goOn 20 = .ok (.istore_n 2, 1) := by decide +kernel
theorem dX0_goOn_21 : decode cX0_goOn 21 = .ok (.iinc 3 1, 3) := by decide +kernel
theorem dX0_goOn_24 : decode cX0_goOn 24 = .ok (.goto (-20), 3) := by decide +kernel
theorem dX0_goOn_27 : decode cX0_goOn 27 = .ok (.return_, 1) := by decide +kernel
set_option maxRecDepth 20000 in
theorem ggX0_mightBehind_X1_copyFrom : GoodIn wsX0_mightBehind wsX1_copyFrom := goodIn_r _ [7, 8, 9, 10, 11, 12, 13, 14, 15, 16, 17, 18, 19, 20, 21, 22, 23, 24, 58, 59, 60, 61, 62, 63, 64, 65, 66, 67, 68, 69, 70] (by decide +kernel) (by decide +kernel)
set_option maxRecDepth 20000 in
theorem gX0_mightBehind_X1_copyFrom : GoodIn wsX0_mightBehind (wsV RX0 22 RX1 yX1_copyFrom wsX1_copyFrom) := goodIn_app (goodIn_of _ (by decide +kernel)) ggX0_mightBehind_X1_copyFrom
set_option maxRecDepth 20000 in
theorem ggX0_mightBehind_X0_goOn : GoodIn wsX0_mightBehind wsX0_goOn := goodIn_r _ [29, 1, 30, 31, 32, 6, 33, 8, 18, 17, 9, 22, 23, 19, 10, 34, 35, 36, 37, 38, 39, 40, 41, 21, 20, 12, 42, 43, 44, 45, 46, 47, 48, 49, 50, 24, 11, 51, 52, 53, 54, 55, 56, 57, 58, 59, 60, 61, 62, 63, 64, 65, 66, 67, 68, 69, 70] (by decide +kernel) (by decide +kernel)
set_option maxRecDepth 20000 in
theorem gX0_mightBehind_X0_goOn : GoodIn wsX0_mightBehind (wsV RX0 26 RX0 yX0_goOn wsX0_goOn) := goodIn_app (goodIn_of _ (by decide +kernel)) ggX0_mightBehind_X0_goOn
theorem dX0_mightBehind_0 : decode cX0_mightBehind 0 = .ok (.aload_n 0, 1) := by decide +kernel
theorem dX0_mightBehind_1 : decode cX0_mightBehind 1 = .ok (.getfield 12, 3) := by decide +kernel
theorem dX0_mightBehind_4 : decode cX0_mightBehind 4 = .ok (.aload_n 1, 1) := by decide +kernel
theorem dX0_mightBehind_5 : decode cX0_mightBehind 5 = .ok (.invokevirtual 22, 3) := by decide +kernel
theorem dX0_mightBehind_8 : decode cX0_mightBehind 8 = .ok (.aload_n 0, 1) := by decide +kernel
theorem dX0_mightBehind_9 : decode cX0_mightBehind 9 = .ok (.iload_n 2, 1) := by decide +kernel
theorem dX0_mightBehind_10 : decode cX0_mightBehind 10 = .ok (.invokevirtual 26, 3) := by decide +kernel
theorem dX0_mightBehind_13 : decode cX0_mightBehind 13 = .ok (.aload_n 0, 1) := by decide +kernel
theorem dX0_mightBehind_14 : decode cX0_mightBehind 14 = .ok (.getfield 12, 3) := by decide +kernel
theorem dX0_mightBehind_17 : decode cX0_mightBehind 17 = .ok (.getfield 30, 3) := by decide +kernel
theorem dX0_mightBehind_20 : decode cX0_mightBehind 20 = .ok (.iload_n 3, 1) := by decide +kernel
theorem dX0_mightBehind_21 : decode cX0_mightBehind 21 = .ok (.iaload, 1) := by decide +kernel
theorem dX0_mightBehind_22 : decode cX0_mightBehind 22 = .ok (.ireturn, 1) := by decide +kernel
set_option maxRecDepth 20000 in
theorem ggX0_standingAtLast_X1_copyFrom : GoodIn wsX0_standingAtLast wsX1_copyFrom := goodIn_r _ [6, 7, 8, 9, 10, 11, 12, 13, 14, 15, 16, 17, 18, 19, 20, 21, 22, 23, 61, 62, 63, 64, 65, 66, 67, 68, 69, 70, 71, 72, 73] (by decide +kernel) (by decide +kernel)
set_option maxRecDepth 20000 in
theorem gX0_standingAtLast_X1_copyFrom : GoodIn wsX0_standingAtLast (wsV RX0 22 RX1 yX1_copyFrom wsX1_copyFrom) := goodIn_app (goodIn_of _ (by decide +kernel)) ggX0_standingAtLast_X1_copyFrom
set_option maxRecDepth 20000 in
theorem ggX0_standingAtLast_X0_goOn : GoodIn wsX0_standingAtLast wsX0_goOn := goodIn_r _ [28, 1, 29, 30, 31, 5, 32, 7, 17, 16, 8, 21, 22, 18, 9, 33, 34, 35, 36, 37, 38, 39, 40, 20, 19, 11, 41, 42, 43, 44, 45, 46, 47, 48, 49, 23, 10, 50, 51, 52, 53, 54, 55, 60, 61, 62, 63, 64, 65, 66, 67, 68, 69, 70, 71, 72, 73] (by decide +kernel) (by decide +kernel)
set_option maxRecDepth 20000 in
theorem gX0_standingAtLast_X0_goOn : GoodIn wsX0_standingAtLast (wsV RX0 26 RX0 yX0_goOn wsX0_goOn) := goodIn_app (goodIn_of _ (by decide +kernel)) ggX0_standingAtLast_X0_goOn
set_option maxRecDepth 20000 in
theorem ggX0_standingAtLast_X1_standingAsBits : GoodIn wsX0_standingAtLast wsX1_standingAsBits := goodIn_r _ [59, 7, 16, 61, 62, 63, 64, 65, 66, 67, 68, 69, 70, 71, 72, 73] (by decide +kernel) (by decide +kernel)
set_option maxRecDepth 20000 in
theorem gX0_standingAtLast_X1_standingAsBits : GoodIn wsX0_standingAtLast (wsV RX0 34 RX1 yX1_standingAsBits wsX1_standingAsBits) := goodIn_app (goodIn_of _ (by decide +kernel)) ggX0_standingAtLast_X1_standingAsBits
theorem dX0_standingAtLast_0 : decode cX0_standingAtLast 0 = .ok (.aload_n 0, 1) := by decide +kernel
theorem dX0_standingAtLast_1 : decode cX0_standingAtLast 1 = .ok (.getfield 12, 3) := by decide +kernel
theorem dX0_standingAtLast_4 : decode cX0_standingAtLast 4 = .ok (.aload_n 1, 1) := by decide +kernel
theorem dX0_standingAtLast_5 : decode cX0_standingAtLast 5 = .ok (.invokevirtual 22, 3) := by decide +kernel
theorem dX0_standingAtLast_8 : decode cX0_standingAtLast 8 = .ok (.aload_n 0, 1) := by decide +kernel
theorem dX0_standingAtLast_9 : decode cX0_standingAtLast 9 = .ok (.bipush 30, 2) := by decide +kernel
theorem dX0_standingAtLast_11 : decode cX0_standingAtLast 11 = .ok (.invokevirtual 26, 3) := by decide +kernel
theorem dX0_standingAtLast_14 : decode cX0_standingAtLast 14 = .ok (.aload_n 0, 1) := by decide +kernel
theorem dX0_standingAtLast_15 : decode cX0_standingAtLast 15 = .ok (.getfield 12, 3) := by decide +kernel
theorem dX0_standingAtLast_18 : decode cX0_standingAtLast 18 = .ok (.invokevirtual 34, 3) := by decide +kernel
theorem dX0_standingAtLast_21 : decode cX0_standingAtLast 21 = .ok (.ireturn, 1) := by decide +kernel
set_option maxRecDepth 20000 in
theorem ggX0_whenGone_X1_copyFrom : GoodIn wsX0_whenGone wsX1_copyFrom := goodIn_r _ [7, 8, 9, 10, 11, 12, 13, 14, 15, 16, 17, 18, 19, 20, 21, 22, 23, 24, 53, 54, 55, 56, 57, 58, 59, 60, 61, 62, 63, 64, 65] (by decide +kernel) (by decide +kernel)
set_option maxRecDepth 20000 in
theorem gX0_whenGone_X1_copyFrom : GoodIn wsX0_whenGone (wsV RX0 22 RX1 yX1_copyFrom wsX1_copyFrom) := goodIn_app (goodIn_of _ (by decide +kernel)) ggX0_whenGone_X1_copyFrom
set_option maxRecDepth 20000 in
theorem ggX0_whenGone_X1_reignGoesBy : GoodIn wsX0_whenGone wsX1_reignGoesBy := goodIn_r _ [28, 8, 18, 17, 9, 22, 23, 19, 10, 29, 30, 31, 6, 32, 33, 34, 35, 36, 21, 20, 12, 37, 38, 39, 40, 41, 42, 43, 44, 45, 24, 11, 46, 47, 48, 49, 50, 51, 53, 54, 55, 56, 57, 58, 59, 60, 61, 62, 63, 64, 65] (by decide +kernel) (by decide +kernel)
set_option maxRecDepth 20000 in
theorem gX0_whenGone_X1_reignGoesBy : GoodIn wsX0_whenGone (wsV RX0 18 RX1 yX1_reignGoesBy wsX1_reignGoesBy) := goodIn_app (goodIn_of _ (by decide +kernel)) ggX0_whenGone_X1_reignGoesBy
theorem dX0_whenGone_0 : decode cX0_whenGone 0 = .ok (.aload_n 0, 1) := by decide +kernel
theorem dX0_whenGone_1 : decode cX0_whenGone 1 = .ok (.getfield 12, 3) := by decide +kernel
theorem dX0_whenGone_4 : decode cX0_whenGone 4 = .ok (.aload_n 1, 1) := by decide +kernel
theorem dX0_whenGone_5 : decode cX0_whenGone 5 = .ok (.invokevirtual 22, 3) := by decide +kernel
theorem dX0_whenGone_8 : decode cX0_whenGone 8 = .ok (.iconst 1, 1) := by decide +kernel
theorem dX0_whenGone_9 : decode cX0_whenGone 9 = .ok (.istore_n 3, 1) := by decide +kernel
theorem dX0_whenGone_10 : decode cX0_whenGone 10 = .ok (.iconst 0, 1) := by decide +kernel
theorem dX0_whenGone_11 : decode cX0_whenGone 11 = .ok (.istore 4, 2) := by decide +kernel
theorem dX0_whenGone_13 : decode cX0_whenGone 13 = .ok (.iload 4, 2) := by decide +kernel
theorem dX0_whenGone_15 : decode cX0_whenGone 15 = .ok (.bipush 30, 2) := by decide +kernel
theorem dX0_whenGone_17 : decode cX0_whenGone 17 = .ok (.if_icmp .gt 36, 3) := by decide +kernel
theorem dX0_whenGone_20 : decode cX0_whenGone 20 = .ok (.iload_n 3, 1) := by decide +kernel
theorem dX0_whenGone_21 : decode cX0_whenGone 21 = .ok (.ifCond .eq 32, 3) := by decide +kernel
theorem dX0_whenGone_24 : decode cX0_whenGone 24 = .ok (.aload_n 0, 1) := by decide +kernel
theorem dX0_whenGone_25 : decode cX0_whenGone 25 = .ok (.getfield 12, 3) := by decide +kernel
theorem dX0_whenGone_28 : decode cX0_whenGone 28 = .ok (.getfield 38, 3) := by decide +kernel
theorem dX0_whenGone_31 : decode cX0_whenGone 31 = .ok (.iload_n 2, 1) := by decide +kernel
theorem dX0_whenGone_32 : decode cX0_whenGone 32 = .ok (.iaload, 1) := by decide +kernel
theorem dX0_whenGone_33 : decode cX0_whenGone 33 = .ok (.ifCond .ne 6, 3) := by decide +kernel
theorem dX0_whenGone_36 : decode cX0_whenGone 36 = .ok (.iload 4, 2) := by decide +kernel
theorem dX0_whenGone_38 : decode cX0_whenGone 38 = .ok (.ireturn, 1) := by decide +kernel
theorem dX0_whenGone_39 : decode cX0_whenGone 39 = .ok (.aload_n 0, 1) := by decide +kernel
theorem dX0_whenGone_40 : decode cX0_whenGone 40 = .ok (.getfield 12, 3) := by decide +kernel
theorem dX0_whenGone_43 : decode cX0_whenGone 43 = .ok (.invokevirtual 18, 3) := by decide +kernel
theorem dX0_whenGone_46 : decode cX0_whenGone 46 = .ok (.istore_n 3, 1) := by decide +kernel
theorem dX0_whenGone_47 : decode cX0_whenGone 47 = .ok (.iinc 4 1, 3) := by decide +kernel
theorem dX0_whenGone_50 : decode cX0_whenGone 50 = .ok (.goto (-37), 3) := by decide +kernel
theorem dX0_whenGone_53 : decode cX0_whenGone 53 = .ok (.bipush (-4), 2) := by decide +kernel
theorem dX0_whenGone_55 : decode cX0_whenGone 55 = .ok (.ireturn, 1) := by decide +kernel
set_option maxRecDepth 20000 in
theorem ggX0_awayForSafety_X1_lyingAsBits : GoodIn wsX0_awayForSafety wsX1_lyingAsBits := goodIn_r _ [5, 6, 7, 75, 76, 77, 78, 79, 80, 81, 82, 83, 84, 85, 86, 87] (by decide +kernel) (by decide +kernel)
set_option maxRecDepth 20000 in
theorem gX0_awayForSafety_X1_lyingAsBits : GoodIn wsX0_awayForSafety (wsV RX0 41 RX1 yX1_lyingAsBits wsX1_lyingAsBits) := goodIn_app (goodIn_of _ (by decide +kernel)) ggX0_awayForSafety_X1_lyingAsBits
set_option maxRecDepth 20000 in
theorem ggX0_awayForSafety_J6_bitCount_0f7a4 : GoodIn wsX0_awayForSafety wsJ6_bitCount_0f7a4 := goodIn_r _ [11, 12, 13, 14] (by decide +kernel) (by decide +kernel)
set_option maxRecDepth 20000 in
theorem gX0_awayForSafety_J6_bitCount_0f7a4 : GoodIn wsX0_awayForSafety (va_wsS RX0 44 yJ6_bitCount_0f7a4 wsJ6_bitCount_0f7a4) := goodIn_app (goodIn_of _ (by decide +kernel)) ggX0_awayForSafety_J6_bitCount_0f7a4
set_option maxRecDepth 20000 in
theorem ggX0_awayForSafety_X0_isSafe : GoodIn wsX0_awayForSafety wsX0_isSafe := goodIn_r _ [19, 20, 21, 22, 23, 4, 24, 25, 6, 26, 27, 28, 29, 30, 31, 32, 33, 34, 35, 36, 37, 7, 38, 39, 40, 41, 42, 43, 44, 45, 46, 47, 48, 49, 50, 51, 52, 53, 54, 55, 56, 57, 58, 59, 60, 61, 62, 63, 64, 65, 66, 67, 68, 69, 70, 71, 72, 73, 74, 88, 75, 76, 77, 78, 79, 80, 81, 82, 83, 84, 85, 86, 87] (by decide +kernel) (by decide +kernel)
set_option maxRecDepth 20000 in
theorem gX0_awayForSafety_X0_isSafe : GoodIn wsX0_awayForSafety (wsV RX0 50 RX0 yX0_isSafe wsX0_isSafe) := goodIn_app (goodIn_of _ (by decide +kernel)) ggX0_awayForSafety_X0_isSafe
theorem dX0_awayForSafety_0 : decode cX0_awayForSafety 0 = .ok (.aload_n 1, 1) := by decide +kernel
theorem dX0_awayForSafety_1 : decode cX0_awayForSafety 1 = .ok (.invokevirtual 41, 3) := by decide +kernel
theorem dX0_awayForSafety_4 : decode cX0_awayForSafety 4 = .ok (.istore 4, 2) := by decide +kernel
theorem dX0_awayForSafety_6 : decode cX0_awayForSafety 6 = .ok (.iload 4, 2) := by decide +kernel
theorem dX0_awayForSafety_8 : decode cX0_awayForSafety 8 = .ok (.invokestatic 44, 3) := by decide +kernel
theorem dX0_awayForSafety_11 : decode cX0_awayForSafety 11 = .ok (.istore 5, 2) := by decide +kernel
theorem dX0_awayForSafety_13 : decode cX0_awayForSafety 13 = .ok (.iconst 0, 1) := by decide +kernel
theorem dX0_awayForSafety_14 : decode cX0_awayForSafety 14 = .ok (.istore 6, 2) := by decide +kernel
theorem dX0_awayForSafety_16 : decode cX0_awayForSafety 16 = .ok (.iload 6, 2) := by decide +kernel
theorem dX0_awayForSafety_18 : decode cX0_awayForSafety 18 = .ok (.iload 5, 2) := by decide +kernel
theorem dX0_awayForSafety_20 : decode cX0_awayForSafety 20 = .ok (.if_icmp .gt 60, 3) := by decide +kernel
theorem dX0_awayForSafety_23 : decode cX0_awayForSafety 23 = .ok (.iconst 0, 1) := by decide +kernel
theorem dX0_awayForSafety_24 : decode cX0_awayForSafety 24 = .ok (.istore 7, 2) := by decide +kernel
theorem dX0_awayForSafety_26 : decode cX0_awayForSafety 26 = .ok (.iload 7, 2) := by decide +kernel
theorem dX0_awayForSafety_28 : decode cX0_awayForSafety 28 = .ok (.iload 4, 2) := by decide +kernel
theorem dX0_awayForSafety_30 : decode cX0_awayForSafety 30 = .ok (.if_icmp .gt 44, 3) := by decide +kernel
theorem dX0_awayForSafety_33 : decode cX0_awayForSafety 33 = .ok (.iload 7, 2) := by decide +kernel
theorem dX0_awayForSafety_35 : decode cX0_awayForSafety 35 = .ok (.iload 4, 2) := by decide +kernel
theorem dX0_awayForSafety_37 : decode cX0_awayForSafety 37 = .ok (.iand, 1) := by decide +kernel
theorem dX0_awayForSafety_38 : decode cX0_awayForSafety 38 = .ok (.iload 7, 2) := by decide +kernel
theorem dX0_awayForSafety_40 : decode cX0_awayForSafety 40 = .ok (.if_icmp .ne 28, 3) := by decide +kernel
theorem dX0_awayForSafety_43 : decode cX0_awayForSafety 43 = .ok (.iload 7, 2) := by decide +kernel
theorem dX0_awayForSafety_45 : decode cX0_awayForSafety 45 = .ok (.invokestatic 44, 3) := by decide +kernel
theorem dX0_awayForSafety_48 : decode cX0_awayForSafety 48 = .ok (.iload 6, 2) := by decide +kernel
theorem dX0_awayForSafety_50 : decode cX0_awayForSafety 50 = .ok (.if_icmp .ne 18, 3) := by decide +kernel
theorem dX0_awayForSafety_53 : decode cX0_awayForSafety 53 = .ok (.aload_n 0, 1) := by decide +kernel
theorem dX0_awayForSafety_54 : decode cX0_awayForSafety 54 = .ok (.aload_n 1, 1) := by decide +kernel
theorem dX0_awayForSafety_55 : decode cX0_awayForSafety 55 = .ok (.iload 7, 2) := by decide +kernel
theorem dX0_awayForSafety_57 : decode cX0_awayForSafety 57 = .ok (.iload_n 2, 1) := by decide +kernel
theorem dX0_awayForSafety_58 : decode cX0_awayForSafety 58 = .ok (.iload_n 3, 1) := by decide +kernel
theorem dX0_awayForSafety_59 : decode cX0_awayForSafety 59 = .ok (.invokevirtual 50, 3) := by decide +kernel
theorem dX0_awayForSafety_62 : decode cX0_awayForSafety 62 = .ok (.ifCond .eq 6, 3) := by decide +kernel
theorem dX0_awayForSafety_65 : decode cX0_awayForSafety 65 = .ok (.iload 7, 2) := by decide +kernel
theorem dX0_awayForSafety_67 : decode cX0_awayForSafety 67 = .ok (.ireturn, 1) := by decide +kernel
theorem dX0_awayForSafety_68 : decode cX0_awayForSafety 68 = .ok (.iinc 7 1, 3) := by decide +kernel
theorem dX0_awayForSafety_71 : decode cX0_awayForSafety 71 = .ok (.goto (-45), 3) := by decide +kernel
theorem dX0_awayForSafety_74 : decode cX0_awayForSafety 74 = .ok (.iinc 6 1, 3) := by decide +kernel
theorem dX0_awayForSafety_77 : decode cX0_awayForSafety 77 = .ok (.goto (-61), 3) := by decide +kernel
theorem dX0_awayForSafety_80 : decode cX0_awayForSafety 80 = .ok (.bipush (-4), 2) := by decide +kernel
theorem dX0_awayForSafety_82 : decode cX0_awayForSafety 82 = .ok (.ireturn, 1) := by decide +kernel
set_option maxRecDepth 20000 in
theorem ggX0_isSafe_X1_copyFrom : GoodIn wsX0_isSafe wsX1_copyFrom := goodIn_r _ [6, 7, 8, 9, 10, 11, 12, 13, 14, 15, 16, 17, 18, 19, 20, 21, 22, 23, 60, 61, 62, 63, 64, 65, 66, 67, 68, 69, 70, 71, 72] (by decide +kernel) (by decide +kernel)
set_option maxRecDepth 20000 in
theorem gX0_isSafe_X1_copyFrom : GoodIn wsX0_isSafe (wsV RX0 22 RX1 yX1_copyFrom wsX1_copyFrom) := goodIn_app (goodIn_of _ (by decide +kernel)) ggX0_isSafe_X1_copyFrom
set_option maxRecDepth 20000 in
theorem ggX0_isSafe_X1_takeAway : GoodIn wsX0_isSafe wsX1_takeAway := goodIn_r _ [27, 8, 21, 60, 61, 62, 63, 64, 65, 66, 67, 68, 69, 70, 71, 72] (by decide +kernel) (by decide +kernel)
set_option maxRecDepth 20000 in
theorem gX0_isSafe_X1_takeAway : GoodIn wsX0_isSafe (wsV RX0 54 RX1 yX1_takeAway wsX1_takeAway) := goodIn_app (goodIn_of _ (by decide +kernel)) ggX0_isSafe_X1_takeAway
set_option maxRecDepth 20000 in
theorem ggX0_isSafe_X1_isOut : GoodIn wsX0_isSafe wsX1_isOut := goodIn_r _ [31, 16, 60, 61, 62, 63, 64, 65, 66, 67, 68, 69, 70, 71, 72] (by decide +kernel) (by decide +kernel)
set_option maxRecDepth 20000 in
theorem gX0_isSafe_X1_isOut : GoodIn wsX0_isSafe (wsV RX0 57 RX1 yX1_isOut wsX1_isOut) := goodIn_app (goodIn_of _ (by decide +kernel)) ggX0_isSafe_X1_isOut
set_option maxRecDepth 20000 in
theorem ggX0_isSafe_X1_reignGoesBy : GoodIn wsX0_isSafe wsX1_reignGoesBy := goodIn_r _ [35, 7, 17, 16, 8, 21, 22, 18, 9, 36, 37, 38, 5, 39, 40, 41, 42, 43, 20, 19, 11, 44, 45, 46, 47, 48, 49, 50, 51, 52, 23, 10, 53, 54, 55, 56, 57, 58, 60, 61, 62, 63, 64, 65, 66, 67, 68, 69, 70, 71, 72] (by decide +kernel) (by decide +kernel)
set_option maxRecDepth 20000 in
theorem gX0_isSafe_X1_reignGoesBy : GoodIn wsX0_isSafe (wsV RX0 18 RX1 yX1_reignGoesBy wsX1_reignGoesBy) := goodIn_app (goodIn_of _ (by decide +kernel)) ggX0_isSafe_X1_reignGoesBy
theorem dX0_isSafe_0 : decode cX0_isSafe 0 = .ok (.aload_n 0, 1) := by decide +kernel
theorem dX0_isSafe_1 : decode cX0_isSafe 1 = .ok (.getfield 12, 3) := by decide +kernel
theorem dX0_isSafe_4 : decode cX0_isSafe 4 = .ok (.aload_n 1, 1) := by decide +kernel
theorem dX0_isSafe_5 : decode cX0_isSafe 5 = .ok (.invokevirtual 22, 3) := by decide +kernel
theorem dX0_isSafe_8 : decode cX0_isSafe 8 = .ok (.aload_n 0, 1) := by decide +kernel
theorem dX0_isSafe_9 : decode cX0_isSafe 9 = .ok (.getfield 12, 3) := by decide +kernel
theorem dX0_isSafe_12 : decode cX0_isSafe 12 = .ok (.iload_n 2, 1) := by decide +kernel
theorem dX0_isSafe_13 : decode cX0_isSafe 13 = .ok (.invokevirtual 54, 3) := by decide +kernel
theorem dX0_isSafe_16 : decode cX0_isSafe 16 = .ok (.iconst 1, 1) := by decide +kernel
theorem dX0_isSafe_17 : decode cX0_isSafe 17 = .ok (.istore 5, 2) := by decide +kernel
theorem dX0_isSafe_19 : decode cX0_isSafe 19 = .ok (.iconst 0, 1) := by decide +kernel
theorem dX0_isSafe_20 : decode cX0_isSafe 20 = .ok (.istore 6, 2) := by decide +kernel
theorem dX0_isSafe_22 : decode cX0_isSafe 22 = .ok (.iload 6, 2) := by decide +kernel
theorem dX0_isSafe_24 : decode cX0_isSafe 24 = .ok (.iload 4, 2) := by decide +kernel
theorem dX0_isSafe_26 : decode cX0_isSafe 26 = .ok (.if_icmp .ge 34, 3) := by decide +kernel
theorem dX0_isSafe_29 : decode cX0_isSafe 29 = .ok (.iload 5, 2) := by decide +kernel
theorem dX0_isSafe_31 : decode cX0_isSafe 31 = .ok (.ifCond .eq 29, 3) := by decide +kernel
theorem dX0_isSafe_34 : decode cX0_isSafe 34 = .ok (.aload_n 0, 1) := by decide +kernel
theorem dX0_isSafe_35 : decode cX0_isSafe 35 = .ok (.getfield 12, 3) := by decide +kernel
theorem dX0_isSafe_38 : decode cX0_isSafe 38 = .ok (.iload_n 3, 1) := by decide +kernel
theorem dX0_isSafe_39 : decode cX0_isSafe 39 = .ok (.invokevirtual 57, 3) := by decide +kernel
theorem dX0_isSafe_42 : decode cX0_isSafe 42 = .ok (.ifCond .ne 18, 3) := by decide +kernel
theorem dX0_isSafe_45 : decode cX0_isSafe 45 = .ok (.aload_n 0, 1) := by decide +kernel
theorem dX0_isSafe_46 : decode cX0_isSafe 46 = .ok (.getfield 12, 3) := by decide +kernel
theorem dX0_isSafe_49 : decode cX0_isSafe 49 = .ok (.invokevirtual 18, 3) := by decide +kernel
theorem dX0_isSafe_52 : decode cX0_isSafe 52 = .ok (.istore 5, 2) := by decide +kernel
theorem dX0_isSafe_54 : decode cX0_isSafe 54 = .ok (.iinc 6 1, 3) := by decide +kernel
theorem dX0_isSafe_57 : decode cX0_isSafe 57 = .ok (.goto (-35), 3) := by decide +kernel
theorem dX0_isSafe_60 : decode cX0_isSafe 60 = .ok (.aload_n 0, 1) := by decide +kernel
theorem dX0_isSafe_61 : decode cX0_isSafe 61 = .ok (.getfield 12, 3) := by decide +kernel
theorem dX0_isSafe_64 : decode cX0_isSafe 64 = .ok (.iload_n 3, 1) := by decide +kernel
theorem dX0_isSafe_65 : decode cX0_isSafe 65 = .ok (.invokevirtual 57, 3) := by decide +kernel
theorem dX0_isSafe_68 : decode cX0_isSafe 68 = .ok (.ifCond .ne 7, 3) := by decide +kernel
theorem dX0_isSafe_71 : decode cX0_isSafe 71 = .ok (.iconst 1, 1) := by decide +kernel
theorem dX0_isSafe_72 : decode cX0_isSafe 72 = .ok (.goto 4, 3) := by decide +kernel
theorem dX0_isSafe_75 : decode cX0_isSafe 75 = .ok (.iconst 0, 1) := by decide +kernel
theorem dX0_isSafe_76 : decode cX0_isSafe 76 = .ok (.ireturn, 1) := by decide +kernel
set_option maxRecDepth 20000 in
theorem ggX0_gloveToThrow_X0_mayFitInTime : GoodIn wsX0_gloveToThrow wsX0_mayFitInTime := goodIn_r _ [5, 6, 7, 8, 9, 10] (by decide +kernel) (by decide +kernel)
set_option maxRecDepth 20000 in
theorem gX0_gloveToThrow_X0_mayFitInTime : GoodIn wsX0_gloveToThrow (va_wsS RX0 64 yX0_mayFitInTime wsX0_mayFitInTime) := goodIn_app (goodIn_of _ (by decide +kernel)) ggX0_gloveToThrow_X0_mayFitInTime
set_option maxRecDepth 20000 in
theorem ggX0_gloveToThrow_X0_isTakenUp : GoodIn wsX0_gloveToThrow wsX0_isTakenUp := goodIn_r _ [14, 15, 16, 17, 18, 19, 20, 21, 22, 23, 24, 25, 26, 27, 28, 29, 30, 31, 32, 33, 34, 35, 36, 37, 38, 39, 40, 41, 42, 43, 44, 45, 7, 46, 47, 48, 49, 50, 51, 52, 53, 54, 55, 56, 57, 58, 59, 60, 61, 62, 63, 64, 65, 66, 6, 8, 9, 10, 67, 68, 69, 70, 71, 72, 73, 74, 75, 76, 90, 77, 78, 79, 80, 81, 82, 83, 84, 85, 86, 87, 88, 89] (by decide +kernel) (by decide +kernel)
set_option maxRecDepth 20000 in
theorem gX0_gloveToThrow_X0_isTakenUp : GoodIn wsX0_gloveToThrow (wsV RX0 68 RX0 yX0_isTakenUp wsX0_isTakenUp) := goodIn_app (goodIn_of _ (by decide +kernel)) ggX0_gloveToThrow_X0_isTakenUp
theorem dX0_gloveToThrow_0 : decode cX0_gloveToThrow 0 = .ok (.iconst 0, 1) := by decide +kernel
theorem dX0_gloveToThrow_1 : decode cX0_gloveToThrow 1 = .ok (.istore 4, 2) := by decide +kernel
theorem dX0_gloveToThrow_3 : decode cX0_gloveToThrow 3 = .ok (.iload 4, 2) := by decide +kernel
theorem dX0_gloveToThrow_5 : decode cX0_gloveToThrow 5 = .ok (.iconst 4, 1) := by decide +kernel
theorem dX0_gloveToThrow_6 : decode cX0_gloveToThrow 6 = .ok (.if_icmp .ge 64, 3) := by decide +kernel
theorem dX0_gloveToThrow_9 : decode cX0_gloveToThrow 9 = .ok (.iconst 1, 1) := by decide +kernel
theorem dX0_gloveToThrow_10 : decode cX0_gloveToThrow 10 = .ok (.istore 5, 2) := by decide +kernel
theorem dX0_gloveToThrow_12 : decode cX0_gloveToThrow 12 = .ok (.iload 5, 2) := by decide +kernel
theorem dX0_gloveToThrow_14 : decode cX0_gloveToThrow 14 = .ok (.bipush 20, 2) := by decide +kernel
theorem dX0_gloveToThrow_16 : decode cX0_gloveToThrow 16 = .ok (.if_icmp .gt 48, 3) := by decide +kernel
theorem dX0_gloveToThrow_19 : decode cX0_gloveToThrow 19 = .ok (.iload 4, 2) := by decide +kernel
theorem dX0_gloveToThrow_21 : decode cX0_gloveToThrow 21 = .ok (.iload 5, 2) := by decide +kernel
theorem dX0_gloveToThrow_23 : decode cX0_gloveToThrow 23 = .ok (.aload_n 1, 1) := by decide +kernel
theorem dX0_gloveToThrow_24 : decode cX0_gloveToThrow 24 = .ok (.getfield 61, 3) := by decide +kernel
theorem dX0_gloveToThrow_27 : decode cX0_gloveToThrow 27 = .ok (.iload_n 3, 1) := by decide +kernel
theorem dX0_gloveToThrow_28 : decode cX0_gloveToThrow 28 = .ok (.iaload, 1) := by decide +kernel
theorem dX0_gloveToThrow_29 : decode cX0_gloveToThrow 29 = .ok (.invokestatic 64, 3) := by decide +kernel
theorem dX0_gloveToThrow_32 : decode cX0_gloveToThrow 32 = .ok (.ifCond .eq 26, 3) := by decide +kernel
theorem dX0_gloveToThrow_35 : decode cX0_gloveToThrow 35 = .ok (.aload_n 0, 1) := by decide +kernel
theorem dX0_gloveToThrow_36 : decode cX0_gloveToThrow 36 = .ok (.aload_n 1, 1) := by decide +kernel
theorem dX0_gloveToThrow_37 : decode cX0_gloveToThrow 37 = .ok (.iload 4, 2) := by decide +kernel
theorem dX0_gloveToThrow_39 : decode cX0_gloveToThrow 39 = .ok (.iload 5, 2) := by decide +kernel
theorem dX0_gloveToThrow_41 : decode cX0_gloveToThrow 41 = .ok (.iload_n 2, 1) := by decide +kernel
theorem dX0_gloveToThrow_42 : decode cX0_gloveToThrow 42 = .ok (.iload_n 3, 1) := by decide +kernel
theorem dX0_gloveToThrow_43 : decode cX0_gloveToThrow 43 = .ok (.invokevirtual 68, 3) := by decide +kernel
theorem dX0_gloveToThrow_46 : decode cX0_gloveToThrow 46 = .ok (.ifCond .eq 12, 3) := by decide +kernel
theorem dX0_gloveToThrow_49 : decode cX0_gloveToThrow 49 = .ok (.bipush 100, 2) := by decide +kernel
theorem dX0_gloveToThrow_51 : decode cX0_gloveToThrow 51 = .ok (.iload 4, 2) := by decide +kernel
theorem dX0_gloveToThrow_53 : decode cX0_gloveToThrow 53 = .ok (.imul, 1) := by decide +kernel
theorem dX0_gloveToThrow_54 : decode cX0_gloveToThrow 54 = .ok (.iload 5, 2) := by decide +kernel
theorem dX0_gloveToThrow_56 : decode cX0_gloveToThrow 56 = .ok (.iadd, 1) := by decide +kernel
theorem dX0_gloveToThrow_57 : decode cX0_gloveToThrow 57 = .ok (.ireturn, 1) := by decide +kernel
theorem dX0_gloveToThrow_58 : decode cX0_gloveToThrow 58 = .ok (.iinc 5 1, 3) := by decide +kernel
theorem dX0_gloveToThrow_61 : decode cX0_gloveToThrow 61 = .ok (.goto (-49), 3) := by decide +kernel
theorem dX0_gloveToThrow_64 : decode cX0_gloveToThrow 64 = .ok (.iinc 4 1, 3) := by decide +kernel
theorem dX0_gloveToThrow_67 : decode cX0_gloveToThrow 67 = .ok (.goto (-64), 3) := by decide +kernel
theorem dX0_gloveToThrow_70 : decode cX0_gloveToThrow 70 = .ok (.bipush (-4), 2) := by decide +kernel
theorem dX0_gloveToThrow_72 : decode cX0_gloveToThrow 72 = .ok (.ireturn, 1) := by decide +kernel
set_option maxRecDepth 20000 in
theorem ggX0_mayFitInTime_X5_sizeByNow : GoodIn wsX0_mayFitInTime wsX5_sizeByNow := goodIn_r _ [3] (by decide +kernel) (by decide +kernel)
set_option maxRecDepth 20000 in
theorem gX0_mayFitInTime_X5_sizeByNow_n72 : GoodIn wsX0_mayFitInTime (wsX5_sizeByNow) := ggX0_mayFitInTime_X5_sizeByNow
set_option maxRecDepth 20000 in
theorem ggX0_mayFitInTime_X5_isAsLarge : GoodIn wsX0_mayFitInTime wsX5_isAsLarge := goodIn_r _ [5] (by decide +kernel) (by decide +kernel)
set_option maxRecDepth 20000 in
theorem gX0_mayFitInTime_X5_isAsLarge_n76 : GoodIn wsX0_mayFitInTime (wsX5_isAsLarge) := ggX0_mayFitInTime_X5_isAsLarge
theorem dX0_mayFitInTime_0 : decode cX0_mayFitInTime 0 = .ok (.iconst 0, 1) := by decide +kernel
theorem dX0_mayFitInTime_1 : decode cX0_mayFitInTime 1 = .ok (.istore_n 3, 1) := by decide +kernel
theorem dX0_mayFitInTime_2 : decode cX0_mayFitInTime 2 = .ok (.iload_n 3, 1) := by decide +kernel
theorem dX0_mayFitInTime_3 : decode cX0_mayFitInTime 3 = .ok (.bipush 30, 2) := by decide +kernel
theorem dX0_mayFitInTime_5 : decode cX0_mayFitInTime 5 = .ok (.if_icmp .ge 25, 3) := by decide +kernel
theorem dX0_mayFitInTime_8 : decode cX0_mayFitInTime 8 = .ok (.iload_n 0, 1) := by decide +kernel
theorem dX0_mayFitInTime_9 : decode cX0_mayFitInTime 9 = .ok (.iload_n 0, 1) := by decide +kernel
theorem dX0_mayFitInTime_10 : decode cX0_mayFitInTime 10 = .ok (.iload_n 1, 1) := by decide +kernel
theorem dX0_mayFitInTime_11 : decode cX0_mayFitInTime 11 = .ok (.iload_n 3, 1) := by decide +kernel
theorem dX0_mayFitInTime_12 : decode cX0_mayFitInTime 12 = .ok (.invokestatic 72, 3) := by decide +kernel
theorem dX0_mayFitInTime_15 : decode cX0_mayFitInTime 15 = .ok (.iload_n 2, 1) := by decide +kernel
theorem dX0_mayFitInTime_16 : decode cX0_mayFitInTime 16 = .ok (.invokestatic 76, 3) := by decide +kernel
theorem dX0_mayFitInTime_19 : decode cX0_mayFitInTime 19 = .ok (.ifCond .eq 5, 3) := by decide +kernel
theorem dX0_mayFitInTime_22 : decode cX0_mayFitInTime 22 = .ok (.iconst 1, 1) := by decide +kernel
theorem dX0_mayFitInTime_23 : decode cX0_mayFitInTime 23 = .ok (.ireturn, 1) := by decide +kernel
theorem dX0_mayFitInTime_24 : decode cX0_mayFitInTime 24 = .ok (.iinc 3 5, 3) := by decide +kernel
theorem dX0_mayFitInTime_27 : decode cX0_mayFitInTime 27 = .ok (.goto (-25), 3) := by decide +kernel
theorem dX0_mayFitInTime_30 : decode cX0_mayFitInTime 30 = .ok (.iconst 0, 1) := by decide +kernel
theorem dX0_mayFitInTime_31 : decode cX0_mayFitInTime 31 = .ok (.ireturn, 1) := by decide +kernel
set_option maxRecDepth 20000 in
theorem ggX0_isTakenUp_X1_copyFrom : GoodIn wsX0_isTakenUp wsX1_copyFrom := goodIn_r _ [9, 10, 11, 12, 13, 14, 15, 16, 17, 18, 19, 20, 21, 22, 23, 24, 25, 26, 69, 70, 71, 72, 73, 74, 75, 76, 77, 78, 79, 80, 81] (by decide +kernel) (by decide +kernel)
set_option maxRecDepth 20000 in
theorem gX0_isTakenUp_X1_copyFrom : GoodIn wsX0_isTakenUp (wsV RX0 22 RX1 yX1_copyFrom wsX1_copyFrom) := goodIn_app (goodIn_of _ (by decide +kernel)) ggX0_isTakenUp_X1_copyFrom
set_option maxRecDepth 20000 in
theorem ggX0_isTakenUp_X1_addGlove : GoodIn wsX0_isTakenUp wsX1_addGlove := goodIn_r _ [30, 11, 31, 32, 33, 34, 35, 36, 8, 37, 10, 38, 39, 40, 41, 21, 22, 23, 24, 25, 26, 69, 70, 71, 72, 73, 74, 75, 76, 77, 78, 79, 80, 81] (by decide +kernel) (by decide +kernel)
set_option maxRecDepth 20000 in
theorem gX0_isTakenUp_X1_addGlove : GoodIn wsX0_isTakenUp (wsV RX0 83 RX1 yX1_addGlove wsX1_addGlove) := goodIn_app (goodIn_of _ (by decide +kernel)) ggX0_isTakenUp_X1_addGlove
set_option maxRecDepth 20000 in
theorem ggX0_isTakenUp_X1_reignGoesBy : GoodIn wsX0_isTakenUp wsX1_reignGoesBy := goodIn_r _ [45, 10, 20, 19, 11, 24, 25, 21, 12, 46, 47, 48, 8, 49, 50, 51, 52, 53, 23, 22, 14, 54, 32, 55, 56, 57, 58, 59, 60, 61, 26, 13, 62, 63, 64, 65, 66, 67, 69, 70, 71, 72, 73, 74, 75, 76, 77, 78, 79, 80, 81] (by decide +kernel) (by decide +kernel)
set_option maxRecDepth 20000 in
theorem gX0_isTakenUp_X1_reignGoesBy : GoodIn wsX0_isTakenUp (wsV RX0 18 RX1 yX1_reignGoesBy wsX1_reignGoesBy) := goodIn_app (goodIn_of _ (by decide +kernel)) ggX0_isTakenUp_X1_reignGoesBy
theorem dX0_isTakenUp_0 : decode cX0_isTakenUp 0 = .ok (.aload_n 0, 1) := by decide +kernel
theorem dX0_isTakenUp_1 : decode cX0_isTakenUp 1 = .ok (.getfield 12, 3) := by decide +kernel
theorem dX0_isTakenUp_4 : decode cX0_isTakenUp 4 = .ok (.aload_n 1, 1) := by decide +kernel
theorem dX0_isTakenUp_5 : decode cX0_isTakenUp 5 = .ok (.invokevirtual 22, 3) := by decide +kernel
theorem dX0_isTakenUp_8 : decode cX0_isTakenUp 8 = .ok (.aload_n 0, 1) := by decide +kernel
theorem dX0_isTakenUp_9 : decode cX0_isTakenUp 9 = .ok (.getfield 12, 3) := by decide +kernel
theorem dX0_isTakenUp_12 : decode cX0_isTakenUp 12 = .ok (.getfield 79, 3) := by decide +kernel
theorem dX0_isTakenUp_15 : decode cX0_isTakenUp 15 = .ok (.istore 6, 2) := by decide +kernel
theorem dX0_isTakenUp_17 : decode cX0_isTakenUp 17 = .ok (.aload_n 0, 1) := by decide +kernel
theorem dX0_isTakenUp_18 : decode cX0_isTakenUp 18 = .ok (.getfield 12, 3) := by decide +kernel
theorem dX0_isTakenUp_21 : decode cX0_isTakenUp 21 = .ok (.iload_n 2, 1) := by decide +kernel
theorem dX0_isTakenUp_22 : decode cX0_isTakenUp 22 = .ok (.iload_n 3, 1) := by decide +kernel
theorem dX0_isTakenUp_23 : decode cX0_isTakenUp 23 = .ok (.iload 4, 2) := by decide +kernel
theorem dX0_isTakenUp_25 : decode cX0_isTakenUp 25 = .ok (.invokevirtual 83, 3) := by decide +kernel
theorem dX0_isTakenUp_28 : decode cX0_isTakenUp 28 = .ok (.ifCond .ne 5, 3) := by decide +kernel
theorem dX0_isTakenUp_31 : decode cX0_isTakenUp 31 = .ok (.iconst 0, 1) := by decide +kernel
theorem dX0_isTakenUp_32 : decode cX0_isTakenUp 32 = .ok (.ireturn, 1) := by decide +kernel
theorem dX0_isTakenUp_33 : decode cX0_isTakenUp 33 = .ok (.iconst 1, 1) := by decide +kernel
theorem dX0_isTakenUp_34 : decode cX0_isTakenUp 34 = .ok (.istore 7, 2) := by decide +kernel
theorem dX0_isTakenUp_36 : decode cX0_isTakenUp 36 = .ok (.iconst 0, 1) := by decide +kernel
theorem dX0_isTakenUp_37 : decode cX0_isTakenUp 37 = .ok (.istore 8, 2) := by decide +kernel
theorem dX0_isTakenUp_39 : decode cX0_isTakenUp 39 = .ok (.iload 8, 2) := by decide +kernel
theorem dX0_isTakenUp_41 : decode cX0_isTakenUp 41 = .ok (.bipush 30, 2) := by decide +kernel
theorem dX0_isTakenUp_43 : decode cX0_isTakenUp 43 = .ok (.if_icmp .ge 37, 3) := by decide +kernel
theorem dX0_isTakenUp_46 : decode cX0_isTakenUp 46 = .ok (.iload 7, 2) := by decide +kernel
theorem dX0_isTakenUp_48 : decode cX0_isTakenUp 48 = .ok (.ifCond .eq 32, 3) := by decide +kernel
theorem dX0_isTakenUp_51 : decode cX0_isTakenUp 51 = .ok (.aload_n 0, 1) := by decide +kernel
theorem dX0_isTakenUp_52 : decode cX0_isTakenUp 52 = .ok (.getfield 12, 3) := by decide +kernel
theorem dX0_isTakenUp_55 : decode cX0_isTakenUp 55 = .ok (.getfield 38, 3) := by decide +kernel
theorem dX0_isTakenUp_58 : decode cX0_isTakenUp 58 = .ok (.iload 6, 2) := by decide +kernel
theorem dX0_isTakenUp_60 : decode cX0_isTakenUp 60 = .ok (.iaload, 1) := by decide +kernel
theorem dX0_isTakenUp_61 : decode cX0_isTakenUp 61 = .ok (.iconst 1, 1) := by decide +kernel
theorem dX0_isTakenUp_62 : decode cX0_isTakenUp 62 = .ok (.if_icmp .ne 18, 3) := by decide +kernel
theorem dX0_isTakenUp_65 : decode cX0_isTakenUp 65 = .ok (.aload_n 0, 1) := by decide +kernel
theorem dX0_isTakenUp_66 : decode cX0_isTakenUp 66 = .ok (.getfield 12, 3) := by decide +kernel
theorem dX0_isTakenUp_69 : decode cX0_isTakenUp 69 = .ok (.invokevirtual 18, 3) := by decide +kernel
theorem dX0_isTakenUp_72 : decode cX0_isTakenUp 72 = .ok (.istore 7, 2) := by decide +kernel
theorem dX0_isTakenUp_74 : decode cX0_isTakenUp 74 = .ok (.iinc 8 1, 3) := by decide +kernel
theorem dX0_isTakenUp_77 : decode cX0_isTakenUp 77 = .ok (.goto (-38), 3) := by decide +kernel
theorem dX0_isTakenUp_80 : decode cX0_isTakenUp 80 = .ok (.aload_n 0, 1) := by decide +kernel
theorem dX0_isTakenUp_81 : decode cX0_isTakenUp 81 = .ok (.getfield 12, 3) := by decide +kernel
theorem dX0_isTakenUp_84 : decode cX0_isTakenUp 84 = .ok (.getfield 86, 3) := by decide +kernel
theorem dX0_isTakenUp_87 : decode cX0_isTakenUp 87 = .ok (.iload 6, 2) := by decide +kernel
theorem dX0_isTakenUp_89 : decode cX0_isTakenUp 89 = .ok (.iaload, 1) := by decide +kernel
theorem dX0_isTakenUp_90 : decode cX0_isTakenUp 90 = .ok (.iload 5, 2) := by decide +kernel
theorem dX0_isTakenUp_92 : decode cX0_isTakenUp 92 = .ok (.if_icmp .ne 7, 3) := by decide +kernel
theorem dX0_isTakenUp_95 : decode cX0_isTakenUp 95 = .ok (.iconst 1, 1) := by decide +kernel
theorem dX0_isTakenUp_96 : decode cX0_isTakenUp 96 = .ok (.goto 4, 3) := by decide +kernel
theorem dX0_isTakenUp_99 : decode cX0_isTakenUp 99 = .ok (.iconst 0, 1) := by decide +kernel
theorem dX0_isTakenUp_100 : decode cX0_isTakenUp 100 = .ok (.ireturn, 1) := by decide +kernel
set_option maxRecDepth 20000 in
theorem ggX0_hallBehindDraws_X1_copyFrom : GoodIn wsX0_hallBehindDraws wsX1_copyFrom := goodIn_r _ [6, 7, 8, 9, 10, 11, 12, 13, 14, 15, 16, 17, 18, 19, 20, 21, 22, 23, 79, 80, 81, 82, 83, 84, 85, 86, 87, 88, 89, 90, 91] (by decide +kernel) (by decide +kernel)
set_option maxRecDepth 20000 in
theorem gX0_hallBehindDraws_X1_copyFrom : GoodIn wsX0_hallBehindDraws (wsV RX0 22 RX1 yX1_copyFrom wsX1_copyFrom) := goodIn_app (goodIn_of _ (by decide +kernel)) ggX0_hallBehindDraws_X1_copyFrom
set_option maxRecDepth 20000 in
theorem ggX0_hallBehindDraws_X0_actByDraw : GoodIn wsX0_hallBehindDraws wsX0_actByDraw := goodIn_r _ [28, 29, 30, 31, 32, 1, 33, 34, 35, 36, 37, 27, 38, 39, 40, 41, 5, 42, 8, 21, 43, 44, 45, 46, 16, 47, 48, 49, 50, 18, 19, 20, 22, 23, 78, 79, 80, 81, 82, 83, 84, 85, 86, 87, 88, 89, 90, 91] (by decide +kernel) (by decide +kernel)
set_option maxRecDepth 20000 in
theorem gX0_hallBehindDraws_X0_actByDraw : GoodIn wsX0_hallBehindDraws (wsV RX0 89 RX0 yX0_actByDraw wsX0_actByDraw) := goodIn_app (goodIn_of _ (by decide +kernel)) ggX0_hallBehindDraws_X0_actByDraw
set_option maxRecDepth 20000 in
theorem ggX0_hallBehindDraws_X1_reignGoesBy : GoodIn wsX0_hallBehindDraws wsX1_reignGoesBy := goodIn_r _ [54, 7, 17, 16, 8, 21, 22, 18, 9, 55, 56, 57, 5, 58, 59, 60, 61, 62, 20, 19, 11, 63, 64, 65, 66, 67, 68, 69, 70, 71, 23, 10, 72, 73, 74, 75, 76, 77, 79, 80, 81, 82, 83, 84, 85, 86, 87, 88, 89, 90, 91] (by decide +kernel) (by decide +kernel)
set_option maxRecDepth 20000 in
theorem gX0_hallBehindDraws_X1_reignGoesBy : GoodIn wsX0_hallBehindDraws (wsV RX0 18 RX1 yX1_reignGoesBy wsX1_reignGoesBy) := goodIn_app (goodIn_of _ (by decide +kernel)) ggX0_hallBehindDraws_X1_reignGoesBy
theorem dX0_hallBehindDraws_0 : decode cX0_hallBehindDraws 0 = .ok (.aload_n 0, 1) := by decide +kernel
theorem dX0_hallBehindDraws_1 : decode cX0_hallBehindDraws 1 = .ok (.getfield 12, 3) := by decide +kernel
theorem dX0_hallBehindDraws_4 : decode cX0_hallBehindDraws 4 = .ok (.aload_n 1, 1) := by decide +kernel
theorem dX0_hallBehindDraws_5 : decode cX0_hallBehindDraws 5 = .ok (.invokevirtual 22, 3) := by decide +kernel
theorem dX0_hallBehindDraws_8 : decode cX0_hallBehindDraws 8 = .ok (.iconst 0, 1) := by decide +kernel
theorem dX0_hallBehindDraws_9 : decode cX0_hallBehindDraws 9 = .ok (.istore 4, 2) := by decide +kernel
theorem dX0_hallBehindDraws_11 : decode cX0_hallBehindDraws 11 = .ok (.iload 4, 2) := by decide +kernel
theorem dX0_hallBehindDraws_13 : decode cX0_hallBehindDraws 13 = .ok (.iload_n 3, 1) := by decide +kernel
theorem dX0_hallBehindDraws_14 : decode cX0_hallBehindDraws 14 = .ok (.if_icmp .ge 24, 3) := by decide +kernel
theorem dX0_hallBehindDraws_17 : decode cX0_hallBehindDraws 17 = .ok (.aload_n 0, 1) := by decide +kernel
theorem dX0_hallBehindDraws_18 : decode cX0_hallBehindDraws 18 = .ok (.iload_n 2, 1) := by decide +kernel
theorem dX0_hallBehindDraws_19 : decode cX0_hallBehindDraws 19 = .ok (.iload 4, 2) := by decide +kernel
theorem dX0_hallBehindDraws_21 : decode cX0_hallBehindDraws 21 = .ok (.invokevirtual 89, 3) := by decide +kernel
theorem dX0_hallBehindDraws_24 : decode cX0_hallBehindDraws 24 = .ok (.aload_n 0, 1) := by decide +kernel
theorem dX0_hallBehindDraws_25 : decode cX0_hallBehindDraws 25 = .ok (.getfield 12, 3) := by decide +kernel
theorem dX0_hallBehindDraws_28 : decode cX0_hallBehindDraws 28 = .ok (.invokevirtual 18, 3) := by decide +kernel
theorem dX0_hallBehindDraws_31 : decode cX0_hallBehindDraws 31 = .ok (.pop, 1) := by decide +kernel
theorem dX0_hallBehindDraws_32 : decode cX0_hallBehindDraws 32 = .ok (.iinc 4 1, 3) := by decide +kernel
theorem dX0_hallBehindDraws_35 : decode cX0_hallBehindDraws 35 = .ok (.goto (-24), 3) := by decide +kernel
theorem dX0_hallBehindDraws_38 : decode cX0_hallBehindDraws 38 = .ok (.aload_n 0, 1) := by decide +kernel
theorem dX0_hallBehindDraws_39 : decode cX0_hallBehindDraws 39 = .ok (.getfield 12, 3) := by decide +kernel
theorem dX0_hallBehindDraws_42 : decode cX0_hallBehindDraws 42 = .ok (.areturn, 1) := by decide +kernel
set_option maxRecDepth 20000 in
theorem ggX0_actByDraw_X0_throwByDraw : GoodIn wsX0_actByDraw wsX0_throwByDraw := goodIn_r _ [12, 5, 13, 14, 15, 16, 17, 18, 19, 20, 21, 22, 23, 24, 25, 26, 27, 28, 29, 30, 31, 32, 33, 34, 35, 36, 37, 38, 39, 40, 41, 42, 43, 44, 45, 46, 47] (by decide +kernel) (by decide +kernel)
set_option maxRecDepth 20000 in
theorem gX0_actByDraw_X0_throwByDraw : GoodIn wsX0_actByDraw (wsV RX0 104 RX0 yX0_throwByDraw wsX0_throwByDraw) := goodIn_app (goodIn_of _ (by decide +kernel)) ggX0_actByDraw_X0_throwByDraw
set_option maxRecDepth 20000 in
theorem ggX0_actByDraw_X1_lowestWith : GoodIn wsX0_actByDraw wsX1_lowestWith := goodIn_r _ [17, 18, 19, 35, 36, 37, 38, 39, 40, 41, 42, 43, 44, 45, 46, 47] (by decide +kernel) (by decide +kernel)
set_option maxRecDepth 20000 in
theorem gX0_actByDraw_X1_lowestWith : GoodIn wsX0_actByDraw (wsV RX0 107 RX1 yX1_lowestWith wsX1_lowestWith) := goodIn_app (goodIn_of _ (by decide +kernel)) ggX0_actByDraw_X1_lowestWith
theorem dX0_actByDraw_0 : decode cX0_actByDraw 0 = .ok (.ldc2_w 93, 3) := by decide +kernel
theorem dX0_actByDraw_3 : decode cX0_actByDraw 3 = .ok (.iload_n 1, 1) := by decide +kernel
theorem dX0_actByDraw_4 : decode cX0_actByDraw 4 = .ok (.i2l, 1) := by decide +kernel
theorem dX0_actByDraw_5 : decode cX0_actByDraw 5 = .ok (.lmul, 1) := by decide +kernel
theorem dX0_actByDraw_6 : decode cX0_actByDraw 6 = .ok (.ldc2_w 95, 3) := by decide +kernel
theorem dX0_actByDraw_9 : decode cX0_actByDraw 9 = .ok (.iload_n 2, 1) := by decide +kernel
theorem dX0_actByDraw_10 : decode cX0_actByDraw 10 = .ok (.i2l, 1) := by decide +kernel
theorem dX0_actByDraw_11 : decode cX0_actByDraw 11 = .ok (.lmul, 1) := by decide +kernel
theorem dX0_actByDraw_12 : decode cX0_actByDraw 12 = .ok (.ladd, 1) := by decide +kernel
theorem dX0_actByDraw_13 : decode cX0_actByDraw 13 = .ok (.lconst 1, 1) := by decide +kernel
theorem dX0_actByDraw_14 : decode cX0_actByDraw 14 = .ok (.ladd, 1) := by decide +kernel
theorem dX0_actByDraw_15 : decode cX0_actByDraw 15 = .ok (.lstore_n 3, 1) := by decide +kernel
theorem dX0_actByDraw_16 : decode cX0_actByDraw 16 = .ok (.lload_n 3, 1) := by decide +kernel
theorem dX0_actByDraw_17 : decode cX0_actByDraw 17 = .ok (.lload_n 3, 1) := by decide +kernel
theorem dX0_actByDraw_18 : decode cX0_actByDraw 18 = .ok (.lmul, 1) := by decide +kernel
theorem dX0_actByDraw_19 : decode cX0_actByDraw 19 = .ok (.ldc2_w 97, 3) := by decide +kernel
theorem dX0_actByDraw_22 : decode cX0_actByDraw 22 = .ok (.lrem, 1) := by decide +kernel
theorem dX0_actByDraw_23 : decode cX0_actByDraw 23 = .ok (.ldc2_w 99, 3) := by decide +kernel
theorem dX0_actByDraw_26 : decode cX0_actByDraw 26 = .ok (.ldiv, 1) := by decide +kernel
theorem dX0_actByDraw_27 : decode cX0_actByDraw 27 = .ok (.l2i, 1) := by decide +kernel
theorem dX0_actByDraw_28 : decode cX0_actByDraw 28 = .ok (.istore 5, 2) := by decide +kernel
theorem dX0_actByDraw_30 : decode cX0_actByDraw 30 = .ok (.iload 5, 2) := by decide +kernel
theorem dX0_actByDraw_32 : decode cX0_actByDraw 32 = .ok (.bipush 8, 2) := by decide +kernel
theorem dX0_actByDraw_34 : decode cX0_actByDraw 34 = .ok (.idiv, 1) := by decide +kernel
theorem dX0_actByDraw_35 : decode cX0_actByDraw 35 = .ok (.iconst 4, 1) := by decide +kernel
theorem dX0_actByDraw_36 : decode cX0_actByDraw 36 = .ok (.irem, 1) := by decide +kernel
theorem dX0_actByDraw_37 : decode cX0_actByDraw 37 = .ok (.istore 6, 2) := by decide +kernel
theorem dX0_actByDraw_39 : decode cX0_actByDraw 39 = .ok (.iload 6, 2) := by decide +kernel
theorem dX0_actByDraw_41 : decode cX0_actByDraw 41 = .ok (.ifCond .ne 29, 3) := by decide +kernel
theorem dX0_actByDraw_44 : decode cX0_actByDraw 44 = .ok (.aload_n 0, 1) := by decide +kernel
theorem dX0_actByDraw_45 : decode cX0_actByDraw 45 = .ok (.getfield 12, 3) := by decide +kernel
theorem dX0_actByDraw_48 : decode cX0_actByDraw 48 = .ok (.getfield 101, 3) := by decide +kernel
theorem dX0_actByDraw_51 : decode cX0_actByDraw 51 = .ok (.ifCond .le 19, 3) := by decide +kernel
theorem dX0_actByDraw_54 : decode cX0_actByDraw 54 = .ok (.aload_n 0, 1) := by decide +kernel
theorem dX0_actByDraw_55 : decode cX0_actByDraw 55 = .ok (.iload 5, 2) := by decide +kernel
theorem dX0_actByDraw_57 : decode cX0_actByDraw 57 = .ok (.iload 5, 2) := by decide +kernel
theorem dX0_actByDraw_59 : decode cX0_actByDraw 59 = .ok (.aload_n 0, 1) := by decide +kernel
theorem dX0_actByDraw_60 : decode cX0_actByDraw 60 = .ok (.getfield 12, 3) := by decide +kernel
theorem dX0_actByDraw_63 : decode cX0_actByDraw 63 = .ok (.getfield 101, 3) := by decide +kernel
theorem dX0_actByDraw_66 : decode cX0_actByDraw 66 = .ok (.irem, 1) := by decide +kernel
theorem dX0_actByDraw_67 : decode cX0_actByDraw 67 = .ok (.invokevirtual 104, 3) := by decide +kernel
theorem dX0_actByDraw_70 : decode cX0_actByDraw 70 = .ok (.iload 6, 2) := by decide +kernel
theorem dX0_actByDraw_72 : decode cX0_actByDraw 72 = .ok (.iconst 1, 1) := by decide +kernel
theorem dX0_actByDraw_73 : decode cX0_actByDraw 73 = .ok (.if_icmp .ne 31, 3) := by decide +kernel
theorem dX0_actByDraw_76 : decode cX0_actByDraw 76 = .ok (.aload_n 0, 1) := by decide +kernel
theorem dX0_actByDraw_77 : decode cX0_actByDraw 77 = .ok (.getfield 12, 3) := by decide +kernel
theorem dX0_actByDraw_80 : decode cX0_actByDraw 80 = .ok (.iconst 1, 1) := by decide +kernel
theorem dX0_actByDraw_81 : decode cX0_actByDraw 81 = .ok (.invokevirtual 107, 3) := by decide +kernel
theorem dX0_actByDraw_84 : decode cX0_actByDraw 84 = .ok (.istore 7, 2) := by decide +kernel
theorem dX0_actByDraw_86 : decode cX0_actByDraw 86 = .ok (.iload 7, 2) := by decide +kernel
theorem dX0_actByDraw_88 : decode cX0_actByDraw 88 = .ok (.bipush (-4), 2) := by decide +kernel
theorem dX0_actByDraw_90 : decode cX0_actByDraw 90 = .ok (.if_icmp .eq 14, 3) := by decide +kernel
theorem dX0_actByDraw_93 : decode cX0_actByDraw 93 = .ok (.aload_n 0, 1) := by decide +kernel
theorem dX0_actByDraw_94 : decode cX0_actByDraw 94 = .ok (.getfield 12, 3) := by decide +kernel
theorem dX0_actByDraw_97 : decode cX0_actByDraw 97 = .ok (.getfield 38, 3) := by decide +kernel
theorem dX0_actByDraw_100 : decode cX0_actByDraw 100 = .ok (.iload 7, 2) := by decide +kernel
theorem dX0_actByDraw_102 : decode cX0_actByDraw 102 = .ok (.iconst 0, 1) := by decide +kernel
theorem dX0_actByDraw_103 : decode cX0_actByDraw 103 = .ok (.iastore, 1) := by decide +kernel
theorem dX0_actByDraw_104 : decode cX0_actByDraw 104 = .ok (.return_, 1) := by decide +kernel
set_option maxRecDepth 20000 in
theorem ggX0_throwByDraw_X1_lowestWith : GoodIn wsX0_throwByDraw wsX1_lowestWith := goodIn_r _ [6, 7, 8, 24, 25, 26, 27, 28, 29, 30, 31, 32, 33, 34, 35, 36] (by decide +kernel) (by decide +kernel)
set_option maxRecDepth 20000 in
theorem gX0_throwByDraw_X1_lowestWith : GoodIn wsX0_throwByDraw (wsV RX0 107 RX1 yX1_lowestWith wsX1_lowestWith) := goodIn_app (goodIn_of _ (by decide +kernel)) ggX0_throwByDraw_X1_lowestWith
set_option maxRecDepth 20000 in
theorem ggX0_throwByDraw_X1_isOut : GoodIn wsX0_throwByDraw wsX1_isOut := goodIn_r _ [12, 13, 24, 25, 26, 27, 28, 29, 30, 31, 32, 33, 34, 35, 36] (by decide +kernel) (by decide +kernel)
set_option maxRecDepth 20000 in
theorem gX0_throwByDraw_X1_isOut : GoodIn wsX0_throwByDraw (wsV RX0 57 RX1 yX1_isOut wsX1_isOut) := goodIn_app (goodIn_of _ (by decide +kernel)) ggX0_throwByDraw_X1_isOut
set_option maxRecDepth 20000 in
theorem ggX0_throwByDraw_X1_putGlove : GoodIn wsX0_throwByDraw wsX1_putGlove := goodIn_r _ [17, 18, 19, 20, 8, 21, 22, 24, 25, 26, 27, 28, 29, 30, 31, 32, 33, 34, 35, 36] (by decide +kernel) (by decide +kernel)
set_option maxRecDepth 20000 in
theorem gX0_throwByDraw_X1_putGlove : GoodIn wsX0_throwByDraw (wsV RX0 110 RX1 yX1_putGlove wsX1_putGlove) := goodIn_app (goodIn_of _ (by decide +kernel)) ggX0_throwByDraw_X1_putGlove
theorem dX0_throwByDraw_0 : decode cX0_throwByDraw 0 = .ok (.aload_n 0, 1) := by decide +kernel
theorem dX0_throwByDraw_1 : decode cX0_throwByDraw 1 = .ok (.getfield 12, 3) := by decide +kernel
theorem dX0_throwByDraw_4 : decode cX0_throwByDraw 4 = .ok (.iconst 0, 1) := by decide +kernel
theorem dX0_throwByDraw_5 : decode cX0_throwByDraw 5 = .ok (.invokevirtual 107, 3) := by decide +kernel
theorem dX0_throwByDraw_8 : decode cX0_throwByDraw 8 = .ok (.istore_n 3, 1) := by decide +kernel
theorem dX0_throwByDraw_9 : decode cX0_throwByDraw 9 = .ok (.iload_n 3, 1) := by decide +kernel
theorem dX0_throwByDraw_10 : decode cX0_throwByDraw 10 = .ok (.bipush (-4), 2) := by decide +kernel
theorem dX0_throwByDraw_12 : decode cX0_throwByDraw 12 = .ok (.if_icmp .eq 39, 3) := by decide +kernel
theorem dX0_throwByDraw_15 : decode cX0_throwByDraw 15 = .ok (.aload_n 0, 1) := by decide +kernel
theorem dX0_throwByDraw_16 : decode cX0_throwByDraw 16 = .ok (.getfield 12, 3) := by decide +kernel
theorem dX0_throwByDraw_19 : decode cX0_throwByDraw 19 = .ok (.iload_n 2, 1) := by decide +kernel
theorem dX0_throwByDraw_20 : decode cX0_throwByDraw 20 = .ok (.invokevirtual 57, 3) := by decide +kernel
theorem dX0_throwByDraw_23 : decode cX0_throwByDraw 23 = .ok (.ifCond .ne 28, 3) := by decide +kernel
theorem dX0_throwByDraw_26 : decode cX0_throwByDraw 26 = .ok (.aload_n 0, 1) := by decide +kernel
theorem dX0_throwByDraw_27 : decode cX0_throwByDraw 27 = .ok (.getfield 12, 3) := by decide +kernel
theorem dX0_throwByDraw_30 : decode cX0_throwByDraw 30 = .ok (.iload_n 3, 1) := by decide +kernel
theorem dX0_throwByDraw_31 : decode cX0_throwByDraw 31 = .ok (.iload_n 1, 1) := by decide +kernel
theorem dX0_throwByDraw_32 : decode cX0_throwByDraw 32 = .ok (.bipush 32, 2) := by decide +kernel
theorem dX0_throwByDraw_34 : decode cX0_throwByDraw 34 = .ok (.idiv, 1) := by decide +kernel
theorem dX0_throwByDraw_35 : decode cX0_throwByDraw 35 = .ok (.iconst 4, 1) := by decide +kernel
theorem dX0_throwByDraw_36 : decode cX0_throwByDraw 36 = .ok (.irem, 1) := by decide +kernel
theorem dX0_throwByDraw_37 : decode cX0_throwByDraw 37 = .ok (.iload_n 1, 1) := by decide +kernel
theorem dX0_throwByDraw_38 : decode cX0_throwByDraw 38 = .ok (.sipush 128, 3) := by decide +kernel
theorem dX0_throwByDraw_41 : decode cX0_throwByDraw 41 = .ok (.idiv, 1) := by decide +kernel
theorem dX0_throwByDraw_42 : decode cX0_throwByDraw 42 = .ok (.bipush 20, 2) := by decide +kernel
theorem dX0_throwByDraw_44 : decode cX0_throwByDraw 44 = .ok (.irem, 1) := by decide +kernel
theorem dX0_throwByDraw_45 : decode cX0_throwByDraw 45 = .ok (.iconst 1, 1) := by decide +kernel
theorem dX0_throwByDraw_46 : decode cX0_throwByDraw 46 = .ok (.iadd, 1) := by decide +kernel
theorem dX0_throwByDraw_47 : decode cX0_throwByDraw 47 = .ok (.iload_n 2, 1) := by decide +kernel
theorem dX0_throwByDraw_48 : decode cX0_throwByDraw 48 = .ok (.invokevirtual 110, 3) := by decide +kernel
theorem dX0_throwByDraw_51 : decode cX0_throwByDraw 51 = .ok (.return_, 1) := by decide +kernel
theorem dX1_init_0 : decode cX1_init 0 = .ok (.aload_n 0, 1) := by decide +kernel
theorem dX1_init_1 : decode cX1_init 1 = .ok (.invokespecial 3, 3) := by decide +kernel
theorem dX1_init_4 : decode cX1_init 4 = .ok (.aload_n 0, 1) := by decide +kernel
theorem dX1_init_5 : decode cX1_init 5 = .ok (.iconst 0, 1) := by decide +kernel
theorem dX1_init_6 : decode cX1_init 6 = .ok (.putfield 9, 3) := by decide +kernel
theorem dX1_init_9 : decode cX1_init 9 = .ok (.aload_n 0, 1) := by decide +kernel
theorem dX1_init_10 : decode cX1_init 10 = .ok (.iconst 0, 1) := by decide +kernel
theorem dX1_init_11 : decode cX1_init 11 = .ok (.putfield 15, 3) := by decide +kernel
theorem dX1_init_14 : decode cX1_init 14 = .ok (.aload_n 0, 1) := by decide +kernel
theorem dX1_init_15 : decode cX1_init 15 = .ok (.iconst 0, 1) := by decide +kernel
theorem dX1_init_16 : decode cX1_init 16 = .ok (.putfield 18, 3) := by decide +kernel
theorem dX1_init_19 : decode cX1_init 19 = .ok (.aload_n 0, 1) := by decide +kernel
theorem dX1_init_20 : decode cX1_init 20 = .ok (.iconst 0, 1) := by decide +kernel
theorem dX1_init_21 : decode cX1_init 21 = .ok (.putfield 21, 3) := by decide +kernel
theorem dX1_init_24 : decode cX1_init 24 = .ok (.aload_n 0, 1) := by decide +kernel
theorem dX1_init_25 : decode cX1_init 25 = .ok (.bipush 6, 2) := by decide +kernel
theorem dX1_init_27 : decode cX1_init 27 = .ok (.newarray .int, 2) := by decide +kernel
theorem dX1_init_29 : decode cX1_init 29 = .ok (.putfield 24, 3) := by decide +kernel
theorem dX1_init_32 : decode cX1_init 32 = .ok (.aload_n 0, 1) := by decide +kernel
theorem dX1_init_33 : decode cX1_init 33 = .ok (.bipush 6, 2) := by decide +kernel
theorem dX1_init_35 : decode cX1_init 35 = .ok (.newarray .int, 2) := by decide +kernel
theorem dX1_init_37 : decode cX1_init 37 = .ok (.putfield 28, 3) := by decide +kernel
theorem dX1_init_40 : decode cX1_init 40 = .ok (.aload_n 0, 1) := by decide +kernel
theorem dX1_init_41 : decode cX1_init 41 = .ok (.bipush 6, 2) := by decide +kernel
theorem dX1_init_43 : decode cX1_init 43 = .ok (.newarray .int, 2) := by decide +kernel
theorem dX1_init_45 : decode cX1_init 45 = .ok (.putfield 31, 3) := by decide +kernel
theorem dX1_init_48 : decode cX1_init 48 = .ok (.aload_n 0, 1) := by decide +kernel
theorem dX1_init_49 : decode cX1_init 49 = .ok (.bipush 8, 2) := by decide +kernel
theorem dX1_init_51 : decode cX1_init 51 = .ok (.newarray .int, 2) := by decide +kernel
theorem dX1_init_53 : decode cX1_init 53 = .ok (.putfield 34, 3) := by decide +kernel
theorem dX1_init_56 : decode cX1_init 56 = .ok (.aload_n 0, 1) := by decide +kernel
theorem dX1_init_57 : decode cX1_init 57 = .ok (.bipush 8, 2) := by decide +kernel
theorem dX1_init_59 : decode cX1_init 59 = .ok (.newarray .int, 2) := by decide +kernel
theorem dX1_init_61 : decode cX1_init 61 = .ok (.putfield 37, 3) := by decide +kernel
theorem dX1_init_64 : decode cX1_init 64 = .ok (.aload_n 0, 1) := by decide +kernel
theorem dX1_init_65 : decode cX1_init 65 = .ok (.bipush 8, 2) := by decide +kernel
theorem dX1_init_67 : decode cX1_init 67 = .ok (.newarray .int, 2) := by decide +kernel
theorem dX1_init_69 : decode cX1_init 69 = .ok (.putfield 40, 3) := by decide +kernel
theorem dX1_init_72 : decode cX1_init 72 = .ok (.aload_n 0, 1) := by decide +kernel
theorem dX1_init_73 : decode cX1_init 73 = .ok (.bipush 8, 2) := by decide +kernel
theorem dX1_init_75 : decode cX1_init 75 = .ok (.newarray .int, 2) := by decide +kernel
theorem dX1_init_77 : decode cX1_init 77 = .ok (.putfield 43, 3) := by decide +kernel
theorem dX1_init_80 : decode cX1_init 80 = .ok (.aload_n 0, 1) := by decide +kernel
theorem dX1_init_81 : decode cX1_init 81 = .ok (.bipush 8, 2) := by decide +kernel
theorem dX1_init_83 : decode cX1_init 83 = .ok (.newarray .int, 2) := by decide +kernel
theorem dX1_init_85 : decode cX1_init 85 = .ok (.putfield 46, 3) := by decide +kernel
theorem dX1_init_88 : decode cX1_init 88 = .ok (.aload_n 0, 1) := by decide +kernel
theorem dX1_init_89 : decode cX1_init 89 = .ok (.bipush 8, 2) := by decide +kernel
theorem dX1_init_91 : decode cX1_init 91 = .ok (.newarray .int, 2) := by decide +kernel
theorem dX1_init_93 : decode cX1_init 93 = .ok (.putfield 49, 3) := by decide +kernel
theorem dX1_init_96 : decode cX1_init 96 = .ok (.return_, 1) := by decide +kernel
theorem dX1_empty_0 : decode cX1_empty 0 = .ok (.aload_n 0, 1) := by decide +kernel
theorem dX1_empty_1 : decode cX1_empty 1 = .ok (.iconst 0, 1) := by decide +kernel
theorem dX1_empty_2 : decode cX1_empty 2 = .ok (.putfield 9, 3) := by decide +kernel
theorem dX1_empty_5 : decode cX1_empty 5 = .ok (.aload_n 0, 1) := by decide +kernel
theorem dX1_empty_6 : decode cX1_empty 6 = .ok (.iconst 0, 1) := by decide +kernel
theorem dX1_empty_7 : decode cX1_empty 7 = .ok (.putfield 15, 3) := by decide +kernel
theorem dX1_empty_10 : decode cX1_empty 10 = .ok (.aload_n 0, 1) := by decide +kernel
theorem dX1_empty_11 : decode cX1_empty 11 = .ok (.iconst 0, 1) := by decide +kernel
theorem dX1_empty_12 : decode cX1_empty 12 = .ok (.putfield 18, 3) := by decide +kernel
theorem dX1_empty_15 : decode cX1_empty 15 = .ok (.aload_n 0, 1) := by decide +kernel
theorem dX1_empty_16 : decode cX1_empty 16 = .ok (.iconst 0, 1) := by decide +kernel
theorem dX1_empty_17 : decode cX1_empty 17 = .ok (.putfield 21, 3) := by decide +kernel
theorem dX1_empty_20 : decode cX1_empty 20 = .ok (.return_, 1) := by decide +kernel
theorem dX1_copyFrom_0 : decode cX1_copyFrom 0 = .ok (.aload_n 1, 1) := by decide +kernel
theorem dX1_copyFrom_1 : decode cX1_copyFrom 1 = .ok (.ifnonnull 4, 3) := by decide +kernel
theorem dX1_copyFrom_4 : decode cX1_copyFrom 4 = .ok (.return_, 1) := by decide +kernel
theorem dX1_copyFrom_5 : decode cX1_copyFrom 5 = .ok (.aload_n 0, 1) := by decide +kernel
theorem dX1_copyFrom_6 : decode cX1_copyFrom 6 = .ok (.aload_n 1, 1) := by decide +kernel
theorem dX1_copyFrom_7 : decode cX1_copyFrom 7 = .ok (.getfield 9, 3) := by decide +kernel
theorem dX1_copyFrom_10 : decode cX1_copyFrom 10 = .ok (.putfield 9, 3) := by decide +kernel
theorem dX1_copyFrom_13 : decode cX1_copyFrom 13 = .ok (.aload_n 0, 1) := by decide +kernel
theorem dX1_copyFrom_14 : decode cX1_copyFrom 14 = .ok (.aload_n 1, 1) := by decide +kernel
theorem dX1_copyFrom_15 : decode cX1_copyFrom 15 = .ok (.getfield 15, 3) := by decide +kernel
theorem dX1_copyFrom_18 : decode cX1_copyFrom 18 = .ok (.putfield 15, 3) := by decide +kernel
theorem dX1_copyFrom_21 : decode cX1_copyFrom 21 = .ok (.aload_n 0, 1) := by decide +kernel
theorem dX1_copyFrom_22 : decode cX1_copyFrom 22 = .ok (.aload_n 1, 1) := by decide +kernel
theorem dX1_copyFrom_23 : decode cX1_copyFrom 23 = .ok (.getfield 18, 3) := by decide +kernel
theorem dX1_copyFrom_26 : decode cX1_copyFrom 26 = .ok (.putfield 18, 3) := by decide +kernel
theorem dX1_copyFrom_29 : decode cX1_copyFrom 29 = .ok (.aload_n 0, 1) := by decide +kernel
theorem dX1_copyFrom_30 : decode cX1_copyFrom 30 = .ok (.aload_n 1, 1) := by decide +kernel
theorem dX1_copyFrom_31 : decode cX1_copyFrom 31 = .ok (.getfield 21, 3) := by decide +kernel
theorem dX1_copyFrom_34 : decode cX1_copyFrom 34 = .ok (.putfield 21, 3) := by decide +kernel
theorem dX1_copyFrom_37 : decode cX1_copyFrom 37 = .ok (.aload_n 1, 1) := by decide +kernel
theorem dX1_copyFrom_38 : decode cX1_copyFrom 38 = .ok (.getfield 24, 3) := by decide +kernel
theorem dX1_copyFrom_41 : decode cX1_copyFrom 41 = .ok (.iconst 0, 1) := by decide +kernel
theorem dX1_copyFrom_42 : decode cX1_copyFrom 42 = .ok (.aload_n 0, 1) := by decide +kernel
theorem dX1_copyFrom_43 : decode cX1_copyFrom 43 = .ok (.getfield 24, 3) := by decide +kernel
theorem dX1_copyFrom_46 : decode cX1_copyFrom 46 = .ok (.iconst 0, 1) := by decide +kernel
theorem dX1_copyFrom_47 : decode cX1_copyFrom 47 = .ok (.bipush 6, 2) := by decide +kernel
theorem dX1_copyFrom_49 : decode cX1_copyFrom 49 = .ok (.invokestatic 52, 3) := by decide +kernel
theorem dX1_copyFrom_52 : decode cX1_copyFrom 52 = .ok (.aload_n 1, 1) := by decide +kernel
theorem dX1_copyFrom_53 : decode cX1_copyFrom 53 = .ok (.getfield 28, 3) := by decide +kernel
theorem dX1_copyFrom_56 : decode cX1_copyFrom 56 = .ok (.iconst 0, 1) := by decide +kernel
theorem dX1_copyFrom_57 : decode cX1_copyFrom 57 = .ok (.aload_n 0, 1) := by decide +kernel
theorem dX1_copyFrom_58 : decode cX1_copyFrom 58 = .ok (.getfield 28, 3) := by decide +kernel
theorem dX1_copyFrom_61 : decode cX1_copyFrom 61 = .ok (.iconst 0, 1) := by decide +kernel
theorem dX1_copyFrom_62 : decode cX1_copyFrom 62 = .ok (.bipush 6, 2) := by decide +kernel
theorem dX1_copyFrom_64 : decode cX1_copyFrom 64 = .ok (.invokestatic 52, 3) := by decide +kernel
theorem dX1_copyFrom_67 : decode cX1_copyFrom 67 = .ok (.aload_n 1, 1) := by decide +kernel
theorem dX1_copyFrom_68 : decode cX1_copyFrom 68 = .ok (.getfield 31, 3) := by decide +kernel
theorem dX1_copyFrom_71 : decode cX1_copyFrom 71 = .ok (.iconst 0, 1) := by decide +kernel
theorem dX1_copyFrom_72 : decode cX1_copyFrom 72 = .ok (.aload_n 0, 1) := by decide +kernel
theorem dX1_copyFrom_73 : decode cX1_copyFrom 73 = .ok (.getfield 31, 3) := by decide +kernel
theorem dX1_copyFrom_76 : decode cX1_copyFrom 76 = .ok (.iconst 0, 1) := by decide +kernel
theorem dX1_copyFrom_77 : decode cX1_copyFrom 77 = .ok (.bipush 6, 2) := by decide +kernel
theorem dX1_copyFrom_79 : decode cX1_copyFrom 79 = .ok (.invokestatic 52, 3) := by decide +kernel
theorem dX1_copyFrom_82 : decode cX1_copyFrom 82 = .ok (.aload_n 1, 1) := by decide +kernel
theorem dX1_copyFrom_83 : decode cX1_copyFrom 83 = .ok (.getfield 34, 3) := by decide +kernel
theorem dX1_copyFrom_86 : decode cX1_copyFrom 86 = .ok (.iconst 0, 1) := by decide +kernel
theorem dX1_copyFrom_87 : decode cX1_copyFrom 87 = .ok (.aload_n 0, 1) := by decide +kernel
theorem dX1_copyFrom_88 : decode cX1_copyFrom 88 = .ok (.getfield 34, 3) := by decide +kernel
theorem dX1_copyFrom_91 : decode cX1_copyFrom 91 = .ok (.iconst 0, 1) := by decide +kernel
theorem dX1_copyFrom_92 : decode cX1_copyFrom 92 = .ok (.bipush 8, 2) := by decide +kernel
theorem dX1_copyFrom_94 : decode cX1_copyFrom 94 = .ok (.invokestatic 52, 3) := by decide +kernel
theorem dX1_copyFrom_97 : decode cX1_copyFrom 97 = .ok (.aload_n 1, 1) := by decide +kernel
theorem dX1_copyFrom_98 : decode cX1_copyFrom 98 = .ok (.getfield 37, 3) := by decide +kernel
theorem dX1_copyFrom_101 : decode cX1_copyFrom 101 = .ok (.iconst 0, 1) := by decide +kernel
theorem dX1_copyFrom_102 : decode cX1_copyFrom 102 = .ok (.aload_n 0, 1) := by decide +kernel
theorem dX1_copyFrom_103 : decode cX1_copyFrom 103 = .ok (.getfield 37, 3) := by decide +kernel
theorem dX1_copyFrom_106 : decode cX1_copyFrom 106 = .ok (.iconst 0, 1) := by decide +kernel
theorem dX1_copyFrom_107 : decode cX1_copyFrom 107 = .ok (.bipush 8, 2) := by decide +kernel
theorem dX1_copyFrom_109 : decode cX1_copyFrom 109 = .ok (.invokestatic 52, 3) := by decide +kernel
theorem dX1_copyFrom_112 : decode cX1_copyFrom 112 = .ok (.aload_n 1, 1) := by decide +kernel
theorem dX1_copyFrom_113 : decode cX1_copyFrom 113 = .ok (.getfield 40, 3) := by decide +kernel
theorem dX1_copyFrom_116 : decode cX1_copyFrom 116 = .ok (.iconst 0, 1) := by decide +kernel
theorem dX1_copyFrom_117 : decode cX1_copyFrom 117 = .ok (.aload_n 0, 1) := by decide +kernel
theorem dX1_copyFrom_118 : decode cX1_copyFrom 118 = .ok (.getfield 40, 3) := by decide +kernel
theorem dX1_copyFrom_121 : decode cX1_copyFrom 121 = .ok (.iconst 0, 1) := by decide +kernel
theorem dX1_copyFrom_122 : decode cX1_copyFrom 122 = .ok (.bipush 8, 2) := by decide +kernel
theorem dX1_copyFrom_124 : decode cX1_copyFrom 124 = .ok (.invokestatic 52, 3) := by decide +kernel
theorem dX1_copyFrom_127 : decode cX1_copyFrom 127 = .ok (.aload_n 1, 1) := by decide +kernel
theorem dX1_copyFrom_128 : decode cX1_copyFrom 128 = .ok (.getfield 43, 3) := by decide +kernel
theorem dX1_copyFrom_131 : decode cX1_copyFrom 131 = .ok (.iconst 0, 1) := by decide +kernel
theorem dX1_copyFrom_132 : decode cX1_copyFrom 132 = .ok (.aload_n 0, 1) := by decide +kernel
theorem dX1_copyFrom_133 : decode cX1_copyFrom 133 = .ok (.getfield 43, 3) := by decide +kernel
theorem dX1_copyFrom_136 : decode cX1_copyFrom 136 = .ok (.iconst 0, 1) := by decide +kernel
theorem dX1_copyFrom_137 : decode cX1_copyFrom 137 = .ok (.bipush 8, 2) := by decide +kernel
theorem dX1_copyFrom_139 : decode cX1_copyFrom 139 = .ok (.invokestatic 52, 3) := by decide +kernel
theorem dX1_copyFrom_142 : decode cX1_copyFrom 142 = .ok (.aload_n 1, 1) := by decide +kernel
theorem dX1_copyFrom_143 : decode cX1_copyFrom 143 = .ok (.getfield 46, 3) := by decide +kernel
theorem dX1_copyFrom_146 : decode cX1_copyFrom 146 = .ok (.iconst 0, 1) := by decide +kernel
theorem dX1_copyFrom_147 : decode cX1_copyFrom 147 = .ok (.aload_n 0, 1) := by decide +kernel
