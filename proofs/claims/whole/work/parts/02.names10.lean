theorem dX6_hands_19 : decode cX6_hands 19 = .ok (.ireturn, 1) := by decide +kernel
theorem dX6_hands_20 : decode cX6_hands 20 = .ok (.iconst 0, 1) := by decide +kernel
theorem dX6_hands_21 : decode cX6_hands 21 = .ok (.istore_n 3, 1) := by decide +kernel
theorem dX6_hands_22 : decode cX6_hands 22 = .ok (.bipush (-4), 2) := by decide +kernel
theorem dX6_hands_24 : decode cX6_hands 24 = .ok (.istore 4, 2) := by decide +kernel
theorem dX6_hands_26 : decode cX6_hands 26 = .ok (.bipush 20, 2) := by decide +kernel
theorem dX6_hands_28 : decode cX6_hands 28 = .ok (.istore 5, 2) := by decide +kernel
theorem dX6_hands_30 : decode cX6_hands 30 = .ok (.iload 5, 2) := by decide +kernel
theorem dX6_hands_32 : decode cX6_hands 32 = .ok (.ifCond .le 49, 3) := by decide +kernel
theorem dX6_hands_35 : decode cX6_hands 35 = .ok (.aload_n 0, 1) := by decide +kernel
theorem dX6_hands_36 : decode cX6_hands 36 = .ok (.iload_n 1, 1) := by decide +kernel
theorem dX6_hands_37 : decode cX6_hands 37 = .ok (.iload 5, 2) := by decide +kernel
theorem dX6_hands_39 : decode cX6_hands 39 = .ok (.bipush (-4), 2) := by decide +kernel
theorem dX6_hands_41 : decode cX6_hands 41 = .ok (.iconst 0, 1) := by decide +kernel
theorem dX6_hands_42 : decode cX6_hands 42 = .ok (.iconst 0, 1) := by decide +kernel
theorem dX6_hands_43 : decode cX6_hands 43 = .ok (.invokevirtual 163, 3) := by decide +kernel
theorem dX6_hands_46 : decode cX6_hands 46 = .ok (.istore 6, 2) := by decide +kernel
theorem dX6_hands_48 : decode cX6_hands 48 = .ok (.iload_n 3, 1) := by decide +kernel
theorem dX6_hands_49 : decode cX6_hands 49 = .ok (.iload 6, 2) := by decide +kernel
theorem dX6_hands_51 : decode cX6_hands 51 = .ok (.ifCond .eq 7, 3) := by decide +kernel
theorem dX6_hands_54 : decode cX6_hands 54 = .ok (.iconst 1, 1) := by decide +kernel
theorem dX6_hands_55 : decode cX6_hands 55 = .ok (.goto 4, 3) := by decide +kernel
theorem dX6_hands_58 : decode cX6_hands 58 = .ok (.iconst 0, 1) := by decide +kernel
theorem dX6_hands_59 : decode cX6_hands 59 = .ok (.iadd, 1) := by decide +kernel
theorem dX6_hands_60 : decode cX6_hands 60 = .ok (.istore_n 3, 1) := by decide +kernel
theorem dX6_hands_61 : decode cX6_hands 61 = .ok (.iload 6, 2) := by decide +kernel
theorem dX6_hands_63 : decode cX6_hands 63 = .ok (.ifCond .eq 8, 3) := by decide +kernel
theorem dX6_hands_66 : decode cX6_hands 66 = .ok (.iload 5, 2) := by decide +kernel
theorem dX6_hands_68 : decode cX6_hands 68 = .ok (.goto 5, 3) := by decide +kernel
theorem dX6_hands_71 : decode cX6_hands 71 = .ok (.iload 4, 2) := by decide +kernel
theorem dX6_hands_73 : decode cX6_hands 73 = .ok (.istore 4, 2) := by decide +kernel
theorem dX6_hands_75 : decode cX6_hands 75 = .ok (.iinc 5 (-1), 3) := by decide +kernel
theorem dX6_hands_78 : decode cX6_hands 78 = .ok (.goto (-48), 3) := by decide +kernel
theorem dX6_hands_81 : decode cX6_hands 81 = .ok (.iload_n 2, 1) := by decide +kernel
theorem dX6_hands_82 : decode cX6_hands 82 = .ok (.ifCond .ne 7, 3) := by decide +kernel
theorem dX6_hands_85 : decode cX6_hands 85 = .ok (.iload_n 3, 1) := by decide +kernel
theorem dX6_hands_86 : decode cX6_hands 86 = .ok (.goto 5, 3) := by decide +kernel
theorem dX6_hands_89 : decode cX6_hands 89 = .ok (.iload 4, 2) := by decide +kernel
theorem dX6_hands_91 : decode cX6_hands 91 = .ok (.ireturn, 1) := by decide +kernel
set_option maxRecDepth 20000 in
theorem ggX6_kinds_X6_isGlove : GoodIn wsX6_kinds wsX6_isGlove := goodIn_r _ [6, 1, 7, 8, 5, 9, 20, 21, 22, 23, 24, 25, 26, 27, 28, 29, 30, 31, 32, 33, 34] (by decide +kernel) (by decide +kernel)
set_option maxRecDepth 20000 in
theorem gX6_kinds_X6_isGlove : GoodIn wsX6_kinds (wsV RX6 131 RX6 yX6_isGlove wsX6_isGlove) := goodIn_app (goodIn_of _ (by decide +kernel)) ggX6_kinds_X6_isGlove
set_option maxRecDepth 20000 in
theorem ggX6_kinds_X6_isSeen : GoodIn wsX6_kinds wsX6_isSeen := goodIn_r _ [13, 14, 15, 1, 16, 17, 18, 5, 19, 20, 21, 22, 23, 24, 25, 26, 27, 28, 29, 30, 31, 32, 33, 34] (by decide +kernel) (by decide +kernel)
set_option maxRecDepth 20000 in
theorem gX6_kinds_X6_isSeen : GoodIn wsX6_kinds (wsV RX6 163 RX6 yX6_isSeen wsX6_isSeen) := goodIn_app (goodIn_of _ (by decide +kernel)) ggX6_kinds_X6_isSeen
theorem dX6_kinds_0 : decode cX6_kinds 0 = .ok (.aload_n 0, 1) := by decide +kernel
theorem dX6_kinds_1 : decode cX6_kinds 1 = .ok (.iload_n 1, 1) := by decide +kernel
theorem dX6_kinds_2 : decode cX6_kinds 2 = .ok (.invokevirtual 131, 3) := by decide +kernel
theorem dX6_kinds_5 : decode cX6_kinds 5 = .ok (.ifCond .ne 5, 3) := by decide +kernel
theorem dX6_kinds_8 : decode cX6_kinds 8 = .ok (.iconst (-1), 1) := by decide +kernel
theorem dX6_kinds_9 : decode cX6_kinds 9 = .ok (.ireturn, 1) := by decide +kernel
theorem dX6_kinds_10 : decode cX6_kinds 10 = .ok (.iconst 0, 1) := by decide +kernel
theorem dX6_kinds_11 : decode cX6_kinds 11 = .ok (.istore_n 2, 1) := by decide +kernel
theorem dX6_kinds_12 : decode cX6_kinds 12 = .ok (.iconst 0, 1) := by decide +kernel
theorem dX6_kinds_13 : decode cX6_kinds 13 = .ok (.istore_n 3, 1) := by decide +kernel
theorem dX6_kinds_14 : decode cX6_kinds 14 = .ok (.iload_n 3, 1) := by decide +kernel
theorem dX6_kinds_15 : decode cX6_kinds 15 = .ok (.iconst 4, 1) := by decide +kernel
theorem dX6_kinds_16 : decode cX6_kinds 16 = .ok (.if_icmp .ge 40, 3) := by decide +kernel
theorem dX6_kinds_19 : decode cX6_kinds 19 = .ok (.iload_n 2, 1) := by decide +kernel
theorem dX6_kinds_20 : decode cX6_kinds 20 = .ok (.aload_n 0, 1) := by decide +kernel
theorem dX6_kinds_21 : decode cX6_kinds 21 = .ok (.bipush (-4), 2) := by decide +kernel
theorem dX6_kinds_23 : decode cX6_kinds 23 = .ok (.iconst 0, 1) := by decide +kernel
theorem dX6_kinds_24 : decode cX6_kinds 24 = .ok (.iload_n 1, 1) := by decide +kernel
theorem dX6_kinds_25 : decode cX6_kinds 25 = .ok (.iload_n 3, 1) := by decide +kernel
theorem dX6_kinds_26 : decode cX6_kinds 26 = .ok (.aload_n 0, 1) := by decide +kernel
theorem dX6_kinds_27 : decode cX6_kinds 27 = .ok (.getfield 22, 3) := by decide +kernel
theorem dX6_kinds_30 : decode cX6_kinds 30 = .ok (.bipush 18, 2) := by decide +kernel
theorem dX6_kinds_32 : decode cX6_kinds 32 = .ok (.iload_n 1, 1) := by decide +kernel
theorem dX6_kinds_33 : decode cX6_kinds 33 = .ok (.iadd, 1) := by decide +kernel
theorem dX6_kinds_34 : decode cX6_kinds 34 = .ok (.iaload, 1) := by decide +kernel
theorem dX6_kinds_35 : decode cX6_kinds 35 = .ok (.invokevirtual 163, 3) := by decide +kernel
theorem dX6_kinds_38 : decode cX6_kinds 38 = .ok (.ifCond .eq 9, 3) := by decide +kernel
theorem dX6_kinds_41 : decode cX6_kinds 41 = .ok (.iconst 1, 1) := by decide +kernel
theorem dX6_kinds_42 : decode cX6_kinds 42 = .ok (.iload_n 3, 1) := by decide +kernel
theorem dX6_kinds_43 : decode cX6_kinds 43 = .ok (.ishl, 1) := by decide +kernel
theorem dX6_kinds_44 : decode cX6_kinds 44 = .ok (.goto 4, 3) := by decide +kernel
theorem dX6_kinds_47 : decode cX6_kinds 47 = .ok (.iconst 0, 1) := by decide +kernel
theorem dX6_kinds_48 : decode cX6_kinds 48 = .ok (.ior, 1) := by decide +kernel
theorem dX6_kinds_49 : decode cX6_kinds 49 = .ok (.istore_n 2, 1) := by decide +kernel
theorem dX6_kinds_50 : decode cX6_kinds 50 = .ok (.iinc 3 1, 3) := by decide +kernel
theorem dX6_kinds_53 : decode cX6_kinds 53 = .ok (.goto (-39), 3) := by decide +kernel
theorem dX6_kinds_56 : decode cX6_kinds 56 = .ok (.iload_n 2, 1) := by decide +kernel
theorem dX6_kinds_57 : decode cX6_kinds 57 = .ok (.ireturn, 1) := by decide +kernel
set_option maxRecDepth 20000 in
theorem ggX6_sizes_X6_isGlove : GoodIn wsX6_sizes wsX6_isGlove := goodIn_r _ [6, 1, 7, 8, 5, 9, 20, 21, 22, 23, 24, 25, 26, 27, 28, 29, 30, 31, 32, 33, 34] (by decide +kernel) (by decide +kernel)
set_option maxRecDepth 20000 in
theorem gX6_sizes_X6_isGlove : GoodIn wsX6_sizes (wsV RX6 131 RX6 yX6_isGlove wsX6_isGlove) := goodIn_app (goodIn_of _ (by decide +kernel)) ggX6_sizes_X6_isGlove
set_option maxRecDepth 20000 in
theorem ggX6_sizes_X6_in : GoodIn wsX6_sizes wsX6_in := goodIn_r _ [9] (by decide +kernel) (by decide +kernel)
set_option maxRecDepth 20000 in
theorem gX6_sizes_X6_in : GoodIn wsX6_sizes (va_wsS RX6 57 yX6_in wsX6_in) := goodIn_app (goodIn_of _ (by decide +kernel)) ggX6_sizes_X6_in
set_option maxRecDepth 20000 in
theorem ggX6_sizes_X6_isSeen : GoodIn wsX6_sizes wsX6_isSeen := goodIn_r _ [13, 14, 15, 1, 16, 17, 18, 5, 19, 20, 21, 22, 23, 24, 25, 26, 27, 28, 29, 30, 31, 32, 33, 34] (by decide +kernel) (by decide +kernel)
set_option maxRecDepth 20000 in
theorem gX6_sizes_X6_isSeen : GoodIn wsX6_sizes (wsV RX6 163 RX6 yX6_isSeen wsX6_isSeen) := goodIn_app (goodIn_of _ (by decide +kernel)) ggX6_sizes_X6_isSeen
theorem dX6_sizes_0 : decode cX6_sizes 0 = .ok (.aload_n 0, 1) := by decide +kernel
theorem dX6_sizes_1 : decode cX6_sizes 1 = .ok (.iload_n 1, 1) := by decide +kernel
theorem dX6_sizes_2 : decode cX6_sizes 2 = .ok (.invokevirtual 131, 3) := by decide +kernel
theorem dX6_sizes_5 : decode cX6_sizes 5 = .ok (.ifCond .eq 13, 3) := by decide +kernel
theorem dX6_sizes_8 : decode cX6_sizes 8 = .ok (.iload_n 2, 1) := by decide +kernel
theorem dX6_sizes_9 : decode cX6_sizes 9 = .ok (.i2l, 1) := by decide +kernel
theorem dX6_sizes_10 : decode cX6_sizes 10 = .ok (.lconst 0, 1) := by decide +kernel
theorem dX6_sizes_11 : decode cX6_sizes 11 = .ok (.lconst 1, 1) := by decide +kernel
theorem dX6_sizes_12 : decode cX6_sizes 12 = .ok (.invokestatic 57, 3) := by decide +kernel
theorem dX6_sizes_15 : decode cX6_sizes 15 = .ok (.ifCond .ne 5, 3) := by decide +kernel
theorem dX6_sizes_18 : decode cX6_sizes 18 = .ok (.iconst (-1), 1) := by decide +kernel
theorem dX6_sizes_19 : decode cX6_sizes 19 = .ok (.ireturn, 1) := by decide +kernel
theorem dX6_sizes_20 : decode cX6_sizes 20 = .ok (.iconst 0, 1) := by decide +kernel
theorem dX6_sizes_21 : decode cX6_sizes 21 = .ok (.istore_n 3, 1) := by decide +kernel
theorem dX6_sizes_22 : decode cX6_sizes 22 = .ok (.bipush (-4), 2) := by decide +kernel
theorem dX6_sizes_24 : decode cX6_sizes 24 = .ok (.istore 4, 2) := by decide +kernel
theorem dX6_sizes_26 : decode cX6_sizes 26 = .ok (.bipush 20, 2) := by decide +kernel
theorem dX6_sizes_28 : decode cX6_sizes 28 = .ok (.istore 5, 2) := by decide +kernel
theorem dX6_sizes_30 : decode cX6_sizes 30 = .ok (.iload 5, 2) := by decide +kernel
theorem dX6_sizes_32 : decode cX6_sizes 32 = .ok (.ifCond .le 57, 3) := by decide +kernel
theorem dX6_sizes_35 : decode cX6_sizes 35 = .ok (.aload_n 0, 1) := by decide +kernel
theorem dX6_sizes_36 : decode cX6_sizes 36 = .ok (.bipush (-4), 2) := by decide +kernel
theorem dX6_sizes_38 : decode cX6_sizes 38 = .ok (.iconst 0, 1) := by decide +kernel
theorem dX6_sizes_39 : decode cX6_sizes 39 = .ok (.iload_n 1, 1) := by decide +kernel
theorem dX6_sizes_40 : decode cX6_sizes 40 = .ok (.aload_n 0, 1) := by decide +kernel
theorem dX6_sizes_41 : decode cX6_sizes 41 = .ok (.getfield 22, 3) := by decide +kernel
theorem dX6_sizes_44 : decode cX6_sizes 44 = .ok (.bipush 10, 2) := by decide +kernel
theorem dX6_sizes_46 : decode cX6_sizes 46 = .ok (.iload_n 1, 1) := by decide +kernel
theorem dX6_sizes_47 : decode cX6_sizes 47 = .ok (.iadd, 1) := by decide +kernel
theorem dX6_sizes_48 : decode cX6_sizes 48 = .ok (.iaload, 1) := by decide +kernel
theorem dX6_sizes_49 : decode cX6_sizes 49 = .ok (.iload 5, 2) := by decide +kernel
theorem dX6_sizes_51 : decode cX6_sizes 51 = .ok (.invokevirtual 163, 3) := by decide +kernel
theorem dX6_sizes_54 : decode cX6_sizes 54 = .ok (.istore 6, 2) := by decide +kernel
theorem dX6_sizes_56 : decode cX6_sizes 56 = .ok (.iload_n 3, 1) := by decide +kernel
theorem dX6_sizes_57 : decode cX6_sizes 57 = .ok (.iload 6, 2) := by decide +kernel
theorem dX6_sizes_59 : decode cX6_sizes 59 = .ok (.ifCond .eq 7, 3) := by decide +kernel
theorem dX6_sizes_62 : decode cX6_sizes 62 = .ok (.iconst 1, 1) := by decide +kernel
theorem dX6_sizes_63 : decode cX6_sizes 63 = .ok (.goto 4, 3) := by decide +kernel
theorem dX6_sizes_66 : decode cX6_sizes 66 = .ok (.iconst 0, 1) := by decide +kernel
theorem dX6_sizes_67 : decode cX6_sizes 67 = .ok (.iadd, 1) := by decide +kernel
theorem dX6_sizes_68 : decode cX6_sizes 68 = .ok (.istore_n 3, 1) := by decide +kernel
theorem dX6_sizes_69 : decode cX6_sizes 69 = .ok (.iload 6, 2) := by decide +kernel
theorem dX6_sizes_71 : decode cX6_sizes 71 = .ok (.ifCond .eq 8, 3) := by decide +kernel
theorem dX6_sizes_74 : decode cX6_sizes 74 = .ok (.iload 5, 2) := by decide +kernel
theorem dX6_sizes_76 : decode cX6_sizes 76 = .ok (.goto 5, 3) := by decide +kernel
theorem dX6_sizes_79 : decode cX6_sizes 79 = .ok (.iload 4, 2) := by decide +kernel
theorem dX6_sizes_81 : decode cX6_sizes 81 = .ok (.istore 4, 2) := by decide +kernel
theorem dX6_sizes_83 : decode cX6_sizes 83 = .ok (.iinc 5 (-1), 3) := by decide +kernel
theorem dX6_sizes_86 : decode cX6_sizes 86 = .ok (.goto (-56), 3) := by decide +kernel
theorem dX6_sizes_89 : decode cX6_sizes 89 = .ok (.iload_n 2, 1) := by decide +kernel
theorem dX6_sizes_90 : decode cX6_sizes 90 = .ok (.ifCond .ne 7, 3) := by decide +kernel
theorem dX6_sizes_93 : decode cX6_sizes 93 = .ok (.iload_n 3, 1) := by decide +kernel
theorem dX6_sizes_94 : decode cX6_sizes 94 = .ok (.goto 5, 3) := by decide +kernel
theorem dX6_sizes_97 : decode cX6_sizes 97 = .ok (.iload 4, 2) := by decide +kernel
theorem dX6_sizes_99 : decode cX6_sizes 99 = .ok (.ireturn, 1) := by decide +kernel
set_option maxRecDepth 20000 in
theorem ggX6_likely_X6_isPerson : GoodIn wsX6_likely wsX6_isPerson := goodIn_r _ [7, 8, 9, 10, 6, 11, 27, 28, 29, 30, 31, 32, 33, 34, 35, 36, 37, 38, 39, 40, 41] (by decide +kernel) (by decide +kernel)
set_option maxRecDepth 20000 in
theorem gX6_likely_X6_isPerson : GoodIn wsX6_likely (wsV RX6 127 RX6 yX6_isPerson wsX6_isPerson) := goodIn_app (goodIn_of _ (by decide +kernel)) ggX6_likely_X6_isPerson
set_option maxRecDepth 20000 in
theorem ggX6_likely_X6_in : GoodIn wsX6_likely wsX6_in := goodIn_r _ [11] (by decide +kernel) (by decide +kernel)
set_option maxRecDepth 20000 in
theorem gX6_likely_X6_in : GoodIn wsX6_likely (va_wsS RX6 57 yX6_in wsX6_in) := goodIn_app (goodIn_of _ (by decide +kernel)) ggX6_likely_X6_in
set_option maxRecDepth 20000 in
theorem ggX6_likely_X6_aside : GoodIn wsX6_likely wsX6_aside := goodIn_r _ [15, 16, 2, 27, 28, 29, 30, 31, 32, 33, 34, 35, 36, 37, 38, 39, 40, 41] (by decide +kernel) (by decide +kernel)
set_option maxRecDepth 20000 in
theorem gX6_likely_X6_aside : GoodIn wsX6_likely (wsV RX6 136 RX6 yX6_aside wsX6_aside) := goodIn_app (goodIn_of _ (by decide +kernel)) ggX6_likely_X6_aside
set_option maxRecDepth 20000 in
theorem ggX6_likely_X6_isFit : GoodIn wsX6_likely wsX6_isFit := goodIn_r _ [20, 16, 8, 21, 22, 6, 23, 24, 25, 26, 27, 28, 29, 30, 31, 32, 33, 34, 35, 36, 37, 38, 39, 40, 41] (by decide +kernel) (by decide +kernel)
set_option maxRecDepth 20000 in
theorem gX6_likely_X6_isFit : GoodIn wsX6_likely (wsV RX6 114 RX6 yX6_isFit wsX6_isFit) := goodIn_app (goodIn_of _ (by decide +kernel)) ggX6_likely_X6_isFit
theorem dX6_likely_0 : decode cX6_likely 0 = .ok (.aload_n 0, 1) := by decide +kernel
theorem dX6_likely_1 : decode cX6_likely 1 = .ok (.iload_n 1, 1) := by decide +kernel
theorem dX6_likely_2 : decode cX6_likely 2 = .ok (.invokevirtual 127, 3) := by decide +kernel
theorem dX6_likely_5 : decode cX6_likely 5 = .ok (.ifCond .eq 25, 3) := by decide +kernel
theorem dX6_likely_8 : decode cX6_likely 8 = .ok (.iload_n 2, 1) := by decide +kernel
theorem dX6_likely_9 : decode cX6_likely 9 = .ok (.i2l, 1) := by decide +kernel
theorem dX6_likely_10 : decode cX6_likely 10 = .ok (.lconst 0, 1) := by decide +kernel
theorem dX6_likely_11 : decode cX6_likely 11 = .ok (.ldc2_w 134, 3) := by decide +kernel
theorem dX6_likely_14 : decode cX6_likely 14 = .ok (.invokestatic 57, 3) := by decide +kernel
theorem dX6_likely_17 : decode cX6_likely 17 = .ok (.ifCond .eq 13, 3) := by decide +kernel
theorem dX6_likely_20 : decode cX6_likely 20 = .ok (.iload_n 3, 1) := by decide +kernel
theorem dX6_likely_21 : decode cX6_likely 21 = .ok (.i2l, 1) := by decide +kernel
theorem dX6_likely_22 : decode cX6_likely 22 = .ok (.lconst 0, 1) := by decide +kernel
theorem dX6_likely_23 : decode cX6_likely 23 = .ok (.lconst 1, 1) := by decide +kernel
theorem dX6_likely_24 : decode cX6_likely 24 = .ok (.invokestatic 57, 3) := by decide +kernel
theorem dX6_likely_27 : decode cX6_likely 27 = .ok (.ifCond .ne 5, 3) := by decide +kernel
theorem dX6_likely_30 : decode cX6_likely 30 = .ok (.iconst (-1), 1) := by decide +kernel
theorem dX6_likely_31 : decode cX6_likely 31 = .ok (.ireturn, 1) := by decide +kernel
theorem dX6_likely_32 : decode cX6_likely 32 = .ok (.aload_n 0, 1) := by decide +kernel
theorem dX6_likely_33 : decode cX6_likely 33 = .ok (.getfield 22, 3) := by decide +kernel
theorem dX6_likely_36 : decode cX6_likely 36 = .ok (.iconst 4, 1) := by decide +kernel
theorem dX6_likely_37 : decode cX6_likely 37 = .ok (.iload_n 1, 1) := by decide +kernel
theorem dX6_likely_38 : decode cX6_likely 38 = .ok (.iadd, 1) := by decide +kernel
theorem dX6_likely_39 : decode cX6_likely 39 = .ok (.iaload, 1) := by decide +kernel
theorem dX6_likely_40 : decode cX6_likely 40 = .ok (.ifCond .ne 6, 3) := by decide +kernel
theorem dX6_likely_43 : decode cX6_likely 43 = .ok (.bipush (-2), 2) := by decide +kernel
theorem dX6_likely_45 : decode cX6_likely 45 = .ok (.ireturn, 1) := by decide +kernel
theorem dX6_likely_46 : decode cX6_likely 46 = .ok (.aload_n 0, 1) := by decide +kernel
theorem dX6_likely_47 : decode cX6_likely 47 = .ok (.invokevirtual 136, 3) := by decide +kernel
theorem dX6_likely_50 : decode cX6_likely 50 = .ok (.iconst 1, 1) := by decide +kernel
theorem dX6_likely_51 : decode cX6_likely 51 = .ok (.istore 4, 2) := by decide +kernel
theorem dX6_likely_53 : decode cX6_likely 53 = .ok (.iconst 1, 1) := by decide +kernel
theorem dX6_likely_54 : decode cX6_likely 54 = .ok (.istore 5, 2) := by decide +kernel
theorem dX6_likely_56 : decode cX6_likely 56 = .ok (.iload_n 2, 1) := by decide +kernel
theorem dX6_likely_57 : decode cX6_likely 57 = .ok (.istore 6, 2) := by decide +kernel
theorem dX6_likely_59 : decode cX6_likely 59 = .ok (.iconst 0, 1) := by decide +kernel
theorem dX6_likely_60 : decode cX6_likely 60 = .ok (.istore 7, 2) := by decide +kernel
theorem dX6_likely_62 : decode cX6_likely 62 = .ok (.iload 7, 2) := by decide +kernel
theorem dX6_likely_64 : decode cX6_likely 64 = .ok (.aload_n 0, 1) := by decide +kernel
theorem dX6_likely_65 : decode cX6_likely 65 = .ok (.getfield 22, 3) := by decide +kernel
theorem dX6_likely_68 : decode cX6_likely 68 = .ok (.iconst 2, 1) := by decide +kernel
theorem dX6_likely_69 : decode cX6_likely 69 = .ok (.iaload, 1) := by decide +kernel
theorem dX6_likely_70 : decode cX6_likely 70 = .ok (.if_icmp .ge 121, 3) := by decide +kernel
theorem dX6_likely_73 : decode cX6_likely 73 = .ok (.iload 6, 2) := by decide +kernel
theorem dX6_likely_75 : decode cX6_likely 75 = .ok (.ifCond .le 17, 3) := by decide +kernel
theorem dX6_likely_78 : decode cX6_likely 78 = .ok (.aload_n 0, 1) := by decide +kernel
theorem dX6_likely_79 : decode cX6_likely 79 = .ok (.iload 7, 2) := by decide +kernel
theorem dX6_likely_81 : decode cX6_likely 81 = .ok (.iload_n 1, 1) := by decide +kernel
theorem dX6_likely_82 : decode cX6_likely 82 = .ok (.invokevirtual 114, 3) := by decide +kernel
theorem dX6_likely_85 : decode cX6_likely 85 = .ok (.ifCond .eq 7, 3) := by decide +kernel
theorem dX6_likely_88 : decode cX6_likely 88 = .ok (.iconst 1, 1) := by decide +kernel
theorem dX6_likely_89 : decode cX6_likely 89 = .ok (.goto 4, 3) := by decide +kernel
theorem dX6_likely_92 : decode cX6_likely 92 = .ok (.iconst 0, 1) := by decide +kernel
theorem dX6_likely_93 : decode cX6_likely 93 = .ok (.istore 8, 2) := by decide +kernel
theorem dX6_likely_95 : decode cX6_likely 95 = .ok (.iload 8, 2) := by decide +kernel
theorem dX6_likely_97 : decode cX6_likely 97 = .ok (.ifCond .eq 23, 3) := by decide +kernel
theorem dX6_likely_100 : decode cX6_likely 100 = .ok (.aload_n 0, 1) := by decide +kernel
theorem dX6_likely_101 : decode cX6_likely 101 = .ok (.getfield 22, 3) := by decide +kernel
theorem dX6_likely_104 : decode cX6_likely 104 = .ok (.iconst 4, 1) := by decide +kernel
theorem dX6_likely_105 : decode cX6_likely 105 = .ok (.aload_n 0, 1) := by decide +kernel
theorem dX6_likely_106 : decode cX6_likely 106 = .ok (.getfield 22, 3) := by decide +kernel
theorem dX6_likely_109 : decode cX6_likely 109 = .ok (.bipush 26, 2) := by decide +kernel
theorem dX6_likely_111 : decode cX6_likely 111 = .ok (.iload 7, 2) := by decide +kernel
theorem dX6_likely_113 : decode cX6_likely 113 = .ok (.iadd, 1) := by decide +kernel
theorem dX6_likely_114 : decode cX6_likely 114 = .ok (.iaload, 1) := by decide +kernel
theorem dX6_likely_115 : decode cX6_likely 115 = .ok (.iadd, 1) := by decide +kernel
theorem dX6_likely_116 : decode cX6_likely 116 = .ok (.iaload, 1) := by decide +kernel
theorem dX6_likely_117 : decode cX6_likely 117 = .ok (.goto 4, 3) := by decide +kernel
theorem dX6_likely_120 : decode cX6_likely 120 = .ok (.iconst 0, 1) := by decide +kernel
theorem dX6_likely_121 : decode cX6_likely 121 = .ok (.istore 9, 2) := by decide +kernel
theorem dX6_likely_123 : decode cX6_likely 123 = .ok (.iload 6, 2) := by decide +kernel
theorem dX6_likely_125 : decode cX6_likely 125 = .ok (.iload 8, 2) := by decide +kernel
theorem dX6_likely_127 : decode cX6_likely 127 = .ok (.ifCond .eq 7, 3) := by decide +kernel
theorem dX6_likely_130 : decode cX6_likely 130 = .ok (.iconst 1, 1) := by decide +kernel
theorem dX6_likely_131 : decode cX6_likely 131 = .ok (.goto 4, 3) := by decide +kernel
theorem dX6_likely_134 : decode cX6_likely 134 = .ok (.iconst 0, 1) := by decide +kernel
theorem dX6_likely_135 : decode cX6_likely 135 = .ok (.isub, 1) := by decide +kernel
theorem dX6_likely_136 : decode cX6_likely 136 = .ok (.istore 6, 2) := by decide +kernel
theorem dX6_likely_138 : decode cX6_likely 138 = .ok (.iload 4, 2) := by decide +kernel
theorem dX6_likely_140 : decode cX6_likely 140 = .ok (.iload 9, 2) := by decide +kernel
theorem dX6_likely_142 : decode cX6_likely 142 = .ok (.ifCond .le 14, 3) := by decide +kernel
theorem dX6_likely_145 : decode cX6_likely 145 = .ok (.aload_n 0, 1) := by decide +kernel
theorem dX6_likely_146 : decode cX6_likely 146 = .ok (.getfield 22, 3) := by decide +kernel
theorem dX6_likely_149 : decode cX6_likely 149 = .ok (.iconst 4, 1) := by decide +kernel
theorem dX6_likely_150 : decode cX6_likely 150 = .ok (.iload_n 1, 1) := by decide +kernel
theorem dX6_likely_151 : decode cX6_likely 151 = .ok (.iadd, 1) := by decide +kernel
theorem dX6_likely_152 : decode cX6_likely 152 = .ok (.iaload, 1) := by decide +kernel
theorem dX6_likely_153 : decode cX6_likely 153 = .ok (.goto 4, 3) := by decide +kernel
theorem dX6_likely_156 : decode cX6_likely 156 = .ok (.iconst 1, 1) := by decide +kernel
theorem dX6_likely_157 : decode cX6_likely 157 = .ok (.imul, 1) := by decide +kernel
theorem dX6_likely_158 : decode cX6_likely 158 = .ok (.istore 4, 2) := by decide +kernel
theorem dX6_likely_160 : decode cX6_likely 160 = .ok (.iload 5, 2) := by decide +kernel
theorem dX6_likely_162 : decode cX6_likely 162 = .ok (.iload 9, 2) := by decide +kernel
theorem dX6_likely_164 : decode cX6_likely 164 = .ok (.ifCond .le 17, 3) := by decide +kernel
theorem dX6_likely_167 : decode cX6_likely 167 = .ok (.aload_n 0, 1) := by decide +kernel
theorem dX6_likely_168 : decode cX6_likely 168 = .ok (.getfield 22, 3) := by decide +kernel
theorem dX6_likely_171 : decode cX6_likely 171 = .ok (.iconst 4, 1) := by decide +kernel
theorem dX6_likely_172 : decode cX6_likely 172 = .ok (.iload_n 1, 1) := by decide +kernel
theorem dX6_likely_173 : decode cX6_likely 173 = .ok (.iadd, 1) := by decide +kernel
theorem dX6_likely_174 : decode cX6_likely 174 = .ok (.iaload, 1) := by decide +kernel
theorem dX6_likely_175 : decode cX6_likely 175 = .ok (.iload 9, 2) := by decide +kernel
theorem dX6_likely_177 : decode cX6_likely 177 = .ok (.iadd, 1) := by decide +kernel
theorem dX6_likely_178 : decode cX6_likely 178 = .ok (.goto 4, 3) := by decide +kernel
theorem dX6_likely_181 : decode cX6_likely 181 = .ok (.iconst 1, 1) := by decide +kernel
theorem dX6_likely_182 : decode cX6_likely 182 = .ok (.imul, 1) := by decide +kernel
theorem dX6_likely_183 : decode cX6_likely 183 = .ok (.istore 5, 2) := by decide +kernel
theorem dX6_likely_185 : decode cX6_likely 185 = .ok (.iinc 7 1, 3) := by decide +kernel
theorem dX6_likely_188 : decode cX6_likely 188 = .ok (.goto (-126), 3) := by decide +kernel
theorem dX6_likely_191 : decode cX6_likely 191 = .ok (.iload 4, 2) := by decide +kernel
theorem dX6_likely_193 : decode cX6_likely 193 = .ok (.istore 7, 2) := by decide +kernel
theorem dX6_likely_195 : decode cX6_likely 195 = .ok (.iload 5, 2) := by decide +kernel
theorem dX6_likely_197 : decode cX6_likely 197 = .ok (.istore 8, 2) := by decide +kernel
theorem dX6_likely_199 : decode cX6_likely 199 = .ok (.iload 8, 2) := by decide +kernel
theorem dX6_likely_201 : decode cX6_likely 201 = .ok (.ifCond .eq 21, 3) := by decide +kernel
theorem dX6_likely_204 : decode cX6_likely 204 = .ok (.iload 7, 2) := by decide +kernel
theorem dX6_likely_206 : decode cX6_likely 206 = .ok (.iload 8, 2) := by decide +kernel
theorem dX6_likely_208 : decode cX6_likely 208 = .ok (.irem, 1) := by decide +kernel
theorem dX6_likely_209 : decode cX6_likely 209 = .ok (.istore 9, 2) := by decide +kernel
theorem dX6_likely_211 : decode cX6_likely 211 = .ok (.iload 8, 2) := by decide +kernel
theorem dX6_likely_213 : decode cX6_likely 213 = .ok (.istore 7, 2) := by decide +kernel
theorem dX6_likely_215 : decode cX6_likely 215 = .ok (.iload 9, 2) := by decide +kernel
theorem dX6_likely_217 : decode cX6_likely 217 = .ok (.istore 8, 2) := by decide +kernel
theorem dX6_likely_219 : decode cX6_likely 219 = .ok (.goto (-20), 3) := by decide +kernel
theorem dX6_likely_222 : decode cX6_likely 222 = .ok (.iload_n 3, 1) := by decide +kernel
theorem dX6_likely_223 : decode cX6_likely 223 = .ok (.ifCond .ne 11, 3) := by decide +kernel
theorem dX6_likely_226 : decode cX6_likely 226 = .ok (.iload 4, 2) := by decide +kernel
theorem dX6_likely_228 : decode cX6_likely 228 = .ok (.iload 7, 2) := by decide +kernel
theorem dX6_likely_230 : decode cX6_likely 230 = .ok (.idiv, 1) := by decide +kernel
theorem dX6_likely_231 : decode cX6_likely 231 = .ok (.goto 8, 3) := by decide +kernel
theorem dX6_likely_234 : decode cX6_likely 234 = .ok (.iload 5, 2) := by decide +kernel
theorem dX6_likely_236 : decode cX6_likely 236 = .ok (.iload 7, 2) := by decide +kernel
theorem dX6_likely_238 : decode cX6_likely 238 = .ok (.idiv, 1) := by decide +kernel
theorem dX6_likely_239 : decode cX6_likely 239 = .ok (.ireturn, 1) := by decide +kernel
set_option maxRecDepth 20000 in
theorem ggX6_lowestThat_X6_has : GoodIn wsX6_lowestThat wsX6_has := goodIn_r _ [5] (by decide +kernel) (by decide +kernel)
set_option maxRecDepth 20000 in
theorem gX6_lowestThat_X6_has : GoodIn wsX6_lowestThat (va_wsS RX6 102 yX6_has wsX6_has) := goodIn_app (goodIn_of _ (by decide +kernel)) ggX6_lowestThat_X6_has
theorem dX6_lowestThat_0 : decode cX6_lowestThat 0 = .ok (.bipush (-4), 2) := by decide +kernel
theorem dX6_lowestThat_2 : decode cX6_lowestThat 2 = .ok (.istore_n 2, 1) := by decide +kernel
theorem dX6_lowestThat_3 : decode cX6_lowestThat 3 = .ok (.aload_n 0, 1) := by decide +kernel
theorem dX6_lowestThat_4 : decode cX6_lowestThat 4 = .ok (.getfield 25, 3) := by decide +kernel
theorem dX6_lowestThat_7 : decode cX6_lowestThat 7 = .ok (.iconst 2, 1) := by decide +kernel
theorem dX6_lowestThat_8 : decode cX6_lowestThat 8 = .ok (.iaload, 1) := by decide +kernel
theorem dX6_lowestThat_9 : decode cX6_lowestThat 9 = .ok (.iconst 1, 1) := by decide +kernel
theorem dX6_lowestThat_10 : decode cX6_lowestThat 10 = .ok (.isub, 1) := by decide +kernel
theorem dX6_lowestThat_11 : decode cX6_lowestThat 11 = .ok (.istore_n 3, 1) := by decide +kernel
theorem dX6_lowestThat_12 : decode cX6_lowestThat 12 = .ok (.iload_n 3, 1) := by decide +kernel
theorem dX6_lowestThat_13 : decode cX6_lowestThat 13 = .ok (.ifCond .lt 29, 3) := by decide +kernel
theorem dX6_lowestThat_16 : decode cX6_lowestThat 16 = .ok (.aload_n 0, 1) := by decide +kernel
theorem dX6_lowestThat_17 : decode cX6_lowestThat 17 = .ok (.getfield 25, 3) := by decide +kernel
theorem dX6_lowestThat_20 : decode cX6_lowestThat 20 = .ok (.iconst 3, 1) := by decide +kernel
theorem dX6_lowestThat_21 : decode cX6_lowestThat 21 = .ok (.iaload, 1) := by decide +kernel
theorem dX6_lowestThat_22 : decode cX6_lowestThat 22 = .ok (.iload_n 3, 1) := by decide +kernel
theorem dX6_lowestThat_23 : decode cX6_lowestThat 23 = .ok (.invokestatic 102, 3) := by decide +kernel
theorem dX6_lowestThat_26 : decode cX6_lowestThat 26 = .ok (.iload_n 1, 1) := by decide +kernel
theorem dX6_lowestThat_27 : decode cX6_lowestThat 27 = .ok (.if_icmp .ne 7, 3) := by decide +kernel
theorem dX6_lowestThat_30 : decode cX6_lowestThat 30 = .ok (.iload_n 3, 1) := by decide +kernel
theorem dX6_lowestThat_31 : decode cX6_lowestThat 31 = .ok (.goto 4, 3) := by decide +kernel
theorem dX6_lowestThat_34 : decode cX6_lowestThat 34 = .ok (.iload_n 2, 1) := by decide +kernel
theorem dX6_lowestThat_35 : decode cX6_lowestThat 35 = .ok (.istore_n 2, 1) := by decide +kernel
theorem dX6_lowestThat_36 : decode cX6_lowestThat 36 = .ok (.iinc 3 (-1), 3) := by decide +kernel
theorem dX6_lowestThat_39 : decode cX6_lowestThat 39 = .ok (.goto (-27), 3) := by decide +kernel
theorem dX6_lowestThat_42 : decode cX6_lowestThat 42 = .ok (.iload_n 2, 1) := by decide +kernel
theorem dX6_lowestThat_43 : decode cX6_lowestThat 43 = .ok (.ireturn, 1) := by decide +kernel
set_option maxRecDepth 20000 in
theorem ggX6_goDrawn_X6_lowestThat : GoodIn wsX6_goDrawn wsX6_lowestThat := goodIn_r _ [7, 2, 8, 9, 6, 10, 15, 16, 17, 18, 19, 20, 21, 22, 23, 24, 25, 26, 27, 28, 29] (by decide +kernel) (by decide +kernel)
set_option maxRecDepth 20000 in
theorem gX6_goDrawn_X6_lowestThat : GoodIn wsX6_goDrawn (wsV RX6 167 RX6 yX6_lowestThat wsX6_lowestThat) := goodIn_app (goodIn_of _ (by decide +kernel)) ggX6_goDrawn_X6_lowestThat
set_option maxRecDepth 20000 in
theorem ggX6_goDrawn_X6_lays : GoodIn wsX6_goDrawn wsX6_lays := goodIn_r _ [14, 2, 15, 16, 17, 18, 19, 20, 21, 22, 23, 24, 25, 26, 27, 28, 29] (by decide +kernel) (by decide +kernel)
set_option maxRecDepth 20000 in
theorem gX6_goDrawn_X6_lays : GoodIn wsX6_goDrawn (wsV RX6 151 RX6 yX6_lays wsX6_lays) := goodIn_app (goodIn_of _ (by decide +kernel)) ggX6_goDrawn_X6_lays
theorem dX6_goDrawn_0 : decode cX6_goDrawn 0 = .ok (.iload_n 1, 1) := by decide +kernel
theorem dX6_goDrawn_1 : decode cX6_goDrawn 1 = .ok (.aload_n 0, 1) := by decide +kernel
theorem dX6_goDrawn_2 : decode cX6_goDrawn 2 = .ok (.getfield 13, 3) := by decide +kernel
theorem dX6_goDrawn_5 : decode cX6_goDrawn 5 = .ok (.iconst 0, 1) := by decide +kernel
theorem dX6_goDrawn_6 : decode cX6_goDrawn 6 = .ok (.iaload, 1) := by decide +kernel
theorem dX6_goDrawn_7 : decode cX6_goDrawn 7 = .ok (.irem, 1) := by decide +kernel
theorem dX6_goDrawn_8 : decode cX6_goDrawn 8 = .ok (.istore_n 2, 1) := by decide +kernel
theorem dX6_goDrawn_9 : decode cX6_goDrawn 9 = .ok (.iload_n 1, 1) := by decide +kernel
theorem dX6_goDrawn_10 : decode cX6_goDrawn 10 = .ok (.bipush 8, 2) := by decide +kernel
theorem dX6_goDrawn_12 : decode cX6_goDrawn 12 = .ok (.idiv, 1) := by decide +kernel
theorem dX6_goDrawn_13 : decode cX6_goDrawn 13 = .ok (.iconst 4, 1) := by decide +kernel
theorem dX6_goDrawn_14 : decode cX6_goDrawn 14 = .ok (.irem, 1) := by decide +kernel
theorem dX6_goDrawn_15 : decode cX6_goDrawn 15 = .ok (.istore_n 3, 1) := by decide +kernel
theorem dX6_goDrawn_16 : decode cX6_goDrawn 16 = .ok (.aload_n 0, 1) := by decide +kernel
theorem dX6_goDrawn_17 : decode cX6_goDrawn 17 = .ok (.iload_n 3, 1) := by decide +kernel
theorem dX6_goDrawn_18 : decode cX6_goDrawn 18 = .ok (.iconst 1, 1) := by decide +kernel
theorem dX6_goDrawn_19 : decode cX6_goDrawn 19 = .ok (.if_icmp .ne 7, 3) := by decide +kernel
theorem dX6_goDrawn_22 : decode cX6_goDrawn 22 = .ok (.iconst 1, 1) := by decide +kernel
theorem dX6_goDrawn_23 : decode cX6_goDrawn 23 = .ok (.goto 4, 3) := by decide +kernel
theorem dX6_goDrawn_26 : decode cX6_goDrawn 26 = .ok (.iconst 0, 1) := by decide +kernel
theorem dX6_goDrawn_27 : decode cX6_goDrawn 27 = .ok (.invokevirtual 167, 3) := by decide +kernel
theorem dX6_goDrawn_30 : decode cX6_goDrawn 30 = .ok (.istore 4, 2) := by decide +kernel
theorem dX6_goDrawn_32 : decode cX6_goDrawn 32 = .ok (.iload 4, 2) := by decide +kernel
theorem dX6_goDrawn_34 : decode cX6_goDrawn 34 = .ok (.bipush (-4), 2) := by decide +kernel
theorem dX6_goDrawn_36 : decode cX6_goDrawn 36 = .ok (.if_icmp .ne 4, 3) := by decide +kernel
theorem dX6_goDrawn_39 : decode cX6_goDrawn 39 = .ok (.return_, 1) := by decide +kernel
theorem dX6_goDrawn_40 : decode cX6_goDrawn 40 = .ok (.iload_n 3, 1) := by decide +kernel
theorem dX6_goDrawn_41 : decode cX6_goDrawn 41 = .ok (.ifCond .ne 37, 3) := by decide +kernel
theorem dX6_goDrawn_44 : decode cX6_goDrawn 44 = .ok (.aload_n 0, 1) := by decide +kernel
theorem dX6_goDrawn_45 : decode cX6_goDrawn 45 = .ok (.getfield 25, 3) := by decide +kernel
theorem dX6_goDrawn_48 : decode cX6_goDrawn 48 = .ok (.iconst 4, 1) := by decide +kernel
theorem dX6_goDrawn_49 : decode cX6_goDrawn 49 = .ok (.iload_n 2, 1) := by decide +kernel
theorem dX6_goDrawn_50 : decode cX6_goDrawn 50 = .ok (.iadd, 1) := by decide +kernel
theorem dX6_goDrawn_51 : decode cX6_goDrawn 51 = .ok (.iaload, 1) := by decide +kernel
theorem dX6_goDrawn_52 : decode cX6_goDrawn 52 = .ok (.ifCond .le 26, 3) := by decide +kernel
theorem dX6_goDrawn_55 : decode cX6_goDrawn 55 = .ok (.aload_n 0, 1) := by decide +kernel
theorem dX6_goDrawn_56 : decode cX6_goDrawn 56 = .ok (.iload 4, 2) := by decide +kernel
theorem dX6_goDrawn_58 : decode cX6_goDrawn 58 = .ok (.iload_n 1, 1) := by decide +kernel
theorem dX6_goDrawn_59 : decode cX6_goDrawn 59 = .ok (.bipush 32, 2) := by decide +kernel
theorem dX6_goDrawn_61 : decode cX6_goDrawn 61 = .ok (.idiv, 1) := by decide +kernel
theorem dX6_goDrawn_62 : decode cX6_goDrawn 62 = .ok (.iconst 4, 1) := by decide +kernel
theorem dX6_goDrawn_63 : decode cX6_goDrawn 63 = .ok (.irem, 1) := by decide +kernel
theorem dX6_goDrawn_64 : decode cX6_goDrawn 64 = .ok (.iload_n 1, 1) := by decide +kernel
theorem dX6_goDrawn_65 : decode cX6_goDrawn 65 = .ok (.sipush 128, 3) := by decide +kernel
theorem dX6_goDrawn_68 : decode cX6_goDrawn 68 = .ok (.idiv, 1) := by decide +kernel
theorem dX6_goDrawn_69 : decode cX6_goDrawn 69 = .ok (.bipush 20, 2) := by decide +kernel
theorem dX6_goDrawn_71 : decode cX6_goDrawn 71 = .ok (.irem, 1) := by decide +kernel
theorem dX6_goDrawn_72 : decode cX6_goDrawn 72 = .ok (.iconst 1, 1) := by decide +kernel
theorem dX6_goDrawn_73 : decode cX6_goDrawn 73 = .ok (.iadd, 1) := by decide +kernel
theorem dX6_goDrawn_74 : decode cX6_goDrawn 74 = .ok (.iload_n 2, 1) := by decide +kernel
theorem dX6_goDrawn_75 : decode cX6_goDrawn 75 = .ok (.invokevirtual 151, 3) := by decide +kernel
theorem dX6_goDrawn_78 : decode cX6_goDrawn 78 = .ok (.iload_n 3, 1) := by decide +kernel
theorem dX6_goDrawn_79 : decode cX6_goDrawn 79 = .ok (.iconst 1, 1) := by decide +kernel
theorem dX6_goDrawn_80 : decode cX6_goDrawn 80 = .ok (.if_icmp .ne 18, 3) := by decide +kernel
theorem dX6_goDrawn_83 : decode cX6_goDrawn 83 = .ok (.aload_n 0, 1) := by decide +kernel
theorem dX6_goDrawn_84 : decode cX6_goDrawn 84 = .ok (.getfield 25, 3) := by decide +kernel
theorem dX6_goDrawn_87 : decode cX6_goDrawn 87 = .ok (.iconst 3, 1) := by decide +kernel
theorem dX6_goDrawn_88 : decode cX6_goDrawn 88 = .ok (.dup2, 1) := by decide +kernel
theorem dX6_goDrawn_89 : decode cX6_goDrawn 89 = .ok (.iaload, 1) := by decide +kernel
theorem dX6_goDrawn_90 : decode cX6_goDrawn 90 = .ok (.iconst 1, 1) := by decide +kernel
theorem dX6_goDrawn_91 : decode cX6_goDrawn 91 = .ok (.iload 4, 2) := by decide +kernel
theorem dX6_goDrawn_93 : decode cX6_goDrawn 93 = .ok (.ishl, 1) := by decide +kernel
theorem dX6_goDrawn_94 : decode cX6_goDrawn 94 = .ok (.iconst (-1), 1) := by decide +kernel
theorem dX6_goDrawn_95 : decode cX6_goDrawn 95 = .ok (.ixor, 1) := by decide +kernel
theorem dX6_goDrawn_96 : decode cX6_goDrawn 96 = .ok (.iand, 1) := by decide +kernel
theorem dX6_goDrawn_97 : decode cX6_goDrawn 97 = .ok (.iastore, 1) := by decide +kernel
theorem dX6_goDrawn_98 : decode cX6_goDrawn 98 = .ok (.return_, 1) := by decide +kernel
set_option maxRecDepth 20000 in
theorem ggX6_time_X6_in : GoodIn wsX6_time wsX6_in := goodIn_r _ [12] (by decide +kernel) (by decide +kernel)
set_option maxRecDepth 20000 in
theorem gX6_time_X6_in : GoodIn wsX6_time (va_wsS RX6 57 yX6_in wsX6_in) := goodIn_app (goodIn_of _ (by decide +kernel)) ggX6_time_X6_in
set_option maxRecDepth 20000 in
theorem ggX6_time_X6_aside : GoodIn wsX6_time wsX6_aside := goodIn_r _ [16, 8, 17, 58, 59, 60, 61, 62, 63, 64, 65, 66, 67, 68, 69, 70, 71, 72] (by decide +kernel) (by decide +kernel)
set_option maxRecDepth 20000 in
theorem gX6_time_X6_aside : GoodIn wsX6_time (wsV RX6 136 RX6 yX6_aside wsX6_aside) := goodIn_app (goodIn_of _ (by decide +kernel)) ggX6_time_X6_aside
set_option maxRecDepth 20000 in
theorem ggX6_time_X6_goDrawn : GoodIn wsX6_time wsX6_goDrawn := goodIn_r _ [21, 7, 8, 22, 23, 24, 11, 25, 26, 27, 28, 29, 30, 31, 32, 58, 59, 60, 61, 62, 63, 64, 65, 66, 67, 68, 69, 70, 71, 72] (by decide +kernel) (by decide +kernel)
set_option maxRecDepth 20000 in
theorem gX6_time_X6_goDrawn : GoodIn wsX6_time (wsV RX6 181 RX6 yX6_goDrawn wsX6_goDrawn) := goodIn_app (goodIn_of _ (by decide +kernel)) ggX6_time_X6_goDrawn
set_option maxRecDepth 20000 in
theorem ggX6_time_X6_goReign : GoodIn wsX6_time wsX6_goReign := goodIn_r _ [36, 7, 8, 37, 38, 39, 11, 40, 41, 42, 43, 44, 26, 27, 28, 45, 46, 47, 48, 49, 50, 51, 52, 53, 54, 58, 59, 60, 61, 62, 63, 64, 65, 66, 67, 68, 69, 70, 71, 72] (by decide +kernel) (by decide +kernel)
set_option maxRecDepth 20000 in
theorem gX6_time_X6_goReign : GoodIn wsX6_time (wsV RX6 124 RX6 yX6_goReign wsX6_goReign) := goodIn_app (goodIn_of _ (by decide +kernel)) ggX6_time_X6_goReign
set_option maxRecDepth 20000 in
theorem ggX6_time_X6_ones : GoodIn wsX6_time wsX6_ones := goodIn_r _ [57] (by decide +kernel) (by decide +kernel)
set_option maxRecDepth 20000 in
theorem gX6_time_X6_ones : GoodIn wsX6_time (va_wsS RX6 155 yX6_ones wsX6_ones) := goodIn_app (goodIn_of _ (by decide +kernel)) ggX6_time_X6_ones
theorem dX6_time_0 : decode cX6_time 0 = .ok (.iload_n 1, 1) := by decide +kernel
theorem dX6_time_1 : decode cX6_time 1 = .ok (.i2l, 1) := by decide +kernel
theorem dX6_time_2 : decode cX6_time 2 = .ok (.lconst 0, 1) := by decide +kernel
theorem dX6_time_3 : decode cX6_time 3 = .ok (.ldc2_w 171, 3) := by decide +kernel
theorem dX6_time_6 : decode cX6_time 6 = .ok (.invokestatic 57, 3) := by decide +kernel
theorem dX6_time_9 : decode cX6_time 9 = .ok (.ifCond .eq 27, 3) := by decide +kernel
theorem dX6_time_12 : decode cX6_time 12 = .ok (.iload_n 2, 1) := by decide +kernel
theorem dX6_time_13 : decode cX6_time 13 = .ok (.i2l, 1) := by decide +kernel
theorem dX6_time_14 : decode cX6_time 14 = .ok (.lconst 1, 1) := by decide +kernel
theorem dX6_time_15 : decode cX6_time 15 = .ok (.ldc2_w 173, 3) := by decide +kernel
theorem dX6_time_18 : decode cX6_time 18 = .ok (.invokestatic 57, 3) := by decide +kernel
theorem dX6_time_21 : decode cX6_time 21 = .ok (.ifCond .eq 15, 3) := by decide +kernel
theorem dX6_time_24 : decode cX6_time 24 = .ok (.iload_n 3, 1) := by decide +kernel
theorem dX6_time_25 : decode cX6_time 25 = .ok (.i2l, 1) := by decide +kernel
theorem dX6_time_26 : decode cX6_time 26 = .ok (.lconst 0, 1) := by decide +kernel
theorem dX6_time_27 : decode cX6_time 27 = .ok (.ldc2_w 76, 3) := by decide +kernel
theorem dX6_time_30 : decode cX6_time 30 = .ok (.invokestatic 57, 3) := by decide +kernel
theorem dX6_time_33 : decode cX6_time 33 = .ok (.ifCond .ne 5, 3) := by decide +kernel
theorem dX6_time_36 : decode cX6_time 36 = .ok (.iconst (-1), 1) := by decide +kernel
theorem dX6_time_37 : decode cX6_time 37 = .ok (.ireturn, 1) := by decide +kernel
theorem dX6_time_38 : decode cX6_time 38 = .ok (.aload_n 0, 1) := by decide +kernel
theorem dX6_time_39 : decode cX6_time 39 = .ok (.invokevirtual 136, 3) := by decide +kernel
theorem dX6_time_42 : decode cX6_time 42 = .ok (.iconst 0, 1) := by decide +kernel
theorem dX6_time_43 : decode cX6_time 43 = .ok (.istore 4, 2) := by decide +kernel
theorem dX6_time_45 : decode cX6_time 45 = .ok (.iload 4, 2) := by decide +kernel
theorem dX6_time_47 : decode cX6_time 47 = .ok (.iload_n 2, 1) := by decide +kernel
theorem dX6_time_48 : decode cX6_time 48 = .ok (.if_icmp .ge 47, 3) := by decide +kernel
theorem dX6_time_51 : decode cX6_time 51 = .ok (.ldc2_w 175, 3) := by decide +kernel
theorem dX6_time_54 : decode cX6_time 54 = .ok (.iload_n 1, 1) := by decide +kernel
theorem dX6_time_55 : decode cX6_time 55 = .ok (.i2l, 1) := by decide +kernel
theorem dX6_time_56 : decode cX6_time 56 = .ok (.lmul, 1) := by decide +kernel
theorem dX6_time_57 : decode cX6_time 57 = .ok (.ldc2_w 177, 3) := by decide +kernel
theorem dX6_time_60 : decode cX6_time 60 = .ok (.iload 4, 2) := by decide +kernel
theorem dX6_time_62 : decode cX6_time 62 = .ok (.i2l, 1) := by decide +kernel
theorem dX6_time_63 : decode cX6_time 63 = .ok (.lmul, 1) := by decide +kernel
theorem dX6_time_64 : decode cX6_time 64 = .ok (.ladd, 1) := by decide +kernel
theorem dX6_time_65 : decode cX6_time 65 = .ok (.lconst 1, 1) := by decide +kernel
theorem dX6_time_66 : decode cX6_time 66 = .ok (.ladd, 1) := by decide +kernel
theorem dX6_time_67 : decode cX6_time 67 = .ok (.lstore 5, 2) := by decide +kernel
theorem dX6_time_69 : decode cX6_time 69 = .ok (.aload_n 0, 1) := by decide +kernel
theorem dX6_time_70 : decode cX6_time 70 = .ok (.lload 5, 2) := by decide +kernel
theorem dX6_time_72 : decode cX6_time 72 = .ok (.lload 5, 2) := by decide +kernel
theorem dX6_time_74 : decode cX6_time 74 = .ok (.lmul, 1) := by decide +kernel
theorem dX6_time_75 : decode cX6_time 75 = .ok (.ldc2_w 179, 3) := by decide +kernel
theorem dX6_time_78 : decode cX6_time 78 = .ok (.lrem, 1) := by decide +kernel
theorem dX6_time_79 : decode cX6_time 79 = .ok (.l2i, 1) := by decide +kernel
theorem dX6_time_80 : decode cX6_time 80 = .ok (.iconst 2, 1) := by decide +kernel
theorem dX6_time_81 : decode cX6_time 81 = .ok (.idiv, 1) := by decide +kernel
theorem dX6_time_82 : decode cX6_time 82 = .ok (.invokevirtual 181, 3) := by decide +kernel
theorem dX6_time_85 : decode cX6_time 85 = .ok (.aload_n 0, 1) := by decide +kernel
theorem dX6_time_86 : decode cX6_time 86 = .ok (.invokevirtual 124, 3) := by decide +kernel
theorem dX6_time_89 : decode cX6_time 89 = .ok (.iinc 4 1, 3) := by decide +kernel
theorem dX6_time_92 : decode cX6_time 92 = .ok (.goto (-47), 3) := by decide +kernel
theorem dX6_time_95 : decode cX6_time 95 = .ok (.iconst 0, 1) := by decide +kernel
theorem dX6_time_96 : decode cX6_time 96 = .ok (.istore 4, 2) := by decide +kernel
theorem dX6_time_98 : decode cX6_time 98 = .ok (.iconst 0, 1) := by decide +kernel
theorem dX6_time_99 : decode cX6_time 99 = .ok (.istore 5, 2) := by decide +kernel
theorem dX6_time_101 : decode cX6_time 101 = .ok (.iconst 0, 1) := by decide +kernel
theorem dX6_time_102 : decode cX6_time 102 = .ok (.istore 6, 2) := by decide +kernel
theorem dX6_time_104 : decode cX6_time 104 = .ok (.iload 6, 2) := by decide +kernel
theorem dX6_time_106 : decode cX6_time 106 = .ok (.aload_n 0, 1) := by decide +kernel
theorem dX6_time_107 : decode cX6_time 107 = .ok (.getfield 13, 3) := by decide +kernel
theorem dX6_time_110 : decode cX6_time 110 = .ok (.iconst 0, 1) := by decide +kernel
theorem dX6_time_111 : decode cX6_time 111 = .ok (.iaload, 1) := by decide +kernel
theorem dX6_time_112 : decode cX6_time 112 = .ok (.if_icmp .ge 45, 3) := by decide +kernel
theorem dX6_time_115 : decode cX6_time 115 = .ok (.iload 4, 2) := by decide +kernel
theorem dX6_time_117 : decode cX6_time 117 = .ok (.aload_n 0, 1) := by decide +kernel
theorem dX6_time_118 : decode cX6_time 118 = .ok (.getfield 25, 3) := by decide +kernel
theorem dX6_time_121 : decode cX6_time 121 = .ok (.iconst 4, 1) := by decide +kernel
theorem dX6_time_122 : decode cX6_time 122 = .ok (.iload 6, 2) := by decide +kernel
theorem dX6_time_124 : decode cX6_time 124 = .ok (.iadd, 1) := by decide +kernel
theorem dX6_time_125 : decode cX6_time 125 = .ok (.iaload, 1) := by decide +kernel
theorem dX6_time_126 : decode cX6_time 126 = .ok (.ifCond .ne 7, 3) := by decide +kernel
theorem dX6_time_129 : decode cX6_time 129 = .ok (.iconst 1, 1) := by decide +kernel
theorem dX6_time_130 : decode cX6_time 130 = .ok (.goto 4, 3) := by decide +kernel
theorem dX6_time_133 : decode cX6_time 133 = .ok (.iconst 0, 1) := by decide +kernel
theorem dX6_time_134 : decode cX6_time 134 = .ok (.iadd, 1) := by decide +kernel
theorem dX6_time_135 : decode cX6_time 135 = .ok (.istore 4, 2) := by decide +kernel
theorem dX6_time_137 : decode cX6_time 137 = .ok (.iload 5, 2) := by decide +kernel
theorem dX6_time_139 : decode cX6_time 139 = .ok (.aload_n 0, 1) := by decide +kernel
theorem dX6_time_140 : decode cX6_time 140 = .ok (.getfield 25, 3) := by decide +kernel
theorem dX6_time_143 : decode cX6_time 143 = .ok (.iconst 4, 1) := by decide +kernel
theorem dX6_time_144 : decode cX6_time 144 = .ok (.iload 6, 2) := by decide +kernel
theorem dX6_time_146 : decode cX6_time 146 = .ok (.iadd, 1) := by decide +kernel
theorem dX6_time_147 : decode cX6_time 147 = .ok (.iaload, 1) := by decide +kernel
theorem dX6_time_148 : decode cX6_time 148 = .ok (.iadd, 1) := by decide +kernel
theorem dX6_time_149 : decode cX6_time 149 = .ok (.istore 5, 2) := by decide +kernel
theorem dX6_time_151 : decode cX6_time 151 = .ok (.iinc 6 1, 3) := by decide +kernel
theorem dX6_time_154 : decode cX6_time 154 = .ok (.goto (-50), 3) := by decide +kernel
theorem dX6_time_157 : decode cX6_time 157 = .ok (.iload_n 3, 1) := by decide +kernel
theorem dX6_time_158 : decode cX6_time 158 = .ok (.ifCond .ne 8, 3) := by decide +kernel
theorem dX6_time_161 : decode cX6_time 161 = .ok (.iload 4, 2) := by decide +kernel
theorem dX6_time_163 : decode cX6_time 163 = .ok (.goto 22, 3) := by decide +kernel
theorem dX6_time_166 : decode cX6_time 166 = .ok (.iload_n 3, 1) := by decide +kernel
theorem dX6_time_167 : decode cX6_time 167 = .ok (.iconst 1, 1) := by decide +kernel
theorem dX6_time_168 : decode cX6_time 168 = .ok (.if_icmp .ne 15, 3) := by decide +kernel
theorem dX6_time_171 : decode cX6_time 171 = .ok (.aload_n 0, 1) := by decide +kernel
theorem dX6_time_172 : decode cX6_time 172 = .ok (.getfield 25, 3) := by decide +kernel
theorem dX6_time_175 : decode cX6_time 175 = .ok (.iconst 3, 1) := by decide +kernel
theorem dX6_time_176 : decode cX6_time 176 = .ok (.iaload, 1) := by decide +kernel
theorem dX6_time_177 : decode cX6_time 177 = .ok (.invokestatic 155, 3) := by decide +kernel
theorem dX6_time_180 : decode cX6_time 180 = .ok (.goto 5, 3) := by decide +kernel
theorem dX6_time_183 : decode cX6_time 183 = .ok (.iload 5, 2) := by decide +kernel
theorem dX6_time_185 : decode cX6_time 185 = .ok (.ireturn, 1) := by decide +kernel
theorem dX6_keep_0 : decode cX6_keep 0 = .ok (.aload_n 0, 1) := by decide +kernel
theorem dX6_keep_1 : decode cX6_keep 1 = .ok (.getfield 99, 3) := by decide +kernel
theorem dX6_keep_4 : decode cX6_keep 4 = .ok (.iconst 2, 1) := by decide +kernel
theorem dX6_keep_5 : decode cX6_keep 5 = .ok (.if_icmp .ne 6, 3) := by decide +kernel
theorem dX6_keep_8 : decode cX6_keep 8 = .ok (.bipush (-3), 2) := by decide +kernel
theorem dX6_keep_10 : decode cX6_keep 10 = .ok (.ireturn, 1) := by decide +kernel
theorem dX6_keep_11 : decode cX6_keep 11 = .ok (.iconst 0, 1) := by decide +kernel
theorem dX6_keep_12 : decode cX6_keep 12 = .ok (.istore_n 1, 1) := by decide +kernel
theorem dX6_keep_13 : decode cX6_keep 13 = .ok (.iload_n 1, 1) := by decide +kernel
theorem dX6_keep_14 : decode cX6_keep 14 = .ok (.bipush 42, 2) := by decide +kernel
theorem dX6_keep_16 : decode cX6_keep 16 = .ok (.if_icmp .ge 29, 3) := by decide +kernel
theorem dX6_keep_19 : decode cX6_keep 19 = .ok (.aload_n 0, 1) := by decide +kernel
theorem dX6_keep_20 : decode cX6_keep 20 = .ok (.getfield 31, 3) := by decide +kernel
theorem dX6_keep_23 : decode cX6_keep 23 = .ok (.bipush 42, 2) := by decide +kernel
theorem dX6_keep_25 : decode cX6_keep 25 = .ok (.aload_n 0, 1) := by decide +kernel
theorem dX6_keep_26 : decode cX6_keep 26 = .ok (.getfield 99, 3) := by decide +kernel
theorem dX6_keep_29 : decode cX6_keep 29 = .ok (.imul, 1) := by decide +kernel
theorem dX6_keep_30 : decode cX6_keep 30 = .ok (.iload_n 1, 1) := by decide +kernel
theorem dX6_keep_31 : decode cX6_keep 31 = .ok (.iadd, 1) := by decide +kernel
theorem dX6_keep_32 : decode cX6_keep 32 = .ok (.aload_n 0, 1) := by decide +kernel
theorem dX6_keep_33 : decode cX6_keep 33 = .ok (.getfield 22, 3) := by decide +kernel
theorem dX6_keep_36 : decode cX6_keep 36 = .ok (.iload_n 1, 1) := by decide +kernel
theorem dX6_keep_37 : decode cX6_keep 37 = .ok (.iaload, 1) := by decide +kernel
theorem dX6_keep_38 : decode cX6_keep 38 = .ok (.iastore, 1) := by decide +kernel
theorem dX6_keep_39 : decode cX6_keep 39 = .ok (.iinc 1 1, 3) := by decide +kernel
theorem dX6_keep_42 : decode cX6_keep 42 = .ok (.goto (-29), 3) := by decide +kernel
theorem dX6_keep_45 : decode cX6_keep 45 = .ok (.aload_n 0, 1) := by decide +kernel
theorem dX6_keep_46 : decode cX6_keep 46 = .ok (.dup, 1) := by decide +kernel
theorem dX6_keep_47 : decode cX6_keep 47 = .ok (.getfield 99, 3) := by decide +kernel
theorem dX6_keep_50 : decode cX6_keep 50 = .ok (.iconst 1, 1) := by decide +kernel
theorem dX6_keep_51 : decode cX6_keep 51 = .ok (.iadd, 1) := by decide +kernel
theorem dX6_keep_52 : decode cX6_keep 52 = .ok (.putfield 99, 3) := by decide +kernel
theorem dX6_keep_55 : decode cX6_keep 55 = .ok (.aload_n 0, 1) := by decide +kernel
theorem dX6_keep_56 : decode cX6_keep 56 = .ok (.getfield 99, 3) := by decide +kernel
theorem dX6_keep_59 : decode cX6_keep 59 = .ok (.ireturn, 1) := by decide +kernel
theorem dX6_back_0 : decode cX6_back 0 = .ok (.aload_n 0, 1) := by decide +kernel
theorem dX6_back_1 : decode cX6_back 1 = .ok (.getfield 99, 3) := by decide +kernel
theorem dX6_back_4 : decode cX6_back 4 = .ok (.ifCond .ne 6, 3) := by decide +kernel
theorem dX6_back_7 : decode cX6_back 7 = .ok (.bipush (-2), 2) := by decide +kernel
theorem dX6_back_9 : decode cX6_back 9 = .ok (.ireturn, 1) := by decide +kernel
theorem dX6_back_10 : decode cX6_back 10 = .ok (.aload_n 0, 1) := by decide +kernel
theorem dX6_back_11 : decode cX6_back 11 = .ok (.dup, 1) := by decide +kernel
theorem dX6_back_12 : decode cX6_back 12 = .ok (.getfield 99, 3) := by decide +kernel
theorem dX6_back_15 : decode cX6_back 15 = .ok (.iconst 1, 1) := by decide +kernel
theorem dX6_back_16 : decode cX6_back 16 = .ok (.isub, 1) := by decide +kernel
theorem dX6_back_17 : decode cX6_back 17 = .ok (.putfield 99, 3) := by decide +kernel
theorem dX6_back_20 : decode cX6_back 20 = .ok (.iconst 0, 1) := by decide +kernel
theorem dX6_back_21 : decode cX6_back 21 = .ok (.istore_n 1, 1) := by decide +kernel
theorem dX6_back_22 : decode cX6_back 22 = .ok (.iload_n 1, 1) := by decide +kernel
theorem dX6_back_23 : decode cX6_back 23 = .ok (.bipush 42, 2) := by decide +kernel
theorem dX6_back_25 : decode cX6_back 25 = .ok (.if_icmp .ge 29, 3) := by decide +kernel
theorem dX6_back_28 : decode cX6_back 28 = .ok (.aload_n 0, 1) := by decide +kernel
theorem dX6_back_29 : decode cX6_back 29 = .ok (.getfield 22, 3) := by decide +kernel
theorem dX6_back_32 : decode cX6_back 32 = .ok (.iload_n 1, 1) := by decide +kernel
theorem dX6_back_33 : decode cX6_back 33 = .ok (.aload_n 0, 1) := by decide +kernel
theorem dX6_back_34 : decode cX6_back 34 = .ok (.getfield 31, 3) := by decide +kernel
theorem dX6_back_37 : decode cX6_back 37 = .ok (.bipush 42, 2) := by decide +kernel
theorem dX6_back_39 : decode cX6_back 39 = .ok (.aload_n 0, 1) := by decide +kernel
theorem dX6_back_40 : decode cX6_back 40 = .ok (.getfield 99, 3) := by decide +kernel
theorem dX6_back_43 : decode cX6_back 43 = .ok (.imul, 1) := by decide +kernel
theorem dX6_back_44 : decode cX6_back 44 = .ok (.iload_n 1, 1) := by decide +kernel
theorem dX6_back_45 : decode cX6_back 45 = .ok (.iadd, 1) := by decide +kernel
theorem dX6_back_46 : decode cX6_back 46 = .ok (.iaload, 1) := by decide +kernel
theorem dX6_back_47 : decode cX6_back 47 = .ok (.iastore, 1) := by decide +kernel
theorem dX6_back_48 : decode cX6_back 48 = .ok (.iinc 1 1, 3) := by decide +kernel
theorem dX6_back_51 : decode cX6_back 51 = .ok (.goto (-29), 3) := by decide +kernel
theorem dX6_back_54 : decode cX6_back 54 = .ok (.aload_n 0, 1) := by decide +kernel
theorem dX6_back_55 : decode cX6_back 55 = .ok (.iconst 0, 1) := by decide +kernel
theorem dX6_back_56 : decode cX6_back 56 = .ok (.putfield 96, 3) := by decide +kernel
theorem dX6_back_59 : decode cX6_back 59 = .ok (.aload_n 0, 1) := by decide +kernel
theorem dX6_back_60 : decode cX6_back 60 = .ok (.getfield 99, 3) := by decide +kernel
theorem dX6_back_63 : decode cX6_back 63 = .ok (.ireturn, 1) := by decide +kernel
theorem dX6_outMany_0 : decode cX6_outMany 0 = .ok (.iconst 0, 1) := by decide +kernel
theorem dX6_outMany_1 : decode cX6_outMany 1 = .ok (.istore_n 1, 1) := by decide +kernel
theorem dX6_outMany_2 : decode cX6_outMany 2 = .ok (.iconst 0, 1) := by decide +kernel
theorem dX6_outMany_3 : decode cX6_outMany 3 = .ok (.istore_n 2, 1) := by decide +kernel
theorem dX6_outMany_4 : decode cX6_outMany 4 = .ok (.iload_n 2, 1) := by decide +kernel
theorem dX6_outMany_5 : decode cX6_outMany 5 = .ok (.aload_n 0, 1) := by decide +kernel
theorem dX6_outMany_6 : decode cX6_outMany 6 = .ok (.getfield 13, 3) := by decide +kernel
theorem dX6_outMany_9 : decode cX6_outMany 9 = .ok (.iconst 0, 1) := by decide +kernel
theorem dX6_outMany_10 : decode cX6_outMany 10 = .ok (.iaload, 1) := by decide +kernel
theorem dX6_outMany_11 : decode cX6_outMany 11 = .ok (.if_icmp .ge 28, 3) := by decide +kernel
theorem dX6_outMany_14 : decode cX6_outMany 14 = .ok (.iload_n 1, 1) := by decide +kernel
theorem dX6_outMany_15 : decode cX6_outMany 15 = .ok (.aload_n 0, 1) := by decide +kernel
theorem dX6_outMany_16 : decode cX6_outMany 16 = .ok (.getfield 22, 3) := by decide +kernel
theorem dX6_outMany_19 : decode cX6_outMany 19 = .ok (.iconst 4, 1) := by decide +kernel
theorem dX6_outMany_20 : decode cX6_outMany 20 = .ok (.iload_n 2, 1) := by decide +kernel
theorem dX6_outMany_21 : decode cX6_outMany 21 = .ok (.iadd, 1) := by decide +kernel
theorem dX6_outMany_22 : decode cX6_outMany 22 = .ok (.iaload, 1) := by decide +kernel
theorem dX6_outMany_23 : decode cX6_outMany 23 = .ok (.ifCond .ne 7, 3) := by decide +kernel
theorem dX6_outMany_26 : decode cX6_outMany 26 = .ok (.iconst 1, 1) := by decide +kernel
theorem dX6_outMany_27 : decode cX6_outMany 27 = .ok (.goto 4, 3) := by decide +kernel
theorem dX6_outMany_30 : decode cX6_outMany 30 = .ok (.iconst 0, 1) := by decide +kernel
theorem dX6_outMany_31 : decode cX6_outMany 31 = .ok (.iadd, 1) := by decide +kernel
theorem dX6_outMany_32 : decode cX6_outMany 32 = .ok (.istore_n 1, 1) := by decide +kernel
theorem dX6_outMany_33 : decode cX6_outMany 33 = .ok (.iinc 2 1, 3) := by decide +kernel
theorem dX6_outMany_36 : decode cX6_outMany 36 = .ok (.goto (-32), 3) := by decide +kernel
theorem dX6_outMany_39 : decode cX6_outMany 39 = .ok (.iload_n 1, 1) := by decide +kernel
theorem dX6_outMany_40 : decode cX6_outMany 40 = .ok (.ireturn, 1) := by decide +kernel
set_option maxRecDepth 20000 in
theorem ggX6_count_X6_outMany : GoodIn wsX6_count wsX6_outMany := goodIn_r _ [11, 1, 2, 15, 16, 17, 18, 19, 20, 21, 22, 23, 24, 25, 26, 27, 28, 29] (by decide +kernel) (by decide +kernel)
set_option maxRecDepth 20000 in
theorem gX6_count_X6_outMany : GoodIn wsX6_count (wsV RX6 184 RX6 yX6_outMany wsX6_outMany) := goodIn_app (goodIn_of _ (by decide +kernel)) ggX6_count_X6_outMany
set_option maxRecDepth 20000 in
theorem ggX6_count_X6_ones : GoodIn wsX6_count wsX6_ones := goodIn_r _ [14] (by decide +kernel) (by decide +kernel)
set_option maxRecDepth 20000 in
theorem gX6_count_X6_ones : GoodIn wsX6_count (va_wsS RX6 155 yX6_ones wsX6_ones) := goodIn_app (goodIn_of _ (by decide +kernel)) ggX6_count_X6_ones
theorem dX6_count_0 : decode cX6_count 0 = .ok (.iload_n 1, 1) := by decide +kernel
theorem dX6_count_1 : decode cX6_count 1 = .ok (.tableswitch 118 0 9 #[55, 62, 69, 76, 81, 91, 98, 103, 108, 113], 55) := by decide +kernel
