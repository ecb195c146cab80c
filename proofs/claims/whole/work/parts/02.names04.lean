theorem dX5_person_1 : decode cX5_person 1 = .ok (.getfield 19, 3) := by decide +kernel
theorem dX5_person_4 : decode cX5_person 4 = .ok (.iload_n 1, 1) := by decide +kernel
theorem dX5_person_5 : decode cX5_person 5 = .ok (.invokevirtual 90, 3) := by decide +kernel
theorem dX5_person_8 : decode cX5_person 8 = .ok (.ifCond .ne 5, 3) := by decide +kernel
theorem dX5_person_11 : decode cX5_person 11 = .ok (.iconst (-1), 1) := by decide +kernel
theorem dX5_person_12 : decode cX5_person 12 = .ok (.ireturn, 1) := by decide +kernel
theorem dX5_person_13 : decode cX5_person 13 = .ok (.iload_n 2, 1) := by decide +kernel
theorem dX5_person_14 : decode cX5_person 14 = .ok (.tableswitch 56 0 2 #[26, 36, 46], 26) := by decide +kernel
theorem dX5_person_40 : decode cX5_person 40 = .ok (.aload_n 0, 1) := by decide +kernel
theorem dX5_person_41 : decode cX5_person 41 = .ok (.getfield 19, 3) := by decide +kernel
theorem dX5_person_44 : decode cX5_person 44 = .ok (.getfield 93, 3) := by decide +kernel
theorem dX5_person_47 : decode cX5_person 47 = .ok (.iload_n 1, 1) := by decide +kernel
theorem dX5_person_48 : decode cX5_person 48 = .ok (.iaload, 1) := by decide +kernel
theorem dX5_person_49 : decode cX5_person 49 = .ok (.ireturn, 1) := by decide +kernel
theorem dX5_person_50 : decode cX5_person 50 = .ok (.aload_n 0, 1) := by decide +kernel
theorem dX5_person_51 : decode cX5_person 51 = .ok (.getfield 19, 3) := by decide +kernel
theorem dX5_person_54 : decode cX5_person 54 = .ok (.getfield 97, 3) := by decide +kernel
theorem dX5_person_57 : decode cX5_person 57 = .ok (.iload_n 1, 1) := by decide +kernel
theorem dX5_person_58 : decode cX5_person 58 = .ok (.iaload, 1) := by decide +kernel
theorem dX5_person_59 : decode cX5_person 59 = .ok (.ireturn, 1) := by decide +kernel
theorem dX5_person_60 : decode cX5_person 60 = .ok (.aload_n 0, 1) := by decide +kernel
theorem dX5_person_61 : decode cX5_person 61 = .ok (.getfield 19, 3) := by decide +kernel
theorem dX5_person_64 : decode cX5_person 64 = .ok (.getfield 100, 3) := by decide +kernel
theorem dX5_person_67 : decode cX5_person 67 = .ok (.iload_n 1, 1) := by decide +kernel
theorem dX5_person_68 : decode cX5_person 68 = .ok (.iaload, 1) := by decide +kernel
theorem dX5_person_69 : decode cX5_person 69 = .ok (.ireturn, 1) := by decide +kernel
theorem dX5_person_70 : decode cX5_person 70 = .ok (.iconst (-1), 1) := by decide +kernel
theorem dX5_person_71 : decode cX5_person 71 = .ok (.ireturn, 1) := by decide +kernel
set_option maxRecDepth 20000 in
theorem ggX5_glove_X1_isGlove : GoodIn wsX5_glove wsX1_isGlove := goodIn_r _ [15, 16, 17, 18, 19, 30, 31, 32, 33, 34, 35, 36, 37, 38, 39, 40, 41, 42] (by decide +kernel) (by decide +kernel)
set_option maxRecDepth 20000 in
theorem gX5_glove_X1_isGlove : GoodIn wsX5_glove (wsV RX5 103 RX1 yX1_isGlove wsX1_isGlove) := goodIn_app (goodIn_of _ (by decide +kernel)) ggX5_glove_X1_isGlove
set_option maxRecDepth 20000 in
theorem ggX5_glove_X5_sizeByNow : GoodIn wsX5_glove wsX5_sizeByNow := goodIn_r _ [22] (by decide +kernel) (by decide +kernel)
set_option maxRecDepth 20000 in
theorem gX5_glove_X5_sizeByNow : GoodIn wsX5_glove (va_wsS RX5 115 yX5_sizeByNow wsX5_sizeByNow) := goodIn_app (goodIn_of _ (by decide +kernel)) ggX5_glove_X5_sizeByNow
theorem dX5_glove_0 : decode cX5_glove 0 = .ok (.aload_n 0, 1) := by decide +kernel
theorem dX5_glove_1 : decode cX5_glove 1 = .ok (.getfield 19, 3) := by decide +kernel
theorem dX5_glove_4 : decode cX5_glove 4 = .ok (.iload_n 1, 1) := by decide +kernel
theorem dX5_glove_5 : decode cX5_glove 5 = .ok (.invokevirtual 103, 3) := by decide +kernel
theorem dX5_glove_8 : decode cX5_glove 8 = .ok (.ifCond .ne 5, 3) := by decide +kernel
theorem dX5_glove_11 : decode cX5_glove 11 = .ok (.iconst (-1), 1) := by decide +kernel
theorem dX5_glove_12 : decode cX5_glove 12 = .ok (.ireturn, 1) := by decide +kernel
theorem dX5_glove_13 : decode cX5_glove 13 = .ok (.iload_n 2, 1) := by decide +kernel
theorem dX5_glove_14 : decode cX5_glove 14 = .ok (.tableswitch 109 0 4 #[34, 44, 79, 89, 99], 34) := by decide +kernel
theorem dX5_glove_48 : decode cX5_glove 48 = .ok (.aload_n 0, 1) := by decide +kernel
theorem dX5_glove_49 : decode cX5_glove 49 = .ok (.getfield 19, 3) := by decide +kernel
theorem dX5_glove_52 : decode cX5_glove 52 = .ok (.getfield 106, 3) := by decide +kernel
theorem dX5_glove_55 : decode cX5_glove 55 = .ok (.iload_n 1, 1) := by decide +kernel
theorem dX5_glove_56 : decode cX5_glove 56 = .ok (.iaload, 1) := by decide +kernel
theorem dX5_glove_57 : decode cX5_glove 57 = .ok (.ireturn, 1) := by decide +kernel
theorem dX5_glove_58 : decode cX5_glove 58 = .ok (.iconst 0, 1) := by decide +kernel
theorem dX5_glove_59 : decode cX5_glove 59 = .ok (.aload_n 0, 1) := by decide +kernel
theorem dX5_glove_60 : decode cX5_glove 60 = .ok (.getfield 19, 3) := by decide +kernel
theorem dX5_glove_63 : decode cX5_glove 63 = .ok (.getfield 106, 3) := by decide +kernel
theorem dX5_glove_66 : decode cX5_glove 66 = .ok (.iload_n 1, 1) := by decide +kernel
theorem dX5_glove_67 : decode cX5_glove 67 = .ok (.iaload, 1) := by decide +kernel
theorem dX5_glove_68 : decode cX5_glove 68 = .ok (.aload_n 0, 1) := by decide +kernel
theorem dX5_glove_69 : decode cX5_glove 69 = .ok (.getfield 19, 3) := by decide +kernel
theorem dX5_glove_72 : decode cX5_glove 72 = .ok (.getfield 109, 3) := by decide +kernel
theorem dX5_glove_75 : decode cX5_glove 75 = .ok (.iload_n 1, 1) := by decide +kernel
theorem dX5_glove_76 : decode cX5_glove 76 = .ok (.iaload, 1) := by decide +kernel
theorem dX5_glove_77 : decode cX5_glove 77 = .ok (.aload_n 0, 1) := by decide +kernel
theorem dX5_glove_78 : decode cX5_glove 78 = .ok (.getfield 19, 3) := by decide +kernel
theorem dX5_glove_81 : decode cX5_glove 81 = .ok (.getfield 112, 3) := by decide +kernel
theorem dX5_glove_84 : decode cX5_glove 84 = .ok (.iload_n 1, 1) := by decide +kernel
theorem dX5_glove_85 : decode cX5_glove 85 = .ok (.iaload, 1) := by decide +kernel
theorem dX5_glove_86 : decode cX5_glove 86 = .ok (.invokestatic 115, 3) := by decide +kernel
theorem dX5_glove_89 : decode cX5_glove 89 = .ok (.invokestatic 119, 3) := by decide +kernel
theorem dX5_glove_92 : decode cX5_glove 92 = .ok (.ireturn, 1) := by decide +kernel
theorem dX5_glove_93 : decode cX5_glove 93 = .ok (.aload_n 0, 1) := by decide +kernel
theorem dX5_glove_94 : decode cX5_glove 94 = .ok (.getfield 19, 3) := by decide +kernel
theorem dX5_glove_97 : decode cX5_glove 97 = .ok (.getfield 125, 3) := by decide +kernel
theorem dX5_glove_100 : decode cX5_glove 100 = .ok (.iload_n 1, 1) := by decide +kernel
theorem dX5_glove_101 : decode cX5_glove 101 = .ok (.iaload, 1) := by decide +kernel
theorem dX5_glove_102 : decode cX5_glove 102 = .ok (.ireturn, 1) := by decide +kernel
theorem dX5_glove_103 : decode cX5_glove 103 = .ok (.aload_n 0, 1) := by decide +kernel
theorem dX5_glove_104 : decode cX5_glove 104 = .ok (.getfield 19, 3) := by decide +kernel
theorem dX5_glove_107 : decode cX5_glove 107 = .ok (.getfield 128, 3) := by decide +kernel
theorem dX5_glove_110 : decode cX5_glove 110 = .ok (.iload_n 1, 1) := by decide +kernel
theorem dX5_glove_111 : decode cX5_glove 111 = .ok (.iaload, 1) := by decide +kernel
theorem dX5_glove_112 : decode cX5_glove 112 = .ok (.ireturn, 1) := by decide +kernel
theorem dX5_glove_113 : decode cX5_glove 113 = .ok (.aload_n 0, 1) := by decide +kernel
theorem dX5_glove_114 : decode cX5_glove 114 = .ok (.getfield 19, 3) := by decide +kernel
theorem dX5_glove_117 : decode cX5_glove 117 = .ok (.getfield 112, 3) := by decide +kernel
theorem dX5_glove_120 : decode cX5_glove 120 = .ok (.iload_n 1, 1) := by decide +kernel
theorem dX5_glove_121 : decode cX5_glove 121 = .ok (.iaload, 1) := by decide +kernel
theorem dX5_glove_122 : decode cX5_glove 122 = .ok (.ireturn, 1) := by decide +kernel
theorem dX5_glove_123 : decode cX5_glove 123 = .ok (.iconst (-1), 1) := by decide +kernel
theorem dX5_glove_124 : decode cX5_glove 124 = .ok (.ireturn, 1) := by decide +kernel
set_option maxRecDepth 20000 in
theorem ggX5_fits_X1_isGlove : GoodIn wsX5_fits wsX1_isGlove := goodIn_r _ [6, 7, 8, 9, 10, 38, 39, 40, 41, 42, 43, 44, 45, 46, 47, 48, 49, 50] (by decide +kernel) (by decide +kernel)
set_option maxRecDepth 20000 in
theorem gX5_fits_X1_isGlove : GoodIn wsX5_fits (wsV RX5 103 RX1 yX1_isGlove wsX1_isGlove) := goodIn_app (goodIn_of _ (by decide +kernel)) ggX5_fits_X1_isGlove
set_option maxRecDepth 20000 in
theorem ggX5_fits_X1_isPerson : GoodIn wsX5_fits wsX1_isPerson := goodIn_r _ [14, 15, 8, 9, 10, 38, 39, 40, 41, 42, 43, 44, 45, 46, 47, 48, 49, 50] (by decide +kernel) (by decide +kernel)
set_option maxRecDepth 20000 in
theorem gX5_fits_X1_isPerson : GoodIn wsX5_fits (wsV RX5 90 RX1 yX1_isPerson wsX1_isPerson) := goodIn_app (goodIn_of _ (by decide +kernel)) ggX5_fits_X1_isPerson
set_option maxRecDepth 20000 in
theorem ggX5_fits_X1_canTakeUp : GoodIn wsX5_fits wsX1_canTakeUp := goodIn_r _ [19, 20, 21, 22, 23, 24, 25, 26, 27, 9, 28, 29, 30, 38, 39, 40, 41, 42, 43, 44, 45, 46, 47, 48, 49, 50] (by decide +kernel) (by decide +kernel)
set_option maxRecDepth 20000 in
theorem gX5_fits_X1_canTakeUp : GoodIn wsX5_fits (wsV RX5 131 RX1 yX1_canTakeUp wsX1_canTakeUp) := goodIn_app (goodIn_of _ (by decide +kernel)) ggX5_fits_X1_canTakeUp
theorem dX5_fits_0 : decode cX5_fits 0 = .ok (.aload_n 0, 1) := by decide +kernel
theorem dX5_fits_1 : decode cX5_fits 1 = .ok (.getfield 19, 3) := by decide +kernel
theorem dX5_fits_4 : decode cX5_fits 4 = .ok (.iload_n 1, 1) := by decide +kernel
theorem dX5_fits_5 : decode cX5_fits 5 = .ok (.invokevirtual 103, 3) := by decide +kernel
theorem dX5_fits_8 : decode cX5_fits 8 = .ok (.ifCond .eq 14, 3) := by decide +kernel
theorem dX5_fits_11 : decode cX5_fits 11 = .ok (.aload_n 0, 1) := by decide +kernel
theorem dX5_fits_12 : decode cX5_fits 12 = .ok (.getfield 19, 3) := by decide +kernel
theorem dX5_fits_15 : decode cX5_fits 15 = .ok (.iload_n 2, 1) := by decide +kernel
theorem dX5_fits_16 : decode cX5_fits 16 = .ok (.invokevirtual 90, 3) := by decide +kernel
theorem dX5_fits_19 : decode cX5_fits 19 = .ok (.ifCond .ne 5, 3) := by decide +kernel
theorem dX5_fits_22 : decode cX5_fits 22 = .ok (.iconst (-1), 1) := by decide +kernel
theorem dX5_fits_23 : decode cX5_fits 23 = .ok (.ireturn, 1) := by decide +kernel
theorem dX5_fits_24 : decode cX5_fits 24 = .ok (.aload_n 0, 1) := by decide +kernel
theorem dX5_fits_25 : decode cX5_fits 25 = .ok (.getfield 19, 3) := by decide +kernel
theorem dX5_fits_28 : decode cX5_fits 28 = .ok (.iload_n 2, 1) := by decide +kernel
theorem dX5_fits_29 : decode cX5_fits 29 = .ok (.iload_n 1, 1) := by decide +kernel
theorem dX5_fits_30 : decode cX5_fits 30 = .ok (.invokevirtual 131, 3) := by decide +kernel
theorem dX5_fits_33 : decode cX5_fits 33 = .ok (.ifCond .eq 7, 3) := by decide +kernel
theorem dX5_fits_36 : decode cX5_fits 36 = .ok (.iconst 1, 1) := by decide +kernel
theorem dX5_fits_37 : decode cX5_fits 37 = .ok (.goto 4, 3) := by decide +kernel
theorem dX5_fits_40 : decode cX5_fits 40 = .ok (.iconst 0, 1) := by decide +kernel
theorem dX5_fits_41 : decode cX5_fits 41 = .ok (.ireturn, 1) := by decide +kernel
set_option maxRecDepth 20000 in
theorem ggX5_fight_X1_isPerson : GoodIn wsX5_fight wsX1_isPerson := goodIn_r _ [7, 8, 9, 10, 11, 24, 25, 26, 27, 28, 29, 30, 31, 32, 33, 34, 35, 36] (by decide +kernel) (by decide +kernel)
set_option maxRecDepth 20000 in
theorem gX5_fight_X1_isPerson : GoodIn wsX5_fight (wsV RX5 90 RX1 yX1_isPerson wsX1_isPerson) := goodIn_app (goodIn_of _ (by decide +kernel)) ggX5_fight_X1_isPerson
set_option maxRecDepth 20000 in
theorem ggX5_fight_X1_isOut : GoodIn wsX5_fight wsX1_isOut := goodIn_r _ [15, 16, 24, 25, 26, 27, 28, 29, 30, 31, 32, 33, 34, 35, 36] (by decide +kernel) (by decide +kernel)
set_option maxRecDepth 20000 in
theorem gX5_fight_X1_isOut : GoodIn wsX5_fight (wsV RX5 135 RX1 yX1_isOut wsX1_isOut) := goodIn_app (goodIn_of _ (by decide +kernel)) ggX5_fight_X1_isOut
theorem dX5_fight_0 : decode cX5_fight 0 = .ok (.aload_n 0, 1) := by decide +kernel
theorem dX5_fight_1 : decode cX5_fight 1 = .ok (.getfield 19, 3) := by decide +kernel
theorem dX5_fight_4 : decode cX5_fight 4 = .ok (.iload_n 1, 1) := by decide +kernel
theorem dX5_fight_5 : decode cX5_fight 5 = .ok (.invokevirtual 90, 3) := by decide +kernel
theorem dX5_fight_8 : decode cX5_fight 8 = .ok (.ifCond .eq 19, 3) := by decide +kernel
theorem dX5_fight_11 : decode cX5_fight 11 = .ok (.aload_n 0, 1) := by decide +kernel
theorem dX5_fight_12 : decode cX5_fight 12 = .ok (.getfield 19, 3) := by decide +kernel
theorem dX5_fight_15 : decode cX5_fight 15 = .ok (.iload_n 2, 1) := by decide +kernel
theorem dX5_fight_16 : decode cX5_fight 16 = .ok (.invokevirtual 90, 3) := by decide +kernel
theorem dX5_fight_19 : decode cX5_fight 19 = .ok (.ifCond .eq 8, 3) := by decide +kernel
theorem dX5_fight_22 : decode cX5_fight 22 = .ok (.iload_n 1, 1) := by decide +kernel
theorem dX5_fight_23 : decode cX5_fight 23 = .ok (.iload_n 2, 1) := by decide +kernel
theorem dX5_fight_24 : decode cX5_fight 24 = .ok (.if_icmp .ne 5, 3) := by decide +kernel
theorem dX5_fight_27 : decode cX5_fight 27 = .ok (.iconst (-1), 1) := by decide +kernel
theorem dX5_fight_28 : decode cX5_fight 28 = .ok (.ireturn, 1) := by decide +kernel
theorem dX5_fight_29 : decode cX5_fight 29 = .ok (.aload_n 0, 1) := by decide +kernel
theorem dX5_fight_30 : decode cX5_fight 30 = .ok (.getfield 19, 3) := by decide +kernel
theorem dX5_fight_33 : decode cX5_fight 33 = .ok (.iload_n 1, 1) := by decide +kernel
theorem dX5_fight_34 : decode cX5_fight 34 = .ok (.invokevirtual 135, 3) := by decide +kernel
theorem dX5_fight_37 : decode cX5_fight 37 = .ok (.ifCond .ne 14, 3) := by decide +kernel
theorem dX5_fight_40 : decode cX5_fight 40 = .ok (.aload_n 0, 1) := by decide +kernel
theorem dX5_fight_41 : decode cX5_fight 41 = .ok (.getfield 19, 3) := by decide +kernel
theorem dX5_fight_44 : decode cX5_fight 44 = .ok (.iload_n 2, 1) := by decide +kernel
theorem dX5_fight_45 : decode cX5_fight 45 = .ok (.invokevirtual 135, 3) := by decide +kernel
theorem dX5_fight_48 : decode cX5_fight 48 = .ok (.ifCond .eq 6, 3) := by decide +kernel
theorem dX5_fight_51 : decode cX5_fight 51 = .ok (.bipush (-2), 2) := by decide +kernel
theorem dX5_fight_53 : decode cX5_fight 53 = .ok (.ireturn, 1) := by decide +kernel
theorem dX5_fight_54 : decode cX5_fight 54 = .ok (.aload_n 0, 1) := by decide +kernel
theorem dX5_fight_55 : decode cX5_fight 55 = .ok (.getfield 19, 3) := by decide +kernel
theorem dX5_fight_58 : decode cX5_fight 58 = .ok (.getfield 97, 3) := by decide +kernel
theorem dX5_fight_61 : decode cX5_fight 61 = .ok (.iload_n 1, 1) := by decide +kernel
theorem dX5_fight_62 : decode cX5_fight 62 = .ok (.iaload, 1) := by decide +kernel
theorem dX5_fight_63 : decode cX5_fight 63 = .ok (.aload_n 0, 1) := by decide +kernel
theorem dX5_fight_64 : decode cX5_fight 64 = .ok (.getfield 19, 3) := by decide +kernel
theorem dX5_fight_67 : decode cX5_fight 67 = .ok (.getfield 97, 3) := by decide +kernel
theorem dX5_fight_70 : decode cX5_fight 70 = .ok (.iload_n 2, 1) := by decide +kernel
theorem dX5_fight_71 : decode cX5_fight 71 = .ok (.iaload, 1) := by decide +kernel
theorem dX5_fight_72 : decode cX5_fight 72 = .ok (.if_icmp .ne 5, 3) := by decide +kernel
theorem dX5_fight_75 : decode cX5_fight 75 = .ok (.iconst 2, 1) := by decide +kernel
theorem dX5_fight_76 : decode cX5_fight 76 = .ok (.ireturn, 1) := by decide +kernel
theorem dX5_fight_77 : decode cX5_fight 77 = .ok (.aload_n 0, 1) := by decide +kernel
theorem dX5_fight_78 : decode cX5_fight 78 = .ok (.getfield 19, 3) := by decide +kernel
theorem dX5_fight_81 : decode cX5_fight 81 = .ok (.getfield 97, 3) := by decide +kernel
theorem dX5_fight_84 : decode cX5_fight 84 = .ok (.iload_n 1, 1) := by decide +kernel
theorem dX5_fight_85 : decode cX5_fight 85 = .ok (.iaload, 1) := by decide +kernel
theorem dX5_fight_86 : decode cX5_fight 86 = .ok (.aload_n 0, 1) := by decide +kernel
theorem dX5_fight_87 : decode cX5_fight 87 = .ok (.getfield 19, 3) := by decide +kernel
theorem dX5_fight_90 : decode cX5_fight 90 = .ok (.getfield 97, 3) := by decide +kernel
theorem dX5_fight_93 : decode cX5_fight 93 = .ok (.iload_n 2, 1) := by decide +kernel
theorem dX5_fight_94 : decode cX5_fight 94 = .ok (.iaload, 1) := by decide +kernel
theorem dX5_fight_95 : decode cX5_fight 95 = .ok (.if_icmp .le 7, 3) := by decide +kernel
theorem dX5_fight_98 : decode cX5_fight 98 = .ok (.iconst 1, 1) := by decide +kernel
theorem dX5_fight_99 : decode cX5_fight 99 = .ok (.goto 4, 3) := by decide +kernel
theorem dX5_fight_102 : decode cX5_fight 102 = .ok (.iconst 0, 1) := by decide +kernel
theorem dX5_fight_103 : decode cX5_fight 103 = .ok (.ireturn, 1) := by decide +kernel
set_option maxRecDepth 20000 in
theorem ggX5_pass_X5_within : GoodIn wsX5_pass wsX5_within := goodIn_r _ [8] (by decide +kernel) (by decide +kernel)
set_option maxRecDepth 20000 in
theorem gX5_pass_X5_within : GoodIn wsX5_pass (va_wsS RX5 75 yX5_within wsX5_within) := goodIn_app (goodIn_of _ (by decide +kernel)) ggX5_pass_X5_within
set_option maxRecDepth 20000 in
theorem ggX5_pass_X3_put : GoodIn wsX5_pass wsX3_put := goodIn_r _ [13, 14, 15, 16, 17, 18, 19, 20, 21, 22, 23, 24, 25, 26, 27, 28, 29, 30, 31, 32, 33, 34, 35, 36, 37, 38, 39, 40, 41, 42, 88, 89, 90, 75, 76, 77, 78, 79, 80, 81, 82, 83, 84, 85, 86, 87] (by decide +kernel) (by decide +kernel)
set_option maxRecDepth 20000 in
theorem gX5_pass_X3_put : GoodIn wsX5_pass (wsV RX5 141 RX3 yX3_put wsX3_put) := goodIn_app (goodIn_of _ (by decide +kernel)) ggX5_pass_X3_put
set_option maxRecDepth 20000 in
theorem ggX5_pass_X1_reignGoesBy : GoodIn wsX5_pass wsX1_reignGoesBy := goodIn_r _ [46, 26, 36, 35, 27, 40, 41, 37, 28, 47, 48, 49, 24, 50, 51, 52, 53, 54, 39, 38, 30, 55, 7, 56, 57, 58, 59, 60, 61, 62, 42, 29, 63, 64, 65, 66, 19, 67, 75, 76, 77, 78, 79, 80, 81, 82, 83, 84, 85, 86, 87] (by decide +kernel) (by decide +kernel)
set_option maxRecDepth 20000 in
theorem gX5_pass_X1_reignGoesBy : GoodIn wsX5_pass (wsV RX5 147 RX1 yX1_reignGoesBy wsX1_reignGoesBy) := goodIn_app (goodIn_of _ (by decide +kernel)) ggX5_pass_X1_reignGoesBy
theorem dX5_pass_0 : decode cX5_pass 0 = .ok (.iload_n 1, 1) := by decide +kernel
theorem dX5_pass_1 : decode cX5_pass 1 = .ok (.iconst 1, 1) := by decide +kernel
theorem dX5_pass_2 : decode cX5_pass 2 = .ok (.bipush 20, 2) := by decide +kernel
theorem dX5_pass_4 : decode cX5_pass 4 = .ok (.invokestatic 75, 3) := by decide +kernel
theorem dX5_pass_7 : decode cX5_pass 7 = .ok (.ifCond .ne 5, 3) := by decide +kernel
theorem dX5_pass_10 : decode cX5_pass 10 = .ok (.iconst (-1), 1) := by decide +kernel
theorem dX5_pass_11 : decode cX5_pass 11 = .ok (.ireturn, 1) := by decide +kernel
theorem dX5_pass_12 : decode cX5_pass 12 = .ok (.aload_n 0, 1) := by decide +kernel
theorem dX5_pass_13 : decode cX5_pass 13 = .ok (.getfield 19, 3) := by decide +kernel
theorem dX5_pass_16 : decode cX5_pass 16 = .ok (.getfield 138, 3) := by decide +kernel
theorem dX5_pass_19 : decode cX5_pass 19 = .ok (.iload_n 1, 1) := by decide +kernel
theorem dX5_pass_20 : decode cX5_pass 20 = .ok (.iadd, 1) := by decide +kernel
theorem dX5_pass_21 : decode cX5_pass 21 = .ok (.sipush 999, 3) := by decide +kernel
theorem dX5_pass_24 : decode cX5_pass 24 = .ok (.if_icmp .le 6, 3) := by decide +kernel
theorem dX5_pass_27 : decode cX5_pass 27 = .ok (.bipush (-2), 2) := by decide +kernel
theorem dX5_pass_29 : decode cX5_pass 29 = .ok (.ireturn, 1) := by decide +kernel
theorem dX5_pass_30 : decode cX5_pass 30 = .ok (.aload_n 0, 1) := by decide +kernel
theorem dX5_pass_31 : decode cX5_pass 31 = .ok (.getfield 31, 3) := by decide +kernel
theorem dX5_pass_34 : decode cX5_pass 34 = .ok (.aload_n 0, 1) := by decide +kernel
theorem dX5_pass_35 : decode cX5_pass 35 = .ok (.getfield 19, 3) := by decide +kernel
theorem dX5_pass_38 : decode cX5_pass 38 = .ok (.invokevirtual 141, 3) := by decide +kernel
theorem dX5_pass_41 : decode cX5_pass 41 = .ok (.aload_n 0, 1) := by decide +kernel
theorem dX5_pass_42 : decode cX5_pass 42 = .ok (.getfield 19, 3) := by decide +kernel
theorem dX5_pass_45 : decode cX5_pass 45 = .ok (.getfield 144, 3) := by decide +kernel
theorem dX5_pass_48 : decode cX5_pass 48 = .ok (.istore_n 2, 1) := by decide +kernel
theorem dX5_pass_49 : decode cX5_pass 49 = .ok (.iconst 0, 1) := by decide +kernel
theorem dX5_pass_50 : decode cX5_pass 50 = .ok (.istore_n 3, 1) := by decide +kernel
theorem dX5_pass_51 : decode cX5_pass 51 = .ok (.iload_n 3, 1) := by decide +kernel
theorem dX5_pass_52 : decode cX5_pass 52 = .ok (.iload_n 1, 1) := by decide +kernel
theorem dX5_pass_53 : decode cX5_pass 53 = .ok (.if_icmp .ge 17, 3) := by decide +kernel
theorem dX5_pass_56 : decode cX5_pass 56 = .ok (.aload_n 0, 1) := by decide +kernel
theorem dX5_pass_57 : decode cX5_pass 57 = .ok (.getfield 19, 3) := by decide +kernel
theorem dX5_pass_60 : decode cX5_pass 60 = .ok (.invokevirtual 147, 3) := by decide +kernel
theorem dX5_pass_63 : decode cX5_pass 63 = .ok (.pop, 1) := by decide +kernel
theorem dX5_pass_64 : decode cX5_pass 64 = .ok (.iinc 3 1, 3) := by decide +kernel
theorem dX5_pass_67 : decode cX5_pass 67 = .ok (.goto (-16), 3) := by decide +kernel
theorem dX5_pass_70 : decode cX5_pass 70 = .ok (.aload_n 0, 1) := by decide +kernel
theorem dX5_pass_71 : decode cX5_pass 71 = .ok (.getfield 19, 3) := by decide +kernel
theorem dX5_pass_74 : decode cX5_pass 74 = .ok (.getfield 144, 3) := by decide +kernel
theorem dX5_pass_77 : decode cX5_pass 77 = .ok (.iload_n 2, 1) := by decide +kernel
theorem dX5_pass_78 : decode cX5_pass 78 = .ok (.isub, 1) := by decide +kernel
theorem dX5_pass_79 : decode cX5_pass 79 = .ok (.ireturn, 1) := by decide +kernel
set_option maxRecDepth 20000 in
theorem ggX5_hurl_X1_isPerson : GoodIn wsX5_hurl wsX1_isPerson := goodIn_r _ [8, 9, 10, 11, 12, 66, 67, 68, 69, 70, 71, 72, 73, 74, 75, 76, 77, 78] (by decide +kernel) (by decide +kernel)
set_option maxRecDepth 20000 in
theorem gX5_hurl_X1_isPerson : GoodIn wsX5_hurl (wsV RX5 90 RX1 yX1_isPerson wsX1_isPerson) := goodIn_app (goodIn_of _ (by decide +kernel)) ggX5_hurl_X1_isPerson
set_option maxRecDepth 20000 in
theorem ggX5_hurl_X5_within : GoodIn wsX5_hurl wsX5_within := goodIn_r _ [12] (by decide +kernel) (by decide +kernel)
set_option maxRecDepth 20000 in
theorem gX5_hurl_X5_within : GoodIn wsX5_hurl (va_wsS RX5 75 yX5_within wsX5_within) := goodIn_app (goodIn_of _ (by decide +kernel)) ggX5_hurl_X5_within
set_option maxRecDepth 20000 in
theorem ggX5_hurl_X1_isOut : GoodIn wsX5_hurl wsX1_isOut := goodIn_r _ [17, 18, 66, 67, 68, 69, 70, 71, 72, 73, 74, 75, 76, 77, 78] (by decide +kernel) (by decide +kernel)
set_option maxRecDepth 20000 in
theorem gX5_hurl_X1_isOut : GoodIn wsX5_hurl (wsV RX5 135 RX1 yX1_isOut wsX1_isOut) := goodIn_app (goodIn_of _ (by decide +kernel)) ggX5_hurl_X1_isOut
set_option maxRecDepth 20000 in
theorem ggX5_hurl_X3_put : GoodIn wsX5_hurl wsX3_put := goodIn_r _ [23, 24, 25, 26, 27, 28, 29, 30, 31, 32, 33, 7, 34, 9, 35, 36, 37, 38, 39, 40, 41, 42, 18, 43, 44, 45, 46, 47, 48, 49, 79, 80, 81, 66, 67, 68, 69, 70, 71, 72, 73, 74, 75, 76, 77, 78] (by decide +kernel) (by decide +kernel)
set_option maxRecDepth 20000 in
theorem gX5_hurl_X3_put : GoodIn wsX5_hurl (wsV RX5 141 RX3 yX3_put wsX3_put) := goodIn_app (goodIn_of _ (by decide +kernel)) ggX5_hurl_X3_put
set_option maxRecDepth 20000 in
theorem ggX5_hurl_X1_addGlove : GoodIn wsX5_hurl wsX1_addGlove := goodIn_r _ [53, 35, 10, 11, 12, 54, 5, 6, 7, 8, 9, 55, 56, 57, 58, 44, 45, 46, 47, 48, 49, 66, 67, 68, 69, 70, 71, 72, 73, 74, 75, 76, 77, 78] (by decide +kernel) (by decide +kernel)
set_option maxRecDepth 20000 in
theorem gX5_hurl_X1_addGlove : GoodIn wsX5_hurl (wsV RX5 154 RX1 yX1_addGlove wsX1_addGlove) := goodIn_app (goodIn_of _ (by decide +kernel)) ggX5_hurl_X1_addGlove
theorem dX5_hurl_0 : decode cX5_hurl 0 = .ok (.aload_n 0, 1) := by decide +kernel
theorem dX5_hurl_1 : decode cX5_hurl 1 = .ok (.getfield 19, 3) := by decide +kernel
theorem dX5_hurl_4 : decode cX5_hurl 4 = .ok (.iload_n 1, 1) := by decide +kernel
theorem dX5_hurl_5 : decode cX5_hurl 5 = .ok (.invokevirtual 90, 3) := by decide +kernel
theorem dX5_hurl_8 : decode cX5_hurl 8 = .ok (.ifCond .eq 22, 3) := by decide +kernel
theorem dX5_hurl_11 : decode cX5_hurl 11 = .ok (.iload_n 2, 1) := by decide +kernel
theorem dX5_hurl_12 : decode cX5_hurl 12 = .ok (.iconst 0, 1) := by decide +kernel
theorem dX5_hurl_13 : decode cX5_hurl 13 = .ok (.iconst 3, 1) := by decide +kernel
theorem dX5_hurl_14 : decode cX5_hurl 14 = .ok (.invokestatic 75, 3) := by decide +kernel
theorem dX5_hurl_17 : decode cX5_hurl 17 = .ok (.ifCond .eq 13, 3) := by decide +kernel
theorem dX5_hurl_20 : decode cX5_hurl 20 = .ok (.iload_n 3, 1) := by decide +kernel
theorem dX5_hurl_21 : decode cX5_hurl 21 = .ok (.iconst 1, 1) := by decide +kernel
theorem dX5_hurl_22 : decode cX5_hurl 22 = .ok (.bipush 20, 2) := by decide +kernel
theorem dX5_hurl_24 : decode cX5_hurl 24 = .ok (.invokestatic 75, 3) := by decide +kernel
theorem dX5_hurl_27 : decode cX5_hurl 27 = .ok (.ifCond .ne 5, 3) := by decide +kernel
theorem dX5_hurl_30 : decode cX5_hurl 30 = .ok (.iconst (-1), 1) := by decide +kernel
theorem dX5_hurl_31 : decode cX5_hurl 31 = .ok (.ireturn, 1) := by decide +kernel
theorem dX5_hurl_32 : decode cX5_hurl 32 = .ok (.aload_n 0, 1) := by decide +kernel
theorem dX5_hurl_33 : decode cX5_hurl 33 = .ok (.getfield 19, 3) := by decide +kernel
theorem dX5_hurl_36 : decode cX5_hurl 36 = .ok (.iload_n 1, 1) := by decide +kernel
theorem dX5_hurl_37 : decode cX5_hurl 37 = .ok (.invokevirtual 135, 3) := by decide +kernel
theorem dX5_hurl_40 : decode cX5_hurl 40 = .ok (.ifCond .eq 6, 3) := by decide +kernel
theorem dX5_hurl_43 : decode cX5_hurl 43 = .ok (.bipush (-2), 2) := by decide +kernel
theorem dX5_hurl_45 : decode cX5_hurl 45 = .ok (.ireturn, 1) := by decide +kernel
theorem dX5_hurl_46 : decode cX5_hurl 46 = .ok (.aload_n 0, 1) := by decide +kernel
theorem dX5_hurl_47 : decode cX5_hurl 47 = .ok (.getfield 19, 3) := by decide +kernel
theorem dX5_hurl_50 : decode cX5_hurl 50 = .ok (.getfield 151, 3) := by decide +kernel
theorem dX5_hurl_53 : decode cX5_hurl 53 = .ok (.bipush 8, 2) := by decide +kernel
theorem dX5_hurl_55 : decode cX5_hurl 55 = .ok (.if_icmp .lt 6, 3) := by decide +kernel
theorem dX5_hurl_58 : decode cX5_hurl 58 = .ok (.bipush (-3), 2) := by decide +kernel
theorem dX5_hurl_60 : decode cX5_hurl 60 = .ok (.ireturn, 1) := by decide +kernel
theorem dX5_hurl_61 : decode cX5_hurl 61 = .ok (.aload_n 0, 1) := by decide +kernel
theorem dX5_hurl_62 : decode cX5_hurl 62 = .ok (.getfield 31, 3) := by decide +kernel
theorem dX5_hurl_65 : decode cX5_hurl 65 = .ok (.aload_n 0, 1) := by decide +kernel
theorem dX5_hurl_66 : decode cX5_hurl 66 = .ok (.getfield 19, 3) := by decide +kernel
theorem dX5_hurl_69 : decode cX5_hurl 69 = .ok (.invokevirtual 141, 3) := by decide +kernel
theorem dX5_hurl_72 : decode cX5_hurl 72 = .ok (.aload_n 0, 1) := by decide +kernel
theorem dX5_hurl_73 : decode cX5_hurl 73 = .ok (.getfield 19, 3) := by decide +kernel
theorem dX5_hurl_76 : decode cX5_hurl 76 = .ok (.iload_n 2, 1) := by decide +kernel
theorem dX5_hurl_77 : decode cX5_hurl 77 = .ok (.iload_n 3, 1) := by decide +kernel
theorem dX5_hurl_78 : decode cX5_hurl 78 = .ok (.iload_n 1, 1) := by decide +kernel
theorem dX5_hurl_79 : decode cX5_hurl 79 = .ok (.invokevirtual 154, 3) := by decide +kernel
theorem dX5_hurl_82 : decode cX5_hurl 82 = .ok (.pop, 1) := by decide +kernel
theorem dX5_hurl_83 : decode cX5_hurl 83 = .ok (.aload_n 0, 1) := by decide +kernel
theorem dX5_hurl_84 : decode cX5_hurl 84 = .ok (.getfield 19, 3) := by decide +kernel
theorem dX5_hurl_87 : decode cX5_hurl 87 = .ok (.getfield 151, 3) := by decide +kernel
theorem dX5_hurl_90 : decode cX5_hurl 90 = .ok (.iconst 1, 1) := by decide +kernel
theorem dX5_hurl_91 : decode cX5_hurl 91 = .ok (.isub, 1) := by decide +kernel
theorem dX5_hurl_92 : decode cX5_hurl 92 = .ok (.ireturn, 1) := by decide +kernel
set_option maxRecDepth 20000 in
theorem ggX5_take_X1_isGlove : GoodIn wsX5_take wsX1_isGlove := goodIn_r _ [8, 9, 10, 11, 12, 63, 64, 65, 66, 67, 68, 69, 70, 71, 72, 73, 74, 75] (by decide +kernel) (by decide +kernel)
set_option maxRecDepth 20000 in
theorem gX5_take_X1_isGlove : GoodIn wsX5_take (wsV RX5 103 RX1 yX1_isGlove wsX1_isGlove) := goodIn_app (goodIn_of _ (by decide +kernel)) ggX5_take_X1_isGlove
set_option maxRecDepth 20000 in
theorem ggX5_take_X3_put : GoodIn wsX5_take wsX3_put := goodIn_r _ [17, 18, 19, 20, 21, 22, 23, 24, 25, 26, 27, 7, 28, 29, 9, 30, 31, 32, 33, 34, 35, 36, 37, 38, 39, 40, 41, 42, 43, 44, 76, 77, 78, 63, 64, 65, 66, 67, 68, 69, 70, 71, 72, 73, 74, 75] (by decide +kernel) (by decide +kernel)
set_option maxRecDepth 20000 in
theorem gX5_take_X3_put : GoodIn wsX5_take (wsV RX5 141 RX3 yX3_put wsX3_put) := goodIn_app (goodIn_of _ (by decide +kernel)) ggX5_take_X3_put
set_option maxRecDepth 20000 in
theorem ggX5_take_X1_lyingAsBits : GoodIn wsX5_take wsX1_lyingAsBits := goodIn_r _ [48, 9, 42, 63, 64, 65, 66, 67, 68, 69, 70, 71, 72, 73, 74, 75] (by decide +kernel) (by decide +kernel)
set_option maxRecDepth 20000 in
theorem gX5_take_X1_lyingAsBits : GoodIn wsX5_take (wsV RX5 157 RX1 yX1_lyingAsBits wsX1_lyingAsBits) := goodIn_app (goodIn_of _ (by decide +kernel)) ggX5_take_X1_lyingAsBits
set_option maxRecDepth 20000 in
theorem ggX5_take_J6_bitCount_0f7a4 : GoodIn wsX5_take wsJ6_bitCount_0f7a4 := goodIn_r _ [52, 53, 54, 55] (by decide +kernel) (by decide +kernel)
set_option maxRecDepth 20000 in
theorem gX5_take_J6_bitCount_0f7a4 : GoodIn wsX5_take (va_wsS RX5 160 yJ6_bitCount_0f7a4 wsJ6_bitCount_0f7a4) := goodIn_app (goodIn_of _ (by decide +kernel)) ggX5_take_J6_bitCount_0f7a4
theorem dX5_take_0 : decode cX5_take 0 = .ok (.aload_n 0, 1) := by decide +kernel
theorem dX5_take_1 : decode cX5_take 1 = .ok (.getfield 19, 3) := by decide +kernel
theorem dX5_take_4 : decode cX5_take 4 = .ok (.iload_n 1, 1) := by decide +kernel
theorem dX5_take_5 : decode cX5_take 5 = .ok (.invokevirtual 103, 3) := by decide +kernel
theorem dX5_take_8 : decode cX5_take 8 = .ok (.ifCond .ne 5, 3) := by decide +kernel
theorem dX5_take_11 : decode cX5_take 11 = .ok (.iconst (-1), 1) := by decide +kernel
theorem dX5_take_12 : decode cX5_take 12 = .ok (.ireturn, 1) := by decide +kernel
theorem dX5_take_13 : decode cX5_take 13 = .ok (.aload_n 0, 1) := by decide +kernel
theorem dX5_take_14 : decode cX5_take 14 = .ok (.getfield 19, 3) := by decide +kernel
theorem dX5_take_17 : decode cX5_take 17 = .ok (.getfield 128, 3) := by decide +kernel
theorem dX5_take_20 : decode cX5_take 20 = .ok (.iload_n 1, 1) := by decide +kernel
theorem dX5_take_21 : decode cX5_take 21 = .ok (.iaload, 1) := by decide +kernel
theorem dX5_take_22 : decode cX5_take 22 = .ok (.ifCond .ne 6, 3) := by decide +kernel
theorem dX5_take_25 : decode cX5_take 25 = .ok (.bipush (-2), 2) := by decide +kernel
theorem dX5_take_27 : decode cX5_take 27 = .ok (.ireturn, 1) := by decide +kernel
theorem dX5_take_28 : decode cX5_take 28 = .ok (.aload_n 0, 1) := by decide +kernel
theorem dX5_take_29 : decode cX5_take 29 = .ok (.getfield 31, 3) := by decide +kernel
theorem dX5_take_32 : decode cX5_take 32 = .ok (.aload_n 0, 1) := by decide +kernel
theorem dX5_take_33 : decode cX5_take 33 = .ok (.getfield 19, 3) := by decide +kernel
theorem dX5_take_36 : decode cX5_take 36 = .ok (.invokevirtual 141, 3) := by decide +kernel
theorem dX5_take_39 : decode cX5_take 39 = .ok (.aload_n 0, 1) := by decide +kernel
theorem dX5_take_40 : decode cX5_take 40 = .ok (.getfield 19, 3) := by decide +kernel
theorem dX5_take_43 : decode cX5_take 43 = .ok (.getfield 128, 3) := by decide +kernel
theorem dX5_take_46 : decode cX5_take 46 = .ok (.iload_n 1, 1) := by decide +kernel
theorem dX5_take_47 : decode cX5_take 47 = .ok (.iconst 0, 1) := by decide +kernel
theorem dX5_take_48 : decode cX5_take 48 = .ok (.iastore, 1) := by decide +kernel
theorem dX5_take_49 : decode cX5_take 49 = .ok (.aload_n 0, 1) := by decide +kernel
theorem dX5_take_50 : decode cX5_take 50 = .ok (.getfield 19, 3) := by decide +kernel
theorem dX5_take_53 : decode cX5_take 53 = .ok (.invokevirtual 157, 3) := by decide +kernel
theorem dX5_take_56 : decode cX5_take 56 = .ok (.invokestatic 160, 3) := by decide +kernel
theorem dX5_take_59 : decode cX5_take 59 = .ok (.ireturn, 1) := by decide +kernel
set_option maxRecDepth 20000 in
theorem ggX5_stretch_X1_isGlove : GoodIn wsX5_stretch wsX1_isGlove := goodIn_r _ [10, 11, 12, 13, 14, 54, 55, 56, 57, 58, 59, 60, 61, 62, 63, 64, 65, 66] (by decide +kernel) (by decide +kernel)
set_option maxRecDepth 20000 in
theorem gX5_stretch_X1_isGlove : GoodIn wsX5_stretch (wsV RX5 103 RX1 yX1_isGlove wsX1_isGlove) := goodIn_app (goodIn_of _ (by decide +kernel)) ggX5_stretch_X1_isGlove
set_option maxRecDepth 20000 in
theorem ggX5_stretch_X3_put : GoodIn wsX5_stretch wsX3_put := goodIn_r _ [19, 20, 21, 22, 23, 24, 25, 26, 27, 28, 29, 9, 30, 31, 11, 32, 33, 34, 35, 36, 37, 38, 39, 40, 41, 42, 43, 44, 45, 46, 67, 68, 69, 54, 55, 56, 57, 58, 59, 60, 61, 62, 63, 64, 65, 66] (by decide +kernel) (by decide +kernel)
set_option maxRecDepth 20000 in
theorem gX5_stretch_X3_put : GoodIn wsX5_stretch (wsV RX5 141 RX3 yX3_put wsX3_put) := goodIn_app (goodIn_of _ (by decide +kernel)) ggX5_stretch_X3_put
theorem dX5_stretch_0 : decode cX5_stretch 0 = .ok (.aload_n 0, 1) := by decide +kernel
theorem dX5_stretch_1 : decode cX5_stretch 1 = .ok (.getfield 19, 3) := by decide +kernel
theorem dX5_stretch_4 : decode cX5_stretch 4 = .ok (.iload_n 1, 1) := by decide +kernel
theorem dX5_stretch_5 : decode cX5_stretch 5 = .ok (.invokevirtual 103, 3) := by decide +kernel
theorem dX5_stretch_8 : decode cX5_stretch 8 = .ok (.ifCond .ne 5, 3) := by decide +kernel
theorem dX5_stretch_11 : decode cX5_stretch 11 = .ok (.iconst (-1), 1) := by decide +kernel
theorem dX5_stretch_12 : decode cX5_stretch 12 = .ok (.ireturn, 1) := by decide +kernel
theorem dX5_stretch_13 : decode cX5_stretch 13 = .ok (.aload_n 0, 1) := by decide +kernel
theorem dX5_stretch_14 : decode cX5_stretch 14 = .ok (.getfield 19, 3) := by decide +kernel
theorem dX5_stretch_17 : decode cX5_stretch 17 = .ok (.getfield 106, 3) := by decide +kernel
theorem dX5_stretch_20 : decode cX5_stretch 20 = .ok (.iload_n 1, 1) := by decide +kernel
theorem dX5_stretch_21 : decode cX5_stretch 21 = .ok (.iaload, 1) := by decide +kernel
theorem dX5_stretch_22 : decode cX5_stretch 22 = .ok (.iconst 1, 1) := by decide +kernel
theorem dX5_stretch_23 : decode cX5_stretch 23 = .ok (.if_icmp .ne 29, 3) := by decide +kernel
theorem dX5_stretch_26 : decode cX5_stretch 26 = .ok (.aload_n 0, 1) := by decide +kernel
theorem dX5_stretch_27 : decode cX5_stretch 27 = .ok (.getfield 19, 3) := by decide +kernel
theorem dX5_stretch_30 : decode cX5_stretch 30 = .ok (.getfield 128, 3) := by decide +kernel
theorem dX5_stretch_33 : decode cX5_stretch 33 = .ok (.iload_n 1, 1) := by decide +kernel
theorem dX5_stretch_34 : decode cX5_stretch 34 = .ok (.iaload, 1) := by decide +kernel
theorem dX5_stretch_35 : decode cX5_stretch 35 = .ok (.ifCond .eq 17, 3) := by decide +kernel
theorem dX5_stretch_38 : decode cX5_stretch 38 = .ok (.aload_n 0, 1) := by decide +kernel
theorem dX5_stretch_39 : decode cX5_stretch 39 = .ok (.getfield 19, 3) := by decide +kernel
theorem dX5_stretch_42 : decode cX5_stretch 42 = .ok (.getfield 109, 3) := by decide +kernel
theorem dX5_stretch_45 : decode cX5_stretch 45 = .ok (.iload_n 1, 1) := by decide +kernel
theorem dX5_stretch_46 : decode cX5_stretch 46 = .ok (.iaload, 1) := by decide +kernel
theorem dX5_stretch_47 : decode cX5_stretch 47 = .ok (.bipush 20, 2) := by decide +kernel
theorem dX5_stretch_49 : decode cX5_stretch 49 = .ok (.if_icmp .lt 6, 3) := by decide +kernel
theorem dX5_stretch_52 : decode cX5_stretch 52 = .ok (.bipush (-2), 2) := by decide +kernel
theorem dX5_stretch_54 : decode cX5_stretch 54 = .ok (.ireturn, 1) := by decide +kernel
theorem dX5_stretch_55 : decode cX5_stretch 55 = .ok (.aload_n 0, 1) := by decide +kernel
theorem dX5_stretch_56 : decode cX5_stretch 56 = .ok (.getfield 31, 3) := by decide +kernel
theorem dX5_stretch_59 : decode cX5_stretch 59 = .ok (.aload_n 0, 1) := by decide +kernel
theorem dX5_stretch_60 : decode cX5_stretch 60 = .ok (.getfield 19, 3) := by decide +kernel
theorem dX5_stretch_63 : decode cX5_stretch 63 = .ok (.invokevirtual 141, 3) := by decide +kernel
theorem dX5_stretch_66 : decode cX5_stretch 66 = .ok (.aload_n 0, 1) := by decide +kernel
theorem dX5_stretch_67 : decode cX5_stretch 67 = .ok (.getfield 19, 3) := by decide +kernel
theorem dX5_stretch_70 : decode cX5_stretch 70 = .ok (.getfield 109, 3) := by decide +kernel
theorem dX5_stretch_73 : decode cX5_stretch 73 = .ok (.iload_n 1, 1) := by decide +kernel
theorem dX5_stretch_74 : decode cX5_stretch 74 = .ok (.dup2, 1) := by decide +kernel
theorem dX5_stretch_75 : decode cX5_stretch 75 = .ok (.iaload, 1) := by decide +kernel
theorem dX5_stretch_76 : decode cX5_stretch 76 = .ok (.iconst 1, 1) := by decide +kernel
theorem dX5_stretch_77 : decode cX5_stretch 77 = .ok (.iadd, 1) := by decide +kernel
theorem dX5_stretch_78 : decode cX5_stretch 78 = .ok (.iastore, 1) := by decide +kernel
theorem dX5_stretch_79 : decode cX5_stretch 79 = .ok (.aload_n 0, 1) := by decide +kernel
theorem dX5_stretch_80 : decode cX5_stretch 80 = .ok (.getfield 19, 3) := by decide +kernel
theorem dX5_stretch_83 : decode cX5_stretch 83 = .ok (.getfield 109, 3) := by decide +kernel
theorem dX5_stretch_86 : decode cX5_stretch 86 = .ok (.iload_n 1, 1) := by decide +kernel
theorem dX5_stretch_87 : decode cX5_stretch 87 = .ok (.iaload, 1) := by decide +kernel
theorem dX5_stretch_88 : decode cX5_stretch 88 = .ok (.ireturn, 1) := by decide +kernel
set_option maxRecDepth 20000 in
theorem ggX5_wear_X1_isPerson : GoodIn wsX5_wear wsX1_isPerson := goodIn_r _ [8, 9, 10, 11, 12, 73, 74, 75, 76, 77, 78, 79, 80, 81, 82, 83, 84, 85] (by decide +kernel) (by decide +kernel)
set_option maxRecDepth 20000 in
theorem gX5_wear_X1_isPerson : GoodIn wsX5_wear (wsV RX5 90 RX1 yX1_isPerson wsX1_isPerson) := goodIn_app (goodIn_of _ (by decide +kernel)) ggX5_wear_X1_isPerson
set_option maxRecDepth 20000 in
theorem ggX5_wear_X1_isGlove : GoodIn wsX5_wear wsX1_isGlove := goodIn_r _ [16, 17, 10, 11, 12, 73, 74, 75, 76, 77, 78, 79, 80, 81, 82, 83, 84, 85] (by decide +kernel) (by decide +kernel)
set_option maxRecDepth 20000 in
theorem gX5_wear_X1_isGlove : GoodIn wsX5_wear (wsV RX5 103 RX1 yX1_isGlove wsX1_isGlove) := goodIn_app (goodIn_of _ (by decide +kernel)) ggX5_wear_X1_isGlove
set_option maxRecDepth 20000 in
theorem ggX5_wear_X1_canTakeUp : GoodIn wsX5_wear wsX1_canTakeUp := goodIn_r _ [21, 22, 23, 24, 25, 26, 27, 28, 29, 11, 30, 31, 32, 73, 74, 75, 76, 77, 78, 79, 80, 81, 82, 83, 84, 85] (by decide +kernel) (by decide +kernel)
set_option maxRecDepth 20000 in
theorem gX5_wear_X1_canTakeUp : GoodIn wsX5_wear (wsV RX5 131 RX1 yX1_canTakeUp wsX1_canTakeUp) := goodIn_app (goodIn_of _ (by decide +kernel)) ggX5_wear_X1_canTakeUp
set_option maxRecDepth 20000 in
theorem ggX5_wear_X3_put : GoodIn wsX5_wear wsX3_put := goodIn_r _ [37, 38, 39, 40, 41, 42, 43, 44, 45, 46, 47, 7, 48, 9, 17, 49, 50, 28, 51, 52, 53, 54, 24, 55, 25, 26, 23, 22, 27, 56, 86, 87, 88, 73, 74, 75, 76, 77, 78, 79, 80, 81, 82, 83, 84, 85] (by decide +kernel) (by decide +kernel)
set_option maxRecDepth 20000 in
theorem gX5_wear_X3_put : GoodIn wsX5_wear (wsV RX5 141 RX3 yX3_put wsX3_put) := goodIn_app (goodIn_of _ (by decide +kernel)) ggX5_wear_X3_put
set_option maxRecDepth 20000 in
theorem ggX5_wear_X1_takeUp : GoodIn wsX5_wear wsX1_takeUp := goodIn_r _ [60, 23, 22, 56, 24, 50, 61, 11, 62, 63, 64, 43, 65, 73, 74, 75, 76, 77, 78, 79, 80, 81, 82, 83, 84, 85] (by decide +kernel) (by decide +kernel)
set_option maxRecDepth 20000 in
theorem gX5_wear_X1_takeUp : GoodIn wsX5_wear (wsV RX5 166 RX1 yX1_takeUp wsX1_takeUp) := goodIn_app (goodIn_of _ (by decide +kernel)) ggX5_wear_X1_takeUp
theorem dX5_wear_0 : decode cX5_wear 0 = .ok (.aload_n 0, 1) := by decide +kernel
theorem dX5_wear_1 : decode cX5_wear 1 = .ok (.getfield 19, 3) := by decide +kernel
theorem dX5_wear_4 : decode cX5_wear 4 = .ok (.iload_n 1, 1) := by decide +kernel
theorem dX5_wear_5 : decode cX5_wear 5 = .ok (.invokevirtual 90, 3) := by decide +kernel
theorem dX5_wear_8 : decode cX5_wear 8 = .ok (.ifCond .eq 14, 3) := by decide +kernel
theorem dX5_wear_11 : decode cX5_wear 11 = .ok (.aload_n 0, 1) := by decide +kernel
theorem dX5_wear_12 : decode cX5_wear 12 = .ok (.getfield 19, 3) := by decide +kernel
theorem dX5_wear_15 : decode cX5_wear 15 = .ok (.iload_n 2, 1) := by decide +kernel
theorem dX5_wear_16 : decode cX5_wear 16 = .ok (.invokevirtual 103, 3) := by decide +kernel
theorem dX5_wear_19 : decode cX5_wear 19 = .ok (.ifCond .ne 5, 3) := by decide +kernel
theorem dX5_wear_22 : decode cX5_wear 22 = .ok (.iconst (-1), 1) := by decide +kernel
theorem dX5_wear_23 : decode cX5_wear 23 = .ok (.ireturn, 1) := by decide +kernel
theorem dX5_wear_24 : decode cX5_wear 24 = .ok (.aload_n 0, 1) := by decide +kernel
theorem dX5_wear_25 : decode cX5_wear 25 = .ok (.getfield 19, 3) := by decide +kernel
theorem dX5_wear_28 : decode cX5_wear 28 = .ok (.iload_n 1, 1) := by decide +kernel
theorem dX5_wear_29 : decode cX5_wear 29 = .ok (.iload_n 2, 1) := by decide +kernel
theorem dX5_wear_30 : decode cX5_wear 30 = .ok (.invokevirtual 131, 3) := by decide +kernel
theorem dX5_wear_33 : decode cX5_wear 33 = .ok (.ifCond .ne 6, 3) := by decide +kernel
theorem dX5_wear_36 : decode cX5_wear 36 = .ok (.bipush (-2), 2) := by decide +kernel
theorem dX5_wear_38 : decode cX5_wear 38 = .ok (.ireturn, 1) := by decide +kernel
theorem dX5_wear_39 : decode cX5_wear 39 = .ok (.aload_n 0, 1) := by decide +kernel
theorem dX5_wear_40 : decode cX5_wear 40 = .ok (.getfield 31, 3) := by decide +kernel
theorem dX5_wear_43 : decode cX5_wear 43 = .ok (.aload_n 0, 1) := by decide +kernel
theorem dX5_wear_44 : decode cX5_wear 44 = .ok (.getfield 19, 3) := by decide +kernel
theorem dX5_wear_47 : decode cX5_wear 47 = .ok (.invokevirtual 141, 3) := by decide +kernel
theorem dX5_wear_50 : decode cX5_wear 50 = .ok (.aload_n 0, 1) := by decide +kernel
theorem dX5_wear_51 : decode cX5_wear 51 = .ok (.getfield 19, 3) := by decide +kernel
theorem dX5_wear_54 : decode cX5_wear 54 = .ok (.iload_n 1, 1) := by decide +kernel
theorem dX5_wear_55 : decode cX5_wear 55 = .ok (.iload_n 2, 1) := by decide +kernel
theorem dX5_wear_56 : decode cX5_wear 56 = .ok (.invokevirtual 166, 3) := by decide +kernel
theorem dX5_wear_59 : decode cX5_wear 59 = .ok (.aload_n 0, 1) := by decide +kernel
theorem dX5_wear_60 : decode cX5_wear 60 = .ok (.getfield 19, 3) := by decide +kernel
theorem dX5_wear_63 : decode cX5_wear 63 = .ok (.getfield 97, 3) := by decide +kernel
theorem dX5_wear_66 : decode cX5_wear 66 = .ok (.iload_n 1, 1) := by decide +kernel
theorem dX5_wear_67 : decode cX5_wear 67 = .ok (.iaload, 1) := by decide +kernel
theorem dX5_wear_68 : decode cX5_wear 68 = .ok (.ireturn, 1) := by decide +kernel
set_option maxRecDepth 20000 in
theorem ggX5_undo_X3_bringBack : GoodIn wsX5_undo wsX3_bringBack := goodIn_r _ [8, 9, 10, 11, 12, 13, 14, 15, 16, 17, 18, 19, 20, 21, 22, 23, 24, 25, 26, 27, 28, 29, 30, 31, 32, 33, 41, 42, 43, 44, 45, 46, 47, 48, 49, 50, 51, 52, 53, 54, 55, 56] (by decide +kernel) (by decide +kernel)
set_option maxRecDepth 20000 in
theorem gX5_undo_X3_bringBack : GoodIn wsX5_undo (wsV RX5 170 RX3 yX3_bringBack wsX3_bringBack) := goodIn_app (goodIn_of _ (by decide +kernel)) ggX5_undo_X3_bringBack
theorem dX5_undo_0 : decode cX5_undo 0 = .ok (.aload_n 0, 1) := by decide +kernel
theorem dX5_undo_1 : decode cX5_undo 1 = .ok (.getfield 31, 3) := by decide +kernel
theorem dX5_undo_4 : decode cX5_undo 4 = .ok (.aload_n 0, 1) := by decide +kernel
theorem dX5_undo_5 : decode cX5_undo 5 = .ok (.getfield 19, 3) := by decide +kernel
theorem dX5_undo_8 : decode cX5_undo 8 = .ok (.invokevirtual 170, 3) := by decide +kernel
theorem dX5_undo_11 : decode cX5_undo 11 = .ok (.ifCond .eq 13, 3) := by decide +kernel
theorem dX5_undo_14 : decode cX5_undo 14 = .ok (.aload_n 0, 1) := by decide +kernel
theorem dX5_undo_15 : decode cX5_undo 15 = .ok (.getfield 31, 3) := by decide +kernel
theorem dX5_undo_18 : decode cX5_undo 18 = .ok (.getfield 86, 3) := by decide +kernel
theorem dX5_undo_21 : decode cX5_undo 21 = .ok (.goto 5, 3) := by decide +kernel
theorem dX5_undo_24 : decode cX5_undo 24 = .ok (.bipush (-2), 2) := by decide +kernel
theorem dX5_undo_26 : decode cX5_undo 26 = .ok (.ireturn, 1) := by decide +kernel
set_option maxRecDepth 20000 in
theorem ggX5_behind_X5_within : GoodIn wsX5_behind wsX5_within := goodIn_r _ [6] (by decide +kernel) (by decide +kernel)
set_option maxRecDepth 20000 in
theorem gX5_behind_X5_within : GoodIn wsX5_behind (va_wsS RX5 75 yX5_within wsX5_within) := goodIn_app (goodIn_of _ (by decide +kernel)) ggX5_behind_X5_within
set_option maxRecDepth 20000 in
theorem ggX5_behind_X1_isPerson : GoodIn wsX5_behind wsX1_isPerson := goodIn_r _ [11, 12, 4, 5, 6, 77, 78, 79, 80, 81, 82, 83, 84, 85, 86, 87, 88, 89] (by decide +kernel) (by decide +kernel)
set_option maxRecDepth 20000 in
theorem gX5_behind_X1_isPerson : GoodIn wsX5_behind (wsV RX5 90 RX1 yX1_isPerson wsX1_isPerson) := goodIn_app (goodIn_of _ (by decide +kernel)) ggX5_behind_X1_isPerson
set_option maxRecDepth 20000 in
theorem ggX5_behind_X0_mightBehind : GoodIn wsX5_behind wsX0_mightBehind := goodIn_r _ [17, 18, 19, 20, 21, 22, 10, 23, 12, 24, 25, 26, 27, 28, 29, 30, 31, 32, 33, 34, 35, 36, 37, 38, 39, 40, 41, 42, 16, 43, 44, 45, 46, 47, 48, 49, 50, 51, 52, 53, 54, 55, 56, 5, 57, 58, 59, 60, 61, 62, 63, 64, 65, 66, 67, 68, 69, 90, 77, 78, 79, 80, 81, 82, 83, 84, 85, 86, 87, 88, 89] (by decide +kernel) (by decide +kernel)
set_option maxRecDepth 20000 in
theorem gX5_behind_X0_mightBehind : GoodIn wsX5_behind (wsV RX5 174 RX0 yX0_mightBehind wsX0_mightBehind) := goodIn_app (goodIn_of _ (by decide +kernel)) ggX5_behind_X0_mightBehind
theorem dX5_behind_0 : decode cX5_behind 0 = .ok (.iload_n 1, 1) := by decide +kernel
theorem dX5_behind_1 : decode cX5_behind 1 = .ok (.iconst 0, 1) := by decide +kernel
theorem dX5_behind_2 : decode cX5_behind 2 = .ok (.bipush 30, 2) := by decide +kernel
theorem dX5_behind_4 : decode cX5_behind 4 = .ok (.invokestatic 75, 3) := by decide +kernel
theorem dX5_behind_7 : decode cX5_behind 7 = .ok (.ifCond .eq 14, 3) := by decide +kernel
theorem dX5_behind_10 : decode cX5_behind 10 = .ok (.aload_n 0, 1) := by decide +kernel
theorem dX5_behind_11 : decode cX5_behind 11 = .ok (.getfield 19, 3) := by decide +kernel
theorem dX5_behind_14 : decode cX5_behind 14 = .ok (.iload_n 2, 1) := by decide +kernel
theorem dX5_behind_15 : decode cX5_behind 15 = .ok (.invokevirtual 90, 3) := by decide +kernel
theorem dX5_behind_18 : decode cX5_behind 18 = .ok (.ifCond .ne 5, 3) := by decide +kernel
theorem dX5_behind_21 : decode cX5_behind 21 = .ok (.iconst (-1), 1) := by decide +kernel
theorem dX5_behind_22 : decode cX5_behind 22 = .ok (.ireturn, 1) := by decide +kernel
theorem dX5_behind_23 : decode cX5_behind 23 = .ok (.aload_n 0, 1) := by decide +kernel
theorem dX5_behind_24 : decode cX5_behind 24 = .ok (.getfield 48, 3) := by decide +kernel
theorem dX5_behind_27 : decode cX5_behind 27 = .ok (.aload_n 0, 1) := by decide +kernel
theorem dX5_behind_28 : decode cX5_behind 28 = .ok (.getfield 19, 3) := by decide +kernel
theorem dX5_behind_31 : decode cX5_behind 31 = .ok (.iload_n 1, 1) := by decide +kernel
theorem dX5_behind_32 : decode cX5_behind 32 = .ok (.iload_n 2, 1) := by decide +kernel
theorem dX5_behind_33 : decode cX5_behind 33 = .ok (.invokevirtual 174, 3) := by decide +kernel
theorem dX5_behind_36 : decode cX5_behind 36 = .ok (.ireturn, 1) := by decide +kernel
set_option maxRecDepth 20000 in
theorem ggX5_lies_X1_isGlove : GoodIn wsX5_lies wsX1_isGlove := goodIn_r _ [7, 8, 9, 10, 11, 72, 73, 74, 75, 76, 77, 78, 79, 80, 81, 82, 83, 84] (by decide +kernel) (by decide +kernel)
set_option maxRecDepth 20000 in
theorem gX5_lies_X1_isGlove : GoodIn wsX5_lies (wsV RX5 103 RX1 yX1_isGlove wsX1_isGlove) := goodIn_app (goodIn_of _ (by decide +kernel)) ggX5_lies_X1_isGlove
set_option maxRecDepth 20000 in
theorem ggX5_lies_X0_whenGone : GoodIn wsX5_lies wsX0_whenGone := goodIn_r _ [16, 17, 18, 19, 20, 21, 6, 22, 23, 8, 24, 25, 26, 27, 28, 29, 30, 31, 32, 33, 34, 35, 36, 37, 38, 39, 40, 41, 42, 43, 44, 45, 46, 47, 48, 49, 50, 51, 10, 52, 53, 54, 55, 56, 57, 58, 59, 60, 61, 62, 63, 64, 85, 72, 73, 74, 75, 76, 77, 78, 79, 80, 81, 82, 83, 84] (by decide +kernel) (by decide +kernel)
set_option maxRecDepth 20000 in
theorem gX5_lies_X0_whenGone : GoodIn wsX5_lies (wsV RX5 178 RX0 yX0_whenGone wsX0_whenGone) := goodIn_app (goodIn_of _ (by decide +kernel)) ggX5_lies_X0_whenGone
theorem dX5_lies_0 : decode cX5_lies 0 = .ok (.aload_n 0, 1) := by decide +kernel
theorem dX5_lies_1 : decode cX5_lies 1 = .ok (.getfield 19, 3) := by decide +kernel
theorem dX5_lies_4 : decode cX5_lies 4 = .ok (.iload_n 1, 1) := by decide +kernel
theorem dX5_lies_5 : decode cX5_lies 5 = .ok (.invokevirtual 103, 3) := by decide +kernel
theorem dX5_lies_8 : decode cX5_lies 8 = .ok (.ifCond .eq 18, 3) := by decide +kernel
theorem dX5_lies_11 : decode cX5_lies 11 = .ok (.aload_n 0, 1) := by decide +kernel
theorem dX5_lies_12 : decode cX5_lies 12 = .ok (.getfield 48, 3) := by decide +kernel
theorem dX5_lies_15 : decode cX5_lies 15 = .ok (.aload_n 0, 1) := by decide +kernel
theorem dX5_lies_16 : decode cX5_lies 16 = .ok (.getfield 19, 3) := by decide +kernel
theorem dX5_lies_19 : decode cX5_lies 19 = .ok (.iload_n 1, 1) := by decide +kernel
theorem dX5_lies_20 : decode cX5_lies 20 = .ok (.invokevirtual 178, 3) := by decide +kernel
theorem dX5_lies_23 : decode cX5_lies 23 = .ok (.goto 4, 3) := by decide +kernel
theorem dX5_lies_26 : decode cX5_lies 26 = .ok (.iconst (-1), 1) := by decide +kernel
theorem dX5_lies_27 : decode cX5_lies 27 = .ok (.ireturn, 1) := by decide +kernel
set_option maxRecDepth 20000 in
theorem ggX5_last_X0_standingAtLast : GoodIn wsX5_last wsX0_standingAtLast := goodIn_r _ [7, 8, 9, 10, 11, 12, 13, 14, 15, 16, 17, 18, 19, 20, 21, 22, 23, 24, 25, 26, 27, 28, 29, 30, 31, 32, 33, 6, 34, 35, 36, 37, 38, 39, 40, 41, 42, 43, 44, 45, 46, 47, 48, 49, 50, 51, 52, 53, 54, 55, 56, 57, 58, 59, 60, 61, 62, 63, 64, 65, 73, 74, 75, 76, 77, 78, 79, 80, 81, 82, 83, 84, 85, 86] (by decide +kernel) (by decide +kernel)
set_option maxRecDepth 20000 in
theorem gX5_last_X0_standingAtLast : GoodIn wsX5_last (wsV RX5 182 RX0 yX0_standingAtLast wsX0_standingAtLast) := goodIn_app (goodIn_of _ (by decide +kernel)) ggX5_last_X0_standingAtLast
theorem dX5_last_0 : decode cX5_last 0 = .ok (.aload_n 0, 1) := by decide +kernel
theorem dX5_last_1 : decode cX5_last 1 = .ok (.getfield 48, 3) := by decide +kernel
theorem dX5_last_4 : decode cX5_last 4 = .ok (.aload_n 0, 1) := by decide +kernel
theorem dX5_last_5 : decode cX5_last 5 = .ok (.getfield 19, 3) := by decide +kernel
theorem dX5_last_8 : decode cX5_last 8 = .ok (.invokevirtual 182, 3) := by decide +kernel
theorem dX5_last_11 : decode cX5_last 11 = .ok (.ireturn, 1) := by decide +kernel
set_option maxRecDepth 20000 in
theorem ggX5_safe_X1_isPerson : GoodIn wsX5_safe wsX1_isPerson := goodIn_r _ [7, 8, 9, 10, 11, 96, 97, 98, 99, 100, 101, 102, 103, 104, 105, 106, 107, 108] (by decide +kernel) (by decide +kernel)
set_option maxRecDepth 20000 in
theorem gX5_safe_X1_isPerson : GoodIn wsX5_safe (wsV RX5 90 RX1 yX1_isPerson wsX1_isPerson) := goodIn_app (goodIn_of _ (by decide +kernel)) ggX5_safe_X1_isPerson
set_option maxRecDepth 20000 in
theorem ggX5_safe_X5_within : GoodIn wsX5_safe wsX5_within := goodIn_r _ [11] (by decide +kernel) (by decide +kernel)
set_option maxRecDepth 20000 in
theorem gX5_safe_X5_within : GoodIn wsX5_safe (va_wsS RX5 75 yX5_within wsX5_within) := goodIn_app (goodIn_of _ (by decide +kernel)) ggX5_safe_X5_within
set_option maxRecDepth 20000 in
theorem ggX5_safe_X0_awayForSafety : GoodIn wsX5_safe wsX0_awayForSafety := goodIn_r _ [17, 18, 19, 20, 6, 21, 22, 23, 24, 25, 26, 27, 28, 29, 30, 31, 32, 33, 16, 34, 35, 36, 37, 38, 39, 8, 40, 41, 42, 43, 44, 45, 46, 47, 48, 49, 50, 51, 52, 53, 54, 55, 56, 57, 58, 59, 60, 61, 62, 63, 64, 65, 66, 67, 68, 69, 70, 71, 72, 73, 74, 10, 75, 76, 77, 78, 79, 80, 81, 82, 83, 84, 85, 86, 87, 96, 97, 98, 99, 100, 101, 102, 103, 104, 105, 106, 107, 108, 109] (by decide +kernel) (by decide +kernel)
set_option maxRecDepth 20000 in
theorem gX5_safe_X0_awayForSafety : GoodIn wsX5_safe (wsV RX5 185 RX0 yX0_awayForSafety wsX0_awayForSafety) := goodIn_app (goodIn_of _ (by decide +kernel)) ggX5_safe_X0_awayForSafety
set_option maxRecDepth 20000 in
theorem ggX5_safe_J6_bitCount_0f7a4 : GoodIn wsX5_safe wsJ6_bitCount_0f7a4 := goodIn_r _ [27, 28, 29, 30] (by decide +kernel) (by decide +kernel)
set_option maxRecDepth 20000 in
theorem gX5_safe_J6_bitCount_0f7a4 : GoodIn wsX5_safe (va_wsS RX5 160 yJ6_bitCount_0f7a4 wsJ6_bitCount_0f7a4) := goodIn_app (goodIn_of _ (by decide +kernel)) ggX5_safe_J6_bitCount_0f7a4
theorem dX5_safe_0 : decode cX5_safe 0 = .ok (.aload_n 0, 1) := by decide +kernel
theorem dX5_safe_1 : decode cX5_safe 1 = .ok (.getfield 19, 3) := by decide +kernel
theorem dX5_safe_4 : decode cX5_safe 4 = .ok (.iload_n 1, 1) := by decide +kernel
theorem dX5_safe_5 : decode cX5_safe 5 = .ok (.invokevirtual 90, 3) := by decide +kernel
theorem dX5_safe_8 : decode cX5_safe 8 = .ok (.ifCond .eq 22, 3) := by decide +kernel
theorem dX5_safe_11 : decode cX5_safe 11 = .ok (.iload_n 2, 1) := by decide +kernel
theorem dX5_safe_12 : decode cX5_safe 12 = .ok (.iconst 1, 1) := by decide +kernel
theorem dX5_safe_13 : decode cX5_safe 13 = .ok (.bipush 30, 2) := by decide +kernel
theorem dX5_safe_15 : decode cX5_safe 15 = .ok (.invokestatic 75, 3) := by decide +kernel
theorem dX5_safe_18 : decode cX5_safe 18 = .ok (.ifCond .eq 12, 3) := by decide +kernel
theorem dX5_safe_21 : decode cX5_safe 21 = .ok (.iload_n 3, 1) := by decide +kernel
theorem dX5_safe_22 : decode cX5_safe 22 = .ok (.iconst 0, 1) := by decide +kernel
theorem dX5_safe_23 : decode cX5_safe 23 = .ok (.iconst 1, 1) := by decide +kernel
theorem dX5_safe_24 : decode cX5_safe 24 = .ok (.invokestatic 75, 3) := by decide +kernel
theorem dX5_safe_27 : decode cX5_safe 27 = .ok (.ifCond .ne 5, 3) := by decide +kernel
theorem dX5_safe_30 : decode cX5_safe 30 = .ok (.iconst (-1), 1) := by decide +kernel
theorem dX5_safe_31 : decode cX5_safe 31 = .ok (.ireturn, 1) := by decide +kernel
theorem dX5_safe_32 : decode cX5_safe 32 = .ok (.aload_n 0, 1) := by decide +kernel
theorem dX5_safe_33 : decode cX5_safe 33 = .ok (.getfield 48, 3) := by decide +kernel
theorem dX5_safe_36 : decode cX5_safe 36 = .ok (.aload_n 0, 1) := by decide +kernel
theorem dX5_safe_37 : decode cX5_safe 37 = .ok (.getfield 19, 3) := by decide +kernel
theorem dX5_safe_40 : decode cX5_safe 40 = .ok (.iload_n 1, 1) := by decide +kernel
theorem dX5_safe_41 : decode cX5_safe 41 = .ok (.iload_n 2, 1) := by decide +kernel
theorem dX5_safe_42 : decode cX5_safe 42 = .ok (.invokevirtual 185, 3) := by decide +kernel
theorem dX5_safe_45 : decode cX5_safe 45 = .ok (.istore 4, 2) := by decide +kernel
theorem dX5_safe_47 : decode cX5_safe 47 = .ok (.iload_n 3, 1) := by decide +kernel
theorem dX5_safe_48 : decode cX5_safe 48 = .ok (.iconst 1, 1) := by decide +kernel
theorem dX5_safe_49 : decode cX5_safe 49 = .ok (.if_icmp .eq 10, 3) := by decide +kernel
theorem dX5_safe_52 : decode cX5_safe 52 = .ok (.iload 4, 2) := by decide +kernel
theorem dX5_safe_54 : decode cX5_safe 54 = .ok (.bipush (-4), 2) := by decide +kernel
theorem dX5_safe_56 : decode cX5_safe 56 = .ok (.if_icmp .ne 8, 3) := by decide +kernel
theorem dX5_safe_59 : decode cX5_safe 59 = .ok (.iload 4, 2) := by decide +kernel
theorem dX5_safe_61 : decode cX5_safe 61 = .ok (.goto 8, 3) := by decide +kernel
theorem dX5_safe_64 : decode cX5_safe 64 = .ok (.iload 4, 2) := by decide +kernel
theorem dX5_safe_66 : decode cX5_safe 66 = .ok (.invokestatic 160, 3) := by decide +kernel
theorem dX5_safe_69 : decode cX5_safe 69 = .ok (.ireturn, 1) := by decide +kernel
set_option maxRecDepth 20000 in
theorem ggX5_dare_X1_isPerson : GoodIn wsX5_dare wsX1_isPerson := goodIn_r _ [8, 9, 10, 11, 12, 96, 97, 98, 99, 100, 101, 102, 103, 104, 105, 106, 107, 108] (by decide +kernel) (by decide +kernel)
set_option maxRecDepth 20000 in
theorem gX5_dare_X1_isPerson : GoodIn wsX5_dare (wsV RX5 90 RX1 yX1_isPerson wsX1_isPerson) := goodIn_app (goodIn_of _ (by decide +kernel)) ggX5_dare_X1_isPerson
set_option maxRecDepth 20000 in
theorem ggX5_dare_X1_isOut : GoodIn wsX5_dare wsX1_isOut := goodIn_r _ [16, 17, 96, 97, 98, 99, 100, 101, 102, 103, 104, 105, 106, 107, 108] (by decide +kernel) (by decide +kernel)
set_option maxRecDepth 20000 in
theorem gX5_dare_X1_isOut : GoodIn wsX5_dare (wsV RX5 135 RX1 yX1_isOut wsX1_isOut) := goodIn_app (goodIn_of _ (by decide +kernel)) ggX5_dare_X1_isOut
set_option maxRecDepth 20000 in
theorem ggX5_dare_X0_gloveToThrow : GoodIn wsX5_dare wsX0_gloveToThrow := goodIn_r _ [22, 23, 24, 25, 21, 26, 27, 11, 28, 29, 30, 31, 32, 33, 34, 35, 36, 37, 38, 39, 40, 41, 7, 42, 9, 43, 44, 45, 46, 47, 48, 49, 50, 17, 51, 52, 53, 54, 55, 56, 57, 58, 59, 60, 61, 10, 12, 62, 5, 6, 8, 63, 64, 65, 66, 67, 68, 69, 70, 71, 72, 73, 74, 75, 76, 77, 78, 79, 80, 81, 82, 83, 84, 85, 86, 87, 88, 96, 97, 98, 99, 100, 101, 102, 103, 104, 105, 106, 107, 108, 109] (by decide +kernel) (by decide +kernel)
set_option maxRecDepth 20000 in
theorem gX5_dare_X0_gloveToThrow : GoodIn wsX5_dare (wsV RX5 188 RX0 yX0_gloveToThrow wsX0_gloveToThrow) := goodIn_app (goodIn_of _ (by decide +kernel)) ggX5_dare_X0_gloveToThrow
theorem dX5_dare_0 : decode cX5_dare 0 = .ok (.aload_n 0, 1) := by decide +kernel
theorem dX5_dare_1 : decode cX5_dare 1 = .ok (.getfield 19, 3) := by decide +kernel
theorem dX5_dare_4 : decode cX5_dare 4 = .ok (.iload_n 1, 1) := by decide +kernel
theorem dX5_dare_5 : decode cX5_dare 5 = .ok (.invokevirtual 90, 3) := by decide +kernel
theorem dX5_dare_8 : decode cX5_dare 8 = .ok (.ifCond .eq 19, 3) := by decide +kernel
theorem dX5_dare_11 : decode cX5_dare 11 = .ok (.aload_n 0, 1) := by decide +kernel
theorem dX5_dare_12 : decode cX5_dare 12 = .ok (.getfield 19, 3) := by decide +kernel
theorem dX5_dare_15 : decode cX5_dare 15 = .ok (.iload_n 2, 1) := by decide +kernel
theorem dX5_dare_16 : decode cX5_dare 16 = .ok (.invokevirtual 90, 3) := by decide +kernel
theorem dX5_dare_19 : decode cX5_dare 19 = .ok (.ifCond .eq 8, 3) := by decide +kernel
theorem dX5_dare_22 : decode cX5_dare 22 = .ok (.iload_n 1, 1) := by decide +kernel
theorem dX5_dare_23 : decode cX5_dare 23 = .ok (.iload_n 2, 1) := by decide +kernel
theorem dX5_dare_24 : decode cX5_dare 24 = .ok (.if_icmp .ne 5, 3) := by decide +kernel
theorem dX5_dare_27 : decode cX5_dare 27 = .ok (.iconst (-1), 1) := by decide +kernel
theorem dX5_dare_28 : decode cX5_dare 28 = .ok (.ireturn, 1) := by decide +kernel
theorem dX5_dare_29 : decode cX5_dare 29 = .ok (.aload_n 0, 1) := by decide +kernel
theorem dX5_dare_30 : decode cX5_dare 30 = .ok (.getfield 19, 3) := by decide +kernel
theorem dX5_dare_33 : decode cX5_dare 33 = .ok (.iload_n 1, 1) := by decide +kernel
theorem dX5_dare_34 : decode cX5_dare 34 = .ok (.invokevirtual 135, 3) := by decide +kernel
theorem dX5_dare_37 : decode cX5_dare 37 = .ok (.ifCond .ne 14, 3) := by decide +kernel
theorem dX5_dare_40 : decode cX5_dare 40 = .ok (.aload_n 0, 1) := by decide +kernel
theorem dX5_dare_41 : decode cX5_dare 41 = .ok (.getfield 19, 3) := by decide +kernel
theorem dX5_dare_44 : decode cX5_dare 44 = .ok (.iload_n 2, 1) := by decide +kernel
theorem dX5_dare_45 : decode cX5_dare 45 = .ok (.invokevirtual 135, 3) := by decide +kernel
theorem dX5_dare_48 : decode cX5_dare 48 = .ok (.ifCond .eq 6, 3) := by decide +kernel
theorem dX5_dare_51 : decode cX5_dare 51 = .ok (.bipush (-2), 2) := by decide +kernel
