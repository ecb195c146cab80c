theorem dX6_fight_10 : decode cX6_fight 10 = .ok (.invokevirtual 127, 3) := by decide +kernel
theorem dX6_fight_13 : decode cX6_fight 13 = .ok (.ifCond .eq 8, 3) := by decide +kernel
theorem dX6_fight_16 : decode cX6_fight 16 = .ok (.iload_n 1, 1) := by decide +kernel
theorem dX6_fight_17 : decode cX6_fight 17 = .ok (.iload_n 2, 1) := by decide +kernel
theorem dX6_fight_18 : decode cX6_fight 18 = .ok (.if_icmp .ne 5, 3) := by decide +kernel
theorem dX6_fight_21 : decode cX6_fight 21 = .ok (.iconst (-1), 1) := by decide +kernel
theorem dX6_fight_22 : decode cX6_fight 22 = .ok (.ireturn, 1) := by decide +kernel
theorem dX6_fight_23 : decode cX6_fight 23 = .ok (.aload_n 0, 1) := by decide +kernel
theorem dX6_fight_24 : decode cX6_fight 24 = .ok (.getfield 22, 3) := by decide +kernel
theorem dX6_fight_27 : decode cX6_fight 27 = .ok (.iconst 4, 1) := by decide +kernel
theorem dX6_fight_28 : decode cX6_fight 28 = .ok (.iload_n 1, 1) := by decide +kernel
theorem dX6_fight_29 : decode cX6_fight 29 = .ok (.iadd, 1) := by decide +kernel
theorem dX6_fight_30 : decode cX6_fight 30 = .ok (.iaload, 1) := by decide +kernel
theorem dX6_fight_31 : decode cX6_fight 31 = .ok (.istore_n 3, 1) := by decide +kernel
theorem dX6_fight_32 : decode cX6_fight 32 = .ok (.aload_n 0, 1) := by decide +kernel
theorem dX6_fight_33 : decode cX6_fight 33 = .ok (.getfield 22, 3) := by decide +kernel
theorem dX6_fight_36 : decode cX6_fight 36 = .ok (.iconst 4, 1) := by decide +kernel
theorem dX6_fight_37 : decode cX6_fight 37 = .ok (.iload_n 2, 1) := by decide +kernel
theorem dX6_fight_38 : decode cX6_fight 38 = .ok (.iadd, 1) := by decide +kernel
theorem dX6_fight_39 : decode cX6_fight 39 = .ok (.iaload, 1) := by decide +kernel
theorem dX6_fight_40 : decode cX6_fight 40 = .ok (.istore 4, 2) := by decide +kernel
theorem dX6_fight_42 : decode cX6_fight 42 = .ok (.iload_n 3, 1) := by decide +kernel
theorem dX6_fight_43 : decode cX6_fight 43 = .ok (.ifCond .eq 8, 3) := by decide +kernel
theorem dX6_fight_46 : decode cX6_fight 46 = .ok (.iload 4, 2) := by decide +kernel
theorem dX6_fight_48 : decode cX6_fight 48 = .ok (.ifCond .ne 8, 3) := by decide +kernel
theorem dX6_fight_51 : decode cX6_fight 51 = .ok (.bipush (-2), 2) := by decide +kernel
theorem dX6_fight_53 : decode cX6_fight 53 = .ok (.goto 24, 3) := by decide +kernel
theorem dX6_fight_56 : decode cX6_fight 56 = .ok (.iload_n 3, 1) := by decide +kernel
theorem dX6_fight_57 : decode cX6_fight 57 = .ok (.iload 4, 2) := by decide +kernel
theorem dX6_fight_59 : decode cX6_fight 59 = .ok (.if_icmp .le 7, 3) := by decide +kernel
theorem dX6_fight_62 : decode cX6_fight 62 = .ok (.iconst 1, 1) := by decide +kernel
theorem dX6_fight_63 : decode cX6_fight 63 = .ok (.goto 14, 3) := by decide +kernel
theorem dX6_fight_66 : decode cX6_fight 66 = .ok (.iload_n 3, 1) := by decide +kernel
theorem dX6_fight_67 : decode cX6_fight 67 = .ok (.iload 4, 2) := by decide +kernel
theorem dX6_fight_69 : decode cX6_fight 69 = .ok (.if_icmp .ge 7, 3) := by decide +kernel
theorem dX6_fight_72 : decode cX6_fight 72 = .ok (.iconst 0, 1) := by decide +kernel
theorem dX6_fight_73 : decode cX6_fight 73 = .ok (.goto 4, 3) := by decide +kernel
theorem dX6_fight_76 : decode cX6_fight 76 = .ok (.iconst 2, 1) := by decide +kernel
theorem dX6_fight_77 : decode cX6_fight 77 = .ok (.ireturn, 1) := by decide +kernel
theorem dX6_note_0 : decode cX6_note 0 = .ok (.aload_n 0, 1) := by decide +kernel
theorem dX6_note_1 : decode cX6_note 1 = .ok (.getfield 96, 3) := by decide +kernel
theorem dX6_note_4 : decode cX6_note 4 = .ok (.bipush 8, 2) := by decide +kernel
theorem dX6_note_6 : decode cX6_note 6 = .ok (.if_icmp .ne 43, 3) := by decide +kernel
theorem dX6_note_9 : decode cX6_note 9 = .ok (.iconst 0, 1) := by decide +kernel
theorem dX6_note_10 : decode cX6_note 10 = .ok (.istore_n 1, 1) := by decide +kernel
theorem dX6_note_11 : decode cX6_note 11 = .ok (.iload_n 1, 1) := by decide +kernel
theorem dX6_note_12 : decode cX6_note 12 = .ok (.sipush 294, 3) := by decide +kernel
theorem dX6_note_15 : decode cX6_note 15 = .ok (.if_icmp .ge 24, 3) := by decide +kernel
theorem dX6_note_18 : decode cX6_note 18 = .ok (.aload_n 0, 1) := by decide +kernel
theorem dX6_note_19 : decode cX6_note 19 = .ok (.getfield 28, 3) := by decide +kernel
theorem dX6_note_22 : decode cX6_note 22 = .ok (.iload_n 1, 1) := by decide +kernel
theorem dX6_note_23 : decode cX6_note 23 = .ok (.aload_n 0, 1) := by decide +kernel
theorem dX6_note_24 : decode cX6_note 24 = .ok (.getfield 28, 3) := by decide +kernel
theorem dX6_note_27 : decode cX6_note 27 = .ok (.bipush 42, 2) := by decide +kernel
theorem dX6_note_29 : decode cX6_note 29 = .ok (.iload_n 1, 1) := by decide +kernel
theorem dX6_note_30 : decode cX6_note 30 = .ok (.iadd, 1) := by decide +kernel
theorem dX6_note_31 : decode cX6_note 31 = .ok (.iaload, 1) := by decide +kernel
theorem dX6_note_32 : decode cX6_note 32 = .ok (.iastore, 1) := by decide +kernel
theorem dX6_note_33 : decode cX6_note 33 = .ok (.iinc 1 1, 3) := by decide +kernel
theorem dX6_note_36 : decode cX6_note 36 = .ok (.goto (-25), 3) := by decide +kernel
theorem dX6_note_39 : decode cX6_note 39 = .ok (.aload_n 0, 1) := by decide +kernel
theorem dX6_note_40 : decode cX6_note 40 = .ok (.dup, 1) := by decide +kernel
theorem dX6_note_41 : decode cX6_note 41 = .ok (.getfield 96, 3) := by decide +kernel
theorem dX6_note_44 : decode cX6_note 44 = .ok (.iconst 1, 1) := by decide +kernel
theorem dX6_note_45 : decode cX6_note 45 = .ok (.isub, 1) := by decide +kernel
theorem dX6_note_46 : decode cX6_note 46 = .ok (.putfield 96, 3) := by decide +kernel
theorem dX6_note_49 : decode cX6_note 49 = .ok (.iconst 0, 1) := by decide +kernel
theorem dX6_note_50 : decode cX6_note 50 = .ok (.istore_n 1, 1) := by decide +kernel
theorem dX6_note_51 : decode cX6_note 51 = .ok (.iload_n 1, 1) := by decide +kernel
theorem dX6_note_52 : decode cX6_note 52 = .ok (.bipush 42, 2) := by decide +kernel
theorem dX6_note_54 : decode cX6_note 54 = .ok (.if_icmp .ge 29, 3) := by decide +kernel
theorem dX6_note_57 : decode cX6_note 57 = .ok (.aload_n 0, 1) := by decide +kernel
theorem dX6_note_58 : decode cX6_note 58 = .ok (.getfield 28, 3) := by decide +kernel
theorem dX6_note_61 : decode cX6_note 61 = .ok (.bipush 42, 2) := by decide +kernel
theorem dX6_note_63 : decode cX6_note 63 = .ok (.aload_n 0, 1) := by decide +kernel
theorem dX6_note_64 : decode cX6_note 64 = .ok (.getfield 96, 3) := by decide +kernel
theorem dX6_note_67 : decode cX6_note 67 = .ok (.imul, 1) := by decide +kernel
theorem dX6_note_68 : decode cX6_note 68 = .ok (.iload_n 1, 1) := by decide +kernel
theorem dX6_note_69 : decode cX6_note 69 = .ok (.iadd, 1) := by decide +kernel
theorem dX6_note_70 : decode cX6_note 70 = .ok (.aload_n 0, 1) := by decide +kernel
theorem dX6_note_71 : decode cX6_note 71 = .ok (.getfield 22, 3) := by decide +kernel
theorem dX6_note_74 : decode cX6_note 74 = .ok (.iload_n 1, 1) := by decide +kernel
theorem dX6_note_75 : decode cX6_note 75 = .ok (.iaload, 1) := by decide +kernel
theorem dX6_note_76 : decode cX6_note 76 = .ok (.iastore, 1) := by decide +kernel
theorem dX6_note_77 : decode cX6_note 77 = .ok (.iinc 1 1, 3) := by decide +kernel
theorem dX6_note_80 : decode cX6_note 80 = .ok (.goto (-29), 3) := by decide +kernel
theorem dX6_note_83 : decode cX6_note 83 = .ok (.aload_n 0, 1) := by decide +kernel
theorem dX6_note_84 : decode cX6_note 84 = .ok (.dup, 1) := by decide +kernel
theorem dX6_note_85 : decode cX6_note 85 = .ok (.getfield 96, 3) := by decide +kernel
theorem dX6_note_88 : decode cX6_note 88 = .ok (.iconst 1, 1) := by decide +kernel
theorem dX6_note_89 : decode cX6_note 89 = .ok (.iadd, 1) := by decide +kernel
theorem dX6_note_90 : decode cX6_note 90 = .ok (.putfield 96, 3) := by decide +kernel
theorem dX6_note_93 : decode cX6_note 93 = .ok (.return_, 1) := by decide +kernel
set_option maxRecDepth 20000 in
theorem ggX6_pass_X6_in : GoodIn wsX6_pass wsX6_in := goodIn_r _ [7] (by decide +kernel) (by decide +kernel)
set_option maxRecDepth 20000 in
theorem gX6_pass_X6_in : GoodIn wsX6_pass (va_wsS RX6 57 yX6_in wsX6_in) := goodIn_app (goodIn_of _ (by decide +kernel)) ggX6_pass_X6_in
set_option maxRecDepth 20000 in
theorem ggX6_pass_X6_note : GoodIn wsX6_pass wsX6_note := goodIn_r _ [11, 12, 13, 2, 52, 53, 54, 55, 56, 57, 58, 59, 60, 61, 62, 63, 64, 65, 66] (by decide +kernel) (by decide +kernel)
set_option maxRecDepth 20000 in
theorem gX6_pass_X6_note : GoodIn wsX6_pass (wsV RX6 139 RX6 yX6_note wsX6_note) := goodIn_app (goodIn_of _ (by decide +kernel)) ggX6_pass_X6_note
set_option maxRecDepth 20000 in
theorem ggX6_pass_X6_aside : GoodIn wsX6_pass wsX6_aside := goodIn_r _ [17, 3, 2, 52, 53, 54, 55, 56, 57, 58, 59, 60, 61, 62, 63, 64, 65, 66] (by decide +kernel) (by decide +kernel)
set_option maxRecDepth 20000 in
theorem gX6_pass_X6_aside : GoodIn wsX6_pass (wsV RX6 136 RX6 yX6_aside wsX6_aside) := goodIn_app (goodIn_of _ (by decide +kernel)) ggX6_pass_X6_aside
set_option maxRecDepth 20000 in
theorem ggX6_pass_X6_goReigns : GoodIn wsX6_pass wsX6_goReigns := goodIn_r _ [21, 22, 23, 24, 6, 25, 26, 3, 27, 28, 29, 30, 31, 32, 33, 34, 35, 36, 37, 38, 39, 40, 41, 42, 43, 44, 45, 46, 47, 52, 53, 54, 55, 56, 57, 58, 59, 60, 61, 62, 63, 64, 65, 66] (by decide +kernel) (by decide +kernel)
set_option maxRecDepth 20000 in
theorem gX6_pass_X6_goReigns : GoodIn wsX6_pass (wsV RX6 142 RX6 yX6_goReigns wsX6_goReigns) := goodIn_app (goodIn_of _ (by decide +kernel)) ggX6_pass_X6_goReigns
set_option maxRecDepth 20000 in
theorem ggX6_pass_X6_settle : GoodIn wsX6_pass wsX6_settle := goodIn_r _ [51, 2, 3, 52, 53, 54, 55, 56, 57, 58, 59, 60, 61, 62, 63, 64, 65, 66] (by decide +kernel) (by decide +kernel)
set_option maxRecDepth 20000 in
theorem gX6_pass_X6_settle : GoodIn wsX6_pass (wsV RX6 146 RX6 yX6_settle wsX6_settle) := goodIn_app (goodIn_of _ (by decide +kernel)) ggX6_pass_X6_settle
theorem dX6_pass_0 : decode cX6_pass 0 = .ok (.iload_n 1, 1) := by decide +kernel
theorem dX6_pass_1 : decode cX6_pass 1 = .ok (.i2l, 1) := by decide +kernel
theorem dX6_pass_2 : decode cX6_pass 2 = .ok (.lconst 1, 1) := by decide +kernel
theorem dX6_pass_3 : decode cX6_pass 3 = .ok (.ldc2_w 82, 3) := by decide +kernel
theorem dX6_pass_6 : decode cX6_pass 6 = .ok (.invokestatic 57, 3) := by decide +kernel
theorem dX6_pass_9 : decode cX6_pass 9 = .ok (.ifCond .ne 5, 3) := by decide +kernel
theorem dX6_pass_12 : decode cX6_pass 12 = .ok (.iconst (-1), 1) := by decide +kernel
theorem dX6_pass_13 : decode cX6_pass 13 = .ok (.ireturn, 1) := by decide +kernel
theorem dX6_pass_14 : decode cX6_pass 14 = .ok (.aload_n 0, 1) := by decide +kernel
theorem dX6_pass_15 : decode cX6_pass 15 = .ok (.getfield 22, 3) := by decide +kernel
theorem dX6_pass_18 : decode cX6_pass 18 = .ok (.iconst 0, 1) := by decide +kernel
theorem dX6_pass_19 : decode cX6_pass 19 = .ok (.iaload, 1) := by decide +kernel
theorem dX6_pass_20 : decode cX6_pass 20 = .ok (.iload_n 1, 1) := by decide +kernel
theorem dX6_pass_21 : decode cX6_pass 21 = .ok (.iadd, 1) := by decide +kernel
theorem dX6_pass_22 : decode cX6_pass 22 = .ok (.sipush 999, 3) := by decide +kernel
theorem dX6_pass_25 : decode cX6_pass 25 = .ok (.if_icmp .le 6, 3) := by decide +kernel
theorem dX6_pass_28 : decode cX6_pass 28 = .ok (.bipush (-2), 2) := by decide +kernel
theorem dX6_pass_30 : decode cX6_pass 30 = .ok (.ireturn, 1) := by decide +kernel
theorem dX6_pass_31 : decode cX6_pass 31 = .ok (.aload_n 0, 1) := by decide +kernel
theorem dX6_pass_32 : decode cX6_pass 32 = .ok (.invokevirtual 139, 3) := by decide +kernel
theorem dX6_pass_35 : decode cX6_pass 35 = .ok (.aload_n 0, 1) := by decide +kernel
theorem dX6_pass_36 : decode cX6_pass 36 = .ok (.invokevirtual 136, 3) := by decide +kernel
theorem dX6_pass_39 : decode cX6_pass 39 = .ok (.aload_n 0, 1) := by decide +kernel
theorem dX6_pass_40 : decode cX6_pass 40 = .ok (.iload_n 1, 1) := by decide +kernel
theorem dX6_pass_41 : decode cX6_pass 41 = .ok (.invokevirtual 142, 3) := by decide +kernel
theorem dX6_pass_44 : decode cX6_pass 44 = .ok (.aload_n 0, 1) := by decide +kernel
theorem dX6_pass_45 : decode cX6_pass 45 = .ok (.getfield 25, 3) := by decide +kernel
theorem dX6_pass_48 : decode cX6_pass 48 = .ok (.iconst 1, 1) := by decide +kernel
theorem dX6_pass_49 : decode cX6_pass 49 = .ok (.iaload, 1) := by decide +kernel
theorem dX6_pass_50 : decode cX6_pass 50 = .ok (.aload_n 0, 1) := by decide +kernel
theorem dX6_pass_51 : decode cX6_pass 51 = .ok (.getfield 22, 3) := by decide +kernel
theorem dX6_pass_54 : decode cX6_pass 54 = .ok (.iconst 1, 1) := by decide +kernel
theorem dX6_pass_55 : decode cX6_pass 55 = .ok (.iaload, 1) := by decide +kernel
theorem dX6_pass_56 : decode cX6_pass 56 = .ok (.isub, 1) := by decide +kernel
theorem dX6_pass_57 : decode cX6_pass 57 = .ok (.istore_n 2, 1) := by decide +kernel
theorem dX6_pass_58 : decode cX6_pass 58 = .ok (.aload_n 0, 1) := by decide +kernel
theorem dX6_pass_59 : decode cX6_pass 59 = .ok (.invokevirtual 146, 3) := by decide +kernel
theorem dX6_pass_62 : decode cX6_pass 62 = .ok (.iload_n 2, 1) := by decide +kernel
theorem dX6_pass_63 : decode cX6_pass 63 = .ok (.ireturn, 1) := by decide +kernel
set_option maxRecDepth 20000 in
theorem ggX6_hurl_X6_isPerson : GoodIn wsX6_hurl wsX6_isPerson := goodIn_r _ [9, 10, 11, 12, 8, 13, 32, 33, 34, 35, 36, 37, 38, 39, 40, 41, 42, 43, 44, 45, 46] (by decide +kernel) (by decide +kernel)
set_option maxRecDepth 20000 in
theorem gX6_hurl_X6_isPerson : GoodIn wsX6_hurl (wsV RX6 127 RX6 yX6_isPerson wsX6_isPerson) := goodIn_app (goodIn_of _ (by decide +kernel)) ggX6_hurl_X6_isPerson
set_option maxRecDepth 20000 in
theorem ggX6_hurl_X6_in : GoodIn wsX6_hurl wsX6_in := goodIn_r _ [13] (by decide +kernel) (by decide +kernel)
set_option maxRecDepth 20000 in
theorem gX6_hurl_X6_in : GoodIn wsX6_hurl (va_wsS RX6 57 yX6_in wsX6_in) := goodIn_app (goodIn_of _ (by decide +kernel)) ggX6_hurl_X6_in
set_option maxRecDepth 20000 in
theorem ggX6_hurl_X6_note : GoodIn wsX6_hurl wsX6_note := goodIn_r _ [17, 18, 19, 3, 32, 33, 34, 35, 36, 37, 38, 39, 40, 41, 42, 43, 44, 45, 46] (by decide +kernel) (by decide +kernel)
set_option maxRecDepth 20000 in
theorem gX6_hurl_X6_note : GoodIn wsX6_hurl (wsV RX6 139 RX6 yX6_note wsX6_note) := goodIn_app (goodIn_of _ (by decide +kernel)) ggX6_hurl_X6_note
set_option maxRecDepth 20000 in
theorem ggX6_hurl_X6_aside : GoodIn wsX6_hurl wsX6_aside := goodIn_r _ [23, 4, 3, 32, 33, 34, 35, 36, 37, 38, 39, 40, 41, 42, 43, 44, 45, 46] (by decide +kernel) (by decide +kernel)
set_option maxRecDepth 20000 in
theorem gX6_hurl_X6_aside : GoodIn wsX6_hurl (wsV RX6 136 RX6 yX6_aside wsX6_aside) := goodIn_app (goodIn_of _ (by decide +kernel)) ggX6_hurl_X6_aside
set_option maxRecDepth 20000 in
theorem ggX6_hurl_X6_lays : GoodIn wsX6_hurl wsX6_lays := goodIn_r _ [27, 4, 32, 33, 34, 35, 36, 37, 38, 39, 40, 41, 42, 43, 44, 45, 46] (by decide +kernel) (by decide +kernel)
set_option maxRecDepth 20000 in
theorem gX6_hurl_X6_lays : GoodIn wsX6_hurl (wsV RX6 151 RX6 yX6_lays wsX6_lays) := goodIn_app (goodIn_of _ (by decide +kernel)) ggX6_hurl_X6_lays
set_option maxRecDepth 20000 in
theorem ggX6_hurl_X6_settle : GoodIn wsX6_hurl wsX6_settle := goodIn_r _ [31, 3, 4, 32, 33, 34, 35, 36, 37, 38, 39, 40, 41, 42, 43, 44, 45, 46] (by decide +kernel) (by decide +kernel)
set_option maxRecDepth 20000 in
theorem gX6_hurl_X6_settle : GoodIn wsX6_hurl (wsV RX6 146 RX6 yX6_settle wsX6_settle) := goodIn_app (goodIn_of _ (by decide +kernel)) ggX6_hurl_X6_settle
theorem dX6_hurl_0 : decode cX6_hurl 0 = .ok (.aload_n 0, 1) := by decide +kernel
theorem dX6_hurl_1 : decode cX6_hurl 1 = .ok (.iload_n 1, 1) := by decide +kernel
theorem dX6_hurl_2 : decode cX6_hurl 2 = .ok (.invokevirtual 127, 3) := by decide +kernel
theorem dX6_hurl_5 : decode cX6_hurl 5 = .ok (.ifCond .eq 27, 3) := by decide +kernel
theorem dX6_hurl_8 : decode cX6_hurl 8 = .ok (.iload_n 2, 1) := by decide +kernel
theorem dX6_hurl_9 : decode cX6_hurl 9 = .ok (.i2l, 1) := by decide +kernel
theorem dX6_hurl_10 : decode cX6_hurl 10 = .ok (.lconst 0, 1) := by decide +kernel
theorem dX6_hurl_11 : decode cX6_hurl 11 = .ok (.ldc2_w 149, 3) := by decide +kernel
theorem dX6_hurl_14 : decode cX6_hurl 14 = .ok (.invokestatic 57, 3) := by decide +kernel
theorem dX6_hurl_17 : decode cX6_hurl 17 = .ok (.ifCond .eq 15, 3) := by decide +kernel
theorem dX6_hurl_20 : decode cX6_hurl 20 = .ok (.iload_n 3, 1) := by decide +kernel
theorem dX6_hurl_21 : decode cX6_hurl 21 = .ok (.i2l, 1) := by decide +kernel
theorem dX6_hurl_22 : decode cX6_hurl 22 = .ok (.lconst 1, 1) := by decide +kernel
theorem dX6_hurl_23 : decode cX6_hurl 23 = .ok (.ldc2_w 82, 3) := by decide +kernel
theorem dX6_hurl_26 : decode cX6_hurl 26 = .ok (.invokestatic 57, 3) := by decide +kernel
theorem dX6_hurl_29 : decode cX6_hurl 29 = .ok (.ifCond .ne 5, 3) := by decide +kernel
theorem dX6_hurl_32 : decode cX6_hurl 32 = .ok (.iconst (-1), 1) := by decide +kernel
theorem dX6_hurl_33 : decode cX6_hurl 33 = .ok (.ireturn, 1) := by decide +kernel
theorem dX6_hurl_34 : decode cX6_hurl 34 = .ok (.aload_n 0, 1) := by decide +kernel
theorem dX6_hurl_35 : decode cX6_hurl 35 = .ok (.getfield 22, 3) := by decide +kernel
theorem dX6_hurl_38 : decode cX6_hurl 38 = .ok (.iconst 4, 1) := by decide +kernel
theorem dX6_hurl_39 : decode cX6_hurl 39 = .ok (.iload_n 1, 1) := by decide +kernel
theorem dX6_hurl_40 : decode cX6_hurl 40 = .ok (.iadd, 1) := by decide +kernel
theorem dX6_hurl_41 : decode cX6_hurl 41 = .ok (.iaload, 1) := by decide +kernel
theorem dX6_hurl_42 : decode cX6_hurl 42 = .ok (.ifCond .ne 6, 3) := by decide +kernel
theorem dX6_hurl_45 : decode cX6_hurl 45 = .ok (.bipush (-2), 2) := by decide +kernel
theorem dX6_hurl_47 : decode cX6_hurl 47 = .ok (.ireturn, 1) := by decide +kernel
theorem dX6_hurl_48 : decode cX6_hurl 48 = .ok (.aload_n 0, 1) := by decide +kernel
theorem dX6_hurl_49 : decode cX6_hurl 49 = .ok (.getfield 22, 3) := by decide +kernel
theorem dX6_hurl_52 : decode cX6_hurl 52 = .ok (.iconst 2, 1) := by decide +kernel
theorem dX6_hurl_53 : decode cX6_hurl 53 = .ok (.iaload, 1) := by decide +kernel
theorem dX6_hurl_54 : decode cX6_hurl 54 = .ok (.bipush 8, 2) := by decide +kernel
theorem dX6_hurl_56 : decode cX6_hurl 56 = .ok (.if_icmp .ne 6, 3) := by decide +kernel
theorem dX6_hurl_59 : decode cX6_hurl 59 = .ok (.bipush (-3), 2) := by decide +kernel
theorem dX6_hurl_61 : decode cX6_hurl 61 = .ok (.ireturn, 1) := by decide +kernel
theorem dX6_hurl_62 : decode cX6_hurl 62 = .ok (.aload_n 0, 1) := by decide +kernel
theorem dX6_hurl_63 : decode cX6_hurl 63 = .ok (.invokevirtual 139, 3) := by decide +kernel
theorem dX6_hurl_66 : decode cX6_hurl 66 = .ok (.aload_n 0, 1) := by decide +kernel
theorem dX6_hurl_67 : decode cX6_hurl 67 = .ok (.invokevirtual 136, 3) := by decide +kernel
theorem dX6_hurl_70 : decode cX6_hurl 70 = .ok (.aload_n 0, 1) := by decide +kernel
theorem dX6_hurl_71 : decode cX6_hurl 71 = .ok (.aload_n 0, 1) := by decide +kernel
theorem dX6_hurl_72 : decode cX6_hurl 72 = .ok (.getfield 25, 3) := by decide +kernel
theorem dX6_hurl_75 : decode cX6_hurl 75 = .ok (.iconst 2, 1) := by decide +kernel
theorem dX6_hurl_76 : decode cX6_hurl 76 = .ok (.iaload, 1) := by decide +kernel
theorem dX6_hurl_77 : decode cX6_hurl 77 = .ok (.iload_n 2, 1) := by decide +kernel
theorem dX6_hurl_78 : decode cX6_hurl 78 = .ok (.iload_n 3, 1) := by decide +kernel
theorem dX6_hurl_79 : decode cX6_hurl 79 = .ok (.iload_n 1, 1) := by decide +kernel
theorem dX6_hurl_80 : decode cX6_hurl 80 = .ok (.invokevirtual 151, 3) := by decide +kernel
theorem dX6_hurl_83 : decode cX6_hurl 83 = .ok (.aload_n 0, 1) := by decide +kernel
theorem dX6_hurl_84 : decode cX6_hurl 84 = .ok (.getfield 25, 3) := by decide +kernel
theorem dX6_hurl_87 : decode cX6_hurl 87 = .ok (.iconst 2, 1) := by decide +kernel
theorem dX6_hurl_88 : decode cX6_hurl 88 = .ok (.dup2, 1) := by decide +kernel
theorem dX6_hurl_89 : decode cX6_hurl 89 = .ok (.iaload, 1) := by decide +kernel
theorem dX6_hurl_90 : decode cX6_hurl 90 = .ok (.iconst 1, 1) := by decide +kernel
theorem dX6_hurl_91 : decode cX6_hurl 91 = .ok (.iadd, 1) := by decide +kernel
theorem dX6_hurl_92 : decode cX6_hurl 92 = .ok (.iastore, 1) := by decide +kernel
theorem dX6_hurl_93 : decode cX6_hurl 93 = .ok (.aload_n 0, 1) := by decide +kernel
theorem dX6_hurl_94 : decode cX6_hurl 94 = .ok (.invokevirtual 146, 3) := by decide +kernel
theorem dX6_hurl_97 : decode cX6_hurl 97 = .ok (.aload_n 0, 1) := by decide +kernel
theorem dX6_hurl_98 : decode cX6_hurl 98 = .ok (.getfield 22, 3) := by decide +kernel
theorem dX6_hurl_101 : decode cX6_hurl 101 = .ok (.iconst 2, 1) := by decide +kernel
theorem dX6_hurl_102 : decode cX6_hurl 102 = .ok (.iaload, 1) := by decide +kernel
theorem dX6_hurl_103 : decode cX6_hurl 103 = .ok (.iconst 1, 1) := by decide +kernel
theorem dX6_hurl_104 : decode cX6_hurl 104 = .ok (.isub, 1) := by decide +kernel
theorem dX6_hurl_105 : decode cX6_hurl 105 = .ok (.ireturn, 1) := by decide +kernel
set_option maxRecDepth 20000 in
theorem ggX6_take_X6_isGlove : GoodIn wsX6_take wsX6_isGlove := goodIn_r _ [6, 1, 7, 8, 5, 9, 22, 23, 24, 25, 26, 27, 28, 29, 30, 31, 32, 33, 34, 35, 36] (by decide +kernel) (by decide +kernel)
set_option maxRecDepth 20000 in
theorem gX6_take_X6_isGlove : GoodIn wsX6_take (wsV RX6 131 RX6 yX6_isGlove wsX6_isGlove) := goodIn_app (goodIn_of _ (by decide +kernel)) ggX6_take_X6_isGlove
set_option maxRecDepth 20000 in
theorem ggX6_take_X6_has : GoodIn wsX6_take wsX6_has := goodIn_r _ [12] (by decide +kernel) (by decide +kernel)
set_option maxRecDepth 20000 in
theorem gX6_take_X6_has : GoodIn wsX6_take (va_wsS RX6 102 yX6_has wsX6_has) := goodIn_app (goodIn_of _ (by decide +kernel)) ggX6_take_X6_has
set_option maxRecDepth 20000 in
theorem ggX6_take_X6_note : GoodIn wsX6_take wsX6_note := goodIn_r _ [16, 17, 18, 1, 22, 23, 24, 25, 26, 27, 28, 29, 30, 31, 32, 33, 34, 35, 36] (by decide +kernel) (by decide +kernel)
set_option maxRecDepth 20000 in
theorem gX6_take_X6_note : GoodIn wsX6_take (wsV RX6 139 RX6 yX6_note wsX6_note) := goodIn_app (goodIn_of _ (by decide +kernel)) ggX6_take_X6_note
set_option maxRecDepth 20000 in
theorem ggX6_take_X6_ones : GoodIn wsX6_take wsX6_ones := goodIn_r _ [21] (by decide +kernel) (by decide +kernel)
set_option maxRecDepth 20000 in
theorem gX6_take_X6_ones : GoodIn wsX6_take (va_wsS RX6 155 yX6_ones wsX6_ones) := goodIn_app (goodIn_of _ (by decide +kernel)) ggX6_take_X6_ones
theorem dX6_take_0 : decode cX6_take 0 = .ok (.aload_n 0, 1) := by decide +kernel
theorem dX6_take_1 : decode cX6_take 1 = .ok (.iload_n 1, 1) := by decide +kernel
theorem dX6_take_2 : decode cX6_take 2 = .ok (.invokevirtual 131, 3) := by decide +kernel
theorem dX6_take_5 : decode cX6_take 5 = .ok (.ifCond .ne 5, 3) := by decide +kernel
theorem dX6_take_8 : decode cX6_take 8 = .ok (.iconst (-1), 1) := by decide +kernel
theorem dX6_take_9 : decode cX6_take 9 = .ok (.ireturn, 1) := by decide +kernel
theorem dX6_take_10 : decode cX6_take 10 = .ok (.aload_n 0, 1) := by decide +kernel
theorem dX6_take_11 : decode cX6_take 11 = .ok (.getfield 22, 3) := by decide +kernel
theorem dX6_take_14 : decode cX6_take 14 = .ok (.iconst 3, 1) := by decide +kernel
theorem dX6_take_15 : decode cX6_take 15 = .ok (.iaload, 1) := by decide +kernel
theorem dX6_take_16 : decode cX6_take 16 = .ok (.iload_n 1, 1) := by decide +kernel
theorem dX6_take_17 : decode cX6_take 17 = .ok (.invokestatic 102, 3) := by decide +kernel
theorem dX6_take_20 : decode cX6_take 20 = .ok (.ifCond .ne 6, 3) := by decide +kernel
theorem dX6_take_23 : decode cX6_take 23 = .ok (.bipush (-2), 2) := by decide +kernel
theorem dX6_take_25 : decode cX6_take 25 = .ok (.ireturn, 1) := by decide +kernel
theorem dX6_take_26 : decode cX6_take 26 = .ok (.aload_n 0, 1) := by decide +kernel
theorem dX6_take_27 : decode cX6_take 27 = .ok (.invokevirtual 139, 3) := by decide +kernel
theorem dX6_take_30 : decode cX6_take 30 = .ok (.aload_n 0, 1) := by decide +kernel
theorem dX6_take_31 : decode cX6_take 31 = .ok (.getfield 22, 3) := by decide +kernel
theorem dX6_take_34 : decode cX6_take 34 = .ok (.iconst 3, 1) := by decide +kernel
theorem dX6_take_35 : decode cX6_take 35 = .ok (.dup2, 1) := by decide +kernel
theorem dX6_take_36 : decode cX6_take 36 = .ok (.iaload, 1) := by decide +kernel
theorem dX6_take_37 : decode cX6_take 37 = .ok (.iconst 1, 1) := by decide +kernel
theorem dX6_take_38 : decode cX6_take 38 = .ok (.iload_n 1, 1) := by decide +kernel
theorem dX6_take_39 : decode cX6_take 39 = .ok (.ishl, 1) := by decide +kernel
theorem dX6_take_40 : decode cX6_take 40 = .ok (.iconst (-1), 1) := by decide +kernel
theorem dX6_take_41 : decode cX6_take 41 = .ok (.ixor, 1) := by decide +kernel
theorem dX6_take_42 : decode cX6_take 42 = .ok (.iand, 1) := by decide +kernel
theorem dX6_take_43 : decode cX6_take 43 = .ok (.iastore, 1) := by decide +kernel
theorem dX6_take_44 : decode cX6_take 44 = .ok (.aload_n 0, 1) := by decide +kernel
theorem dX6_take_45 : decode cX6_take 45 = .ok (.getfield 22, 3) := by decide +kernel
theorem dX6_take_48 : decode cX6_take 48 = .ok (.iconst 3, 1) := by decide +kernel
theorem dX6_take_49 : decode cX6_take 49 = .ok (.iaload, 1) := by decide +kernel
theorem dX6_take_50 : decode cX6_take 50 = .ok (.invokestatic 155, 3) := by decide +kernel
theorem dX6_take_53 : decode cX6_take 53 = .ok (.ireturn, 1) := by decide +kernel
set_option maxRecDepth 20000 in
theorem ggX6_stretch_X6_isGlove : GoodIn wsX6_stretch wsX6_isGlove := goodIn_r _ [6, 1, 7, 8, 5, 9, 19, 20, 21, 22, 23, 24, 25, 26, 27, 28, 29, 30, 31, 32, 33] (by decide +kernel) (by decide +kernel)
set_option maxRecDepth 20000 in
theorem gX6_stretch_X6_isGlove : GoodIn wsX6_stretch (wsV RX6 131 RX6 yX6_isGlove wsX6_isGlove) := goodIn_app (goodIn_of _ (by decide +kernel)) ggX6_stretch_X6_isGlove
set_option maxRecDepth 20000 in
theorem ggX6_stretch_X6_has : GoodIn wsX6_stretch wsX6_has := goodIn_r _ [12] (by decide +kernel) (by decide +kernel)
set_option maxRecDepth 20000 in
theorem gX6_stretch_X6_has : GoodIn wsX6_stretch (va_wsS RX6 102 yX6_has wsX6_has) := goodIn_app (goodIn_of _ (by decide +kernel)) ggX6_stretch_X6_has
set_option maxRecDepth 20000 in
theorem ggX6_stretch_X6_note : GoodIn wsX6_stretch wsX6_note := goodIn_r _ [16, 17, 18, 1, 19, 20, 21, 22, 23, 24, 25, 26, 27, 28, 29, 30, 31, 32, 33] (by decide +kernel) (by decide +kernel)
set_option maxRecDepth 20000 in
theorem gX6_stretch_X6_note : GoodIn wsX6_stretch (wsV RX6 139 RX6 yX6_note wsX6_note) := goodIn_app (goodIn_of _ (by decide +kernel)) ggX6_stretch_X6_note
theorem dX6_stretch_0 : decode cX6_stretch 0 = .ok (.aload_n 0, 1) := by decide +kernel
theorem dX6_stretch_1 : decode cX6_stretch 1 = .ok (.iload_n 1, 1) := by decide +kernel
theorem dX6_stretch_2 : decode cX6_stretch 2 = .ok (.invokevirtual 131, 3) := by decide +kernel
theorem dX6_stretch_5 : decode cX6_stretch 5 = .ok (.ifCond .ne 5, 3) := by decide +kernel
theorem dX6_stretch_8 : decode cX6_stretch 8 = .ok (.iconst (-1), 1) := by decide +kernel
theorem dX6_stretch_9 : decode cX6_stretch 9 = .ok (.ireturn, 1) := by decide +kernel
theorem dX6_stretch_10 : decode cX6_stretch 10 = .ok (.aload_n 0, 1) := by decide +kernel
theorem dX6_stretch_11 : decode cX6_stretch 11 = .ok (.getfield 22, 3) := by decide +kernel
theorem dX6_stretch_14 : decode cX6_stretch 14 = .ok (.bipush 10, 2) := by decide +kernel
theorem dX6_stretch_16 : decode cX6_stretch 16 = .ok (.iload_n 1, 1) := by decide +kernel
theorem dX6_stretch_17 : decode cX6_stretch 17 = .ok (.iadd, 1) := by decide +kernel
theorem dX6_stretch_18 : decode cX6_stretch 18 = .ok (.iaload, 1) := by decide +kernel
theorem dX6_stretch_19 : decode cX6_stretch 19 = .ok (.iconst 1, 1) := by decide +kernel
theorem dX6_stretch_20 : decode cX6_stretch 20 = .ok (.if_icmp .ne 30, 3) := by decide +kernel
theorem dX6_stretch_23 : decode cX6_stretch 23 = .ok (.aload_n 0, 1) := by decide +kernel
theorem dX6_stretch_24 : decode cX6_stretch 24 = .ok (.getfield 22, 3) := by decide +kernel
theorem dX6_stretch_27 : decode cX6_stretch 27 = .ok (.iconst 3, 1) := by decide +kernel
theorem dX6_stretch_28 : decode cX6_stretch 28 = .ok (.iaload, 1) := by decide +kernel
theorem dX6_stretch_29 : decode cX6_stretch 29 = .ok (.iload_n 1, 1) := by decide +kernel
theorem dX6_stretch_30 : decode cX6_stretch 30 = .ok (.invokestatic 102, 3) := by decide +kernel
theorem dX6_stretch_33 : decode cX6_stretch 33 = .ok (.ifCond .eq 17, 3) := by decide +kernel
theorem dX6_stretch_36 : decode cX6_stretch 36 = .ok (.aload_n 0, 1) := by decide +kernel
theorem dX6_stretch_37 : decode cX6_stretch 37 = .ok (.getfield 22, 3) := by decide +kernel
theorem dX6_stretch_40 : decode cX6_stretch 40 = .ok (.bipush 18, 2) := by decide +kernel
theorem dX6_stretch_42 : decode cX6_stretch 42 = .ok (.iload_n 1, 1) := by decide +kernel
theorem dX6_stretch_43 : decode cX6_stretch 43 = .ok (.iadd, 1) := by decide +kernel
theorem dX6_stretch_44 : decode cX6_stretch 44 = .ok (.iaload, 1) := by decide +kernel
theorem dX6_stretch_45 : decode cX6_stretch 45 = .ok (.bipush 20, 2) := by decide +kernel
theorem dX6_stretch_47 : decode cX6_stretch 47 = .ok (.if_icmp .ne 6, 3) := by decide +kernel
theorem dX6_stretch_50 : decode cX6_stretch 50 = .ok (.bipush (-2), 2) := by decide +kernel
theorem dX6_stretch_52 : decode cX6_stretch 52 = .ok (.ireturn, 1) := by decide +kernel
theorem dX6_stretch_53 : decode cX6_stretch 53 = .ok (.aload_n 0, 1) := by decide +kernel
theorem dX6_stretch_54 : decode cX6_stretch 54 = .ok (.invokevirtual 139, 3) := by decide +kernel
theorem dX6_stretch_57 : decode cX6_stretch 57 = .ok (.aload_n 0, 1) := by decide +kernel
theorem dX6_stretch_58 : decode cX6_stretch 58 = .ok (.getfield 22, 3) := by decide +kernel
theorem dX6_stretch_61 : decode cX6_stretch 61 = .ok (.bipush 18, 2) := by decide +kernel
theorem dX6_stretch_63 : decode cX6_stretch 63 = .ok (.iload_n 1, 1) := by decide +kernel
theorem dX6_stretch_64 : decode cX6_stretch 64 = .ok (.iadd, 1) := by decide +kernel
theorem dX6_stretch_65 : decode cX6_stretch 65 = .ok (.dup2, 1) := by decide +kernel
theorem dX6_stretch_66 : decode cX6_stretch 66 = .ok (.iaload, 1) := by decide +kernel
theorem dX6_stretch_67 : decode cX6_stretch 67 = .ok (.iconst 1, 1) := by decide +kernel
theorem dX6_stretch_68 : decode cX6_stretch 68 = .ok (.iadd, 1) := by decide +kernel
theorem dX6_stretch_69 : decode cX6_stretch 69 = .ok (.iastore, 1) := by decide +kernel
theorem dX6_stretch_70 : decode cX6_stretch 70 = .ok (.aload_n 0, 1) := by decide +kernel
theorem dX6_stretch_71 : decode cX6_stretch 71 = .ok (.getfield 22, 3) := by decide +kernel
theorem dX6_stretch_74 : decode cX6_stretch 74 = .ok (.bipush 18, 2) := by decide +kernel
theorem dX6_stretch_76 : decode cX6_stretch 76 = .ok (.iload_n 1, 1) := by decide +kernel
theorem dX6_stretch_77 : decode cX6_stretch 77 = .ok (.iadd, 1) := by decide +kernel
theorem dX6_stretch_78 : decode cX6_stretch 78 = .ok (.iaload, 1) := by decide +kernel
theorem dX6_stretch_79 : decode cX6_stretch 79 = .ok (.ireturn, 1) := by decide +kernel
set_option maxRecDepth 20000 in
theorem ggX6_wear_X6_isPerson : GoodIn wsX6_wear wsX6_isPerson := goodIn_r _ [6, 7, 8, 9, 5, 10, 47, 48, 49, 50, 51, 52, 53, 54, 55, 56, 57, 58, 59, 60, 61] (by decide +kernel) (by decide +kernel)
set_option maxRecDepth 20000 in
theorem gX6_wear_X6_isPerson : GoodIn wsX6_wear (wsV RX6 127 RX6 yX6_isPerson wsX6_isPerson) := goodIn_app (goodIn_of _ (by decide +kernel)) ggX6_wear_X6_isPerson
set_option maxRecDepth 20000 in
theorem ggX6_wear_X6_isGlove : GoodIn wsX6_wear wsX6_isGlove := goodIn_r _ [14, 1, 8, 9, 5, 10, 47, 48, 49, 50, 51, 52, 53, 54, 55, 56, 57, 58, 59, 60, 61] (by decide +kernel) (by decide +kernel)
set_option maxRecDepth 20000 in
theorem gX6_wear_X6_isGlove : GoodIn wsX6_wear (wsV RX6 131 RX6 yX6_isGlove wsX6_isGlove) := goodIn_app (goodIn_of _ (by decide +kernel)) ggX6_wear_X6_isGlove
set_option maxRecDepth 20000 in
theorem ggX6_wear_X6_aside : GoodIn wsX6_wear wsX6_aside := goodIn_r _ [18, 19, 1, 47, 48, 49, 50, 51, 52, 53, 54, 55, 56, 57, 58, 59, 60, 61] (by decide +kernel) (by decide +kernel)
set_option maxRecDepth 20000 in
theorem gX6_wear_X6_aside : GoodIn wsX6_wear (wsV RX6 136 RX6 yX6_aside wsX6_aside) := goodIn_app (goodIn_of _ (by decide +kernel)) ggX6_wear_X6_aside
set_option maxRecDepth 20000 in
theorem ggX6_wear_X6_isFit : GoodIn wsX6_wear wsX6_isFit := goodIn_r _ [23, 19, 7, 24, 25, 5, 26, 27, 28, 29, 47, 48, 49, 50, 51, 52, 53, 54, 55, 56, 57, 58, 59, 60, 61] (by decide +kernel) (by decide +kernel)
set_option maxRecDepth 20000 in
theorem gX6_wear_X6_isFit : GoodIn wsX6_wear (wsV RX6 114 RX6 yX6_isFit wsX6_isFit) := goodIn_app (goodIn_of _ (by decide +kernel)) ggX6_wear_X6_isFit
set_option maxRecDepth 20000 in
theorem ggX6_wear_X6_note : GoodIn wsX6_wear wsX6_note := goodIn_r _ [33, 34, 35, 1, 47, 48, 49, 50, 51, 52, 53, 54, 55, 56, 57, 58, 59, 60, 61] (by decide +kernel) (by decide +kernel)
set_option maxRecDepth 20000 in
theorem gX6_wear_X6_note : GoodIn wsX6_wear (wsV RX6 139 RX6 yX6_note wsX6_note) := goodIn_app (goodIn_of _ (by decide +kernel)) ggX6_wear_X6_note
set_option maxRecDepth 20000 in
theorem ggX6_wear_X6_goWear : GoodIn wsX6_wear wsX6_goWear := goodIn_r _ [39, 19, 40, 41, 5, 42, 47, 48, 49, 50, 51, 52, 53, 54, 55, 56, 57, 58, 59, 60, 61] (by decide +kernel) (by decide +kernel)
set_option maxRecDepth 20000 in
theorem gX6_wear_X6_goWear : GoodIn wsX6_wear (wsV RX6 120 RX6 yX6_goWear wsX6_goWear) := goodIn_app (goodIn_of _ (by decide +kernel)) ggX6_wear_X6_goWear
set_option maxRecDepth 20000 in
theorem ggX6_wear_X6_settle : GoodIn wsX6_wear wsX6_settle := goodIn_r _ [46, 1, 19, 47, 48, 49, 50, 51, 52, 53, 54, 55, 56, 57, 58, 59, 60, 61] (by decide +kernel) (by decide +kernel)
set_option maxRecDepth 20000 in
theorem gX6_wear_X6_settle : GoodIn wsX6_wear (wsV RX6 146 RX6 yX6_settle wsX6_settle) := goodIn_app (goodIn_of _ (by decide +kernel)) ggX6_wear_X6_settle
theorem dX6_wear_0 : decode cX6_wear 0 = .ok (.aload_n 0, 1) := by decide +kernel
theorem dX6_wear_1 : decode cX6_wear 1 = .ok (.iload_n 1, 1) := by decide +kernel
theorem dX6_wear_2 : decode cX6_wear 2 = .ok (.invokevirtual 127, 3) := by decide +kernel
theorem dX6_wear_5 : decode cX6_wear 5 = .ok (.ifCond .eq 11, 3) := by decide +kernel
theorem dX6_wear_8 : decode cX6_wear 8 = .ok (.aload_n 0, 1) := by decide +kernel
theorem dX6_wear_9 : decode cX6_wear 9 = .ok (.iload_n 2, 1) := by decide +kernel
theorem dX6_wear_10 : decode cX6_wear 10 = .ok (.invokevirtual 131, 3) := by decide +kernel
theorem dX6_wear_13 : decode cX6_wear 13 = .ok (.ifCond .ne 5, 3) := by decide +kernel
theorem dX6_wear_16 : decode cX6_wear 16 = .ok (.iconst (-1), 1) := by decide +kernel
theorem dX6_wear_17 : decode cX6_wear 17 = .ok (.ireturn, 1) := by decide +kernel
theorem dX6_wear_18 : decode cX6_wear 18 = .ok (.aload_n 0, 1) := by decide +kernel
theorem dX6_wear_19 : decode cX6_wear 19 = .ok (.invokevirtual 136, 3) := by decide +kernel
theorem dX6_wear_22 : decode cX6_wear 22 = .ok (.aload_n 0, 1) := by decide +kernel
theorem dX6_wear_23 : decode cX6_wear 23 = .ok (.iload_n 2, 1) := by decide +kernel
theorem dX6_wear_24 : decode cX6_wear 24 = .ok (.iload_n 1, 1) := by decide +kernel
theorem dX6_wear_25 : decode cX6_wear 25 = .ok (.invokevirtual 114, 3) := by decide +kernel
theorem dX6_wear_28 : decode cX6_wear 28 = .ok (.ifCond .ne 6, 3) := by decide +kernel
theorem dX6_wear_31 : decode cX6_wear 31 = .ok (.bipush (-2), 2) := by decide +kernel
theorem dX6_wear_33 : decode cX6_wear 33 = .ok (.ireturn, 1) := by decide +kernel
theorem dX6_wear_34 : decode cX6_wear 34 = .ok (.aload_n 0, 1) := by decide +kernel
theorem dX6_wear_35 : decode cX6_wear 35 = .ok (.invokevirtual 139, 3) := by decide +kernel
theorem dX6_wear_38 : decode cX6_wear 38 = .ok (.aload_n 0, 1) := by decide +kernel
theorem dX6_wear_39 : decode cX6_wear 39 = .ok (.iload_n 1, 1) := by decide +kernel
theorem dX6_wear_40 : decode cX6_wear 40 = .ok (.iload_n 2, 1) := by decide +kernel
theorem dX6_wear_41 : decode cX6_wear 41 = .ok (.invokevirtual 120, 3) := by decide +kernel
theorem dX6_wear_44 : decode cX6_wear 44 = .ok (.aload_n 0, 1) := by decide +kernel
theorem dX6_wear_45 : decode cX6_wear 45 = .ok (.invokevirtual 146, 3) := by decide +kernel
theorem dX6_wear_48 : decode cX6_wear 48 = .ok (.aload_n 0, 1) := by decide +kernel
theorem dX6_wear_49 : decode cX6_wear 49 = .ok (.getfield 22, 3) := by decide +kernel
theorem dX6_wear_52 : decode cX6_wear 52 = .ok (.iconst 4, 1) := by decide +kernel
theorem dX6_wear_53 : decode cX6_wear 53 = .ok (.iload_n 1, 1) := by decide +kernel
theorem dX6_wear_54 : decode cX6_wear 54 = .ok (.iadd, 1) := by decide +kernel
theorem dX6_wear_55 : decode cX6_wear 55 = .ok (.iaload, 1) := by decide +kernel
theorem dX6_wear_56 : decode cX6_wear 56 = .ok (.ireturn, 1) := by decide +kernel
theorem dX6_undo_0 : decode cX6_undo 0 = .ok (.aload_n 0, 1) := by decide +kernel
theorem dX6_undo_1 : decode cX6_undo 1 = .ok (.getfield 96, 3) := by decide +kernel
theorem dX6_undo_4 : decode cX6_undo 4 = .ok (.ifCond .ne 6, 3) := by decide +kernel
theorem dX6_undo_7 : decode cX6_undo 7 = .ok (.bipush (-2), 2) := by decide +kernel
theorem dX6_undo_9 : decode cX6_undo 9 = .ok (.ireturn, 1) := by decide +kernel
theorem dX6_undo_10 : decode cX6_undo 10 = .ok (.aload_n 0, 1) := by decide +kernel
theorem dX6_undo_11 : decode cX6_undo 11 = .ok (.dup, 1) := by decide +kernel
theorem dX6_undo_12 : decode cX6_undo 12 = .ok (.getfield 96, 3) := by decide +kernel
theorem dX6_undo_15 : decode cX6_undo 15 = .ok (.iconst 1, 1) := by decide +kernel
theorem dX6_undo_16 : decode cX6_undo 16 = .ok (.isub, 1) := by decide +kernel
theorem dX6_undo_17 : decode cX6_undo 17 = .ok (.putfield 96, 3) := by decide +kernel
theorem dX6_undo_20 : decode cX6_undo 20 = .ok (.iconst 0, 1) := by decide +kernel
theorem dX6_undo_21 : decode cX6_undo 21 = .ok (.istore_n 1, 1) := by decide +kernel
theorem dX6_undo_22 : decode cX6_undo 22 = .ok (.iload_n 1, 1) := by decide +kernel
theorem dX6_undo_23 : decode cX6_undo 23 = .ok (.bipush 42, 2) := by decide +kernel
theorem dX6_undo_25 : decode cX6_undo 25 = .ok (.if_icmp .ge 29, 3) := by decide +kernel
theorem dX6_undo_28 : decode cX6_undo 28 = .ok (.aload_n 0, 1) := by decide +kernel
theorem dX6_undo_29 : decode cX6_undo 29 = .ok (.getfield 22, 3) := by decide +kernel
theorem dX6_undo_32 : decode cX6_undo 32 = .ok (.iload_n 1, 1) := by decide +kernel
theorem dX6_undo_33 : decode cX6_undo 33 = .ok (.aload_n 0, 1) := by decide +kernel
theorem dX6_undo_34 : decode cX6_undo 34 = .ok (.getfield 28, 3) := by decide +kernel
theorem dX6_undo_37 : decode cX6_undo 37 = .ok (.bipush 42, 2) := by decide +kernel
theorem dX6_undo_39 : decode cX6_undo 39 = .ok (.aload_n 0, 1) := by decide +kernel
theorem dX6_undo_40 : decode cX6_undo 40 = .ok (.getfield 96, 3) := by decide +kernel
theorem dX6_undo_43 : decode cX6_undo 43 = .ok (.imul, 1) := by decide +kernel
theorem dX6_undo_44 : decode cX6_undo 44 = .ok (.iload_n 1, 1) := by decide +kernel
theorem dX6_undo_45 : decode cX6_undo 45 = .ok (.iadd, 1) := by decide +kernel
theorem dX6_undo_46 : decode cX6_undo 46 = .ok (.iaload, 1) := by decide +kernel
theorem dX6_undo_47 : decode cX6_undo 47 = .ok (.iastore, 1) := by decide +kernel
theorem dX6_undo_48 : decode cX6_undo 48 = .ok (.iinc 1 1, 3) := by decide +kernel
theorem dX6_undo_51 : decode cX6_undo 51 = .ok (.goto (-29), 3) := by decide +kernel
theorem dX6_undo_54 : decode cX6_undo 54 = .ok (.aload_n 0, 1) := by decide +kernel
theorem dX6_undo_55 : decode cX6_undo 55 = .ok (.getfield 96, 3) := by decide +kernel
theorem dX6_undo_58 : decode cX6_undo 58 = .ok (.ireturn, 1) := by decide +kernel
set_option maxRecDepth 20000 in
theorem ggX6_behind_X6_in : GoodIn wsX6_behind wsX6_in := goodIn_r _ [6] (by decide +kernel) (by decide +kernel)
set_option maxRecDepth 20000 in
theorem gX6_behind_X6_in : GoodIn wsX6_behind (va_wsS RX6 57 yX6_in wsX6_in) := goodIn_app (goodIn_of _ (by decide +kernel)) ggX6_behind_X6_in
set_option maxRecDepth 20000 in
theorem ggX6_behind_X6_isPerson : GoodIn wsX6_behind wsX6_isPerson := goodIn_r _ [10, 11, 3, 4, 5, 6, 46, 47, 48, 49, 50, 51, 52, 53, 54, 55, 56, 57, 58, 59, 60] (by decide +kernel) (by decide +kernel)
set_option maxRecDepth 20000 in
theorem gX6_behind_X6_isPerson : GoodIn wsX6_behind (wsV RX6 127 RX6 yX6_isPerson wsX6_isPerson) := goodIn_app (goodIn_of _ (by decide +kernel)) ggX6_behind_X6_isPerson
set_option maxRecDepth 20000 in
theorem ggX6_behind_X6_aside : GoodIn wsX6_behind wsX6_aside := goodIn_r _ [15, 2, 16, 46, 47, 48, 49, 50, 51, 52, 53, 54, 55, 56, 57, 58, 59, 60] (by decide +kernel) (by decide +kernel)
set_option maxRecDepth 20000 in
theorem gX6_behind_X6_aside : GoodIn wsX6_behind (wsV RX6 136 RX6 yX6_aside wsX6_aside) := goodIn_app (goodIn_of _ (by decide +kernel)) ggX6_behind_X6_aside
set_option maxRecDepth 20000 in
theorem ggX6_behind_X6_goReigns : GoodIn wsX6_behind wsX6_goReigns := goodIn_r _ [20, 21, 22, 23, 5, 24, 11, 2, 25, 26, 27, 28, 29, 30, 31, 32, 33, 34, 35, 36, 37, 38, 39, 40, 41, 42, 43, 44, 45, 46, 47, 48, 49, 50, 51, 52, 53, 54, 55, 56, 57, 58, 59, 60] (by decide +kernel) (by decide +kernel)
set_option maxRecDepth 20000 in
theorem gX6_behind_X6_goReigns : GoodIn wsX6_behind (wsV RX6 142 RX6 yX6_goReigns wsX6_goReigns) := goodIn_app (goodIn_of _ (by decide +kernel)) ggX6_behind_X6_goReigns
theorem dX6_behind_0 : decode cX6_behind 0 = .ok (.iload_n 1, 1) := by decide +kernel
theorem dX6_behind_1 : decode cX6_behind 1 = .ok (.i2l, 1) := by decide +kernel
theorem dX6_behind_2 : decode cX6_behind 2 = .ok (.lconst 0, 1) := by decide +kernel
theorem dX6_behind_3 : decode cX6_behind 3 = .ok (.ldc2_w 158, 3) := by decide +kernel
theorem dX6_behind_6 : decode cX6_behind 6 = .ok (.invokestatic 57, 3) := by decide +kernel
theorem dX6_behind_9 : decode cX6_behind 9 = .ok (.ifCond .eq 11, 3) := by decide +kernel
theorem dX6_behind_12 : decode cX6_behind 12 = .ok (.aload_n 0, 1) := by decide +kernel
theorem dX6_behind_13 : decode cX6_behind 13 = .ok (.iload_n 2, 1) := by decide +kernel
theorem dX6_behind_14 : decode cX6_behind 14 = .ok (.invokevirtual 127, 3) := by decide +kernel
theorem dX6_behind_17 : decode cX6_behind 17 = .ok (.ifCond .ne 5, 3) := by decide +kernel
theorem dX6_behind_20 : decode cX6_behind 20 = .ok (.iconst (-1), 1) := by decide +kernel
theorem dX6_behind_21 : decode cX6_behind 21 = .ok (.ireturn, 1) := by decide +kernel
theorem dX6_behind_22 : decode cX6_behind 22 = .ok (.aload_n 0, 1) := by decide +kernel
theorem dX6_behind_23 : decode cX6_behind 23 = .ok (.invokevirtual 136, 3) := by decide +kernel
theorem dX6_behind_26 : decode cX6_behind 26 = .ok (.aload_n 0, 1) := by decide +kernel
theorem dX6_behind_27 : decode cX6_behind 27 = .ok (.iload_n 1, 1) := by decide +kernel
theorem dX6_behind_28 : decode cX6_behind 28 = .ok (.invokevirtual 142, 3) := by decide +kernel
theorem dX6_behind_31 : decode cX6_behind 31 = .ok (.aload_n 0, 1) := by decide +kernel
theorem dX6_behind_32 : decode cX6_behind 32 = .ok (.getfield 25, 3) := by decide +kernel
theorem dX6_behind_35 : decode cX6_behind 35 = .ok (.iconst 4, 1) := by decide +kernel
theorem dX6_behind_36 : decode cX6_behind 36 = .ok (.iload_n 2, 1) := by decide +kernel
theorem dX6_behind_37 : decode cX6_behind 37 = .ok (.iadd, 1) := by decide +kernel
theorem dX6_behind_38 : decode cX6_behind 38 = .ok (.iaload, 1) := by decide +kernel
theorem dX6_behind_39 : decode cX6_behind 39 = .ok (.ireturn, 1) := by decide +kernel
set_option maxRecDepth 20000 in
theorem ggX6_lies_X6_isGlove : GoodIn wsX6_lies wsX6_isGlove := goodIn_r _ [6, 7, 8, 9, 5, 10, 41, 42, 43, 44, 45, 46, 47, 48, 49, 50, 51, 52, 53, 54, 55] (by decide +kernel) (by decide +kernel)
set_option maxRecDepth 20000 in
theorem gX6_lies_X6_isGlove : GoodIn wsX6_lies (wsV RX6 131 RX6 yX6_isGlove wsX6_isGlove) := goodIn_app (goodIn_of _ (by decide +kernel)) ggX6_lies_X6_isGlove
set_option maxRecDepth 20000 in
theorem ggX6_lies_X6_aside : GoodIn wsX6_lies wsX6_aside := goodIn_r _ [14, 1, 7, 41, 42, 43, 44, 45, 46, 47, 48, 49, 50, 51, 52, 53, 54, 55] (by decide +kernel) (by decide +kernel)
set_option maxRecDepth 20000 in
theorem gX6_lies_X6_aside : GoodIn wsX6_lies (wsV RX6 136 RX6 yX6_aside wsX6_aside) := goodIn_app (goodIn_of _ (by decide +kernel)) ggX6_lies_X6_aside
set_option maxRecDepth 20000 in
theorem ggX6_lies_X6_has : GoodIn wsX6_lies wsX6_has := goodIn_r _ [17] (by decide +kernel) (by decide +kernel)
set_option maxRecDepth 20000 in
theorem gX6_lies_X6_has : GoodIn wsX6_lies (va_wsS RX6 102 yX6_has wsX6_has) := goodIn_app (goodIn_of _ (by decide +kernel)) ggX6_lies_X6_has
set_option maxRecDepth 20000 in
theorem ggX6_lies_X6_goReign : GoodIn wsX6_lies wsX6_goReign := goodIn_r _ [21, 22, 1, 23, 24, 25, 5, 26, 27, 28, 29, 30, 15, 16, 17, 31, 32, 33, 34, 35, 36, 37, 38, 39, 40, 41, 42, 43, 44, 45, 46, 47, 48, 49, 50, 51, 52, 53, 54, 55] (by decide +kernel) (by decide +kernel)
set_option maxRecDepth 20000 in
theorem gX6_lies_X6_goReign : GoodIn wsX6_lies (wsV RX6 124 RX6 yX6_goReign wsX6_goReign) := goodIn_app (goodIn_of _ (by decide +kernel)) ggX6_lies_X6_goReign
theorem dX6_lies_0 : decode cX6_lies 0 = .ok (.aload_n 0, 1) := by decide +kernel
theorem dX6_lies_1 : decode cX6_lies 1 = .ok (.iload_n 1, 1) := by decide +kernel
theorem dX6_lies_2 : decode cX6_lies 2 = .ok (.invokevirtual 131, 3) := by decide +kernel
theorem dX6_lies_5 : decode cX6_lies 5 = .ok (.ifCond .ne 5, 3) := by decide +kernel
theorem dX6_lies_8 : decode cX6_lies 8 = .ok (.iconst (-1), 1) := by decide +kernel
theorem dX6_lies_9 : decode cX6_lies 9 = .ok (.ireturn, 1) := by decide +kernel
theorem dX6_lies_10 : decode cX6_lies 10 = .ok (.aload_n 0, 1) := by decide +kernel
theorem dX6_lies_11 : decode cX6_lies 11 = .ok (.invokevirtual 136, 3) := by decide +kernel
theorem dX6_lies_14 : decode cX6_lies 14 = .ok (.iconst 0, 1) := by decide +kernel
theorem dX6_lies_15 : decode cX6_lies 15 = .ok (.istore_n 2, 1) := by decide +kernel
theorem dX6_lies_16 : decode cX6_lies 16 = .ok (.iload_n 2, 1) := by decide +kernel
theorem dX6_lies_17 : decode cX6_lies 17 = .ok (.bipush 31, 2) := by decide +kernel
theorem dX6_lies_19 : decode cX6_lies 19 = .ok (.if_icmp .ge 28, 3) := by decide +kernel
theorem dX6_lies_22 : decode cX6_lies 22 = .ok (.aload_n 0, 1) := by decide +kernel
theorem dX6_lies_23 : decode cX6_lies 23 = .ok (.getfield 25, 3) := by decide +kernel
theorem dX6_lies_26 : decode cX6_lies 26 = .ok (.iconst 3, 1) := by decide +kernel
theorem dX6_lies_27 : decode cX6_lies 27 = .ok (.iaload, 1) := by decide +kernel
theorem dX6_lies_28 : decode cX6_lies 28 = .ok (.iload_n 1, 1) := by decide +kernel
theorem dX6_lies_29 : decode cX6_lies 29 = .ok (.invokestatic 102, 3) := by decide +kernel
theorem dX6_lies_32 : decode cX6_lies 32 = .ok (.ifCond .ne 5, 3) := by decide +kernel
theorem dX6_lies_35 : decode cX6_lies 35 = .ok (.iload_n 2, 1) := by decide +kernel
theorem dX6_lies_36 : decode cX6_lies 36 = .ok (.ireturn, 1) := by decide +kernel
theorem dX6_lies_37 : decode cX6_lies 37 = .ok (.aload_n 0, 1) := by decide +kernel
theorem dX6_lies_38 : decode cX6_lies 38 = .ok (.invokevirtual 124, 3) := by decide +kernel
theorem dX6_lies_41 : decode cX6_lies 41 = .ok (.iinc 2 1, 3) := by decide +kernel
theorem dX6_lies_44 : decode cX6_lies 44 = .ok (.goto (-28), 3) := by decide +kernel
theorem dX6_lies_47 : decode cX6_lies 47 = .ok (.bipush (-4), 2) := by decide +kernel
theorem dX6_lies_49 : decode cX6_lies 49 = .ok (.ireturn, 1) := by decide +kernel
set_option maxRecDepth 20000 in
theorem ggX6_last_X6_aside : GoodIn wsX6_last wsX6_aside := goodIn_r _ [7, 2, 8, 38, 39, 40, 41, 42, 43, 44, 45, 46, 47, 48, 49, 50, 51, 52] (by decide +kernel) (by decide +kernel)
set_option maxRecDepth 20000 in
theorem gX6_last_X6_aside : GoodIn wsX6_last (wsV RX6 136 RX6 yX6_aside wsX6_aside) := goodIn_app (goodIn_of _ (by decide +kernel)) ggX6_last_X6_aside
set_option maxRecDepth 20000 in
theorem ggX6_last_X6_goReigns : GoodIn wsX6_last wsX6_goReigns := goodIn_r _ [12, 13, 14, 15, 6, 16, 1, 2, 17, 18, 19, 20, 21, 22, 23, 24, 25, 26, 27, 28, 29, 30, 31, 32, 33, 34, 35, 36, 37, 38, 39, 40, 41, 42, 43, 44, 45, 46, 47, 48, 49, 50, 51, 52] (by decide +kernel) (by decide +kernel)
set_option maxRecDepth 20000 in
theorem gX6_last_X6_goReigns : GoodIn wsX6_last (wsV RX6 142 RX6 yX6_goReigns wsX6_goReigns) := goodIn_app (goodIn_of _ (by decide +kernel)) ggX6_last_X6_goReigns
theorem dX6_last_0 : decode cX6_last 0 = .ok (.aload_n 0, 1) := by decide +kernel
theorem dX6_last_1 : decode cX6_last 1 = .ok (.invokevirtual 136, 3) := by decide +kernel
theorem dX6_last_4 : decode cX6_last 4 = .ok (.aload_n 0, 1) := by decide +kernel
theorem dX6_last_5 : decode cX6_last 5 = .ok (.bipush 30, 2) := by decide +kernel
theorem dX6_last_7 : decode cX6_last 7 = .ok (.invokevirtual 142, 3) := by decide +kernel
theorem dX6_last_10 : decode cX6_last 10 = .ok (.iconst 0, 1) := by decide +kernel
theorem dX6_last_11 : decode cX6_last 11 = .ok (.istore_n 1, 1) := by decide +kernel
theorem dX6_last_12 : decode cX6_last 12 = .ok (.iconst 0, 1) := by decide +kernel
theorem dX6_last_13 : decode cX6_last 13 = .ok (.istore_n 2, 1) := by decide +kernel
theorem dX6_last_14 : decode cX6_last 14 = .ok (.iload_n 2, 1) := by decide +kernel
theorem dX6_last_15 : decode cX6_last 15 = .ok (.aload_n 0, 1) := by decide +kernel
theorem dX6_last_16 : decode cX6_last 16 = .ok (.getfield 13, 3) := by decide +kernel
theorem dX6_last_19 : decode cX6_last 19 = .ok (.iconst 0, 1) := by decide +kernel
theorem dX6_last_20 : decode cX6_last 20 = .ok (.iaload, 1) := by decide +kernel
theorem dX6_last_21 : decode cX6_last 21 = .ok (.if_icmp .ge 30, 3) := by decide +kernel
theorem dX6_last_24 : decode cX6_last 24 = .ok (.iload_n 1, 1) := by decide +kernel
theorem dX6_last_25 : decode cX6_last 25 = .ok (.aload_n 0, 1) := by decide +kernel
theorem dX6_last_26 : decode cX6_last 26 = .ok (.getfield 25, 3) := by decide +kernel
theorem dX6_last_29 : decode cX6_last 29 = .ok (.iconst 4, 1) := by decide +kernel
theorem dX6_last_30 : decode cX6_last 30 = .ok (.iload_n 2, 1) := by decide +kernel
theorem dX6_last_31 : decode cX6_last 31 = .ok (.iadd, 1) := by decide +kernel
theorem dX6_last_32 : decode cX6_last 32 = .ok (.iaload, 1) := by decide +kernel
theorem dX6_last_33 : decode cX6_last 33 = .ok (.ifCond .le 9, 3) := by decide +kernel
theorem dX6_last_36 : decode cX6_last 36 = .ok (.iconst 1, 1) := by decide +kernel
theorem dX6_last_37 : decode cX6_last 37 = .ok (.iload_n 2, 1) := by decide +kernel
theorem dX6_last_38 : decode cX6_last 38 = .ok (.ishl, 1) := by decide +kernel
theorem dX6_last_39 : decode cX6_last 39 = .ok (.goto 4, 3) := by decide +kernel
theorem dX6_last_42 : decode cX6_last 42 = .ok (.iconst 0, 1) := by decide +kernel
theorem dX6_last_43 : decode cX6_last 43 = .ok (.ior, 1) := by decide +kernel
theorem dX6_last_44 : decode cX6_last 44 = .ok (.istore_n 1, 1) := by decide +kernel
theorem dX6_last_45 : decode cX6_last 45 = .ok (.iinc 2 1, 3) := by decide +kernel
theorem dX6_last_48 : decode cX6_last 48 = .ok (.goto (-34), 3) := by decide +kernel
theorem dX6_last_51 : decode cX6_last 51 = .ok (.iload_n 1, 1) := by decide +kernel
theorem dX6_last_52 : decode cX6_last 52 = .ok (.ireturn, 1) := by decide +kernel
set_option maxRecDepth 20000 in
theorem ggX6_safe_X6_isPerson : GoodIn wsX6_safe wsX6_isPerson := goodIn_r _ [8, 9, 10, 11, 7, 12, 49, 50, 51, 52, 53, 54, 55, 56, 57, 58, 59, 60, 61, 62, 63] (by decide +kernel) (by decide +kernel)
set_option maxRecDepth 20000 in
theorem gX6_safe_X6_isPerson : GoodIn wsX6_safe (wsV RX6 127 RX6 yX6_isPerson wsX6_isPerson) := goodIn_app (goodIn_of _ (by decide +kernel)) ggX6_safe_X6_isPerson
set_option maxRecDepth 20000 in
theorem ggX6_safe_X6_in : GoodIn wsX6_safe wsX6_in := goodIn_r _ [12] (by decide +kernel) (by decide +kernel)
set_option maxRecDepth 20000 in
theorem gX6_safe_X6_in : GoodIn wsX6_safe (va_wsS RX6 57 yX6_in wsX6_in) := goodIn_app (goodIn_of _ (by decide +kernel)) ggX6_safe_X6_in
set_option maxRecDepth 20000 in
theorem ggX6_safe_X6_ones : GoodIn wsX6_safe wsX6_ones := goodIn_r _ [15] (by decide +kernel) (by decide +kernel)
set_option maxRecDepth 20000 in
theorem gX6_safe_X6_ones : GoodIn wsX6_safe (va_wsS RX6 155 yX6_ones wsX6_ones) := goodIn_app (goodIn_of _ (by decide +kernel)) ggX6_safe_X6_ones
set_option maxRecDepth 20000 in
theorem ggX6_safe_X6_aside : GoodIn wsX6_safe wsX6_aside := goodIn_r _ [19, 3, 2, 49, 50, 51, 52, 53, 54, 55, 56, 57, 58, 59, 60, 61, 62, 63] (by decide +kernel) (by decide +kernel)
set_option maxRecDepth 20000 in
theorem gX6_safe_X6_aside : GoodIn wsX6_safe (wsV RX6 136 RX6 yX6_aside wsX6_aside) := goodIn_app (goodIn_of _ (by decide +kernel)) ggX6_safe_X6_aside
set_option maxRecDepth 20000 in
theorem ggX6_safe_X6_goReigns : GoodIn wsX6_safe wsX6_goReigns := goodIn_r _ [23, 24, 25, 26, 7, 27, 9, 3, 28, 29, 30, 31, 32, 33, 34, 35, 36, 37, 38, 39, 40, 41, 42, 43, 44, 45, 46, 47, 48, 49, 50, 51, 52, 53, 54, 55, 56, 57, 58, 59, 60, 61, 62, 63] (by decide +kernel) (by decide +kernel)
set_option maxRecDepth 20000 in
theorem gX6_safe_X6_goReigns : GoodIn wsX6_safe (wsV RX6 142 RX6 yX6_goReigns wsX6_goReigns) := goodIn_app (goodIn_of _ (by decide +kernel)) ggX6_safe_X6_goReigns
theorem dX6_safe_0 : decode cX6_safe 0 = .ok (.aload_n 0, 1) := by decide +kernel
theorem dX6_safe_1 : decode cX6_safe 1 = .ok (.iload_n 1, 1) := by decide +kernel
theorem dX6_safe_2 : decode cX6_safe 2 = .ok (.invokevirtual 127, 3) := by decide +kernel
theorem dX6_safe_5 : decode cX6_safe 5 = .ok (.ifCond .eq 25, 3) := by decide +kernel
theorem dX6_safe_8 : decode cX6_safe 8 = .ok (.iload_n 2, 1) := by decide +kernel
theorem dX6_safe_9 : decode cX6_safe 9 = .ok (.i2l, 1) := by decide +kernel
theorem dX6_safe_10 : decode cX6_safe 10 = .ok (.lconst 1, 1) := by decide +kernel
theorem dX6_safe_11 : decode cX6_safe 11 = .ok (.ldc2_w 158, 3) := by decide +kernel
theorem dX6_safe_14 : decode cX6_safe 14 = .ok (.invokestatic 57, 3) := by decide +kernel
theorem dX6_safe_17 : decode cX6_safe 17 = .ok (.ifCond .eq 13, 3) := by decide +kernel
theorem dX6_safe_20 : decode cX6_safe 20 = .ok (.iload_n 3, 1) := by decide +kernel
theorem dX6_safe_21 : decode cX6_safe 21 = .ok (.i2l, 1) := by decide +kernel
theorem dX6_safe_22 : decode cX6_safe 22 = .ok (.lconst 0, 1) := by decide +kernel
theorem dX6_safe_23 : decode cX6_safe 23 = .ok (.lconst 1, 1) := by decide +kernel
theorem dX6_safe_24 : decode cX6_safe 24 = .ok (.invokestatic 57, 3) := by decide +kernel
theorem dX6_safe_27 : decode cX6_safe 27 = .ok (.ifCond .ne 5, 3) := by decide +kernel
theorem dX6_safe_30 : decode cX6_safe 30 = .ok (.iconst (-1), 1) := by decide +kernel
theorem dX6_safe_31 : decode cX6_safe 31 = .ok (.ireturn, 1) := by decide +kernel
theorem dX6_safe_32 : decode cX6_safe 32 = .ok (.bipush (-4), 2) := by decide +kernel
theorem dX6_safe_34 : decode cX6_safe 34 = .ok (.istore 4, 2) := by decide +kernel
theorem dX6_safe_36 : decode cX6_safe 36 = .ok (.iconst 0, 1) := by decide +kernel
theorem dX6_safe_37 : decode cX6_safe 37 = .ok (.istore 5, 2) := by decide +kernel
theorem dX6_safe_39 : decode cX6_safe 39 = .ok (.iload 5, 2) := by decide +kernel
theorem dX6_safe_41 : decode cX6_safe 41 = .ok (.sipush 256, 3) := by decide +kernel
theorem dX6_safe_44 : decode cX6_safe 44 = .ok (.if_icmp .ge 85, 3) := by decide +kernel
theorem dX6_safe_47 : decode cX6_safe 47 = .ok (.iload 5, 2) := by decide +kernel
theorem dX6_safe_49 : decode cX6_safe 49 = .ok (.aload_n 0, 1) := by decide +kernel
theorem dX6_safe_50 : decode cX6_safe 50 = .ok (.getfield 22, 3) := by decide +kernel
theorem dX6_safe_53 : decode cX6_safe 53 = .ok (.iconst 3, 1) := by decide +kernel
theorem dX6_safe_54 : decode cX6_safe 54 = .ok (.iaload, 1) := by decide +kernel
theorem dX6_safe_55 : decode cX6_safe 55 = .ok (.iconst (-1), 1) := by decide +kernel
theorem dX6_safe_56 : decode cX6_safe 56 = .ok (.ixor, 1) := by decide +kernel
theorem dX6_safe_57 : decode cX6_safe 57 = .ok (.iand, 1) := by decide +kernel
theorem dX6_safe_58 : decode cX6_safe 58 = .ok (.ifCond .ne 65, 3) := by decide +kernel
theorem dX6_safe_61 : decode cX6_safe 61 = .ok (.iload 4, 2) := by decide +kernel
theorem dX6_safe_63 : decode cX6_safe 63 = .ok (.bipush (-4), 2) := by decide +kernel
theorem dX6_safe_65 : decode cX6_safe 65 = .ok (.if_icmp .eq 16, 3) := by decide +kernel
theorem dX6_safe_68 : decode cX6_safe 68 = .ok (.iload 5, 2) := by decide +kernel
theorem dX6_safe_70 : decode cX6_safe 70 = .ok (.invokestatic 155, 3) := by decide +kernel
theorem dX6_safe_73 : decode cX6_safe 73 = .ok (.iload 4, 2) := by decide +kernel
theorem dX6_safe_75 : decode cX6_safe 75 = .ok (.invokestatic 155, 3) := by decide +kernel
theorem dX6_safe_78 : decode cX6_safe 78 = .ok (.if_icmp .ge 45, 3) := by decide +kernel
theorem dX6_safe_81 : decode cX6_safe 81 = .ok (.aload_n 0, 1) := by decide +kernel
theorem dX6_safe_82 : decode cX6_safe 82 = .ok (.invokevirtual 136, 3) := by decide +kernel
