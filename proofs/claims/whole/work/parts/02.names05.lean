theorem dX5_dare_53 : decode cX5_dare 53 = .ok (.ireturn, 1) := by decide +kernel
theorem dX5_dare_54 : decode cX5_dare 54 = .ok (.aload_n 0, 1) := by decide +kernel
theorem dX5_dare_55 : decode cX5_dare 55 = .ok (.getfield 19, 3) := by decide +kernel
theorem dX5_dare_58 : decode cX5_dare 58 = .ok (.getfield 151, 3) := by decide +kernel
theorem dX5_dare_61 : decode cX5_dare 61 = .ok (.bipush 8, 2) := by decide +kernel
theorem dX5_dare_63 : decode cX5_dare 63 = .ok (.if_icmp .lt 8, 3) := by decide +kernel
theorem dX5_dare_66 : decode cX5_dare 66 = .ok (.bipush (-4), 2) := by decide +kernel
theorem dX5_dare_68 : decode cX5_dare 68 = .ok (.goto 16, 3) := by decide +kernel
theorem dX5_dare_71 : decode cX5_dare 71 = .ok (.aload_n 0, 1) := by decide +kernel
theorem dX5_dare_72 : decode cX5_dare 72 = .ok (.getfield 48, 3) := by decide +kernel
theorem dX5_dare_75 : decode cX5_dare 75 = .ok (.aload_n 0, 1) := by decide +kernel
theorem dX5_dare_76 : decode cX5_dare 76 = .ok (.getfield 19, 3) := by decide +kernel
theorem dX5_dare_79 : decode cX5_dare 79 = .ok (.iload_n 1, 1) := by decide +kernel
theorem dX5_dare_80 : decode cX5_dare 80 = .ok (.iload_n 2, 1) := by decide +kernel
theorem dX5_dare_81 : decode cX5_dare 81 = .ok (.invokevirtual 188, 3) := by decide +kernel
theorem dX5_dare_84 : decode cX5_dare 84 = .ok (.ireturn, 1) := by decide +kernel
set_option maxRecDepth 20000 in
theorem ggX5_first_X1_isPerson : GoodIn wsX5_first wsX1_isPerson := goodIn_r _ [7, 8, 9, 10, 11, 45, 46, 47, 48, 49, 50, 51, 52, 53, 54, 55, 56, 57] (by decide +kernel) (by decide +kernel)
set_option maxRecDepth 20000 in
theorem gX5_first_X1_isPerson : GoodIn wsX5_first (wsV RX5 90 RX1 yX1_isPerson wsX1_isPerson) := goodIn_app (goodIn_of _ (by decide +kernel)) ggX5_first_X1_isPerson
set_option maxRecDepth 20000 in
theorem ggX5_first_X5_within : GoodIn wsX5_first wsX5_within := goodIn_r _ [11] (by decide +kernel) (by decide +kernel)
set_option maxRecDepth 20000 in
theorem gX5_first_X5_within : GoodIn wsX5_first (va_wsS RX5 75 yX5_within wsX5_within) := goodIn_app (goodIn_of _ (by decide +kernel)) ggX5_first_X5_within
set_option maxRecDepth 20000 in
theorem ggX5_first_X1_canTakeUp : GoodIn wsX5_first wsX1_canTakeUp := goodIn_r _ [16, 17, 18, 19, 20, 21, 22, 23, 24, 10, 25, 26, 27, 45, 46, 47, 48, 49, 50, 51, 52, 53, 54, 55, 56, 57] (by decide +kernel) (by decide +kernel)
set_option maxRecDepth 20000 in
theorem gX5_first_X1_canTakeUp : GoodIn wsX5_first (wsV RX5 131 RX1 yX1_canTakeUp wsX1_canTakeUp) := goodIn_app (goodIn_of _ (by decide +kernel)) ggX5_first_X1_canTakeUp
set_option maxRecDepth 20000 in
theorem ggX5_first_X1_mightByTaking : GoodIn wsX5_first wsX1_mightByTaking := goodIn_r _ [31, 19, 18, 32, 10, 33, 34, 35, 36, 37, 45, 46, 47, 48, 49, 50, 51, 52, 53, 54, 55, 56, 57] (by decide +kernel) (by decide +kernel)
set_option maxRecDepth 20000 in
theorem gX5_first_X1_mightByTaking : GoodIn wsX5_first (wsV RX5 191 RX1 yX1_mightByTaking wsX1_mightByTaking) := goodIn_app (goodIn_of _ (by decide +kernel)) ggX5_first_X1_mightByTaking
theorem dX5_first_0 : decode cX5_first 0 = .ok (.aload_n 0, 1) := by decide +kernel
theorem dX5_first_1 : decode cX5_first 1 = .ok (.getfield 19, 3) := by decide +kernel
theorem dX5_first_4 : decode cX5_first 4 = .ok (.iload_n 1, 1) := by decide +kernel
theorem dX5_first_5 : decode cX5_first 5 = .ok (.invokevirtual 90, 3) := by decide +kernel
theorem dX5_first_8 : decode cX5_first 8 = .ok (.ifCond .eq 12, 3) := by decide +kernel
theorem dX5_first_11 : decode cX5_first 11 = .ok (.iload_n 2, 1) := by decide +kernel
theorem dX5_first_12 : decode cX5_first 12 = .ok (.iconst 0, 1) := by decide +kernel
theorem dX5_first_13 : decode cX5_first 13 = .ok (.iconst 1, 1) := by decide +kernel
theorem dX5_first_14 : decode cX5_first 14 = .ok (.invokestatic 75, 3) := by decide +kernel
theorem dX5_first_17 : decode cX5_first 17 = .ok (.ifCond .ne 5, 3) := by decide +kernel
theorem dX5_first_20 : decode cX5_first 20 = .ok (.iconst (-1), 1) := by decide +kernel
theorem dX5_first_21 : decode cX5_first 21 = .ok (.ireturn, 1) := by decide +kernel
theorem dX5_first_22 : decode cX5_first 22 = .ok (.bipush (-4), 2) := by decide +kernel
theorem dX5_first_24 : decode cX5_first 24 = .ok (.istore_n 3, 1) := by decide +kernel
theorem dX5_first_25 : decode cX5_first 25 = .ok (.bipush (-4), 2) := by decide +kernel
theorem dX5_first_27 : decode cX5_first 27 = .ok (.istore 4, 2) := by decide +kernel
theorem dX5_first_29 : decode cX5_first 29 = .ok (.iconst 0, 1) := by decide +kernel
theorem dX5_first_30 : decode cX5_first 30 = .ok (.istore 5, 2) := by decide +kernel
theorem dX5_first_32 : decode cX5_first 32 = .ok (.iload 5, 2) := by decide +kernel
theorem dX5_first_34 : decode cX5_first 34 = .ok (.aload_n 0, 1) := by decide +kernel
theorem dX5_first_35 : decode cX5_first 35 = .ok (.getfield 19, 3) := by decide +kernel
theorem dX5_first_38 : decode cX5_first 38 = .ok (.getfield 151, 3) := by decide +kernel
theorem dX5_first_41 : decode cX5_first 41 = .ok (.if_icmp .ge 52, 3) := by decide +kernel
theorem dX5_first_44 : decode cX5_first 44 = .ok (.aload_n 0, 1) := by decide +kernel
theorem dX5_first_45 : decode cX5_first 45 = .ok (.getfield 19, 3) := by decide +kernel
theorem dX5_first_48 : decode cX5_first 48 = .ok (.iload_n 1, 1) := by decide +kernel
theorem dX5_first_49 : decode cX5_first 49 = .ok (.iload 5, 2) := by decide +kernel
theorem dX5_first_51 : decode cX5_first 51 = .ok (.invokevirtual 131, 3) := by decide +kernel
theorem dX5_first_54 : decode cX5_first 54 = .ok (.ifCond .eq 33, 3) := by decide +kernel
theorem dX5_first_57 : decode cX5_first 57 = .ok (.aload_n 0, 1) := by decide +kernel
theorem dX5_first_58 : decode cX5_first 58 = .ok (.getfield 19, 3) := by decide +kernel
theorem dX5_first_61 : decode cX5_first 61 = .ok (.iload_n 1, 1) := by decide +kernel
theorem dX5_first_62 : decode cX5_first 62 = .ok (.iload 5, 2) := by decide +kernel
theorem dX5_first_64 : decode cX5_first 64 = .ok (.invokevirtual 191, 3) := by decide +kernel
theorem dX5_first_67 : decode cX5_first 67 = .ok (.iload 4, 2) := by decide +kernel
theorem dX5_first_69 : decode cX5_first 69 = .ok (.if_icmp .le 18, 3) := by decide +kernel
theorem dX5_first_72 : decode cX5_first 72 = .ok (.iload 5, 2) := by decide +kernel
theorem dX5_first_74 : decode cX5_first 74 = .ok (.istore_n 3, 1) := by decide +kernel
theorem dX5_first_75 : decode cX5_first 75 = .ok (.aload_n 0, 1) := by decide +kernel
theorem dX5_first_76 : decode cX5_first 76 = .ok (.getfield 19, 3) := by decide +kernel
theorem dX5_first_79 : decode cX5_first 79 = .ok (.iload_n 1, 1) := by decide +kernel
theorem dX5_first_80 : decode cX5_first 80 = .ok (.iload 5, 2) := by decide +kernel
theorem dX5_first_82 : decode cX5_first 82 = .ok (.invokevirtual 191, 3) := by decide +kernel
theorem dX5_first_85 : decode cX5_first 85 = .ok (.istore 4, 2) := by decide +kernel
theorem dX5_first_87 : decode cX5_first 87 = .ok (.iinc 5 1, 3) := by decide +kernel
theorem dX5_first_90 : decode cX5_first 90 = .ok (.goto (-58), 3) := by decide +kernel
theorem dX5_first_93 : decode cX5_first 93 = .ok (.iload_n 2, 1) := by decide +kernel
theorem dX5_first_94 : decode cX5_first 94 = .ok (.ifCond .ne 7, 3) := by decide +kernel
theorem dX5_first_97 : decode cX5_first 97 = .ok (.iload_n 3, 1) := by decide +kernel
theorem dX5_first_98 : decode cX5_first 98 = .ok (.goto 5, 3) := by decide +kernel
theorem dX5_first_101 : decode cX5_first 101 = .ok (.iload 4, 2) := by decide +kernel
theorem dX5_first_103 : decode cX5_first 103 = .ok (.ireturn, 1) := by decide +kernel
set_option maxRecDepth 20000 in
theorem ggX5_ring_X1_isPerson : GoodIn wsX5_ring wsX1_isPerson := goodIn_r _ [7, 8, 9, 10, 11, 39, 40, 41, 42, 43, 44, 45, 46, 47, 48, 49, 50, 51] (by decide +kernel) (by decide +kernel)
set_option maxRecDepth 20000 in
theorem gX5_ring_X1_isPerson : GoodIn wsX5_ring (wsV RX5 90 RX1 yX1_isPerson wsX1_isPerson) := goodIn_app (goodIn_of _ (by decide +kernel)) ggX5_ring_X1_isPerson
set_option maxRecDepth 20000 in
theorem ggX5_ring_X1_ownersWithin : GoodIn wsX5_ring wsX1_ownersWithin := goodIn_r _ [15, 8, 16, 17, 18, 19, 20, 6, 21, 22, 23, 24, 25, 26, 27, 28, 10, 29, 30, 31, 39, 40, 41, 42, 43, 44, 45, 46, 47, 48, 49, 50, 51] (by decide +kernel) (by decide +kernel)
set_option maxRecDepth 20000 in
theorem gX5_ring_X1_ownersWithin : GoodIn wsX5_ring (wsV RX5 194 RX1 yX1_ownersWithin wsX1_ownersWithin) := goodIn_app (goodIn_of _ (by decide +kernel)) ggX5_ring_X1_ownersWithin
theorem dX5_ring_0 : decode cX5_ring 0 = .ok (.aload_n 0, 1) := by decide +kernel
theorem dX5_ring_1 : decode cX5_ring 1 = .ok (.getfield 19, 3) := by decide +kernel
theorem dX5_ring_4 : decode cX5_ring 4 = .ok (.iload_n 1, 1) := by decide +kernel
theorem dX5_ring_5 : decode cX5_ring 5 = .ok (.invokevirtual 90, 3) := by decide +kernel
theorem dX5_ring_8 : decode cX5_ring 8 = .ok (.ifCond .ne 5, 3) := by decide +kernel
theorem dX5_ring_11 : decode cX5_ring 11 = .ok (.iconst (-1), 1) := by decide +kernel
theorem dX5_ring_12 : decode cX5_ring 12 = .ok (.ireturn, 1) := by decide +kernel
theorem dX5_ring_13 : decode cX5_ring 13 = .ok (.iconst 1, 1) := by decide +kernel
theorem dX5_ring_14 : decode cX5_ring 14 = .ok (.iload_n 1, 1) := by decide +kernel
theorem dX5_ring_15 : decode cX5_ring 15 = .ok (.ishl, 1) := by decide +kernel
theorem dX5_ring_16 : decode cX5_ring 16 = .ok (.istore_n 2, 1) := by decide +kernel
theorem dX5_ring_17 : decode cX5_ring 17 = .ok (.iconst 1, 1) := by decide +kernel
theorem dX5_ring_18 : decode cX5_ring 18 = .ok (.istore_n 3, 1) := by decide +kernel
theorem dX5_ring_19 : decode cX5_ring 19 = .ok (.iload_n 3, 1) := by decide +kernel
theorem dX5_ring_20 : decode cX5_ring 20 = .ok (.aload_n 0, 1) := by decide +kernel
theorem dX5_ring_21 : decode cX5_ring 21 = .ok (.getfield 19, 3) := by decide +kernel
theorem dX5_ring_24 : decode cX5_ring 24 = .ok (.getfield 79, 3) := by decide +kernel
theorem dX5_ring_27 : decode cX5_ring 27 = .ok (.if_icmp .gt 29, 3) := by decide +kernel
theorem dX5_ring_30 : decode cX5_ring 30 = .ok (.aload_n 0, 1) := by decide +kernel
theorem dX5_ring_31 : decode cX5_ring 31 = .ok (.getfield 19, 3) := by decide +kernel
theorem dX5_ring_34 : decode cX5_ring 34 = .ok (.iload_n 2, 1) := by decide +kernel
theorem dX5_ring_35 : decode cX5_ring 35 = .ok (.invokevirtual 194, 3) := by decide +kernel
theorem dX5_ring_38 : decode cX5_ring 38 = .ok (.istore_n 2, 1) := by decide +kernel
theorem dX5_ring_39 : decode cX5_ring 39 = .ok (.iload_n 2, 1) := by decide +kernel
theorem dX5_ring_40 : decode cX5_ring 40 = .ok (.iload_n 1, 1) := by decide +kernel
theorem dX5_ring_41 : decode cX5_ring 41 = .ok (.ishr, 1) := by decide +kernel
theorem dX5_ring_42 : decode cX5_ring 42 = .ok (.iconst 1, 1) := by decide +kernel
theorem dX5_ring_43 : decode cX5_ring 43 = .ok (.iand, 1) := by decide +kernel
theorem dX5_ring_44 : decode cX5_ring 44 = .ok (.iconst 1, 1) := by decide +kernel
theorem dX5_ring_45 : decode cX5_ring 45 = .ok (.if_icmp .ne 5, 3) := by decide +kernel
theorem dX5_ring_48 : decode cX5_ring 48 = .ok (.iload_n 3, 1) := by decide +kernel
theorem dX5_ring_49 : decode cX5_ring 49 = .ok (.ireturn, 1) := by decide +kernel
theorem dX5_ring_50 : decode cX5_ring 50 = .ok (.iinc 3 1, 3) := by decide +kernel
theorem dX5_ring_53 : decode cX5_ring 53 = .ok (.goto (-34), 3) := by decide +kernel
theorem dX5_ring_56 : decode cX5_ring 56 = .ok (.bipush (-4), 2) := by decide +kernel
theorem dX5_ring_58 : decode cX5_ring 58 = .ok (.ireturn, 1) := by decide +kernel
set_option maxRecDepth 20000 in
theorem ggX5_seen_X1_isGlove : GoodIn wsX5_seen wsX1_isGlove := goodIn_r _ [8, 9, 10, 11, 12, 39, 40, 41, 42, 43, 44, 45, 46, 47, 48, 49, 50, 51] (by decide +kernel) (by decide +kernel)
set_option maxRecDepth 20000 in
theorem gX5_seen_X1_isGlove : GoodIn wsX5_seen (wsV RX5 103 RX1 yX1_isGlove wsX1_isGlove) := goodIn_app (goodIn_of _ (by decide +kernel)) ggX5_seen_X1_isGlove
set_option maxRecDepth 20000 in
theorem ggX5_seen_X1_isPerson : GoodIn wsX5_seen wsX1_isPerson := goodIn_r _ [16, 17, 10, 11, 12, 39, 40, 41, 42, 43, 44, 45, 46, 47, 48, 49, 50, 51] (by decide +kernel) (by decide +kernel)
set_option maxRecDepth 20000 in
theorem gX5_seen_X1_isPerson : GoodIn wsX5_seen (wsV RX5 90 RX1 yX1_isPerson wsX1_isPerson) := goodIn_app (goodIn_of _ (by decide +kernel)) ggX5_seen_X1_isPerson
set_option maxRecDepth 20000 in
theorem ggX5_seen_X5_within : GoodIn wsX5_seen wsX5_within := goodIn_r _ [12] (by decide +kernel) (by decide +kernel)
set_option maxRecDepth 20000 in
theorem gX5_seen_X5_within : GoodIn wsX5_seen (va_wsS RX5 75 yX5_within wsX5_within) := goodIn_app (goodIn_of _ (by decide +kernel)) ggX5_seen_X5_within
set_option maxRecDepth 20000 in
theorem ggX5_seen_X4_add : GoodIn wsX5_seen wsX4_add := goodIn_r _ [23, 24, 25, 26, 27, 35, 36, 37, 38] (by decide +kernel) (by decide +kernel)
set_option maxRecDepth 20000 in
theorem gX5_seen_X4_add : GoodIn wsX5_seen (wsV RX5 197 RX4 yX4_add wsX4_add) := goodIn_app (goodIn_of _ (by decide +kernel)) ggX5_seen_X4_add
theorem dX5_seen_0 : decode cX5_seen 0 = .ok (.aload_n 0, 1) := by decide +kernel
theorem dX5_seen_1 : decode cX5_seen 1 = .ok (.getfield 19, 3) := by decide +kernel
theorem dX5_seen_4 : decode cX5_seen 4 = .ok (.iload_n 1, 1) := by decide +kernel
theorem dX5_seen_5 : decode cX5_seen 5 = .ok (.invokevirtual 103, 3) := by decide +kernel
theorem dX5_seen_8 : decode cX5_seen 8 = .ok (.ifCond .eq 23, 3) := by decide +kernel
theorem dX5_seen_11 : decode cX5_seen 11 = .ok (.aload_n 0, 1) := by decide +kernel
theorem dX5_seen_12 : decode cX5_seen 12 = .ok (.getfield 19, 3) := by decide +kernel
theorem dX5_seen_15 : decode cX5_seen 15 = .ok (.iload_n 2, 1) := by decide +kernel
theorem dX5_seen_16 : decode cX5_seen 16 = .ok (.invokevirtual 90, 3) := by decide +kernel
theorem dX5_seen_19 : decode cX5_seen 19 = .ok (.ifCond .eq 12, 3) := by decide +kernel
theorem dX5_seen_22 : decode cX5_seen 22 = .ok (.iload_n 3, 1) := by decide +kernel
theorem dX5_seen_23 : decode cX5_seen 23 = .ok (.iconst 0, 1) := by decide +kernel
theorem dX5_seen_24 : decode cX5_seen 24 = .ok (.iconst 1, 1) := by decide +kernel
theorem dX5_seen_25 : decode cX5_seen 25 = .ok (.invokestatic 75, 3) := by decide +kernel
theorem dX5_seen_28 : decode cX5_seen 28 = .ok (.ifCond .ne 5, 3) := by decide +kernel
theorem dX5_seen_31 : decode cX5_seen 31 = .ok (.iconst (-1), 1) := by decide +kernel
theorem dX5_seen_32 : decode cX5_seen 32 = .ok (.ireturn, 1) := by decide +kernel
theorem dX5_seen_33 : decode cX5_seen 33 = .ok (.aload_n 0, 1) := by decide +kernel
theorem dX5_seen_34 : decode cX5_seen 34 = .ok (.getfield 41, 3) := by decide +kernel
theorem dX5_seen_37 : decode cX5_seen 37 = .ok (.iload_n 1, 1) := by decide +kernel
theorem dX5_seen_38 : decode cX5_seen 38 = .ok (.iload_n 2, 1) := by decide +kernel
theorem dX5_seen_39 : decode cX5_seen 39 = .ok (.iload_n 3, 1) := by decide +kernel
theorem dX5_seen_40 : decode cX5_seen 40 = .ok (.invokevirtual 197, 3) := by decide +kernel
theorem dX5_seen_43 : decode cX5_seen 43 = .ok (.ifCond .eq 13, 3) := by decide +kernel
theorem dX5_seen_46 : decode cX5_seen 46 = .ok (.aload_n 0, 1) := by decide +kernel
theorem dX5_seen_47 : decode cX5_seen 47 = .ok (.getfield 41, 3) := by decide +kernel
theorem dX5_seen_50 : decode cX5_seen 50 = .ok (.getfield 89, 3) := by decide +kernel
theorem dX5_seen_53 : decode cX5_seen 53 = .ok (.goto 5, 3) := by decide +kernel
theorem dX5_seen_56 : decode cX5_seen 56 = .ok (.bipush (-3), 2) := by decide +kernel
theorem dX5_seen_58 : decode cX5_seen 58 = .ok (.ireturn, 1) := by decide +kernel
theorem dX5_forget_0 : decode cX5_forget 0 = .ok (.aload_n 0, 1) := by decide +kernel
theorem dX5_forget_1 : decode cX5_forget 1 = .ok (.getfield 41, 3) := by decide +kernel
theorem dX5_forget_4 : decode cX5_forget 4 = .ok (.getfield 89, 3) := by decide +kernel
theorem dX5_forget_7 : decode cX5_forget 7 = .ok (.istore_n 1, 1) := by decide +kernel
theorem dX5_forget_8 : decode cX5_forget 8 = .ok (.aload_n 0, 1) := by decide +kernel
theorem dX5_forget_9 : decode cX5_forget 9 = .ok (.getfield 41, 3) := by decide +kernel
theorem dX5_forget_12 : decode cX5_forget 12 = .ok (.iconst 0, 1) := by decide +kernel
theorem dX5_forget_13 : decode cX5_forget 13 = .ok (.putfield 89, 3) := by decide +kernel
theorem dX5_forget_16 : decode cX5_forget 16 = .ok (.iload_n 1, 1) := by decide +kernel
theorem dX5_forget_17 : decode cX5_forget 17 = .ok (.ireturn, 1) := by decide +kernel
set_option maxRecDepth 20000 in
theorem ggX5_hands_X1_isPerson : GoodIn wsX5_hands wsX1_isPerson := goodIn_r _ [7, 8, 9, 10, 11, 41, 42, 43, 44, 45, 46, 47, 48, 49, 50, 51, 52, 53] (by decide +kernel) (by decide +kernel)
set_option maxRecDepth 20000 in
theorem gX5_hands_X1_isPerson : GoodIn wsX5_hands (wsV RX5 90 RX1 yX1_isPerson wsX1_isPerson) := goodIn_app (goodIn_of _ (by decide +kernel)) ggX5_hands_X1_isPerson
set_option maxRecDepth 20000 in
theorem ggX5_hands_X5_within : GoodIn wsX5_hands wsX5_within := goodIn_r _ [11] (by decide +kernel) (by decide +kernel)
set_option maxRecDepth 20000 in
theorem gX5_hands_X5_within : GoodIn wsX5_hands (va_wsS RX5 75 yX5_within wsX5_within) := goodIn_app (goodIn_of _ (by decide +kernel)) ggX5_hands_X5_within
set_option maxRecDepth 20000 in
theorem ggX5_hands_X4_allowHand : GoodIn wsX5_hands wsX4_allowHand := goodIn_r _ [17, 18, 19, 20, 21, 22, 23, 24, 25, 26, 27, 6, 28, 29, 9, 10, 11, 30, 31, 32, 33, 54, 55, 56, 57, 41, 42, 43, 44, 45, 46, 47, 48, 49, 50, 51, 52, 53] (by decide +kernel) (by decide +kernel)
set_option maxRecDepth 20000 in
theorem gX5_hands_X4_allowHand : GoodIn wsX5_hands (wsV RX5 200 RX4 yX4_allowHand wsX4_allowHand) := goodIn_app (goodIn_of _ (by decide +kernel)) ggX5_hands_X4_allowHand
theorem dX5_hands_0 : decode cX5_hands 0 = .ok (.aload_n 0, 1) := by decide +kernel
theorem dX5_hands_1 : decode cX5_hands 1 = .ok (.getfield 19, 3) := by decide +kernel
theorem dX5_hands_4 : decode cX5_hands 4 = .ok (.iload_n 1, 1) := by decide +kernel
theorem dX5_hands_5 : decode cX5_hands 5 = .ok (.invokevirtual 90, 3) := by decide +kernel
theorem dX5_hands_8 : decode cX5_hands 8 = .ok (.ifCond .eq 12, 3) := by decide +kernel
theorem dX5_hands_11 : decode cX5_hands 11 = .ok (.iload_n 2, 1) := by decide +kernel
theorem dX5_hands_12 : decode cX5_hands 12 = .ok (.iconst 0, 1) := by decide +kernel
theorem dX5_hands_13 : decode cX5_hands 13 = .ok (.iconst 1, 1) := by decide +kernel
theorem dX5_hands_14 : decode cX5_hands 14 = .ok (.invokestatic 75, 3) := by decide +kernel
theorem dX5_hands_17 : decode cX5_hands 17 = .ok (.ifCond .ne 5, 3) := by decide +kernel
theorem dX5_hands_20 : decode cX5_hands 20 = .ok (.iconst (-1), 1) := by decide +kernel
theorem dX5_hands_21 : decode cX5_hands 21 = .ok (.ireturn, 1) := by decide +kernel
theorem dX5_hands_22 : decode cX5_hands 22 = .ok (.iconst 0, 1) := by decide +kernel
theorem dX5_hands_23 : decode cX5_hands 23 = .ok (.istore_n 3, 1) := by decide +kernel
theorem dX5_hands_24 : decode cX5_hands 24 = .ok (.bipush (-4), 2) := by decide +kernel
theorem dX5_hands_26 : decode cX5_hands 26 = .ok (.istore 4, 2) := by decide +kernel
theorem dX5_hands_28 : decode cX5_hands 28 = .ok (.bipush 20, 2) := by decide +kernel
theorem dX5_hands_30 : decode cX5_hands 30 = .ok (.istore 5, 2) := by decide +kernel
theorem dX5_hands_32 : decode cX5_hands 32 = .ok (.iload 5, 2) := by decide +kernel
theorem dX5_hands_34 : decode cX5_hands 34 = .ok (.iconst 1, 1) := by decide +kernel
theorem dX5_hands_35 : decode cX5_hands 35 = .ok (.if_icmp .lt 33, 3) := by decide +kernel
theorem dX5_hands_38 : decode cX5_hands 38 = .ok (.aload_n 0, 1) := by decide +kernel
theorem dX5_hands_39 : decode cX5_hands 39 = .ok (.getfield 41, 3) := by decide +kernel
theorem dX5_hands_42 : decode cX5_hands 42 = .ok (.aload_n 0, 1) := by decide +kernel
theorem dX5_hands_43 : decode cX5_hands 43 = .ok (.getfield 19, 3) := by decide +kernel
theorem dX5_hands_46 : decode cX5_hands 46 = .ok (.iload_n 1, 1) := by decide +kernel
theorem dX5_hands_47 : decode cX5_hands 47 = .ok (.iload 5, 2) := by decide +kernel
theorem dX5_hands_49 : decode cX5_hands 49 = .ok (.invokevirtual 200, 3) := by decide +kernel
theorem dX5_hands_52 : decode cX5_hands 52 = .ok (.ifCond .eq 10, 3) := by decide +kernel
theorem dX5_hands_55 : decode cX5_hands 55 = .ok (.iinc 3 1, 3) := by decide +kernel
theorem dX5_hands_58 : decode cX5_hands 58 = .ok (.iload 5, 2) := by decide +kernel
theorem dX5_hands_60 : decode cX5_hands 60 = .ok (.istore 4, 2) := by decide +kernel
theorem dX5_hands_62 : decode cX5_hands 62 = .ok (.iinc 5 (-1), 3) := by decide +kernel
theorem dX5_hands_65 : decode cX5_hands 65 = .ok (.goto (-33), 3) := by decide +kernel
theorem dX5_hands_68 : decode cX5_hands 68 = .ok (.iload_n 2, 1) := by decide +kernel
theorem dX5_hands_69 : decode cX5_hands 69 = .ok (.ifCond .ne 7, 3) := by decide +kernel
theorem dX5_hands_72 : decode cX5_hands 72 = .ok (.iload_n 3, 1) := by decide +kernel
theorem dX5_hands_73 : decode cX5_hands 73 = .ok (.goto 5, 3) := by decide +kernel
theorem dX5_hands_76 : decode cX5_hands 76 = .ok (.iload 4, 2) := by decide +kernel
theorem dX5_hands_78 : decode cX5_hands 78 = .ok (.ireturn, 1) := by decide +kernel
set_option maxRecDepth 20000 in
theorem ggX5_kinds_X1_isGlove : GoodIn wsX5_kinds wsX1_isGlove := goodIn_r _ [8, 9, 10, 11, 12, 40, 41, 42, 43, 44, 45, 46, 47, 48, 49, 50, 51, 52] (by decide +kernel) (by decide +kernel)
set_option maxRecDepth 20000 in
theorem gX5_kinds_X1_isGlove : GoodIn wsX5_kinds (wsV RX5 103 RX1 yX1_isGlove wsX1_isGlove) := goodIn_app (goodIn_of _ (by decide +kernel)) ggX5_kinds_X1_isGlove
set_option maxRecDepth 20000 in
theorem ggX5_kinds_X4_allowGlove : GoodIn wsX5_kinds wsX4_allowGlove := goodIn_r _ [17, 18, 19, 20, 21, 22, 23, 24, 25, 26, 7, 27, 28, 10, 11, 12, 29, 30, 31, 32, 53, 54, 55, 56, 40, 41, 42, 43, 44, 45, 46, 47, 48, 49, 50, 51, 52] (by decide +kernel) (by decide +kernel)
set_option maxRecDepth 20000 in
theorem gX5_kinds_X4_allowGlove : GoodIn wsX5_kinds (wsV RX5 204 RX4 yX4_allowGlove wsX4_allowGlove) := goodIn_app (goodIn_of _ (by decide +kernel)) ggX5_kinds_X4_allowGlove
theorem dX5_kinds_0 : decode cX5_kinds 0 = .ok (.aload_n 0, 1) := by decide +kernel
theorem dX5_kinds_1 : decode cX5_kinds 1 = .ok (.getfield 19, 3) := by decide +kernel
theorem dX5_kinds_4 : decode cX5_kinds 4 = .ok (.iload_n 1, 1) := by decide +kernel
theorem dX5_kinds_5 : decode cX5_kinds 5 = .ok (.invokevirtual 103, 3) := by decide +kernel
theorem dX5_kinds_8 : decode cX5_kinds 8 = .ok (.ifCond .ne 5, 3) := by decide +kernel
theorem dX5_kinds_11 : decode cX5_kinds 11 = .ok (.iconst (-1), 1) := by decide +kernel
theorem dX5_kinds_12 : decode cX5_kinds 12 = .ok (.ireturn, 1) := by decide +kernel
theorem dX5_kinds_13 : decode cX5_kinds 13 = .ok (.iconst 0, 1) := by decide +kernel
theorem dX5_kinds_14 : decode cX5_kinds 14 = .ok (.istore_n 2, 1) := by decide +kernel
theorem dX5_kinds_15 : decode cX5_kinds 15 = .ok (.iconst 0, 1) := by decide +kernel
theorem dX5_kinds_16 : decode cX5_kinds 16 = .ok (.istore_n 3, 1) := by decide +kernel
theorem dX5_kinds_17 : decode cX5_kinds 17 = .ok (.iload_n 3, 1) := by decide +kernel
theorem dX5_kinds_18 : decode cX5_kinds 18 = .ok (.iconst 4, 1) := by decide +kernel
theorem dX5_kinds_19 : decode cX5_kinds 19 = .ok (.if_icmp .ge 40, 3) := by decide +kernel
theorem dX5_kinds_22 : decode cX5_kinds 22 = .ok (.aload_n 0, 1) := by decide +kernel
theorem dX5_kinds_23 : decode cX5_kinds 23 = .ok (.getfield 41, 3) := by decide +kernel
theorem dX5_kinds_26 : decode cX5_kinds 26 = .ok (.aload_n 0, 1) := by decide +kernel
theorem dX5_kinds_27 : decode cX5_kinds 27 = .ok (.getfield 19, 3) := by decide +kernel
theorem dX5_kinds_30 : decode cX5_kinds 30 = .ok (.iload_n 1, 1) := by decide +kernel
theorem dX5_kinds_31 : decode cX5_kinds 31 = .ok (.iload_n 3, 1) := by decide +kernel
theorem dX5_kinds_32 : decode cX5_kinds 32 = .ok (.aload_n 0, 1) := by decide +kernel
theorem dX5_kinds_33 : decode cX5_kinds 33 = .ok (.getfield 19, 3) := by decide +kernel
theorem dX5_kinds_36 : decode cX5_kinds 36 = .ok (.getfield 109, 3) := by decide +kernel
theorem dX5_kinds_39 : decode cX5_kinds 39 = .ok (.iload_n 1, 1) := by decide +kernel
theorem dX5_kinds_40 : decode cX5_kinds 40 = .ok (.iaload, 1) := by decide +kernel
theorem dX5_kinds_41 : decode cX5_kinds 41 = .ok (.invokevirtual 204, 3) := by decide +kernel
theorem dX5_kinds_44 : decode cX5_kinds 44 = .ok (.ifCond .eq 9, 3) := by decide +kernel
theorem dX5_kinds_47 : decode cX5_kinds 47 = .ok (.iload_n 2, 1) := by decide +kernel
theorem dX5_kinds_48 : decode cX5_kinds 48 = .ok (.iconst 1, 1) := by decide +kernel
theorem dX5_kinds_49 : decode cX5_kinds 49 = .ok (.iload_n 3, 1) := by decide +kernel
theorem dX5_kinds_50 : decode cX5_kinds 50 = .ok (.ishl, 1) := by decide +kernel
theorem dX5_kinds_51 : decode cX5_kinds 51 = .ok (.ior, 1) := by decide +kernel
theorem dX5_kinds_52 : decode cX5_kinds 52 = .ok (.istore_n 2, 1) := by decide +kernel
theorem dX5_kinds_53 : decode cX5_kinds 53 = .ok (.iinc 3 1, 3) := by decide +kernel
theorem dX5_kinds_56 : decode cX5_kinds 56 = .ok (.goto (-39), 3) := by decide +kernel
theorem dX5_kinds_59 : decode cX5_kinds 59 = .ok (.iload_n 2, 1) := by decide +kernel
theorem dX5_kinds_60 : decode cX5_kinds 60 = .ok (.ireturn, 1) := by decide +kernel
set_option maxRecDepth 20000 in
theorem ggX5_sizes_X1_isGlove : GoodIn wsX5_sizes wsX1_isGlove := goodIn_r _ [8, 9, 10, 11, 12, 41, 42, 43, 44, 45, 46, 47, 48, 49, 50, 51, 52, 53] (by decide +kernel) (by decide +kernel)
set_option maxRecDepth 20000 in
theorem gX5_sizes_X1_isGlove : GoodIn wsX5_sizes (wsV RX5 103 RX1 yX1_isGlove wsX1_isGlove) := goodIn_app (goodIn_of _ (by decide +kernel)) ggX5_sizes_X1_isGlove
set_option maxRecDepth 20000 in
theorem ggX5_sizes_X5_within : GoodIn wsX5_sizes wsX5_within := goodIn_r _ [12] (by decide +kernel) (by decide +kernel)
set_option maxRecDepth 20000 in
theorem gX5_sizes_X5_within : GoodIn wsX5_sizes (va_wsS RX5 75 yX5_within wsX5_within) := goodIn_app (goodIn_of _ (by decide +kernel)) ggX5_sizes_X5_within
set_option maxRecDepth 20000 in
theorem ggX5_sizes_X4_allowGlove : GoodIn wsX5_sizes wsX4_allowGlove := goodIn_r _ [18, 19, 20, 21, 22, 23, 24, 25, 26, 27, 7, 28, 29, 10, 11, 12, 30, 31, 32, 33, 54, 55, 56, 57, 41, 42, 43, 44, 45, 46, 47, 48, 49, 50, 51, 52, 53] (by decide +kernel) (by decide +kernel)
set_option maxRecDepth 20000 in
theorem gX5_sizes_X4_allowGlove : GoodIn wsX5_sizes (wsV RX5 204 RX4 yX4_allowGlove wsX4_allowGlove) := goodIn_app (goodIn_of _ (by decide +kernel)) ggX5_sizes_X4_allowGlove
theorem dX5_sizes_0 : decode cX5_sizes 0 = .ok (.aload_n 0, 1) := by decide +kernel
theorem dX5_sizes_1 : decode cX5_sizes 1 = .ok (.getfield 19, 3) := by decide +kernel
theorem dX5_sizes_4 : decode cX5_sizes 4 = .ok (.iload_n 1, 1) := by decide +kernel
theorem dX5_sizes_5 : decode cX5_sizes 5 = .ok (.invokevirtual 103, 3) := by decide +kernel
theorem dX5_sizes_8 : decode cX5_sizes 8 = .ok (.ifCond .eq 12, 3) := by decide +kernel
theorem dX5_sizes_11 : decode cX5_sizes 11 = .ok (.iload_n 2, 1) := by decide +kernel
theorem dX5_sizes_12 : decode cX5_sizes 12 = .ok (.iconst 0, 1) := by decide +kernel
theorem dX5_sizes_13 : decode cX5_sizes 13 = .ok (.iconst 1, 1) := by decide +kernel
theorem dX5_sizes_14 : decode cX5_sizes 14 = .ok (.invokestatic 75, 3) := by decide +kernel
theorem dX5_sizes_17 : decode cX5_sizes 17 = .ok (.ifCond .ne 5, 3) := by decide +kernel
theorem dX5_sizes_20 : decode cX5_sizes 20 = .ok (.iconst (-1), 1) := by decide +kernel
theorem dX5_sizes_21 : decode cX5_sizes 21 = .ok (.ireturn, 1) := by decide +kernel
theorem dX5_sizes_22 : decode cX5_sizes 22 = .ok (.iconst 0, 1) := by decide +kernel
theorem dX5_sizes_23 : decode cX5_sizes 23 = .ok (.istore_n 3, 1) := by decide +kernel
theorem dX5_sizes_24 : decode cX5_sizes 24 = .ok (.bipush (-4), 2) := by decide +kernel
theorem dX5_sizes_26 : decode cX5_sizes 26 = .ok (.istore 4, 2) := by decide +kernel
theorem dX5_sizes_28 : decode cX5_sizes 28 = .ok (.bipush 20, 2) := by decide +kernel
theorem dX5_sizes_30 : decode cX5_sizes 30 = .ok (.istore 5, 2) := by decide +kernel
theorem dX5_sizes_32 : decode cX5_sizes 32 = .ok (.iload 5, 2) := by decide +kernel
theorem dX5_sizes_34 : decode cX5_sizes 34 = .ok (.iconst 1, 1) := by decide +kernel
theorem dX5_sizes_35 : decode cX5_sizes 35 = .ok (.if_icmp .lt 42, 3) := by decide +kernel
theorem dX5_sizes_38 : decode cX5_sizes 38 = .ok (.aload_n 0, 1) := by decide +kernel
theorem dX5_sizes_39 : decode cX5_sizes 39 = .ok (.getfield 41, 3) := by decide +kernel
theorem dX5_sizes_42 : decode cX5_sizes 42 = .ok (.aload_n 0, 1) := by decide +kernel
theorem dX5_sizes_43 : decode cX5_sizes 43 = .ok (.getfield 19, 3) := by decide +kernel
theorem dX5_sizes_46 : decode cX5_sizes 46 = .ok (.iload_n 1, 1) := by decide +kernel
theorem dX5_sizes_47 : decode cX5_sizes 47 = .ok (.aload_n 0, 1) := by decide +kernel
theorem dX5_sizes_48 : decode cX5_sizes 48 = .ok (.getfield 19, 3) := by decide +kernel
theorem dX5_sizes_51 : decode cX5_sizes 51 = .ok (.getfield 106, 3) := by decide +kernel
theorem dX5_sizes_54 : decode cX5_sizes 54 = .ok (.iload_n 1, 1) := by decide +kernel
theorem dX5_sizes_55 : decode cX5_sizes 55 = .ok (.iaload, 1) := by decide +kernel
theorem dX5_sizes_56 : decode cX5_sizes 56 = .ok (.iload 5, 2) := by decide +kernel
theorem dX5_sizes_58 : decode cX5_sizes 58 = .ok (.invokevirtual 204, 3) := by decide +kernel
theorem dX5_sizes_61 : decode cX5_sizes 61 = .ok (.ifCond .eq 10, 3) := by decide +kernel
theorem dX5_sizes_64 : decode cX5_sizes 64 = .ok (.iinc 3 1, 3) := by decide +kernel
theorem dX5_sizes_67 : decode cX5_sizes 67 = .ok (.iload 5, 2) := by decide +kernel
theorem dX5_sizes_69 : decode cX5_sizes 69 = .ok (.istore 4, 2) := by decide +kernel
theorem dX5_sizes_71 : decode cX5_sizes 71 = .ok (.iinc 5 (-1), 3) := by decide +kernel
theorem dX5_sizes_74 : decode cX5_sizes 74 = .ok (.goto (-42), 3) := by decide +kernel
theorem dX5_sizes_77 : decode cX5_sizes 77 = .ok (.iload_n 2, 1) := by decide +kernel
theorem dX5_sizes_78 : decode cX5_sizes 78 = .ok (.ifCond .ne 7, 3) := by decide +kernel
theorem dX5_sizes_81 : decode cX5_sizes 81 = .ok (.iload_n 3, 1) := by decide +kernel
theorem dX5_sizes_82 : decode cX5_sizes 82 = .ok (.goto 5, 3) := by decide +kernel
theorem dX5_sizes_85 : decode cX5_sizes 85 = .ok (.iload 4, 2) := by decide +kernel
theorem dX5_sizes_87 : decode cX5_sizes 87 = .ok (.ireturn, 1) := by decide +kernel
set_option maxRecDepth 20000 in
theorem ggX5_likely_X1_isPerson : GoodIn wsX5_likely wsX1_isPerson := goodIn_r _ [9, 10, 11, 12, 13, 44, 45, 46, 47, 48, 49, 50, 51, 52, 53, 54, 55, 56] (by decide +kernel) (by decide +kernel)
set_option maxRecDepth 20000 in
theorem gX5_likely_X1_isPerson : GoodIn wsX5_likely (wsV RX5 90 RX1 yX1_isPerson wsX1_isPerson) := goodIn_app (goodIn_of _ (by decide +kernel)) ggX5_likely_X1_isPerson
set_option maxRecDepth 20000 in
theorem ggX5_likely_X5_within : GoodIn wsX5_likely wsX5_within := goodIn_r _ [13] (by decide +kernel) (by decide +kernel)
set_option maxRecDepth 20000 in
theorem gX5_likely_X5_within : GoodIn wsX5_likely (va_wsS RX5 75 yX5_within wsX5_within) := goodIn_app (goodIn_of _ (by decide +kernel)) ggX5_likely_X5_within
set_option maxRecDepth 20000 in
theorem ggX5_likely_X1_isOut : GoodIn wsX5_likely wsX1_isOut := goodIn_r _ [18, 19, 44, 45, 46, 47, 48, 49, 50, 51, 52, 53, 54, 55, 56] (by decide +kernel) (by decide +kernel)
set_option maxRecDepth 20000 in
theorem gX5_likely_X1_isOut : GoodIn wsX5_likely (wsV RX5 135 RX1 yX1_isOut wsX1_isOut) := goodIn_app (goodIn_of _ (by decide +kernel)) ggX5_likely_X1_isOut
set_option maxRecDepth 20000 in
theorem ggX5_likely_X1_canTakeUp : GoodIn wsX5_likely wsX1_canTakeUp := goodIn_r _ [23, 24, 25, 19, 26, 27, 28, 29, 30, 12, 31, 32, 33, 44, 45, 46, 47, 48, 49, 50, 51, 52, 53, 54, 55, 56] (by decide +kernel) (by decide +kernel)
set_option maxRecDepth 20000 in
theorem gX5_likely_X1_canTakeUp : GoodIn wsX5_likely (wsV RX5 131 RX1 yX1_canTakeUp wsX1_canTakeUp) := goodIn_app (goodIn_of _ (by decide +kernel)) ggX5_likely_X1_canTakeUp
set_option maxRecDepth 20000 in
theorem ggX5_likely_X5_commonDivisor : GoodIn wsX5_likely wsX5_commonDivisor := goodIn_r _ [36] (by decide +kernel) (by decide +kernel)
set_option maxRecDepth 20000 in
theorem gX5_likely_X5_commonDivisor : GoodIn wsX5_likely (va_wsS RX5 208 yX5_commonDivisor wsX5_commonDivisor) := goodIn_app (goodIn_of _ (by decide +kernel)) ggX5_likely_X5_commonDivisor
theorem dX5_likely_0 : decode cX5_likely 0 = .ok (.aload_n 0, 1) := by decide +kernel
theorem dX5_likely_1 : decode cX5_likely 1 = .ok (.getfield 19, 3) := by decide +kernel
theorem dX5_likely_4 : decode cX5_likely 4 = .ok (.iload_n 1, 1) := by decide +kernel
theorem dX5_likely_5 : decode cX5_likely 5 = .ok (.invokevirtual 90, 3) := by decide +kernel
theorem dX5_likely_8 : decode cX5_likely 8 = .ok (.ifCond .eq 21, 3) := by decide +kernel
theorem dX5_likely_11 : decode cX5_likely 11 = .ok (.iload_n 2, 1) := by decide +kernel
theorem dX5_likely_12 : decode cX5_likely 12 = .ok (.iconst 0, 1) := by decide +kernel
theorem dX5_likely_13 : decode cX5_likely 13 = .ok (.iconst 4, 1) := by decide +kernel
theorem dX5_likely_14 : decode cX5_likely 14 = .ok (.invokestatic 75, 3) := by decide +kernel
theorem dX5_likely_17 : decode cX5_likely 17 = .ok (.ifCond .eq 12, 3) := by decide +kernel
theorem dX5_likely_20 : decode cX5_likely 20 = .ok (.iload_n 3, 1) := by decide +kernel
theorem dX5_likely_21 : decode cX5_likely 21 = .ok (.iconst 0, 1) := by decide +kernel
theorem dX5_likely_22 : decode cX5_likely 22 = .ok (.iconst 1, 1) := by decide +kernel
theorem dX5_likely_23 : decode cX5_likely 23 = .ok (.invokestatic 75, 3) := by decide +kernel
theorem dX5_likely_26 : decode cX5_likely 26 = .ok (.ifCond .ne 5, 3) := by decide +kernel
theorem dX5_likely_29 : decode cX5_likely 29 = .ok (.iconst (-1), 1) := by decide +kernel
theorem dX5_likely_30 : decode cX5_likely 30 = .ok (.ireturn, 1) := by decide +kernel
theorem dX5_likely_31 : decode cX5_likely 31 = .ok (.aload_n 0, 1) := by decide +kernel
theorem dX5_likely_32 : decode cX5_likely 32 = .ok (.getfield 19, 3) := by decide +kernel
theorem dX5_likely_35 : decode cX5_likely 35 = .ok (.iload_n 1, 1) := by decide +kernel
theorem dX5_likely_36 : decode cX5_likely 36 = .ok (.invokevirtual 135, 3) := by decide +kernel
theorem dX5_likely_39 : decode cX5_likely 39 = .ok (.ifCond .eq 6, 3) := by decide +kernel
theorem dX5_likely_42 : decode cX5_likely 42 = .ok (.bipush (-2), 2) := by decide +kernel
theorem dX5_likely_44 : decode cX5_likely 44 = .ok (.ireturn, 1) := by decide +kernel
theorem dX5_likely_45 : decode cX5_likely 45 = .ok (.iconst 1, 1) := by decide +kernel
theorem dX5_likely_46 : decode cX5_likely 46 = .ok (.istore 4, 2) := by decide +kernel
theorem dX5_likely_48 : decode cX5_likely 48 = .ok (.iconst 1, 1) := by decide +kernel
theorem dX5_likely_49 : decode cX5_likely 49 = .ok (.istore 5, 2) := by decide +kernel
theorem dX5_likely_51 : decode cX5_likely 51 = .ok (.iconst 0, 1) := by decide +kernel
theorem dX5_likely_52 : decode cX5_likely 52 = .ok (.istore 6, 2) := by decide +kernel
theorem dX5_likely_54 : decode cX5_likely 54 = .ok (.iconst 0, 1) := by decide +kernel
theorem dX5_likely_55 : decode cX5_likely 55 = .ok (.istore 7, 2) := by decide +kernel
theorem dX5_likely_57 : decode cX5_likely 57 = .ok (.iload 7, 2) := by decide +kernel
theorem dX5_likely_59 : decode cX5_likely 59 = .ok (.aload_n 0, 1) := by decide +kernel
theorem dX5_likely_60 : decode cX5_likely 60 = .ok (.getfield 19, 3) := by decide +kernel
theorem dX5_likely_63 : decode cX5_likely 63 = .ok (.getfield 151, 3) := by decide +kernel
theorem dX5_likely_66 : decode cX5_likely 66 = .ok (.if_icmp .ge 90, 3) := by decide +kernel
theorem dX5_likely_69 : decode cX5_likely 69 = .ok (.iload 6, 2) := by decide +kernel
theorem dX5_likely_71 : decode cX5_likely 71 = .ok (.iload_n 2, 1) := by decide +kernel
theorem dX5_likely_72 : decode cX5_likely 72 = .ok (.if_icmp .ge 84, 3) := by decide +kernel
theorem dX5_likely_75 : decode cX5_likely 75 = .ok (.aload_n 0, 1) := by decide +kernel
theorem dX5_likely_76 : decode cX5_likely 76 = .ok (.getfield 19, 3) := by decide +kernel
theorem dX5_likely_79 : decode cX5_likely 79 = .ok (.iload_n 1, 1) := by decide +kernel
theorem dX5_likely_80 : decode cX5_likely 80 = .ok (.iload 7, 2) := by decide +kernel
theorem dX5_likely_82 : decode cX5_likely 82 = .ok (.invokevirtual 131, 3) := by decide +kernel
theorem dX5_likely_85 : decode cX5_likely 85 = .ok (.ifCond .ne 6, 3) := by decide +kernel
theorem dX5_likely_88 : decode cX5_likely 88 = .ok (.goto 62, 3) := by decide +kernel
theorem dX5_likely_91 : decode cX5_likely 91 = .ok (.iinc 6 1, 3) := by decide +kernel
theorem dX5_likely_94 : decode cX5_likely 94 = .ok (.aload_n 0, 1) := by decide +kernel
theorem dX5_likely_95 : decode cX5_likely 95 = .ok (.getfield 19, 3) := by decide +kernel
theorem dX5_likely_98 : decode cX5_likely 98 = .ok (.getfield 97, 3) := by decide +kernel
theorem dX5_likely_101 : decode cX5_likely 101 = .ok (.aload_n 0, 1) := by decide +kernel
theorem dX5_likely_102 : decode cX5_likely 102 = .ok (.getfield 19, 3) := by decide +kernel
theorem dX5_likely_105 : decode cX5_likely 105 = .ok (.getfield 125, 3) := by decide +kernel
theorem dX5_likely_108 : decode cX5_likely 108 = .ok (.iload 7, 2) := by decide +kernel
theorem dX5_likely_110 : decode cX5_likely 110 = .ok (.iaload, 1) := by decide +kernel
theorem dX5_likely_111 : decode cX5_likely 111 = .ok (.iaload, 1) := by decide +kernel
theorem dX5_likely_112 : decode cX5_likely 112 = .ok (.istore 8, 2) := by decide +kernel
theorem dX5_likely_114 : decode cX5_likely 114 = .ok (.iload 8, 2) := by decide +kernel
theorem dX5_likely_116 : decode cX5_likely 116 = .ok (.ifCond .le 34, 3) := by decide +kernel
theorem dX5_likely_119 : decode cX5_likely 119 = .ok (.iload 4, 2) := by decide +kernel
theorem dX5_likely_121 : decode cX5_likely 121 = .ok (.aload_n 0, 1) := by decide +kernel
theorem dX5_likely_122 : decode cX5_likely 122 = .ok (.getfield 19, 3) := by decide +kernel
theorem dX5_likely_125 : decode cX5_likely 125 = .ok (.getfield 97, 3) := by decide +kernel
theorem dX5_likely_128 : decode cX5_likely 128 = .ok (.iload_n 1, 1) := by decide +kernel
theorem dX5_likely_129 : decode cX5_likely 129 = .ok (.iaload, 1) := by decide +kernel
theorem dX5_likely_130 : decode cX5_likely 130 = .ok (.imul, 1) := by decide +kernel
theorem dX5_likely_131 : decode cX5_likely 131 = .ok (.istore 4, 2) := by decide +kernel
theorem dX5_likely_133 : decode cX5_likely 133 = .ok (.iload 5, 2) := by decide +kernel
theorem dX5_likely_135 : decode cX5_likely 135 = .ok (.aload_n 0, 1) := by decide +kernel
theorem dX5_likely_136 : decode cX5_likely 136 = .ok (.getfield 19, 3) := by decide +kernel
theorem dX5_likely_139 : decode cX5_likely 139 = .ok (.getfield 97, 3) := by decide +kernel
theorem dX5_likely_142 : decode cX5_likely 142 = .ok (.iload_n 1, 1) := by decide +kernel
theorem dX5_likely_143 : decode cX5_likely 143 = .ok (.iaload, 1) := by decide +kernel
theorem dX5_likely_144 : decode cX5_likely 144 = .ok (.iload 8, 2) := by decide +kernel
theorem dX5_likely_146 : decode cX5_likely 146 = .ok (.iadd, 1) := by decide +kernel
theorem dX5_likely_147 : decode cX5_likely 147 = .ok (.imul, 1) := by decide +kernel
theorem dX5_likely_148 : decode cX5_likely 148 = .ok (.istore 5, 2) := by decide +kernel
theorem dX5_likely_150 : decode cX5_likely 150 = .ok (.iinc 7 1, 3) := by decide +kernel
theorem dX5_likely_153 : decode cX5_likely 153 = .ok (.goto (-96), 3) := by decide +kernel
theorem dX5_likely_156 : decode cX5_likely 156 = .ok (.iload 4, 2) := by decide +kernel
theorem dX5_likely_158 : decode cX5_likely 158 = .ok (.iload 5, 2) := by decide +kernel
theorem dX5_likely_160 : decode cX5_likely 160 = .ok (.invokestatic 208, 3) := by decide +kernel
theorem dX5_likely_163 : decode cX5_likely 163 = .ok (.istore 7, 2) := by decide +kernel
theorem dX5_likely_165 : decode cX5_likely 165 = .ok (.iload 7, 2) := by decide +kernel
theorem dX5_likely_167 : decode cX5_likely 167 = .ok (.ifCond .gt 6, 3) := by decide +kernel
theorem dX5_likely_170 : decode cX5_likely 170 = .ok (.bipush (-2), 2) := by decide +kernel
theorem dX5_likely_172 : decode cX5_likely 172 = .ok (.ireturn, 1) := by decide +kernel
theorem dX5_likely_173 : decode cX5_likely 173 = .ok (.iload_n 3, 1) := by decide +kernel
theorem dX5_likely_174 : decode cX5_likely 174 = .ok (.ifCond .ne 11, 3) := by decide +kernel
theorem dX5_likely_177 : decode cX5_likely 177 = .ok (.iload 4, 2) := by decide +kernel
theorem dX5_likely_179 : decode cX5_likely 179 = .ok (.iload 7, 2) := by decide +kernel
theorem dX5_likely_181 : decode cX5_likely 181 = .ok (.idiv, 1) := by decide +kernel
theorem dX5_likely_182 : decode cX5_likely 182 = .ok (.goto 8, 3) := by decide +kernel
theorem dX5_likely_185 : decode cX5_likely 185 = .ok (.iload 5, 2) := by decide +kernel
theorem dX5_likely_187 : decode cX5_likely 187 = .ok (.iload 7, 2) := by decide +kernel
theorem dX5_likely_189 : decode cX5_likely 189 = .ok (.idiv, 1) := by decide +kernel
theorem dX5_likely_190 : decode cX5_likely 190 = .ok (.ireturn, 1) := by decide +kernel
set_option maxRecDepth 20000 in
theorem ggX5_time_X5_within : GoodIn wsX5_time wsX5_within := goodIn_r _ [7] (by decide +kernel) (by decide +kernel)
set_option maxRecDepth 20000 in
theorem gX5_time_X5_within : GoodIn wsX5_time (va_wsS RX5 75 yX5_within wsX5_within) := goodIn_app (goodIn_of _ (by decide +kernel)) ggX5_time_X5_within
set_option maxRecDepth 20000 in
theorem ggX5_time_X0_hallBehindDraws : GoodIn wsX5_time wsX0_hallBehindDraws := goodIn_r _ [12, 13, 14, 15, 16, 17, 18, 19, 20, 21, 22, 23, 24, 25, 26, 27, 28, 29, 30, 31, 32, 33, 34, 35, 36, 37, 38, 11, 39, 40, 41, 42, 43, 44, 45, 46, 47, 48, 49, 50, 51, 52, 53, 54, 55, 56, 57, 58, 59, 60, 61, 62, 63, 64, 65, 66, 67, 68, 69, 70, 71, 72, 73, 74, 6, 75, 76, 77, 78, 79, 80, 81, 82, 83, 84, 85, 86, 87, 127, 114, 115, 116, 117, 118, 119, 120, 121, 122, 123, 124, 125, 126] (by decide +kernel) (by decide +kernel)
set_option maxRecDepth 20000 in
theorem gX5_time_X0_hallBehindDraws : GoodIn wsX5_time (wsV RX5 211 RX0 yX0_hallBehindDraws wsX0_hallBehindDraws) := goodIn_app (goodIn_of _ (by decide +kernel)) ggX5_time_X0_hallBehindDraws
set_option maxRecDepth 20000 in
theorem ggX5_time_X1_standingAsBits : GoodIn wsX5_time wsX1_standingAsBits := goodIn_r _ [91, 19, 28, 114, 115, 116, 117, 118, 119, 120, 121, 122, 123, 124, 125, 126] (by decide +kernel) (by decide +kernel)
set_option maxRecDepth 20000 in
theorem gX5_time_X1_standingAsBits : GoodIn wsX5_time (wsV RX5 215 RX1 yX1_standingAsBits wsX1_standingAsBits) := goodIn_app (goodIn_of _ (by decide +kernel)) ggX5_time_X1_standingAsBits
set_option maxRecDepth 20000 in
theorem ggX5_time_J6_bitCount_0f7a4 : GoodIn wsX5_time wsJ6_bitCount_0f7a4 := goodIn_r _ [95, 96, 97, 98] (by decide +kernel) (by decide +kernel)
set_option maxRecDepth 20000 in
theorem gX5_time_J6_bitCount_0f7a4 : GoodIn wsX5_time (va_wsS RX5 160 yJ6_bitCount_0f7a4 wsJ6_bitCount_0f7a4) := goodIn_app (goodIn_of _ (by decide +kernel)) ggX5_time_J6_bitCount_0f7a4
set_option maxRecDepth 20000 in
theorem ggX5_time_X1_lyingAsBits : GoodIn wsX5_time wsX1_lyingAsBits := goodIn_r _ [102, 20, 33, 114, 115, 116, 117, 118, 119, 120, 121, 122, 123, 124, 125, 126] (by decide +kernel) (by decide +kernel)
set_option maxRecDepth 20000 in
theorem gX5_time_X1_lyingAsBits : GoodIn wsX5_time (wsV RX5 157 RX1 yX1_lyingAsBits wsX1_lyingAsBits) := goodIn_app (goodIn_of _ (by decide +kernel)) ggX5_time_X1_lyingAsBits
set_option maxRecDepth 20000 in
theorem ggX5_time_X1_mightOfAll : GoodIn wsX5_time wsX1_mightOfAll := goodIn_r _ [106, 19, 28, 114, 115, 116, 117, 118, 119, 120, 121, 122, 123, 124, 125, 126] (by decide +kernel) (by decide +kernel)
set_option maxRecDepth 20000 in
theorem gX5_time_X1_mightOfAll : GoodIn wsX5_time (wsV RX5 218 RX1 yX1_mightOfAll wsX1_mightOfAll) := goodIn_app (goodIn_of _ (by decide +kernel)) ggX5_time_X1_mightOfAll
theorem dX5_time_0 : decode cX5_time 0 = .ok (.iload_n 1, 1) := by decide +kernel
theorem dX5_time_1 : decode cX5_time 1 = .ok (.iconst 0, 1) := by decide +kernel
theorem dX5_time_2 : decode cX5_time 2 = .ok (.sipush 9999, 3) := by decide +kernel
theorem dX5_time_5 : decode cX5_time 5 = .ok (.invokestatic 75, 3) := by decide +kernel
theorem dX5_time_8 : decode cX5_time 8 = .ok (.ifCond .eq 22, 3) := by decide +kernel
theorem dX5_time_11 : decode cX5_time 11 = .ok (.iload_n 2, 1) := by decide +kernel
theorem dX5_time_12 : decode cX5_time 12 = .ok (.iconst 1, 1) := by decide +kernel
theorem dX5_time_13 : decode cX5_time 13 = .ok (.bipush 60, 2) := by decide +kernel
theorem dX5_time_15 : decode cX5_time 15 = .ok (.invokestatic 75, 3) := by decide +kernel
theorem dX5_time_18 : decode cX5_time 18 = .ok (.ifCond .eq 12, 3) := by decide +kernel
theorem dX5_time_21 : decode cX5_time 21 = .ok (.iload_n 3, 1) := by decide +kernel
theorem dX5_time_22 : decode cX5_time 22 = .ok (.iconst 0, 1) := by decide +kernel
theorem dX5_time_23 : decode cX5_time 23 = .ok (.iconst 2, 1) := by decide +kernel
theorem dX5_time_24 : decode cX5_time 24 = .ok (.invokestatic 75, 3) := by decide +kernel
theorem dX5_time_27 : decode cX5_time 27 = .ok (.ifCond .ne 5, 3) := by decide +kernel
theorem dX5_time_30 : decode cX5_time 30 = .ok (.iconst (-1), 1) := by decide +kernel
theorem dX5_time_31 : decode cX5_time 31 = .ok (.ireturn, 1) := by decide +kernel
theorem dX5_time_32 : decode cX5_time 32 = .ok (.aload_n 0, 1) := by decide +kernel
theorem dX5_time_33 : decode cX5_time 33 = .ok (.getfield 48, 3) := by decide +kernel
theorem dX5_time_36 : decode cX5_time 36 = .ok (.aload_n 0, 1) := by decide +kernel
theorem dX5_time_37 : decode cX5_time 37 = .ok (.getfield 19, 3) := by decide +kernel
theorem dX5_time_40 : decode cX5_time 40 = .ok (.iload_n 1, 1) := by decide +kernel
theorem dX5_time_41 : decode cX5_time 41 = .ok (.iload_n 2, 1) := by decide +kernel
theorem dX5_time_42 : decode cX5_time 42 = .ok (.invokevirtual 211, 3) := by decide +kernel
theorem dX5_time_45 : decode cX5_time 45 = .ok (.astore 4, 2) := by decide +kernel
theorem dX5_time_47 : decode cX5_time 47 = .ok (.iload_n 3, 1) := by decide +kernel
theorem dX5_time_48 : decode cX5_time 48 = .ok (.lookupswitch 52 #[(0, 28), (1, 43)], 28) := by decide +kernel
theorem dX5_time_76 : decode cX5_time 76 = .ok (.aload 4, 2) := by decide +kernel
theorem dX5_time_78 : decode cX5_time 78 = .ok (.getfield 79, 3) := by decide +kernel
theorem dX5_time_81 : decode cX5_time 81 = .ok (.aload 4, 2) := by decide +kernel
theorem dX5_time_83 : decode cX5_time 83 = .ok (.invokevirtual 215, 3) := by decide +kernel
theorem dX5_time_86 : decode cX5_time 86 = .ok (.invokestatic 160, 3) := by decide +kernel
theorem dX5_time_89 : decode cX5_time 89 = .ok (.isub, 1) := by decide +kernel
theorem dX5_time_90 : decode cX5_time 90 = .ok (.ireturn, 1) := by decide +kernel
theorem dX5_time_91 : decode cX5_time 91 = .ok (.aload 4, 2) := by decide +kernel
theorem dX5_time_93 : decode cX5_time 93 = .ok (.invokevirtual 157, 3) := by decide +kernel
theorem dX5_time_96 : decode cX5_time 96 = .ok (.invokestatic 160, 3) := by decide +kernel
theorem dX5_time_99 : decode cX5_time 99 = .ok (.ireturn, 1) := by decide +kernel
theorem dX5_time_100 : decode cX5_time 100 = .ok (.aload 4, 2) := by decide +kernel
theorem dX5_time_102 : decode cX5_time 102 = .ok (.invokevirtual 218, 3) := by decide +kernel
theorem dX5_time_105 : decode cX5_time 105 = .ok (.ireturn, 1) := by decide +kernel
set_option maxRecDepth 20000 in
theorem ggX5_keep_X3_put : GoodIn wsX5_keep wsX3_put := goodIn_r _ [8, 9, 10, 11, 12, 13, 14, 15, 16, 17, 18, 19, 20, 21, 22, 23, 24, 25, 26, 27, 28, 29, 30, 31, 32, 33, 34, 35, 36, 37, 45, 46, 47, 48, 49, 50, 51, 52, 53, 54, 55, 56, 57, 58, 59, 60] (by decide +kernel) (by decide +kernel)
set_option maxRecDepth 20000 in
theorem gX5_keep_X3_put : GoodIn wsX5_keep (wsV RX5 141 RX3 yX3_put wsX3_put) := goodIn_app (goodIn_of _ (by decide +kernel)) ggX5_keep_X3_put
theorem dX5_keep_0 : decode cX5_keep 0 = .ok (.aload_n 0, 1) := by decide +kernel
theorem dX5_keep_1 : decode cX5_keep 1 = .ok (.getfield 35, 3) := by decide +kernel
theorem dX5_keep_4 : decode cX5_keep 4 = .ok (.getfield 86, 3) := by decide +kernel
theorem dX5_keep_7 : decode cX5_keep 7 = .ok (.iconst 2, 1) := by decide +kernel
theorem dX5_keep_8 : decode cX5_keep 8 = .ok (.if_icmp .lt 6, 3) := by decide +kernel
theorem dX5_keep_11 : decode cX5_keep 11 = .ok (.bipush (-3), 2) := by decide +kernel
theorem dX5_keep_13 : decode cX5_keep 13 = .ok (.ireturn, 1) := by decide +kernel
theorem dX5_keep_14 : decode cX5_keep 14 = .ok (.aload_n 0, 1) := by decide +kernel
theorem dX5_keep_15 : decode cX5_keep 15 = .ok (.getfield 35, 3) := by decide +kernel
theorem dX5_keep_18 : decode cX5_keep 18 = .ok (.aload_n 0, 1) := by decide +kernel
theorem dX5_keep_19 : decode cX5_keep 19 = .ok (.getfield 19, 3) := by decide +kernel
theorem dX5_keep_22 : decode cX5_keep 22 = .ok (.invokevirtual 141, 3) := by decide +kernel
theorem dX5_keep_25 : decode cX5_keep 25 = .ok (.aload_n 0, 1) := by decide +kernel
theorem dX5_keep_26 : decode cX5_keep 26 = .ok (.getfield 35, 3) := by decide +kernel
theorem dX5_keep_29 : decode cX5_keep 29 = .ok (.getfield 86, 3) := by decide +kernel
theorem dX5_keep_32 : decode cX5_keep 32 = .ok (.ireturn, 1) := by decide +kernel
set_option maxRecDepth 20000 in
theorem ggX5_back_X3_bringBack : GoodIn wsX5_back wsX3_bringBack := goodIn_r _ [9, 10, 11, 12, 13, 14, 15, 16, 17, 18, 19, 20, 21, 22, 23, 24, 25, 26, 27, 28, 29, 30, 31, 32, 33, 34, 42, 43, 44, 45, 46, 47, 48, 49, 50, 51, 52, 53, 54, 55, 56, 57] (by decide +kernel) (by decide +kernel)
set_option maxRecDepth 20000 in
theorem gX5_back_X3_bringBack : GoodIn wsX5_back (wsV RX5 170 RX3 yX3_bringBack wsX3_bringBack) := goodIn_app (goodIn_of _ (by decide +kernel)) ggX5_back_X3_bringBack
theorem dX5_back_0 : decode cX5_back 0 = .ok (.aload_n 0, 1) := by decide +kernel
theorem dX5_back_1 : decode cX5_back 1 = .ok (.getfield 35, 3) := by decide +kernel
theorem dX5_back_4 : decode cX5_back 4 = .ok (.aload_n 0, 1) := by decide +kernel
theorem dX5_back_5 : decode cX5_back 5 = .ok (.getfield 19, 3) := by decide +kernel
theorem dX5_back_8 : decode cX5_back 8 = .ok (.invokevirtual 170, 3) := by decide +kernel
theorem dX5_back_11 : decode cX5_back 11 = .ok (.ifCond .ne 6, 3) := by decide +kernel
theorem dX5_back_14 : decode cX5_back 14 = .ok (.bipush (-2), 2) := by decide +kernel
theorem dX5_back_16 : decode cX5_back 16 = .ok (.ireturn, 1) := by decide +kernel
theorem dX5_back_17 : decode cX5_back 17 = .ok (.aload_n 0, 1) := by decide +kernel
theorem dX5_back_18 : decode cX5_back 18 = .ok (.getfield 31, 3) := by decide +kernel
theorem dX5_back_21 : decode cX5_back 21 = .ok (.iconst 0, 1) := by decide +kernel
theorem dX5_back_22 : decode cX5_back 22 = .ok (.putfield 86, 3) := by decide +kernel
theorem dX5_back_25 : decode cX5_back 25 = .ok (.aload_n 0, 1) := by decide +kernel
theorem dX5_back_26 : decode cX5_back 26 = .ok (.getfield 35, 3) := by decide +kernel
theorem dX5_back_29 : decode cX5_back 29 = .ok (.getfield 86, 3) := by decide +kernel
theorem dX5_back_32 : decode cX5_back 32 = .ok (.ireturn, 1) := by decide +kernel
set_option maxRecDepth 20000 in
theorem ggX5_count_X1_standingAsBits : GoodIn wsX5_count wsX1_standingAsBits := goodIn_r _ [17, 18, 19, 40, 41, 42, 43, 44, 45, 46, 47, 48, 49, 50, 51, 52] (by decide +kernel) (by decide +kernel)
set_option maxRecDepth 20000 in
theorem gX5_count_X1_standingAsBits : GoodIn wsX5_count (wsV RX5 215 RX1 yX1_standingAsBits wsX1_standingAsBits) := goodIn_app (goodIn_of _ (by decide +kernel)) ggX5_count_X1_standingAsBits
set_option maxRecDepth 20000 in
theorem ggX5_count_J6_bitCount_0f7a4 : GoodIn wsX5_count wsJ6_bitCount_0f7a4 := goodIn_r _ [23, 24, 25, 26] (by decide +kernel) (by decide +kernel)
set_option maxRecDepth 20000 in
theorem gX5_count_J6_bitCount_0f7a4 : GoodIn wsX5_count (va_wsS RX5 160 yJ6_bitCount_0f7a4 wsJ6_bitCount_0f7a4) := goodIn_app (goodIn_of _ (by decide +kernel)) ggX5_count_J6_bitCount_0f7a4
set_option maxRecDepth 20000 in
theorem ggX5_count_X1_lyingAsBits : GoodIn wsX5_count wsX1_lyingAsBits := goodIn_r _ [30, 31, 32, 40, 41, 42, 43, 44, 45, 46, 47, 48, 49, 50, 51, 52] (by decide +kernel) (by decide +kernel)
set_option maxRecDepth 20000 in
theorem gX5_count_X1_lyingAsBits : GoodIn wsX5_count (wsV RX5 157 RX1 yX1_lyingAsBits wsX1_lyingAsBits) := goodIn_app (goodIn_of _ (by decide +kernel)) ggX5_count_X1_lyingAsBits
theorem dX5_count_0 : decode cX5_count 0 = .ok (.iload_n 1, 1) := by decide +kernel
theorem dX5_count_1 : decode cX5_count 1 = .ok (.tableswitch 149 0 9 #[55, 63, 71, 79, 98, 109, 117, 125, 133, 141], 55) := by decide +kernel
theorem dX5_count_56 : decode cX5_count 56 = .ok (.aload_n 0, 1) := by decide +kernel
theorem dX5_count_57 : decode cX5_count 57 = .ok (.getfield 19, 3) := by decide +kernel
theorem dX5_count_60 : decode cX5_count 60 = .ok (.getfield 79, 3) := by decide +kernel
theorem dX5_count_63 : decode cX5_count 63 = .ok (.ireturn, 1) := by decide +kernel
theorem dX5_count_64 : decode cX5_count 64 = .ok (.aload_n 0, 1) := by decide +kernel
theorem dX5_count_65 : decode cX5_count 65 = .ok (.getfield 19, 3) := by decide +kernel
theorem dX5_count_68 : decode cX5_count 68 = .ok (.getfield 151, 3) := by decide +kernel
theorem dX5_count_71 : decode cX5_count 71 = .ok (.ireturn, 1) := by decide +kernel
theorem dX5_count_72 : decode cX5_count 72 = .ok (.aload_n 0, 1) := by decide +kernel
theorem dX5_count_73 : decode cX5_count 73 = .ok (.getfield 19, 3) := by decide +kernel
theorem dX5_count_76 : decode cX5_count 76 = .ok (.getfield 138, 3) := by decide +kernel
theorem dX5_count_79 : decode cX5_count 79 = .ok (.ireturn, 1) := by decide +kernel
theorem dX5_count_80 : decode cX5_count 80 = .ok (.aload_n 0, 1) := by decide +kernel
theorem dX5_count_81 : decode cX5_count 81 = .ok (.getfield 19, 3) := by decide +kernel
theorem dX5_count_84 : decode cX5_count 84 = .ok (.getfield 79, 3) := by decide +kernel
theorem dX5_count_87 : decode cX5_count 87 = .ok (.aload_n 0, 1) := by decide +kernel
theorem dX5_count_88 : decode cX5_count 88 = .ok (.getfield 19, 3) := by decide +kernel
theorem dX5_count_91 : decode cX5_count 91 = .ok (.invokevirtual 215, 3) := by decide +kernel
theorem dX5_count_94 : decode cX5_count 94 = .ok (.invokestatic 160, 3) := by decide +kernel
theorem dX5_count_97 : decode cX5_count 97 = .ok (.isub, 1) := by decide +kernel
theorem dX5_count_98 : decode cX5_count 98 = .ok (.ireturn, 1) := by decide +kernel
theorem dX5_count_99 : decode cX5_count 99 = .ok (.aload_n 0, 1) := by decide +kernel
theorem dX5_count_100 : decode cX5_count 100 = .ok (.getfield 19, 3) := by decide +kernel
theorem dX5_count_103 : decode cX5_count 103 = .ok (.invokevirtual 157, 3) := by decide +kernel
theorem dX5_count_106 : decode cX5_count 106 = .ok (.invokestatic 160, 3) := by decide +kernel
theorem dX5_count_109 : decode cX5_count 109 = .ok (.ireturn, 1) := by decide +kernel
theorem dX5_count_110 : decode cX5_count 110 = .ok (.aload_n 0, 1) := by decide +kernel
theorem dX5_count_111 : decode cX5_count 111 = .ok (.getfield 19, 3) := by decide +kernel
theorem dX5_count_114 : decode cX5_count 114 = .ok (.getfield 144, 3) := by decide +kernel
theorem dX5_count_117 : decode cX5_count 117 = .ok (.ireturn, 1) := by decide +kernel
theorem dX5_count_118 : decode cX5_count 118 = .ok (.aload_n 0, 1) := by decide +kernel
theorem dX5_count_119 : decode cX5_count 119 = .ok (.getfield 41, 3) := by decide +kernel
theorem dX5_count_122 : decode cX5_count 122 = .ok (.getfield 89, 3) := by decide +kernel
theorem dX5_count_125 : decode cX5_count 125 = .ok (.ireturn, 1) := by decide +kernel
theorem dX5_count_126 : decode cX5_count 126 = .ok (.aload_n 0, 1) := by decide +kernel
theorem dX5_count_127 : decode cX5_count 127 = .ok (.getfield 31, 3) := by decide +kernel
theorem dX5_count_130 : decode cX5_count 130 = .ok (.getfield 86, 3) := by decide +kernel
theorem dX5_count_133 : decode cX5_count 133 = .ok (.ireturn, 1) := by decide +kernel
theorem dX5_count_134 : decode cX5_count 134 = .ok (.aload_n 0, 1) := by decide +kernel
theorem dX5_count_135 : decode cX5_count 135 = .ok (.getfield 35, 3) := by decide +kernel
theorem dX5_count_138 : decode cX5_count 138 = .ok (.getfield 86, 3) := by decide +kernel
theorem dX5_count_141 : decode cX5_count 141 = .ok (.ireturn, 1) := by decide +kernel
theorem dX5_count_142 : decode cX5_count 142 = .ok (.aload_n 0, 1) := by decide +kernel
theorem dX5_count_143 : decode cX5_count 143 = .ok (.getfield 10, 3) := by decide +kernel
theorem dX5_count_146 : decode cX5_count 146 = .ok (.getfield 72, 3) := by decide +kernel
theorem dX5_count_149 : decode cX5_count 149 = .ok (.ireturn, 1) := by decide +kernel
theorem dX5_count_150 : decode cX5_count 150 = .ok (.iconst (-1), 1) := by decide +kernel
theorem dX5_count_151 : decode cX5_count 151 = .ok (.ireturn, 1) := by decide +kernel
theorem dX5_within_0 : decode cX5_within 0 = .ok (.iload_n 0, 1) := by decide +kernel
theorem dX5_within_1 : decode cX5_within 1 = .ok (.iload_n 1, 1) := by decide +kernel
theorem dX5_within_2 : decode cX5_within 2 = .ok (.if_icmp .lt 12, 3) := by decide +kernel
theorem dX5_within_5 : decode cX5_within 5 = .ok (.iload_n 0, 1) := by decide +kernel
theorem dX5_within_6 : decode cX5_within 6 = .ok (.iload_n 2, 1) := by decide +kernel
theorem dX5_within_7 : decode cX5_within 7 = .ok (.if_icmp .gt 7, 3) := by decide +kernel
theorem dX5_within_10 : decode cX5_within 10 = .ok (.iconst 1, 1) := by decide +kernel
theorem dX5_within_11 : decode cX5_within 11 = .ok (.goto 4, 3) := by decide +kernel
theorem dX5_within_14 : decode cX5_within 14 = .ok (.iconst 0, 1) := by decide +kernel
theorem dX5_within_15 : decode cX5_within 15 = .ok (.ireturn, 1) := by decide +kernel
theorem dX5_sizeByNow_0 : decode cX5_sizeByNow 0 = .ok (.iload_n 0, 1) := by decide +kernel
theorem dX5_sizeByNow_1 : decode cX5_sizeByNow 1 = .ok (.iconst 3, 1) := by decide +kernel
theorem dX5_sizeByNow_2 : decode cX5_sizeByNow 2 = .ok (.if_icmp .ne 11, 3) := by decide +kernel
theorem dX5_sizeByNow_5 : decode cX5_sizeByNow 5 = .ok (.iload_n 1, 1) := by decide +kernel
theorem dX5_sizeByNow_6 : decode cX5_sizeByNow 6 = .ok (.iload_n 2, 1) := by decide +kernel
theorem dX5_sizeByNow_7 : decode cX5_sizeByNow 7 = .ok (.iconst 5, 1) := by decide +kernel
theorem dX5_sizeByNow_8 : decode cX5_sizeByNow 8 = .ok (.idiv, 1) := by decide +kernel
