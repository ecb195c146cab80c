theorem dX6_lay_1 : decode cX6_lay 1 = .ok (.invokevirtual 89, 3) := by decide +kernel
theorem dX6_lay_4 : decode cX6_lay 4 = .ok (.bipush (-4), 2) := by decide +kernel
theorem dX6_lay_6 : decode cX6_lay 6 = .ok (.if_icmp .ne 13, 3) := by decide +kernel
theorem dX6_lay_9 : decode cX6_lay 9 = .ok (.aload_n 0, 1) := by decide +kernel
theorem dX6_lay_10 : decode cX6_lay 10 = .ok (.getfield 16, 3) := by decide +kernel
theorem dX6_lay_13 : decode cX6_lay 13 = .ok (.iconst 0, 1) := by decide +kernel
theorem dX6_lay_14 : decode cX6_lay 14 = .ok (.iaload, 1) := by decide +kernel
theorem dX6_lay_15 : decode cX6_lay 15 = .ok (.iconst 2, 1) := by decide +kernel
theorem dX6_lay_16 : decode cX6_lay 16 = .ok (.if_icmp .ge 6, 3) := by decide +kernel
theorem dX6_lay_19 : decode cX6_lay 19 = .ok (.bipush (-2), 2) := by decide +kernel
theorem dX6_lay_21 : decode cX6_lay 21 = .ok (.ireturn, 1) := by decide +kernel
theorem dX6_lay_22 : decode cX6_lay 22 = .ok (.aload_n 0, 1) := by decide +kernel
theorem dX6_lay_23 : decode cX6_lay 23 = .ok (.invokevirtual 50, 3) := by decide +kernel
theorem dX6_lay_26 : decode cX6_lay 26 = .ok (.aload_n 0, 1) := by decide +kernel
theorem dX6_lay_27 : decode cX6_lay 27 = .ok (.getfield 13, 3) := by decide +kernel
theorem dX6_lay_30 : decode cX6_lay 30 = .ok (.iconst 0, 1) := by decide +kernel
theorem dX6_lay_31 : decode cX6_lay 31 = .ok (.iaload, 1) := by decide +kernel
theorem dX6_lay_32 : decode cX6_lay 32 = .ok (.ireturn, 1) := by decide +kernel
theorem dX6_begin_0 : decode cX6_begin 0 = .ok (.iconst 0, 1) := by decide +kernel
theorem dX6_begin_1 : decode cX6_begin 1 = .ok (.istore_n 1, 1) := by decide +kernel
theorem dX6_begin_2 : decode cX6_begin 2 = .ok (.iload_n 1, 1) := by decide +kernel
theorem dX6_begin_3 : decode cX6_begin 3 = .ok (.bipush 13, 2) := by decide +kernel
theorem dX6_begin_5 : decode cX6_begin 5 = .ok (.if_icmp .ge 21, 3) := by decide +kernel
theorem dX6_begin_8 : decode cX6_begin 8 = .ok (.aload_n 0, 1) := by decide +kernel
theorem dX6_begin_9 : decode cX6_begin 9 = .ok (.getfield 13, 3) := by decide +kernel
theorem dX6_begin_12 : decode cX6_begin 12 = .ok (.iload_n 1, 1) := by decide +kernel
theorem dX6_begin_13 : decode cX6_begin 13 = .ok (.aload_n 0, 1) := by decide +kernel
theorem dX6_begin_14 : decode cX6_begin 14 = .ok (.getfield 16, 3) := by decide +kernel
theorem dX6_begin_17 : decode cX6_begin 17 = .ok (.iload_n 1, 1) := by decide +kernel
theorem dX6_begin_18 : decode cX6_begin 18 = .ok (.iaload, 1) := by decide +kernel
theorem dX6_begin_19 : decode cX6_begin 19 = .ok (.iastore, 1) := by decide +kernel
theorem dX6_begin_20 : decode cX6_begin 20 = .ok (.iinc 1 1, 3) := by decide +kernel
theorem dX6_begin_23 : decode cX6_begin 23 = .ok (.goto (-21), 3) := by decide +kernel
theorem dX6_begin_26 : decode cX6_begin 26 = .ok (.iconst 0, 1) := by decide +kernel
theorem dX6_begin_27 : decode cX6_begin 27 = .ok (.istore_n 1, 1) := by decide +kernel
theorem dX6_begin_28 : decode cX6_begin 28 = .ok (.iload_n 1, 1) := by decide +kernel
theorem dX6_begin_29 : decode cX6_begin 29 = .ok (.bipush 42, 2) := by decide +kernel
theorem dX6_begin_31 : decode cX6_begin 31 = .ok (.if_icmp .ge 21, 3) := by decide +kernel
theorem dX6_begin_34 : decode cX6_begin 34 = .ok (.aload_n 0, 1) := by decide +kernel
theorem dX6_begin_35 : decode cX6_begin 35 = .ok (.getfield 22, 3) := by decide +kernel
theorem dX6_begin_38 : decode cX6_begin 38 = .ok (.iload_n 1, 1) := by decide +kernel
theorem dX6_begin_39 : decode cX6_begin 39 = .ok (.aload_n 0, 1) := by decide +kernel
theorem dX6_begin_40 : decode cX6_begin 40 = .ok (.getfield 19, 3) := by decide +kernel
theorem dX6_begin_43 : decode cX6_begin 43 = .ok (.iload_n 1, 1) := by decide +kernel
theorem dX6_begin_44 : decode cX6_begin 44 = .ok (.iaload, 1) := by decide +kernel
theorem dX6_begin_45 : decode cX6_begin 45 = .ok (.iastore, 1) := by decide +kernel
theorem dX6_begin_46 : decode cX6_begin 46 = .ok (.iinc 1 1, 3) := by decide +kernel
theorem dX6_begin_49 : decode cX6_begin 49 = .ok (.goto (-21), 3) := by decide +kernel
theorem dX6_begin_52 : decode cX6_begin 52 = .ok (.aload_n 0, 1) := by decide +kernel
theorem dX6_begin_53 : decode cX6_begin 53 = .ok (.iconst 0, 1) := by decide +kernel
theorem dX6_begin_54 : decode cX6_begin 54 = .ok (.putfield 93, 3) := by decide +kernel
theorem dX6_begin_57 : decode cX6_begin 57 = .ok (.aload_n 0, 1) := by decide +kernel
theorem dX6_begin_58 : decode cX6_begin 58 = .ok (.iconst 0, 1) := by decide +kernel
theorem dX6_begin_59 : decode cX6_begin 59 = .ok (.putfield 96, 3) := by decide +kernel
theorem dX6_begin_62 : decode cX6_begin 62 = .ok (.aload_n 0, 1) := by decide +kernel
theorem dX6_begin_63 : decode cX6_begin 63 = .ok (.iconst 0, 1) := by decide +kernel
theorem dX6_begin_64 : decode cX6_begin 64 = .ok (.putfield 99, 3) := by decide +kernel
theorem dX6_begin_67 : decode cX6_begin 67 = .ok (.return_, 1) := by decide +kernel
set_option maxRecDepth 20000 in
theorem ggX6_isPerson_X6_in : GoodIn wsX6_isPerson wsX6_in := goodIn_r _ [5] (by decide +kernel) (by decide +kernel)
set_option maxRecDepth 20000 in
theorem gX6_isPerson_X6_in : GoodIn wsX6_isPerson (va_wsS RX6 57 yX6_in wsX6_in) := goodIn_app (goodIn_of _ (by decide +kernel)) ggX6_isPerson_X6_in
theorem dX6_isPerson_0 : decode cX6_isPerson 0 = .ok (.iload_n 1, 1) := by decide +kernel
theorem dX6_isPerson_1 : decode cX6_isPerson 1 = .ok (.i2l, 1) := by decide +kernel
theorem dX6_isPerson_2 : decode cX6_isPerson 2 = .ok (.lconst 0, 1) := by decide +kernel
theorem dX6_isPerson_3 : decode cX6_isPerson 3 = .ok (.aload_n 0, 1) := by decide +kernel
theorem dX6_isPerson_4 : decode cX6_isPerson 4 = .ok (.getfield 13, 3) := by decide +kernel
theorem dX6_isPerson_7 : decode cX6_isPerson 7 = .ok (.iconst 0, 1) := by decide +kernel
theorem dX6_isPerson_8 : decode cX6_isPerson 8 = .ok (.iaload, 1) := by decide +kernel
theorem dX6_isPerson_9 : decode cX6_isPerson 9 = .ok (.iconst 1, 1) := by decide +kernel
theorem dX6_isPerson_10 : decode cX6_isPerson 10 = .ok (.isub, 1) := by decide +kernel
theorem dX6_isPerson_11 : decode cX6_isPerson 11 = .ok (.i2l, 1) := by decide +kernel
theorem dX6_isPerson_12 : decode cX6_isPerson 12 = .ok (.invokestatic 57, 3) := by decide +kernel
theorem dX6_isPerson_15 : decode cX6_isPerson 15 = .ok (.ireturn, 1) := by decide +kernel
set_option maxRecDepth 20000 in
theorem ggX6_isGlove_X6_in : GoodIn wsX6_isGlove wsX6_in := goodIn_r _ [5] (by decide +kernel) (by decide +kernel)
set_option maxRecDepth 20000 in
theorem gX6_isGlove_X6_in : GoodIn wsX6_isGlove (va_wsS RX6 57 yX6_in wsX6_in) := goodIn_app (goodIn_of _ (by decide +kernel)) ggX6_isGlove_X6_in
theorem dX6_isGlove_0 : decode cX6_isGlove 0 = .ok (.iload_n 1, 1) := by decide +kernel
theorem dX6_isGlove_1 : decode cX6_isGlove 1 = .ok (.i2l, 1) := by decide +kernel
theorem dX6_isGlove_2 : decode cX6_isGlove 2 = .ok (.lconst 0, 1) := by decide +kernel
theorem dX6_isGlove_3 : decode cX6_isGlove 3 = .ok (.aload_n 0, 1) := by decide +kernel
theorem dX6_isGlove_4 : decode cX6_isGlove 4 = .ok (.getfield 22, 3) := by decide +kernel
theorem dX6_isGlove_7 : decode cX6_isGlove 7 = .ok (.iconst 2, 1) := by decide +kernel
theorem dX6_isGlove_8 : decode cX6_isGlove 8 = .ok (.iaload, 1) := by decide +kernel
theorem dX6_isGlove_9 : decode cX6_isGlove 9 = .ok (.iconst 1, 1) := by decide +kernel
theorem dX6_isGlove_10 : decode cX6_isGlove 10 = .ok (.isub, 1) := by decide +kernel
theorem dX6_isGlove_11 : decode cX6_isGlove 11 = .ok (.i2l, 1) := by decide +kernel
theorem dX6_isGlove_12 : decode cX6_isGlove 12 = .ok (.invokestatic 57, 3) := by decide +kernel
theorem dX6_isGlove_15 : decode cX6_isGlove 15 = .ok (.ireturn, 1) := by decide +kernel
theorem dX6_aside_0 : decode cX6_aside 0 = .ok (.iconst 0, 1) := by decide +kernel
theorem dX6_aside_1 : decode cX6_aside 1 = .ok (.istore_n 1, 1) := by decide +kernel
theorem dX6_aside_2 : decode cX6_aside 2 = .ok (.iload_n 1, 1) := by decide +kernel
theorem dX6_aside_3 : decode cX6_aside 3 = .ok (.bipush 42, 2) := by decide +kernel
theorem dX6_aside_5 : decode cX6_aside 5 = .ok (.if_icmp .ge 21, 3) := by decide +kernel
theorem dX6_aside_8 : decode cX6_aside 8 = .ok (.aload_n 0, 1) := by decide +kernel
theorem dX6_aside_9 : decode cX6_aside 9 = .ok (.getfield 25, 3) := by decide +kernel
theorem dX6_aside_12 : decode cX6_aside 12 = .ok (.iload_n 1, 1) := by decide +kernel
theorem dX6_aside_13 : decode cX6_aside 13 = .ok (.aload_n 0, 1) := by decide +kernel
theorem dX6_aside_14 : decode cX6_aside 14 = .ok (.getfield 22, 3) := by decide +kernel
theorem dX6_aside_17 : decode cX6_aside 17 = .ok (.iload_n 1, 1) := by decide +kernel
theorem dX6_aside_18 : decode cX6_aside 18 = .ok (.iaload, 1) := by decide +kernel
theorem dX6_aside_19 : decode cX6_aside 19 = .ok (.iastore, 1) := by decide +kernel
theorem dX6_aside_20 : decode cX6_aside 20 = .ok (.iinc 1 1, 3) := by decide +kernel
theorem dX6_aside_23 : decode cX6_aside 23 = .ok (.goto (-21), 3) := by decide +kernel
theorem dX6_aside_26 : decode cX6_aside 26 = .ok (.return_, 1) := by decide +kernel
theorem dX6_settle_0 : decode cX6_settle 0 = .ok (.iconst 0, 1) := by decide +kernel
theorem dX6_settle_1 : decode cX6_settle 1 = .ok (.istore_n 1, 1) := by decide +kernel
theorem dX6_settle_2 : decode cX6_settle 2 = .ok (.iload_n 1, 1) := by decide +kernel
theorem dX6_settle_3 : decode cX6_settle 3 = .ok (.bipush 42, 2) := by decide +kernel
theorem dX6_settle_5 : decode cX6_settle 5 = .ok (.if_icmp .ge 21, 3) := by decide +kernel
theorem dX6_settle_8 : decode cX6_settle 8 = .ok (.aload_n 0, 1) := by decide +kernel
theorem dX6_settle_9 : decode cX6_settle 9 = .ok (.getfield 22, 3) := by decide +kernel
theorem dX6_settle_12 : decode cX6_settle 12 = .ok (.iload_n 1, 1) := by decide +kernel
theorem dX6_settle_13 : decode cX6_settle 13 = .ok (.aload_n 0, 1) := by decide +kernel
theorem dX6_settle_14 : decode cX6_settle 14 = .ok (.getfield 25, 3) := by decide +kernel
theorem dX6_settle_17 : decode cX6_settle 17 = .ok (.iload_n 1, 1) := by decide +kernel
theorem dX6_settle_18 : decode cX6_settle 18 = .ok (.iaload, 1) := by decide +kernel
theorem dX6_settle_19 : decode cX6_settle 19 = .ok (.iastore, 1) := by decide +kernel
theorem dX6_settle_20 : decode cX6_settle 20 = .ok (.iinc 1 1, 3) := by decide +kernel
theorem dX6_settle_23 : decode cX6_settle 23 = .ok (.goto (-21), 3) := by decide +kernel
theorem dX6_settle_26 : decode cX6_settle 26 = .ok (.return_, 1) := by decide +kernel
theorem dX6_isLike_0 : decode cX6_isLike 0 = .ok (.iload_n 1, 1) := by decide +kernel
theorem dX6_isLike_1 : decode cX6_isLike 1 = .ok (.iconst 3, 1) := by decide +kernel
theorem dX6_isLike_2 : decode cX6_isLike 2 = .ok (.if_icmp .ne 11, 3) := by decide +kernel
theorem dX6_isLike_5 : decode cX6_isLike 5 = .ok (.iload_n 2, 1) := by decide +kernel
theorem dX6_isLike_6 : decode cX6_isLike 6 = .ok (.iload_n 3, 1) := by decide +kernel
theorem dX6_isLike_7 : decode cX6_isLike 7 = .ok (.iconst 5, 1) := by decide +kernel
theorem dX6_isLike_8 : decode cX6_isLike 8 = .ok (.idiv, 1) := by decide +kernel
theorem dX6_isLike_9 : decode cX6_isLike 9 = .ok (.isub, 1) := by decide +kernel
theorem dX6_isLike_10 : decode cX6_isLike 10 = .ok (.goto 4, 3) := by decide +kernel
theorem dX6_isLike_13 : decode cX6_isLike 13 = .ok (.iload_n 2, 1) := by decide +kernel
theorem dX6_isLike_14 : decode cX6_isLike 14 = .ok (.istore 4, 2) := by decide +kernel
theorem dX6_isLike_16 : decode cX6_isLike 16 = .ok (.iload_n 0, 1) := by decide +kernel
theorem dX6_isLike_17 : decode cX6_isLike 17 = .ok (.iload 4, 2) := by decide +kernel
theorem dX6_isLike_19 : decode cX6_isLike 19 = .ok (.if_icmp .eq 29, 3) := by decide +kernel
theorem dX6_isLike_22 : decode cX6_isLike 22 = .ok (.iload_n 1, 1) := by decide +kernel
theorem dX6_isLike_23 : decode cX6_isLike 23 = .ok (.iconst 2, 1) := by decide +kernel
theorem dX6_isLike_24 : decode cX6_isLike 24 = .ok (.if_icmp .eq 11, 3) := by decide +kernel
theorem dX6_isLike_27 : decode cX6_isLike 27 = .ok (.iload_n 0, 1) := by decide +kernel
theorem dX6_isLike_28 : decode cX6_isLike 28 = .ok (.iload 4, 2) := by decide +kernel
theorem dX6_isLike_30 : decode cX6_isLike 30 = .ok (.iconst 1, 1) := by decide +kernel
theorem dX6_isLike_31 : decode cX6_isLike 31 = .ok (.isub, 1) := by decide +kernel
theorem dX6_isLike_32 : decode cX6_isLike 32 = .ok (.if_icmp .eq 16, 3) := by decide +kernel
theorem dX6_isLike_35 : decode cX6_isLike 35 = .ok (.iload_n 1, 1) := by decide +kernel
theorem dX6_isLike_36 : decode cX6_isLike 36 = .ok (.iconst 1, 1) := by decide +kernel
theorem dX6_isLike_37 : decode cX6_isLike 37 = .ok (.if_icmp .ne 15, 3) := by decide +kernel
theorem dX6_isLike_40 : decode cX6_isLike 40 = .ok (.iload_n 0, 1) := by decide +kernel
theorem dX6_isLike_41 : decode cX6_isLike 41 = .ok (.iload 4, 2) := by decide +kernel
theorem dX6_isLike_43 : decode cX6_isLike 43 = .ok (.iconst 1, 1) := by decide +kernel
theorem dX6_isLike_44 : decode cX6_isLike 44 = .ok (.iadd, 1) := by decide +kernel
theorem dX6_isLike_45 : decode cX6_isLike 45 = .ok (.if_icmp .ne 7, 3) := by decide +kernel
theorem dX6_isLike_48 : decode cX6_isLike 48 = .ok (.iconst 1, 1) := by decide +kernel
theorem dX6_isLike_49 : decode cX6_isLike 49 = .ok (.goto 4, 3) := by decide +kernel
theorem dX6_isLike_52 : decode cX6_isLike 52 = .ok (.iconst 0, 1) := by decide +kernel
theorem dX6_isLike_53 : decode cX6_isLike 53 = .ok (.ireturn, 1) := by decide +kernel
set_option maxRecDepth 20000 in
theorem ggX6_isFit_X6_has : GoodIn wsX6_isFit wsX6_has := goodIn_r _ [6] (by decide +kernel) (by decide +kernel)
set_option maxRecDepth 20000 in
theorem gX6_isFit_X6_has : GoodIn wsX6_isFit (va_wsS RX6 102 yX6_has wsX6_has) := goodIn_app (goodIn_of _ (by decide +kernel)) ggX6_isFit_X6_has
set_option maxRecDepth 20000 in
theorem ggX6_isFit_X6_isLike : GoodIn wsX6_isFit wsX6_isLike := goodIn_r _ [9] (by decide +kernel) (by decide +kernel)
set_option maxRecDepth 20000 in
theorem gX6_isFit_X6_isLike : GoodIn wsX6_isFit (va_wsS RX6 106 yX6_isLike wsX6_isLike) := goodIn_app (goodIn_of _ (by decide +kernel)) ggX6_isFit_X6_isLike
theorem dX6_isFit_0 : decode cX6_isFit 0 = .ok (.aload_n 0, 1) := by decide +kernel
theorem dX6_isFit_1 : decode cX6_isFit 1 = .ok (.getfield 25, 3) := by decide +kernel
theorem dX6_isFit_4 : decode cX6_isFit 4 = .ok (.iconst 3, 1) := by decide +kernel
theorem dX6_isFit_5 : decode cX6_isFit 5 = .ok (.iaload, 1) := by decide +kernel
theorem dX6_isFit_6 : decode cX6_isFit 6 = .ok (.iload_n 1, 1) := by decide +kernel
theorem dX6_isFit_7 : decode cX6_isFit 7 = .ok (.invokestatic 102, 3) := by decide +kernel
theorem dX6_isFit_10 : decode cX6_isFit 10 = .ok (.ifCond .eq 72, 3) := by decide +kernel
theorem dX6_isFit_13 : decode cX6_isFit 13 = .ok (.aload_n 0, 1) := by decide +kernel
theorem dX6_isFit_14 : decode cX6_isFit 14 = .ok (.getfield 25, 3) := by decide +kernel
theorem dX6_isFit_17 : decode cX6_isFit 17 = .ok (.iconst 4, 1) := by decide +kernel
theorem dX6_isFit_18 : decode cX6_isFit 18 = .ok (.iload_n 2, 1) := by decide +kernel
theorem dX6_isFit_19 : decode cX6_isFit 19 = .ok (.iadd, 1) := by decide +kernel
theorem dX6_isFit_20 : decode cX6_isFit 20 = .ok (.iaload, 1) := by decide +kernel
theorem dX6_isFit_21 : decode cX6_isFit 21 = .ok (.ifCond .le 61, 3) := by decide +kernel
theorem dX6_isFit_24 : decode cX6_isFit 24 = .ok (.aload_n 0, 1) := by decide +kernel
theorem dX6_isFit_25 : decode cX6_isFit 25 = .ok (.getfield 25, 3) := by decide +kernel
theorem dX6_isFit_28 : decode cX6_isFit 28 = .ok (.bipush 26, 2) := by decide +kernel
theorem dX6_isFit_30 : decode cX6_isFit 30 = .ok (.iload_n 1, 1) := by decide +kernel
theorem dX6_isFit_31 : decode cX6_isFit 31 = .ok (.iadd, 1) := by decide +kernel
theorem dX6_isFit_32 : decode cX6_isFit 32 = .ok (.iaload, 1) := by decide +kernel
theorem dX6_isFit_33 : decode cX6_isFit 33 = .ok (.iload_n 2, 1) := by decide +kernel
theorem dX6_isFit_34 : decode cX6_isFit 34 = .ok (.if_icmp .eq 48, 3) := by decide +kernel
theorem dX6_isFit_37 : decode cX6_isFit 37 = .ok (.aload_n 0, 1) := by decide +kernel
theorem dX6_isFit_38 : decode cX6_isFit 38 = .ok (.getfield 13, 3) := by decide +kernel
theorem dX6_isFit_41 : decode cX6_isFit 41 = .ok (.iconst 1, 1) := by decide +kernel
theorem dX6_isFit_42 : decode cX6_isFit 42 = .ok (.iload_n 2, 1) := by decide +kernel
theorem dX6_isFit_43 : decode cX6_isFit 43 = .ok (.iadd, 1) := by decide +kernel
theorem dX6_isFit_44 : decode cX6_isFit 44 = .ok (.iaload, 1) := by decide +kernel
theorem dX6_isFit_45 : decode cX6_isFit 45 = .ok (.aload_n 0, 1) := by decide +kernel
theorem dX6_isFit_46 : decode cX6_isFit 46 = .ok (.getfield 25, 3) := by decide +kernel
theorem dX6_isFit_49 : decode cX6_isFit 49 = .ok (.bipush 10, 2) := by decide +kernel
theorem dX6_isFit_51 : decode cX6_isFit 51 = .ok (.iload_n 1, 1) := by decide +kernel
theorem dX6_isFit_52 : decode cX6_isFit 52 = .ok (.iadd, 1) := by decide +kernel
theorem dX6_isFit_53 : decode cX6_isFit 53 = .ok (.iaload, 1) := by decide +kernel
theorem dX6_isFit_54 : decode cX6_isFit 54 = .ok (.aload_n 0, 1) := by decide +kernel
theorem dX6_isFit_55 : decode cX6_isFit 55 = .ok (.getfield 25, 3) := by decide +kernel
theorem dX6_isFit_58 : decode cX6_isFit 58 = .ok (.bipush 18, 2) := by decide +kernel
theorem dX6_isFit_60 : decode cX6_isFit 60 = .ok (.iload_n 1, 1) := by decide +kernel
theorem dX6_isFit_61 : decode cX6_isFit 61 = .ok (.iadd, 1) := by decide +kernel
theorem dX6_isFit_62 : decode cX6_isFit 62 = .ok (.iaload, 1) := by decide +kernel
theorem dX6_isFit_63 : decode cX6_isFit 63 = .ok (.aload_n 0, 1) := by decide +kernel
theorem dX6_isFit_64 : decode cX6_isFit 64 = .ok (.getfield 25, 3) := by decide +kernel
theorem dX6_isFit_67 : decode cX6_isFit 67 = .ok (.bipush 34, 2) := by decide +kernel
theorem dX6_isFit_69 : decode cX6_isFit 69 = .ok (.iload_n 1, 1) := by decide +kernel
theorem dX6_isFit_70 : decode cX6_isFit 70 = .ok (.iadd, 1) := by decide +kernel
theorem dX6_isFit_71 : decode cX6_isFit 71 = .ok (.iaload, 1) := by decide +kernel
theorem dX6_isFit_72 : decode cX6_isFit 72 = .ok (.invokestatic 106, 3) := by decide +kernel
theorem dX6_isFit_75 : decode cX6_isFit 75 = .ok (.ifCond .eq 7, 3) := by decide +kernel
theorem dX6_isFit_78 : decode cX6_isFit 78 = .ok (.iconst 1, 1) := by decide +kernel
theorem dX6_isFit_79 : decode cX6_isFit 79 = .ok (.goto 4, 3) := by decide +kernel
theorem dX6_isFit_82 : decode cX6_isFit 82 = .ok (.iconst 0, 1) := by decide +kernel
theorem dX6_isFit_83 : decode cX6_isFit 83 = .ok (.ireturn, 1) := by decide +kernel
set_option maxRecDepth 20000 in
theorem ggX6_goWear_X6_left : GoodIn wsX6_goWear wsX6_left := goodIn_r _ [5] (by decide +kernel) (by decide +kernel)
set_option maxRecDepth 20000 in
theorem gX6_goWear_X6_left : GoodIn wsX6_goWear (va_wsS RX6 110 yX6_left wsX6_left) := goodIn_app (goodIn_of _ (by decide +kernel)) ggX6_goWear_X6_left
theorem dX6_goWear_0 : decode cX6_goWear 0 = .ok (.aload_n 0, 1) := by decide +kernel
theorem dX6_goWear_1 : decode cX6_goWear 1 = .ok (.getfield 25, 3) := by decide +kernel
theorem dX6_goWear_4 : decode cX6_goWear 4 = .ok (.bipush 26, 2) := by decide +kernel
theorem dX6_goWear_6 : decode cX6_goWear 6 = .ok (.iload_n 2, 1) := by decide +kernel
theorem dX6_goWear_7 : decode cX6_goWear 7 = .ok (.iadd, 1) := by decide +kernel
theorem dX6_goWear_8 : decode cX6_goWear 8 = .ok (.iaload, 1) := by decide +kernel
theorem dX6_goWear_9 : decode cX6_goWear 9 = .ok (.istore_n 3, 1) := by decide +kernel
theorem dX6_goWear_10 : decode cX6_goWear 10 = .ok (.aload_n 0, 1) := by decide +kernel
theorem dX6_goWear_11 : decode cX6_goWear 11 = .ok (.getfield 25, 3) := by decide +kernel
theorem dX6_goWear_14 : decode cX6_goWear 14 = .ok (.iconst 3, 1) := by decide +kernel
theorem dX6_goWear_15 : decode cX6_goWear 15 = .ok (.dup2, 1) := by decide +kernel
theorem dX6_goWear_16 : decode cX6_goWear 16 = .ok (.iaload, 1) := by decide +kernel
theorem dX6_goWear_17 : decode cX6_goWear 17 = .ok (.iconst 1, 1) := by decide +kernel
theorem dX6_goWear_18 : decode cX6_goWear 18 = .ok (.iload_n 2, 1) := by decide +kernel
theorem dX6_goWear_19 : decode cX6_goWear 19 = .ok (.ishl, 1) := by decide +kernel
theorem dX6_goWear_20 : decode cX6_goWear 20 = .ok (.iconst (-1), 1) := by decide +kernel
theorem dX6_goWear_21 : decode cX6_goWear 21 = .ok (.ixor, 1) := by decide +kernel
theorem dX6_goWear_22 : decode cX6_goWear 22 = .ok (.iand, 1) := by decide +kernel
theorem dX6_goWear_23 : decode cX6_goWear 23 = .ok (.iastore, 1) := by decide +kernel
theorem dX6_goWear_24 : decode cX6_goWear 24 = .ok (.aload_n 0, 1) := by decide +kernel
theorem dX6_goWear_25 : decode cX6_goWear 25 = .ok (.getfield 25, 3) := by decide +kernel
theorem dX6_goWear_28 : decode cX6_goWear 28 = .ok (.iconst 4, 1) := by decide +kernel
theorem dX6_goWear_29 : decode cX6_goWear 29 = .ok (.iload_n 1, 1) := by decide +kernel
theorem dX6_goWear_30 : decode cX6_goWear 30 = .ok (.iadd, 1) := by decide +kernel
theorem dX6_goWear_31 : decode cX6_goWear 31 = .ok (.iaload, 1) := by decide +kernel
theorem dX6_goWear_32 : decode cX6_goWear 32 = .ok (.istore 4, 2) := by decide +kernel
theorem dX6_goWear_34 : decode cX6_goWear 34 = .ok (.aload_n 0, 1) := by decide +kernel
theorem dX6_goWear_35 : decode cX6_goWear 35 = .ok (.getfield 25, 3) := by decide +kernel
theorem dX6_goWear_38 : decode cX6_goWear 38 = .ok (.iconst 4, 1) := by decide +kernel
theorem dX6_goWear_39 : decode cX6_goWear 39 = .ok (.iload_n 3, 1) := by decide +kernel
theorem dX6_goWear_40 : decode cX6_goWear 40 = .ok (.iadd, 1) := by decide +kernel
theorem dX6_goWear_41 : decode cX6_goWear 41 = .ok (.iaload, 1) := by decide +kernel
theorem dX6_goWear_42 : decode cX6_goWear 42 = .ok (.istore 5, 2) := by decide +kernel
theorem dX6_goWear_44 : decode cX6_goWear 44 = .ok (.iload 5, 2) := by decide +kernel
theorem dX6_goWear_46 : decode cX6_goWear 46 = .ok (.ifCond .ne 4, 3) := by decide +kernel
theorem dX6_goWear_49 : decode cX6_goWear 49 = .ok (.return_, 1) := by decide +kernel
theorem dX6_goWear_50 : decode cX6_goWear 50 = .ok (.aload_n 0, 1) := by decide +kernel
theorem dX6_goWear_51 : decode cX6_goWear 51 = .ok (.getfield 25, 3) := by decide +kernel
theorem dX6_goWear_54 : decode cX6_goWear 54 = .ok (.iconst 1, 1) := by decide +kernel
theorem dX6_goWear_55 : decode cX6_goWear 55 = .ok (.dup2, 1) := by decide +kernel
theorem dX6_goWear_56 : decode cX6_goWear 56 = .ok (.iaload, 1) := by decide +kernel
theorem dX6_goWear_57 : decode cX6_goWear 57 = .ok (.iconst 1, 1) := by decide +kernel
theorem dX6_goWear_58 : decode cX6_goWear 58 = .ok (.iadd, 1) := by decide +kernel
theorem dX6_goWear_59 : decode cX6_goWear 59 = .ok (.iastore, 1) := by decide +kernel
theorem dX6_goWear_60 : decode cX6_goWear 60 = .ok (.aload_n 0, 1) := by decide +kernel
theorem dX6_goWear_61 : decode cX6_goWear 61 = .ok (.getfield 25, 3) := by decide +kernel
theorem dX6_goWear_64 : decode cX6_goWear 64 = .ok (.iconst 4, 1) := by decide +kernel
theorem dX6_goWear_65 : decode cX6_goWear 65 = .ok (.iload_n 1, 1) := by decide +kernel
theorem dX6_goWear_66 : decode cX6_goWear 66 = .ok (.iadd, 1) := by decide +kernel
theorem dX6_goWear_67 : decode cX6_goWear 67 = .ok (.iload 4, 2) := by decide +kernel
theorem dX6_goWear_69 : decode cX6_goWear 69 = .ok (.iload 5, 2) := by decide +kernel
theorem dX6_goWear_71 : decode cX6_goWear 71 = .ok (.if_icmp .le 13, 3) := by decide +kernel
theorem dX6_goWear_74 : decode cX6_goWear 74 = .ok (.iload 4, 2) := by decide +kernel
theorem dX6_goWear_76 : decode cX6_goWear 76 = .ok (.iload 5, 2) := by decide +kernel
theorem dX6_goWear_78 : decode cX6_goWear 78 = .ok (.invokestatic 110, 3) := by decide +kernel
theorem dX6_goWear_81 : decode cX6_goWear 81 = .ok (.goto 4, 3) := by decide +kernel
theorem dX6_goWear_84 : decode cX6_goWear 84 = .ok (.iconst 0, 1) := by decide +kernel
theorem dX6_goWear_85 : decode cX6_goWear 85 = .ok (.iastore, 1) := by decide +kernel
theorem dX6_goWear_86 : decode cX6_goWear 86 = .ok (.aload_n 0, 1) := by decide +kernel
theorem dX6_goWear_87 : decode cX6_goWear 87 = .ok (.getfield 25, 3) := by decide +kernel
theorem dX6_goWear_90 : decode cX6_goWear 90 = .ok (.iconst 4, 1) := by decide +kernel
theorem dX6_goWear_91 : decode cX6_goWear 91 = .ok (.iload_n 3, 1) := by decide +kernel
theorem dX6_goWear_92 : decode cX6_goWear 92 = .ok (.iadd, 1) := by decide +kernel
theorem dX6_goWear_93 : decode cX6_goWear 93 = .ok (.iload 5, 2) := by decide +kernel
theorem dX6_goWear_95 : decode cX6_goWear 95 = .ok (.iload 4, 2) := by decide +kernel
theorem dX6_goWear_97 : decode cX6_goWear 97 = .ok (.if_icmp .le 13, 3) := by decide +kernel
theorem dX6_goWear_100 : decode cX6_goWear 100 = .ok (.iload 5, 2) := by decide +kernel
theorem dX6_goWear_102 : decode cX6_goWear 102 = .ok (.iload 4, 2) := by decide +kernel
theorem dX6_goWear_104 : decode cX6_goWear 104 = .ok (.invokestatic 110, 3) := by decide +kernel
theorem dX6_goWear_107 : decode cX6_goWear 107 = .ok (.goto 4, 3) := by decide +kernel
theorem dX6_goWear_110 : decode cX6_goWear 110 = .ok (.iconst 0, 1) := by decide +kernel
theorem dX6_goWear_111 : decode cX6_goWear 111 = .ok (.iastore, 1) := by decide +kernel
theorem dX6_goWear_112 : decode cX6_goWear 112 = .ok (.return_, 1) := by decide +kernel
theorem dX6_left_0 : decode cX6_left 0 = .ok (.iload_n 0, 1) := by decide +kernel
theorem dX6_left_1 : decode cX6_left 1 = .ok (.iload_n 1, 1) := by decide +kernel
theorem dX6_left_2 : decode cX6_left 2 = .ok (.iconst 2, 1) := by decide +kernel
theorem dX6_left_3 : decode cX6_left 3 = .ok (.idiv, 1) := by decide +kernel
theorem dX6_left_4 : decode cX6_left 4 = .ok (.isub, 1) := by decide +kernel
theorem dX6_left_5 : decode cX6_left 5 = .ok (.istore_n 2, 1) := by decide +kernel
theorem dX6_left_6 : decode cX6_left 6 = .ok (.iload_n 2, 1) := by decide +kernel
theorem dX6_left_7 : decode cX6_left 7 = .ok (.iconst 1, 1) := by decide +kernel
theorem dX6_left_8 : decode cX6_left 8 = .ok (.if_icmp .ge 7, 3) := by decide +kernel
theorem dX6_left_11 : decode cX6_left 11 = .ok (.iconst 1, 1) := by decide +kernel
theorem dX6_left_12 : decode cX6_left 12 = .ok (.goto 4, 3) := by decide +kernel
theorem dX6_left_15 : decode cX6_left 15 = .ok (.iload_n 2, 1) := by decide +kernel
theorem dX6_left_16 : decode cX6_left 16 = .ok (.ireturn, 1) := by decide +kernel
set_option maxRecDepth 20000 in
theorem ggX6_lowestFit_X6_isFit : GoodIn wsX6_lowestFit wsX6_isFit := goodIn_r _ [5, 6, 7, 8, 9, 4, 10, 11, 12, 13, 14, 15, 16, 17, 18, 19, 20, 21, 22, 23, 24, 25, 26, 27, 28] (by decide +kernel) (by decide +kernel)
set_option maxRecDepth 20000 in
theorem gX6_lowestFit_X6_isFit : GoodIn wsX6_lowestFit (wsV RX6 114 RX6 yX6_isFit wsX6_isFit) := goodIn_app (goodIn_of _ (by decide +kernel)) ggX6_lowestFit_X6_isFit
theorem dX6_lowestFit_0 : decode cX6_lowestFit 0 = .ok (.bipush (-4), 2) := by decide +kernel
theorem dX6_lowestFit_2 : decode cX6_lowestFit 2 = .ok (.istore_n 2, 1) := by decide +kernel
theorem dX6_lowestFit_3 : decode cX6_lowestFit 3 = .ok (.bipush 7, 2) := by decide +kernel
theorem dX6_lowestFit_5 : decode cX6_lowestFit 5 = .ok (.istore_n 3, 1) := by decide +kernel
theorem dX6_lowestFit_6 : decode cX6_lowestFit 6 = .ok (.iload_n 3, 1) := by decide +kernel
theorem dX6_lowestFit_7 : decode cX6_lowestFit 7 = .ok (.ifCond .lt 24, 3) := by decide +kernel
theorem dX6_lowestFit_10 : decode cX6_lowestFit 10 = .ok (.aload_n 0, 1) := by decide +kernel
theorem dX6_lowestFit_11 : decode cX6_lowestFit 11 = .ok (.iload_n 3, 1) := by decide +kernel
theorem dX6_lowestFit_12 : decode cX6_lowestFit 12 = .ok (.iload_n 1, 1) := by decide +kernel
theorem dX6_lowestFit_13 : decode cX6_lowestFit 13 = .ok (.invokevirtual 114, 3) := by decide +kernel
theorem dX6_lowestFit_16 : decode cX6_lowestFit 16 = .ok (.ifCond .eq 7, 3) := by decide +kernel
theorem dX6_lowestFit_19 : decode cX6_lowestFit 19 = .ok (.iload_n 3, 1) := by decide +kernel
theorem dX6_lowestFit_20 : decode cX6_lowestFit 20 = .ok (.goto 4, 3) := by decide +kernel
theorem dX6_lowestFit_23 : decode cX6_lowestFit 23 = .ok (.iload_n 2, 1) := by decide +kernel
theorem dX6_lowestFit_24 : decode cX6_lowestFit 24 = .ok (.istore_n 2, 1) := by decide +kernel
theorem dX6_lowestFit_25 : decode cX6_lowestFit 25 = .ok (.iinc 3 (-1), 3) := by decide +kernel
theorem dX6_lowestFit_28 : decode cX6_lowestFit 28 = .ok (.goto (-22), 3) := by decide +kernel
theorem dX6_lowestFit_31 : decode cX6_lowestFit 31 = .ok (.iload_n 2, 1) := by decide +kernel
theorem dX6_lowestFit_32 : decode cX6_lowestFit 32 = .ok (.ireturn, 1) := by decide +kernel
set_option maxRecDepth 20000 in
theorem ggX6_goReign_X6_lowestFit : GoodIn wsX6_goReign wsX6_lowestFit := goodIn_r _ [7, 8, 9, 10, 6, 11, 2, 1, 12, 13, 14, 15, 16, 17, 25, 26, 27, 28, 29, 30, 31, 32, 33, 34, 35, 36, 37, 38, 39] (by decide +kernel) (by decide +kernel)
set_option maxRecDepth 20000 in
theorem gX6_goReign_X6_lowestFit : GoodIn wsX6_goReign (wsV RX6 117 RX6 yX6_lowestFit wsX6_lowestFit) := goodIn_app (goodIn_of _ (by decide +kernel)) ggX6_goReign_X6_lowestFit
set_option maxRecDepth 20000 in
theorem ggX6_goReign_X6_goWear : GoodIn wsX6_goReign wsX6_goWear := goodIn_r _ [21, 2, 22, 23, 6, 24, 25, 26, 27, 28, 29, 30, 31, 32, 33, 34, 35, 36, 37, 38, 39] (by decide +kernel) (by decide +kernel)
set_option maxRecDepth 20000 in
theorem gX6_goReign_X6_goWear : GoodIn wsX6_goReign (wsV RX6 120 RX6 yX6_goWear wsX6_goWear) := goodIn_app (goodIn_of _ (by decide +kernel)) ggX6_goReign_X6_goWear
set_option maxRecDepth 20000 in
theorem ggX6_goReign_X6_has : GoodIn wsX6_goReign wsX6_has := goodIn_r _ [14] (by decide +kernel) (by decide +kernel)
set_option maxRecDepth 20000 in
theorem gX6_goReign_X6_has : GoodIn wsX6_goReign (va_wsS RX6 102 yX6_has wsX6_has) := goodIn_app (goodIn_of _ (by decide +kernel)) ggX6_goReign_X6_has
theorem dX6_goReign_0 : decode cX6_goReign 0 = .ok (.iconst 0, 1) := by decide +kernel
theorem dX6_goReign_1 : decode cX6_goReign 1 = .ok (.istore_n 1, 1) := by decide +kernel
theorem dX6_goReign_2 : decode cX6_goReign 2 = .ok (.iload_n 1, 1) := by decide +kernel
theorem dX6_goReign_3 : decode cX6_goReign 3 = .ok (.aload_n 0, 1) := by decide +kernel
theorem dX6_goReign_4 : decode cX6_goReign 4 = .ok (.getfield 13, 3) := by decide +kernel
theorem dX6_goReign_7 : decode cX6_goReign 7 = .ok (.iconst 0, 1) := by decide +kernel
theorem dX6_goReign_8 : decode cX6_goReign 8 = .ok (.iaload, 1) := by decide +kernel
theorem dX6_goReign_9 : decode cX6_goReign 9 = .ok (.if_icmp .ge 45, 3) := by decide +kernel
theorem dX6_goReign_12 : decode cX6_goReign 12 = .ok (.aload_n 0, 1) := by decide +kernel
theorem dX6_goReign_13 : decode cX6_goReign 13 = .ok (.getfield 13, 3) := by decide +kernel
theorem dX6_goReign_16 : decode cX6_goReign 16 = .ok (.bipush 7, 2) := by decide +kernel
theorem dX6_goReign_18 : decode cX6_goReign 18 = .ok (.iload_n 1, 1) := by decide +kernel
theorem dX6_goReign_19 : decode cX6_goReign 19 = .ok (.iadd, 1) := by decide +kernel
theorem dX6_goReign_20 : decode cX6_goReign 20 = .ok (.iaload, 1) := by decide +kernel
theorem dX6_goReign_21 : decode cX6_goReign 21 = .ok (.iconst 1, 1) := by decide +kernel
theorem dX6_goReign_22 : decode cX6_goReign 22 = .ok (.if_icmp .ne 11, 3) := by decide +kernel
theorem dX6_goReign_25 : decode cX6_goReign 25 = .ok (.aload_n 0, 1) := by decide +kernel
theorem dX6_goReign_26 : decode cX6_goReign 26 = .ok (.iload_n 1, 1) := by decide +kernel
theorem dX6_goReign_27 : decode cX6_goReign 27 = .ok (.invokevirtual 117, 3) := by decide +kernel
theorem dX6_goReign_30 : decode cX6_goReign 30 = .ok (.goto 5, 3) := by decide +kernel
theorem dX6_goReign_33 : decode cX6_goReign 33 = .ok (.bipush (-4), 2) := by decide +kernel
theorem dX6_goReign_35 : decode cX6_goReign 35 = .ok (.istore_n 2, 1) := by decide +kernel
theorem dX6_goReign_36 : decode cX6_goReign 36 = .ok (.iload_n 2, 1) := by decide +kernel
theorem dX6_goReign_37 : decode cX6_goReign 37 = .ok (.bipush (-4), 2) := by decide +kernel
theorem dX6_goReign_39 : decode cX6_goReign 39 = .ok (.if_icmp .eq 9, 3) := by decide +kernel
theorem dX6_goReign_42 : decode cX6_goReign 42 = .ok (.aload_n 0, 1) := by decide +kernel
theorem dX6_goReign_43 : decode cX6_goReign 43 = .ok (.iload_n 1, 1) := by decide +kernel
theorem dX6_goReign_44 : decode cX6_goReign 44 = .ok (.iload_n 2, 1) := by decide +kernel
theorem dX6_goReign_45 : decode cX6_goReign 45 = .ok (.invokevirtual 120, 3) := by decide +kernel
theorem dX6_goReign_48 : decode cX6_goReign 48 = .ok (.iinc 1 1, 3) := by decide +kernel
theorem dX6_goReign_51 : decode cX6_goReign 51 = .ok (.goto (-49), 3) := by decide +kernel
theorem dX6_goReign_54 : decode cX6_goReign 54 = .ok (.iconst 0, 1) := by decide +kernel
theorem dX6_goReign_55 : decode cX6_goReign 55 = .ok (.istore_n 1, 1) := by decide +kernel
theorem dX6_goReign_56 : decode cX6_goReign 56 = .ok (.iload_n 1, 1) := by decide +kernel
theorem dX6_goReign_57 : decode cX6_goReign 57 = .ok (.aload_n 0, 1) := by decide +kernel
theorem dX6_goReign_58 : decode cX6_goReign 58 = .ok (.getfield 25, 3) := by decide +kernel
theorem dX6_goReign_61 : decode cX6_goReign 61 = .ok (.iconst 2, 1) := by decide +kernel
theorem dX6_goReign_62 : decode cX6_goReign 62 = .ok (.iaload, 1) := by decide +kernel
theorem dX6_goReign_63 : decode cX6_goReign 63 = .ok (.if_icmp .ge 39, 3) := by decide +kernel
theorem dX6_goReign_66 : decode cX6_goReign 66 = .ok (.aload_n 0, 1) := by decide +kernel
theorem dX6_goReign_67 : decode cX6_goReign 67 = .ok (.getfield 25, 3) := by decide +kernel
theorem dX6_goReign_70 : decode cX6_goReign 70 = .ok (.bipush 34, 2) := by decide +kernel
theorem dX6_goReign_72 : decode cX6_goReign 72 = .ok (.iload_n 1, 1) := by decide +kernel
theorem dX6_goReign_73 : decode cX6_goReign 73 = .ok (.iadd, 1) := by decide +kernel
theorem dX6_goReign_74 : decode cX6_goReign 74 = .ok (.dup2, 1) := by decide +kernel
theorem dX6_goReign_75 : decode cX6_goReign 75 = .ok (.iaload, 1) := by decide +kernel
theorem dX6_goReign_76 : decode cX6_goReign 76 = .ok (.aload_n 0, 1) := by decide +kernel
theorem dX6_goReign_77 : decode cX6_goReign 77 = .ok (.getfield 25, 3) := by decide +kernel
theorem dX6_goReign_80 : decode cX6_goReign 80 = .ok (.iconst 3, 1) := by decide +kernel
theorem dX6_goReign_81 : decode cX6_goReign 81 = .ok (.iaload, 1) := by decide +kernel
theorem dX6_goReign_82 : decode cX6_goReign 82 = .ok (.iload_n 1, 1) := by decide +kernel
theorem dX6_goReign_83 : decode cX6_goReign 83 = .ok (.invokestatic 102, 3) := by decide +kernel
theorem dX6_goReign_86 : decode cX6_goReign 86 = .ok (.ifCond .eq 7, 3) := by decide +kernel
theorem dX6_goReign_89 : decode cX6_goReign 89 = .ok (.iconst 1, 1) := by decide +kernel
theorem dX6_goReign_90 : decode cX6_goReign 90 = .ok (.goto 4, 3) := by decide +kernel
theorem dX6_goReign_93 : decode cX6_goReign 93 = .ok (.iconst 0, 1) := by decide +kernel
theorem dX6_goReign_94 : decode cX6_goReign 94 = .ok (.iadd, 1) := by decide +kernel
theorem dX6_goReign_95 : decode cX6_goReign 95 = .ok (.iastore, 1) := by decide +kernel
theorem dX6_goReign_96 : decode cX6_goReign 96 = .ok (.iinc 1 1, 3) := by decide +kernel
theorem dX6_goReign_99 : decode cX6_goReign 99 = .ok (.goto (-43), 3) := by decide +kernel
theorem dX6_goReign_102 : decode cX6_goReign 102 = .ok (.aload_n 0, 1) := by decide +kernel
theorem dX6_goReign_103 : decode cX6_goReign 103 = .ok (.getfield 25, 3) := by decide +kernel
theorem dX6_goReign_106 : decode cX6_goReign 106 = .ok (.iconst 0, 1) := by decide +kernel
theorem dX6_goReign_107 : decode cX6_goReign 107 = .ok (.dup2, 1) := by decide +kernel
theorem dX6_goReign_108 : decode cX6_goReign 108 = .ok (.iaload, 1) := by decide +kernel
theorem dX6_goReign_109 : decode cX6_goReign 109 = .ok (.iconst 1, 1) := by decide +kernel
theorem dX6_goReign_110 : decode cX6_goReign 110 = .ok (.iadd, 1) := by decide +kernel
theorem dX6_goReign_111 : decode cX6_goReign 111 = .ok (.iastore, 1) := by decide +kernel
theorem dX6_goReign_112 : decode cX6_goReign 112 = .ok (.return_, 1) := by decide +kernel
set_option maxRecDepth 20000 in
theorem ggX6_goReigns_X6_goReign : GoodIn wsX6_goReigns wsX6_goReign := goodIn_r _ [5, 6, 7, 8, 9, 10, 4, 11, 12, 13, 14, 15, 16, 17, 18, 19, 20, 21, 22, 23, 24, 25, 26, 27, 28, 29, 30, 31, 32, 33, 34, 35, 36, 37, 38, 39, 40, 41, 42, 43] (by decide +kernel) (by decide +kernel)
set_option maxRecDepth 20000 in
theorem gX6_goReigns_X6_goReign : GoodIn wsX6_goReigns (wsV RX6 124 RX6 yX6_goReign wsX6_goReign) := goodIn_app (goodIn_of _ (by decide +kernel)) ggX6_goReigns_X6_goReign
theorem dX6_goReigns_0 : decode cX6_goReigns 0 = .ok (.iconst 0, 1) := by decide +kernel
theorem dX6_goReigns_1 : decode cX6_goReigns 1 = .ok (.istore_n 2, 1) := by decide +kernel
theorem dX6_goReigns_2 : decode cX6_goReigns 2 = .ok (.iload_n 2, 1) := by decide +kernel
theorem dX6_goReigns_3 : decode cX6_goReigns 3 = .ok (.iload_n 1, 1) := by decide +kernel
theorem dX6_goReigns_4 : decode cX6_goReigns 4 = .ok (.if_icmp .ge 13, 3) := by decide +kernel
theorem dX6_goReigns_7 : decode cX6_goReigns 7 = .ok (.aload_n 0, 1) := by decide +kernel
theorem dX6_goReigns_8 : decode cX6_goReigns 8 = .ok (.invokevirtual 124, 3) := by decide +kernel
theorem dX6_goReigns_11 : decode cX6_goReigns 11 = .ok (.iinc 2 1, 3) := by decide +kernel
theorem dX6_goReigns_14 : decode cX6_goReigns 14 = .ok (.goto (-12), 3) := by decide +kernel
theorem dX6_goReigns_17 : decode cX6_goReigns 17 = .ok (.return_, 1) := by decide +kernel
theorem dX6_lays_0 : decode cX6_lays 0 = .ok (.aload_n 0, 1) := by decide +kernel
theorem dX6_lays_1 : decode cX6_lays 1 = .ok (.getfield 25, 3) := by decide +kernel
theorem dX6_lays_4 : decode cX6_lays 4 = .ok (.bipush 10, 2) := by decide +kernel
theorem dX6_lays_6 : decode cX6_lays 6 = .ok (.iload_n 1, 1) := by decide +kernel
theorem dX6_lays_7 : decode cX6_lays 7 = .ok (.iadd, 1) := by decide +kernel
theorem dX6_lays_8 : decode cX6_lays 8 = .ok (.iload_n 2, 1) := by decide +kernel
theorem dX6_lays_9 : decode cX6_lays 9 = .ok (.iastore, 1) := by decide +kernel
theorem dX6_lays_10 : decode cX6_lays 10 = .ok (.aload_n 0, 1) := by decide +kernel
theorem dX6_lays_11 : decode cX6_lays 11 = .ok (.getfield 25, 3) := by decide +kernel
theorem dX6_lays_14 : decode cX6_lays 14 = .ok (.bipush 18, 2) := by decide +kernel
theorem dX6_lays_16 : decode cX6_lays 16 = .ok (.iload_n 1, 1) := by decide +kernel
theorem dX6_lays_17 : decode cX6_lays 17 = .ok (.iadd, 1) := by decide +kernel
theorem dX6_lays_18 : decode cX6_lays 18 = .ok (.iload_n 3, 1) := by decide +kernel
theorem dX6_lays_19 : decode cX6_lays 19 = .ok (.iastore, 1) := by decide +kernel
theorem dX6_lays_20 : decode cX6_lays 20 = .ok (.aload_n 0, 1) := by decide +kernel
theorem dX6_lays_21 : decode cX6_lays 21 = .ok (.getfield 25, 3) := by decide +kernel
theorem dX6_lays_24 : decode cX6_lays 24 = .ok (.bipush 26, 2) := by decide +kernel
theorem dX6_lays_26 : decode cX6_lays 26 = .ok (.iload_n 1, 1) := by decide +kernel
theorem dX6_lays_27 : decode cX6_lays 27 = .ok (.iadd, 1) := by decide +kernel
theorem dX6_lays_28 : decode cX6_lays 28 = .ok (.iload 4, 2) := by decide +kernel
theorem dX6_lays_30 : decode cX6_lays 30 = .ok (.iastore, 1) := by decide +kernel
theorem dX6_lays_31 : decode cX6_lays 31 = .ok (.aload_n 0, 1) := by decide +kernel
theorem dX6_lays_32 : decode cX6_lays 32 = .ok (.getfield 25, 3) := by decide +kernel
theorem dX6_lays_35 : decode cX6_lays 35 = .ok (.bipush 34, 2) := by decide +kernel
theorem dX6_lays_37 : decode cX6_lays 37 = .ok (.iload_n 1, 1) := by decide +kernel
theorem dX6_lays_38 : decode cX6_lays 38 = .ok (.iadd, 1) := by decide +kernel
theorem dX6_lays_39 : decode cX6_lays 39 = .ok (.iconst 0, 1) := by decide +kernel
theorem dX6_lays_40 : decode cX6_lays 40 = .ok (.iastore, 1) := by decide +kernel
theorem dX6_lays_41 : decode cX6_lays 41 = .ok (.aload_n 0, 1) := by decide +kernel
theorem dX6_lays_42 : decode cX6_lays 42 = .ok (.getfield 25, 3) := by decide +kernel
theorem dX6_lays_45 : decode cX6_lays 45 = .ok (.iconst 3, 1) := by decide +kernel
theorem dX6_lays_46 : decode cX6_lays 46 = .ok (.dup2, 1) := by decide +kernel
theorem dX6_lays_47 : decode cX6_lays 47 = .ok (.iaload, 1) := by decide +kernel
theorem dX6_lays_48 : decode cX6_lays 48 = .ok (.iconst 1, 1) := by decide +kernel
theorem dX6_lays_49 : decode cX6_lays 49 = .ok (.iload_n 1, 1) := by decide +kernel
theorem dX6_lays_50 : decode cX6_lays 50 = .ok (.ishl, 1) := by decide +kernel
theorem dX6_lays_51 : decode cX6_lays 51 = .ok (.ior, 1) := by decide +kernel
theorem dX6_lays_52 : decode cX6_lays 52 = .ok (.iastore, 1) := by decide +kernel
theorem dX6_lays_53 : decode cX6_lays 53 = .ok (.return_, 1) := by decide +kernel
set_option maxRecDepth 20000 in
theorem ggX6_person_X6_isPerson : GoodIn wsX6_person wsX6_isPerson := goodIn_r _ [8, 2, 9, 10, 7, 11, 12, 13, 14, 15, 16, 17, 18, 19, 20, 21, 22, 23, 24, 25, 26] (by decide +kernel) (by decide +kernel)
set_option maxRecDepth 20000 in
theorem gX6_person_X6_isPerson : GoodIn wsX6_person (wsV RX6 127 RX6 yX6_isPerson wsX6_isPerson) := goodIn_app (goodIn_of _ (by decide +kernel)) ggX6_person_X6_isPerson
set_option maxRecDepth 20000 in
theorem ggX6_person_X6_in : GoodIn wsX6_person wsX6_in := goodIn_r _ [11] (by decide +kernel) (by decide +kernel)
set_option maxRecDepth 20000 in
theorem gX6_person_X6_in : GoodIn wsX6_person (va_wsS RX6 57 yX6_in wsX6_in) := goodIn_app (goodIn_of _ (by decide +kernel)) ggX6_person_X6_in
theorem dX6_person_0 : decode cX6_person 0 = .ok (.aload_n 0, 1) := by decide +kernel
theorem dX6_person_1 : decode cX6_person 1 = .ok (.iload_n 1, 1) := by decide +kernel
theorem dX6_person_2 : decode cX6_person 2 = .ok (.invokevirtual 127, 3) := by decide +kernel
theorem dX6_person_5 : decode cX6_person 5 = .ok (.ifCond .eq 15, 3) := by decide +kernel
theorem dX6_person_8 : decode cX6_person 8 = .ok (.iload_n 2, 1) := by decide +kernel
theorem dX6_person_9 : decode cX6_person 9 = .ok (.i2l, 1) := by decide +kernel
theorem dX6_person_10 : decode cX6_person 10 = .ok (.lconst 0, 1) := by decide +kernel
theorem dX6_person_11 : decode cX6_person 11 = .ok (.ldc2_w 76, 3) := by decide +kernel
theorem dX6_person_14 : decode cX6_person 14 = .ok (.invokestatic 57, 3) := by decide +kernel
theorem dX6_person_17 : decode cX6_person 17 = .ok (.ifCond .ne 5, 3) := by decide +kernel
theorem dX6_person_20 : decode cX6_person 20 = .ok (.iconst (-1), 1) := by decide +kernel
theorem dX6_person_21 : decode cX6_person 21 = .ok (.ireturn, 1) := by decide +kernel
theorem dX6_person_22 : decode cX6_person 22 = .ok (.iload_n 2, 1) := by decide +kernel
theorem dX6_person_23 : decode cX6_person 23 = .ok (.ifCond .ne 14, 3) := by decide +kernel
theorem dX6_person_26 : decode cX6_person 26 = .ok (.aload_n 0, 1) := by decide +kernel
theorem dX6_person_27 : decode cX6_person 27 = .ok (.getfield 13, 3) := by decide +kernel
theorem dX6_person_30 : decode cX6_person 30 = .ok (.iconst 1, 1) := by decide +kernel
theorem dX6_person_31 : decode cX6_person 31 = .ok (.iload_n 1, 1) := by decide +kernel
theorem dX6_person_32 : decode cX6_person 32 = .ok (.iadd, 1) := by decide +kernel
theorem dX6_person_33 : decode cX6_person 33 = .ok (.iaload, 1) := by decide +kernel
theorem dX6_person_34 : decode cX6_person 34 = .ok (.goto 28, 3) := by decide +kernel
theorem dX6_person_37 : decode cX6_person 37 = .ok (.iload_n 2, 1) := by decide +kernel
theorem dX6_person_38 : decode cX6_person 38 = .ok (.iconst 1, 1) := by decide +kernel
theorem dX6_person_39 : decode cX6_person 39 = .ok (.if_icmp .ne 14, 3) := by decide +kernel
theorem dX6_person_42 : decode cX6_person 42 = .ok (.aload_n 0, 1) := by decide +kernel
theorem dX6_person_43 : decode cX6_person 43 = .ok (.getfield 22, 3) := by decide +kernel
theorem dX6_person_46 : decode cX6_person 46 = .ok (.iconst 4, 1) := by decide +kernel
theorem dX6_person_47 : decode cX6_person 47 = .ok (.iload_n 1, 1) := by decide +kernel
theorem dX6_person_48 : decode cX6_person 48 = .ok (.iadd, 1) := by decide +kernel
theorem dX6_person_49 : decode cX6_person 49 = .ok (.iaload, 1) := by decide +kernel
theorem dX6_person_50 : decode cX6_person 50 = .ok (.goto 12, 3) := by decide +kernel
theorem dX6_person_53 : decode cX6_person 53 = .ok (.aload_n 0, 1) := by decide +kernel
theorem dX6_person_54 : decode cX6_person 54 = .ok (.getfield 13, 3) := by decide +kernel
theorem dX6_person_57 : decode cX6_person 57 = .ok (.bipush 7, 2) := by decide +kernel
theorem dX6_person_59 : decode cX6_person 59 = .ok (.iload_n 1, 1) := by decide +kernel
theorem dX6_person_60 : decode cX6_person 60 = .ok (.iadd, 1) := by decide +kernel
theorem dX6_person_61 : decode cX6_person 61 = .ok (.iaload, 1) := by decide +kernel
theorem dX6_person_62 : decode cX6_person 62 = .ok (.ireturn, 1) := by decide +kernel
set_option maxRecDepth 20000 in
theorem ggX6_glove_X6_isGlove : GoodIn wsX6_glove wsX6_isGlove := goodIn_r _ [7, 2, 8, 9, 6, 10, 11, 12, 13, 14, 15, 16, 17, 18, 19, 20, 21, 22, 23, 24, 25] (by decide +kernel) (by decide +kernel)
set_option maxRecDepth 20000 in
theorem gX6_glove_X6_isGlove : GoodIn wsX6_glove (wsV RX6 131 RX6 yX6_isGlove wsX6_isGlove) := goodIn_app (goodIn_of _ (by decide +kernel)) ggX6_glove_X6_isGlove
set_option maxRecDepth 20000 in
theorem ggX6_glove_X6_in : GoodIn wsX6_glove wsX6_in := goodIn_r _ [10] (by decide +kernel) (by decide +kernel)
set_option maxRecDepth 20000 in
theorem gX6_glove_X6_in : GoodIn wsX6_glove (va_wsS RX6 57 yX6_in wsX6_in) := goodIn_app (goodIn_of _ (by decide +kernel)) ggX6_glove_X6_in
theorem dX6_glove_0 : decode cX6_glove 0 = .ok (.aload_n 0, 1) := by decide +kernel
theorem dX6_glove_1 : decode cX6_glove 1 = .ok (.iload_n 1, 1) := by decide +kernel
theorem dX6_glove_2 : decode cX6_glove 2 = .ok (.invokevirtual 131, 3) := by decide +kernel
theorem dX6_glove_5 : decode cX6_glove 5 = .ok (.ifCond .eq 15, 3) := by decide +kernel
theorem dX6_glove_8 : decode cX6_glove 8 = .ok (.iload_n 2, 1) := by decide +kernel
theorem dX6_glove_9 : decode cX6_glove 9 = .ok (.i2l, 1) := by decide +kernel
theorem dX6_glove_10 : decode cX6_glove 10 = .ok (.lconst 0, 1) := by decide +kernel
theorem dX6_glove_11 : decode cX6_glove 11 = .ok (.ldc2_w 134, 3) := by decide +kernel
theorem dX6_glove_14 : decode cX6_glove 14 = .ok (.invokestatic 57, 3) := by decide +kernel
theorem dX6_glove_17 : decode cX6_glove 17 = .ok (.ifCond .ne 5, 3) := by decide +kernel
theorem dX6_glove_20 : decode cX6_glove 20 = .ok (.iconst (-1), 1) := by decide +kernel
theorem dX6_glove_21 : decode cX6_glove 21 = .ok (.ireturn, 1) := by decide +kernel
theorem dX6_glove_22 : decode cX6_glove 22 = .ok (.iload_n 2, 1) := by decide +kernel
theorem dX6_glove_23 : decode cX6_glove 23 = .ok (.tableswitch 109 0 3 #[29, 39, 88, 98], 29) := by decide +kernel
theorem dX6_glove_52 : decode cX6_glove 52 = .ok (.aload_n 0, 1) := by decide +kernel
theorem dX6_glove_53 : decode cX6_glove 53 = .ok (.getfield 22, 3) := by decide +kernel
theorem dX6_glove_56 : decode cX6_glove 56 = .ok (.bipush 10, 2) := by decide +kernel
theorem dX6_glove_58 : decode cX6_glove 58 = .ok (.iload_n 1, 1) := by decide +kernel
theorem dX6_glove_59 : decode cX6_glove 59 = .ok (.iadd, 1) := by decide +kernel
theorem dX6_glove_60 : decode cX6_glove 60 = .ok (.iaload, 1) := by decide +kernel
theorem dX6_glove_61 : decode cX6_glove 61 = .ok (.ireturn, 1) := by decide +kernel
theorem dX6_glove_62 : decode cX6_glove 62 = .ok (.aload_n 0, 1) := by decide +kernel
theorem dX6_glove_63 : decode cX6_glove 63 = .ok (.getfield 22, 3) := by decide +kernel
theorem dX6_glove_66 : decode cX6_glove 66 = .ok (.bipush 18, 2) := by decide +kernel
theorem dX6_glove_68 : decode cX6_glove 68 = .ok (.iload_n 1, 1) := by decide +kernel
theorem dX6_glove_69 : decode cX6_glove 69 = .ok (.iadd, 1) := by decide +kernel
theorem dX6_glove_70 : decode cX6_glove 70 = .ok (.iaload, 1) := by decide +kernel
theorem dX6_glove_71 : decode cX6_glove 71 = .ok (.aload_n 0, 1) := by decide +kernel
theorem dX6_glove_72 : decode cX6_glove 72 = .ok (.getfield 22, 3) := by decide +kernel
theorem dX6_glove_75 : decode cX6_glove 75 = .ok (.bipush 10, 2) := by decide +kernel
theorem dX6_glove_77 : decode cX6_glove 77 = .ok (.iload_n 1, 1) := by decide +kernel
theorem dX6_glove_78 : decode cX6_glove 78 = .ok (.iadd, 1) := by decide +kernel
theorem dX6_glove_79 : decode cX6_glove 79 = .ok (.iaload, 1) := by decide +kernel
theorem dX6_glove_80 : decode cX6_glove 80 = .ok (.iconst 3, 1) := by decide +kernel
theorem dX6_glove_81 : decode cX6_glove 81 = .ok (.if_icmp .ne 17, 3) := by decide +kernel
theorem dX6_glove_84 : decode cX6_glove 84 = .ok (.aload_n 0, 1) := by decide +kernel
theorem dX6_glove_85 : decode cX6_glove 85 = .ok (.getfield 22, 3) := by decide +kernel
theorem dX6_glove_88 : decode cX6_glove 88 = .ok (.bipush 34, 2) := by decide +kernel
theorem dX6_glove_90 : decode cX6_glove 90 = .ok (.iload_n 1, 1) := by decide +kernel
theorem dX6_glove_91 : decode cX6_glove 91 = .ok (.iadd, 1) := by decide +kernel
theorem dX6_glove_92 : decode cX6_glove 92 = .ok (.iaload, 1) := by decide +kernel
theorem dX6_glove_93 : decode cX6_glove 93 = .ok (.iconst 5, 1) := by decide +kernel
theorem dX6_glove_94 : decode cX6_glove 94 = .ok (.idiv, 1) := by decide +kernel
theorem dX6_glove_95 : decode cX6_glove 95 = .ok (.goto 4, 3) := by decide +kernel
theorem dX6_glove_98 : decode cX6_glove 98 = .ok (.iconst 0, 1) := by decide +kernel
theorem dX6_glove_99 : decode cX6_glove 99 = .ok (.isub, 1) := by decide +kernel
theorem dX6_glove_100 : decode cX6_glove 100 = .ok (.istore_n 3, 1) := by decide +kernel
theorem dX6_glove_101 : decode cX6_glove 101 = .ok (.iload_n 3, 1) := by decide +kernel
theorem dX6_glove_102 : decode cX6_glove 102 = .ok (.ifCond .ge 7, 3) := by decide +kernel
theorem dX6_glove_105 : decode cX6_glove 105 = .ok (.iconst 0, 1) := by decide +kernel
theorem dX6_glove_106 : decode cX6_glove 106 = .ok (.goto 4, 3) := by decide +kernel
theorem dX6_glove_109 : decode cX6_glove 109 = .ok (.iload_n 3, 1) := by decide +kernel
theorem dX6_glove_110 : decode cX6_glove 110 = .ok (.ireturn, 1) := by decide +kernel
theorem dX6_glove_111 : decode cX6_glove 111 = .ok (.aload_n 0, 1) := by decide +kernel
theorem dX6_glove_112 : decode cX6_glove 112 = .ok (.getfield 22, 3) := by decide +kernel
theorem dX6_glove_115 : decode cX6_glove 115 = .ok (.bipush 26, 2) := by decide +kernel
theorem dX6_glove_117 : decode cX6_glove 117 = .ok (.iload_n 1, 1) := by decide +kernel
theorem dX6_glove_118 : decode cX6_glove 118 = .ok (.iadd, 1) := by decide +kernel
theorem dX6_glove_119 : decode cX6_glove 119 = .ok (.iaload, 1) := by decide +kernel
theorem dX6_glove_120 : decode cX6_glove 120 = .ok (.ireturn, 1) := by decide +kernel
theorem dX6_glove_121 : decode cX6_glove 121 = .ok (.aload_n 0, 1) := by decide +kernel
theorem dX6_glove_122 : decode cX6_glove 122 = .ok (.getfield 22, 3) := by decide +kernel
theorem dX6_glove_125 : decode cX6_glove 125 = .ok (.iconst 3, 1) := by decide +kernel
theorem dX6_glove_126 : decode cX6_glove 126 = .ok (.iaload, 1) := by decide +kernel
theorem dX6_glove_127 : decode cX6_glove 127 = .ok (.iload_n 1, 1) := by decide +kernel
theorem dX6_glove_128 : decode cX6_glove 128 = .ok (.ishr, 1) := by decide +kernel
theorem dX6_glove_129 : decode cX6_glove 129 = .ok (.iconst 1, 1) := by decide +kernel
theorem dX6_glove_130 : decode cX6_glove 130 = .ok (.iand, 1) := by decide +kernel
theorem dX6_glove_131 : decode cX6_glove 131 = .ok (.ireturn, 1) := by decide +kernel
theorem dX6_glove_132 : decode cX6_glove 132 = .ok (.aload_n 0, 1) := by decide +kernel
theorem dX6_glove_133 : decode cX6_glove 133 = .ok (.getfield 22, 3) := by decide +kernel
theorem dX6_glove_136 : decode cX6_glove 136 = .ok (.bipush 34, 2) := by decide +kernel
theorem dX6_glove_138 : decode cX6_glove 138 = .ok (.iload_n 1, 1) := by decide +kernel
theorem dX6_glove_139 : decode cX6_glove 139 = .ok (.iadd, 1) := by decide +kernel
theorem dX6_glove_140 : decode cX6_glove 140 = .ok (.iaload, 1) := by decide +kernel
theorem dX6_glove_141 : decode cX6_glove 141 = .ok (.ireturn, 1) := by decide +kernel
set_option maxRecDepth 20000 in
theorem ggX6_fits_X6_isGlove : GoodIn wsX6_fits wsX6_isGlove := goodIn_r _ [5, 6, 7, 8, 4, 9, 30, 31, 32, 33, 34, 35, 36, 37, 38, 39, 40, 41, 42, 43, 44] (by decide +kernel) (by decide +kernel)
set_option maxRecDepth 20000 in
theorem gX6_fits_X6_isGlove : GoodIn wsX6_fits (wsV RX6 131 RX6 yX6_isGlove wsX6_isGlove) := goodIn_app (goodIn_of _ (by decide +kernel)) ggX6_fits_X6_isGlove
set_option maxRecDepth 20000 in
theorem ggX6_fits_X6_isPerson : GoodIn wsX6_fits wsX6_isPerson := goodIn_r _ [13, 14, 7, 8, 4, 9, 30, 31, 32, 33, 34, 35, 36, 37, 38, 39, 40, 41, 42, 43, 44] (by decide +kernel) (by decide +kernel)
set_option maxRecDepth 20000 in
theorem gX6_fits_X6_isPerson : GoodIn wsX6_fits (wsV RX6 127 RX6 yX6_isPerson wsX6_isPerson) := goodIn_app (goodIn_of _ (by decide +kernel)) ggX6_fits_X6_isPerson
set_option maxRecDepth 20000 in
theorem ggX6_fits_X6_aside : GoodIn wsX6_fits wsX6_aside := goodIn_r _ [18, 19, 6, 30, 31, 32, 33, 34, 35, 36, 37, 38, 39, 40, 41, 42, 43, 44] (by decide +kernel) (by decide +kernel)
set_option maxRecDepth 20000 in
theorem gX6_fits_X6_aside : GoodIn wsX6_fits (wsV RX6 136 RX6 yX6_aside wsX6_aside) := goodIn_app (goodIn_of _ (by decide +kernel)) ggX6_fits_X6_aside
set_option maxRecDepth 20000 in
theorem ggX6_fits_X6_isFit : GoodIn wsX6_fits wsX6_isFit := goodIn_r _ [23, 19, 14, 24, 25, 4, 26, 27, 28, 29, 30, 31, 32, 33, 34, 35, 36, 37, 38, 39, 40, 41, 42, 43, 44] (by decide +kernel) (by decide +kernel)
set_option maxRecDepth 20000 in
theorem gX6_fits_X6_isFit : GoodIn wsX6_fits (wsV RX6 114 RX6 yX6_isFit wsX6_isFit) := goodIn_app (goodIn_of _ (by decide +kernel)) ggX6_fits_X6_isFit
theorem dX6_fits_0 : decode cX6_fits 0 = .ok (.aload_n 0, 1) := by decide +kernel
theorem dX6_fits_1 : decode cX6_fits 1 = .ok (.iload_n 1, 1) := by decide +kernel
theorem dX6_fits_2 : decode cX6_fits 2 = .ok (.invokevirtual 131, 3) := by decide +kernel
theorem dX6_fits_5 : decode cX6_fits 5 = .ok (.ifCond .eq 11, 3) := by decide +kernel
theorem dX6_fits_8 : decode cX6_fits 8 = .ok (.aload_n 0, 1) := by decide +kernel
theorem dX6_fits_9 : decode cX6_fits 9 = .ok (.iload_n 2, 1) := by decide +kernel
theorem dX6_fits_10 : decode cX6_fits 10 = .ok (.invokevirtual 127, 3) := by decide +kernel
theorem dX6_fits_13 : decode cX6_fits 13 = .ok (.ifCond .ne 5, 3) := by decide +kernel
theorem dX6_fits_16 : decode cX6_fits 16 = .ok (.iconst (-1), 1) := by decide +kernel
theorem dX6_fits_17 : decode cX6_fits 17 = .ok (.ireturn, 1) := by decide +kernel
theorem dX6_fits_18 : decode cX6_fits 18 = .ok (.aload_n 0, 1) := by decide +kernel
theorem dX6_fits_19 : decode cX6_fits 19 = .ok (.invokevirtual 136, 3) := by decide +kernel
theorem dX6_fits_22 : decode cX6_fits 22 = .ok (.aload_n 0, 1) := by decide +kernel
theorem dX6_fits_23 : decode cX6_fits 23 = .ok (.iload_n 1, 1) := by decide +kernel
theorem dX6_fits_24 : decode cX6_fits 24 = .ok (.iload_n 2, 1) := by decide +kernel
theorem dX6_fits_25 : decode cX6_fits 25 = .ok (.invokevirtual 114, 3) := by decide +kernel
theorem dX6_fits_28 : decode cX6_fits 28 = .ok (.ifCond .eq 7, 3) := by decide +kernel
theorem dX6_fits_31 : decode cX6_fits 31 = .ok (.iconst 1, 1) := by decide +kernel
theorem dX6_fits_32 : decode cX6_fits 32 = .ok (.goto 4, 3) := by decide +kernel
theorem dX6_fits_35 : decode cX6_fits 35 = .ok (.iconst 0, 1) := by decide +kernel
theorem dX6_fits_36 : decode cX6_fits 36 = .ok (.ireturn, 1) := by decide +kernel
set_option maxRecDepth 20000 in
theorem ggX6_fight_X6_isPerson : GoodIn wsX6_fight wsX6_isPerson := goodIn_r _ [6, 7, 8, 9, 5, 10, 11, 12, 13, 14, 15, 16, 17, 18, 19, 20, 21, 22, 23, 24, 25] (by decide +kernel) (by decide +kernel)
set_option maxRecDepth 20000 in
theorem gX6_fight_X6_isPerson : GoodIn wsX6_fight (wsV RX6 127 RX6 yX6_isPerson wsX6_isPerson) := goodIn_app (goodIn_of _ (by decide +kernel)) ggX6_fight_X6_isPerson
theorem dX6_fight_0 : decode cX6_fight 0 = .ok (.aload_n 0, 1) := by decide +kernel
theorem dX6_fight_1 : decode cX6_fight 1 = .ok (.iload_n 1, 1) := by decide +kernel
theorem dX6_fight_2 : decode cX6_fight 2 = .ok (.invokevirtual 127, 3) := by decide +kernel
theorem dX6_fight_5 : decode cX6_fight 5 = .ok (.ifCond .eq 16, 3) := by decide +kernel
theorem dX6_fight_8 : decode cX6_fight 8 = .ok (.aload_n 0, 1) := by decide +kernel
theorem dX6_fight_9 : decode cX6_fight 9 = .ok (.iload_n 2, 1) := by decide +kernel
