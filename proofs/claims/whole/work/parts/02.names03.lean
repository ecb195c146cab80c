theorem dX2_readItem_1 : decode cX2_readItem 1 = .ok (.bipush 112, 2) := by decide +kernel
theorem dX2_readItem_3 : decode cX2_readItem 3 = .ok (.invokevirtual 34, 3) := by decide +kernel
theorem dX2_readItem_6 : decode cX2_readItem 6 = .ok (.istore_n 2, 1) := by decide +kernel
theorem dX2_readItem_7 : decode cX2_readItem 7 = .ok (.iload_n 2, 1) := by decide +kernel
theorem dX2_readItem_8 : decode cX2_readItem 8 = .ok (.ifCond .ne 14, 3) := by decide +kernel
theorem dX2_readItem_11 : decode cX2_readItem 11 = .ok (.aload_n 0, 1) := by decide +kernel
theorem dX2_readItem_12 : decode cX2_readItem 12 = .ok (.bipush 103, 2) := by decide +kernel
theorem dX2_readItem_14 : decode cX2_readItem 14 = .ok (.invokevirtual 34, 3) := by decide +kernel
theorem dX2_readItem_17 : decode cX2_readItem 17 = .ok (.ifCond .ne 5, 3) := by decide +kernel
theorem dX2_readItem_20 : decode cX2_readItem 20 = .ok (.iconst 0, 1) := by decide +kernel
theorem dX2_readItem_21 : decode cX2_readItem 21 = .ok (.ireturn, 1) := by decide +kernel
theorem dX2_readItem_22 : decode cX2_readItem 22 = .ok (.iconst 0, 1) := by decide +kernel
theorem dX2_readItem_23 : decode cX2_readItem 23 = .ok (.istore_n 3, 1) := by decide +kernel
theorem dX2_readItem_24 : decode cX2_readItem 24 = .ok (.iload_n 3, 1) := by decide +kernel
theorem dX2_readItem_25 : decode cX2_readItem 25 = .ok (.iconst 3, 1) := by decide +kernel
theorem dX2_readItem_26 : decode cX2_readItem 26 = .ok (.if_icmp .ge 49, 3) := by decide +kernel
theorem dX2_readItem_29 : decode cX2_readItem 29 = .ok (.aload_n 0, 1) := by decide +kernel
theorem dX2_readItem_30 : decode cX2_readItem 30 = .ok (.getfield 22, 3) := by decide +kernel
theorem dX2_readItem_33 : decode cX2_readItem 33 = .ok (.iload_n 3, 1) := by decide +kernel
theorem dX2_readItem_34 : decode cX2_readItem 34 = .ok (.aload_n 0, 1) := by decide +kernel
theorem dX2_readItem_35 : decode cX2_readItem 35 = .ok (.invokevirtual 38, 3) := by decide +kernel
theorem dX2_readItem_38 : decode cX2_readItem 38 = .ok (.iastore, 1) := by decide +kernel
theorem dX2_readItem_39 : decode cX2_readItem 39 = .ok (.aload_n 0, 1) := by decide +kernel
theorem dX2_readItem_40 : decode cX2_readItem 40 = .ok (.getfield 22, 3) := by decide +kernel
theorem dX2_readItem_43 : decode cX2_readItem 43 = .ok (.iload_n 3, 1) := by decide +kernel
theorem dX2_readItem_44 : decode cX2_readItem 44 = .ok (.iaload, 1) := by decide +kernel
theorem dX2_readItem_45 : decode cX2_readItem 45 = .ok (.ifCond .lt 22, 3) := by decide +kernel
theorem dX2_readItem_48 : decode cX2_readItem 48 = .ok (.aload_n 0, 1) := by decide +kernel
theorem dX2_readItem_49 : decode cX2_readItem 49 = .ok (.iload_n 3, 1) := by decide +kernel
theorem dX2_readItem_50 : decode cX2_readItem 50 = .ok (.iconst 2, 1) := by decide +kernel
theorem dX2_readItem_51 : decode cX2_readItem 51 = .ok (.if_icmp .ge 8, 3) := by decide +kernel
theorem dX2_readItem_54 : decode cX2_readItem 54 = .ok (.bipush 44, 2) := by decide +kernel
theorem dX2_readItem_56 : decode cX2_readItem 56 = .ok (.goto 5, 3) := by decide +kernel
theorem dX2_readItem_59 : decode cX2_readItem 59 = .ok (.bipush 59, 2) := by decide +kernel
theorem dX2_readItem_61 : decode cX2_readItem 61 = .ok (.invokevirtual 34, 3) := by decide +kernel
theorem dX2_readItem_64 : decode cX2_readItem 64 = .ok (.ifCond .ne 5, 3) := by decide +kernel
theorem dX2_readItem_67 : decode cX2_readItem 67 = .ok (.iconst 0, 1) := by decide +kernel
theorem dX2_readItem_68 : decode cX2_readItem 68 = .ok (.ireturn, 1) := by decide +kernel
theorem dX2_readItem_69 : decode cX2_readItem 69 = .ok (.iinc 3 1, 3) := by decide +kernel
theorem dX2_readItem_72 : decode cX2_readItem 72 = .ok (.goto (-48), 3) := by decide +kernel
theorem dX2_readItem_75 : decode cX2_readItem 75 = .ok (.iload_n 2, 1) := by decide +kernel
theorem dX2_readItem_76 : decode cX2_readItem 76 = .ok (.ifCond .eq 28, 3) := by decide +kernel
theorem dX2_readItem_79 : decode cX2_readItem 79 = .ok (.aload_n 1, 1) := by decide +kernel
theorem dX2_readItem_80 : decode cX2_readItem 80 = .ok (.aload_n 0, 1) := by decide +kernel
theorem dX2_readItem_81 : decode cX2_readItem 81 = .ok (.getfield 22, 3) := by decide +kernel
theorem dX2_readItem_84 : decode cX2_readItem 84 = .ok (.iconst 0, 1) := by decide +kernel
theorem dX2_readItem_85 : decode cX2_readItem 85 = .ok (.iaload, 1) := by decide +kernel
theorem dX2_readItem_86 : decode cX2_readItem 86 = .ok (.aload_n 0, 1) := by decide +kernel
theorem dX2_readItem_87 : decode cX2_readItem 87 = .ok (.getfield 22, 3) := by decide +kernel
theorem dX2_readItem_90 : decode cX2_readItem 90 = .ok (.iconst 1, 1) := by decide +kernel
theorem dX2_readItem_91 : decode cX2_readItem 91 = .ok (.iaload, 1) := by decide +kernel
theorem dX2_readItem_92 : decode cX2_readItem 92 = .ok (.aload_n 0, 1) := by decide +kernel
theorem dX2_readItem_93 : decode cX2_readItem 93 = .ok (.getfield 22, 3) := by decide +kernel
theorem dX2_readItem_96 : decode cX2_readItem 96 = .ok (.iconst 2, 1) := by decide +kernel
theorem dX2_readItem_97 : decode cX2_readItem 97 = .ok (.iaload, 1) := by decide +kernel
theorem dX2_readItem_98 : decode cX2_readItem 98 = .ok (.invokevirtual 42, 3) := by decide +kernel
theorem dX2_readItem_101 : decode cX2_readItem 101 = .ok (.goto 25, 3) := by decide +kernel
theorem dX2_readItem_104 : decode cX2_readItem 104 = .ok (.aload_n 1, 1) := by decide +kernel
theorem dX2_readItem_105 : decode cX2_readItem 105 = .ok (.aload_n 0, 1) := by decide +kernel
theorem dX2_readItem_106 : decode cX2_readItem 106 = .ok (.getfield 22, 3) := by decide +kernel
theorem dX2_readItem_109 : decode cX2_readItem 109 = .ok (.iconst 0, 1) := by decide +kernel
theorem dX2_readItem_110 : decode cX2_readItem 110 = .ok (.iaload, 1) := by decide +kernel
theorem dX2_readItem_111 : decode cX2_readItem 111 = .ok (.aload_n 0, 1) := by decide +kernel
theorem dX2_readItem_112 : decode cX2_readItem 112 = .ok (.getfield 22, 3) := by decide +kernel
theorem dX2_readItem_115 : decode cX2_readItem 115 = .ok (.iconst 1, 1) := by decide +kernel
theorem dX2_readItem_116 : decode cX2_readItem 116 = .ok (.iaload, 1) := by decide +kernel
theorem dX2_readItem_117 : decode cX2_readItem 117 = .ok (.aload_n 0, 1) := by decide +kernel
theorem dX2_readItem_118 : decode cX2_readItem 118 = .ok (.getfield 22, 3) := by decide +kernel
theorem dX2_readItem_121 : decode cX2_readItem 121 = .ok (.iconst 2, 1) := by decide +kernel
theorem dX2_readItem_122 : decode cX2_readItem 122 = .ok (.iaload, 1) := by decide +kernel
theorem dX2_readItem_123 : decode cX2_readItem 123 = .ok (.invokevirtual 46, 3) := by decide +kernel
theorem dX2_readItem_126 : decode cX2_readItem 126 = .ok (.ireturn, 1) := by decide +kernel
theorem dX2_readSign_0 : decode cX2_readSign 0 = .ok (.aload_n 0, 1) := by decide +kernel
theorem dX2_readSign_1 : decode cX2_readSign 1 = .ok (.getfield 15, 3) := by decide +kernel
theorem dX2_readSign_4 : decode cX2_readSign 4 = .ok (.aload_n 0, 1) := by decide +kernel
theorem dX2_readSign_5 : decode cX2_readSign 5 = .ok (.getfield 9, 3) := by decide +kernel
theorem dX2_readSign_8 : decode cX2_readSign 8 = .ok (.if_icmp .ge 16, 3) := by decide +kernel
theorem dX2_readSign_11 : decode cX2_readSign 11 = .ok (.aload_n 0, 1) := by decide +kernel
theorem dX2_readSign_12 : decode cX2_readSign 12 = .ok (.getfield 18, 3) := by decide +kernel
theorem dX2_readSign_15 : decode cX2_readSign 15 = .ok (.aload_n 0, 1) := by decide +kernel
theorem dX2_readSign_16 : decode cX2_readSign 16 = .ok (.getfield 15, 3) := by decide +kernel
theorem dX2_readSign_19 : decode cX2_readSign 19 = .ok (.iaload, 1) := by decide +kernel
theorem dX2_readSign_20 : decode cX2_readSign 20 = .ok (.iload_n 1, 1) := by decide +kernel
theorem dX2_readSign_21 : decode cX2_readSign 21 = .ok (.if_icmp .eq 5, 3) := by decide +kernel
theorem dX2_readSign_24 : decode cX2_readSign 24 = .ok (.iconst 0, 1) := by decide +kernel
theorem dX2_readSign_25 : decode cX2_readSign 25 = .ok (.ireturn, 1) := by decide +kernel
theorem dX2_readSign_26 : decode cX2_readSign 26 = .ok (.aload_n 0, 1) := by decide +kernel
theorem dX2_readSign_27 : decode cX2_readSign 27 = .ok (.dup, 1) := by decide +kernel
theorem dX2_readSign_28 : decode cX2_readSign 28 = .ok (.getfield 15, 3) := by decide +kernel
theorem dX2_readSign_31 : decode cX2_readSign 31 = .ok (.iconst 1, 1) := by decide +kernel
theorem dX2_readSign_32 : decode cX2_readSign 32 = .ok (.iadd, 1) := by decide +kernel
theorem dX2_readSign_33 : decode cX2_readSign 33 = .ok (.putfield 15, 3) := by decide +kernel
theorem dX2_readSign_36 : decode cX2_readSign 36 = .ok (.iconst 1, 1) := by decide +kernel
theorem dX2_readSign_37 : decode cX2_readSign 37 = .ok (.ireturn, 1) := by decide +kernel
set_option maxRecDepth 20000 in
theorem ggX2_readNumber_X5_within : GoodIn wsX2_readNumber wsX5_within := goodIn_r _ [10] (by decide +kernel) (by decide +kernel)
set_option maxRecDepth 20000 in
theorem gX2_readNumber_X5_within_n49 : GoodIn wsX2_readNumber (wsX5_within) := ggX2_readNumber_X5_within
theorem dX2_readNumber_0 : decode cX2_readNumber 0 = .ok (.iconst (-1), 1) := by decide +kernel
theorem dX2_readNumber_1 : decode cX2_readNumber 1 = .ok (.istore_n 1, 1) := by decide +kernel
theorem dX2_readNumber_2 : decode cX2_readNumber 2 = .ok (.iconst 0, 1) := by decide +kernel
theorem dX2_readNumber_3 : decode cX2_readNumber 3 = .ok (.istore_n 2, 1) := by decide +kernel
theorem dX2_readNumber_4 : decode cX2_readNumber 4 = .ok (.iload_n 2, 1) := by decide +kernel
theorem dX2_readNumber_5 : decode cX2_readNumber 5 = .ok (.iconst 2, 1) := by decide +kernel
theorem dX2_readNumber_6 : decode cX2_readNumber 6 = .ok (.if_icmp .ge 71, 3) := by decide +kernel
theorem dX2_readNumber_9 : decode cX2_readNumber 9 = .ok (.aload_n 0, 1) := by decide +kernel
theorem dX2_readNumber_10 : decode cX2_readNumber 10 = .ok (.getfield 15, 3) := by decide +kernel
theorem dX2_readNumber_13 : decode cX2_readNumber 13 = .ok (.aload_n 0, 1) := by decide +kernel
theorem dX2_readNumber_14 : decode cX2_readNumber 14 = .ok (.getfield 9, 3) := by decide +kernel
theorem dX2_readNumber_17 : decode cX2_readNumber 17 = .ok (.if_icmp .ge 60, 3) := by decide +kernel
theorem dX2_readNumber_20 : decode cX2_readNumber 20 = .ok (.aload_n 0, 1) := by decide +kernel
theorem dX2_readNumber_21 : decode cX2_readNumber 21 = .ok (.getfield 18, 3) := by decide +kernel
theorem dX2_readNumber_24 : decode cX2_readNumber 24 = .ok (.aload_n 0, 1) := by decide +kernel
theorem dX2_readNumber_25 : decode cX2_readNumber 25 = .ok (.getfield 15, 3) := by decide +kernel
theorem dX2_readNumber_28 : decode cX2_readNumber 28 = .ok (.iaload, 1) := by decide +kernel
theorem dX2_readNumber_29 : decode cX2_readNumber 29 = .ok (.bipush 48, 2) := by decide +kernel
theorem dX2_readNumber_31 : decode cX2_readNumber 31 = .ok (.bipush 57, 2) := by decide +kernel
theorem dX2_readNumber_33 : decode cX2_readNumber 33 = .ok (.invokestatic 49, 3) := by decide +kernel
theorem dX2_readNumber_36 : decode cX2_readNumber 36 = .ok (.ifCond .eq 41, 3) := by decide +kernel
theorem dX2_readNumber_39 : decode cX2_readNumber 39 = .ok (.iload_n 1, 1) := by decide +kernel
theorem dX2_readNumber_40 : decode cX2_readNumber 40 = .ok (.iconst 0, 1) := by decide +kernel
theorem dX2_readNumber_41 : decode cX2_readNumber 41 = .ok (.invokestatic 52, 3) := by decide +kernel
theorem dX2_readNumber_44 : decode cX2_readNumber 44 = .ok (.bipush 10, 2) := by decide +kernel
theorem dX2_readNumber_46 : decode cX2_readNumber 46 = .ok (.imul, 1) := by decide +kernel
theorem dX2_readNumber_47 : decode cX2_readNumber 47 = .ok (.aload_n 0, 1) := by decide +kernel
theorem dX2_readNumber_48 : decode cX2_readNumber 48 = .ok (.getfield 18, 3) := by decide +kernel
theorem dX2_readNumber_51 : decode cX2_readNumber 51 = .ok (.aload_n 0, 1) := by decide +kernel
theorem dX2_readNumber_52 : decode cX2_readNumber 52 = .ok (.getfield 15, 3) := by decide +kernel
theorem dX2_readNumber_55 : decode cX2_readNumber 55 = .ok (.iaload, 1) := by decide +kernel
theorem dX2_readNumber_56 : decode cX2_readNumber 56 = .ok (.iadd, 1) := by decide +kernel
theorem dX2_readNumber_57 : decode cX2_readNumber 57 = .ok (.bipush 48, 2) := by decide +kernel
theorem dX2_readNumber_59 : decode cX2_readNumber 59 = .ok (.isub, 1) := by decide +kernel
theorem dX2_readNumber_60 : decode cX2_readNumber 60 = .ok (.istore_n 1, 1) := by decide +kernel
theorem dX2_readNumber_61 : decode cX2_readNumber 61 = .ok (.aload_n 0, 1) := by decide +kernel
theorem dX2_readNumber_62 : decode cX2_readNumber 62 = .ok (.dup, 1) := by decide +kernel
theorem dX2_readNumber_63 : decode cX2_readNumber 63 = .ok (.getfield 15, 3) := by decide +kernel
theorem dX2_readNumber_66 : decode cX2_readNumber 66 = .ok (.iconst 1, 1) := by decide +kernel
theorem dX2_readNumber_67 : decode cX2_readNumber 67 = .ok (.iadd, 1) := by decide +kernel
theorem dX2_readNumber_68 : decode cX2_readNumber 68 = .ok (.putfield 15, 3) := by decide +kernel
theorem dX2_readNumber_71 : decode cX2_readNumber 71 = .ok (.iinc 2 1, 3) := by decide +kernel
theorem dX2_readNumber_74 : decode cX2_readNumber 74 = .ok (.goto (-70), 3) := by decide +kernel
theorem dX2_readNumber_77 : decode cX2_readNumber 77 = .ok (.iload_n 1, 1) := by decide +kernel
theorem dX2_readNumber_78 : decode cX2_readNumber 78 = .ok (.ireturn, 1) := by decide +kernel
set_option maxRecDepth 20000 in
theorem ggX3_init_X1_init : GoodIn wsX3_init wsX1_init := goodIn_r _ [15, 16, 2, 3, 17, 18, 19, 20, 21, 22, 23, 24, 25, 26, 27, 28, 29, 30, 34, 35, 36, 37, 38, 39, 40, 41, 42, 43, 44, 45, 46] (by decide +kernel) (by decide +kernel)
set_option maxRecDepth 20000 in
theorem gX3_init_X1_init_n28 : GoodIn wsX3_init (wsX1_init) := ggX3_init_X1_init
theorem dX3_init_0 : decode cX3_init 0 = .ok (.aload_n 0, 1) := by decide +kernel
theorem dX3_init_1 : decode cX3_init 1 = .ok (.invokespecial 1, 3) := by decide +kernel
theorem dX3_init_4 : decode cX3_init 4 = .ok (.aload_n 0, 1) := by decide +kernel
theorem dX3_init_5 : decode cX3_init 5 = .ok (.iconst 0, 1) := by decide +kernel
theorem dX3_init_6 : decode cX3_init 6 = .ok (.putfield 7, 3) := by decide +kernel
theorem dX3_init_9 : decode cX3_init 9 = .ok (.aload_n 0, 1) := by decide +kernel
theorem dX3_init_10 : decode cX3_init 10 = .ok (.iconst 0, 1) := by decide +kernel
theorem dX3_init_11 : decode cX3_init 11 = .ok (.putfield 13, 3) := by decide +kernel
theorem dX3_init_14 : decode cX3_init 14 = .ok (.aload_n 0, 1) := by decide +kernel
theorem dX3_init_15 : decode cX3_init 15 = .ok (.iconst 1, 1) := by decide +kernel
theorem dX3_init_16 : decode cX3_init 16 = .ok (.iload_n 1, 1) := by decide +kernel
theorem dX3_init_17 : decode cX3_init 17 = .ok (.invokestatic 16, 3) := by decide +kernel
theorem dX3_init_20 : decode cX3_init 20 = .ok (.anewarray 22, 3) := by decide +kernel
theorem dX3_init_23 : decode cX3_init 23 = .ok (.putfield 24, 3) := by decide +kernel
theorem dX3_init_26 : decode cX3_init 26 = .ok (.iconst 0, 1) := by decide +kernel
theorem dX3_init_27 : decode cX3_init 27 = .ok (.istore_n 2, 1) := by decide +kernel
theorem dX3_init_28 : decode cX3_init 28 = .ok (.iload_n 2, 1) := by decide +kernel
theorem dX3_init_29 : decode cX3_init 29 = .ok (.aload_n 0, 1) := by decide +kernel
theorem dX3_init_30 : decode cX3_init 30 = .ok (.getfield 24, 3) := by decide +kernel
theorem dX3_init_33 : decode cX3_init 33 = .ok (.arraylength, 1) := by decide +kernel
theorem dX3_init_34 : decode cX3_init 34 = .ok (.if_icmp .ge 22, 3) := by decide +kernel
theorem dX3_init_37 : decode cX3_init 37 = .ok (.aload_n 0, 1) := by decide +kernel
theorem dX3_init_38 : decode cX3_init 38 = .ok (.getfield 24, 3) := by decide +kernel
theorem dX3_init_41 : decode cX3_init 41 = .ok (.iload_n 2, 1) := by decide +kernel
theorem dX3_init_42 : decode cX3_init 42 = .ok (.new 22, 3) := by decide +kernel
theorem dX3_init_45 : decode cX3_init 45 = .ok (.dup, 1) := by decide +kernel
theorem dX3_init_46 : decode cX3_init 46 = .ok (.invokespecial 28, 3) := by decide +kernel
theorem dX3_init_49 : decode cX3_init 49 = .ok (.aastore, 1) := by decide +kernel
theorem dX3_init_50 : decode cX3_init 50 = .ok (.iinc 2 1, 3) := by decide +kernel
theorem dX3_init_53 : decode cX3_init 53 = .ok (.goto (-25), 3) := by decide +kernel
theorem dX3_init_56 : decode cX3_init 56 = .ok (.return_, 1) := by decide +kernel
set_option maxRecDepth 20000 in
theorem ggX3_put_X1_copyFrom : GoodIn wsX3_put wsX1_copyFrom := goodIn_r _ [12, 13, 14, 15, 16, 17, 18, 19, 20, 21, 22, 23, 24, 25, 26, 27, 28, 29, 33, 34, 35, 36, 37, 38, 39, 40, 41, 42, 43, 44, 45] (by decide +kernel) (by decide +kernel)
set_option maxRecDepth 20000 in
theorem gX3_put_X1_copyFrom : GoodIn wsX3_put (wsV RX3 29 RX1 yX1_copyFrom wsX1_copyFrom) := goodIn_app (goodIn_of _ (by decide +kernel)) ggX3_put_X1_copyFrom
theorem dX3_put_0 : decode cX3_put 0 = .ok (.aload_n 0, 1) := by decide +kernel
theorem dX3_put_1 : decode cX3_put 1 = .ok (.getfield 24, 3) := by decide +kernel
theorem dX3_put_4 : decode cX3_put 4 = .ok (.aload_n 0, 1) := by decide +kernel
theorem dX3_put_5 : decode cX3_put 5 = .ok (.getfield 13, 3) := by decide +kernel
theorem dX3_put_8 : decode cX3_put 8 = .ok (.aaload, 1) := by decide +kernel
theorem dX3_put_9 : decode cX3_put 9 = .ok (.astore_n 2, 1) := by decide +kernel
theorem dX3_put_10 : decode cX3_put 10 = .ok (.aload_n 2, 1) := by decide +kernel
theorem dX3_put_11 : decode cX3_put 11 = .ok (.ifnonnull 4, 3) := by decide +kernel
theorem dX3_put_14 : decode cX3_put 14 = .ok (.return_, 1) := by decide +kernel
theorem dX3_put_15 : decode cX3_put 15 = .ok (.aload_n 2, 1) := by decide +kernel
theorem dX3_put_16 : decode cX3_put 16 = .ok (.aload_n 1, 1) := by decide +kernel
theorem dX3_put_17 : decode cX3_put 17 = .ok (.invokevirtual 29, 3) := by decide +kernel
theorem dX3_put_20 : decode cX3_put 20 = .ok (.aload_n 0, 1) := by decide +kernel
theorem dX3_put_21 : decode cX3_put 21 = .ok (.aload_n 0, 1) := by decide +kernel
theorem dX3_put_22 : decode cX3_put 22 = .ok (.getfield 13, 3) := by decide +kernel
theorem dX3_put_25 : decode cX3_put 25 = .ok (.iconst 1, 1) := by decide +kernel
theorem dX3_put_26 : decode cX3_put 26 = .ok (.iadd, 1) := by decide +kernel
theorem dX3_put_27 : decode cX3_put 27 = .ok (.aload_n 0, 1) := by decide +kernel
theorem dX3_put_28 : decode cX3_put 28 = .ok (.getfield 24, 3) := by decide +kernel
theorem dX3_put_31 : decode cX3_put 31 = .ok (.arraylength, 1) := by decide +kernel
theorem dX3_put_32 : decode cX3_put 32 = .ok (.if_icmp .ge 12, 3) := by decide +kernel
theorem dX3_put_35 : decode cX3_put 35 = .ok (.aload_n 0, 1) := by decide +kernel
theorem dX3_put_36 : decode cX3_put 36 = .ok (.getfield 13, 3) := by decide +kernel
theorem dX3_put_39 : decode cX3_put 39 = .ok (.iconst 1, 1) := by decide +kernel
theorem dX3_put_40 : decode cX3_put 40 = .ok (.iadd, 1) := by decide +kernel
theorem dX3_put_41 : decode cX3_put 41 = .ok (.goto 4, 3) := by decide +kernel
theorem dX3_put_44 : decode cX3_put 44 = .ok (.iconst 0, 1) := by decide +kernel
theorem dX3_put_45 : decode cX3_put 45 = .ok (.putfield 13, 3) := by decide +kernel
theorem dX3_put_48 : decode cX3_put 48 = .ok (.aload_n 0, 1) := by decide +kernel
theorem dX3_put_49 : decode cX3_put 49 = .ok (.aload_n 0, 1) := by decide +kernel
theorem dX3_put_50 : decode cX3_put 50 = .ok (.getfield 7, 3) := by decide +kernel
theorem dX3_put_53 : decode cX3_put 53 = .ok (.iconst 1, 1) := by decide +kernel
theorem dX3_put_54 : decode cX3_put 54 = .ok (.iadd, 1) := by decide +kernel
theorem dX3_put_55 : decode cX3_put 55 = .ok (.aload_n 0, 1) := by decide +kernel
theorem dX3_put_56 : decode cX3_put 56 = .ok (.getfield 24, 3) := by decide +kernel
theorem dX3_put_59 : decode cX3_put 59 = .ok (.arraylength, 1) := by decide +kernel
theorem dX3_put_60 : decode cX3_put 60 = .ok (.invokestatic 33, 3) := by decide +kernel
theorem dX3_put_63 : decode cX3_put 63 = .ok (.putfield 7, 3) := by decide +kernel
theorem dX3_put_66 : decode cX3_put 66 = .ok (.return_, 1) := by decide +kernel
set_option maxRecDepth 20000 in
theorem ggX3_bringBack_X1_copyFrom : GoodIn wsX3_bringBack wsX1_copyFrom := goodIn_r _ [8, 9, 10, 11, 12, 13, 14, 15, 16, 17, 18, 19, 20, 21, 22, 23, 24, 25, 29, 30, 31, 32, 33, 34, 35, 36, 37, 38, 39, 40, 41] (by decide +kernel) (by decide +kernel)
set_option maxRecDepth 20000 in
theorem gX3_bringBack_X1_copyFrom : GoodIn wsX3_bringBack (wsV RX3 29 RX1 yX1_copyFrom wsX1_copyFrom) := goodIn_app (goodIn_of _ (by decide +kernel)) ggX3_bringBack_X1_copyFrom
theorem dX3_bringBack_0 : decode cX3_bringBack 0 = .ok (.aload_n 0, 1) := by decide +kernel
theorem dX3_bringBack_1 : decode cX3_bringBack 1 = .ok (.getfield 7, 3) := by decide +kernel
theorem dX3_bringBack_4 : decode cX3_bringBack 4 = .ok (.ifCond .ne 5, 3) := by decide +kernel
theorem dX3_bringBack_7 : decode cX3_bringBack 7 = .ok (.iconst 0, 1) := by decide +kernel
theorem dX3_bringBack_8 : decode cX3_bringBack 8 = .ok (.ireturn, 1) := by decide +kernel
theorem dX3_bringBack_9 : decode cX3_bringBack 9 = .ok (.aload_n 0, 1) := by decide +kernel
theorem dX3_bringBack_10 : decode cX3_bringBack 10 = .ok (.aload_n 0, 1) := by decide +kernel
theorem dX3_bringBack_11 : decode cX3_bringBack 11 = .ok (.getfield 13, 3) := by decide +kernel
theorem dX3_bringBack_14 : decode cX3_bringBack 14 = .ok (.ifCond .le 12, 3) := by decide +kernel
theorem dX3_bringBack_17 : decode cX3_bringBack 17 = .ok (.aload_n 0, 1) := by decide +kernel
theorem dX3_bringBack_18 : decode cX3_bringBack 18 = .ok (.getfield 13, 3) := by decide +kernel
theorem dX3_bringBack_21 : decode cX3_bringBack 21 = .ok (.iconst 1, 1) := by decide +kernel
theorem dX3_bringBack_22 : decode cX3_bringBack 22 = .ok (.isub, 1) := by decide +kernel
theorem dX3_bringBack_23 : decode cX3_bringBack 23 = .ok (.goto 10, 3) := by decide +kernel
theorem dX3_bringBack_26 : decode cX3_bringBack 26 = .ok (.aload_n 0, 1) := by decide +kernel
theorem dX3_bringBack_27 : decode cX3_bringBack 27 = .ok (.getfield 24, 3) := by decide +kernel
theorem dX3_bringBack_30 : decode cX3_bringBack 30 = .ok (.arraylength, 1) := by decide +kernel
theorem dX3_bringBack_31 : decode cX3_bringBack 31 = .ok (.iconst 1, 1) := by decide +kernel
theorem dX3_bringBack_32 : decode cX3_bringBack 32 = .ok (.isub, 1) := by decide +kernel
theorem dX3_bringBack_33 : decode cX3_bringBack 33 = .ok (.putfield 13, 3) := by decide +kernel
theorem dX3_bringBack_36 : decode cX3_bringBack 36 = .ok (.aload_n 0, 1) := by decide +kernel
theorem dX3_bringBack_37 : decode cX3_bringBack 37 = .ok (.dup, 1) := by decide +kernel
theorem dX3_bringBack_38 : decode cX3_bringBack 38 = .ok (.getfield 7, 3) := by decide +kernel
theorem dX3_bringBack_41 : decode cX3_bringBack 41 = .ok (.iconst 1, 1) := by decide +kernel
theorem dX3_bringBack_42 : decode cX3_bringBack 42 = .ok (.isub, 1) := by decide +kernel
theorem dX3_bringBack_43 : decode cX3_bringBack 43 = .ok (.putfield 7, 3) := by decide +kernel
theorem dX3_bringBack_46 : decode cX3_bringBack 46 = .ok (.aload_n 1, 1) := by decide +kernel
theorem dX3_bringBack_47 : decode cX3_bringBack 47 = .ok (.aload_n 0, 1) := by decide +kernel
theorem dX3_bringBack_48 : decode cX3_bringBack 48 = .ok (.getfield 24, 3) := by decide +kernel
theorem dX3_bringBack_51 : decode cX3_bringBack 51 = .ok (.aload_n 0, 1) := by decide +kernel
theorem dX3_bringBack_52 : decode cX3_bringBack 52 = .ok (.getfield 13, 3) := by decide +kernel
theorem dX3_bringBack_55 : decode cX3_bringBack 55 = .ok (.aaload, 1) := by decide +kernel
theorem dX3_bringBack_56 : decode cX3_bringBack 56 = .ok (.invokevirtual 29, 3) := by decide +kernel
theorem dX3_bringBack_59 : decode cX3_bringBack 59 = .ok (.iconst 1, 1) := by decide +kernel
theorem dX3_bringBack_60 : decode cX3_bringBack 60 = .ok (.ireturn, 1) := by decide +kernel
theorem dX4_init_0 : decode cX4_init 0 = .ok (.aload_n 0, 1) := by decide +kernel
theorem dX4_init_1 : decode cX4_init 1 = .ok (.invokespecial 3, 3) := by decide +kernel
theorem dX4_init_4 : decode cX4_init 4 = .ok (.aload_n 0, 1) := by decide +kernel
theorem dX4_init_5 : decode cX4_init 5 = .ok (.iconst 0, 1) := by decide +kernel
theorem dX4_init_6 : decode cX4_init 6 = .ok (.putfield 9, 3) := by decide +kernel
theorem dX4_init_9 : decode cX4_init 9 = .ok (.aload_n 0, 1) := by decide +kernel
theorem dX4_init_10 : decode cX4_init 10 = .ok (.bipush 6, 2) := by decide +kernel
theorem dX4_init_12 : decode cX4_init 12 = .ok (.newarray .int, 2) := by decide +kernel
theorem dX4_init_14 : decode cX4_init 14 = .ok (.putfield 15, 3) := by decide +kernel
theorem dX4_init_17 : decode cX4_init 17 = .ok (.aload_n 0, 1) := by decide +kernel
theorem dX4_init_18 : decode cX4_init 18 = .ok (.bipush 6, 2) := by decide +kernel
theorem dX4_init_20 : decode cX4_init 20 = .ok (.newarray .int, 2) := by decide +kernel
theorem dX4_init_22 : decode cX4_init 22 = .ok (.putfield 19, 3) := by decide +kernel
theorem dX4_init_25 : decode cX4_init 25 = .ok (.aload_n 0, 1) := by decide +kernel
theorem dX4_init_26 : decode cX4_init 26 = .ok (.bipush 6, 2) := by decide +kernel
theorem dX4_init_28 : decode cX4_init 28 = .ok (.newarray .int, 2) := by decide +kernel
theorem dX4_init_30 : decode cX4_init 30 = .ok (.putfield 22, 3) := by decide +kernel
theorem dX4_init_33 : decode cX4_init 33 = .ok (.return_, 1) := by decide +kernel
theorem dX4_add_0 : decode cX4_add 0 = .ok (.aload_n 0, 1) := by decide +kernel
theorem dX4_add_1 : decode cX4_add 1 = .ok (.getfield 9, 3) := by decide +kernel
theorem dX4_add_4 : decode cX4_add 4 = .ok (.bipush 6, 2) := by decide +kernel
theorem dX4_add_6 : decode cX4_add 6 = .ok (.if_icmp .lt 5, 3) := by decide +kernel
theorem dX4_add_9 : decode cX4_add 9 = .ok (.iconst 0, 1) := by decide +kernel
theorem dX4_add_10 : decode cX4_add 10 = .ok (.ireturn, 1) := by decide +kernel
theorem dX4_add_11 : decode cX4_add 11 = .ok (.aload_n 0, 1) := by decide +kernel
theorem dX4_add_12 : decode cX4_add 12 = .ok (.getfield 15, 3) := by decide +kernel
theorem dX4_add_15 : decode cX4_add 15 = .ok (.aload_n 0, 1) := by decide +kernel
theorem dX4_add_16 : decode cX4_add 16 = .ok (.getfield 9, 3) := by decide +kernel
theorem dX4_add_19 : decode cX4_add 19 = .ok (.iload_n 1, 1) := by decide +kernel
theorem dX4_add_20 : decode cX4_add 20 = .ok (.iastore, 1) := by decide +kernel
theorem dX4_add_21 : decode cX4_add 21 = .ok (.aload_n 0, 1) := by decide +kernel
theorem dX4_add_22 : decode cX4_add 22 = .ok (.getfield 19, 3) := by decide +kernel
theorem dX4_add_25 : decode cX4_add 25 = .ok (.aload_n 0, 1) := by decide +kernel
theorem dX4_add_26 : decode cX4_add 26 = .ok (.getfield 9, 3) := by decide +kernel
theorem dX4_add_29 : decode cX4_add 29 = .ok (.iload_n 2, 1) := by decide +kernel
theorem dX4_add_30 : decode cX4_add 30 = .ok (.iastore, 1) := by decide +kernel
theorem dX4_add_31 : decode cX4_add 31 = .ok (.aload_n 0, 1) := by decide +kernel
theorem dX4_add_32 : decode cX4_add 32 = .ok (.getfield 22, 3) := by decide +kernel
theorem dX4_add_35 : decode cX4_add 35 = .ok (.aload_n 0, 1) := by decide +kernel
theorem dX4_add_36 : decode cX4_add 36 = .ok (.getfield 9, 3) := by decide +kernel
theorem dX4_add_39 : decode cX4_add 39 = .ok (.iload_n 3, 1) := by decide +kernel
theorem dX4_add_40 : decode cX4_add 40 = .ok (.iastore, 1) := by decide +kernel
theorem dX4_add_41 : decode cX4_add 41 = .ok (.aload_n 0, 1) := by decide +kernel
theorem dX4_add_42 : decode cX4_add 42 = .ok (.dup, 1) := by decide +kernel
theorem dX4_add_43 : decode cX4_add 43 = .ok (.getfield 9, 3) := by decide +kernel
theorem dX4_add_46 : decode cX4_add 46 = .ok (.iconst 1, 1) := by decide +kernel
theorem dX4_add_47 : decode cX4_add 47 = .ok (.iadd, 1) := by decide +kernel
theorem dX4_add_48 : decode cX4_add 48 = .ok (.putfield 9, 3) := by decide +kernel
theorem dX4_add_51 : decode cX4_add 51 = .ok (.iconst 1, 1) := by decide +kernel
theorem dX4_add_52 : decode cX4_add 52 = .ok (.ireturn, 1) := by decide +kernel
set_option maxRecDepth 20000 in
theorem ggX4_allowHand_X1_isGlove : GoodIn wsX4_allowHand wsX1_isGlove := goodIn_r _ [12, 13, 14, 15, 16, 25, 26, 27, 28, 29, 30, 31, 32, 33, 34, 35, 36, 37] (by decide +kernel) (by decide +kernel)
set_option maxRecDepth 20000 in
theorem gX4_allowHand_X1_isGlove : GoodIn wsX4_allowHand (wsV RX4 25 RX1 yX1_isGlove wsX1_isGlove) := goodIn_app (goodIn_of _ (by decide +kernel)) ggX4_allowHand_X1_isGlove
set_option maxRecDepth 20000 in
theorem ggX4_allowHand_X5_sizeByNow : GoodIn wsX4_allowHand wsX5_sizeByNow := goodIn_r _ [18] (by decide +kernel) (by decide +kernel)
set_option maxRecDepth 20000 in
theorem gX4_allowHand_X5_sizeByNow_n40 : GoodIn wsX4_allowHand (wsX5_sizeByNow) := ggX4_allowHand_X5_sizeByNow
set_option maxRecDepth 20000 in
theorem ggX4_allowHand_X5_isAsLarge : GoodIn wsX4_allowHand wsX5_isAsLarge := goodIn_r _ [20] (by decide +kernel) (by decide +kernel)
set_option maxRecDepth 20000 in
theorem gX4_allowHand_X5_isAsLarge_n44 : GoodIn wsX4_allowHand (wsX5_isAsLarge) := ggX4_allowHand_X5_isAsLarge
theorem dX4_allowHand_0 : decode cX4_allowHand 0 = .ok (.iconst 0, 1) := by decide +kernel
theorem dX4_allowHand_1 : decode cX4_allowHand 1 = .ok (.istore 4, 2) := by decide +kernel
theorem dX4_allowHand_3 : decode cX4_allowHand 3 = .ok (.iload 4, 2) := by decide +kernel
theorem dX4_allowHand_5 : decode cX4_allowHand 5 = .ok (.aload_n 0, 1) := by decide +kernel
theorem dX4_allowHand_6 : decode cX4_allowHand 6 = .ok (.getfield 9, 3) := by decide +kernel
theorem dX4_allowHand_9 : decode cX4_allowHand 9 = .ok (.if_icmp .ge 101, 3) := by decide +kernel
theorem dX4_allowHand_12 : decode cX4_allowHand 12 = .ok (.aload_n 0, 1) := by decide +kernel
theorem dX4_allowHand_13 : decode cX4_allowHand 13 = .ok (.getfield 15, 3) := by decide +kernel
theorem dX4_allowHand_16 : decode cX4_allowHand 16 = .ok (.iload 4, 2) := by decide +kernel
theorem dX4_allowHand_18 : decode cX4_allowHand 18 = .ok (.iaload, 1) := by decide +kernel
theorem dX4_allowHand_19 : decode cX4_allowHand 19 = .ok (.istore 5, 2) := by decide +kernel
theorem dX4_allowHand_21 : decode cX4_allowHand 21 = .ok (.aload_n 0, 1) := by decide +kernel
theorem dX4_allowHand_22 : decode cX4_allowHand 22 = .ok (.getfield 19, 3) := by decide +kernel
theorem dX4_allowHand_25 : decode cX4_allowHand 25 = .ok (.iload 4, 2) := by decide +kernel
theorem dX4_allowHand_27 : decode cX4_allowHand 27 = .ok (.iaload, 1) := by decide +kernel
theorem dX4_allowHand_28 : decode cX4_allowHand 28 = .ok (.iload_n 2, 1) := by decide +kernel
theorem dX4_allowHand_29 : decode cX4_allowHand 29 = .ok (.if_icmp .ne 75, 3) := by decide +kernel
theorem dX4_allowHand_32 : decode cX4_allowHand 32 = .ok (.aload_n 1, 1) := by decide +kernel
theorem dX4_allowHand_33 : decode cX4_allowHand 33 = .ok (.iload 5, 2) := by decide +kernel
theorem dX4_allowHand_35 : decode cX4_allowHand 35 = .ok (.invokevirtual 25, 3) := by decide +kernel
theorem dX4_allowHand_38 : decode cX4_allowHand 38 = .ok (.ifCond .ne 6, 3) := by decide +kernel
theorem dX4_allowHand_41 : decode cX4_allowHand 41 = .ok (.goto 63, 3) := by decide +kernel
theorem dX4_allowHand_44 : decode cX4_allowHand 44 = .ok (.aload_n 1, 1) := by decide +kernel
theorem dX4_allowHand_45 : decode cX4_allowHand 45 = .ok (.getfield 31, 3) := by decide +kernel
theorem dX4_allowHand_48 : decode cX4_allowHand 48 = .ok (.iload 5, 2) := by decide +kernel
theorem dX4_allowHand_50 : decode cX4_allowHand 50 = .ok (.iaload, 1) := by decide +kernel
theorem dX4_allowHand_51 : decode cX4_allowHand 51 = .ok (.aload_n 1, 1) := by decide +kernel
theorem dX4_allowHand_52 : decode cX4_allowHand 52 = .ok (.getfield 34, 3) := by decide +kernel
theorem dX4_allowHand_55 : decode cX4_allowHand 55 = .ok (.iload 5, 2) := by decide +kernel
theorem dX4_allowHand_57 : decode cX4_allowHand 57 = .ok (.iaload, 1) := by decide +kernel
theorem dX4_allowHand_58 : decode cX4_allowHand 58 = .ok (.aload_n 1, 1) := by decide +kernel
theorem dX4_allowHand_59 : decode cX4_allowHand 59 = .ok (.getfield 37, 3) := by decide +kernel
theorem dX4_allowHand_62 : decode cX4_allowHand 62 = .ok (.iload 5, 2) := by decide +kernel
theorem dX4_allowHand_64 : decode cX4_allowHand 64 = .ok (.iaload, 1) := by decide +kernel
theorem dX4_allowHand_65 : decode cX4_allowHand 65 = .ok (.invokestatic 40, 3) := by decide +kernel
theorem dX4_allowHand_68 : decode cX4_allowHand 68 = .ok (.istore 6, 2) := by decide +kernel
theorem dX4_allowHand_70 : decode cX4_allowHand 70 = .ok (.aload_n 1, 1) := by decide +kernel
theorem dX4_allowHand_71 : decode cX4_allowHand 71 = .ok (.getfield 31, 3) := by decide +kernel
theorem dX4_allowHand_74 : decode cX4_allowHand 74 = .ok (.iload 5, 2) := by decide +kernel
theorem dX4_allowHand_76 : decode cX4_allowHand 76 = .ok (.iaload, 1) := by decide +kernel
theorem dX4_allowHand_77 : decode cX4_allowHand 77 = .ok (.iload 6, 2) := by decide +kernel
theorem dX4_allowHand_79 : decode cX4_allowHand 79 = .ok (.iload_n 3, 1) := by decide +kernel
theorem dX4_allowHand_80 : decode cX4_allowHand 80 = .ok (.invokestatic 44, 3) := by decide +kernel
theorem dX4_allowHand_83 : decode cX4_allowHand 83 = .ok (.aload_n 0, 1) := by decide +kernel
theorem dX4_allowHand_84 : decode cX4_allowHand 84 = .ok (.getfield 22, 3) := by decide +kernel
theorem dX4_allowHand_87 : decode cX4_allowHand 87 = .ok (.iload 4, 2) := by decide +kernel
theorem dX4_allowHand_89 : decode cX4_allowHand 89 = .ok (.iaload, 1) := by decide +kernel
theorem dX4_allowHand_90 : decode cX4_allowHand 90 = .ok (.iconst 1, 1) := by decide +kernel
theorem dX4_allowHand_91 : decode cX4_allowHand 91 = .ok (.if_icmp .ne 7, 3) := by decide +kernel
theorem dX4_allowHand_94 : decode cX4_allowHand 94 = .ok (.iconst 1, 1) := by decide +kernel
theorem dX4_allowHand_95 : decode cX4_allowHand 95 = .ok (.goto 4, 3) := by decide +kernel
theorem dX4_allowHand_98 : decode cX4_allowHand 98 = .ok (.iconst 0, 1) := by decide +kernel
theorem dX4_allowHand_99 : decode cX4_allowHand 99 = .ok (.if_icmp .eq 5, 3) := by decide +kernel
theorem dX4_allowHand_102 : decode cX4_allowHand 102 = .ok (.iconst 0, 1) := by decide +kernel
theorem dX4_allowHand_103 : decode cX4_allowHand 103 = .ok (.ireturn, 1) := by decide +kernel
theorem dX4_allowHand_104 : decode cX4_allowHand 104 = .ok (.iinc 4 1, 3) := by decide +kernel
theorem dX4_allowHand_107 : decode cX4_allowHand 107 = .ok (.goto (-104), 3) := by decide +kernel
theorem dX4_allowHand_110 : decode cX4_allowHand 110 = .ok (.iconst 1, 1) := by decide +kernel
theorem dX4_allowHand_111 : decode cX4_allowHand 111 = .ok (.ireturn, 1) := by decide +kernel
set_option maxRecDepth 20000 in
theorem ggX4_allowGlove_X1_isPerson : GoodIn wsX4_allowGlove wsX1_isPerson := goodIn_r _ [11, 12, 13, 14, 15, 24, 25, 26, 27, 28, 29, 30, 31, 32, 33, 34, 35, 36] (by decide +kernel) (by decide +kernel)
set_option maxRecDepth 20000 in
theorem gX4_allowGlove_X1_isPerson : GoodIn wsX4_allowGlove (wsV RX4 48 RX1 yX1_isPerson wsX1_isPerson) := goodIn_app (goodIn_of _ (by decide +kernel)) ggX4_allowGlove_X1_isPerson
set_option maxRecDepth 20000 in
theorem ggX4_allowGlove_X5_sizeByNow : GoodIn wsX4_allowGlove wsX5_sizeByNow := goodIn_r _ [17] (by decide +kernel) (by decide +kernel)
set_option maxRecDepth 20000 in
theorem gX4_allowGlove_X5_sizeByNow_n40 : GoodIn wsX4_allowGlove (wsX5_sizeByNow) := ggX4_allowGlove_X5_sizeByNow
set_option maxRecDepth 20000 in
theorem ggX4_allowGlove_X5_isAsLarge : GoodIn wsX4_allowGlove wsX5_isAsLarge := goodIn_r _ [19] (by decide +kernel) (by decide +kernel)
set_option maxRecDepth 20000 in
theorem gX4_allowGlove_X5_isAsLarge_n44 : GoodIn wsX4_allowGlove (wsX5_isAsLarge) := ggX4_allowGlove_X5_isAsLarge
theorem dX4_allowGlove_0 : decode cX4_allowGlove 0 = .ok (.iconst 0, 1) := by decide +kernel
theorem dX4_allowGlove_1 : decode cX4_allowGlove 1 = .ok (.istore 5, 2) := by decide +kernel
theorem dX4_allowGlove_3 : decode cX4_allowGlove 3 = .ok (.iload 5, 2) := by decide +kernel
theorem dX4_allowGlove_5 : decode cX4_allowGlove 5 = .ok (.aload_n 0, 1) := by decide +kernel
theorem dX4_allowGlove_6 : decode cX4_allowGlove 6 = .ok (.getfield 9, 3) := by decide +kernel
theorem dX4_allowGlove_9 : decode cX4_allowGlove 9 = .ok (.if_icmp .ge 89, 3) := by decide +kernel
theorem dX4_allowGlove_12 : decode cX4_allowGlove 12 = .ok (.aload_n 0, 1) := by decide +kernel
theorem dX4_allowGlove_13 : decode cX4_allowGlove 13 = .ok (.getfield 19, 3) := by decide +kernel
theorem dX4_allowGlove_16 : decode cX4_allowGlove 16 = .ok (.iload 5, 2) := by decide +kernel
theorem dX4_allowGlove_18 : decode cX4_allowGlove 18 = .ok (.iaload, 1) := by decide +kernel
theorem dX4_allowGlove_19 : decode cX4_allowGlove 19 = .ok (.istore 6, 2) := by decide +kernel
theorem dX4_allowGlove_21 : decode cX4_allowGlove 21 = .ok (.aload_n 0, 1) := by decide +kernel
theorem dX4_allowGlove_22 : decode cX4_allowGlove 22 = .ok (.getfield 15, 3) := by decide +kernel
theorem dX4_allowGlove_25 : decode cX4_allowGlove 25 = .ok (.iload 5, 2) := by decide +kernel
theorem dX4_allowGlove_27 : decode cX4_allowGlove 27 = .ok (.iaload, 1) := by decide +kernel
theorem dX4_allowGlove_28 : decode cX4_allowGlove 28 = .ok (.iload_n 2, 1) := by decide +kernel
theorem dX4_allowGlove_29 : decode cX4_allowGlove 29 = .ok (.if_icmp .ne 63, 3) := by decide +kernel
theorem dX4_allowGlove_32 : decode cX4_allowGlove 32 = .ok (.aload_n 1, 1) := by decide +kernel
theorem dX4_allowGlove_33 : decode cX4_allowGlove 33 = .ok (.iload 6, 2) := by decide +kernel
theorem dX4_allowGlove_35 : decode cX4_allowGlove 35 = .ok (.invokevirtual 48, 3) := by decide +kernel
theorem dX4_allowGlove_38 : decode cX4_allowGlove 38 = .ok (.ifCond .ne 6, 3) := by decide +kernel
theorem dX4_allowGlove_41 : decode cX4_allowGlove 41 = .ok (.goto 51, 3) := by decide +kernel
theorem dX4_allowGlove_44 : decode cX4_allowGlove 44 = .ok (.iload_n 3, 1) := by decide +kernel
theorem dX4_allowGlove_45 : decode cX4_allowGlove 45 = .ok (.iload 4, 2) := by decide +kernel
theorem dX4_allowGlove_47 : decode cX4_allowGlove 47 = .ok (.aload_n 1, 1) := by decide +kernel
theorem dX4_allowGlove_48 : decode cX4_allowGlove 48 = .ok (.getfield 37, 3) := by decide +kernel
theorem dX4_allowGlove_51 : decode cX4_allowGlove 51 = .ok (.iload_n 2, 1) := by decide +kernel
theorem dX4_allowGlove_52 : decode cX4_allowGlove 52 = .ok (.iaload, 1) := by decide +kernel
theorem dX4_allowGlove_53 : decode cX4_allowGlove 53 = .ok (.invokestatic 40, 3) := by decide +kernel
theorem dX4_allowGlove_56 : decode cX4_allowGlove 56 = .ok (.istore 7, 2) := by decide +kernel
theorem dX4_allowGlove_58 : decode cX4_allowGlove 58 = .ok (.iload_n 3, 1) := by decide +kernel
theorem dX4_allowGlove_59 : decode cX4_allowGlove 59 = .ok (.iload 7, 2) := by decide +kernel
theorem dX4_allowGlove_61 : decode cX4_allowGlove 61 = .ok (.aload_n 1, 1) := by decide +kernel
theorem dX4_allowGlove_62 : decode cX4_allowGlove 62 = .ok (.getfield 51, 3) := by decide +kernel
theorem dX4_allowGlove_65 : decode cX4_allowGlove 65 = .ok (.iload 6, 2) := by decide +kernel
theorem dX4_allowGlove_67 : decode cX4_allowGlove 67 = .ok (.iaload, 1) := by decide +kernel
theorem dX4_allowGlove_68 : decode cX4_allowGlove 68 = .ok (.invokestatic 44, 3) := by decide +kernel
theorem dX4_allowGlove_71 : decode cX4_allowGlove 71 = .ok (.aload_n 0, 1) := by decide +kernel
theorem dX4_allowGlove_72 : decode cX4_allowGlove 72 = .ok (.getfield 22, 3) := by decide +kernel
theorem dX4_allowGlove_75 : decode cX4_allowGlove 75 = .ok (.iload 5, 2) := by decide +kernel
theorem dX4_allowGlove_77 : decode cX4_allowGlove 77 = .ok (.iaload, 1) := by decide +kernel
theorem dX4_allowGlove_78 : decode cX4_allowGlove 78 = .ok (.iconst 1, 1) := by decide +kernel
theorem dX4_allowGlove_79 : decode cX4_allowGlove 79 = .ok (.if_icmp .ne 7, 3) := by decide +kernel
theorem dX4_allowGlove_82 : decode cX4_allowGlove 82 = .ok (.iconst 1, 1) := by decide +kernel
theorem dX4_allowGlove_83 : decode cX4_allowGlove 83 = .ok (.goto 4, 3) := by decide +kernel
theorem dX4_allowGlove_86 : decode cX4_allowGlove 86 = .ok (.iconst 0, 1) := by decide +kernel
theorem dX4_allowGlove_87 : decode cX4_allowGlove 87 = .ok (.if_icmp .eq 5, 3) := by decide +kernel
theorem dX4_allowGlove_90 : decode cX4_allowGlove 90 = .ok (.iconst 0, 1) := by decide +kernel
theorem dX4_allowGlove_91 : decode cX4_allowGlove 91 = .ok (.ireturn, 1) := by decide +kernel
theorem dX4_allowGlove_92 : decode cX4_allowGlove 92 = .ok (.iinc 5 1, 3) := by decide +kernel
theorem dX4_allowGlove_95 : decode cX4_allowGlove 95 = .ok (.goto (-92), 3) := by decide +kernel
theorem dX4_allowGlove_98 : decode cX4_allowGlove 98 = .ok (.iconst 1, 1) := by decide +kernel
theorem dX4_allowGlove_99 : decode cX4_allowGlove 99 = .ok (.ireturn, 1) := by decide +kernel
set_option maxRecDepth 20000 in
theorem ggX5_init_X2_init : GoodIn wsX5_init wsX2_init := goodIn_r _ [28, 29, 2, 3, 30, 31, 32, 33, 34, 168, 169, 170, 171] (by decide +kernel) (by decide +kernel)
set_option maxRecDepth 20000 in
theorem gX5_init_X2_init_n9 : GoodIn wsX5_init (wsX2_init) := ggX5_init_X2_init
set_option maxRecDepth 20000 in
theorem ggX5_init_X1_init : GoodIn wsX5_init wsX1_init := goodIn_r _ [36, 37, 2, 3, 38, 39, 40, 41, 32, 42, 43, 44, 45, 46, 47, 48, 49, 50, 179, 180, 181, 182, 183, 184, 185, 186, 187, 188, 189, 190, 191] (by decide +kernel) (by decide +kernel)
set_option maxRecDepth 20000 in
theorem gX5_init_X1_init_n18 : GoodIn wsX5_init (wsX1_init) := ggX5_init_X1_init
set_option maxRecDepth 20000 in
theorem ggX5_init_X3_init : GoodIn wsX5_init wsX3_init := goodIn_r _ [53, 54, 2, 3, 55, 56, 57, 58, 59, 60, 61, 62, 9, 10, 35, 36, 37, 38, 39, 40, 41, 32, 42, 43, 44, 45, 46, 47, 48, 49, 50, 192, 193, 194, 179, 180, 181, 182, 183, 184, 185, 186, 187, 188, 189, 190, 191] (by decide +kernel) (by decide +kernel)
set_option maxRecDepth 20000 in
theorem gX5_init_X3_init : GoodIn wsX5_init (wsX3_init) := ggX5_init_X3_init
set_option maxRecDepth 20000 in
theorem ggX5_init_X4_init : GoodIn wsX5_init wsX4_init := goodIn_r _ [64, 65, 2, 3, 66, 32, 67, 68, 69, 195, 196, 197, 198] (by decide +kernel) (by decide +kernel)
set_option maxRecDepth 20000 in
theorem gX5_init_X4_init_n40 : GoodIn wsX5_init (wsX4_init) := ggX5_init_X4_init
set_option maxRecDepth 20000 in
theorem ggX5_init_X0_init : GoodIn wsX5_init wsX0_init := goodIn_r _ [71, 72, 2, 3, 73, 9, 10, 74, 35, 36, 37, 38, 39, 40, 41, 32, 42, 43, 44, 45, 46, 47, 48, 49, 50, 179, 180, 181, 182, 183, 184, 185, 186, 187, 188, 189, 190, 191, 199] (by decide +kernel) (by decide +kernel)
set_option maxRecDepth 20000 in
theorem gX5_init_X0_init_n47 : GoodIn wsX5_init (wsX0_init) := ggX5_init_X0_init
set_option maxRecDepth 20000 in
theorem ggX5_init_J0_length_8abf5 : GoodIn wsX5_init wsJ0_length_8abf5 := goodIn_r _ [79, 80, 81, 82, 83, 78, 84, 85, 86] (by decide +kernel) (by decide +kernel)
set_option maxRecDepth 20000 in
theorem gX5_init_J0_length_8abf5 : GoodIn wsX5_init (wsV RX5 54 RJ0 yJ0_length_8abf5 wsJ0_length_8abf5) := goodIn_app (goodIn_of _ (by decide +kernel)) ggX5_init_J0_length_8abf5
set_option maxRecDepth 20000 in
theorem ggX5_init_J0_charAt_5068e : GoodIn wsX5_init wsJ0_charAt_5068e := goodIn_r _ [90, 80, 91, 92, 93, 78, 94, 85, 86, 95, 96, 97, 98, 99, 100, 101, 102, 103, 104, 105, 106, 107, 108, 109, 110, 111, 112, 113, 114, 115, 116, 117, 118, 119, 120, 121, 122, 123] (by decide +kernel) (by decide +kernel)
set_option maxRecDepth 20000 in
theorem gX5_init_J0_charAt_5068e : GoodIn wsX5_init (wsV RX5 60 RJ0 yJ0_charAt_5068e wsJ0_charAt_5068e) := goodIn_app (goodIn_of _ (by decide +kernel)) ggX5_init_J0_charAt_5068e
set_option maxRecDepth 20000 in
theorem ggX5_init_X2_append : GoodIn wsX5_init wsX2_append := goodIn_r _ [127, 30, 33, 168, 169, 170, 171] (by decide +kernel) (by decide +kernel)
set_option maxRecDepth 20000 in
theorem gX5_init_X2_append : GoodIn wsX5_init (wsV RX5 64 RX2 yX2_append wsX2_append) := goodIn_app (goodIn_of _ (by decide +kernel)) ggX5_init_X2_append
set_option maxRecDepth 20000 in
theorem ggX5_init_X2_readInto : GoodIn wsX5_init wsX2_readInto := goodIn_r _ [131, 31, 30, 132, 133, 134, 10, 135, 38, 39, 40, 41, 136, 137, 138, 6, 139, 34, 140, 141, 142, 143, 33, 144, 145, 146, 147, 148, 58, 59, 60, 149, 150, 151, 152, 153, 154, 155, 42, 43, 44, 156, 157, 158, 159, 160, 161, 162, 163, 164, 165, 166, 167, 45, 46, 47, 48, 49, 50, 168, 169, 170, 171, 179, 180, 181, 182, 183, 184, 185, 186, 187, 188, 189, 190, 191] (by decide +kernel) (by decide +kernel)
set_option maxRecDepth 20000 in
theorem gX5_init_X2_readInto : GoodIn wsX5_init (wsV RX5 68 RX2 yX2_readInto wsX2_readInto) := goodIn_app (goodIn_of _ (by decide +kernel)) ggX5_init_X2_readInto
theorem dX5_init_0 : decode cX5_init 0 = .ok (.aload_n 0, 1) := by decide +kernel
theorem dX5_init_1 : decode cX5_init 1 = .ok (.invokespecial 1, 3) := by decide +kernel
theorem dX5_init_4 : decode cX5_init 4 = .ok (.aload_n 0, 1) := by decide +kernel
theorem dX5_init_5 : decode cX5_init 5 = .ok (.new 7, 3) := by decide +kernel
theorem dX5_init_8 : decode cX5_init 8 = .ok (.dup, 1) := by decide +kernel
theorem dX5_init_9 : decode cX5_init 9 = .ok (.invokespecial 9, 3) := by decide +kernel
theorem dX5_init_12 : decode cX5_init 12 = .ok (.putfield 10, 3) := by decide +kernel
theorem dX5_init_15 : decode cX5_init 15 = .ok (.aload_n 0, 1) := by decide +kernel
theorem dX5_init_16 : decode cX5_init 16 = .ok (.new 16, 3) := by decide +kernel
theorem dX5_init_19 : decode cX5_init 19 = .ok (.dup, 1) := by decide +kernel
theorem dX5_init_20 : decode cX5_init 20 = .ok (.invokespecial 18, 3) := by decide +kernel
theorem dX5_init_23 : decode cX5_init 23 = .ok (.putfield 19, 3) := by decide +kernel
theorem dX5_init_26 : decode cX5_init 26 = .ok (.aload_n 0, 1) := by decide +kernel
theorem dX5_init_27 : decode cX5_init 27 = .ok (.new 16, 3) := by decide +kernel
theorem dX5_init_30 : decode cX5_init 30 = .ok (.dup, 1) := by decide +kernel
theorem dX5_init_31 : decode cX5_init 31 = .ok (.invokespecial 18, 3) := by decide +kernel
theorem dX5_init_34 : decode cX5_init 34 = .ok (.putfield 23, 3) := by decide +kernel
theorem dX5_init_37 : decode cX5_init 37 = .ok (.aload_n 0, 1) := by decide +kernel
theorem dX5_init_38 : decode cX5_init 38 = .ok (.new 26, 3) := by decide +kernel
theorem dX5_init_41 : decode cX5_init 41 = .ok (.dup, 1) := by decide +kernel
theorem dX5_init_42 : decode cX5_init 42 = .ok (.bipush 8, 2) := by decide +kernel
theorem dX5_init_44 : decode cX5_init 44 = .ok (.invokespecial 28, 3) := by decide +kernel
theorem dX5_init_47 : decode cX5_init 47 = .ok (.putfield 31, 3) := by decide +kernel
theorem dX5_init_50 : decode cX5_init 50 = .ok (.aload_n 0, 1) := by decide +kernel
theorem dX5_init_51 : decode cX5_init 51 = .ok (.new 26, 3) := by decide +kernel
theorem dX5_init_54 : decode cX5_init 54 = .ok (.dup, 1) := by decide +kernel
theorem dX5_init_55 : decode cX5_init 55 = .ok (.iconst 2, 1) := by decide +kernel
theorem dX5_init_56 : decode cX5_init 56 = .ok (.invokespecial 28, 3) := by decide +kernel
theorem dX5_init_59 : decode cX5_init 59 = .ok (.putfield 35, 3) := by decide +kernel
theorem dX5_init_62 : decode cX5_init 62 = .ok (.aload_n 0, 1) := by decide +kernel
theorem dX5_init_63 : decode cX5_init 63 = .ok (.new 38, 3) := by decide +kernel
theorem dX5_init_66 : decode cX5_init 66 = .ok (.dup, 1) := by decide +kernel
theorem dX5_init_67 : decode cX5_init 67 = .ok (.invokespecial 40, 3) := by decide +kernel
theorem dX5_init_70 : decode cX5_init 70 = .ok (.putfield 41, 3) := by decide +kernel
theorem dX5_init_73 : decode cX5_init 73 = .ok (.aload_n 0, 1) := by decide +kernel
theorem dX5_init_74 : decode cX5_init 74 = .ok (.new 45, 3) := by decide +kernel
theorem dX5_init_77 : decode cX5_init 77 = .ok (.dup, 1) := by decide +kernel
theorem dX5_init_78 : decode cX5_init 78 = .ok (.invokespecial 47, 3) := by decide +kernel
theorem dX5_init_81 : decode cX5_init 81 = .ok (.putfield 48, 3) := by decide +kernel
theorem dX5_init_84 : decode cX5_init 84 = .ok (.iconst 0, 1) := by decide +kernel
theorem dX5_init_85 : decode cX5_init 85 = .ok (.istore_n 1, 1) := by decide +kernel
theorem dX5_init_86 : decode cX5_init 86 = .ok (.iload_n 1, 1) := by decide +kernel
theorem dX5_init_87 : decode cX5_init 87 = .ok (.ldc 52, 2) := by decide +kernel
theorem dX5_init_89 : decode cX5_init 89 = .ok (.invokevirtual 54, 3) := by decide +kernel
theorem dX5_init_92 : decode cX5_init 92 = .ok (.if_icmp .ge 23, 3) := by decide +kernel
theorem dX5_init_95 : decode cX5_init 95 = .ok (.aload_n 0, 1) := by decide +kernel
theorem dX5_init_96 : decode cX5_init 96 = .ok (.getfield 10, 3) := by decide +kernel
theorem dX5_init_99 : decode cX5_init 99 = .ok (.ldc 52, 2) := by decide +kernel
theorem dX5_init_101 : decode cX5_init 101 = .ok (.iload_n 1, 1) := by decide +kernel
theorem dX5_init_102 : decode cX5_init 102 = .ok (.invokevirtual 60, 3) := by decide +kernel
theorem dX5_init_105 : decode cX5_init 105 = .ok (.invokevirtual 64, 3) := by decide +kernel
theorem dX5_init_108 : decode cX5_init 108 = .ok (.pop, 1) := by decide +kernel
theorem dX5_init_109 : decode cX5_init 109 = .ok (.iinc 1 1, 3) := by decide +kernel
theorem dX5_init_112 : decode cX5_init 112 = .ok (.goto (-26), 3) := by decide +kernel
theorem dX5_init_115 : decode cX5_init 115 = .ok (.aload_n 0, 1) := by decide +kernel
theorem dX5_init_116 : decode cX5_init 116 = .ok (.getfield 10, 3) := by decide +kernel
theorem dX5_init_119 : decode cX5_init 119 = .ok (.aload_n 0, 1) := by decide +kernel
theorem dX5_init_120 : decode cX5_init 120 = .ok (.getfield 19, 3) := by decide +kernel
theorem dX5_init_123 : decode cX5_init 123 = .ok (.invokevirtual 68, 3) := by decide +kernel
theorem dX5_init_126 : decode cX5_init 126 = .ok (.pop, 1) := by decide +kernel
theorem dX5_init_127 : decode cX5_init 127 = .ok (.aload_n 0, 1) := by decide +kernel
theorem dX5_init_128 : decode cX5_init 128 = .ok (.getfield 10, 3) := by decide +kernel
theorem dX5_init_131 : decode cX5_init 131 = .ok (.iconst 0, 1) := by decide +kernel
theorem dX5_init_132 : decode cX5_init 132 = .ok (.putfield 72, 3) := by decide +kernel
theorem dX5_init_135 : decode cX5_init 135 = .ok (.return_, 1) := by decide +kernel
set_option maxRecDepth 20000 in
theorem ggX5_write_X5_within : GoodIn wsX5_write wsX5_within := goodIn_r _ [6] (by decide +kernel) (by decide +kernel)
set_option maxRecDepth 20000 in
theorem gX5_write_X5_within : GoodIn wsX5_write (va_wsS RX5 75 yX5_within wsX5_within) := goodIn_app (goodIn_of _ (by decide +kernel)) ggX5_write_X5_within
set_option maxRecDepth 20000 in
theorem ggX5_write_X2_append : GoodIn wsX5_write wsX2_append := goodIn_r _ [11, 12, 13, 21, 22, 23, 24] (by decide +kernel) (by decide +kernel)
set_option maxRecDepth 20000 in
theorem gX5_write_X2_append : GoodIn wsX5_write (wsV RX5 64 RX2 yX2_append wsX2_append) := goodIn_app (goodIn_of _ (by decide +kernel)) ggX5_write_X2_append
theorem dX5_write_0 : decode cX5_write 0 = .ok (.iload_n 1, 1) := by decide +kernel
theorem dX5_write_1 : decode cX5_write 1 = .ok (.bipush 32, 2) := by decide +kernel
theorem dX5_write_3 : decode cX5_write 3 = .ok (.bipush 126, 2) := by decide +kernel
theorem dX5_write_5 : decode cX5_write 5 = .ok (.invokestatic 75, 3) := by decide +kernel
theorem dX5_write_8 : decode cX5_write 8 = .ok (.ifCond .ne 5, 3) := by decide +kernel
theorem dX5_write_11 : decode cX5_write 11 = .ok (.iconst (-1), 1) := by decide +kernel
theorem dX5_write_12 : decode cX5_write 12 = .ok (.ireturn, 1) := by decide +kernel
theorem dX5_write_13 : decode cX5_write 13 = .ok (.aload_n 0, 1) := by decide +kernel
theorem dX5_write_14 : decode cX5_write 14 = .ok (.getfield 10, 3) := by decide +kernel
theorem dX5_write_17 : decode cX5_write 17 = .ok (.iload_n 1, 1) := by decide +kernel
theorem dX5_write_18 : decode cX5_write 18 = .ok (.invokevirtual 64, 3) := by decide +kernel
theorem dX5_write_21 : decode cX5_write 21 = .ok (.ifCond .eq 13, 3) := by decide +kernel
theorem dX5_write_24 : decode cX5_write 24 = .ok (.aload_n 0, 1) := by decide +kernel
theorem dX5_write_25 : decode cX5_write 25 = .ok (.getfield 10, 3) := by decide +kernel
theorem dX5_write_28 : decode cX5_write 28 = .ok (.getfield 72, 3) := by decide +kernel
theorem dX5_write_31 : decode cX5_write 31 = .ok (.goto 5, 3) := by decide +kernel
theorem dX5_write_34 : decode cX5_write 34 = .ok (.bipush (-3), 2) := by decide +kernel
theorem dX5_write_36 : decode cX5_write 36 = .ok (.ireturn, 1) := by decide +kernel
theorem dX5_wipe_0 : decode cX5_wipe 0 = .ok (.aload_n 0, 1) := by decide +kernel
theorem dX5_wipe_1 : decode cX5_wipe 1 = .ok (.getfield 10, 3) := by decide +kernel
theorem dX5_wipe_4 : decode cX5_wipe 4 = .ok (.getfield 72, 3) := by decide +kernel
theorem dX5_wipe_7 : decode cX5_wipe 7 = .ok (.istore_n 1, 1) := by decide +kernel
theorem dX5_wipe_8 : decode cX5_wipe 8 = .ok (.aload_n 0, 1) := by decide +kernel
theorem dX5_wipe_9 : decode cX5_wipe 9 = .ok (.getfield 10, 3) := by decide +kernel
theorem dX5_wipe_12 : decode cX5_wipe 12 = .ok (.iconst 0, 1) := by decide +kernel
theorem dX5_wipe_13 : decode cX5_wipe 13 = .ok (.putfield 72, 3) := by decide +kernel
theorem dX5_wipe_16 : decode cX5_wipe 16 = .ok (.iload_n 1, 1) := by decide +kernel
theorem dX5_wipe_17 : decode cX5_wipe 17 = .ok (.ireturn, 1) := by decide +kernel
set_option maxRecDepth 20000 in
theorem ggX5_fault_X2_readInto : GoodIn wsX5_fault wsX2_readInto := goodIn_r _ [7, 8, 9, 10, 11, 12, 13, 14, 15, 16, 17, 18, 19, 20, 21, 6, 22, 23, 24, 25, 26, 27, 28, 29, 30, 31, 32, 33, 34, 35, 36, 37, 38, 39, 40, 41, 42, 43, 44, 45, 46, 47, 48, 49, 50, 51, 52, 53, 54, 55, 56, 57, 58, 59, 60, 61, 62, 63, 64, 72, 73, 74, 75, 76, 77, 78, 79, 80, 81, 82, 83, 84, 85, 86, 87, 88] (by decide +kernel) (by decide +kernel)
set_option maxRecDepth 20000 in
theorem gX5_fault_X2_readInto : GoodIn wsX5_fault (wsV RX5 68 RX2 yX2_readInto wsX2_readInto) := goodIn_app (goodIn_of _ (by decide +kernel)) ggX5_fault_X2_readInto
theorem dX5_fault_0 : decode cX5_fault 0 = .ok (.aload_n 0, 1) := by decide +kernel
theorem dX5_fault_1 : decode cX5_fault 1 = .ok (.getfield 10, 3) := by decide +kernel
theorem dX5_fault_4 : decode cX5_fault 4 = .ok (.aload_n 0, 1) := by decide +kernel
theorem dX5_fault_5 : decode cX5_fault 5 = .ok (.getfield 23, 3) := by decide +kernel
theorem dX5_fault_8 : decode cX5_fault 8 = .ok (.invokevirtual 68, 3) := by decide +kernel
theorem dX5_fault_11 : decode cX5_fault 11 = .ok (.ireturn, 1) := by decide +kernel
set_option maxRecDepth 20000 in
theorem ggX5_lay_X2_readInto : GoodIn wsX5_lay wsX2_readInto := goodIn_r _ [14, 15, 16, 17, 18, 19, 20, 21, 22, 23, 24, 25, 26, 27, 28, 13, 29, 30, 31, 32, 33, 34, 35, 36, 37, 38, 39, 40, 41, 42, 43, 44, 45, 46, 47, 48, 49, 50, 51, 52, 53, 54, 55, 56, 57, 58, 59, 60, 61, 62, 63, 64, 65, 66, 67, 68, 69, 70, 71, 107, 108, 109, 110, 87, 88, 89, 90, 91, 92, 93, 94, 95, 96, 97, 98, 99] (by decide +kernel) (by decide +kernel)
set_option maxRecDepth 20000 in
theorem gX5_lay_X2_readInto : GoodIn wsX5_lay (wsV RX5 68 RX2 yX2_readInto wsX2_readInto) := goodIn_app (goodIn_of _ (by decide +kernel)) ggX5_lay_X2_readInto
set_option maxRecDepth 20000 in
theorem ggX5_lay_X1_copyFrom : GoodIn wsX5_lay wsX1_copyFrom := goodIn_r _ [75, 22, 23, 24, 25, 51, 76, 77, 78, 79, 52, 53, 66, 67, 68, 69, 70, 71, 87, 88, 89, 90, 91, 92, 93, 94, 95, 96, 97, 98, 99] (by decide +kernel) (by decide +kernel)
set_option maxRecDepth 20000 in
theorem gX5_lay_X1_copyFrom : GoodIn wsX5_lay (wsV RX5 82 RX1 yX1_copyFrom wsX1_copyFrom) := goodIn_app (goodIn_of _ (by decide +kernel)) ggX5_lay_X1_copyFrom
theorem dX5_lay_0 : decode cX5_lay 0 = .ok (.aload_n 0, 1) := by decide +kernel
theorem dX5_lay_1 : decode cX5_lay 1 = .ok (.getfield 10, 3) := by decide +kernel
theorem dX5_lay_4 : decode cX5_lay 4 = .ok (.aload_n 0, 1) := by decide +kernel
theorem dX5_lay_5 : decode cX5_lay 5 = .ok (.getfield 23, 3) := by decide +kernel
theorem dX5_lay_8 : decode cX5_lay 8 = .ok (.invokevirtual 68, 3) := by decide +kernel
theorem dX5_lay_11 : decode cX5_lay 11 = .ok (.bipush (-4), 2) := by decide +kernel
theorem dX5_lay_13 : decode cX5_lay 13 = .ok (.if_icmp .ne 14, 3) := by decide +kernel
theorem dX5_lay_16 : decode cX5_lay 16 = .ok (.aload_n 0, 1) := by decide +kernel
theorem dX5_lay_17 : decode cX5_lay 17 = .ok (.getfield 23, 3) := by decide +kernel
theorem dX5_lay_20 : decode cX5_lay 20 = .ok (.getfield 79, 3) := by decide +kernel
theorem dX5_lay_23 : decode cX5_lay 23 = .ok (.iconst 2, 1) := by decide +kernel
theorem dX5_lay_24 : decode cX5_lay 24 = .ok (.if_icmp .ge 6, 3) := by decide +kernel
theorem dX5_lay_27 : decode cX5_lay 27 = .ok (.bipush (-2), 2) := by decide +kernel
theorem dX5_lay_29 : decode cX5_lay 29 = .ok (.ireturn, 1) := by decide +kernel
theorem dX5_lay_30 : decode cX5_lay 30 = .ok (.aload_n 0, 1) := by decide +kernel
theorem dX5_lay_31 : decode cX5_lay 31 = .ok (.getfield 19, 3) := by decide +kernel
theorem dX5_lay_34 : decode cX5_lay 34 = .ok (.aload_n 0, 1) := by decide +kernel
theorem dX5_lay_35 : decode cX5_lay 35 = .ok (.getfield 23, 3) := by decide +kernel
theorem dX5_lay_38 : decode cX5_lay 38 = .ok (.invokevirtual 82, 3) := by decide +kernel
theorem dX5_lay_41 : decode cX5_lay 41 = .ok (.aload_n 0, 1) := by decide +kernel
theorem dX5_lay_42 : decode cX5_lay 42 = .ok (.getfield 31, 3) := by decide +kernel
theorem dX5_lay_45 : decode cX5_lay 45 = .ok (.iconst 0, 1) := by decide +kernel
theorem dX5_lay_46 : decode cX5_lay 46 = .ok (.putfield 86, 3) := by decide +kernel
theorem dX5_lay_49 : decode cX5_lay 49 = .ok (.aload_n 0, 1) := by decide +kernel
theorem dX5_lay_50 : decode cX5_lay 50 = .ok (.getfield 35, 3) := by decide +kernel
theorem dX5_lay_53 : decode cX5_lay 53 = .ok (.iconst 0, 1) := by decide +kernel
theorem dX5_lay_54 : decode cX5_lay 54 = .ok (.putfield 86, 3) := by decide +kernel
theorem dX5_lay_57 : decode cX5_lay 57 = .ok (.aload_n 0, 1) := by decide +kernel
theorem dX5_lay_58 : decode cX5_lay 58 = .ok (.getfield 41, 3) := by decide +kernel
theorem dX5_lay_61 : decode cX5_lay 61 = .ok (.iconst 0, 1) := by decide +kernel
theorem dX5_lay_62 : decode cX5_lay 62 = .ok (.putfield 89, 3) := by decide +kernel
theorem dX5_lay_65 : decode cX5_lay 65 = .ok (.aload_n 0, 1) := by decide +kernel
theorem dX5_lay_66 : decode cX5_lay 66 = .ok (.getfield 19, 3) := by decide +kernel
theorem dX5_lay_69 : decode cX5_lay 69 = .ok (.getfield 79, 3) := by decide +kernel
theorem dX5_lay_72 : decode cX5_lay 72 = .ok (.ireturn, 1) := by decide +kernel
set_option maxRecDepth 20000 in
theorem ggX5_person_X1_isPerson : GoodIn wsX5_person wsX1_isPerson := goodIn_r _ [9, 10, 11, 12, 13, 21, 22, 23, 24, 25, 26, 27, 28, 29, 30, 31, 32, 33] (by decide +kernel) (by decide +kernel)
set_option maxRecDepth 20000 in
theorem gX5_person_X1_isPerson : GoodIn wsX5_person (wsV RX5 90 RX1 yX1_isPerson wsX1_isPerson) := goodIn_app (goodIn_of _ (by decide +kernel)) ggX5_person_X1_isPerson
theorem dX5_person_0 : decode cX5_person 0 = .ok (.aload_n 0, 1) := by decide +kernel
