theorem dX6_safe_85 : decode cX6_safe 85 = .ok (.aload_n 0, 1) := by decide +kernel
theorem dX6_safe_86 : decode cX6_safe 86 = .ok (.getfield 25, 3) := by decide +kernel
theorem dX6_safe_89 : decode cX6_safe 89 = .ok (.iconst 3, 1) := by decide +kernel
theorem dX6_safe_90 : decode cX6_safe 90 = .ok (.dup2, 1) := by decide +kernel
theorem dX6_safe_91 : decode cX6_safe 91 = .ok (.iaload, 1) := by decide +kernel
theorem dX6_safe_92 : decode cX6_safe 92 = .ok (.iload 5, 2) := by decide +kernel
theorem dX6_safe_94 : decode cX6_safe 94 = .ok (.iconst (-1), 1) := by decide +kernel
theorem dX6_safe_95 : decode cX6_safe 95 = .ok (.ixor, 1) := by decide +kernel
theorem dX6_safe_96 : decode cX6_safe 96 = .ok (.iand, 1) := by decide +kernel
theorem dX6_safe_97 : decode cX6_safe 97 = .ok (.iastore, 1) := by decide +kernel
theorem dX6_safe_98 : decode cX6_safe 98 = .ok (.aload_n 0, 1) := by decide +kernel
theorem dX6_safe_99 : decode cX6_safe 99 = .ok (.iload_n 2, 1) := by decide +kernel
theorem dX6_safe_100 : decode cX6_safe 100 = .ok (.invokevirtual 142, 3) := by decide +kernel
theorem dX6_safe_103 : decode cX6_safe 103 = .ok (.aload_n 0, 1) := by decide +kernel
theorem dX6_safe_104 : decode cX6_safe 104 = .ok (.getfield 25, 3) := by decide +kernel
theorem dX6_safe_107 : decode cX6_safe 107 = .ok (.iconst 4, 1) := by decide +kernel
theorem dX6_safe_108 : decode cX6_safe 108 = .ok (.iload_n 1, 1) := by decide +kernel
theorem dX6_safe_109 : decode cX6_safe 109 = .ok (.iadd, 1) := by decide +kernel
theorem dX6_safe_110 : decode cX6_safe 110 = .ok (.iaload, 1) := by decide +kernel
theorem dX6_safe_111 : decode cX6_safe 111 = .ok (.ifCond .le 8, 3) := by decide +kernel
theorem dX6_safe_114 : decode cX6_safe 114 = .ok (.iload 5, 2) := by decide +kernel
theorem dX6_safe_116 : decode cX6_safe 116 = .ok (.goto 5, 3) := by decide +kernel
theorem dX6_safe_119 : decode cX6_safe 119 = .ok (.iload 4, 2) := by decide +kernel
theorem dX6_safe_121 : decode cX6_safe 121 = .ok (.istore 4, 2) := by decide +kernel
theorem dX6_safe_123 : decode cX6_safe 123 = .ok (.iinc 5 1, 3) := by decide +kernel
theorem dX6_safe_126 : decode cX6_safe 126 = .ok (.goto (-87), 3) := by decide +kernel
theorem dX6_safe_129 : decode cX6_safe 129 = .ok (.iload 4, 2) := by decide +kernel
theorem dX6_safe_131 : decode cX6_safe 131 = .ok (.bipush (-4), 2) := by decide +kernel
theorem dX6_safe_133 : decode cX6_safe 133 = .ok (.if_icmp .eq 8, 3) := by decide +kernel
theorem dX6_safe_136 : decode cX6_safe 136 = .ok (.iload_n 3, 1) := by decide +kernel
theorem dX6_safe_137 : decode cX6_safe 137 = .ok (.iconst 1, 1) := by decide +kernel
theorem dX6_safe_138 : decode cX6_safe 138 = .ok (.if_icmp .ne 8, 3) := by decide +kernel
theorem dX6_safe_141 : decode cX6_safe 141 = .ok (.iload 4, 2) := by decide +kernel
theorem dX6_safe_143 : decode cX6_safe 143 = .ok (.goto 8, 3) := by decide +kernel
theorem dX6_safe_146 : decode cX6_safe 146 = .ok (.iload 4, 2) := by decide +kernel
theorem dX6_safe_148 : decode cX6_safe 148 = .ok (.invokestatic 155, 3) := by decide +kernel
theorem dX6_safe_151 : decode cX6_safe 151 = .ok (.ireturn, 1) := by decide +kernel
set_option maxRecDepth 20000 in
theorem ggX6_isTakenBy_X6_lowestFit : GoodIn wsX6_isTakenBy wsX6_lowestFit := goodIn_r _ [7, 8, 9, 10, 6, 11, 2, 1, 12, 13, 14, 15, 16, 17, 25, 26, 27, 28, 29, 30, 31, 32, 33, 34, 35, 36, 37, 38, 39] (by decide +kernel) (by decide +kernel)
set_option maxRecDepth 20000 in
theorem gX6_isTakenBy_X6_lowestFit : GoodIn wsX6_isTakenBy (wsV RX6 117 RX6 yX6_lowestFit wsX6_lowestFit) := goodIn_app (goodIn_of _ (by decide +kernel)) ggX6_isTakenBy_X6_lowestFit
set_option maxRecDepth 20000 in
theorem ggX6_isTakenBy_X6_goWear : GoodIn wsX6_isTakenBy wsX6_goWear := goodIn_r _ [21, 2, 22, 23, 6, 24, 25, 26, 27, 28, 29, 30, 31, 32, 33, 34, 35, 36, 37, 38, 39] (by decide +kernel) (by decide +kernel)
set_option maxRecDepth 20000 in
theorem gX6_isTakenBy_X6_goWear : GoodIn wsX6_isTakenBy (wsV RX6 120 RX6 yX6_goWear wsX6_goWear) := goodIn_app (goodIn_of _ (by decide +kernel)) ggX6_isTakenBy_X6_goWear
set_option maxRecDepth 20000 in
theorem ggX6_isTakenBy_X6_has : GoodIn wsX6_isTakenBy wsX6_has := goodIn_r _ [14] (by decide +kernel) (by decide +kernel)
set_option maxRecDepth 20000 in
theorem gX6_isTakenBy_X6_has : GoodIn wsX6_isTakenBy (va_wsS RX6 102 yX6_has wsX6_has) := goodIn_app (goodIn_of _ (by decide +kernel)) ggX6_isTakenBy_X6_has
theorem dX6_isTakenBy_0 : decode cX6_isTakenBy 0 = .ok (.iconst 0, 1) := by decide +kernel
theorem dX6_isTakenBy_1 : decode cX6_isTakenBy 1 = .ok (.istore_n 3, 1) := by decide +kernel
theorem dX6_isTakenBy_2 : decode cX6_isTakenBy 2 = .ok (.iload_n 3, 1) := by decide +kernel
theorem dX6_isTakenBy_3 : decode cX6_isTakenBy 3 = .ok (.bipush 30, 2) := by decide +kernel
theorem dX6_isTakenBy_5 : decode cX6_isTakenBy 5 = .ok (.if_icmp .ge 141, 3) := by decide +kernel
theorem dX6_isTakenBy_8 : decode cX6_isTakenBy 8 = .ok (.iconst 0, 1) := by decide +kernel
theorem dX6_isTakenBy_9 : decode cX6_isTakenBy 9 = .ok (.istore 4, 2) := by decide +kernel
theorem dX6_isTakenBy_11 : decode cX6_isTakenBy 11 = .ok (.iload 4, 2) := by decide +kernel
theorem dX6_isTakenBy_13 : decode cX6_isTakenBy 13 = .ok (.aload_n 0, 1) := by decide +kernel
theorem dX6_isTakenBy_14 : decode cX6_isTakenBy 14 = .ok (.getfield 13, 3) := by decide +kernel
theorem dX6_isTakenBy_17 : decode cX6_isTakenBy 17 = .ok (.iconst 0, 1) := by decide +kernel
theorem dX6_isTakenBy_18 : decode cX6_isTakenBy 18 = .ok (.iaload, 1) := by decide +kernel
theorem dX6_isTakenBy_19 : decode cX6_isTakenBy 19 = .ok (.if_icmp .ge 69, 3) := by decide +kernel
theorem dX6_isTakenBy_22 : decode cX6_isTakenBy 22 = .ok (.aload_n 0, 1) := by decide +kernel
theorem dX6_isTakenBy_23 : decode cX6_isTakenBy 23 = .ok (.getfield 13, 3) := by decide +kernel
theorem dX6_isTakenBy_26 : decode cX6_isTakenBy 26 = .ok (.bipush 7, 2) := by decide +kernel
theorem dX6_isTakenBy_28 : decode cX6_isTakenBy 28 = .ok (.iload 4, 2) := by decide +kernel
theorem dX6_isTakenBy_30 : decode cX6_isTakenBy 30 = .ok (.iadd, 1) := by decide +kernel
theorem dX6_isTakenBy_31 : decode cX6_isTakenBy 31 = .ok (.iaload, 1) := by decide +kernel
theorem dX6_isTakenBy_32 : decode cX6_isTakenBy 32 = .ok (.iconst 1, 1) := by decide +kernel
theorem dX6_isTakenBy_33 : decode cX6_isTakenBy 33 = .ok (.if_icmp .ne 12, 3) := by decide +kernel
theorem dX6_isTakenBy_36 : decode cX6_isTakenBy 36 = .ok (.aload_n 0, 1) := by decide +kernel
theorem dX6_isTakenBy_37 : decode cX6_isTakenBy 37 = .ok (.iload 4, 2) := by decide +kernel
theorem dX6_isTakenBy_39 : decode cX6_isTakenBy 39 = .ok (.invokevirtual 117, 3) := by decide +kernel
theorem dX6_isTakenBy_42 : decode cX6_isTakenBy 42 = .ok (.goto 5, 3) := by decide +kernel
theorem dX6_isTakenBy_45 : decode cX6_isTakenBy 45 = .ok (.bipush (-4), 2) := by decide +kernel
theorem dX6_isTakenBy_47 : decode cX6_isTakenBy 47 = .ok (.istore 5, 2) := by decide +kernel
theorem dX6_isTakenBy_49 : decode cX6_isTakenBy 49 = .ok (.iload 5, 2) := by decide +kernel
theorem dX6_isTakenBy_51 : decode cX6_isTakenBy 51 = .ok (.iload_n 1, 1) := by decide +kernel
theorem dX6_isTakenBy_52 : decode cX6_isTakenBy 52 = .ok (.if_icmp .ne 15, 3) := by decide +kernel
theorem dX6_isTakenBy_55 : decode cX6_isTakenBy 55 = .ok (.iload 4, 2) := by decide +kernel
theorem dX6_isTakenBy_57 : decode cX6_isTakenBy 57 = .ok (.iload_n 2, 1) := by decide +kernel
theorem dX6_isTakenBy_58 : decode cX6_isTakenBy 58 = .ok (.if_icmp .ne 7, 3) := by decide +kernel
theorem dX6_isTakenBy_61 : decode cX6_isTakenBy 61 = .ok (.iconst 1, 1) := by decide +kernel
theorem dX6_isTakenBy_62 : decode cX6_isTakenBy 62 = .ok (.goto 4, 3) := by decide +kernel
theorem dX6_isTakenBy_65 : decode cX6_isTakenBy 65 = .ok (.iconst 0, 1) := by decide +kernel
theorem dX6_isTakenBy_66 : decode cX6_isTakenBy 66 = .ok (.ireturn, 1) := by decide +kernel
theorem dX6_isTakenBy_67 : decode cX6_isTakenBy 67 = .ok (.iload 5, 2) := by decide +kernel
theorem dX6_isTakenBy_69 : decode cX6_isTakenBy 69 = .ok (.bipush (-4), 2) := by decide +kernel
theorem dX6_isTakenBy_71 : decode cX6_isTakenBy 71 = .ok (.if_icmp .eq 11, 3) := by decide +kernel
theorem dX6_isTakenBy_74 : decode cX6_isTakenBy 74 = .ok (.aload_n 0, 1) := by decide +kernel
theorem dX6_isTakenBy_75 : decode cX6_isTakenBy 75 = .ok (.iload 4, 2) := by decide +kernel
theorem dX6_isTakenBy_77 : decode cX6_isTakenBy 77 = .ok (.iload 5, 2) := by decide +kernel
theorem dX6_isTakenBy_79 : decode cX6_isTakenBy 79 = .ok (.invokevirtual 120, 3) := by decide +kernel
theorem dX6_isTakenBy_82 : decode cX6_isTakenBy 82 = .ok (.iinc 4 1, 3) := by decide +kernel
theorem dX6_isTakenBy_85 : decode cX6_isTakenBy 85 = .ok (.goto (-74), 3) := by decide +kernel
theorem dX6_isTakenBy_88 : decode cX6_isTakenBy 88 = .ok (.iconst 0, 1) := by decide +kernel
theorem dX6_isTakenBy_89 : decode cX6_isTakenBy 89 = .ok (.istore 4, 2) := by decide +kernel
theorem dX6_isTakenBy_91 : decode cX6_isTakenBy 91 = .ok (.iload 4, 2) := by decide +kernel
theorem dX6_isTakenBy_93 : decode cX6_isTakenBy 93 = .ok (.aload_n 0, 1) := by decide +kernel
theorem dX6_isTakenBy_94 : decode cX6_isTakenBy 94 = .ok (.getfield 25, 3) := by decide +kernel
theorem dX6_isTakenBy_97 : decode cX6_isTakenBy 97 = .ok (.iconst 2, 1) := by decide +kernel
theorem dX6_isTakenBy_98 : decode cX6_isTakenBy 98 = .ok (.iaload, 1) := by decide +kernel
theorem dX6_isTakenBy_99 : decode cX6_isTakenBy 99 = .ok (.if_icmp .ge 41, 3) := by decide +kernel
theorem dX6_isTakenBy_102 : decode cX6_isTakenBy 102 = .ok (.aload_n 0, 1) := by decide +kernel
theorem dX6_isTakenBy_103 : decode cX6_isTakenBy 103 = .ok (.getfield 25, 3) := by decide +kernel
theorem dX6_isTakenBy_106 : decode cX6_isTakenBy 106 = .ok (.bipush 34, 2) := by decide +kernel
theorem dX6_isTakenBy_108 : decode cX6_isTakenBy 108 = .ok (.iload 4, 2) := by decide +kernel
theorem dX6_isTakenBy_110 : decode cX6_isTakenBy 110 = .ok (.iadd, 1) := by decide +kernel
theorem dX6_isTakenBy_111 : decode cX6_isTakenBy 111 = .ok (.dup2, 1) := by decide +kernel
theorem dX6_isTakenBy_112 : decode cX6_isTakenBy 112 = .ok (.iaload, 1) := by decide +kernel
theorem dX6_isTakenBy_113 : decode cX6_isTakenBy 113 = .ok (.aload_n 0, 1) := by decide +kernel
theorem dX6_isTakenBy_114 : decode cX6_isTakenBy 114 = .ok (.getfield 25, 3) := by decide +kernel
theorem dX6_isTakenBy_117 : decode cX6_isTakenBy 117 = .ok (.iconst 3, 1) := by decide +kernel
theorem dX6_isTakenBy_118 : decode cX6_isTakenBy 118 = .ok (.iaload, 1) := by decide +kernel
theorem dX6_isTakenBy_119 : decode cX6_isTakenBy 119 = .ok (.iload 4, 2) := by decide +kernel
theorem dX6_isTakenBy_121 : decode cX6_isTakenBy 121 = .ok (.invokestatic 102, 3) := by decide +kernel
theorem dX6_isTakenBy_124 : decode cX6_isTakenBy 124 = .ok (.ifCond .eq 7, 3) := by decide +kernel
theorem dX6_isTakenBy_127 : decode cX6_isTakenBy 127 = .ok (.iconst 1, 1) := by decide +kernel
theorem dX6_isTakenBy_128 : decode cX6_isTakenBy 128 = .ok (.goto 4, 3) := by decide +kernel
theorem dX6_isTakenBy_131 : decode cX6_isTakenBy 131 = .ok (.iconst 0, 1) := by decide +kernel
theorem dX6_isTakenBy_132 : decode cX6_isTakenBy 132 = .ok (.iadd, 1) := by decide +kernel
theorem dX6_isTakenBy_133 : decode cX6_isTakenBy 133 = .ok (.iastore, 1) := by decide +kernel
theorem dX6_isTakenBy_134 : decode cX6_isTakenBy 134 = .ok (.iinc 4 1, 3) := by decide +kernel
theorem dX6_isTakenBy_137 : decode cX6_isTakenBy 137 = .ok (.goto (-46), 3) := by decide +kernel
theorem dX6_isTakenBy_140 : decode cX6_isTakenBy 140 = .ok (.iinc 3 1, 3) := by decide +kernel
theorem dX6_isTakenBy_143 : decode cX6_isTakenBy 143 = .ok (.goto (-141), 3) := by decide +kernel
theorem dX6_isTakenBy_146 : decode cX6_isTakenBy 146 = .ok (.iconst 0, 1) := by decide +kernel
theorem dX6_isTakenBy_147 : decode cX6_isTakenBy 147 = .ok (.ireturn, 1) := by decide +kernel
set_option maxRecDepth 20000 in
theorem ggX6_dare_X6_isPerson : GoodIn wsX6_dare wsX6_isPerson := goodIn_r _ [7, 8, 9, 10, 6, 11, 45, 46, 47, 48, 49, 50, 51, 52, 53, 54, 55, 56, 57, 58, 59] (by decide +kernel) (by decide +kernel)
set_option maxRecDepth 20000 in
theorem gX6_dare_X6_isPerson : GoodIn wsX6_dare (wsV RX6 127 RX6 yX6_isPerson wsX6_isPerson) := goodIn_app (goodIn_of _ (by decide +kernel)) ggX6_dare_X6_isPerson
set_option maxRecDepth 20000 in
theorem ggX6_dare_X6_aside : GoodIn wsX6_dare wsX6_aside := goodIn_r _ [15, 2, 1, 45, 46, 47, 48, 49, 50, 51, 52, 53, 54, 55, 56, 57, 58, 59] (by decide +kernel) (by decide +kernel)
set_option maxRecDepth 20000 in
theorem gX6_dare_X6_aside : GoodIn wsX6_dare (wsV RX6 136 RX6 yX6_aside wsX6_aside) := goodIn_app (goodIn_of _ (by decide +kernel)) ggX6_dare_X6_aside
set_option maxRecDepth 20000 in
theorem ggX6_dare_X6_lays : GoodIn wsX6_dare wsX6_lays := goodIn_r _ [19, 2, 45, 46, 47, 48, 49, 50, 51, 52, 53, 54, 55, 56, 57, 58, 59] (by decide +kernel) (by decide +kernel)
set_option maxRecDepth 20000 in
theorem gX6_dare_X6_lays : GoodIn wsX6_dare (wsV RX6 151 RX6 yX6_lays wsX6_lays) := goodIn_app (goodIn_of _ (by decide +kernel)) ggX6_dare_X6_lays
set_option maxRecDepth 20000 in
theorem ggX6_dare_X6_isTakenBy : GoodIn wsX6_dare wsX6_isTakenBy := goodIn_r _ [23, 8, 2, 24, 25, 26, 6, 27, 28, 29, 30, 31, 32, 33, 34, 35, 36, 37, 38, 39, 40, 41, 42, 43, 44, 45, 46, 47, 48, 49, 50, 51, 52, 53, 54, 55, 56, 57, 58, 59] (by decide +kernel) (by decide +kernel)
set_option maxRecDepth 20000 in
theorem gX6_dare_X6_isTakenBy : GoodIn wsX6_dare (wsV RX6 160 RX6 yX6_isTakenBy wsX6_isTakenBy) := goodIn_app (goodIn_of _ (by decide +kernel)) ggX6_dare_X6_isTakenBy
theorem dX6_dare_0 : decode cX6_dare 0 = .ok (.aload_n 0, 1) := by decide +kernel
theorem dX6_dare_1 : decode cX6_dare 1 = .ok (.iload_n 1, 1) := by decide +kernel
theorem dX6_dare_2 : decode cX6_dare 2 = .ok (.invokevirtual 127, 3) := by decide +kernel
theorem dX6_dare_5 : decode cX6_dare 5 = .ok (.ifCond .eq 16, 3) := by decide +kernel
theorem dX6_dare_8 : decode cX6_dare 8 = .ok (.aload_n 0, 1) := by decide +kernel
theorem dX6_dare_9 : decode cX6_dare 9 = .ok (.iload_n 2, 1) := by decide +kernel
theorem dX6_dare_10 : decode cX6_dare 10 = .ok (.invokevirtual 127, 3) := by decide +kernel
theorem dX6_dare_13 : decode cX6_dare 13 = .ok (.ifCond .eq 8, 3) := by decide +kernel
theorem dX6_dare_16 : decode cX6_dare 16 = .ok (.iload_n 1, 1) := by decide +kernel
theorem dX6_dare_17 : decode cX6_dare 17 = .ok (.iload_n 2, 1) := by decide +kernel
theorem dX6_dare_18 : decode cX6_dare 18 = .ok (.if_icmp .ne 5, 3) := by decide +kernel
theorem dX6_dare_21 : decode cX6_dare 21 = .ok (.iconst (-1), 1) := by decide +kernel
theorem dX6_dare_22 : decode cX6_dare 22 = .ok (.ireturn, 1) := by decide +kernel
theorem dX6_dare_23 : decode cX6_dare 23 = .ok (.aload_n 0, 1) := by decide +kernel
theorem dX6_dare_24 : decode cX6_dare 24 = .ok (.getfield 22, 3) := by decide +kernel
theorem dX6_dare_27 : decode cX6_dare 27 = .ok (.iconst 4, 1) := by decide +kernel
theorem dX6_dare_28 : decode cX6_dare 28 = .ok (.iload_n 1, 1) := by decide +kernel
theorem dX6_dare_29 : decode cX6_dare 29 = .ok (.iadd, 1) := by decide +kernel
theorem dX6_dare_30 : decode cX6_dare 30 = .ok (.iaload, 1) := by decide +kernel
theorem dX6_dare_31 : decode cX6_dare 31 = .ok (.ifCond .eq 14, 3) := by decide +kernel
theorem dX6_dare_34 : decode cX6_dare 34 = .ok (.aload_n 0, 1) := by decide +kernel
theorem dX6_dare_35 : decode cX6_dare 35 = .ok (.getfield 22, 3) := by decide +kernel
theorem dX6_dare_38 : decode cX6_dare 38 = .ok (.iconst 4, 1) := by decide +kernel
theorem dX6_dare_39 : decode cX6_dare 39 = .ok (.iload_n 2, 1) := by decide +kernel
theorem dX6_dare_40 : decode cX6_dare 40 = .ok (.iadd, 1) := by decide +kernel
theorem dX6_dare_41 : decode cX6_dare 41 = .ok (.iaload, 1) := by decide +kernel
theorem dX6_dare_42 : decode cX6_dare 42 = .ok (.ifCond .ne 6, 3) := by decide +kernel
theorem dX6_dare_45 : decode cX6_dare 45 = .ok (.bipush (-2), 2) := by decide +kernel
theorem dX6_dare_47 : decode cX6_dare 47 = .ok (.ireturn, 1) := by decide +kernel
theorem dX6_dare_48 : decode cX6_dare 48 = .ok (.aload_n 0, 1) := by decide +kernel
theorem dX6_dare_49 : decode cX6_dare 49 = .ok (.getfield 22, 3) := by decide +kernel
theorem dX6_dare_52 : decode cX6_dare 52 = .ok (.iconst 2, 1) := by decide +kernel
theorem dX6_dare_53 : decode cX6_dare 53 = .ok (.iaload, 1) := by decide +kernel
theorem dX6_dare_54 : decode cX6_dare 54 = .ok (.istore_n 3, 1) := by decide +kernel
theorem dX6_dare_55 : decode cX6_dare 55 = .ok (.iconst 0, 1) := by decide +kernel
theorem dX6_dare_56 : decode cX6_dare 56 = .ok (.istore 4, 2) := by decide +kernel
theorem dX6_dare_58 : decode cX6_dare 58 = .ok (.iload 4, 2) := by decide +kernel
theorem dX6_dare_60 : decode cX6_dare 60 = .ok (.bipush 80, 2) := by decide +kernel
theorem dX6_dare_62 : decode cX6_dare 62 = .ok (.if_icmp .ge 73, 3) := by decide +kernel
theorem dX6_dare_65 : decode cX6_dare 65 = .ok (.iload_n 3, 1) := by decide +kernel
theorem dX6_dare_66 : decode cX6_dare 66 = .ok (.bipush 8, 2) := by decide +kernel
theorem dX6_dare_68 : decode cX6_dare 68 = .ok (.if_icmp .ge 67, 3) := by decide +kernel
theorem dX6_dare_71 : decode cX6_dare 71 = .ok (.aload_n 0, 1) := by decide +kernel
theorem dX6_dare_72 : decode cX6_dare 72 = .ok (.invokevirtual 136, 3) := by decide +kernel
theorem dX6_dare_75 : decode cX6_dare 75 = .ok (.aload_n 0, 1) := by decide +kernel
theorem dX6_dare_76 : decode cX6_dare 76 = .ok (.iload_n 3, 1) := by decide +kernel
theorem dX6_dare_77 : decode cX6_dare 77 = .ok (.iload 4, 2) := by decide +kernel
theorem dX6_dare_79 : decode cX6_dare 79 = .ok (.bipush 20, 2) := by decide +kernel
theorem dX6_dare_81 : decode cX6_dare 81 = .ok (.idiv, 1) := by decide +kernel
theorem dX6_dare_82 : decode cX6_dare 82 = .ok (.iload 4, 2) := by decide +kernel
theorem dX6_dare_84 : decode cX6_dare 84 = .ok (.bipush 20, 2) := by decide +kernel
theorem dX6_dare_86 : decode cX6_dare 86 = .ok (.irem, 1) := by decide +kernel
theorem dX6_dare_87 : decode cX6_dare 87 = .ok (.iconst 1, 1) := by decide +kernel
theorem dX6_dare_88 : decode cX6_dare 88 = .ok (.iadd, 1) := by decide +kernel
theorem dX6_dare_89 : decode cX6_dare 89 = .ok (.iload_n 1, 1) := by decide +kernel
theorem dX6_dare_90 : decode cX6_dare 90 = .ok (.invokevirtual 151, 3) := by decide +kernel
theorem dX6_dare_93 : decode cX6_dare 93 = .ok (.aload_n 0, 1) := by decide +kernel
theorem dX6_dare_94 : decode cX6_dare 94 = .ok (.getfield 25, 3) := by decide +kernel
theorem dX6_dare_97 : decode cX6_dare 97 = .ok (.iconst 2, 1) := by decide +kernel
theorem dX6_dare_98 : decode cX6_dare 98 = .ok (.dup2, 1) := by decide +kernel
theorem dX6_dare_99 : decode cX6_dare 99 = .ok (.iaload, 1) := by decide +kernel
theorem dX6_dare_100 : decode cX6_dare 100 = .ok (.iconst 1, 1) := by decide +kernel
theorem dX6_dare_101 : decode cX6_dare 101 = .ok (.iadd, 1) := by decide +kernel
theorem dX6_dare_102 : decode cX6_dare 102 = .ok (.iastore, 1) := by decide +kernel
theorem dX6_dare_103 : decode cX6_dare 103 = .ok (.aload_n 0, 1) := by decide +kernel
theorem dX6_dare_104 : decode cX6_dare 104 = .ok (.iload_n 3, 1) := by decide +kernel
theorem dX6_dare_105 : decode cX6_dare 105 = .ok (.iload_n 2, 1) := by decide +kernel
theorem dX6_dare_106 : decode cX6_dare 106 = .ok (.invokevirtual 160, 3) := by decide +kernel
theorem dX6_dare_109 : decode cX6_dare 109 = .ok (.ifCond .eq 20, 3) := by decide +kernel
theorem dX6_dare_112 : decode cX6_dare 112 = .ok (.bipush 100, 2) := by decide +kernel
theorem dX6_dare_114 : decode cX6_dare 114 = .ok (.iload 4, 2) := by decide +kernel
theorem dX6_dare_116 : decode cX6_dare 116 = .ok (.bipush 20, 2) := by decide +kernel
theorem dX6_dare_118 : decode cX6_dare 118 = .ok (.idiv, 1) := by decide +kernel
theorem dX6_dare_119 : decode cX6_dare 119 = .ok (.imul, 1) := by decide +kernel
theorem dX6_dare_120 : decode cX6_dare 120 = .ok (.iload 4, 2) := by decide +kernel
theorem dX6_dare_122 : decode cX6_dare 122 = .ok (.bipush 20, 2) := by decide +kernel
theorem dX6_dare_124 : decode cX6_dare 124 = .ok (.irem, 1) := by decide +kernel
theorem dX6_dare_125 : decode cX6_dare 125 = .ok (.iadd, 1) := by decide +kernel
theorem dX6_dare_126 : decode cX6_dare 126 = .ok (.iconst 1, 1) := by decide +kernel
theorem dX6_dare_127 : decode cX6_dare 127 = .ok (.iadd, 1) := by decide +kernel
theorem dX6_dare_128 : decode cX6_dare 128 = .ok (.ireturn, 1) := by decide +kernel
theorem dX6_dare_129 : decode cX6_dare 129 = .ok (.iinc 4 1, 3) := by decide +kernel
theorem dX6_dare_132 : decode cX6_dare 132 = .ok (.goto (-74), 3) := by decide +kernel
theorem dX6_dare_135 : decode cX6_dare 135 = .ok (.bipush (-4), 2) := by decide +kernel
theorem dX6_dare_137 : decode cX6_dare 137 = .ok (.ireturn, 1) := by decide +kernel
set_option maxRecDepth 20000 in
theorem ggX6_first_X6_isPerson : GoodIn wsX6_first wsX6_isPerson := goodIn_r _ [7, 8, 9, 10, 6, 11, 33, 34, 35, 36, 37, 38, 39, 40, 41, 42, 43, 44, 45, 46, 47] (by decide +kernel) (by decide +kernel)
set_option maxRecDepth 20000 in
theorem gX6_first_X6_isPerson : GoodIn wsX6_first (wsV RX6 127 RX6 yX6_isPerson wsX6_isPerson) := goodIn_app (goodIn_of _ (by decide +kernel)) ggX6_first_X6_isPerson
set_option maxRecDepth 20000 in
theorem ggX6_first_X6_in : GoodIn wsX6_first wsX6_in := goodIn_r _ [11] (by decide +kernel) (by decide +kernel)
set_option maxRecDepth 20000 in
theorem gX6_first_X6_in : GoodIn wsX6_first (va_wsS RX6 57 yX6_in wsX6_in) := goodIn_app (goodIn_of _ (by decide +kernel)) ggX6_first_X6_in
set_option maxRecDepth 20000 in
theorem ggX6_first_X6_aside : GoodIn wsX6_first wsX6_aside := goodIn_r _ [15, 2, 1, 33, 34, 35, 36, 37, 38, 39, 40, 41, 42, 43, 44, 45, 46, 47] (by decide +kernel) (by decide +kernel)
set_option maxRecDepth 20000 in
theorem gX6_first_X6_aside : GoodIn wsX6_first (wsV RX6 136 RX6 yX6_aside wsX6_aside) := goodIn_app (goodIn_of _ (by decide +kernel)) ggX6_first_X6_aside
set_option maxRecDepth 20000 in
theorem ggX6_first_X6_isFit : GoodIn wsX6_first wsX6_isFit := goodIn_r _ [19, 2, 8, 20, 21, 6, 22, 23, 24, 25, 33, 34, 35, 36, 37, 38, 39, 40, 41, 42, 43, 44, 45, 46, 47] (by decide +kernel) (by decide +kernel)
set_option maxRecDepth 20000 in
theorem gX6_first_X6_isFit : GoodIn wsX6_first (wsV RX6 114 RX6 yX6_isFit wsX6_isFit) := goodIn_app (goodIn_of _ (by decide +kernel)) ggX6_first_X6_isFit
set_option maxRecDepth 20000 in
theorem ggX6_first_X6_goWear : GoodIn wsX6_first wsX6_goWear := goodIn_r _ [29, 2, 30, 31, 6, 32, 33, 34, 35, 36, 37, 38, 39, 40, 41, 42, 43, 44, 45, 46, 47] (by decide +kernel) (by decide +kernel)
set_option maxRecDepth 20000 in
theorem gX6_first_X6_goWear : GoodIn wsX6_first (wsV RX6 120 RX6 yX6_goWear wsX6_goWear) := goodIn_app (goodIn_of _ (by decide +kernel)) ggX6_first_X6_goWear
theorem dX6_first_0 : decode cX6_first 0 = .ok (.aload_n 0, 1) := by decide +kernel
theorem dX6_first_1 : decode cX6_first 1 = .ok (.iload_n 1, 1) := by decide +kernel
theorem dX6_first_2 : decode cX6_first 2 = .ok (.invokevirtual 127, 3) := by decide +kernel
theorem dX6_first_5 : decode cX6_first 5 = .ok (.ifCond .eq 13, 3) := by decide +kernel
theorem dX6_first_8 : decode cX6_first 8 = .ok (.iload_n 2, 1) := by decide +kernel
theorem dX6_first_9 : decode cX6_first 9 = .ok (.i2l, 1) := by decide +kernel
theorem dX6_first_10 : decode cX6_first 10 = .ok (.lconst 0, 1) := by decide +kernel
theorem dX6_first_11 : decode cX6_first 11 = .ok (.lconst 1, 1) := by decide +kernel
theorem dX6_first_12 : decode cX6_first 12 = .ok (.invokestatic 57, 3) := by decide +kernel
theorem dX6_first_15 : decode cX6_first 15 = .ok (.ifCond .ne 5, 3) := by decide +kernel
theorem dX6_first_18 : decode cX6_first 18 = .ok (.iconst (-1), 1) := by decide +kernel
theorem dX6_first_19 : decode cX6_first 19 = .ok (.ireturn, 1) := by decide +kernel
theorem dX6_first_20 : decode cX6_first 20 = .ok (.bipush (-4), 2) := by decide +kernel
theorem dX6_first_22 : decode cX6_first 22 = .ok (.istore_n 3, 1) := by decide +kernel
theorem dX6_first_23 : decode cX6_first 23 = .ok (.bipush (-4), 2) := by decide +kernel
theorem dX6_first_25 : decode cX6_first 25 = .ok (.istore 4, 2) := by decide +kernel
theorem dX6_first_27 : decode cX6_first 27 = .ok (.iconst 0, 1) := by decide +kernel
theorem dX6_first_28 : decode cX6_first 28 = .ok (.istore 5, 2) := by decide +kernel
theorem dX6_first_30 : decode cX6_first 30 = .ok (.iload 5, 2) := by decide +kernel
theorem dX6_first_32 : decode cX6_first 32 = .ok (.aload_n 0, 1) := by decide +kernel
theorem dX6_first_33 : decode cX6_first 33 = .ok (.getfield 22, 3) := by decide +kernel
theorem dX6_first_36 : decode cX6_first 36 = .ok (.iconst 2, 1) := by decide +kernel
theorem dX6_first_37 : decode cX6_first 37 = .ok (.iaload, 1) := by decide +kernel
theorem dX6_first_38 : decode cX6_first 38 = .ok (.if_icmp .ge 78, 3) := by decide +kernel
theorem dX6_first_41 : decode cX6_first 41 = .ok (.aload_n 0, 1) := by decide +kernel
theorem dX6_first_42 : decode cX6_first 42 = .ok (.invokevirtual 136, 3) := by decide +kernel
theorem dX6_first_45 : decode cX6_first 45 = .ok (.aload_n 0, 1) := by decide +kernel
theorem dX6_first_46 : decode cX6_first 46 = .ok (.iload 5, 2) := by decide +kernel
theorem dX6_first_48 : decode cX6_first 48 = .ok (.iload_n 1, 1) := by decide +kernel
theorem dX6_first_49 : decode cX6_first 49 = .ok (.invokevirtual 114, 3) := by decide +kernel
theorem dX6_first_52 : decode cX6_first 52 = .ok (.ifCond .eq 58, 3) := by decide +kernel
theorem dX6_first_55 : decode cX6_first 55 = .ok (.aload_n 0, 1) := by decide +kernel
theorem dX6_first_56 : decode cX6_first 56 = .ok (.iload_n 1, 1) := by decide +kernel
theorem dX6_first_57 : decode cX6_first 57 = .ok (.iload 5, 2) := by decide +kernel
theorem dX6_first_59 : decode cX6_first 59 = .ok (.invokevirtual 120, 3) := by decide +kernel
theorem dX6_first_62 : decode cX6_first 62 = .ok (.aload_n 0, 1) := by decide +kernel
theorem dX6_first_63 : decode cX6_first 63 = .ok (.getfield 25, 3) := by decide +kernel
theorem dX6_first_66 : decode cX6_first 66 = .ok (.iconst 4, 1) := by decide +kernel
theorem dX6_first_67 : decode cX6_first 67 = .ok (.iload_n 1, 1) := by decide +kernel
theorem dX6_first_68 : decode cX6_first 68 = .ok (.iadd, 1) := by decide +kernel
theorem dX6_first_69 : decode cX6_first 69 = .ok (.iaload, 1) := by decide +kernel
theorem dX6_first_70 : decode cX6_first 70 = .ok (.iload 4, 2) := by decide +kernel
theorem dX6_first_72 : decode cX6_first 72 = .ok (.if_icmp .le 8, 3) := by decide +kernel
theorem dX6_first_75 : decode cX6_first 75 = .ok (.iload 5, 2) := by decide +kernel
theorem dX6_first_77 : decode cX6_first 77 = .ok (.goto 4, 3) := by decide +kernel
theorem dX6_first_80 : decode cX6_first 80 = .ok (.iload_n 3, 1) := by decide +kernel
theorem dX6_first_81 : decode cX6_first 81 = .ok (.istore_n 3, 1) := by decide +kernel
theorem dX6_first_82 : decode cX6_first 82 = .ok (.aload_n 0, 1) := by decide +kernel
theorem dX6_first_83 : decode cX6_first 83 = .ok (.getfield 25, 3) := by decide +kernel
theorem dX6_first_86 : decode cX6_first 86 = .ok (.iconst 4, 1) := by decide +kernel
theorem dX6_first_87 : decode cX6_first 87 = .ok (.iload_n 1, 1) := by decide +kernel
theorem dX6_first_88 : decode cX6_first 88 = .ok (.iadd, 1) := by decide +kernel
theorem dX6_first_89 : decode cX6_first 89 = .ok (.iaload, 1) := by decide +kernel
theorem dX6_first_90 : decode cX6_first 90 = .ok (.iload 4, 2) := by decide +kernel
theorem dX6_first_92 : decode cX6_first 92 = .ok (.if_icmp .le 14, 3) := by decide +kernel
theorem dX6_first_95 : decode cX6_first 95 = .ok (.aload_n 0, 1) := by decide +kernel
theorem dX6_first_96 : decode cX6_first 96 = .ok (.getfield 25, 3) := by decide +kernel
theorem dX6_first_99 : decode cX6_first 99 = .ok (.iconst 4, 1) := by decide +kernel
theorem dX6_first_100 : decode cX6_first 100 = .ok (.iload_n 1, 1) := by decide +kernel
theorem dX6_first_101 : decode cX6_first 101 = .ok (.iadd, 1) := by decide +kernel
theorem dX6_first_102 : decode cX6_first 102 = .ok (.iaload, 1) := by decide +kernel
theorem dX6_first_103 : decode cX6_first 103 = .ok (.goto 5, 3) := by decide +kernel
theorem dX6_first_106 : decode cX6_first 106 = .ok (.iload 4, 2) := by decide +kernel
theorem dX6_first_108 : decode cX6_first 108 = .ok (.istore 4, 2) := by decide +kernel
theorem dX6_first_110 : decode cX6_first 110 = .ok (.iinc 5 1, 3) := by decide +kernel
theorem dX6_first_113 : decode cX6_first 113 = .ok (.goto (-83), 3) := by decide +kernel
theorem dX6_first_116 : decode cX6_first 116 = .ok (.iload_n 2, 1) := by decide +kernel
theorem dX6_first_117 : decode cX6_first 117 = .ok (.ifCond .ne 7, 3) := by decide +kernel
theorem dX6_first_120 : decode cX6_first 120 = .ok (.iload_n 3, 1) := by decide +kernel
theorem dX6_first_121 : decode cX6_first 121 = .ok (.goto 5, 3) := by decide +kernel
theorem dX6_first_124 : decode cX6_first 124 = .ok (.iload 4, 2) := by decide +kernel
theorem dX6_first_126 : decode cX6_first 126 = .ok (.ireturn, 1) := by decide +kernel
set_option maxRecDepth 20000 in
theorem ggX6_ring_X6_isPerson : GoodIn wsX6_ring wsX6_isPerson := goodIn_r _ [8, 1, 9, 10, 7, 11, 26, 27, 28, 29, 30, 31, 32, 33, 34, 35, 36, 37, 38, 39, 40] (by decide +kernel) (by decide +kernel)
set_option maxRecDepth 20000 in
theorem gX6_ring_X6_isPerson : GoodIn wsX6_ring (wsV RX6 127 RX6 yX6_isPerson wsX6_isPerson) := goodIn_app (goodIn_of _ (by decide +kernel)) ggX6_ring_X6_isPerson
set_option maxRecDepth 20000 in
theorem ggX6_ring_X6_aside : GoodIn wsX6_ring wsX6_aside := goodIn_r _ [15, 3, 2, 26, 27, 28, 29, 30, 31, 32, 33, 34, 35, 36, 37, 38, 39, 40] (by decide +kernel) (by decide +kernel)
set_option maxRecDepth 20000 in
theorem gX6_ring_X6_aside : GoodIn wsX6_ring (wsV RX6 136 RX6 yX6_aside wsX6_aside) := goodIn_app (goodIn_of _ (by decide +kernel)) ggX6_ring_X6_aside
set_option maxRecDepth 20000 in
theorem ggX6_ring_X6_has : GoodIn wsX6_ring wsX6_has := goodIn_r _ [18] (by decide +kernel) (by decide +kernel)
set_option maxRecDepth 20000 in
theorem gX6_ring_X6_has : GoodIn wsX6_ring (va_wsS RX6 102 yX6_has wsX6_has) := goodIn_app (goodIn_of _ (by decide +kernel)) ggX6_ring_X6_has
set_option maxRecDepth 20000 in
theorem ggX6_ring_X6_isFit : GoodIn wsX6_ring wsX6_isFit := goodIn_r _ [22, 3, 1, 16, 17, 7, 18, 23, 24, 25, 26, 27, 28, 29, 30, 31, 32, 33, 34, 35, 36, 37, 38, 39, 40] (by decide +kernel) (by decide +kernel)
set_option maxRecDepth 20000 in
theorem gX6_ring_X6_isFit : GoodIn wsX6_ring (wsV RX6 114 RX6 yX6_isFit wsX6_isFit) := goodIn_app (goodIn_of _ (by decide +kernel)) ggX6_ring_X6_isFit
theorem dX6_ring_0 : decode cX6_ring 0 = .ok (.aload_n 0, 1) := by decide +kernel
theorem dX6_ring_1 : decode cX6_ring 1 = .ok (.iload_n 1, 1) := by decide +kernel
theorem dX6_ring_2 : decode cX6_ring 2 = .ok (.invokevirtual 127, 3) := by decide +kernel
theorem dX6_ring_5 : decode cX6_ring 5 = .ok (.ifCond .ne 5, 3) := by decide +kernel
theorem dX6_ring_8 : decode cX6_ring 8 = .ok (.iconst (-1), 1) := by decide +kernel
theorem dX6_ring_9 : decode cX6_ring 9 = .ok (.ireturn, 1) := by decide +kernel
theorem dX6_ring_10 : decode cX6_ring 10 = .ok (.aload_n 0, 1) := by decide +kernel
theorem dX6_ring_11 : decode cX6_ring 11 = .ok (.invokevirtual 136, 3) := by decide +kernel
theorem dX6_ring_14 : decode cX6_ring 14 = .ok (.iconst 1, 1) := by decide +kernel
theorem dX6_ring_15 : decode cX6_ring 15 = .ok (.iload_n 1, 1) := by decide +kernel
theorem dX6_ring_16 : decode cX6_ring 16 = .ok (.ishl, 1) := by decide +kernel
theorem dX6_ring_17 : decode cX6_ring 17 = .ok (.istore_n 2, 1) := by decide +kernel
theorem dX6_ring_18 : decode cX6_ring 18 = .ok (.iconst 1, 1) := by decide +kernel
theorem dX6_ring_19 : decode cX6_ring 19 = .ok (.istore_n 3, 1) := by decide +kernel
theorem dX6_ring_20 : decode cX6_ring 20 = .ok (.iload_n 3, 1) := by decide +kernel
theorem dX6_ring_21 : decode cX6_ring 21 = .ok (.aload_n 0, 1) := by decide +kernel
theorem dX6_ring_22 : decode cX6_ring 22 = .ok (.getfield 13, 3) := by decide +kernel
theorem dX6_ring_25 : decode cX6_ring 25 = .ok (.iconst 0, 1) := by decide +kernel
theorem dX6_ring_26 : decode cX6_ring 26 = .ok (.iaload, 1) := by decide +kernel
theorem dX6_ring_27 : decode cX6_ring 27 = .ok (.if_icmp .gt 107, 3) := by decide +kernel
theorem dX6_ring_30 : decode cX6_ring 30 = .ok (.iconst 0, 1) := by decide +kernel
theorem dX6_ring_31 : decode cX6_ring 31 = .ok (.istore 4, 2) := by decide +kernel
theorem dX6_ring_33 : decode cX6_ring 33 = .ok (.iconst 0, 1) := by decide +kernel
theorem dX6_ring_34 : decode cX6_ring 34 = .ok (.istore 5, 2) := by decide +kernel
theorem dX6_ring_36 : decode cX6_ring 36 = .ok (.iload 5, 2) := by decide +kernel
theorem dX6_ring_38 : decode cX6_ring 38 = .ok (.aload_n 0, 1) := by decide +kernel
theorem dX6_ring_39 : decode cX6_ring 39 = .ok (.getfield 22, 3) := by decide +kernel
theorem dX6_ring_42 : decode cX6_ring 42 = .ok (.iconst 2, 1) := by decide +kernel
theorem dX6_ring_43 : decode cX6_ring 43 = .ok (.iaload, 1) := by decide +kernel
theorem dX6_ring_44 : decode cX6_ring 44 = .ok (.if_icmp .ge 70, 3) := by decide +kernel
theorem dX6_ring_47 : decode cX6_ring 47 = .ok (.iconst 0, 1) := by decide +kernel
theorem dX6_ring_48 : decode cX6_ring 48 = .ok (.istore 6, 2) := by decide +kernel
theorem dX6_ring_50 : decode cX6_ring 50 = .ok (.iload 6, 2) := by decide +kernel
theorem dX6_ring_52 : decode cX6_ring 52 = .ok (.aload_n 0, 1) := by decide +kernel
theorem dX6_ring_53 : decode cX6_ring 53 = .ok (.getfield 13, 3) := by decide +kernel
theorem dX6_ring_56 : decode cX6_ring 56 = .ok (.iconst 0, 1) := by decide +kernel
theorem dX6_ring_57 : decode cX6_ring 57 = .ok (.iaload, 1) := by decide +kernel
theorem dX6_ring_58 : decode cX6_ring 58 = .ok (.if_icmp .ge 50, 3) := by decide +kernel
theorem dX6_ring_61 : decode cX6_ring 61 = .ok (.iload 4, 2) := by decide +kernel
theorem dX6_ring_63 : decode cX6_ring 63 = .ok (.iload_n 2, 1) := by decide +kernel
theorem dX6_ring_64 : decode cX6_ring 64 = .ok (.iload 6, 2) := by decide +kernel
theorem dX6_ring_66 : decode cX6_ring 66 = .ok (.invokestatic 102, 3) := by decide +kernel
theorem dX6_ring_69 : decode cX6_ring 69 = .ok (.ifCond .eq 29, 3) := by decide +kernel
theorem dX6_ring_72 : decode cX6_ring 72 = .ok (.aload_n 0, 1) := by decide +kernel
theorem dX6_ring_73 : decode cX6_ring 73 = .ok (.iload 5, 2) := by decide +kernel
theorem dX6_ring_75 : decode cX6_ring 75 = .ok (.iload 6, 2) := by decide +kernel
theorem dX6_ring_77 : decode cX6_ring 77 = .ok (.invokevirtual 114, 3) := by decide +kernel
theorem dX6_ring_80 : decode cX6_ring 80 = .ok (.ifCond .eq 18, 3) := by decide +kernel
theorem dX6_ring_83 : decode cX6_ring 83 = .ok (.iconst 1, 1) := by decide +kernel
theorem dX6_ring_84 : decode cX6_ring 84 = .ok (.aload_n 0, 1) := by decide +kernel
theorem dX6_ring_85 : decode cX6_ring 85 = .ok (.getfield 25, 3) := by decide +kernel
theorem dX6_ring_88 : decode cX6_ring 88 = .ok (.bipush 26, 2) := by decide +kernel
theorem dX6_ring_90 : decode cX6_ring 90 = .ok (.iload 5, 2) := by decide +kernel
theorem dX6_ring_92 : decode cX6_ring 92 = .ok (.iadd, 1) := by decide +kernel
theorem dX6_ring_93 : decode cX6_ring 93 = .ok (.iaload, 1) := by decide +kernel
theorem dX6_ring_94 : decode cX6_ring 94 = .ok (.ishl, 1) := by decide +kernel
theorem dX6_ring_95 : decode cX6_ring 95 = .ok (.goto 4, 3) := by decide +kernel
theorem dX6_ring_98 : decode cX6_ring 98 = .ok (.iconst 0, 1) := by decide +kernel
theorem dX6_ring_99 : decode cX6_ring 99 = .ok (.ior, 1) := by decide +kernel
theorem dX6_ring_100 : decode cX6_ring 100 = .ok (.istore 4, 2) := by decide +kernel
theorem dX6_ring_102 : decode cX6_ring 102 = .ok (.iinc 6 1, 3) := by decide +kernel
theorem dX6_ring_105 : decode cX6_ring 105 = .ok (.goto (-55), 3) := by decide +kernel
theorem dX6_ring_108 : decode cX6_ring 108 = .ok (.iinc 5 1, 3) := by decide +kernel
theorem dX6_ring_111 : decode cX6_ring 111 = .ok (.goto (-75), 3) := by decide +kernel
theorem dX6_ring_114 : decode cX6_ring 114 = .ok (.iload 4, 2) := by decide +kernel
theorem dX6_ring_116 : decode cX6_ring 116 = .ok (.iload_n 1, 1) := by decide +kernel
theorem dX6_ring_117 : decode cX6_ring 117 = .ok (.invokestatic 102, 3) := by decide +kernel
theorem dX6_ring_120 : decode cX6_ring 120 = .ok (.ifCond .eq 5, 3) := by decide +kernel
theorem dX6_ring_123 : decode cX6_ring 123 = .ok (.iload_n 3, 1) := by decide +kernel
theorem dX6_ring_124 : decode cX6_ring 124 = .ok (.ireturn, 1) := by decide +kernel
theorem dX6_ring_125 : decode cX6_ring 125 = .ok (.iload 4, 2) := by decide +kernel
theorem dX6_ring_127 : decode cX6_ring 127 = .ok (.istore_n 2, 1) := by decide +kernel
theorem dX6_ring_128 : decode cX6_ring 128 = .ok (.iinc 3 1, 3) := by decide +kernel
theorem dX6_ring_131 : decode cX6_ring 131 = .ok (.goto (-111), 3) := by decide +kernel
theorem dX6_ring_134 : decode cX6_ring 134 = .ok (.bipush (-4), 2) := by decide +kernel
theorem dX6_ring_136 : decode cX6_ring 136 = .ok (.ireturn, 1) := by decide +kernel
set_option maxRecDepth 20000 in
theorem ggX6_seen_X6_isGlove : GoodIn wsX6_seen wsX6_isGlove := goodIn_r _ [7, 8, 9, 10, 6, 11, 17, 18, 19, 20, 21, 22, 23, 24, 25, 26, 27, 28, 29, 30, 31] (by decide +kernel) (by decide +kernel)
set_option maxRecDepth 20000 in
theorem gX6_seen_X6_isGlove : GoodIn wsX6_seen (wsV RX6 131 RX6 yX6_isGlove wsX6_isGlove) := goodIn_app (goodIn_of _ (by decide +kernel)) ggX6_seen_X6_isGlove
set_option maxRecDepth 20000 in
theorem ggX6_seen_X6_isPerson : GoodIn wsX6_seen wsX6_isPerson := goodIn_r _ [15, 16, 9, 10, 6, 11, 17, 18, 19, 20, 21, 22, 23, 24, 25, 26, 27, 28, 29, 30, 31] (by decide +kernel) (by decide +kernel)
set_option maxRecDepth 20000 in
theorem gX6_seen_X6_isPerson : GoodIn wsX6_seen (wsV RX6 127 RX6 yX6_isPerson wsX6_isPerson) := goodIn_app (goodIn_of _ (by decide +kernel)) ggX6_seen_X6_isPerson
set_option maxRecDepth 20000 in
theorem ggX6_seen_X6_in : GoodIn wsX6_seen wsX6_in := goodIn_r _ [11] (by decide +kernel) (by decide +kernel)
set_option maxRecDepth 20000 in
theorem gX6_seen_X6_in : GoodIn wsX6_seen (va_wsS RX6 57 yX6_in wsX6_in) := goodIn_app (goodIn_of _ (by decide +kernel)) ggX6_seen_X6_in
theorem dX6_seen_0 : decode cX6_seen 0 = .ok (.aload_n 0, 1) := by decide +kernel
theorem dX6_seen_1 : decode cX6_seen 1 = .ok (.iload_n 1, 1) := by decide +kernel
theorem dX6_seen_2 : decode cX6_seen 2 = .ok (.invokevirtual 131, 3) := by decide +kernel
theorem dX6_seen_5 : decode cX6_seen 5 = .ok (.ifCond .eq 21, 3) := by decide +kernel
theorem dX6_seen_8 : decode cX6_seen 8 = .ok (.aload_n 0, 1) := by decide +kernel
theorem dX6_seen_9 : decode cX6_seen 9 = .ok (.iload_n 2, 1) := by decide +kernel
theorem dX6_seen_10 : decode cX6_seen 10 = .ok (.invokevirtual 127, 3) := by decide +kernel
theorem dX6_seen_13 : decode cX6_seen 13 = .ok (.ifCond .eq 13, 3) := by decide +kernel
theorem dX6_seen_16 : decode cX6_seen 16 = .ok (.iload_n 3, 1) := by decide +kernel
theorem dX6_seen_17 : decode cX6_seen 17 = .ok (.i2l, 1) := by decide +kernel
theorem dX6_seen_18 : decode cX6_seen 18 = .ok (.lconst 0, 1) := by decide +kernel
theorem dX6_seen_19 : decode cX6_seen 19 = .ok (.lconst 1, 1) := by decide +kernel
theorem dX6_seen_20 : decode cX6_seen 20 = .ok (.invokestatic 57, 3) := by decide +kernel
theorem dX6_seen_23 : decode cX6_seen 23 = .ok (.ifCond .ne 5, 3) := by decide +kernel
theorem dX6_seen_26 : decode cX6_seen 26 = .ok (.iconst (-1), 1) := by decide +kernel
theorem dX6_seen_27 : decode cX6_seen 27 = .ok (.ireturn, 1) := by decide +kernel
theorem dX6_seen_28 : decode cX6_seen 28 = .ok (.aload_n 0, 1) := by decide +kernel
theorem dX6_seen_29 : decode cX6_seen 29 = .ok (.getfield 93, 3) := by decide +kernel
theorem dX6_seen_32 : decode cX6_seen 32 = .ok (.bipush 6, 2) := by decide +kernel
theorem dX6_seen_34 : decode cX6_seen 34 = .ok (.if_icmp .ne 6, 3) := by decide +kernel
theorem dX6_seen_37 : decode cX6_seen 37 = .ok (.bipush (-3), 2) := by decide +kernel
theorem dX6_seen_39 : decode cX6_seen 39 = .ok (.ireturn, 1) := by decide +kernel
theorem dX6_seen_40 : decode cX6_seen 40 = .ok (.aload_n 0, 1) := by decide +kernel
theorem dX6_seen_41 : decode cX6_seen 41 = .ok (.getfield 34, 3) := by decide +kernel
theorem dX6_seen_44 : decode cX6_seen 44 = .ok (.iconst 3, 1) := by decide +kernel
theorem dX6_seen_45 : decode cX6_seen 45 = .ok (.aload_n 0, 1) := by decide +kernel
theorem dX6_seen_46 : decode cX6_seen 46 = .ok (.getfield 93, 3) := by decide +kernel
theorem dX6_seen_49 : decode cX6_seen 49 = .ok (.imul, 1) := by decide +kernel
theorem dX6_seen_50 : decode cX6_seen 50 = .ok (.iload_n 1, 1) := by decide +kernel
theorem dX6_seen_51 : decode cX6_seen 51 = .ok (.iastore, 1) := by decide +kernel
theorem dX6_seen_52 : decode cX6_seen 52 = .ok (.aload_n 0, 1) := by decide +kernel
theorem dX6_seen_53 : decode cX6_seen 53 = .ok (.getfield 34, 3) := by decide +kernel
theorem dX6_seen_56 : decode cX6_seen 56 = .ok (.iconst 3, 1) := by decide +kernel
theorem dX6_seen_57 : decode cX6_seen 57 = .ok (.aload_n 0, 1) := by decide +kernel
theorem dX6_seen_58 : decode cX6_seen 58 = .ok (.getfield 93, 3) := by decide +kernel
theorem dX6_seen_61 : decode cX6_seen 61 = .ok (.imul, 1) := by decide +kernel
theorem dX6_seen_62 : decode cX6_seen 62 = .ok (.iconst 1, 1) := by decide +kernel
theorem dX6_seen_63 : decode cX6_seen 63 = .ok (.iadd, 1) := by decide +kernel
theorem dX6_seen_64 : decode cX6_seen 64 = .ok (.iload_n 2, 1) := by decide +kernel
theorem dX6_seen_65 : decode cX6_seen 65 = .ok (.iastore, 1) := by decide +kernel
theorem dX6_seen_66 : decode cX6_seen 66 = .ok (.aload_n 0, 1) := by decide +kernel
theorem dX6_seen_67 : decode cX6_seen 67 = .ok (.getfield 34, 3) := by decide +kernel
theorem dX6_seen_70 : decode cX6_seen 70 = .ok (.iconst 3, 1) := by decide +kernel
theorem dX6_seen_71 : decode cX6_seen 71 = .ok (.aload_n 0, 1) := by decide +kernel
theorem dX6_seen_72 : decode cX6_seen 72 = .ok (.getfield 93, 3) := by decide +kernel
theorem dX6_seen_75 : decode cX6_seen 75 = .ok (.imul, 1) := by decide +kernel
theorem dX6_seen_76 : decode cX6_seen 76 = .ok (.iconst 2, 1) := by decide +kernel
theorem dX6_seen_77 : decode cX6_seen 77 = .ok (.iadd, 1) := by decide +kernel
theorem dX6_seen_78 : decode cX6_seen 78 = .ok (.iload_n 3, 1) := by decide +kernel
theorem dX6_seen_79 : decode cX6_seen 79 = .ok (.iastore, 1) := by decide +kernel
theorem dX6_seen_80 : decode cX6_seen 80 = .ok (.aload_n 0, 1) := by decide +kernel
theorem dX6_seen_81 : decode cX6_seen 81 = .ok (.dup, 1) := by decide +kernel
theorem dX6_seen_82 : decode cX6_seen 82 = .ok (.getfield 93, 3) := by decide +kernel
theorem dX6_seen_85 : decode cX6_seen 85 = .ok (.iconst 1, 1) := by decide +kernel
theorem dX6_seen_86 : decode cX6_seen 86 = .ok (.iadd, 1) := by decide +kernel
theorem dX6_seen_87 : decode cX6_seen 87 = .ok (.putfield 93, 3) := by decide +kernel
theorem dX6_seen_90 : decode cX6_seen 90 = .ok (.aload_n 0, 1) := by decide +kernel
theorem dX6_seen_91 : decode cX6_seen 91 = .ok (.getfield 93, 3) := by decide +kernel
theorem dX6_seen_94 : decode cX6_seen 94 = .ok (.ireturn, 1) := by decide +kernel
theorem dX6_forget_0 : decode cX6_forget 0 = .ok (.aload_n 0, 1) := by decide +kernel
theorem dX6_forget_1 : decode cX6_forget 1 = .ok (.getfield 93, 3) := by decide +kernel
theorem dX6_forget_4 : decode cX6_forget 4 = .ok (.istore_n 1, 1) := by decide +kernel
theorem dX6_forget_5 : decode cX6_forget 5 = .ok (.aload_n 0, 1) := by decide +kernel
theorem dX6_forget_6 : decode cX6_forget 6 = .ok (.iconst 0, 1) := by decide +kernel
theorem dX6_forget_7 : decode cX6_forget 7 = .ok (.putfield 93, 3) := by decide +kernel
theorem dX6_forget_10 : decode cX6_forget 10 = .ok (.iload_n 1, 1) := by decide +kernel
theorem dX6_forget_11 : decode cX6_forget 11 = .ok (.ireturn, 1) := by decide +kernel
set_option maxRecDepth 20000 in
theorem ggX6_isSeen_X6_isLike : GoodIn wsX6_isSeen wsX6_isLike := goodIn_r _ [8] (by decide +kernel) (by decide +kernel)
set_option maxRecDepth 20000 in
theorem gX6_isSeen_X6_isLike : GoodIn wsX6_isSeen (va_wsS RX6 106 yX6_isLike wsX6_isLike) := goodIn_app (goodIn_of _ (by decide +kernel)) ggX6_isSeen_X6_isLike
theorem dX6_isSeen_0 : decode cX6_isSeen 0 = .ok (.iconst 1, 1) := by decide +kernel
theorem dX6_isSeen_1 : decode cX6_isSeen 1 = .ok (.istore 6, 2) := by decide +kernel
theorem dX6_isSeen_3 : decode cX6_isSeen 3 = .ok (.iconst 0, 1) := by decide +kernel
theorem dX6_isSeen_4 : decode cX6_isSeen 4 = .ok (.istore 7, 2) := by decide +kernel
theorem dX6_isSeen_6 : decode cX6_isSeen 6 = .ok (.iload 7, 2) := by decide +kernel
theorem dX6_isSeen_8 : decode cX6_isSeen 8 = .ok (.aload_n 0, 1) := by decide +kernel
theorem dX6_isSeen_9 : decode cX6_isSeen 9 = .ok (.getfield 93, 3) := by decide +kernel
theorem dX6_isSeen_12 : decode cX6_isSeen 12 = .ok (.if_icmp .ge 203, 3) := by decide +kernel
theorem dX6_isSeen_15 : decode cX6_isSeen 15 = .ok (.aload_n 0, 1) := by decide +kernel
theorem dX6_isSeen_16 : decode cX6_isSeen 16 = .ok (.getfield 34, 3) := by decide +kernel
theorem dX6_isSeen_19 : decode cX6_isSeen 19 = .ok (.iconst 3, 1) := by decide +kernel
theorem dX6_isSeen_20 : decode cX6_isSeen 20 = .ok (.iload 7, 2) := by decide +kernel
theorem dX6_isSeen_22 : decode cX6_isSeen 22 = .ok (.imul, 1) := by decide +kernel
theorem dX6_isSeen_23 : decode cX6_isSeen 23 = .ok (.iaload, 1) := by decide +kernel
theorem dX6_isSeen_24 : decode cX6_isSeen 24 = .ok (.istore 8, 2) := by decide +kernel
theorem dX6_isSeen_26 : decode cX6_isSeen 26 = .ok (.iload 8, 2) := by decide +kernel
theorem dX6_isSeen_28 : decode cX6_isSeen 28 = .ok (.aload_n 0, 1) := by decide +kernel
theorem dX6_isSeen_29 : decode cX6_isSeen 29 = .ok (.getfield 22, 3) := by decide +kernel
theorem dX6_isSeen_32 : decode cX6_isSeen 32 = .ok (.iconst 2, 1) := by decide +kernel
theorem dX6_isSeen_33 : decode cX6_isSeen 33 = .ok (.iaload, 1) := by decide +kernel
theorem dX6_isSeen_34 : decode cX6_isSeen 34 = .ok (.if_icmp .ge 28, 3) := by decide +kernel
theorem dX6_isSeen_37 : decode cX6_isSeen 37 = .ok (.aload_n 0, 1) := by decide +kernel
theorem dX6_isSeen_38 : decode cX6_isSeen 38 = .ok (.getfield 34, 3) := by decide +kernel
theorem dX6_isSeen_41 : decode cX6_isSeen 41 = .ok (.iconst 3, 1) := by decide +kernel
theorem dX6_isSeen_42 : decode cX6_isSeen 42 = .ok (.iload 7, 2) := by decide +kernel
theorem dX6_isSeen_44 : decode cX6_isSeen 44 = .ok (.imul, 1) := by decide +kernel
theorem dX6_isSeen_45 : decode cX6_isSeen 45 = .ok (.iconst 1, 1) := by decide +kernel
theorem dX6_isSeen_46 : decode cX6_isSeen 46 = .ok (.iadd, 1) := by decide +kernel
theorem dX6_isSeen_47 : decode cX6_isSeen 47 = .ok (.iaload, 1) := by decide +kernel
theorem dX6_isSeen_48 : decode cX6_isSeen 48 = .ok (.iload_n 1, 1) := by decide +kernel
theorem dX6_isSeen_49 : decode cX6_isSeen 49 = .ok (.if_icmp .eq 9, 3) := by decide +kernel
theorem dX6_isSeen_52 : decode cX6_isSeen 52 = .ok (.iload 8, 2) := by decide +kernel
theorem dX6_isSeen_54 : decode cX6_isSeen 54 = .ok (.iload_n 3, 1) := by decide +kernel
theorem dX6_isSeen_55 : decode cX6_isSeen 55 = .ok (.if_icmp .ne 7, 3) := by decide +kernel
theorem dX6_isSeen_58 : decode cX6_isSeen 58 = .ok (.iconst 1, 1) := by decide +kernel
theorem dX6_isSeen_59 : decode cX6_isSeen 59 = .ok (.goto 4, 3) := by decide +kernel
theorem dX6_isSeen_62 : decode cX6_isSeen 62 = .ok (.iconst 0, 1) := by decide +kernel
theorem dX6_isSeen_63 : decode cX6_isSeen 63 = .ok (.istore 9, 2) := by decide +kernel
theorem dX6_isSeen_65 : decode cX6_isSeen 65 = .ok (.iload_n 1, 1) := by decide +kernel
theorem dX6_isSeen_66 : decode cX6_isSeen 66 = .ok (.bipush (-4), 2) := by decide +kernel
theorem dX6_isSeen_68 : decode cX6_isSeen 68 = .ok (.if_icmp .ne 24, 3) := by decide +kernel
theorem dX6_isSeen_71 : decode cX6_isSeen 71 = .ok (.aload_n 0, 1) := by decide +kernel
theorem dX6_isSeen_72 : decode cX6_isSeen 72 = .ok (.getfield 13, 3) := by decide +kernel
theorem dX6_isSeen_75 : decode cX6_isSeen 75 = .ok (.iconst 1, 1) := by decide +kernel
theorem dX6_isSeen_76 : decode cX6_isSeen 76 = .ok (.aload_n 0, 1) := by decide +kernel
theorem dX6_isSeen_77 : decode cX6_isSeen 77 = .ok (.getfield 34, 3) := by decide +kernel
theorem dX6_isSeen_80 : decode cX6_isSeen 80 = .ok (.iconst 3, 1) := by decide +kernel
theorem dX6_isSeen_81 : decode cX6_isSeen 81 = .ok (.iload 7, 2) := by decide +kernel
theorem dX6_isSeen_83 : decode cX6_isSeen 83 = .ok (.imul, 1) := by decide +kernel
theorem dX6_isSeen_84 : decode cX6_isSeen 84 = .ok (.iconst 1, 1) := by decide +kernel
theorem dX6_isSeen_85 : decode cX6_isSeen 85 = .ok (.iadd, 1) := by decide +kernel
theorem dX6_isSeen_86 : decode cX6_isSeen 86 = .ok (.iaload, 1) := by decide +kernel
theorem dX6_isSeen_87 : decode cX6_isSeen 87 = .ok (.iadd, 1) := by decide +kernel
theorem dX6_isSeen_88 : decode cX6_isSeen 88 = .ok (.iaload, 1) := by decide +kernel
theorem dX6_isSeen_89 : decode cX6_isSeen 89 = .ok (.goto 4, 3) := by decide +kernel
theorem dX6_isSeen_92 : decode cX6_isSeen 92 = .ok (.iload_n 2, 1) := by decide +kernel
theorem dX6_isSeen_93 : decode cX6_isSeen 93 = .ok (.istore 10, 2) := by decide +kernel
theorem dX6_isSeen_95 : decode cX6_isSeen 95 = .ok (.iload 9, 2) := by decide +kernel
theorem dX6_isSeen_97 : decode cX6_isSeen 97 = .ok (.ifCond .eq 67, 3) := by decide +kernel
theorem dX6_isSeen_100 : decode cX6_isSeen 100 = .ok (.iload 10, 2) := by decide +kernel
theorem dX6_isSeen_102 : decode cX6_isSeen 102 = .ok (.iload_n 3, 1) := by decide +kernel
theorem dX6_isSeen_103 : decode cX6_isSeen 103 = .ok (.bipush (-4), 2) := by decide +kernel
theorem dX6_isSeen_105 : decode cX6_isSeen 105 = .ok (.if_icmp .ne 16, 3) := by decide +kernel
theorem dX6_isSeen_108 : decode cX6_isSeen 108 = .ok (.aload_n 0, 1) := by decide +kernel
theorem dX6_isSeen_109 : decode cX6_isSeen 109 = .ok (.getfield 22, 3) := by decide +kernel
theorem dX6_isSeen_112 : decode cX6_isSeen 112 = .ok (.bipush 10, 2) := by decide +kernel
theorem dX6_isSeen_114 : decode cX6_isSeen 114 = .ok (.iload 8, 2) := by decide +kernel
theorem dX6_isSeen_116 : decode cX6_isSeen 116 = .ok (.iadd, 1) := by decide +kernel
theorem dX6_isSeen_117 : decode cX6_isSeen 117 = .ok (.iaload, 1) := by decide +kernel
theorem dX6_isSeen_118 : decode cX6_isSeen 118 = .ok (.goto 5, 3) := by decide +kernel
theorem dX6_isSeen_121 : decode cX6_isSeen 121 = .ok (.iload 4, 2) := by decide +kernel
theorem dX6_isSeen_123 : decode cX6_isSeen 123 = .ok (.iload_n 3, 1) := by decide +kernel
theorem dX6_isSeen_124 : decode cX6_isSeen 124 = .ok (.bipush (-4), 2) := by decide +kernel
theorem dX6_isSeen_126 : decode cX6_isSeen 126 = .ok (.if_icmp .ne 16, 3) := by decide +kernel
theorem dX6_isSeen_129 : decode cX6_isSeen 129 = .ok (.aload_n 0, 1) := by decide +kernel
theorem dX6_isSeen_130 : decode cX6_isSeen 130 = .ok (.getfield 22, 3) := by decide +kernel
theorem dX6_isSeen_133 : decode cX6_isSeen 133 = .ok (.bipush 18, 2) := by decide +kernel
theorem dX6_isSeen_135 : decode cX6_isSeen 135 = .ok (.iload 8, 2) := by decide +kernel
theorem dX6_isSeen_137 : decode cX6_isSeen 137 = .ok (.iadd, 1) := by decide +kernel
theorem dX6_isSeen_138 : decode cX6_isSeen 138 = .ok (.iaload, 1) := by decide +kernel
theorem dX6_isSeen_139 : decode cX6_isSeen 139 = .ok (.goto 5, 3) := by decide +kernel
theorem dX6_isSeen_142 : decode cX6_isSeen 142 = .ok (.iload 5, 2) := by decide +kernel
theorem dX6_isSeen_144 : decode cX6_isSeen 144 = .ok (.aload_n 0, 1) := by decide +kernel
theorem dX6_isSeen_145 : decode cX6_isSeen 145 = .ok (.getfield 22, 3) := by decide +kernel
theorem dX6_isSeen_148 : decode cX6_isSeen 148 = .ok (.bipush 34, 2) := by decide +kernel
theorem dX6_isSeen_150 : decode cX6_isSeen 150 = .ok (.iload 8, 2) := by decide +kernel
theorem dX6_isSeen_152 : decode cX6_isSeen 152 = .ok (.iadd, 1) := by decide +kernel
theorem dX6_isSeen_153 : decode cX6_isSeen 153 = .ok (.iaload, 1) := by decide +kernel
theorem dX6_isSeen_154 : decode cX6_isSeen 154 = .ok (.invokestatic 106, 3) := by decide +kernel
theorem dX6_isSeen_157 : decode cX6_isSeen 157 = .ok (.ifCond .eq 7, 3) := by decide +kernel
theorem dX6_isSeen_160 : decode cX6_isSeen 160 = .ok (.iconst 1, 1) := by decide +kernel
theorem dX6_isSeen_161 : decode cX6_isSeen 161 = .ok (.goto 4, 3) := by decide +kernel
theorem dX6_isSeen_164 : decode cX6_isSeen 164 = .ok (.iconst 0, 1) := by decide +kernel
theorem dX6_isSeen_165 : decode cX6_isSeen 165 = .ok (.istore 11, 2) := by decide +kernel
theorem dX6_isSeen_167 : decode cX6_isSeen 167 = .ok (.iload 6, 2) := by decide +kernel
theorem dX6_isSeen_169 : decode cX6_isSeen 169 = .ok (.ifCond .eq 37, 3) := by decide +kernel
theorem dX6_isSeen_172 : decode cX6_isSeen 172 = .ok (.iload 9, 2) := by decide +kernel
theorem dX6_isSeen_174 : decode cX6_isSeen 174 = .ok (.ifCond .eq 28, 3) := by decide +kernel
theorem dX6_isSeen_177 : decode cX6_isSeen 177 = .ok (.iload 11, 2) := by decide +kernel
theorem dX6_isSeen_179 : decode cX6_isSeen 179 = .ok (.aload_n 0, 1) := by decide +kernel
theorem dX6_isSeen_180 : decode cX6_isSeen 180 = .ok (.getfield 34, 3) := by decide +kernel
theorem dX6_isSeen_183 : decode cX6_isSeen 183 = .ok (.iconst 3, 1) := by decide +kernel
theorem dX6_isSeen_184 : decode cX6_isSeen 184 = .ok (.iload 7, 2) := by decide +kernel
theorem dX6_isSeen_186 : decode cX6_isSeen 186 = .ok (.imul, 1) := by decide +kernel
theorem dX6_isSeen_187 : decode cX6_isSeen 187 = .ok (.iconst 2, 1) := by decide +kernel
theorem dX6_isSeen_188 : decode cX6_isSeen 188 = .ok (.iadd, 1) := by decide +kernel
theorem dX6_isSeen_189 : decode cX6_isSeen 189 = .ok (.iaload, 1) := by decide +kernel
theorem dX6_isSeen_190 : decode cX6_isSeen 190 = .ok (.iconst 1, 1) := by decide +kernel
theorem dX6_isSeen_191 : decode cX6_isSeen 191 = .ok (.if_icmp .ne 7, 3) := by decide +kernel
theorem dX6_isSeen_194 : decode cX6_isSeen 194 = .ok (.iconst 1, 1) := by decide +kernel
theorem dX6_isSeen_195 : decode cX6_isSeen 195 = .ok (.goto 4, 3) := by decide +kernel
theorem dX6_isSeen_198 : decode cX6_isSeen 198 = .ok (.iconst 0, 1) := by decide +kernel
theorem dX6_isSeen_199 : decode cX6_isSeen 199 = .ok (.if_icmp .ne 7, 3) := by decide +kernel
theorem dX6_isSeen_202 : decode cX6_isSeen 202 = .ok (.iconst 1, 1) := by decide +kernel
theorem dX6_isSeen_203 : decode cX6_isSeen 203 = .ok (.goto 4, 3) := by decide +kernel
theorem dX6_isSeen_206 : decode cX6_isSeen 206 = .ok (.iconst 0, 1) := by decide +kernel
theorem dX6_isSeen_207 : decode cX6_isSeen 207 = .ok (.istore 6, 2) := by decide +kernel
theorem dX6_isSeen_209 : decode cX6_isSeen 209 = .ok (.iinc 7 1, 3) := by decide +kernel
theorem dX6_isSeen_212 : decode cX6_isSeen 212 = .ok (.goto (-206), 3) := by decide +kernel
theorem dX6_isSeen_215 : decode cX6_isSeen 215 = .ok (.iload 6, 2) := by decide +kernel
theorem dX6_isSeen_217 : decode cX6_isSeen 217 = .ok (.ireturn, 1) := by decide +kernel
set_option maxRecDepth 20000 in
theorem ggX6_hands_X6_isPerson : GoodIn wsX6_hands wsX6_isPerson := goodIn_r _ [5, 6, 7, 8, 4, 9, 20, 21, 22, 23, 24, 25, 26, 27, 28, 29, 30, 31, 32, 33, 34] (by decide +kernel) (by decide +kernel)
set_option maxRecDepth 20000 in
theorem gX6_hands_X6_isPerson : GoodIn wsX6_hands (wsV RX6 127 RX6 yX6_isPerson wsX6_isPerson) := goodIn_app (goodIn_of _ (by decide +kernel)) ggX6_hands_X6_isPerson
set_option maxRecDepth 20000 in
theorem ggX6_hands_X6_in : GoodIn wsX6_hands wsX6_in := goodIn_r _ [9] (by decide +kernel) (by decide +kernel)
set_option maxRecDepth 20000 in
theorem gX6_hands_X6_in : GoodIn wsX6_hands (va_wsS RX6 57 yX6_in wsX6_in) := goodIn_app (goodIn_of _ (by decide +kernel)) ggX6_hands_X6_in
set_option maxRecDepth 20000 in
theorem ggX6_hands_X6_isSeen : GoodIn wsX6_hands wsX6_isSeen := goodIn_r _ [13, 14, 15, 16, 6, 17, 18, 4, 19, 20, 21, 22, 23, 24, 25, 26, 27, 28, 29, 30, 31, 32, 33, 34] (by decide +kernel) (by decide +kernel)
set_option maxRecDepth 20000 in
theorem gX6_hands_X6_isSeen : GoodIn wsX6_hands (wsV RX6 163 RX6 yX6_isSeen wsX6_isSeen) := goodIn_app (goodIn_of _ (by decide +kernel)) ggX6_hands_X6_isSeen
theorem dX6_hands_0 : decode cX6_hands 0 = .ok (.aload_n 0, 1) := by decide +kernel
theorem dX6_hands_1 : decode cX6_hands 1 = .ok (.iload_n 1, 1) := by decide +kernel
theorem dX6_hands_2 : decode cX6_hands 2 = .ok (.invokevirtual 127, 3) := by decide +kernel
theorem dX6_hands_5 : decode cX6_hands 5 = .ok (.ifCond .eq 13, 3) := by decide +kernel
theorem dX6_hands_8 : decode cX6_hands 8 = .ok (.iload_n 2, 1) := by decide +kernel
theorem dX6_hands_9 : decode cX6_hands 9 = .ok (.i2l, 1) := by decide +kernel
theorem dX6_hands_10 : decode cX6_hands 10 = .ok (.lconst 0, 1) := by decide +kernel
theorem dX6_hands_11 : decode cX6_hands 11 = .ok (.lconst 1, 1) := by decide +kernel
theorem dX6_hands_12 : decode cX6_hands 12 = .ok (.invokestatic 57, 3) := by decide +kernel
theorem dX6_hands_15 : decode cX6_hands 15 = .ok (.ifCond .ne 5, 3) := by decide +kernel
theorem dX6_hands_18 : decode cX6_hands 18 = .ok (.iconst (-1), 1) := by decide +kernel
