theorem dX5_sizeByNow_9 : decode cX5_sizeByNow 9 = .ok (.isub, 1) := by decide +kernel
theorem dX5_sizeByNow_10 : decode cX5_sizeByNow 10 = .ok (.goto 4, 3) := by decide +kernel
theorem dX5_sizeByNow_13 : decode cX5_sizeByNow 13 = .ok (.iload_n 1, 1) := by decide +kernel
theorem dX5_sizeByNow_14 : decode cX5_sizeByNow 14 = .ok (.ireturn, 1) := by decide +kernel
theorem dX5_isAsLarge_0 : decode cX5_isAsLarge 0 = .ok (.iload_n 2, 1) := by decide +kernel
theorem dX5_isAsLarge_1 : decode cX5_isAsLarge 1 = .ok (.iload_n 1, 1) := by decide +kernel
theorem dX5_isAsLarge_2 : decode cX5_isAsLarge 2 = .ok (.isub, 1) := by decide +kernel
theorem dX5_isAsLarge_3 : decode cX5_isAsLarge 3 = .ok (.istore_n 3, 1) := by decide +kernel
theorem dX5_isAsLarge_4 : decode cX5_isAsLarge 4 = .ok (.iload_n 0, 1) := by decide +kernel
theorem dX5_isAsLarge_5 : decode cX5_isAsLarge 5 = .ok (.iconst 2, 1) := by decide +kernel
theorem dX5_isAsLarge_6 : decode cX5_isAsLarge 6 = .ok (.if_icmp .ne 13, 3) := by decide +kernel
theorem dX5_isAsLarge_9 : decode cX5_isAsLarge 9 = .ok (.iload_n 3, 1) := by decide +kernel
theorem dX5_isAsLarge_10 : decode cX5_isAsLarge 10 = .ok (.ifCond .ne 7, 3) := by decide +kernel
theorem dX5_isAsLarge_13 : decode cX5_isAsLarge 13 = .ok (.iconst 1, 1) := by decide +kernel
theorem dX5_isAsLarge_14 : decode cX5_isAsLarge 14 = .ok (.goto 4, 3) := by decide +kernel
theorem dX5_isAsLarge_17 : decode cX5_isAsLarge 17 = .ok (.iconst 0, 1) := by decide +kernel
theorem dX5_isAsLarge_18 : decode cX5_isAsLarge 18 = .ok (.ireturn, 1) := by decide +kernel
theorem dX5_isAsLarge_19 : decode cX5_isAsLarge 19 = .ok (.iload_n 3, 1) := by decide +kernel
theorem dX5_isAsLarge_20 : decode cX5_isAsLarge 20 = .ok (.ifCond .eq 18, 3) := by decide +kernel
theorem dX5_isAsLarge_23 : decode cX5_isAsLarge 23 = .ok (.iload_n 3, 1) := by decide +kernel
theorem dX5_isAsLarge_24 : decode cX5_isAsLarge 24 = .ok (.iconst (-1), 1) := by decide +kernel
theorem dX5_isAsLarge_25 : decode cX5_isAsLarge 25 = .ok (.if_icmp .eq 13, 3) := by decide +kernel
theorem dX5_isAsLarge_28 : decode cX5_isAsLarge 28 = .ok (.iload_n 3, 1) := by decide +kernel
theorem dX5_isAsLarge_29 : decode cX5_isAsLarge 29 = .ok (.iconst 1, 1) := by decide +kernel
theorem dX5_isAsLarge_30 : decode cX5_isAsLarge 30 = .ok (.if_icmp .ne 12, 3) := by decide +kernel
theorem dX5_isAsLarge_33 : decode cX5_isAsLarge 33 = .ok (.iload_n 0, 1) := by decide +kernel
theorem dX5_isAsLarge_34 : decode cX5_isAsLarge 34 = .ok (.iconst 1, 1) := by decide +kernel
theorem dX5_isAsLarge_35 : decode cX5_isAsLarge 35 = .ok (.if_icmp .ne 7, 3) := by decide +kernel
theorem dX5_isAsLarge_38 : decode cX5_isAsLarge 38 = .ok (.iconst 1, 1) := by decide +kernel
theorem dX5_isAsLarge_39 : decode cX5_isAsLarge 39 = .ok (.goto 4, 3) := by decide +kernel
theorem dX5_isAsLarge_42 : decode cX5_isAsLarge 42 = .ok (.iconst 0, 1) := by decide +kernel
theorem dX5_isAsLarge_43 : decode cX5_isAsLarge 43 = .ok (.ireturn, 1) := by decide +kernel
theorem dX5_mightByFight_0 : decode cX5_mightByFight 0 = .ok (.iload_n 0, 1) := by decide +kernel
theorem dX5_mightByFight_1 : decode cX5_mightByFight 1 = .ok (.iload_n 1, 1) := by decide +kernel
theorem dX5_mightByFight_2 : decode cX5_mightByFight 2 = .ok (.if_icmp .le 15, 3) := by decide +kernel
theorem dX5_mightByFight_5 : decode cX5_mightByFight 5 = .ok (.iconst 1, 1) := by decide +kernel
theorem dX5_mightByFight_6 : decode cX5_mightByFight 6 = .ok (.iload_n 0, 1) := by decide +kernel
theorem dX5_mightByFight_7 : decode cX5_mightByFight 7 = .ok (.iload_n 1, 1) := by decide +kernel
theorem dX5_mightByFight_8 : decode cX5_mightByFight 8 = .ok (.iconst 2, 1) := by decide +kernel
theorem dX5_mightByFight_9 : decode cX5_mightByFight 9 = .ok (.idiv, 1) := by decide +kernel
theorem dX5_mightByFight_10 : decode cX5_mightByFight 10 = .ok (.isub, 1) := by decide +kernel
theorem dX5_mightByFight_11 : decode cX5_mightByFight 11 = .ok (.invokestatic 119, 3) := by decide +kernel
theorem dX5_mightByFight_14 : decode cX5_mightByFight 14 = .ok (.goto 4, 3) := by decide +kernel
theorem dX5_mightByFight_17 : decode cX5_mightByFight 17 = .ok (.iconst 0, 1) := by decide +kernel
theorem dX5_mightByFight_18 : decode cX5_mightByFight 18 = .ok (.ireturn, 1) := by decide +kernel
theorem dX5_commonDivisor_0 : decode cX5_commonDivisor 0 = .ok (.iload_n 0, 1) := by decide +kernel
theorem dX5_commonDivisor_1 : decode cX5_commonDivisor 1 = .ok (.istore_n 2, 1) := by decide +kernel
theorem dX5_commonDivisor_2 : decode cX5_commonDivisor 2 = .ok (.iload_n 1, 1) := by decide +kernel
theorem dX5_commonDivisor_3 : decode cX5_commonDivisor 3 = .ok (.istore_n 3, 1) := by decide +kernel
theorem dX5_commonDivisor_4 : decode cX5_commonDivisor 4 = .ok (.iconst 0, 1) := by decide +kernel
theorem dX5_commonDivisor_5 : decode cX5_commonDivisor 5 = .ok (.istore 4, 2) := by decide +kernel
theorem dX5_commonDivisor_7 : decode cX5_commonDivisor 7 = .ok (.iload 4, 2) := by decide +kernel
theorem dX5_commonDivisor_9 : decode cX5_commonDivisor 9 = .ok (.bipush 100, 2) := by decide +kernel
theorem dX5_commonDivisor_11 : decode cX5_commonDivisor 11 = .ok (.if_icmp .ge 23, 3) := by decide +kernel
theorem dX5_commonDivisor_14 : decode cX5_commonDivisor 14 = .ok (.iload_n 3, 1) := by decide +kernel
theorem dX5_commonDivisor_15 : decode cX5_commonDivisor 15 = .ok (.ifCond .eq 19, 3) := by decide +kernel
theorem dX5_commonDivisor_18 : decode cX5_commonDivisor 18 = .ok (.iload_n 2, 1) := by decide +kernel
theorem dX5_commonDivisor_19 : decode cX5_commonDivisor 19 = .ok (.iload_n 3, 1) := by decide +kernel
theorem dX5_commonDivisor_20 : decode cX5_commonDivisor 20 = .ok (.irem, 1) := by decide +kernel
theorem dX5_commonDivisor_21 : decode cX5_commonDivisor 21 = .ok (.istore 5, 2) := by decide +kernel
theorem dX5_commonDivisor_23 : decode cX5_commonDivisor 23 = .ok (.iload_n 3, 1) := by decide +kernel
theorem dX5_commonDivisor_24 : decode cX5_commonDivisor 24 = .ok (.istore_n 2, 1) := by decide +kernel
theorem dX5_commonDivisor_25 : decode cX5_commonDivisor 25 = .ok (.iload 5, 2) := by decide +kernel
theorem dX5_commonDivisor_27 : decode cX5_commonDivisor 27 = .ok (.istore_n 3, 1) := by decide +kernel
theorem dX5_commonDivisor_28 : decode cX5_commonDivisor 28 = .ok (.iinc 4 1, 3) := by decide +kernel
theorem dX5_commonDivisor_31 : decode cX5_commonDivisor 31 = .ok (.goto (-24), 3) := by decide +kernel
theorem dX5_commonDivisor_34 : decode cX5_commonDivisor 34 = .ok (.iload_n 2, 1) := by decide +kernel
theorem dX5_commonDivisor_35 : decode cX5_commonDivisor 35 = .ok (.ireturn, 1) := by decide +kernel
set_option maxRecDepth 20000 in
theorem ggX6_init_X6_empty : GoodIn wsX6_init wsX6_empty := goodIn_r _ [19, 7, 8, 35, 36, 37, 38, 39, 40, 41, 42, 43, 44, 45, 46, 47, 48, 49] (by decide +kernel) (by decide +kernel)
set_option maxRecDepth 20000 in
theorem gX6_init_X6_empty : GoodIn wsX6_init (wsV RX6 40 RX6 yX6_empty wsX6_empty) := goodIn_app (goodIn_of _ (by decide +kernel)) ggX6_init_X6_empty
set_option maxRecDepth 20000 in
theorem ggX6_init_X6_personIs : GoodIn wsX6_init wsX6_personIs := goodIn_r _ [23, 7, 8, 35, 36, 37, 38, 39, 40, 41, 42, 43, 44, 45, 46, 47, 48, 49] (by decide +kernel) (by decide +kernel)
set_option maxRecDepth 20000 in
theorem gX6_init_X6_personIs : GoodIn wsX6_init (wsV RX6 43 RX6 yX6_personIs wsX6_personIs) := goodIn_app (goodIn_of _ (by decide +kernel)) ggX6_init_X6_personIs
set_option maxRecDepth 20000 in
theorem ggX6_init_X6_gloveIs : GoodIn wsX6_init wsX6_gloveIs := goodIn_r _ [27, 8, 35, 36, 37, 38, 39, 40, 41, 42, 43, 44, 45, 46, 47, 48, 49] (by decide +kernel) (by decide +kernel)
set_option maxRecDepth 20000 in
theorem gX6_init_X6_gloveIs : GoodIn wsX6_init (wsV RX6 47 RX6 yX6_gloveIs wsX6_gloveIs) := goodIn_app (goodIn_of _ (by decide +kernel)) ggX6_init_X6_gloveIs
set_option maxRecDepth 20000 in
theorem ggX6_init_X6_begin : GoodIn wsX6_init wsX6_begin := goodIn_r _ [31, 6, 7, 9, 8, 32, 33, 34, 35, 36, 37, 38, 39, 40, 41, 42, 43, 44, 45, 46, 47, 48, 49] (by decide +kernel) (by decide +kernel)
set_option maxRecDepth 20000 in
theorem gX6_init_X6_begin : GoodIn wsX6_init (wsV RX6 50 RX6 yX6_begin wsX6_begin) := goodIn_app (goodIn_of _ (by decide +kernel)) ggX6_init_X6_begin
theorem dX6_init_0 : decode cX6_init 0 = .ok (.aload_n 0, 1) := by decide +kernel
theorem dX6_init_1 : decode cX6_init 1 = .ok (.invokespecial 1, 3) := by decide +kernel
theorem dX6_init_4 : decode cX6_init 4 = .ok (.aload_n 0, 1) := by decide +kernel
theorem dX6_init_5 : decode cX6_init 5 = .ok (.sipush 200, 3) := by decide +kernel
theorem dX6_init_8 : decode cX6_init 8 = .ok (.newarray .int, 2) := by decide +kernel
theorem dX6_init_10 : decode cX6_init 10 = .ok (.putfield 7, 3) := by decide +kernel
theorem dX6_init_13 : decode cX6_init 13 = .ok (.aload_n 0, 1) := by decide +kernel
theorem dX6_init_14 : decode cX6_init 14 = .ok (.bipush 13, 2) := by decide +kernel
theorem dX6_init_16 : decode cX6_init 16 = .ok (.newarray .int, 2) := by decide +kernel
theorem dX6_init_18 : decode cX6_init 18 = .ok (.putfield 13, 3) := by decide +kernel
theorem dX6_init_21 : decode cX6_init 21 = .ok (.aload_n 0, 1) := by decide +kernel
theorem dX6_init_22 : decode cX6_init 22 = .ok (.bipush 13, 2) := by decide +kernel
theorem dX6_init_24 : decode cX6_init 24 = .ok (.newarray .int, 2) := by decide +kernel
theorem dX6_init_26 : decode cX6_init 26 = .ok (.putfield 16, 3) := by decide +kernel
theorem dX6_init_29 : decode cX6_init 29 = .ok (.aload_n 0, 1) := by decide +kernel
theorem dX6_init_30 : decode cX6_init 30 = .ok (.bipush 42, 2) := by decide +kernel
theorem dX6_init_32 : decode cX6_init 32 = .ok (.newarray .int, 2) := by decide +kernel
theorem dX6_init_34 : decode cX6_init 34 = .ok (.putfield 19, 3) := by decide +kernel
theorem dX6_init_37 : decode cX6_init 37 = .ok (.aload_n 0, 1) := by decide +kernel
theorem dX6_init_38 : decode cX6_init 38 = .ok (.bipush 42, 2) := by decide +kernel
theorem dX6_init_40 : decode cX6_init 40 = .ok (.newarray .int, 2) := by decide +kernel
theorem dX6_init_42 : decode cX6_init 42 = .ok (.putfield 22, 3) := by decide +kernel
theorem dX6_init_45 : decode cX6_init 45 = .ok (.aload_n 0, 1) := by decide +kernel
theorem dX6_init_46 : decode cX6_init 46 = .ok (.bipush 42, 2) := by decide +kernel
theorem dX6_init_48 : decode cX6_init 48 = .ok (.newarray .int, 2) := by decide +kernel
theorem dX6_init_50 : decode cX6_init 50 = .ok (.putfield 25, 3) := by decide +kernel
theorem dX6_init_53 : decode cX6_init 53 = .ok (.aload_n 0, 1) := by decide +kernel
theorem dX6_init_54 : decode cX6_init 54 = .ok (.sipush 336, 3) := by decide +kernel
theorem dX6_init_57 : decode cX6_init 57 = .ok (.newarray .int, 2) := by decide +kernel
theorem dX6_init_59 : decode cX6_init 59 = .ok (.putfield 28, 3) := by decide +kernel
theorem dX6_init_62 : decode cX6_init 62 = .ok (.aload_n 0, 1) := by decide +kernel
theorem dX6_init_63 : decode cX6_init 63 = .ok (.bipush 84, 2) := by decide +kernel
theorem dX6_init_65 : decode cX6_init 65 = .ok (.newarray .int, 2) := by decide +kernel
theorem dX6_init_67 : decode cX6_init 67 = .ok (.putfield 31, 3) := by decide +kernel
theorem dX6_init_70 : decode cX6_init 70 = .ok (.aload_n 0, 1) := by decide +kernel
theorem dX6_init_71 : decode cX6_init 71 = .ok (.bipush 18, 2) := by decide +kernel
theorem dX6_init_73 : decode cX6_init 73 = .ok (.newarray .int, 2) := by decide +kernel
theorem dX6_init_75 : decode cX6_init 75 = .ok (.putfield 34, 3) := by decide +kernel
theorem dX6_init_78 : decode cX6_init 78 = .ok (.aload_n 0, 1) := by decide +kernel
theorem dX6_init_79 : decode cX6_init 79 = .ok (.iconst 3, 1) := by decide +kernel
theorem dX6_init_80 : decode cX6_init 80 = .ok (.newarray .int, 2) := by decide +kernel
theorem dX6_init_82 : decode cX6_init 82 = .ok (.putfield 37, 3) := by decide +kernel
theorem dX6_init_85 : decode cX6_init 85 = .ok (.aload_n 0, 1) := by decide +kernel
theorem dX6_init_86 : decode cX6_init 86 = .ok (.invokevirtual 40, 3) := by decide +kernel
theorem dX6_init_89 : decode cX6_init 89 = .ok (.aload_n 0, 1) := by decide +kernel
theorem dX6_init_90 : decode cX6_init 90 = .ok (.bipush 8, 2) := by decide +kernel
theorem dX6_init_92 : decode cX6_init 92 = .ok (.bipush 10, 2) := by decide +kernel
theorem dX6_init_94 : decode cX6_init 94 = .ok (.iconst 1, 1) := by decide +kernel
theorem dX6_init_95 : decode cX6_init 95 = .ok (.invokevirtual 43, 3) := by decide +kernel
theorem dX6_init_98 : decode cX6_init 98 = .ok (.aload_n 0, 1) := by decide +kernel
theorem dX6_init_99 : decode cX6_init 99 = .ok (.bipush 6, 2) := by decide +kernel
theorem dX6_init_101 : decode cX6_init 101 = .ok (.bipush 12, 2) := by decide +kernel
theorem dX6_init_103 : decode cX6_init 103 = .ok (.iconst 0, 1) := by decide +kernel
theorem dX6_init_104 : decode cX6_init 104 = .ok (.invokevirtual 43, 3) := by decide +kernel
theorem dX6_init_107 : decode cX6_init 107 = .ok (.aload_n 0, 1) := by decide +kernel
theorem dX6_init_108 : decode cX6_init 108 = .ok (.iconst 4, 1) := by decide +kernel
theorem dX6_init_109 : decode cX6_init 109 = .ok (.bipush 7, 2) := by decide +kernel
theorem dX6_init_111 : decode cX6_init 111 = .ok (.iconst 1, 1) := by decide +kernel
theorem dX6_init_112 : decode cX6_init 112 = .ok (.invokevirtual 43, 3) := by decide +kernel
theorem dX6_init_115 : decode cX6_init 115 = .ok (.aload_n 0, 1) := by decide +kernel
theorem dX6_init_116 : decode cX6_init 116 = .ok (.bipush 9, 2) := by decide +kernel
theorem dX6_init_118 : decode cX6_init 118 = .ok (.bipush 20, 2) := by decide +kernel
theorem dX6_init_120 : decode cX6_init 120 = .ok (.iconst 0, 1) := by decide +kernel
theorem dX6_init_121 : decode cX6_init 121 = .ok (.invokevirtual 43, 3) := by decide +kernel
theorem dX6_init_124 : decode cX6_init 124 = .ok (.aload_n 0, 1) := by decide +kernel
theorem dX6_init_125 : decode cX6_init 125 = .ok (.bipush 7, 2) := by decide +kernel
theorem dX6_init_127 : decode cX6_init 127 = .ok (.iconst 5, 1) := by decide +kernel
theorem dX6_init_128 : decode cX6_init 128 = .ok (.iconst 1, 1) := by decide +kernel
theorem dX6_init_129 : decode cX6_init 129 = .ok (.invokevirtual 43, 3) := by decide +kernel
theorem dX6_init_132 : decode cX6_init 132 = .ok (.aload_n 0, 1) := by decide +kernel
theorem dX6_init_133 : decode cX6_init 133 = .ok (.iconst 0, 1) := by decide +kernel
theorem dX6_init_134 : decode cX6_init 134 = .ok (.bipush 8, 2) := by decide +kernel
theorem dX6_init_136 : decode cX6_init 136 = .ok (.iconst 3, 1) := by decide +kernel
theorem dX6_init_137 : decode cX6_init 137 = .ok (.invokevirtual 47, 3) := by decide +kernel
theorem dX6_init_140 : decode cX6_init 140 = .ok (.aload_n 0, 1) := by decide +kernel
theorem dX6_init_141 : decode cX6_init 141 = .ok (.iconst 1, 1) := by decide +kernel
theorem dX6_init_142 : decode cX6_init 142 = .ok (.iconst 5, 1) := by decide +kernel
theorem dX6_init_143 : decode cX6_init 143 = .ok (.iconst 1, 1) := by decide +kernel
theorem dX6_init_144 : decode cX6_init 144 = .ok (.invokevirtual 47, 3) := by decide +kernel
theorem dX6_init_147 : decode cX6_init 147 = .ok (.aload_n 0, 1) := by decide +kernel
theorem dX6_init_148 : decode cX6_init 148 = .ok (.iconst 2, 1) := by decide +kernel
theorem dX6_init_149 : decode cX6_init 149 = .ok (.iconst 4, 1) := by decide +kernel
theorem dX6_init_150 : decode cX6_init 150 = .ok (.iconst 3, 1) := by decide +kernel
theorem dX6_init_151 : decode cX6_init 151 = .ok (.invokevirtual 47, 3) := by decide +kernel
theorem dX6_init_154 : decode cX6_init 154 = .ok (.aload_n 0, 1) := by decide +kernel
theorem dX6_init_155 : decode cX6_init 155 = .ok (.iconst 3, 1) := by decide +kernel
theorem dX6_init_156 : decode cX6_init 156 = .ok (.bipush 9, 2) := by decide +kernel
theorem dX6_init_158 : decode cX6_init 158 = .ok (.iconst 1, 1) := by decide +kernel
theorem dX6_init_159 : decode cX6_init 159 = .ok (.invokevirtual 47, 3) := by decide +kernel
theorem dX6_init_162 : decode cX6_init 162 = .ok (.aload_n 0, 1) := by decide +kernel
theorem dX6_init_163 : decode cX6_init 163 = .ok (.iconst 0, 1) := by decide +kernel
theorem dX6_init_164 : decode cX6_init 164 = .ok (.bipush 7, 2) := by decide +kernel
theorem dX6_init_166 : decode cX6_init 166 = .ok (.iconst 0, 1) := by decide +kernel
theorem dX6_init_167 : decode cX6_init 167 = .ok (.invokevirtual 47, 3) := by decide +kernel
theorem dX6_init_170 : decode cX6_init 170 = .ok (.aload_n 0, 1) := by decide +kernel
theorem dX6_init_171 : decode cX6_init 171 = .ok (.invokevirtual 50, 3) := by decide +kernel
theorem dX6_init_174 : decode cX6_init 174 = .ok (.return_, 1) := by decide +kernel
theorem dX6_in_0 : decode cX6_in 0 = .ok (.lload_n 0, 1) := by decide +kernel
theorem dX6_in_1 : decode cX6_in 1 = .ok (.lload_n 2, 1) := by decide +kernel
theorem dX6_in_2 : decode cX6_in 2 = .ok (.lcmp, 1) := by decide +kernel
theorem dX6_in_3 : decode cX6_in 3 = .ok (.ifCond .lt 14, 3) := by decide +kernel
theorem dX6_in_6 : decode cX6_in 6 = .ok (.lload_n 0, 1) := by decide +kernel
theorem dX6_in_7 : decode cX6_in 7 = .ok (.lload 4, 2) := by decide +kernel
theorem dX6_in_9 : decode cX6_in 9 = .ok (.lcmp, 1) := by decide +kernel
theorem dX6_in_10 : decode cX6_in 10 = .ok (.ifCond .gt 7, 3) := by decide +kernel
theorem dX6_in_13 : decode cX6_in 13 = .ok (.iconst 1, 1) := by decide +kernel
theorem dX6_in_14 : decode cX6_in 14 = .ok (.goto 4, 3) := by decide +kernel
theorem dX6_in_17 : decode cX6_in 17 = .ok (.iconst 0, 1) := by decide +kernel
theorem dX6_in_18 : decode cX6_in 18 = .ok (.ireturn, 1) := by decide +kernel
theorem dX6_has_0 : decode cX6_has 0 = .ok (.iload_n 0, 1) := by decide +kernel
theorem dX6_has_1 : decode cX6_has 1 = .ok (.iload_n 1, 1) := by decide +kernel
theorem dX6_has_2 : decode cX6_has 2 = .ok (.ishr, 1) := by decide +kernel
theorem dX6_has_3 : decode cX6_has 3 = .ok (.iconst 1, 1) := by decide +kernel
theorem dX6_has_4 : decode cX6_has 4 = .ok (.iand, 1) := by decide +kernel
theorem dX6_has_5 : decode cX6_has 5 = .ok (.iconst 1, 1) := by decide +kernel
theorem dX6_has_6 : decode cX6_has 6 = .ok (.if_icmp .ne 7, 3) := by decide +kernel
theorem dX6_has_9 : decode cX6_has 9 = .ok (.iconst 1, 1) := by decide +kernel
theorem dX6_has_10 : decode cX6_has 10 = .ok (.goto 4, 3) := by decide +kernel
theorem dX6_has_13 : decode cX6_has 13 = .ok (.iconst 0, 1) := by decide +kernel
theorem dX6_has_14 : decode cX6_has 14 = .ok (.ireturn, 1) := by decide +kernel
theorem dX6_ones_0 : decode cX6_ones 0 = .ok (.iconst 0, 1) := by decide +kernel
theorem dX6_ones_1 : decode cX6_ones 1 = .ok (.istore_n 1, 1) := by decide +kernel
theorem dX6_ones_2 : decode cX6_ones 2 = .ok (.iload_n 0, 1) := by decide +kernel
theorem dX6_ones_3 : decode cX6_ones 3 = .ok (.istore_n 2, 1) := by decide +kernel
theorem dX6_ones_4 : decode cX6_ones 4 = .ok (.iload_n 2, 1) := by decide +kernel
theorem dX6_ones_5 : decode cX6_ones 5 = .ok (.ifCond .eq 15, 3) := by decide +kernel
theorem dX6_ones_8 : decode cX6_ones 8 = .ok (.iinc 1 1, 3) := by decide +kernel
theorem dX6_ones_11 : decode cX6_ones 11 = .ok (.iload_n 2, 1) := by decide +kernel
theorem dX6_ones_12 : decode cX6_ones 12 = .ok (.iload_n 2, 1) := by decide +kernel
theorem dX6_ones_13 : decode cX6_ones 13 = .ok (.iconst 1, 1) := by decide +kernel
theorem dX6_ones_14 : decode cX6_ones 14 = .ok (.isub, 1) := by decide +kernel
theorem dX6_ones_15 : decode cX6_ones 15 = .ok (.iand, 1) := by decide +kernel
theorem dX6_ones_16 : decode cX6_ones 16 = .ok (.istore_n 2, 1) := by decide +kernel
theorem dX6_ones_17 : decode cX6_ones 17 = .ok (.goto (-13), 3) := by decide +kernel
theorem dX6_ones_20 : decode cX6_ones 20 = .ok (.iload_n 1, 1) := by decide +kernel
theorem dX6_ones_21 : decode cX6_ones 21 = .ok (.ireturn, 1) := by decide +kernel
theorem dX6_empty_0 : decode cX6_empty 0 = .ok (.iconst 0, 1) := by decide +kernel
theorem dX6_empty_1 : decode cX6_empty 1 = .ok (.istore_n 1, 1) := by decide +kernel
theorem dX6_empty_2 : decode cX6_empty 2 = .ok (.iload_n 1, 1) := by decide +kernel
theorem dX6_empty_3 : decode cX6_empty 3 = .ok (.bipush 13, 2) := by decide +kernel
theorem dX6_empty_5 : decode cX6_empty 5 = .ok (.if_icmp .ge 16, 3) := by decide +kernel
theorem dX6_empty_8 : decode cX6_empty 8 = .ok (.aload_n 0, 1) := by decide +kernel
theorem dX6_empty_9 : decode cX6_empty 9 = .ok (.getfield 16, 3) := by decide +kernel
theorem dX6_empty_12 : decode cX6_empty 12 = .ok (.iload_n 1, 1) := by decide +kernel
theorem dX6_empty_13 : decode cX6_empty 13 = .ok (.iconst 0, 1) := by decide +kernel
theorem dX6_empty_14 : decode cX6_empty 14 = .ok (.iastore, 1) := by decide +kernel
theorem dX6_empty_15 : decode cX6_empty 15 = .ok (.iinc 1 1, 3) := by decide +kernel
theorem dX6_empty_18 : decode cX6_empty 18 = .ok (.goto (-16), 3) := by decide +kernel
theorem dX6_empty_21 : decode cX6_empty 21 = .ok (.iconst 0, 1) := by decide +kernel
theorem dX6_empty_22 : decode cX6_empty 22 = .ok (.istore_n 1, 1) := by decide +kernel
theorem dX6_empty_23 : decode cX6_empty 23 = .ok (.iload_n 1, 1) := by decide +kernel
theorem dX6_empty_24 : decode cX6_empty 24 = .ok (.bipush 42, 2) := by decide +kernel
theorem dX6_empty_26 : decode cX6_empty 26 = .ok (.if_icmp .ge 16, 3) := by decide +kernel
theorem dX6_empty_29 : decode cX6_empty 29 = .ok (.aload_n 0, 1) := by decide +kernel
theorem dX6_empty_30 : decode cX6_empty 30 = .ok (.getfield 19, 3) := by decide +kernel
theorem dX6_empty_33 : decode cX6_empty 33 = .ok (.iload_n 1, 1) := by decide +kernel
theorem dX6_empty_34 : decode cX6_empty 34 = .ok (.iconst 0, 1) := by decide +kernel
theorem dX6_empty_35 : decode cX6_empty 35 = .ok (.iastore, 1) := by decide +kernel
theorem dX6_empty_36 : decode cX6_empty 36 = .ok (.iinc 1 1, 3) := by decide +kernel
theorem dX6_empty_39 : decode cX6_empty 39 = .ok (.goto (-16), 3) := by decide +kernel
theorem dX6_empty_42 : decode cX6_empty 42 = .ok (.return_, 1) := by decide +kernel
theorem dX6_personIs_0 : decode cX6_personIs 0 = .ok (.aload_n 0, 1) := by decide +kernel
theorem dX6_personIs_1 : decode cX6_personIs 1 = .ok (.getfield 16, 3) := by decide +kernel
theorem dX6_personIs_4 : decode cX6_personIs 4 = .ok (.iconst 1, 1) := by decide +kernel
theorem dX6_personIs_5 : decode cX6_personIs 5 = .ok (.aload_n 0, 1) := by decide +kernel
theorem dX6_personIs_6 : decode cX6_personIs 6 = .ok (.getfield 16, 3) := by decide +kernel
theorem dX6_personIs_9 : decode cX6_personIs 9 = .ok (.iconst 0, 1) := by decide +kernel
theorem dX6_personIs_10 : decode cX6_personIs 10 = .ok (.iaload, 1) := by decide +kernel
theorem dX6_personIs_11 : decode cX6_personIs 11 = .ok (.iadd, 1) := by decide +kernel
theorem dX6_personIs_12 : decode cX6_personIs 12 = .ok (.iload_n 1, 1) := by decide +kernel
theorem dX6_personIs_13 : decode cX6_personIs 13 = .ok (.iastore, 1) := by decide +kernel
theorem dX6_personIs_14 : decode cX6_personIs 14 = .ok (.aload_n 0, 1) := by decide +kernel
theorem dX6_personIs_15 : decode cX6_personIs 15 = .ok (.getfield 16, 3) := by decide +kernel
theorem dX6_personIs_18 : decode cX6_personIs 18 = .ok (.bipush 7, 2) := by decide +kernel
theorem dX6_personIs_20 : decode cX6_personIs 20 = .ok (.aload_n 0, 1) := by decide +kernel
theorem dX6_personIs_21 : decode cX6_personIs 21 = .ok (.getfield 16, 3) := by decide +kernel
theorem dX6_personIs_24 : decode cX6_personIs 24 = .ok (.iconst 0, 1) := by decide +kernel
theorem dX6_personIs_25 : decode cX6_personIs 25 = .ok (.iaload, 1) := by decide +kernel
theorem dX6_personIs_26 : decode cX6_personIs 26 = .ok (.iadd, 1) := by decide +kernel
theorem dX6_personIs_27 : decode cX6_personIs 27 = .ok (.iload_n 3, 1) := by decide +kernel
theorem dX6_personIs_28 : decode cX6_personIs 28 = .ok (.iastore, 1) := by decide +kernel
theorem dX6_personIs_29 : decode cX6_personIs 29 = .ok (.aload_n 0, 1) := by decide +kernel
theorem dX6_personIs_30 : decode cX6_personIs 30 = .ok (.getfield 19, 3) := by decide +kernel
theorem dX6_personIs_33 : decode cX6_personIs 33 = .ok (.iconst 4, 1) := by decide +kernel
theorem dX6_personIs_34 : decode cX6_personIs 34 = .ok (.aload_n 0, 1) := by decide +kernel
theorem dX6_personIs_35 : decode cX6_personIs 35 = .ok (.getfield 16, 3) := by decide +kernel
theorem dX6_personIs_38 : decode cX6_personIs 38 = .ok (.iconst 0, 1) := by decide +kernel
theorem dX6_personIs_39 : decode cX6_personIs 39 = .ok (.iaload, 1) := by decide +kernel
theorem dX6_personIs_40 : decode cX6_personIs 40 = .ok (.iadd, 1) := by decide +kernel
theorem dX6_personIs_41 : decode cX6_personIs 41 = .ok (.iload_n 2, 1) := by decide +kernel
theorem dX6_personIs_42 : decode cX6_personIs 42 = .ok (.iastore, 1) := by decide +kernel
theorem dX6_personIs_43 : decode cX6_personIs 43 = .ok (.aload_n 0, 1) := by decide +kernel
theorem dX6_personIs_44 : decode cX6_personIs 44 = .ok (.getfield 16, 3) := by decide +kernel
theorem dX6_personIs_47 : decode cX6_personIs 47 = .ok (.iconst 0, 1) := by decide +kernel
theorem dX6_personIs_48 : decode cX6_personIs 48 = .ok (.dup2, 1) := by decide +kernel
theorem dX6_personIs_49 : decode cX6_personIs 49 = .ok (.iaload, 1) := by decide +kernel
theorem dX6_personIs_50 : decode cX6_personIs 50 = .ok (.iconst 1, 1) := by decide +kernel
theorem dX6_personIs_51 : decode cX6_personIs 51 = .ok (.iadd, 1) := by decide +kernel
theorem dX6_personIs_52 : decode cX6_personIs 52 = .ok (.iastore, 1) := by decide +kernel
theorem dX6_personIs_53 : decode cX6_personIs 53 = .ok (.return_, 1) := by decide +kernel
theorem dX6_gloveIs_0 : decode cX6_gloveIs 0 = .ok (.aload_n 0, 1) := by decide +kernel
theorem dX6_gloveIs_1 : decode cX6_gloveIs 1 = .ok (.getfield 19, 3) := by decide +kernel
theorem dX6_gloveIs_4 : decode cX6_gloveIs 4 = .ok (.iconst 2, 1) := by decide +kernel
theorem dX6_gloveIs_5 : decode cX6_gloveIs 5 = .ok (.iaload, 1) := by decide +kernel
theorem dX6_gloveIs_6 : decode cX6_gloveIs 6 = .ok (.istore 4, 2) := by decide +kernel
theorem dX6_gloveIs_8 : decode cX6_gloveIs 8 = .ok (.aload_n 0, 1) := by decide +kernel
theorem dX6_gloveIs_9 : decode cX6_gloveIs 9 = .ok (.getfield 19, 3) := by decide +kernel
theorem dX6_gloveIs_12 : decode cX6_gloveIs 12 = .ok (.bipush 10, 2) := by decide +kernel
theorem dX6_gloveIs_14 : decode cX6_gloveIs 14 = .ok (.iload 4, 2) := by decide +kernel
theorem dX6_gloveIs_16 : decode cX6_gloveIs 16 = .ok (.iadd, 1) := by decide +kernel
theorem dX6_gloveIs_17 : decode cX6_gloveIs 17 = .ok (.iload_n 1, 1) := by decide +kernel
theorem dX6_gloveIs_18 : decode cX6_gloveIs 18 = .ok (.iastore, 1) := by decide +kernel
theorem dX6_gloveIs_19 : decode cX6_gloveIs 19 = .ok (.aload_n 0, 1) := by decide +kernel
theorem dX6_gloveIs_20 : decode cX6_gloveIs 20 = .ok (.getfield 19, 3) := by decide +kernel
theorem dX6_gloveIs_23 : decode cX6_gloveIs 23 = .ok (.bipush 18, 2) := by decide +kernel
theorem dX6_gloveIs_25 : decode cX6_gloveIs 25 = .ok (.iload 4, 2) := by decide +kernel
theorem dX6_gloveIs_27 : decode cX6_gloveIs 27 = .ok (.iadd, 1) := by decide +kernel
theorem dX6_gloveIs_28 : decode cX6_gloveIs 28 = .ok (.iload_n 2, 1) := by decide +kernel
theorem dX6_gloveIs_29 : decode cX6_gloveIs 29 = .ok (.iastore, 1) := by decide +kernel
theorem dX6_gloveIs_30 : decode cX6_gloveIs 30 = .ok (.aload_n 0, 1) := by decide +kernel
theorem dX6_gloveIs_31 : decode cX6_gloveIs 31 = .ok (.getfield 19, 3) := by decide +kernel
theorem dX6_gloveIs_34 : decode cX6_gloveIs 34 = .ok (.bipush 26, 2) := by decide +kernel
theorem dX6_gloveIs_36 : decode cX6_gloveIs 36 = .ok (.iload 4, 2) := by decide +kernel
theorem dX6_gloveIs_38 : decode cX6_gloveIs 38 = .ok (.iadd, 1) := by decide +kernel
theorem dX6_gloveIs_39 : decode cX6_gloveIs 39 = .ok (.iload_n 3, 1) := by decide +kernel
theorem dX6_gloveIs_40 : decode cX6_gloveIs 40 = .ok (.iastore, 1) := by decide +kernel
theorem dX6_gloveIs_41 : decode cX6_gloveIs 41 = .ok (.aload_n 0, 1) := by decide +kernel
theorem dX6_gloveIs_42 : decode cX6_gloveIs 42 = .ok (.getfield 19, 3) := by decide +kernel
theorem dX6_gloveIs_45 : decode cX6_gloveIs 45 = .ok (.iconst 3, 1) := by decide +kernel
theorem dX6_gloveIs_46 : decode cX6_gloveIs 46 = .ok (.dup2, 1) := by decide +kernel
theorem dX6_gloveIs_47 : decode cX6_gloveIs 47 = .ok (.iaload, 1) := by decide +kernel
theorem dX6_gloveIs_48 : decode cX6_gloveIs 48 = .ok (.iconst 1, 1) := by decide +kernel
theorem dX6_gloveIs_49 : decode cX6_gloveIs 49 = .ok (.iload 4, 2) := by decide +kernel
theorem dX6_gloveIs_51 : decode cX6_gloveIs 51 = .ok (.ishl, 1) := by decide +kernel
theorem dX6_gloveIs_52 : decode cX6_gloveIs 52 = .ok (.ior, 1) := by decide +kernel
theorem dX6_gloveIs_53 : decode cX6_gloveIs 53 = .ok (.iastore, 1) := by decide +kernel
theorem dX6_gloveIs_54 : decode cX6_gloveIs 54 = .ok (.aload_n 0, 1) := by decide +kernel
theorem dX6_gloveIs_55 : decode cX6_gloveIs 55 = .ok (.getfield 19, 3) := by decide +kernel
theorem dX6_gloveIs_58 : decode cX6_gloveIs 58 = .ok (.iconst 2, 1) := by decide +kernel
theorem dX6_gloveIs_59 : decode cX6_gloveIs 59 = .ok (.dup2, 1) := by decide +kernel
theorem dX6_gloveIs_60 : decode cX6_gloveIs 60 = .ok (.iaload, 1) := by decide +kernel
theorem dX6_gloveIs_61 : decode cX6_gloveIs 61 = .ok (.iconst 1, 1) := by decide +kernel
theorem dX6_gloveIs_62 : decode cX6_gloveIs 62 = .ok (.iadd, 1) := by decide +kernel
theorem dX6_gloveIs_63 : decode cX6_gloveIs 63 = .ok (.iastore, 1) := by decide +kernel
theorem dX6_gloveIs_64 : decode cX6_gloveIs 64 = .ok (.return_, 1) := by decide +kernel
set_option maxRecDepth 20000 in
theorem ggX6_write_X6_in : GoodIn wsX6_write wsX6_in := goodIn_r _ [8] (by decide +kernel) (by decide +kernel)
set_option maxRecDepth 20000 in
theorem gX6_write_X6_in : GoodIn wsX6_write (va_wsS RX6 57 yX6_in wsX6_in) := goodIn_app (goodIn_of _ (by decide +kernel)) ggX6_write_X6_in
theorem dX6_write_0 : decode cX6_write 0 = .ok (.iload_n 1, 1) := by decide +kernel
theorem dX6_write_1 : decode cX6_write 1 = .ok (.i2l, 1) := by decide +kernel
theorem dX6_write_2 : decode cX6_write 2 = .ok (.ldc2_w 53, 3) := by decide +kernel
theorem dX6_write_5 : decode cX6_write 5 = .ok (.ldc2_w 55, 3) := by decide +kernel
theorem dX6_write_8 : decode cX6_write 8 = .ok (.invokestatic 57, 3) := by decide +kernel
theorem dX6_write_11 : decode cX6_write 11 = .ok (.ifCond .ne 5, 3) := by decide +kernel
theorem dX6_write_14 : decode cX6_write 14 = .ok (.iconst (-1), 1) := by decide +kernel
theorem dX6_write_15 : decode cX6_write 15 = .ok (.ireturn, 1) := by decide +kernel
theorem dX6_write_16 : decode cX6_write 16 = .ok (.aload_n 0, 1) := by decide +kernel
theorem dX6_write_17 : decode cX6_write 17 = .ok (.getfield 61, 3) := by decide +kernel
theorem dX6_write_20 : decode cX6_write 20 = .ok (.sipush 200, 3) := by decide +kernel
theorem dX6_write_23 : decode cX6_write 23 = .ok (.if_icmp .ne 6, 3) := by decide +kernel
theorem dX6_write_26 : decode cX6_write 26 = .ok (.bipush (-3), 2) := by decide +kernel
theorem dX6_write_28 : decode cX6_write 28 = .ok (.ireturn, 1) := by decide +kernel
theorem dX6_write_29 : decode cX6_write 29 = .ok (.aload_n 0, 1) := by decide +kernel
theorem dX6_write_30 : decode cX6_write 30 = .ok (.getfield 7, 3) := by decide +kernel
theorem dX6_write_33 : decode cX6_write 33 = .ok (.aload_n 0, 1) := by decide +kernel
theorem dX6_write_34 : decode cX6_write 34 = .ok (.getfield 61, 3) := by decide +kernel
theorem dX6_write_37 : decode cX6_write 37 = .ok (.iload_n 1, 1) := by decide +kernel
theorem dX6_write_38 : decode cX6_write 38 = .ok (.iastore, 1) := by decide +kernel
theorem dX6_write_39 : decode cX6_write 39 = .ok (.aload_n 0, 1) := by decide +kernel
theorem dX6_write_40 : decode cX6_write 40 = .ok (.dup, 1) := by decide +kernel
theorem dX6_write_41 : decode cX6_write 41 = .ok (.getfield 61, 3) := by decide +kernel
theorem dX6_write_44 : decode cX6_write 44 = .ok (.iconst 1, 1) := by decide +kernel
theorem dX6_write_45 : decode cX6_write 45 = .ok (.iadd, 1) := by decide +kernel
theorem dX6_write_46 : decode cX6_write 46 = .ok (.putfield 61, 3) := by decide +kernel
theorem dX6_write_49 : decode cX6_write 49 = .ok (.aload_n 0, 1) := by decide +kernel
theorem dX6_write_50 : decode cX6_write 50 = .ok (.getfield 61, 3) := by decide +kernel
theorem dX6_write_53 : decode cX6_write 53 = .ok (.ireturn, 1) := by decide +kernel
theorem dX6_wipe_0 : decode cX6_wipe 0 = .ok (.aload_n 0, 1) := by decide +kernel
theorem dX6_wipe_1 : decode cX6_wipe 1 = .ok (.getfield 61, 3) := by decide +kernel
theorem dX6_wipe_4 : decode cX6_wipe 4 = .ok (.istore_n 1, 1) := by decide +kernel
theorem dX6_wipe_5 : decode cX6_wipe 5 = .ok (.aload_n 0, 1) := by decide +kernel
theorem dX6_wipe_6 : decode cX6_wipe 6 = .ok (.iconst 0, 1) := by decide +kernel
theorem dX6_wipe_7 : decode cX6_wipe 7 = .ok (.putfield 61, 3) := by decide +kernel
theorem dX6_wipe_10 : decode cX6_wipe 10 = .ok (.iload_n 1, 1) := by decide +kernel
theorem dX6_wipe_11 : decode cX6_wipe 11 = .ok (.ireturn, 1) := by decide +kernel
theorem dX6_letterAt_0 : decode cX6_letterAt 0 = .ok (.iload_n 1, 1) := by decide +kernel
theorem dX6_letterAt_1 : decode cX6_letterAt 1 = .ok (.aload_n 0, 1) := by decide +kernel
theorem dX6_letterAt_2 : decode cX6_letterAt 2 = .ok (.getfield 61, 3) := by decide +kernel
theorem dX6_letterAt_5 : decode cX6_letterAt 5 = .ok (.if_icmp .ge 12, 3) := by decide +kernel
theorem dX6_letterAt_8 : decode cX6_letterAt 8 = .ok (.aload_n 0, 1) := by decide +kernel
theorem dX6_letterAt_9 : decode cX6_letterAt 9 = .ok (.getfield 7, 3) := by decide +kernel
theorem dX6_letterAt_12 : decode cX6_letterAt 12 = .ok (.iload_n 1, 1) := by decide +kernel
theorem dX6_letterAt_13 : decode cX6_letterAt 13 = .ok (.iaload, 1) := by decide +kernel
theorem dX6_letterAt_14 : decode cX6_letterAt 14 = .ok (.goto 4, 3) := by decide +kernel
theorem dX6_letterAt_17 : decode cX6_letterAt 17 = .ok (.iconst 0, 1) := by decide +kernel
theorem dX6_letterAt_18 : decode cX6_letterAt 18 = .ok (.ireturn, 1) := by decide +kernel
set_option maxRecDepth 20000 in
theorem ggX6_numbers_X6_letterAt : GoodIn wsX6_numbers wsX6_letterAt := goodIn_r _ [10, 11, 12, 16, 17, 18, 19, 20, 21, 22, 23, 24, 25, 26, 27, 28, 29, 30] (by decide +kernel) (by decide +kernel)
set_option maxRecDepth 20000 in
theorem gX6_numbers_X6_letterAt : GoodIn wsX6_numbers (wsV RX6 68 RX6 yX6_letterAt wsX6_letterAt) := goodIn_app (goodIn_of _ (by decide +kernel)) ggX6_numbers_X6_letterAt
set_option maxRecDepth 20000 in
theorem ggX6_numbers_X6_in : GoodIn wsX6_numbers wsX6_in := goodIn_r _ [15] (by decide +kernel) (by decide +kernel)
set_option maxRecDepth 20000 in
theorem gX6_numbers_X6_in : GoodIn wsX6_numbers (va_wsS RX6 57 yX6_in wsX6_in) := goodIn_app (goodIn_of _ (by decide +kernel)) ggX6_numbers_X6_in
theorem dX6_numbers_0 : decode cX6_numbers 0 = .ok (.iconst 0, 1) := by decide +kernel
theorem dX6_numbers_1 : decode cX6_numbers 1 = .ok (.istore_n 1, 1) := by decide +kernel
theorem dX6_numbers_2 : decode cX6_numbers 2 = .ok (.iload_n 1, 1) := by decide +kernel
theorem dX6_numbers_3 : decode cX6_numbers 3 = .ok (.iconst 3, 1) := by decide +kernel
theorem dX6_numbers_4 : decode cX6_numbers 4 = .ok (.if_icmp .ge 126, 3) := by decide +kernel
theorem dX6_numbers_7 : decode cX6_numbers 7 = .ok (.iconst 0, 1) := by decide +kernel
theorem dX6_numbers_8 : decode cX6_numbers 8 = .ok (.istore_n 2, 1) := by decide +kernel
theorem dX6_numbers_9 : decode cX6_numbers 9 = .ok (.iconst 0, 1) := by decide +kernel
theorem dX6_numbers_10 : decode cX6_numbers 10 = .ok (.istore_n 3, 1) := by decide +kernel
theorem dX6_numbers_11 : decode cX6_numbers 11 = .ok (.aload_n 0, 1) := by decide +kernel
theorem dX6_numbers_12 : decode cX6_numbers 12 = .ok (.aload_n 0, 1) := by decide +kernel
theorem dX6_numbers_13 : decode cX6_numbers 13 = .ok (.getfield 65, 3) := by decide +kernel
theorem dX6_numbers_16 : decode cX6_numbers 16 = .ok (.invokevirtual 68, 3) := by decide +kernel
theorem dX6_numbers_19 : decode cX6_numbers 19 = .ok (.i2l, 1) := by decide +kernel
theorem dX6_numbers_20 : decode cX6_numbers 20 = .ok (.ldc2_w 72, 3) := by decide +kernel
theorem dX6_numbers_23 : decode cX6_numbers 23 = .ok (.ldc2_w 74, 3) := by decide +kernel
theorem dX6_numbers_26 : decode cX6_numbers 26 = .ok (.invokestatic 57, 3) := by decide +kernel
theorem dX6_numbers_29 : decode cX6_numbers 29 = .ok (.ifCond .eq 41, 3) := by decide +kernel
theorem dX6_numbers_32 : decode cX6_numbers 32 = .ok (.iload_n 2, 1) := by decide +kernel
theorem dX6_numbers_33 : decode cX6_numbers 33 = .ok (.iconst 3, 1) := by decide +kernel
theorem dX6_numbers_34 : decode cX6_numbers 34 = .ok (.if_icmp .ge 36, 3) := by decide +kernel
theorem dX6_numbers_37 : decode cX6_numbers 37 = .ok (.bipush 10, 2) := by decide +kernel
theorem dX6_numbers_39 : decode cX6_numbers 39 = .ok (.iload_n 3, 1) := by decide +kernel
theorem dX6_numbers_40 : decode cX6_numbers 40 = .ok (.imul, 1) := by decide +kernel
theorem dX6_numbers_41 : decode cX6_numbers 41 = .ok (.aload_n 0, 1) := by decide +kernel
theorem dX6_numbers_42 : decode cX6_numbers 42 = .ok (.aload_n 0, 1) := by decide +kernel
theorem dX6_numbers_43 : decode cX6_numbers 43 = .ok (.getfield 65, 3) := by decide +kernel
theorem dX6_numbers_46 : decode cX6_numbers 46 = .ok (.invokevirtual 68, 3) := by decide +kernel
theorem dX6_numbers_49 : decode cX6_numbers 49 = .ok (.iadd, 1) := by decide +kernel
theorem dX6_numbers_50 : decode cX6_numbers 50 = .ok (.bipush 48, 2) := by decide +kernel
theorem dX6_numbers_52 : decode cX6_numbers 52 = .ok (.isub, 1) := by decide +kernel
theorem dX6_numbers_53 : decode cX6_numbers 53 = .ok (.istore_n 3, 1) := by decide +kernel
theorem dX6_numbers_54 : decode cX6_numbers 54 = .ok (.iinc 2 1, 3) := by decide +kernel
theorem dX6_numbers_57 : decode cX6_numbers 57 = .ok (.aload_n 0, 1) := by decide +kernel
theorem dX6_numbers_58 : decode cX6_numbers 58 = .ok (.dup, 1) := by decide +kernel
theorem dX6_numbers_59 : decode cX6_numbers 59 = .ok (.getfield 65, 3) := by decide +kernel
theorem dX6_numbers_62 : decode cX6_numbers 62 = .ok (.iconst 1, 1) := by decide +kernel
theorem dX6_numbers_63 : decode cX6_numbers 63 = .ok (.iadd, 1) := by decide +kernel
theorem dX6_numbers_64 : decode cX6_numbers 64 = .ok (.putfield 65, 3) := by decide +kernel
theorem dX6_numbers_67 : decode cX6_numbers 67 = .ok (.goto (-56), 3) := by decide +kernel
theorem dX6_numbers_70 : decode cX6_numbers 70 = .ok (.iload_n 2, 1) := by decide +kernel
theorem dX6_numbers_71 : decode cX6_numbers 71 = .ok (.i2l, 1) := by decide +kernel
theorem dX6_numbers_72 : decode cX6_numbers 72 = .ok (.lconst 1, 1) := by decide +kernel
theorem dX6_numbers_73 : decode cX6_numbers 73 = .ok (.ldc2_w 76, 3) := by decide +kernel
theorem dX6_numbers_76 : decode cX6_numbers 76 = .ok (.invokestatic 57, 3) := by decide +kernel
theorem dX6_numbers_79 : decode cX6_numbers 79 = .ok (.ifCond .eq 26, 3) := by decide +kernel
theorem dX6_numbers_82 : decode cX6_numbers 82 = .ok (.aload_n 0, 1) := by decide +kernel
theorem dX6_numbers_83 : decode cX6_numbers 83 = .ok (.aload_n 0, 1) := by decide +kernel
theorem dX6_numbers_84 : decode cX6_numbers 84 = .ok (.getfield 65, 3) := by decide +kernel
theorem dX6_numbers_87 : decode cX6_numbers 87 = .ok (.invokevirtual 68, 3) := by decide +kernel
theorem dX6_numbers_90 : decode cX6_numbers 90 = .ok (.iload_n 1, 1) := by decide +kernel
theorem dX6_numbers_91 : decode cX6_numbers 91 = .ok (.iconst 2, 1) := by decide +kernel
theorem dX6_numbers_92 : decode cX6_numbers 92 = .ok (.if_icmp .ge 8, 3) := by decide +kernel
theorem dX6_numbers_95 : decode cX6_numbers 95 = .ok (.bipush 44, 2) := by decide +kernel
theorem dX6_numbers_97 : decode cX6_numbers 97 = .ok (.goto 5, 3) := by decide +kernel
theorem dX6_numbers_100 : decode cX6_numbers 100 = .ok (.bipush 59, 2) := by decide +kernel
theorem dX6_numbers_102 : decode cX6_numbers 102 = .ok (.if_icmp .eq 5, 3) := by decide +kernel
theorem dX6_numbers_105 : decode cX6_numbers 105 = .ok (.iconst 0, 1) := by decide +kernel
theorem dX6_numbers_106 : decode cX6_numbers 106 = .ok (.ireturn, 1) := by decide +kernel
theorem dX6_numbers_107 : decode cX6_numbers 107 = .ok (.aload_n 0, 1) := by decide +kernel
theorem dX6_numbers_108 : decode cX6_numbers 108 = .ok (.getfield 37, 3) := by decide +kernel
theorem dX6_numbers_111 : decode cX6_numbers 111 = .ok (.iload_n 1, 1) := by decide +kernel
theorem dX6_numbers_112 : decode cX6_numbers 112 = .ok (.iload_n 3, 1) := by decide +kernel
theorem dX6_numbers_113 : decode cX6_numbers 113 = .ok (.iastore, 1) := by decide +kernel
theorem dX6_numbers_114 : decode cX6_numbers 114 = .ok (.aload_n 0, 1) := by decide +kernel
theorem dX6_numbers_115 : decode cX6_numbers 115 = .ok (.dup, 1) := by decide +kernel
theorem dX6_numbers_116 : decode cX6_numbers 116 = .ok (.getfield 65, 3) := by decide +kernel
theorem dX6_numbers_119 : decode cX6_numbers 119 = .ok (.iconst 1, 1) := by decide +kernel
theorem dX6_numbers_120 : decode cX6_numbers 120 = .ok (.iadd, 1) := by decide +kernel
theorem dX6_numbers_121 : decode cX6_numbers 121 = .ok (.putfield 65, 3) := by decide +kernel
theorem dX6_numbers_124 : decode cX6_numbers 124 = .ok (.iinc 1 1, 3) := by decide +kernel
theorem dX6_numbers_127 : decode cX6_numbers 127 = .ok (.goto (-125), 3) := by decide +kernel
theorem dX6_numbers_130 : decode cX6_numbers 130 = .ok (.iconst 1, 1) := by decide +kernel
theorem dX6_numbers_131 : decode cX6_numbers 131 = .ok (.ireturn, 1) := by decide +kernel
set_option maxRecDepth 20000 in
theorem ggX6_item_X6_letterAt : GoodIn wsX6_item wsX6_letterAt := goodIn_r _ [11, 12, 13, 32, 33, 34, 35, 36, 37, 38, 39, 40, 41, 42, 43, 44, 45, 46] (by decide +kernel) (by decide +kernel)
set_option maxRecDepth 20000 in
theorem gX6_item_X6_letterAt : GoodIn wsX6_item (wsV RX6 68 RX6 yX6_letterAt wsX6_letterAt) := goodIn_app (goodIn_of _ (by decide +kernel)) ggX6_item_X6_letterAt
set_option maxRecDepth 20000 in
theorem ggX6_item_X6_numbers : GoodIn wsX6_item wsX6_numbers := goodIn_r _ [17, 1, 18, 19, 20, 3, 7, 8, 9, 10, 11, 12, 13, 21, 22, 23, 32, 33, 34, 35, 36, 37, 38, 39, 40, 41, 42, 43, 44, 45, 46] (by decide +kernel) (by decide +kernel)
set_option maxRecDepth 20000 in
theorem gX6_item_X6_numbers : GoodIn wsX6_item (wsV RX6 78 RX6 yX6_numbers wsX6_numbers) := goodIn_app (goodIn_of _ (by decide +kernel)) ggX6_item_X6_numbers
set_option maxRecDepth 20000 in
theorem ggX6_item_X6_in : GoodIn wsX6_item wsX6_in := goodIn_r _ [23] (by decide +kernel) (by decide +kernel)
set_option maxRecDepth 20000 in
theorem gX6_item_X6_in : GoodIn wsX6_item (va_wsS RX6 57 yX6_in wsX6_in) := goodIn_app (goodIn_of _ (by decide +kernel)) ggX6_item_X6_in
set_option maxRecDepth 20000 in
theorem ggX6_item_X6_personIs : GoodIn wsX6_item wsX6_personIs := goodIn_r _ [27, 2, 6, 32, 33, 34, 35, 36, 37, 38, 39, 40, 41, 42, 43, 44, 45, 46] (by decide +kernel) (by decide +kernel)
set_option maxRecDepth 20000 in
theorem gX6_item_X6_personIs : GoodIn wsX6_item (wsV RX6 43 RX6 yX6_personIs wsX6_personIs) := goodIn_app (goodIn_of _ (by decide +kernel)) ggX6_item_X6_personIs
set_option maxRecDepth 20000 in
theorem ggX6_item_X6_gloveIs : GoodIn wsX6_item wsX6_gloveIs := goodIn_r _ [31, 6, 32, 33, 34, 35, 36, 37, 38, 39, 40, 41, 42, 43, 44, 45, 46] (by decide +kernel) (by decide +kernel)
set_option maxRecDepth 20000 in
theorem gX6_item_X6_gloveIs : GoodIn wsX6_item (wsV RX6 47 RX6 yX6_gloveIs wsX6_gloveIs) := goodIn_app (goodIn_of _ (by decide +kernel)) ggX6_item_X6_gloveIs
theorem dX6_item_0 : decode cX6_item 0 = .ok (.aload_n 0, 1) := by decide +kernel
theorem dX6_item_1 : decode cX6_item 1 = .ok (.aload_n 0, 1) := by decide +kernel
theorem dX6_item_2 : decode cX6_item 2 = .ok (.getfield 65, 3) := by decide +kernel
theorem dX6_item_5 : decode cX6_item 5 = .ok (.invokevirtual 68, 3) := by decide +kernel
theorem dX6_item_8 : decode cX6_item 8 = .ok (.istore_n 1, 1) := by decide +kernel
theorem dX6_item_9 : decode cX6_item 9 = .ok (.aload_n 0, 1) := by decide +kernel
theorem dX6_item_10 : decode cX6_item 10 = .ok (.dup, 1) := by decide +kernel
theorem dX6_item_11 : decode cX6_item 11 = .ok (.getfield 65, 3) := by decide +kernel
theorem dX6_item_14 : decode cX6_item 14 = .ok (.iconst 1, 1) := by decide +kernel
theorem dX6_item_15 : decode cX6_item 15 = .ok (.iadd, 1) := by decide +kernel
theorem dX6_item_16 : decode cX6_item 16 = .ok (.putfield 65, 3) := by decide +kernel
theorem dX6_item_19 : decode cX6_item 19 = .ok (.iload_n 1, 1) := by decide +kernel
theorem dX6_item_20 : decode cX6_item 20 = .ok (.bipush 112, 2) := by decide +kernel
theorem dX6_item_22 : decode cX6_item 22 = .ok (.if_icmp .ne 91, 3) := by decide +kernel
theorem dX6_item_25 : decode cX6_item 25 = .ok (.aload_n 0, 1) := by decide +kernel
theorem dX6_item_26 : decode cX6_item 26 = .ok (.invokevirtual 78, 3) := by decide +kernel
theorem dX6_item_29 : decode cX6_item 29 = .ok (.ifCond .eq 58, 3) := by decide +kernel
theorem dX6_item_32 : decode cX6_item 32 = .ok (.aload_n 0, 1) := by decide +kernel
theorem dX6_item_33 : decode cX6_item 33 = .ok (.getfield 16, 3) := by decide +kernel
theorem dX6_item_36 : decode cX6_item 36 = .ok (.iconst 0, 1) := by decide +kernel
theorem dX6_item_37 : decode cX6_item 37 = .ok (.iaload, 1) := by decide +kernel
theorem dX6_item_38 : decode cX6_item 38 = .ok (.bipush 6, 2) := by decide +kernel
theorem dX6_item_40 : decode cX6_item 40 = .ok (.if_icmp .eq 47, 3) := by decide +kernel
theorem dX6_item_43 : decode cX6_item 43 = .ok (.aload_n 0, 1) := by decide +kernel
theorem dX6_item_44 : decode cX6_item 44 = .ok (.getfield 37, 3) := by decide +kernel
theorem dX6_item_47 : decode cX6_item 47 = .ok (.iconst 0, 1) := by decide +kernel
theorem dX6_item_48 : decode cX6_item 48 = .ok (.iaload, 1) := by decide +kernel
theorem dX6_item_49 : decode cX6_item 49 = .ok (.i2l, 1) := by decide +kernel
theorem dX6_item_50 : decode cX6_item 50 = .ok (.lconst 1, 1) := by decide +kernel
theorem dX6_item_51 : decode cX6_item 51 = .ok (.ldc2_w 82, 3) := by decide +kernel
theorem dX6_item_54 : decode cX6_item 54 = .ok (.invokestatic 57, 3) := by decide +kernel
theorem dX6_item_57 : decode cX6_item 57 = .ok (.ifCond .eq 30, 3) := by decide +kernel
theorem dX6_item_60 : decode cX6_item 60 = .ok (.aload_n 0, 1) := by decide +kernel
theorem dX6_item_61 : decode cX6_item 61 = .ok (.getfield 37, 3) := by decide +kernel
theorem dX6_item_64 : decode cX6_item 64 = .ok (.iconst 1, 1) := by decide +kernel
theorem dX6_item_65 : decode cX6_item 65 = .ok (.iaload, 1) := by decide +kernel
theorem dX6_item_66 : decode cX6_item 66 = .ok (.i2l, 1) := by decide +kernel
theorem dX6_item_67 : decode cX6_item 67 = .ok (.lconst 1, 1) := by decide +kernel
theorem dX6_item_68 : decode cX6_item 68 = .ok (.ldc2_w 84, 3) := by decide +kernel
theorem dX6_item_71 : decode cX6_item 71 = .ok (.invokestatic 57, 3) := by decide +kernel
theorem dX6_item_74 : decode cX6_item 74 = .ok (.ifCond .eq 13, 3) := by decide +kernel
theorem dX6_item_77 : decode cX6_item 77 = .ok (.aload_n 0, 1) := by decide +kernel
theorem dX6_item_78 : decode cX6_item 78 = .ok (.getfield 37, 3) := by decide +kernel
theorem dX6_item_81 : decode cX6_item 81 = .ok (.iconst 2, 1) := by decide +kernel
theorem dX6_item_82 : decode cX6_item 82 = .ok (.iaload, 1) := by decide +kernel
theorem dX6_item_83 : decode cX6_item 83 = .ok (.iconst 1, 1) := by decide +kernel
theorem dX6_item_84 : decode cX6_item 84 = .ok (.if_icmp .le 5, 3) := by decide +kernel
theorem dX6_item_87 : decode cX6_item 87 = .ok (.iconst 0, 1) := by decide +kernel
theorem dX6_item_88 : decode cX6_item 88 = .ok (.ireturn, 1) := by decide +kernel
theorem dX6_item_89 : decode cX6_item 89 = .ok (.aload_n 0, 1) := by decide +kernel
theorem dX6_item_90 : decode cX6_item 90 = .ok (.aload_n 0, 1) := by decide +kernel
theorem dX6_item_91 : decode cX6_item 91 = .ok (.getfield 37, 3) := by decide +kernel
theorem dX6_item_94 : decode cX6_item 94 = .ok (.iconst 0, 1) := by decide +kernel
theorem dX6_item_95 : decode cX6_item 95 = .ok (.iaload, 1) := by decide +kernel
theorem dX6_item_96 : decode cX6_item 96 = .ok (.aload_n 0, 1) := by decide +kernel
theorem dX6_item_97 : decode cX6_item 97 = .ok (.getfield 37, 3) := by decide +kernel
theorem dX6_item_100 : decode cX6_item 100 = .ok (.iconst 1, 1) := by decide +kernel
theorem dX6_item_101 : decode cX6_item 101 = .ok (.iaload, 1) := by decide +kernel
theorem dX6_item_102 : decode cX6_item 102 = .ok (.aload_n 0, 1) := by decide +kernel
theorem dX6_item_103 : decode cX6_item 103 = .ok (.getfield 37, 3) := by decide +kernel
theorem dX6_item_106 : decode cX6_item 106 = .ok (.iconst 2, 1) := by decide +kernel
theorem dX6_item_107 : decode cX6_item 107 = .ok (.iaload, 1) := by decide +kernel
theorem dX6_item_108 : decode cX6_item 108 = .ok (.invokevirtual 43, 3) := by decide +kernel
theorem dX6_item_111 : decode cX6_item 111 = .ok (.iconst 1, 1) := by decide +kernel
theorem dX6_item_112 : decode cX6_item 112 = .ok (.ireturn, 1) := by decide +kernel
theorem dX6_item_113 : decode cX6_item 113 = .ok (.iload_n 1, 1) := by decide +kernel
theorem dX6_item_114 : decode cX6_item 114 = .ok (.bipush 103, 2) := by decide +kernel
theorem dX6_item_116 : decode cX6_item 116 = .ok (.if_icmp .ne 63, 3) := by decide +kernel
theorem dX6_item_119 : decode cX6_item 119 = .ok (.aload_n 0, 1) := by decide +kernel
theorem dX6_item_120 : decode cX6_item 120 = .ok (.invokevirtual 78, 3) := by decide +kernel
theorem dX6_item_123 : decode cX6_item 123 = .ok (.ifCond .eq 56, 3) := by decide +kernel
theorem dX6_item_126 : decode cX6_item 126 = .ok (.aload_n 0, 1) := by decide +kernel
theorem dX6_item_127 : decode cX6_item 127 = .ok (.getfield 19, 3) := by decide +kernel
theorem dX6_item_130 : decode cX6_item 130 = .ok (.iconst 2, 1) := by decide +kernel
theorem dX6_item_131 : decode cX6_item 131 = .ok (.iaload, 1) := by decide +kernel
theorem dX6_item_132 : decode cX6_item 132 = .ok (.bipush 8, 2) := by decide +kernel
theorem dX6_item_134 : decode cX6_item 134 = .ok (.if_icmp .eq 45, 3) := by decide +kernel
theorem dX6_item_137 : decode cX6_item 137 = .ok (.aload_n 0, 1) := by decide +kernel
theorem dX6_item_138 : decode cX6_item 138 = .ok (.getfield 37, 3) := by decide +kernel
theorem dX6_item_141 : decode cX6_item 141 = .ok (.iconst 0, 1) := by decide +kernel
theorem dX6_item_142 : decode cX6_item 142 = .ok (.iaload, 1) := by decide +kernel
theorem dX6_item_143 : decode cX6_item 143 = .ok (.iconst 3, 1) := by decide +kernel
theorem dX6_item_144 : decode cX6_item 144 = .ok (.if_icmp .gt 35, 3) := by decide +kernel
theorem dX6_item_147 : decode cX6_item 147 = .ok (.aload_n 0, 1) := by decide +kernel
theorem dX6_item_148 : decode cX6_item 148 = .ok (.getfield 37, 3) := by decide +kernel
theorem dX6_item_151 : decode cX6_item 151 = .ok (.iconst 1, 1) := by decide +kernel
theorem dX6_item_152 : decode cX6_item 152 = .ok (.iaload, 1) := by decide +kernel
theorem dX6_item_153 : decode cX6_item 153 = .ok (.i2l, 1) := by decide +kernel
theorem dX6_item_154 : decode cX6_item 154 = .ok (.lconst 1, 1) := by decide +kernel
theorem dX6_item_155 : decode cX6_item 155 = .ok (.ldc2_w 82, 3) := by decide +kernel
theorem dX6_item_158 : decode cX6_item 158 = .ok (.invokestatic 57, 3) := by decide +kernel
theorem dX6_item_161 : decode cX6_item 161 = .ok (.ifCond .eq 18, 3) := by decide +kernel
theorem dX6_item_164 : decode cX6_item 164 = .ok (.aload_n 0, 1) := by decide +kernel
theorem dX6_item_165 : decode cX6_item 165 = .ok (.getfield 37, 3) := by decide +kernel
theorem dX6_item_168 : decode cX6_item 168 = .ok (.iconst 2, 1) := by decide +kernel
theorem dX6_item_169 : decode cX6_item 169 = .ok (.iaload, 1) := by decide +kernel
theorem dX6_item_170 : decode cX6_item 170 = .ok (.aload_n 0, 1) := by decide +kernel
theorem dX6_item_171 : decode cX6_item 171 = .ok (.getfield 16, 3) := by decide +kernel
theorem dX6_item_174 : decode cX6_item 174 = .ok (.iconst 0, 1) := by decide +kernel
theorem dX6_item_175 : decode cX6_item 175 = .ok (.iaload, 1) := by decide +kernel
theorem dX6_item_176 : decode cX6_item 176 = .ok (.if_icmp .lt 5, 3) := by decide +kernel
theorem dX6_item_179 : decode cX6_item 179 = .ok (.iconst 0, 1) := by decide +kernel
theorem dX6_item_180 : decode cX6_item 180 = .ok (.ireturn, 1) := by decide +kernel
theorem dX6_item_181 : decode cX6_item 181 = .ok (.aload_n 0, 1) := by decide +kernel
theorem dX6_item_182 : decode cX6_item 182 = .ok (.aload_n 0, 1) := by decide +kernel
theorem dX6_item_183 : decode cX6_item 183 = .ok (.getfield 37, 3) := by decide +kernel
theorem dX6_item_186 : decode cX6_item 186 = .ok (.iconst 0, 1) := by decide +kernel
theorem dX6_item_187 : decode cX6_item 187 = .ok (.iaload, 1) := by decide +kernel
theorem dX6_item_188 : decode cX6_item 188 = .ok (.aload_n 0, 1) := by decide +kernel
theorem dX6_item_189 : decode cX6_item 189 = .ok (.getfield 37, 3) := by decide +kernel
theorem dX6_item_192 : decode cX6_item 192 = .ok (.iconst 1, 1) := by decide +kernel
theorem dX6_item_193 : decode cX6_item 193 = .ok (.iaload, 1) := by decide +kernel
theorem dX6_item_194 : decode cX6_item 194 = .ok (.aload_n 0, 1) := by decide +kernel
theorem dX6_item_195 : decode cX6_item 195 = .ok (.getfield 37, 3) := by decide +kernel
theorem dX6_item_198 : decode cX6_item 198 = .ok (.iconst 2, 1) := by decide +kernel
theorem dX6_item_199 : decode cX6_item 199 = .ok (.iaload, 1) := by decide +kernel
theorem dX6_item_200 : decode cX6_item 200 = .ok (.invokevirtual 47, 3) := by decide +kernel
theorem dX6_item_203 : decode cX6_item 203 = .ok (.iconst 1, 1) := by decide +kernel
theorem dX6_item_204 : decode cX6_item 204 = .ok (.ireturn, 1) := by decide +kernel
set_option maxRecDepth 20000 in
theorem ggX6_readAll_X6_empty : GoodIn wsX6_readAll wsX6_empty := goodIn_r _ [7, 8, 9, 40, 41, 42, 43, 44, 45, 46, 47, 48, 49, 50, 51, 52, 53, 54] (by decide +kernel) (by decide +kernel)
set_option maxRecDepth 20000 in
theorem gX6_readAll_X6_empty : GoodIn wsX6_readAll (wsV RX6 40 RX6 yX6_empty wsX6_empty) := goodIn_app (goodIn_of _ (by decide +kernel)) ggX6_readAll_X6_empty
set_option maxRecDepth 20000 in
theorem ggX6_readAll_X6_item : GoodIn wsX6_readAll wsX6_item := goodIn_r _ [13, 1, 8, 14, 15, 16, 9, 17, 18, 19, 6, 20, 2, 21, 22, 23, 24, 25, 26, 27, 28, 29, 30, 31, 32, 33, 34, 35, 36, 37, 38, 39, 40, 41, 42, 43, 44, 45, 46, 47, 48, 49, 50, 51, 52, 53, 54] (by decide +kernel) (by decide +kernel)
set_option maxRecDepth 20000 in
theorem gX6_readAll_X6_item : GoodIn wsX6_readAll (wsV RX6 86 RX6 yX6_item wsX6_item) := goodIn_app (goodIn_of _ (by decide +kernel)) ggX6_readAll_X6_item
theorem dX6_readAll_0 : decode cX6_readAll 0 = .ok (.aload_n 0, 1) := by decide +kernel
theorem dX6_readAll_1 : decode cX6_readAll 1 = .ok (.invokevirtual 40, 3) := by decide +kernel
theorem dX6_readAll_4 : decode cX6_readAll 4 = .ok (.aload_n 0, 1) := by decide +kernel
theorem dX6_readAll_5 : decode cX6_readAll 5 = .ok (.iconst 0, 1) := by decide +kernel
theorem dX6_readAll_6 : decode cX6_readAll 6 = .ok (.putfield 65, 3) := by decide +kernel
theorem dX6_readAll_9 : decode cX6_readAll 9 = .ok (.aload_n 0, 1) := by decide +kernel
theorem dX6_readAll_10 : decode cX6_readAll 10 = .ok (.getfield 65, 3) := by decide +kernel
theorem dX6_readAll_13 : decode cX6_readAll 13 = .ok (.aload_n 0, 1) := by decide +kernel
theorem dX6_readAll_14 : decode cX6_readAll 14 = .ok (.getfield 61, 3) := by decide +kernel
theorem dX6_readAll_17 : decode cX6_readAll 17 = .ok (.if_icmp .ge 20, 3) := by decide +kernel
theorem dX6_readAll_20 : decode cX6_readAll 20 = .ok (.aload_n 0, 1) := by decide +kernel
theorem dX6_readAll_21 : decode cX6_readAll 21 = .ok (.getfield 65, 3) := by decide +kernel
theorem dX6_readAll_24 : decode cX6_readAll 24 = .ok (.istore_n 1, 1) := by decide +kernel
theorem dX6_readAll_25 : decode cX6_readAll 25 = .ok (.aload_n 0, 1) := by decide +kernel
theorem dX6_readAll_26 : decode cX6_readAll 26 = .ok (.invokevirtual 86, 3) := by decide +kernel
theorem dX6_readAll_29 : decode cX6_readAll 29 = .ok (.ifCond .ne 5, 3) := by decide +kernel
theorem dX6_readAll_32 : decode cX6_readAll 32 = .ok (.iload_n 1, 1) := by decide +kernel
theorem dX6_readAll_33 : decode cX6_readAll 33 = .ok (.ireturn, 1) := by decide +kernel
theorem dX6_readAll_34 : decode cX6_readAll 34 = .ok (.goto (-25), 3) := by decide +kernel
theorem dX6_readAll_37 : decode cX6_readAll 37 = .ok (.bipush (-4), 2) := by decide +kernel
theorem dX6_readAll_39 : decode cX6_readAll 39 = .ok (.ireturn, 1) := by decide +kernel
set_option maxRecDepth 20000 in
theorem ggX6_fault_X6_readAll : GoodIn wsX6_fault wsX6_readAll := goodIn_r _ [5, 6, 7, 8, 9, 10, 4, 11, 12, 13, 14, 15, 16, 17, 18, 19, 20, 21, 22, 23, 24, 25, 26, 27, 28, 29, 30, 31, 32, 33, 34, 35, 36, 37, 38, 39, 40, 41, 42, 43, 44, 45, 46, 47, 48, 49, 50, 51, 52, 53, 54, 55, 56, 57, 58] (by decide +kernel) (by decide +kernel)
set_option maxRecDepth 20000 in
theorem gX6_fault_X6_readAll : GoodIn wsX6_fault (wsV RX6 89 RX6 yX6_readAll wsX6_readAll) := goodIn_app (goodIn_of _ (by decide +kernel)) ggX6_fault_X6_readAll
theorem dX6_fault_0 : decode cX6_fault 0 = .ok (.aload_n 0, 1) := by decide +kernel
theorem dX6_fault_1 : decode cX6_fault 1 = .ok (.invokevirtual 89, 3) := by decide +kernel
theorem dX6_fault_4 : decode cX6_fault 4 = .ok (.ireturn, 1) := by decide +kernel
set_option maxRecDepth 20000 in
theorem ggX6_lay_X6_readAll : GoodIn wsX6_lay wsX6_readAll := goodIn_r _ [7, 8, 9, 10, 11, 12, 6, 13, 1, 14, 15, 16, 17, 18, 19, 20, 21, 22, 23, 24, 25, 26, 27, 28, 29, 30, 31, 32, 33, 34, 35, 36, 37, 38, 39, 40, 41, 42, 43, 44, 53, 54, 55, 56, 57, 58, 59, 60, 61, 62, 63, 64, 65, 66, 67] (by decide +kernel) (by decide +kernel)
set_option maxRecDepth 20000 in
theorem gX6_lay_X6_readAll : GoodIn wsX6_lay (wsV RX6 89 RX6 yX6_readAll wsX6_readAll) := goodIn_app (goodIn_of _ (by decide +kernel)) ggX6_lay_X6_readAll
set_option maxRecDepth 20000 in
theorem ggX6_lay_X6_begin : GoodIn wsX6_lay wsX6_begin := goodIn_r _ [48, 2, 1, 49, 14, 50, 51, 52, 53, 54, 55, 56, 57, 58, 59, 60, 61, 62, 63, 64, 65, 66, 67] (by decide +kernel) (by decide +kernel)
set_option maxRecDepth 20000 in
theorem gX6_lay_X6_begin : GoodIn wsX6_lay (wsV RX6 50 RX6 yX6_begin wsX6_begin) := goodIn_app (goodIn_of _ (by decide +kernel)) ggX6_lay_X6_begin
theorem dX6_lay_0 : decode cX6_lay 0 = .ok (.aload_n 0, 1) := by decide +kernel
