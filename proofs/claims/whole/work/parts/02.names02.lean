theorem dX1_copyFrom_148 : decode cX1_copyFrom 148 = .ok (.getfield 46, 3) := by decide +kernel
theorem dX1_copyFrom_151 : decode cX1_copyFrom 151 = .ok (.iconst 0, 1) := by decide +kernel
theorem dX1_copyFrom_152 : decode cX1_copyFrom 152 = .ok (.bipush 8, 2) := by decide +kernel
theorem dX1_copyFrom_154 : decode cX1_copyFrom 154 = .ok (.invokestatic 52, 3) := by decide +kernel
theorem dX1_copyFrom_157 : decode cX1_copyFrom 157 = .ok (.aload_n 1, 1) := by decide +kernel
theorem dX1_copyFrom_158 : decode cX1_copyFrom 158 = .ok (.getfield 49, 3) := by decide +kernel
theorem dX1_copyFrom_161 : decode cX1_copyFrom 161 = .ok (.iconst 0, 1) := by decide +kernel
theorem dX1_copyFrom_162 : decode cX1_copyFrom 162 = .ok (.aload_n 0, 1) := by decide +kernel
theorem dX1_copyFrom_163 : decode cX1_copyFrom 163 = .ok (.getfield 49, 3) := by decide +kernel
theorem dX1_copyFrom_166 : decode cX1_copyFrom 166 = .ok (.iconst 0, 1) := by decide +kernel
theorem dX1_copyFrom_167 : decode cX1_copyFrom 167 = .ok (.bipush 8, 2) := by decide +kernel
theorem dX1_copyFrom_169 : decode cX1_copyFrom 169 = .ok (.invokestatic 52, 3) := by decide +kernel
theorem dX1_copyFrom_172 : decode cX1_copyFrom 172 = .ok (.return_, 1) := by decide +kernel
set_option maxRecDepth 20000 in
theorem ggX1_addPerson_X5_within : GoodIn wsX1_addPerson wsX5_within := goodIn_r _ [7] (by decide +kernel) (by decide +kernel)
set_option maxRecDepth 20000 in
theorem gX1_addPerson_X5_within_n58 : GoodIn wsX1_addPerson (wsX5_within) := ggX1_addPerson_X5_within
theorem dX1_addPerson_0 : decode cX1_addPerson 0 = .ok (.aload_n 0, 1) := by decide +kernel
theorem dX1_addPerson_1 : decode cX1_addPerson 1 = .ok (.getfield 9, 3) := by decide +kernel
theorem dX1_addPerson_4 : decode cX1_addPerson 4 = .ok (.bipush 6, 2) := by decide +kernel
theorem dX1_addPerson_6 : decode cX1_addPerson 6 = .ok (.if_icmp .ge 32, 3) := by decide +kernel
theorem dX1_addPerson_9 : decode cX1_addPerson 9 = .ok (.iload_n 1, 1) := by decide +kernel
theorem dX1_addPerson_10 : decode cX1_addPerson 10 = .ok (.iconst 1, 1) := by decide +kernel
theorem dX1_addPerson_11 : decode cX1_addPerson 11 = .ok (.bipush 20, 2) := by decide +kernel
theorem dX1_addPerson_13 : decode cX1_addPerson 13 = .ok (.invokestatic 58, 3) := by decide +kernel
theorem dX1_addPerson_16 : decode cX1_addPerson 16 = .ok (.ifCond .eq 22, 3) := by decide +kernel
theorem dX1_addPerson_19 : decode cX1_addPerson 19 = .ok (.iload_n 2, 1) := by decide +kernel
theorem dX1_addPerson_20 : decode cX1_addPerson 20 = .ok (.iconst 1, 1) := by decide +kernel
theorem dX1_addPerson_21 : decode cX1_addPerson 21 = .ok (.bipush 40, 2) := by decide +kernel
theorem dX1_addPerson_23 : decode cX1_addPerson 23 = .ok (.invokestatic 58, 3) := by decide +kernel
theorem dX1_addPerson_26 : decode cX1_addPerson 26 = .ok (.ifCond .eq 12, 3) := by decide +kernel
theorem dX1_addPerson_29 : decode cX1_addPerson 29 = .ok (.iload_n 3, 1) := by decide +kernel
theorem dX1_addPerson_30 : decode cX1_addPerson 30 = .ok (.iconst 0, 1) := by decide +kernel
theorem dX1_addPerson_31 : decode cX1_addPerson 31 = .ok (.iconst 1, 1) := by decide +kernel
theorem dX1_addPerson_32 : decode cX1_addPerson 32 = .ok (.invokestatic 58, 3) := by decide +kernel
theorem dX1_addPerson_35 : decode cX1_addPerson 35 = .ok (.ifCond .ne 5, 3) := by decide +kernel
theorem dX1_addPerson_38 : decode cX1_addPerson 38 = .ok (.iconst 0, 1) := by decide +kernel
theorem dX1_addPerson_39 : decode cX1_addPerson 39 = .ok (.ireturn, 1) := by decide +kernel
theorem dX1_addPerson_40 : decode cX1_addPerson 40 = .ok (.aload_n 0, 1) := by decide +kernel
theorem dX1_addPerson_41 : decode cX1_addPerson 41 = .ok (.getfield 24, 3) := by decide +kernel
theorem dX1_addPerson_44 : decode cX1_addPerson 44 = .ok (.aload_n 0, 1) := by decide +kernel
theorem dX1_addPerson_45 : decode cX1_addPerson 45 = .ok (.getfield 9, 3) := by decide +kernel
theorem dX1_addPerson_48 : decode cX1_addPerson 48 = .ok (.iload_n 1, 1) := by decide +kernel
theorem dX1_addPerson_49 : decode cX1_addPerson 49 = .ok (.iastore, 1) := by decide +kernel
theorem dX1_addPerson_50 : decode cX1_addPerson 50 = .ok (.aload_n 0, 1) := by decide +kernel
theorem dX1_addPerson_51 : decode cX1_addPerson 51 = .ok (.getfield 28, 3) := by decide +kernel
theorem dX1_addPerson_54 : decode cX1_addPerson 54 = .ok (.aload_n 0, 1) := by decide +kernel
theorem dX1_addPerson_55 : decode cX1_addPerson 55 = .ok (.getfield 9, 3) := by decide +kernel
theorem dX1_addPerson_58 : decode cX1_addPerson 58 = .ok (.iload_n 2, 1) := by decide +kernel
theorem dX1_addPerson_59 : decode cX1_addPerson 59 = .ok (.iastore, 1) := by decide +kernel
theorem dX1_addPerson_60 : decode cX1_addPerson 60 = .ok (.aload_n 0, 1) := by decide +kernel
theorem dX1_addPerson_61 : decode cX1_addPerson 61 = .ok (.getfield 31, 3) := by decide +kernel
theorem dX1_addPerson_64 : decode cX1_addPerson 64 = .ok (.aload_n 0, 1) := by decide +kernel
theorem dX1_addPerson_65 : decode cX1_addPerson 65 = .ok (.getfield 9, 3) := by decide +kernel
theorem dX1_addPerson_68 : decode cX1_addPerson 68 = .ok (.iload_n 3, 1) := by decide +kernel
theorem dX1_addPerson_69 : decode cX1_addPerson 69 = .ok (.iastore, 1) := by decide +kernel
theorem dX1_addPerson_70 : decode cX1_addPerson 70 = .ok (.aload_n 0, 1) := by decide +kernel
theorem dX1_addPerson_71 : decode cX1_addPerson 71 = .ok (.dup, 1) := by decide +kernel
theorem dX1_addPerson_72 : decode cX1_addPerson 72 = .ok (.getfield 9, 3) := by decide +kernel
theorem dX1_addPerson_75 : decode cX1_addPerson 75 = .ok (.iconst 1, 1) := by decide +kernel
theorem dX1_addPerson_76 : decode cX1_addPerson 76 = .ok (.iadd, 1) := by decide +kernel
theorem dX1_addPerson_77 : decode cX1_addPerson 77 = .ok (.putfield 9, 3) := by decide +kernel
theorem dX1_addPerson_80 : decode cX1_addPerson 80 = .ok (.iconst 1, 1) := by decide +kernel
theorem dX1_addPerson_81 : decode cX1_addPerson 81 = .ok (.ireturn, 1) := by decide +kernel
set_option maxRecDepth 20000 in
theorem ggX1_addGlove_X5_within : GoodIn wsX1_addGlove wsX5_within := goodIn_r _ [4] (by decide +kernel) (by decide +kernel)
set_option maxRecDepth 20000 in
theorem gX1_addGlove_X5_within_n58 : GoodIn wsX1_addGlove (wsX5_within) := ggX1_addGlove_X5_within
set_option maxRecDepth 20000 in
theorem ggX1_addGlove_X1_isPerson : GoodIn wsX1_addGlove wsX1_isPerson := goodIn_r _ [9, 10, 2, 3, 4, 21, 22, 23, 24, 25, 26, 27, 28, 29, 30, 31, 32, 33] (by decide +kernel) (by decide +kernel)
set_option maxRecDepth 20000 in
theorem gX1_addGlove_X1_isPerson : GoodIn wsX1_addGlove (wsV RX1 62 RX1 yX1_isPerson wsX1_isPerson) := goodIn_app (goodIn_of _ (by decide +kernel)) ggX1_addGlove_X1_isPerson
set_option maxRecDepth 20000 in
theorem ggX1_addGlove_X1_putGlove : GoodIn wsX1_addGlove wsX1_putGlove := goodIn_r _ [14, 15, 16, 17, 18, 19, 20, 21, 22, 23, 24, 25, 26, 27, 28, 29, 30, 31, 32, 33] (by decide +kernel) (by decide +kernel)
set_option maxRecDepth 20000 in
theorem gX1_addGlove_X1_putGlove : GoodIn wsX1_addGlove (wsV RX1 66 RX1 yX1_putGlove wsX1_putGlove) := goodIn_app (goodIn_of _ (by decide +kernel)) ggX1_addGlove_X1_putGlove
theorem dX1_addGlove_0 : decode cX1_addGlove 0 = .ok (.aload_n 0, 1) := by decide +kernel
theorem dX1_addGlove_1 : decode cX1_addGlove 1 = .ok (.getfield 15, 3) := by decide +kernel
theorem dX1_addGlove_4 : decode cX1_addGlove 4 = .ok (.bipush 8, 2) := by decide +kernel
theorem dX1_addGlove_6 : decode cX1_addGlove 6 = .ok (.if_icmp .ge 30, 3) := by decide +kernel
theorem dX1_addGlove_9 : decode cX1_addGlove 9 = .ok (.iload_n 1, 1) := by decide +kernel
theorem dX1_addGlove_10 : decode cX1_addGlove 10 = .ok (.iconst 0, 1) := by decide +kernel
theorem dX1_addGlove_11 : decode cX1_addGlove 11 = .ok (.iconst 3, 1) := by decide +kernel
theorem dX1_addGlove_12 : decode cX1_addGlove 12 = .ok (.invokestatic 58, 3) := by decide +kernel
theorem dX1_addGlove_15 : decode cX1_addGlove 15 = .ok (.ifCond .eq 21, 3) := by decide +kernel
theorem dX1_addGlove_18 : decode cX1_addGlove 18 = .ok (.iload_n 2, 1) := by decide +kernel
theorem dX1_addGlove_19 : decode cX1_addGlove 19 = .ok (.iconst 1, 1) := by decide +kernel
theorem dX1_addGlove_20 : decode cX1_addGlove 20 = .ok (.bipush 20, 2) := by decide +kernel
theorem dX1_addGlove_22 : decode cX1_addGlove 22 = .ok (.invokestatic 58, 3) := by decide +kernel
theorem dX1_addGlove_25 : decode cX1_addGlove 25 = .ok (.ifCond .eq 11, 3) := by decide +kernel
theorem dX1_addGlove_28 : decode cX1_addGlove 28 = .ok (.aload_n 0, 1) := by decide +kernel
theorem dX1_addGlove_29 : decode cX1_addGlove 29 = .ok (.iload_n 3, 1) := by decide +kernel
theorem dX1_addGlove_30 : decode cX1_addGlove 30 = .ok (.invokevirtual 62, 3) := by decide +kernel
theorem dX1_addGlove_33 : decode cX1_addGlove 33 = .ok (.ifCond .ne 5, 3) := by decide +kernel
theorem dX1_addGlove_36 : decode cX1_addGlove 36 = .ok (.iconst 0, 1) := by decide +kernel
theorem dX1_addGlove_37 : decode cX1_addGlove 37 = .ok (.ireturn, 1) := by decide +kernel
theorem dX1_addGlove_38 : decode cX1_addGlove 38 = .ok (.aload_n 0, 1) := by decide +kernel
theorem dX1_addGlove_39 : decode cX1_addGlove 39 = .ok (.dup, 1) := by decide +kernel
theorem dX1_addGlove_40 : decode cX1_addGlove 40 = .ok (.getfield 15, 3) := by decide +kernel
theorem dX1_addGlove_43 : decode cX1_addGlove 43 = .ok (.iconst 1, 1) := by decide +kernel
theorem dX1_addGlove_44 : decode cX1_addGlove 44 = .ok (.iadd, 1) := by decide +kernel
theorem dX1_addGlove_45 : decode cX1_addGlove 45 = .ok (.putfield 15, 3) := by decide +kernel
theorem dX1_addGlove_48 : decode cX1_addGlove 48 = .ok (.aload_n 0, 1) := by decide +kernel
theorem dX1_addGlove_49 : decode cX1_addGlove 49 = .ok (.aload_n 0, 1) := by decide +kernel
theorem dX1_addGlove_50 : decode cX1_addGlove 50 = .ok (.getfield 15, 3) := by decide +kernel
theorem dX1_addGlove_53 : decode cX1_addGlove 53 = .ok (.iconst 1, 1) := by decide +kernel
theorem dX1_addGlove_54 : decode cX1_addGlove 54 = .ok (.isub, 1) := by decide +kernel
theorem dX1_addGlove_55 : decode cX1_addGlove 55 = .ok (.iload_n 1, 1) := by decide +kernel
theorem dX1_addGlove_56 : decode cX1_addGlove 56 = .ok (.iload_n 2, 1) := by decide +kernel
theorem dX1_addGlove_57 : decode cX1_addGlove 57 = .ok (.iload_n 3, 1) := by decide +kernel
theorem dX1_addGlove_58 : decode cX1_addGlove 58 = .ok (.invokevirtual 66, 3) := by decide +kernel
theorem dX1_addGlove_61 : decode cX1_addGlove 61 = .ok (.iconst 1, 1) := by decide +kernel
theorem dX1_addGlove_62 : decode cX1_addGlove 62 = .ok (.ireturn, 1) := by decide +kernel
theorem dX1_putGlove_0 : decode cX1_putGlove 0 = .ok (.aload_n 0, 1) := by decide +kernel
theorem dX1_putGlove_1 : decode cX1_putGlove 1 = .ok (.getfield 34, 3) := by decide +kernel
theorem dX1_putGlove_4 : decode cX1_putGlove 4 = .ok (.iload_n 1, 1) := by decide +kernel
theorem dX1_putGlove_5 : decode cX1_putGlove 5 = .ok (.iload_n 2, 1) := by decide +kernel
theorem dX1_putGlove_6 : decode cX1_putGlove 6 = .ok (.iastore, 1) := by decide +kernel
theorem dX1_putGlove_7 : decode cX1_putGlove 7 = .ok (.aload_n 0, 1) := by decide +kernel
theorem dX1_putGlove_8 : decode cX1_putGlove 8 = .ok (.getfield 37, 3) := by decide +kernel
theorem dX1_putGlove_11 : decode cX1_putGlove 11 = .ok (.iload_n 1, 1) := by decide +kernel
theorem dX1_putGlove_12 : decode cX1_putGlove 12 = .ok (.iload_n 3, 1) := by decide +kernel
theorem dX1_putGlove_13 : decode cX1_putGlove 13 = .ok (.iastore, 1) := by decide +kernel
theorem dX1_putGlove_14 : decode cX1_putGlove 14 = .ok (.aload_n 0, 1) := by decide +kernel
theorem dX1_putGlove_15 : decode cX1_putGlove 15 = .ok (.getfield 40, 3) := by decide +kernel
theorem dX1_putGlove_18 : decode cX1_putGlove 18 = .ok (.iload_n 1, 1) := by decide +kernel
theorem dX1_putGlove_19 : decode cX1_putGlove 19 = .ok (.iload 4, 2) := by decide +kernel
theorem dX1_putGlove_21 : decode cX1_putGlove 21 = .ok (.iastore, 1) := by decide +kernel
theorem dX1_putGlove_22 : decode cX1_putGlove 22 = .ok (.aload_n 0, 1) := by decide +kernel
theorem dX1_putGlove_23 : decode cX1_putGlove 23 = .ok (.getfield 43, 3) := by decide +kernel
theorem dX1_putGlove_26 : decode cX1_putGlove 26 = .ok (.iload_n 1, 1) := by decide +kernel
theorem dX1_putGlove_27 : decode cX1_putGlove 27 = .ok (.iconst 1, 1) := by decide +kernel
theorem dX1_putGlove_28 : decode cX1_putGlove 28 = .ok (.iastore, 1) := by decide +kernel
theorem dX1_putGlove_29 : decode cX1_putGlove 29 = .ok (.aload_n 0, 1) := by decide +kernel
theorem dX1_putGlove_30 : decode cX1_putGlove 30 = .ok (.getfield 46, 3) := by decide +kernel
theorem dX1_putGlove_33 : decode cX1_putGlove 33 = .ok (.iload_n 1, 1) := by decide +kernel
theorem dX1_putGlove_34 : decode cX1_putGlove 34 = .ok (.iconst 0, 1) := by decide +kernel
theorem dX1_putGlove_35 : decode cX1_putGlove 35 = .ok (.iastore, 1) := by decide +kernel
theorem dX1_putGlove_36 : decode cX1_putGlove 36 = .ok (.aload_n 0, 1) := by decide +kernel
theorem dX1_putGlove_37 : decode cX1_putGlove 37 = .ok (.getfield 49, 3) := by decide +kernel
theorem dX1_putGlove_40 : decode cX1_putGlove 40 = .ok (.iload_n 1, 1) := by decide +kernel
theorem dX1_putGlove_41 : decode cX1_putGlove 41 = .ok (.bipush (-4), 2) := by decide +kernel
theorem dX1_putGlove_43 : decode cX1_putGlove 43 = .ok (.iastore, 1) := by decide +kernel
theorem dX1_putGlove_44 : decode cX1_putGlove 44 = .ok (.return_, 1) := by decide +kernel
set_option maxRecDepth 20000 in
theorem ggX1_isPerson_X5_within : GoodIn wsX1_isPerson wsX5_within := goodIn_r _ [4] (by decide +kernel) (by decide +kernel)
set_option maxRecDepth 20000 in
theorem gX1_isPerson_X5_within_n58 : GoodIn wsX1_isPerson (wsX5_within) := ggX1_isPerson_X5_within
theorem dX1_isPerson_0 : decode cX1_isPerson 0 = .ok (.iload_n 1, 1) := by decide +kernel
theorem dX1_isPerson_1 : decode cX1_isPerson 1 = .ok (.iconst 0, 1) := by decide +kernel
theorem dX1_isPerson_2 : decode cX1_isPerson 2 = .ok (.aload_n 0, 1) := by decide +kernel
theorem dX1_isPerson_3 : decode cX1_isPerson 3 = .ok (.getfield 9, 3) := by decide +kernel
theorem dX1_isPerson_6 : decode cX1_isPerson 6 = .ok (.iconst 1, 1) := by decide +kernel
theorem dX1_isPerson_7 : decode cX1_isPerson 7 = .ok (.isub, 1) := by decide +kernel
theorem dX1_isPerson_8 : decode cX1_isPerson 8 = .ok (.invokestatic 58, 3) := by decide +kernel
theorem dX1_isPerson_11 : decode cX1_isPerson 11 = .ok (.ireturn, 1) := by decide +kernel
set_option maxRecDepth 20000 in
theorem ggX1_isGlove_X5_within : GoodIn wsX1_isGlove wsX5_within := goodIn_r _ [4] (by decide +kernel) (by decide +kernel)
set_option maxRecDepth 20000 in
theorem gX1_isGlove_X5_within_n58 : GoodIn wsX1_isGlove (wsX5_within) := ggX1_isGlove_X5_within
theorem dX1_isGlove_0 : decode cX1_isGlove 0 = .ok (.iload_n 1, 1) := by decide +kernel
theorem dX1_isGlove_1 : decode cX1_isGlove 1 = .ok (.iconst 0, 1) := by decide +kernel
theorem dX1_isGlove_2 : decode cX1_isGlove 2 = .ok (.aload_n 0, 1) := by decide +kernel
theorem dX1_isGlove_3 : decode cX1_isGlove 3 = .ok (.getfield 15, 3) := by decide +kernel
theorem dX1_isGlove_6 : decode cX1_isGlove 6 = .ok (.iconst 1, 1) := by decide +kernel
theorem dX1_isGlove_7 : decode cX1_isGlove 7 = .ok (.isub, 1) := by decide +kernel
theorem dX1_isGlove_8 : decode cX1_isGlove 8 = .ok (.invokestatic 58, 3) := by decide +kernel
theorem dX1_isGlove_11 : decode cX1_isGlove 11 = .ok (.ireturn, 1) := by decide +kernel
theorem dX1_isOut_0 : decode cX1_isOut 0 = .ok (.aload_n 0, 1) := by decide +kernel
theorem dX1_isOut_1 : decode cX1_isOut 1 = .ok (.getfield 28, 3) := by decide +kernel
theorem dX1_isOut_4 : decode cX1_isOut 4 = .ok (.iload_n 1, 1) := by decide +kernel
theorem dX1_isOut_5 : decode cX1_isOut 5 = .ok (.iaload, 1) := by decide +kernel
theorem dX1_isOut_6 : decode cX1_isOut 6 = .ok (.ifCond .ne 7, 3) := by decide +kernel
theorem dX1_isOut_9 : decode cX1_isOut 9 = .ok (.iconst 1, 1) := by decide +kernel
theorem dX1_isOut_10 : decode cX1_isOut 10 = .ok (.goto 4, 3) := by decide +kernel
theorem dX1_isOut_13 : decode cX1_isOut 13 = .ok (.iconst 0, 1) := by decide +kernel
theorem dX1_isOut_14 : decode cX1_isOut 14 = .ok (.ireturn, 1) := by decide +kernel
set_option maxRecDepth 20000 in
theorem ggX1_canTakeUp_X5_sizeByNow : GoodIn wsX1_canTakeUp wsX5_sizeByNow := goodIn_r _ [10] (by decide +kernel) (by decide +kernel)
set_option maxRecDepth 20000 in
theorem gX1_canTakeUp_X5_sizeByNow_n70 : GoodIn wsX1_canTakeUp (wsX5_sizeByNow) := ggX1_canTakeUp_X5_sizeByNow
set_option maxRecDepth 20000 in
theorem ggX1_canTakeUp_X5_isAsLarge : GoodIn wsX1_canTakeUp wsX5_isAsLarge := goodIn_r _ [12] (by decide +kernel) (by decide +kernel)
set_option maxRecDepth 20000 in
theorem gX1_canTakeUp_X5_isAsLarge_n74 : GoodIn wsX1_canTakeUp (wsX5_isAsLarge) := ggX1_canTakeUp_X5_isAsLarge
theorem dX1_canTakeUp_0 : decode cX1_canTakeUp 0 = .ok (.aload_n 0, 1) := by decide +kernel
theorem dX1_canTakeUp_1 : decode cX1_canTakeUp 1 = .ok (.getfield 43, 3) := by decide +kernel
theorem dX1_canTakeUp_4 : decode cX1_canTakeUp 4 = .ok (.iload_n 2, 1) := by decide +kernel
theorem dX1_canTakeUp_5 : decode cX1_canTakeUp 5 = .ok (.iaload, 1) := by decide +kernel
theorem dX1_canTakeUp_6 : decode cX1_canTakeUp 6 = .ok (.iconst 1, 1) := by decide +kernel
theorem dX1_canTakeUp_7 : decode cX1_canTakeUp 7 = .ok (.if_icmp .ne 65, 3) := by decide +kernel
theorem dX1_canTakeUp_10 : decode cX1_canTakeUp 10 = .ok (.aload_n 0, 1) := by decide +kernel
theorem dX1_canTakeUp_11 : decode cX1_canTakeUp 11 = .ok (.getfield 40, 3) := by decide +kernel
theorem dX1_canTakeUp_14 : decode cX1_canTakeUp 14 = .ok (.iload_n 2, 1) := by decide +kernel
theorem dX1_canTakeUp_15 : decode cX1_canTakeUp 15 = .ok (.iaload, 1) := by decide +kernel
theorem dX1_canTakeUp_16 : decode cX1_canTakeUp 16 = .ok (.iload_n 1, 1) := by decide +kernel
theorem dX1_canTakeUp_17 : decode cX1_canTakeUp 17 = .ok (.if_icmp .eq 55, 3) := by decide +kernel
theorem dX1_canTakeUp_20 : decode cX1_canTakeUp 20 = .ok (.aload_n 0, 1) := by decide +kernel
theorem dX1_canTakeUp_21 : decode cX1_canTakeUp 21 = .ok (.getfield 28, 3) := by decide +kernel
theorem dX1_canTakeUp_24 : decode cX1_canTakeUp 24 = .ok (.iload_n 1, 1) := by decide +kernel
theorem dX1_canTakeUp_25 : decode cX1_canTakeUp 25 = .ok (.iaload, 1) := by decide +kernel
theorem dX1_canTakeUp_26 : decode cX1_canTakeUp 26 = .ok (.ifCond .le 46, 3) := by decide +kernel
theorem dX1_canTakeUp_29 : decode cX1_canTakeUp 29 = .ok (.aload_n 0, 1) := by decide +kernel
theorem dX1_canTakeUp_30 : decode cX1_canTakeUp 30 = .ok (.getfield 34, 3) := by decide +kernel
theorem dX1_canTakeUp_33 : decode cX1_canTakeUp 33 = .ok (.iload_n 2, 1) := by decide +kernel
theorem dX1_canTakeUp_34 : decode cX1_canTakeUp 34 = .ok (.iaload, 1) := by decide +kernel
theorem dX1_canTakeUp_35 : decode cX1_canTakeUp 35 = .ok (.aload_n 0, 1) := by decide +kernel
theorem dX1_canTakeUp_36 : decode cX1_canTakeUp 36 = .ok (.getfield 34, 3) := by decide +kernel
theorem dX1_canTakeUp_39 : decode cX1_canTakeUp 39 = .ok (.iload_n 2, 1) := by decide +kernel
theorem dX1_canTakeUp_40 : decode cX1_canTakeUp 40 = .ok (.iaload, 1) := by decide +kernel
theorem dX1_canTakeUp_41 : decode cX1_canTakeUp 41 = .ok (.aload_n 0, 1) := by decide +kernel
theorem dX1_canTakeUp_42 : decode cX1_canTakeUp 42 = .ok (.getfield 37, 3) := by decide +kernel
theorem dX1_canTakeUp_45 : decode cX1_canTakeUp 45 = .ok (.iload_n 2, 1) := by decide +kernel
theorem dX1_canTakeUp_46 : decode cX1_canTakeUp 46 = .ok (.iaload, 1) := by decide +kernel
theorem dX1_canTakeUp_47 : decode cX1_canTakeUp 47 = .ok (.aload_n 0, 1) := by decide +kernel
theorem dX1_canTakeUp_48 : decode cX1_canTakeUp 48 = .ok (.getfield 46, 3) := by decide +kernel
theorem dX1_canTakeUp_51 : decode cX1_canTakeUp 51 = .ok (.iload_n 2, 1) := by decide +kernel
theorem dX1_canTakeUp_52 : decode cX1_canTakeUp 52 = .ok (.iaload, 1) := by decide +kernel
theorem dX1_canTakeUp_53 : decode cX1_canTakeUp 53 = .ok (.invokestatic 70, 3) := by decide +kernel
theorem dX1_canTakeUp_56 : decode cX1_canTakeUp 56 = .ok (.aload_n 0, 1) := by decide +kernel
theorem dX1_canTakeUp_57 : decode cX1_canTakeUp 57 = .ok (.getfield 24, 3) := by decide +kernel
theorem dX1_canTakeUp_60 : decode cX1_canTakeUp 60 = .ok (.iload_n 1, 1) := by decide +kernel
theorem dX1_canTakeUp_61 : decode cX1_canTakeUp 61 = .ok (.iaload, 1) := by decide +kernel
theorem dX1_canTakeUp_62 : decode cX1_canTakeUp 62 = .ok (.invokestatic 74, 3) := by decide +kernel
theorem dX1_canTakeUp_65 : decode cX1_canTakeUp 65 = .ok (.ifCond .eq 7, 3) := by decide +kernel
theorem dX1_canTakeUp_68 : decode cX1_canTakeUp 68 = .ok (.iconst 1, 1) := by decide +kernel
theorem dX1_canTakeUp_69 : decode cX1_canTakeUp 69 = .ok (.goto 4, 3) := by decide +kernel
theorem dX1_canTakeUp_72 : decode cX1_canTakeUp 72 = .ok (.iconst 0, 1) := by decide +kernel
theorem dX1_canTakeUp_73 : decode cX1_canTakeUp 73 = .ok (.ireturn, 1) := by decide +kernel
set_option maxRecDepth 20000 in
theorem ggX1_mightByTaking_X5_mightByFight : GoodIn wsX1_mightByTaking wsX5_mightByFight := goodIn_r _ [5, 6, 7, 8, 9] (by decide +kernel) (by decide +kernel)
set_option maxRecDepth 20000 in
theorem gX1_mightByTaking_X5_mightByFight_n77 : GoodIn wsX1_mightByTaking (wsX5_mightByFight) := ggX1_mightByTaking_X5_mightByFight
theorem dX1_mightByTaking_0 : decode cX1_mightByTaking 0 = .ok (.aload_n 0, 1) := by decide +kernel
theorem dX1_mightByTaking_1 : decode cX1_mightByTaking 1 = .ok (.getfield 28, 3) := by decide +kernel
theorem dX1_mightByTaking_4 : decode cX1_mightByTaking 4 = .ok (.aload_n 0, 1) := by decide +kernel
theorem dX1_mightByTaking_5 : decode cX1_mightByTaking 5 = .ok (.getfield 40, 3) := by decide +kernel
theorem dX1_mightByTaking_8 : decode cX1_mightByTaking 8 = .ok (.iload_n 2, 1) := by decide +kernel
theorem dX1_mightByTaking_9 : decode cX1_mightByTaking 9 = .ok (.iaload, 1) := by decide +kernel
theorem dX1_mightByTaking_10 : decode cX1_mightByTaking 10 = .ok (.iaload, 1) := by decide +kernel
theorem dX1_mightByTaking_11 : decode cX1_mightByTaking 11 = .ok (.istore_n 3, 1) := by decide +kernel
theorem dX1_mightByTaking_12 : decode cX1_mightByTaking 12 = .ok (.iload_n 3, 1) := by decide +kernel
theorem dX1_mightByTaking_13 : decode cX1_mightByTaking 13 = .ok (.ifCond .ne 12, 3) := by decide +kernel
theorem dX1_mightByTaking_16 : decode cX1_mightByTaking 16 = .ok (.aload_n 0, 1) := by decide +kernel
theorem dX1_mightByTaking_17 : decode cX1_mightByTaking 17 = .ok (.getfield 28, 3) := by decide +kernel
theorem dX1_mightByTaking_20 : decode cX1_mightByTaking 20 = .ok (.iload_n 1, 1) := by decide +kernel
theorem dX1_mightByTaking_21 : decode cX1_mightByTaking 21 = .ok (.iaload, 1) := by decide +kernel
theorem dX1_mightByTaking_22 : decode cX1_mightByTaking 22 = .ok (.goto 13, 3) := by decide +kernel
theorem dX1_mightByTaking_25 : decode cX1_mightByTaking 25 = .ok (.aload_n 0, 1) := by decide +kernel
theorem dX1_mightByTaking_26 : decode cX1_mightByTaking 26 = .ok (.getfield 28, 3) := by decide +kernel
theorem dX1_mightByTaking_29 : decode cX1_mightByTaking 29 = .ok (.iload_n 1, 1) := by decide +kernel
theorem dX1_mightByTaking_30 : decode cX1_mightByTaking 30 = .ok (.iaload, 1) := by decide +kernel
theorem dX1_mightByTaking_31 : decode cX1_mightByTaking 31 = .ok (.iload_n 3, 1) := by decide +kernel
theorem dX1_mightByTaking_32 : decode cX1_mightByTaking 32 = .ok (.invokestatic 77, 3) := by decide +kernel
theorem dX1_mightByTaking_35 : decode cX1_mightByTaking 35 = .ok (.ireturn, 1) := by decide +kernel
set_option maxRecDepth 20000 in
theorem ggX1_takeUp_X5_mightByFight : GoodIn wsX1_takeUp wsX5_mightByFight := goodIn_r _ [8, 9, 10, 11, 12] (by decide +kernel) (by decide +kernel)
set_option maxRecDepth 20000 in
theorem gX1_takeUp_X5_mightByFight_n77 : GoodIn wsX1_takeUp (wsX5_mightByFight) := ggX1_takeUp_X5_mightByFight
theorem dX1_takeUp_0 : decode cX1_takeUp 0 = .ok (.aload_n 0, 1) := by decide +kernel
theorem dX1_takeUp_1 : decode cX1_takeUp 1 = .ok (.getfield 40, 3) := by decide +kernel
theorem dX1_takeUp_4 : decode cX1_takeUp 4 = .ok (.iload_n 2, 1) := by decide +kernel
theorem dX1_takeUp_5 : decode cX1_takeUp 5 = .ok (.iaload, 1) := by decide +kernel
theorem dX1_takeUp_6 : decode cX1_takeUp 6 = .ok (.istore_n 3, 1) := by decide +kernel
theorem dX1_takeUp_7 : decode cX1_takeUp 7 = .ok (.aload_n 0, 1) := by decide +kernel
theorem dX1_takeUp_8 : decode cX1_takeUp 8 = .ok (.getfield 43, 3) := by decide +kernel
theorem dX1_takeUp_11 : decode cX1_takeUp 11 = .ok (.iload_n 2, 1) := by decide +kernel
theorem dX1_takeUp_12 : decode cX1_takeUp 12 = .ok (.iconst 0, 1) := by decide +kernel
theorem dX1_takeUp_13 : decode cX1_takeUp 13 = .ok (.iastore, 1) := by decide +kernel
theorem dX1_takeUp_14 : decode cX1_takeUp 14 = .ok (.aload_n 0, 1) := by decide +kernel
theorem dX1_takeUp_15 : decode cX1_takeUp 15 = .ok (.getfield 49, 3) := by decide +kernel
theorem dX1_takeUp_18 : decode cX1_takeUp 18 = .ok (.iload_n 2, 1) := by decide +kernel
theorem dX1_takeUp_19 : decode cX1_takeUp 19 = .ok (.iload_n 1, 1) := by decide +kernel
theorem dX1_takeUp_20 : decode cX1_takeUp 20 = .ok (.iastore, 1) := by decide +kernel
theorem dX1_takeUp_21 : decode cX1_takeUp 21 = .ok (.aload_n 0, 1) := by decide +kernel
theorem dX1_takeUp_22 : decode cX1_takeUp 22 = .ok (.getfield 28, 3) := by decide +kernel
theorem dX1_takeUp_25 : decode cX1_takeUp 25 = .ok (.iload_n 3, 1) := by decide +kernel
theorem dX1_takeUp_26 : decode cX1_takeUp 26 = .ok (.iaload, 1) := by decide +kernel
theorem dX1_takeUp_27 : decode cX1_takeUp 27 = .ok (.ifCond .ne 4, 3) := by decide +kernel
theorem dX1_takeUp_30 : decode cX1_takeUp 30 = .ok (.return_, 1) := by decide +kernel
theorem dX1_takeUp_31 : decode cX1_takeUp 31 = .ok (.aload_n 0, 1) := by decide +kernel
theorem dX1_takeUp_32 : decode cX1_takeUp 32 = .ok (.getfield 28, 3) := by decide +kernel
theorem dX1_takeUp_35 : decode cX1_takeUp 35 = .ok (.iload_n 1, 1) := by decide +kernel
theorem dX1_takeUp_36 : decode cX1_takeUp 36 = .ok (.iaload, 1) := by decide +kernel
theorem dX1_takeUp_37 : decode cX1_takeUp 37 = .ok (.istore 4, 2) := by decide +kernel
theorem dX1_takeUp_39 : decode cX1_takeUp 39 = .ok (.aload_n 0, 1) := by decide +kernel
theorem dX1_takeUp_40 : decode cX1_takeUp 40 = .ok (.getfield 28, 3) := by decide +kernel
theorem dX1_takeUp_43 : decode cX1_takeUp 43 = .ok (.iload_n 3, 1) := by decide +kernel
theorem dX1_takeUp_44 : decode cX1_takeUp 44 = .ok (.iaload, 1) := by decide +kernel
theorem dX1_takeUp_45 : decode cX1_takeUp 45 = .ok (.istore 5, 2) := by decide +kernel
theorem dX1_takeUp_47 : decode cX1_takeUp 47 = .ok (.aload_n 0, 1) := by decide +kernel
theorem dX1_takeUp_48 : decode cX1_takeUp 48 = .ok (.getfield 28, 3) := by decide +kernel
theorem dX1_takeUp_51 : decode cX1_takeUp 51 = .ok (.iload_n 1, 1) := by decide +kernel
theorem dX1_takeUp_52 : decode cX1_takeUp 52 = .ok (.iload 4, 2) := by decide +kernel
theorem dX1_takeUp_54 : decode cX1_takeUp 54 = .ok (.iload 5, 2) := by decide +kernel
theorem dX1_takeUp_56 : decode cX1_takeUp 56 = .ok (.invokestatic 77, 3) := by decide +kernel
theorem dX1_takeUp_59 : decode cX1_takeUp 59 = .ok (.iastore, 1) := by decide +kernel
theorem dX1_takeUp_60 : decode cX1_takeUp 60 = .ok (.aload_n 0, 1) := by decide +kernel
theorem dX1_takeUp_61 : decode cX1_takeUp 61 = .ok (.getfield 28, 3) := by decide +kernel
theorem dX1_takeUp_64 : decode cX1_takeUp 64 = .ok (.iload_n 3, 1) := by decide +kernel
theorem dX1_takeUp_65 : decode cX1_takeUp 65 = .ok (.iload 5, 2) := by decide +kernel
theorem dX1_takeUp_67 : decode cX1_takeUp 67 = .ok (.iload 4, 2) := by decide +kernel
theorem dX1_takeUp_69 : decode cX1_takeUp 69 = .ok (.invokestatic 77, 3) := by decide +kernel
theorem dX1_takeUp_72 : decode cX1_takeUp 72 = .ok (.iastore, 1) := by decide +kernel
theorem dX1_takeUp_73 : decode cX1_takeUp 73 = .ok (.aload_n 0, 1) := by decide +kernel
theorem dX1_takeUp_74 : decode cX1_takeUp 74 = .ok (.dup, 1) := by decide +kernel
theorem dX1_takeUp_75 : decode cX1_takeUp 75 = .ok (.getfield 21, 3) := by decide +kernel
theorem dX1_takeUp_78 : decode cX1_takeUp 78 = .ok (.iconst 1, 1) := by decide +kernel
theorem dX1_takeUp_79 : decode cX1_takeUp 79 = .ok (.iadd, 1) := by decide +kernel
theorem dX1_takeUp_80 : decode cX1_takeUp 80 = .ok (.putfield 21, 3) := by decide +kernel
theorem dX1_takeUp_83 : decode cX1_takeUp 83 = .ok (.return_, 1) := by decide +kernel
set_option maxRecDepth 20000 in
theorem ggX1_reignGoesBy_X1_lowestFor : GoodIn wsX1_reignGoesBy wsX1_lowestFor := goodIn_r _ [13, 4, 14, 15, 16, 12, 17, 5, 18, 3, 7, 19, 6, 20, 21, 22, 23, 24, 25, 38, 39, 40, 41, 42, 43, 44, 45, 46, 47, 48, 49, 50] (by decide +kernel) (by decide +kernel)
set_option maxRecDepth 20000 in
theorem gX1_reignGoesBy_X1_lowestFor : GoodIn wsX1_reignGoesBy (wsV RX1 81 RX1 yX1_lowestFor wsX1_lowestFor) := goodIn_app (goodIn_of _ (by decide +kernel)) ggX1_reignGoesBy_X1_lowestFor
set_option maxRecDepth 20000 in
theorem ggX1_reignGoesBy_X1_takeUp : GoodIn wsX1_reignGoesBy wsX1_takeUp := goodIn_r _ [29, 18, 5, 30, 3, 31, 32, 22, 33, 34, 35, 36, 37, 38, 39, 40, 41, 42, 43, 44, 45, 46, 47, 48, 49, 50] (by decide +kernel) (by decide +kernel)
set_option maxRecDepth 20000 in
theorem gX1_reignGoesBy_X1_takeUp : GoodIn wsX1_reignGoesBy (wsV RX1 85 RX1 yX1_takeUp wsX1_takeUp) := goodIn_app (goodIn_of _ (by decide +kernel)) ggX1_reignGoesBy_X1_takeUp
theorem dX1_reignGoesBy_0 : decode cX1_reignGoesBy 0 = .ok (.iconst 0, 1) := by decide +kernel
theorem dX1_reignGoesBy_1 : decode cX1_reignGoesBy 1 = .ok (.istore_n 1, 1) := by decide +kernel
theorem dX1_reignGoesBy_2 : decode cX1_reignGoesBy 2 = .ok (.iconst 0, 1) := by decide +kernel
theorem dX1_reignGoesBy_3 : decode cX1_reignGoesBy 3 = .ok (.istore_n 2, 1) := by decide +kernel
theorem dX1_reignGoesBy_4 : decode cX1_reignGoesBy 4 = .ok (.iload_n 2, 1) := by decide +kernel
theorem dX1_reignGoesBy_5 : decode cX1_reignGoesBy 5 = .ok (.aload_n 0, 1) := by decide +kernel
theorem dX1_reignGoesBy_6 : decode cX1_reignGoesBy 6 = .ok (.getfield 9, 3) := by decide +kernel
theorem dX1_reignGoesBy_9 : decode cX1_reignGoesBy 9 = .ok (.if_icmp .ge 53, 3) := by decide +kernel
theorem dX1_reignGoesBy_12 : decode cX1_reignGoesBy 12 = .ok (.aload_n 0, 1) := by decide +kernel
theorem dX1_reignGoesBy_13 : decode cX1_reignGoesBy 13 = .ok (.getfield 31, 3) := by decide +kernel
theorem dX1_reignGoesBy_16 : decode cX1_reignGoesBy 16 = .ok (.iload_n 2, 1) := by decide +kernel
theorem dX1_reignGoesBy_17 : decode cX1_reignGoesBy 17 = .ok (.iaload, 1) := by decide +kernel
theorem dX1_reignGoesBy_18 : decode cX1_reignGoesBy 18 = .ok (.iconst 1, 1) := by decide +kernel
theorem dX1_reignGoesBy_19 : decode cX1_reignGoesBy 19 = .ok (.if_icmp .ne 20, 3) := by decide +kernel
theorem dX1_reignGoesBy_22 : decode cX1_reignGoesBy 22 = .ok (.aload_n 0, 1) := by decide +kernel
theorem dX1_reignGoesBy_23 : decode cX1_reignGoesBy 23 = .ok (.getfield 28, 3) := by decide +kernel
theorem dX1_reignGoesBy_26 : decode cX1_reignGoesBy 26 = .ok (.iload_n 2, 1) := by decide +kernel
theorem dX1_reignGoesBy_27 : decode cX1_reignGoesBy 27 = .ok (.iaload, 1) := by decide +kernel
theorem dX1_reignGoesBy_28 : decode cX1_reignGoesBy 28 = .ok (.ifCond .le 11, 3) := by decide +kernel
theorem dX1_reignGoesBy_31 : decode cX1_reignGoesBy 31 = .ok (.aload_n 0, 1) := by decide +kernel
theorem dX1_reignGoesBy_32 : decode cX1_reignGoesBy 32 = .ok (.iload_n 2, 1) := by decide +kernel
theorem dX1_reignGoesBy_33 : decode cX1_reignGoesBy 33 = .ok (.invokevirtual 81, 3) := by decide +kernel
theorem dX1_reignGoesBy_36 : decode cX1_reignGoesBy 36 = .ok (.goto 5, 3) := by decide +kernel
theorem dX1_reignGoesBy_39 : decode cX1_reignGoesBy 39 = .ok (.bipush (-4), 2) := by decide +kernel
theorem dX1_reignGoesBy_41 : decode cX1_reignGoesBy 41 = .ok (.istore_n 3, 1) := by decide +kernel
theorem dX1_reignGoesBy_42 : decode cX1_reignGoesBy 42 = .ok (.iload_n 3, 1) := by decide +kernel
theorem dX1_reignGoesBy_43 : decode cX1_reignGoesBy 43 = .ok (.bipush (-4), 2) := by decide +kernel
theorem dX1_reignGoesBy_45 : decode cX1_reignGoesBy 45 = .ok (.if_icmp .eq 11, 3) := by decide +kernel
theorem dX1_reignGoesBy_48 : decode cX1_reignGoesBy 48 = .ok (.aload_n 0, 1) := by decide +kernel
theorem dX1_reignGoesBy_49 : decode cX1_reignGoesBy 49 = .ok (.iload_n 2, 1) := by decide +kernel
theorem dX1_reignGoesBy_50 : decode cX1_reignGoesBy 50 = .ok (.iload_n 3, 1) := by decide +kernel
theorem dX1_reignGoesBy_51 : decode cX1_reignGoesBy 51 = .ok (.invokevirtual 85, 3) := by decide +kernel
theorem dX1_reignGoesBy_54 : decode cX1_reignGoesBy 54 = .ok (.iconst 1, 1) := by decide +kernel
theorem dX1_reignGoesBy_55 : decode cX1_reignGoesBy 55 = .ok (.istore_n 1, 1) := by decide +kernel
theorem dX1_reignGoesBy_56 : decode cX1_reignGoesBy 56 = .ok (.iinc 2 1, 3) := by decide +kernel
theorem dX1_reignGoesBy_59 : decode cX1_reignGoesBy 59 = .ok (.goto (-55), 3) := by decide +kernel
theorem dX1_reignGoesBy_62 : decode cX1_reignGoesBy 62 = .ok (.iconst 0, 1) := by decide +kernel
theorem dX1_reignGoesBy_63 : decode cX1_reignGoesBy 63 = .ok (.istore_n 2, 1) := by decide +kernel
theorem dX1_reignGoesBy_64 : decode cX1_reignGoesBy 64 = .ok (.iload_n 2, 1) := by decide +kernel
theorem dX1_reignGoesBy_65 : decode cX1_reignGoesBy 65 = .ok (.aload_n 0, 1) := by decide +kernel
theorem dX1_reignGoesBy_66 : decode cX1_reignGoesBy 66 = .ok (.getfield 15, 3) := by decide +kernel
theorem dX1_reignGoesBy_69 : decode cX1_reignGoesBy 69 = .ok (.if_icmp .ge 49, 3) := by decide +kernel
theorem dX1_reignGoesBy_72 : decode cX1_reignGoesBy 72 = .ok (.aload_n 0, 1) := by decide +kernel
theorem dX1_reignGoesBy_73 : decode cX1_reignGoesBy 73 = .ok (.getfield 43, 3) := by decide +kernel
theorem dX1_reignGoesBy_76 : decode cX1_reignGoesBy 76 = .ok (.iload_n 2, 1) := by decide +kernel
theorem dX1_reignGoesBy_77 : decode cX1_reignGoesBy 77 = .ok (.iaload, 1) := by decide +kernel
theorem dX1_reignGoesBy_78 : decode cX1_reignGoesBy 78 = .ok (.iconst 1, 1) := by decide +kernel
theorem dX1_reignGoesBy_79 : decode cX1_reignGoesBy 79 = .ok (.if_icmp .ne 33, 3) := by decide +kernel
theorem dX1_reignGoesBy_82 : decode cX1_reignGoesBy 82 = .ok (.aload_n 0, 1) := by decide +kernel
theorem dX1_reignGoesBy_83 : decode cX1_reignGoesBy 83 = .ok (.getfield 46, 3) := by decide +kernel
theorem dX1_reignGoesBy_86 : decode cX1_reignGoesBy 86 = .ok (.iload_n 2, 1) := by decide +kernel
theorem dX1_reignGoesBy_87 : decode cX1_reignGoesBy 87 = .ok (.dup2, 1) := by decide +kernel
theorem dX1_reignGoesBy_88 : decode cX1_reignGoesBy 88 = .ok (.iaload, 1) := by decide +kernel
theorem dX1_reignGoesBy_89 : decode cX1_reignGoesBy 89 = .ok (.iconst 1, 1) := by decide +kernel
theorem dX1_reignGoesBy_90 : decode cX1_reignGoesBy 90 = .ok (.iadd, 1) := by decide +kernel
theorem dX1_reignGoesBy_91 : decode cX1_reignGoesBy 91 = .ok (.iastore, 1) := by decide +kernel
theorem dX1_reignGoesBy_92 : decode cX1_reignGoesBy 92 = .ok (.iload_n 1, 1) := by decide +kernel
theorem dX1_reignGoesBy_93 : decode cX1_reignGoesBy 93 = .ok (.ifCond .ne 13, 3) := by decide +kernel
theorem dX1_reignGoesBy_96 : decode cX1_reignGoesBy 96 = .ok (.aload_n 0, 1) := by decide +kernel
theorem dX1_reignGoesBy_97 : decode cX1_reignGoesBy 97 = .ok (.getfield 34, 3) := by decide +kernel
theorem dX1_reignGoesBy_100 : decode cX1_reignGoesBy 100 = .ok (.iload_n 2, 1) := by decide +kernel
theorem dX1_reignGoesBy_101 : decode cX1_reignGoesBy 101 = .ok (.iaload, 1) := by decide +kernel
theorem dX1_reignGoesBy_102 : decode cX1_reignGoesBy 102 = .ok (.iconst 3, 1) := by decide +kernel
theorem dX1_reignGoesBy_103 : decode cX1_reignGoesBy 103 = .ok (.if_icmp .ne 7, 3) := by decide +kernel
theorem dX1_reignGoesBy_106 : decode cX1_reignGoesBy 106 = .ok (.iconst 1, 1) := by decide +kernel
theorem dX1_reignGoesBy_107 : decode cX1_reignGoesBy 107 = .ok (.goto 4, 3) := by decide +kernel
theorem dX1_reignGoesBy_110 : decode cX1_reignGoesBy 110 = .ok (.iconst 0, 1) := by decide +kernel
theorem dX1_reignGoesBy_111 : decode cX1_reignGoesBy 111 = .ok (.istore_n 1, 1) := by decide +kernel
theorem dX1_reignGoesBy_112 : decode cX1_reignGoesBy 112 = .ok (.iinc 2 1, 3) := by decide +kernel
theorem dX1_reignGoesBy_115 : decode cX1_reignGoesBy 115 = .ok (.goto (-51), 3) := by decide +kernel
theorem dX1_reignGoesBy_118 : decode cX1_reignGoesBy 118 = .ok (.aload_n 0, 1) := by decide +kernel
theorem dX1_reignGoesBy_119 : decode cX1_reignGoesBy 119 = .ok (.dup, 1) := by decide +kernel
theorem dX1_reignGoesBy_120 : decode cX1_reignGoesBy 120 = .ok (.getfield 18, 3) := by decide +kernel
theorem dX1_reignGoesBy_123 : decode cX1_reignGoesBy 123 = .ok (.iconst 1, 1) := by decide +kernel
theorem dX1_reignGoesBy_124 : decode cX1_reignGoesBy 124 = .ok (.iadd, 1) := by decide +kernel
theorem dX1_reignGoesBy_125 : decode cX1_reignGoesBy 125 = .ok (.putfield 18, 3) := by decide +kernel
theorem dX1_reignGoesBy_128 : decode cX1_reignGoesBy 128 = .ok (.iload_n 1, 1) := by decide +kernel
theorem dX1_reignGoesBy_129 : decode cX1_reignGoesBy 129 = .ok (.ireturn, 1) := by decide +kernel
set_option maxRecDepth 20000 in
theorem ggX1_lowestFor_X1_canTakeUp : GoodIn wsX1_lowestFor wsX1_canTakeUp := goodIn_r _ [6, 7, 8, 9, 10, 11, 12, 13, 14, 15, 16, 17, 18, 19, 20, 21, 22, 23, 24, 25, 26, 27, 28, 29, 30, 31] (by decide +kernel) (by decide +kernel)
set_option maxRecDepth 20000 in
theorem gX1_lowestFor_X1_canTakeUp : GoodIn wsX1_lowestFor (wsV RX1 89 RX1 yX1_canTakeUp wsX1_canTakeUp) := goodIn_app (goodIn_of _ (by decide +kernel)) ggX1_lowestFor_X1_canTakeUp
theorem dX1_lowestFor_0 : decode cX1_lowestFor 0 = .ok (.iconst 0, 1) := by decide +kernel
theorem dX1_lowestFor_1 : decode cX1_lowestFor 1 = .ok (.istore_n 2, 1) := by decide +kernel
theorem dX1_lowestFor_2 : decode cX1_lowestFor 2 = .ok (.iload_n 2, 1) := by decide +kernel
theorem dX1_lowestFor_3 : decode cX1_lowestFor 3 = .ok (.aload_n 0, 1) := by decide +kernel
theorem dX1_lowestFor_4 : decode cX1_lowestFor 4 = .ok (.getfield 15, 3) := by decide +kernel
theorem dX1_lowestFor_7 : decode cX1_lowestFor 7 = .ok (.if_icmp .ge 20, 3) := by decide +kernel
theorem dX1_lowestFor_10 : decode cX1_lowestFor 10 = .ok (.aload_n 0, 1) := by decide +kernel
theorem dX1_lowestFor_11 : decode cX1_lowestFor 11 = .ok (.iload_n 1, 1) := by decide +kernel
theorem dX1_lowestFor_12 : decode cX1_lowestFor 12 = .ok (.iload_n 2, 1) := by decide +kernel
theorem dX1_lowestFor_13 : decode cX1_lowestFor 13 = .ok (.invokevirtual 89, 3) := by decide +kernel
theorem dX1_lowestFor_16 : decode cX1_lowestFor 16 = .ok (.ifCond .eq 5, 3) := by decide +kernel
theorem dX1_lowestFor_19 : decode cX1_lowestFor 19 = .ok (.iload_n 2, 1) := by decide +kernel
theorem dX1_lowestFor_20 : decode cX1_lowestFor 20 = .ok (.ireturn, 1) := by decide +kernel
theorem dX1_lowestFor_21 : decode cX1_lowestFor 21 = .ok (.iinc 2 1, 3) := by decide +kernel
theorem dX1_lowestFor_24 : decode cX1_lowestFor 24 = .ok (.goto (-22), 3) := by decide +kernel
theorem dX1_lowestFor_27 : decode cX1_lowestFor 27 = .ok (.bipush (-4), 2) := by decide +kernel
theorem dX1_lowestFor_29 : decode cX1_lowestFor 29 = .ok (.ireturn, 1) := by decide +kernel
theorem dX1_lowestWith_0 : decode cX1_lowestWith 0 = .ok (.iconst 0, 1) := by decide +kernel
theorem dX1_lowestWith_1 : decode cX1_lowestWith 1 = .ok (.istore_n 2, 1) := by decide +kernel
theorem dX1_lowestWith_2 : decode cX1_lowestWith 2 = .ok (.iload_n 2, 1) := by decide +kernel
theorem dX1_lowestWith_3 : decode cX1_lowestWith 3 = .ok (.aload_n 0, 1) := by decide +kernel
theorem dX1_lowestWith_4 : decode cX1_lowestWith 4 = .ok (.getfield 15, 3) := by decide +kernel
theorem dX1_lowestWith_7 : decode cX1_lowestWith 7 = .ok (.if_icmp .ge 21, 3) := by decide +kernel
theorem dX1_lowestWith_10 : decode cX1_lowestWith 10 = .ok (.aload_n 0, 1) := by decide +kernel
theorem dX1_lowestWith_11 : decode cX1_lowestWith 11 = .ok (.getfield 43, 3) := by decide +kernel
theorem dX1_lowestWith_14 : decode cX1_lowestWith 14 = .ok (.iload_n 2, 1) := by decide +kernel
theorem dX1_lowestWith_15 : decode cX1_lowestWith 15 = .ok (.iaload, 1) := by decide +kernel
theorem dX1_lowestWith_16 : decode cX1_lowestWith 16 = .ok (.iload_n 1, 1) := by decide +kernel
theorem dX1_lowestWith_17 : decode cX1_lowestWith 17 = .ok (.if_icmp .ne 5, 3) := by decide +kernel
theorem dX1_lowestWith_20 : decode cX1_lowestWith 20 = .ok (.iload_n 2, 1) := by decide +kernel
theorem dX1_lowestWith_21 : decode cX1_lowestWith 21 = .ok (.ireturn, 1) := by decide +kernel
theorem dX1_lowestWith_22 : decode cX1_lowestWith 22 = .ok (.iinc 2 1, 3) := by decide +kernel
theorem dX1_lowestWith_25 : decode cX1_lowestWith 25 = .ok (.goto (-23), 3) := by decide +kernel
theorem dX1_lowestWith_28 : decode cX1_lowestWith 28 = .ok (.bipush (-4), 2) := by decide +kernel
theorem dX1_lowestWith_30 : decode cX1_lowestWith 30 = .ok (.ireturn, 1) := by decide +kernel
theorem dX1_takeAway_0 : decode cX1_takeAway 0 = .ok (.iconst 0, 1) := by decide +kernel
theorem dX1_takeAway_1 : decode cX1_takeAway 1 = .ok (.istore_n 2, 1) := by decide +kernel
theorem dX1_takeAway_2 : decode cX1_takeAway 2 = .ok (.iload_n 2, 1) := by decide +kernel
theorem dX1_takeAway_3 : decode cX1_takeAway 3 = .ok (.aload_n 0, 1) := by decide +kernel
theorem dX1_takeAway_4 : decode cX1_takeAway 4 = .ok (.getfield 15, 3) := by decide +kernel
theorem dX1_takeAway_7 : decode cX1_takeAway 7 = .ok (.if_icmp .ge 25, 3) := by decide +kernel
theorem dX1_takeAway_10 : decode cX1_takeAway 10 = .ok (.iload_n 1, 1) := by decide +kernel
theorem dX1_takeAway_11 : decode cX1_takeAway 11 = .ok (.iload_n 2, 1) := by decide +kernel
theorem dX1_takeAway_12 : decode cX1_takeAway 12 = .ok (.ishr, 1) := by decide +kernel
theorem dX1_takeAway_13 : decode cX1_takeAway 13 = .ok (.iconst 1, 1) := by decide +kernel
theorem dX1_takeAway_14 : decode cX1_takeAway 14 = .ok (.iand, 1) := by decide +kernel
theorem dX1_takeAway_15 : decode cX1_takeAway 15 = .ok (.iconst 1, 1) := by decide +kernel
theorem dX1_takeAway_16 : decode cX1_takeAway 16 = .ok (.if_icmp .ne 10, 3) := by decide +kernel
theorem dX1_takeAway_19 : decode cX1_takeAway 19 = .ok (.aload_n 0, 1) := by decide +kernel
theorem dX1_takeAway_20 : decode cX1_takeAway 20 = .ok (.getfield 43, 3) := by decide +kernel
theorem dX1_takeAway_23 : decode cX1_takeAway 23 = .ok (.iload_n 2, 1) := by decide +kernel
theorem dX1_takeAway_24 : decode cX1_takeAway 24 = .ok (.iconst 0, 1) := by decide +kernel
theorem dX1_takeAway_25 : decode cX1_takeAway 25 = .ok (.iastore, 1) := by decide +kernel
theorem dX1_takeAway_26 : decode cX1_takeAway 26 = .ok (.iinc 2 1, 3) := by decide +kernel
theorem dX1_takeAway_29 : decode cX1_takeAway 29 = .ok (.goto (-27), 3) := by decide +kernel
theorem dX1_takeAway_32 : decode cX1_takeAway 32 = .ok (.return_, 1) := by decide +kernel
set_option maxRecDepth 20000 in
theorem ggX1_ownersWithin_X1_canTakeUp : GoodIn wsX1_ownersWithin wsX1_canTakeUp := goodIn_r _ [8, 9, 3, 10, 11, 12, 13, 14, 15, 16, 17, 18, 19, 20, 21, 22, 23, 24, 25, 26, 27, 28, 29, 30, 31, 32] (by decide +kernel) (by decide +kernel)
set_option maxRecDepth 20000 in
theorem gX1_ownersWithin_X1_canTakeUp : GoodIn wsX1_ownersWithin (wsV RX1 89 RX1 yX1_canTakeUp wsX1_canTakeUp) := goodIn_app (goodIn_of _ (by decide +kernel)) ggX1_ownersWithin_X1_canTakeUp
theorem dX1_ownersWithin_0 : decode cX1_ownersWithin 0 = .ok (.iconst 0, 1) := by decide +kernel
theorem dX1_ownersWithin_1 : decode cX1_ownersWithin 1 = .ok (.istore_n 2, 1) := by decide +kernel
theorem dX1_ownersWithin_2 : decode cX1_ownersWithin 2 = .ok (.iconst 0, 1) := by decide +kernel
theorem dX1_ownersWithin_3 : decode cX1_ownersWithin 3 = .ok (.istore_n 3, 1) := by decide +kernel
theorem dX1_ownersWithin_4 : decode cX1_ownersWithin 4 = .ok (.iload_n 3, 1) := by decide +kernel
theorem dX1_ownersWithin_5 : decode cX1_ownersWithin 5 = .ok (.aload_n 0, 1) := by decide +kernel
theorem dX1_ownersWithin_6 : decode cX1_ownersWithin 6 = .ok (.getfield 9, 3) := by decide +kernel
theorem dX1_ownersWithin_9 : decode cX1_ownersWithin 9 = .ok (.if_icmp .ge 58, 3) := by decide +kernel
theorem dX1_ownersWithin_12 : decode cX1_ownersWithin 12 = .ok (.iconst 0, 1) := by decide +kernel
theorem dX1_ownersWithin_13 : decode cX1_ownersWithin 13 = .ok (.istore 4, 2) := by decide +kernel
theorem dX1_ownersWithin_15 : decode cX1_ownersWithin 15 = .ok (.iload 4, 2) := by decide +kernel
theorem dX1_ownersWithin_17 : decode cX1_ownersWithin 17 = .ok (.aload_n 0, 1) := by decide +kernel
theorem dX1_ownersWithin_18 : decode cX1_ownersWithin 18 = .ok (.getfield 15, 3) := by decide +kernel
theorem dX1_ownersWithin_21 : decode cX1_ownersWithin 21 = .ok (.if_icmp .ge 40, 3) := by decide +kernel
theorem dX1_ownersWithin_24 : decode cX1_ownersWithin 24 = .ok (.iload_n 1, 1) := by decide +kernel
theorem dX1_ownersWithin_25 : decode cX1_ownersWithin 25 = .ok (.iload_n 3, 1) := by decide +kernel
theorem dX1_ownersWithin_26 : decode cX1_ownersWithin 26 = .ok (.ishr, 1) := by decide +kernel
theorem dX1_ownersWithin_27 : decode cX1_ownersWithin 27 = .ok (.iconst 1, 1) := by decide +kernel
theorem dX1_ownersWithin_28 : decode cX1_ownersWithin 28 = .ok (.iand, 1) := by decide +kernel
theorem dX1_ownersWithin_29 : decode cX1_ownersWithin 29 = .ok (.iconst 1, 1) := by decide +kernel
theorem dX1_ownersWithin_30 : decode cX1_ownersWithin 30 = .ok (.if_icmp .ne 25, 3) := by decide +kernel
theorem dX1_ownersWithin_33 : decode cX1_ownersWithin 33 = .ok (.aload_n 0, 1) := by decide +kernel
theorem dX1_ownersWithin_34 : decode cX1_ownersWithin 34 = .ok (.iload_n 3, 1) := by decide +kernel
theorem dX1_ownersWithin_35 : decode cX1_ownersWithin 35 = .ok (.iload 4, 2) := by decide +kernel
theorem dX1_ownersWithin_37 : decode cX1_ownersWithin 37 = .ok (.invokevirtual 89, 3) := by decide +kernel
theorem dX1_ownersWithin_40 : decode cX1_ownersWithin 40 = .ok (.ifCond .eq 15, 3) := by decide +kernel
theorem dX1_ownersWithin_43 : decode cX1_ownersWithin 43 = .ok (.iload_n 2, 1) := by decide +kernel
theorem dX1_ownersWithin_44 : decode cX1_ownersWithin 44 = .ok (.iconst 1, 1) := by decide +kernel
theorem dX1_ownersWithin_45 : decode cX1_ownersWithin 45 = .ok (.aload_n 0, 1) := by decide +kernel
theorem dX1_ownersWithin_46 : decode cX1_ownersWithin 46 = .ok (.getfield 40, 3) := by decide +kernel
theorem dX1_ownersWithin_49 : decode cX1_ownersWithin 49 = .ok (.iload 4, 2) := by decide +kernel
theorem dX1_ownersWithin_51 : decode cX1_ownersWithin 51 = .ok (.iaload, 1) := by decide +kernel
theorem dX1_ownersWithin_52 : decode cX1_ownersWithin 52 = .ok (.ishl, 1) := by decide +kernel
theorem dX1_ownersWithin_53 : decode cX1_ownersWithin 53 = .ok (.ior, 1) := by decide +kernel
theorem dX1_ownersWithin_54 : decode cX1_ownersWithin 54 = .ok (.istore_n 2, 1) := by decide +kernel
theorem dX1_ownersWithin_55 : decode cX1_ownersWithin 55 = .ok (.iinc 4 1, 3) := by decide +kernel
theorem dX1_ownersWithin_58 : decode cX1_ownersWithin 58 = .ok (.goto (-43), 3) := by decide +kernel
theorem dX1_ownersWithin_61 : decode cX1_ownersWithin 61 = .ok (.iinc 3 1, 3) := by decide +kernel
theorem dX1_ownersWithin_64 : decode cX1_ownersWithin 64 = .ok (.goto (-60), 3) := by decide +kernel
theorem dX1_ownersWithin_67 : decode cX1_ownersWithin 67 = .ok (.iload_n 2, 1) := by decide +kernel
theorem dX1_ownersWithin_68 : decode cX1_ownersWithin 68 = .ok (.ireturn, 1) := by decide +kernel
theorem dX1_standingAsBits_0 : decode cX1_standingAsBits 0 = .ok (.iconst 0, 1) := by decide +kernel
theorem dX1_standingAsBits_1 : decode cX1_standingAsBits 1 = .ok (.istore_n 1, 1) := by decide +kernel
theorem dX1_standingAsBits_2 : decode cX1_standingAsBits 2 = .ok (.iconst 0, 1) := by decide +kernel
theorem dX1_standingAsBits_3 : decode cX1_standingAsBits 3 = .ok (.istore_n 2, 1) := by decide +kernel
theorem dX1_standingAsBits_4 : decode cX1_standingAsBits 4 = .ok (.iload_n 2, 1) := by decide +kernel
theorem dX1_standingAsBits_5 : decode cX1_standingAsBits 5 = .ok (.aload_n 0, 1) := by decide +kernel
theorem dX1_standingAsBits_6 : decode cX1_standingAsBits 6 = .ok (.getfield 9, 3) := by decide +kernel
theorem dX1_standingAsBits_9 : decode cX1_standingAsBits 9 = .ok (.if_icmp .ge 24, 3) := by decide +kernel
theorem dX1_standingAsBits_12 : decode cX1_standingAsBits 12 = .ok (.aload_n 0, 1) := by decide +kernel
theorem dX1_standingAsBits_13 : decode cX1_standingAsBits 13 = .ok (.getfield 28, 3) := by decide +kernel
theorem dX1_standingAsBits_16 : decode cX1_standingAsBits 16 = .ok (.iload_n 2, 1) := by decide +kernel
theorem dX1_standingAsBits_17 : decode cX1_standingAsBits 17 = .ok (.iaload, 1) := by decide +kernel
theorem dX1_standingAsBits_18 : decode cX1_standingAsBits 18 = .ok (.ifCond .le 9, 3) := by decide +kernel
theorem dX1_standingAsBits_21 : decode cX1_standingAsBits 21 = .ok (.iload_n 1, 1) := by decide +kernel
theorem dX1_standingAsBits_22 : decode cX1_standingAsBits 22 = .ok (.iconst 1, 1) := by decide +kernel
theorem dX1_standingAsBits_23 : decode cX1_standingAsBits 23 = .ok (.iload_n 2, 1) := by decide +kernel
theorem dX1_standingAsBits_24 : decode cX1_standingAsBits 24 = .ok (.ishl, 1) := by decide +kernel
theorem dX1_standingAsBits_25 : decode cX1_standingAsBits 25 = .ok (.ior, 1) := by decide +kernel
theorem dX1_standingAsBits_26 : decode cX1_standingAsBits 26 = .ok (.istore_n 1, 1) := by decide +kernel
theorem dX1_standingAsBits_27 : decode cX1_standingAsBits 27 = .ok (.iinc 2 1, 3) := by decide +kernel
theorem dX1_standingAsBits_30 : decode cX1_standingAsBits 30 = .ok (.goto (-26), 3) := by decide +kernel
theorem dX1_standingAsBits_33 : decode cX1_standingAsBits 33 = .ok (.iload_n 1, 1) := by decide +kernel
theorem dX1_standingAsBits_34 : decode cX1_standingAsBits 34 = .ok (.ireturn, 1) := by decide +kernel
theorem dX1_lyingAsBits_0 : decode cX1_lyingAsBits 0 = .ok (.iconst 0, 1) := by decide +kernel
theorem dX1_lyingAsBits_1 : decode cX1_lyingAsBits 1 = .ok (.istore_n 1, 1) := by decide +kernel
theorem dX1_lyingAsBits_2 : decode cX1_lyingAsBits 2 = .ok (.iconst 0, 1) := by decide +kernel
theorem dX1_lyingAsBits_3 : decode cX1_lyingAsBits 3 = .ok (.istore_n 2, 1) := by decide +kernel
theorem dX1_lyingAsBits_4 : decode cX1_lyingAsBits 4 = .ok (.iload_n 2, 1) := by decide +kernel
theorem dX1_lyingAsBits_5 : decode cX1_lyingAsBits 5 = .ok (.aload_n 0, 1) := by decide +kernel
theorem dX1_lyingAsBits_6 : decode cX1_lyingAsBits 6 = .ok (.getfield 15, 3) := by decide +kernel
theorem dX1_lyingAsBits_9 : decode cX1_lyingAsBits 9 = .ok (.if_icmp .ge 20, 3) := by decide +kernel
theorem dX1_lyingAsBits_12 : decode cX1_lyingAsBits 12 = .ok (.iload_n 1, 1) := by decide +kernel
theorem dX1_lyingAsBits_13 : decode cX1_lyingAsBits 13 = .ok (.aload_n 0, 1) := by decide +kernel
theorem dX1_lyingAsBits_14 : decode cX1_lyingAsBits 14 = .ok (.getfield 43, 3) := by decide +kernel
theorem dX1_lyingAsBits_17 : decode cX1_lyingAsBits 17 = .ok (.iload_n 2, 1) := by decide +kernel
theorem dX1_lyingAsBits_18 : decode cX1_lyingAsBits 18 = .ok (.iaload, 1) := by decide +kernel
theorem dX1_lyingAsBits_19 : decode cX1_lyingAsBits 19 = .ok (.iload_n 2, 1) := by decide +kernel
theorem dX1_lyingAsBits_20 : decode cX1_lyingAsBits 20 = .ok (.ishl, 1) := by decide +kernel
theorem dX1_lyingAsBits_21 : decode cX1_lyingAsBits 21 = .ok (.ior, 1) := by decide +kernel
theorem dX1_lyingAsBits_22 : decode cX1_lyingAsBits 22 = .ok (.istore_n 1, 1) := by decide +kernel
theorem dX1_lyingAsBits_23 : decode cX1_lyingAsBits 23 = .ok (.iinc 2 1, 3) := by decide +kernel
theorem dX1_lyingAsBits_26 : decode cX1_lyingAsBits 26 = .ok (.goto (-22), 3) := by decide +kernel
theorem dX1_lyingAsBits_29 : decode cX1_lyingAsBits 29 = .ok (.iload_n 1, 1) := by decide +kernel
theorem dX1_lyingAsBits_30 : decode cX1_lyingAsBits 30 = .ok (.ireturn, 1) := by decide +kernel
theorem dX1_mightOfAll_0 : decode cX1_mightOfAll 0 = .ok (.iconst 0, 1) := by decide +kernel
theorem dX1_mightOfAll_1 : decode cX1_mightOfAll 1 = .ok (.istore_n 1, 1) := by decide +kernel
theorem dX1_mightOfAll_2 : decode cX1_mightOfAll 2 = .ok (.iconst 0, 1) := by decide +kernel
theorem dX1_mightOfAll_3 : decode cX1_mightOfAll 3 = .ok (.istore_n 2, 1) := by decide +kernel
theorem dX1_mightOfAll_4 : decode cX1_mightOfAll 4 = .ok (.iload_n 2, 1) := by decide +kernel
theorem dX1_mightOfAll_5 : decode cX1_mightOfAll 5 = .ok (.aload_n 0, 1) := by decide +kernel
theorem dX1_mightOfAll_6 : decode cX1_mightOfAll 6 = .ok (.getfield 9, 3) := by decide +kernel
theorem dX1_mightOfAll_9 : decode cX1_mightOfAll 9 = .ok (.if_icmp .ge 18, 3) := by decide +kernel
theorem dX1_mightOfAll_12 : decode cX1_mightOfAll 12 = .ok (.iload_n 1, 1) := by decide +kernel
theorem dX1_mightOfAll_13 : decode cX1_mightOfAll 13 = .ok (.aload_n 0, 1) := by decide +kernel
theorem dX1_mightOfAll_14 : decode cX1_mightOfAll 14 = .ok (.getfield 28, 3) := by decide +kernel
theorem dX1_mightOfAll_17 : decode cX1_mightOfAll 17 = .ok (.iload_n 2, 1) := by decide +kernel
theorem dX1_mightOfAll_18 : decode cX1_mightOfAll 18 = .ok (.iaload, 1) := by decide +kernel
theorem dX1_mightOfAll_19 : decode cX1_mightOfAll 19 = .ok (.iadd, 1) := by decide +kernel
theorem dX1_mightOfAll_20 : decode cX1_mightOfAll 20 = .ok (.istore_n 1, 1) := by decide +kernel
theorem dX1_mightOfAll_21 : decode cX1_mightOfAll 21 = .ok (.iinc 2 1, 3) := by decide +kernel
theorem dX1_mightOfAll_24 : decode cX1_mightOfAll 24 = .ok (.goto (-20), 3) := by decide +kernel
theorem dX1_mightOfAll_27 : decode cX1_mightOfAll 27 = .ok (.iload_n 1, 1) := by decide +kernel
theorem dX1_mightOfAll_28 : decode cX1_mightOfAll 28 = .ok (.ireturn, 1) := by decide +kernel
theorem dX2_init_0 : decode cX2_init 0 = .ok (.aload_n 0, 1) := by decide +kernel
theorem dX2_init_1 : decode cX2_init 1 = .ok (.invokespecial 3, 3) := by decide +kernel
theorem dX2_init_4 : decode cX2_init 4 = .ok (.aload_n 0, 1) := by decide +kernel
theorem dX2_init_5 : decode cX2_init 5 = .ok (.iconst 0, 1) := by decide +kernel
theorem dX2_init_6 : decode cX2_init 6 = .ok (.putfield 9, 3) := by decide +kernel
theorem dX2_init_9 : decode cX2_init 9 = .ok (.aload_n 0, 1) := by decide +kernel
theorem dX2_init_10 : decode cX2_init 10 = .ok (.iconst 0, 1) := by decide +kernel
theorem dX2_init_11 : decode cX2_init 11 = .ok (.putfield 15, 3) := by decide +kernel
theorem dX2_init_14 : decode cX2_init 14 = .ok (.aload_n 0, 1) := by decide +kernel
theorem dX2_init_15 : decode cX2_init 15 = .ok (.sipush 200, 3) := by decide +kernel
theorem dX2_init_18 : decode cX2_init 18 = .ok (.newarray .int, 2) := by decide +kernel
theorem dX2_init_20 : decode cX2_init 20 = .ok (.putfield 18, 3) := by decide +kernel
theorem dX2_init_23 : decode cX2_init 23 = .ok (.aload_n 0, 1) := by decide +kernel
theorem dX2_init_24 : decode cX2_init 24 = .ok (.iconst 3, 1) := by decide +kernel
theorem dX2_init_25 : decode cX2_init 25 = .ok (.newarray .int, 2) := by decide +kernel
theorem dX2_init_27 : decode cX2_init 27 = .ok (.putfield 22, 3) := by decide +kernel
theorem dX2_init_30 : decode cX2_init 30 = .ok (.return_, 1) := by decide +kernel
theorem dX2_append_0 : decode cX2_append 0 = .ok (.aload_n 0, 1) := by decide +kernel
theorem dX2_append_1 : decode cX2_append 1 = .ok (.getfield 9, 3) := by decide +kernel
theorem dX2_append_4 : decode cX2_append 4 = .ok (.sipush 200, 3) := by decide +kernel
theorem dX2_append_7 : decode cX2_append 7 = .ok (.if_icmp .lt 5, 3) := by decide +kernel
theorem dX2_append_10 : decode cX2_append 10 = .ok (.iconst 0, 1) := by decide +kernel
theorem dX2_append_11 : decode cX2_append 11 = .ok (.ireturn, 1) := by decide +kernel
theorem dX2_append_12 : decode cX2_append 12 = .ok (.aload_n 0, 1) := by decide +kernel
theorem dX2_append_13 : decode cX2_append 13 = .ok (.getfield 18, 3) := by decide +kernel
theorem dX2_append_16 : decode cX2_append 16 = .ok (.aload_n 0, 1) := by decide +kernel
theorem dX2_append_17 : decode cX2_append 17 = .ok (.getfield 9, 3) := by decide +kernel
theorem dX2_append_20 : decode cX2_append 20 = .ok (.iload_n 1, 1) := by decide +kernel
theorem dX2_append_21 : decode cX2_append 21 = .ok (.iastore, 1) := by decide +kernel
theorem dX2_append_22 : decode cX2_append 22 = .ok (.aload_n 0, 1) := by decide +kernel
theorem dX2_append_23 : decode cX2_append 23 = .ok (.dup, 1) := by decide +kernel
theorem dX2_append_24 : decode cX2_append 24 = .ok (.getfield 9, 3) := by decide +kernel
theorem dX2_append_27 : decode cX2_append 27 = .ok (.iconst 1, 1) := by decide +kernel
theorem dX2_append_28 : decode cX2_append 28 = .ok (.iadd, 1) := by decide +kernel
theorem dX2_append_29 : decode cX2_append 29 = .ok (.putfield 9, 3) := by decide +kernel
theorem dX2_append_32 : decode cX2_append 32 = .ok (.iconst 1, 1) := by decide +kernel
theorem dX2_append_33 : decode cX2_append 33 = .ok (.ireturn, 1) := by decide +kernel
set_option maxRecDepth 20000 in
theorem ggX2_readInto_X1_empty : GoodIn wsX2_readInto wsX1_empty := goodIn_r _ [7, 8, 9, 10, 11, 63, 64, 65, 66, 67, 68, 69, 70, 71, 72, 73, 74, 75] (by decide +kernel) (by decide +kernel)
set_option maxRecDepth 20000 in
theorem gX2_readInto_X1_empty : GoodIn wsX2_readInto (wsV RX2 25 RX1 yX1_empty wsX1_empty) := goodIn_app (goodIn_of _ (by decide +kernel)) ggX2_readInto_X1_empty
set_option maxRecDepth 20000 in
theorem ggX2_readInto_X2_readItem : GoodIn wsX2_readInto wsX2_readItem := goodIn_r _ [16, 17, 18, 19, 20, 15, 21, 1, 2, 22, 23, 24, 25, 26, 27, 28, 29, 30, 31, 32, 33, 34, 35, 36, 6, 37, 8, 38, 39, 40, 41, 42, 43, 44, 9, 45, 46, 47, 48, 49, 50, 51, 52, 53, 54, 55, 56, 57, 58, 59, 60, 61, 62, 63, 64, 65, 66, 67, 68, 69, 70, 71, 72, 73, 74, 75] (by decide +kernel) (by decide +kernel)
set_option maxRecDepth 20000 in
theorem gX2_readInto_X2_readItem : GoodIn wsX2_readInto (wsV RX2 30 RX2 yX2_readItem wsX2_readItem) := goodIn_app (goodIn_of _ (by decide +kernel)) ggX2_readInto_X2_readItem
theorem dX2_readInto_0 : decode cX2_readInto 0 = .ok (.aload_n 1, 1) := by decide +kernel
theorem dX2_readInto_1 : decode cX2_readInto 1 = .ok (.invokevirtual 25, 3) := by decide +kernel
theorem dX2_readInto_4 : decode cX2_readInto 4 = .ok (.aload_n 0, 1) := by decide +kernel
theorem dX2_readInto_5 : decode cX2_readInto 5 = .ok (.iconst 0, 1) := by decide +kernel
theorem dX2_readInto_6 : decode cX2_readInto 6 = .ok (.putfield 15, 3) := by decide +kernel
theorem dX2_readInto_9 : decode cX2_readInto 9 = .ok (.iconst 0, 1) := by decide +kernel
theorem dX2_readInto_10 : decode cX2_readInto 10 = .ok (.istore_n 2, 1) := by decide +kernel
theorem dX2_readInto_11 : decode cX2_readInto 11 = .ok (.iload_n 2, 1) := by decide +kernel
theorem dX2_readInto_12 : decode cX2_readInto 12 = .ok (.sipush 200, 3) := by decide +kernel
theorem dX2_readInto_15 : decode cX2_readInto 15 = .ok (.if_icmp .ge 35, 3) := by decide +kernel
theorem dX2_readInto_18 : decode cX2_readInto 18 = .ok (.aload_n 0, 1) := by decide +kernel
theorem dX2_readInto_19 : decode cX2_readInto 19 = .ok (.getfield 15, 3) := by decide +kernel
theorem dX2_readInto_22 : decode cX2_readInto 22 = .ok (.aload_n 0, 1) := by decide +kernel
theorem dX2_readInto_23 : decode cX2_readInto 23 = .ok (.getfield 9, 3) := by decide +kernel
theorem dX2_readInto_26 : decode cX2_readInto 26 = .ok (.if_icmp .ge 24, 3) := by decide +kernel
theorem dX2_readInto_29 : decode cX2_readInto 29 = .ok (.aload_n 0, 1) := by decide +kernel
theorem dX2_readInto_30 : decode cX2_readInto 30 = .ok (.getfield 15, 3) := by decide +kernel
theorem dX2_readInto_33 : decode cX2_readInto 33 = .ok (.istore_n 3, 1) := by decide +kernel
theorem dX2_readInto_34 : decode cX2_readInto 34 = .ok (.aload_n 0, 1) := by decide +kernel
theorem dX2_readInto_35 : decode cX2_readInto 35 = .ok (.aload_n 1, 1) := by decide +kernel
theorem dX2_readInto_36 : decode cX2_readInto 36 = .ok (.invokevirtual 30, 3) := by decide +kernel
theorem dX2_readInto_39 : decode cX2_readInto 39 = .ok (.ifCond .ne 5, 3) := by decide +kernel
theorem dX2_readInto_42 : decode cX2_readInto 42 = .ok (.iload_n 3, 1) := by decide +kernel
theorem dX2_readInto_43 : decode cX2_readInto 43 = .ok (.ireturn, 1) := by decide +kernel
theorem dX2_readInto_44 : decode cX2_readInto 44 = .ok (.iinc 2 1, 3) := by decide +kernel
theorem dX2_readInto_47 : decode cX2_readInto 47 = .ok (.goto (-36), 3) := by decide +kernel
theorem dX2_readInto_50 : decode cX2_readInto 50 = .ok (.bipush (-4), 2) := by decide +kernel
theorem dX2_readInto_52 : decode cX2_readInto 52 = .ok (.ireturn, 1) := by decide +kernel
set_option maxRecDepth 20000 in
theorem ggX2_readItem_X2_readSign : GoodIn wsX2_readItem wsX2_readSign := goodIn_r _ [6, 7, 8, 9, 49, 50, 51, 52] (by decide +kernel) (by decide +kernel)
set_option maxRecDepth 20000 in
theorem gX2_readItem_X2_readSign : GoodIn wsX2_readItem (wsV RX2 34 RX2 yX2_readSign wsX2_readSign) := goodIn_app (goodIn_of _ (by decide +kernel)) ggX2_readItem_X2_readSign
set_option maxRecDepth 20000 in
theorem ggX2_readItem_X2_readNumber : GoodIn wsX2_readItem wsX2_readNumber := goodIn_r _ [13, 7, 8, 9, 14, 15, 16, 17, 18, 19, 20, 49, 50, 51, 52] (by decide +kernel) (by decide +kernel)
set_option maxRecDepth 20000 in
theorem gX2_readItem_X2_readNumber : GoodIn wsX2_readItem (wsV RX2 38 RX2 yX2_readNumber wsX2_readNumber) := goodIn_app (goodIn_of _ (by decide +kernel)) ggX2_readItem_X2_readNumber
set_option maxRecDepth 20000 in
theorem ggX2_readItem_X1_addPerson : GoodIn wsX2_readItem wsX1_addPerson := goodIn_r _ [25, 26, 27, 28, 29, 18, 19, 20, 53, 54, 55, 56, 57, 58, 59, 60, 61, 62, 63, 64, 65] (by decide +kernel) (by decide +kernel)
set_option maxRecDepth 20000 in
theorem gX2_readItem_X1_addPerson : GoodIn wsX2_readItem (wsV RX2 42 RX1 yX1_addPerson wsX1_addPerson) := goodIn_app (goodIn_of _ (by decide +kernel)) ggX2_readItem_X1_addPerson
set_option maxRecDepth 20000 in
theorem ggX2_readItem_X1_addGlove : GoodIn wsX2_readItem wsX1_addGlove := goodIn_r _ [33, 34, 18, 19, 20, 35, 36, 37, 24, 38, 26, 39, 40, 41, 42, 43, 44, 45, 46, 47, 48, 53, 54, 55, 56, 57, 58, 59, 60, 61, 62, 63, 64, 65] (by decide +kernel) (by decide +kernel)
set_option maxRecDepth 20000 in
theorem gX2_readItem_X1_addGlove : GoodIn wsX2_readItem (wsV RX2 46 RX1 yX1_addGlove wsX1_addGlove) := goodIn_app (goodIn_of _ (by decide +kernel)) ggX2_readItem_X1_addGlove
theorem dX2_readItem_0 : decode cX2_readItem 0 = .ok (.aload_n 0, 1) := by decide +kernel
