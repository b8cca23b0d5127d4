theorem dX6_can_60 : decode cX6_can 60 = .ok (.iload 4, 2) := by decide +kernel
theorem dX6_can_62 : decode cX6_can 62 = .ok (.ireturn, 1) := by decide +kernel
set_option maxRecDepth 20000 in
theorem ggX6_word_X6_isIn : GoodIn wsX6_word wsX6_isIn := goodIn_r _ [7] (by decide +kernel) (by decide +kernel)
set_option maxRecDepth 20000 in
theorem gX6_word_X6_isIn : GoodIn wsX6_word (va_wsS RX6 42 yX6_isIn wsX6_isIn) := goodIn_app (goodIn_of _ (by decide +kernel)) ggX6_word_X6_isIn
set_option maxRecDepth 20000 in
theorem ggX6_word_X1_addWord : GoodIn wsX6_word wsX1_addWord := goodIn_r _ [12, 13, 14, 15, 16, 23, 24, 25, 26, 27, 28, 29, 30, 31, 32, 33, 34, 35, 36, 37, 38, 39] (by decide +kernel) (by decide +kernel)
set_option maxRecDepth 20000 in
theorem gX6_word_X1_addWord : GoodIn wsX6_word (wsV RX6 68 RX1 yX1_addWord wsX1_addWord) := goodIn_app (goodIn_of _ (by decide +kernel)) ggX6_word_X1_addWord
theorem dX6_word_0 : decode cX6_word 0 = .ok (.iload_n 1, 1) := by decide +kernel
theorem dX6_word_1 : decode cX6_word 1 = .ok (.iconst 1, 1) := by decide +kernel
theorem dX6_word_2 : decode cX6_word 2 = .ok (.bipush 63, 2) := by decide +kernel
theorem dX6_word_4 : decode cX6_word 4 = .ok (.invokestatic 42, 3) := by decide +kernel
theorem dX6_word_7 : decode cX6_word 7 = .ok (.ifCond .ne 5, 3) := by decide +kernel
theorem dX6_word_10 : decode cX6_word 10 = .ok (.iconst (-1), 1) := by decide +kernel
theorem dX6_word_11 : decode cX6_word 11 = .ok (.ireturn, 1) := by decide +kernel
theorem dX6_word_12 : decode cX6_word 12 = .ok (.aload_n 0, 1) := by decide +kernel
theorem dX6_word_13 : decode cX6_word 13 = .ok (.getfield 12, 3) := by decide +kernel
theorem dX6_word_16 : decode cX6_word 16 = .ok (.getfield 65, 3) := by decide +kernel
theorem dX6_word_19 : decode cX6_word 19 = .ok (.bipush 6, 2) := by decide +kernel
theorem dX6_word_21 : decode cX6_word 21 = .ok (.if_icmp .lt 6, 3) := by decide +kernel
theorem dX6_word_24 : decode cX6_word 24 = .ok (.bipush (-3), 2) := by decide +kernel
theorem dX6_word_26 : decode cX6_word 26 = .ok (.ireturn, 1) := by decide +kernel
theorem dX6_word_27 : decode cX6_word 27 = .ok (.aload_n 0, 1) := by decide +kernel
theorem dX6_word_28 : decode cX6_word 28 = .ok (.getfield 12, 3) := by decide +kernel
theorem dX6_word_31 : decode cX6_word 31 = .ok (.iconst 0, 1) := by decide +kernel
theorem dX6_word_32 : decode cX6_word 32 = .ok (.putfield 58, 3) := by decide +kernel
theorem dX6_word_35 : decode cX6_word 35 = .ok (.aload_n 0, 1) := by decide +kernel
theorem dX6_word_36 : decode cX6_word 36 = .ok (.getfield 12, 3) := by decide +kernel
theorem dX6_word_39 : decode cX6_word 39 = .ok (.iload_n 1, 1) := by decide +kernel
theorem dX6_word_40 : decode cX6_word 40 = .ok (.invokevirtual 68, 3) := by decide +kernel
theorem dX6_word_43 : decode cX6_word 43 = .ok (.ireturn, 1) := by decide +kernel
set_option maxRecDepth 20000 in
theorem ggX6_guard_X6_isIn : GoodIn wsX6_guard wsX6_isIn := goodIn_r _ [7] (by decide +kernel) (by decide +kernel)
set_option maxRecDepth 20000 in
theorem gX6_guard_X6_isIn : GoodIn wsX6_guard (va_wsS RX6 42 yX6_isIn wsX6_isIn) := goodIn_app (goodIn_of _ (by decide +kernel)) ggX6_guard_X6_isIn
theorem dX6_guard_0 : decode cX6_guard 0 = .ok (.iload_n 1, 1) := by decide +kernel
theorem dX6_guard_1 : decode cX6_guard 1 = .ok (.ifCond .ne 31, 3) := by decide +kernel
theorem dX6_guard_4 : decode cX6_guard 4 = .ok (.iload_n 2, 1) := by decide +kernel
theorem dX6_guard_5 : decode cX6_guard 5 = .ok (.iconst 0, 1) := by decide +kernel
theorem dX6_guard_6 : decode cX6_guard 6 = .ok (.bipush 10, 2) := by decide +kernel
theorem dX6_guard_8 : decode cX6_guard 8 = .ok (.invokestatic 42, 3) := by decide +kernel
theorem dX6_guard_11 : decode cX6_guard 11 = .ok (.ifCond .eq 21, 3) := by decide +kernel
theorem dX6_guard_14 : decode cX6_guard 14 = .ok (.aload_n 0, 1) := by decide +kernel
theorem dX6_guard_15 : decode cX6_guard 15 = .ok (.getfield 12, 3) := by decide +kernel
theorem dX6_guard_18 : decode cX6_guard 18 = .ok (.getfield 72, 3) := by decide +kernel
theorem dX6_guard_21 : decode cX6_guard 21 = .ok (.istore_n 3, 1) := by decide +kernel
theorem dX6_guard_22 : decode cX6_guard 22 = .ok (.aload_n 0, 1) := by decide +kernel
theorem dX6_guard_23 : decode cX6_guard 23 = .ok (.getfield 12, 3) := by decide +kernel
theorem dX6_guard_26 : decode cX6_guard 26 = .ok (.iload_n 2, 1) := by decide +kernel
theorem dX6_guard_27 : decode cX6_guard 27 = .ok (.putfield 72, 3) := by decide +kernel
theorem dX6_guard_30 : decode cX6_guard 30 = .ok (.iload_n 3, 1) := by decide +kernel
theorem dX6_guard_31 : decode cX6_guard 31 = .ok (.ireturn, 1) := by decide +kernel
theorem dX6_guard_32 : decode cX6_guard 32 = .ok (.iload_n 1, 1) := by decide +kernel
theorem dX6_guard_33 : decode cX6_guard 33 = .ok (.iconst 1, 1) := by decide +kernel
theorem dX6_guard_34 : decode cX6_guard 34 = .ok (.if_icmp .ne 31, 3) := by decide +kernel
theorem dX6_guard_37 : decode cX6_guard 37 = .ok (.iload_n 2, 1) := by decide +kernel
theorem dX6_guard_38 : decode cX6_guard 38 = .ok (.iconst 1, 1) := by decide +kernel
theorem dX6_guard_39 : decode cX6_guard 39 = .ok (.bipush 24, 2) := by decide +kernel
theorem dX6_guard_41 : decode cX6_guard 41 = .ok (.invokestatic 42, 3) := by decide +kernel
theorem dX6_guard_44 : decode cX6_guard 44 = .ok (.ifCond .eq 21, 3) := by decide +kernel
theorem dX6_guard_47 : decode cX6_guard 47 = .ok (.aload_n 0, 1) := by decide +kernel
theorem dX6_guard_48 : decode cX6_guard 48 = .ok (.getfield 12, 3) := by decide +kernel
theorem dX6_guard_51 : decode cX6_guard 51 = .ok (.getfield 75, 3) := by decide +kernel
theorem dX6_guard_54 : decode cX6_guard 54 = .ok (.istore_n 3, 1) := by decide +kernel
theorem dX6_guard_55 : decode cX6_guard 55 = .ok (.aload_n 0, 1) := by decide +kernel
theorem dX6_guard_56 : decode cX6_guard 56 = .ok (.getfield 12, 3) := by decide +kernel
theorem dX6_guard_59 : decode cX6_guard 59 = .ok (.iload_n 2, 1) := by decide +kernel
theorem dX6_guard_60 : decode cX6_guard 60 = .ok (.putfield 75, 3) := by decide +kernel
theorem dX6_guard_63 : decode cX6_guard 63 = .ok (.iload_n 3, 1) := by decide +kernel
theorem dX6_guard_64 : decode cX6_guard 64 = .ok (.ireturn, 1) := by decide +kernel
theorem dX6_guard_65 : decode cX6_guard 65 = .ok (.iconst (-1), 1) := by decide +kernel
theorem dX6_guard_66 : decode cX6_guard 66 = .ok (.ireturn, 1) := by decide +kernel
set_option maxRecDepth 20000 in
theorem ggX6_of_X6_isSpeaker : GoodIn wsX6_of wsX6_isSpeaker := goodIn_r _ [11, 1, 12, 13, 14, 10, 15, 16, 17, 18, 19, 20, 21, 22, 23, 24, 25, 26, 27, 28, 29, 30, 31, 32] (by decide +kernel) (by decide +kernel)
set_option maxRecDepth 20000 in
theorem gX6_of_X6_isSpeaker : GoodIn wsX6_of (wsV RX6 61 RX6 yX6_isSpeaker wsX6_isSpeaker) := goodIn_app (goodIn_of _ (by decide +kernel)) ggX6_of_X6_isSpeaker
theorem dX6_of_0 : decode cX6_of 0 = .ok (.aload_n 0, 1) := by decide +kernel
theorem dX6_of_1 : decode cX6_of 1 = .ok (.iload_n 1, 1) := by decide +kernel
theorem dX6_of_2 : decode cX6_of 2 = .ok (.invokevirtual 61, 3) := by decide +kernel
theorem dX6_of_5 : decode cX6_of 5 = .ok (.ifCond .ne 5, 3) := by decide +kernel
theorem dX6_of_8 : decode cX6_of 8 = .ok (.iconst (-1), 1) := by decide +kernel
theorem dX6_of_9 : decode cX6_of 9 = .ok (.ireturn, 1) := by decide +kernel
theorem dX6_of_10 : decode cX6_of 10 = .ok (.iload_n 2, 1) := by decide +kernel
theorem dX6_of_11 : decode cX6_of 11 = .ok (.tableswitch 75 0 3 #[29, 39, 49, 62], 29) := by decide +kernel
theorem dX6_of_40 : decode cX6_of 40 = .ok (.aload_n 0, 1) := by decide +kernel
theorem dX6_of_41 : decode cX6_of 41 = .ok (.getfield 12, 3) := by decide +kernel
theorem dX6_of_44 : decode cX6_of 44 = .ok (.getfield 78, 3) := by decide +kernel
theorem dX6_of_47 : decode cX6_of 47 = .ok (.iload_n 1, 1) := by decide +kernel
theorem dX6_of_48 : decode cX6_of 48 = .ok (.iaload, 1) := by decide +kernel
theorem dX6_of_49 : decode cX6_of 49 = .ok (.ireturn, 1) := by decide +kernel
theorem dX6_of_50 : decode cX6_of 50 = .ok (.aload_n 0, 1) := by decide +kernel
theorem dX6_of_51 : decode cX6_of 51 = .ok (.getfield 12, 3) := by decide +kernel
theorem dX6_of_54 : decode cX6_of 54 = .ok (.getfield 81, 3) := by decide +kernel
theorem dX6_of_57 : decode cX6_of 57 = .ok (.iload_n 1, 1) := by decide +kernel
theorem dX6_of_58 : decode cX6_of 58 = .ok (.iaload, 1) := by decide +kernel
theorem dX6_of_59 : decode cX6_of 59 = .ok (.ireturn, 1) := by decide +kernel
theorem dX6_of_60 : decode cX6_of 60 = .ok (.aload_n 0, 1) := by decide +kernel
theorem dX6_of_61 : decode cX6_of 61 = .ok (.getfield 12, 3) := by decide +kernel
theorem dX6_of_64 : decode cX6_of 64 = .ok (.getfield 84, 3) := by decide +kernel
theorem dX6_of_67 : decode cX6_of 67 = .ok (.getfield 88, 3) := by decide +kernel
theorem dX6_of_70 : decode cX6_of 70 = .ok (.iload_n 1, 1) := by decide +kernel
theorem dX6_of_71 : decode cX6_of 71 = .ok (.iaload, 1) := by decide +kernel
theorem dX6_of_72 : decode cX6_of 72 = .ok (.ireturn, 1) := by decide +kernel
theorem dX6_of_73 : decode cX6_of 73 = .ok (.aload_n 0, 1) := by decide +kernel
theorem dX6_of_74 : decode cX6_of 74 = .ok (.getfield 12, 3) := by decide +kernel
theorem dX6_of_77 : decode cX6_of 77 = .ok (.getfield 84, 3) := by decide +kernel
theorem dX6_of_80 : decode cX6_of 80 = .ok (.getfield 93, 3) := by decide +kernel
theorem dX6_of_83 : decode cX6_of 83 = .ok (.iload_n 1, 1) := by decide +kernel
theorem dX6_of_84 : decode cX6_of 84 = .ok (.iaload, 1) := by decide +kernel
theorem dX6_of_85 : decode cX6_of 85 = .ok (.ireturn, 1) := by decide +kernel
theorem dX6_of_86 : decode cX6_of 86 = .ok (.iconst (-1), 1) := by decide +kernel
theorem dX6_of_87 : decode cX6_of 87 = .ok (.ireturn, 1) := by decide +kernel
set_option maxRecDepth 20000 in
theorem ggX6_skill_X6_isSpeaker : GoodIn wsX6_skill wsX6_isSpeaker := goodIn_r _ [9, 1, 10, 11, 12, 8, 13, 38, 39, 40, 41, 42, 43, 44, 45, 46, 47, 48, 49, 50, 51, 52, 53, 54] (by decide +kernel) (by decide +kernel)
set_option maxRecDepth 20000 in
theorem gX6_skill_X6_isSpeaker : GoodIn wsX6_skill (wsV RX6 61 RX6 yX6_isSpeaker wsX6_isSpeaker) := goodIn_app (goodIn_of _ (by decide +kernel)) ggX6_skill_X6_isSpeaker
set_option maxRecDepth 20000 in
theorem ggX6_skill_X6_isWord : GoodIn wsX6_skill wsX6_isWord := goodIn_r _ [17, 1, 18, 11, 12, 8, 13, 38, 39, 40, 41, 42, 43, 44, 45, 46, 47, 48, 49, 50, 51, 52, 53, 54] (by decide +kernel) (by decide +kernel)
set_option maxRecDepth 20000 in
theorem gX6_skill_X6_isWord : GoodIn wsX6_skill (wsV RX6 96 RX6 yX6_isWord wsX6_isWord) := goodIn_app (goodIn_of _ (by decide +kernel)) ggX6_skill_X6_isWord
set_option maxRecDepth 20000 in
theorem ggX6_skill_X6_isIn : GoodIn wsX6_skill wsX6_isIn := goodIn_r _ [13] (by decide +kernel) (by decide +kernel)
set_option maxRecDepth 20000 in
theorem gX6_skill_X6_isIn : GoodIn wsX6_skill (va_wsS RX6 42 yX6_isIn wsX6_isIn) := goodIn_app (goodIn_of _ (by decide +kernel)) ggX6_skill_X6_isIn
set_option maxRecDepth 20000 in
theorem ggX6_skill_X1_skillAt : GoodIn wsX6_skill wsX1_skillAt := goodIn_r _ [23, 24, 25, 26, 27, 28, 29, 30, 8, 31, 32, 33, 22, 34, 35, 36, 37, 44, 45, 46, 47, 48, 49, 50, 51, 52, 53, 54] (by decide +kernel) (by decide +kernel)
set_option maxRecDepth 20000 in
theorem gX6_skill_X1_skillAt : GoodIn wsX6_skill (wsV RX6 102 RX1 yX1_skillAt wsX1_skillAt) := goodIn_app (goodIn_of _ (by decide +kernel)) ggX6_skill_X1_skillAt
theorem dX6_skill_0 : decode cX6_skill 0 = .ok (.aload_n 0, 1) := by decide +kernel
theorem dX6_skill_1 : decode cX6_skill 1 = .ok (.iload_n 1, 1) := by decide +kernel
theorem dX6_skill_2 : decode cX6_skill 2 = .ok (.invokevirtual 61, 3) := by decide +kernel
theorem dX6_skill_5 : decode cX6_skill 5 = .ok (.ifCond .eq 20, 3) := by decide +kernel
theorem dX6_skill_8 : decode cX6_skill 8 = .ok (.aload_n 0, 1) := by decide +kernel
theorem dX6_skill_9 : decode cX6_skill 9 = .ok (.iload_n 2, 1) := by decide +kernel
theorem dX6_skill_10 : decode cX6_skill 10 = .ok (.invokevirtual 96, 3) := by decide +kernel
theorem dX6_skill_13 : decode cX6_skill 13 = .ok (.ifCond .eq 12, 3) := by decide +kernel
theorem dX6_skill_16 : decode cX6_skill 16 = .ok (.iload_n 3, 1) := by decide +kernel
theorem dX6_skill_17 : decode cX6_skill 17 = .ok (.iconst 0, 1) := by decide +kernel
theorem dX6_skill_18 : decode cX6_skill 18 = .ok (.iconst 5, 1) := by decide +kernel
theorem dX6_skill_19 : decode cX6_skill 19 = .ok (.invokestatic 42, 3) := by decide +kernel
theorem dX6_skill_22 : decode cX6_skill 22 = .ok (.ifCond .ne 5, 3) := by decide +kernel
theorem dX6_skill_25 : decode cX6_skill 25 = .ok (.iconst (-1), 1) := by decide +kernel
theorem dX6_skill_26 : decode cX6_skill 26 = .ok (.ireturn, 1) := by decide +kernel
theorem dX6_skill_27 : decode cX6_skill 27 = .ok (.aload_n 0, 1) := by decide +kernel
theorem dX6_skill_28 : decode cX6_skill 28 = .ok (.getfield 12, 3) := by decide +kernel
theorem dX6_skill_31 : decode cX6_skill 31 = .ok (.iload_n 1, 1) := by decide +kernel
theorem dX6_skill_32 : decode cX6_skill 32 = .ok (.iload_n 3, 1) := by decide +kernel
theorem dX6_skill_33 : decode cX6_skill 33 = .ok (.aload_n 0, 1) := by decide +kernel
theorem dX6_skill_34 : decode cX6_skill 34 = .ok (.getfield 12, 3) := by decide +kernel
theorem dX6_skill_37 : decode cX6_skill 37 = .ok (.getfield 84, 3) := by decide +kernel
theorem dX6_skill_40 : decode cX6_skill 40 = .ok (.getfield 93, 3) := by decide +kernel
theorem dX6_skill_43 : decode cX6_skill 43 = .ok (.iload_n 1, 1) := by decide +kernel
theorem dX6_skill_44 : decode cX6_skill 44 = .ok (.iaload, 1) := by decide +kernel
theorem dX6_skill_45 : decode cX6_skill 45 = .ok (.aload_n 0, 1) := by decide +kernel
theorem dX6_skill_46 : decode cX6_skill 46 = .ok (.getfield 12, 3) := by decide +kernel
theorem dX6_skill_49 : decode cX6_skill 49 = .ok (.getfield 84, 3) := by decide +kernel
theorem dX6_skill_52 : decode cX6_skill 52 = .ok (.getfield 99, 3) := by decide +kernel
theorem dX6_skill_55 : decode cX6_skill 55 = .ok (.iload_n 2, 1) := by decide +kernel
theorem dX6_skill_56 : decode cX6_skill 56 = .ok (.iaload, 1) := by decide +kernel
theorem dX6_skill_57 : decode cX6_skill 57 = .ok (.invokevirtual 102, 3) := by decide +kernel
theorem dX6_skill_60 : decode cX6_skill 60 = .ok (.ireturn, 1) := by decide +kernel
set_option maxRecDepth 20000 in
theorem ggX6_type_X6_isIn : GoodIn wsX6_type wsX6_isIn := goodIn_r _ [7] (by decide +kernel) (by decide +kernel)
set_option maxRecDepth 20000 in
theorem gX6_type_X6_isIn : GoodIn wsX6_type (va_wsS RX6 42 yX6_isIn wsX6_isIn) := goodIn_app (goodIn_of _ (by decide +kernel)) ggX6_type_X6_isIn
theorem dX6_type_0 : decode cX6_type 0 = .ok (.iload_n 1, 1) := by decide +kernel
theorem dX6_type_1 : decode cX6_type 1 = .ok (.bipush 32, 2) := by decide +kernel
theorem dX6_type_3 : decode cX6_type 3 = .ok (.bipush 126, 2) := by decide +kernel
theorem dX6_type_5 : decode cX6_type 5 = .ok (.invokestatic 42, 3) := by decide +kernel
theorem dX6_type_8 : decode cX6_type 8 = .ok (.ifCond .ne 5, 3) := by decide +kernel
theorem dX6_type_11 : decode cX6_type 11 = .ok (.iconst (-1), 1) := by decide +kernel
theorem dX6_type_12 : decode cX6_type 12 = .ok (.ireturn, 1) := by decide +kernel
theorem dX6_type_13 : decode cX6_type 13 = .ok (.aload_n 0, 1) := by decide +kernel
theorem dX6_type_14 : decode cX6_type 14 = .ok (.getfield 31, 3) := by decide +kernel
theorem dX6_type_17 : decode cX6_type 17 = .ok (.getfield 106, 3) := by decide +kernel
theorem dX6_type_20 : decode cX6_type 20 = .ok (.bipush 90, 2) := by decide +kernel
theorem dX6_type_22 : decode cX6_type 22 = .ok (.if_icmp .lt 6, 3) := by decide +kernel
theorem dX6_type_25 : decode cX6_type 25 = .ok (.bipush (-3), 2) := by decide +kernel
theorem dX6_type_27 : decode cX6_type 27 = .ok (.ireturn, 1) := by decide +kernel
theorem dX6_type_28 : decode cX6_type 28 = .ok (.aload_n 0, 1) := by decide +kernel
theorem dX6_type_29 : decode cX6_type 29 = .ok (.getfield 31, 3) := by decide +kernel
theorem dX6_type_32 : decode cX6_type 32 = .ok (.getfield 109, 3) := by decide +kernel
theorem dX6_type_35 : decode cX6_type 35 = .ok (.aload_n 0, 1) := by decide +kernel
theorem dX6_type_36 : decode cX6_type 36 = .ok (.getfield 31, 3) := by decide +kernel
theorem dX6_type_39 : decode cX6_type 39 = .ok (.getfield 106, 3) := by decide +kernel
theorem dX6_type_42 : decode cX6_type 42 = .ok (.iload_n 1, 1) := by decide +kernel
theorem dX6_type_43 : decode cX6_type 43 = .ok (.i2c, 1) := by decide +kernel
theorem dX6_type_44 : decode cX6_type 44 = .ok (.castore, 1) := by decide +kernel
theorem dX6_type_45 : decode cX6_type 45 = .ok (.aload_n 0, 1) := by decide +kernel
theorem dX6_type_46 : decode cX6_type 46 = .ok (.getfield 31, 3) := by decide +kernel
theorem dX6_type_49 : decode cX6_type 49 = .ok (.dup, 1) := by decide +kernel
theorem dX6_type_50 : decode cX6_type 50 = .ok (.getfield 106, 3) := by decide +kernel
theorem dX6_type_53 : decode cX6_type 53 = .ok (.iconst 1, 1) := by decide +kernel
theorem dX6_type_54 : decode cX6_type 54 = .ok (.iadd, 1) := by decide +kernel
theorem dX6_type_55 : decode cX6_type 55 = .ok (.putfield 106, 3) := by decide +kernel
theorem dX6_type_58 : decode cX6_type 58 = .ok (.aload_n 0, 1) := by decide +kernel
theorem dX6_type_59 : decode cX6_type 59 = .ok (.getfield 31, 3) := by decide +kernel
theorem dX6_type_62 : decode cX6_type 62 = .ok (.getfield 106, 3) := by decide +kernel
theorem dX6_type_65 : decode cX6_type 65 = .ok (.ireturn, 1) := by decide +kernel
set_option maxRecDepth 20000 in
theorem ggX6_tongues_X5_isTongues : GoodIn wsX6_tongues wsX5_isTongues := goodIn_r _ [11, 12, 13, 14, 15, 16, 17, 18, 19, 10, 20, 21, 22, 23, 24, 25, 26, 27, 28, 29, 30, 31, 32, 33, 34, 35, 36, 37, 38, 39, 40, 41, 42, 43, 44, 45, 46, 47, 48, 49, 50, 51, 52, 53, 54, 55, 56, 57, 58, 59, 60, 61, 62, 63, 64, 65, 66, 67, 68, 69, 70, 71, 72, 73, 74, 75, 76, 77, 78, 79, 80, 81, 82, 83, 84, 85, 86, 87, 88, 89, 90, 91, 92, 93, 94, 95, 96, 97, 98, 99, 100, 101, 102, 103, 104, 105, 106, 107, 108, 109, 110, 111, 112, 113, 114, 115, 116, 117, 118, 119, 120, 121, 122, 123, 124, 125, 126, 127, 128, 129, 130, 131, 132, 133, 134, 135, 136, 137, 138, 139, 140, 141, 142, 143, 144, 145, 146, 147, 148, 149, 150, 197, 198, 199, 200, 201, 202, 203, 204, 205, 206, 207, 208, 209, 210, 211, 212, 213, 214, 215, 216, 217] (by decide +kernel) (by decide +kernel)
set_option maxRecDepth 20000 in
theorem gX6_tongues_X5_isTongues : GoodIn wsX6_tongues (wsV RX6 113 RX5 yX5_isTongues wsX5_isTongues) := goodIn_app (goodIn_of _ (by decide +kernel)) ggX6_tongues_X5_isTongues
set_option maxRecDepth 20000 in
theorem ggX6_tongues_X1_settle : GoodIn wsX6_tongues wsX1_settle := goodIn_r _ [154, 155, 133, 156, 157, 158, 159, 128, 160, 130, 131, 161, 162, 163, 164, 132, 165, 148, 149, 166, 167, 168, 169, 170, 171, 172, 173, 174, 175, 176, 177, 178, 179, 180, 181, 182, 183, 184, 185, 186, 187, 188, 189, 190, 201, 202, 203, 204, 205, 206, 207, 208, 209, 210, 211, 212, 213, 214, 215, 216, 217, 218, 219, 220, 221] (by decide +kernel) (by decide +kernel)
set_option maxRecDepth 20000 in
theorem gX6_tongues_X1_settle : GoodIn wsX6_tongues (wsV RX6 123 RX1 yX1_settle wsX1_settle) := goodIn_app (goodIn_of _ (by decide +kernel)) ggX6_tongues_X1_settle
theorem dX6_tongues_0 : decode cX6_tongues 0 = .ok (.aload_n 0, 1) := by decide +kernel
theorem dX6_tongues_1 : decode cX6_tongues 1 = .ok (.getfield 31, 3) := by decide +kernel
theorem dX6_tongues_4 : decode cX6_tongues 4 = .ok (.invokevirtual 113, 3) := by decide +kernel
theorem dX6_tongues_7 : decode cX6_tongues 7 = .ok (.istore_n 1, 1) := by decide +kernel
theorem dX6_tongues_8 : decode cX6_tongues 8 = .ok (.aload_n 0, 1) := by decide +kernel
theorem dX6_tongues_9 : decode cX6_tongues 9 = .ok (.getfield 31, 3) := by decide +kernel
theorem dX6_tongues_12 : decode cX6_tongues 12 = .ok (.iconst 0, 1) := by decide +kernel
theorem dX6_tongues_13 : decode cX6_tongues 13 = .ok (.putfield 106, 3) := by decide +kernel
theorem dX6_tongues_16 : decode cX6_tongues 16 = .ok (.iload_n 1, 1) := by decide +kernel
theorem dX6_tongues_17 : decode cX6_tongues 17 = .ok (.ifCond .ne 14, 3) := by decide +kernel
theorem dX6_tongues_20 : decode cX6_tongues 20 = .ok (.bipush (-20), 2) := by decide +kernel
theorem dX6_tongues_22 : decode cX6_tongues 22 = .ok (.aload_n 0, 1) := by decide +kernel
theorem dX6_tongues_23 : decode cX6_tongues 23 = .ok (.getfield 31, 3) := by decide +kernel
theorem dX6_tongues_26 : decode cX6_tongues 26 = .ok (.getfield 117, 3) := by decide +kernel
theorem dX6_tongues_29 : decode cX6_tongues 29 = .ok (.isub, 1) := by decide +kernel
theorem dX6_tongues_30 : decode cX6_tongues 30 = .ok (.ireturn, 1) := by decide +kernel
theorem dX6_tongues_31 : decode cX6_tongues 31 = .ok (.aload_n 0, 1) := by decide +kernel
theorem dX6_tongues_32 : decode cX6_tongues 32 = .ok (.getfield 12, 3) := by decide +kernel
theorem dX6_tongues_35 : decode cX6_tongues 35 = .ok (.aload_n 0, 1) := by decide +kernel
theorem dX6_tongues_36 : decode cX6_tongues 36 = .ok (.getfield 31, 3) := by decide +kernel
theorem dX6_tongues_39 : decode cX6_tongues 39 = .ok (.getfield 120, 3) := by decide +kernel
theorem dX6_tongues_42 : decode cX6_tongues 42 = .ok (.invokevirtual 123, 3) := by decide +kernel
theorem dX6_tongues_45 : decode cX6_tongues 45 = .ok (.aload_n 0, 1) := by decide +kernel
theorem dX6_tongues_46 : decode cX6_tongues 46 = .ok (.getfield 12, 3) := by decide +kernel
theorem dX6_tongues_49 : decode cX6_tongues 49 = .ok (.getfield 46, 3) := by decide +kernel
theorem dX6_tongues_52 : decode cX6_tongues 52 = .ok (.ireturn, 1) := by decide +kernel
set_option maxRecDepth 20000 in
theorem ggX6_count_X1_hearsIn : GoodIn wsX6_count wsX1_hearsIn := goodIn_r _ [15, 16, 17, 18, 19, 20, 21, 35, 36, 37, 38, 39, 40, 41, 42, 43, 44, 45] (by decide +kernel) (by decide +kernel)
set_option maxRecDepth 20000 in
theorem gX6_count_X1_hearsIn : GoodIn wsX6_count (wsV RX6 129 RX1 yX1_hearsIn wsX1_hearsIn) := goodIn_app (goodIn_of _ (by decide +kernel)) ggX6_count_X1_hearsIn
set_option maxRecDepth 20000 in
theorem ggX6_count_X1_allWhoAre : GoodIn wsX6_count wsX1_allWhoAre := goodIn_r _ [25, 26, 27, 28, 35, 36, 37, 38, 39, 40, 41, 42, 43, 44, 45, 46, 47, 48, 49, 50, 51] (by decide +kernel) (by decide +kernel)
set_option maxRecDepth 20000 in
theorem gX6_count_X1_allWhoAre : GoodIn wsX6_count (wsV RX6 132 RX1 yX1_allWhoAre wsX1_allWhoAre) := goodIn_app (goodIn_of _ (by decide +kernel)) ggX6_count_X1_allWhoAre
theorem dX6_count_0 : decode cX6_count 0 = .ok (.iload_n 1, 1) := by decide +kernel
theorem dX6_count_1 : decode cX6_count 1 = .ok (.tableswitch 169 0 10 #[59, 67, 75, 83, 91, 102, 120, 129, 138, 147, 161], 59) := by decide +kernel
theorem dX6_count_60 : decode cX6_count 60 = .ok (.aload_n 0, 1) := by decide +kernel
theorem dX6_count_61 : decode cX6_count 61 = .ok (.getfield 12, 3) := by decide +kernel
theorem dX6_count_64 : decode cX6_count 64 = .ok (.getfield 46, 3) := by decide +kernel
theorem dX6_count_67 : decode cX6_count 67 = .ok (.ireturn, 1) := by decide +kernel
theorem dX6_count_68 : decode cX6_count 68 = .ok (.aload_n 0, 1) := by decide +kernel
theorem dX6_count_69 : decode cX6_count 69 = .ok (.getfield 12, 3) := by decide +kernel
theorem dX6_count_72 : decode cX6_count 72 = .ok (.getfield 65, 3) := by decide +kernel
theorem dX6_count_75 : decode cX6_count 75 = .ok (.ireturn, 1) := by decide +kernel
theorem dX6_count_76 : decode cX6_count 76 = .ok (.aload_n 0, 1) := by decide +kernel
theorem dX6_count_77 : decode cX6_count 77 = .ok (.getfield 12, 3) := by decide +kernel
theorem dX6_count_80 : decode cX6_count 80 = .ok (.getfield 72, 3) := by decide +kernel
theorem dX6_count_83 : decode cX6_count 83 = .ok (.ireturn, 1) := by decide +kernel
theorem dX6_count_84 : decode cX6_count 84 = .ok (.aload_n 0, 1) := by decide +kernel
theorem dX6_count_85 : decode cX6_count 85 = .ok (.getfield 12, 3) := by decide +kernel
theorem dX6_count_88 : decode cX6_count 88 = .ok (.getfield 75, 3) := by decide +kernel
theorem dX6_count_91 : decode cX6_count 91 = .ok (.ireturn, 1) := by decide +kernel
theorem dX6_count_92 : decode cX6_count 92 = .ok (.aload_n 0, 1) := by decide +kernel
theorem dX6_count_93 : decode cX6_count 93 = .ok (.getfield 12, 3) := by decide +kernel
theorem dX6_count_96 : decode cX6_count 96 = .ok (.getfield 84, 3) := by decide +kernel
theorem dX6_count_99 : decode cX6_count 99 = .ok (.getfield 126, 3) := by decide +kernel
theorem dX6_count_102 : decode cX6_count 102 = .ok (.ireturn, 1) := by decide +kernel
theorem dX6_count_103 : decode cX6_count 103 = .ok (.aload_n 0, 1) := by decide +kernel
theorem dX6_count_104 : decode cX6_count 104 = .ok (.getfield 12, 3) := by decide +kernel
theorem dX6_count_107 : decode cX6_count 107 = .ok (.aload_n 0, 1) := by decide +kernel
theorem dX6_count_108 : decode cX6_count 108 = .ok (.getfield 12, 3) := by decide +kernel
theorem dX6_count_111 : decode cX6_count 111 = .ok (.getfield 84, 3) := by decide +kernel
theorem dX6_count_114 : decode cX6_count 114 = .ok (.getfield 126, 3) := by decide +kernel
theorem dX6_count_117 : decode cX6_count 117 = .ok (.invokevirtual 129, 3) := by decide +kernel
theorem dX6_count_120 : decode cX6_count 120 = .ok (.ireturn, 1) := by decide +kernel
theorem dX6_count_121 : decode cX6_count 121 = .ok (.aload_n 0, 1) := by decide +kernel
theorem dX6_count_122 : decode cX6_count 122 = .ok (.getfield 12, 3) := by decide +kernel
theorem dX6_count_125 : decode cX6_count 125 = .ok (.iconst 0, 1) := by decide +kernel
theorem dX6_count_126 : decode cX6_count 126 = .ok (.invokevirtual 132, 3) := by decide +kernel
theorem dX6_count_129 : decode cX6_count 129 = .ok (.ireturn, 1) := by decide +kernel
theorem dX6_count_130 : decode cX6_count 130 = .ok (.aload_n 0, 1) := by decide +kernel
theorem dX6_count_131 : decode cX6_count 131 = .ok (.getfield 12, 3) := by decide +kernel
theorem dX6_count_134 : decode cX6_count 134 = .ok (.iconst 1, 1) := by decide +kernel
theorem dX6_count_135 : decode cX6_count 135 = .ok (.invokevirtual 132, 3) := by decide +kernel
theorem dX6_count_138 : decode cX6_count 138 = .ok (.ireturn, 1) := by decide +kernel
theorem dX6_count_139 : decode cX6_count 139 = .ok (.aload_n 0, 1) := by decide +kernel
theorem dX6_count_140 : decode cX6_count 140 = .ok (.getfield 12, 3) := by decide +kernel
theorem dX6_count_143 : decode cX6_count 143 = .ok (.iconst 2, 1) := by decide +kernel
theorem dX6_count_144 : decode cX6_count 144 = .ok (.invokevirtual 132, 3) := by decide +kernel
theorem dX6_count_147 : decode cX6_count 147 = .ok (.ireturn, 1) := by decide +kernel
theorem dX6_count_148 : decode cX6_count 148 = .ok (.aload_n 0, 1) := by decide +kernel
theorem dX6_count_149 : decode cX6_count 149 = .ok (.getfield 12, 3) := by decide +kernel
theorem dX6_count_152 : decode cX6_count 152 = .ok (.getfield 84, 3) := by decide +kernel
theorem dX6_count_155 : decode cX6_count 155 = .ok (.getfield 135, 3) := by decide +kernel
theorem dX6_count_158 : decode cX6_count 158 = .ok (.getfield 139, 3) := by decide +kernel
theorem dX6_count_161 : decode cX6_count 161 = .ok (.ireturn, 1) := by decide +kernel
theorem dX6_count_162 : decode cX6_count 162 = .ok (.aload_n 0, 1) := by decide +kernel
theorem dX6_count_163 : decode cX6_count 163 = .ok (.getfield 12, 3) := by decide +kernel
theorem dX6_count_166 : decode cX6_count 166 = .ok (.getfield 58, 3) := by decide +kernel
theorem dX6_count_169 : decode cX6_count 169 = .ok (.ireturn, 1) := by decide +kernel
theorem dX6_count_170 : decode cX6_count 170 = .ok (.iconst (-1), 1) := by decide +kernel
theorem dX6_count_171 : decode cX6_count 171 = .ok (.ireturn, 1) := by decide +kernel
set_option maxRecDepth 20000 in
theorem ggX6_worn_X6_isWord : GoodIn wsX6_worn wsX6_isWord := goodIn_r _ [9, 1, 10, 11, 12, 8, 13, 14, 15, 16, 17, 18, 19, 20, 21, 22, 23, 24, 25, 26, 27, 28, 29, 30] (by decide +kernel) (by decide +kernel)
set_option maxRecDepth 20000 in
theorem gX6_worn_X6_isWord : GoodIn wsX6_worn (wsV RX6 96 RX6 yX6_isWord wsX6_isWord) := goodIn_app (goodIn_of _ (by decide +kernel)) ggX6_worn_X6_isWord
set_option maxRecDepth 20000 in
theorem ggX6_worn_X6_isIn : GoodIn wsX6_worn wsX6_isIn := goodIn_r _ [13] (by decide +kernel) (by decide +kernel)
set_option maxRecDepth 20000 in
theorem gX6_worn_X6_isIn : GoodIn wsX6_worn (va_wsS RX6 42 yX6_isIn wsX6_isIn) := goodIn_app (goodIn_of _ (by decide +kernel)) ggX6_worn_X6_isIn
theorem dX6_worn_0 : decode cX6_worn 0 = .ok (.aload_n 0, 1) := by decide +kernel
theorem dX6_worn_1 : decode cX6_worn 1 = .ok (.iload_n 1, 1) := by decide +kernel
theorem dX6_worn_2 : decode cX6_worn 2 = .ok (.invokevirtual 96, 3) := by decide +kernel
theorem dX6_worn_5 : decode cX6_worn 5 = .ok (.ifCond .eq 12, 3) := by decide +kernel
theorem dX6_worn_8 : decode cX6_worn 8 = .ok (.iload_n 2, 1) := by decide +kernel
theorem dX6_worn_9 : decode cX6_worn 9 = .ok (.iconst 0, 1) := by decide +kernel
theorem dX6_worn_10 : decode cX6_worn 10 = .ok (.iconst 1, 1) := by decide +kernel
theorem dX6_worn_11 : decode cX6_worn 11 = .ok (.invokestatic 42, 3) := by decide +kernel
theorem dX6_worn_14 : decode cX6_worn 14 = .ok (.ifCond .ne 5, 3) := by decide +kernel
theorem dX6_worn_17 : decode cX6_worn 17 = .ok (.iconst (-1), 1) := by decide +kernel
theorem dX6_worn_18 : decode cX6_worn 18 = .ok (.ireturn, 1) := by decide +kernel
theorem dX6_worn_19 : decode cX6_worn 19 = .ok (.iload_n 2, 1) := by decide +kernel
theorem dX6_worn_20 : decode cX6_worn 20 = .ok (.ifCond .ne 15, 3) := by decide +kernel
theorem dX6_worn_23 : decode cX6_worn 23 = .ok (.aload_n 0, 1) := by decide +kernel
theorem dX6_worn_24 : decode cX6_worn 24 = .ok (.getfield 12, 3) := by decide +kernel
theorem dX6_worn_27 : decode cX6_worn 27 = .ok (.getfield 142, 3) := by decide +kernel
theorem dX6_worn_30 : decode cX6_worn 30 = .ok (.iload_n 1, 1) := by decide +kernel
theorem dX6_worn_31 : decode cX6_worn 31 = .ok (.iaload, 1) := by decide +kernel
theorem dX6_worn_32 : decode cX6_worn 32 = .ok (.goto 15, 3) := by decide +kernel
theorem dX6_worn_35 : decode cX6_worn 35 = .ok (.aload_n 0, 1) := by decide +kernel
theorem dX6_worn_36 : decode cX6_worn 36 = .ok (.getfield 12, 3) := by decide +kernel
theorem dX6_worn_39 : decode cX6_worn 39 = .ok (.getfield 84, 3) := by decide +kernel
theorem dX6_worn_42 : decode cX6_worn 42 = .ok (.getfield 99, 3) := by decide +kernel
theorem dX6_worn_45 : decode cX6_worn 45 = .ok (.iload_n 1, 1) := by decide +kernel
theorem dX6_worn_46 : decode cX6_worn 46 = .ok (.iaload, 1) := by decide +kernel
theorem dX6_worn_47 : decode cX6_worn 47 = .ok (.ireturn, 1) := by decide +kernel
set_option maxRecDepth 20000 in
theorem ggX6_ask_X6_whyNotAsked : GoodIn wsX6_ask wsX6_whyNotAsked := goodIn_r _ [7, 1, 2, 8, 9, 10, 11, 12, 6, 13, 14, 15, 16, 17, 18, 19, 20, 21, 22, 116, 117, 118, 119, 120, 121, 122, 123, 124, 125, 126, 127, 128, 129, 130, 131, 132, 133, 134, 135, 136, 137, 138] (by decide +kernel) (by decide +kernel)
set_option maxRecDepth 20000 in
theorem gX6_ask_X6_whyNotAsked : GoodIn wsX6_ask (wsV RX6 145 RX6 yX6_whyNotAsked wsX6_whyNotAsked) := goodIn_app (goodIn_of _ (by decide +kernel)) ggX6_ask_X6_whyNotAsked
set_option maxRecDepth 20000 in
theorem ggX6_ask_X1_passNow : GoodIn wsX6_ask wsX1_passNow := goodIn_r _ [27, 28, 29, 30, 31, 32, 26, 33, 34, 35, 36, 37, 38, 39, 40, 41, 42, 43, 44, 45, 46, 47, 48, 49, 50, 51, 52, 6, 53, 54, 55, 56, 57, 58, 59, 60, 61, 62, 63, 64, 65, 122, 123, 124, 125, 126, 127, 128, 129, 130, 131, 132, 133, 134, 135, 136, 137, 138] (by decide +kernel) (by decide +kernel)
set_option maxRecDepth 20000 in
theorem gX6_ask_X1_passNow : GoodIn wsX6_ask (wsV RX6 148 RX1 yX1_passNow wsX1_passNow) := goodIn_app (goodIn_of _ (by decide +kernel)) ggX6_ask_X1_passNow
set_option maxRecDepth 20000 in
theorem ggX6_ask_X1_remember : GoodIn wsX6_ask wsX1_remember := goodIn_r _ [69, 70, 71, 28, 72, 73, 74, 75, 76, 77, 78, 79, 80, 81, 82, 83, 84, 85, 86, 87, 88, 89, 90, 91, 92, 93, 94, 95, 96, 122, 123, 124, 125, 126, 127, 128, 129, 130, 131, 132, 133, 134, 135, 136, 137, 138, 139, 140, 141, 142] (by decide +kernel) (by decide +kernel)
set_option maxRecDepth 20000 in
theorem gX6_ask_X1_remember : GoodIn wsX6_ask (wsV RX6 151 RX1 yX1_remember wsX1_remember) := goodIn_app (goodIn_of _ (by decide +kernel)) ggX6_ask_X1_remember
set_option maxRecDepth 20000 in
theorem ggX6_ask_X3_nextDraw : GoodIn wsX6_ask wsX3_nextDraw := goodIn_r _ [100, 86, 101, 102, 103, 133, 134, 135, 136, 137, 138] (by decide +kernel) (by decide +kernel)
set_option maxRecDepth 20000 in
theorem gX6_ask_X3_nextDraw : GoodIn wsX6_ask (wsV RX6 154 RX3 yX3_nextDraw wsX3_nextDraw) := goodIn_app (goodIn_of _ (by decide +kernel)) ggX6_ask_X3_nextDraw
set_option maxRecDepth 20000 in
theorem ggX6_ask_X3_putAsked : GoodIn wsX6_ask wsX3_putAsked := goodIn_r _ [107, 77, 83, 85, 84, 108, 109, 110, 90, 111, 92, 93, 95, 96, 112, 113, 114, 115, 94, 79, 80, 81, 133, 134, 135, 136, 137, 138, 139, 140, 141, 142] (by decide +kernel) (by decide +kernel)
set_option maxRecDepth 20000 in
theorem gX6_ask_X3_putAsked : GoodIn wsX6_ask (wsV RX6 158 RX3 yX3_putAsked wsX3_putAsked) := goodIn_app (goodIn_of _ (by decide +kernel)) ggX6_ask_X3_putAsked
theorem dX6_ask_0 : decode cX6_ask 0 = .ok (.aload_n 0, 1) := by decide +kernel
theorem dX6_ask_1 : decode cX6_ask 1 = .ok (.iload_n 1, 1) := by decide +kernel
theorem dX6_ask_2 : decode cX6_ask 2 = .ok (.iload_n 2, 1) := by decide +kernel
theorem dX6_ask_3 : decode cX6_ask 3 = .ok (.invokevirtual 145, 3) := by decide +kernel
theorem dX6_ask_6 : decode cX6_ask 6 = .ok (.istore_n 3, 1) := by decide +kernel
theorem dX6_ask_7 : decode cX6_ask 7 = .ok (.iload_n 3, 1) := by decide +kernel
theorem dX6_ask_8 : decode cX6_ask 8 = .ok (.ifCond .eq 5, 3) := by decide +kernel
theorem dX6_ask_11 : decode cX6_ask 11 = .ok (.iload_n 3, 1) := by decide +kernel
theorem dX6_ask_12 : decode cX6_ask 12 = .ok (.ireturn, 1) := by decide +kernel
theorem dX6_ask_13 : decode cX6_ask 13 = .ok (.aload_n 0, 1) := by decide +kernel
theorem dX6_ask_14 : decode cX6_ask 14 = .ok (.getfield 12, 3) := by decide +kernel
theorem dX6_ask_17 : decode cX6_ask 17 = .ok (.iload_n 1, 1) := by decide +kernel
theorem dX6_ask_18 : decode cX6_ask 18 = .ok (.iload_n 2, 1) := by decide +kernel
theorem dX6_ask_19 : decode cX6_ask 19 = .ok (.invokevirtual 148, 3) := by decide +kernel
theorem dX6_ask_22 : decode cX6_ask 22 = .ok (.istore 4, 2) := by decide +kernel
theorem dX6_ask_24 : decode cX6_ask 24 = .ok (.aload_n 0, 1) := by decide +kernel
theorem dX6_ask_25 : decode cX6_ask 25 = .ok (.getfield 12, 3) := by decide +kernel
theorem dX6_ask_28 : decode cX6_ask 28 = .ok (.invokevirtual 151, 3) := by decide +kernel
theorem dX6_ask_31 : decode cX6_ask 31 = .ok (.aload_n 0, 1) := by decide +kernel
theorem dX6_ask_32 : decode cX6_ask 32 = .ok (.getfield 12, 3) := by decide +kernel
theorem dX6_ask_35 : decode cX6_ask 35 = .ok (.getfield 84, 3) := by decide +kernel
theorem dX6_ask_38 : decode cX6_ask 38 = .ok (.invokevirtual 154, 3) := by decide +kernel
theorem dX6_ask_41 : decode cX6_ask 41 = .ok (.iload 4, 2) := by decide +kernel
theorem dX6_ask_43 : decode cX6_ask 43 = .ok (.if_icmp .ge 7, 3) := by decide +kernel
theorem dX6_ask_46 : decode cX6_ask 46 = .ok (.iconst 1, 1) := by decide +kernel
theorem dX6_ask_47 : decode cX6_ask 47 = .ok (.goto 4, 3) := by decide +kernel
theorem dX6_ask_50 : decode cX6_ask 50 = .ok (.iconst 2, 1) := by decide +kernel
theorem dX6_ask_51 : decode cX6_ask 51 = .ok (.istore 5, 2) := by decide +kernel
theorem dX6_ask_53 : decode cX6_ask 53 = .ok (.aload_n 0, 1) := by decide +kernel
theorem dX6_ask_54 : decode cX6_ask 54 = .ok (.getfield 12, 3) := by decide +kernel
theorem dX6_ask_57 : decode cX6_ask 57 = .ok (.getfield 84, 3) := by decide +kernel
theorem dX6_ask_60 : decode cX6_ask 60 = .ok (.iload_n 1, 1) := by decide +kernel
theorem dX6_ask_61 : decode cX6_ask 61 = .ok (.iload_n 2, 1) := by decide +kernel
theorem dX6_ask_62 : decode cX6_ask 62 = .ok (.iload 4, 2) := by decide +kernel
theorem dX6_ask_64 : decode cX6_ask 64 = .ok (.iload 5, 2) := by decide +kernel
theorem dX6_ask_66 : decode cX6_ask 66 = .ok (.invokevirtual 158, 3) := by decide +kernel
theorem dX6_ask_69 : decode cX6_ask 69 = .ok (.iload 5, 2) := by decide +kernel
theorem dX6_ask_71 : decode cX6_ask 71 = .ok (.iconst 1, 1) := by decide +kernel
theorem dX6_ask_72 : decode cX6_ask 72 = .ok (.if_icmp .ne 7, 3) := by decide +kernel
theorem dX6_ask_75 : decode cX6_ask 75 = .ok (.iconst 1, 1) := by decide +kernel
theorem dX6_ask_76 : decode cX6_ask 76 = .ok (.goto 4, 3) := by decide +kernel
theorem dX6_ask_79 : decode cX6_ask 79 = .ok (.iconst 0, 1) := by decide +kernel
theorem dX6_ask_80 : decode cX6_ask 80 = .ok (.ireturn, 1) := by decide +kernel
set_option maxRecDepth 20000 in
theorem ggX6_said_X6_isIn : GoodIn wsX6_said wsX6_isIn := goodIn_r _ [6] (by decide +kernel) (by decide +kernel)
set_option maxRecDepth 20000 in
theorem gX6_said_X6_isIn : GoodIn wsX6_said (va_wsS RX6 42 yX6_isIn wsX6_isIn) := goodIn_app (goodIn_of _ (by decide +kernel)) ggX6_said_X6_isIn
set_option maxRecDepth 20000 in
theorem ggX6_said_X6_whyNotAsked : GoodIn wsX6_said wsX6_whyNotAsked := goodIn_r _ [10, 1, 2, 11, 12, 13, 14, 15, 5, 16, 17, 3, 4, 6, 18, 19, 20, 21, 22, 109, 110, 111, 112, 113, 114, 115, 116, 117, 118, 119, 120, 121, 122, 123, 124, 125, 126, 127, 128, 129, 130, 131] (by decide +kernel) (by decide +kernel)
set_option maxRecDepth 20000 in
theorem gX6_said_X6_whyNotAsked : GoodIn wsX6_said (wsV RX6 145 RX6 yX6_whyNotAsked wsX6_whyNotAsked) := goodIn_app (goodIn_of _ (by decide +kernel)) ggX6_said_X6_whyNotAsked
set_option maxRecDepth 20000 in
theorem ggX6_said_X1_passNow : GoodIn wsX6_said wsX1_passNow := goodIn_r _ [27, 28, 29, 30, 31, 32, 26, 33, 34, 35, 36, 37, 38, 39, 40, 41, 42, 43, 44, 45, 46, 47, 48, 49, 50, 51, 52, 5, 53, 54, 55, 56, 57, 58, 59, 60, 61, 62, 63, 64, 65, 115, 116, 117, 118, 119, 120, 121, 122, 123, 124, 125, 126, 127, 128, 129, 130, 131] (by decide +kernel) (by decide +kernel)
set_option maxRecDepth 20000 in
theorem gX6_said_X1_passNow : GoodIn wsX6_said (wsV RX6 148 RX1 yX1_passNow wsX1_passNow) := goodIn_app (goodIn_of _ (by decide +kernel)) ggX6_said_X1_passNow
set_option maxRecDepth 20000 in
theorem ggX6_said_X1_remember : GoodIn wsX6_said wsX1_remember := goodIn_r _ [69, 70, 71, 28, 72, 73, 74, 75, 76, 77, 78, 79, 80, 81, 82, 83, 84, 85, 86, 87, 88, 89, 90, 91, 92, 93, 94, 95, 96, 115, 116, 117, 118, 119, 120, 121, 122, 123, 124, 125, 126, 127, 128, 129, 130, 131, 132, 133, 134, 135] (by decide +kernel) (by decide +kernel)
set_option maxRecDepth 20000 in
theorem gX6_said_X1_remember : GoodIn wsX6_said (wsV RX6 151 RX1 yX1_remember wsX1_remember) := goodIn_app (goodIn_of _ (by decide +kernel)) ggX6_said_X1_remember
set_option maxRecDepth 20000 in
theorem ggX6_said_X3_putAsked : GoodIn wsX6_said wsX3_putAsked := goodIn_r _ [100, 77, 83, 85, 84, 101, 102, 103, 90, 104, 92, 93, 95, 96, 105, 106, 107, 108, 94, 79, 80, 81, 126, 127, 128, 129, 130, 131, 132, 133, 134, 135] (by decide +kernel) (by decide +kernel)
set_option maxRecDepth 20000 in
theorem gX6_said_X3_putAsked : GoodIn wsX6_said (wsV RX6 158 RX3 yX3_putAsked wsX3_putAsked) := goodIn_app (goodIn_of _ (by decide +kernel)) ggX6_said_X3_putAsked
theorem dX6_said_0 : decode cX6_said 0 = .ok (.iload_n 3, 1) := by decide +kernel
theorem dX6_said_1 : decode cX6_said 1 = .ok (.iconst 0, 1) := by decide +kernel
theorem dX6_said_2 : decode cX6_said 2 = .ok (.iconst 1, 1) := by decide +kernel
theorem dX6_said_3 : decode cX6_said 3 = .ok (.invokestatic 42, 3) := by decide +kernel
theorem dX6_said_6 : decode cX6_said 6 = .ok (.ifCond .ne 5, 3) := by decide +kernel
theorem dX6_said_9 : decode cX6_said 9 = .ok (.iconst (-1), 1) := by decide +kernel
theorem dX6_said_10 : decode cX6_said 10 = .ok (.ireturn, 1) := by decide +kernel
theorem dX6_said_11 : decode cX6_said 11 = .ok (.aload_n 0, 1) := by decide +kernel
theorem dX6_said_12 : decode cX6_said 12 = .ok (.iload_n 1, 1) := by decide +kernel
theorem dX6_said_13 : decode cX6_said 13 = .ok (.iload_n 2, 1) := by decide +kernel
theorem dX6_said_14 : decode cX6_said 14 = .ok (.invokevirtual 145, 3) := by decide +kernel
theorem dX6_said_17 : decode cX6_said 17 = .ok (.istore 4, 2) := by decide +kernel
theorem dX6_said_19 : decode cX6_said 19 = .ok (.iload 4, 2) := by decide +kernel
theorem dX6_said_21 : decode cX6_said 21 = .ok (.ifCond .eq 6, 3) := by decide +kernel
theorem dX6_said_24 : decode cX6_said 24 = .ok (.iload 4, 2) := by decide +kernel
theorem dX6_said_26 : decode cX6_said 26 = .ok (.ireturn, 1) := by decide +kernel
theorem dX6_said_27 : decode cX6_said 27 = .ok (.aload_n 0, 1) := by decide +kernel
theorem dX6_said_28 : decode cX6_said 28 = .ok (.getfield 12, 3) := by decide +kernel
theorem dX6_said_31 : decode cX6_said 31 = .ok (.iload_n 1, 1) := by decide +kernel
theorem dX6_said_32 : decode cX6_said 32 = .ok (.iload_n 2, 1) := by decide +kernel
theorem dX6_said_33 : decode cX6_said 33 = .ok (.invokevirtual 148, 3) := by decide +kernel
theorem dX6_said_36 : decode cX6_said 36 = .ok (.istore 5, 2) := by decide +kernel
theorem dX6_said_38 : decode cX6_said 38 = .ok (.aload_n 0, 1) := by decide +kernel
theorem dX6_said_39 : decode cX6_said 39 = .ok (.getfield 12, 3) := by decide +kernel
theorem dX6_said_42 : decode cX6_said 42 = .ok (.invokevirtual 151, 3) := by decide +kernel
theorem dX6_said_45 : decode cX6_said 45 = .ok (.aload_n 0, 1) := by decide +kernel
theorem dX6_said_46 : decode cX6_said 46 = .ok (.getfield 12, 3) := by decide +kernel
theorem dX6_said_49 : decode cX6_said 49 = .ok (.getfield 84, 3) := by decide +kernel
theorem dX6_said_52 : decode cX6_said 52 = .ok (.iload_n 1, 1) := by decide +kernel
theorem dX6_said_53 : decode cX6_said 53 = .ok (.iload_n 2, 1) := by decide +kernel
theorem dX6_said_54 : decode cX6_said 54 = .ok (.iload 5, 2) := by decide +kernel
theorem dX6_said_56 : decode cX6_said 56 = .ok (.iload_n 3, 1) := by decide +kernel
theorem dX6_said_57 : decode cX6_said 57 = .ok (.iconst 1, 1) := by decide +kernel
theorem dX6_said_58 : decode cX6_said 58 = .ok (.if_icmp .ne 7, 3) := by decide +kernel
theorem dX6_said_61 : decode cX6_said 61 = .ok (.iconst 1, 1) := by decide +kernel
theorem dX6_said_62 : decode cX6_said 62 = .ok (.goto 4, 3) := by decide +kernel
theorem dX6_said_65 : decode cX6_said 65 = .ok (.iconst 2, 1) := by decide +kernel
theorem dX6_said_66 : decode cX6_said 66 = .ok (.invokevirtual 158, 3) := by decide +kernel
theorem dX6_said_69 : decode cX6_said 69 = .ok (.iload 5, 2) := by decide +kernel
theorem dX6_said_71 : decode cX6_said 71 = .ok (.ireturn, 1) := by decide +kernel
set_option maxRecDepth 20000 in
theorem ggX6_teach_X6_isSpeaker : GoodIn wsX6_teach wsX6_isSpeaker := goodIn_r _ [10, 1, 11, 12, 13, 9, 14, 51, 52, 53, 54, 55, 56, 57, 58, 59, 60, 61, 62, 63, 64, 65, 66, 67] (by decide +kernel) (by decide +kernel)
set_option maxRecDepth 20000 in
theorem gX6_teach_X6_isSpeaker : GoodIn wsX6_teach (wsV RX6 61 RX6 yX6_isSpeaker wsX6_isSpeaker) := goodIn_app (goodIn_of _ (by decide +kernel)) ggX6_teach_X6_isSpeaker
set_option maxRecDepth 20000 in
theorem ggX6_teach_X6_isIn : GoodIn wsX6_teach wsX6_isIn := goodIn_r _ [14] (by decide +kernel) (by decide +kernel)
set_option maxRecDepth 20000 in
theorem gX6_teach_X6_isIn : GoodIn wsX6_teach (va_wsS RX6 42 yX6_isIn wsX6_isIn) := goodIn_app (goodIn_of _ (by decide +kernel)) ggX6_teach_X6_isIn
set_option maxRecDepth 20000 in
theorem ggX6_teach_X6_has : GoodIn wsX6_teach wsX6_has := goodIn_r _ [17] (by decide +kernel) (by decide +kernel)
set_option maxRecDepth 20000 in
theorem gX6_teach_X6_has : GoodIn wsX6_teach (va_wsS RX6 162 yX6_has wsX6_has) := goodIn_app (goodIn_of _ (by decide +kernel)) ggX6_teach_X6_has
set_option maxRecDepth 20000 in
theorem ggX6_teach_X1_remember : GoodIn wsX6_teach wsX1_remember := goodIn_r _ [22, 23, 24, 25, 26, 27, 28, 29, 30, 31, 32, 33, 34, 35, 36, 37, 38, 39, 40, 41, 42, 43, 44, 45, 46, 47, 48, 49, 50, 57, 58, 59, 60, 61, 62, 63, 64, 65, 66, 67, 68, 69, 70, 71, 72, 73, 74, 75, 76, 77] (by decide +kernel) (by decide +kernel)
set_option maxRecDepth 20000 in
theorem gX6_teach_X1_remember : GoodIn wsX6_teach (wsV RX6 151 RX1 yX1_remember wsX1_remember) := goodIn_app (goodIn_of _ (by decide +kernel)) ggX6_teach_X1_remember
theorem dX6_teach_0 : decode cX6_teach 0 = .ok (.aload_n 0, 1) := by decide +kernel
theorem dX6_teach_1 : decode cX6_teach 1 = .ok (.iload_n 1, 1) := by decide +kernel
theorem dX6_teach_2 : decode cX6_teach 2 = .ok (.invokevirtual 61, 3) := by decide +kernel
theorem dX6_teach_5 : decode cX6_teach 5 = .ok (.ifCond .eq 12, 3) := by decide +kernel
theorem dX6_teach_8 : decode cX6_teach 8 = .ok (.iload_n 2, 1) := by decide +kernel
theorem dX6_teach_9 : decode cX6_teach 9 = .ok (.iconst 0, 1) := by decide +kernel
theorem dX6_teach_10 : decode cX6_teach 10 = .ok (.iconst 5, 1) := by decide +kernel
theorem dX6_teach_11 : decode cX6_teach 11 = .ok (.invokestatic 42, 3) := by decide +kernel
theorem dX6_teach_14 : decode cX6_teach 14 = .ok (.ifCond .ne 5, 3) := by decide +kernel
theorem dX6_teach_17 : decode cX6_teach 17 = .ok (.iconst (-1), 1) := by decide +kernel
theorem dX6_teach_18 : decode cX6_teach 18 = .ok (.ireturn, 1) := by decide +kernel
theorem dX6_teach_19 : decode cX6_teach 19 = .ok (.aload_n 0, 1) := by decide +kernel
theorem dX6_teach_20 : decode cX6_teach 20 = .ok (.getfield 12, 3) := by decide +kernel
theorem dX6_teach_23 : decode cX6_teach 23 = .ok (.getfield 84, 3) := by decide +kernel
theorem dX6_teach_26 : decode cX6_teach 26 = .ok (.astore_n 3, 1) := by decide +kernel
theorem dX6_teach_27 : decode cX6_teach 27 = .ok (.aload_n 3, 1) := by decide +kernel
theorem dX6_teach_28 : decode cX6_teach 28 = .ok (.getfield 93, 3) := by decide +kernel
theorem dX6_teach_31 : decode cX6_teach 31 = .ok (.iload_n 1, 1) := by decide +kernel
theorem dX6_teach_32 : decode cX6_teach 32 = .ok (.iaload, 1) := by decide +kernel
theorem dX6_teach_33 : decode cX6_teach 33 = .ok (.iload_n 2, 1) := by decide +kernel
theorem dX6_teach_34 : decode cX6_teach 34 = .ok (.invokestatic 162, 3) := by decide +kernel
theorem dX6_teach_37 : decode cX6_teach 37 = .ok (.ifCond .ne 12, 3) := by decide +kernel
theorem dX6_teach_40 : decode cX6_teach 40 = .ok (.aload_n 3, 1) := by decide +kernel
theorem dX6_teach_41 : decode cX6_teach 41 = .ok (.getfield 88, 3) := by decide +kernel
theorem dX6_teach_44 : decode cX6_teach 44 = .ok (.iload_n 1, 1) := by decide +kernel
theorem dX6_teach_45 : decode cX6_teach 45 = .ok (.iaload, 1) := by decide +kernel
theorem dX6_teach_46 : decode cX6_teach 46 = .ok (.ifCond .eq 6, 3) := by decide +kernel
theorem dX6_teach_49 : decode cX6_teach 49 = .ok (.bipush (-2), 2) := by decide +kernel
theorem dX6_teach_51 : decode cX6_teach 51 = .ok (.ireturn, 1) := by decide +kernel
theorem dX6_teach_52 : decode cX6_teach 52 = .ok (.aload_n 3, 1) := by decide +kernel
theorem dX6_teach_53 : decode cX6_teach 53 = .ok (.getfield 126, 3) := by decide +kernel
theorem dX6_teach_56 : decode cX6_teach 56 = .ok (.sipush 9999, 3) := by decide +kernel
theorem dX6_teach_59 : decode cX6_teach 59 = .ok (.if_icmp .lt 6, 3) := by decide +kernel
theorem dX6_teach_62 : decode cX6_teach 62 = .ok (.bipush (-3), 2) := by decide +kernel
theorem dX6_teach_64 : decode cX6_teach 64 = .ok (.ireturn, 1) := by decide +kernel
theorem dX6_teach_65 : decode cX6_teach 65 = .ok (.aload_n 0, 1) := by decide +kernel
theorem dX6_teach_66 : decode cX6_teach 66 = .ok (.getfield 12, 3) := by decide +kernel
theorem dX6_teach_69 : decode cX6_teach 69 = .ok (.invokevirtual 151, 3) := by decide +kernel
theorem dX6_teach_72 : decode cX6_teach 72 = .ok (.aload_n 3, 1) := by decide +kernel
theorem dX6_teach_73 : decode cX6_teach 73 = .ok (.getfield 93, 3) := by decide +kernel
theorem dX6_teach_76 : decode cX6_teach 76 = .ok (.iload_n 1, 1) := by decide +kernel
theorem dX6_teach_77 : decode cX6_teach 77 = .ok (.dup2, 1) := by decide +kernel
theorem dX6_teach_78 : decode cX6_teach 78 = .ok (.iaload, 1) := by decide +kernel
theorem dX6_teach_79 : decode cX6_teach 79 = .ok (.iconst 1, 1) := by decide +kernel
theorem dX6_teach_80 : decode cX6_teach 80 = .ok (.iload_n 2, 1) := by decide +kernel
theorem dX6_teach_81 : decode cX6_teach 81 = .ok (.ishl, 1) := by decide +kernel
theorem dX6_teach_82 : decode cX6_teach 82 = .ok (.ior, 1) := by decide +kernel
theorem dX6_teach_83 : decode cX6_teach 83 = .ok (.iastore, 1) := by decide +kernel
theorem dX6_teach_84 : decode cX6_teach 84 = .ok (.aload_n 3, 1) := by decide +kernel
theorem dX6_teach_85 : decode cX6_teach 85 = .ok (.dup, 1) := by decide +kernel
theorem dX6_teach_86 : decode cX6_teach 86 = .ok (.getfield 126, 3) := by decide +kernel
theorem dX6_teach_89 : decode cX6_teach 89 = .ok (.iconst 1, 1) := by decide +kernel
theorem dX6_teach_90 : decode cX6_teach 90 = .ok (.iadd, 1) := by decide +kernel
theorem dX6_teach_91 : decode cX6_teach 91 = .ok (.putfield 126, 3) := by decide +kernel
theorem dX6_teach_94 : decode cX6_teach 94 = .ok (.aload_n 3, 1) := by decide +kernel
theorem dX6_teach_95 : decode cX6_teach 95 = .ok (.getfield 93, 3) := by decide +kernel
theorem dX6_teach_98 : decode cX6_teach 98 = .ok (.iload_n 1, 1) := by decide +kernel
theorem dX6_teach_99 : decode cX6_teach 99 = .ok (.iaload, 1) := by decide +kernel
theorem dX6_teach_100 : decode cX6_teach 100 = .ok (.ireturn, 1) := by decide +kernel
set_option maxRecDepth 20000 in
theorem ggX6_rest_X1_remember : GoodIn wsX6_rest wsX1_remember := goodIn_r _ [8, 9, 10, 11, 12, 13, 14, 15, 16, 17, 18, 19, 20, 21, 22, 23, 24, 25, 26, 27, 28, 29, 30, 31, 32, 33, 34, 35, 36, 43, 44, 45, 46, 47, 48, 49, 50, 51, 52, 53, 54, 55, 56, 57, 58, 59, 60, 61, 62, 63] (by decide +kernel) (by decide +kernel)
set_option maxRecDepth 20000 in
theorem gX6_rest_X1_remember : GoodIn wsX6_rest (wsV RX6 151 RX1 yX1_remember wsX1_remember) := goodIn_app (goodIn_of _ (by decide +kernel)) ggX6_rest_X1_remember
theorem dX6_rest_0 : decode cX6_rest 0 = .ok (.aload_n 0, 1) := by decide +kernel
theorem dX6_rest_1 : decode cX6_rest 1 = .ok (.getfield 12, 3) := by decide +kernel
theorem dX6_rest_4 : decode cX6_rest 4 = .ok (.invokevirtual 151, 3) := by decide +kernel
theorem dX6_rest_7 : decode cX6_rest 7 = .ok (.aload_n 0, 1) := by decide +kernel
theorem dX6_rest_8 : decode cX6_rest 8 = .ok (.getfield 12, 3) := by decide +kernel
theorem dX6_rest_11 : decode cX6_rest 11 = .ok (.getfield 84, 3) := by decide +kernel
theorem dX6_rest_14 : decode cX6_rest 14 = .ok (.getfield 126, 3) := by decide +kernel
theorem dX6_rest_17 : decode cX6_rest 17 = .ok (.istore_n 1, 1) := by decide +kernel
theorem dX6_rest_18 : decode cX6_rest 18 = .ok (.aload_n 0, 1) := by decide +kernel
theorem dX6_rest_19 : decode cX6_rest 19 = .ok (.getfield 12, 3) := by decide +kernel
theorem dX6_rest_22 : decode cX6_rest 22 = .ok (.getfield 84, 3) := by decide +kernel
theorem dX6_rest_25 : decode cX6_rest 25 = .ok (.iconst 0, 1) := by decide +kernel
theorem dX6_rest_26 : decode cX6_rest 26 = .ok (.putfield 126, 3) := by decide +kernel
theorem dX6_rest_29 : decode cX6_rest 29 = .ok (.iload_n 1, 1) := by decide +kernel
theorem dX6_rest_30 : decode cX6_rest 30 = .ok (.ireturn, 1) := by decide +kernel
set_option maxRecDepth 20000 in
theorem ggX6_undo_X1_goBack : GoodIn wsX6_undo wsX1_goBack := goodIn_r _ [7, 8, 9, 10, 11, 12, 13, 14, 15, 16, 17, 18, 19, 20, 21, 22, 23, 24, 25, 26, 27, 28, 29, 30, 31, 32, 33, 34, 35, 42, 43, 44, 45, 46, 47, 48, 49, 50, 51, 52, 53, 54, 55, 56, 57, 58, 59, 60, 61, 62] (by decide +kernel) (by decide +kernel)
set_option maxRecDepth 20000 in
theorem gX6_undo_X1_goBack : GoodIn wsX6_undo (wsV RX6 166 RX1 yX1_goBack wsX1_goBack) := goodIn_app (goodIn_of _ (by decide +kernel)) ggX6_undo_X1_goBack
theorem dX6_undo_0 : decode cX6_undo 0 = .ok (.aload_n 0, 1) := by decide +kernel
theorem dX6_undo_1 : decode cX6_undo 1 = .ok (.getfield 12, 3) := by decide +kernel
theorem dX6_undo_4 : decode cX6_undo 4 = .ok (.getfield 58, 3) := by decide +kernel
theorem dX6_undo_7 : decode cX6_undo 7 = .ok (.ifCond .gt 6, 3) := by decide +kernel
theorem dX6_undo_10 : decode cX6_undo 10 = .ok (.bipush (-4), 2) := by decide +kernel
theorem dX6_undo_12 : decode cX6_undo 12 = .ok (.ireturn, 1) := by decide +kernel
theorem dX6_undo_13 : decode cX6_undo 13 = .ok (.aload_n 0, 1) := by decide +kernel
theorem dX6_undo_14 : decode cX6_undo 14 = .ok (.getfield 12, 3) := by decide +kernel
theorem dX6_undo_17 : decode cX6_undo 17 = .ok (.invokevirtual 166, 3) := by decide +kernel
theorem dX6_undo_20 : decode cX6_undo 20 = .ok (.aload_n 0, 1) := by decide +kernel
theorem dX6_undo_21 : decode cX6_undo 21 = .ok (.getfield 12, 3) := by decide +kernel
theorem dX6_undo_24 : decode cX6_undo 24 = .ok (.getfield 58, 3) := by decide +kernel
theorem dX6_undo_27 : decode cX6_undo 27 = .ok (.ireturn, 1) := by decide +kernel
theorem dX6_seed_0 : decode cX6_seed 0 = .ok (.iload_n 1, 1) := by decide +kernel
theorem dX6_seed_1 : decode cX6_seed 1 = .ok (.ifCond .ge 5, 3) := by decide +kernel
theorem dX6_seed_4 : decode cX6_seed 4 = .ok (.iconst (-1), 1) := by decide +kernel
theorem dX6_seed_5 : decode cX6_seed 5 = .ok (.ireturn, 1) := by decide +kernel
theorem dX6_seed_6 : decode cX6_seed 6 = .ok (.aload_n 0, 1) := by decide +kernel
theorem dX6_seed_7 : decode cX6_seed 7 = .ok (.getfield 12, 3) := by decide +kernel
theorem dX6_seed_10 : decode cX6_seed 10 = .ok (.getfield 84, 3) := by decide +kernel
theorem dX6_seed_13 : decode cX6_seed 13 = .ok (.getfield 169, 3) := by decide +kernel
theorem dX6_seed_16 : decode cX6_seed 16 = .ok (.istore_n 2, 1) := by decide +kernel
theorem dX6_seed_17 : decode cX6_seed 17 = .ok (.aload_n 0, 1) := by decide +kernel
theorem dX6_seed_18 : decode cX6_seed 18 = .ok (.getfield 12, 3) := by decide +kernel
theorem dX6_seed_21 : decode cX6_seed 21 = .ok (.getfield 84, 3) := by decide +kernel
theorem dX6_seed_24 : decode cX6_seed 24 = .ok (.iload_n 1, 1) := by decide +kernel
theorem dX6_seed_25 : decode cX6_seed 25 = .ok (.putfield 169, 3) := by decide +kernel
theorem dX6_seed_28 : decode cX6_seed 28 = .ok (.iload_n 2, 1) := by decide +kernel
theorem dX6_seed_29 : decode cX6_seed 29 = .ok (.ireturn, 1) := by decide +kernel
set_option maxRecDepth 20000 in
theorem ggX6_pass_X6_isSpeaker : GoodIn wsX6_pass wsX6_isSpeaker := goodIn_r _ [6, 1, 7, 8, 9, 5, 10, 60, 61, 62, 63, 64, 65, 66, 67, 68, 69, 70, 71, 72, 73, 74, 75, 76] (by decide +kernel) (by decide +kernel)
set_option maxRecDepth 20000 in
theorem gX6_pass_X6_isSpeaker : GoodIn wsX6_pass (wsV RX6 61 RX6 yX6_isSpeaker wsX6_isSpeaker) := goodIn_app (goodIn_of _ (by decide +kernel)) ggX6_pass_X6_isSpeaker
set_option maxRecDepth 20000 in
theorem ggX6_pass_X6_isWord : GoodIn wsX6_pass wsX6_isWord := goodIn_r _ [14, 1, 15, 8, 9, 5, 10, 60, 61, 62, 63, 64, 65, 66, 67, 68, 69, 70, 71, 72, 73, 74, 75, 76] (by decide +kernel) (by decide +kernel)
set_option maxRecDepth 20000 in
theorem gX6_pass_X6_isWord : GoodIn wsX6_pass (wsV RX6 96 RX6 yX6_isWord wsX6_isWord) := goodIn_app (goodIn_of _ (by decide +kernel)) ggX6_pass_X6_isWord
set_option maxRecDepth 20000 in
theorem ggX6_pass_X1_passNow : GoodIn wsX6_pass wsX1_passNow := goodIn_r _ [20, 21, 22, 23, 24, 25, 19, 26, 27, 28, 29, 30, 31, 32, 33, 34, 35, 36, 37, 38, 39, 40, 41, 42, 43, 44, 45, 5, 46, 47, 48, 49, 50, 51, 52, 53, 54, 55, 56, 57, 58, 66, 67, 68, 69, 70, 71, 72, 73, 74, 75, 76, 77, 78, 79, 80, 81, 82] (by decide +kernel) (by decide +kernel)
set_option maxRecDepth 20000 in
theorem gX6_pass_X1_passNow : GoodIn wsX6_pass (wsV RX6 148 RX1 yX1_passNow wsX1_passNow) := goodIn_app (goodIn_of _ (by decide +kernel)) ggX6_pass_X1_passNow
set_option maxRecDepth 20000 in
theorem ggX6_pass_X6_isIn : GoodIn wsX6_pass wsX6_isIn := goodIn_r _ [10] (by decide +kernel) (by decide +kernel)
set_option maxRecDepth 20000 in
theorem gX6_pass_X6_isIn : GoodIn wsX6_pass (va_wsS RX6 42 yX6_isIn wsX6_isIn) := goodIn_app (goodIn_of _ (by decide +kernel)) ggX6_pass_X6_isIn
set_option maxRecDepth 20000 in
theorem ggX6_pass_X1_passIn : GoodIn wsX6_pass wsX1_passIn := goodIn_r _ [26, 21, 27, 28, 29, 30, 31, 19, 32, 33, 34, 35, 36, 37, 38, 39, 40, 41, 42, 43, 44, 45, 5, 46, 47, 48, 49, 50, 51, 52, 53, 54, 55, 56, 57, 58, 66, 67, 68, 69, 70, 71, 72, 73, 74, 75, 76, 77, 78, 79, 80, 81, 82] (by decide +kernel) (by decide +kernel)
set_option maxRecDepth 20000 in
theorem gX6_pass_X1_passIn : GoodIn wsX6_pass (wsV RX6 172 RX1 yX1_passIn wsX1_passIn) := goodIn_app (goodIn_of _ (by decide +kernel)) ggX6_pass_X1_passIn
theorem dX6_pass_0 : decode cX6_pass 0 = .ok (.aload_n 0, 1) := by decide +kernel
theorem dX6_pass_1 : decode cX6_pass 1 = .ok (.iload_n 1, 1) := by decide +kernel
theorem dX6_pass_2 : decode cX6_pass 2 = .ok (.invokevirtual 61, 3) := by decide +kernel
theorem dX6_pass_5 : decode cX6_pass 5 = .ok (.ifCond .eq 11, 3) := by decide +kernel
theorem dX6_pass_8 : decode cX6_pass 8 = .ok (.aload_n 0, 1) := by decide +kernel
theorem dX6_pass_9 : decode cX6_pass 9 = .ok (.iload_n 2, 1) := by decide +kernel
theorem dX6_pass_10 : decode cX6_pass 10 = .ok (.invokevirtual 96, 3) := by decide +kernel
theorem dX6_pass_13 : decode cX6_pass 13 = .ok (.ifCond .ne 5, 3) := by decide +kernel
theorem dX6_pass_16 : decode cX6_pass 16 = .ok (.iconst (-1), 1) := by decide +kernel
theorem dX6_pass_17 : decode cX6_pass 17 = .ok (.ireturn, 1) := by decide +kernel
theorem dX6_pass_18 : decode cX6_pass 18 = .ok (.iload_n 3, 1) := by decide +kernel
theorem dX6_pass_19 : decode cX6_pass 19 = .ok (.bipush (-4), 2) := by decide +kernel
theorem dX6_pass_21 : decode cX6_pass 21 = .ok (.if_icmp .ne 13, 3) := by decide +kernel
theorem dX6_pass_24 : decode cX6_pass 24 = .ok (.aload_n 0, 1) := by decide +kernel
theorem dX6_pass_25 : decode cX6_pass 25 = .ok (.getfield 12, 3) := by decide +kernel
theorem dX6_pass_28 : decode cX6_pass 28 = .ok (.iload_n 1, 1) := by decide +kernel
theorem dX6_pass_29 : decode cX6_pass 29 = .ok (.iload_n 2, 1) := by decide +kernel
theorem dX6_pass_30 : decode cX6_pass 30 = .ok (.invokevirtual 148, 3) := by decide +kernel
theorem dX6_pass_33 : decode cX6_pass 33 = .ok (.ireturn, 1) := by decide +kernel
theorem dX6_pass_34 : decode cX6_pass 34 = .ok (.iload_n 3, 1) := by decide +kernel
theorem dX6_pass_35 : decode cX6_pass 35 = .ok (.iconst 0, 1) := by decide +kernel
theorem dX6_pass_36 : decode cX6_pass 36 = .ok (.sipush 9999, 3) := by decide +kernel
theorem dX6_pass_39 : decode cX6_pass 39 = .ok (.invokestatic 42, 3) := by decide +kernel
theorem dX6_pass_42 : decode cX6_pass 42 = .ok (.ifCond .eq 16, 3) := by decide +kernel
theorem dX6_pass_45 : decode cX6_pass 45 = .ok (.aload_n 0, 1) := by decide +kernel
theorem dX6_pass_46 : decode cX6_pass 46 = .ok (.getfield 12, 3) := by decide +kernel
theorem dX6_pass_49 : decode cX6_pass 49 = .ok (.iload_n 1, 1) := by decide +kernel
theorem dX6_pass_50 : decode cX6_pass 50 = .ok (.iload_n 2, 1) := by decide +kernel
theorem dX6_pass_51 : decode cX6_pass 51 = .ok (.iload_n 3, 1) := by decide +kernel
theorem dX6_pass_52 : decode cX6_pass 52 = .ok (.invokevirtual 172, 3) := by decide +kernel
theorem dX6_pass_55 : decode cX6_pass 55 = .ok (.goto 4, 3) := by decide +kernel
theorem dX6_pass_58 : decode cX6_pass 58 = .ok (.iconst (-1), 1) := by decide +kernel
theorem dX6_pass_59 : decode cX6_pass 59 = .ok (.ireturn, 1) := by decide +kernel
set_option maxRecDepth 20000 in
theorem ggX6_wrongs_X6_isWord : GoodIn wsX6_wrongs wsX6_isWord := goodIn_r _ [6, 7, 8, 9, 10, 5, 11, 70, 71, 72, 73, 74, 75, 76, 77, 78, 79, 80, 81, 82, 83, 84, 85, 86] (by decide +kernel) (by decide +kernel)
set_option maxRecDepth 20000 in
theorem gX6_wrongs_X6_isWord : GoodIn wsX6_wrongs (wsV RX6 96 RX6 yX6_isWord wsX6_isWord) := goodIn_app (goodIn_of _ (by decide +kernel)) ggX6_wrongs_X6_isWord
set_option maxRecDepth 20000 in
theorem ggX6_wrongs_X2_wrongsBy : GoodIn wsX6_wrongs wsX2_wrongsBy := goodIn_r _ [16, 17, 18, 19, 20, 21, 22, 23, 24, 25, 26, 27, 28, 29, 30, 31, 32, 33, 34, 35, 36, 37, 38, 39, 40, 41, 42, 43, 44, 45, 46, 47, 48, 49, 50, 5, 51, 52, 53, 54, 55, 56, 57, 58, 59, 60, 61, 62, 63, 64, 65, 66, 15, 67, 68, 69, 87, 88, 89, 90, 91, 76, 77, 78, 79, 80, 81, 82, 83, 84, 85, 86, 92, 93, 94, 95, 96, 97] (by decide +kernel) (by decide +kernel)
set_option maxRecDepth 20000 in
theorem gX6_wrongs_X2_wrongsBy : GoodIn wsX6_wrongs (wsV RX6 176 RX2 yX2_wrongsBy wsX2_wrongsBy) := goodIn_app (goodIn_of _ (by decide +kernel)) ggX6_wrongs_X2_wrongsBy
theorem dX6_wrongs_0 : decode cX6_wrongs 0 = .ok (.aload_n 0, 1) := by decide +kernel
theorem dX6_wrongs_1 : decode cX6_wrongs 1 = .ok (.iload_n 1, 1) := by decide +kernel
theorem dX6_wrongs_2 : decode cX6_wrongs 2 = .ok (.invokevirtual 96, 3) := by decide +kernel
theorem dX6_wrongs_5 : decode cX6_wrongs 5 = .ok (.ifCond .eq 14, 3) := by decide +kernel
theorem dX6_wrongs_8 : decode cX6_wrongs 8 = .ok (.aload_n 0, 1) := by decide +kernel
theorem dX6_wrongs_9 : decode cX6_wrongs 9 = .ok (.getfield 24, 3) := by decide +kernel
theorem dX6_wrongs_12 : decode cX6_wrongs 12 = .ok (.iload_n 1, 1) := by decide +kernel
theorem dX6_wrongs_13 : decode cX6_wrongs 13 = .ok (.invokevirtual 176, 3) := by decide +kernel
theorem dX6_wrongs_16 : decode cX6_wrongs 16 = .ok (.goto 4, 3) := by decide +kernel
theorem dX6_wrongs_19 : decode cX6_wrongs 19 = .ok (.iconst (-1), 1) := by decide +kernel
theorem dX6_wrongs_20 : decode cX6_wrongs 20 = .ok (.ireturn, 1) := by decide +kernel
set_option maxRecDepth 20000 in
theorem ggX6_parting_X6_isIn : GoodIn wsX6_parting wsX6_isIn := goodIn_r _ [7] (by decide +kernel) (by decide +kernel)
set_option maxRecDepth 20000 in
theorem gX6_parting_X6_isIn : GoodIn wsX6_parting (va_wsS RX6 42 yX6_isIn wsX6_isIn) := goodIn_app (goodIn_of _ (by decide +kernel)) ggX6_parting_X6_isIn
set_option maxRecDepth 20000 in
theorem ggX6_parting_X2_partingWord : GoodIn wsX6_parting wsX2_partingWord := goodIn_r _ [12, 13, 14, 15, 16, 17, 11, 18, 19, 20, 21, 22, 23, 24, 25, 26, 27, 28, 29, 30, 31, 32, 33, 34, 35, 36, 37, 38, 39, 40, 41, 42, 43, 44, 45, 46, 47, 48, 49, 50, 51, 6, 52, 53, 54, 55, 56, 57, 58, 59, 60, 61, 62, 63, 64, 65, 66, 67, 68, 69, 70, 89, 90, 91, 92, 93, 78, 79, 80, 81, 82, 83, 84, 85, 86, 87, 88, 94, 95, 96, 97, 98, 99] (by decide +kernel) (by decide +kernel)
set_option maxRecDepth 20000 in
theorem gX6_parting_X2_partingWord : GoodIn wsX6_parting (wsV RX6 179 RX2 yX2_partingWord wsX2_partingWord) := goodIn_app (goodIn_of _ (by decide +kernel)) ggX6_parting_X2_partingWord
set_option maxRecDepth 20000 in
theorem ggX6_parting_X2_wrongsBy : GoodIn wsX6_parting wsX2_wrongsBy := goodIn_r _ [18, 13, 19, 20, 21, 22, 23, 24, 25, 26, 27, 28, 29, 30, 31, 32, 33, 34, 35, 36, 37, 38, 39, 40, 41, 42, 43, 44, 45, 46, 47, 48, 49, 50, 51, 6, 52, 53, 54, 55, 56, 57, 58, 59, 60, 61, 62, 63, 64, 65, 66, 67, 11, 68, 69, 70, 89, 90, 91, 92, 93, 78, 79, 80, 81, 82, 83, 84, 85, 86, 87, 88, 94, 95, 96, 97, 98, 99] (by decide +kernel) (by decide +kernel)
set_option maxRecDepth 20000 in
theorem gX6_parting_X2_wrongsBy : GoodIn wsX6_parting (wsV RX6 176 RX2 yX2_wrongsBy wsX2_wrongsBy) := goodIn_app (goodIn_of _ (by decide +kernel)) ggX6_parting_X2_wrongsBy
theorem dX6_parting_0 : decode cX6_parting 0 = .ok (.iload_n 1, 1) := by decide +kernel
theorem dX6_parting_1 : decode cX6_parting 1 = .ok (.iconst 0, 1) := by decide +kernel
theorem dX6_parting_2 : decode cX6_parting 2 = .ok (.iconst 1, 1) := by decide +kernel
theorem dX6_parting_3 : decode cX6_parting 3 = .ok (.invokestatic 42, 3) := by decide +kernel
theorem dX6_parting_6 : decode cX6_parting 6 = .ok (.ifCond .ne 5, 3) := by decide +kernel
theorem dX6_parting_9 : decode cX6_parting 9 = .ok (.iconst (-1), 1) := by decide +kernel
theorem dX6_parting_10 : decode cX6_parting 10 = .ok (.ireturn, 1) := by decide +kernel
theorem dX6_parting_11 : decode cX6_parting 11 = .ok (.aload_n 0, 1) := by decide +kernel
theorem dX6_parting_12 : decode cX6_parting 12 = .ok (.getfield 12, 3) := by decide +kernel
theorem dX6_parting_15 : decode cX6_parting 15 = .ok (.getfield 65, 3) := by decide +kernel
theorem dX6_parting_18 : decode cX6_parting 18 = .ok (.ifCond .ne 6, 3) := by decide +kernel
theorem dX6_parting_21 : decode cX6_parting 21 = .ok (.bipush (-4), 2) := by decide +kernel
theorem dX6_parting_23 : decode cX6_parting 23 = .ok (.ireturn, 1) := by decide +kernel
theorem dX6_parting_24 : decode cX6_parting 24 = .ok (.aload_n 0, 1) := by decide +kernel
theorem dX6_parting_25 : decode cX6_parting 25 = .ok (.getfield 24, 3) := by decide +kernel
theorem dX6_parting_28 : decode cX6_parting 28 = .ok (.invokevirtual 179, 3) := by decide +kernel
theorem dX6_parting_31 : decode cX6_parting 31 = .ok (.istore_n 2, 1) := by decide +kernel
theorem dX6_parting_32 : decode cX6_parting 32 = .ok (.iload_n 1, 1) := by decide +kernel
theorem dX6_parting_33 : decode cX6_parting 33 = .ok (.ifCond .ne 7, 3) := by decide +kernel
theorem dX6_parting_36 : decode cX6_parting 36 = .ok (.iload_n 2, 1) := by decide +kernel
theorem dX6_parting_37 : decode cX6_parting 37 = .ok (.goto 11, 3) := by decide +kernel
theorem dX6_parting_40 : decode cX6_parting 40 = .ok (.aload_n 0, 1) := by decide +kernel
theorem dX6_parting_41 : decode cX6_parting 41 = .ok (.getfield 24, 3) := by decide +kernel
theorem dX6_parting_44 : decode cX6_parting 44 = .ok (.iload_n 2, 1) := by decide +kernel
theorem dX6_parting_45 : decode cX6_parting 45 = .ok (.invokevirtual 176, 3) := by decide +kernel
theorem dX6_parting_48 : decode cX6_parting 48 = .ok (.ireturn, 1) := by decide +kernel
set_option maxRecDepth 20000 in
theorem ggX6_learn_X6_isSpeaker : GoodIn wsX6_learn wsX6_isSpeaker := goodIn_r _ [6, 7, 8, 9, 10, 5, 11, 71, 72, 73, 74, 75, 76, 77, 78, 79, 80, 81, 82, 83, 84, 85, 86, 87] (by decide +kernel) (by decide +kernel)
set_option maxRecDepth 20000 in
theorem gX6_learn_X6_isSpeaker : GoodIn wsX6_learn (wsV RX6 61 RX6 yX6_isSpeaker wsX6_isSpeaker) := goodIn_app (goodIn_of _ (by decide +kernel)) ggX6_learn_X6_isSpeaker
set_option maxRecDepth 20000 in
theorem ggX6_learn_X6_isWord : GoodIn wsX6_learn wsX6_isWord := goodIn_r _ [15, 7, 16, 9, 10, 5, 11, 71, 72, 73, 74, 75, 76, 77, 78, 79, 80, 81, 82, 83, 84, 85, 86, 87] (by decide +kernel) (by decide +kernel)
set_option maxRecDepth 20000 in
theorem gX6_learn_X6_isWord : GoodIn wsX6_learn (wsV RX6 96 RX6 yX6_isWord wsX6_isWord) := goodIn_app (goodIn_of _ (by decide +kernel)) ggX6_learn_X6_isWord
set_option maxRecDepth 20000 in
theorem ggX6_learn_X6_isIn : GoodIn wsX6_learn wsX6_isIn := goodIn_r _ [11] (by decide +kernel) (by decide +kernel)
set_option maxRecDepth 20000 in
theorem gX6_learn_X6_isIn : GoodIn wsX6_learn (va_wsS RX6 42 yX6_isIn wsX6_isIn) := goodIn_app (goodIn_of _ (by decide +kernel)) ggX6_learn_X6_isIn
set_option maxRecDepth 20000 in
theorem ggX6_learn_X2_soundsToLearn : GoodIn wsX6_learn wsX2_soundsToLearn := goodIn_r _ [21, 22, 23, 24, 25, 26, 27, 28, 20, 29, 30, 31, 32, 33, 34, 35, 36, 37, 38, 39, 40, 41, 42, 43, 44, 45, 46, 47, 48, 49, 5, 50, 51, 52, 53, 54, 55, 56, 57, 58, 59, 60, 61, 62, 63, 64, 65, 66, 67, 68, 69, 88, 89, 90, 91, 92, 77, 78, 79, 80, 81, 82, 83, 84, 85, 86, 87, 93, 94, 95, 96, 97, 98] (by decide +kernel) (by decide +kernel)
set_option maxRecDepth 20000 in
theorem gX6_learn_X2_soundsToLearn : GoodIn wsX6_learn (wsV RX6 182 RX2 yX2_soundsToLearn wsX2_soundsToLearn) := goodIn_app (goodIn_of _ (by decide +kernel)) ggX6_learn_X2_soundsToLearn
set_option maxRecDepth 20000 in
theorem ggX6_learn_X2_passOnceTaught : GoodIn wsX6_learn wsX2_passOnceTaught := goodIn_r _ [29, 22, 24, 30, 25, 31, 32, 33, 34, 35, 36, 37, 38, 39, 40, 41, 42, 43, 44, 45, 46, 47, 48, 49, 5, 50, 51, 52, 53, 54, 55, 56, 57, 58, 59, 60, 61, 62, 88, 89, 90, 91, 92, 77, 78, 79, 80, 81, 82, 83, 84, 85, 86, 87, 93, 94, 95, 96, 97, 98] (by decide +kernel) (by decide +kernel)
set_option maxRecDepth 20000 in
theorem gX6_learn_X2_passOnceTaught : GoodIn wsX6_learn (wsV RX6 185 RX2 yX2_passOnceTaught wsX2_passOnceTaught) := goodIn_app (goodIn_of _ (by decide +kernel)) ggX6_learn_X2_passOnceTaught
theorem dX6_learn_0 : decode cX6_learn 0 = .ok (.aload_n 0, 1) := by decide +kernel
theorem dX6_learn_1 : decode cX6_learn 1 = .ok (.iload_n 1, 1) := by decide +kernel
theorem dX6_learn_2 : decode cX6_learn 2 = .ok (.invokevirtual 61, 3) := by decide +kernel
theorem dX6_learn_5 : decode cX6_learn 5 = .ok (.ifCond .eq 31, 3) := by decide +kernel
theorem dX6_learn_8 : decode cX6_learn 8 = .ok (.aload_n 0, 1) := by decide +kernel
theorem dX6_learn_9 : decode cX6_learn 9 = .ok (.iload_n 2, 1) := by decide +kernel
theorem dX6_learn_10 : decode cX6_learn 10 = .ok (.invokevirtual 96, 3) := by decide +kernel
theorem dX6_learn_13 : decode cX6_learn 13 = .ok (.ifCond .eq 23, 3) := by decide +kernel
theorem dX6_learn_16 : decode cX6_learn 16 = .ok (.iload_n 3, 1) := by decide +kernel
theorem dX6_learn_17 : decode cX6_learn 17 = .ok (.iconst 0, 1) := by decide +kernel
theorem dX6_learn_18 : decode cX6_learn 18 = .ok (.bipush 6, 2) := by decide +kernel
theorem dX6_learn_20 : decode cX6_learn 20 = .ok (.invokestatic 42, 3) := by decide +kernel
theorem dX6_learn_23 : decode cX6_learn 23 = .ok (.ifCond .eq 13, 3) := by decide +kernel
theorem dX6_learn_26 : decode cX6_learn 26 = .ok (.iload 4, 2) := by decide +kernel
theorem dX6_learn_28 : decode cX6_learn 28 = .ok (.iconst 0, 1) := by decide +kernel
theorem dX6_learn_29 : decode cX6_learn 29 = .ok (.iconst 1, 1) := by decide +kernel
theorem dX6_learn_30 : decode cX6_learn 30 = .ok (.invokestatic 42, 3) := by decide +kernel
theorem dX6_learn_33 : decode cX6_learn 33 = .ok (.ifCond .ne 5, 3) := by decide +kernel
theorem dX6_learn_36 : decode cX6_learn 36 = .ok (.iconst (-1), 1) := by decide +kernel
theorem dX6_learn_37 : decode cX6_learn 37 = .ok (.ireturn, 1) := by decide +kernel
theorem dX6_learn_38 : decode cX6_learn 38 = .ok (.aload_n 0, 1) := by decide +kernel
theorem dX6_learn_39 : decode cX6_learn 39 = .ok (.getfield 24, 3) := by decide +kernel
theorem dX6_learn_42 : decode cX6_learn 42 = .ok (.iload_n 1, 1) := by decide +kernel
theorem dX6_learn_43 : decode cX6_learn 43 = .ok (.iload_n 2, 1) := by decide +kernel
theorem dX6_learn_44 : decode cX6_learn 44 = .ok (.iload_n 3, 1) := by decide +kernel
theorem dX6_learn_45 : decode cX6_learn 45 = .ok (.invokevirtual 182, 3) := by decide +kernel
theorem dX6_learn_48 : decode cX6_learn 48 = .ok (.istore 5, 2) := by decide +kernel
theorem dX6_learn_50 : decode cX6_learn 50 = .ok (.iload 4, 2) := by decide +kernel
theorem dX6_learn_52 : decode cX6_learn 52 = .ok (.ifCond .ne 8, 3) := by decide +kernel
theorem dX6_learn_55 : decode cX6_learn 55 = .ok (.iload 5, 2) := by decide +kernel
theorem dX6_learn_57 : decode cX6_learn 57 = .ok (.goto 14, 3) := by decide +kernel
theorem dX6_learn_60 : decode cX6_learn 60 = .ok (.aload_n 0, 1) := by decide +kernel
theorem dX6_learn_61 : decode cX6_learn 61 = .ok (.getfield 24, 3) := by decide +kernel
theorem dX6_learn_64 : decode cX6_learn 64 = .ok (.iload_n 1, 1) := by decide +kernel
theorem dX6_learn_65 : decode cX6_learn 65 = .ok (.iload_n 2, 1) := by decide +kernel
theorem dX6_learn_66 : decode cX6_learn 66 = .ok (.iload 5, 2) := by decide +kernel
theorem dX6_learn_68 : decode cX6_learn 68 = .ok (.invokevirtual 185, 3) := by decide +kernel
theorem dX6_learn_71 : decode cX6_learn 71 = .ok (.ireturn, 1) := by decide +kernel
set_option maxRecDepth 20000 in
theorem ggX6_cross_X6_isSpeaker : GoodIn wsX6_cross wsX6_isSpeaker := goodIn_r _ [7, 2, 8, 9, 10, 6, 11, 64, 65, 66, 67, 68, 69, 70, 71, 72, 73, 74, 75, 76, 77, 78, 79, 80] (by decide +kernel) (by decide +kernel)
set_option maxRecDepth 20000 in
theorem gX6_cross_X6_isSpeaker : GoodIn wsX6_cross (wsV RX6 61 RX6 yX6_isSpeaker wsX6_isSpeaker) := goodIn_app (goodIn_of _ (by decide +kernel)) ggX6_cross_X6_isSpeaker
set_option maxRecDepth 20000 in
theorem ggX6_cross_X6_isWord : GoodIn wsX6_cross wsX6_isWord := goodIn_r _ [15, 2, 16, 9, 10, 6, 11, 64, 65, 66, 67, 68, 69, 70, 71, 72, 73, 74, 75, 76, 77, 78, 79, 80] (by decide +kernel) (by decide +kernel)
set_option maxRecDepth 20000 in
theorem gX6_cross_X6_isWord : GoodIn wsX6_cross (wsV RX6 96 RX6 yX6_isWord wsX6_isWord) := goodIn_app (goodIn_of _ (by decide +kernel)) ggX6_cross_X6_isWord
set_option maxRecDepth 20000 in
theorem ggX6_cross_X6_isIn : GoodIn wsX6_cross wsX6_isIn := goodIn_r _ [11] (by decide +kernel) (by decide +kernel)
set_option maxRecDepth 20000 in
theorem gX6_cross_X6_isIn : GoodIn wsX6_cross (va_wsS RX6 42 yX6_isIn wsX6_isIn) := goodIn_app (goodIn_of _ (by decide +kernel)) ggX6_cross_X6_isIn
set_option maxRecDepth 20000 in
theorem ggX6_cross_X2_hourToCross : GoodIn wsX6_cross wsX2_hourToCross := goodIn_r _ [21, 22, 23, 24, 25, 26, 27, 28, 29, 30, 31, 32, 33, 34, 35, 36, 37, 38, 39, 40, 41, 42, 43, 44, 45, 46, 47, 48, 49, 6, 50, 51, 52, 53, 54, 55, 56, 57, 58, 59, 60, 61, 62, 81, 82, 83, 84, 85, 70, 71, 72, 73, 74, 75, 76, 77, 78, 79, 80, 86, 87, 88, 89, 90, 91] (by decide +kernel) (by decide +kernel)
set_option maxRecDepth 20000 in
theorem gX6_cross_X2_hourToCross : GoodIn wsX6_cross (wsV RX6 188 RX2 yX2_hourToCross wsX2_hourToCross) := goodIn_app (goodIn_of _ (by decide +kernel)) ggX6_cross_X2_hourToCross
set_option maxRecDepth 20000 in
theorem ggX6_cross_X1_passIn : GoodIn wsX6_cross wsX1_passIn := goodIn_r _ [29, 30, 31, 32, 33, 34, 35, 28, 36, 37, 38, 39, 40, 41, 42, 43, 44, 45, 46, 47, 48, 49, 6, 50, 51, 52, 53, 54, 55, 56, 57, 58, 59, 60, 61, 62, 70, 71, 72, 73, 74, 75, 76, 77, 78, 79, 80, 86, 87, 88, 89, 90, 91] (by decide +kernel) (by decide +kernel)
set_option maxRecDepth 20000 in
theorem gX6_cross_X1_passIn : GoodIn wsX6_cross (wsV RX6 172 RX1 yX1_passIn wsX1_passIn) := goodIn_app (goodIn_of _ (by decide +kernel)) ggX6_cross_X1_passIn
theorem dX6_cross_0 : decode cX6_cross 0 = .ok (.aload_n 0, 1) := by decide +kernel
theorem dX6_cross_1 : decode cX6_cross 1 = .ok (.iload_n 1, 1) := by decide +kernel
theorem dX6_cross_2 : decode cX6_cross 2 = .ok (.invokevirtual 61, 3) := by decide +kernel
theorem dX6_cross_5 : decode cX6_cross 5 = .ok (.ifCond .eq 20, 3) := by decide +kernel
theorem dX6_cross_8 : decode cX6_cross 8 = .ok (.aload_n 0, 1) := by decide +kernel
theorem dX6_cross_9 : decode cX6_cross 9 = .ok (.iload_n 2, 1) := by decide +kernel
theorem dX6_cross_10 : decode cX6_cross 10 = .ok (.invokevirtual 96, 3) := by decide +kernel
theorem dX6_cross_13 : decode cX6_cross 13 = .ok (.ifCond .eq 12, 3) := by decide +kernel
theorem dX6_cross_16 : decode cX6_cross 16 = .ok (.iload_n 3, 1) := by decide +kernel
theorem dX6_cross_17 : decode cX6_cross 17 = .ok (.iconst 0, 1) := by decide +kernel
theorem dX6_cross_18 : decode cX6_cross 18 = .ok (.iconst 1, 1) := by decide +kernel
theorem dX6_cross_19 : decode cX6_cross 19 = .ok (.invokestatic 42, 3) := by decide +kernel
theorem dX6_cross_22 : decode cX6_cross 22 = .ok (.ifCond .ne 5, 3) := by decide +kernel
theorem dX6_cross_25 : decode cX6_cross 25 = .ok (.iconst (-1), 1) := by decide +kernel
theorem dX6_cross_26 : decode cX6_cross 26 = .ok (.ireturn, 1) := by decide +kernel
theorem dX6_cross_27 : decode cX6_cross 27 = .ok (.aload_n 0, 1) := by decide +kernel
theorem dX6_cross_28 : decode cX6_cross 28 = .ok (.getfield 24, 3) := by decide +kernel
theorem dX6_cross_31 : decode cX6_cross 31 = .ok (.iload_n 1, 1) := by decide +kernel
theorem dX6_cross_32 : decode cX6_cross 32 = .ok (.iload_n 2, 1) := by decide +kernel
theorem dX6_cross_33 : decode cX6_cross 33 = .ok (.invokevirtual 188, 3) := by decide +kernel
theorem dX6_cross_36 : decode cX6_cross 36 = .ok (.istore 4, 2) := by decide +kernel
theorem dX6_cross_38 : decode cX6_cross 38 = .ok (.iload_n 3, 1) := by decide +kernel
theorem dX6_cross_39 : decode cX6_cross 39 = .ok (.ifCond .ne 8, 3) := by decide +kernel
theorem dX6_cross_42 : decode cX6_cross 42 = .ok (.iload 4, 2) := by decide +kernel
theorem dX6_cross_44 : decode cX6_cross 44 = .ok (.goto 14, 3) := by decide +kernel
theorem dX6_cross_47 : decode cX6_cross 47 = .ok (.aload_n 0, 1) := by decide +kernel
theorem dX6_cross_48 : decode cX6_cross 48 = .ok (.getfield 12, 3) := by decide +kernel
theorem dX6_cross_51 : decode cX6_cross 51 = .ok (.iload_n 1, 1) := by decide +kernel
theorem dX6_cross_52 : decode cX6_cross 52 = .ok (.iload_n 2, 1) := by decide +kernel
theorem dX6_cross_53 : decode cX6_cross 53 = .ok (.iload 4, 2) := by decide +kernel
theorem dX6_cross_55 : decode cX6_cross 55 = .ok (.invokevirtual 172, 3) := by decide +kernel
theorem dX6_cross_58 : decode cX6_cross 58 = .ok (.ireturn, 1) := by decide +kernel
set_option maxRecDepth 20000 in
theorem ggX6_line_X6_isWord : GoodIn wsX6_line wsX6_isWord := goodIn_r _ [8, 1, 9, 10, 11, 7, 12, 100, 101, 102, 103, 104, 105, 111, 112, 113, 114, 115, 116, 117, 118, 119, 120, 121] (by decide +kernel) (by decide +kernel)
set_option maxRecDepth 20000 in
theorem gX6_line_X6_isWord : GoodIn wsX6_line (wsV RX6 96 RX6 yX6_isWord wsX6_isWord) := goodIn_app (goodIn_of _ (by decide +kernel)) ggX6_line_X6_isWord
set_option maxRecDepth 20000 in
theorem ggX6_line_X1_allWhoAre : GoodIn wsX6_line wsX1_allWhoAre := goodIn_r _ [17, 18, 19, 20, 111, 112, 113, 114, 115, 116, 117, 118, 119, 120, 121, 122, 123, 124, 125, 126, 127] (by decide +kernel) (by decide +kernel)
set_option maxRecDepth 20000 in
theorem gX6_line_X1_allWhoAre : GoodIn wsX6_line (wsV RX6 132 RX1 yX1_allWhoAre wsX1_allWhoAre) := goodIn_app (goodIn_of _ (by decide +kernel)) ggX6_line_X1_allWhoAre
set_option maxRecDepth 20000 in
theorem ggX6_line_J6_bitCount_0f7a4 : GoodIn wsX6_line wsJ6_bitCount_0f7a4 := goodIn_r _ [24, 25, 26, 27] (by decide +kernel) (by decide +kernel)
set_option maxRecDepth 20000 in
theorem gX6_line_J6_bitCount_0f7a4 : GoodIn wsX6_line (va_wsS RX6 191 yJ6_bitCount_0f7a4 wsJ6_bitCount_0f7a4) := goodIn_app (goodIn_of _ (by decide +kernel)) ggX6_line_J6_bitCount_0f7a4
set_option maxRecDepth 20000 in
theorem ggX6_line_X2_weighLines : GoodIn wsX6_line wsX2_weighLines := goodIn_r _ [32, 33, 34, 22, 23, 24, 25, 26, 27, 35, 36, 37, 31, 38, 39, 40, 41, 42, 43, 44, 45, 46, 47, 48, 16, 49, 50, 51, 52, 53, 54, 55, 56, 57, 58, 59, 60, 61, 62, 7, 63, 64, 65, 66, 67, 68, 69, 70, 71, 72, 73, 74, 75, 76, 77, 78, 79, 80, 81, 82, 83, 84, 85, 86, 87, 88, 89, 90, 91, 106, 107, 108, 109, 110, 111, 112, 113, 114, 115, 116, 117, 118, 119, 120, 121, 122, 123, 124, 125, 126, 127] (by decide +kernel) (by decide +kernel)
set_option maxRecDepth 20000 in
theorem gX6_line_X2_weighLines : GoodIn wsX6_line (wsV RX6 196 RX2 yX2_weighLines wsX2_weighLines) := goodIn_app (goodIn_of _ (by decide +kernel)) ggX6_line_X2_weighLines
set_option maxRecDepth 20000 in
theorem ggX6_line_X2_whoComesAt : GoodIn wsX6_line wsX2_whoComesAt := goodIn_r _ [95, 96, 97, 98, 31, 99, 39, 43, 33, 62, 7, 63, 88, 89, 90, 91, 45, 106, 107, 108, 109, 110, 111, 112, 113, 114, 115, 116, 117, 118, 119, 120, 121] (by decide +kernel) (by decide +kernel)
set_option maxRecDepth 20000 in
theorem gX6_line_X2_whoComesAt : GoodIn wsX6_line (wsV RX6 203 RX2 yX2_whoComesAt wsX2_whoComesAt) := goodIn_app (goodIn_of _ (by decide +kernel)) ggX6_line_X2_whoComesAt
theorem dX6_line_0 : decode cX6_line 0 = .ok (.aload_n 0, 1) := by decide +kernel
theorem dX6_line_1 : decode cX6_line 1 = .ok (.iload_n 1, 1) := by decide +kernel
theorem dX6_line_2 : decode cX6_line 2 = .ok (.invokevirtual 96, 3) := by decide +kernel
theorem dX6_line_5 : decode cX6_line 5 = .ok (.ifCond .eq 8, 3) := by decide +kernel
theorem dX6_line_8 : decode cX6_line 8 = .ok (.iload_n 2, 1) := by decide +kernel
theorem dX6_line_9 : decode cX6_line 9 = .ok (.iconst (-1), 1) := by decide +kernel
theorem dX6_line_10 : decode cX6_line 10 = .ok (.if_icmp .ge 5, 3) := by decide +kernel
theorem dX6_line_13 : decode cX6_line 13 = .ok (.iconst (-1), 1) := by decide +kernel
theorem dX6_line_14 : decode cX6_line 14 = .ok (.ireturn, 1) := by decide +kernel
theorem dX6_line_15 : decode cX6_line 15 = .ok (.aload_n 0, 1) := by decide +kernel
theorem dX6_line_16 : decode cX6_line 16 = .ok (.getfield 12, 3) := by decide +kernel
theorem dX6_line_19 : decode cX6_line 19 = .ok (.iconst 0, 1) := by decide +kernel
theorem dX6_line_20 : decode cX6_line 20 = .ok (.invokevirtual 132, 3) := by decide +kernel
theorem dX6_line_23 : decode cX6_line 23 = .ok (.istore_n 3, 1) := by decide +kernel
theorem dX6_line_24 : decode cX6_line 24 = .ok (.iload_n 2, 1) := by decide +kernel
theorem dX6_line_25 : decode cX6_line 25 = .ok (.iload_n 3, 1) := by decide +kernel
theorem dX6_line_26 : decode cX6_line 26 = .ok (.invokestatic 191, 3) := by decide +kernel
theorem dX6_line_29 : decode cX6_line 29 = .ok (.if_icmp .lt 6, 3) := by decide +kernel
theorem dX6_line_32 : decode cX6_line 32 = .ok (.bipush (-4), 2) := by decide +kernel
theorem dX6_line_34 : decode cX6_line 34 = .ok (.ireturn, 1) := by decide +kernel
theorem dX6_line_35 : decode cX6_line 35 = .ok (.aload_n 0, 1) := by decide +kernel
theorem dX6_line_36 : decode cX6_line 36 = .ok (.getfield 24, 3) := by decide +kernel
theorem dX6_line_39 : decode cX6_line 39 = .ok (.iload_n 1, 1) := by decide +kernel
theorem dX6_line_40 : decode cX6_line 40 = .ok (.iload_n 3, 1) := by decide +kernel
theorem dX6_line_41 : decode cX6_line 41 = .ok (.invokevirtual 196, 3) := by decide +kernel
theorem dX6_line_44 : decode cX6_line 44 = .ok (.iload_n 2, 1) := by decide +kernel
theorem dX6_line_45 : decode cX6_line 45 = .ok (.iconst (-1), 1) := by decide +kernel
theorem dX6_line_46 : decode cX6_line 46 = .ok (.if_icmp .ne 15, 3) := by decide +kernel
theorem dX6_line_49 : decode cX6_line 49 = .ok (.aload_n 0, 1) := by decide +kernel
theorem dX6_line_50 : decode cX6_line 50 = .ok (.getfield 24, 3) := by decide +kernel
theorem dX6_line_53 : decode cX6_line 53 = .ok (.getfield 200, 3) := by decide +kernel
theorem dX6_line_56 : decode cX6_line 56 = .ok (.iload_n 3, 1) := by decide +kernel
theorem dX6_line_57 : decode cX6_line 57 = .ok (.iaload, 1) := by decide +kernel
theorem dX6_line_58 : decode cX6_line 58 = .ok (.goto 12, 3) := by decide +kernel
theorem dX6_line_61 : decode cX6_line 61 = .ok (.aload_n 0, 1) := by decide +kernel
theorem dX6_line_62 : decode cX6_line 62 = .ok (.getfield 24, 3) := by decide +kernel
theorem dX6_line_65 : decode cX6_line 65 = .ok (.iload_n 2, 1) := by decide +kernel
theorem dX6_line_66 : decode cX6_line 66 = .ok (.iload_n 3, 1) := by decide +kernel
theorem dX6_line_67 : decode cX6_line 67 = .ok (.invokevirtual 203, 3) := by decide +kernel
theorem dX6_line_70 : decode cX6_line 70 = .ok (.ireturn, 1) := by decide +kernel
set_option maxRecDepth 20000 in
theorem ggX6_proof_X6_isIn : GoodIn wsX6_proof wsX6_isIn := goodIn_r _ [6] (by decide +kernel) (by decide +kernel)
set_option maxRecDepth 20000 in
theorem gX6_proof_X6_isIn : GoodIn wsX6_proof (va_wsS RX6 42 yX6_isIn wsX6_isIn) := goodIn_app (goodIn_of _ (by decide +kernel)) ggX6_proof_X6_isIn
set_option maxRecDepth 20000 in
theorem ggX6_proof_X2_wordsOfProof : GoodIn wsX6_proof wsX2_wordsOfProof := goodIn_r _ [11, 12, 13, 14, 15, 16, 10, 17, 18, 19, 20, 21, 22, 23, 24, 25, 26, 27, 28, 29, 30, 31, 32, 33, 34, 35, 36, 37, 38, 39, 40, 41, 42, 43, 44, 45, 46, 47, 48, 49, 5, 50, 51, 52, 53, 54, 55, 56, 57, 58, 59, 60, 61, 62, 63, 64, 65, 66, 67, 68, 69, 70, 71, 72, 73, 74, 75, 76, 77, 78, 79, 80, 87, 88, 89, 90, 91, 92, 93, 94, 95, 96, 97, 98, 99, 100, 101, 102, 103, 104, 105, 106, 107, 108] (by decide +kernel) (by decide +kernel)
set_option maxRecDepth 20000 in
theorem gX6_proof_X2_wordsOfProof : GoodIn wsX6_proof (wsV RX6 207 RX2 yX2_wordsOfProof wsX2_wordsOfProof) := goodIn_app (goodIn_of _ (by decide +kernel)) ggX6_proof_X2_wordsOfProof
theorem dX6_proof_0 : decode cX6_proof 0 = .ok (.iload_n 1, 1) := by decide +kernel
theorem dX6_proof_1 : decode cX6_proof 1 = .ok (.iconst 0, 1) := by decide +kernel
theorem dX6_proof_2 : decode cX6_proof 2 = .ok (.ldc 206, 2) := by decide +kernel
theorem dX6_proof_4 : decode cX6_proof 4 = .ok (.invokestatic 42, 3) := by decide +kernel
theorem dX6_proof_7 : decode cX6_proof 7 = .ok (.ifCond .eq 14, 3) := by decide +kernel
theorem dX6_proof_10 : decode cX6_proof 10 = .ok (.aload_n 0, 1) := by decide +kernel
theorem dX6_proof_11 : decode cX6_proof 11 = .ok (.getfield 24, 3) := by decide +kernel
theorem dX6_proof_14 : decode cX6_proof 14 = .ok (.iload_n 1, 1) := by decide +kernel
theorem dX6_proof_15 : decode cX6_proof 15 = .ok (.invokevirtual 207, 3) := by decide +kernel
theorem dX6_proof_18 : decode cX6_proof 18 = .ok (.goto 4, 3) := by decide +kernel
theorem dX6_proof_21 : decode cX6_proof 21 = .ok (.iconst (-1), 1) := by decide +kernel
theorem dX6_proof_22 : decode cX6_proof 22 = .ok (.ireturn, 1) := by decide +kernel
set_option maxRecDepth 20000 in
theorem ggX6_heardWrong_X6_isIn : GoodIn wsX6_heardWrong wsX6_isIn := goodIn_r _ [5] (by decide +kernel) (by decide +kernel)
set_option maxRecDepth 20000 in
theorem gX6_heardWrong_X6_isIn : GoodIn wsX6_heardWrong (va_wsS RX6 42 yX6_isIn wsX6_isIn) := goodIn_app (goodIn_of _ (by decide +kernel)) ggX6_heardWrong_X6_isIn
set_option maxRecDepth 20000 in
theorem ggX6_heardWrong_X2_howManyHeardWrong : GoodIn wsX6_heardWrong wsX2_howManyHeardWrong := goodIn_r _ [10, 11, 12, 13, 14, 15, 16, 17, 9, 18, 19, 20, 21, 35, 36, 37, 38, 39, 40, 41, 42, 43, 44, 45, 46, 47, 48, 49, 50, 51, 52, 53, 54, 55, 56, 57, 58, 59, 60] (by decide +kernel) (by decide +kernel)
set_option maxRecDepth 20000 in
theorem gX6_heardWrong_X2_howManyHeardWrong : GoodIn wsX6_heardWrong (wsV RX6 210 RX2 yX2_howManyHeardWrong wsX2_howManyHeardWrong) := goodIn_app (goodIn_of _ (by decide +kernel)) ggX6_heardWrong_X2_howManyHeardWrong
set_option maxRecDepth 20000 in
theorem ggX6_heardWrong_X2_unluckiestHeardWrong : GoodIn wsX6_heardWrong wsX2_unluckiestHeardWrong := goodIn_r _ [25, 11, 12, 13, 26, 14, 21, 27, 28, 20, 15, 16, 17, 9, 18, 19, 35, 36, 37, 38, 39, 40, 41, 42, 43, 44, 45, 46, 47, 48, 49, 50, 51, 52, 53, 54, 55, 56, 57, 58, 59, 60] (by decide +kernel) (by decide +kernel)
set_option maxRecDepth 20000 in
theorem gX6_heardWrong_X2_unluckiestHeardWrong : GoodIn wsX6_heardWrong (wsV RX6 213 RX2 yX2_unluckiestHeardWrong wsX2_unluckiestHeardWrong) := goodIn_app (goodIn_of _ (by decide +kernel)) ggX6_heardWrong_X2_unluckiestHeardWrong
theorem dX6_heardWrong_0 : decode cX6_heardWrong 0 = .ok (.iload_n 1, 1) := by decide +kernel
theorem dX6_heardWrong_1 : decode cX6_heardWrong 1 = .ok (.iconst 0, 1) := by decide +kernel
theorem dX6_heardWrong_2 : decode cX6_heardWrong 2 = .ok (.iconst 1, 1) := by decide +kernel
theorem dX6_heardWrong_3 : decode cX6_heardWrong 3 = .ok (.invokestatic 42, 3) := by decide +kernel
theorem dX6_heardWrong_6 : decode cX6_heardWrong 6 = .ok (.ifCond .ne 5, 3) := by decide +kernel
theorem dX6_heardWrong_9 : decode cX6_heardWrong 9 = .ok (.iconst (-1), 1) := by decide +kernel
theorem dX6_heardWrong_10 : decode cX6_heardWrong 10 = .ok (.ireturn, 1) := by decide +kernel
theorem dX6_heardWrong_11 : decode cX6_heardWrong 11 = .ok (.iload_n 1, 1) := by decide +kernel
theorem dX6_heardWrong_12 : decode cX6_heardWrong 12 = .ok (.ifCond .ne 13, 3) := by decide +kernel
theorem dX6_heardWrong_15 : decode cX6_heardWrong 15 = .ok (.aload_n 0, 1) := by decide +kernel
theorem dX6_heardWrong_16 : decode cX6_heardWrong 16 = .ok (.getfield 24, 3) := by decide +kernel
theorem dX6_heardWrong_19 : decode cX6_heardWrong 19 = .ok (.invokevirtual 210, 3) := by decide +kernel
theorem dX6_heardWrong_22 : decode cX6_heardWrong 22 = .ok (.goto 10, 3) := by decide +kernel
theorem dX6_heardWrong_25 : decode cX6_heardWrong 25 = .ok (.aload_n 0, 1) := by decide +kernel
theorem dX6_heardWrong_26 : decode cX6_heardWrong 26 = .ok (.getfield 24, 3) := by decide +kernel
theorem dX6_heardWrong_29 : decode cX6_heardWrong 29 = .ok (.invokevirtual 213, 3) := by decide +kernel
theorem dX6_heardWrong_32 : decode cX6_heardWrong 32 = .ok (.ireturn, 1) := by decide +kernel
set_option maxRecDepth 20000 in
theorem ggX6_image_X1_becomeLike : GoodIn wsX6_image wsX1_becomeLike := goodIn_r _ [8, 9, 10, 11, 12, 13, 14, 15, 16, 17, 18, 19, 20, 21, 22, 23, 24, 25, 26, 27, 28, 29, 30, 31, 32, 33, 34, 35, 36, 37, 38, 39, 40, 41, 42, 43, 44, 45, 52, 53, 54, 55, 56, 57, 58, 59, 60, 61, 62, 63, 64, 65, 66, 67, 68, 69, 70, 71, 72] (by decide +kernel) (by decide +kernel)
set_option maxRecDepth 20000 in
theorem gX6_image_X1_becomeLike : GoodIn wsX6_image (wsV RX6 216 RX1 yX1_becomeLike wsX1_becomeLike) := goodIn_app (goodIn_of _ (by decide +kernel)) ggX6_image_X1_becomeLike
theorem dX6_image_0 : decode cX6_image 0 = .ok (.aload_n 0, 1) := by decide +kernel
theorem dX6_image_1 : decode cX6_image 1 = .ok (.getfield 16, 3) := by decide +kernel
theorem dX6_image_4 : decode cX6_image 4 = .ok (.aload_n 0, 1) := by decide +kernel
theorem dX6_image_5 : decode cX6_image 5 = .ok (.getfield 12, 3) := by decide +kernel
theorem dX6_image_8 : decode cX6_image 8 = .ok (.invokevirtual 216, 3) := by decide +kernel
theorem dX6_image_11 : decode cX6_image 11 = .ok (.aload_n 0, 1) := by decide +kernel
theorem dX6_image_12 : decode cX6_image 12 = .ok (.iconst 1, 1) := by decide +kernel
theorem dX6_image_13 : decode cX6_image 13 = .ok (.putfield 219, 3) := by decide +kernel
theorem dX6_image_16 : decode cX6_image 16 = .ok (.iconst 1, 1) := by decide +kernel
theorem dX6_image_17 : decode cX6_image 17 = .ok (.ireturn, 1) := by decide +kernel
set_option maxRecDepth 20000 in
theorem ggX6_restore_X1_becomeLike : GoodIn wsX6_restore wsX1_becomeLike := goodIn_r _ [8, 9, 10, 11, 12, 13, 14, 15, 16, 17, 18, 19, 20, 21, 22, 23, 24, 25, 26, 27, 28, 29, 30, 31, 32, 33, 34, 35, 36, 37, 38, 39, 40, 41, 42, 43, 44, 45, 52, 53, 54, 55, 56, 57, 58, 59, 60, 61, 62, 63, 64, 65, 66, 67, 68, 69, 70, 71, 72] (by decide +kernel) (by decide +kernel)
set_option maxRecDepth 20000 in
theorem gX6_restore_X1_becomeLike : GoodIn wsX6_restore (wsV RX6 216 RX1 yX1_becomeLike wsX1_becomeLike) := goodIn_app (goodIn_of _ (by decide +kernel)) ggX6_restore_X1_becomeLike
theorem dX6_restore_0 : decode cX6_restore 0 = .ok (.aload_n 0, 1) := by decide +kernel
theorem dX6_restore_1 : decode cX6_restore 1 = .ok (.getfield 219, 3) := by decide +kernel
theorem dX6_restore_4 : decode cX6_restore 4 = .ok (.ifCond .ne 6, 3) := by decide +kernel
theorem dX6_restore_7 : decode cX6_restore 7 = .ok (.bipush (-4), 2) := by decide +kernel
theorem dX6_restore_9 : decode cX6_restore 9 = .ok (.ireturn, 1) := by decide +kernel
theorem dX6_restore_10 : decode cX6_restore 10 = .ok (.aload_n 0, 1) := by decide +kernel
theorem dX6_restore_11 : decode cX6_restore 11 = .ok (.getfield 12, 3) := by decide +kernel
theorem dX6_restore_14 : decode cX6_restore 14 = .ok (.aload_n 0, 1) := by decide +kernel
theorem dX6_restore_15 : decode cX6_restore 15 = .ok (.getfield 16, 3) := by decide +kernel
theorem dX6_restore_18 : decode cX6_restore 18 = .ok (.invokevirtual 216, 3) := by decide +kernel
theorem dX6_restore_21 : decode cX6_restore 21 = .ok (.iconst 1, 1) := by decide +kernel
theorem dX6_restore_22 : decode cX6_restore 22 = .ok (.ireturn, 1) := by decide +kernel
set_option maxRecDepth 20000 in
theorem ggX6_who_X6_isSheet : GoodIn wsX6_who wsX6_isSheet := goodIn_r _ [6, 7, 8, 5, 9] (by decide +kernel) (by decide +kernel)
set_option maxRecDepth 20000 in
theorem gX6_who_X6_isSheet : GoodIn wsX6_who (va_wsS RX6 223 yX6_isSheet wsX6_isSheet) := goodIn_app (goodIn_of _ (by decide +kernel)) ggX6_who_X6_isSheet
set_option maxRecDepth 20000 in
theorem ggX6_who_X6_isIn : GoodIn wsX6_who wsX6_isIn := goodIn_r _ [9] (by decide +kernel) (by decide +kernel)
set_option maxRecDepth 20000 in
theorem gX6_who_X6_isIn : GoodIn wsX6_who (va_wsS RX6 42 yX6_isIn wsX6_isIn) := goodIn_app (goodIn_of _ (by decide +kernel)) ggX6_who_X6_isIn
set_option maxRecDepth 20000 in
theorem ggX6_who_X6_isSpeaker : GoodIn wsX6_who wsX6_isSpeaker := goodIn_r _ [13, 14, 15, 7, 8, 5, 9, 96, 97, 98, 99, 100, 101, 102, 103, 104, 105, 106, 107, 108, 109, 110, 111, 112] (by decide +kernel) (by decide +kernel)
set_option maxRecDepth 20000 in
theorem gX6_who_X6_isSpeaker : GoodIn wsX6_who (wsV RX6 61 RX6 yX6_isSpeaker wsX6_isSpeaker) := goodIn_app (goodIn_of _ (by decide +kernel)) ggX6_who_X6_isSpeaker
set_option maxRecDepth 20000 in
theorem ggX6_who_X4_whyNotTaken : GoodIn wsX6_who wsX4_whyNotTaken := goodIn_r _ [20, 21, 22, 23, 24, 25, 19, 26, 27, 113, 114, 115, 116] (by decide +kernel) (by decide +kernel)
set_option maxRecDepth 20000 in
theorem gX6_who_X4_whyNotTaken : GoodIn wsX6_who (wsV RX6 226 RX4 yX4_whyNotTaken wsX4_whyNotTaken) := goodIn_app (goodIn_of _ (by decide +kernel)) ggX6_who_X4_whyNotTaken
set_option maxRecDepth 20000 in
theorem ggX6_who_X6_areTold : GoodIn wsX6_who wsX6_areTold := goodIn_r _ [31, 32, 14, 33, 113, 114, 115, 116, 96, 97, 98, 99, 100, 101, 102, 103, 104, 105, 106, 107, 108, 109, 110, 111, 112] (by decide +kernel) (by decide +kernel)
set_option maxRecDepth 20000 in
theorem gX6_who_X6_areTold : GoodIn wsX6_who (wsV RX6 229 RX6 yX6_areTold wsX6_areTold) := goodIn_app (goodIn_of _ (by decide +kernel)) ggX6_who_X6_areTold
set_option maxRecDepth 20000 in
theorem ggX6_who_X2_weighLikes : GoodIn wsX6_who wsX2_weighLikes := goodIn_r _ [38, 39, 40, 41, 42, 43, 44, 45, 46, 47, 48, 49, 50, 51, 52, 53, 54, 55, 56, 57, 58, 59, 60, 61, 62, 63, 64, 65, 66, 67, 68, 69, 70, 71, 72, 73, 74, 5, 75, 76, 77, 78, 79, 80, 81, 82, 83, 84, 85, 86, 87, 117, 118, 119, 120, 121, 102, 103, 104, 105, 106, 107, 108, 109, 110, 111, 112, 113, 114, 115, 116, 122, 123, 124, 125, 126, 127] (by decide +kernel) (by decide +kernel)
set_option maxRecDepth 20000 in
theorem gX6_who_X2_weighLikes : GoodIn wsX6_who (wsV RX6 233 RX2 yX2_weighLikes wsX2_weighLikes) := goodIn_app (goodIn_of _ (by decide +kernel)) ggX6_who_X2_weighLikes
set_option maxRecDepth 20000 in
theorem ggX6_who_X2_likeliest : GoodIn wsX6_who wsX2_likeliest := goodIn_r _ [91, 39, 40, 41, 117, 118, 119, 120, 121, 102, 103, 104, 105, 106, 107, 108, 109, 110, 111, 112] (by decide +kernel) (by decide +kernel)
set_option maxRecDepth 20000 in
theorem gX6_who_X2_likeliest : GoodIn wsX6_who (wsV RX6 237 RX2 yX2_likeliest wsX2_likeliest) := goodIn_app (goodIn_of _ (by decide +kernel)) ggX6_who_X2_likeliest
set_option maxRecDepth 20000 in
theorem ggX6_who_X2_partFor : GoodIn wsX6_who wsX2_partFor := goodIn_r _ [95, 39, 40, 41, 42, 117, 118, 119, 120, 121, 102, 103, 104, 105, 106, 107, 108, 109, 110, 111, 112] (by decide +kernel) (by decide +kernel)
set_option maxRecDepth 20000 in
theorem gX6_who_X2_partFor : GoodIn wsX6_who (wsV RX6 240 RX2 yX2_partFor wsX2_partFor) := goodIn_app (goodIn_of _ (by decide +kernel)) ggX6_who_X2_partFor
theorem dX6_who_0 : decode cX6_who 0 = .ok (.iload_n 1, 1) := by decide +kernel
theorem dX6_who_1 : decode cX6_who 1 = .ok (.invokestatic 223, 3) := by decide +kernel
theorem dX6_who_4 : decode cX6_who 4 = .ok (.ifCond .eq 23, 3) := by decide +kernel
theorem dX6_who_7 : decode cX6_who 7 = .ok (.iload_n 2, 1) := by decide +kernel
theorem dX6_who_8 : decode cX6_who 8 = .ok (.iconst 0, 1) := by decide +kernel
theorem dX6_who_9 : decode cX6_who 9 = .ok (.iconst 3, 1) := by decide +kernel
theorem dX6_who_10 : decode cX6_who 10 = .ok (.invokestatic 42, 3) := by decide +kernel
theorem dX6_who_13 : decode cX6_who 13 = .ok (.ifCond .eq 14, 3) := by decide +kernel
theorem dX6_who_16 : decode cX6_who 16 = .ok (.iload 4, 2) := by decide +kernel
theorem dX6_who_18 : decode cX6_who 18 = .ok (.iconst 1, 1) := by decide +kernel
theorem dX6_who_19 : decode cX6_who 19 = .ok (.bipush 8, 2) := by decide +kernel
theorem dX6_who_21 : decode cX6_who 21 = .ok (.invokestatic 42, 3) := by decide +kernel
theorem dX6_who_24 : decode cX6_who 24 = .ok (.ifCond .ne 5, 3) := by decide +kernel
theorem dX6_who_27 : decode cX6_who 27 = .ok (.iconst (-1), 1) := by decide +kernel
theorem dX6_who_28 : decode cX6_who 28 = .ok (.ireturn, 1) := by decide +kernel
theorem dX6_who_29 : decode cX6_who 29 = .ok (.iload 5, 2) := by decide +kernel
theorem dX6_who_31 : decode cX6_who 31 = .ok (.bipush (-4), 2) := by decide +kernel
theorem dX6_who_33 : decode cX6_who 33 = .ok (.if_icmp .eq 14, 3) := by decide +kernel
theorem dX6_who_36 : decode cX6_who 36 = .ok (.aload_n 0, 1) := by decide +kernel
theorem dX6_who_37 : decode cX6_who 37 = .ok (.iload 5, 2) := by decide +kernel
theorem dX6_who_39 : decode cX6_who 39 = .ok (.invokevirtual 61, 3) := by decide +kernel
theorem dX6_who_42 : decode cX6_who 42 = .ok (.ifCond .ne 5, 3) := by decide +kernel
theorem dX6_who_45 : decode cX6_who 45 = .ok (.iconst (-1), 1) := by decide +kernel
theorem dX6_who_46 : decode cX6_who 46 = .ok (.ireturn, 1) := by decide +kernel
theorem dX6_who_47 : decode cX6_who 47 = .ok (.aload_n 0, 1) := by decide +kernel
theorem dX6_who_48 : decode cX6_who 48 = .ok (.getfield 37, 3) := by decide +kernel
theorem dX6_who_51 : decode cX6_who 51 = .ok (.iload_n 1, 1) := by decide +kernel
theorem dX6_who_52 : decode cX6_who 52 = .ok (.aaload, 1) := by decide +kernel
theorem dX6_who_53 : decode cX6_who 53 = .ok (.astore 6, 2) := by decide +kernel
theorem dX6_who_55 : decode cX6_who 55 = .ok (.aload 6, 2) := by decide +kernel
theorem dX6_who_57 : decode cX6_who 57 = .ok (.iload_n 2, 1) := by decide +kernel
theorem dX6_who_58 : decode cX6_who 58 = .ok (.iload_n 3, 1) := by decide +kernel
theorem dX6_who_59 : decode cX6_who 59 = .ok (.iconst 2, 1) := by decide +kernel
theorem dX6_who_60 : decode cX6_who 60 = .ok (.iload 4, 2) := by decide +kernel
theorem dX6_who_62 : decode cX6_who 62 = .ok (.imul, 1) := by decide +kernel
theorem dX6_who_63 : decode cX6_who 63 = .ok (.invokevirtual 226, 3) := by decide +kernel
theorem dX6_who_66 : decode cX6_who 66 = .ok (.istore 7, 2) := by decide +kernel
theorem dX6_who_68 : decode cX6_who 68 = .ok (.iload 7, 2) := by decide +kernel
theorem dX6_who_70 : decode cX6_who 70 = .ok (.ifCond .eq 6, 3) := by decide +kernel
theorem dX6_who_73 : decode cX6_who 73 = .ok (.iload 7, 2) := by decide +kernel
theorem dX6_who_75 : decode cX6_who 75 = .ok (.ireturn, 1) := by decide +kernel
theorem dX6_who_76 : decode cX6_who 76 = .ok (.aload_n 0, 1) := by decide +kernel
theorem dX6_who_77 : decode cX6_who 77 = .ok (.aload 6, 2) := by decide +kernel
theorem dX6_who_79 : decode cX6_who 79 = .ok (.iload_n 3, 1) := by decide +kernel
theorem dX6_who_80 : decode cX6_who 80 = .ok (.iload 4, 2) := by decide +kernel
theorem dX6_who_82 : decode cX6_who 82 = .ok (.invokevirtual 229, 3) := by decide +kernel
theorem dX6_who_85 : decode cX6_who 85 = .ok (.ifCond .ne 6, 3) := by decide +kernel
theorem dX6_who_88 : decode cX6_who 88 = .ok (.bipush (-2), 2) := by decide +kernel
theorem dX6_who_90 : decode cX6_who 90 = .ok (.ireturn, 1) := by decide +kernel
theorem dX6_who_91 : decode cX6_who 91 = .ok (.aload_n 0, 1) := by decide +kernel
theorem dX6_who_92 : decode cX6_who 92 = .ok (.getfield 24, 3) := by decide +kernel
theorem dX6_who_95 : decode cX6_who 95 = .ok (.aload 6, 2) := by decide +kernel
theorem dX6_who_97 : decode cX6_who 97 = .ok (.iload_n 3, 1) := by decide +kernel
theorem dX6_who_98 : decode cX6_who 98 = .ok (.iload 4, 2) := by decide +kernel
theorem dX6_who_100 : decode cX6_who 100 = .ok (.invokevirtual 233, 3) := by decide +kernel
theorem dX6_who_103 : decode cX6_who 103 = .ok (.iload 5, 2) := by decide +kernel
theorem dX6_who_105 : decode cX6_who 105 = .ok (.bipush (-4), 2) := by decide +kernel
theorem dX6_who_107 : decode cX6_who 107 = .ok (.if_icmp .ne 13, 3) := by decide +kernel
theorem dX6_who_110 : decode cX6_who 110 = .ok (.aload_n 0, 1) := by decide +kernel
theorem dX6_who_111 : decode cX6_who 111 = .ok (.getfield 24, 3) := by decide +kernel
theorem dX6_who_114 : decode cX6_who 114 = .ok (.invokevirtual 237, 3) := by decide +kernel
theorem dX6_who_117 : decode cX6_who 117 = .ok (.goto 12, 3) := by decide +kernel
theorem dX6_who_120 : decode cX6_who 120 = .ok (.aload_n 0, 1) := by decide +kernel
theorem dX6_who_121 : decode cX6_who 121 = .ok (.getfield 24, 3) := by decide +kernel
theorem dX6_who_124 : decode cX6_who 124 = .ok (.iload 5, 2) := by decide +kernel
theorem dX6_who_126 : decode cX6_who 126 = .ok (.invokevirtual 240, 3) := by decide +kernel
theorem dX6_who_129 : decode cX6_who 129 = .ok (.ireturn, 1) := by decide +kernel
set_option maxRecDepth 20000 in
theorem ggX6_film_X6_isSpeaker : GoodIn wsX6_film wsX6_isSpeaker := goodIn_r _ [9, 2, 10, 11, 12, 8, 13, 77, 78, 79, 80, 81, 82, 83, 84, 85, 86, 87, 88, 89, 90, 91, 92, 93] (by decide +kernel) (by decide +kernel)
set_option maxRecDepth 20000 in
theorem gX6_film_X6_isSpeaker : GoodIn wsX6_film (wsV RX6 61 RX6 yX6_isSpeaker wsX6_isSpeaker) := goodIn_app (goodIn_of _ (by decide +kernel)) ggX6_film_X6_isSpeaker
set_option maxRecDepth 20000 in
theorem ggX6_film_X6_isWord : GoodIn wsX6_film wsX6_isWord := goodIn_r _ [17, 2, 18, 11, 12, 8, 13, 77, 78, 79, 80, 81, 82, 83, 84, 85, 86, 87, 88, 89, 90, 91, 92, 93] (by decide +kernel) (by decide +kernel)
set_option maxRecDepth 20000 in
theorem gX6_film_X6_isWord : GoodIn wsX6_film (wsV RX6 96 RX6 yX6_isWord wsX6_isWord) := goodIn_app (goodIn_of _ (by decide +kernel)) ggX6_film_X6_isWord
set_option maxRecDepth 20000 in
theorem ggX6_film_X6_isIn : GoodIn wsX6_film wsX6_isIn := goodIn_r _ [13] (by decide +kernel) (by decide +kernel)
set_option maxRecDepth 20000 in
theorem gX6_film_X6_isIn : GoodIn wsX6_film (va_wsS RX6 42 yX6_isIn wsX6_isIn) := goodIn_app (goodIn_of _ (by decide +kernel)) ggX6_film_X6_isIn
set_option maxRecDepth 20000 in
theorem ggX6_film_X6_isSheet : GoodIn wsX6_film wsX6_isSheet := goodIn_r _ [21, 11, 12, 8, 13] (by decide +kernel) (by decide +kernel)
set_option maxRecDepth 20000 in
theorem gX6_film_X6_isSheet : GoodIn wsX6_film (va_wsS RX6 223 yX6_isSheet wsX6_isSheet) := goodIn_app (goodIn_of _ (by decide +kernel)) ggX6_film_X6_isSheet
set_option maxRecDepth 20000 in
theorem ggX6_film_X4_whyNotTaken : GoodIn wsX6_film wsX4_whyNotTaken := goodIn_r _ [26, 27, 28, 29, 30, 31, 25, 32, 33, 100, 101, 102, 103] (by decide +kernel) (by decide +kernel)
set_option maxRecDepth 20000 in
theorem gX6_film_X4_whyNotTaken : GoodIn wsX6_film (wsV RX6 226 RX4 yX4_whyNotTaken wsX4_whyNotTaken) := goodIn_app (goodIn_of _ (by decide +kernel)) ggX6_film_X4_whyNotTaken
set_option maxRecDepth 20000 in
theorem ggX6_film_X1_passIn : GoodIn wsX6_film wsX1_passIn := goodIn_r _ [38, 39, 40, 41, 42, 43, 44, 37, 45, 46, 47, 48, 49, 50, 51, 52, 53, 54, 55, 56, 57, 58, 8, 59, 60, 61, 62, 63, 64, 65, 66, 67, 68, 69, 70, 71, 83, 84, 85, 86, 87, 88, 89, 90, 91, 92, 93, 94, 95, 96, 97, 98, 99] (by decide +kernel) (by decide +kernel)
set_option maxRecDepth 20000 in
theorem gX6_film_X1_passIn : GoodIn wsX6_film (wsV RX6 172 RX1 yX1_passIn wsX1_passIn) := goodIn_app (goodIn_of _ (by decide +kernel)) ggX6_film_X1_passIn
set_option maxRecDepth 20000 in
theorem ggX6_film_X4_put : GoodIn wsX6_film wsX4_put := goodIn_r _ [75, 28, 76, 100, 101, 102, 103] (by decide +kernel) (by decide +kernel)
set_option maxRecDepth 20000 in
theorem gX6_film_X4_put : GoodIn wsX6_film (wsV RX6 243 RX4 yX4_put wsX4_put) := goodIn_app (goodIn_of _ (by decide +kernel)) ggX6_film_X4_put
theorem dX6_film_0 : decode cX6_film 0 = .ok (.aload_n 0, 1) := by decide +kernel
theorem dX6_film_1 : decode cX6_film 1 = .ok (.iload_n 1, 1) := by decide +kernel
theorem dX6_film_2 : decode cX6_film 2 = .ok (.invokevirtual 61, 3) := by decide +kernel
theorem dX6_film_5 : decode cX6_film 5 = .ok (.ifCond .eq 21, 3) := by decide +kernel
theorem dX6_film_8 : decode cX6_film 8 = .ok (.aload_n 0, 1) := by decide +kernel
theorem dX6_film_9 : decode cX6_film 9 = .ok (.iload_n 2, 1) := by decide +kernel
theorem dX6_film_10 : decode cX6_film 10 = .ok (.invokevirtual 96, 3) := by decide +kernel
theorem dX6_film_13 : decode cX6_film 13 = .ok (.ifCond .eq 13, 3) := by decide +kernel
theorem dX6_film_16 : decode cX6_film 16 = .ok (.iload_n 3, 1) := by decide +kernel
theorem dX6_film_17 : decode cX6_film 17 = .ok (.iconst 1, 1) := by decide +kernel
theorem dX6_film_18 : decode cX6_film 18 = .ok (.bipush 24, 2) := by decide +kernel
theorem dX6_film_20 : decode cX6_film 20 = .ok (.invokestatic 42, 3) := by decide +kernel
theorem dX6_film_23 : decode cX6_film 23 = .ok (.ifCond .ne 5, 3) := by decide +kernel
theorem dX6_film_26 : decode cX6_film 26 = .ok (.iconst (-1), 1) := by decide +kernel
theorem dX6_film_27 : decode cX6_film 27 = .ok (.ireturn, 1) := by decide +kernel
theorem dX6_film_28 : decode cX6_film 28 = .ok (.iload 4, 2) := by decide +kernel
theorem dX6_film_30 : decode cX6_film 30 = .ok (.invokestatic 223, 3) := by decide +kernel
theorem dX6_film_33 : decode cX6_film 33 = .ok (.ifCond .eq 13, 3) := by decide +kernel
theorem dX6_film_36 : decode cX6_film 36 = .ok (.iload 5, 2) := by decide +kernel
theorem dX6_film_38 : decode cX6_film 38 = .ok (.iconst 0, 1) := by decide +kernel
theorem dX6_film_39 : decode cX6_film 39 = .ok (.iconst 3, 1) := by decide +kernel
theorem dX6_film_40 : decode cX6_film 40 = .ok (.invokestatic 42, 3) := by decide +kernel
theorem dX6_film_43 : decode cX6_film 43 = .ok (.ifCond .ne 5, 3) := by decide +kernel
theorem dX6_film_46 : decode cX6_film 46 = .ok (.iconst (-1), 1) := by decide +kernel
theorem dX6_film_47 : decode cX6_film 47 = .ok (.ireturn, 1) := by decide +kernel
theorem dX6_film_48 : decode cX6_film 48 = .ok (.aload_n 0, 1) := by decide +kernel
theorem dX6_film_49 : decode cX6_film 49 = .ok (.getfield 37, 3) := by decide +kernel
theorem dX6_film_52 : decode cX6_film 52 = .ok (.iload 4, 2) := by decide +kernel
theorem dX6_film_54 : decode cX6_film 54 = .ok (.aaload, 1) := by decide +kernel
theorem dX6_film_55 : decode cX6_film 55 = .ok (.astore 7, 2) := by decide +kernel
theorem dX6_film_57 : decode cX6_film 57 = .ok (.aload 7, 2) := by decide +kernel
theorem dX6_film_59 : decode cX6_film 59 = .ok (.iload 5, 2) := by decide +kernel
theorem dX6_film_61 : decode cX6_film 61 = .ok (.iload 6, 2) := by decide +kernel
theorem dX6_film_63 : decode cX6_film 63 = .ok (.iload_n 3, 1) := by decide +kernel
theorem dX6_film_64 : decode cX6_film 64 = .ok (.invokevirtual 226, 3) := by decide +kernel
theorem dX6_film_67 : decode cX6_film 67 = .ok (.istore 8, 2) := by decide +kernel
theorem dX6_film_69 : decode cX6_film 69 = .ok (.iload 8, 2) := by decide +kernel
theorem dX6_film_71 : decode cX6_film 71 = .ok (.ifCond .eq 6, 3) := by decide +kernel
theorem dX6_film_74 : decode cX6_film 74 = .ok (.iload 8, 2) := by decide +kernel
theorem dX6_film_76 : decode cX6_film 76 = .ok (.ireturn, 1) := by decide +kernel
theorem dX6_film_77 : decode cX6_film 77 = .ok (.iconst 0, 1) := by decide +kernel
theorem dX6_film_78 : decode cX6_film 78 = .ok (.istore 9, 2) := by decide +kernel
theorem dX6_film_80 : decode cX6_film 80 = .ok (.iload 9, 2) := by decide +kernel
theorem dX6_film_82 : decode cX6_film 82 = .ok (.iload_n 3, 1) := by decide +kernel
theorem dX6_film_83 : decode cX6_film 83 = .ok (.if_icmp .ge 42, 3) := by decide +kernel
theorem dX6_film_86 : decode cX6_film 86 = .ok (.aload 7, 2) := by decide +kernel
theorem dX6_film_88 : decode cX6_film 88 = .ok (.iload 6, 2) := by decide +kernel
theorem dX6_film_90 : decode cX6_film 90 = .ok (.iload 9, 2) := by decide +kernel
theorem dX6_film_92 : decode cX6_film 92 = .ok (.iadd, 1) := by decide +kernel
theorem dX6_film_93 : decode cX6_film 93 = .ok (.aload_n 0, 1) := by decide +kernel
theorem dX6_film_94 : decode cX6_film 94 = .ok (.getfield 12, 3) := by decide +kernel
theorem dX6_film_97 : decode cX6_film 97 = .ok (.iload_n 1, 1) := by decide +kernel
theorem dX6_film_98 : decode cX6_film 98 = .ok (.iload_n 2, 1) := by decide +kernel
theorem dX6_film_99 : decode cX6_film 99 = .ok (.aload_n 0, 1) := by decide +kernel
theorem dX6_film_100 : decode cX6_film 100 = .ok (.getfield 12, 3) := by decide +kernel
theorem dX6_film_103 : decode cX6_film 103 = .ok (.getfield 84, 3) := by decide +kernel
theorem dX6_film_106 : decode cX6_film 106 = .ok (.getfield 126, 3) := by decide +kernel
theorem dX6_film_109 : decode cX6_film 109 = .ok (.iload 9, 2) := by decide +kernel
theorem dX6_film_111 : decode cX6_film 111 = .ok (.iadd, 1) := by decide +kernel
theorem dX6_film_112 : decode cX6_film 112 = .ok (.invokevirtual 172, 3) := by decide +kernel
theorem dX6_film_115 : decode cX6_film 115 = .ok (.i2l, 1) := by decide +kernel
theorem dX6_film_116 : decode cX6_film 116 = .ok (.invokevirtual 243, 3) := by decide +kernel
theorem dX6_film_119 : decode cX6_film 119 = .ok (.iinc 9 1, 3) := by decide +kernel
theorem dX6_film_122 : decode cX6_film 122 = .ok (.goto (-42), 3) := by decide +kernel
theorem dX6_film_125 : decode cX6_film 125 = .ok (.iload_n 3, 1) := by decide +kernel
theorem dX6_film_126 : decode cX6_film 126 = .ok (.ireturn, 1) := by decide +kernel
set_option maxRecDepth 20000 in
theorem ggX6_sheet_X6_isSheet : GoodIn wsX6_sheet wsX6_isSheet := goodIn_r _ [5, 6, 7, 4, 8] (by decide +kernel) (by decide +kernel)
set_option maxRecDepth 20000 in
theorem gX6_sheet_X6_isSheet : GoodIn wsX6_sheet (va_wsS RX6 223 yX6_isSheet wsX6_isSheet) := goodIn_app (goodIn_of _ (by decide +kernel)) ggX6_sheet_X6_isSheet
set_option maxRecDepth 20000 in
theorem ggX6_sheet_X6_isIn : GoodIn wsX6_sheet wsX6_isIn := goodIn_r _ [8] (by decide +kernel) (by decide +kernel)
set_option maxRecDepth 20000 in
theorem gX6_sheet_X6_isIn : GoodIn wsX6_sheet (va_wsS RX6 42 yX6_isIn wsX6_isIn) := goodIn_app (goodIn_of _ (by decide +kernel)) ggX6_sheet_X6_isIn
set_option maxRecDepth 20000 in
theorem ggX6_sheet_X4_begin : GoodIn wsX6_sheet wsX4_begin := goodIn_r _ [13, 14, 15, 16, 17, 24, 25, 26, 27] (by decide +kernel) (by decide +kernel)
set_option maxRecDepth 20000 in
theorem gX6_sheet_X4_begin : GoodIn wsX6_sheet (wsV RX6 247 RX4 yX4_begin wsX4_begin) := goodIn_app (goodIn_of _ (by decide +kernel)) ggX6_sheet_X4_begin
theorem dX6_sheet_0 : decode cX6_sheet 0 = .ok (.iload_n 1, 1) := by decide +kernel
theorem dX6_sheet_1 : decode cX6_sheet 1 = .ok (.invokestatic 223, 3) := by decide +kernel
theorem dX6_sheet_4 : decode cX6_sheet 4 = .ok (.ifCond .eq 18, 3) := by decide +kernel
theorem dX6_sheet_7 : decode cX6_sheet 7 = .ok (.iload_n 2, 1) := by decide +kernel
theorem dX6_sheet_8 : decode cX6_sheet 8 = .ok (.iconst 0, 1) := by decide +kernel
theorem dX6_sheet_9 : decode cX6_sheet 9 = .ok (.iconst 3, 1) := by decide +kernel
theorem dX6_sheet_10 : decode cX6_sheet 10 = .ok (.invokestatic 42, 3) := by decide +kernel
theorem dX6_sheet_13 : decode cX6_sheet 13 = .ok (.ifCond .eq 9, 3) := by decide +kernel
theorem dX6_sheet_16 : decode cX6_sheet 16 = .ok (.iload_n 3, 1) := by decide +kernel
theorem dX6_sheet_17 : decode cX6_sheet 17 = .ok (.bipush 24, 2) := by decide +kernel
theorem dX6_sheet_19 : decode cX6_sheet 19 = .ok (.if_icmp .le 5, 3) := by decide +kernel
theorem dX6_sheet_22 : decode cX6_sheet 22 = .ok (.iconst (-1), 1) := by decide +kernel
theorem dX6_sheet_23 : decode cX6_sheet 23 = .ok (.ireturn, 1) := by decide +kernel
theorem dX6_sheet_24 : decode cX6_sheet 24 = .ok (.iload_n 3, 1) := by decide +kernel
theorem dX6_sheet_25 : decode cX6_sheet 25 = .ok (.ifCond .ge 6, 3) := by decide +kernel
theorem dX6_sheet_28 : decode cX6_sheet 28 = .ok (.bipush (-14), 2) := by decide +kernel
theorem dX6_sheet_30 : decode cX6_sheet 30 = .ok (.ireturn, 1) := by decide +kernel
theorem dX6_sheet_31 : decode cX6_sheet 31 = .ok (.aload_n 0, 1) := by decide +kernel
theorem dX6_sheet_32 : decode cX6_sheet 32 = .ok (.getfield 37, 3) := by decide +kernel
theorem dX6_sheet_35 : decode cX6_sheet 35 = .ok (.iload_n 1, 1) := by decide +kernel
theorem dX6_sheet_36 : decode cX6_sheet 36 = .ok (.aaload, 1) := by decide +kernel
theorem dX6_sheet_37 : decode cX6_sheet 37 = .ok (.iload_n 2, 1) := by decide +kernel
theorem dX6_sheet_38 : decode cX6_sheet 38 = .ok (.iload_n 3, 1) := by decide +kernel
theorem dX6_sheet_39 : decode cX6_sheet 39 = .ok (.invokevirtual 247, 3) := by decide +kernel
theorem dX6_sheet_42 : decode cX6_sheet 42 = .ok (.iload_n 3, 1) := by decide +kernel
theorem dX6_sheet_43 : decode cX6_sheet 43 = .ok (.ireturn, 1) := by decide +kernel
set_option maxRecDepth 20000 in
theorem ggX6_drop_X6_isSheet : GoodIn wsX6_drop wsX6_isSheet := goodIn_r _ [7, 8, 9, 6, 10] (by decide +kernel) (by decide +kernel)
set_option maxRecDepth 20000 in
theorem gX6_drop_X6_isSheet : GoodIn wsX6_drop (va_wsS RX6 223 yX6_isSheet wsX6_isSheet) := goodIn_app (goodIn_of _ (by decide +kernel)) ggX6_drop_X6_isSheet
theorem dX6_drop_0 : decode cX6_drop 0 = .ok (.iload_n 1, 1) := by decide +kernel
theorem dX6_drop_1 : decode cX6_drop 1 = .ok (.invokestatic 223, 3) := by decide +kernel
theorem dX6_drop_4 : decode cX6_drop 4 = .ok (.ifCond .ne 5, 3) := by decide +kernel
theorem dX6_drop_7 : decode cX6_drop 7 = .ok (.iconst (-1), 1) := by decide +kernel
theorem dX6_drop_8 : decode cX6_drop 8 = .ok (.ireturn, 1) := by decide +kernel
theorem dX6_drop_9 : decode cX6_drop 9 = .ok (.aload_n 0, 1) := by decide +kernel
theorem dX6_drop_10 : decode cX6_drop 10 = .ok (.getfield 37, 3) := by decide +kernel
theorem dX6_drop_13 : decode cX6_drop 13 = .ok (.iload_n 1, 1) := by decide +kernel
theorem dX6_drop_14 : decode cX6_drop 14 = .ok (.aaload, 1) := by decide +kernel
theorem dX6_drop_15 : decode cX6_drop 15 = .ok (.astore_n 2, 1) := by decide +kernel
theorem dX6_drop_16 : decode cX6_drop 16 = .ok (.aload_n 2, 1) := by decide +kernel
theorem dX6_drop_17 : decode cX6_drop 17 = .ok (.getfield 250, 3) := by decide +kernel
theorem dX6_drop_20 : decode cX6_drop 20 = .ok (.ifCond .ne 6, 3) := by decide +kernel
theorem dX6_drop_23 : decode cX6_drop 23 = .ok (.bipush (-11), 2) := by decide +kernel
theorem dX6_drop_25 : decode cX6_drop 25 = .ok (.ireturn, 1) := by decide +kernel
theorem dX6_drop_26 : decode cX6_drop 26 = .ok (.aload_n 2, 1) := by decide +kernel
theorem dX6_drop_27 : decode cX6_drop 27 = .ok (.iconst 0, 1) := by decide +kernel
theorem dX6_drop_28 : decode cX6_drop 28 = .ok (.putfield 250, 3) := by decide +kernel
theorem dX6_drop_31 : decode cX6_drop 31 = .ok (.aload_n 2, 1) := by decide +kernel
theorem dX6_drop_32 : decode cX6_drop 32 = .ok (.getfield 253, 3) := by decide +kernel
theorem dX6_drop_35 : decode cX6_drop 35 = .ok (.ireturn, 1) := by decide +kernel
set_option maxRecDepth 20000 in
theorem ggX6_item_X6_isSheet : GoodIn wsX6_item wsX6_isSheet := goodIn_r _ [5, 6, 7, 4, 8] (by decide +kernel) (by decide +kernel)
set_option maxRecDepth 20000 in
theorem gX6_item_X6_isSheet : GoodIn wsX6_item (va_wsS RX6 223 yX6_isSheet wsX6_isSheet) := goodIn_app (goodIn_of _ (by decide +kernel)) ggX6_item_X6_isSheet
set_option maxRecDepth 20000 in
theorem ggX6_item_X6_isIn : GoodIn wsX6_item wsX6_isIn := goodIn_r _ [8] (by decide +kernel) (by decide +kernel)
set_option maxRecDepth 20000 in
theorem gX6_item_X6_isIn : GoodIn wsX6_item (va_wsS RX6 42 yX6_isIn wsX6_isIn) := goodIn_app (goodIn_of _ (by decide +kernel)) ggX6_item_X6_isIn
set_option maxRecDepth 20000 in
theorem ggX6_item_X4_whyNotTaken : GoodIn wsX6_item wsX4_whyNotTaken := goodIn_r _ [13, 14, 15, 16, 17, 18, 12, 19, 20, 32, 33, 34, 35] (by decide +kernel) (by decide +kernel)
set_option maxRecDepth 20000 in
theorem gX6_item_X4_whyNotTaken : GoodIn wsX6_item (wsV RX6 226 RX4 yX4_whyNotTaken wsX4_whyNotTaken) := goodIn_app (goodIn_of _ (by decide +kernel)) ggX6_item_X4_whyNotTaken
set_option maxRecDepth 20000 in
theorem ggX6_item_X4_put : GoodIn wsX6_item wsX4_put := goodIn_r _ [24, 15, 25, 32, 33, 34, 35] (by decide +kernel) (by decide +kernel)
set_option maxRecDepth 20000 in
theorem gX6_item_X4_put : GoodIn wsX6_item (wsV RX6 243 RX4 yX4_put wsX4_put) := goodIn_app (goodIn_of _ (by decide +kernel)) ggX6_item_X4_put
theorem dX6_item_0 : decode cX6_item 0 = .ok (.iload_n 1, 1) := by decide +kernel
theorem dX6_item_1 : decode cX6_item 1 = .ok (.invokestatic 223, 3) := by decide +kernel
theorem dX6_item_4 : decode cX6_item 4 = .ok (.ifCond .eq 12, 3) := by decide +kernel
theorem dX6_item_7 : decode cX6_item 7 = .ok (.iload_n 2, 1) := by decide +kernel
theorem dX6_item_8 : decode cX6_item 8 = .ok (.iconst 0, 1) := by decide +kernel
theorem dX6_item_9 : decode cX6_item 9 = .ok (.iconst 3, 1) := by decide +kernel
theorem dX6_item_10 : decode cX6_item 10 = .ok (.invokestatic 42, 3) := by decide +kernel
theorem dX6_item_13 : decode cX6_item 13 = .ok (.ifCond .ne 5, 3) := by decide +kernel
theorem dX6_item_16 : decode cX6_item 16 = .ok (.iconst (-1), 1) := by decide +kernel
theorem dX6_item_17 : decode cX6_item 17 = .ok (.ireturn, 1) := by decide +kernel
theorem dX6_item_18 : decode cX6_item 18 = .ok (.aload_n 0, 1) := by decide +kernel
theorem dX6_item_19 : decode cX6_item 19 = .ok (.getfield 37, 3) := by decide +kernel
theorem dX6_item_22 : decode cX6_item 22 = .ok (.iload_n 1, 1) := by decide +kernel
theorem dX6_item_23 : decode cX6_item 23 = .ok (.aaload, 1) := by decide +kernel
theorem dX6_item_24 : decode cX6_item 24 = .ok (.iload_n 2, 1) := by decide +kernel
theorem dX6_item_25 : decode cX6_item 25 = .ok (.iload_n 3, 1) := by decide +kernel
theorem dX6_item_26 : decode cX6_item 26 = .ok (.iconst 1, 1) := by decide +kernel
theorem dX6_item_27 : decode cX6_item 27 = .ok (.invokevirtual 226, 3) := by decide +kernel
theorem dX6_item_30 : decode cX6_item 30 = .ok (.istore 6, 2) := by decide +kernel
theorem dX6_item_32 : decode cX6_item 32 = .ok (.iload 6, 2) := by decide +kernel
theorem dX6_item_34 : decode cX6_item 34 = .ok (.ifCond .eq 6, 3) := by decide +kernel
theorem dX6_item_37 : decode cX6_item 37 = .ok (.iload 6, 2) := by decide +kernel
theorem dX6_item_39 : decode cX6_item 39 = .ok (.ireturn, 1) := by decide +kernel
theorem dX6_item_40 : decode cX6_item 40 = .ok (.aload_n 0, 1) := by decide +kernel
theorem dX6_item_41 : decode cX6_item 41 = .ok (.getfield 37, 3) := by decide +kernel
theorem dX6_item_44 : decode cX6_item 44 = .ok (.iload_n 1, 1) := by decide +kernel
theorem dX6_item_45 : decode cX6_item 45 = .ok (.aaload, 1) := by decide +kernel
theorem dX6_item_46 : decode cX6_item 46 = .ok (.iload_n 3, 1) := by decide +kernel
theorem dX6_item_47 : decode cX6_item 47 = .ok (.lload 4, 2) := by decide +kernel
theorem dX6_item_49 : decode cX6_item 49 = .ok (.invokevirtual 243, 3) := by decide +kernel
theorem dX6_item_52 : decode cX6_item 52 = .ok (.iconst 1, 1) := by decide +kernel
theorem dX6_item_53 : decode cX6_item 53 = .ok (.ireturn, 1) := by decide +kernel
set_option maxRecDepth 20000 in
theorem ggX6_copy_X6_isSheet : GoodIn wsX6_copy wsX6_isSheet := goodIn_r _ [12, 13, 14, 11, 15] (by decide +kernel) (by decide +kernel)
set_option maxRecDepth 20000 in
theorem gX6_copy_X6_isSheet : GoodIn wsX6_copy (va_wsS RX6 223 yX6_isSheet wsX6_isSheet) := goodIn_app (goodIn_of _ (by decide +kernel)) ggX6_copy_X6_isSheet
set_option maxRecDepth 20000 in
theorem ggX6_copy_X4_reaches : GoodIn wsX6_copy wsX4_reaches := goodIn_r _ [20, 21, 28, 29, 30, 31] (by decide +kernel) (by decide +kernel)
set_option maxRecDepth 20000 in
theorem gX6_copy_X4_reaches : GoodIn wsX6_copy (wsV RX6 257 RX4 yX4_reaches wsX4_reaches) := goodIn_app (goodIn_of _ (by decide +kernel)) ggX6_copy_X4_reaches
theorem dX6_copy_0 : decode cX6_copy 0 = .ok (.iload_n 1, 1) := by decide +kernel
theorem dX6_copy_1 : decode cX6_copy 1 = .ok (.invokestatic 223, 3) := by decide +kernel
theorem dX6_copy_4 : decode cX6_copy 4 = .ok (.ifCond .eq 10, 3) := by decide +kernel
theorem dX6_copy_7 : decode cX6_copy 7 = .ok (.iload_n 3, 1) := by decide +kernel
theorem dX6_copy_8 : decode cX6_copy 8 = .ok (.invokestatic 223, 3) := by decide +kernel
theorem dX6_copy_11 : decode cX6_copy 11 = .ok (.ifCond .ne 5, 3) := by decide +kernel
theorem dX6_copy_14 : decode cX6_copy 14 = .ok (.iconst (-1), 1) := by decide +kernel
theorem dX6_copy_15 : decode cX6_copy 15 = .ok (.ireturn, 1) := by decide +kernel
theorem dX6_copy_16 : decode cX6_copy 16 = .ok (.aload_n 0, 1) := by decide +kernel
theorem dX6_copy_17 : decode cX6_copy 17 = .ok (.getfield 37, 3) := by decide +kernel
theorem dX6_copy_20 : decode cX6_copy 20 = .ok (.iload_n 1, 1) := by decide +kernel
theorem dX6_copy_21 : decode cX6_copy 21 = .ok (.aaload, 1) := by decide +kernel
theorem dX6_copy_22 : decode cX6_copy 22 = .ok (.astore 6, 2) := by decide +kernel
theorem dX6_copy_24 : decode cX6_copy 24 = .ok (.aload_n 0, 1) := by decide +kernel
theorem dX6_copy_25 : decode cX6_copy 25 = .ok (.getfield 37, 3) := by decide +kernel
theorem dX6_copy_28 : decode cX6_copy 28 = .ok (.iload_n 3, 1) := by decide +kernel
theorem dX6_copy_29 : decode cX6_copy 29 = .ok (.aaload, 1) := by decide +kernel
theorem dX6_copy_30 : decode cX6_copy 30 = .ok (.astore 7, 2) := by decide +kernel
theorem dX6_copy_32 : decode cX6_copy 32 = .ok (.aload 6, 2) := by decide +kernel
theorem dX6_copy_34 : decode cX6_copy 34 = .ok (.getfield 250, 3) := by decide +kernel
theorem dX6_copy_37 : decode cX6_copy 37 = .ok (.ifCond .eq 11, 3) := by decide +kernel
theorem dX6_copy_40 : decode cX6_copy 40 = .ok (.aload 7, 2) := by decide +kernel
theorem dX6_copy_42 : decode cX6_copy 42 = .ok (.getfield 250, 3) := by decide +kernel
theorem dX6_copy_45 : decode cX6_copy 45 = .ok (.ifCond .ne 6, 3) := by decide +kernel
theorem dX6_copy_48 : decode cX6_copy 48 = .ok (.bipush (-11), 2) := by decide +kernel
theorem dX6_copy_50 : decode cX6_copy 50 = .ok (.ireturn, 1) := by decide +kernel
theorem dX6_copy_51 : decode cX6_copy 51 = .ok (.aload 6, 2) := by decide +kernel
theorem dX6_copy_53 : decode cX6_copy 53 = .ok (.getfield 254, 3) := by decide +kernel
theorem dX6_copy_56 : decode cX6_copy 56 = .ok (.aload 7, 2) := by decide +kernel
theorem dX6_copy_58 : decode cX6_copy 58 = .ok (.getfield 254, 3) := by decide +kernel
theorem dX6_copy_61 : decode cX6_copy 61 = .ok (.if_icmp .eq 6, 3) := by decide +kernel
theorem dX6_copy_64 : decode cX6_copy 64 = .ok (.bipush (-12), 2) := by decide +kernel
theorem dX6_copy_66 : decode cX6_copy 66 = .ok (.ireturn, 1) := by decide +kernel
theorem dX6_copy_67 : decode cX6_copy 67 = .ok (.aload 6, 2) := by decide +kernel
theorem dX6_copy_69 : decode cX6_copy 69 = .ok (.iload_n 2, 1) := by decide +kernel
theorem dX6_copy_70 : decode cX6_copy 70 = .ok (.iload 5, 2) := by decide +kernel
theorem dX6_copy_72 : decode cX6_copy 72 = .ok (.invokevirtual 257, 3) := by decide +kernel
theorem dX6_copy_75 : decode cX6_copy 75 = .ok (.ifCond .eq 15, 3) := by decide +kernel
theorem dX6_copy_78 : decode cX6_copy 78 = .ok (.aload 7, 2) := by decide +kernel
theorem dX6_copy_80 : decode cX6_copy 80 = .ok (.iload 4, 2) := by decide +kernel
theorem dX6_copy_82 : decode cX6_copy 82 = .ok (.iload 5, 2) := by decide +kernel
theorem dX6_copy_84 : decode cX6_copy 84 = .ok (.invokevirtual 257, 3) := by decide +kernel
theorem dX6_copy_87 : decode cX6_copy 87 = .ok (.ifCond .ne 6, 3) := by decide +kernel
theorem dX6_copy_90 : decode cX6_copy 90 = .ok (.bipush (-13), 2) := by decide +kernel
theorem dX6_copy_92 : decode cX6_copy 92 = .ok (.ireturn, 1) := by decide +kernel
theorem dX6_copy_93 : decode cX6_copy 93 = .ok (.aload 6, 2) := by decide +kernel
theorem dX6_copy_95 : decode cX6_copy 95 = .ok (.getfield 260, 3) := by decide +kernel
theorem dX6_copy_98 : decode cX6_copy 98 = .ok (.iload_n 2, 1) := by decide +kernel
theorem dX6_copy_99 : decode cX6_copy 99 = .ok (.aload 7, 2) := by decide +kernel
theorem dX6_copy_101 : decode cX6_copy 101 = .ok (.getfield 260, 3) := by decide +kernel
theorem dX6_copy_104 : decode cX6_copy 104 = .ok (.iload 4, 2) := by decide +kernel
theorem dX6_copy_106 : decode cX6_copy 106 = .ok (.iload 5, 2) := by decide +kernel
theorem dX6_copy_108 : decode cX6_copy 108 = .ok (.invokestatic 264, 3) := by decide +kernel
theorem dX6_copy_111 : decode cX6_copy 111 = .ok (.iload 5, 2) := by decide +kernel
theorem dX6_copy_113 : decode cX6_copy 113 = .ok (.ireturn, 1) := by decide +kernel
theorem dX6_isIn_0 : decode cX6_isIn 0 = .ok (.iload_n 0, 1) := by decide +kernel
theorem dX6_isIn_1 : decode cX6_isIn 1 = .ok (.iload_n 1, 1) := by decide +kernel
theorem dX6_isIn_2 : decode cX6_isIn 2 = .ok (.if_icmp .lt 12, 3) := by decide +kernel
theorem dX6_isIn_5 : decode cX6_isIn 5 = .ok (.iload_n 0, 1) := by decide +kernel
theorem dX6_isIn_6 : decode cX6_isIn 6 = .ok (.iload_n 2, 1) := by decide +kernel
theorem dX6_isIn_7 : decode cX6_isIn 7 = .ok (.if_icmp .gt 7, 3) := by decide +kernel
theorem dX6_isIn_10 : decode cX6_isIn 10 = .ok (.iconst 1, 1) := by decide +kernel
theorem dX6_isIn_11 : decode cX6_isIn 11 = .ok (.goto 4, 3) := by decide +kernel
theorem dX6_isIn_14 : decode cX6_isIn 14 = .ok (.iconst 0, 1) := by decide +kernel
theorem dX6_isIn_15 : decode cX6_isIn 15 = .ok (.ireturn, 1) := by decide +kernel
theorem dX6_has_0 : decode cX6_has 0 = .ok (.iload_n 0, 1) := by decide +kernel
theorem dX6_has_1 : decode cX6_has 1 = .ok (.iload_n 1, 1) := by decide +kernel
theorem dX6_has_2 : decode cX6_has 2 = .ok (.ishr, 1) := by decide +kernel
theorem dX6_has_3 : decode cX6_has 3 = .ok (.iconst 1, 1) := by decide +kernel
theorem dX6_has_4 : decode cX6_has 4 = .ok (.iand, 1) := by decide +kernel
theorem dX6_has_5 : decode cX6_has 5 = .ok (.iconst 1, 1) := by decide +kernel
theorem dX6_has_6 : decode cX6_has 6 = .ok (.if_icmp .ne 7, 3) := by decide +kernel
theorem dX6_has_9 : decode cX6_has 9 = .ok (.iconst 1, 1) := by decide +kernel
theorem dX6_has_10 : decode cX6_has 10 = .ok (.goto 4, 3) := by decide +kernel
theorem dX6_has_13 : decode cX6_has 13 = .ok (.iconst 0, 1) := by decide +kernel
theorem dX6_has_14 : decode cX6_has 14 = .ok (.ireturn, 1) := by decide +kernel
set_option maxRecDepth 20000 in
theorem ggX6_isSpeaker_X6_isIn : GoodIn wsX6_isSpeaker wsX6_isIn := goodIn_r _ [6] (by decide +kernel) (by decide +kernel)
set_option maxRecDepth 20000 in
theorem gX6_isSpeaker_X6_isIn : GoodIn wsX6_isSpeaker (va_wsS RX6 42 yX6_isIn wsX6_isIn) := goodIn_app (goodIn_of _ (by decide +kernel)) ggX6_isSpeaker_X6_isIn
theorem dX6_isSpeaker_0 : decode cX6_isSpeaker 0 = .ok (.iload_n 1, 1) := by decide +kernel
theorem dX6_isSpeaker_1 : decode cX6_isSpeaker 1 = .ok (.iconst 0, 1) := by decide +kernel
theorem dX6_isSpeaker_2 : decode cX6_isSpeaker 2 = .ok (.aload_n 0, 1) := by decide +kernel
theorem dX6_isSpeaker_3 : decode cX6_isSpeaker 3 = .ok (.getfield 12, 3) := by decide +kernel
theorem dX6_isSpeaker_6 : decode cX6_isSpeaker 6 = .ok (.getfield 46, 3) := by decide +kernel
theorem dX6_isSpeaker_9 : decode cX6_isSpeaker 9 = .ok (.iconst 1, 1) := by decide +kernel
theorem dX6_isSpeaker_10 : decode cX6_isSpeaker 10 = .ok (.isub, 1) := by decide +kernel
theorem dX6_isSpeaker_11 : decode cX6_isSpeaker 11 = .ok (.invokestatic 42, 3) := by decide +kernel
theorem dX6_isSpeaker_14 : decode cX6_isSpeaker 14 = .ok (.ireturn, 1) := by decide +kernel
set_option maxRecDepth 20000 in
theorem ggX6_isWord_X6_isIn : GoodIn wsX6_isWord wsX6_isIn := goodIn_r _ [6] (by decide +kernel) (by decide +kernel)
set_option maxRecDepth 20000 in
theorem gX6_isWord_X6_isIn : GoodIn wsX6_isWord (va_wsS RX6 42 yX6_isIn wsX6_isIn) := goodIn_app (goodIn_of _ (by decide +kernel)) ggX6_isWord_X6_isIn
theorem dX6_isWord_0 : decode cX6_isWord 0 = .ok (.iload_n 1, 1) := by decide +kernel
theorem dX6_isWord_1 : decode cX6_isWord 1 = .ok (.iconst 0, 1) := by decide +kernel
theorem dX6_isWord_2 : decode cX6_isWord 2 = .ok (.aload_n 0, 1) := by decide +kernel
theorem dX6_isWord_3 : decode cX6_isWord 3 = .ok (.getfield 12, 3) := by decide +kernel
theorem dX6_isWord_6 : decode cX6_isWord 6 = .ok (.getfield 65, 3) := by decide +kernel
theorem dX6_isWord_9 : decode cX6_isWord 9 = .ok (.iconst 1, 1) := by decide +kernel
theorem dX6_isWord_10 : decode cX6_isWord 10 = .ok (.isub, 1) := by decide +kernel
theorem dX6_isWord_11 : decode cX6_isWord 11 = .ok (.invokestatic 42, 3) := by decide +kernel
theorem dX6_isWord_14 : decode cX6_isWord 14 = .ok (.ireturn, 1) := by decide +kernel
set_option maxRecDepth 20000 in
theorem ggX6_isSheet_X6_isIn : GoodIn wsX6_isSheet wsX6_isIn := goodIn_r _ [4] (by decide +kernel) (by decide +kernel)
set_option maxRecDepth 20000 in
theorem gX6_isSheet_X6_isIn : GoodIn wsX6_isSheet (va_wsS RX6 42 yX6_isIn wsX6_isIn) := goodIn_app (goodIn_of _ (by decide +kernel)) ggX6_isSheet_X6_isIn
theorem dX6_isSheet_0 : decode cX6_isSheet 0 = .ok (.iload_n 0, 1) := by decide +kernel
theorem dX6_isSheet_1 : decode cX6_isSheet 1 = .ok (.iconst 0, 1) := by decide +kernel
theorem dX6_isSheet_2 : decode cX6_isSheet 2 = .ok (.iconst 3, 1) := by decide +kernel
theorem dX6_isSheet_3 : decode cX6_isSheet 3 = .ok (.invokestatic 42, 3) := by decide +kernel
theorem dX6_isSheet_6 : decode cX6_isSheet 6 = .ok (.ireturn, 1) := by decide +kernel
set_option maxRecDepth 20000 in
theorem ggX6_whyNotAsked_X6_isSpeaker : GoodIn wsX6_whyNotAsked wsX6_isSpeaker := goodIn_r _ [9, 1, 10, 11, 12, 8, 13, 19, 20, 21, 22, 23, 24, 25, 26, 27, 28, 29, 30, 31, 32, 33, 34, 35] (by decide +kernel) (by decide +kernel)
set_option maxRecDepth 20000 in
theorem gX6_whyNotAsked_X6_isSpeaker : GoodIn wsX6_whyNotAsked (wsV RX6 61 RX6 yX6_isSpeaker wsX6_isSpeaker) := goodIn_app (goodIn_of _ (by decide +kernel)) ggX6_whyNotAsked_X6_isSpeaker
set_option maxRecDepth 20000 in
theorem ggX6_whyNotAsked_X6_isWord : GoodIn wsX6_whyNotAsked wsX6_isWord := goodIn_r _ [17, 1, 18, 11, 12, 8, 13, 19, 20, 21, 22, 23, 24, 25, 26, 27, 28, 29, 30, 31, 32, 33, 34, 35] (by decide +kernel) (by decide +kernel)
set_option maxRecDepth 20000 in
theorem gX6_whyNotAsked_X6_isWord : GoodIn wsX6_whyNotAsked (wsV RX6 96 RX6 yX6_isWord wsX6_isWord) := goodIn_app (goodIn_of _ (by decide +kernel)) ggX6_whyNotAsked_X6_isWord
theorem dX6_whyNotAsked_0 : decode cX6_whyNotAsked 0 = .ok (.aload_n 0, 1) := by decide +kernel
theorem dX6_whyNotAsked_1 : decode cX6_whyNotAsked 1 = .ok (.iload_n 1, 1) := by decide +kernel
theorem dX6_whyNotAsked_2 : decode cX6_whyNotAsked 2 = .ok (.invokevirtual 61, 3) := by decide +kernel
theorem dX6_whyNotAsked_5 : decode cX6_whyNotAsked 5 = .ok (.ifCond .eq 11, 3) := by decide +kernel
theorem dX6_whyNotAsked_8 : decode cX6_whyNotAsked 8 = .ok (.aload_n 0, 1) := by decide +kernel
theorem dX6_whyNotAsked_9 : decode cX6_whyNotAsked 9 = .ok (.iload_n 2, 1) := by decide +kernel
theorem dX6_whyNotAsked_10 : decode cX6_whyNotAsked 10 = .ok (.invokevirtual 96, 3) := by decide +kernel
theorem dX6_whyNotAsked_13 : decode cX6_whyNotAsked 13 = .ok (.ifCond .ne 5, 3) := by decide +kernel
theorem dX6_whyNotAsked_16 : decode cX6_whyNotAsked 16 = .ok (.iconst (-1), 1) := by decide +kernel
theorem dX6_whyNotAsked_17 : decode cX6_whyNotAsked 17 = .ok (.ireturn, 1) := by decide +kernel
theorem dX6_whyNotAsked_18 : decode cX6_whyNotAsked 18 = .ok (.aload_n 0, 1) := by decide +kernel
theorem dX6_whyNotAsked_19 : decode cX6_whyNotAsked 19 = .ok (.getfield 12, 3) := by decide +kernel
theorem dX6_whyNotAsked_22 : decode cX6_whyNotAsked 22 = .ok (.getfield 84, 3) := by decide +kernel
theorem dX6_whyNotAsked_25 : decode cX6_whyNotAsked 25 = .ok (.getfield 88, 3) := by decide +kernel
theorem dX6_whyNotAsked_28 : decode cX6_whyNotAsked 28 = .ok (.iload_n 1, 1) := by decide +kernel
theorem dX6_whyNotAsked_29 : decode cX6_whyNotAsked 29 = .ok (.iaload, 1) := by decide +kernel
theorem dX6_whyNotAsked_30 : decode cX6_whyNotAsked 30 = .ok (.ifCond .eq 6, 3) := by decide +kernel
theorem dX6_whyNotAsked_33 : decode cX6_whyNotAsked 33 = .ok (.bipush (-2), 2) := by decide +kernel
theorem dX6_whyNotAsked_35 : decode cX6_whyNotAsked 35 = .ok (.ireturn, 1) := by decide +kernel
theorem dX6_whyNotAsked_36 : decode cX6_whyNotAsked 36 = .ok (.aload_n 0, 1) := by decide +kernel
theorem dX6_whyNotAsked_37 : decode cX6_whyNotAsked 37 = .ok (.getfield 12, 3) := by decide +kernel
theorem dX6_whyNotAsked_40 : decode cX6_whyNotAsked 40 = .ok (.getfield 84, 3) := by decide +kernel
theorem dX6_whyNotAsked_43 : decode cX6_whyNotAsked 43 = .ok (.getfield 126, 3) := by decide +kernel
theorem dX6_whyNotAsked_46 : decode cX6_whyNotAsked 46 = .ok (.sipush 9999, 3) := by decide +kernel
theorem dX6_whyNotAsked_49 : decode cX6_whyNotAsked 49 = .ok (.if_icmp .lt 8, 3) := by decide +kernel
theorem dX6_whyNotAsked_52 : decode cX6_whyNotAsked 52 = .ok (.bipush (-3), 2) := by decide +kernel
theorem dX6_whyNotAsked_54 : decode cX6_whyNotAsked 54 = .ok (.goto 4, 3) := by decide +kernel
theorem dX6_whyNotAsked_57 : decode cX6_whyNotAsked 57 = .ok (.iconst 0, 1) := by decide +kernel
theorem dX6_whyNotAsked_58 : decode cX6_whyNotAsked 58 = .ok (.ireturn, 1) := by decide +kernel
theorem dX6_areTold_0 : decode cX6_areTold 0 = .ok (.iload_n 2, 1) := by decide +kernel
theorem dX6_areTold_1 : decode cX6_areTold 1 = .ok (.istore 4, 2) := by decide +kernel
theorem dX6_areTold_3 : decode cX6_areTold 3 = .ok (.iload 4, 2) := by decide +kernel
theorem dX6_areTold_5 : decode cX6_areTold 5 = .ok (.iload_n 2, 1) := by decide +kernel
theorem dX6_areTold_6 : decode cX6_areTold 6 = .ok (.iconst 2, 1) := by decide +kernel
theorem dX6_areTold_7 : decode cX6_areTold 7 = .ok (.iload_n 3, 1) := by decide +kernel
theorem dX6_areTold_8 : decode cX6_areTold 8 = .ok (.imul, 1) := by decide +kernel
theorem dX6_areTold_9 : decode cX6_areTold 9 = .ok (.iadd, 1) := by decide +kernel
theorem dX6_areTold_10 : decode cX6_areTold 10 = .ok (.if_icmp .ge 66, 3) := by decide +kernel
theorem dX6_areTold_13 : decode cX6_areTold 13 = .ok (.aload_n 1, 1) := by decide +kernel
theorem dX6_areTold_14 : decode cX6_areTold 14 = .ok (.getfield 260, 3) := by decide +kernel
theorem dX6_areTold_17 : decode cX6_areTold 17 = .ok (.iload 4, 2) := by decide +kernel
theorem dX6_areTold_19 : decode cX6_areTold 19 = .ok (.laload, 1) := by decide +kernel
theorem dX6_areTold_20 : decode cX6_areTold 20 = .ok (.lstore 5, 2) := by decide +kernel
theorem dX6_areTold_22 : decode cX6_areTold 22 = .ok (.aload_n 1, 1) := by decide +kernel
theorem dX6_areTold_23 : decode cX6_areTold 23 = .ok (.getfield 260, 3) := by decide +kernel
theorem dX6_areTold_26 : decode cX6_areTold 26 = .ok (.iload 4, 2) := by decide +kernel
theorem dX6_areTold_28 : decode cX6_areTold 28 = .ok (.iconst 1, 1) := by decide +kernel
theorem dX6_areTold_29 : decode cX6_areTold 29 = .ok (.iadd, 1) := by decide +kernel
theorem dX6_areTold_30 : decode cX6_areTold 30 = .ok (.laload, 1) := by decide +kernel
theorem dX6_areTold_31 : decode cX6_areTold 31 = .ok (.lstore 7, 2) := by decide +kernel
theorem dX6_areTold_33 : decode cX6_areTold 33 = .ok (.lload 5, 2) := by decide +kernel
theorem dX6_areTold_35 : decode cX6_areTold 35 = .ok (.lconst 0, 1) := by decide +kernel
theorem dX6_areTold_36 : decode cX6_areTold 36 = .ok (.lcmp, 1) := by decide +kernel
theorem dX6_areTold_37 : decode cX6_areTold 37 = .ok (.ifCond .lt 31, 3) := by decide +kernel
theorem dX6_areTold_40 : decode cX6_areTold 40 = .ok (.lload 5, 2) := by decide +kernel
theorem dX6_areTold_42 : decode cX6_areTold 42 = .ok (.aload_n 0, 1) := by decide +kernel
theorem dX6_areTold_43 : decode cX6_areTold 43 = .ok (.getfield 12, 3) := by decide +kernel
theorem dX6_areTold_46 : decode cX6_areTold 46 = .ok (.getfield 65, 3) := by decide +kernel
theorem dX6_areTold_49 : decode cX6_areTold 49 = .ok (.i2l, 1) := by decide +kernel
theorem dX6_areTold_50 : decode cX6_areTold 50 = .ok (.lcmp, 1) := by decide +kernel
theorem dX6_areTold_51 : decode cX6_areTold 51 = .ok (.ifCond .ge 17, 3) := by decide +kernel
theorem dX6_areTold_54 : decode cX6_areTold 54 = .ok (.lload 7, 2) := by decide +kernel
theorem dX6_areTold_56 : decode cX6_areTold 56 = .ok (.lconst 0, 1) := by decide +kernel
theorem dX6_areTold_57 : decode cX6_areTold 57 = .ok (.lcmp, 1) := by decide +kernel
theorem dX6_areTold_58 : decode cX6_areTold 58 = .ok (.ifCond .lt 10, 3) := by decide +kernel
theorem dX6_areTold_61 : decode cX6_areTold 61 = .ok (.lload 7, 2) := by decide +kernel
theorem dX6_areTold_63 : decode cX6_areTold 63 = .ok (.lconst 1, 1) := by decide +kernel
theorem dX6_areTold_64 : decode cX6_areTold 64 = .ok (.lcmp, 1) := by decide +kernel
theorem dX6_areTold_65 : decode cX6_areTold 65 = .ok (.ifCond .le 5, 3) := by decide +kernel
theorem dX6_areTold_68 : decode cX6_areTold 68 = .ok (.iconst 0, 1) := by decide +kernel
theorem dX6_areTold_69 : decode cX6_areTold 69 = .ok (.ireturn, 1) := by decide +kernel
theorem dX6_areTold_70 : decode cX6_areTold 70 = .ok (.iinc 4 2, 3) := by decide +kernel
theorem dX6_areTold_73 : decode cX6_areTold 73 = .ok (.goto (-70), 3) := by decide +kernel
theorem dX6_areTold_76 : decode cX6_areTold 76 = .ok (.iconst 1, 1) := by decide +kernel
theorem dX6_areTold_77 : decode cX6_areTold 77 = .ok (.ireturn, 1) := by decide +kernel
theorem dX7_in_0 : decode cX7_in 0 = .ok (.lload_n 0, 1) := by decide +kernel
theorem dX7_in_1 : decode cX7_in 1 = .ok (.lload_n 2, 1) := by decide +kernel
theorem dX7_in_2 : decode cX7_in 2 = .ok (.lcmp, 1) := by decide +kernel
theorem dX7_in_3 : decode cX7_in 3 = .ok (.ifCond .lt 14, 3) := by decide +kernel
theorem dX7_in_6 : decode cX7_in 6 = .ok (.lload_n 0, 1) := by decide +kernel
theorem dX7_in_7 : decode cX7_in 7 = .ok (.lload 4, 2) := by decide +kernel
theorem dX7_in_9 : decode cX7_in 9 = .ok (.lcmp, 1) := by decide +kernel
theorem dX7_in_10 : decode cX7_in 10 = .ok (.ifCond .gt 7, 3) := by decide +kernel
theorem dX7_in_13 : decode cX7_in 13 = .ok (.iconst 1, 1) := by decide +kernel
theorem dX7_in_14 : decode cX7_in 14 = .ok (.goto 4, 3) := by decide +kernel
theorem dX7_in_17 : decode cX7_in 17 = .ok (.iconst 0, 1) := by decide +kernel
theorem dX7_in_18 : decode cX7_in 18 = .ok (.ireturn, 1) := by decide +kernel
theorem dX7_init_0 : decode cX7_init 0 = .ok (.aload_n 0, 1) := by decide +kernel
theorem dX7_init_1 : decode cX7_init 1 = .ok (.invokespecial 1, 3) := by decide +kernel
theorem dX7_init_4 : decode cX7_init 4 = .ok (.aload_n 0, 1) := by decide +kernel
theorem dX7_init_5 : decode cX7_init 5 = .ok (.bipush 115, 2) := by decide +kernel
theorem dX7_init_7 : decode cX7_init 7 = .ok (.newarray .int, 2) := by decide +kernel
theorem dX7_init_9 : decode cX7_init 9 = .ok (.putfield 7, 3) := by decide +kernel
theorem dX7_init_12 : decode cX7_init 12 = .ok (.aload_n 0, 1) := by decide +kernel
theorem dX7_init_13 : decode cX7_init 13 = .ok (.bipush 90, 2) := by decide +kernel
theorem dX7_init_15 : decode cX7_init 15 = .ok (.newarray .int, 2) := by decide +kernel
theorem dX7_init_17 : decode cX7_init 17 = .ok (.putfield 13, 3) := by decide +kernel
theorem dX7_init_20 : decode cX7_init 20 = .ok (.aload_n 0, 1) := by decide +kernel
theorem dX7_init_21 : decode cX7_init 21 = .ok (.bipush 48, 2) := by decide +kernel
theorem dX7_init_23 : decode cX7_init 23 = .ok (.newarray .int, 2) := by decide +kernel
theorem dX7_init_25 : decode cX7_init 25 = .ok (.putfield 16, 3) := by decide +kernel
theorem dX7_init_28 : decode cX7_init 28 = .ok (.aload_n 0, 1) := by decide +kernel
theorem dX7_init_29 : decode cX7_init 29 = .ok (.bipush 6, 2) := by decide +kernel
theorem dX7_init_31 : decode cX7_init 31 = .ok (.newarray .int, 2) := by decide +kernel
theorem dX7_init_33 : decode cX7_init 33 = .ok (.putfield 19, 3) := by decide +kernel
theorem dX7_init_36 : decode cX7_init 36 = .ok (.aload_n 0, 1) := by decide +kernel
theorem dX7_init_37 : decode cX7_init 37 = .ok (.sipush 920, 3) := by decide +kernel
theorem dX7_init_40 : decode cX7_init 40 = .ok (.newarray .int, 2) := by decide +kernel
theorem dX7_init_42 : decode cX7_init 42 = .ok (.putfield 22, 3) := by decide +kernel
theorem dX7_init_45 : decode cX7_init 45 = .ok (.aload_n 0, 1) := by decide +kernel
theorem dX7_init_46 : decode cX7_init 46 = .ok (.bipush 64, 2) := by decide +kernel
theorem dX7_init_48 : decode cX7_init 48 = .ok (.newarray .int, 2) := by decide +kernel
theorem dX7_init_50 : decode cX7_init 50 = .ok (.putfield 25, 3) := by decide +kernel
theorem dX7_init_53 : decode cX7_init 53 = .ok (.aload_n 0, 1) := by decide +kernel
theorem dX7_init_54 : decode cX7_init 54 = .ok (.sipush 1035, 3) := by decide +kernel
theorem dX7_init_57 : decode cX7_init 57 = .ok (.newarray .int, 2) := by decide +kernel
theorem dX7_init_59 : decode cX7_init 59 = .ok (.putfield 28, 3) := by decide +kernel
theorem dX7_init_62 : decode cX7_init 62 = .ok (.aload_n 0, 1) := by decide +kernel
theorem dX7_init_63 : decode cX7_init 63 = .ok (.iconst 4, 1) := by decide +kernel
theorem dX7_init_64 : decode cX7_init 64 = .ok (.newarray .int, 2) := by decide +kernel
theorem dX7_init_66 : decode cX7_init 66 = .ok (.putfield 31, 3) := by decide +kernel
theorem dX7_init_69 : decode cX7_init 69 = .ok (.aload_n 0, 1) := by decide +kernel
theorem dX7_init_70 : decode cX7_init 70 = .ok (.iconst 4, 1) := by decide +kernel
theorem dX7_init_71 : decode cX7_init 71 = .ok (.newarray .int, 2) := by decide +kernel
theorem dX7_init_73 : decode cX7_init 73 = .ok (.putfield 34, 3) := by decide +kernel
theorem dX7_init_76 : decode cX7_init 76 = .ok (.aload_n 0, 1) := by decide +kernel
theorem dX7_init_77 : decode cX7_init 77 = .ok (.bipush 96, 2) := by decide +kernel
theorem dX7_init_79 : decode cX7_init 79 = .ok (.newarray .long, 2) := by decide +kernel
theorem dX7_init_81 : decode cX7_init 81 = .ok (.putfield 37, 3) := by decide +kernel
theorem dX7_init_84 : decode cX7_init 84 = .ok (.aload_n 0, 1) := by decide +kernel
theorem dX7_init_85 : decode cX7_init 85 = .ok (.bipush 24, 2) := by decide +kernel
theorem dX7_init_87 : decode cX7_init 87 = .ok (.newarray .long, 2) := by decide +kernel
theorem dX7_init_89 : decode cX7_init 89 = .ok (.putfield 41, 3) := by decide +kernel
theorem dX7_init_92 : decode cX7_init 92 = .ok (.aload_n 0, 1) := by decide +kernel
theorem dX7_init_93 : decode cX7_init 93 = .ok (.getfield 7, 3) := by decide +kernel
theorem dX7_init_96 : decode cX7_init 96 = .ok (.iconst 2, 1) := by decide +kernel
theorem dX7_init_97 : decode cX7_init 97 = .ok (.bipush 9, 2) := by decide +kernel
theorem dX7_init_99 : decode cX7_init 99 = .ok (.iastore, 1) := by decide +kernel
theorem dX7_init_100 : decode cX7_init 100 = .ok (.aload_n 0, 1) := by decide +kernel
theorem dX7_init_101 : decode cX7_init 101 = .ok (.getfield 7, 3) := by decide +kernel
theorem dX7_init_104 : decode cX7_init 104 = .ok (.iconst 3, 1) := by decide +kernel
theorem dX7_init_105 : decode cX7_init 105 = .ok (.iconst 4, 1) := by decide +kernel
theorem dX7_init_106 : decode cX7_init 106 = .ok (.iastore, 1) := by decide +kernel
theorem dX7_init_107 : decode cX7_init 107 = .ok (.aload_n 0, 1) := by decide +kernel
theorem dX7_init_108 : decode cX7_init 108 = .ok (.getfield 7, 3) := by decide +kernel
theorem dX7_init_111 : decode cX7_init 111 = .ok (.iconst 5, 1) := by decide +kernel
theorem dX7_init_112 : decode cX7_init 112 = .ok (.iconst 1, 1) := by decide +kernel
theorem dX7_init_113 : decode cX7_init 113 = .ok (.iastore, 1) := by decide +kernel
theorem dX7_init_114 : decode cX7_init 114 = .ok (.iconst 0, 1) := by decide +kernel
theorem dX7_init_115 : decode cX7_init 115 = .ok (.istore_n 1, 1) := by decide +kernel
theorem dX7_init_116 : decode cX7_init 116 = .ok (.iload_n 1, 1) := by decide +kernel
theorem dX7_init_117 : decode cX7_init 117 = .ok (.iconst 4, 1) := by decide +kernel
theorem dX7_init_118 : decode cX7_init 118 = .ok (.if_icmp .ge 16, 3) := by decide +kernel
theorem dX7_init_121 : decode cX7_init 121 = .ok (.aload_n 0, 1) := by decide +kernel
theorem dX7_init_122 : decode cX7_init 122 = .ok (.getfield 31, 3) := by decide +kernel
theorem dX7_init_125 : decode cX7_init 125 = .ok (.iload_n 1, 1) := by decide +kernel
theorem dX7_init_126 : decode cX7_init 126 = .ok (.iconst (-1), 1) := by decide +kernel
theorem dX7_init_127 : decode cX7_init 127 = .ok (.iastore, 1) := by decide +kernel
theorem dX7_init_128 : decode cX7_init 128 = .ok (.iinc 1 1, 3) := by decide +kernel
theorem dX7_init_131 : decode cX7_init 131 = .ok (.goto (-15), 3) := by decide +kernel
theorem dX7_init_134 : decode cX7_init 134 = .ok (.return_, 1) := by decide +kernel
set_option maxRecDepth 20000 in
theorem ggX7_isSpeaker_X7_in : GoodIn wsX7_isSpeaker wsX7_in := goodIn_r _ [5] (by decide +kernel) (by decide +kernel)
set_option maxRecDepth 20000 in
theorem gX7_isSpeaker_X7_in : GoodIn wsX7_isSpeaker (va_wsS RX7 44 yX7_in wsX7_in) := goodIn_app (goodIn_of _ (by decide +kernel)) ggX7_isSpeaker_X7_in
theorem dX7_isSpeaker_0 : decode cX7_isSpeaker 0 = .ok (.iload_n 1, 1) := by decide +kernel
theorem dX7_isSpeaker_1 : decode cX7_isSpeaker 1 = .ok (.i2l, 1) := by decide +kernel
theorem dX7_isSpeaker_2 : decode cX7_isSpeaker 2 = .ok (.lconst 0, 1) := by decide +kernel
theorem dX7_isSpeaker_3 : decode cX7_isSpeaker 3 = .ok (.aload_n 0, 1) := by decide +kernel
theorem dX7_isSpeaker_4 : decode cX7_isSpeaker 4 = .ok (.getfield 7, 3) := by decide +kernel
theorem dX7_isSpeaker_7 : decode cX7_isSpeaker 7 = .ok (.iconst 0, 1) := by decide +kernel
theorem dX7_isSpeaker_8 : decode cX7_isSpeaker 8 = .ok (.iaload, 1) := by decide +kernel
theorem dX7_isSpeaker_9 : decode cX7_isSpeaker 9 = .ok (.iconst 1, 1) := by decide +kernel
theorem dX7_isSpeaker_10 : decode cX7_isSpeaker 10 = .ok (.isub, 1) := by decide +kernel
theorem dX7_isSpeaker_11 : decode cX7_isSpeaker 11 = .ok (.i2l, 1) := by decide +kernel
theorem dX7_isSpeaker_12 : decode cX7_isSpeaker 12 = .ok (.invokestatic 44, 3) := by decide +kernel
theorem dX7_isSpeaker_15 : decode cX7_isSpeaker 15 = .ok (.ireturn, 1) := by decide +kernel
set_option maxRecDepth 20000 in
theorem ggX7_isWord_X7_in : GoodIn wsX7_isWord wsX7_in := goodIn_r _ [5] (by decide +kernel) (by decide +kernel)
set_option maxRecDepth 20000 in
theorem gX7_isWord_X7_in : GoodIn wsX7_isWord (va_wsS RX7 44 yX7_in wsX7_in) := goodIn_app (goodIn_of _ (by decide +kernel)) ggX7_isWord_X7_in
theorem dX7_isWord_0 : decode cX7_isWord 0 = .ok (.iload_n 1, 1) := by decide +kernel
theorem dX7_isWord_1 : decode cX7_isWord 1 = .ok (.i2l, 1) := by decide +kernel
theorem dX7_isWord_2 : decode cX7_isWord 2 = .ok (.lconst 0, 1) := by decide +kernel
theorem dX7_isWord_3 : decode cX7_isWord 3 = .ok (.aload_n 0, 1) := by decide +kernel
theorem dX7_isWord_4 : decode cX7_isWord 4 = .ok (.getfield 7, 3) := by decide +kernel
theorem dX7_isWord_7 : decode cX7_isWord 7 = .ok (.iconst 1, 1) := by decide +kernel
theorem dX7_isWord_8 : decode cX7_isWord 8 = .ok (.iaload, 1) := by decide +kernel
theorem dX7_isWord_9 : decode cX7_isWord 9 = .ok (.iconst 1, 1) := by decide +kernel
theorem dX7_isWord_10 : decode cX7_isWord 10 = .ok (.isub, 1) := by decide +kernel
theorem dX7_isWord_11 : decode cX7_isWord 11 = .ok (.i2l, 1) := by decide +kernel
theorem dX7_isWord_12 : decode cX7_isWord 12 = .ok (.invokestatic 44, 3) := by decide +kernel
theorem dX7_isWord_15 : decode cX7_isWord 15 = .ok (.ireturn, 1) := by decide +kernel
theorem dX7_told_0 : decode cX7_told 0 = .ok (.aload_n 0, 1) := by decide +kernel
theorem dX7_told_1 : decode cX7_told 1 = .ok (.getfield 7, 3) := by decide +kernel
theorem dX7_told_4 : decode cX7_told 4 = .ok (.bipush 7, 2) := by decide +kernel
theorem dX7_told_6 : decode cX7_told 6 = .ok (.bipush 10, 2) := by decide +kernel
theorem dX7_told_8 : decode cX7_told 8 = .ok (.iload_n 1, 1) := by decide +kernel
theorem dX7_told_9 : decode cX7_told 9 = .ok (.imul, 1) := by decide +kernel
theorem dX7_told_10 : decode cX7_told 10 = .ok (.iadd, 1) := by decide +kernel
theorem dX7_told_11 : decode cX7_told 11 = .ok (.iload_n 2, 1) := by decide +kernel
theorem dX7_told_12 : decode cX7_told 12 = .ok (.iadd, 1) := by decide +kernel
theorem dX7_told_13 : decode cX7_told 13 = .ok (.iaload, 1) := by decide +kernel
theorem dX7_told_14 : decode cX7_told 14 = .ok (.ireturn, 1) := by decide +kernel
theorem dX7_sounds_0 : decode cX7_sounds 0 = .ok (.aload_n 0, 1) := by decide +kernel
theorem dX7_sounds_1 : decode cX7_sounds 1 = .ok (.getfield 7, 3) := by decide +kernel
theorem dX7_sounds_4 : decode cX7_sounds 4 = .ok (.bipush 67, 2) := by decide +kernel
theorem dX7_sounds_6 : decode cX7_sounds 6 = .ok (.iconst 2, 1) := by decide +kernel
theorem dX7_sounds_7 : decode cX7_sounds 7 = .ok (.iload_n 1, 1) := by decide +kernel
theorem dX7_sounds_8 : decode cX7_sounds 8 = .ok (.imul, 1) := by decide +kernel
theorem dX7_sounds_9 : decode cX7_sounds 9 = .ok (.iadd, 1) := by decide +kernel
theorem dX7_sounds_10 : decode cX7_sounds 10 = .ok (.iaload, 1) := by decide +kernel
theorem dX7_sounds_11 : decode cX7_sounds 11 = .ok (.ireturn, 1) := by decide +kernel
theorem dX7_wornOf_0 : decode cX7_wornOf 0 = .ok (.aload_n 0, 1) := by decide +kernel
theorem dX7_wornOf_1 : decode cX7_wornOf 1 = .ok (.getfield 7, 3) := by decide +kernel
theorem dX7_wornOf_4 : decode cX7_wornOf 4 = .ok (.bipush 67, 2) := by decide +kernel
theorem dX7_wornOf_6 : decode cX7_wornOf 6 = .ok (.iconst 2, 1) := by decide +kernel
theorem dX7_wornOf_7 : decode cX7_wornOf 7 = .ok (.iload_n 1, 1) := by decide +kernel
theorem dX7_wornOf_8 : decode cX7_wornOf 8 = .ok (.imul, 1) := by decide +kernel
theorem dX7_wornOf_9 : decode cX7_wornOf 9 = .ok (.iadd, 1) := by decide +kernel
theorem dX7_wornOf_10 : decode cX7_wornOf 10 = .ok (.iconst 1, 1) := by decide +kernel
theorem dX7_wornOf_11 : decode cX7_wornOf 11 = .ok (.iadd, 1) := by decide +kernel
theorem dX7_wornOf_12 : decode cX7_wornOf 12 = .ok (.iaload, 1) := by decide +kernel
theorem dX7_wornOf_13 : decode cX7_wornOf 13 = .ok (.ireturn, 1) := by decide +kernel
theorem dX7_ten_0 : decode cX7_ten 0 = .ok (.iload_n 0, 1) := by decide +kernel
theorem dX7_ten_1 : decode cX7_ten 1 = .ok (.bipush 10, 2) := by decide +kernel
theorem dX7_ten_3 : decode cX7_ten 3 = .ok (.if_icmp .le 8, 3) := by decide +kernel
theorem dX7_ten_6 : decode cX7_ten 6 = .ok (.bipush 10, 2) := by decide +kernel
theorem dX7_ten_8 : decode cX7_ten 8 = .ok (.goto 4, 3) := by decide +kernel
theorem dX7_ten_11 : decode cX7_ten 11 = .ok (.iload_n 0, 1) := by decide +kernel
theorem dX7_ten_12 : decode cX7_ten 12 = .ok (.ireturn, 1) := by decide +kernel
set_option maxRecDepth 20000 in
theorem ggX7_skillOf_X7_told : GoodIn wsX7_skillOf wsX7_told := goodIn_r _ [5, 6, 10, 11, 12, 13, 14, 15, 16, 17, 18, 19, 20, 21, 22, 23, 24, 25, 26] (by decide +kernel) (by decide +kernel)
set_option maxRecDepth 20000 in
theorem gX7_skillOf_X7_told : GoodIn wsX7_skillOf (wsV RX7 48 RX7 yX7_told wsX7_told) := goodIn_app (goodIn_of _ (by decide +kernel)) ggX7_skillOf_X7_told
set_option maxRecDepth 20000 in
theorem ggX7_skillOf_X7_ten : GoodIn wsX7_skillOf wsX7_ten := goodIn_r _ [9] (by decide +kernel) (by decide +kernel)
set_option maxRecDepth 20000 in
theorem gX7_skillOf_X7_ten : GoodIn wsX7_skillOf (va_wsS RX7 52 yX7_ten wsX7_ten) := goodIn_app (goodIn_of _ (by decide +kernel)) ggX7_skillOf_X7_ten
theorem dX7_skillOf_0 : decode cX7_skillOf 0 = .ok (.aload_n 0, 1) := by decide +kernel
theorem dX7_skillOf_1 : decode cX7_skillOf 1 = .ok (.iload_n 1, 1) := by decide +kernel
theorem dX7_skillOf_2 : decode cX7_skillOf 2 = .ok (.iconst 4, 1) := by decide +kernel
theorem dX7_skillOf_3 : decode cX7_skillOf 3 = .ok (.iload_n 2, 1) := by decide +kernel
theorem dX7_skillOf_4 : decode cX7_skillOf 4 = .ok (.iadd, 1) := by decide +kernel
theorem dX7_skillOf_5 : decode cX7_skillOf 5 = .ok (.invokevirtual 48, 3) := by decide +kernel
theorem dX7_skillOf_8 : decode cX7_skillOf 8 = .ok (.istore 5, 2) := by decide +kernel
theorem dX7_skillOf_10 : decode cX7_skillOf 10 = .ok (.iload 5, 2) := by decide +kernel
theorem dX7_skillOf_12 : decode cX7_skillOf 12 = .ok (.iload 4, 2) := by decide +kernel
theorem dX7_skillOf_14 : decode cX7_skillOf 14 = .ok (.iload_n 2, 1) := by decide +kernel
theorem dX7_skillOf_15 : decode cX7_skillOf 15 = .ok (.ishr, 1) := by decide +kernel
theorem dX7_skillOf_16 : decode cX7_skillOf 16 = .ok (.iconst 1, 1) := by decide +kernel
theorem dX7_skillOf_17 : decode cX7_skillOf 17 = .ok (.iand, 1) := by decide +kernel
theorem dX7_skillOf_18 : decode cX7_skillOf 18 = .ok (.iconst 1, 1) := by decide +kernel
theorem dX7_skillOf_19 : decode cX7_skillOf 19 = .ok (.if_icmp .ne 7, 3) := by decide +kernel
theorem dX7_skillOf_22 : decode cX7_skillOf 22 = .ok (.iconst 3, 1) := by decide +kernel
theorem dX7_skillOf_23 : decode cX7_skillOf 23 = .ok (.goto 4, 3) := by decide +kernel
theorem dX7_skillOf_26 : decode cX7_skillOf 26 = .ok (.iconst 0, 1) := by decide +kernel
theorem dX7_skillOf_27 : decode cX7_skillOf 27 = .ok (.iadd, 1) := by decide +kernel
theorem dX7_skillOf_28 : decode cX7_skillOf 28 = .ok (.istore 6, 2) := by decide +kernel
theorem dX7_skillOf_30 : decode cX7_skillOf 30 = .ok (.aload_n 0, 1) := by decide +kernel
theorem dX7_skillOf_31 : decode cX7_skillOf 31 = .ok (.iload_n 1, 1) := by decide +kernel
theorem dX7_skillOf_32 : decode cX7_skillOf 32 = .ok (.iconst 0, 1) := by decide +kernel
theorem dX7_skillOf_33 : decode cX7_skillOf 33 = .ok (.invokevirtual 48, 3) := by decide +kernel
theorem dX7_skillOf_36 : decode cX7_skillOf 36 = .ok (.tableswitch 76 0 3 #[32, 42, 64, 74], 32) := by decide +kernel
theorem dX7_skillOf_68 : decode cX7_skillOf 68 = .ok (.iload 5, 2) := by decide +kernel
theorem dX7_skillOf_70 : decode cX7_skillOf 70 = .ok (.iload_n 3, 1) := by decide +kernel
theorem dX7_skillOf_71 : decode cX7_skillOf 71 = .ok (.iconst 3, 1) := by decide +kernel
theorem dX7_skillOf_72 : decode cX7_skillOf 72 = .ok (.idiv, 1) := by decide +kernel
theorem dX7_skillOf_73 : decode cX7_skillOf 73 = .ok (.iadd, 1) := by decide +kernel
theorem dX7_skillOf_74 : decode cX7_skillOf 74 = .ok (.invokestatic 52, 3) := by decide +kernel
theorem dX7_skillOf_77 : decode cX7_skillOf 77 = .ok (.ireturn, 1) := by decide +kernel
theorem dX7_skillOf_78 : decode cX7_skillOf 78 = .ok (.iload 5, 2) := by decide +kernel
theorem dX7_skillOf_80 : decode cX7_skillOf 80 = .ok (.iconst 2, 1) := by decide +kernel
theorem dX7_skillOf_81 : decode cX7_skillOf 81 = .ok (.if_icmp .ge 7, 3) := by decide +kernel
theorem dX7_skillOf_84 : decode cX7_skillOf 84 = .ok (.iconst 0, 1) := by decide +kernel
theorem dX7_skillOf_85 : decode cX7_skillOf 85 = .ok (.goto 7, 3) := by decide +kernel
theorem dX7_skillOf_88 : decode cX7_skillOf 88 = .ok (.iload 5, 2) := by decide +kernel
theorem dX7_skillOf_90 : decode cX7_skillOf 90 = .ok (.iconst 2, 1) := by decide +kernel
theorem dX7_skillOf_91 : decode cX7_skillOf 91 = .ok (.isub, 1) := by decide +kernel
theorem dX7_skillOf_92 : decode cX7_skillOf 92 = .ok (.iload_n 3, 1) := by decide +kernel
theorem dX7_skillOf_93 : decode cX7_skillOf 93 = .ok (.iconst 3, 1) := by decide +kernel
theorem dX7_skillOf_94 : decode cX7_skillOf 94 = .ok (.idiv, 1) := by decide +kernel
theorem dX7_skillOf_95 : decode cX7_skillOf 95 = .ok (.iadd, 1) := by decide +kernel
theorem dX7_skillOf_96 : decode cX7_skillOf 96 = .ok (.invokestatic 52, 3) := by decide +kernel
theorem dX7_skillOf_99 : decode cX7_skillOf 99 = .ok (.ireturn, 1) := by decide +kernel
theorem dX7_skillOf_100 : decode cX7_skillOf 100 = .ok (.iload 6, 2) := by decide +kernel
theorem dX7_skillOf_102 : decode cX7_skillOf 102 = .ok (.iload_n 3, 1) := by decide +kernel
theorem dX7_skillOf_103 : decode cX7_skillOf 103 = .ok (.iconst 3, 1) := by decide +kernel
theorem dX7_skillOf_104 : decode cX7_skillOf 104 = .ok (.idiv, 1) := by decide +kernel
theorem dX7_skillOf_105 : decode cX7_skillOf 105 = .ok (.iadd, 1) := by decide +kernel
theorem dX7_skillOf_106 : decode cX7_skillOf 106 = .ok (.invokestatic 52, 3) := by decide +kernel
theorem dX7_skillOf_109 : decode cX7_skillOf 109 = .ok (.ireturn, 1) := by decide +kernel
theorem dX7_skillOf_110 : decode cX7_skillOf 110 = .ok (.iconst 0, 1) := by decide +kernel
theorem dX7_skillOf_111 : decode cX7_skillOf 111 = .ok (.ireturn, 1) := by decide +kernel
theorem dX7_skillOf_112 : decode cX7_skillOf 112 = .ok (.iload 6, 2) := by decide +kernel
theorem dX7_skillOf_114 : decode cX7_skillOf 114 = .ok (.iconst 5, 1) := by decide +kernel
theorem dX7_skillOf_115 : decode cX7_skillOf 115 = .ok (.if_icmp .ge 7, 3) := by decide +kernel
theorem dX7_skillOf_118 : decode cX7_skillOf 118 = .ok (.iconst 5, 1) := by decide +kernel
theorem dX7_skillOf_119 : decode cX7_skillOf 119 = .ok (.goto 5, 3) := by decide +kernel
theorem dX7_skillOf_122 : decode cX7_skillOf 122 = .ok (.iload 6, 2) := by decide +kernel
theorem dX7_skillOf_124 : decode cX7_skillOf 124 = .ok (.iload_n 3, 1) := by decide +kernel
theorem dX7_skillOf_125 : decode cX7_skillOf 125 = .ok (.iconst 3, 1) := by decide +kernel
theorem dX7_skillOf_126 : decode cX7_skillOf 126 = .ok (.idiv, 1) := by decide +kernel
theorem dX7_skillOf_127 : decode cX7_skillOf 127 = .ok (.iadd, 1) := by decide +kernel
theorem dX7_skillOf_128 : decode cX7_skillOf 128 = .ok (.invokestatic 52, 3) := by decide +kernel
theorem dX7_skillOf_131 : decode cX7_skillOf 131 = .ok (.ireturn, 1) := by decide +kernel
theorem dX7_hears_0 : decode cX7_hears 0 = .ok (.aload_n 0, 1) := by decide +kernel
theorem dX7_hears_1 : decode cX7_hears 1 = .ok (.getfield 7, 3) := by decide +kernel
theorem dX7_hears_4 : decode cX7_hears 4 = .ok (.iconst 2, 1) := by decide +kernel
theorem dX7_hears_5 : decode cX7_hears 5 = .ok (.iaload, 1) := by decide +kernel
theorem dX7_hears_6 : decode cX7_hears 6 = .ok (.iload_n 1, 1) := by decide +kernel
theorem dX7_hears_7 : decode cX7_hears 7 = .ok (.aload_n 0, 1) := by decide +kernel
theorem dX7_hears_8 : decode cX7_hears 8 = .ok (.getfield 7, 3) := by decide +kernel
theorem dX7_hears_11 : decode cX7_hears 11 = .ok (.iconst 3, 1) := by decide +kernel
theorem dX7_hears_12 : decode cX7_hears 12 = .ok (.iaload, 1) := by decide +kernel
theorem dX7_hears_13 : decode cX7_hears 13 = .ok (.idiv, 1) := by decide +kernel
theorem dX7_hears_14 : decode cX7_hears 14 = .ok (.isub, 1) := by decide +kernel
theorem dX7_hears_15 : decode cX7_hears 15 = .ok (.istore_n 2, 1) := by decide +kernel
theorem dX7_hears_16 : decode cX7_hears 16 = .ok (.iload_n 2, 1) := by decide +kernel
theorem dX7_hears_17 : decode cX7_hears 17 = .ok (.ifCond .ge 7, 3) := by decide +kernel
theorem dX7_hears_20 : decode cX7_hears 20 = .ok (.iconst 0, 1) := by decide +kernel
theorem dX7_hears_21 : decode cX7_hears 21 = .ok (.goto 4, 3) := by decide +kernel
theorem dX7_hears_24 : decode cX7_hears 24 = .ok (.iload_n 2, 1) := by decide +kernel
theorem dX7_hears_25 : decode cX7_hears 25 = .ok (.ireturn, 1) := by decide +kernel
set_option maxRecDepth 20000 in
theorem ggX7_passBy_X7_hears : GoodIn wsX7_passBy wsX7_hears := goodIn_r _ [6, 7, 23, 24, 25, 26, 27, 28, 29, 30, 31, 32, 33, 34, 35, 36, 37, 38, 39] (by decide +kernel) (by decide +kernel)
set_option maxRecDepth 20000 in
theorem gX7_passBy_X7_hears : GoodIn wsX7_passBy (wsV RX7 56 RX7 yX7_hears wsX7_hears) := goodIn_app (goodIn_of _ (by decide +kernel)) ggX7_passBy_X7_hears
set_option maxRecDepth 20000 in
theorem ggX7_passBy_X7_sounds : GoodIn wsX7_passBy wsX7_sounds := goodIn_r _ [11, 7, 23, 24, 25, 26, 27, 28, 29, 30, 31, 32, 33, 34, 35, 36, 37, 38, 39] (by decide +kernel) (by decide +kernel)
set_option maxRecDepth 20000 in
theorem gX7_passBy_X7_sounds : GoodIn wsX7_passBy (wsV RX7 60 RX7 yX7_sounds wsX7_sounds) := goodIn_app (goodIn_of _ (by decide +kernel)) ggX7_passBy_X7_sounds
set_option maxRecDepth 20000 in
theorem ggX7_passBy_X7_skillOf : GoodIn wsX7_passBy wsX7_skillOf := goodIn_r _ [15, 16, 17, 18, 5, 19, 7, 20, 21, 22, 23, 24, 25, 26, 27, 28, 29, 30, 31, 32, 33, 34, 35, 36, 37, 38, 39] (by decide +kernel) (by decide +kernel)
set_option maxRecDepth 20000 in
theorem gX7_passBy_X7_skillOf : GoodIn wsX7_passBy (wsV RX7 63 RX7 yX7_skillOf wsX7_skillOf) := goodIn_app (goodIn_of _ (by decide +kernel)) ggX7_passBy_X7_skillOf
theorem dX7_passBy_0 : decode cX7_passBy 0 = .ok (.aload_n 0, 1) := by decide +kernel
theorem dX7_passBy_1 : decode cX7_passBy 1 = .ok (.iload_n 3, 1) := by decide +kernel
theorem dX7_passBy_2 : decode cX7_passBy 2 = .ok (.invokevirtual 56, 3) := by decide +kernel
theorem dX7_passBy_5 : decode cX7_passBy 5 = .ok (.istore 6, 2) := by decide +kernel
theorem dX7_passBy_7 : decode cX7_passBy 7 = .ok (.ldc 59, 2) := by decide +kernel
theorem dX7_passBy_9 : decode cX7_passBy 9 = .ok (.istore 7, 2) := by decide +kernel
theorem dX7_passBy_11 : decode cX7_passBy 11 = .ok (.iconst 0, 1) := by decide +kernel
theorem dX7_passBy_12 : decode cX7_passBy 12 = .ok (.istore 8, 2) := by decide +kernel
theorem dX7_passBy_14 : decode cX7_passBy 14 = .ok (.iload 8, 2) := by decide +kernel
theorem dX7_passBy_16 : decode cX7_passBy 16 = .ok (.bipush 6, 2) := by decide +kernel
theorem dX7_passBy_18 : decode cX7_passBy 18 = .ok (.if_icmp .ge 61, 3) := by decide +kernel
theorem dX7_passBy_21 : decode cX7_passBy 21 = .ok (.aload_n 0, 1) := by decide +kernel
theorem dX7_passBy_22 : decode cX7_passBy 22 = .ok (.iload_n 2, 1) := by decide +kernel
theorem dX7_passBy_23 : decode cX7_passBy 23 = .ok (.invokevirtual 60, 3) := by decide +kernel
theorem dX7_passBy_26 : decode cX7_passBy 26 = .ok (.iload 8, 2) := by decide +kernel
theorem dX7_passBy_28 : decode cX7_passBy 28 = .ok (.ishr, 1) := by decide +kernel
theorem dX7_passBy_29 : decode cX7_passBy 29 = .ok (.iconst 1, 1) := by decide +kernel
theorem dX7_passBy_30 : decode cX7_passBy 30 = .ok (.iand, 1) := by decide +kernel
theorem dX7_passBy_31 : decode cX7_passBy 31 = .ok (.iconst 1, 1) := by decide +kernel
theorem dX7_passBy_32 : decode cX7_passBy 32 = .ok (.if_icmp .ne 41, 3) := by decide +kernel
theorem dX7_passBy_35 : decode cX7_passBy 35 = .ok (.aload_n 0, 1) := by decide +kernel
theorem dX7_passBy_36 : decode cX7_passBy 36 = .ok (.iload_n 1, 1) := by decide +kernel
theorem dX7_passBy_37 : decode cX7_passBy 37 = .ok (.iload 8, 2) := by decide +kernel
theorem dX7_passBy_39 : decode cX7_passBy 39 = .ok (.iload 4, 2) := by decide +kernel
theorem dX7_passBy_41 : decode cX7_passBy 41 = .ok (.iload 5, 2) := by decide +kernel
theorem dX7_passBy_43 : decode cX7_passBy 43 = .ok (.invokevirtual 63, 3) := by decide +kernel
theorem dX7_passBy_46 : decode cX7_passBy 46 = .ok (.istore 9, 2) := by decide +kernel
theorem dX7_passBy_48 : decode cX7_passBy 48 = .ok (.iload 7, 2) := by decide +kernel
theorem dX7_passBy_50 : decode cX7_passBy 50 = .ok (.iload 9, 2) := by decide +kernel
theorem dX7_passBy_52 : decode cX7_passBy 52 = .ok (.iload 6, 2) := by decide +kernel
theorem dX7_passBy_54 : decode cX7_passBy 54 = .ok (.imul, 1) := by decide +kernel
theorem dX7_passBy_55 : decode cX7_passBy 55 = .ok (.bipush 10, 2) := by decide +kernel
theorem dX7_passBy_57 : decode cX7_passBy 57 = .ok (.iload 9, 2) := by decide +kernel
theorem dX7_passBy_59 : decode cX7_passBy 59 = .ok (.isub, 1) := by decide +kernel
theorem dX7_passBy_60 : decode cX7_passBy 60 = .ok (.bipush 10, 2) := by decide +kernel
theorem dX7_passBy_62 : decode cX7_passBy 62 = .ok (.iload 6, 2) := by decide +kernel
theorem dX7_passBy_64 : decode cX7_passBy 64 = .ok (.isub, 1) := by decide +kernel
theorem dX7_passBy_65 : decode cX7_passBy 65 = .ok (.imul, 1) := by decide +kernel
theorem dX7_passBy_66 : decode cX7_passBy 66 = .ok (.iadd, 1) := by decide +kernel
theorem dX7_passBy_67 : decode cX7_passBy 67 = .ok (.imul, 1) := by decide +kernel
theorem dX7_passBy_68 : decode cX7_passBy 68 = .ok (.bipush 100, 2) := by decide +kernel
theorem dX7_passBy_70 : decode cX7_passBy 70 = .ok (.idiv, 1) := by decide +kernel
theorem dX7_passBy_71 : decode cX7_passBy 71 = .ok (.istore 7, 2) := by decide +kernel
theorem dX7_passBy_73 : decode cX7_passBy 73 = .ok (.iinc 8 1, 3) := by decide +kernel
theorem dX7_passBy_76 : decode cX7_passBy 76 = .ok (.goto (-62), 3) := by decide +kernel
theorem dX7_passBy_79 : decode cX7_passBy 79 = .ok (.iload 7, 2) := by decide +kernel
theorem dX7_passBy_81 : decode cX7_passBy 81 = .ok (.ireturn, 1) := by decide +kernel
set_option maxRecDepth 20000 in
theorem ggX7_passIn_X7_wornOf : GoodIn wsX7_passIn wsX7_wornOf := goodIn_r _ [5, 6, 31, 32, 33, 34, 35, 36, 37, 38, 39, 40, 41, 42, 43, 44, 45, 46, 47] (by decide +kernel) (by decide +kernel)
set_option maxRecDepth 20000 in
theorem gX7_passIn_X7_wornOf : GoodIn wsX7_passIn (wsV RX7 67 RX7 yX7_wornOf wsX7_wornOf) := goodIn_app (goodIn_of _ (by decide +kernel)) ggX7_passIn_X7_wornOf
set_option maxRecDepth 20000 in
theorem ggX7_passIn_X7_told : GoodIn wsX7_passIn wsX7_told := goodIn_r _ [10, 6, 31, 32, 33, 34, 35, 36, 37, 38, 39, 40, 41, 42, 43, 44, 45, 46, 47] (by decide +kernel) (by decide +kernel)
set_option maxRecDepth 20000 in
theorem gX7_passIn_X7_told : GoodIn wsX7_passIn (wsV RX7 48 RX7 yX7_told wsX7_told) := goodIn_app (goodIn_of _ (by decide +kernel)) ggX7_passIn_X7_told
set_option maxRecDepth 20000 in
theorem ggX7_passIn_X7_passBy : GoodIn wsX7_passIn wsX7_passBy := goodIn_r _ [14, 15, 16, 17, 18, 4, 19, 6, 20, 21, 22, 23, 24, 25, 26, 27, 7, 8, 9, 10, 28, 29, 30, 31, 32, 33, 34, 35, 36, 37, 38, 39, 40, 41, 42, 43, 44, 45, 46, 47] (by decide +kernel) (by decide +kernel)
set_option maxRecDepth 20000 in
theorem gX7_passIn_X7_passBy : GoodIn wsX7_passIn (wsV RX7 70 RX7 yX7_passBy wsX7_passBy) := goodIn_app (goodIn_of _ (by decide +kernel)) ggX7_passIn_X7_passBy
theorem dX7_passIn_0 : decode cX7_passIn 0 = .ok (.aload_n 0, 1) := by decide +kernel
theorem dX7_passIn_1 : decode cX7_passIn 1 = .ok (.iload_n 1, 1) := by decide +kernel
theorem dX7_passIn_2 : decode cX7_passIn 2 = .ok (.iload_n 2, 1) := by decide +kernel
theorem dX7_passIn_3 : decode cX7_passIn 3 = .ok (.iload_n 3, 1) := by decide +kernel
theorem dX7_passIn_4 : decode cX7_passIn 4 = .ok (.aload_n 0, 1) := by decide +kernel
theorem dX7_passIn_5 : decode cX7_passIn 5 = .ok (.iload_n 2, 1) := by decide +kernel
