theorem dX7_passIn_6 : decode cX7_passIn 6 = .ok (.invokevirtual 67, 3) := by decide +kernel
theorem dX7_passIn_9 : decode cX7_passIn 9 = .ok (.aload_n 0, 1) := by decide +kernel
theorem dX7_passIn_10 : decode cX7_passIn 10 = .ok (.iload_n 1, 1) := by decide +kernel
theorem dX7_passIn_11 : decode cX7_passIn 11 = .ok (.iconst 3, 1) := by decide +kernel
theorem dX7_passIn_12 : decode cX7_passIn 12 = .ok (.invokevirtual 48, 3) := by decide +kernel
theorem dX7_passIn_15 : decode cX7_passIn 15 = .ok (.invokevirtual 70, 3) := by decide +kernel
theorem dX7_passIn_18 : decode cX7_passIn 18 = .ok (.ireturn, 1) := by decide +kernel
set_option maxRecDepth 20000 in
theorem ggX7_passNow_X7_passIn : GoodIn wsX7_passNow wsX7_passIn := goodIn_r _ [6, 7, 8, 9, 5, 10, 1, 11, 12, 13, 14, 15, 16, 17, 18, 19, 20, 21, 22, 23, 24, 25, 26, 27, 28, 29, 30, 31, 32, 33, 34, 35, 36, 37, 38, 39, 40, 41, 42, 43, 44, 45, 46, 47, 48, 49, 50, 51] (by decide +kernel) (by decide +kernel)
set_option maxRecDepth 20000 in
theorem gX7_passNow_X7_passIn : GoodIn wsX7_passNow (wsV RX7 74 RX7 yX7_passIn wsX7_passIn) := goodIn_app (goodIn_of _ (by decide +kernel)) ggX7_passNow_X7_passIn
theorem dX7_passNow_0 : decode cX7_passNow 0 = .ok (.aload_n 0, 1) := by decide +kernel
theorem dX7_passNow_1 : decode cX7_passNow 1 = .ok (.iload_n 1, 1) := by decide +kernel
theorem dX7_passNow_2 : decode cX7_passNow 2 = .ok (.iload_n 2, 1) := by decide +kernel
theorem dX7_passNow_3 : decode cX7_passNow 3 = .ok (.aload_n 0, 1) := by decide +kernel
theorem dX7_passNow_4 : decode cX7_passNow 4 = .ok (.getfield 7, 3) := by decide +kernel
theorem dX7_passNow_7 : decode cX7_passNow 7 = .ok (.iconst 4, 1) := by decide +kernel
theorem dX7_passNow_8 : decode cX7_passNow 8 = .ok (.iaload, 1) := by decide +kernel
theorem dX7_passNow_9 : decode cX7_passNow 9 = .ok (.invokevirtual 74, 3) := by decide +kernel
theorem dX7_passNow_12 : decode cX7_passNow 12 = .ok (.ireturn, 1) := by decide +kernel
set_option maxRecDepth 20000 in
theorem ggX7_speaker_X7_in : GoodIn wsX7_speaker wsX7_in := goodIn_r _ [8] (by decide +kernel) (by decide +kernel)
set_option maxRecDepth 20000 in
theorem gX7_speaker_X7_in : GoodIn wsX7_speaker (va_wsS RX7 44 yX7_in wsX7_in) := goodIn_app (goodIn_of _ (by decide +kernel)) ggX7_speaker_X7_in
theorem dX7_speaker_0 : decode cX7_speaker 0 = .ok (.iload_n 1, 1) := by decide +kernel
theorem dX7_speaker_1 : decode cX7_speaker 1 = .ok (.i2l, 1) := by decide +kernel
theorem dX7_speaker_2 : decode cX7_speaker 2 = .ok (.lconst 0, 1) := by decide +kernel
theorem dX7_speaker_3 : decode cX7_speaker 3 = .ok (.ldc2_w 78, 3) := by decide +kernel
theorem dX7_speaker_6 : decode cX7_speaker 6 = .ok (.invokestatic 44, 3) := by decide +kernel
theorem dX7_speaker_9 : decode cX7_speaker 9 = .ok (.ifCond .eq 25, 3) := by decide +kernel
theorem dX7_speaker_12 : decode cX7_speaker 12 = .ok (.iload_n 2, 1) := by decide +kernel
theorem dX7_speaker_13 : decode cX7_speaker 13 = .ok (.i2l, 1) := by decide +kernel
theorem dX7_speaker_14 : decode cX7_speaker 14 = .ok (.lconst 0, 1) := by decide +kernel
theorem dX7_speaker_15 : decode cX7_speaker 15 = .ok (.lconst 1, 1) := by decide +kernel
theorem dX7_speaker_16 : decode cX7_speaker 16 = .ok (.invokestatic 44, 3) := by decide +kernel
theorem dX7_speaker_19 : decode cX7_speaker 19 = .ok (.ifCond .eq 15, 3) := by decide +kernel
theorem dX7_speaker_22 : decode cX7_speaker 22 = .ok (.iload_n 3, 1) := by decide +kernel
theorem dX7_speaker_23 : decode cX7_speaker 23 = .ok (.i2l, 1) := by decide +kernel
theorem dX7_speaker_24 : decode cX7_speaker 24 = .ok (.lconst 0, 1) := by decide +kernel
theorem dX7_speaker_25 : decode cX7_speaker 25 = .ok (.ldc2_w 80, 3) := by decide +kernel
theorem dX7_speaker_28 : decode cX7_speaker 28 = .ok (.invokestatic 44, 3) := by decide +kernel
theorem dX7_speaker_31 : decode cX7_speaker 31 = .ok (.ifCond .ne 5, 3) := by decide +kernel
theorem dX7_speaker_34 : decode cX7_speaker 34 = .ok (.iconst (-1), 1) := by decide +kernel
theorem dX7_speaker_35 : decode cX7_speaker 35 = .ok (.ireturn, 1) := by decide +kernel
theorem dX7_speaker_36 : decode cX7_speaker 36 = .ok (.aload_n 0, 1) := by decide +kernel
theorem dX7_speaker_37 : decode cX7_speaker 37 = .ok (.getfield 7, 3) := by decide +kernel
theorem dX7_speaker_40 : decode cX7_speaker 40 = .ok (.iconst 0, 1) := by decide +kernel
theorem dX7_speaker_41 : decode cX7_speaker 41 = .ok (.iaload, 1) := by decide +kernel
theorem dX7_speaker_42 : decode cX7_speaker 42 = .ok (.bipush 6, 2) := by decide +kernel
theorem dX7_speaker_44 : decode cX7_speaker 44 = .ok (.if_icmp .ne 6, 3) := by decide +kernel
theorem dX7_speaker_47 : decode cX7_speaker 47 = .ok (.bipush (-3), 2) := by decide +kernel
theorem dX7_speaker_49 : decode cX7_speaker 49 = .ok (.ireturn, 1) := by decide +kernel
theorem dX7_speaker_50 : decode cX7_speaker 50 = .ok (.bipush 7, 2) := by decide +kernel
theorem dX7_speaker_52 : decode cX7_speaker 52 = .ok (.bipush 10, 2) := by decide +kernel
theorem dX7_speaker_54 : decode cX7_speaker 54 = .ok (.aload_n 0, 1) := by decide +kernel
theorem dX7_speaker_55 : decode cX7_speaker 55 = .ok (.getfield 7, 3) := by decide +kernel
theorem dX7_speaker_58 : decode cX7_speaker 58 = .ok (.iconst 0, 1) := by decide +kernel
theorem dX7_speaker_59 : decode cX7_speaker 59 = .ok (.iaload, 1) := by decide +kernel
theorem dX7_speaker_60 : decode cX7_speaker 60 = .ok (.imul, 1) := by decide +kernel
theorem dX7_speaker_61 : decode cX7_speaker 61 = .ok (.iadd, 1) := by decide +kernel
theorem dX7_speaker_62 : decode cX7_speaker 62 = .ok (.istore 4, 2) := by decide +kernel
theorem dX7_speaker_64 : decode cX7_speaker 64 = .ok (.aload_n 0, 1) := by decide +kernel
theorem dX7_speaker_65 : decode cX7_speaker 65 = .ok (.getfield 7, 3) := by decide +kernel
theorem dX7_speaker_68 : decode cX7_speaker 68 = .ok (.iload 4, 2) := by decide +kernel
theorem dX7_speaker_70 : decode cX7_speaker 70 = .ok (.iload_n 1, 1) := by decide +kernel
theorem dX7_speaker_71 : decode cX7_speaker 71 = .ok (.iastore, 1) := by decide +kernel
theorem dX7_speaker_72 : decode cX7_speaker 72 = .ok (.aload_n 0, 1) := by decide +kernel
theorem dX7_speaker_73 : decode cX7_speaker 73 = .ok (.getfield 7, 3) := by decide +kernel
theorem dX7_speaker_76 : decode cX7_speaker 76 = .ok (.iload 4, 2) := by decide +kernel
theorem dX7_speaker_78 : decode cX7_speaker 78 = .ok (.iconst 1, 1) := by decide +kernel
theorem dX7_speaker_79 : decode cX7_speaker 79 = .ok (.iadd, 1) := by decide +kernel
theorem dX7_speaker_80 : decode cX7_speaker 80 = .ok (.iload_n 2, 1) := by decide +kernel
theorem dX7_speaker_81 : decode cX7_speaker 81 = .ok (.iastore, 1) := by decide +kernel
theorem dX7_speaker_82 : decode cX7_speaker 82 = .ok (.aload_n 0, 1) := by decide +kernel
theorem dX7_speaker_83 : decode cX7_speaker 83 = .ok (.getfield 7, 3) := by decide +kernel
theorem dX7_speaker_86 : decode cX7_speaker 86 = .ok (.iload 4, 2) := by decide +kernel
theorem dX7_speaker_88 : decode cX7_speaker 88 = .ok (.iconst 2, 1) := by decide +kernel
theorem dX7_speaker_89 : decode cX7_speaker 89 = .ok (.iadd, 1) := by decide +kernel
theorem dX7_speaker_90 : decode cX7_speaker 90 = .ok (.iconst 0, 1) := by decide +kernel
theorem dX7_speaker_91 : decode cX7_speaker 91 = .ok (.iastore, 1) := by decide +kernel
theorem dX7_speaker_92 : decode cX7_speaker 92 = .ok (.aload_n 0, 1) := by decide +kernel
theorem dX7_speaker_93 : decode cX7_speaker 93 = .ok (.getfield 7, 3) := by decide +kernel
theorem dX7_speaker_96 : decode cX7_speaker 96 = .ok (.iload 4, 2) := by decide +kernel
theorem dX7_speaker_98 : decode cX7_speaker 98 = .ok (.iconst 3, 1) := by decide +kernel
theorem dX7_speaker_99 : decode cX7_speaker 99 = .ok (.iadd, 1) := by decide +kernel
theorem dX7_speaker_100 : decode cX7_speaker 100 = .ok (.iconst 0, 1) := by decide +kernel
theorem dX7_speaker_101 : decode cX7_speaker 101 = .ok (.iastore, 1) := by decide +kernel
theorem dX7_speaker_102 : decode cX7_speaker 102 = .ok (.iconst 0, 1) := by decide +kernel
theorem dX7_speaker_103 : decode cX7_speaker 103 = .ok (.istore 5, 2) := by decide +kernel
theorem dX7_speaker_105 : decode cX7_speaker 105 = .ok (.iload 5, 2) := by decide +kernel
theorem dX7_speaker_107 : decode cX7_speaker 107 = .ok (.bipush 6, 2) := by decide +kernel
theorem dX7_speaker_109 : decode cX7_speaker 109 = .ok (.if_icmp .ge 22, 3) := by decide +kernel
theorem dX7_speaker_112 : decode cX7_speaker 112 = .ok (.aload_n 0, 1) := by decide +kernel
theorem dX7_speaker_113 : decode cX7_speaker 113 = .ok (.getfield 7, 3) := by decide +kernel
theorem dX7_speaker_116 : decode cX7_speaker 116 = .ok (.iload 4, 2) := by decide +kernel
theorem dX7_speaker_118 : decode cX7_speaker 118 = .ok (.iconst 4, 1) := by decide +kernel
theorem dX7_speaker_119 : decode cX7_speaker 119 = .ok (.iadd, 1) := by decide +kernel
theorem dX7_speaker_120 : decode cX7_speaker 120 = .ok (.iload 5, 2) := by decide +kernel
theorem dX7_speaker_122 : decode cX7_speaker 122 = .ok (.iadd, 1) := by decide +kernel
theorem dX7_speaker_123 : decode cX7_speaker 123 = .ok (.iload_n 3, 1) := by decide +kernel
theorem dX7_speaker_124 : decode cX7_speaker 124 = .ok (.iastore, 1) := by decide +kernel
theorem dX7_speaker_125 : decode cX7_speaker 125 = .ok (.iinc 5 1, 3) := by decide +kernel
theorem dX7_speaker_128 : decode cX7_speaker 128 = .ok (.goto (-23), 3) := by decide +kernel
theorem dX7_speaker_131 : decode cX7_speaker 131 = .ok (.aload_n 0, 1) := by decide +kernel
theorem dX7_speaker_132 : decode cX7_speaker 132 = .ok (.getfield 7, 3) := by decide +kernel
theorem dX7_speaker_135 : decode cX7_speaker 135 = .ok (.iconst 0, 1) := by decide +kernel
theorem dX7_speaker_136 : decode cX7_speaker 136 = .ok (.dup2, 1) := by decide +kernel
theorem dX7_speaker_137 : decode cX7_speaker 137 = .ok (.iaload, 1) := by decide +kernel
theorem dX7_speaker_138 : decode cX7_speaker 138 = .ok (.iconst 1, 1) := by decide +kernel
theorem dX7_speaker_139 : decode cX7_speaker 139 = .ok (.iadd, 1) := by decide +kernel
theorem dX7_speaker_140 : decode cX7_speaker 140 = .ok (.iastore, 1) := by decide +kernel
theorem dX7_speaker_141 : decode cX7_speaker 141 = .ok (.aload_n 0, 1) := by decide +kernel
theorem dX7_speaker_142 : decode cX7_speaker 142 = .ok (.iconst 0, 1) := by decide +kernel
theorem dX7_speaker_143 : decode cX7_speaker 143 = .ok (.putfield 82, 3) := by decide +kernel
theorem dX7_speaker_146 : decode cX7_speaker 146 = .ok (.aload_n 0, 1) := by decide +kernel
theorem dX7_speaker_147 : decode cX7_speaker 147 = .ok (.getfield 7, 3) := by decide +kernel
theorem dX7_speaker_150 : decode cX7_speaker 150 = .ok (.iconst 0, 1) := by decide +kernel
theorem dX7_speaker_151 : decode cX7_speaker 151 = .ok (.iaload, 1) := by decide +kernel
theorem dX7_speaker_152 : decode cX7_speaker 152 = .ok (.iconst 1, 1) := by decide +kernel
theorem dX7_speaker_153 : decode cX7_speaker 153 = .ok (.isub, 1) := by decide +kernel
theorem dX7_speaker_154 : decode cX7_speaker 154 = .ok (.ireturn, 1) := by decide +kernel
set_option maxRecDepth 20000 in
theorem ggX7_can_X7_isSpeaker : GoodIn wsX7_can wsX7_isSpeaker := goodIn_r _ [8, 3, 9, 10, 7, 11, 12, 13, 14, 15, 16, 17, 18, 19, 20, 21, 22, 23, 24, 25, 26, 27, 28] (by decide +kernel) (by decide +kernel)
set_option maxRecDepth 20000 in
theorem gX7_can_X7_isSpeaker : GoodIn wsX7_can (wsV RX7 86 RX7 yX7_isSpeaker wsX7_isSpeaker) := goodIn_app (goodIn_of _ (by decide +kernel)) ggX7_can_X7_isSpeaker
set_option maxRecDepth 20000 in
theorem ggX7_can_X7_in : GoodIn wsX7_can wsX7_in := goodIn_r _ [11] (by decide +kernel) (by decide +kernel)
set_option maxRecDepth 20000 in
theorem gX7_can_X7_in : GoodIn wsX7_can (va_wsS RX7 44 yX7_in wsX7_in) := goodIn_app (goodIn_of _ (by decide +kernel)) ggX7_can_X7_in
theorem dX7_can_0 : decode cX7_can 0 = .ok (.aload_n 0, 1) := by decide +kernel
theorem dX7_can_1 : decode cX7_can 1 = .ok (.iload_n 1, 1) := by decide +kernel
theorem dX7_can_2 : decode cX7_can 2 = .ok (.invokevirtual 86, 3) := by decide +kernel
theorem dX7_can_5 : decode cX7_can 5 = .ok (.ifCond .eq 27, 3) := by decide +kernel
theorem dX7_can_8 : decode cX7_can 8 = .ok (.iload_n 2, 1) := by decide +kernel
theorem dX7_can_9 : decode cX7_can 9 = .ok (.i2l, 1) := by decide +kernel
theorem dX7_can_10 : decode cX7_can 10 = .ok (.lconst 0, 1) := by decide +kernel
theorem dX7_can_11 : decode cX7_can 11 = .ok (.ldc2_w 90, 3) := by decide +kernel
theorem dX7_can_14 : decode cX7_can 14 = .ok (.invokestatic 44, 3) := by decide +kernel
theorem dX7_can_17 : decode cX7_can 17 = .ok (.ifCond .eq 15, 3) := by decide +kernel
theorem dX7_can_20 : decode cX7_can 20 = .ok (.iload_n 3, 1) := by decide +kernel
theorem dX7_can_21 : decode cX7_can 21 = .ok (.i2l, 1) := by decide +kernel
theorem dX7_can_22 : decode cX7_can 22 = .ok (.lconst 0, 1) := by decide +kernel
theorem dX7_can_23 : decode cX7_can 23 = .ok (.ldc2_w 80, 3) := by decide +kernel
theorem dX7_can_26 : decode cX7_can 26 = .ok (.invokestatic 44, 3) := by decide +kernel
theorem dX7_can_29 : decode cX7_can 29 = .ok (.ifCond .ne 5, 3) := by decide +kernel
theorem dX7_can_32 : decode cX7_can 32 = .ok (.iconst (-1), 1) := by decide +kernel
theorem dX7_can_33 : decode cX7_can 33 = .ok (.ireturn, 1) := by decide +kernel
theorem dX7_can_34 : decode cX7_can 34 = .ok (.bipush 7, 2) := by decide +kernel
theorem dX7_can_36 : decode cX7_can 36 = .ok (.bipush 10, 2) := by decide +kernel
theorem dX7_can_38 : decode cX7_can 38 = .ok (.iload_n 1, 1) := by decide +kernel
theorem dX7_can_39 : decode cX7_can 39 = .ok (.imul, 1) := by decide +kernel
theorem dX7_can_40 : decode cX7_can 40 = .ok (.iadd, 1) := by decide +kernel
theorem dX7_can_41 : decode cX7_can 41 = .ok (.iconst 4, 1) := by decide +kernel
theorem dX7_can_42 : decode cX7_can 42 = .ok (.iadd, 1) := by decide +kernel
theorem dX7_can_43 : decode cX7_can 43 = .ok (.iload_n 2, 1) := by decide +kernel
theorem dX7_can_44 : decode cX7_can 44 = .ok (.iadd, 1) := by decide +kernel
theorem dX7_can_45 : decode cX7_can 45 = .ok (.istore 4, 2) := by decide +kernel
theorem dX7_can_47 : decode cX7_can 47 = .ok (.aload_n 0, 1) := by decide +kernel
theorem dX7_can_48 : decode cX7_can 48 = .ok (.getfield 7, 3) := by decide +kernel
theorem dX7_can_51 : decode cX7_can 51 = .ok (.iload 4, 2) := by decide +kernel
theorem dX7_can_53 : decode cX7_can 53 = .ok (.iaload, 1) := by decide +kernel
theorem dX7_can_54 : decode cX7_can 54 = .ok (.istore 5, 2) := by decide +kernel
theorem dX7_can_56 : decode cX7_can 56 = .ok (.aload_n 0, 1) := by decide +kernel
theorem dX7_can_57 : decode cX7_can 57 = .ok (.getfield 7, 3) := by decide +kernel
theorem dX7_can_60 : decode cX7_can 60 = .ok (.iload 4, 2) := by decide +kernel
theorem dX7_can_62 : decode cX7_can 62 = .ok (.iload_n 3, 1) := by decide +kernel
theorem dX7_can_63 : decode cX7_can 63 = .ok (.iastore, 1) := by decide +kernel
theorem dX7_can_64 : decode cX7_can 64 = .ok (.iload 5, 2) := by decide +kernel
theorem dX7_can_66 : decode cX7_can 66 = .ok (.ireturn, 1) := by decide +kernel
set_option maxRecDepth 20000 in
theorem ggX7_word_X7_in : GoodIn wsX7_word wsX7_in := goodIn_r _ [7] (by decide +kernel) (by decide +kernel)
set_option maxRecDepth 20000 in
theorem gX7_word_X7_in : GoodIn wsX7_word (va_wsS RX7 44 yX7_in wsX7_in) := goodIn_app (goodIn_of _ (by decide +kernel)) ggX7_word_X7_in
theorem dX7_word_0 : decode cX7_word 0 = .ok (.iload_n 1, 1) := by decide +kernel
theorem dX7_word_1 : decode cX7_word 1 = .ok (.i2l, 1) := by decide +kernel
theorem dX7_word_2 : decode cX7_word 2 = .ok (.lconst 1, 1) := by decide +kernel
theorem dX7_word_3 : decode cX7_word 3 = .ok (.ldc2_w 92, 3) := by decide +kernel
theorem dX7_word_6 : decode cX7_word 6 = .ok (.invokestatic 44, 3) := by decide +kernel
theorem dX7_word_9 : decode cX7_word 9 = .ok (.ifCond .ne 5, 3) := by decide +kernel
theorem dX7_word_12 : decode cX7_word 12 = .ok (.iconst (-1), 1) := by decide +kernel
theorem dX7_word_13 : decode cX7_word 13 = .ok (.ireturn, 1) := by decide +kernel
theorem dX7_word_14 : decode cX7_word 14 = .ok (.aload_n 0, 1) := by decide +kernel
theorem dX7_word_15 : decode cX7_word 15 = .ok (.getfield 7, 3) := by decide +kernel
theorem dX7_word_18 : decode cX7_word 18 = .ok (.iconst 1, 1) := by decide +kernel
theorem dX7_word_19 : decode cX7_word 19 = .ok (.iaload, 1) := by decide +kernel
theorem dX7_word_20 : decode cX7_word 20 = .ok (.bipush 6, 2) := by decide +kernel
theorem dX7_word_22 : decode cX7_word 22 = .ok (.if_icmp .ne 6, 3) := by decide +kernel
theorem dX7_word_25 : decode cX7_word 25 = .ok (.bipush (-3), 2) := by decide +kernel
theorem dX7_word_27 : decode cX7_word 27 = .ok (.ireturn, 1) := by decide +kernel
theorem dX7_word_28 : decode cX7_word 28 = .ok (.aload_n 0, 1) := by decide +kernel
theorem dX7_word_29 : decode cX7_word 29 = .ok (.getfield 7, 3) := by decide +kernel
theorem dX7_word_32 : decode cX7_word 32 = .ok (.bipush 67, 2) := by decide +kernel
theorem dX7_word_34 : decode cX7_word 34 = .ok (.iconst 2, 1) := by decide +kernel
theorem dX7_word_35 : decode cX7_word 35 = .ok (.aload_n 0, 1) := by decide +kernel
theorem dX7_word_36 : decode cX7_word 36 = .ok (.getfield 7, 3) := by decide +kernel
theorem dX7_word_39 : decode cX7_word 39 = .ok (.iconst 1, 1) := by decide +kernel
theorem dX7_word_40 : decode cX7_word 40 = .ok (.iaload, 1) := by decide +kernel
theorem dX7_word_41 : decode cX7_word 41 = .ok (.imul, 1) := by decide +kernel
theorem dX7_word_42 : decode cX7_word 42 = .ok (.iadd, 1) := by decide +kernel
theorem dX7_word_43 : decode cX7_word 43 = .ok (.iload_n 1, 1) := by decide +kernel
theorem dX7_word_44 : decode cX7_word 44 = .ok (.iastore, 1) := by decide +kernel
theorem dX7_word_45 : decode cX7_word 45 = .ok (.aload_n 0, 1) := by decide +kernel
theorem dX7_word_46 : decode cX7_word 46 = .ok (.getfield 7, 3) := by decide +kernel
theorem dX7_word_49 : decode cX7_word 49 = .ok (.bipush 67, 2) := by decide +kernel
theorem dX7_word_51 : decode cX7_word 51 = .ok (.iconst 2, 1) := by decide +kernel
theorem dX7_word_52 : decode cX7_word 52 = .ok (.aload_n 0, 1) := by decide +kernel
theorem dX7_word_53 : decode cX7_word 53 = .ok (.getfield 7, 3) := by decide +kernel
theorem dX7_word_56 : decode cX7_word 56 = .ok (.iconst 1, 1) := by decide +kernel
theorem dX7_word_57 : decode cX7_word 57 = .ok (.iaload, 1) := by decide +kernel
theorem dX7_word_58 : decode cX7_word 58 = .ok (.imul, 1) := by decide +kernel
theorem dX7_word_59 : decode cX7_word 59 = .ok (.iadd, 1) := by decide +kernel
theorem dX7_word_60 : decode cX7_word 60 = .ok (.iconst 1, 1) := by decide +kernel
theorem dX7_word_61 : decode cX7_word 61 = .ok (.iadd, 1) := by decide +kernel
theorem dX7_word_62 : decode cX7_word 62 = .ok (.iconst 0, 1) := by decide +kernel
theorem dX7_word_63 : decode cX7_word 63 = .ok (.iastore, 1) := by decide +kernel
theorem dX7_word_64 : decode cX7_word 64 = .ok (.aload_n 0, 1) := by decide +kernel
theorem dX7_word_65 : decode cX7_word 65 = .ok (.getfield 7, 3) := by decide +kernel
theorem dX7_word_68 : decode cX7_word 68 = .ok (.iconst 1, 1) := by decide +kernel
theorem dX7_word_69 : decode cX7_word 69 = .ok (.dup2, 1) := by decide +kernel
theorem dX7_word_70 : decode cX7_word 70 = .ok (.iaload, 1) := by decide +kernel
theorem dX7_word_71 : decode cX7_word 71 = .ok (.iconst 1, 1) := by decide +kernel
theorem dX7_word_72 : decode cX7_word 72 = .ok (.iadd, 1) := by decide +kernel
theorem dX7_word_73 : decode cX7_word 73 = .ok (.iastore, 1) := by decide +kernel
theorem dX7_word_74 : decode cX7_word 74 = .ok (.aload_n 0, 1) := by decide +kernel
theorem dX7_word_75 : decode cX7_word 75 = .ok (.iconst 0, 1) := by decide +kernel
theorem dX7_word_76 : decode cX7_word 76 = .ok (.putfield 82, 3) := by decide +kernel
theorem dX7_word_79 : decode cX7_word 79 = .ok (.aload_n 0, 1) := by decide +kernel
theorem dX7_word_80 : decode cX7_word 80 = .ok (.getfield 7, 3) := by decide +kernel
theorem dX7_word_83 : decode cX7_word 83 = .ok (.iconst 1, 1) := by decide +kernel
theorem dX7_word_84 : decode cX7_word 84 = .ok (.iaload, 1) := by decide +kernel
theorem dX7_word_85 : decode cX7_word 85 = .ok (.iconst 1, 1) := by decide +kernel
theorem dX7_word_86 : decode cX7_word 86 = .ok (.isub, 1) := by decide +kernel
theorem dX7_word_87 : decode cX7_word 87 = .ok (.ireturn, 1) := by decide +kernel
set_option maxRecDepth 20000 in
theorem ggX7_guard_X7_in : GoodIn wsX7_guard wsX7_in := goodIn_r _ [7] (by decide +kernel) (by decide +kernel)
set_option maxRecDepth 20000 in
theorem gX7_guard_X7_in : GoodIn wsX7_guard (va_wsS RX7 44 yX7_in wsX7_in) := goodIn_app (goodIn_of _ (by decide +kernel)) ggX7_guard_X7_in
theorem dX7_guard_0 : decode cX7_guard 0 = .ok (.iload_n 1, 1) := by decide +kernel
theorem dX7_guard_1 : decode cX7_guard 1 = .ok (.ifCond .ne 18, 3) := by decide +kernel
theorem dX7_guard_4 : decode cX7_guard 4 = .ok (.iload_n 2, 1) := by decide +kernel
theorem dX7_guard_5 : decode cX7_guard 5 = .ok (.i2l, 1) := by decide +kernel
theorem dX7_guard_6 : decode cX7_guard 6 = .ok (.lconst 0, 1) := by decide +kernel
theorem dX7_guard_7 : decode cX7_guard 7 = .ok (.ldc2_w 94, 3) := by decide +kernel
theorem dX7_guard_10 : decode cX7_guard 10 = .ok (.invokestatic 44, 3) := by decide +kernel
theorem dX7_guard_13 : decode cX7_guard 13 = .ok (.ifCond .ne 25, 3) := by decide +kernel
theorem dX7_guard_16 : decode cX7_guard 16 = .ok (.goto 20, 3) := by decide +kernel
theorem dX7_guard_19 : decode cX7_guard 19 = .ok (.iload_n 1, 1) := by decide +kernel
theorem dX7_guard_20 : decode cX7_guard 20 = .ok (.iconst 1, 1) := by decide +kernel
theorem dX7_guard_21 : decode cX7_guard 21 = .ok (.if_icmp .ne 15, 3) := by decide +kernel
theorem dX7_guard_24 : decode cX7_guard 24 = .ok (.iload_n 2, 1) := by decide +kernel
theorem dX7_guard_25 : decode cX7_guard 25 = .ok (.i2l, 1) := by decide +kernel
theorem dX7_guard_26 : decode cX7_guard 26 = .ok (.lconst 1, 1) := by decide +kernel
theorem dX7_guard_27 : decode cX7_guard 27 = .ok (.ldc2_w 96, 3) := by decide +kernel
theorem dX7_guard_30 : decode cX7_guard 30 = .ok (.invokestatic 44, 3) := by decide +kernel
theorem dX7_guard_33 : decode cX7_guard 33 = .ok (.ifCond .ne 5, 3) := by decide +kernel
theorem dX7_guard_36 : decode cX7_guard 36 = .ok (.iconst (-1), 1) := by decide +kernel
theorem dX7_guard_37 : decode cX7_guard 37 = .ok (.ireturn, 1) := by decide +kernel
theorem dX7_guard_38 : decode cX7_guard 38 = .ok (.aload_n 0, 1) := by decide +kernel
theorem dX7_guard_39 : decode cX7_guard 39 = .ok (.getfield 7, 3) := by decide +kernel
theorem dX7_guard_42 : decode cX7_guard 42 = .ok (.iconst 2, 1) := by decide +kernel
theorem dX7_guard_43 : decode cX7_guard 43 = .ok (.iload_n 1, 1) := by decide +kernel
theorem dX7_guard_44 : decode cX7_guard 44 = .ok (.iadd, 1) := by decide +kernel
theorem dX7_guard_45 : decode cX7_guard 45 = .ok (.iaload, 1) := by decide +kernel
theorem dX7_guard_46 : decode cX7_guard 46 = .ok (.istore_n 3, 1) := by decide +kernel
theorem dX7_guard_47 : decode cX7_guard 47 = .ok (.aload_n 0, 1) := by decide +kernel
theorem dX7_guard_48 : decode cX7_guard 48 = .ok (.getfield 7, 3) := by decide +kernel
theorem dX7_guard_51 : decode cX7_guard 51 = .ok (.iconst 2, 1) := by decide +kernel
theorem dX7_guard_52 : decode cX7_guard 52 = .ok (.iload_n 1, 1) := by decide +kernel
theorem dX7_guard_53 : decode cX7_guard 53 = .ok (.iadd, 1) := by decide +kernel
theorem dX7_guard_54 : decode cX7_guard 54 = .ok (.iload_n 2, 1) := by decide +kernel
theorem dX7_guard_55 : decode cX7_guard 55 = .ok (.iastore, 1) := by decide +kernel
theorem dX7_guard_56 : decode cX7_guard 56 = .ok (.iload_n 3, 1) := by decide +kernel
theorem dX7_guard_57 : decode cX7_guard 57 = .ok (.ireturn, 1) := by decide +kernel
set_option maxRecDepth 20000 in
theorem ggX7_of_X7_isSpeaker : GoodIn wsX7_of wsX7_isSpeaker := goodIn_r _ [6, 7, 8, 9, 5, 10, 15, 16, 17, 18, 19, 20, 21, 22, 23, 24, 25, 26, 27, 28, 29, 30, 31] (by decide +kernel) (by decide +kernel)
set_option maxRecDepth 20000 in
theorem gX7_of_X7_isSpeaker : GoodIn wsX7_of (wsV RX7 86 RX7 yX7_isSpeaker wsX7_isSpeaker) := goodIn_app (goodIn_of _ (by decide +kernel)) ggX7_of_X7_isSpeaker
set_option maxRecDepth 20000 in
theorem ggX7_of_X7_in : GoodIn wsX7_of wsX7_in := goodIn_r _ [10] (by decide +kernel) (by decide +kernel)
set_option maxRecDepth 20000 in
theorem gX7_of_X7_in : GoodIn wsX7_of (va_wsS RX7 44 yX7_in wsX7_in) := goodIn_app (goodIn_of _ (by decide +kernel)) ggX7_of_X7_in
set_option maxRecDepth 20000 in
theorem ggX7_of_X7_told : GoodIn wsX7_of wsX7_told := goodIn_r _ [14, 7, 15, 16, 17, 18, 19, 20, 21, 22, 23, 24, 25, 26, 27, 28, 29, 30, 31] (by decide +kernel) (by decide +kernel)
set_option maxRecDepth 20000 in
theorem gX7_of_X7_told : GoodIn wsX7_of (wsV RX7 48 RX7 yX7_told wsX7_told) := goodIn_app (goodIn_of _ (by decide +kernel)) ggX7_of_X7_told
theorem dX7_of_0 : decode cX7_of 0 = .ok (.aload_n 0, 1) := by decide +kernel
theorem dX7_of_1 : decode cX7_of 1 = .ok (.iload_n 1, 1) := by decide +kernel
theorem dX7_of_2 : decode cX7_of 2 = .ok (.invokevirtual 86, 3) := by decide +kernel
theorem dX7_of_5 : decode cX7_of 5 = .ok (.ifCond .eq 24, 3) := by decide +kernel
theorem dX7_of_8 : decode cX7_of 8 = .ok (.iload_n 2, 1) := by decide +kernel
theorem dX7_of_9 : decode cX7_of 9 = .ok (.i2l, 1) := by decide +kernel
theorem dX7_of_10 : decode cX7_of 10 = .ok (.lconst 0, 1) := by decide +kernel
theorem dX7_of_11 : decode cX7_of 11 = .ok (.ldc2_w 98, 3) := by decide +kernel
theorem dX7_of_14 : decode cX7_of 14 = .ok (.invokestatic 44, 3) := by decide +kernel
theorem dX7_of_17 : decode cX7_of 17 = .ok (.ifCond .eq 12, 3) := by decide +kernel
theorem dX7_of_20 : decode cX7_of 20 = .ok (.aload_n 0, 1) := by decide +kernel
theorem dX7_of_21 : decode cX7_of 21 = .ok (.iload_n 1, 1) := by decide +kernel
theorem dX7_of_22 : decode cX7_of 22 = .ok (.iload_n 2, 1) := by decide +kernel
theorem dX7_of_23 : decode cX7_of 23 = .ok (.invokevirtual 48, 3) := by decide +kernel
theorem dX7_of_26 : decode cX7_of 26 = .ok (.goto 4, 3) := by decide +kernel
theorem dX7_of_29 : decode cX7_of 29 = .ok (.iconst (-1), 1) := by decide +kernel
theorem dX7_of_30 : decode cX7_of 30 = .ok (.ireturn, 1) := by decide +kernel
set_option maxRecDepth 20000 in
theorem ggX7_skill_X7_isSpeaker : GoodIn wsX7_skill wsX7_isSpeaker := goodIn_r _ [6, 7, 8, 9, 5, 10, 30, 31, 32, 33, 34, 35, 36, 37, 38, 39, 40, 41, 42, 43, 44, 45, 46] (by decide +kernel) (by decide +kernel)
set_option maxRecDepth 20000 in
theorem gX7_skill_X7_isSpeaker : GoodIn wsX7_skill (wsV RX7 86 RX7 yX7_isSpeaker wsX7_isSpeaker) := goodIn_app (goodIn_of _ (by decide +kernel)) ggX7_skill_X7_isSpeaker
set_option maxRecDepth 20000 in
theorem ggX7_skill_X7_isWord : GoodIn wsX7_skill wsX7_isWord := goodIn_r _ [14, 7, 8, 9, 5, 10, 30, 31, 32, 33, 34, 35, 36, 37, 38, 39, 40, 41, 42, 43, 44, 45, 46] (by decide +kernel) (by decide +kernel)
set_option maxRecDepth 20000 in
theorem gX7_skill_X7_isWord : GoodIn wsX7_skill (wsV RX7 100 RX7 yX7_isWord wsX7_isWord) := goodIn_app (goodIn_of _ (by decide +kernel)) ggX7_skill_X7_isWord
set_option maxRecDepth 20000 in
theorem ggX7_skill_X7_in : GoodIn wsX7_skill wsX7_in := goodIn_r _ [10] (by decide +kernel) (by decide +kernel)
set_option maxRecDepth 20000 in
theorem gX7_skill_X7_in : GoodIn wsX7_skill (va_wsS RX7 44 yX7_in wsX7_in) := goodIn_app (goodIn_of _ (by decide +kernel)) ggX7_skill_X7_in
set_option maxRecDepth 20000 in
theorem ggX7_skill_X7_wornOf : GoodIn wsX7_skill wsX7_wornOf := goodIn_r _ [18, 7, 30, 31, 32, 33, 34, 35, 36, 37, 38, 39, 40, 41, 42, 43, 44, 45, 46] (by decide +kernel) (by decide +kernel)
set_option maxRecDepth 20000 in
theorem gX7_skill_X7_wornOf : GoodIn wsX7_skill (wsV RX7 67 RX7 yX7_wornOf wsX7_wornOf) := goodIn_app (goodIn_of _ (by decide +kernel)) ggX7_skill_X7_wornOf
set_option maxRecDepth 20000 in
theorem ggX7_skill_X7_told : GoodIn wsX7_skill wsX7_told := goodIn_r _ [22, 7, 30, 31, 32, 33, 34, 35, 36, 37, 38, 39, 40, 41, 42, 43, 44, 45, 46] (by decide +kernel) (by decide +kernel)
set_option maxRecDepth 20000 in
theorem gX7_skill_X7_told : GoodIn wsX7_skill (wsV RX7 48 RX7 yX7_told wsX7_told) := goodIn_app (goodIn_of _ (by decide +kernel)) ggX7_skill_X7_told
set_option maxRecDepth 20000 in
theorem ggX7_skill_X7_skillOf : GoodIn wsX7_skill wsX7_skillOf := goodIn_r _ [26, 19, 20, 21, 5, 22, 7, 27, 28, 29, 30, 31, 32, 33, 34, 35, 36, 37, 38, 39, 40, 41, 42, 43, 44, 45, 46] (by decide +kernel) (by decide +kernel)
set_option maxRecDepth 20000 in
theorem gX7_skill_X7_skillOf : GoodIn wsX7_skill (wsV RX7 63 RX7 yX7_skillOf wsX7_skillOf) := goodIn_app (goodIn_of _ (by decide +kernel)) ggX7_skill_X7_skillOf
theorem dX7_skill_0 : decode cX7_skill 0 = .ok (.aload_n 0, 1) := by decide +kernel
theorem dX7_skill_1 : decode cX7_skill 1 = .ok (.iload_n 1, 1) := by decide +kernel
theorem dX7_skill_2 : decode cX7_skill 2 = .ok (.invokevirtual 86, 3) := by decide +kernel
theorem dX7_skill_5 : decode cX7_skill 5 = .ok (.ifCond .eq 23, 3) := by decide +kernel
theorem dX7_skill_8 : decode cX7_skill 8 = .ok (.aload_n 0, 1) := by decide +kernel
theorem dX7_skill_9 : decode cX7_skill 9 = .ok (.iload_n 2, 1) := by decide +kernel
theorem dX7_skill_10 : decode cX7_skill 10 = .ok (.invokevirtual 100, 3) := by decide +kernel
theorem dX7_skill_13 : decode cX7_skill 13 = .ok (.ifCond .eq 15, 3) := by decide +kernel
theorem dX7_skill_16 : decode cX7_skill 16 = .ok (.iload_n 3, 1) := by decide +kernel
theorem dX7_skill_17 : decode cX7_skill 17 = .ok (.i2l, 1) := by decide +kernel
theorem dX7_skill_18 : decode cX7_skill 18 = .ok (.lconst 0, 1) := by decide +kernel
theorem dX7_skill_19 : decode cX7_skill 19 = .ok (.ldc2_w 90, 3) := by decide +kernel
theorem dX7_skill_22 : decode cX7_skill 22 = .ok (.invokestatic 44, 3) := by decide +kernel
theorem dX7_skill_25 : decode cX7_skill 25 = .ok (.ifCond .ne 5, 3) := by decide +kernel
theorem dX7_skill_28 : decode cX7_skill 28 = .ok (.iconst (-1), 1) := by decide +kernel
theorem dX7_skill_29 : decode cX7_skill 29 = .ok (.ireturn, 1) := by decide +kernel
theorem dX7_skill_30 : decode cX7_skill 30 = .ok (.aload_n 0, 1) := by decide +kernel
theorem dX7_skill_31 : decode cX7_skill 31 = .ok (.iload_n 1, 1) := by decide +kernel
theorem dX7_skill_32 : decode cX7_skill 32 = .ok (.iload_n 3, 1) := by decide +kernel
theorem dX7_skill_33 : decode cX7_skill 33 = .ok (.aload_n 0, 1) := by decide +kernel
theorem dX7_skill_34 : decode cX7_skill 34 = .ok (.iload_n 2, 1) := by decide +kernel
theorem dX7_skill_35 : decode cX7_skill 35 = .ok (.invokevirtual 67, 3) := by decide +kernel
theorem dX7_skill_38 : decode cX7_skill 38 = .ok (.aload_n 0, 1) := by decide +kernel
theorem dX7_skill_39 : decode cX7_skill 39 = .ok (.iload_n 1, 1) := by decide +kernel
theorem dX7_skill_40 : decode cX7_skill 40 = .ok (.iconst 3, 1) := by decide +kernel
theorem dX7_skill_41 : decode cX7_skill 41 = .ok (.invokevirtual 48, 3) := by decide +kernel
theorem dX7_skill_44 : decode cX7_skill 44 = .ok (.invokevirtual 63, 3) := by decide +kernel
theorem dX7_skill_47 : decode cX7_skill 47 = .ok (.ireturn, 1) := by decide +kernel
set_option maxRecDepth 20000 in
theorem ggX7_those_X7_told : GoodIn wsX7_those wsX7_told := goodIn_r _ [6, 1, 7, 8, 9, 10, 11, 12, 13, 14, 15, 16, 17, 18, 19, 20, 21, 22, 23] (by decide +kernel) (by decide +kernel)
set_option maxRecDepth 20000 in
theorem gX7_those_X7_told : GoodIn wsX7_those (wsV RX7 48 RX7 yX7_told wsX7_told) := goodIn_app (goodIn_of _ (by decide +kernel)) ggX7_those_X7_told
theorem dX7_those_0 : decode cX7_those 0 = .ok (.iconst 0, 1) := by decide +kernel
theorem dX7_those_1 : decode cX7_those 1 = .ok (.istore_n 2, 1) := by decide +kernel
theorem dX7_those_2 : decode cX7_those 2 = .ok (.iconst 0, 1) := by decide +kernel
theorem dX7_those_3 : decode cX7_those 3 = .ok (.istore_n 3, 1) := by decide +kernel
theorem dX7_those_4 : decode cX7_those 4 = .ok (.iload_n 3, 1) := by decide +kernel
theorem dX7_those_5 : decode cX7_those 5 = .ok (.aload_n 0, 1) := by decide +kernel
theorem dX7_those_6 : decode cX7_those 6 = .ok (.getfield 7, 3) := by decide +kernel
theorem dX7_those_9 : decode cX7_those 9 = .ok (.iconst 0, 1) := by decide +kernel
theorem dX7_those_10 : decode cX7_those 10 = .ok (.iaload, 1) := by decide +kernel
theorem dX7_those_11 : decode cX7_those 11 = .ok (.if_icmp .ge 29, 3) := by decide +kernel
theorem dX7_those_14 : decode cX7_those 14 = .ok (.iload_n 2, 1) := by decide +kernel
theorem dX7_those_15 : decode cX7_those 15 = .ok (.aload_n 0, 1) := by decide +kernel
theorem dX7_those_16 : decode cX7_those 16 = .ok (.iload_n 3, 1) := by decide +kernel
theorem dX7_those_17 : decode cX7_those 17 = .ok (.iconst 2, 1) := by decide +kernel
theorem dX7_those_18 : decode cX7_those 18 = .ok (.invokevirtual 48, 3) := by decide +kernel
theorem dX7_those_21 : decode cX7_those 21 = .ok (.iload_n 1, 1) := by decide +kernel
theorem dX7_those_22 : decode cX7_those 22 = .ok (.if_icmp .ne 9, 3) := by decide +kernel
theorem dX7_those_25 : decode cX7_those 25 = .ok (.iconst 1, 1) := by decide +kernel
theorem dX7_those_26 : decode cX7_those 26 = .ok (.iload_n 3, 1) := by decide +kernel
theorem dX7_those_27 : decode cX7_those 27 = .ok (.ishl, 1) := by decide +kernel
theorem dX7_those_28 : decode cX7_those 28 = .ok (.goto 4, 3) := by decide +kernel
theorem dX7_those_31 : decode cX7_those 31 = .ok (.iconst 0, 1) := by decide +kernel
theorem dX7_those_32 : decode cX7_those 32 = .ok (.ior, 1) := by decide +kernel
theorem dX7_those_33 : decode cX7_those 33 = .ok (.istore_n 2, 1) := by decide +kernel
theorem dX7_those_34 : decode cX7_those 34 = .ok (.iinc 3 1, 3) := by decide +kernel
theorem dX7_those_37 : decode cX7_those 37 = .ok (.goto (-33), 3) := by decide +kernel
theorem dX7_those_40 : decode cX7_those 40 = .ok (.iload_n 2, 1) := by decide +kernel
theorem dX7_those_41 : decode cX7_those 41 = .ok (.ireturn, 1) := by decide +kernel
set_option maxRecDepth 20000 in
theorem ggX7_count_X7_hears : GoodIn wsX7_count wsX7_hears := goodIn_r _ [7, 1, 16, 17, 18, 19, 20, 21, 22, 23, 24, 25, 26, 27, 28, 29, 30, 31, 32] (by decide +kernel) (by decide +kernel)
set_option maxRecDepth 20000 in
theorem gX7_count_X7_hears : GoodIn wsX7_count (wsV RX7 56 RX7 yX7_hears wsX7_hears) := goodIn_app (goodIn_of _ (by decide +kernel)) ggX7_count_X7_hears
set_option maxRecDepth 20000 in
theorem ggX7_count_X7_those : GoodIn wsX7_count wsX7_those := goodIn_r _ [11, 1, 12, 13, 14, 6, 15, 16, 17, 18, 19, 20, 21, 22, 23, 24, 25, 26, 27, 28, 29, 30, 31, 32] (by decide +kernel) (by decide +kernel)
set_option maxRecDepth 20000 in
theorem gX7_count_X7_those : GoodIn wsX7_count (wsV RX7 103 RX7 yX7_those wsX7_those) := goodIn_app (goodIn_of _ (by decide +kernel)) ggX7_count_X7_those
theorem dX7_count_0 : decode cX7_count 0 = .ok (.iload_n 1, 1) := by decide +kernel
theorem dX7_count_1 : decode cX7_count 1 = .ok (.tableswitch 99 0 10 #[59, 59, 59, 59, 59, 66, 77, 77, 77, 86, 94], 59) := by decide +kernel
theorem dX7_count_60 : decode cX7_count 60 = .ok (.aload_n 0, 1) := by decide +kernel
theorem dX7_count_61 : decode cX7_count 61 = .ok (.getfield 7, 3) := by decide +kernel
theorem dX7_count_64 : decode cX7_count 64 = .ok (.iload_n 1, 1) := by decide +kernel
theorem dX7_count_65 : decode cX7_count 65 = .ok (.iaload, 1) := by decide +kernel
theorem dX7_count_66 : decode cX7_count 66 = .ok (.ireturn, 1) := by decide +kernel
theorem dX7_count_67 : decode cX7_count 67 = .ok (.aload_n 0, 1) := by decide +kernel
theorem dX7_count_68 : decode cX7_count 68 = .ok (.aload_n 0, 1) := by decide +kernel
theorem dX7_count_69 : decode cX7_count 69 = .ok (.getfield 7, 3) := by decide +kernel
theorem dX7_count_72 : decode cX7_count 72 = .ok (.iconst 4, 1) := by decide +kernel
theorem dX7_count_73 : decode cX7_count 73 = .ok (.iaload, 1) := by decide +kernel
theorem dX7_count_74 : decode cX7_count 74 = .ok (.invokevirtual 56, 3) := by decide +kernel
theorem dX7_count_77 : decode cX7_count 77 = .ok (.ireturn, 1) := by decide +kernel
theorem dX7_count_78 : decode cX7_count 78 = .ok (.aload_n 0, 1) := by decide +kernel
theorem dX7_count_79 : decode cX7_count 79 = .ok (.iload_n 1, 1) := by decide +kernel
theorem dX7_count_80 : decode cX7_count 80 = .ok (.bipush 6, 2) := by decide +kernel
theorem dX7_count_82 : decode cX7_count 82 = .ok (.isub, 1) := by decide +kernel
theorem dX7_count_83 : decode cX7_count 83 = .ok (.invokevirtual 103, 3) := by decide +kernel
theorem dX7_count_86 : decode cX7_count 86 = .ok (.ireturn, 1) := by decide +kernel
theorem dX7_count_87 : decode cX7_count 87 = .ok (.aload_n 0, 1) := by decide +kernel
theorem dX7_count_88 : decode cX7_count 88 = .ok (.getfield 7, 3) := by decide +kernel
theorem dX7_count_91 : decode cX7_count 91 = .ok (.bipush 6, 2) := by decide +kernel
theorem dX7_count_93 : decode cX7_count 93 = .ok (.iaload, 1) := by decide +kernel
theorem dX7_count_94 : decode cX7_count 94 = .ok (.ireturn, 1) := by decide +kernel
theorem dX7_count_95 : decode cX7_count 95 = .ok (.aload_n 0, 1) := by decide +kernel
theorem dX7_count_96 : decode cX7_count 96 = .ok (.getfield 82, 3) := by decide +kernel
theorem dX7_count_99 : decode cX7_count 99 = .ok (.ireturn, 1) := by decide +kernel
theorem dX7_count_100 : decode cX7_count 100 = .ok (.iconst (-1), 1) := by decide +kernel
theorem dX7_count_101 : decode cX7_count 101 = .ok (.ireturn, 1) := by decide +kernel
set_option maxRecDepth 20000 in
theorem ggX7_worn_X7_isWord : GoodIn wsX7_worn wsX7_isWord := goodIn_r _ [6, 1, 7, 8, 5, 9, 10, 11, 12, 13, 14, 15, 16, 17, 18, 19, 20, 21, 22, 23, 24, 25, 26] (by decide +kernel) (by decide +kernel)
set_option maxRecDepth 20000 in
theorem gX7_worn_X7_isWord : GoodIn wsX7_worn (wsV RX7 100 RX7 yX7_isWord wsX7_isWord) := goodIn_app (goodIn_of _ (by decide +kernel)) ggX7_worn_X7_isWord
set_option maxRecDepth 20000 in
theorem ggX7_worn_X7_in : GoodIn wsX7_worn wsX7_in := goodIn_r _ [9] (by decide +kernel) (by decide +kernel)
set_option maxRecDepth 20000 in
theorem gX7_worn_X7_in : GoodIn wsX7_worn (va_wsS RX7 44 yX7_in wsX7_in) := goodIn_app (goodIn_of _ (by decide +kernel)) ggX7_worn_X7_in
theorem dX7_worn_0 : decode cX7_worn 0 = .ok (.aload_n 0, 1) := by decide +kernel
theorem dX7_worn_1 : decode cX7_worn 1 = .ok (.iload_n 1, 1) := by decide +kernel
theorem dX7_worn_2 : decode cX7_worn 2 = .ok (.invokevirtual 100, 3) := by decide +kernel
theorem dX7_worn_5 : decode cX7_worn 5 = .ok (.ifCond .eq 29, 3) := by decide +kernel
theorem dX7_worn_8 : decode cX7_worn 8 = .ok (.iload_n 2, 1) := by decide +kernel
theorem dX7_worn_9 : decode cX7_worn 9 = .ok (.i2l, 1) := by decide +kernel
theorem dX7_worn_10 : decode cX7_worn 10 = .ok (.lconst 0, 1) := by decide +kernel
theorem dX7_worn_11 : decode cX7_worn 11 = .ok (.lconst 1, 1) := by decide +kernel
theorem dX7_worn_12 : decode cX7_worn 12 = .ok (.invokestatic 44, 3) := by decide +kernel
theorem dX7_worn_15 : decode cX7_worn 15 = .ok (.ifCond .eq 19, 3) := by decide +kernel
theorem dX7_worn_18 : decode cX7_worn 18 = .ok (.aload_n 0, 1) := by decide +kernel
theorem dX7_worn_19 : decode cX7_worn 19 = .ok (.getfield 7, 3) := by decide +kernel
theorem dX7_worn_22 : decode cX7_worn 22 = .ok (.bipush 67, 2) := by decide +kernel
theorem dX7_worn_24 : decode cX7_worn 24 = .ok (.iconst 2, 1) := by decide +kernel
theorem dX7_worn_25 : decode cX7_worn 25 = .ok (.iload_n 1, 1) := by decide +kernel
theorem dX7_worn_26 : decode cX7_worn 26 = .ok (.imul, 1) := by decide +kernel
theorem dX7_worn_27 : decode cX7_worn 27 = .ok (.iadd, 1) := by decide +kernel
theorem dX7_worn_28 : decode cX7_worn 28 = .ok (.iload_n 2, 1) := by decide +kernel
theorem dX7_worn_29 : decode cX7_worn 29 = .ok (.iadd, 1) := by decide +kernel
theorem dX7_worn_30 : decode cX7_worn 30 = .ok (.iaload, 1) := by decide +kernel
theorem dX7_worn_31 : decode cX7_worn 31 = .ok (.goto 4, 3) := by decide +kernel
theorem dX7_worn_34 : decode cX7_worn 34 = .ok (.iconst (-1), 1) := by decide +kernel
theorem dX7_worn_35 : decode cX7_worn 35 = .ok (.ireturn, 1) := by decide +kernel
set_option maxRecDepth 20000 in
theorem ggX7_type_X7_in : GoodIn wsX7_type wsX7_in := goodIn_r _ [8] (by decide +kernel) (by decide +kernel)
set_option maxRecDepth 20000 in
theorem gX7_type_X7_in : GoodIn wsX7_type (va_wsS RX7 44 yX7_in wsX7_in) := goodIn_app (goodIn_of _ (by decide +kernel)) ggX7_type_X7_in
theorem dX7_type_0 : decode cX7_type 0 = .ok (.iload_n 1, 1) := by decide +kernel
theorem dX7_type_1 : decode cX7_type 1 = .ok (.i2l, 1) := by decide +kernel
theorem dX7_type_2 : decode cX7_type 2 = .ok (.ldc2_w 106, 3) := by decide +kernel
theorem dX7_type_5 : decode cX7_type 5 = .ok (.ldc2_w 108, 3) := by decide +kernel
theorem dX7_type_8 : decode cX7_type 8 = .ok (.invokestatic 44, 3) := by decide +kernel
theorem dX7_type_11 : decode cX7_type 11 = .ok (.ifCond .ne 5, 3) := by decide +kernel
theorem dX7_type_14 : decode cX7_type 14 = .ok (.iconst (-1), 1) := by decide +kernel
theorem dX7_type_15 : decode cX7_type 15 = .ok (.ireturn, 1) := by decide +kernel
theorem dX7_type_16 : decode cX7_type 16 = .ok (.aload_n 0, 1) := by decide +kernel
theorem dX7_type_17 : decode cX7_type 17 = .ok (.getfield 110, 3) := by decide +kernel
theorem dX7_type_20 : decode cX7_type 20 = .ok (.bipush 90, 2) := by decide +kernel
theorem dX7_type_22 : decode cX7_type 22 = .ok (.if_icmp .ne 6, 3) := by decide +kernel
theorem dX7_type_25 : decode cX7_type 25 = .ok (.bipush (-3), 2) := by decide +kernel
theorem dX7_type_27 : decode cX7_type 27 = .ok (.ireturn, 1) := by decide +kernel
theorem dX7_type_28 : decode cX7_type 28 = .ok (.aload_n 0, 1) := by decide +kernel
theorem dX7_type_29 : decode cX7_type 29 = .ok (.getfield 13, 3) := by decide +kernel
theorem dX7_type_32 : decode cX7_type 32 = .ok (.aload_n 0, 1) := by decide +kernel
theorem dX7_type_33 : decode cX7_type 33 = .ok (.getfield 110, 3) := by decide +kernel
theorem dX7_type_36 : decode cX7_type 36 = .ok (.iload_n 1, 1) := by decide +kernel
theorem dX7_type_37 : decode cX7_type 37 = .ok (.iastore, 1) := by decide +kernel
theorem dX7_type_38 : decode cX7_type 38 = .ok (.aload_n 0, 1) := by decide +kernel
theorem dX7_type_39 : decode cX7_type 39 = .ok (.dup, 1) := by decide +kernel
theorem dX7_type_40 : decode cX7_type 40 = .ok (.getfield 110, 3) := by decide +kernel
theorem dX7_type_43 : decode cX7_type 43 = .ok (.iconst 1, 1) := by decide +kernel
theorem dX7_type_44 : decode cX7_type 44 = .ok (.iadd, 1) := by decide +kernel
theorem dX7_type_45 : decode cX7_type 45 = .ok (.putfield 110, 3) := by decide +kernel
theorem dX7_type_48 : decode cX7_type 48 = .ok (.aload_n 0, 1) := by decide +kernel
theorem dX7_type_49 : decode cX7_type 49 = .ok (.getfield 110, 3) := by decide +kernel
theorem dX7_type_52 : decode cX7_type 52 = .ok (.ireturn, 1) := by decide +kernel
theorem dX7_here_0 : decode cX7_here 0 = .ok (.aload_n 0, 1) := by decide +kernel
theorem dX7_here_1 : decode cX7_here 1 = .ok (.getfield 113, 3) := by decide +kernel
theorem dX7_here_4 : decode cX7_here 4 = .ok (.aload_n 0, 1) := by decide +kernel
theorem dX7_here_5 : decode cX7_here 5 = .ok (.getfield 110, 3) := by decide +kernel
theorem dX7_here_8 : decode cX7_here 8 = .ok (.if_icmp .ge 30, 3) := by decide +kernel
theorem dX7_here_11 : decode cX7_here 11 = .ok (.aload_n 0, 1) := by decide +kernel
theorem dX7_here_12 : decode cX7_here 12 = .ok (.getfield 13, 3) := by decide +kernel
theorem dX7_here_15 : decode cX7_here 15 = .ok (.aload_n 0, 1) := by decide +kernel
theorem dX7_here_16 : decode cX7_here 16 = .ok (.getfield 113, 3) := by decide +kernel
theorem dX7_here_19 : decode cX7_here 19 = .ok (.iaload, 1) := by decide +kernel
theorem dX7_here_20 : decode cX7_here 20 = .ok (.bipush 32, 2) := by decide +kernel
theorem dX7_here_22 : decode cX7_here 22 = .ok (.if_icmp .ne 16, 3) := by decide +kernel
theorem dX7_here_25 : decode cX7_here 25 = .ok (.aload_n 0, 1) := by decide +kernel
theorem dX7_here_26 : decode cX7_here 26 = .ok (.dup, 1) := by decide +kernel
theorem dX7_here_27 : decode cX7_here 27 = .ok (.getfield 113, 3) := by decide +kernel
theorem dX7_here_30 : decode cX7_here 30 = .ok (.iconst 1, 1) := by decide +kernel
theorem dX7_here_31 : decode cX7_here 31 = .ok (.iadd, 1) := by decide +kernel
theorem dX7_here_32 : decode cX7_here 32 = .ok (.putfield 113, 3) := by decide +kernel
theorem dX7_here_35 : decode cX7_here 35 = .ok (.goto (-35), 3) := by decide +kernel
theorem dX7_here_38 : decode cX7_here 38 = .ok (.aload_n 0, 1) := by decide +kernel
theorem dX7_here_39 : decode cX7_here 39 = .ok (.getfield 113, 3) := by decide +kernel
theorem dX7_here_42 : decode cX7_here 42 = .ok (.aload_n 0, 1) := by decide +kernel
theorem dX7_here_43 : decode cX7_here 43 = .ok (.getfield 110, 3) := by decide +kernel
theorem dX7_here_46 : decode cX7_here 46 = .ok (.if_icmp .ge 15, 3) := by decide +kernel
theorem dX7_here_49 : decode cX7_here 49 = .ok (.aload_n 0, 1) := by decide +kernel
theorem dX7_here_50 : decode cX7_here 50 = .ok (.getfield 13, 3) := by decide +kernel
theorem dX7_here_53 : decode cX7_here 53 = .ok (.aload_n 0, 1) := by decide +kernel
theorem dX7_here_54 : decode cX7_here 54 = .ok (.getfield 113, 3) := by decide +kernel
theorem dX7_here_57 : decode cX7_here 57 = .ok (.iaload, 1) := by decide +kernel
theorem dX7_here_58 : decode cX7_here 58 = .ok (.goto 4, 3) := by decide +kernel
theorem dX7_here_61 : decode cX7_here 61 = .ok (.iconst 0, 1) := by decide +kernel
theorem dX7_here_62 : decode cX7_here 62 = .ok (.ireturn, 1) := by decide +kernel
theorem dX7_must_0 : decode cX7_must 0 = .ok (.aload_n 0, 1) := by decide +kernel
theorem dX7_must_1 : decode cX7_must 1 = .ok (.aload_n 0, 1) := by decide +kernel
theorem dX7_must_2 : decode cX7_must 2 = .ok (.getfield 116, 3) := by decide +kernel
theorem dX7_must_5 : decode cX7_must 5 = .ok (.ifCond .ne 7, 3) := by decide +kernel
theorem dX7_must_8 : decode cX7_must 8 = .ok (.iload_n 1, 1) := by decide +kernel
theorem dX7_must_9 : decode cX7_must 9 = .ok (.ifCond .ne 7, 3) := by decide +kernel
theorem dX7_must_12 : decode cX7_must 12 = .ok (.iconst 1, 1) := by decide +kernel
theorem dX7_must_13 : decode cX7_must 13 = .ok (.goto 4, 3) := by decide +kernel
theorem dX7_must_16 : decode cX7_must 16 = .ok (.iconst 0, 1) := by decide +kernel
theorem dX7_must_17 : decode cX7_must 17 = .ok (.putfield 116, 3) := by decide +kernel
theorem dX7_must_20 : decode cX7_must 20 = .ok (.aload_n 0, 1) := by decide +kernel
theorem dX7_must_21 : decode cX7_must 21 = .ok (.dup, 1) := by decide +kernel
theorem dX7_must_22 : decode cX7_must 22 = .ok (.getfield 113, 3) := by decide +kernel
theorem dX7_must_25 : decode cX7_must 25 = .ok (.aload_n 0, 1) := by decide +kernel
theorem dX7_must_26 : decode cX7_must 26 = .ok (.getfield 116, 3) := by decide +kernel
theorem dX7_must_29 : decode cX7_must 29 = .ok (.ifCond .eq 7, 3) := by decide +kernel
theorem dX7_must_32 : decode cX7_must 32 = .ok (.iconst 0, 1) := by decide +kernel
theorem dX7_must_33 : decode cX7_must 33 = .ok (.goto 4, 3) := by decide +kernel
theorem dX7_must_36 : decode cX7_must 36 = .ok (.iconst 1, 1) := by decide +kernel
theorem dX7_must_37 : decode cX7_must 37 = .ok (.iadd, 1) := by decide +kernel
theorem dX7_must_38 : decode cX7_must 38 = .ok (.putfield 113, 3) := by decide +kernel
theorem dX7_must_41 : decode cX7_must 41 = .ok (.return_, 1) := by decide +kernel
set_option maxRecDepth 20000 in
theorem ggX7_digit_X7_here : GoodIn wsX7_digit wsX7_here := goodIn_r _ [6, 7, 8, 9, 17, 18, 19, 20, 21, 22, 23, 24, 25, 26, 27, 28, 29, 30, 31, 32, 33] (by decide +kernel) (by decide +kernel)
set_option maxRecDepth 20000 in
theorem gX7_digit_X7_here : GoodIn wsX7_digit (wsV RX7 120 RX7 yX7_here wsX7_here) := goodIn_app (goodIn_of _ (by decide +kernel)) ggX7_digit_X7_here
set_option maxRecDepth 20000 in
theorem ggX7_digit_X7_in : GoodIn wsX7_digit wsX7_in := goodIn_r _ [12] (by decide +kernel) (by decide +kernel)
set_option maxRecDepth 20000 in
theorem gX7_digit_X7_in : GoodIn wsX7_digit (va_wsS RX7 44 yX7_in wsX7_in) := goodIn_app (goodIn_of _ (by decide +kernel)) ggX7_digit_X7_in
set_option maxRecDepth 20000 in
theorem ggX7_digit_X7_must : GoodIn wsX7_digit wsX7_must := goodIn_r _ [16, 1, 7, 17, 18, 19, 20, 21, 22, 23, 24, 25, 26, 27, 28, 29, 30, 31, 32, 33] (by decide +kernel) (by decide +kernel)
set_option maxRecDepth 20000 in
theorem gX7_digit_X7_must : GoodIn wsX7_digit (wsV RX7 124 RX7 yX7_must wsX7_must) := goodIn_app (goodIn_of _ (by decide +kernel)) ggX7_digit_X7_must
theorem dX7_digit_0 : decode cX7_digit 0 = .ok (.aload_n 0, 1) := by decide +kernel
theorem dX7_digit_1 : decode cX7_digit 1 = .ok (.getfield 116, 3) := by decide +kernel
theorem dX7_digit_4 : decode cX7_digit 4 = .ok (.ifCond .eq 7, 3) := by decide +kernel
theorem dX7_digit_7 : decode cX7_digit 7 = .ok (.iconst (-1), 1) := by decide +kernel
theorem dX7_digit_8 : decode cX7_digit 8 = .ok (.goto 10, 3) := by decide +kernel
theorem dX7_digit_11 : decode cX7_digit 11 = .ok (.aload_n 0, 1) := by decide +kernel
theorem dX7_digit_12 : decode cX7_digit 12 = .ok (.invokevirtual 120, 3) := by decide +kernel
theorem dX7_digit_15 : decode cX7_digit 15 = .ok (.bipush 48, 2) := by decide +kernel
theorem dX7_digit_17 : decode cX7_digit 17 = .ok (.isub, 1) := by decide +kernel
theorem dX7_digit_18 : decode cX7_digit 18 = .ok (.istore_n 3, 1) := by decide +kernel
theorem dX7_digit_19 : decode cX7_digit 19 = .ok (.aload_n 0, 1) := by decide +kernel
theorem dX7_digit_20 : decode cX7_digit 20 = .ok (.iload_n 3, 1) := by decide +kernel
theorem dX7_digit_21 : decode cX7_digit 21 = .ok (.i2l, 1) := by decide +kernel
theorem dX7_digit_22 : decode cX7_digit 22 = .ok (.iload_n 1, 1) := by decide +kernel
theorem dX7_digit_23 : decode cX7_digit 23 = .ok (.i2l, 1) := by decide +kernel
theorem dX7_digit_24 : decode cX7_digit 24 = .ok (.iload_n 2, 1) := by decide +kernel
theorem dX7_digit_25 : decode cX7_digit 25 = .ok (.i2l, 1) := by decide +kernel
theorem dX7_digit_26 : decode cX7_digit 26 = .ok (.invokestatic 44, 3) := by decide +kernel
theorem dX7_digit_29 : decode cX7_digit 29 = .ok (.invokevirtual 124, 3) := by decide +kernel
theorem dX7_digit_32 : decode cX7_digit 32 = .ok (.iload_n 3, 1) := by decide +kernel
theorem dX7_digit_33 : decode cX7_digit 33 = .ok (.ireturn, 1) := by decide +kernel
set_option maxRecDepth 20000 in
theorem ggX7_readSpeakers_X7_here : GoodIn wsX7_readSpeakers wsX7_here := goodIn_r _ [7, 8, 9, 10, 22, 23, 24, 25, 26, 27, 28, 29, 30, 31, 32, 33, 34, 35, 36, 37, 38] (by decide +kernel) (by decide +kernel)
set_option maxRecDepth 20000 in
theorem gX7_readSpeakers_X7_here : GoodIn wsX7_readSpeakers (wsV RX7 120 RX7 yX7_here wsX7_here) := goodIn_app (goodIn_of _ (by decide +kernel)) ggX7_readSpeakers_X7_here
set_option maxRecDepth 20000 in
theorem ggX7_readSpeakers_X7_must : GoodIn wsX7_readSpeakers wsX7_must := goodIn_r _ [14, 1, 8, 22, 23, 24, 25, 26, 27, 28, 29, 30, 31, 32, 33, 34, 35, 36, 37, 38] (by decide +kernel) (by decide +kernel)
set_option maxRecDepth 20000 in
theorem gX7_readSpeakers_X7_must : GoodIn wsX7_readSpeakers (wsV RX7 124 RX7 yX7_must wsX7_must) := goodIn_app (goodIn_of _ (by decide +kernel)) ggX7_readSpeakers_X7_must
set_option maxRecDepth 20000 in
theorem ggX7_readSpeakers_X7_digit : GoodIn wsX7_readSpeakers wsX7_digit := goodIn_r _ [18, 1, 3, 4, 5, 6, 7, 8, 9, 10, 19, 20, 21, 11, 12, 13, 14, 22, 23, 24, 25, 26, 27, 28, 29, 30, 31, 32, 33, 34, 35, 36, 37, 38] (by decide +kernel) (by decide +kernel)
set_option maxRecDepth 20000 in
theorem gX7_readSpeakers_X7_digit : GoodIn wsX7_readSpeakers (wsV RX7 128 RX7 yX7_digit wsX7_digit) := goodIn_app (goodIn_of _ (by decide +kernel)) ggX7_readSpeakers_X7_digit
theorem dX7_readSpeakers_0 : decode cX7_readSpeakers 0 = .ok (.iconst 0, 1) := by decide +kernel
theorem dX7_readSpeakers_1 : decode cX7_readSpeakers 1 = .ok (.istore_n 1, 1) := by decide +kernel
theorem dX7_readSpeakers_2 : decode cX7_readSpeakers 2 = .ok (.aload_n 0, 1) := by decide +kernel
theorem dX7_readSpeakers_3 : decode cX7_readSpeakers 3 = .ok (.getfield 116, 3) := by decide +kernel
theorem dX7_readSpeakers_6 : decode cX7_readSpeakers 6 = .ok (.ifCond .ne 204, 3) := by decide +kernel
theorem dX7_readSpeakers_9 : decode cX7_readSpeakers 9 = .ok (.iload_n 1, 1) := by decide +kernel
theorem dX7_readSpeakers_10 : decode cX7_readSpeakers 10 = .ok (.ifCond .eq 12, 3) := by decide +kernel
theorem dX7_readSpeakers_13 : decode cX7_readSpeakers 13 = .ok (.aload_n 0, 1) := by decide +kernel
theorem dX7_readSpeakers_14 : decode cX7_readSpeakers 14 = .ok (.invokevirtual 120, 3) := by decide +kernel
theorem dX7_readSpeakers_17 : decode cX7_readSpeakers 17 = .ok (.bipush 44, 2) := by decide +kernel
theorem dX7_readSpeakers_19 : decode cX7_readSpeakers 19 = .ok (.if_icmp .ne 191, 3) := by decide +kernel
theorem dX7_readSpeakers_22 : decode cX7_readSpeakers 22 = .ok (.iload_n 1, 1) := by decide +kernel
theorem dX7_readSpeakers_23 : decode cX7_readSpeakers 23 = .ok (.ifCond .le 18, 3) := by decide +kernel
theorem dX7_readSpeakers_26 : decode cX7_readSpeakers 26 = .ok (.aload_n 0, 1) := by decide +kernel
theorem dX7_readSpeakers_27 : decode cX7_readSpeakers 27 = .ok (.iload_n 1, 1) := by decide +kernel
theorem dX7_readSpeakers_28 : decode cX7_readSpeakers 28 = .ok (.bipush 6, 2) := by decide +kernel
theorem dX7_readSpeakers_30 : decode cX7_readSpeakers 30 = .ok (.if_icmp .ge 7, 3) := by decide +kernel
theorem dX7_readSpeakers_33 : decode cX7_readSpeakers 33 = .ok (.iconst 1, 1) := by decide +kernel
theorem dX7_readSpeakers_34 : decode cX7_readSpeakers 34 = .ok (.goto 4, 3) := by decide +kernel
theorem dX7_readSpeakers_37 : decode cX7_readSpeakers 37 = .ok (.iconst 0, 1) := by decide +kernel
theorem dX7_readSpeakers_38 : decode cX7_readSpeakers 38 = .ok (.invokevirtual 124, 3) := by decide +kernel
theorem dX7_readSpeakers_41 : decode cX7_readSpeakers 41 = .ok (.aload_n 0, 1) := by decide +kernel
theorem dX7_readSpeakers_42 : decode cX7_readSpeakers 42 = .ok (.getfield 116, 3) := by decide +kernel
theorem dX7_readSpeakers_45 : decode cX7_readSpeakers 45 = .ok (.ifCond .eq 7, 3) := by decide +kernel
theorem dX7_readSpeakers_48 : decode cX7_readSpeakers 48 = .ok (.iconst 0, 1) := by decide +kernel
theorem dX7_readSpeakers_49 : decode cX7_readSpeakers 49 = .ok (.goto 7, 3) := by decide +kernel
theorem dX7_readSpeakers_52 : decode cX7_readSpeakers 52 = .ok (.aload_n 0, 1) := by decide +kernel
theorem dX7_readSpeakers_53 : decode cX7_readSpeakers 53 = .ok (.invokevirtual 120, 3) := by decide +kernel
theorem dX7_readSpeakers_56 : decode cX7_readSpeakers 56 = .ok (.istore_n 2, 1) := by decide +kernel
theorem dX7_readSpeakers_57 : decode cX7_readSpeakers 57 = .ok (.iload_n 2, 1) := by decide +kernel
theorem dX7_readSpeakers_58 : decode cX7_readSpeakers 58 = .ok (.bipush 112, 2) := by decide +kernel
theorem dX7_readSpeakers_60 : decode cX7_readSpeakers 60 = .ok (.if_icmp .ne 7, 3) := by decide +kernel
theorem dX7_readSpeakers_63 : decode cX7_readSpeakers 63 = .ok (.iconst 0, 1) := by decide +kernel
theorem dX7_readSpeakers_64 : decode cX7_readSpeakers 64 = .ok (.goto 44, 3) := by decide +kernel
theorem dX7_readSpeakers_67 : decode cX7_readSpeakers 67 = .ok (.iload_n 2, 1) := by decide +kernel
theorem dX7_readSpeakers_68 : decode cX7_readSpeakers 68 = .ok (.bipush 99, 2) := by decide +kernel
theorem dX7_readSpeakers_70 : decode cX7_readSpeakers 70 = .ok (.if_icmp .ne 7, 3) := by decide +kernel
theorem dX7_readSpeakers_73 : decode cX7_readSpeakers 73 = .ok (.iconst 1, 1) := by decide +kernel
theorem dX7_readSpeakers_74 : decode cX7_readSpeakers 74 = .ok (.goto 34, 3) := by decide +kernel
theorem dX7_readSpeakers_77 : decode cX7_readSpeakers 77 = .ok (.iload_n 2, 1) := by decide +kernel
theorem dX7_readSpeakers_78 : decode cX7_readSpeakers 78 = .ok (.bipush 116, 2) := by decide +kernel
theorem dX7_readSpeakers_80 : decode cX7_readSpeakers 80 = .ok (.if_icmp .ne 7, 3) := by decide +kernel
theorem dX7_readSpeakers_83 : decode cX7_readSpeakers 83 = .ok (.iconst 2, 1) := by decide +kernel
theorem dX7_readSpeakers_84 : decode cX7_readSpeakers 84 = .ok (.goto 24, 3) := by decide +kernel
theorem dX7_readSpeakers_87 : decode cX7_readSpeakers 87 = .ok (.iload_n 2, 1) := by decide +kernel
theorem dX7_readSpeakers_88 : decode cX7_readSpeakers 88 = .ok (.bipush 109, 2) := by decide +kernel
theorem dX7_readSpeakers_90 : decode cX7_readSpeakers 90 = .ok (.if_icmp .ne 7, 3) := by decide +kernel
theorem dX7_readSpeakers_93 : decode cX7_readSpeakers 93 = .ok (.iconst 3, 1) := by decide +kernel
theorem dX7_readSpeakers_94 : decode cX7_readSpeakers 94 = .ok (.goto 14, 3) := by decide +kernel
theorem dX7_readSpeakers_97 : decode cX7_readSpeakers 97 = .ok (.iload_n 2, 1) := by decide +kernel
theorem dX7_readSpeakers_98 : decode cX7_readSpeakers 98 = .ok (.bipush 104, 2) := by decide +kernel
theorem dX7_readSpeakers_100 : decode cX7_readSpeakers 100 = .ok (.if_icmp .ne 7, 3) := by decide +kernel
theorem dX7_readSpeakers_103 : decode cX7_readSpeakers 103 = .ok (.iconst 4, 1) := by decide +kernel
theorem dX7_readSpeakers_104 : decode cX7_readSpeakers 104 = .ok (.goto 4, 3) := by decide +kernel
theorem dX7_readSpeakers_107 : decode cX7_readSpeakers 107 = .ok (.iconst (-1), 1) := by decide +kernel
theorem dX7_readSpeakers_108 : decode cX7_readSpeakers 108 = .ok (.istore_n 3, 1) := by decide +kernel
theorem dX7_readSpeakers_109 : decode cX7_readSpeakers 109 = .ok (.aload_n 0, 1) := by decide +kernel
theorem dX7_readSpeakers_110 : decode cX7_readSpeakers 110 = .ok (.iload_n 3, 1) := by decide +kernel
theorem dX7_readSpeakers_111 : decode cX7_readSpeakers 111 = .ok (.ifCond .lt 7, 3) := by decide +kernel
theorem dX7_readSpeakers_114 : decode cX7_readSpeakers 114 = .ok (.iconst 1, 1) := by decide +kernel
theorem dX7_readSpeakers_115 : decode cX7_readSpeakers 115 = .ok (.goto 4, 3) := by decide +kernel
theorem dX7_readSpeakers_118 : decode cX7_readSpeakers 118 = .ok (.iconst 0, 1) := by decide +kernel
theorem dX7_readSpeakers_119 : decode cX7_readSpeakers 119 = .ok (.invokevirtual 124, 3) := by decide +kernel
theorem dX7_readSpeakers_122 : decode cX7_readSpeakers 122 = .ok (.aload_n 0, 1) := by decide +kernel
theorem dX7_readSpeakers_123 : decode cX7_readSpeakers 123 = .ok (.iconst 0, 1) := by decide +kernel
theorem dX7_readSpeakers_124 : decode cX7_readSpeakers 124 = .ok (.iconst 1, 1) := by decide +kernel
theorem dX7_readSpeakers_125 : decode cX7_readSpeakers 125 = .ok (.invokevirtual 128, 3) := by decide +kernel
theorem dX7_readSpeakers_128 : decode cX7_readSpeakers 128 = .ok (.istore 4, 2) := by decide +kernel
theorem dX7_readSpeakers_130 : decode cX7_readSpeakers 130 = .ok (.iconst 0, 1) := by decide +kernel
theorem dX7_readSpeakers_131 : decode cX7_readSpeakers 131 = .ok (.istore 5, 2) := by decide +kernel
theorem dX7_readSpeakers_133 : decode cX7_readSpeakers 133 = .ok (.iload 5, 2) := by decide +kernel
theorem dX7_readSpeakers_135 : decode cX7_readSpeakers 135 = .ok (.bipush 6, 2) := by decide +kernel
theorem dX7_readSpeakers_137 : decode cX7_readSpeakers 137 = .ok (.if_icmp .ge 37, 3) := by decide +kernel
theorem dX7_readSpeakers_140 : decode cX7_readSpeakers 140 = .ok (.aload_n 0, 1) := by decide +kernel
theorem dX7_readSpeakers_141 : decode cX7_readSpeakers 141 = .ok (.getfield 116, 3) := by decide +kernel
theorem dX7_readSpeakers_144 : decode cX7_readSpeakers 144 = .ok (.ifCond .ne 30, 3) := by decide +kernel
theorem dX7_readSpeakers_147 : decode cX7_readSpeakers 147 = .ok (.aload_n 0, 1) := by decide +kernel
theorem dX7_readSpeakers_148 : decode cX7_readSpeakers 148 = .ok (.getfield 16, 3) := by decide +kernel
theorem dX7_readSpeakers_151 : decode cX7_readSpeakers 151 = .ok (.bipush 8, 2) := by decide +kernel
theorem dX7_readSpeakers_153 : decode cX7_readSpeakers 153 = .ok (.iload_n 1, 1) := by decide +kernel
theorem dX7_readSpeakers_154 : decode cX7_readSpeakers 154 = .ok (.imul, 1) := by decide +kernel
theorem dX7_readSpeakers_155 : decode cX7_readSpeakers 155 = .ok (.iconst 2, 1) := by decide +kernel
theorem dX7_readSpeakers_156 : decode cX7_readSpeakers 156 = .ok (.iadd, 1) := by decide +kernel
theorem dX7_readSpeakers_157 : decode cX7_readSpeakers 157 = .ok (.iload 5, 2) := by decide +kernel
theorem dX7_readSpeakers_159 : decode cX7_readSpeakers 159 = .ok (.iadd, 1) := by decide +kernel
theorem dX7_readSpeakers_160 : decode cX7_readSpeakers 160 = .ok (.aload_n 0, 1) := by decide +kernel
theorem dX7_readSpeakers_161 : decode cX7_readSpeakers 161 = .ok (.iconst 0, 1) := by decide +kernel
theorem dX7_readSpeakers_162 : decode cX7_readSpeakers 162 = .ok (.bipush 9, 2) := by decide +kernel
theorem dX7_readSpeakers_164 : decode cX7_readSpeakers 164 = .ok (.invokevirtual 128, 3) := by decide +kernel
theorem dX7_readSpeakers_167 : decode cX7_readSpeakers 167 = .ok (.iastore, 1) := by decide +kernel
theorem dX7_readSpeakers_168 : decode cX7_readSpeakers 168 = .ok (.iinc 5 1, 3) := by decide +kernel
theorem dX7_readSpeakers_171 : decode cX7_readSpeakers 171 = .ok (.goto (-38), 3) := by decide +kernel
theorem dX7_readSpeakers_174 : decode cX7_readSpeakers 174 = .ok (.aload_n 0, 1) := by decide +kernel
theorem dX7_readSpeakers_175 : decode cX7_readSpeakers 175 = .ok (.getfield 116, 3) := by decide +kernel
theorem dX7_readSpeakers_178 : decode cX7_readSpeakers 178 = .ok (.ifCond .ne 26, 3) := by decide +kernel
theorem dX7_readSpeakers_181 : decode cX7_readSpeakers 181 = .ok (.aload_n 0, 1) := by decide +kernel
theorem dX7_readSpeakers_182 : decode cX7_readSpeakers 182 = .ok (.getfield 16, 3) := by decide +kernel
theorem dX7_readSpeakers_185 : decode cX7_readSpeakers 185 = .ok (.bipush 8, 2) := by decide +kernel
theorem dX7_readSpeakers_187 : decode cX7_readSpeakers 187 = .ok (.iload_n 1, 1) := by decide +kernel
theorem dX7_readSpeakers_188 : decode cX7_readSpeakers 188 = .ok (.imul, 1) := by decide +kernel
theorem dX7_readSpeakers_189 : decode cX7_readSpeakers 189 = .ok (.iload_n 3, 1) := by decide +kernel
theorem dX7_readSpeakers_190 : decode cX7_readSpeakers 190 = .ok (.iastore, 1) := by decide +kernel
theorem dX7_readSpeakers_191 : decode cX7_readSpeakers 191 = .ok (.aload_n 0, 1) := by decide +kernel
theorem dX7_readSpeakers_192 : decode cX7_readSpeakers 192 = .ok (.getfield 16, 3) := by decide +kernel
theorem dX7_readSpeakers_195 : decode cX7_readSpeakers 195 = .ok (.bipush 8, 2) := by decide +kernel
theorem dX7_readSpeakers_197 : decode cX7_readSpeakers 197 = .ok (.iload_n 1, 1) := by decide +kernel
theorem dX7_readSpeakers_198 : decode cX7_readSpeakers 198 = .ok (.imul, 1) := by decide +kernel
theorem dX7_readSpeakers_199 : decode cX7_readSpeakers 199 = .ok (.iconst 1, 1) := by decide +kernel
theorem dX7_readSpeakers_200 : decode cX7_readSpeakers 200 = .ok (.iadd, 1) := by decide +kernel
theorem dX7_readSpeakers_201 : decode cX7_readSpeakers 201 = .ok (.iload 4, 2) := by decide +kernel
theorem dX7_readSpeakers_203 : decode cX7_readSpeakers 203 = .ok (.iastore, 1) := by decide +kernel
theorem dX7_readSpeakers_204 : decode cX7_readSpeakers 204 = .ok (.iinc 1 1, 3) := by decide +kernel
theorem dX7_readSpeakers_207 : decode cX7_readSpeakers 207 = .ok (.goto (-205), 3) := by decide +kernel
theorem dX7_readSpeakers_210 : decode cX7_readSpeakers 210 = .ok (.iload_n 1, 1) := by decide +kernel
theorem dX7_readSpeakers_211 : decode cX7_readSpeakers 211 = .ok (.ireturn, 1) := by decide +kernel
set_option maxRecDepth 20000 in
theorem ggX7_readWordsOf_X7_here : GoodIn wsX7_readWordsOf wsX7_here := goodIn_r _ [10, 4, 11, 12, 20, 21, 22, 23, 24, 25, 26, 27, 28, 29, 30, 31, 32, 33, 34, 35, 36] (by decide +kernel) (by decide +kernel)
set_option maxRecDepth 20000 in
theorem gX7_readWordsOf_X7_here : GoodIn wsX7_readWordsOf (wsV RX7 120 RX7 yX7_here wsX7_here) := goodIn_app (goodIn_of _ (by decide +kernel)) ggX7_readWordsOf_X7_here
set_option maxRecDepth 20000 in
theorem ggX7_readWordsOf_X7_must : GoodIn wsX7_readWordsOf wsX7_must := goodIn_r _ [16, 1, 4, 20, 21, 22, 23, 24, 25, 26, 27, 28, 29, 30, 31, 32, 33, 34, 35, 36] (by decide +kernel) (by decide +kernel)
set_option maxRecDepth 20000 in
theorem gX7_readWordsOf_X7_must : GoodIn wsX7_readWordsOf (wsV RX7 124 RX7 yX7_must wsX7_must) := goodIn_app (goodIn_of _ (by decide +kernel)) ggX7_readWordsOf_X7_must
set_option maxRecDepth 20000 in
theorem ggX7_readWordsOf_X7_in : GoodIn wsX7_readWordsOf wsX7_in := goodIn_r _ [19] (by decide +kernel) (by decide +kernel)
set_option maxRecDepth 20000 in
theorem gX7_readWordsOf_X7_in : GoodIn wsX7_readWordsOf (va_wsS RX7 44 yX7_in wsX7_in) := goodIn_app (goodIn_of _ (by decide +kernel)) ggX7_readWordsOf_X7_in
theorem dX7_readWordsOf_0 : decode cX7_readWordsOf 0 = .ok (.iconst 0, 1) := by decide +kernel
theorem dX7_readWordsOf_1 : decode cX7_readWordsOf 1 = .ok (.istore_n 1, 1) := by decide +kernel
theorem dX7_readWordsOf_2 : decode cX7_readWordsOf 2 = .ok (.aload_n 0, 1) := by decide +kernel
theorem dX7_readWordsOf_3 : decode cX7_readWordsOf 3 = .ok (.getfield 116, 3) := by decide +kernel
theorem dX7_readWordsOf_6 : decode cX7_readWordsOf 6 = .ok (.ifCond .ne 151, 3) := by decide +kernel
theorem dX7_readWordsOf_9 : decode cX7_readWordsOf 9 = .ok (.iload_n 1, 1) := by decide +kernel
theorem dX7_readWordsOf_10 : decode cX7_readWordsOf 10 = .ok (.ifCond .eq 12, 3) := by decide +kernel
theorem dX7_readWordsOf_13 : decode cX7_readWordsOf 13 = .ok (.aload_n 0, 1) := by decide +kernel
theorem dX7_readWordsOf_14 : decode cX7_readWordsOf 14 = .ok (.invokevirtual 120, 3) := by decide +kernel
theorem dX7_readWordsOf_17 : decode cX7_readWordsOf 17 = .ok (.bipush 44, 2) := by decide +kernel
theorem dX7_readWordsOf_19 : decode cX7_readWordsOf 19 = .ok (.if_icmp .ne 138, 3) := by decide +kernel
theorem dX7_readWordsOf_22 : decode cX7_readWordsOf 22 = .ok (.iload_n 1, 1) := by decide +kernel
theorem dX7_readWordsOf_23 : decode cX7_readWordsOf 23 = .ok (.ifCond .le 18, 3) := by decide +kernel
theorem dX7_readWordsOf_26 : decode cX7_readWordsOf 26 = .ok (.aload_n 0, 1) := by decide +kernel
theorem dX7_readWordsOf_27 : decode cX7_readWordsOf 27 = .ok (.iload_n 1, 1) := by decide +kernel
theorem dX7_readWordsOf_28 : decode cX7_readWordsOf 28 = .ok (.bipush 6, 2) := by decide +kernel
theorem dX7_readWordsOf_30 : decode cX7_readWordsOf 30 = .ok (.if_icmp .ge 7, 3) := by decide +kernel
theorem dX7_readWordsOf_33 : decode cX7_readWordsOf 33 = .ok (.iconst 1, 1) := by decide +kernel
theorem dX7_readWordsOf_34 : decode cX7_readWordsOf 34 = .ok (.goto 4, 3) := by decide +kernel
theorem dX7_readWordsOf_37 : decode cX7_readWordsOf 37 = .ok (.iconst 0, 1) := by decide +kernel
theorem dX7_readWordsOf_38 : decode cX7_readWordsOf 38 = .ok (.invokevirtual 124, 3) := by decide +kernel
theorem dX7_readWordsOf_41 : decode cX7_readWordsOf 41 = .ok (.iconst 0, 1) := by decide +kernel
theorem dX7_readWordsOf_42 : decode cX7_readWordsOf 42 = .ok (.istore_n 2, 1) := by decide +kernel
theorem dX7_readWordsOf_43 : decode cX7_readWordsOf 43 = .ok (.aload_n 0, 1) := by decide +kernel
theorem dX7_readWordsOf_44 : decode cX7_readWordsOf 44 = .ok (.getfield 116, 3) := by decide +kernel
theorem dX7_readWordsOf_47 : decode cX7_readWordsOf 47 = .ok (.ifCond .eq 7, 3) := by decide +kernel
theorem dX7_readWordsOf_50 : decode cX7_readWordsOf 50 = .ok (.iconst 0, 1) := by decide +kernel
theorem dX7_readWordsOf_51 : decode cX7_readWordsOf 51 = .ok (.goto 7, 3) := by decide +kernel
theorem dX7_readWordsOf_54 : decode cX7_readWordsOf 54 = .ok (.aload_n 0, 1) := by decide +kernel
theorem dX7_readWordsOf_55 : decode cX7_readWordsOf 55 = .ok (.invokevirtual 120, 3) := by decide +kernel
theorem dX7_readWordsOf_58 : decode cX7_readWordsOf 58 = .ok (.istore_n 3, 1) := by decide +kernel
theorem dX7_readWordsOf_59 : decode cX7_readWordsOf 59 = .ok (.aload_n 0, 1) := by decide +kernel
theorem dX7_readWordsOf_60 : decode cX7_readWordsOf 60 = .ok (.getfield 116, 3) := by decide +kernel
theorem dX7_readWordsOf_63 : decode cX7_readWordsOf 63 = .ok (.ifCond .ne 54, 3) := by decide +kernel
theorem dX7_readWordsOf_66 : decode cX7_readWordsOf 66 = .ok (.iload_n 3, 1) := by decide +kernel
theorem dX7_readWordsOf_67 : decode cX7_readWordsOf 67 = .ok (.i2l, 1) := by decide +kernel
theorem dX7_readWordsOf_68 : decode cX7_readWordsOf 68 = .ok (.ldc2_w 131, 3) := by decide +kernel
theorem dX7_readWordsOf_71 : decode cX7_readWordsOf 71 = .ok (.ldc2_w 133, 3) := by decide +kernel
theorem dX7_readWordsOf_74 : decode cX7_readWordsOf 74 = .ok (.invokestatic 44, 3) := by decide +kernel
theorem dX7_readWordsOf_77 : decode cX7_readWordsOf 77 = .ok (.ifCond .eq 40, 3) := by decide +kernel
theorem dX7_readWordsOf_80 : decode cX7_readWordsOf 80 = .ok (.iconst 1, 1) := by decide +kernel
theorem dX7_readWordsOf_81 : decode cX7_readWordsOf 81 = .ok (.iload_n 3, 1) := by decide +kernel
theorem dX7_readWordsOf_82 : decode cX7_readWordsOf 82 = .ok (.bipush 97, 2) := by decide +kernel
theorem dX7_readWordsOf_84 : decode cX7_readWordsOf 84 = .ok (.isub, 1) := by decide +kernel
theorem dX7_readWordsOf_85 : decode cX7_readWordsOf 85 = .ok (.ishl, 1) := by decide +kernel
theorem dX7_readWordsOf_86 : decode cX7_readWordsOf 86 = .ok (.iload_n 2, 1) := by decide +kernel
theorem dX7_readWordsOf_87 : decode cX7_readWordsOf 87 = .ok (.if_icmp .le 30, 3) := by decide +kernel
theorem dX7_readWordsOf_90 : decode cX7_readWordsOf 90 = .ok (.iload_n 2, 1) := by decide +kernel
theorem dX7_readWordsOf_91 : decode cX7_readWordsOf 91 = .ok (.iconst 1, 1) := by decide +kernel
theorem dX7_readWordsOf_92 : decode cX7_readWordsOf 92 = .ok (.iload_n 3, 1) := by decide +kernel
theorem dX7_readWordsOf_93 : decode cX7_readWordsOf 93 = .ok (.bipush 97, 2) := by decide +kernel
theorem dX7_readWordsOf_95 : decode cX7_readWordsOf 95 = .ok (.isub, 1) := by decide +kernel
theorem dX7_readWordsOf_96 : decode cX7_readWordsOf 96 = .ok (.ishl, 1) := by decide +kernel
theorem dX7_readWordsOf_97 : decode cX7_readWordsOf 97 = .ok (.ior, 1) := by decide +kernel
theorem dX7_readWordsOf_98 : decode cX7_readWordsOf 98 = .ok (.istore_n 2, 1) := by decide +kernel
theorem dX7_readWordsOf_99 : decode cX7_readWordsOf 99 = .ok (.aload_n 0, 1) := by decide +kernel
theorem dX7_readWordsOf_100 : decode cX7_readWordsOf 100 = .ok (.dup, 1) := by decide +kernel
theorem dX7_readWordsOf_101 : decode cX7_readWordsOf 101 = .ok (.getfield 113, 3) := by decide +kernel
theorem dX7_readWordsOf_104 : decode cX7_readWordsOf 104 = .ok (.iconst 1, 1) := by decide +kernel
theorem dX7_readWordsOf_105 : decode cX7_readWordsOf 105 = .ok (.iadd, 1) := by decide +kernel
theorem dX7_readWordsOf_106 : decode cX7_readWordsOf 106 = .ok (.putfield 113, 3) := by decide +kernel
theorem dX7_readWordsOf_109 : decode cX7_readWordsOf 109 = .ok (.aload_n 0, 1) := by decide +kernel
theorem dX7_readWordsOf_110 : decode cX7_readWordsOf 110 = .ok (.invokevirtual 120, 3) := by decide +kernel
theorem dX7_readWordsOf_113 : decode cX7_readWordsOf 113 = .ok (.istore_n 3, 1) := by decide +kernel
theorem dX7_readWordsOf_114 : decode cX7_readWordsOf 114 = .ok (.goto (-55), 3) := by decide +kernel
theorem dX7_readWordsOf_117 : decode cX7_readWordsOf 117 = .ok (.aload_n 0, 1) := by decide +kernel
theorem dX7_readWordsOf_118 : decode cX7_readWordsOf 118 = .ok (.aload_n 0, 1) := by decide +kernel
theorem dX7_readWordsOf_119 : decode cX7_readWordsOf 119 = .ok (.getfield 116, 3) := by decide +kernel
theorem dX7_readWordsOf_122 : decode cX7_readWordsOf 122 = .ok (.ifCond .ne 7, 3) := by decide +kernel
theorem dX7_readWordsOf_125 : decode cX7_readWordsOf 125 = .ok (.iload_n 2, 1) := by decide +kernel
theorem dX7_readWordsOf_126 : decode cX7_readWordsOf 126 = .ok (.ifCond .ne 7, 3) := by decide +kernel
theorem dX7_readWordsOf_129 : decode cX7_readWordsOf 129 = .ok (.iconst 1, 1) := by decide +kernel
theorem dX7_readWordsOf_130 : decode cX7_readWordsOf 130 = .ok (.goto 4, 3) := by decide +kernel
theorem dX7_readWordsOf_133 : decode cX7_readWordsOf 133 = .ok (.iconst 0, 1) := by decide +kernel
theorem dX7_readWordsOf_134 : decode cX7_readWordsOf 134 = .ok (.putfield 116, 3) := by decide +kernel
theorem dX7_readWordsOf_137 : decode cX7_readWordsOf 137 = .ok (.aload_n 0, 1) := by decide +kernel
theorem dX7_readWordsOf_138 : decode cX7_readWordsOf 138 = .ok (.getfield 116, 3) := by decide +kernel
theorem dX7_readWordsOf_141 : decode cX7_readWordsOf 141 = .ok (.ifCond .ne 10, 3) := by decide +kernel
theorem dX7_readWordsOf_144 : decode cX7_readWordsOf 144 = .ok (.aload_n 0, 1) := by decide +kernel
theorem dX7_readWordsOf_145 : decode cX7_readWordsOf 145 = .ok (.getfield 19, 3) := by decide +kernel
theorem dX7_readWordsOf_148 : decode cX7_readWordsOf 148 = .ok (.iload_n 1, 1) := by decide +kernel
theorem dX7_readWordsOf_149 : decode cX7_readWordsOf 149 = .ok (.iload_n 2, 1) := by decide +kernel
theorem dX7_readWordsOf_150 : decode cX7_readWordsOf 150 = .ok (.iastore, 1) := by decide +kernel
theorem dX7_readWordsOf_151 : decode cX7_readWordsOf 151 = .ok (.iinc 1 1, 3) := by decide +kernel
theorem dX7_readWordsOf_154 : decode cX7_readWordsOf 154 = .ok (.goto (-152), 3) := by decide +kernel
theorem dX7_readWordsOf_157 : decode cX7_readWordsOf 157 = .ok (.iload_n 1, 1) := by decide +kernel
theorem dX7_readWordsOf_158 : decode cX7_readWordsOf 158 = .ok (.ireturn, 1) := by decide +kernel
set_option maxRecDepth 20000 in
theorem ggX7_tongues_X7_digit : GoodIn wsX7_tongues wsX7_digit := goodIn_r _ [12, 2, 13, 14, 15, 11, 16, 1, 3, 17, 18, 19, 20, 21, 22, 23, 24, 46, 47, 48, 49, 50, 51, 52, 53, 54, 55, 56, 57, 58, 59, 60, 61, 62] (by decide +kernel) (by decide +kernel)
set_option maxRecDepth 20000 in
theorem gX7_tongues_X7_digit : GoodIn wsX7_tongues (wsV RX7 128 RX7 yX7_digit wsX7_digit) := goodIn_app (goodIn_of _ (by decide +kernel)) ggX7_tongues_X7_digit
set_option maxRecDepth 20000 in
theorem ggX7_tongues_X7_here : GoodIn wsX7_tongues wsX7_here := goodIn_r _ [16, 1, 3, 17, 46, 47, 48, 49, 50, 51, 52, 53, 54, 55, 56, 57, 58, 59, 60, 61, 62] (by decide +kernel) (by decide +kernel)
set_option maxRecDepth 20000 in
theorem gX7_tongues_X7_here : GoodIn wsX7_tongues (wsV RX7 120 RX7 yX7_here wsX7_here) := goodIn_app (goodIn_of _ (by decide +kernel)) ggX7_tongues_X7_here
set_option maxRecDepth 20000 in
theorem ggX7_tongues_X7_must : GoodIn wsX7_tongues wsX7_must := goodIn_r _ [24, 2, 1, 46, 47, 48, 49, 50, 51, 52, 53, 54, 55, 56, 57, 58, 59, 60, 61, 62] (by decide +kernel) (by decide +kernel)
set_option maxRecDepth 20000 in
theorem gX7_tongues_X7_must : GoodIn wsX7_tongues (wsV RX7 124 RX7 yX7_must wsX7_must) := goodIn_app (goodIn_of _ (by decide +kernel)) ggX7_tongues_X7_must
set_option maxRecDepth 20000 in
theorem ggX7_tongues_X7_readSpeakers : GoodIn wsX7_tongues wsX7_readSpeakers := goodIn_r _ [28, 2, 5, 13, 14, 15, 11, 16, 1, 3, 17, 21, 22, 23, 24, 8, 9, 10, 12, 18, 19, 20, 46, 47, 48, 49, 50, 51, 52, 53, 54, 55, 56, 57, 58, 59, 60, 61, 62] (by decide +kernel) (by decide +kernel)
set_option maxRecDepth 20000 in
theorem gX7_tongues_X7_readSpeakers : GoodIn wsX7_tongues (wsV RX7 135 RX7 yX7_readSpeakers wsX7_readSpeakers) := goodIn_app (goodIn_of _ (by decide +kernel)) ggX7_tongues_X7_readSpeakers
set_option maxRecDepth 20000 in
theorem ggX7_tongues_X7_readWordsOf : GoodIn wsX7_tongues wsX7_readWordsOf := goodIn_r _ [32, 2, 33, 34, 1, 6, 13, 14, 15, 11, 16, 3, 17, 21, 22, 23, 24, 18, 19, 20, 46, 47, 48, 49, 50, 51, 52, 53, 54, 55, 56, 57, 58, 59, 60, 61, 62] (by decide +kernel) (by decide +kernel)
set_option maxRecDepth 20000 in
theorem gX7_tongues_X7_readWordsOf : GoodIn wsX7_tongues (wsV RX7 138 RX7 yX7_readWordsOf wsX7_readWordsOf) := goodIn_app (goodIn_of _ (by decide +kernel)) ggX7_tongues_X7_readWordsOf
set_option maxRecDepth 20000 in
theorem ggX7_tongues_X7_speaker : GoodIn wsX7_tongues wsX7_speaker := goodIn_r _ [38, 39, 40, 4, 7, 18, 19, 11, 20, 46, 47, 48, 49, 50, 51, 52, 53, 54, 55, 56, 57, 58, 59, 60, 61, 62] (by decide +kernel) (by decide +kernel)
set_option maxRecDepth 20000 in
theorem gX7_tongues_X7_speaker : GoodIn wsX7_tongues (wsV RX7 141 RX7 yX7_speaker wsX7_speaker) := goodIn_app (goodIn_of _ (by decide +kernel)) ggX7_tongues_X7_speaker
set_option maxRecDepth 20000 in
theorem ggX7_tongues_X7_word : GoodIn wsX7_tongues wsX7_word := goodIn_r _ [44, 45, 4, 7, 18, 19, 11, 20, 46, 47, 48, 49, 50, 51, 52, 53, 54, 55, 56, 57, 58, 59, 60, 61, 62] (by decide +kernel) (by decide +kernel)
set_option maxRecDepth 20000 in
theorem gX7_tongues_X7_word : GoodIn wsX7_tongues (wsV RX7 144 RX7 yX7_word wsX7_word) := goodIn_app (goodIn_of _ (by decide +kernel)) ggX7_tongues_X7_word
theorem dX7_tongues_0 : decode cX7_tongues 0 = .ok (.aload_n 0, 1) := by decide +kernel
theorem dX7_tongues_1 : decode cX7_tongues 1 = .ok (.iconst 0, 1) := by decide +kernel
theorem dX7_tongues_2 : decode cX7_tongues 2 = .ok (.putfield 113, 3) := by decide +kernel
theorem dX7_tongues_5 : decode cX7_tongues 5 = .ok (.aload_n 0, 1) := by decide +kernel
theorem dX7_tongues_6 : decode cX7_tongues 6 = .ok (.iconst 0, 1) := by decide +kernel
theorem dX7_tongues_7 : decode cX7_tongues 7 = .ok (.putfield 116, 3) := by decide +kernel
theorem dX7_tongues_10 : decode cX7_tongues 10 = .ok (.aload_n 0, 1) := by decide +kernel
theorem dX7_tongues_11 : decode cX7_tongues 11 = .ok (.iconst 0, 1) := by decide +kernel
theorem dX7_tongues_12 : decode cX7_tongues 12 = .ok (.bipush 9, 2) := by decide +kernel
theorem dX7_tongues_14 : decode cX7_tongues 14 = .ok (.invokevirtual 128, 3) := by decide +kernel
theorem dX7_tongues_17 : decode cX7_tongues 17 = .ok (.istore_n 1, 1) := by decide +kernel
theorem dX7_tongues_18 : decode cX7_tongues 18 = .ok (.aload_n 0, 1) := by decide +kernel
theorem dX7_tongues_19 : decode cX7_tongues 19 = .ok (.aload_n 0, 1) := by decide +kernel
theorem dX7_tongues_20 : decode cX7_tongues 20 = .ok (.getfield 116, 3) := by decide +kernel
theorem dX7_tongues_23 : decode cX7_tongues 23 = .ok (.ifCond .ne 16, 3) := by decide +kernel
theorem dX7_tongues_26 : decode cX7_tongues 26 = .ok (.aload_n 0, 1) := by decide +kernel
theorem dX7_tongues_27 : decode cX7_tongues 27 = .ok (.invokevirtual 120, 3) := by decide +kernel
theorem dX7_tongues_30 : decode cX7_tongues 30 = .ok (.bipush 59, 2) := by decide +kernel
theorem dX7_tongues_32 : decode cX7_tongues 32 = .ok (.if_icmp .ne 7, 3) := by decide +kernel
theorem dX7_tongues_35 : decode cX7_tongues 35 = .ok (.iconst 1, 1) := by decide +kernel
theorem dX7_tongues_36 : decode cX7_tongues 36 = .ok (.goto 4, 3) := by decide +kernel
theorem dX7_tongues_39 : decode cX7_tongues 39 = .ok (.iconst 0, 1) := by decide +kernel
theorem dX7_tongues_40 : decode cX7_tongues 40 = .ok (.invokevirtual 124, 3) := by decide +kernel
theorem dX7_tongues_43 : decode cX7_tongues 43 = .ok (.aload_n 0, 1) := by decide +kernel
theorem dX7_tongues_44 : decode cX7_tongues 44 = .ok (.invokevirtual 135, 3) := by decide +kernel
theorem dX7_tongues_47 : decode cX7_tongues 47 = .ok (.istore_n 2, 1) := by decide +kernel
theorem dX7_tongues_48 : decode cX7_tongues 48 = .ok (.aload_n 0, 1) := by decide +kernel
theorem dX7_tongues_49 : decode cX7_tongues 49 = .ok (.aload_n 0, 1) := by decide +kernel
theorem dX7_tongues_50 : decode cX7_tongues 50 = .ok (.getfield 116, 3) := by decide +kernel
theorem dX7_tongues_53 : decode cX7_tongues 53 = .ok (.ifCond .ne 16, 3) := by decide +kernel
theorem dX7_tongues_56 : decode cX7_tongues 56 = .ok (.aload_n 0, 1) := by decide +kernel
theorem dX7_tongues_57 : decode cX7_tongues 57 = .ok (.invokevirtual 120, 3) := by decide +kernel
theorem dX7_tongues_60 : decode cX7_tongues 60 = .ok (.bipush 59, 2) := by decide +kernel
theorem dX7_tongues_62 : decode cX7_tongues 62 = .ok (.if_icmp .ne 7, 3) := by decide +kernel
theorem dX7_tongues_65 : decode cX7_tongues 65 = .ok (.iconst 1, 1) := by decide +kernel
theorem dX7_tongues_66 : decode cX7_tongues 66 = .ok (.goto 4, 3) := by decide +kernel
theorem dX7_tongues_69 : decode cX7_tongues 69 = .ok (.iconst 0, 1) := by decide +kernel
theorem dX7_tongues_70 : decode cX7_tongues 70 = .ok (.invokevirtual 124, 3) := by decide +kernel
theorem dX7_tongues_73 : decode cX7_tongues 73 = .ok (.aload_n 0, 1) := by decide +kernel
theorem dX7_tongues_74 : decode cX7_tongues 74 = .ok (.invokevirtual 138, 3) := by decide +kernel
theorem dX7_tongues_77 : decode cX7_tongues 77 = .ok (.istore_n 3, 1) := by decide +kernel
theorem dX7_tongues_78 : decode cX7_tongues 78 = .ok (.aload_n 0, 1) := by decide +kernel
theorem dX7_tongues_79 : decode cX7_tongues 79 = .ok (.aload_n 0, 1) := by decide +kernel
theorem dX7_tongues_80 : decode cX7_tongues 80 = .ok (.getfield 116, 3) := by decide +kernel
theorem dX7_tongues_83 : decode cX7_tongues 83 = .ok (.ifCond .ne 10, 3) := by decide +kernel
theorem dX7_tongues_86 : decode cX7_tongues 86 = .ok (.aload_n 0, 1) := by decide +kernel
theorem dX7_tongues_87 : decode cX7_tongues 87 = .ok (.invokevirtual 120, 3) := by decide +kernel
theorem dX7_tongues_90 : decode cX7_tongues 90 = .ok (.ifCond .eq 7, 3) := by decide +kernel
theorem dX7_tongues_93 : decode cX7_tongues 93 = .ok (.iconst 1, 1) := by decide +kernel
theorem dX7_tongues_94 : decode cX7_tongues 94 = .ok (.goto 4, 3) := by decide +kernel
theorem dX7_tongues_97 : decode cX7_tongues 97 = .ok (.iconst 0, 1) := by decide +kernel
theorem dX7_tongues_98 : decode cX7_tongues 98 = .ok (.putfield 116, 3) := by decide +kernel
theorem dX7_tongues_101 : decode cX7_tongues 101 = .ok (.aload_n 0, 1) := by decide +kernel
theorem dX7_tongues_102 : decode cX7_tongues 102 = .ok (.iconst 0, 1) := by decide +kernel
theorem dX7_tongues_103 : decode cX7_tongues 103 = .ok (.putfield 110, 3) := by decide +kernel
theorem dX7_tongues_106 : decode cX7_tongues 106 = .ok (.aload_n 0, 1) := by decide +kernel
theorem dX7_tongues_107 : decode cX7_tongues 107 = .ok (.getfield 116, 3) := by decide +kernel
theorem dX7_tongues_110 : decode cX7_tongues 110 = .ok (.ifCond .eq 11, 3) := by decide +kernel
theorem dX7_tongues_113 : decode cX7_tongues 113 = .ok (.bipush (-20), 2) := by decide +kernel
theorem dX7_tongues_115 : decode cX7_tongues 115 = .ok (.aload_n 0, 1) := by decide +kernel
theorem dX7_tongues_116 : decode cX7_tongues 116 = .ok (.getfield 113, 3) := by decide +kernel
theorem dX7_tongues_119 : decode cX7_tongues 119 = .ok (.isub, 1) := by decide +kernel
theorem dX7_tongues_120 : decode cX7_tongues 120 = .ok (.ireturn, 1) := by decide +kernel
theorem dX7_tongues_121 : decode cX7_tongues 121 = .ok (.aload_n 0, 1) := by decide +kernel
theorem dX7_tongues_122 : decode cX7_tongues 122 = .ok (.getfield 7, 3) := by decide +kernel
theorem dX7_tongues_125 : decode cX7_tongues 125 = .ok (.iconst 0, 1) := by decide +kernel
theorem dX7_tongues_126 : decode cX7_tongues 126 = .ok (.iconst 0, 1) := by decide +kernel
theorem dX7_tongues_127 : decode cX7_tongues 127 = .ok (.iastore, 1) := by decide +kernel
theorem dX7_tongues_128 : decode cX7_tongues 128 = .ok (.aload_n 0, 1) := by decide +kernel
theorem dX7_tongues_129 : decode cX7_tongues 129 = .ok (.getfield 7, 3) := by decide +kernel
theorem dX7_tongues_132 : decode cX7_tongues 132 = .ok (.iconst 1, 1) := by decide +kernel
theorem dX7_tongues_133 : decode cX7_tongues 133 = .ok (.iconst 0, 1) := by decide +kernel
theorem dX7_tongues_134 : decode cX7_tongues 134 = .ok (.iastore, 1) := by decide +kernel
theorem dX7_tongues_135 : decode cX7_tongues 135 = .ok (.iconst 0, 1) := by decide +kernel
theorem dX7_tongues_136 : decode cX7_tongues 136 = .ok (.istore 4, 2) := by decide +kernel
theorem dX7_tongues_138 : decode cX7_tongues 138 = .ok (.iload 4, 2) := by decide +kernel
theorem dX7_tongues_140 : decode cX7_tongues 140 = .ok (.iload_n 2, 1) := by decide +kernel
theorem dX7_tongues_141 : decode cX7_tongues 141 = .ok (.if_icmp .ge 86, 3) := by decide +kernel
theorem dX7_tongues_144 : decode cX7_tongues 144 = .ok (.aload_n 0, 1) := by decide +kernel
theorem dX7_tongues_145 : decode cX7_tongues 145 = .ok (.aload_n 0, 1) := by decide +kernel
theorem dX7_tongues_146 : decode cX7_tongues 146 = .ok (.getfield 16, 3) := by decide +kernel
theorem dX7_tongues_149 : decode cX7_tongues 149 = .ok (.bipush 8, 2) := by decide +kernel
theorem dX7_tongues_151 : decode cX7_tongues 151 = .ok (.iload 4, 2) := by decide +kernel
theorem dX7_tongues_153 : decode cX7_tongues 153 = .ok (.imul, 1) := by decide +kernel
theorem dX7_tongues_154 : decode cX7_tongues 154 = .ok (.iaload, 1) := by decide +kernel
theorem dX7_tongues_155 : decode cX7_tongues 155 = .ok (.aload_n 0, 1) := by decide +kernel
theorem dX7_tongues_156 : decode cX7_tongues 156 = .ok (.getfield 16, 3) := by decide +kernel
theorem dX7_tongues_159 : decode cX7_tongues 159 = .ok (.bipush 8, 2) := by decide +kernel
theorem dX7_tongues_161 : decode cX7_tongues 161 = .ok (.iload 4, 2) := by decide +kernel
theorem dX7_tongues_163 : decode cX7_tongues 163 = .ok (.imul, 1) := by decide +kernel
theorem dX7_tongues_164 : decode cX7_tongues 164 = .ok (.iconst 1, 1) := by decide +kernel
theorem dX7_tongues_165 : decode cX7_tongues 165 = .ok (.iadd, 1) := by decide +kernel
theorem dX7_tongues_166 : decode cX7_tongues 166 = .ok (.iaload, 1) := by decide +kernel
theorem dX7_tongues_167 : decode cX7_tongues 167 = .ok (.iconst 0, 1) := by decide +kernel
theorem dX7_tongues_168 : decode cX7_tongues 168 = .ok (.invokevirtual 141, 3) := by decide +kernel
theorem dX7_tongues_171 : decode cX7_tongues 171 = .ok (.pop, 1) := by decide +kernel
theorem dX7_tongues_172 : decode cX7_tongues 172 = .ok (.iconst 0, 1) := by decide +kernel
theorem dX7_tongues_173 : decode cX7_tongues 173 = .ok (.istore 5, 2) := by decide +kernel
theorem dX7_tongues_175 : decode cX7_tongues 175 = .ok (.iload 5, 2) := by decide +kernel
theorem dX7_tongues_177 : decode cX7_tongues 177 = .ok (.bipush 6, 2) := by decide +kernel
theorem dX7_tongues_179 : decode cX7_tongues 179 = .ok (.if_icmp .ge 42, 3) := by decide +kernel
theorem dX7_tongues_182 : decode cX7_tongues 182 = .ok (.aload_n 0, 1) := by decide +kernel
theorem dX7_tongues_183 : decode cX7_tongues 183 = .ok (.getfield 7, 3) := by decide +kernel
theorem dX7_tongues_186 : decode cX7_tongues 186 = .ok (.bipush 7, 2) := by decide +kernel
theorem dX7_tongues_188 : decode cX7_tongues 188 = .ok (.bipush 10, 2) := by decide +kernel
theorem dX7_tongues_190 : decode cX7_tongues 190 = .ok (.iload 4, 2) := by decide +kernel
theorem dX7_tongues_192 : decode cX7_tongues 192 = .ok (.imul, 1) := by decide +kernel
theorem dX7_tongues_193 : decode cX7_tongues 193 = .ok (.iadd, 1) := by decide +kernel
theorem dX7_tongues_194 : decode cX7_tongues 194 = .ok (.iconst 4, 1) := by decide +kernel
theorem dX7_tongues_195 : decode cX7_tongues 195 = .ok (.iadd, 1) := by decide +kernel
theorem dX7_tongues_196 : decode cX7_tongues 196 = .ok (.iload 5, 2) := by decide +kernel
theorem dX7_tongues_198 : decode cX7_tongues 198 = .ok (.iadd, 1) := by decide +kernel
theorem dX7_tongues_199 : decode cX7_tongues 199 = .ok (.aload_n 0, 1) := by decide +kernel
theorem dX7_tongues_200 : decode cX7_tongues 200 = .ok (.getfield 16, 3) := by decide +kernel
theorem dX7_tongues_203 : decode cX7_tongues 203 = .ok (.bipush 8, 2) := by decide +kernel
theorem dX7_tongues_205 : decode cX7_tongues 205 = .ok (.iload 4, 2) := by decide +kernel
theorem dX7_tongues_207 : decode cX7_tongues 207 = .ok (.imul, 1) := by decide +kernel
theorem dX7_tongues_208 : decode cX7_tongues 208 = .ok (.iconst 2, 1) := by decide +kernel
theorem dX7_tongues_209 : decode cX7_tongues 209 = .ok (.iadd, 1) := by decide +kernel
theorem dX7_tongues_210 : decode cX7_tongues 210 = .ok (.iload 5, 2) := by decide +kernel
theorem dX7_tongues_212 : decode cX7_tongues 212 = .ok (.iadd, 1) := by decide +kernel
theorem dX7_tongues_213 : decode cX7_tongues 213 = .ok (.iaload, 1) := by decide +kernel
theorem dX7_tongues_214 : decode cX7_tongues 214 = .ok (.iastore, 1) := by decide +kernel
theorem dX7_tongues_215 : decode cX7_tongues 215 = .ok (.iinc 5 1, 3) := by decide +kernel
theorem dX7_tongues_218 : decode cX7_tongues 218 = .ok (.goto (-43), 3) := by decide +kernel
theorem dX7_tongues_221 : decode cX7_tongues 221 = .ok (.iinc 4 1, 3) := by decide +kernel
theorem dX7_tongues_224 : decode cX7_tongues 224 = .ok (.goto (-86), 3) := by decide +kernel
theorem dX7_tongues_227 : decode cX7_tongues 227 = .ok (.iconst 0, 1) := by decide +kernel
theorem dX7_tongues_228 : decode cX7_tongues 228 = .ok (.istore 4, 2) := by decide +kernel
theorem dX7_tongues_230 : decode cX7_tongues 230 = .ok (.iload 4, 2) := by decide +kernel
theorem dX7_tongues_232 : decode cX7_tongues 232 = .ok (.iload_n 3, 1) := by decide +kernel
theorem dX7_tongues_233 : decode cX7_tongues 233 = .ok (.if_icmp .ge 21, 3) := by decide +kernel
theorem dX7_tongues_236 : decode cX7_tongues 236 = .ok (.aload_n 0, 1) := by decide +kernel
theorem dX7_tongues_237 : decode cX7_tongues 237 = .ok (.aload_n 0, 1) := by decide +kernel
theorem dX7_tongues_238 : decode cX7_tongues 238 = .ok (.getfield 19, 3) := by decide +kernel
theorem dX7_tongues_241 : decode cX7_tongues 241 = .ok (.iload 4, 2) := by decide +kernel
theorem dX7_tongues_243 : decode cX7_tongues 243 = .ok (.iaload, 1) := by decide +kernel
theorem dX7_tongues_244 : decode cX7_tongues 244 = .ok (.invokevirtual 144, 3) := by decide +kernel
theorem dX7_tongues_247 : decode cX7_tongues 247 = .ok (.pop, 1) := by decide +kernel
theorem dX7_tongues_248 : decode cX7_tongues 248 = .ok (.iinc 4 1, 3) := by decide +kernel
theorem dX7_tongues_251 : decode cX7_tongues 251 = .ok (.goto (-21), 3) := by decide +kernel
theorem dX7_tongues_254 : decode cX7_tongues 254 = .ok (.aload_n 0, 1) := by decide +kernel
theorem dX7_tongues_255 : decode cX7_tongues 255 = .ok (.getfield 7, 3) := by decide +kernel
theorem dX7_tongues_258 : decode cX7_tongues 258 = .ok (.iconst 2, 1) := by decide +kernel
theorem dX7_tongues_259 : decode cX7_tongues 259 = .ok (.iload_n 1, 1) := by decide +kernel
theorem dX7_tongues_260 : decode cX7_tongues 260 = .ok (.iastore, 1) := by decide +kernel
theorem dX7_tongues_261 : decode cX7_tongues 261 = .ok (.aload_n 0, 1) := by decide +kernel
theorem dX7_tongues_262 : decode cX7_tongues 262 = .ok (.getfield 7, 3) := by decide +kernel
theorem dX7_tongues_265 : decode cX7_tongues 265 = .ok (.iconst 4, 1) := by decide +kernel
theorem dX7_tongues_266 : decode cX7_tongues 266 = .ok (.iconst 0, 1) := by decide +kernel
theorem dX7_tongues_267 : decode cX7_tongues 267 = .ok (.iastore, 1) := by decide +kernel
theorem dX7_tongues_268 : decode cX7_tongues 268 = .ok (.aload_n 0, 1) := by decide +kernel
theorem dX7_tongues_269 : decode cX7_tongues 269 = .ok (.getfield 7, 3) := by decide +kernel
theorem dX7_tongues_272 : decode cX7_tongues 272 = .ok (.bipush 6, 2) := by decide +kernel
theorem dX7_tongues_274 : decode cX7_tongues 274 = .ok (.iconst 0, 1) := by decide +kernel
theorem dX7_tongues_275 : decode cX7_tongues 275 = .ok (.iastore, 1) := by decide +kernel
theorem dX7_tongues_276 : decode cX7_tongues 276 = .ok (.aload_n 0, 1) := by decide +kernel
theorem dX7_tongues_277 : decode cX7_tongues 277 = .ok (.iconst 0, 1) := by decide +kernel
theorem dX7_tongues_278 : decode cX7_tongues 278 = .ok (.putfield 82, 3) := by decide +kernel
theorem dX7_tongues_281 : decode cX7_tongues 281 = .ok (.iload_n 2, 1) := by decide +kernel
theorem dX7_tongues_282 : decode cX7_tongues 282 = .ok (.ireturn, 1) := by decide +kernel
theorem dX7_notes_0 : decode cX7_notes 0 = .ok (.aload_n 0, 1) := by decide +kernel
theorem dX7_notes_1 : decode cX7_notes 1 = .ok (.getfield 82, 3) := by decide +kernel
theorem dX7_notes_4 : decode cX7_notes 4 = .ok (.bipush 8, 2) := by decide +kernel
theorem dX7_notes_6 : decode cX7_notes 6 = .ok (.if_icmp .ne 40, 3) := by decide +kernel
theorem dX7_notes_9 : decode cX7_notes 9 = .ok (.bipush 115, 2) := by decide +kernel
theorem dX7_notes_11 : decode cX7_notes 11 = .ok (.istore_n 1, 1) := by decide +kernel
theorem dX7_notes_12 : decode cX7_notes 12 = .ok (.iload_n 1, 1) := by decide +kernel
theorem dX7_notes_13 : decode cX7_notes 13 = .ok (.sipush 920, 3) := by decide +kernel
theorem dX7_notes_16 : decode cX7_notes 16 = .ok (.if_icmp .ge 24, 3) := by decide +kernel
theorem dX7_notes_19 : decode cX7_notes 19 = .ok (.aload_n 0, 1) := by decide +kernel
theorem dX7_notes_20 : decode cX7_notes 20 = .ok (.getfield 22, 3) := by decide +kernel
theorem dX7_notes_23 : decode cX7_notes 23 = .ok (.iload_n 1, 1) := by decide +kernel
theorem dX7_notes_24 : decode cX7_notes 24 = .ok (.bipush 115, 2) := by decide +kernel
theorem dX7_notes_26 : decode cX7_notes 26 = .ok (.isub, 1) := by decide +kernel
theorem dX7_notes_27 : decode cX7_notes 27 = .ok (.aload_n 0, 1) := by decide +kernel
theorem dX7_notes_28 : decode cX7_notes 28 = .ok (.getfield 22, 3) := by decide +kernel
theorem dX7_notes_31 : decode cX7_notes 31 = .ok (.iload_n 1, 1) := by decide +kernel
theorem dX7_notes_32 : decode cX7_notes 32 = .ok (.iaload, 1) := by decide +kernel
theorem dX7_notes_33 : decode cX7_notes 33 = .ok (.iastore, 1) := by decide +kernel
theorem dX7_notes_34 : decode cX7_notes 34 = .ok (.iinc 1 1, 3) := by decide +kernel
theorem dX7_notes_37 : decode cX7_notes 37 = .ok (.goto (-25), 3) := by decide +kernel
theorem dX7_notes_40 : decode cX7_notes 40 = .ok (.aload_n 0, 1) := by decide +kernel
theorem dX7_notes_41 : decode cX7_notes 41 = .ok (.bipush 7, 2) := by decide +kernel
theorem dX7_notes_43 : decode cX7_notes 43 = .ok (.putfield 82, 3) := by decide +kernel
theorem dX7_notes_46 : decode cX7_notes 46 = .ok (.iconst 0, 1) := by decide +kernel
theorem dX7_notes_47 : decode cX7_notes 47 = .ok (.istore_n 1, 1) := by decide +kernel
theorem dX7_notes_48 : decode cX7_notes 48 = .ok (.iload_n 1, 1) := by decide +kernel
theorem dX7_notes_49 : decode cX7_notes 49 = .ok (.bipush 115, 2) := by decide +kernel
theorem dX7_notes_51 : decode cX7_notes 51 = .ok (.if_icmp .ge 29, 3) := by decide +kernel
theorem dX7_notes_54 : decode cX7_notes 54 = .ok (.aload_n 0, 1) := by decide +kernel
theorem dX7_notes_55 : decode cX7_notes 55 = .ok (.getfield 22, 3) := by decide +kernel
theorem dX7_notes_58 : decode cX7_notes 58 = .ok (.bipush 115, 2) := by decide +kernel
theorem dX7_notes_60 : decode cX7_notes 60 = .ok (.aload_n 0, 1) := by decide +kernel
theorem dX7_notes_61 : decode cX7_notes 61 = .ok (.getfield 82, 3) := by decide +kernel
theorem dX7_notes_64 : decode cX7_notes 64 = .ok (.imul, 1) := by decide +kernel
theorem dX7_notes_65 : decode cX7_notes 65 = .ok (.iload_n 1, 1) := by decide +kernel
theorem dX7_notes_66 : decode cX7_notes 66 = .ok (.iadd, 1) := by decide +kernel
theorem dX7_notes_67 : decode cX7_notes 67 = .ok (.aload_n 0, 1) := by decide +kernel
theorem dX7_notes_68 : decode cX7_notes 68 = .ok (.getfield 7, 3) := by decide +kernel
theorem dX7_notes_71 : decode cX7_notes 71 = .ok (.iload_n 1, 1) := by decide +kernel
theorem dX7_notes_72 : decode cX7_notes 72 = .ok (.iaload, 1) := by decide +kernel
theorem dX7_notes_73 : decode cX7_notes 73 = .ok (.iastore, 1) := by decide +kernel
theorem dX7_notes_74 : decode cX7_notes 74 = .ok (.iinc 1 1, 3) := by decide +kernel
theorem dX7_notes_77 : decode cX7_notes 77 = .ok (.goto (-29), 3) := by decide +kernel
theorem dX7_notes_80 : decode cX7_notes 80 = .ok (.aload_n 0, 1) := by decide +kernel
theorem dX7_notes_81 : decode cX7_notes 81 = .ok (.dup, 1) := by decide +kernel
theorem dX7_notes_82 : decode cX7_notes 82 = .ok (.getfield 82, 3) := by decide +kernel
theorem dX7_notes_85 : decode cX7_notes 85 = .ok (.iconst 1, 1) := by decide +kernel
theorem dX7_notes_86 : decode cX7_notes 86 = .ok (.iadd, 1) := by decide +kernel
theorem dX7_notes_87 : decode cX7_notes 87 = .ok (.putfield 82, 3) := by decide +kernel
theorem dX7_notes_90 : decode cX7_notes 90 = .ok (.return_, 1) := by decide +kernel
set_option maxRecDepth 20000 in
theorem ggX7_whyNot_X7_isSpeaker : GoodIn wsX7_whyNot wsX7_isSpeaker := goodIn_r _ [6, 1, 7, 8, 5, 9, 18, 19, 20, 21, 22, 23, 24, 25, 26, 27, 28, 29, 30, 31, 32, 33, 34] (by decide +kernel) (by decide +kernel)
set_option maxRecDepth 20000 in
theorem gX7_whyNot_X7_isSpeaker : GoodIn wsX7_whyNot (wsV RX7 86 RX7 yX7_isSpeaker wsX7_isSpeaker) := goodIn_app (goodIn_of _ (by decide +kernel)) ggX7_whyNot_X7_isSpeaker
set_option maxRecDepth 20000 in
theorem ggX7_whyNot_X7_isWord : GoodIn wsX7_whyNot wsX7_isWord := goodIn_r _ [13, 1, 7, 8, 5, 9, 18, 19, 20, 21, 22, 23, 24, 25, 26, 27, 28, 29, 30, 31, 32, 33, 34] (by decide +kernel) (by decide +kernel)
set_option maxRecDepth 20000 in
theorem gX7_whyNot_X7_isWord : GoodIn wsX7_whyNot (wsV RX7 100 RX7 yX7_isWord wsX7_isWord) := goodIn_app (goodIn_of _ (by decide +kernel)) ggX7_whyNot_X7_isWord
set_option maxRecDepth 20000 in
theorem ggX7_whyNot_X7_told : GoodIn wsX7_whyNot wsX7_told := goodIn_r _ [17, 1, 18, 19, 20, 21, 22, 23, 24, 25, 26, 27, 28, 29, 30, 31, 32, 33, 34] (by decide +kernel) (by decide +kernel)
set_option maxRecDepth 20000 in
theorem gX7_whyNot_X7_told : GoodIn wsX7_whyNot (wsV RX7 48 RX7 yX7_told wsX7_told) := goodIn_app (goodIn_of _ (by decide +kernel)) ggX7_whyNot_X7_told
theorem dX7_whyNot_0 : decode cX7_whyNot 0 = .ok (.aload_n 0, 1) := by decide +kernel
theorem dX7_whyNot_1 : decode cX7_whyNot 1 = .ok (.iload_n 1, 1) := by decide +kernel
theorem dX7_whyNot_2 : decode cX7_whyNot 2 = .ok (.invokevirtual 86, 3) := by decide +kernel
theorem dX7_whyNot_5 : decode cX7_whyNot 5 = .ok (.ifCond .eq 11, 3) := by decide +kernel
theorem dX7_whyNot_8 : decode cX7_whyNot 8 = .ok (.aload_n 0, 1) := by decide +kernel
theorem dX7_whyNot_9 : decode cX7_whyNot 9 = .ok (.iload_n 2, 1) := by decide +kernel
theorem dX7_whyNot_10 : decode cX7_whyNot 10 = .ok (.invokevirtual 100, 3) := by decide +kernel
theorem dX7_whyNot_13 : decode cX7_whyNot 13 = .ok (.ifCond .ne 5, 3) := by decide +kernel
theorem dX7_whyNot_16 : decode cX7_whyNot 16 = .ok (.iconst (-1), 1) := by decide +kernel
theorem dX7_whyNot_17 : decode cX7_whyNot 17 = .ok (.ireturn, 1) := by decide +kernel
theorem dX7_whyNot_18 : decode cX7_whyNot 18 = .ok (.aload_n 0, 1) := by decide +kernel
theorem dX7_whyNot_19 : decode cX7_whyNot 19 = .ok (.iload_n 1, 1) := by decide +kernel
theorem dX7_whyNot_20 : decode cX7_whyNot 20 = .ok (.iconst 2, 1) := by decide +kernel
theorem dX7_whyNot_21 : decode cX7_whyNot 21 = .ok (.invokevirtual 48, 3) := by decide +kernel
theorem dX7_whyNot_24 : decode cX7_whyNot 24 = .ok (.ifCond .eq 8, 3) := by decide +kernel
theorem dX7_whyNot_27 : decode cX7_whyNot 27 = .ok (.bipush (-2), 2) := by decide +kernel
theorem dX7_whyNot_29 : decode cX7_whyNot 29 = .ok (.goto 21, 3) := by decide +kernel
theorem dX7_whyNot_32 : decode cX7_whyNot 32 = .ok (.aload_n 0, 1) := by decide +kernel
theorem dX7_whyNot_33 : decode cX7_whyNot 33 = .ok (.getfield 7, 3) := by decide +kernel
theorem dX7_whyNot_36 : decode cX7_whyNot 36 = .ok (.iconst 4, 1) := by decide +kernel
theorem dX7_whyNot_37 : decode cX7_whyNot 37 = .ok (.iaload, 1) := by decide +kernel
theorem dX7_whyNot_38 : decode cX7_whyNot 38 = .ok (.sipush 9999, 3) := by decide +kernel
theorem dX7_whyNot_41 : decode cX7_whyNot 41 = .ok (.if_icmp .ne 8, 3) := by decide +kernel
theorem dX7_whyNot_44 : decode cX7_whyNot 44 = .ok (.bipush (-3), 2) := by decide +kernel
theorem dX7_whyNot_46 : decode cX7_whyNot 46 = .ok (.goto 4, 3) := by decide +kernel
theorem dX7_whyNot_49 : decode cX7_whyNot 49 = .ok (.iconst 0, 1) := by decide +kernel
theorem dX7_whyNot_50 : decode cX7_whyNot 50 = .ok (.ireturn, 1) := by decide +kernel
theorem dX7_asks_0 : decode cX7_asks 0 = .ok (.aload_n 0, 1) := by decide +kernel
theorem dX7_asks_1 : decode cX7_asks 1 = .ok (.getfield 7, 3) := by decide +kernel
theorem dX7_asks_4 : decode cX7_asks 4 = .ok (.bipush 6, 2) := by decide +kernel
theorem dX7_asks_6 : decode cX7_asks 6 = .ok (.iaload, 1) := by decide +kernel
theorem dX7_asks_7 : decode cX7_asks 7 = .ok (.bipush 12, 2) := by decide +kernel
theorem dX7_asks_9 : decode cX7_asks 9 = .ok (.if_icmp .ne 45, 3) := by decide +kernel
theorem dX7_asks_12 : decode cX7_asks 12 = .ok (.bipush 82, 2) := by decide +kernel
theorem dX7_asks_14 : decode cX7_asks 14 = .ok (.istore 5, 2) := by decide +kernel
theorem dX7_asks_16 : decode cX7_asks 16 = .ok (.iload 5, 2) := by decide +kernel
theorem dX7_asks_18 : decode cX7_asks 18 = .ok (.bipush 115, 2) := by decide +kernel
theorem dX7_asks_20 : decode cX7_asks 20 = .ok (.if_icmp .ge 25, 3) := by decide +kernel
theorem dX7_asks_23 : decode cX7_asks 23 = .ok (.aload_n 0, 1) := by decide +kernel
theorem dX7_asks_24 : decode cX7_asks 24 = .ok (.getfield 7, 3) := by decide +kernel
theorem dX7_asks_27 : decode cX7_asks 27 = .ok (.iload 5, 2) := by decide +kernel
theorem dX7_asks_29 : decode cX7_asks 29 = .ok (.iconst 3, 1) := by decide +kernel
theorem dX7_asks_30 : decode cX7_asks 30 = .ok (.isub, 1) := by decide +kernel
theorem dX7_asks_31 : decode cX7_asks 31 = .ok (.aload_n 0, 1) := by decide +kernel
theorem dX7_asks_32 : decode cX7_asks 32 = .ok (.getfield 7, 3) := by decide +kernel
theorem dX7_asks_35 : decode cX7_asks 35 = .ok (.iload 5, 2) := by decide +kernel
theorem dX7_asks_37 : decode cX7_asks 37 = .ok (.iaload, 1) := by decide +kernel
theorem dX7_asks_38 : decode cX7_asks 38 = .ok (.iastore, 1) := by decide +kernel
theorem dX7_asks_39 : decode cX7_asks 39 = .ok (.iinc 5 1, 3) := by decide +kernel
theorem dX7_asks_42 : decode cX7_asks 42 = .ok (.goto (-26), 3) := by decide +kernel
theorem dX7_asks_45 : decode cX7_asks 45 = .ok (.aload_n 0, 1) := by decide +kernel
theorem dX7_asks_46 : decode cX7_asks 46 = .ok (.getfield 7, 3) := by decide +kernel
theorem dX7_asks_49 : decode cX7_asks 49 = .ok (.bipush 6, 2) := by decide +kernel
theorem dX7_asks_51 : decode cX7_asks 51 = .ok (.bipush 11, 2) := by decide +kernel
theorem dX7_asks_53 : decode cX7_asks 53 = .ok (.iastore, 1) := by decide +kernel
theorem dX7_asks_54 : decode cX7_asks 54 = .ok (.bipush 79, 2) := by decide +kernel
theorem dX7_asks_56 : decode cX7_asks 56 = .ok (.iconst 3, 1) := by decide +kernel
theorem dX7_asks_57 : decode cX7_asks 57 = .ok (.aload_n 0, 1) := by decide +kernel
theorem dX7_asks_58 : decode cX7_asks 58 = .ok (.getfield 7, 3) := by decide +kernel
theorem dX7_asks_61 : decode cX7_asks 61 = .ok (.bipush 6, 2) := by decide +kernel
theorem dX7_asks_63 : decode cX7_asks 63 = .ok (.iaload, 1) := by decide +kernel
theorem dX7_asks_64 : decode cX7_asks 64 = .ok (.imul, 1) := by decide +kernel
theorem dX7_asks_65 : decode cX7_asks 65 = .ok (.iadd, 1) := by decide +kernel
theorem dX7_asks_66 : decode cX7_asks 66 = .ok (.istore 5, 2) := by decide +kernel
theorem dX7_asks_68 : decode cX7_asks 68 = .ok (.aload_n 0, 1) := by decide +kernel
theorem dX7_asks_69 : decode cX7_asks 69 = .ok (.getfield 7, 3) := by decide +kernel
theorem dX7_asks_72 : decode cX7_asks 72 = .ok (.iload 5, 2) := by decide +kernel
theorem dX7_asks_74 : decode cX7_asks 74 = .ok (.iload_n 1, 1) := by decide +kernel
theorem dX7_asks_75 : decode cX7_asks 75 = .ok (.iastore, 1) := by decide +kernel
theorem dX7_asks_76 : decode cX7_asks 76 = .ok (.aload_n 0, 1) := by decide +kernel
theorem dX7_asks_77 : decode cX7_asks 77 = .ok (.getfield 7, 3) := by decide +kernel
theorem dX7_asks_80 : decode cX7_asks 80 = .ok (.iload 5, 2) := by decide +kernel
theorem dX7_asks_82 : decode cX7_asks 82 = .ok (.iconst 1, 1) := by decide +kernel
theorem dX7_asks_83 : decode cX7_asks 83 = .ok (.iadd, 1) := by decide +kernel
theorem dX7_asks_84 : decode cX7_asks 84 = .ok (.iload_n 3, 1) := by decide +kernel
theorem dX7_asks_85 : decode cX7_asks 85 = .ok (.iastore, 1) := by decide +kernel
theorem dX7_asks_86 : decode cX7_asks 86 = .ok (.aload_n 0, 1) := by decide +kernel
theorem dX7_asks_87 : decode cX7_asks 87 = .ok (.getfield 7, 3) := by decide +kernel
theorem dX7_asks_90 : decode cX7_asks 90 = .ok (.iload 5, 2) := by decide +kernel
theorem dX7_asks_92 : decode cX7_asks 92 = .ok (.iconst 2, 1) := by decide +kernel
theorem dX7_asks_93 : decode cX7_asks 93 = .ok (.iadd, 1) := by decide +kernel
theorem dX7_asks_94 : decode cX7_asks 94 = .ok (.iload 4, 2) := by decide +kernel
theorem dX7_asks_96 : decode cX7_asks 96 = .ok (.iastore, 1) := by decide +kernel
theorem dX7_asks_97 : decode cX7_asks 97 = .ok (.aload_n 0, 1) := by decide +kernel
theorem dX7_asks_98 : decode cX7_asks 98 = .ok (.getfield 7, 3) := by decide +kernel
theorem dX7_asks_101 : decode cX7_asks 101 = .ok (.bipush 6, 2) := by decide +kernel
theorem dX7_asks_103 : decode cX7_asks 103 = .ok (.dup2, 1) := by decide +kernel
theorem dX7_asks_104 : decode cX7_asks 104 = .ok (.iaload, 1) := by decide +kernel
theorem dX7_asks_105 : decode cX7_asks 105 = .ok (.iconst 1, 1) := by decide +kernel
theorem dX7_asks_106 : decode cX7_asks 106 = .ok (.iadd, 1) := by decide +kernel
theorem dX7_asks_107 : decode cX7_asks 107 = .ok (.iastore, 1) := by decide +kernel
theorem dX7_asks_108 : decode cX7_asks 108 = .ok (.aload_n 0, 1) := by decide +kernel
theorem dX7_asks_109 : decode cX7_asks 109 = .ok (.getfield 7, 3) := by decide +kernel
theorem dX7_asks_112 : decode cX7_asks 112 = .ok (.bipush 7, 2) := by decide +kernel
theorem dX7_asks_114 : decode cX7_asks 114 = .ok (.bipush 10, 2) := by decide +kernel
theorem dX7_asks_116 : decode cX7_asks 116 = .ok (.iload_n 1, 1) := by decide +kernel
theorem dX7_asks_117 : decode cX7_asks 117 = .ok (.imul, 1) := by decide +kernel
theorem dX7_asks_118 : decode cX7_asks 118 = .ok (.iadd, 1) := by decide +kernel
theorem dX7_asks_119 : decode cX7_asks 119 = .ok (.iconst 2, 1) := by decide +kernel
theorem dX7_asks_120 : decode cX7_asks 120 = .ok (.iadd, 1) := by decide +kernel
theorem dX7_asks_121 : decode cX7_asks 121 = .ok (.iload 4, 2) := by decide +kernel
theorem dX7_asks_123 : decode cX7_asks 123 = .ok (.iconst 1, 1) := by decide +kernel
theorem dX7_asks_124 : decode cX7_asks 124 = .ok (.if_icmp .ne 7, 3) := by decide +kernel
theorem dX7_asks_127 : decode cX7_asks 127 = .ok (.iconst 1, 1) := by decide +kernel
theorem dX7_asks_128 : decode cX7_asks 128 = .ok (.goto 4, 3) := by decide +kernel
theorem dX7_asks_131 : decode cX7_asks 131 = .ok (.iconst 2, 1) := by decide +kernel
theorem dX7_asks_132 : decode cX7_asks 132 = .ok (.iastore, 1) := by decide +kernel
theorem dX7_asks_133 : decode cX7_asks 133 = .ok (.aload_n 0, 1) := by decide +kernel
theorem dX7_asks_134 : decode cX7_asks 134 = .ok (.getfield 7, 3) := by decide +kernel
theorem dX7_asks_137 : decode cX7_asks 137 = .ok (.bipush 67, 2) := by decide +kernel
theorem dX7_asks_139 : decode cX7_asks 139 = .ok (.iconst 2, 1) := by decide +kernel
theorem dX7_asks_140 : decode cX7_asks 140 = .ok (.iload_n 2, 1) := by decide +kernel
theorem dX7_asks_141 : decode cX7_asks 141 = .ok (.imul, 1) := by decide +kernel
theorem dX7_asks_142 : decode cX7_asks 142 = .ok (.iadd, 1) := by decide +kernel
theorem dX7_asks_143 : decode cX7_asks 143 = .ok (.iconst 1, 1) := by decide +kernel
theorem dX7_asks_144 : decode cX7_asks 144 = .ok (.iadd, 1) := by decide +kernel
theorem dX7_asks_145 : decode cX7_asks 145 = .ok (.dup2, 1) := by decide +kernel
theorem dX7_asks_146 : decode cX7_asks 146 = .ok (.iaload, 1) := by decide +kernel
theorem dX7_asks_147 : decode cX7_asks 147 = .ok (.iconst 1, 1) := by decide +kernel
theorem dX7_asks_148 : decode cX7_asks 148 = .ok (.iadd, 1) := by decide +kernel
theorem dX7_asks_149 : decode cX7_asks 149 = .ok (.iastore, 1) := by decide +kernel
theorem dX7_asks_150 : decode cX7_asks 150 = .ok (.aload_n 0, 1) := by decide +kernel
theorem dX7_asks_151 : decode cX7_asks 151 = .ok (.getfield 7, 3) := by decide +kernel
theorem dX7_asks_154 : decode cX7_asks 154 = .ok (.iconst 4, 1) := by decide +kernel
theorem dX7_asks_155 : decode cX7_asks 155 = .ok (.dup2, 1) := by decide +kernel
theorem dX7_asks_156 : decode cX7_asks 156 = .ok (.iaload, 1) := by decide +kernel
theorem dX7_asks_157 : decode cX7_asks 157 = .ok (.iconst 1, 1) := by decide +kernel
theorem dX7_asks_158 : decode cX7_asks 158 = .ok (.iadd, 1) := by decide +kernel
theorem dX7_asks_159 : decode cX7_asks 159 = .ok (.iastore, 1) := by decide +kernel
theorem dX7_asks_160 : decode cX7_asks 160 = .ok (.return_, 1) := by decide +kernel
set_option maxRecDepth 20000 in
theorem ggX7_ask_X7_whyNot : GoodIn wsX7_ask wsX7_whyNot := goodIn_r _ [10, 1, 11, 12, 13, 9, 14, 15, 16, 17, 18, 19, 20, 21, 22, 23, 24, 25, 67, 68, 69, 70, 71, 72, 73, 74, 75, 76, 77, 78, 79, 80, 81, 82, 83] (by decide +kernel) (by decide +kernel)
set_option maxRecDepth 20000 in
theorem gX7_ask_X7_whyNot : GoodIn wsX7_ask (wsV RX7 147 RX7 yX7_whyNot wsX7_whyNot) := goodIn_app (goodIn_of _ (by decide +kernel)) ggX7_ask_X7_whyNot
set_option maxRecDepth 20000 in
theorem ggX7_ask_X7_notes : GoodIn wsX7_ask wsX7_notes := goodIn_r _ [29, 30, 31, 1, 67, 68, 69, 70, 71, 72, 73, 74, 75, 76, 77, 78, 79, 80, 81, 82, 83] (by decide +kernel) (by decide +kernel)
set_option maxRecDepth 20000 in
theorem gX7_ask_X7_notes : GoodIn wsX7_ask (wsV RX7 150 RX7 yX7_notes wsX7_notes) := goodIn_app (goodIn_of _ (by decide +kernel)) ggX7_ask_X7_notes
set_option maxRecDepth 20000 in
theorem ggX7_ask_X7_passNow : GoodIn wsX7_ask wsX7_passNow := goodIn_r _ [35, 1, 36, 37, 38, 9, 39, 40, 41, 42, 43, 22, 23, 24, 25, 44, 45, 46, 47, 5, 48, 49, 50, 51, 52, 53, 54, 55, 56, 57, 58, 59, 60, 61, 62, 67, 68, 69, 70, 71, 72, 73, 74, 75, 76, 77, 78, 79, 80, 81, 82, 83] (by decide +kernel) (by decide +kernel)
set_option maxRecDepth 20000 in
theorem gX7_ask_X7_passNow : GoodIn wsX7_ask (wsV RX7 159 RX7 yX7_passNow wsX7_passNow) := goodIn_app (goodIn_of _ (by decide +kernel)) ggX7_ask_X7_passNow
set_option maxRecDepth 20000 in
theorem ggX7_ask_X7_asks : GoodIn wsX7_ask wsX7_asks := goodIn_r _ [66, 1, 67, 68, 69, 70, 71, 72, 73, 74, 75, 76, 77, 78, 79, 80, 81, 82, 83] (by decide +kernel) (by decide +kernel)
set_option maxRecDepth 20000 in
theorem gX7_ask_X7_asks : GoodIn wsX7_ask (wsV RX7 162 RX7 yX7_asks wsX7_asks) := goodIn_app (goodIn_of _ (by decide +kernel)) ggX7_ask_X7_asks
theorem dX7_ask_0 : decode cX7_ask 0 = .ok (.aload_n 0, 1) := by decide +kernel
theorem dX7_ask_1 : decode cX7_ask 1 = .ok (.iload_n 1, 1) := by decide +kernel
theorem dX7_ask_2 : decode cX7_ask 2 = .ok (.iload_n 2, 1) := by decide +kernel
theorem dX7_ask_3 : decode cX7_ask 3 = .ok (.invokevirtual 147, 3) := by decide +kernel
theorem dX7_ask_6 : decode cX7_ask 6 = .ok (.istore_n 3, 1) := by decide +kernel
theorem dX7_ask_7 : decode cX7_ask 7 = .ok (.iload_n 3, 1) := by decide +kernel
theorem dX7_ask_8 : decode cX7_ask 8 = .ok (.ifCond .ge 5, 3) := by decide +kernel
theorem dX7_ask_11 : decode cX7_ask 11 = .ok (.iload_n 3, 1) := by decide +kernel
theorem dX7_ask_12 : decode cX7_ask 12 = .ok (.ireturn, 1) := by decide +kernel
theorem dX7_ask_13 : decode cX7_ask 13 = .ok (.aload_n 0, 1) := by decide +kernel
theorem dX7_ask_14 : decode cX7_ask 14 = .ok (.invokevirtual 150, 3) := by decide +kernel
theorem dX7_ask_17 : decode cX7_ask 17 = .ok (.aload_n 0, 1) := by decide +kernel
theorem dX7_ask_18 : decode cX7_ask 18 = .ok (.getfield 7, 3) := by decide +kernel
theorem dX7_ask_21 : decode cX7_ask 21 = .ok (.iconst 5, 1) := by decide +kernel
theorem dX7_ask_22 : decode cX7_ask 22 = .ok (.aload_n 0, 1) := by decide +kernel
theorem dX7_ask_23 : decode cX7_ask 23 = .ok (.getfield 7, 3) := by decide +kernel
theorem dX7_ask_26 : decode cX7_ask 26 = .ok (.iconst 5, 1) := by decide +kernel
theorem dX7_ask_27 : decode cX7_ask 27 = .ok (.iaload, 1) := by decide +kernel
theorem dX7_ask_28 : decode cX7_ask 28 = .ok (.i2l, 1) := by decide +kernel
theorem dX7_ask_29 : decode cX7_ask 29 = .ok (.ldc2_w 153, 3) := by decide +kernel
theorem dX7_ask_32 : decode cX7_ask 32 = .ok (.lmul, 1) := by decide +kernel
theorem dX7_ask_33 : decode cX7_ask 33 = .ok (.ldc2_w 155, 3) := by decide +kernel
theorem dX7_ask_36 : decode cX7_ask 36 = .ok (.ladd, 1) := by decide +kernel
theorem dX7_ask_37 : decode cX7_ask 37 = .ok (.ldc2_w 157, 3) := by decide +kernel
theorem dX7_ask_40 : decode cX7_ask 40 = .ok (.land, 1) := by decide +kernel
theorem dX7_ask_41 : decode cX7_ask 41 = .ok (.l2i, 1) := by decide +kernel
theorem dX7_ask_42 : decode cX7_ask 42 = .ok (.iastore, 1) := by decide +kernel
theorem dX7_ask_43 : decode cX7_ask 43 = .ok (.aload_n 0, 1) := by decide +kernel
theorem dX7_ask_44 : decode cX7_ask 44 = .ok (.iload_n 1, 1) := by decide +kernel
theorem dX7_ask_45 : decode cX7_ask 45 = .ok (.iload_n 2, 1) := by decide +kernel
theorem dX7_ask_46 : decode cX7_ask 46 = .ok (.invokevirtual 159, 3) := by decide +kernel
theorem dX7_ask_49 : decode cX7_ask 49 = .ok (.istore 4, 2) := by decide +kernel
theorem dX7_ask_51 : decode cX7_ask 51 = .ok (.aload_n 0, 1) := by decide +kernel
theorem dX7_ask_52 : decode cX7_ask 52 = .ok (.getfield 7, 3) := by decide +kernel
theorem dX7_ask_55 : decode cX7_ask 55 = .ok (.iconst 5, 1) := by decide +kernel
theorem dX7_ask_56 : decode cX7_ask 56 = .ok (.iaload, 1) := by decide +kernel
theorem dX7_ask_57 : decode cX7_ask 57 = .ok (.bipush 16, 2) := by decide +kernel
theorem dX7_ask_59 : decode cX7_ask 59 = .ok (.idiv, 1) := by decide +kernel
theorem dX7_ask_60 : decode cX7_ask 60 = .ok (.ldc 59, 2) := by decide +kernel
theorem dX7_ask_62 : decode cX7_ask 62 = .ok (.irem, 1) := by decide +kernel
theorem dX7_ask_63 : decode cX7_ask 63 = .ok (.iload 4, 2) := by decide +kernel
theorem dX7_ask_65 : decode cX7_ask 65 = .ok (.if_icmp .ge 7, 3) := by decide +kernel
theorem dX7_ask_68 : decode cX7_ask 68 = .ok (.iconst 1, 1) := by decide +kernel
theorem dX7_ask_69 : decode cX7_ask 69 = .ok (.goto 4, 3) := by decide +kernel
theorem dX7_ask_72 : decode cX7_ask 72 = .ok (.iconst 0, 1) := by decide +kernel
theorem dX7_ask_73 : decode cX7_ask 73 = .ok (.istore 5, 2) := by decide +kernel
theorem dX7_ask_75 : decode cX7_ask 75 = .ok (.aload_n 0, 1) := by decide +kernel
theorem dX7_ask_76 : decode cX7_ask 76 = .ok (.iload_n 1, 1) := by decide +kernel
theorem dX7_ask_77 : decode cX7_ask 77 = .ok (.iload_n 2, 1) := by decide +kernel
theorem dX7_ask_78 : decode cX7_ask 78 = .ok (.iload 4, 2) := by decide +kernel
theorem dX7_ask_80 : decode cX7_ask 80 = .ok (.iload 5, 2) := by decide +kernel
theorem dX7_ask_82 : decode cX7_ask 82 = .ok (.invokevirtual 162, 3) := by decide +kernel
theorem dX7_ask_85 : decode cX7_ask 85 = .ok (.iload 5, 2) := by decide +kernel
theorem dX7_ask_87 : decode cX7_ask 87 = .ok (.ireturn, 1) := by decide +kernel
set_option maxRecDepth 20000 in
theorem ggX7_said_X7_in : GoodIn wsX7_said wsX7_in := goodIn_r _ [4] (by decide +kernel) (by decide +kernel)
set_option maxRecDepth 20000 in
theorem gX7_said_X7_in : GoodIn wsX7_said (va_wsS RX7 44 yX7_in wsX7_in) := goodIn_app (goodIn_of _ (by decide +kernel)) ggX7_said_X7_in
set_option maxRecDepth 20000 in
theorem ggX7_said_X7_whyNot : GoodIn wsX7_said wsX7_whyNot := goodIn_r _ [8, 9, 10, 11, 12, 3, 13, 1, 2, 4, 14, 15, 16, 17, 18, 19, 20, 21, 64, 65, 66, 67, 68, 69, 70, 71, 72, 73, 74, 75, 76, 77, 78, 79, 80] (by decide +kernel) (by decide +kernel)
set_option maxRecDepth 20000 in
theorem gX7_said_X7_whyNot : GoodIn wsX7_said (wsV RX7 147 RX7 yX7_whyNot wsX7_whyNot) := goodIn_app (goodIn_of _ (by decide +kernel)) ggX7_said_X7_whyNot
set_option maxRecDepth 20000 in
theorem ggX7_said_X7_notes : GoodIn wsX7_said wsX7_notes := goodIn_r _ [25, 26, 27, 9, 64, 65, 66, 67, 68, 69, 70, 71, 72, 73, 74, 75, 76, 77, 78, 79, 80] (by decide +kernel) (by decide +kernel)
set_option maxRecDepth 20000 in
theorem gX7_said_X7_notes : GoodIn wsX7_said (wsV RX7 150 RX7 yX7_notes wsX7_notes) := goodIn_app (goodIn_of _ (by decide +kernel)) ggX7_said_X7_notes
set_option maxRecDepth 20000 in
theorem ggX7_said_X7_passNow : GoodIn wsX7_said wsX7_passNow := goodIn_r _ [31, 9, 32, 33, 34, 3, 35, 36, 37, 38, 39, 18, 19, 20, 21, 40, 41, 42, 43, 44, 45, 46, 47, 48, 49, 50, 51, 52, 53, 54, 55, 56, 57, 58, 59, 64, 65, 66, 67, 68, 69, 70, 71, 72, 73, 74, 75, 76, 77, 78, 79, 80] (by decide +kernel) (by decide +kernel)
set_option maxRecDepth 20000 in
theorem gX7_said_X7_passNow : GoodIn wsX7_said (wsV RX7 159 RX7 yX7_passNow wsX7_passNow) := goodIn_app (goodIn_of _ (by decide +kernel)) ggX7_said_X7_passNow
set_option maxRecDepth 20000 in
theorem ggX7_said_X7_asks : GoodIn wsX7_said wsX7_asks := goodIn_r _ [63, 9, 64, 65, 66, 67, 68, 69, 70, 71, 72, 73, 74, 75, 76, 77, 78, 79, 80] (by decide +kernel) (by decide +kernel)
set_option maxRecDepth 20000 in
theorem gX7_said_X7_asks : GoodIn wsX7_said (wsV RX7 162 RX7 yX7_asks wsX7_asks) := goodIn_app (goodIn_of _ (by decide +kernel)) ggX7_said_X7_asks
theorem dX7_said_0 : decode cX7_said 0 = .ok (.iload_n 3, 1) := by decide +kernel
theorem dX7_said_1 : decode cX7_said 1 = .ok (.i2l, 1) := by decide +kernel
theorem dX7_said_2 : decode cX7_said 2 = .ok (.lconst 0, 1) := by decide +kernel
theorem dX7_said_3 : decode cX7_said 3 = .ok (.lconst 1, 1) := by decide +kernel
theorem dX7_said_4 : decode cX7_said 4 = .ok (.invokestatic 44, 3) := by decide +kernel
theorem dX7_said_7 : decode cX7_said 7 = .ok (.ifCond .eq 12, 3) := by decide +kernel
theorem dX7_said_10 : decode cX7_said 10 = .ok (.aload_n 0, 1) := by decide +kernel
theorem dX7_said_11 : decode cX7_said 11 = .ok (.iload_n 1, 1) := by decide +kernel
theorem dX7_said_12 : decode cX7_said 12 = .ok (.iload_n 2, 1) := by decide +kernel
theorem dX7_said_13 : decode cX7_said 13 = .ok (.invokevirtual 147, 3) := by decide +kernel
theorem dX7_said_16 : decode cX7_said 16 = .ok (.goto 4, 3) := by decide +kernel
theorem dX7_said_19 : decode cX7_said 19 = .ok (.iconst (-1), 1) := by decide +kernel
theorem dX7_said_20 : decode cX7_said 20 = .ok (.istore 4, 2) := by decide +kernel
theorem dX7_said_22 : decode cX7_said 22 = .ok (.iload 4, 2) := by decide +kernel
theorem dX7_said_24 : decode cX7_said 24 = .ok (.ifCond .ge 6, 3) := by decide +kernel
theorem dX7_said_27 : decode cX7_said 27 = .ok (.iload 4, 2) := by decide +kernel
theorem dX7_said_29 : decode cX7_said 29 = .ok (.ireturn, 1) := by decide +kernel
theorem dX7_said_30 : decode cX7_said 30 = .ok (.aload_n 0, 1) := by decide +kernel
theorem dX7_said_31 : decode cX7_said 31 = .ok (.invokevirtual 150, 3) := by decide +kernel
theorem dX7_said_34 : decode cX7_said 34 = .ok (.aload_n 0, 1) := by decide +kernel
theorem dX7_said_35 : decode cX7_said 35 = .ok (.iload_n 1, 1) := by decide +kernel
theorem dX7_said_36 : decode cX7_said 36 = .ok (.iload_n 2, 1) := by decide +kernel
theorem dX7_said_37 : decode cX7_said 37 = .ok (.invokevirtual 159, 3) := by decide +kernel
theorem dX7_said_40 : decode cX7_said 40 = .ok (.istore 5, 2) := by decide +kernel
theorem dX7_said_42 : decode cX7_said 42 = .ok (.aload_n 0, 1) := by decide +kernel
theorem dX7_said_43 : decode cX7_said 43 = .ok (.iload_n 1, 1) := by decide +kernel
theorem dX7_said_44 : decode cX7_said 44 = .ok (.iload_n 2, 1) := by decide +kernel
theorem dX7_said_45 : decode cX7_said 45 = .ok (.iload 5, 2) := by decide +kernel
theorem dX7_said_47 : decode cX7_said 47 = .ok (.iload_n 3, 1) := by decide +kernel
theorem dX7_said_48 : decode cX7_said 48 = .ok (.invokevirtual 162, 3) := by decide +kernel
theorem dX7_said_51 : decode cX7_said 51 = .ok (.iload 5, 2) := by decide +kernel
theorem dX7_said_53 : decode cX7_said 53 = .ok (.ireturn, 1) := by decide +kernel
set_option maxRecDepth 20000 in
theorem ggX7_teach_X7_isSpeaker : GoodIn wsX7_teach wsX7_isSpeaker := goodIn_r _ [7, 2, 8, 9, 6, 10, 21, 22, 23, 24, 25, 26, 27, 28, 29, 30, 31, 32, 33, 34, 35, 36, 37] (by decide +kernel) (by decide +kernel)
set_option maxRecDepth 20000 in
theorem gX7_teach_X7_isSpeaker : GoodIn wsX7_teach (wsV RX7 86 RX7 yX7_isSpeaker wsX7_isSpeaker) := goodIn_app (goodIn_of _ (by decide +kernel)) ggX7_teach_X7_isSpeaker
set_option maxRecDepth 20000 in
theorem ggX7_teach_X7_in : GoodIn wsX7_teach wsX7_in := goodIn_r _ [10] (by decide +kernel) (by decide +kernel)
set_option maxRecDepth 20000 in
theorem gX7_teach_X7_in : GoodIn wsX7_teach (va_wsS RX7 44 yX7_in wsX7_in) := goodIn_app (goodIn_of _ (by decide +kernel)) ggX7_teach_X7_in
set_option maxRecDepth 20000 in
theorem ggX7_teach_X7_told : GoodIn wsX7_teach wsX7_told := goodIn_r _ [14, 2, 21, 22, 23, 24, 25, 26, 27, 28, 29, 30, 31, 32, 33, 34, 35, 36, 37] (by decide +kernel) (by decide +kernel)
set_option maxRecDepth 20000 in
theorem gX7_teach_X7_told : GoodIn wsX7_teach (wsV RX7 48 RX7 yX7_told wsX7_told) := goodIn_app (goodIn_of _ (by decide +kernel)) ggX7_teach_X7_told
set_option maxRecDepth 20000 in
theorem ggX7_teach_X7_notes : GoodIn wsX7_teach wsX7_notes := goodIn_r _ [18, 19, 20, 2, 21, 22, 23, 24, 25, 26, 27, 28, 29, 30, 31, 32, 33, 34, 35, 36, 37] (by decide +kernel) (by decide +kernel)
set_option maxRecDepth 20000 in
theorem gX7_teach_X7_notes : GoodIn wsX7_teach (wsV RX7 150 RX7 yX7_notes wsX7_notes) := goodIn_app (goodIn_of _ (by decide +kernel)) ggX7_teach_X7_notes
theorem dX7_teach_0 : decode cX7_teach 0 = .ok (.aload_n 0, 1) := by decide +kernel
theorem dX7_teach_1 : decode cX7_teach 1 = .ok (.iload_n 1, 1) := by decide +kernel
theorem dX7_teach_2 : decode cX7_teach 2 = .ok (.invokevirtual 86, 3) := by decide +kernel
theorem dX7_teach_5 : decode cX7_teach 5 = .ok (.ifCond .eq 15, 3) := by decide +kernel
theorem dX7_teach_8 : decode cX7_teach 8 = .ok (.iload_n 2, 1) := by decide +kernel
theorem dX7_teach_9 : decode cX7_teach 9 = .ok (.i2l, 1) := by decide +kernel
theorem dX7_teach_10 : decode cX7_teach 10 = .ok (.lconst 0, 1) := by decide +kernel
theorem dX7_teach_11 : decode cX7_teach 11 = .ok (.ldc2_w 90, 3) := by decide +kernel
theorem dX7_teach_14 : decode cX7_teach 14 = .ok (.invokestatic 44, 3) := by decide +kernel
theorem dX7_teach_17 : decode cX7_teach 17 = .ok (.ifCond .ne 5, 3) := by decide +kernel
theorem dX7_teach_20 : decode cX7_teach 20 = .ok (.iconst (-1), 1) := by decide +kernel
theorem dX7_teach_21 : decode cX7_teach 21 = .ok (.ireturn, 1) := by decide +kernel
theorem dX7_teach_22 : decode cX7_teach 22 = .ok (.bipush 7, 2) := by decide +kernel
theorem dX7_teach_24 : decode cX7_teach 24 = .ok (.bipush 10, 2) := by decide +kernel
theorem dX7_teach_26 : decode cX7_teach 26 = .ok (.iload_n 1, 1) := by decide +kernel
theorem dX7_teach_27 : decode cX7_teach 27 = .ok (.imul, 1) := by decide +kernel
theorem dX7_teach_28 : decode cX7_teach 28 = .ok (.iadd, 1) := by decide +kernel
theorem dX7_teach_29 : decode cX7_teach 29 = .ok (.iconst 3, 1) := by decide +kernel
theorem dX7_teach_30 : decode cX7_teach 30 = .ok (.iadd, 1) := by decide +kernel
theorem dX7_teach_31 : decode cX7_teach 31 = .ok (.istore_n 3, 1) := by decide +kernel
theorem dX7_teach_32 : decode cX7_teach 32 = .ok (.aload_n 0, 1) := by decide +kernel
theorem dX7_teach_33 : decode cX7_teach 33 = .ok (.getfield 7, 3) := by decide +kernel
theorem dX7_teach_36 : decode cX7_teach 36 = .ok (.iload_n 3, 1) := by decide +kernel
theorem dX7_teach_37 : decode cX7_teach 37 = .ok (.iaload, 1) := by decide +kernel
theorem dX7_teach_38 : decode cX7_teach 38 = .ok (.iload_n 2, 1) := by decide +kernel
theorem dX7_teach_39 : decode cX7_teach 39 = .ok (.ishr, 1) := by decide +kernel
theorem dX7_teach_40 : decode cX7_teach 40 = .ok (.iconst 1, 1) := by decide +kernel
theorem dX7_teach_41 : decode cX7_teach 41 = .ok (.iand, 1) := by decide +kernel
theorem dX7_teach_42 : decode cX7_teach 42 = .ok (.iconst 1, 1) := by decide +kernel
theorem dX7_teach_43 : decode cX7_teach 43 = .ok (.if_icmp .eq 12, 3) := by decide +kernel
theorem dX7_teach_46 : decode cX7_teach 46 = .ok (.aload_n 0, 1) := by decide +kernel
theorem dX7_teach_47 : decode cX7_teach 47 = .ok (.iload_n 1, 1) := by decide +kernel
theorem dX7_teach_48 : decode cX7_teach 48 = .ok (.iconst 2, 1) := by decide +kernel
theorem dX7_teach_49 : decode cX7_teach 49 = .ok (.invokevirtual 48, 3) := by decide +kernel
theorem dX7_teach_52 : decode cX7_teach 52 = .ok (.ifCond .eq 6, 3) := by decide +kernel
theorem dX7_teach_55 : decode cX7_teach 55 = .ok (.bipush (-2), 2) := by decide +kernel
theorem dX7_teach_57 : decode cX7_teach 57 = .ok (.ireturn, 1) := by decide +kernel
theorem dX7_teach_58 : decode cX7_teach 58 = .ok (.aload_n 0, 1) := by decide +kernel
theorem dX7_teach_59 : decode cX7_teach 59 = .ok (.getfield 7, 3) := by decide +kernel
theorem dX7_teach_62 : decode cX7_teach 62 = .ok (.iconst 4, 1) := by decide +kernel
theorem dX7_teach_63 : decode cX7_teach 63 = .ok (.iaload, 1) := by decide +kernel
theorem dX7_teach_64 : decode cX7_teach 64 = .ok (.sipush 9999, 3) := by decide +kernel
theorem dX7_teach_67 : decode cX7_teach 67 = .ok (.if_icmp .ne 6, 3) := by decide +kernel
theorem dX7_teach_70 : decode cX7_teach 70 = .ok (.bipush (-3), 2) := by decide +kernel
theorem dX7_teach_72 : decode cX7_teach 72 = .ok (.ireturn, 1) := by decide +kernel
theorem dX7_teach_73 : decode cX7_teach 73 = .ok (.aload_n 0, 1) := by decide +kernel
theorem dX7_teach_74 : decode cX7_teach 74 = .ok (.invokevirtual 150, 3) := by decide +kernel
theorem dX7_teach_77 : decode cX7_teach 77 = .ok (.aload_n 0, 1) := by decide +kernel
theorem dX7_teach_78 : decode cX7_teach 78 = .ok (.getfield 7, 3) := by decide +kernel
theorem dX7_teach_81 : decode cX7_teach 81 = .ok (.iload_n 3, 1) := by decide +kernel
theorem dX7_teach_82 : decode cX7_teach 82 = .ok (.dup2, 1) := by decide +kernel
theorem dX7_teach_83 : decode cX7_teach 83 = .ok (.iaload, 1) := by decide +kernel
theorem dX7_teach_84 : decode cX7_teach 84 = .ok (.iconst 1, 1) := by decide +kernel
theorem dX7_teach_85 : decode cX7_teach 85 = .ok (.iload_n 2, 1) := by decide +kernel
theorem dX7_teach_86 : decode cX7_teach 86 = .ok (.ishl, 1) := by decide +kernel
theorem dX7_teach_87 : decode cX7_teach 87 = .ok (.ior, 1) := by decide +kernel
theorem dX7_teach_88 : decode cX7_teach 88 = .ok (.iastore, 1) := by decide +kernel
theorem dX7_teach_89 : decode cX7_teach 89 = .ok (.aload_n 0, 1) := by decide +kernel
theorem dX7_teach_90 : decode cX7_teach 90 = .ok (.getfield 7, 3) := by decide +kernel
theorem dX7_teach_93 : decode cX7_teach 93 = .ok (.iconst 4, 1) := by decide +kernel
theorem dX7_teach_94 : decode cX7_teach 94 = .ok (.dup2, 1) := by decide +kernel
theorem dX7_teach_95 : decode cX7_teach 95 = .ok (.iaload, 1) := by decide +kernel
theorem dX7_teach_96 : decode cX7_teach 96 = .ok (.iconst 1, 1) := by decide +kernel
theorem dX7_teach_97 : decode cX7_teach 97 = .ok (.iadd, 1) := by decide +kernel
theorem dX7_teach_98 : decode cX7_teach 98 = .ok (.iastore, 1) := by decide +kernel
theorem dX7_teach_99 : decode cX7_teach 99 = .ok (.aload_n 0, 1) := by decide +kernel
theorem dX7_teach_100 : decode cX7_teach 100 = .ok (.getfield 7, 3) := by decide +kernel
theorem dX7_teach_103 : decode cX7_teach 103 = .ok (.iload_n 3, 1) := by decide +kernel
theorem dX7_teach_104 : decode cX7_teach 104 = .ok (.iaload, 1) := by decide +kernel
theorem dX7_teach_105 : decode cX7_teach 105 = .ok (.ireturn, 1) := by decide +kernel
set_option maxRecDepth 20000 in
theorem ggX7_rest_X7_notes : GoodIn wsX7_rest wsX7_notes := goodIn_r _ [6, 7, 8, 1, 9, 10, 11, 12, 13, 14, 15, 16, 17, 18, 19, 20, 21, 22, 23, 24, 25] (by decide +kernel) (by decide +kernel)
set_option maxRecDepth 20000 in
theorem gX7_rest_X7_notes : GoodIn wsX7_rest (wsV RX7 150 RX7 yX7_notes wsX7_notes) := goodIn_app (goodIn_of _ (by decide +kernel)) ggX7_rest_X7_notes
theorem dX7_rest_0 : decode cX7_rest 0 = .ok (.aload_n 0, 1) := by decide +kernel
theorem dX7_rest_1 : decode cX7_rest 1 = .ok (.invokevirtual 150, 3) := by decide +kernel
theorem dX7_rest_4 : decode cX7_rest 4 = .ok (.aload_n 0, 1) := by decide +kernel
theorem dX7_rest_5 : decode cX7_rest 5 = .ok (.getfield 7, 3) := by decide +kernel
theorem dX7_rest_8 : decode cX7_rest 8 = .ok (.iconst 4, 1) := by decide +kernel
theorem dX7_rest_9 : decode cX7_rest 9 = .ok (.iaload, 1) := by decide +kernel
theorem dX7_rest_10 : decode cX7_rest 10 = .ok (.istore_n 1, 1) := by decide +kernel
theorem dX7_rest_11 : decode cX7_rest 11 = .ok (.aload_n 0, 1) := by decide +kernel
theorem dX7_rest_12 : decode cX7_rest 12 = .ok (.getfield 7, 3) := by decide +kernel
theorem dX7_rest_15 : decode cX7_rest 15 = .ok (.iconst 4, 1) := by decide +kernel
theorem dX7_rest_16 : decode cX7_rest 16 = .ok (.iconst 0, 1) := by decide +kernel
theorem dX7_rest_17 : decode cX7_rest 17 = .ok (.iastore, 1) := by decide +kernel
theorem dX7_rest_18 : decode cX7_rest 18 = .ok (.iload_n 1, 1) := by decide +kernel
theorem dX7_rest_19 : decode cX7_rest 19 = .ok (.ireturn, 1) := by decide +kernel
theorem dX7_undo_0 : decode cX7_undo 0 = .ok (.aload_n 0, 1) := by decide +kernel
theorem dX7_undo_1 : decode cX7_undo 1 = .ok (.getfield 82, 3) := by decide +kernel
theorem dX7_undo_4 : decode cX7_undo 4 = .ok (.ifCond .ne 6, 3) := by decide +kernel
theorem dX7_undo_7 : decode cX7_undo 7 = .ok (.bipush (-4), 2) := by decide +kernel
theorem dX7_undo_9 : decode cX7_undo 9 = .ok (.ireturn, 1) := by decide +kernel
theorem dX7_undo_10 : decode cX7_undo 10 = .ok (.aload_n 0, 1) := by decide +kernel
theorem dX7_undo_11 : decode cX7_undo 11 = .ok (.dup, 1) := by decide +kernel
theorem dX7_undo_12 : decode cX7_undo 12 = .ok (.getfield 82, 3) := by decide +kernel
theorem dX7_undo_15 : decode cX7_undo 15 = .ok (.iconst 1, 1) := by decide +kernel
theorem dX7_undo_16 : decode cX7_undo 16 = .ok (.isub, 1) := by decide +kernel
theorem dX7_undo_17 : decode cX7_undo 17 = .ok (.putfield 82, 3) := by decide +kernel
theorem dX7_undo_20 : decode cX7_undo 20 = .ok (.bipush 115, 2) := by decide +kernel
theorem dX7_undo_22 : decode cX7_undo 22 = .ok (.aload_n 0, 1) := by decide +kernel
theorem dX7_undo_23 : decode cX7_undo 23 = .ok (.getfield 82, 3) := by decide +kernel
theorem dX7_undo_26 : decode cX7_undo 26 = .ok (.imul, 1) := by decide +kernel
theorem dX7_undo_27 : decode cX7_undo 27 = .ok (.istore_n 1, 1) := by decide +kernel
theorem dX7_undo_28 : decode cX7_undo 28 = .ok (.iconst 4, 1) := by decide +kernel
theorem dX7_undo_29 : decode cX7_undo 29 = .ok (.istore_n 2, 1) := by decide +kernel
theorem dX7_undo_30 : decode cX7_undo 30 = .ok (.iload_n 2, 1) := by decide +kernel
theorem dX7_undo_31 : decode cX7_undo 31 = .ok (.bipush 6, 2) := by decide +kernel
theorem dX7_undo_33 : decode cX7_undo 33 = .ok (.if_icmp .gt 23, 3) := by decide +kernel
theorem dX7_undo_36 : decode cX7_undo 36 = .ok (.aload_n 0, 1) := by decide +kernel
theorem dX7_undo_37 : decode cX7_undo 37 = .ok (.getfield 7, 3) := by decide +kernel
theorem dX7_undo_40 : decode cX7_undo 40 = .ok (.iload_n 2, 1) := by decide +kernel
theorem dX7_undo_41 : decode cX7_undo 41 = .ok (.aload_n 0, 1) := by decide +kernel
theorem dX7_undo_42 : decode cX7_undo 42 = .ok (.getfield 22, 3) := by decide +kernel
theorem dX7_undo_45 : decode cX7_undo 45 = .ok (.iload_n 1, 1) := by decide +kernel
theorem dX7_undo_46 : decode cX7_undo 46 = .ok (.iload_n 2, 1) := by decide +kernel
theorem dX7_undo_47 : decode cX7_undo 47 = .ok (.iadd, 1) := by decide +kernel
theorem dX7_undo_48 : decode cX7_undo 48 = .ok (.iaload, 1) := by decide +kernel
theorem dX7_undo_49 : decode cX7_undo 49 = .ok (.iastore, 1) := by decide +kernel
theorem dX7_undo_50 : decode cX7_undo 50 = .ok (.iinc 2 1, 3) := by decide +kernel
theorem dX7_undo_53 : decode cX7_undo 53 = .ok (.goto (-23), 3) := by decide +kernel
theorem dX7_undo_56 : decode cX7_undo 56 = .ok (.iconst 0, 1) := by decide +kernel
theorem dX7_undo_57 : decode cX7_undo 57 = .ok (.istore_n 2, 1) := by decide +kernel
theorem dX7_undo_58 : decode cX7_undo 58 = .ok (.iload_n 2, 1) := by decide +kernel
theorem dX7_undo_59 : decode cX7_undo 59 = .ok (.bipush 6, 2) := by decide +kernel
theorem dX7_undo_61 : decode cX7_undo 61 = .ok (.if_icmp .ge 69, 3) := by decide +kernel
theorem dX7_undo_64 : decode cX7_undo 64 = .ok (.aload_n 0, 1) := by decide +kernel
theorem dX7_undo_65 : decode cX7_undo 65 = .ok (.getfield 7, 3) := by decide +kernel
theorem dX7_undo_68 : decode cX7_undo 68 = .ok (.bipush 7, 2) := by decide +kernel
theorem dX7_undo_70 : decode cX7_undo 70 = .ok (.bipush 10, 2) := by decide +kernel
theorem dX7_undo_72 : decode cX7_undo 72 = .ok (.iload_n 2, 1) := by decide +kernel
theorem dX7_undo_73 : decode cX7_undo 73 = .ok (.imul, 1) := by decide +kernel
theorem dX7_undo_74 : decode cX7_undo 74 = .ok (.iadd, 1) := by decide +kernel
theorem dX7_undo_75 : decode cX7_undo 75 = .ok (.iconst 2, 1) := by decide +kernel
theorem dX7_undo_76 : decode cX7_undo 76 = .ok (.iadd, 1) := by decide +kernel
theorem dX7_undo_77 : decode cX7_undo 77 = .ok (.aload_n 0, 1) := by decide +kernel
theorem dX7_undo_78 : decode cX7_undo 78 = .ok (.getfield 22, 3) := by decide +kernel
theorem dX7_undo_81 : decode cX7_undo 81 = .ok (.iload_n 1, 1) := by decide +kernel
theorem dX7_undo_82 : decode cX7_undo 82 = .ok (.bipush 7, 2) := by decide +kernel
theorem dX7_undo_84 : decode cX7_undo 84 = .ok (.iadd, 1) := by decide +kernel
theorem dX7_undo_85 : decode cX7_undo 85 = .ok (.bipush 10, 2) := by decide +kernel
theorem dX7_undo_87 : decode cX7_undo 87 = .ok (.iload_n 2, 1) := by decide +kernel
theorem dX7_undo_88 : decode cX7_undo 88 = .ok (.imul, 1) := by decide +kernel
theorem dX7_undo_89 : decode cX7_undo 89 = .ok (.iadd, 1) := by decide +kernel
theorem dX7_undo_90 : decode cX7_undo 90 = .ok (.iconst 2, 1) := by decide +kernel
theorem dX7_undo_91 : decode cX7_undo 91 = .ok (.iadd, 1) := by decide +kernel
theorem dX7_undo_92 : decode cX7_undo 92 = .ok (.iaload, 1) := by decide +kernel
theorem dX7_undo_93 : decode cX7_undo 93 = .ok (.iastore, 1) := by decide +kernel
theorem dX7_undo_94 : decode cX7_undo 94 = .ok (.aload_n 0, 1) := by decide +kernel
theorem dX7_undo_95 : decode cX7_undo 95 = .ok (.getfield 7, 3) := by decide +kernel
theorem dX7_undo_98 : decode cX7_undo 98 = .ok (.bipush 7, 2) := by decide +kernel
theorem dX7_undo_100 : decode cX7_undo 100 = .ok (.bipush 10, 2) := by decide +kernel
theorem dX7_undo_102 : decode cX7_undo 102 = .ok (.iload_n 2, 1) := by decide +kernel
theorem dX7_undo_103 : decode cX7_undo 103 = .ok (.imul, 1) := by decide +kernel
theorem dX7_undo_104 : decode cX7_undo 104 = .ok (.iadd, 1) := by decide +kernel
theorem dX7_undo_105 : decode cX7_undo 105 = .ok (.iconst 3, 1) := by decide +kernel
theorem dX7_undo_106 : decode cX7_undo 106 = .ok (.iadd, 1) := by decide +kernel
theorem dX7_undo_107 : decode cX7_undo 107 = .ok (.aload_n 0, 1) := by decide +kernel
theorem dX7_undo_108 : decode cX7_undo 108 = .ok (.getfield 22, 3) := by decide +kernel
theorem dX7_undo_111 : decode cX7_undo 111 = .ok (.iload_n 1, 1) := by decide +kernel
theorem dX7_undo_112 : decode cX7_undo 112 = .ok (.bipush 7, 2) := by decide +kernel
theorem dX7_undo_114 : decode cX7_undo 114 = .ok (.iadd, 1) := by decide +kernel
theorem dX7_undo_115 : decode cX7_undo 115 = .ok (.bipush 10, 2) := by decide +kernel
theorem dX7_undo_117 : decode cX7_undo 117 = .ok (.iload_n 2, 1) := by decide +kernel
theorem dX7_undo_118 : decode cX7_undo 118 = .ok (.imul, 1) := by decide +kernel
theorem dX7_undo_119 : decode cX7_undo 119 = .ok (.iadd, 1) := by decide +kernel
theorem dX7_undo_120 : decode cX7_undo 120 = .ok (.iconst 3, 1) := by decide +kernel
theorem dX7_undo_121 : decode cX7_undo 121 = .ok (.iadd, 1) := by decide +kernel
theorem dX7_undo_122 : decode cX7_undo 122 = .ok (.iaload, 1) := by decide +kernel
theorem dX7_undo_123 : decode cX7_undo 123 = .ok (.iastore, 1) := by decide +kernel
theorem dX7_undo_124 : decode cX7_undo 124 = .ok (.iinc 2 1, 3) := by decide +kernel
theorem dX7_undo_127 : decode cX7_undo 127 = .ok (.goto (-69), 3) := by decide +kernel
theorem dX7_undo_130 : decode cX7_undo 130 = .ok (.bipush 67, 2) := by decide +kernel
theorem dX7_undo_132 : decode cX7_undo 132 = .ok (.istore_n 2, 1) := by decide +kernel
theorem dX7_undo_133 : decode cX7_undo 133 = .ok (.iload_n 2, 1) := by decide +kernel
theorem dX7_undo_134 : decode cX7_undo 134 = .ok (.bipush 115, 2) := by decide +kernel
theorem dX7_undo_136 : decode cX7_undo 136 = .ok (.if_icmp .ge 23, 3) := by decide +kernel
theorem dX7_undo_139 : decode cX7_undo 139 = .ok (.aload_n 0, 1) := by decide +kernel
theorem dX7_undo_140 : decode cX7_undo 140 = .ok (.getfield 7, 3) := by decide +kernel
theorem dX7_undo_143 : decode cX7_undo 143 = .ok (.iload_n 2, 1) := by decide +kernel
theorem dX7_undo_144 : decode cX7_undo 144 = .ok (.aload_n 0, 1) := by decide +kernel
theorem dX7_undo_145 : decode cX7_undo 145 = .ok (.getfield 22, 3) := by decide +kernel
theorem dX7_undo_148 : decode cX7_undo 148 = .ok (.iload_n 1, 1) := by decide +kernel
theorem dX7_undo_149 : decode cX7_undo 149 = .ok (.iload_n 2, 1) := by decide +kernel
theorem dX7_undo_150 : decode cX7_undo 150 = .ok (.iadd, 1) := by decide +kernel
theorem dX7_undo_151 : decode cX7_undo 151 = .ok (.iaload, 1) := by decide +kernel
theorem dX7_undo_152 : decode cX7_undo 152 = .ok (.iastore, 1) := by decide +kernel
theorem dX7_undo_153 : decode cX7_undo 153 = .ok (.iinc 2 1, 3) := by decide +kernel
theorem dX7_undo_156 : decode cX7_undo 156 = .ok (.goto (-23), 3) := by decide +kernel
theorem dX7_undo_159 : decode cX7_undo 159 = .ok (.aload_n 0, 1) := by decide +kernel
theorem dX7_undo_160 : decode cX7_undo 160 = .ok (.getfield 82, 3) := by decide +kernel
theorem dX7_undo_163 : decode cX7_undo 163 = .ok (.ireturn, 1) := by decide +kernel
theorem dX7_seed_0 : decode cX7_seed 0 = .ok (.iload_n 1, 1) := by decide +kernel
theorem dX7_seed_1 : decode cX7_seed 1 = .ok (.ifCond .ge 5, 3) := by decide +kernel
theorem dX7_seed_4 : decode cX7_seed 4 = .ok (.iconst (-1), 1) := by decide +kernel
theorem dX7_seed_5 : decode cX7_seed 5 = .ok (.ireturn, 1) := by decide +kernel
theorem dX7_seed_6 : decode cX7_seed 6 = .ok (.aload_n 0, 1) := by decide +kernel
theorem dX7_seed_7 : decode cX7_seed 7 = .ok (.getfield 7, 3) := by decide +kernel
theorem dX7_seed_10 : decode cX7_seed 10 = .ok (.iconst 5, 1) := by decide +kernel
theorem dX7_seed_11 : decode cX7_seed 11 = .ok (.iaload, 1) := by decide +kernel
theorem dX7_seed_12 : decode cX7_seed 12 = .ok (.istore_n 2, 1) := by decide +kernel
theorem dX7_seed_13 : decode cX7_seed 13 = .ok (.aload_n 0, 1) := by decide +kernel
theorem dX7_seed_14 : decode cX7_seed 14 = .ok (.getfield 7, 3) := by decide +kernel
theorem dX7_seed_17 : decode cX7_seed 17 = .ok (.iconst 5, 1) := by decide +kernel
theorem dX7_seed_18 : decode cX7_seed 18 = .ok (.iload_n 1, 1) := by decide +kernel
theorem dX7_seed_19 : decode cX7_seed 19 = .ok (.iastore, 1) := by decide +kernel
theorem dX7_seed_20 : decode cX7_seed 20 = .ok (.iload_n 2, 1) := by decide +kernel
theorem dX7_seed_21 : decode cX7_seed 21 = .ok (.ireturn, 1) := by decide +kernel
set_option maxRecDepth 20000 in
theorem ggX7_pass_X7_isSpeaker : GoodIn wsX7_pass wsX7_isSpeaker := goodIn_r _ [7, 2, 8, 9, 6, 10, 47, 48, 49, 50, 51, 52, 53, 54, 55, 56, 57, 58, 59, 60, 61, 62, 63] (by decide +kernel) (by decide +kernel)
set_option maxRecDepth 20000 in
theorem gX7_pass_X7_isSpeaker : GoodIn wsX7_pass (wsV RX7 86 RX7 yX7_isSpeaker wsX7_isSpeaker) := goodIn_app (goodIn_of _ (by decide +kernel)) ggX7_pass_X7_isSpeaker
set_option maxRecDepth 20000 in
theorem ggX7_pass_X7_isWord : GoodIn wsX7_pass wsX7_isWord := goodIn_r _ [14, 2, 8, 9, 6, 10, 47, 48, 49, 50, 51, 52, 53, 54, 55, 56, 57, 58, 59, 60, 61, 62, 63] (by decide +kernel) (by decide +kernel)
set_option maxRecDepth 20000 in
theorem gX7_pass_X7_isWord : GoodIn wsX7_pass (wsV RX7 100 RX7 yX7_isWord wsX7_isWord) := goodIn_app (goodIn_of _ (by decide +kernel)) ggX7_pass_X7_isWord
set_option maxRecDepth 20000 in
theorem ggX7_pass_X7_in : GoodIn wsX7_pass wsX7_in := goodIn_r _ [10] (by decide +kernel) (by decide +kernel)
set_option maxRecDepth 20000 in
theorem gX7_pass_X7_in : GoodIn wsX7_pass (va_wsS RX7 44 yX7_in wsX7_in) := goodIn_app (goodIn_of _ (by decide +kernel)) ggX7_pass_X7_in
set_option maxRecDepth 20000 in
theorem ggX7_pass_X7_passIn : GoodIn wsX7_pass wsX7_passIn := goodIn_r _ [18, 19, 20, 21, 6, 22, 2, 23, 24, 25, 26, 27, 28, 29, 30, 31, 32, 33, 34, 35, 36, 37, 38, 39, 40, 41, 42, 43, 44, 45, 46, 47, 48, 49, 50, 51, 52, 53, 54, 55, 56, 57, 58, 59, 60, 61, 62, 63] (by decide +kernel) (by decide +kernel)
set_option maxRecDepth 20000 in
theorem gX7_pass_X7_passIn : GoodIn wsX7_pass (wsV RX7 74 RX7 yX7_passIn wsX7_passIn) := goodIn_app (goodIn_of _ (by decide +kernel)) ggX7_pass_X7_passIn
theorem dX7_pass_0 : decode cX7_pass 0 = .ok (.aload_n 0, 1) := by decide +kernel
theorem dX7_pass_1 : decode cX7_pass 1 = .ok (.iload_n 1, 1) := by decide +kernel
theorem dX7_pass_2 : decode cX7_pass 2 = .ok (.invokevirtual 86, 3) := by decide +kernel
theorem dX7_pass_5 : decode cX7_pass 5 = .ok (.ifCond .eq 29, 3) := by decide +kernel
theorem dX7_pass_8 : decode cX7_pass 8 = .ok (.aload_n 0, 1) := by decide +kernel
theorem dX7_pass_9 : decode cX7_pass 9 = .ok (.iload_n 2, 1) := by decide +kernel
theorem dX7_pass_10 : decode cX7_pass 10 = .ok (.invokevirtual 100, 3) := by decide +kernel
theorem dX7_pass_13 : decode cX7_pass 13 = .ok (.ifCond .eq 21, 3) := by decide +kernel
theorem dX7_pass_16 : decode cX7_pass 16 = .ok (.iload_n 3, 1) := by decide +kernel
theorem dX7_pass_17 : decode cX7_pass 17 = .ok (.bipush (-4), 2) := by decide +kernel
theorem dX7_pass_19 : decode cX7_pass 19 = .ok (.if_icmp .eq 17, 3) := by decide +kernel
theorem dX7_pass_22 : decode cX7_pass 22 = .ok (.iload_n 3, 1) := by decide +kernel
theorem dX7_pass_23 : decode cX7_pass 23 = .ok (.i2l, 1) := by decide +kernel
theorem dX7_pass_24 : decode cX7_pass 24 = .ok (.lconst 0, 1) := by decide +kernel
theorem dX7_pass_25 : decode cX7_pass 25 = .ok (.ldc2_w 166, 3) := by decide +kernel
theorem dX7_pass_28 : decode cX7_pass 28 = .ok (.invokestatic 44, 3) := by decide +kernel
theorem dX7_pass_31 : decode cX7_pass 31 = .ok (.ifCond .ne 5, 3) := by decide +kernel
theorem dX7_pass_34 : decode cX7_pass 34 = .ok (.iconst (-1), 1) := by decide +kernel
theorem dX7_pass_35 : decode cX7_pass 35 = .ok (.ireturn, 1) := by decide +kernel
theorem dX7_pass_36 : decode cX7_pass 36 = .ok (.aload_n 0, 1) := by decide +kernel
theorem dX7_pass_37 : decode cX7_pass 37 = .ok (.iload_n 1, 1) := by decide +kernel
theorem dX7_pass_38 : decode cX7_pass 38 = .ok (.iload_n 2, 1) := by decide +kernel
theorem dX7_pass_39 : decode cX7_pass 39 = .ok (.iload_n 3, 1) := by decide +kernel
theorem dX7_pass_40 : decode cX7_pass 40 = .ok (.bipush (-4), 2) := by decide +kernel
theorem dX7_pass_42 : decode cX7_pass 42 = .ok (.if_icmp .ne 12, 3) := by decide +kernel
theorem dX7_pass_45 : decode cX7_pass 45 = .ok (.aload_n 0, 1) := by decide +kernel
theorem dX7_pass_46 : decode cX7_pass 46 = .ok (.getfield 7, 3) := by decide +kernel
theorem dX7_pass_49 : decode cX7_pass 49 = .ok (.iconst 4, 1) := by decide +kernel
theorem dX7_pass_50 : decode cX7_pass 50 = .ok (.iaload, 1) := by decide +kernel
theorem dX7_pass_51 : decode cX7_pass 51 = .ok (.goto 4, 3) := by decide +kernel
theorem dX7_pass_54 : decode cX7_pass 54 = .ok (.iload_n 3, 1) := by decide +kernel
theorem dX7_pass_55 : decode cX7_pass 55 = .ok (.invokevirtual 74, 3) := by decide +kernel
theorem dX7_pass_58 : decode cX7_pass 58 = .ok (.ireturn, 1) := by decide +kernel
set_option maxRecDepth 20000 in
theorem ggX7_wrong_X7_told : GoodIn wsX7_wrong wsX7_told := goodIn_r _ [6, 7, 8, 9, 10, 11, 12, 13, 14, 15, 16, 17, 18, 19, 20, 21, 22, 23, 24] (by decide +kernel) (by decide +kernel)
set_option maxRecDepth 20000 in
theorem gX7_wrong_X7_told : GoodIn wsX7_wrong (wsV RX7 48 RX7 yX7_told wsX7_told) := goodIn_app (goodIn_of _ (by decide +kernel)) ggX7_wrong_X7_told
theorem dX7_wrong_0 : decode cX7_wrong 0 = .ok (.aload_n 0, 1) := by decide +kernel
theorem dX7_wrong_1 : decode cX7_wrong 1 = .ok (.iload_n 1, 1) := by decide +kernel
theorem dX7_wrong_2 : decode cX7_wrong 2 = .ok (.iconst 1, 1) := by decide +kernel
theorem dX7_wrong_3 : decode cX7_wrong 3 = .ok (.invokevirtual 48, 3) := by decide +kernel
theorem dX7_wrong_6 : decode cX7_wrong 6 = .ok (.ifCond .ne 10, 3) := by decide +kernel
theorem dX7_wrong_9 : decode cX7_wrong 9 = .ok (.ldc 59, 2) := by decide +kernel
theorem dX7_wrong_11 : decode cX7_wrong 11 = .ok (.iload_n 2, 1) := by decide +kernel
theorem dX7_wrong_12 : decode cX7_wrong 12 = .ok (.isub, 1) := by decide +kernel
theorem dX7_wrong_13 : decode cX7_wrong 13 = .ok (.goto 4, 3) := by decide +kernel
theorem dX7_wrong_16 : decode cX7_wrong 16 = .ok (.iload_n 2, 1) := by decide +kernel
theorem dX7_wrong_17 : decode cX7_wrong 17 = .ok (.ireturn, 1) := by decide +kernel
set_option maxRecDepth 20000 in
theorem ggX7_wrongsOf_X7_told : GoodIn wsX7_wrongsOf wsX7_told := goodIn_r _ [6, 1, 43, 44, 45, 46, 47, 48, 49, 50, 51, 52, 53, 54, 55, 56, 57, 58, 59] (by decide +kernel) (by decide +kernel)
set_option maxRecDepth 20000 in
theorem gX7_wrongsOf_X7_told : GoodIn wsX7_wrongsOf (wsV RX7 48 RX7 yX7_told wsX7_told) := goodIn_app (goodIn_of _ (by decide +kernel)) ggX7_wrongsOf_X7_told
set_option maxRecDepth 20000 in
theorem ggX7_wrongsOf_X7_passNow : GoodIn wsX7_wrongsOf wsX7_passNow := goodIn_r _ [10, 1, 11, 12, 13, 5, 14, 15, 16, 17, 18, 2, 3, 4, 6, 19, 20, 21, 22, 23, 24, 25, 26, 27, 28, 29, 30, 31, 32, 33, 34, 35, 36, 37, 38, 43, 44, 45, 46, 47, 48, 49, 50, 51, 52, 53, 54, 55, 56, 57, 58, 59] (by decide +kernel) (by decide +kernel)
set_option maxRecDepth 20000 in
theorem gX7_wrongsOf_X7_passNow : GoodIn wsX7_wrongsOf (wsV RX7 159 RX7 yX7_passNow wsX7_passNow) := goodIn_app (goodIn_of _ (by decide +kernel)) ggX7_wrongsOf_X7_passNow
set_option maxRecDepth 20000 in
theorem ggX7_wrongsOf_X7_wrong : GoodIn wsX7_wrongsOf wsX7_wrong := goodIn_r _ [42, 23, 2, 3, 4, 5, 6, 1, 43, 44, 45, 46, 47, 48, 49, 50, 51, 52, 53, 54, 55, 56, 57, 58, 59] (by decide +kernel) (by decide +kernel)
set_option maxRecDepth 20000 in
theorem gX7_wrongsOf_X7_wrong : GoodIn wsX7_wrongsOf (wsV RX7 168 RX7 yX7_wrong wsX7_wrong) := goodIn_app (goodIn_of _ (by decide +kernel)) ggX7_wrongsOf_X7_wrong
theorem dX7_wrongsOf_0 : decode cX7_wrongsOf 0 = .ok (.iconst 0, 1) := by decide +kernel
theorem dX7_wrongsOf_1 : decode cX7_wrongsOf 1 = .ok (.istore_n 2, 1) := by decide +kernel
theorem dX7_wrongsOf_2 : decode cX7_wrongsOf 2 = .ok (.iconst 0, 1) := by decide +kernel
theorem dX7_wrongsOf_3 : decode cX7_wrongsOf 3 = .ok (.istore_n 3, 1) := by decide +kernel
theorem dX7_wrongsOf_4 : decode cX7_wrongsOf 4 = .ok (.iload_n 3, 1) := by decide +kernel
theorem dX7_wrongsOf_5 : decode cX7_wrongsOf 5 = .ok (.aload_n 0, 1) := by decide +kernel
theorem dX7_wrongsOf_6 : decode cX7_wrongsOf 6 = .ok (.getfield 7, 3) := by decide +kernel
theorem dX7_wrongsOf_9 : decode cX7_wrongsOf 9 = .ok (.iconst 0, 1) := by decide +kernel
theorem dX7_wrongsOf_10 : decode cX7_wrongsOf 10 = .ok (.iaload, 1) := by decide +kernel
theorem dX7_wrongsOf_11 : decode cX7_wrongsOf 11 = .ok (.if_icmp .ge 36, 3) := by decide +kernel
theorem dX7_wrongsOf_14 : decode cX7_wrongsOf 14 = .ok (.iload_n 2, 1) := by decide +kernel
theorem dX7_wrongsOf_15 : decode cX7_wrongsOf 15 = .ok (.aload_n 0, 1) := by decide +kernel
theorem dX7_wrongsOf_16 : decode cX7_wrongsOf 16 = .ok (.iload_n 3, 1) := by decide +kernel
theorem dX7_wrongsOf_17 : decode cX7_wrongsOf 17 = .ok (.iconst 2, 1) := by decide +kernel
theorem dX7_wrongsOf_18 : decode cX7_wrongsOf 18 = .ok (.invokevirtual 48, 3) := by decide +kernel
theorem dX7_wrongsOf_21 : decode cX7_wrongsOf 21 = .ok (.ifCond .ne 17, 3) := by decide +kernel
theorem dX7_wrongsOf_24 : decode cX7_wrongsOf 24 = .ok (.aload_n 0, 1) := by decide +kernel
theorem dX7_wrongsOf_25 : decode cX7_wrongsOf 25 = .ok (.iload_n 3, 1) := by decide +kernel
theorem dX7_wrongsOf_26 : decode cX7_wrongsOf 26 = .ok (.aload_n 0, 1) := by decide +kernel
theorem dX7_wrongsOf_27 : decode cX7_wrongsOf 27 = .ok (.iload_n 3, 1) := by decide +kernel
theorem dX7_wrongsOf_28 : decode cX7_wrongsOf 28 = .ok (.iload_n 1, 1) := by decide +kernel
theorem dX7_wrongsOf_29 : decode cX7_wrongsOf 29 = .ok (.invokevirtual 159, 3) := by decide +kernel
theorem dX7_wrongsOf_32 : decode cX7_wrongsOf 32 = .ok (.invokevirtual 168, 3) := by decide +kernel
theorem dX7_wrongsOf_35 : decode cX7_wrongsOf 35 = .ok (.goto 4, 3) := by decide +kernel
theorem dX7_wrongsOf_38 : decode cX7_wrongsOf 38 = .ok (.iconst 0, 1) := by decide +kernel
theorem dX7_wrongsOf_39 : decode cX7_wrongsOf 39 = .ok (.iadd, 1) := by decide +kernel
theorem dX7_wrongsOf_40 : decode cX7_wrongsOf 40 = .ok (.istore_n 2, 1) := by decide +kernel
theorem dX7_wrongsOf_41 : decode cX7_wrongsOf 41 = .ok (.iinc 3 1, 3) := by decide +kernel
theorem dX7_wrongsOf_44 : decode cX7_wrongsOf 44 = .ok (.goto (-40), 3) := by decide +kernel
theorem dX7_wrongsOf_47 : decode cX7_wrongsOf 47 = .ok (.iload_n 2, 1) := by decide +kernel
theorem dX7_wrongsOf_48 : decode cX7_wrongsOf 48 = .ok (.ireturn, 1) := by decide +kernel
set_option maxRecDepth 20000 in
theorem ggX7_wrongs_X7_isWord : GoodIn wsX7_wrongs wsX7_isWord := goodIn_r _ [5, 6, 7, 8, 4, 9, 54, 55, 56, 57, 58, 59, 60, 61, 62, 63, 64, 65, 66, 67, 68, 69, 70] (by decide +kernel) (by decide +kernel)
set_option maxRecDepth 20000 in
theorem gX7_wrongs_X7_isWord : GoodIn wsX7_wrongs (wsV RX7 100 RX7 yX7_isWord wsX7_isWord) := goodIn_app (goodIn_of _ (by decide +kernel)) ggX7_wrongs_X7_isWord
set_option maxRecDepth 20000 in
theorem ggX7_wrongs_X7_wrongsOf : GoodIn wsX7_wrongs wsX7_wrongsOf := goodIn_r _ [13, 6, 14, 15, 16, 4, 17, 18, 19, 20, 21, 22, 23, 24, 25, 26, 27, 28, 29, 30, 31, 32, 33, 34, 35, 36, 37, 38, 39, 40, 41, 42, 43, 44, 45, 46, 47, 48, 49, 50, 51, 52, 53, 54, 55, 56, 57, 58, 59, 60, 61, 62, 63, 64, 65, 66, 67, 68, 69, 70] (by decide +kernel) (by decide +kernel)
set_option maxRecDepth 20000 in
theorem gX7_wrongs_X7_wrongsOf : GoodIn wsX7_wrongs (wsV RX7 171 RX7 yX7_wrongsOf wsX7_wrongsOf) := goodIn_app (goodIn_of _ (by decide +kernel)) ggX7_wrongs_X7_wrongsOf
theorem dX7_wrongs_0 : decode cX7_wrongs 0 = .ok (.aload_n 0, 1) := by decide +kernel
theorem dX7_wrongs_1 : decode cX7_wrongs 1 = .ok (.iload_n 1, 1) := by decide +kernel
theorem dX7_wrongs_2 : decode cX7_wrongs 2 = .ok (.invokevirtual 100, 3) := by decide +kernel
theorem dX7_wrongs_5 : decode cX7_wrongs 5 = .ok (.ifCond .eq 11, 3) := by decide +kernel
theorem dX7_wrongs_8 : decode cX7_wrongs 8 = .ok (.aload_n 0, 1) := by decide +kernel
theorem dX7_wrongs_9 : decode cX7_wrongs 9 = .ok (.iload_n 1, 1) := by decide +kernel
theorem dX7_wrongs_10 : decode cX7_wrongs 10 = .ok (.invokevirtual 171, 3) := by decide +kernel
theorem dX7_wrongs_13 : decode cX7_wrongs 13 = .ok (.goto 4, 3) := by decide +kernel
theorem dX7_wrongs_16 : decode cX7_wrongs 16 = .ok (.iconst (-1), 1) := by decide +kernel
theorem dX7_wrongs_17 : decode cX7_wrongs 17 = .ok (.ireturn, 1) := by decide +kernel
set_option maxRecDepth 20000 in
theorem ggX7_parting_X7_in : GoodIn wsX7_parting wsX7_in := goodIn_r _ [5] (by decide +kernel) (by decide +kernel)
set_option maxRecDepth 20000 in
theorem gX7_parting_X7_in : GoodIn wsX7_parting (va_wsS RX7 44 yX7_in wsX7_in) := goodIn_app (goodIn_of _ (by decide +kernel)) ggX7_parting_X7_in
set_option maxRecDepth 20000 in
theorem ggX7_parting_X7_wrongsOf : GoodIn wsX7_parting wsX7_wrongsOf := goodIn_r _ [9, 1, 10, 11, 12, 4, 13, 14, 15, 16, 17, 18, 19, 20, 21, 22, 23, 24, 25, 26, 27, 28, 29, 30, 31, 32, 33, 34, 35, 36, 37, 38, 39, 40, 41, 42, 43, 44, 45, 46, 47, 48, 49, 50, 51, 52, 53, 54, 55, 56, 57, 58, 59, 60, 61, 62, 63, 64, 65, 66] (by decide +kernel) (by decide +kernel)
set_option maxRecDepth 20000 in
theorem gX7_parting_X7_wrongsOf : GoodIn wsX7_parting (wsV RX7 171 RX7 yX7_wrongsOf wsX7_wrongsOf) := goodIn_app (goodIn_of _ (by decide +kernel)) ggX7_parting_X7_wrongsOf
theorem dX7_parting_0 : decode cX7_parting 0 = .ok (.iload_n 1, 1) := by decide +kernel
theorem dX7_parting_1 : decode cX7_parting 1 = .ok (.i2l, 1) := by decide +kernel
theorem dX7_parting_2 : decode cX7_parting 2 = .ok (.lconst 0, 1) := by decide +kernel
theorem dX7_parting_3 : decode cX7_parting 3 = .ok (.lconst 1, 1) := by decide +kernel
theorem dX7_parting_4 : decode cX7_parting 4 = .ok (.invokestatic 44, 3) := by decide +kernel
theorem dX7_parting_7 : decode cX7_parting 7 = .ok (.ifCond .ne 5, 3) := by decide +kernel
theorem dX7_parting_10 : decode cX7_parting 10 = .ok (.iconst (-1), 1) := by decide +kernel
theorem dX7_parting_11 : decode cX7_parting 11 = .ok (.ireturn, 1) := by decide +kernel
theorem dX7_parting_12 : decode cX7_parting 12 = .ok (.bipush (-4), 2) := by decide +kernel
theorem dX7_parting_14 : decode cX7_parting 14 = .ok (.istore_n 2, 1) := by decide +kernel
theorem dX7_parting_15 : decode cX7_parting 15 = .ok (.bipush (-4), 2) := by decide +kernel
theorem dX7_parting_17 : decode cX7_parting 17 = .ok (.istore_n 3, 1) := by decide +kernel
theorem dX7_parting_18 : decode cX7_parting 18 = .ok (.iconst 0, 1) := by decide +kernel
theorem dX7_parting_19 : decode cX7_parting 19 = .ok (.istore 4, 2) := by decide +kernel
theorem dX7_parting_21 : decode cX7_parting 21 = .ok (.iload 4, 2) := by decide +kernel
theorem dX7_parting_23 : decode cX7_parting 23 = .ok (.aload_n 0, 1) := by decide +kernel
theorem dX7_parting_24 : decode cX7_parting 24 = .ok (.getfield 7, 3) := by decide +kernel
theorem dX7_parting_27 : decode cX7_parting 27 = .ok (.iconst 1, 1) := by decide +kernel
theorem dX7_parting_28 : decode cX7_parting 28 = .ok (.iaload, 1) := by decide +kernel
theorem dX7_parting_29 : decode cX7_parting 29 = .ok (.if_icmp .ge 60, 3) := by decide +kernel
theorem dX7_parting_32 : decode cX7_parting 32 = .ok (.aload_n 0, 1) := by decide +kernel
theorem dX7_parting_33 : decode cX7_parting 33 = .ok (.iload 4, 2) := by decide +kernel
theorem dX7_parting_35 : decode cX7_parting 35 = .ok (.invokevirtual 171, 3) := by decide +kernel
theorem dX7_parting_38 : decode cX7_parting 38 = .ok (.istore 5, 2) := by decide +kernel
theorem dX7_parting_40 : decode cX7_parting 40 = .ok (.iload_n 2, 1) := by decide +kernel
theorem dX7_parting_41 : decode cX7_parting 41 = .ok (.bipush (-4), 2) := by decide +kernel
theorem dX7_parting_43 : decode cX7_parting 43 = .ok (.if_icmp .eq 9, 3) := by decide +kernel
theorem dX7_parting_46 : decode cX7_parting 46 = .ok (.iload 5, 2) := by decide +kernel
theorem dX7_parting_48 : decode cX7_parting 48 = .ok (.iload_n 3, 1) := by decide +kernel
theorem dX7_parting_49 : decode cX7_parting 49 = .ok (.if_icmp .ge 7, 3) := by decide +kernel
theorem dX7_parting_52 : decode cX7_parting 52 = .ok (.iconst 1, 1) := by decide +kernel
theorem dX7_parting_53 : decode cX7_parting 53 = .ok (.goto 4, 3) := by decide +kernel
theorem dX7_parting_56 : decode cX7_parting 56 = .ok (.iconst 0, 1) := by decide +kernel
theorem dX7_parting_57 : decode cX7_parting 57 = .ok (.istore 6, 2) := by decide +kernel
theorem dX7_parting_59 : decode cX7_parting 59 = .ok (.iload 6, 2) := by decide +kernel
theorem dX7_parting_61 : decode cX7_parting 61 = .ok (.ifCond .eq 8, 3) := by decide +kernel
theorem dX7_parting_64 : decode cX7_parting 64 = .ok (.iload 4, 2) := by decide +kernel
theorem dX7_parting_66 : decode cX7_parting 66 = .ok (.goto 4, 3) := by decide +kernel
theorem dX7_parting_69 : decode cX7_parting 69 = .ok (.iload_n 2, 1) := by decide +kernel
theorem dX7_parting_70 : decode cX7_parting 70 = .ok (.istore_n 2, 1) := by decide +kernel
theorem dX7_parting_71 : decode cX7_parting 71 = .ok (.iload 6, 2) := by decide +kernel
theorem dX7_parting_73 : decode cX7_parting 73 = .ok (.ifCond .eq 8, 3) := by decide +kernel
theorem dX7_parting_76 : decode cX7_parting 76 = .ok (.iload 5, 2) := by decide +kernel
theorem dX7_parting_78 : decode cX7_parting 78 = .ok (.goto 4, 3) := by decide +kernel
theorem dX7_parting_81 : decode cX7_parting 81 = .ok (.iload_n 3, 1) := by decide +kernel
theorem dX7_parting_82 : decode cX7_parting 82 = .ok (.istore_n 3, 1) := by decide +kernel
theorem dX7_parting_83 : decode cX7_parting 83 = .ok (.iinc 4 1, 3) := by decide +kernel
theorem dX7_parting_86 : decode cX7_parting 86 = .ok (.goto (-65), 3) := by decide +kernel
theorem dX7_parting_89 : decode cX7_parting 89 = .ok (.iload_n 1, 1) := by decide +kernel
theorem dX7_parting_90 : decode cX7_parting 90 = .ok (.ifCond .ne 7, 3) := by decide +kernel
theorem dX7_parting_93 : decode cX7_parting 93 = .ok (.iload_n 2, 1) := by decide +kernel
theorem dX7_parting_94 : decode cX7_parting 94 = .ok (.goto 4, 3) := by decide +kernel
theorem dX7_parting_97 : decode cX7_parting 97 = .ok (.iload_n 3, 1) := by decide +kernel
theorem dX7_parting_98 : decode cX7_parting 98 = .ok (.ireturn, 1) := by decide +kernel
theorem dX7_many_0 : decode cX7_many 0 = .ok (.iconst 0, 1) := by decide +kernel
theorem dX7_many_1 : decode cX7_many 1 = .ok (.istore_n 1, 1) := by decide +kernel
theorem dX7_many_2 : decode cX7_many 2 = .ok (.iload_n 0, 1) := by decide +kernel
theorem dX7_many_3 : decode cX7_many 3 = .ok (.istore_n 2, 1) := by decide +kernel
theorem dX7_many_4 : decode cX7_many 4 = .ok (.iload_n 2, 1) := by decide +kernel
theorem dX7_many_5 : decode cX7_many 5 = .ok (.ifCond .eq 15, 3) := by decide +kernel
theorem dX7_many_8 : decode cX7_many 8 = .ok (.iinc 1 1, 3) := by decide +kernel
theorem dX7_many_11 : decode cX7_many 11 = .ok (.iload_n 2, 1) := by decide +kernel
theorem dX7_many_12 : decode cX7_many 12 = .ok (.iload_n 2, 1) := by decide +kernel
theorem dX7_many_13 : decode cX7_many 13 = .ok (.iconst 1, 1) := by decide +kernel
theorem dX7_many_14 : decode cX7_many 14 = .ok (.isub, 1) := by decide +kernel
theorem dX7_many_15 : decode cX7_many 15 = .ok (.iand, 1) := by decide +kernel
theorem dX7_many_16 : decode cX7_many 16 = .ok (.istore_n 2, 1) := by decide +kernel
theorem dX7_many_17 : decode cX7_many 17 = .ok (.goto (-13), 3) := by decide +kernel
theorem dX7_many_20 : decode cX7_many 20 = .ok (.iload_n 1, 1) := by decide +kernel
theorem dX7_many_21 : decode cX7_many 21 = .ok (.ireturn, 1) := by decide +kernel
set_option maxRecDepth 20000 in
theorem ggX7_learn_X7_isSpeaker : GoodIn wsX7_learn wsX7_isSpeaker := goodIn_r _ [7, 2, 8, 9, 6, 10, 46, 47, 48, 49, 50, 51, 52, 53, 54, 55, 56, 57, 58, 59, 60, 61, 62] (by decide +kernel) (by decide +kernel)
set_option maxRecDepth 20000 in
theorem gX7_learn_X7_isSpeaker : GoodIn wsX7_learn (wsV RX7 86 RX7 yX7_isSpeaker wsX7_isSpeaker) := goodIn_app (goodIn_of _ (by decide +kernel)) ggX7_learn_X7_isSpeaker
set_option maxRecDepth 20000 in
theorem ggX7_learn_X7_isWord : GoodIn wsX7_learn wsX7_isWord := goodIn_r _ [14, 2, 8, 9, 6, 10, 46, 47, 48, 49, 50, 51, 52, 53, 54, 55, 56, 57, 58, 59, 60, 61, 62] (by decide +kernel) (by decide +kernel)
set_option maxRecDepth 20000 in
theorem gX7_learn_X7_isWord : GoodIn wsX7_learn (wsV RX7 100 RX7 yX7_isWord wsX7_isWord) := goodIn_app (goodIn_of _ (by decide +kernel)) ggX7_learn_X7_isWord
set_option maxRecDepth 20000 in
theorem ggX7_learn_X7_in : GoodIn wsX7_learn wsX7_in := goodIn_r _ [10] (by decide +kernel) (by decide +kernel)
set_option maxRecDepth 20000 in
theorem gX7_learn_X7_in : GoodIn wsX7_learn (va_wsS RX7 44 yX7_in wsX7_in) := goodIn_app (goodIn_of _ (by decide +kernel)) ggX7_learn_X7_in
set_option maxRecDepth 20000 in
theorem ggX7_learn_X7_told : GoodIn wsX7_learn wsX7_told := goodIn_r _ [18, 2, 46, 47, 48, 49, 50, 51, 52, 53, 54, 55, 56, 57, 58, 59, 60, 61, 62] (by decide +kernel) (by decide +kernel)
set_option maxRecDepth 20000 in
theorem gX7_learn_X7_told : GoodIn wsX7_learn (wsV RX7 48 RX7 yX7_told wsX7_told) := goodIn_app (goodIn_of _ (by decide +kernel)) ggX7_learn_X7_told
set_option maxRecDepth 20000 in
theorem ggX7_learn_X7_sounds : GoodIn wsX7_learn wsX7_sounds := goodIn_r _ [22, 2, 46, 47, 48, 49, 50, 51, 52, 53, 54, 55, 56, 57, 58, 59, 60, 61, 62] (by decide +kernel) (by decide +kernel)
set_option maxRecDepth 20000 in
theorem gX7_learn_X7_sounds : GoodIn wsX7_learn (wsV RX7 60 RX7 yX7_sounds wsX7_sounds) := goodIn_app (goodIn_of _ (by decide +kernel)) ggX7_learn_X7_sounds
set_option maxRecDepth 20000 in
theorem ggX7_learn_X7_many : GoodIn wsX7_learn wsX7_many := goodIn_r _ [25] (by decide +kernel) (by decide +kernel)
set_option maxRecDepth 20000 in
theorem gX7_learn_X7_many : GoodIn wsX7_learn (va_wsS RX7 176 yX7_many wsX7_many) := goodIn_app (goodIn_of _ (by decide +kernel)) ggX7_learn_X7_many
set_option maxRecDepth 20000 in
theorem ggX7_learn_X7_wornOf : GoodIn wsX7_learn wsX7_wornOf := goodIn_r _ [29, 2, 46, 47, 48, 49, 50, 51, 52, 53, 54, 55, 56, 57, 58, 59, 60, 61, 62] (by decide +kernel) (by decide +kernel)
set_option maxRecDepth 20000 in
theorem gX7_learn_X7_wornOf : GoodIn wsX7_learn (wsV RX7 67 RX7 yX7_wornOf wsX7_wornOf) := goodIn_app (goodIn_of _ (by decide +kernel)) ggX7_learn_X7_wornOf
set_option maxRecDepth 20000 in
theorem ggX7_learn_X7_passBy : GoodIn wsX7_learn wsX7_passBy := goodIn_r _ [33, 34, 35, 36, 37, 6, 38, 2, 19, 20, 21, 22, 39, 40, 41, 42, 15, 16, 17, 18, 43, 44, 45, 46, 47, 48, 49, 50, 51, 52, 53, 54, 55, 56, 57, 58, 59, 60, 61, 62] (by decide +kernel) (by decide +kernel)
set_option maxRecDepth 20000 in
theorem gX7_learn_X7_passBy : GoodIn wsX7_learn (wsV RX7 70 RX7 yX7_passBy wsX7_passBy) := goodIn_app (goodIn_of _ (by decide +kernel)) ggX7_learn_X7_passBy
theorem dX7_learn_0 : decode cX7_learn 0 = .ok (.aload_n 0, 1) := by decide +kernel
theorem dX7_learn_1 : decode cX7_learn 1 = .ok (.iload_n 1, 1) := by decide +kernel
theorem dX7_learn_2 : decode cX7_learn 2 = .ok (.invokevirtual 86, 3) := by decide +kernel
theorem dX7_learn_5 : decode cX7_learn 5 = .ok (.ifCond .eq 34, 3) := by decide +kernel
theorem dX7_learn_8 : decode cX7_learn 8 = .ok (.aload_n 0, 1) := by decide +kernel
theorem dX7_learn_9 : decode cX7_learn 9 = .ok (.iload_n 2, 1) := by decide +kernel
theorem dX7_learn_10 : decode cX7_learn 10 = .ok (.invokevirtual 100, 3) := by decide +kernel
theorem dX7_learn_13 : decode cX7_learn 13 = .ok (.ifCond .eq 26, 3) := by decide +kernel
theorem dX7_learn_16 : decode cX7_learn 16 = .ok (.iload_n 3, 1) := by decide +kernel
theorem dX7_learn_17 : decode cX7_learn 17 = .ok (.i2l, 1) := by decide +kernel
theorem dX7_learn_18 : decode cX7_learn 18 = .ok (.lconst 0, 1) := by decide +kernel
theorem dX7_learn_19 : decode cX7_learn 19 = .ok (.ldc2_w 174, 3) := by decide +kernel
theorem dX7_learn_22 : decode cX7_learn 22 = .ok (.invokestatic 44, 3) := by decide +kernel
theorem dX7_learn_25 : decode cX7_learn 25 = .ok (.ifCond .eq 14, 3) := by decide +kernel
theorem dX7_learn_28 : decode cX7_learn 28 = .ok (.iload 4, 2) := by decide +kernel
theorem dX7_learn_30 : decode cX7_learn 30 = .ok (.i2l, 1) := by decide +kernel
theorem dX7_learn_31 : decode cX7_learn 31 = .ok (.lconst 0, 1) := by decide +kernel
theorem dX7_learn_32 : decode cX7_learn 32 = .ok (.lconst 1, 1) := by decide +kernel
theorem dX7_learn_33 : decode cX7_learn 33 = .ok (.invokestatic 44, 3) := by decide +kernel
theorem dX7_learn_36 : decode cX7_learn 36 = .ok (.ifCond .ne 5, 3) := by decide +kernel
theorem dX7_learn_39 : decode cX7_learn 39 = .ok (.iconst (-1), 1) := by decide +kernel
theorem dX7_learn_40 : decode cX7_learn 40 = .ok (.ireturn, 1) := by decide +kernel
theorem dX7_learn_41 : decode cX7_learn 41 = .ok (.aload_n 0, 1) := by decide +kernel
theorem dX7_learn_42 : decode cX7_learn 42 = .ok (.iload_n 1, 1) := by decide +kernel
theorem dX7_learn_43 : decode cX7_learn 43 = .ok (.iconst 3, 1) := by decide +kernel
theorem dX7_learn_44 : decode cX7_learn 44 = .ok (.invokevirtual 48, 3) := by decide +kernel
theorem dX7_learn_47 : decode cX7_learn 47 = .ok (.istore 5, 2) := by decide +kernel
theorem dX7_learn_49 : decode cX7_learn 49 = .ok (.iconst 0, 1) := by decide +kernel
theorem dX7_learn_50 : decode cX7_learn 50 = .ok (.istore 6, 2) := by decide +kernel
theorem dX7_learn_52 : decode cX7_learn 52 = .ok (.iconst (-1), 1) := by decide +kernel
theorem dX7_learn_53 : decode cX7_learn 53 = .ok (.istore 7, 2) := by decide +kernel
theorem dX7_learn_55 : decode cX7_learn 55 = .ok (.iconst 0, 1) := by decide +kernel
theorem dX7_learn_56 : decode cX7_learn 56 = .ok (.istore 8, 2) := by decide +kernel
theorem dX7_learn_58 : decode cX7_learn 58 = .ok (.iload 8, 2) := by decide +kernel
theorem dX7_learn_60 : decode cX7_learn 60 = .ok (.bipush 64, 2) := by decide +kernel
theorem dX7_learn_62 : decode cX7_learn 62 = .ok (.if_icmp .ge 125, 3) := by decide +kernel
theorem dX7_learn_65 : decode cX7_learn 65 = .ok (.iload 8, 2) := by decide +kernel
theorem dX7_learn_67 : decode cX7_learn 67 = .ok (.aload_n 0, 1) := by decide +kernel
theorem dX7_learn_68 : decode cX7_learn 68 = .ok (.iload_n 2, 1) := by decide +kernel
theorem dX7_learn_69 : decode cX7_learn 69 = .ok (.invokevirtual 60, 3) := by decide +kernel
theorem dX7_learn_72 : decode cX7_learn 72 = .ok (.iconst (-1), 1) := by decide +kernel
theorem dX7_learn_73 : decode cX7_learn 73 = .ok (.ixor, 1) := by decide +kernel
theorem dX7_learn_74 : decode cX7_learn 74 = .ok (.iand, 1) := by decide +kernel
theorem dX7_learn_75 : decode cX7_learn 75 = .ok (.ifCond .ne 106, 3) := by decide +kernel
theorem dX7_learn_78 : decode cX7_learn 78 = .ok (.iload 8, 2) := by decide +kernel
theorem dX7_learn_80 : decode cX7_learn 80 = .ok (.iload 5, 2) := by decide +kernel
theorem dX7_learn_82 : decode cX7_learn 82 = .ok (.iand, 1) := by decide +kernel
theorem dX7_learn_83 : decode cX7_learn 83 = .ok (.ifCond .ne 98, 3) := by decide +kernel
theorem dX7_learn_86 : decode cX7_learn 86 = .ok (.iload 8, 2) := by decide +kernel
theorem dX7_learn_88 : decode cX7_learn 88 = .ok (.invokestatic 176, 3) := by decide +kernel
theorem dX7_learn_91 : decode cX7_learn 91 = .ok (.iload_n 3, 1) := by decide +kernel
theorem dX7_learn_92 : decode cX7_learn 92 = .ok (.if_icmp .gt 89, 3) := by decide +kernel
