theorem dX7_learn_95 : decode cX7_learn 95 = .ok (.aload_n 0, 1) := by decide +kernel
theorem dX7_learn_96 : decode cX7_learn 96 = .ok (.iload_n 1, 1) := by decide +kernel
theorem dX7_learn_97 : decode cX7_learn 97 = .ok (.iload_n 2, 1) := by decide +kernel
theorem dX7_learn_98 : decode cX7_learn 98 = .ok (.aload_n 0, 1) := by decide +kernel
theorem dX7_learn_99 : decode cX7_learn 99 = .ok (.getfield 7, 3) := by decide +kernel
theorem dX7_learn_102 : decode cX7_learn 102 = .ok (.iconst 4, 1) := by decide +kernel
theorem dX7_learn_103 : decode cX7_learn 103 = .ok (.iaload, 1) := by decide +kernel
theorem dX7_learn_104 : decode cX7_learn 104 = .ok (.aload_n 0, 1) := by decide +kernel
theorem dX7_learn_105 : decode cX7_learn 105 = .ok (.iload_n 2, 1) := by decide +kernel
theorem dX7_learn_106 : decode cX7_learn 106 = .ok (.invokevirtual 67, 3) := by decide +kernel
theorem dX7_learn_109 : decode cX7_learn 109 = .ok (.iload 5, 2) := by decide +kernel
theorem dX7_learn_111 : decode cX7_learn 111 = .ok (.iload 8, 2) := by decide +kernel
theorem dX7_learn_113 : decode cX7_learn 113 = .ok (.ior, 1) := by decide +kernel
theorem dX7_learn_114 : decode cX7_learn 114 = .ok (.invokevirtual 70, 3) := by decide +kernel
theorem dX7_learn_117 : decode cX7_learn 117 = .ok (.istore 9, 2) := by decide +kernel
theorem dX7_learn_119 : decode cX7_learn 119 = .ok (.iload 9, 2) := by decide +kernel
theorem dX7_learn_121 : decode cX7_learn 121 = .ok (.iload 7, 2) := by decide +kernel
theorem dX7_learn_123 : decode cX7_learn 123 = .ok (.if_icmp .gt 23, 3) := by decide +kernel
theorem dX7_learn_126 : decode cX7_learn 126 = .ok (.iload 9, 2) := by decide +kernel
theorem dX7_learn_128 : decode cX7_learn 128 = .ok (.iload 7, 2) := by decide +kernel
theorem dX7_learn_130 : decode cX7_learn 130 = .ok (.if_icmp .ne 20, 3) := by decide +kernel
theorem dX7_learn_133 : decode cX7_learn 133 = .ok (.iload 8, 2) := by decide +kernel
theorem dX7_learn_135 : decode cX7_learn 135 = .ok (.invokestatic 176, 3) := by decide +kernel
theorem dX7_learn_138 : decode cX7_learn 138 = .ok (.iload 6, 2) := by decide +kernel
theorem dX7_learn_140 : decode cX7_learn 140 = .ok (.invokestatic 176, 3) := by decide +kernel
theorem dX7_learn_143 : decode cX7_learn 143 = .ok (.if_icmp .ge 7, 3) := by decide +kernel
theorem dX7_learn_146 : decode cX7_learn 146 = .ok (.iconst 1, 1) := by decide +kernel
theorem dX7_learn_147 : decode cX7_learn 147 = .ok (.goto 4, 3) := by decide +kernel
theorem dX7_learn_150 : decode cX7_learn 150 = .ok (.iconst 0, 1) := by decide +kernel
theorem dX7_learn_151 : decode cX7_learn 151 = .ok (.istore 10, 2) := by decide +kernel
theorem dX7_learn_153 : decode cX7_learn 153 = .ok (.iload 10, 2) := by decide +kernel
theorem dX7_learn_155 : decode cX7_learn 155 = .ok (.ifCond .eq 8, 3) := by decide +kernel
theorem dX7_learn_158 : decode cX7_learn 158 = .ok (.iload 8, 2) := by decide +kernel
theorem dX7_learn_160 : decode cX7_learn 160 = .ok (.goto 5, 3) := by decide +kernel
theorem dX7_learn_163 : decode cX7_learn 163 = .ok (.iload 6, 2) := by decide +kernel
theorem dX7_learn_165 : decode cX7_learn 165 = .ok (.istore 6, 2) := by decide +kernel
theorem dX7_learn_167 : decode cX7_learn 167 = .ok (.iload 10, 2) := by decide +kernel
theorem dX7_learn_169 : decode cX7_learn 169 = .ok (.ifCond .eq 8, 3) := by decide +kernel
theorem dX7_learn_172 : decode cX7_learn 172 = .ok (.iload 9, 2) := by decide +kernel
theorem dX7_learn_174 : decode cX7_learn 174 = .ok (.goto 5, 3) := by decide +kernel
theorem dX7_learn_177 : decode cX7_learn 177 = .ok (.iload 7, 2) := by decide +kernel
theorem dX7_learn_179 : decode cX7_learn 179 = .ok (.istore 7, 2) := by decide +kernel
theorem dX7_learn_181 : decode cX7_learn 181 = .ok (.iinc 8 1, 3) := by decide +kernel
theorem dX7_learn_184 : decode cX7_learn 184 = .ok (.goto (-126), 3) := by decide +kernel
theorem dX7_learn_187 : decode cX7_learn 187 = .ok (.iload 4, 2) := by decide +kernel
theorem dX7_learn_189 : decode cX7_learn 189 = .ok (.ifCond .ne 8, 3) := by decide +kernel
theorem dX7_learn_192 : decode cX7_learn 192 = .ok (.iload 6, 2) := by decide +kernel
theorem dX7_learn_194 : decode cX7_learn 194 = .ok (.goto 5, 3) := by decide +kernel
theorem dX7_learn_197 : decode cX7_learn 197 = .ok (.iload 7, 2) := by decide +kernel
theorem dX7_learn_199 : decode cX7_learn 199 = .ok (.ireturn, 1) := by decide +kernel
set_option maxRecDepth 20000 in
theorem ggX7_cross_X7_isSpeaker : GoodIn wsX7_cross wsX7_isSpeaker := goodIn_r _ [6, 1, 7, 8, 5, 9, 46, 47, 48, 49, 50, 51, 52, 53, 54, 55, 56, 57, 58, 59, 60, 61, 62] (by decide +kernel) (by decide +kernel)
set_option maxRecDepth 20000 in
theorem gX7_cross_X7_isSpeaker : GoodIn wsX7_cross (wsV RX7 86 RX7 yX7_isSpeaker wsX7_isSpeaker) := goodIn_app (goodIn_of _ (by decide +kernel)) ggX7_cross_X7_isSpeaker
set_option maxRecDepth 20000 in
theorem ggX7_cross_X7_isWord : GoodIn wsX7_cross wsX7_isWord := goodIn_r _ [13, 1, 7, 8, 5, 9, 46, 47, 48, 49, 50, 51, 52, 53, 54, 55, 56, 57, 58, 59, 60, 61, 62] (by decide +kernel) (by decide +kernel)
set_option maxRecDepth 20000 in
theorem gX7_cross_X7_isWord : GoodIn wsX7_cross (wsV RX7 100 RX7 yX7_isWord wsX7_isWord) := goodIn_app (goodIn_of _ (by decide +kernel)) ggX7_cross_X7_isWord
set_option maxRecDepth 20000 in
theorem ggX7_cross_X7_in : GoodIn wsX7_cross wsX7_in := goodIn_r _ [9] (by decide +kernel) (by decide +kernel)
set_option maxRecDepth 20000 in
theorem gX7_cross_X7_in : GoodIn wsX7_cross (va_wsS RX7 44 yX7_in wsX7_in) := goodIn_app (goodIn_of _ (by decide +kernel)) ggX7_cross_X7_in
set_option maxRecDepth 20000 in
theorem ggX7_cross_X7_passIn : GoodIn wsX7_cross wsX7_passIn := goodIn_r _ [17, 18, 19, 20, 5, 21, 1, 22, 23, 24, 25, 26, 27, 28, 29, 30, 31, 32, 33, 34, 35, 36, 37, 38, 39, 40, 41, 42, 43, 44, 45, 46, 47, 48, 49, 50, 51, 52, 53, 54, 55, 56, 57, 58, 59, 60, 61, 62] (by decide +kernel) (by decide +kernel)
set_option maxRecDepth 20000 in
theorem gX7_cross_X7_passIn : GoodIn wsX7_cross (wsV RX7 74 RX7 yX7_passIn wsX7_passIn) := goodIn_app (goodIn_of _ (by decide +kernel)) ggX7_cross_X7_passIn
theorem dX7_cross_0 : decode cX7_cross 0 = .ok (.aload_n 0, 1) := by decide +kernel
theorem dX7_cross_1 : decode cX7_cross 1 = .ok (.iload_n 1, 1) := by decide +kernel
theorem dX7_cross_2 : decode cX7_cross 2 = .ok (.invokevirtual 86, 3) := by decide +kernel
theorem dX7_cross_5 : decode cX7_cross 5 = .ok (.ifCond .eq 21, 3) := by decide +kernel
theorem dX7_cross_8 : decode cX7_cross 8 = .ok (.aload_n 0, 1) := by decide +kernel
theorem dX7_cross_9 : decode cX7_cross 9 = .ok (.iload_n 2, 1) := by decide +kernel
theorem dX7_cross_10 : decode cX7_cross 10 = .ok (.invokevirtual 100, 3) := by decide +kernel
theorem dX7_cross_13 : decode cX7_cross 13 = .ok (.ifCond .eq 13, 3) := by decide +kernel
theorem dX7_cross_16 : decode cX7_cross 16 = .ok (.iload_n 3, 1) := by decide +kernel
theorem dX7_cross_17 : decode cX7_cross 17 = .ok (.i2l, 1) := by decide +kernel
theorem dX7_cross_18 : decode cX7_cross 18 = .ok (.lconst 0, 1) := by decide +kernel
theorem dX7_cross_19 : decode cX7_cross 19 = .ok (.lconst 1, 1) := by decide +kernel
theorem dX7_cross_20 : decode cX7_cross 20 = .ok (.invokestatic 44, 3) := by decide +kernel
theorem dX7_cross_23 : decode cX7_cross 23 = .ok (.ifCond .ne 5, 3) := by decide +kernel
theorem dX7_cross_26 : decode cX7_cross 26 = .ok (.iconst (-1), 1) := by decide +kernel
theorem dX7_cross_27 : decode cX7_cross 27 = .ok (.ireturn, 1) := by decide +kernel
theorem dX7_cross_28 : decode cX7_cross 28 = .ok (.aload_n 0, 1) := by decide +kernel
theorem dX7_cross_29 : decode cX7_cross 29 = .ok (.getfield 7, 3) := by decide +kernel
theorem dX7_cross_32 : decode cX7_cross 32 = .ok (.iconst 4, 1) := by decide +kernel
theorem dX7_cross_33 : decode cX7_cross 33 = .ok (.iaload, 1) := by decide +kernel
theorem dX7_cross_34 : decode cX7_cross 34 = .ok (.istore 4, 2) := by decide +kernel
theorem dX7_cross_36 : decode cX7_cross 36 = .ok (.iconst 1, 1) := by decide +kernel
theorem dX7_cross_37 : decode cX7_cross 37 = .ok (.istore 5, 2) := by decide +kernel
theorem dX7_cross_39 : decode cX7_cross 39 = .ok (.iload 5, 2) := by decide +kernel
theorem dX7_cross_41 : decode cX7_cross 41 = .ok (.bipush 24, 2) := by decide +kernel
theorem dX7_cross_43 : decode cX7_cross 43 = .ok (.if_icmp .ge 48, 3) := by decide +kernel
theorem dX7_cross_46 : decode cX7_cross 46 = .ok (.aload_n 0, 1) := by decide +kernel
theorem dX7_cross_47 : decode cX7_cross 47 = .ok (.getfield 7, 3) := by decide +kernel
theorem dX7_cross_50 : decode cX7_cross 50 = .ok (.iconst 4, 1) := by decide +kernel
theorem dX7_cross_51 : decode cX7_cross 51 = .ok (.iaload, 1) := by decide +kernel
theorem dX7_cross_52 : decode cX7_cross 52 = .ok (.iload 5, 2) := by decide +kernel
theorem dX7_cross_54 : decode cX7_cross 54 = .ok (.iadd, 1) := by decide +kernel
theorem dX7_cross_55 : decode cX7_cross 55 = .ok (.istore 6, 2) := by decide +kernel
theorem dX7_cross_57 : decode cX7_cross 57 = .ok (.aload_n 0, 1) := by decide +kernel
theorem dX7_cross_58 : decode cX7_cross 58 = .ok (.iload_n 1, 1) := by decide +kernel
theorem dX7_cross_59 : decode cX7_cross 59 = .ok (.iload_n 2, 1) := by decide +kernel
theorem dX7_cross_60 : decode cX7_cross 60 = .ok (.iload 6, 2) := by decide +kernel
theorem dX7_cross_62 : decode cX7_cross 62 = .ok (.invokevirtual 74, 3) := by decide +kernel
theorem dX7_cross_65 : decode cX7_cross 65 = .ok (.aload_n 0, 1) := by decide +kernel
theorem dX7_cross_66 : decode cX7_cross 66 = .ok (.iload_n 1, 1) := by decide +kernel
theorem dX7_cross_67 : decode cX7_cross 67 = .ok (.iload_n 2, 1) := by decide +kernel
theorem dX7_cross_68 : decode cX7_cross 68 = .ok (.iload 4, 2) := by decide +kernel
theorem dX7_cross_70 : decode cX7_cross 70 = .ok (.invokevirtual 74, 3) := by decide +kernel
theorem dX7_cross_73 : decode cX7_cross 73 = .ok (.if_icmp .le 8, 3) := by decide +kernel
theorem dX7_cross_76 : decode cX7_cross 76 = .ok (.iload 6, 2) := by decide +kernel
theorem dX7_cross_78 : decode cX7_cross 78 = .ok (.goto 5, 3) := by decide +kernel
theorem dX7_cross_81 : decode cX7_cross 81 = .ok (.iload 4, 2) := by decide +kernel
theorem dX7_cross_83 : decode cX7_cross 83 = .ok (.istore 4, 2) := by decide +kernel
theorem dX7_cross_85 : decode cX7_cross 85 = .ok (.iinc 5 1, 3) := by decide +kernel
theorem dX7_cross_88 : decode cX7_cross 88 = .ok (.goto (-49), 3) := by decide +kernel
theorem dX7_cross_91 : decode cX7_cross 91 = .ok (.iload_n 3, 1) := by decide +kernel
theorem dX7_cross_92 : decode cX7_cross 92 = .ok (.ifCond .ne 8, 3) := by decide +kernel
theorem dX7_cross_95 : decode cX7_cross 95 = .ok (.iload 4, 2) := by decide +kernel
theorem dX7_cross_97 : decode cX7_cross 97 = .ok (.goto 11, 3) := by decide +kernel
theorem dX7_cross_100 : decode cX7_cross 100 = .ok (.aload_n 0, 1) := by decide +kernel
theorem dX7_cross_101 : decode cX7_cross 101 = .ok (.iload_n 1, 1) := by decide +kernel
theorem dX7_cross_102 : decode cX7_cross 102 = .ok (.iload_n 2, 1) := by decide +kernel
theorem dX7_cross_103 : decode cX7_cross 103 = .ok (.iload 4, 2) := by decide +kernel
theorem dX7_cross_105 : decode cX7_cross 105 = .ok (.invokevirtual 74, 3) := by decide +kernel
theorem dX7_cross_108 : decode cX7_cross 108 = .ok (.ireturn, 1) := by decide +kernel
set_option maxRecDepth 20000 in
theorem ggX7_line_X7_isWord : GoodIn wsX7_line wsX7_isWord := goodIn_r _ [7, 1, 8, 9, 6, 10, 50, 51, 52, 53, 54, 55, 56, 57, 58, 59, 60, 61, 62, 63, 64, 65, 66] (by decide +kernel) (by decide +kernel)
set_option maxRecDepth 20000 in
theorem gX7_line_X7_isWord : GoodIn wsX7_line (wsV RX7 100 RX7 yX7_isWord wsX7_isWord) := goodIn_app (goodIn_of _ (by decide +kernel)) ggX7_line_X7_isWord
set_option maxRecDepth 20000 in
theorem ggX7_line_X7_those : GoodIn wsX7_line wsX7_those := goodIn_r _ [14, 1, 15, 16, 17, 6, 18, 50, 51, 52, 53, 54, 55, 56, 57, 58, 59, 60, 61, 62, 63, 64, 65, 66] (by decide +kernel) (by decide +kernel)
set_option maxRecDepth 20000 in
theorem gX7_line_X7_those : GoodIn wsX7_line (wsV RX7 103 RX7 yX7_those wsX7_those) := goodIn_app (goodIn_of _ (by decide +kernel)) ggX7_line_X7_those
set_option maxRecDepth 20000 in
theorem ggX7_line_X7_many : GoodIn wsX7_line wsX7_many := goodIn_r _ [21] (by decide +kernel) (by decide +kernel)
set_option maxRecDepth 20000 in
theorem gX7_line_X7_many : GoodIn wsX7_line (va_wsS RX7 176 yX7_many wsX7_many) := goodIn_app (goodIn_of _ (by decide +kernel)) ggX7_line_X7_many
set_option maxRecDepth 20000 in
theorem ggX7_line_X7_wornOf : GoodIn wsX7_line wsX7_wornOf := goodIn_r _ [25, 1, 50, 51, 52, 53, 54, 55, 56, 57, 58, 59, 60, 61, 62, 63, 64, 65, 66] (by decide +kernel) (by decide +kernel)
set_option maxRecDepth 20000 in
theorem gX7_line_X7_wornOf : GoodIn wsX7_line (wsV RX7 67 RX7 yX7_wornOf wsX7_wornOf) := goodIn_app (goodIn_of _ (by decide +kernel)) ggX7_line_X7_wornOf
set_option maxRecDepth 20000 in
theorem ggX7_line_X7_told : GoodIn wsX7_line wsX7_told := goodIn_r _ [18, 1, 50, 51, 52, 53, 54, 55, 56, 57, 58, 59, 60, 61, 62, 63, 64, 65, 66] (by decide +kernel) (by decide +kernel)
set_option maxRecDepth 20000 in
theorem gX7_line_X7_told : GoodIn wsX7_line (wsV RX7 48 RX7 yX7_told wsX7_told) := goodIn_app (goodIn_of _ (by decide +kernel)) ggX7_line_X7_told
set_option maxRecDepth 20000 in
theorem ggX7_line_X7_passBy : GoodIn wsX7_line wsX7_passBy := goodIn_r _ [29, 30, 31, 32, 33, 6, 34, 1, 35, 36, 37, 38, 39, 40, 41, 42, 15, 16, 17, 18, 43, 44, 45, 50, 51, 52, 53, 54, 55, 56, 57, 58, 59, 60, 61, 62, 63, 64, 65, 66] (by decide +kernel) (by decide +kernel)
set_option maxRecDepth 20000 in
theorem gX7_line_X7_passBy : GoodIn wsX7_line (wsV RX7 70 RX7 yX7_passBy wsX7_passBy) := goodIn_app (goodIn_of _ (by decide +kernel)) ggX7_line_X7_passBy
set_option maxRecDepth 20000 in
theorem ggX7_line_X7_wrong : GoodIn wsX7_line wsX7_wrong := goodIn_r _ [49, 30, 15, 16, 17, 6, 18, 1, 50, 51, 52, 53, 54, 55, 56, 57, 58, 59, 60, 61, 62, 63, 64, 65, 66] (by decide +kernel) (by decide +kernel)
set_option maxRecDepth 20000 in
theorem gX7_line_X7_wrong : GoodIn wsX7_line (wsV RX7 168 RX7 yX7_wrong wsX7_wrong) := goodIn_app (goodIn_of _ (by decide +kernel)) ggX7_line_X7_wrong
theorem dX7_line_0 : decode cX7_line 0 = .ok (.aload_n 0, 1) := by decide +kernel
theorem dX7_line_1 : decode cX7_line 1 = .ok (.iload_n 1, 1) := by decide +kernel
theorem dX7_line_2 : decode cX7_line 2 = .ok (.invokevirtual 100, 3) := by decide +kernel
theorem dX7_line_5 : decode cX7_line 5 = .ok (.ifCond .eq 8, 3) := by decide +kernel
theorem dX7_line_8 : decode cX7_line 8 = .ok (.iload_n 2, 1) := by decide +kernel
theorem dX7_line_9 : decode cX7_line 9 = .ok (.iconst (-1), 1) := by decide +kernel
theorem dX7_line_10 : decode cX7_line 10 = .ok (.if_icmp .ge 5, 3) := by decide +kernel
theorem dX7_line_13 : decode cX7_line 13 = .ok (.iconst (-1), 1) := by decide +kernel
theorem dX7_line_14 : decode cX7_line 14 = .ok (.ireturn, 1) := by decide +kernel
theorem dX7_line_15 : decode cX7_line 15 = .ok (.aload_n 0, 1) := by decide +kernel
theorem dX7_line_16 : decode cX7_line 16 = .ok (.iconst 0, 1) := by decide +kernel
theorem dX7_line_17 : decode cX7_line 17 = .ok (.invokevirtual 103, 3) := by decide +kernel
theorem dX7_line_20 : decode cX7_line 20 = .ok (.istore_n 3, 1) := by decide +kernel
theorem dX7_line_21 : decode cX7_line 21 = .ok (.iload_n 3, 1) := by decide +kernel
theorem dX7_line_22 : decode cX7_line 22 = .ok (.invokestatic 176, 3) := by decide +kernel
theorem dX7_line_25 : decode cX7_line 25 = .ok (.istore 4, 2) := by decide +kernel
theorem dX7_line_27 : decode cX7_line 27 = .ok (.iconst 0, 1) := by decide +kernel
theorem dX7_line_28 : decode cX7_line 28 = .ok (.istore 5, 2) := by decide +kernel
theorem dX7_line_30 : decode cX7_line 30 = .ok (.iload 5, 2) := by decide +kernel
theorem dX7_line_32 : decode cX7_line 32 = .ok (.iload_n 3, 1) := by decide +kernel
theorem dX7_line_33 : decode cX7_line 33 = .ok (.if_icmp .gt 153, 3) := by decide +kernel
theorem dX7_line_36 : decode cX7_line 36 = .ok (.iload 5, 2) := by decide +kernel
theorem dX7_line_38 : decode cX7_line 38 = .ok (.ifCond .ne 7, 3) := by decide +kernel
theorem dX7_line_41 : decode cX7_line 41 = .ok (.iconst 0, 1) := by decide +kernel
theorem dX7_line_42 : decode cX7_line 42 = .ok (.goto 4, 3) := by decide +kernel
theorem dX7_line_45 : decode cX7_line 45 = .ok (.iconst (-1), 1) := by decide +kernel
theorem dX7_line_46 : decode cX7_line 46 = .ok (.istore 6, 2) := by decide +kernel
theorem dX7_line_48 : decode cX7_line 48 = .ok (.iload 4, 2) := by decide +kernel
theorem dX7_line_50 : decode cX7_line 50 = .ok (.iload 5, 2) := by decide +kernel
theorem dX7_line_52 : decode cX7_line 52 = .ok (.invokestatic 176, 3) := by decide +kernel
theorem dX7_line_55 : decode cX7_line 55 = .ok (.isub, 1) := by decide +kernel
theorem dX7_line_56 : decode cX7_line 56 = .ok (.istore 7, 2) := by decide +kernel
theorem dX7_line_58 : decode cX7_line 58 = .ok (.iconst 0, 1) := by decide +kernel
theorem dX7_line_59 : decode cX7_line 59 = .ok (.istore 8, 2) := by decide +kernel
theorem dX7_line_61 : decode cX7_line 61 = .ok (.iload 8, 2) := by decide +kernel
theorem dX7_line_63 : decode cX7_line 63 = .ok (.aload_n 0, 1) := by decide +kernel
theorem dX7_line_64 : decode cX7_line 64 = .ok (.getfield 7, 3) := by decide +kernel
theorem dX7_line_67 : decode cX7_line 67 = .ok (.iconst 0, 1) := by decide +kernel
theorem dX7_line_68 : decode cX7_line 68 = .ok (.iaload, 1) := by decide +kernel
theorem dX7_line_69 : decode cX7_line 69 = .ok (.if_icmp .ge 102, 3) := by decide +kernel
theorem dX7_line_72 : decode cX7_line 72 = .ok (.iload 5, 2) := by decide +kernel
theorem dX7_line_74 : decode cX7_line 74 = .ok (.iload_n 3, 1) := by decide +kernel
theorem dX7_line_75 : decode cX7_line 75 = .ok (.iconst (-1), 1) := by decide +kernel
theorem dX7_line_76 : decode cX7_line 76 = .ok (.ixor, 1) := by decide +kernel
theorem dX7_line_77 : decode cX7_line 77 = .ok (.iand, 1) := by decide +kernel
theorem dX7_line_78 : decode cX7_line 78 = .ok (.ifCond .ne 93, 3) := by decide +kernel
theorem dX7_line_81 : decode cX7_line 81 = .ok (.iload 5, 2) := by decide +kernel
theorem dX7_line_83 : decode cX7_line 83 = .ok (.iload 8, 2) := by decide +kernel
theorem dX7_line_85 : decode cX7_line 85 = .ok (.ishr, 1) := by decide +kernel
theorem dX7_line_86 : decode cX7_line 86 = .ok (.iconst 1, 1) := by decide +kernel
theorem dX7_line_87 : decode cX7_line 87 = .ok (.iand, 1) := by decide +kernel
theorem dX7_line_88 : decode cX7_line 88 = .ok (.iconst 1, 1) := by decide +kernel
theorem dX7_line_89 : decode cX7_line 89 = .ok (.if_icmp .ne 76, 3) := by decide +kernel
theorem dX7_line_92 : decode cX7_line 92 = .ok (.aload_n 0, 1) := by decide +kernel
theorem dX7_line_93 : decode cX7_line 93 = .ok (.iload 8, 2) := by decide +kernel
theorem dX7_line_95 : decode cX7_line 95 = .ok (.aload_n 0, 1) := by decide +kernel
theorem dX7_line_96 : decode cX7_line 96 = .ok (.iload 8, 2) := by decide +kernel
theorem dX7_line_98 : decode cX7_line 98 = .ok (.iload_n 1, 1) := by decide +kernel
theorem dX7_line_99 : decode cX7_line 99 = .ok (.aload_n 0, 1) := by decide +kernel
theorem dX7_line_100 : decode cX7_line 100 = .ok (.getfield 7, 3) := by decide +kernel
theorem dX7_line_103 : decode cX7_line 103 = .ok (.iconst 4, 1) := by decide +kernel
theorem dX7_line_104 : decode cX7_line 104 = .ok (.iaload, 1) := by decide +kernel
theorem dX7_line_105 : decode cX7_line 105 = .ok (.iload 7, 2) := by decide +kernel
theorem dX7_line_107 : decode cX7_line 107 = .ok (.iadd, 1) := by decide +kernel
theorem dX7_line_108 : decode cX7_line 108 = .ok (.aload_n 0, 1) := by decide +kernel
theorem dX7_line_109 : decode cX7_line 109 = .ok (.iload_n 1, 1) := by decide +kernel
theorem dX7_line_110 : decode cX7_line 110 = .ok (.invokevirtual 67, 3) := by decide +kernel
theorem dX7_line_113 : decode cX7_line 113 = .ok (.iload 7, 2) := by decide +kernel
theorem dX7_line_115 : decode cX7_line 115 = .ok (.iadd, 1) := by decide +kernel
theorem dX7_line_116 : decode cX7_line 116 = .ok (.aload_n 0, 1) := by decide +kernel
theorem dX7_line_117 : decode cX7_line 117 = .ok (.iload 8, 2) := by decide +kernel
theorem dX7_line_119 : decode cX7_line 119 = .ok (.iconst 3, 1) := by decide +kernel
theorem dX7_line_120 : decode cX7_line 120 = .ok (.invokevirtual 48, 3) := by decide +kernel
theorem dX7_line_123 : decode cX7_line 123 = .ok (.invokevirtual 70, 3) := by decide +kernel
theorem dX7_line_126 : decode cX7_line 126 = .ok (.invokevirtual 168, 3) := by decide +kernel
theorem dX7_line_129 : decode cX7_line 129 = .ok (.aload_n 0, 1) := by decide +kernel
theorem dX7_line_130 : decode cX7_line 130 = .ok (.getfield 25, 3) := by decide +kernel
theorem dX7_line_133 : decode cX7_line 133 = .ok (.iload 5, 2) := by decide +kernel
theorem dX7_line_135 : decode cX7_line 135 = .ok (.iconst 1, 1) := by decide +kernel
theorem dX7_line_136 : decode cX7_line 136 = .ok (.iload 8, 2) := by decide +kernel
theorem dX7_line_138 : decode cX7_line 138 = .ok (.ishl, 1) := by decide +kernel
theorem dX7_line_139 : decode cX7_line 139 = .ok (.isub, 1) := by decide +kernel
theorem dX7_line_140 : decode cX7_line 140 = .ok (.iaload, 1) := by decide +kernel
theorem dX7_line_141 : decode cX7_line 141 = .ok (.iadd, 1) := by decide +kernel
theorem dX7_line_142 : decode cX7_line 142 = .ok (.istore 9, 2) := by decide +kernel
theorem dX7_line_144 : decode cX7_line 144 = .ok (.iload 6, 2) := by decide +kernel
theorem dX7_line_146 : decode cX7_line 146 = .ok (.ifCond .lt 10, 3) := by decide +kernel
theorem dX7_line_149 : decode cX7_line 149 = .ok (.iload 9, 2) := by decide +kernel
theorem dX7_line_151 : decode cX7_line 151 = .ok (.iload 6, 2) := by decide +kernel
theorem dX7_line_153 : decode cX7_line 153 = .ok (.if_icmp .ge 8, 3) := by decide +kernel
theorem dX7_line_156 : decode cX7_line 156 = .ok (.iload 9, 2) := by decide +kernel
theorem dX7_line_158 : decode cX7_line 158 = .ok (.goto 5, 3) := by decide +kernel
theorem dX7_line_161 : decode cX7_line 161 = .ok (.iload 6, 2) := by decide +kernel
theorem dX7_line_163 : decode cX7_line 163 = .ok (.istore 6, 2) := by decide +kernel
theorem dX7_line_165 : decode cX7_line 165 = .ok (.iinc 8 1, 3) := by decide +kernel
theorem dX7_line_168 : decode cX7_line 168 = .ok (.goto (-107), 3) := by decide +kernel
theorem dX7_line_171 : decode cX7_line 171 = .ok (.aload_n 0, 1) := by decide +kernel
theorem dX7_line_172 : decode cX7_line 172 = .ok (.getfield 25, 3) := by decide +kernel
theorem dX7_line_175 : decode cX7_line 175 = .ok (.iload 5, 2) := by decide +kernel
theorem dX7_line_177 : decode cX7_line 177 = .ok (.iload 6, 2) := by decide +kernel
theorem dX7_line_179 : decode cX7_line 179 = .ok (.iastore, 1) := by decide +kernel
theorem dX7_line_180 : decode cX7_line 180 = .ok (.iinc 5 1, 3) := by decide +kernel
theorem dX7_line_183 : decode cX7_line 183 = .ok (.goto (-153), 3) := by decide +kernel
theorem dX7_line_186 : decode cX7_line 186 = .ok (.iload_n 2, 1) := by decide +kernel
theorem dX7_line_187 : decode cX7_line 187 = .ok (.ifCond .ge 10, 3) := by decide +kernel
theorem dX7_line_190 : decode cX7_line 190 = .ok (.aload_n 0, 1) := by decide +kernel
theorem dX7_line_191 : decode cX7_line 191 = .ok (.getfield 25, 3) := by decide +kernel
theorem dX7_line_194 : decode cX7_line 194 = .ok (.iload_n 3, 1) := by decide +kernel
theorem dX7_line_195 : decode cX7_line 195 = .ok (.iaload, 1) := by decide +kernel
theorem dX7_line_196 : decode cX7_line 196 = .ok (.ireturn, 1) := by decide +kernel
theorem dX7_line_197 : decode cX7_line 197 = .ok (.iload_n 3, 1) := by decide +kernel
theorem dX7_line_198 : decode cX7_line 198 = .ok (.istore 5, 2) := by decide +kernel
theorem dX7_line_200 : decode cX7_line 200 = .ok (.bipush (-4), 2) := by decide +kernel
theorem dX7_line_202 : decode cX7_line 202 = .ok (.istore 6, 2) := by decide +kernel
theorem dX7_line_204 : decode cX7_line 204 = .ok (.iconst 0, 1) := by decide +kernel
theorem dX7_line_205 : decode cX7_line 205 = .ok (.istore 7, 2) := by decide +kernel
theorem dX7_line_207 : decode cX7_line 207 = .ok (.iload 7, 2) := by decide +kernel
theorem dX7_line_209 : decode cX7_line 209 = .ok (.iload_n 2, 1) := by decide +kernel
theorem dX7_line_210 : decode cX7_line 210 = .ok (.if_icmp .gt 134, 3) := by decide +kernel
theorem dX7_line_213 : decode cX7_line 213 = .ok (.iload 7, 2) := by decide +kernel
theorem dX7_line_215 : decode cX7_line 215 = .ok (.iload 4, 2) := by decide +kernel
theorem dX7_line_217 : decode cX7_line 217 = .ok (.if_icmp .ge 127, 3) := by decide +kernel
theorem dX7_line_220 : decode cX7_line 220 = .ok (.bipush (-4), 2) := by decide +kernel
theorem dX7_line_222 : decode cX7_line 222 = .ok (.istore 6, 2) := by decide +kernel
theorem dX7_line_224 : decode cX7_line 224 = .ok (.aload_n 0, 1) := by decide +kernel
theorem dX7_line_225 : decode cX7_line 225 = .ok (.getfield 7, 3) := by decide +kernel
theorem dX7_line_228 : decode cX7_line 228 = .ok (.iconst 0, 1) := by decide +kernel
theorem dX7_line_229 : decode cX7_line 229 = .ok (.iaload, 1) := by decide +kernel
theorem dX7_line_230 : decode cX7_line 230 = .ok (.iconst 1, 1) := by decide +kernel
theorem dX7_line_231 : decode cX7_line 231 = .ok (.isub, 1) := by decide +kernel
theorem dX7_line_232 : decode cX7_line 232 = .ok (.istore 8, 2) := by decide +kernel
theorem dX7_line_234 : decode cX7_line 234 = .ok (.iload 8, 2) := by decide +kernel
theorem dX7_line_236 : decode cX7_line 236 = .ok (.ifCond .lt 93, 3) := by decide +kernel
theorem dX7_line_239 : decode cX7_line 239 = .ok (.iload 5, 2) := by decide +kernel
theorem dX7_line_241 : decode cX7_line 241 = .ok (.iload 8, 2) := by decide +kernel
theorem dX7_line_243 : decode cX7_line 243 = .ok (.ishr, 1) := by decide +kernel
theorem dX7_line_244 : decode cX7_line 244 = .ok (.iconst 1, 1) := by decide +kernel
theorem dX7_line_245 : decode cX7_line 245 = .ok (.iand, 1) := by decide +kernel
theorem dX7_line_246 : decode cX7_line 246 = .ok (.iconst 1, 1) := by decide +kernel
theorem dX7_line_247 : decode cX7_line 247 = .ok (.if_icmp .ne 76, 3) := by decide +kernel
theorem dX7_line_250 : decode cX7_line 250 = .ok (.aload_n 0, 1) := by decide +kernel
theorem dX7_line_251 : decode cX7_line 251 = .ok (.iload 8, 2) := by decide +kernel
theorem dX7_line_253 : decode cX7_line 253 = .ok (.aload_n 0, 1) := by decide +kernel
theorem dX7_line_254 : decode cX7_line 254 = .ok (.iload 8, 2) := by decide +kernel
theorem dX7_line_256 : decode cX7_line 256 = .ok (.iload_n 1, 1) := by decide +kernel
theorem dX7_line_257 : decode cX7_line 257 = .ok (.aload_n 0, 1) := by decide +kernel
theorem dX7_line_258 : decode cX7_line 258 = .ok (.getfield 7, 3) := by decide +kernel
theorem dX7_line_261 : decode cX7_line 261 = .ok (.iconst 4, 1) := by decide +kernel
theorem dX7_line_262 : decode cX7_line 262 = .ok (.iaload, 1) := by decide +kernel
theorem dX7_line_263 : decode cX7_line 263 = .ok (.iload 7, 2) := by decide +kernel
theorem dX7_line_265 : decode cX7_line 265 = .ok (.iadd, 1) := by decide +kernel
theorem dX7_line_266 : decode cX7_line 266 = .ok (.aload_n 0, 1) := by decide +kernel
theorem dX7_line_267 : decode cX7_line 267 = .ok (.iload_n 1, 1) := by decide +kernel
theorem dX7_line_268 : decode cX7_line 268 = .ok (.invokevirtual 67, 3) := by decide +kernel
theorem dX7_line_271 : decode cX7_line 271 = .ok (.iload 7, 2) := by decide +kernel
theorem dX7_line_273 : decode cX7_line 273 = .ok (.iadd, 1) := by decide +kernel
theorem dX7_line_274 : decode cX7_line 274 = .ok (.aload_n 0, 1) := by decide +kernel
theorem dX7_line_275 : decode cX7_line 275 = .ok (.iload 8, 2) := by decide +kernel
theorem dX7_line_277 : decode cX7_line 277 = .ok (.iconst 3, 1) := by decide +kernel
theorem dX7_line_278 : decode cX7_line 278 = .ok (.invokevirtual 48, 3) := by decide +kernel
theorem dX7_line_281 : decode cX7_line 281 = .ok (.invokevirtual 70, 3) := by decide +kernel
theorem dX7_line_284 : decode cX7_line 284 = .ok (.invokevirtual 168, 3) := by decide +kernel
theorem dX7_line_287 : decode cX7_line 287 = .ok (.aload_n 0, 1) := by decide +kernel
theorem dX7_line_288 : decode cX7_line 288 = .ok (.getfield 25, 3) := by decide +kernel
theorem dX7_line_291 : decode cX7_line 291 = .ok (.iload 5, 2) := by decide +kernel
theorem dX7_line_293 : decode cX7_line 293 = .ok (.iconst 1, 1) := by decide +kernel
theorem dX7_line_294 : decode cX7_line 294 = .ok (.iload 8, 2) := by decide +kernel
theorem dX7_line_296 : decode cX7_line 296 = .ok (.ishl, 1) := by decide +kernel
theorem dX7_line_297 : decode cX7_line 297 = .ok (.isub, 1) := by decide +kernel
theorem dX7_line_298 : decode cX7_line 298 = .ok (.iaload, 1) := by decide +kernel
theorem dX7_line_299 : decode cX7_line 299 = .ok (.iadd, 1) := by decide +kernel
theorem dX7_line_300 : decode cX7_line 300 = .ok (.istore 9, 2) := by decide +kernel
theorem dX7_line_302 : decode cX7_line 302 = .ok (.iload 9, 2) := by decide +kernel
theorem dX7_line_304 : decode cX7_line 304 = .ok (.aload_n 0, 1) := by decide +kernel
theorem dX7_line_305 : decode cX7_line 305 = .ok (.getfield 25, 3) := by decide +kernel
theorem dX7_line_308 : decode cX7_line 308 = .ok (.iload 5, 2) := by decide +kernel
theorem dX7_line_310 : decode cX7_line 310 = .ok (.iaload, 1) := by decide +kernel
theorem dX7_line_311 : decode cX7_line 311 = .ok (.if_icmp .ne 8, 3) := by decide +kernel
theorem dX7_line_314 : decode cX7_line 314 = .ok (.iload 8, 2) := by decide +kernel
theorem dX7_line_316 : decode cX7_line 316 = .ok (.goto 5, 3) := by decide +kernel
theorem dX7_line_319 : decode cX7_line 319 = .ok (.iload 6, 2) := by decide +kernel
theorem dX7_line_321 : decode cX7_line 321 = .ok (.istore 6, 2) := by decide +kernel
theorem dX7_line_323 : decode cX7_line 323 = .ok (.iinc 8 (-1), 3) := by decide +kernel
theorem dX7_line_326 : decode cX7_line 326 = .ok (.goto (-92), 3) := by decide +kernel
theorem dX7_line_329 : decode cX7_line 329 = .ok (.iload 5, 2) := by decide +kernel
theorem dX7_line_331 : decode cX7_line 331 = .ok (.iconst 1, 1) := by decide +kernel
theorem dX7_line_332 : decode cX7_line 332 = .ok (.iload 6, 2) := by decide +kernel
theorem dX7_line_334 : decode cX7_line 334 = .ok (.ishl, 1) := by decide +kernel
theorem dX7_line_335 : decode cX7_line 335 = .ok (.isub, 1) := by decide +kernel
theorem dX7_line_336 : decode cX7_line 336 = .ok (.istore 5, 2) := by decide +kernel
theorem dX7_line_338 : decode cX7_line 338 = .ok (.iinc 7 1, 3) := by decide +kernel
theorem dX7_line_341 : decode cX7_line 341 = .ok (.goto (-134), 3) := by decide +kernel
theorem dX7_line_344 : decode cX7_line 344 = .ok (.iload_n 2, 1) := by decide +kernel
theorem dX7_line_345 : decode cX7_line 345 = .ok (.iload 4, 2) := by decide +kernel
theorem dX7_line_347 : decode cX7_line 347 = .ok (.if_icmp .ge 8, 3) := by decide +kernel
theorem dX7_line_350 : decode cX7_line 350 = .ok (.iload 6, 2) := by decide +kernel
theorem dX7_line_352 : decode cX7_line 352 = .ok (.goto 5, 3) := by decide +kernel
theorem dX7_line_355 : decode cX7_line 355 = .ok (.bipush (-4), 2) := by decide +kernel
theorem dX7_line_357 : decode cX7_line 357 = .ok (.ireturn, 1) := by decide +kernel
set_option maxRecDepth 20000 in
theorem ggX7_passAll_X7_passNow : GoodIn wsX7_passAll wsX7_passNow := goodIn_r _ [7, 2, 8, 9, 10, 6, 11, 12, 13, 14, 15, 16, 17, 18, 19, 20, 21, 22, 23, 24, 25, 26, 27, 28, 29, 30, 31, 32, 33, 34, 35, 36, 37, 38, 39, 40, 41, 42, 43, 44, 45, 46, 47, 48, 49, 50, 51, 52, 53, 54, 55, 56] (by decide +kernel) (by decide +kernel)
set_option maxRecDepth 20000 in
theorem gX7_passAll_X7_passNow : GoodIn wsX7_passAll (wsV RX7 159 RX7 yX7_passNow wsX7_passNow) := goodIn_app (goodIn_of _ (by decide +kernel)) ggX7_passAll_X7_passNow
theorem dX7_passAll_0 : decode cX7_passAll 0 = .ok (.ldc2_w 179, 3) := by decide +kernel
theorem dX7_passAll_3 : decode cX7_passAll 3 = .ok (.lstore_n 3, 1) := by decide +kernel
theorem dX7_passAll_4 : decode cX7_passAll 4 = .ok (.iconst 0, 1) := by decide +kernel
theorem dX7_passAll_5 : decode cX7_passAll 5 = .ok (.istore 5, 2) := by decide +kernel
theorem dX7_passAll_7 : decode cX7_passAll 7 = .ok (.iload 5, 2) := by decide +kernel
theorem dX7_passAll_9 : decode cX7_passAll 9 = .ok (.aload_n 0, 1) := by decide +kernel
theorem dX7_passAll_10 : decode cX7_passAll 10 = .ok (.getfield 7, 3) := by decide +kernel
theorem dX7_passAll_13 : decode cX7_passAll 13 = .ok (.iconst 1, 1) := by decide +kernel
theorem dX7_passAll_14 : decode cX7_passAll 14 = .ok (.iaload, 1) := by decide +kernel
theorem dX7_passAll_15 : decode cX7_passAll 15 = .ok (.if_icmp .ge 38, 3) := by decide +kernel
theorem dX7_passAll_18 : decode cX7_passAll 18 = .ok (.iload_n 2, 1) := by decide +kernel
theorem dX7_passAll_19 : decode cX7_passAll 19 = .ok (.iload 5, 2) := by decide +kernel
theorem dX7_passAll_21 : decode cX7_passAll 21 = .ok (.ishr, 1) := by decide +kernel
theorem dX7_passAll_22 : decode cX7_passAll 22 = .ok (.iconst 1, 1) := by decide +kernel
theorem dX7_passAll_23 : decode cX7_passAll 23 = .ok (.iand, 1) := by decide +kernel
theorem dX7_passAll_24 : decode cX7_passAll 24 = .ok (.iconst 1, 1) := by decide +kernel
theorem dX7_passAll_25 : decode cX7_passAll 25 = .ok (.if_icmp .ne 20, 3) := by decide +kernel
theorem dX7_passAll_28 : decode cX7_passAll 28 = .ok (.lload_n 3, 1) := by decide +kernel
theorem dX7_passAll_29 : decode cX7_passAll 29 = .ok (.aload_n 0, 1) := by decide +kernel
theorem dX7_passAll_30 : decode cX7_passAll 30 = .ok (.iload_n 1, 1) := by decide +kernel
theorem dX7_passAll_31 : decode cX7_passAll 31 = .ok (.iload 5, 2) := by decide +kernel
theorem dX7_passAll_33 : decode cX7_passAll 33 = .ok (.invokevirtual 159, 3) := by decide +kernel
theorem dX7_passAll_36 : decode cX7_passAll 36 = .ok (.i2l, 1) := by decide +kernel
theorem dX7_passAll_37 : decode cX7_passAll 37 = .ok (.lmul, 1) := by decide +kernel
theorem dX7_passAll_38 : decode cX7_passAll 38 = .ok (.ldc2_w 179, 3) := by decide +kernel
theorem dX7_passAll_41 : decode cX7_passAll 41 = .ok (.ldiv, 1) := by decide +kernel
theorem dX7_passAll_42 : decode cX7_passAll 42 = .ok (.goto 4, 3) := by decide +kernel
theorem dX7_passAll_45 : decode cX7_passAll 45 = .ok (.lload_n 3, 1) := by decide +kernel
theorem dX7_passAll_46 : decode cX7_passAll 46 = .ok (.lstore_n 3, 1) := by decide +kernel
theorem dX7_passAll_47 : decode cX7_passAll 47 = .ok (.iinc 5 1, 3) := by decide +kernel
theorem dX7_passAll_50 : decode cX7_passAll 50 = .ok (.goto (-43), 3) := by decide +kernel
theorem dX7_passAll_53 : decode cX7_passAll 53 = .ok (.lload_n 3, 1) := by decide +kernel
theorem dX7_passAll_54 : decode cX7_passAll 54 = .ok (.l2i, 1) := by decide +kernel
theorem dX7_passAll_55 : decode cX7_passAll 55 = .ok (.ireturn, 1) := by decide +kernel
set_option maxRecDepth 20000 in
theorem ggX7_proof_X7_in : GoodIn wsX7_proof wsX7_in := goodIn_r _ [7] (by decide +kernel) (by decide +kernel)
set_option maxRecDepth 20000 in
theorem gX7_proof_X7_in : GoodIn wsX7_proof (va_wsS RX7 44 yX7_in wsX7_in) := goodIn_app (goodIn_of _ (by decide +kernel)) ggX7_proof_X7_in
set_option maxRecDepth 20000 in
theorem ggX7_proof_X7_many : GoodIn wsX7_proof wsX7_many := goodIn_r _ [10] (by decide +kernel) (by decide +kernel)
set_option maxRecDepth 20000 in
theorem gX7_proof_X7_many : GoodIn wsX7_proof (va_wsS RX7 176 yX7_many wsX7_many) := goodIn_app (goodIn_of _ (by decide +kernel)) ggX7_proof_X7_many
set_option maxRecDepth 20000 in
theorem ggX7_proof_X7_passAll : GoodIn wsX7_proof wsX7_passAll := goodIn_r _ [14, 1, 2, 15, 16, 17, 6, 18, 19, 20, 21, 22, 23, 24, 25, 26, 27, 28, 29, 30, 31, 32, 33, 34, 3, 35, 36, 37, 38, 39, 40, 41, 42, 43, 44, 45, 46, 47, 48, 49, 50, 51, 52, 53, 54, 55, 56, 57, 58, 59, 60, 61, 62, 63, 64, 65, 66] (by decide +kernel) (by decide +kernel)
set_option maxRecDepth 20000 in
theorem gX7_proof_X7_passAll : GoodIn wsX7_proof (wsV RX7 181 RX7 yX7_passAll wsX7_passAll) := goodIn_app (goodIn_of _ (by decide +kernel)) ggX7_proof_X7_passAll
set_option maxRecDepth 20000 in
theorem ggX7_proof_X7_told : GoodIn wsX7_proof wsX7_told := goodIn_r _ [30, 2, 50, 51, 52, 53, 54, 55, 56, 57, 58, 59, 60, 61, 62, 63, 64, 65, 66] (by decide +kernel) (by decide +kernel)
set_option maxRecDepth 20000 in
theorem gX7_proof_X7_told : GoodIn wsX7_proof (wsV RX7 48 RX7 yX7_told wsX7_told) := goodIn_app (goodIn_of _ (by decide +kernel)) ggX7_proof_X7_told
theorem dX7_proof_0 : decode cX7_proof 0 = .ok (.iload_n 1, 1) := by decide +kernel
theorem dX7_proof_1 : decode cX7_proof 1 = .ok (.i2l, 1) := by decide +kernel
theorem dX7_proof_2 : decode cX7_proof 2 = .ok (.lconst 0, 1) := by decide +kernel
theorem dX7_proof_3 : decode cX7_proof 3 = .ok (.ldc2_w 179, 3) := by decide +kernel
theorem dX7_proof_6 : decode cX7_proof 6 = .ok (.invokestatic 44, 3) := by decide +kernel
theorem dX7_proof_9 : decode cX7_proof 9 = .ok (.ifCond .ne 5, 3) := by decide +kernel
theorem dX7_proof_12 : decode cX7_proof 12 = .ok (.iconst (-1), 1) := by decide +kernel
theorem dX7_proof_13 : decode cX7_proof 13 = .ok (.ireturn, 1) := by decide +kernel
theorem dX7_proof_14 : decode cX7_proof 14 = .ok (.bipush (-4), 2) := by decide +kernel
theorem dX7_proof_16 : decode cX7_proof 16 = .ok (.istore_n 2, 1) := by decide +kernel
theorem dX7_proof_17 : decode cX7_proof 17 = .ok (.iconst 0, 1) := by decide +kernel
theorem dX7_proof_18 : decode cX7_proof 18 = .ok (.istore_n 3, 1) := by decide +kernel
theorem dX7_proof_19 : decode cX7_proof 19 = .ok (.iload_n 3, 1) := by decide +kernel
theorem dX7_proof_20 : decode cX7_proof 20 = .ok (.iconst 1, 1) := by decide +kernel
theorem dX7_proof_21 : decode cX7_proof 21 = .ok (.aload_n 0, 1) := by decide +kernel
theorem dX7_proof_22 : decode cX7_proof 22 = .ok (.getfield 7, 3) := by decide +kernel
theorem dX7_proof_25 : decode cX7_proof 25 = .ok (.iconst 1, 1) := by decide +kernel
theorem dX7_proof_26 : decode cX7_proof 26 = .ok (.iaload, 1) := by decide +kernel
theorem dX7_proof_27 : decode cX7_proof 27 = .ok (.ishl, 1) := by decide +kernel
theorem dX7_proof_28 : decode cX7_proof 28 = .ok (.if_icmp .ge 118, 3) := by decide +kernel
theorem dX7_proof_31 : decode cX7_proof 31 = .ok (.iload_n 2, 1) := by decide +kernel
theorem dX7_proof_32 : decode cX7_proof 32 = .ok (.bipush (-4), 2) := by decide +kernel
theorem dX7_proof_34 : decode cX7_proof 34 = .ok (.if_icmp .eq 14, 3) := by decide +kernel
theorem dX7_proof_37 : decode cX7_proof 37 = .ok (.iload_n 3, 1) := by decide +kernel
theorem dX7_proof_38 : decode cX7_proof 38 = .ok (.invokestatic 176, 3) := by decide +kernel
theorem dX7_proof_41 : decode cX7_proof 41 = .ok (.iload_n 2, 1) := by decide +kernel
theorem dX7_proof_42 : decode cX7_proof 42 = .ok (.invokestatic 176, 3) := by decide +kernel
theorem dX7_proof_45 : decode cX7_proof 45 = .ok (.if_icmp .ge 7, 3) := by decide +kernel
theorem dX7_proof_48 : decode cX7_proof 48 = .ok (.iconst 1, 1) := by decide +kernel
theorem dX7_proof_49 : decode cX7_proof 49 = .ok (.goto 4, 3) := by decide +kernel
theorem dX7_proof_52 : decode cX7_proof 52 = .ok (.iconst 0, 1) := by decide +kernel
theorem dX7_proof_53 : decode cX7_proof 53 = .ok (.istore 4, 2) := by decide +kernel
theorem dX7_proof_55 : decode cX7_proof 55 = .ok (.iconst 0, 1) := by decide +kernel
theorem dX7_proof_56 : decode cX7_proof 56 = .ok (.istore 5, 2) := by decide +kernel
theorem dX7_proof_58 : decode cX7_proof 58 = .ok (.iload 5, 2) := by decide +kernel
theorem dX7_proof_60 : decode cX7_proof 60 = .ok (.aload_n 0, 1) := by decide +kernel
theorem dX7_proof_61 : decode cX7_proof 61 = .ok (.getfield 7, 3) := by decide +kernel
theorem dX7_proof_64 : decode cX7_proof 64 = .ok (.iconst 0, 1) := by decide +kernel
theorem dX7_proof_65 : decode cX7_proof 65 = .ok (.iaload, 1) := by decide +kernel
theorem dX7_proof_66 : decode cX7_proof 66 = .ok (.if_icmp .ge 63, 3) := by decide +kernel
theorem dX7_proof_69 : decode cX7_proof 69 = .ok (.iload 4, 2) := by decide +kernel
theorem dX7_proof_71 : decode cX7_proof 71 = .ok (.ifCond .eq 58, 3) := by decide +kernel
theorem dX7_proof_74 : decode cX7_proof 74 = .ok (.aload_n 0, 1) := by decide +kernel
theorem dX7_proof_75 : decode cX7_proof 75 = .ok (.iload 5, 2) := by decide +kernel
theorem dX7_proof_77 : decode cX7_proof 77 = .ok (.iload_n 3, 1) := by decide +kernel
theorem dX7_proof_78 : decode cX7_proof 78 = .ok (.invokevirtual 181, 3) := by decide +kernel
theorem dX7_proof_81 : decode cX7_proof 81 = .ok (.istore 6, 2) := by decide +kernel
theorem dX7_proof_83 : decode cX7_proof 83 = .ok (.aload_n 0, 1) := by decide +kernel
theorem dX7_proof_84 : decode cX7_proof 84 = .ok (.iload 5, 2) := by decide +kernel
theorem dX7_proof_86 : decode cX7_proof 86 = .ok (.iconst 1, 1) := by decide +kernel
theorem dX7_proof_87 : decode cX7_proof 87 = .ok (.invokevirtual 48, 3) := by decide +kernel
theorem dX7_proof_90 : decode cX7_proof 90 = .ok (.ifCond .ne 17, 3) := by decide +kernel
theorem dX7_proof_93 : decode cX7_proof 93 = .ok (.iload 6, 2) := by decide +kernel
theorem dX7_proof_95 : decode cX7_proof 95 = .ok (.iload_n 1, 1) := by decide +kernel
theorem dX7_proof_96 : decode cX7_proof 96 = .ok (.if_icmp .lt 7, 3) := by decide +kernel
theorem dX7_proof_99 : decode cX7_proof 99 = .ok (.iconst 1, 1) := by decide +kernel
theorem dX7_proof_100 : decode cX7_proof 100 = .ok (.goto 21, 3) := by decide +kernel
theorem dX7_proof_103 : decode cX7_proof 103 = .ok (.iconst 0, 1) := by decide +kernel
theorem dX7_proof_104 : decode cX7_proof 104 = .ok (.goto 17, 3) := by decide +kernel
theorem dX7_proof_107 : decode cX7_proof 107 = .ok (.iload 6, 2) := by decide +kernel
theorem dX7_proof_109 : decode cX7_proof 109 = .ok (.ldc 59, 2) := by decide +kernel
theorem dX7_proof_111 : decode cX7_proof 111 = .ok (.iload_n 1, 1) := by decide +kernel
theorem dX7_proof_112 : decode cX7_proof 112 = .ok (.isub, 1) := by decide +kernel
theorem dX7_proof_113 : decode cX7_proof 113 = .ok (.if_icmp .gt 7, 3) := by decide +kernel
theorem dX7_proof_116 : decode cX7_proof 116 = .ok (.iconst 1, 1) := by decide +kernel
theorem dX7_proof_117 : decode cX7_proof 117 = .ok (.goto 4, 3) := by decide +kernel
theorem dX7_proof_120 : decode cX7_proof 120 = .ok (.iconst 0, 1) := by decide +kernel
theorem dX7_proof_121 : decode cX7_proof 121 = .ok (.istore 4, 2) := by decide +kernel
theorem dX7_proof_123 : decode cX7_proof 123 = .ok (.iinc 5 1, 3) := by decide +kernel
theorem dX7_proof_126 : decode cX7_proof 126 = .ok (.goto (-68), 3) := by decide +kernel
theorem dX7_proof_129 : decode cX7_proof 129 = .ok (.iload 4, 2) := by decide +kernel
theorem dX7_proof_131 : decode cX7_proof 131 = .ok (.ifCond .eq 7, 3) := by decide +kernel
theorem dX7_proof_134 : decode cX7_proof 134 = .ok (.iload_n 3, 1) := by decide +kernel
theorem dX7_proof_135 : decode cX7_proof 135 = .ok (.goto 4, 3) := by decide +kernel
theorem dX7_proof_138 : decode cX7_proof 138 = .ok (.iload_n 2, 1) := by decide +kernel
theorem dX7_proof_139 : decode cX7_proof 139 = .ok (.istore_n 2, 1) := by decide +kernel
theorem dX7_proof_140 : decode cX7_proof 140 = .ok (.iinc 3 1, 3) := by decide +kernel
theorem dX7_proof_143 : decode cX7_proof 143 = .ok (.goto (-124), 3) := by decide +kernel
theorem dX7_proof_146 : decode cX7_proof 146 = .ok (.iload_n 2, 1) := by decide +kernel
theorem dX7_proof_147 : decode cX7_proof 147 = .ok (.ireturn, 1) := by decide +kernel
set_option maxRecDepth 20000 in
theorem ggX7_heardWrong_X7_in : GoodIn wsX7_heardWrong wsX7_in := goodIn_r _ [7] (by decide +kernel) (by decide +kernel)
set_option maxRecDepth 20000 in
theorem gX7_heardWrong_X7_in : GoodIn wsX7_heardWrong (va_wsS RX7 44 yX7_in wsX7_in) := goodIn_app (goodIn_of _ (by decide +kernel)) ggX7_heardWrong_X7_in
set_option maxRecDepth 20000 in
theorem ggX7_heardWrong_X7_told : GoodIn wsX7_heardWrong wsX7_told := goodIn_r _ [11, 2, 12, 13, 14, 15, 16, 17, 18, 19, 20, 21, 22, 23, 24, 25, 26, 27, 28] (by decide +kernel) (by decide +kernel)
set_option maxRecDepth 20000 in
theorem gX7_heardWrong_X7_told : GoodIn wsX7_heardWrong (wsV RX7 48 RX7 yX7_told wsX7_told) := goodIn_app (goodIn_of _ (by decide +kernel)) ggX7_heardWrong_X7_told
theorem dX7_heardWrong_0 : decode cX7_heardWrong 0 = .ok (.iload_n 1, 1) := by decide +kernel
theorem dX7_heardWrong_1 : decode cX7_heardWrong 1 = .ok (.i2l, 1) := by decide +kernel
theorem dX7_heardWrong_2 : decode cX7_heardWrong 2 = .ok (.lconst 0, 1) := by decide +kernel
theorem dX7_heardWrong_3 : decode cX7_heardWrong 3 = .ok (.lconst 1, 1) := by decide +kernel
theorem dX7_heardWrong_4 : decode cX7_heardWrong 4 = .ok (.invokestatic 44, 3) := by decide +kernel
theorem dX7_heardWrong_7 : decode cX7_heardWrong 7 = .ok (.ifCond .ne 5, 3) := by decide +kernel
theorem dX7_heardWrong_10 : decode cX7_heardWrong 10 = .ok (.iconst (-1), 1) := by decide +kernel
theorem dX7_heardWrong_11 : decode cX7_heardWrong 11 = .ok (.ireturn, 1) := by decide +kernel
theorem dX7_heardWrong_12 : decode cX7_heardWrong 12 = .ok (.iconst 0, 1) := by decide +kernel
theorem dX7_heardWrong_13 : decode cX7_heardWrong 13 = .ok (.istore_n 2, 1) := by decide +kernel
theorem dX7_heardWrong_14 : decode cX7_heardWrong 14 = .ok (.bipush (-4), 2) := by decide +kernel
theorem dX7_heardWrong_16 : decode cX7_heardWrong 16 = .ok (.istore_n 3, 1) := by decide +kernel
theorem dX7_heardWrong_17 : decode cX7_heardWrong 17 = .ok (.ldc 184, 2) := by decide +kernel
theorem dX7_heardWrong_19 : decode cX7_heardWrong 19 = .ok (.istore 4, 2) := by decide +kernel
theorem dX7_heardWrong_21 : decode cX7_heardWrong 21 = .ok (.iconst 0, 1) := by decide +kernel
theorem dX7_heardWrong_22 : decode cX7_heardWrong 22 = .ok (.istore 5, 2) := by decide +kernel
theorem dX7_heardWrong_24 : decode cX7_heardWrong 24 = .ok (.iload 5, 2) := by decide +kernel
theorem dX7_heardWrong_26 : decode cX7_heardWrong 26 = .ok (.aload_n 0, 1) := by decide +kernel
theorem dX7_heardWrong_27 : decode cX7_heardWrong 27 = .ok (.getfield 7, 3) := by decide +kernel
theorem dX7_heardWrong_30 : decode cX7_heardWrong 30 = .ok (.bipush 6, 2) := by decide +kernel
theorem dX7_heardWrong_32 : decode cX7_heardWrong 32 = .ok (.iaload, 1) := by decide +kernel
theorem dX7_heardWrong_33 : decode cX7_heardWrong 33 = .ok (.if_icmp .ge 145, 3) := by decide +kernel
theorem dX7_heardWrong_36 : decode cX7_heardWrong 36 = .ok (.aload_n 0, 1) := by decide +kernel
theorem dX7_heardWrong_37 : decode cX7_heardWrong 37 = .ok (.getfield 7, 3) := by decide +kernel
theorem dX7_heardWrong_40 : decode cX7_heardWrong 40 = .ok (.bipush 79, 2) := by decide +kernel
theorem dX7_heardWrong_42 : decode cX7_heardWrong 42 = .ok (.iconst 3, 1) := by decide +kernel
theorem dX7_heardWrong_43 : decode cX7_heardWrong 43 = .ok (.iload 5, 2) := by decide +kernel
theorem dX7_heardWrong_45 : decode cX7_heardWrong 45 = .ok (.imul, 1) := by decide +kernel
theorem dX7_heardWrong_46 : decode cX7_heardWrong 46 = .ok (.iadd, 1) := by decide +kernel
theorem dX7_heardWrong_47 : decode cX7_heardWrong 47 = .ok (.iaload, 1) := by decide +kernel
theorem dX7_heardWrong_48 : decode cX7_heardWrong 48 = .ok (.istore 6, 2) := by decide +kernel
theorem dX7_heardWrong_50 : decode cX7_heardWrong 50 = .ok (.aload_n 0, 1) := by decide +kernel
theorem dX7_heardWrong_51 : decode cX7_heardWrong 51 = .ok (.getfield 7, 3) := by decide +kernel
theorem dX7_heardWrong_54 : decode cX7_heardWrong 54 = .ok (.bipush 79, 2) := by decide +kernel
theorem dX7_heardWrong_56 : decode cX7_heardWrong 56 = .ok (.iconst 3, 1) := by decide +kernel
theorem dX7_heardWrong_57 : decode cX7_heardWrong 57 = .ok (.iload 5, 2) := by decide +kernel
theorem dX7_heardWrong_59 : decode cX7_heardWrong 59 = .ok (.imul, 1) := by decide +kernel
theorem dX7_heardWrong_60 : decode cX7_heardWrong 60 = .ok (.iadd, 1) := by decide +kernel
theorem dX7_heardWrong_61 : decode cX7_heardWrong 61 = .ok (.iconst 1, 1) := by decide +kernel
theorem dX7_heardWrong_62 : decode cX7_heardWrong 62 = .ok (.iadd, 1) := by decide +kernel
theorem dX7_heardWrong_63 : decode cX7_heardWrong 63 = .ok (.iaload, 1) := by decide +kernel
theorem dX7_heardWrong_64 : decode cX7_heardWrong 64 = .ok (.istore 7, 2) := by decide +kernel
theorem dX7_heardWrong_66 : decode cX7_heardWrong 66 = .ok (.aload_n 0, 1) := by decide +kernel
theorem dX7_heardWrong_67 : decode cX7_heardWrong 67 = .ok (.getfield 7, 3) := by decide +kernel
theorem dX7_heardWrong_70 : decode cX7_heardWrong 70 = .ok (.bipush 79, 2) := by decide +kernel
theorem dX7_heardWrong_72 : decode cX7_heardWrong 72 = .ok (.iconst 3, 1) := by decide +kernel
theorem dX7_heardWrong_73 : decode cX7_heardWrong 73 = .ok (.iload 5, 2) := by decide +kernel
theorem dX7_heardWrong_75 : decode cX7_heardWrong 75 = .ok (.imul, 1) := by decide +kernel
theorem dX7_heardWrong_76 : decode cX7_heardWrong 76 = .ok (.iadd, 1) := by decide +kernel
theorem dX7_heardWrong_77 : decode cX7_heardWrong 77 = .ok (.iconst 2, 1) := by decide +kernel
theorem dX7_heardWrong_78 : decode cX7_heardWrong 78 = .ok (.iadd, 1) := by decide +kernel
theorem dX7_heardWrong_79 : decode cX7_heardWrong 79 = .ok (.iaload, 1) := by decide +kernel
theorem dX7_heardWrong_80 : decode cX7_heardWrong 80 = .ok (.istore 8, 2) := by decide +kernel
theorem dX7_heardWrong_82 : decode cX7_heardWrong 82 = .ok (.aload_n 0, 1) := by decide +kernel
theorem dX7_heardWrong_83 : decode cX7_heardWrong 83 = .ok (.iload 6, 2) := by decide +kernel
theorem dX7_heardWrong_85 : decode cX7_heardWrong 85 = .ok (.iconst 1, 1) := by decide +kernel
theorem dX7_heardWrong_86 : decode cX7_heardWrong 86 = .ok (.invokevirtual 48, 3) := by decide +kernel
theorem dX7_heardWrong_89 : decode cX7_heardWrong 89 = .ok (.iload 8, 2) := by decide +kernel
theorem dX7_heardWrong_91 : decode cX7_heardWrong 91 = .ok (.if_icmp .ne 7, 3) := by decide +kernel
theorem dX7_heardWrong_94 : decode cX7_heardWrong 94 = .ok (.iconst 1, 1) := by decide +kernel
theorem dX7_heardWrong_95 : decode cX7_heardWrong 95 = .ok (.goto 4, 3) := by decide +kernel
theorem dX7_heardWrong_98 : decode cX7_heardWrong 98 = .ok (.iconst 0, 1) := by decide +kernel
theorem dX7_heardWrong_99 : decode cX7_heardWrong 99 = .ok (.istore 9, 2) := by decide +kernel
theorem dX7_heardWrong_101 : decode cX7_heardWrong 101 = .ok (.iload 8, 2) := by decide +kernel
theorem dX7_heardWrong_103 : decode cX7_heardWrong 103 = .ok (.iconst 1, 1) := by decide +kernel
theorem dX7_heardWrong_104 : decode cX7_heardWrong 104 = .ok (.if_icmp .ne 8, 3) := by decide +kernel
theorem dX7_heardWrong_107 : decode cX7_heardWrong 107 = .ok (.iload 7, 2) := by decide +kernel
theorem dX7_heardWrong_109 : decode cX7_heardWrong 109 = .ok (.goto 8, 3) := by decide +kernel
theorem dX7_heardWrong_112 : decode cX7_heardWrong 112 = .ok (.ldc 59, 2) := by decide +kernel
theorem dX7_heardWrong_114 : decode cX7_heardWrong 114 = .ok (.iload 7, 2) := by decide +kernel
theorem dX7_heardWrong_116 : decode cX7_heardWrong 116 = .ok (.isub, 1) := by decide +kernel
theorem dX7_heardWrong_117 : decode cX7_heardWrong 117 = .ok (.istore 10, 2) := by decide +kernel
theorem dX7_heardWrong_119 : decode cX7_heardWrong 119 = .ok (.iload_n 2, 1) := by decide +kernel
theorem dX7_heardWrong_120 : decode cX7_heardWrong 120 = .ok (.iload 9, 2) := by decide +kernel
theorem dX7_heardWrong_122 : decode cX7_heardWrong 122 = .ok (.ifCond .eq 7, 3) := by decide +kernel
theorem dX7_heardWrong_125 : decode cX7_heardWrong 125 = .ok (.iconst 1, 1) := by decide +kernel
theorem dX7_heardWrong_126 : decode cX7_heardWrong 126 = .ok (.goto 4, 3) := by decide +kernel
theorem dX7_heardWrong_129 : decode cX7_heardWrong 129 = .ok (.iconst 0, 1) := by decide +kernel
theorem dX7_heardWrong_130 : decode cX7_heardWrong 130 = .ok (.iadd, 1) := by decide +kernel
theorem dX7_heardWrong_131 : decode cX7_heardWrong 131 = .ok (.istore_n 2, 1) := by decide +kernel
theorem dX7_heardWrong_132 : decode cX7_heardWrong 132 = .ok (.iload 9, 2) := by decide +kernel
theorem dX7_heardWrong_134 : decode cX7_heardWrong 134 = .ok (.ifCond .eq 15, 3) := by decide +kernel
theorem dX7_heardWrong_137 : decode cX7_heardWrong 137 = .ok (.iload 10, 2) := by decide +kernel
theorem dX7_heardWrong_139 : decode cX7_heardWrong 139 = .ok (.iload 4, 2) := by decide +kernel
theorem dX7_heardWrong_141 : decode cX7_heardWrong 141 = .ok (.if_icmp .ge 8, 3) := by decide +kernel
theorem dX7_heardWrong_144 : decode cX7_heardWrong 144 = .ok (.iload 6, 2) := by decide +kernel
theorem dX7_heardWrong_146 : decode cX7_heardWrong 146 = .ok (.goto 4, 3) := by decide +kernel
theorem dX7_heardWrong_149 : decode cX7_heardWrong 149 = .ok (.iload_n 3, 1) := by decide +kernel
theorem dX7_heardWrong_150 : decode cX7_heardWrong 150 = .ok (.istore_n 3, 1) := by decide +kernel
theorem dX7_heardWrong_151 : decode cX7_heardWrong 151 = .ok (.iload 9, 2) := by decide +kernel
theorem dX7_heardWrong_153 : decode cX7_heardWrong 153 = .ok (.ifCond .eq 15, 3) := by decide +kernel
theorem dX7_heardWrong_156 : decode cX7_heardWrong 156 = .ok (.iload 10, 2) := by decide +kernel
theorem dX7_heardWrong_158 : decode cX7_heardWrong 158 = .ok (.iload 4, 2) := by decide +kernel
theorem dX7_heardWrong_160 : decode cX7_heardWrong 160 = .ok (.if_icmp .ge 8, 3) := by decide +kernel
theorem dX7_heardWrong_163 : decode cX7_heardWrong 163 = .ok (.iload 10, 2) := by decide +kernel
theorem dX7_heardWrong_165 : decode cX7_heardWrong 165 = .ok (.goto 5, 3) := by decide +kernel
theorem dX7_heardWrong_168 : decode cX7_heardWrong 168 = .ok (.iload 4, 2) := by decide +kernel
theorem dX7_heardWrong_170 : decode cX7_heardWrong 170 = .ok (.istore 4, 2) := by decide +kernel
theorem dX7_heardWrong_172 : decode cX7_heardWrong 172 = .ok (.iinc 5 1, 3) := by decide +kernel
theorem dX7_heardWrong_175 : decode cX7_heardWrong 175 = .ok (.goto (-151), 3) := by decide +kernel
theorem dX7_heardWrong_178 : decode cX7_heardWrong 178 = .ok (.iload_n 1, 1) := by decide +kernel
theorem dX7_heardWrong_179 : decode cX7_heardWrong 179 = .ok (.ifCond .ne 7, 3) := by decide +kernel
theorem dX7_heardWrong_182 : decode cX7_heardWrong 182 = .ok (.iload_n 2, 1) := by decide +kernel
theorem dX7_heardWrong_183 : decode cX7_heardWrong 183 = .ok (.goto 4, 3) := by decide +kernel
theorem dX7_heardWrong_186 : decode cX7_heardWrong 186 = .ok (.iload_n 3, 1) := by decide +kernel
theorem dX7_heardWrong_187 : decode cX7_heardWrong 187 = .ok (.ireturn, 1) := by decide +kernel
theorem dX7_image_0 : decode cX7_image 0 = .ok (.iconst 0, 1) := by decide +kernel
theorem dX7_image_1 : decode cX7_image 1 = .ok (.istore_n 1, 1) := by decide +kernel
theorem dX7_image_2 : decode cX7_image 2 = .ok (.iload_n 1, 1) := by decide +kernel
theorem dX7_image_3 : decode cX7_image 3 = .ok (.bipush 115, 2) := by decide +kernel
theorem dX7_image_5 : decode cX7_image 5 = .ok (.if_icmp .ge 21, 3) := by decide +kernel
theorem dX7_image_8 : decode cX7_image 8 = .ok (.aload_n 0, 1) := by decide +kernel
theorem dX7_image_9 : decode cX7_image 9 = .ok (.getfield 28, 3) := by decide +kernel
theorem dX7_image_12 : decode cX7_image 12 = .ok (.iload_n 1, 1) := by decide +kernel
theorem dX7_image_13 : decode cX7_image 13 = .ok (.aload_n 0, 1) := by decide +kernel
theorem dX7_image_14 : decode cX7_image 14 = .ok (.getfield 7, 3) := by decide +kernel
theorem dX7_image_17 : decode cX7_image 17 = .ok (.iload_n 1, 1) := by decide +kernel
theorem dX7_image_18 : decode cX7_image 18 = .ok (.iaload, 1) := by decide +kernel
theorem dX7_image_19 : decode cX7_image 19 = .ok (.iastore, 1) := by decide +kernel
theorem dX7_image_20 : decode cX7_image 20 = .ok (.iinc 1 1, 3) := by decide +kernel
theorem dX7_image_23 : decode cX7_image 23 = .ok (.goto (-21), 3) := by decide +kernel
theorem dX7_image_26 : decode cX7_image 26 = .ok (.iconst 0, 1) := by decide +kernel
theorem dX7_image_27 : decode cX7_image 27 = .ok (.istore_n 1, 1) := by decide +kernel
theorem dX7_image_28 : decode cX7_image 28 = .ok (.iload_n 1, 1) := by decide +kernel
theorem dX7_image_29 : decode cX7_image 29 = .ok (.sipush 920, 3) := by decide +kernel
theorem dX7_image_32 : decode cX7_image 32 = .ok (.if_icmp .ge 24, 3) := by decide +kernel
theorem dX7_image_35 : decode cX7_image 35 = .ok (.aload_n 0, 1) := by decide +kernel
theorem dX7_image_36 : decode cX7_image 36 = .ok (.getfield 28, 3) := by decide +kernel
theorem dX7_image_39 : decode cX7_image 39 = .ok (.bipush 115, 2) := by decide +kernel
theorem dX7_image_41 : decode cX7_image 41 = .ok (.iload_n 1, 1) := by decide +kernel
theorem dX7_image_42 : decode cX7_image 42 = .ok (.iadd, 1) := by decide +kernel
theorem dX7_image_43 : decode cX7_image 43 = .ok (.aload_n 0, 1) := by decide +kernel
theorem dX7_image_44 : decode cX7_image 44 = .ok (.getfield 22, 3) := by decide +kernel
theorem dX7_image_47 : decode cX7_image 47 = .ok (.iload_n 1, 1) := by decide +kernel
theorem dX7_image_48 : decode cX7_image 48 = .ok (.iaload, 1) := by decide +kernel
theorem dX7_image_49 : decode cX7_image 49 = .ok (.iastore, 1) := by decide +kernel
theorem dX7_image_50 : decode cX7_image 50 = .ok (.iinc 1 1, 3) := by decide +kernel
theorem dX7_image_53 : decode cX7_image 53 = .ok (.goto (-25), 3) := by decide +kernel
theorem dX7_image_56 : decode cX7_image 56 = .ok (.aload_n 0, 1) := by decide +kernel
theorem dX7_image_57 : decode cX7_image 57 = .ok (.aload_n 0, 1) := by decide +kernel
theorem dX7_image_58 : decode cX7_image 58 = .ok (.getfield 82, 3) := by decide +kernel
theorem dX7_image_61 : decode cX7_image 61 = .ok (.putfield 185, 3) := by decide +kernel
theorem dX7_image_64 : decode cX7_image 64 = .ok (.aload_n 0, 1) := by decide +kernel
theorem dX7_image_65 : decode cX7_image 65 = .ok (.iconst 1, 1) := by decide +kernel
theorem dX7_image_66 : decode cX7_image 66 = .ok (.putfield 188, 3) := by decide +kernel
theorem dX7_image_69 : decode cX7_image 69 = .ok (.iconst 1, 1) := by decide +kernel
theorem dX7_image_70 : decode cX7_image 70 = .ok (.ireturn, 1) := by decide +kernel
theorem dX7_restore_0 : decode cX7_restore 0 = .ok (.aload_n 0, 1) := by decide +kernel
theorem dX7_restore_1 : decode cX7_restore 1 = .ok (.getfield 188, 3) := by decide +kernel
theorem dX7_restore_4 : decode cX7_restore 4 = .ok (.ifCond .ne 6, 3) := by decide +kernel
theorem dX7_restore_7 : decode cX7_restore 7 = .ok (.bipush (-4), 2) := by decide +kernel
theorem dX7_restore_9 : decode cX7_restore 9 = .ok (.ireturn, 1) := by decide +kernel
theorem dX7_restore_10 : decode cX7_restore 10 = .ok (.iconst 0, 1) := by decide +kernel
theorem dX7_restore_11 : decode cX7_restore 11 = .ok (.istore_n 1, 1) := by decide +kernel
theorem dX7_restore_12 : decode cX7_restore 12 = .ok (.iload_n 1, 1) := by decide +kernel
theorem dX7_restore_13 : decode cX7_restore 13 = .ok (.bipush 115, 2) := by decide +kernel
theorem dX7_restore_15 : decode cX7_restore 15 = .ok (.if_icmp .ge 21, 3) := by decide +kernel
theorem dX7_restore_18 : decode cX7_restore 18 = .ok (.aload_n 0, 1) := by decide +kernel
theorem dX7_restore_19 : decode cX7_restore 19 = .ok (.getfield 7, 3) := by decide +kernel
theorem dX7_restore_22 : decode cX7_restore 22 = .ok (.iload_n 1, 1) := by decide +kernel
theorem dX7_restore_23 : decode cX7_restore 23 = .ok (.aload_n 0, 1) := by decide +kernel
theorem dX7_restore_24 : decode cX7_restore 24 = .ok (.getfield 28, 3) := by decide +kernel
theorem dX7_restore_27 : decode cX7_restore 27 = .ok (.iload_n 1, 1) := by decide +kernel
theorem dX7_restore_28 : decode cX7_restore 28 = .ok (.iaload, 1) := by decide +kernel
theorem dX7_restore_29 : decode cX7_restore 29 = .ok (.iastore, 1) := by decide +kernel
theorem dX7_restore_30 : decode cX7_restore 30 = .ok (.iinc 1 1, 3) := by decide +kernel
theorem dX7_restore_33 : decode cX7_restore 33 = .ok (.goto (-21), 3) := by decide +kernel
theorem dX7_restore_36 : decode cX7_restore 36 = .ok (.iconst 0, 1) := by decide +kernel
theorem dX7_restore_37 : decode cX7_restore 37 = .ok (.istore_n 1, 1) := by decide +kernel
theorem dX7_restore_38 : decode cX7_restore 38 = .ok (.iload_n 1, 1) := by decide +kernel
theorem dX7_restore_39 : decode cX7_restore 39 = .ok (.sipush 920, 3) := by decide +kernel
theorem dX7_restore_42 : decode cX7_restore 42 = .ok (.if_icmp .ge 24, 3) := by decide +kernel
theorem dX7_restore_45 : decode cX7_restore 45 = .ok (.aload_n 0, 1) := by decide +kernel
theorem dX7_restore_46 : decode cX7_restore 46 = .ok (.getfield 22, 3) := by decide +kernel
theorem dX7_restore_49 : decode cX7_restore 49 = .ok (.iload_n 1, 1) := by decide +kernel
theorem dX7_restore_50 : decode cX7_restore 50 = .ok (.aload_n 0, 1) := by decide +kernel
theorem dX7_restore_51 : decode cX7_restore 51 = .ok (.getfield 28, 3) := by decide +kernel
theorem dX7_restore_54 : decode cX7_restore 54 = .ok (.bipush 115, 2) := by decide +kernel
theorem dX7_restore_56 : decode cX7_restore 56 = .ok (.iload_n 1, 1) := by decide +kernel
theorem dX7_restore_57 : decode cX7_restore 57 = .ok (.iadd, 1) := by decide +kernel
theorem dX7_restore_58 : decode cX7_restore 58 = .ok (.iaload, 1) := by decide +kernel
theorem dX7_restore_59 : decode cX7_restore 59 = .ok (.iastore, 1) := by decide +kernel
theorem dX7_restore_60 : decode cX7_restore 60 = .ok (.iinc 1 1, 3) := by decide +kernel
theorem dX7_restore_63 : decode cX7_restore 63 = .ok (.goto (-25), 3) := by decide +kernel
theorem dX7_restore_66 : decode cX7_restore 66 = .ok (.aload_n 0, 1) := by decide +kernel
theorem dX7_restore_67 : decode cX7_restore 67 = .ok (.aload_n 0, 1) := by decide +kernel
theorem dX7_restore_68 : decode cX7_restore 68 = .ok (.getfield 185, 3) := by decide +kernel
theorem dX7_restore_71 : decode cX7_restore 71 = .ok (.putfield 82, 3) := by decide +kernel
theorem dX7_restore_74 : decode cX7_restore 74 = .ok (.iconst 1, 1) := by decide +kernel
theorem dX7_restore_75 : decode cX7_restore 75 = .ok (.ireturn, 1) := by decide +kernel
set_option maxRecDepth 20000 in
theorem ggX7_isSheet_X7_in : GoodIn wsX7_isSheet wsX7_in := goodIn_r _ [5] (by decide +kernel) (by decide +kernel)
set_option maxRecDepth 20000 in
theorem gX7_isSheet_X7_in : GoodIn wsX7_isSheet (va_wsS RX7 44 yX7_in wsX7_in) := goodIn_app (goodIn_of _ (by decide +kernel)) ggX7_isSheet_X7_in
theorem dX7_isSheet_0 : decode cX7_isSheet 0 = .ok (.iload_n 0, 1) := by decide +kernel
theorem dX7_isSheet_1 : decode cX7_isSheet 1 = .ok (.i2l, 1) := by decide +kernel
theorem dX7_isSheet_2 : decode cX7_isSheet 2 = .ok (.lconst 0, 1) := by decide +kernel
theorem dX7_isSheet_3 : decode cX7_isSheet 3 = .ok (.ldc2_w 98, 3) := by decide +kernel
theorem dX7_isSheet_6 : decode cX7_isSheet 6 = .ok (.invokestatic 44, 3) := by decide +kernel
theorem dX7_isSheet_9 : decode cX7_isSheet 9 = .ok (.ireturn, 1) := by decide +kernel
set_option maxRecDepth 20000 in
theorem ggX7_isLane_X7_in : GoodIn wsX7_isLane wsX7_in := goodIn_r _ [5] (by decide +kernel) (by decide +kernel)
set_option maxRecDepth 20000 in
theorem gX7_isLane_X7_in : GoodIn wsX7_isLane (va_wsS RX7 44 yX7_in wsX7_in) := goodIn_app (goodIn_of _ (by decide +kernel)) ggX7_isLane_X7_in
theorem dX7_isLane_0 : decode cX7_isLane 0 = .ok (.iload_n 0, 1) := by decide +kernel
theorem dX7_isLane_1 : decode cX7_isLane 1 = .ok (.i2l, 1) := by decide +kernel
theorem dX7_isLane_2 : decode cX7_isLane 2 = .ok (.lconst 0, 1) := by decide +kernel
theorem dX7_isLane_3 : decode cX7_isLane 3 = .ok (.ldc2_w 98, 3) := by decide +kernel
theorem dX7_isLane_6 : decode cX7_isLane 6 = .ok (.invokestatic 44, 3) := by decide +kernel
theorem dX7_isLane_9 : decode cX7_isLane 9 = .ok (.ireturn, 1) := by decide +kernel
theorem dX7_why_0 : decode cX7_why 0 = .ok (.aload_n 0, 1) := by decide +kernel
theorem dX7_why_1 : decode cX7_why 1 = .ok (.getfield 31, 3) := by decide +kernel
theorem dX7_why_4 : decode cX7_why 4 = .ok (.iload_n 1, 1) := by decide +kernel
theorem dX7_why_5 : decode cX7_why 5 = .ok (.iaload, 1) := by decide +kernel
theorem dX7_why_6 : decode cX7_why 6 = .ok (.ifCond .ge 6, 3) := by decide +kernel
theorem dX7_why_9 : decode cX7_why 9 = .ok (.bipush (-11), 2) := by decide +kernel
theorem dX7_why_11 : decode cX7_why 11 = .ok (.ireturn, 1) := by decide +kernel
theorem dX7_why_12 : decode cX7_why 12 = .ok (.aload_n 0, 1) := by decide +kernel
theorem dX7_why_13 : decode cX7_why 13 = .ok (.getfield 31, 3) := by decide +kernel
theorem dX7_why_16 : decode cX7_why 16 = .ok (.iload_n 1, 1) := by decide +kernel
theorem dX7_why_17 : decode cX7_why 17 = .ok (.iaload, 1) := by decide +kernel
theorem dX7_why_18 : decode cX7_why 18 = .ok (.iload_n 2, 1) := by decide +kernel
theorem dX7_why_19 : decode cX7_why 19 = .ok (.if_icmp .eq 6, 3) := by decide +kernel
theorem dX7_why_22 : decode cX7_why 22 = .ok (.bipush (-12), 2) := by decide +kernel
theorem dX7_why_24 : decode cX7_why 24 = .ok (.ireturn, 1) := by decide +kernel
theorem dX7_why_25 : decode cX7_why 25 = .ok (.iload_n 3, 1) := by decide +kernel
theorem dX7_why_26 : decode cX7_why 26 = .ok (.ifCond .lt 25, 3) := by decide +kernel
theorem dX7_why_29 : decode cX7_why 29 = .ok (.iload 4, 2) := by decide +kernel
theorem dX7_why_31 : decode cX7_why 31 = .ok (.ifCond .lt 20, 3) := by decide +kernel
theorem dX7_why_34 : decode cX7_why 34 = .ok (.iload_n 3, 1) := by decide +kernel
theorem dX7_why_35 : decode cX7_why 35 = .ok (.i2l, 1) := by decide +kernel
theorem dX7_why_36 : decode cX7_why 36 = .ok (.iload 4, 2) := by decide +kernel
theorem dX7_why_38 : decode cX7_why 38 = .ok (.i2l, 1) := by decide +kernel
theorem dX7_why_39 : decode cX7_why 39 = .ok (.ladd, 1) := by decide +kernel
theorem dX7_why_40 : decode cX7_why 40 = .ok (.aload_n 0, 1) := by decide +kernel
theorem dX7_why_41 : decode cX7_why 41 = .ok (.getfield 34, 3) := by decide +kernel
theorem dX7_why_44 : decode cX7_why 44 = .ok (.iload_n 1, 1) := by decide +kernel
theorem dX7_why_45 : decode cX7_why 45 = .ok (.iaload, 1) := by decide +kernel
theorem dX7_why_46 : decode cX7_why 46 = .ok (.i2l, 1) := by decide +kernel
theorem dX7_why_47 : decode cX7_why 47 = .ok (.lcmp, 1) := by decide +kernel
theorem dX7_why_48 : decode cX7_why 48 = .ok (.ifCond .le 8, 3) := by decide +kernel
theorem dX7_why_51 : decode cX7_why 51 = .ok (.bipush (-13), 2) := by decide +kernel
theorem dX7_why_53 : decode cX7_why 53 = .ok (.goto 4, 3) := by decide +kernel
theorem dX7_why_56 : decode cX7_why 56 = .ok (.iconst 0, 1) := by decide +kernel
theorem dX7_why_57 : decode cX7_why 57 = .ok (.ireturn, 1) := by decide +kernel
theorem dX7_cut_0 : decode cX7_cut 0 = .ok (.iload_n 0, 1) := by decide +kernel
theorem dX7_cut_1 : decode cX7_cut 1 = .ok (.ifCond .ne 10, 3) := by decide +kernel
theorem dX7_cut_4 : decode cX7_cut 4 = .ok (.lload_n 1, 1) := by decide +kernel
theorem dX7_cut_5 : decode cX7_cut 5 = .ok (.l2i, 1) := by decide +kernel
theorem dX7_cut_6 : decode cX7_cut 6 = .ok (.i2b, 1) := by decide +kernel
theorem dX7_cut_7 : decode cX7_cut 7 = .ok (.i2l, 1) := by decide +kernel
theorem dX7_cut_8 : decode cX7_cut 8 = .ok (.goto 27, 3) := by decide +kernel
theorem dX7_cut_11 : decode cX7_cut 11 = .ok (.iload_n 0, 1) := by decide +kernel
theorem dX7_cut_12 : decode cX7_cut 12 = .ok (.iconst 1, 1) := by decide +kernel
theorem dX7_cut_13 : decode cX7_cut 13 = .ok (.if_icmp .ne 10, 3) := by decide +kernel
theorem dX7_cut_16 : decode cX7_cut 16 = .ok (.lload_n 1, 1) := by decide +kernel
theorem dX7_cut_17 : decode cX7_cut 17 = .ok (.l2i, 1) := by decide +kernel
theorem dX7_cut_18 : decode cX7_cut 18 = .ok (.i2s, 1) := by decide +kernel
theorem dX7_cut_19 : decode cX7_cut 19 = .ok (.i2l, 1) := by decide +kernel
theorem dX7_cut_20 : decode cX7_cut 20 = .ok (.goto 15, 3) := by decide +kernel
theorem dX7_cut_23 : decode cX7_cut 23 = .ok (.iload_n 0, 1) := by decide +kernel
theorem dX7_cut_24 : decode cX7_cut 24 = .ok (.iconst 2, 1) := by decide +kernel
theorem dX7_cut_25 : decode cX7_cut 25 = .ok (.if_icmp .ne 9, 3) := by decide +kernel
theorem dX7_cut_28 : decode cX7_cut 28 = .ok (.lload_n 1, 1) := by decide +kernel
theorem dX7_cut_29 : decode cX7_cut 29 = .ok (.l2i, 1) := by decide +kernel
theorem dX7_cut_30 : decode cX7_cut 30 = .ok (.i2l, 1) := by decide +kernel
theorem dX7_cut_31 : decode cX7_cut 31 = .ok (.goto 4, 3) := by decide +kernel
theorem dX7_cut_34 : decode cX7_cut 34 = .ok (.lload_n 1, 1) := by decide +kernel
theorem dX7_cut_35 : decode cX7_cut 35 = .ok (.lreturn, 1) := by decide +kernel
set_option maxRecDepth 20000 in
theorem ggX7_likeOf_X7_passNow : GoodIn wsX7_likeOf wsX7_passNow := goodIn_r _ [8, 9, 10, 11, 12, 7, 13, 14, 15, 16, 17, 18, 19, 20, 21, 22, 23, 24, 25, 3, 26, 27, 28, 29, 30, 31, 32, 33, 34, 35, 36, 37, 38, 39, 40, 41, 42, 43, 44, 45, 46, 47, 48, 49, 50, 51, 52, 53, 54, 55, 56, 57] (by decide +kernel) (by decide +kernel)
set_option maxRecDepth 20000 in
theorem gX7_likeOf_X7_passNow : GoodIn wsX7_likeOf (wsV RX7 159 RX7 yX7_passNow wsX7_passNow) := goodIn_app (goodIn_of _ (by decide +kernel)) ggX7_likeOf_X7_passNow
theorem dX7_likeOf_0 : decode cX7_likeOf 0 = .ok (.ldc2_w 179, 3) := by decide +kernel
theorem dX7_likeOf_3 : decode cX7_likeOf 3 = .ok (.lstore 4, 2) := by decide +kernel
theorem dX7_likeOf_5 : decode cX7_likeOf 5 = .ok (.iconst 0, 1) := by decide +kernel
theorem dX7_likeOf_6 : decode cX7_likeOf 6 = .ok (.istore 6, 2) := by decide +kernel
theorem dX7_likeOf_8 : decode cX7_likeOf 8 = .ok (.iload 6, 2) := by decide +kernel
theorem dX7_likeOf_10 : decode cX7_likeOf 10 = .ok (.iload_n 3, 1) := by decide +kernel
theorem dX7_likeOf_11 : decode cX7_likeOf 11 = .ok (.if_icmp .ge 66, 3) := by decide +kernel
theorem dX7_likeOf_14 : decode cX7_likeOf 14 = .ok (.aload_n 0, 1) := by decide +kernel
theorem dX7_likeOf_15 : decode cX7_likeOf 15 = .ok (.iload_n 1, 1) := by decide +kernel
theorem dX7_likeOf_16 : decode cX7_likeOf 16 = .ok (.aload_n 0, 1) := by decide +kernel
theorem dX7_likeOf_17 : decode cX7_likeOf 17 = .ok (.getfield 37, 3) := by decide +kernel
theorem dX7_likeOf_20 : decode cX7_likeOf 20 = .ok (.iload_n 2, 1) := by decide +kernel
theorem dX7_likeOf_21 : decode cX7_likeOf 21 = .ok (.iconst 2, 1) := by decide +kernel
theorem dX7_likeOf_22 : decode cX7_likeOf 22 = .ok (.iload 6, 2) := by decide +kernel
theorem dX7_likeOf_24 : decode cX7_likeOf 24 = .ok (.imul, 1) := by decide +kernel
theorem dX7_likeOf_25 : decode cX7_likeOf 25 = .ok (.iadd, 1) := by decide +kernel
theorem dX7_likeOf_26 : decode cX7_likeOf 26 = .ok (.laload, 1) := by decide +kernel
theorem dX7_likeOf_27 : decode cX7_likeOf 27 = .ok (.l2i, 1) := by decide +kernel
theorem dX7_likeOf_28 : decode cX7_likeOf 28 = .ok (.invokevirtual 159, 3) := by decide +kernel
theorem dX7_likeOf_31 : decode cX7_likeOf 31 = .ok (.istore 7, 2) := by decide +kernel
theorem dX7_likeOf_33 : decode cX7_likeOf 33 = .ok (.lload 4, 2) := by decide +kernel
theorem dX7_likeOf_35 : decode cX7_likeOf 35 = .ok (.aload_n 0, 1) := by decide +kernel
theorem dX7_likeOf_36 : decode cX7_likeOf 36 = .ok (.getfield 37, 3) := by decide +kernel
theorem dX7_likeOf_39 : decode cX7_likeOf 39 = .ok (.iload_n 2, 1) := by decide +kernel
theorem dX7_likeOf_40 : decode cX7_likeOf 40 = .ok (.iconst 2, 1) := by decide +kernel
theorem dX7_likeOf_41 : decode cX7_likeOf 41 = .ok (.iload 6, 2) := by decide +kernel
theorem dX7_likeOf_43 : decode cX7_likeOf 43 = .ok (.imul, 1) := by decide +kernel
theorem dX7_likeOf_44 : decode cX7_likeOf 44 = .ok (.iadd, 1) := by decide +kernel
theorem dX7_likeOf_45 : decode cX7_likeOf 45 = .ok (.iconst 1, 1) := by decide +kernel
theorem dX7_likeOf_46 : decode cX7_likeOf 46 = .ok (.iadd, 1) := by decide +kernel
theorem dX7_likeOf_47 : decode cX7_likeOf 47 = .ok (.laload, 1) := by decide +kernel
theorem dX7_likeOf_48 : decode cX7_likeOf 48 = .ok (.lconst 1, 1) := by decide +kernel
theorem dX7_likeOf_49 : decode cX7_likeOf 49 = .ok (.lcmp, 1) := by decide +kernel
theorem dX7_likeOf_50 : decode cX7_likeOf 50 = .ok (.ifCond .ne 8, 3) := by decide +kernel
theorem dX7_likeOf_53 : decode cX7_likeOf 53 = .ok (.iload 7, 2) := by decide +kernel
theorem dX7_likeOf_55 : decode cX7_likeOf 55 = .ok (.goto 8, 3) := by decide +kernel
theorem dX7_likeOf_58 : decode cX7_likeOf 58 = .ok (.ldc 59, 2) := by decide +kernel
theorem dX7_likeOf_60 : decode cX7_likeOf 60 = .ok (.iload 7, 2) := by decide +kernel
theorem dX7_likeOf_62 : decode cX7_likeOf 62 = .ok (.isub, 1) := by decide +kernel
theorem dX7_likeOf_63 : decode cX7_likeOf 63 = .ok (.i2l, 1) := by decide +kernel
theorem dX7_likeOf_64 : decode cX7_likeOf 64 = .ok (.lmul, 1) := by decide +kernel
theorem dX7_likeOf_65 : decode cX7_likeOf 65 = .ok (.ldc2_w 179, 3) := by decide +kernel
theorem dX7_likeOf_68 : decode cX7_likeOf 68 = .ok (.ldiv, 1) := by decide +kernel
theorem dX7_likeOf_69 : decode cX7_likeOf 69 = .ok (.lstore 4, 2) := by decide +kernel
theorem dX7_likeOf_71 : decode cX7_likeOf 71 = .ok (.iinc 6 1, 3) := by decide +kernel
theorem dX7_likeOf_74 : decode cX7_likeOf 74 = .ok (.goto (-66), 3) := by decide +kernel
theorem dX7_likeOf_77 : decode cX7_likeOf 77 = .ok (.lload 4, 2) := by decide +kernel
theorem dX7_likeOf_79 : decode cX7_likeOf 79 = .ok (.l2i, 1) := by decide +kernel
theorem dX7_likeOf_80 : decode cX7_likeOf 80 = .ok (.ireturn, 1) := by decide +kernel
set_option maxRecDepth 20000 in
theorem ggX7_who_X7_isSheet : GoodIn wsX7_who wsX7_isSheet := goodIn_r _ [8, 9, 10, 11, 7, 12] (by decide +kernel) (by decide +kernel)
set_option maxRecDepth 20000 in
theorem gX7_who_X7_isSheet : GoodIn wsX7_who (va_wsS RX7 191 yX7_isSheet wsX7_isSheet) := goodIn_app (goodIn_of _ (by decide +kernel)) ggX7_who_X7_isSheet
set_option maxRecDepth 20000 in
theorem ggX7_who_X7_isLane : GoodIn wsX7_who wsX7_isLane := goodIn_r _ [15, 9, 10, 11, 7, 12] (by decide +kernel) (by decide +kernel)
set_option maxRecDepth 20000 in
theorem gX7_who_X7_isLane : GoodIn wsX7_who (va_wsS RX7 194 yX7_isLane wsX7_isLane) := goodIn_app (goodIn_of _ (by decide +kernel)) ggX7_who_X7_isLane
set_option maxRecDepth 20000 in
theorem ggX7_who_X7_in : GoodIn wsX7_who wsX7_in := goodIn_r _ [12] (by decide +kernel) (by decide +kernel)
set_option maxRecDepth 20000 in
theorem gX7_who_X7_in : GoodIn wsX7_who (va_wsS RX7 44 yX7_in wsX7_in) := goodIn_app (goodIn_of _ (by decide +kernel)) ggX7_who_X7_in
set_option maxRecDepth 20000 in
theorem ggX7_who_X7_isSpeaker : GoodIn wsX7_who wsX7_isSpeaker := goodIn_r _ [19, 3, 10, 11, 7, 12, 66, 67, 68, 69, 70, 71, 72, 73, 74, 75, 76, 77, 78, 79, 80, 81, 82] (by decide +kernel) (by decide +kernel)
set_option maxRecDepth 20000 in
theorem gX7_who_X7_isSpeaker : GoodIn wsX7_who (wsV RX7 86 RX7 yX7_isSpeaker wsX7_isSpeaker) := goodIn_app (goodIn_of _ (by decide +kernel)) ggX7_who_X7_isSpeaker
set_option maxRecDepth 20000 in
theorem ggX7_who_X7_why : GoodIn wsX7_who wsX7_why := goodIn_r _ [23, 24, 25, 66, 67, 68, 69, 70, 71, 72, 73, 74, 75, 76, 77, 78, 79, 80, 81, 82] (by decide +kernel) (by decide +kernel)
set_option maxRecDepth 20000 in
theorem gX7_who_X7_why : GoodIn wsX7_who (wsV RX7 199 RX7 yX7_why wsX7_why) := goodIn_app (goodIn_of _ (by decide +kernel)) ggX7_who_X7_why
set_option maxRecDepth 20000 in
theorem ggX7_who_X7_likeOf : GoodIn wsX7_who wsX7_likeOf := goodIn_r _ [29, 4, 2, 30, 31, 32, 33, 7, 34, 3, 35, 36, 37, 38, 39, 40, 41, 42, 43, 44, 45, 46, 47, 48, 49, 50, 51, 52, 53, 54, 55, 56, 57, 58, 59, 60, 61, 62, 63, 64, 65, 66, 67, 68, 69, 70, 71, 72, 73, 74, 75, 76, 77, 78, 79, 80, 81, 82] (by decide +kernel) (by decide +kernel)
set_option maxRecDepth 20000 in
theorem gX7_who_X7_likeOf : GoodIn wsX7_who (wsV RX7 202 RX7 yX7_likeOf wsX7_likeOf) := goodIn_app (goodIn_of _ (by decide +kernel)) ggX7_who_X7_likeOf
theorem dX7_who_0 : decode cX7_who 0 = .ok (.iload_n 1, 1) := by decide +kernel
theorem dX7_who_1 : decode cX7_who 1 = .ok (.invokestatic 191, 3) := by decide +kernel
theorem dX7_who_4 : decode cX7_who 4 = .ok (.ifCond .eq 39, 3) := by decide +kernel
theorem dX7_who_7 : decode cX7_who 7 = .ok (.iload_n 2, 1) := by decide +kernel
theorem dX7_who_8 : decode cX7_who 8 = .ok (.invokestatic 194, 3) := by decide +kernel
theorem dX7_who_11 : decode cX7_who 11 = .ok (.ifCond .eq 32, 3) := by decide +kernel
theorem dX7_who_14 : decode cX7_who 14 = .ok (.iload 4, 2) := by decide +kernel
theorem dX7_who_16 : decode cX7_who 16 = .ok (.i2l, 1) := by decide +kernel
theorem dX7_who_17 : decode cX7_who 17 = .ok (.lconst 1, 1) := by decide +kernel
theorem dX7_who_18 : decode cX7_who 18 = .ok (.ldc2_w 197, 3) := by decide +kernel
theorem dX7_who_21 : decode cX7_who 21 = .ok (.invokestatic 44, 3) := by decide +kernel
theorem dX7_who_24 : decode cX7_who 24 = .ok (.ifCond .eq 19, 3) := by decide +kernel
theorem dX7_who_27 : decode cX7_who 27 = .ok (.iload 5, 2) := by decide +kernel
theorem dX7_who_29 : decode cX7_who 29 = .ok (.bipush (-4), 2) := by decide +kernel
theorem dX7_who_31 : decode cX7_who 31 = .ok (.if_icmp .eq 14, 3) := by decide +kernel
theorem dX7_who_34 : decode cX7_who 34 = .ok (.aload_n 0, 1) := by decide +kernel
theorem dX7_who_35 : decode cX7_who 35 = .ok (.iload 5, 2) := by decide +kernel
theorem dX7_who_37 : decode cX7_who 37 = .ok (.invokevirtual 86, 3) := by decide +kernel
theorem dX7_who_40 : decode cX7_who 40 = .ok (.ifCond .ne 5, 3) := by decide +kernel
theorem dX7_who_43 : decode cX7_who 43 = .ok (.iconst (-1), 1) := by decide +kernel
theorem dX7_who_44 : decode cX7_who 44 = .ok (.ireturn, 1) := by decide +kernel
theorem dX7_who_45 : decode cX7_who 45 = .ok (.aload_n 0, 1) := by decide +kernel
theorem dX7_who_46 : decode cX7_who 46 = .ok (.iload_n 1, 1) := by decide +kernel
theorem dX7_who_47 : decode cX7_who 47 = .ok (.iload_n 2, 1) := by decide +kernel
theorem dX7_who_48 : decode cX7_who 48 = .ok (.iload_n 3, 1) := by decide +kernel
theorem dX7_who_49 : decode cX7_who 49 = .ok (.iconst 2, 1) := by decide +kernel
theorem dX7_who_50 : decode cX7_who 50 = .ok (.iload 4, 2) := by decide +kernel
theorem dX7_who_52 : decode cX7_who 52 = .ok (.imul, 1) := by decide +kernel
theorem dX7_who_53 : decode cX7_who 53 = .ok (.invokevirtual 199, 3) := by decide +kernel
theorem dX7_who_56 : decode cX7_who 56 = .ok (.istore 6, 2) := by decide +kernel
theorem dX7_who_58 : decode cX7_who 58 = .ok (.iload 6, 2) := by decide +kernel
theorem dX7_who_60 : decode cX7_who 60 = .ok (.ifCond .ge 6, 3) := by decide +kernel
theorem dX7_who_63 : decode cX7_who 63 = .ok (.iload 6, 2) := by decide +kernel
theorem dX7_who_65 : decode cX7_who 65 = .ok (.ireturn, 1) := by decide +kernel
theorem dX7_who_66 : decode cX7_who 66 = .ok (.bipush 24, 2) := by decide +kernel
theorem dX7_who_68 : decode cX7_who 68 = .ok (.iload_n 1, 1) := by decide +kernel
theorem dX7_who_69 : decode cX7_who 69 = .ok (.imul, 1) := by decide +kernel
theorem dX7_who_70 : decode cX7_who 70 = .ok (.iload_n 3, 1) := by decide +kernel
theorem dX7_who_71 : decode cX7_who 71 = .ok (.iadd, 1) := by decide +kernel
theorem dX7_who_72 : decode cX7_who 72 = .ok (.istore 7, 2) := by decide +kernel
theorem dX7_who_74 : decode cX7_who 74 = .ok (.iconst 0, 1) := by decide +kernel
theorem dX7_who_75 : decode cX7_who 75 = .ok (.istore 8, 2) := by decide +kernel
theorem dX7_who_77 : decode cX7_who 77 = .ok (.iload 8, 2) := by decide +kernel
theorem dX7_who_79 : decode cX7_who 79 = .ok (.iload 4, 2) := by decide +kernel
theorem dX7_who_81 : decode cX7_who 81 = .ok (.if_icmp .ge 62, 3) := by decide +kernel
theorem dX7_who_84 : decode cX7_who 84 = .ok (.aload_n 0, 1) := by decide +kernel
theorem dX7_who_85 : decode cX7_who 85 = .ok (.getfield 37, 3) := by decide +kernel
theorem dX7_who_88 : decode cX7_who 88 = .ok (.iload 7, 2) := by decide +kernel
theorem dX7_who_90 : decode cX7_who 90 = .ok (.iconst 2, 1) := by decide +kernel
theorem dX7_who_91 : decode cX7_who 91 = .ok (.iload 8, 2) := by decide +kernel
theorem dX7_who_93 : decode cX7_who 93 = .ok (.imul, 1) := by decide +kernel
theorem dX7_who_94 : decode cX7_who 94 = .ok (.iadd, 1) := by decide +kernel
theorem dX7_who_95 : decode cX7_who 95 = .ok (.laload, 1) := by decide +kernel
theorem dX7_who_96 : decode cX7_who 96 = .ok (.lconst 0, 1) := by decide +kernel
theorem dX7_who_97 : decode cX7_who 97 = .ok (.aload_n 0, 1) := by decide +kernel
theorem dX7_who_98 : decode cX7_who 98 = .ok (.getfield 7, 3) := by decide +kernel
theorem dX7_who_101 : decode cX7_who 101 = .ok (.iconst 1, 1) := by decide +kernel
theorem dX7_who_102 : decode cX7_who 102 = .ok (.iaload, 1) := by decide +kernel
theorem dX7_who_103 : decode cX7_who 103 = .ok (.iconst 1, 1) := by decide +kernel
theorem dX7_who_104 : decode cX7_who 104 = .ok (.isub, 1) := by decide +kernel
theorem dX7_who_105 : decode cX7_who 105 = .ok (.i2l, 1) := by decide +kernel
theorem dX7_who_106 : decode cX7_who 106 = .ok (.invokestatic 44, 3) := by decide +kernel
theorem dX7_who_109 : decode cX7_who 109 = .ok (.ifCond .eq 25, 3) := by decide +kernel
theorem dX7_who_112 : decode cX7_who 112 = .ok (.aload_n 0, 1) := by decide +kernel
theorem dX7_who_113 : decode cX7_who 113 = .ok (.getfield 37, 3) := by decide +kernel
theorem dX7_who_116 : decode cX7_who 116 = .ok (.iload 7, 2) := by decide +kernel
theorem dX7_who_118 : decode cX7_who 118 = .ok (.iconst 2, 1) := by decide +kernel
theorem dX7_who_119 : decode cX7_who 119 = .ok (.iload 8, 2) := by decide +kernel
theorem dX7_who_121 : decode cX7_who 121 = .ok (.imul, 1) := by decide +kernel
theorem dX7_who_122 : decode cX7_who 122 = .ok (.iadd, 1) := by decide +kernel
theorem dX7_who_123 : decode cX7_who 123 = .ok (.iconst 1, 1) := by decide +kernel
theorem dX7_who_124 : decode cX7_who 124 = .ok (.iadd, 1) := by decide +kernel
theorem dX7_who_125 : decode cX7_who 125 = .ok (.laload, 1) := by decide +kernel
theorem dX7_who_126 : decode cX7_who 126 = .ok (.lconst 0, 1) := by decide +kernel
theorem dX7_who_127 : decode cX7_who 127 = .ok (.lconst 1, 1) := by decide +kernel
theorem dX7_who_128 : decode cX7_who 128 = .ok (.invokestatic 44, 3) := by decide +kernel
theorem dX7_who_131 : decode cX7_who 131 = .ok (.ifCond .ne 6, 3) := by decide +kernel
theorem dX7_who_134 : decode cX7_who 134 = .ok (.bipush (-2), 2) := by decide +kernel
theorem dX7_who_136 : decode cX7_who 136 = .ok (.ireturn, 1) := by decide +kernel
theorem dX7_who_137 : decode cX7_who 137 = .ok (.iinc 8 1, 3) := by decide +kernel
theorem dX7_who_140 : decode cX7_who 140 = .ok (.goto (-63), 3) := by decide +kernel
theorem dX7_who_143 : decode cX7_who 143 = .ok (.lconst 0, 1) := by decide +kernel
theorem dX7_who_144 : decode cX7_who 144 = .ok (.lstore 8, 2) := by decide +kernel
theorem dX7_who_146 : decode cX7_who 146 = .ok (.bipush (-4), 2) := by decide +kernel
theorem dX7_who_148 : decode cX7_who 148 = .ok (.istore 10, 2) := by decide +kernel
theorem dX7_who_150 : decode cX7_who 150 = .ok (.iconst (-1), 1) := by decide +kernel
theorem dX7_who_151 : decode cX7_who 151 = .ok (.istore 11, 2) := by decide +kernel
theorem dX7_who_153 : decode cX7_who 153 = .ok (.iconst 0, 1) := by decide +kernel
theorem dX7_who_154 : decode cX7_who 154 = .ok (.istore 12, 2) := by decide +kernel
theorem dX7_who_156 : decode cX7_who 156 = .ok (.iload 12, 2) := by decide +kernel
theorem dX7_who_158 : decode cX7_who 158 = .ok (.aload_n 0, 1) := by decide +kernel
theorem dX7_who_159 : decode cX7_who 159 = .ok (.getfield 7, 3) := by decide +kernel
theorem dX7_who_162 : decode cX7_who 162 = .ok (.iconst 0, 1) := by decide +kernel
theorem dX7_who_163 : decode cX7_who 163 = .ok (.iaload, 1) := by decide +kernel
theorem dX7_who_164 : decode cX7_who 164 = .ok (.if_icmp .ge 61, 3) := by decide +kernel
theorem dX7_who_167 : decode cX7_who 167 = .ok (.aload_n 0, 1) := by decide +kernel
theorem dX7_who_168 : decode cX7_who 168 = .ok (.iload 12, 2) := by decide +kernel
theorem dX7_who_170 : decode cX7_who 170 = .ok (.iload 7, 2) := by decide +kernel
theorem dX7_who_172 : decode cX7_who 172 = .ok (.iload 4, 2) := by decide +kernel
theorem dX7_who_174 : decode cX7_who 174 = .ok (.invokevirtual 202, 3) := by decide +kernel
theorem dX7_who_177 : decode cX7_who 177 = .ok (.istore 13, 2) := by decide +kernel
theorem dX7_who_179 : decode cX7_who 179 = .ok (.lload 8, 2) := by decide +kernel
theorem dX7_who_181 : decode cX7_who 181 = .ok (.iload 13, 2) := by decide +kernel
theorem dX7_who_183 : decode cX7_who 183 = .ok (.i2l, 1) := by decide +kernel
theorem dX7_who_184 : decode cX7_who 184 = .ok (.ladd, 1) := by decide +kernel
theorem dX7_who_185 : decode cX7_who 185 = .ok (.lstore 8, 2) := by decide +kernel
theorem dX7_who_187 : decode cX7_who 187 = .ok (.iload 13, 2) := by decide +kernel
theorem dX7_who_189 : decode cX7_who 189 = .ok (.iload 11, 2) := by decide +kernel
theorem dX7_who_191 : decode cX7_who 191 = .ok (.if_icmp .le 8, 3) := by decide +kernel
theorem dX7_who_194 : decode cX7_who 194 = .ok (.iload 12, 2) := by decide +kernel
theorem dX7_who_196 : decode cX7_who 196 = .ok (.goto 5, 3) := by decide +kernel
theorem dX7_who_199 : decode cX7_who 199 = .ok (.iload 10, 2) := by decide +kernel
theorem dX7_who_201 : decode cX7_who 201 = .ok (.istore 10, 2) := by decide +kernel
theorem dX7_who_203 : decode cX7_who 203 = .ok (.iload 13, 2) := by decide +kernel
theorem dX7_who_205 : decode cX7_who 205 = .ok (.iload 11, 2) := by decide +kernel
theorem dX7_who_207 : decode cX7_who 207 = .ok (.if_icmp .le 8, 3) := by decide +kernel
theorem dX7_who_210 : decode cX7_who 210 = .ok (.iload 13, 2) := by decide +kernel
theorem dX7_who_212 : decode cX7_who 212 = .ok (.goto 5, 3) := by decide +kernel
theorem dX7_who_215 : decode cX7_who 215 = .ok (.iload 11, 2) := by decide +kernel
theorem dX7_who_217 : decode cX7_who 217 = .ok (.istore 11, 2) := by decide +kernel
theorem dX7_who_219 : decode cX7_who 219 = .ok (.iinc 12 1, 3) := by decide +kernel
theorem dX7_who_222 : decode cX7_who 222 = .ok (.goto (-66), 3) := by decide +kernel
theorem dX7_who_225 : decode cX7_who 225 = .ok (.iload 5, 2) := by decide +kernel
theorem dX7_who_227 : decode cX7_who 227 = .ok (.bipush (-4), 2) := by decide +kernel
theorem dX7_who_229 : decode cX7_who 229 = .ok (.if_icmp .ne 6, 3) := by decide +kernel
theorem dX7_who_232 : decode cX7_who 232 = .ok (.iload 10, 2) := by decide +kernel
theorem dX7_who_234 : decode cX7_who 234 = .ok (.ireturn, 1) := by decide +kernel
theorem dX7_who_235 : decode cX7_who 235 = .ok (.lload 8, 2) := by decide +kernel
theorem dX7_who_237 : decode cX7_who 237 = .ok (.lconst 0, 1) := by decide +kernel
theorem dX7_who_238 : decode cX7_who 238 = .ok (.lcmp, 1) := by decide +kernel
theorem dX7_who_239 : decode cX7_who 239 = .ok (.ifCond .ne 7, 3) := by decide +kernel
theorem dX7_who_242 : decode cX7_who 242 = .ok (.iconst 0, 1) := by decide +kernel
theorem dX7_who_243 : decode cX7_who 243 = .ok (.goto 22, 3) := by decide +kernel
theorem dX7_who_246 : decode cX7_who 246 = .ok (.aload_n 0, 1) := by decide +kernel
theorem dX7_who_247 : decode cX7_who 247 = .ok (.iload 5, 2) := by decide +kernel
theorem dX7_who_249 : decode cX7_who 249 = .ok (.iload 7, 2) := by decide +kernel
theorem dX7_who_251 : decode cX7_who 251 = .ok (.iload 4, 2) := by decide +kernel
theorem dX7_who_253 : decode cX7_who 253 = .ok (.invokevirtual 202, 3) := by decide +kernel
theorem dX7_who_256 : decode cX7_who 256 = .ok (.i2l, 1) := by decide +kernel
theorem dX7_who_257 : decode cX7_who 257 = .ok (.ldc2_w 179, 3) := by decide +kernel
theorem dX7_who_260 : decode cX7_who 260 = .ok (.lmul, 1) := by decide +kernel
theorem dX7_who_261 : decode cX7_who 261 = .ok (.lload 8, 2) := by decide +kernel
theorem dX7_who_263 : decode cX7_who 263 = .ok (.ldiv, 1) := by decide +kernel
theorem dX7_who_264 : decode cX7_who 264 = .ok (.l2i, 1) := by decide +kernel
theorem dX7_who_265 : decode cX7_who 265 = .ok (.ireturn, 1) := by decide +kernel
set_option maxRecDepth 20000 in
theorem ggX7_film_X7_isSpeaker : GoodIn wsX7_film wsX7_isSpeaker := goodIn_r _ [8, 3, 9, 10, 7, 11, 64, 65, 66, 67, 68, 69, 70, 71, 72, 73, 74, 75, 76, 77, 78, 79, 80] (by decide +kernel) (by decide +kernel)
set_option maxRecDepth 20000 in
theorem gX7_film_X7_isSpeaker : GoodIn wsX7_film (wsV RX7 86 RX7 yX7_isSpeaker wsX7_isSpeaker) := goodIn_app (goodIn_of _ (by decide +kernel)) ggX7_film_X7_isSpeaker
set_option maxRecDepth 20000 in
theorem ggX7_film_X7_isWord : GoodIn wsX7_film wsX7_isWord := goodIn_r _ [15, 3, 9, 10, 7, 11, 64, 65, 66, 67, 68, 69, 70, 71, 72, 73, 74, 75, 76, 77, 78, 79, 80] (by decide +kernel) (by decide +kernel)
set_option maxRecDepth 20000 in
theorem gX7_film_X7_isWord : GoodIn wsX7_film (wsV RX7 100 RX7 yX7_isWord wsX7_isWord) := goodIn_app (goodIn_of _ (by decide +kernel)) ggX7_film_X7_isWord
set_option maxRecDepth 20000 in
theorem ggX7_film_X7_in : GoodIn wsX7_film wsX7_in := goodIn_r _ [11] (by decide +kernel) (by decide +kernel)
set_option maxRecDepth 20000 in
theorem gX7_film_X7_in : GoodIn wsX7_film (va_wsS RX7 44 yX7_in wsX7_in) := goodIn_app (goodIn_of _ (by decide +kernel)) ggX7_film_X7_in
set_option maxRecDepth 20000 in
theorem ggX7_film_X7_isSheet : GoodIn wsX7_film wsX7_isSheet := goodIn_r _ [18, 19, 9, 10, 7, 11] (by decide +kernel) (by decide +kernel)
set_option maxRecDepth 20000 in
theorem gX7_film_X7_isSheet : GoodIn wsX7_film (va_wsS RX7 191 yX7_isSheet wsX7_isSheet) := goodIn_app (goodIn_of _ (by decide +kernel)) ggX7_film_X7_isSheet
set_option maxRecDepth 20000 in
theorem ggX7_film_X7_isLane : GoodIn wsX7_film wsX7_isLane := goodIn_r _ [22, 19, 9, 10, 7, 11] (by decide +kernel) (by decide +kernel)
set_option maxRecDepth 20000 in
theorem gX7_film_X7_isLane : GoodIn wsX7_film (va_wsS RX7 194 yX7_isLane wsX7_isLane) := goodIn_app (goodIn_of _ (by decide +kernel)) ggX7_film_X7_isLane
set_option maxRecDepth 20000 in
theorem ggX7_film_X7_why : GoodIn wsX7_film wsX7_why := goodIn_r _ [26, 27, 28, 64, 65, 66, 67, 68, 69, 70, 71, 72, 73, 74, 75, 76, 77, 78, 79, 80] (by decide +kernel) (by decide +kernel)
set_option maxRecDepth 20000 in
theorem gX7_film_X7_why : GoodIn wsX7_film (wsV RX7 199 RX7 yX7_why wsX7_why) := goodIn_app (goodIn_of _ (by decide +kernel)) ggX7_film_X7_why
set_option maxRecDepth 20000 in
theorem ggX7_film_X7_passIn : GoodIn wsX7_film wsX7_passIn := goodIn_r _ [32, 33, 34, 35, 7, 36, 3, 37, 38, 39, 40, 41, 42, 43, 44, 45, 46, 47, 48, 49, 50, 51, 52, 53, 54, 55, 56, 57, 58, 59, 60, 64, 65, 66, 67, 68, 69, 70, 71, 72, 73, 74, 75, 76, 77, 78, 79, 80] (by decide +kernel) (by decide +kernel)
set_option maxRecDepth 20000 in
theorem gX7_film_X7_passIn : GoodIn wsX7_film (wsV RX7 74 RX7 yX7_passIn wsX7_passIn) := goodIn_app (goodIn_of _ (by decide +kernel)) ggX7_film_X7_passIn
set_option maxRecDepth 20000 in
theorem ggX7_film_X7_cut : GoodIn wsX7_film wsX7_cut := goodIn_r _ [63] (by decide +kernel) (by decide +kernel)
set_option maxRecDepth 20000 in
theorem gX7_film_X7_cut : GoodIn wsX7_film (va_wsS RX7 205 yX7_cut wsX7_cut) := goodIn_app (goodIn_of _ (by decide +kernel)) ggX7_film_X7_cut
theorem dX7_film_0 : decode cX7_film 0 = .ok (.aload_n 0, 1) := by decide +kernel
theorem dX7_film_1 : decode cX7_film 1 = .ok (.iload_n 1, 1) := by decide +kernel
theorem dX7_film_2 : decode cX7_film 2 = .ok (.invokevirtual 86, 3) := by decide +kernel
theorem dX7_film_5 : decode cX7_film 5 = .ok (.ifCond .eq 39, 3) := by decide +kernel
theorem dX7_film_8 : decode cX7_film 8 = .ok (.aload_n 0, 1) := by decide +kernel
theorem dX7_film_9 : decode cX7_film 9 = .ok (.iload_n 2, 1) := by decide +kernel
theorem dX7_film_10 : decode cX7_film 10 = .ok (.invokevirtual 100, 3) := by decide +kernel
theorem dX7_film_13 : decode cX7_film 13 = .ok (.ifCond .eq 31, 3) := by decide +kernel
theorem dX7_film_16 : decode cX7_film 16 = .ok (.iload_n 3, 1) := by decide +kernel
theorem dX7_film_17 : decode cX7_film 17 = .ok (.i2l, 1) := by decide +kernel
theorem dX7_film_18 : decode cX7_film 18 = .ok (.lconst 1, 1) := by decide +kernel
theorem dX7_film_19 : decode cX7_film 19 = .ok (.ldc2_w 96, 3) := by decide +kernel
theorem dX7_film_22 : decode cX7_film 22 = .ok (.invokestatic 44, 3) := by decide +kernel
theorem dX7_film_25 : decode cX7_film 25 = .ok (.ifCond .eq 19, 3) := by decide +kernel
theorem dX7_film_28 : decode cX7_film 28 = .ok (.iload 4, 2) := by decide +kernel
theorem dX7_film_30 : decode cX7_film 30 = .ok (.invokestatic 191, 3) := by decide +kernel
theorem dX7_film_33 : decode cX7_film 33 = .ok (.ifCond .eq 11, 3) := by decide +kernel
theorem dX7_film_36 : decode cX7_film 36 = .ok (.iload 5, 2) := by decide +kernel
theorem dX7_film_38 : decode cX7_film 38 = .ok (.invokestatic 194, 3) := by decide +kernel
theorem dX7_film_41 : decode cX7_film 41 = .ok (.ifCond .ne 5, 3) := by decide +kernel
theorem dX7_film_44 : decode cX7_film 44 = .ok (.iconst (-1), 1) := by decide +kernel
theorem dX7_film_45 : decode cX7_film 45 = .ok (.ireturn, 1) := by decide +kernel
theorem dX7_film_46 : decode cX7_film 46 = .ok (.aload_n 0, 1) := by decide +kernel
theorem dX7_film_47 : decode cX7_film 47 = .ok (.iload 4, 2) := by decide +kernel
theorem dX7_film_49 : decode cX7_film 49 = .ok (.iload 5, 2) := by decide +kernel
theorem dX7_film_51 : decode cX7_film 51 = .ok (.iload 6, 2) := by decide +kernel
theorem dX7_film_53 : decode cX7_film 53 = .ok (.iload_n 3, 1) := by decide +kernel
theorem dX7_film_54 : decode cX7_film 54 = .ok (.invokevirtual 199, 3) := by decide +kernel
theorem dX7_film_57 : decode cX7_film 57 = .ok (.istore 7, 2) := by decide +kernel
theorem dX7_film_59 : decode cX7_film 59 = .ok (.iload 7, 2) := by decide +kernel
theorem dX7_film_61 : decode cX7_film 61 = .ok (.ifCond .ge 6, 3) := by decide +kernel
theorem dX7_film_64 : decode cX7_film 64 = .ok (.iload 7, 2) := by decide +kernel
theorem dX7_film_66 : decode cX7_film 66 = .ok (.ireturn, 1) := by decide +kernel
theorem dX7_film_67 : decode cX7_film 67 = .ok (.iconst 0, 1) := by decide +kernel
theorem dX7_film_68 : decode cX7_film 68 = .ok (.istore 8, 2) := by decide +kernel
theorem dX7_film_70 : decode cX7_film 70 = .ok (.iload 8, 2) := by decide +kernel
theorem dX7_film_72 : decode cX7_film 72 = .ok (.iload_n 3, 1) := by decide +kernel
theorem dX7_film_73 : decode cX7_film 73 = .ok (.if_icmp .ge 46, 3) := by decide +kernel
theorem dX7_film_76 : decode cX7_film 76 = .ok (.aload_n 0, 1) := by decide +kernel
theorem dX7_film_77 : decode cX7_film 77 = .ok (.getfield 37, 3) := by decide +kernel
theorem dX7_film_80 : decode cX7_film 80 = .ok (.bipush 24, 2) := by decide +kernel
theorem dX7_film_82 : decode cX7_film 82 = .ok (.iload 4, 2) := by decide +kernel
theorem dX7_film_84 : decode cX7_film 84 = .ok (.imul, 1) := by decide +kernel
theorem dX7_film_85 : decode cX7_film 85 = .ok (.iload 6, 2) := by decide +kernel
theorem dX7_film_87 : decode cX7_film 87 = .ok (.iadd, 1) := by decide +kernel
theorem dX7_film_88 : decode cX7_film 88 = .ok (.iload 8, 2) := by decide +kernel
theorem dX7_film_90 : decode cX7_film 90 = .ok (.iadd, 1) := by decide +kernel
theorem dX7_film_91 : decode cX7_film 91 = .ok (.iload 5, 2) := by decide +kernel
theorem dX7_film_93 : decode cX7_film 93 = .ok (.aload_n 0, 1) := by decide +kernel
theorem dX7_film_94 : decode cX7_film 94 = .ok (.iload_n 1, 1) := by decide +kernel
theorem dX7_film_95 : decode cX7_film 95 = .ok (.iload_n 2, 1) := by decide +kernel
theorem dX7_film_96 : decode cX7_film 96 = .ok (.aload_n 0, 1) := by decide +kernel
theorem dX7_film_97 : decode cX7_film 97 = .ok (.getfield 7, 3) := by decide +kernel
theorem dX7_film_100 : decode cX7_film 100 = .ok (.iconst 4, 1) := by decide +kernel
theorem dX7_film_101 : decode cX7_film 101 = .ok (.iaload, 1) := by decide +kernel
theorem dX7_film_102 : decode cX7_film 102 = .ok (.iload 8, 2) := by decide +kernel
theorem dX7_film_104 : decode cX7_film 104 = .ok (.iadd, 1) := by decide +kernel
theorem dX7_film_105 : decode cX7_film 105 = .ok (.invokevirtual 74, 3) := by decide +kernel
theorem dX7_film_108 : decode cX7_film 108 = .ok (.i2l, 1) := by decide +kernel
theorem dX7_film_109 : decode cX7_film 109 = .ok (.invokestatic 205, 3) := by decide +kernel
theorem dX7_film_112 : decode cX7_film 112 = .ok (.lastore, 1) := by decide +kernel
theorem dX7_film_113 : decode cX7_film 113 = .ok (.iinc 8 1, 3) := by decide +kernel
theorem dX7_film_116 : decode cX7_film 116 = .ok (.goto (-46), 3) := by decide +kernel
theorem dX7_film_119 : decode cX7_film 119 = .ok (.iload_n 3, 1) := by decide +kernel
theorem dX7_film_120 : decode cX7_film 120 = .ok (.ireturn, 1) := by decide +kernel
set_option maxRecDepth 20000 in
theorem ggX7_sheet_X7_isSheet : GoodIn wsX7_sheet wsX7_isSheet := goodIn_r _ [7, 8, 9, 10, 6, 11] (by decide +kernel) (by decide +kernel)
set_option maxRecDepth 20000 in
theorem gX7_sheet_X7_isSheet : GoodIn wsX7_sheet (va_wsS RX7 191 yX7_isSheet wsX7_isSheet) := goodIn_app (goodIn_of _ (by decide +kernel)) ggX7_sheet_X7_isSheet
set_option maxRecDepth 20000 in
theorem ggX7_sheet_X7_isLane : GoodIn wsX7_sheet wsX7_isLane := goodIn_r _ [14, 8, 9, 10, 6, 11] (by decide +kernel) (by decide +kernel)
set_option maxRecDepth 20000 in
theorem gX7_sheet_X7_isLane : GoodIn wsX7_sheet (va_wsS RX7 194 yX7_isLane wsX7_isLane) := goodIn_app (goodIn_of _ (by decide +kernel)) ggX7_sheet_X7_isLane
theorem dX7_sheet_0 : decode cX7_sheet 0 = .ok (.iload_n 1, 1) := by decide +kernel
theorem dX7_sheet_1 : decode cX7_sheet 1 = .ok (.invokestatic 191, 3) := by decide +kernel
theorem dX7_sheet_4 : decode cX7_sheet 4 = .ok (.ifCond .eq 16, 3) := by decide +kernel
theorem dX7_sheet_7 : decode cX7_sheet 7 = .ok (.iload_n 2, 1) := by decide +kernel
theorem dX7_sheet_8 : decode cX7_sheet 8 = .ok (.invokestatic 194, 3) := by decide +kernel
theorem dX7_sheet_11 : decode cX7_sheet 11 = .ok (.ifCond .eq 9, 3) := by decide +kernel
theorem dX7_sheet_14 : decode cX7_sheet 14 = .ok (.iload_n 3, 1) := by decide +kernel
theorem dX7_sheet_15 : decode cX7_sheet 15 = .ok (.bipush 24, 2) := by decide +kernel
theorem dX7_sheet_17 : decode cX7_sheet 17 = .ok (.if_icmp .le 5, 3) := by decide +kernel
theorem dX7_sheet_20 : decode cX7_sheet 20 = .ok (.iconst (-1), 1) := by decide +kernel
theorem dX7_sheet_21 : decode cX7_sheet 21 = .ok (.ireturn, 1) := by decide +kernel
theorem dX7_sheet_22 : decode cX7_sheet 22 = .ok (.iload_n 3, 1) := by decide +kernel
theorem dX7_sheet_23 : decode cX7_sheet 23 = .ok (.ifCond .ge 6, 3) := by decide +kernel
theorem dX7_sheet_26 : decode cX7_sheet 26 = .ok (.bipush (-14), 2) := by decide +kernel
theorem dX7_sheet_28 : decode cX7_sheet 28 = .ok (.ireturn, 1) := by decide +kernel
theorem dX7_sheet_29 : decode cX7_sheet 29 = .ok (.aload_n 0, 1) := by decide +kernel
theorem dX7_sheet_30 : decode cX7_sheet 30 = .ok (.getfield 31, 3) := by decide +kernel
theorem dX7_sheet_33 : decode cX7_sheet 33 = .ok (.iload_n 1, 1) := by decide +kernel
theorem dX7_sheet_34 : decode cX7_sheet 34 = .ok (.iload_n 2, 1) := by decide +kernel
theorem dX7_sheet_35 : decode cX7_sheet 35 = .ok (.iastore, 1) := by decide +kernel
theorem dX7_sheet_36 : decode cX7_sheet 36 = .ok (.aload_n 0, 1) := by decide +kernel
theorem dX7_sheet_37 : decode cX7_sheet 37 = .ok (.getfield 34, 3) := by decide +kernel
theorem dX7_sheet_40 : decode cX7_sheet 40 = .ok (.iload_n 1, 1) := by decide +kernel
theorem dX7_sheet_41 : decode cX7_sheet 41 = .ok (.iload_n 3, 1) := by decide +kernel
theorem dX7_sheet_42 : decode cX7_sheet 42 = .ok (.iastore, 1) := by decide +kernel
theorem dX7_sheet_43 : decode cX7_sheet 43 = .ok (.iconst 0, 1) := by decide +kernel
theorem dX7_sheet_44 : decode cX7_sheet 44 = .ok (.istore 4, 2) := by decide +kernel
theorem dX7_sheet_46 : decode cX7_sheet 46 = .ok (.iload 4, 2) := by decide +kernel
theorem dX7_sheet_48 : decode cX7_sheet 48 = .ok (.bipush 24, 2) := by decide +kernel
theorem dX7_sheet_50 : decode cX7_sheet 50 = .ok (.if_icmp .ge 22, 3) := by decide +kernel
theorem dX7_sheet_53 : decode cX7_sheet 53 = .ok (.aload_n 0, 1) := by decide +kernel
theorem dX7_sheet_54 : decode cX7_sheet 54 = .ok (.getfield 37, 3) := by decide +kernel
theorem dX7_sheet_57 : decode cX7_sheet 57 = .ok (.bipush 24, 2) := by decide +kernel
theorem dX7_sheet_59 : decode cX7_sheet 59 = .ok (.iload_n 1, 1) := by decide +kernel
theorem dX7_sheet_60 : decode cX7_sheet 60 = .ok (.imul, 1) := by decide +kernel
theorem dX7_sheet_61 : decode cX7_sheet 61 = .ok (.iload 4, 2) := by decide +kernel
theorem dX7_sheet_63 : decode cX7_sheet 63 = .ok (.iadd, 1) := by decide +kernel
theorem dX7_sheet_64 : decode cX7_sheet 64 = .ok (.lconst 0, 1) := by decide +kernel
theorem dX7_sheet_65 : decode cX7_sheet 65 = .ok (.lastore, 1) := by decide +kernel
theorem dX7_sheet_66 : decode cX7_sheet 66 = .ok (.iinc 4 1, 3) := by decide +kernel
theorem dX7_sheet_69 : decode cX7_sheet 69 = .ok (.goto (-23), 3) := by decide +kernel
theorem dX7_sheet_72 : decode cX7_sheet 72 = .ok (.iload_n 3, 1) := by decide +kernel
theorem dX7_sheet_73 : decode cX7_sheet 73 = .ok (.ireturn, 1) := by decide +kernel
set_option maxRecDepth 20000 in
theorem ggX7_drop_X7_isSheet : GoodIn wsX7_drop wsX7_isSheet := goodIn_r _ [6, 7, 8, 9, 5, 10] (by decide +kernel) (by decide +kernel)
set_option maxRecDepth 20000 in
theorem gX7_drop_X7_isSheet : GoodIn wsX7_drop (va_wsS RX7 191 yX7_isSheet wsX7_isSheet) := goodIn_app (goodIn_of _ (by decide +kernel)) ggX7_drop_X7_isSheet
theorem dX7_drop_0 : decode cX7_drop 0 = .ok (.iload_n 1, 1) := by decide +kernel
theorem dX7_drop_1 : decode cX7_drop 1 = .ok (.invokestatic 191, 3) := by decide +kernel
theorem dX7_drop_4 : decode cX7_drop 4 = .ok (.ifCond .ne 5, 3) := by decide +kernel
theorem dX7_drop_7 : decode cX7_drop 7 = .ok (.iconst (-1), 1) := by decide +kernel
theorem dX7_drop_8 : decode cX7_drop 8 = .ok (.ireturn, 1) := by decide +kernel
theorem dX7_drop_9 : decode cX7_drop 9 = .ok (.aload_n 0, 1) := by decide +kernel
theorem dX7_drop_10 : decode cX7_drop 10 = .ok (.getfield 31, 3) := by decide +kernel
theorem dX7_drop_13 : decode cX7_drop 13 = .ok (.iload_n 1, 1) := by decide +kernel
theorem dX7_drop_14 : decode cX7_drop 14 = .ok (.iaload, 1) := by decide +kernel
theorem dX7_drop_15 : decode cX7_drop 15 = .ok (.ifCond .ge 6, 3) := by decide +kernel
theorem dX7_drop_18 : decode cX7_drop 18 = .ok (.bipush (-11), 2) := by decide +kernel
theorem dX7_drop_20 : decode cX7_drop 20 = .ok (.ireturn, 1) := by decide +kernel
theorem dX7_drop_21 : decode cX7_drop 21 = .ok (.aload_n 0, 1) := by decide +kernel
theorem dX7_drop_22 : decode cX7_drop 22 = .ok (.getfield 31, 3) := by decide +kernel
theorem dX7_drop_25 : decode cX7_drop 25 = .ok (.iload_n 1, 1) := by decide +kernel
theorem dX7_drop_26 : decode cX7_drop 26 = .ok (.iconst (-1), 1) := by decide +kernel
theorem dX7_drop_27 : decode cX7_drop 27 = .ok (.iastore, 1) := by decide +kernel
theorem dX7_drop_28 : decode cX7_drop 28 = .ok (.aload_n 0, 1) := by decide +kernel
theorem dX7_drop_29 : decode cX7_drop 29 = .ok (.getfield 34, 3) := by decide +kernel
theorem dX7_drop_32 : decode cX7_drop 32 = .ok (.iload_n 1, 1) := by decide +kernel
theorem dX7_drop_33 : decode cX7_drop 33 = .ok (.iaload, 1) := by decide +kernel
theorem dX7_drop_34 : decode cX7_drop 34 = .ok (.ireturn, 1) := by decide +kernel
set_option maxRecDepth 20000 in
theorem ggX7_item_X7_isSheet : GoodIn wsX7_item wsX7_isSheet := goodIn_r _ [5, 6, 7, 8, 4, 9] (by decide +kernel) (by decide +kernel)
set_option maxRecDepth 20000 in
theorem gX7_item_X7_isSheet : GoodIn wsX7_item (va_wsS RX7 191 yX7_isSheet wsX7_isSheet) := goodIn_app (goodIn_of _ (by decide +kernel)) ggX7_item_X7_isSheet
set_option maxRecDepth 20000 in
theorem ggX7_item_X7_isLane : GoodIn wsX7_item wsX7_isLane := goodIn_r _ [12, 6, 7, 8, 4, 9] (by decide +kernel) (by decide +kernel)
set_option maxRecDepth 20000 in
theorem gX7_item_X7_isLane : GoodIn wsX7_item (va_wsS RX7 194 yX7_isLane wsX7_isLane) := goodIn_app (goodIn_of _ (by decide +kernel)) ggX7_item_X7_isLane
set_option maxRecDepth 20000 in
theorem ggX7_item_X7_why : GoodIn wsX7_item wsX7_why := goodIn_r _ [16, 17, 18, 22, 23, 24, 25, 26, 27, 28, 29, 30, 31, 32, 33, 34, 35, 36, 37, 38] (by decide +kernel) (by decide +kernel)
set_option maxRecDepth 20000 in
theorem gX7_item_X7_why : GoodIn wsX7_item (wsV RX7 199 RX7 yX7_why wsX7_why) := goodIn_app (goodIn_of _ (by decide +kernel)) ggX7_item_X7_why
set_option maxRecDepth 20000 in
theorem ggX7_item_X7_cut : GoodIn wsX7_item wsX7_cut := goodIn_r _ [21] (by decide +kernel) (by decide +kernel)
set_option maxRecDepth 20000 in
theorem gX7_item_X7_cut : GoodIn wsX7_item (va_wsS RX7 205 yX7_cut wsX7_cut) := goodIn_app (goodIn_of _ (by decide +kernel)) ggX7_item_X7_cut
theorem dX7_item_0 : decode cX7_item 0 = .ok (.iload_n 1, 1) := by decide +kernel
theorem dX7_item_1 : decode cX7_item 1 = .ok (.invokestatic 191, 3) := by decide +kernel
theorem dX7_item_4 : decode cX7_item 4 = .ok (.ifCond .eq 10, 3) := by decide +kernel
theorem dX7_item_7 : decode cX7_item 7 = .ok (.iload_n 2, 1) := by decide +kernel
theorem dX7_item_8 : decode cX7_item 8 = .ok (.invokestatic 194, 3) := by decide +kernel
theorem dX7_item_11 : decode cX7_item 11 = .ok (.ifCond .ne 5, 3) := by decide +kernel
theorem dX7_item_14 : decode cX7_item 14 = .ok (.iconst (-1), 1) := by decide +kernel
theorem dX7_item_15 : decode cX7_item 15 = .ok (.ireturn, 1) := by decide +kernel
theorem dX7_item_16 : decode cX7_item 16 = .ok (.aload_n 0, 1) := by decide +kernel
theorem dX7_item_17 : decode cX7_item 17 = .ok (.iload_n 1, 1) := by decide +kernel
theorem dX7_item_18 : decode cX7_item 18 = .ok (.iload_n 2, 1) := by decide +kernel
theorem dX7_item_19 : decode cX7_item 19 = .ok (.iload_n 3, 1) := by decide +kernel
theorem dX7_item_20 : decode cX7_item 20 = .ok (.iconst 1, 1) := by decide +kernel
theorem dX7_item_21 : decode cX7_item 21 = .ok (.invokevirtual 199, 3) := by decide +kernel
theorem dX7_item_24 : decode cX7_item 24 = .ok (.istore 6, 2) := by decide +kernel
theorem dX7_item_26 : decode cX7_item 26 = .ok (.iload 6, 2) := by decide +kernel
theorem dX7_item_28 : decode cX7_item 28 = .ok (.ifCond .ge 6, 3) := by decide +kernel
theorem dX7_item_31 : decode cX7_item 31 = .ok (.iload 6, 2) := by decide +kernel
theorem dX7_item_33 : decode cX7_item 33 = .ok (.ireturn, 1) := by decide +kernel
theorem dX7_item_34 : decode cX7_item 34 = .ok (.aload_n 0, 1) := by decide +kernel
theorem dX7_item_35 : decode cX7_item 35 = .ok (.getfield 37, 3) := by decide +kernel
theorem dX7_item_38 : decode cX7_item 38 = .ok (.bipush 24, 2) := by decide +kernel
theorem dX7_item_40 : decode cX7_item 40 = .ok (.iload_n 1, 1) := by decide +kernel
theorem dX7_item_41 : decode cX7_item 41 = .ok (.imul, 1) := by decide +kernel
theorem dX7_item_42 : decode cX7_item 42 = .ok (.iload_n 3, 1) := by decide +kernel
theorem dX7_item_43 : decode cX7_item 43 = .ok (.iadd, 1) := by decide +kernel
theorem dX7_item_44 : decode cX7_item 44 = .ok (.iload_n 2, 1) := by decide +kernel
theorem dX7_item_45 : decode cX7_item 45 = .ok (.lload 4, 2) := by decide +kernel
theorem dX7_item_47 : decode cX7_item 47 = .ok (.invokestatic 205, 3) := by decide +kernel
theorem dX7_item_50 : decode cX7_item 50 = .ok (.lastore, 1) := by decide +kernel
theorem dX7_item_51 : decode cX7_item 51 = .ok (.iconst 1, 1) := by decide +kernel
theorem dX7_item_52 : decode cX7_item 52 = .ok (.ireturn, 1) := by decide +kernel
set_option maxRecDepth 20000 in
theorem ggX7_copy_X7_isSheet : GoodIn wsX7_copy wsX7_isSheet := goodIn_r _ [7, 8, 9, 10, 6, 11] (by decide +kernel) (by decide +kernel)
set_option maxRecDepth 20000 in
theorem gX7_copy_X7_isSheet : GoodIn wsX7_copy (va_wsS RX7 191 yX7_isSheet wsX7_isSheet) := goodIn_app (goodIn_of _ (by decide +kernel)) ggX7_copy_X7_isSheet
set_option maxRecDepth 20000 in
theorem ggX7_copy_X7_why : GoodIn wsX7_copy wsX7_why := goodIn_r _ [15, 1, 16, 17, 18, 19, 20, 21, 22, 23, 24, 25, 26, 27, 28, 29, 30, 31, 32, 33] (by decide +kernel) (by decide +kernel)
set_option maxRecDepth 20000 in
theorem gX7_copy_X7_why : GoodIn wsX7_copy (wsV RX7 199 RX7 yX7_why wsX7_why) := goodIn_app (goodIn_of _ (by decide +kernel)) ggX7_copy_X7_why
theorem dX7_copy_0 : decode cX7_copy 0 = .ok (.iload_n 1, 1) := by decide +kernel
theorem dX7_copy_1 : decode cX7_copy 1 = .ok (.invokestatic 191, 3) := by decide +kernel
theorem dX7_copy_4 : decode cX7_copy 4 = .ok (.ifCond .eq 10, 3) := by decide +kernel
theorem dX7_copy_7 : decode cX7_copy 7 = .ok (.iload_n 3, 1) := by decide +kernel
theorem dX7_copy_8 : decode cX7_copy 8 = .ok (.invokestatic 191, 3) := by decide +kernel
theorem dX7_copy_11 : decode cX7_copy 11 = .ok (.ifCond .ne 5, 3) := by decide +kernel
theorem dX7_copy_14 : decode cX7_copy 14 = .ok (.iconst (-1), 1) := by decide +kernel
theorem dX7_copy_15 : decode cX7_copy 15 = .ok (.ireturn, 1) := by decide +kernel
theorem dX7_copy_16 : decode cX7_copy 16 = .ok (.aload_n 0, 1) := by decide +kernel
theorem dX7_copy_17 : decode cX7_copy 17 = .ok (.getfield 31, 3) := by decide +kernel
theorem dX7_copy_20 : decode cX7_copy 20 = .ok (.iload_n 1, 1) := by decide +kernel
theorem dX7_copy_21 : decode cX7_copy 21 = .ok (.iaload, 1) := by decide +kernel
theorem dX7_copy_22 : decode cX7_copy 22 = .ok (.ifCond .lt 12, 3) := by decide +kernel
theorem dX7_copy_25 : decode cX7_copy 25 = .ok (.aload_n 0, 1) := by decide +kernel
theorem dX7_copy_26 : decode cX7_copy 26 = .ok (.getfield 31, 3) := by decide +kernel
theorem dX7_copy_29 : decode cX7_copy 29 = .ok (.iload_n 3, 1) := by decide +kernel
theorem dX7_copy_30 : decode cX7_copy 30 = .ok (.iaload, 1) := by decide +kernel
theorem dX7_copy_31 : decode cX7_copy 31 = .ok (.ifCond .ge 6, 3) := by decide +kernel
theorem dX7_copy_34 : decode cX7_copy 34 = .ok (.bipush (-11), 2) := by decide +kernel
theorem dX7_copy_36 : decode cX7_copy 36 = .ok (.ireturn, 1) := by decide +kernel
theorem dX7_copy_37 : decode cX7_copy 37 = .ok (.aload_n 0, 1) := by decide +kernel
theorem dX7_copy_38 : decode cX7_copy 38 = .ok (.iload_n 3, 1) := by decide +kernel
theorem dX7_copy_39 : decode cX7_copy 39 = .ok (.aload_n 0, 1) := by decide +kernel
theorem dX7_copy_40 : decode cX7_copy 40 = .ok (.getfield 31, 3) := by decide +kernel
theorem dX7_copy_43 : decode cX7_copy 43 = .ok (.iload_n 1, 1) := by decide +kernel
theorem dX7_copy_44 : decode cX7_copy 44 = .ok (.iaload, 1) := by decide +kernel
theorem dX7_copy_45 : decode cX7_copy 45 = .ok (.iload 4, 2) := by decide +kernel
theorem dX7_copy_47 : decode cX7_copy 47 = .ok (.iload 5, 2) := by decide +kernel
theorem dX7_copy_49 : decode cX7_copy 49 = .ok (.invokevirtual 199, 3) := by decide +kernel
theorem dX7_copy_52 : decode cX7_copy 52 = .ok (.istore 6, 2) := by decide +kernel
theorem dX7_copy_54 : decode cX7_copy 54 = .ok (.iload 6, 2) := by decide +kernel
theorem dX7_copy_56 : decode cX7_copy 56 = .ok (.ifCond .ne 20, 3) := by decide +kernel
theorem dX7_copy_59 : decode cX7_copy 59 = .ok (.aload_n 0, 1) := by decide +kernel
theorem dX7_copy_60 : decode cX7_copy 60 = .ok (.iload_n 1, 1) := by decide +kernel
theorem dX7_copy_61 : decode cX7_copy 61 = .ok (.aload_n 0, 1) := by decide +kernel
theorem dX7_copy_62 : decode cX7_copy 62 = .ok (.getfield 31, 3) := by decide +kernel
theorem dX7_copy_65 : decode cX7_copy 65 = .ok (.iload_n 1, 1) := by decide +kernel
theorem dX7_copy_66 : decode cX7_copy 66 = .ok (.iaload, 1) := by decide +kernel
theorem dX7_copy_67 : decode cX7_copy 67 = .ok (.iload_n 2, 1) := by decide +kernel
theorem dX7_copy_68 : decode cX7_copy 68 = .ok (.iload 5, 2) := by decide +kernel
theorem dX7_copy_70 : decode cX7_copy 70 = .ok (.invokevirtual 199, 3) := by decide +kernel
theorem dX7_copy_73 : decode cX7_copy 73 = .ok (.goto 5, 3) := by decide +kernel
theorem dX7_copy_76 : decode cX7_copy 76 = .ok (.iload 6, 2) := by decide +kernel
theorem dX7_copy_78 : decode cX7_copy 78 = .ok (.istore 6, 2) := by decide +kernel
theorem dX7_copy_80 : decode cX7_copy 80 = .ok (.iload 6, 2) := by decide +kernel
theorem dX7_copy_82 : decode cX7_copy 82 = .ok (.ifCond .ge 6, 3) := by decide +kernel
theorem dX7_copy_85 : decode cX7_copy 85 = .ok (.iload 6, 2) := by decide +kernel
theorem dX7_copy_87 : decode cX7_copy 87 = .ok (.ireturn, 1) := by decide +kernel
theorem dX7_copy_88 : decode cX7_copy 88 = .ok (.iconst 0, 1) := by decide +kernel
theorem dX7_copy_89 : decode cX7_copy 89 = .ok (.istore 7, 2) := by decide +kernel
theorem dX7_copy_91 : decode cX7_copy 91 = .ok (.iload 7, 2) := by decide +kernel
theorem dX7_copy_93 : decode cX7_copy 93 = .ok (.iload 5, 2) := by decide +kernel
theorem dX7_copy_95 : decode cX7_copy 95 = .ok (.if_icmp .ge 30, 3) := by decide +kernel
theorem dX7_copy_98 : decode cX7_copy 98 = .ok (.aload_n 0, 1) := by decide +kernel
theorem dX7_copy_99 : decode cX7_copy 99 = .ok (.getfield 41, 3) := by decide +kernel
theorem dX7_copy_102 : decode cX7_copy 102 = .ok (.iload 7, 2) := by decide +kernel
theorem dX7_copy_104 : decode cX7_copy 104 = .ok (.aload_n 0, 1) := by decide +kernel
theorem dX7_copy_105 : decode cX7_copy 105 = .ok (.getfield 37, 3) := by decide +kernel
theorem dX7_copy_108 : decode cX7_copy 108 = .ok (.bipush 24, 2) := by decide +kernel
theorem dX7_copy_110 : decode cX7_copy 110 = .ok (.iload_n 1, 1) := by decide +kernel
theorem dX7_copy_111 : decode cX7_copy 111 = .ok (.imul, 1) := by decide +kernel
theorem dX7_copy_112 : decode cX7_copy 112 = .ok (.iload_n 2, 1) := by decide +kernel
theorem dX7_copy_113 : decode cX7_copy 113 = .ok (.iadd, 1) := by decide +kernel
theorem dX7_copy_114 : decode cX7_copy 114 = .ok (.iload 7, 2) := by decide +kernel
theorem dX7_copy_116 : decode cX7_copy 116 = .ok (.iadd, 1) := by decide +kernel
theorem dX7_copy_117 : decode cX7_copy 117 = .ok (.laload, 1) := by decide +kernel
theorem dX7_copy_118 : decode cX7_copy 118 = .ok (.lastore, 1) := by decide +kernel
theorem dX7_copy_119 : decode cX7_copy 119 = .ok (.iinc 7 1, 3) := by decide +kernel
theorem dX7_copy_122 : decode cX7_copy 122 = .ok (.goto (-31), 3) := by decide +kernel
theorem dX7_copy_125 : decode cX7_copy 125 = .ok (.iconst 0, 1) := by decide +kernel
theorem dX7_copy_126 : decode cX7_copy 126 = .ok (.istore 7, 2) := by decide +kernel
theorem dX7_copy_128 : decode cX7_copy 128 = .ok (.iload 7, 2) := by decide +kernel
theorem dX7_copy_130 : decode cX7_copy 130 = .ok (.iload 5, 2) := by decide +kernel
theorem dX7_copy_132 : decode cX7_copy 132 = .ok (.if_icmp .ge 31, 3) := by decide +kernel
theorem dX7_copy_135 : decode cX7_copy 135 = .ok (.aload_n 0, 1) := by decide +kernel
theorem dX7_copy_136 : decode cX7_copy 136 = .ok (.getfield 37, 3) := by decide +kernel
theorem dX7_copy_139 : decode cX7_copy 139 = .ok (.bipush 24, 2) := by decide +kernel
theorem dX7_copy_141 : decode cX7_copy 141 = .ok (.iload_n 3, 1) := by decide +kernel
theorem dX7_copy_142 : decode cX7_copy 142 = .ok (.imul, 1) := by decide +kernel
theorem dX7_copy_143 : decode cX7_copy 143 = .ok (.iload 4, 2) := by decide +kernel
theorem dX7_copy_145 : decode cX7_copy 145 = .ok (.iadd, 1) := by decide +kernel
theorem dX7_copy_146 : decode cX7_copy 146 = .ok (.iload 7, 2) := by decide +kernel
theorem dX7_copy_148 : decode cX7_copy 148 = .ok (.iadd, 1) := by decide +kernel
theorem dX7_copy_149 : decode cX7_copy 149 = .ok (.aload_n 0, 1) := by decide +kernel
theorem dX7_copy_150 : decode cX7_copy 150 = .ok (.getfield 41, 3) := by decide +kernel
theorem dX7_copy_153 : decode cX7_copy 153 = .ok (.iload 7, 2) := by decide +kernel
theorem dX7_copy_155 : decode cX7_copy 155 = .ok (.laload, 1) := by decide +kernel
theorem dX7_copy_156 : decode cX7_copy 156 = .ok (.lastore, 1) := by decide +kernel
theorem dX7_copy_157 : decode cX7_copy 157 = .ok (.iinc 7 1, 3) := by decide +kernel
theorem dX7_copy_160 : decode cX7_copy 160 = .ok (.goto (-32), 3) := by decide +kernel
theorem dX7_copy_163 : decode cX7_copy 163 = .ok (.iload 5, 2) := by decide +kernel
theorem dX7_copy_165 : decode cX7_copy 165 = .ok (.ireturn, 1) := by decide +kernel
theorem dJ11_isValidCodePoint_9a6ad_0 : decode cJ11_isValidCodePoint_9a6ad 0 = .ok (.iload_n 0, 1) := by decide +kernel
theorem dJ11_isValidCodePoint_9a6ad_1 : decode cJ11_isValidCodePoint_9a6ad 1 = .ok (.bipush 16, 2) := by decide +kernel
theorem dJ11_isValidCodePoint_9a6ad_3 : decode cJ11_isValidCodePoint_9a6ad 3 = .ok (.iushr, 1) := by decide +kernel
theorem dJ11_isValidCodePoint_9a6ad_4 : decode cJ11_isValidCodePoint_9a6ad 4 = .ok (.istore_n 1, 1) := by decide +kernel
theorem dJ11_isValidCodePoint_9a6ad_5 : decode cJ11_isValidCodePoint_9a6ad 5 = .ok (.iload_n 1, 1) := by decide +kernel
theorem dJ11_isValidCodePoint_9a6ad_6 : decode cJ11_isValidCodePoint_9a6ad 6 = .ok (.bipush 17, 2) := by decide +kernel
theorem dJ11_isValidCodePoint_9a6ad_8 : decode cJ11_isValidCodePoint_9a6ad 8 = .ok (.if_icmp .ge 7, 3) := by decide +kernel
theorem dJ11_isValidCodePoint_9a6ad_11 : decode cJ11_isValidCodePoint_9a6ad 11 = .ok (.iconst 1, 1) := by decide +kernel
theorem dJ11_isValidCodePoint_9a6ad_12 : decode cJ11_isValidCodePoint_9a6ad 12 = .ok (.goto 4, 3) := by decide +kernel
theorem dJ11_isValidCodePoint_9a6ad_15 : decode cJ11_isValidCodePoint_9a6ad 15 = .ok (.iconst 0, 1) := by decide +kernel
theorem dJ11_isValidCodePoint_9a6ad_16 : decode cJ11_isValidCodePoint_9a6ad 16 = .ok (.ireturn, 1) := by decide +kernel
theorem dJ11_highSurrogate_5068e_0 : decode cJ11_highSurrogate_5068e 0 = .ok (.iload_n 0, 1) := by decide +kernel
theorem dJ11_highSurrogate_5068e_1 : decode cJ11_highSurrogate_5068e 1 = .ok (.bipush 10, 2) := by decide +kernel
theorem dJ11_highSurrogate_5068e_3 : decode cJ11_highSurrogate_5068e 3 = .ok (.iushr, 1) := by decide +kernel
theorem dJ11_highSurrogate_5068e_4 : decode cJ11_highSurrogate_5068e 4 = .ok (.ldc 110, 2) := by decide +kernel
theorem dJ11_highSurrogate_5068e_6 : decode cJ11_highSurrogate_5068e 6 = .ok (.iadd, 1) := by decide +kernel
theorem dJ11_highSurrogate_5068e_7 : decode cJ11_highSurrogate_5068e 7 = .ok (.i2c, 1) := by decide +kernel
theorem dJ11_highSurrogate_5068e_8 : decode cJ11_highSurrogate_5068e 8 = .ok (.ireturn, 1) := by decide +kernel
theorem dJ11_lowSurrogate_5068e_0 : decode cJ11_lowSurrogate_5068e 0 = .ok (.iload_n 0, 1) := by decide +kernel
theorem dJ11_lowSurrogate_5068e_1 : decode cJ11_lowSurrogate_5068e 1 = .ok (.sipush 1023, 3) := by decide +kernel
theorem dJ11_lowSurrogate_5068e_4 : decode cJ11_lowSurrogate_5068e 4 = .ok (.iand, 1) := by decide +kernel
theorem dJ11_lowSurrogate_5068e_5 : decode cJ11_lowSurrogate_5068e 5 = .ok (.ldc 76, 2) := by decide +kernel
theorem dJ11_lowSurrogate_5068e_7 : decode cJ11_lowSurrogate_5068e 7 = .ok (.iadd, 1) := by decide +kernel
theorem dJ11_lowSurrogate_5068e_8 : decode cJ11_lowSurrogate_5068e 8 = .ok (.i2c, 1) := by decide +kernel
theorem dJ11_lowSurrogate_5068e_9 : decode cJ11_lowSurrogate_5068e 9 = .ok (.ireturn, 1) := by decide +kernel
theorem dJ6_bitCount_0f7a4_0 : decode cJ6_bitCount_0f7a4 0 = .ok (.iload_n 0, 1) := by decide +kernel
theorem dJ6_bitCount_0f7a4_1 : decode cJ6_bitCount_0f7a4 1 = .ok (.iload_n 0, 1) := by decide +kernel
theorem dJ6_bitCount_0f7a4_2 : decode cJ6_bitCount_0f7a4 2 = .ok (.iconst 1, 1) := by decide +kernel
theorem dJ6_bitCount_0f7a4_3 : decode cJ6_bitCount_0f7a4 3 = .ok (.iushr, 1) := by decide +kernel
theorem dJ6_bitCount_0f7a4_4 : decode cJ6_bitCount_0f7a4 4 = .ok (.ldc_w 265, 3) := by decide +kernel
theorem dJ6_bitCount_0f7a4_7 : decode cJ6_bitCount_0f7a4 7 = .ok (.iand, 1) := by decide +kernel
theorem dJ6_bitCount_0f7a4_8 : decode cJ6_bitCount_0f7a4 8 = .ok (.isub, 1) := by decide +kernel
theorem dJ6_bitCount_0f7a4_9 : decode cJ6_bitCount_0f7a4 9 = .ok (.istore_n 0, 1) := by decide +kernel
theorem dJ6_bitCount_0f7a4_10 : decode cJ6_bitCount_0f7a4 10 = .ok (.iload_n 0, 1) := by decide +kernel
theorem dJ6_bitCount_0f7a4_11 : decode cJ6_bitCount_0f7a4 11 = .ok (.ldc_w 266, 3) := by decide +kernel
theorem dJ6_bitCount_0f7a4_14 : decode cJ6_bitCount_0f7a4 14 = .ok (.iand, 1) := by decide +kernel
theorem dJ6_bitCount_0f7a4_15 : decode cJ6_bitCount_0f7a4 15 = .ok (.iload_n 0, 1) := by decide +kernel
theorem dJ6_bitCount_0f7a4_16 : decode cJ6_bitCount_0f7a4 16 = .ok (.iconst 2, 1) := by decide +kernel
theorem dJ6_bitCount_0f7a4_17 : decode cJ6_bitCount_0f7a4 17 = .ok (.iushr, 1) := by decide +kernel
theorem dJ6_bitCount_0f7a4_18 : decode cJ6_bitCount_0f7a4 18 = .ok (.ldc_w 266, 3) := by decide +kernel
theorem dJ6_bitCount_0f7a4_21 : decode cJ6_bitCount_0f7a4 21 = .ok (.iand, 1) := by decide +kernel
theorem dJ6_bitCount_0f7a4_22 : decode cJ6_bitCount_0f7a4 22 = .ok (.iadd, 1) := by decide +kernel
theorem dJ6_bitCount_0f7a4_23 : decode cJ6_bitCount_0f7a4 23 = .ok (.istore_n 0, 1) := by decide +kernel
theorem dJ6_bitCount_0f7a4_24 : decode cJ6_bitCount_0f7a4 24 = .ok (.iload_n 0, 1) := by decide +kernel
theorem dJ6_bitCount_0f7a4_25 : decode cJ6_bitCount_0f7a4 25 = .ok (.iload_n 0, 1) := by decide +kernel
theorem dJ6_bitCount_0f7a4_26 : decode cJ6_bitCount_0f7a4 26 = .ok (.iconst 4, 1) := by decide +kernel
theorem dJ6_bitCount_0f7a4_27 : decode cJ6_bitCount_0f7a4 27 = .ok (.iushr, 1) := by decide +kernel
theorem dJ6_bitCount_0f7a4_28 : decode cJ6_bitCount_0f7a4 28 = .ok (.iadd, 1) := by decide +kernel
theorem dJ6_bitCount_0f7a4_29 : decode cJ6_bitCount_0f7a4 29 = .ok (.ldc_w 267, 3) := by decide +kernel
theorem dJ6_bitCount_0f7a4_32 : decode cJ6_bitCount_0f7a4 32 = .ok (.iand, 1) := by decide +kernel
theorem dJ6_bitCount_0f7a4_33 : decode cJ6_bitCount_0f7a4 33 = .ok (.istore_n 0, 1) := by decide +kernel
theorem dJ6_bitCount_0f7a4_34 : decode cJ6_bitCount_0f7a4 34 = .ok (.iload_n 0, 1) := by decide +kernel
theorem dJ6_bitCount_0f7a4_35 : decode cJ6_bitCount_0f7a4 35 = .ok (.iload_n 0, 1) := by decide +kernel
theorem dJ6_bitCount_0f7a4_36 : decode cJ6_bitCount_0f7a4 36 = .ok (.bipush 8, 2) := by decide +kernel
theorem dJ6_bitCount_0f7a4_38 : decode cJ6_bitCount_0f7a4 38 = .ok (.iushr, 1) := by decide +kernel
theorem dJ6_bitCount_0f7a4_39 : decode cJ6_bitCount_0f7a4 39 = .ok (.iadd, 1) := by decide +kernel
theorem dJ6_bitCount_0f7a4_40 : decode cJ6_bitCount_0f7a4 40 = .ok (.istore_n 0, 1) := by decide +kernel
theorem dJ6_bitCount_0f7a4_41 : decode cJ6_bitCount_0f7a4 41 = .ok (.iload_n 0, 1) := by decide +kernel
theorem dJ6_bitCount_0f7a4_42 : decode cJ6_bitCount_0f7a4 42 = .ok (.iload_n 0, 1) := by decide +kernel
theorem dJ6_bitCount_0f7a4_43 : decode cJ6_bitCount_0f7a4 43 = .ok (.bipush 16, 2) := by decide +kernel
theorem dJ6_bitCount_0f7a4_45 : decode cJ6_bitCount_0f7a4 45 = .ok (.iushr, 1) := by decide +kernel
theorem dJ6_bitCount_0f7a4_46 : decode cJ6_bitCount_0f7a4 46 = .ok (.iadd, 1) := by decide +kernel
theorem dJ6_bitCount_0f7a4_47 : decode cJ6_bitCount_0f7a4 47 = .ok (.istore_n 0, 1) := by decide +kernel
theorem dJ6_bitCount_0f7a4_48 : decode cJ6_bitCount_0f7a4 48 = .ok (.iload_n 0, 1) := by decide +kernel
theorem dJ6_bitCount_0f7a4_49 : decode cJ6_bitCount_0f7a4 49 = .ok (.bipush 63, 2) := by decide +kernel
theorem dJ6_bitCount_0f7a4_51 : decode cJ6_bitCount_0f7a4 51 = .ok (.iand, 1) := by decide +kernel
theorem dJ6_bitCount_0f7a4_52 : decode cJ6_bitCount_0f7a4 52 = .ok (.ireturn, 1) := by decide +kernel
theorem dJ9_max_7cf53_0 : decode cJ9_max_7cf53 0 = .ok (.iload_n 0, 1) := by decide +kernel
theorem dJ9_max_7cf53_1 : decode cJ9_max_7cf53 1 = .ok (.iload_n 1, 1) := by decide +kernel
theorem dJ9_max_7cf53_2 : decode cJ9_max_7cf53 2 = .ok (.if_icmp .lt 7, 3) := by decide +kernel
theorem dJ9_max_7cf53_5 : decode cJ9_max_7cf53 5 = .ok (.iload_n 0, 1) := by decide +kernel
theorem dJ9_max_7cf53_6 : decode cJ9_max_7cf53 6 = .ok (.goto 4, 3) := by decide +kernel
theorem dJ9_max_7cf53_9 : decode cJ9_max_7cf53 9 = .ok (.iload_n 1, 1) := by decide +kernel
theorem dJ9_max_7cf53_10 : decode cJ9_max_7cf53 10 = .ok (.ireturn, 1) := by decide +kernel
theorem dJ9_min_7cf53_0 : decode cJ9_min_7cf53 0 = .ok (.iload_n 0, 1) := by decide +kernel
theorem dJ9_min_7cf53_1 : decode cJ9_min_7cf53 1 = .ok (.iload_n 1, 1) := by decide +kernel
theorem dJ9_min_7cf53_2 : decode cJ9_min_7cf53 2 = .ok (.if_icmp .gt 7, 3) := by decide +kernel
theorem dJ9_min_7cf53_5 : decode cJ9_min_7cf53 5 = .ok (.iload_n 0, 1) := by decide +kernel
theorem dJ9_min_7cf53_6 : decode cJ9_min_7cf53 6 = .ok (.goto 4, 3) := by decide +kernel
theorem dJ9_min_7cf53_9 : decode cJ9_min_7cf53 9 = .ok (.iload_n 1, 1) := by decide +kernel
theorem dJ9_min_7cf53_10 : decode cJ9_min_7cf53 10 = .ok (.ireturn, 1) := by decide +kernel
set_option maxRecDepth 20000 in
theorem ggJ0_length_8abf5_J0_coder_7d493 : GoodIn wsJ0_length_8abf5 wsJ0_coder_7d493 := goodIn_r _ [6, 7, 8] (by decide +kernel) (by decide +kernel)
set_option maxRecDepth 20000 in
theorem gJ0_length_8abf5_J0_coder_7d493 : GoodIn wsJ0_length_8abf5 (wsV RJ0 335 RJ0 yJ0_coder_7d493 wsJ0_coder_7d493) := goodIn_app (goodIn_of _ (by decide +kernel)) ggJ0_length_8abf5_J0_coder_7d493
theorem dJ0_length_8abf5_0 : decode cJ0_length_8abf5 0 = .ok (.aload_n 0, 1) := by decide +kernel
theorem dJ0_length_8abf5_1 : decode cJ0_length_8abf5 1 = .ok (.getfield 9, 3) := by decide +kernel
theorem dJ0_length_8abf5_4 : decode cJ0_length_8abf5 4 = .ok (.arraylength, 1) := by decide +kernel
theorem dJ0_length_8abf5_5 : decode cJ0_length_8abf5 5 = .ok (.aload_n 0, 1) := by decide +kernel
theorem dJ0_length_8abf5_6 : decode cJ0_length_8abf5 6 = .ok (.invokevirtual 335, 3) := by decide +kernel
theorem dJ0_length_8abf5_9 : decode cJ0_length_8abf5 9 = .ok (.ishr, 1) := by decide +kernel
theorem dJ0_length_8abf5_10 : decode cJ0_length_8abf5 10 = .ok (.ireturn, 1) := by decide +kernel
set_option maxRecDepth 20000 in
theorem ggJ0_indexOf_0f7a4_J0_indexOf_7cf53 : GoodIn wsJ0_indexOf_0f7a4 wsJ0_indexOf_7cf53 := goodIn_r _ [5, 6, 7, 8, 9, 4, 10, 11, 12, 13, 14, 15, 16, 17, 18, 19, 20, 21, 22, 23, 24, 25, 26, 27, 28, 29, 30, 31, 32, 33, 34, 35, 36, 37, 38, 39, 40, 41, 42, 43, 44, 45, 46, 47, 48, 49, 50, 51, 52, 53, 54, 55, 56, 57, 58, 59, 60, 61, 62, 63, 64, 65, 66, 67, 68, 69, 70, 71, 72, 73, 74, 75, 76, 77, 78, 79, 80, 81, 82, 83, 84, 85] (by decide +kernel) (by decide +kernel)
set_option maxRecDepth 20000 in
theorem gJ0_indexOf_0f7a4_J0_indexOf_7cf53 : GoodIn wsJ0_indexOf_0f7a4 (wsV RJ0 633 RJ0 yJ0_indexOf_7cf53 wsJ0_indexOf_7cf53) := goodIn_app (goodIn_of _ (by decide +kernel)) ggJ0_indexOf_0f7a4_J0_indexOf_7cf53
theorem dJ0_indexOf_0f7a4_0 : decode cJ0_indexOf_0f7a4 0 = .ok (.aload_n 0, 1) := by decide +kernel
theorem dJ0_indexOf_0f7a4_1 : decode cJ0_indexOf_0f7a4 1 = .ok (.iload_n 1, 1) := by decide +kernel
theorem dJ0_indexOf_0f7a4_2 : decode cJ0_indexOf_0f7a4 2 = .ok (.iconst 0, 1) := by decide +kernel
theorem dJ0_indexOf_0f7a4_3 : decode cJ0_indexOf_0f7a4 3 = .ok (.invokevirtual 633, 3) := by decide +kernel
theorem dJ0_indexOf_0f7a4_6 : decode cJ0_indexOf_0f7a4 6 = .ok (.ireturn, 1) := by decide +kernel
set_option maxRecDepth 20000 in
theorem ggJ0_indexOf_7cf53_J0_isLatin1_aae02 : GoodIn wsJ0_indexOf_7cf53 wsJ0_isLatin1_aae02 := goodIn_r _ [6, 7, 8] (by decide +kernel) (by decide +kernel)
set_option maxRecDepth 20000 in
theorem gJ0_indexOf_7cf53_J0_isLatin1_aae02 : GoodIn wsJ0_indexOf_7cf53 (wsV RJ0 492 RJ0 yJ0_isLatin1_aae02 wsJ0_isLatin1_aae02) := goodIn_app (goodIn_of _ (by decide +kernel)) ggJ0_indexOf_7cf53_J0_isLatin1_aae02
set_option maxRecDepth 20000 in
theorem ggJ0_indexOf_7cf53_J0_length_8abf5 : GoodIn wsJ0_indexOf_7cf53 wsJ0_length_8abf5 := goodIn_r _ [12, 1, 13, 14, 15, 5, 16, 7, 8] (by decide +kernel) (by decide +kernel)
set_option maxRecDepth 20000 in
theorem gJ0_indexOf_7cf53_J0_length_8abf5 : GoodIn wsJ0_indexOf_7cf53 (wsV RJ0 505 RJ0 yJ0_length_8abf5 wsJ0_length_8abf5) := goodIn_app (goodIn_of _ (by decide +kernel)) ggJ0_indexOf_7cf53_J0_length_8abf5
set_option maxRecDepth 20000 in
theorem ggJ0_indexOf_7cf53_J1_indexOf_4cfef : GoodIn wsJ0_indexOf_7cf53 wsJ1_indexOf_4cfef := goodIn_r _ [20, 21, 22, 23, 24, 25, 26, 27, 28, 29, 19, 30, 31, 32, 33] (by decide +kernel) (by decide +kernel)
set_option maxRecDepth 20000 in
theorem gJ0_indexOf_7cf53_J1_indexOf_4cfef : GoodIn wsJ0_indexOf_7cf53 (va_wsS RJ0 637 yJ1_indexOf_4cfef wsJ1_indexOf_4cfef) := goodIn_app (goodIn_of _ (by decide +kernel)) ggJ0_indexOf_7cf53_J1_indexOf_4cfef
set_option maxRecDepth 20000 in
theorem ggJ0_indexOf_7cf53_J2_indexOf_4cfef : GoodIn wsJ0_indexOf_7cf53 wsJ2_indexOf_4cfef := goodIn_r _ [37, 38, 22, 23, 24, 39, 26, 27, 40, 41, 42, 36, 43, 44, 45, 46, 47, 48, 49, 50, 51, 5, 52, 53, 54, 55, 56, 57, 58, 59, 60, 61, 62, 63, 64, 65, 66, 67, 68, 69, 70, 71, 72, 73, 74, 75, 76, 77, 78, 79, 80, 81] (by decide +kernel) (by decide +kernel)
set_option maxRecDepth 20000 in
theorem gJ0_indexOf_7cf53_J2_indexOf_4cfef : GoodIn wsJ0_indexOf_7cf53 (va_wsS RJ0 640 yJ2_indexOf_4cfef wsJ2_indexOf_4cfef) := goodIn_app (goodIn_of _ (by decide +kernel)) ggJ0_indexOf_7cf53_J2_indexOf_4cfef
theorem dJ0_indexOf_7cf53_0 : decode cJ0_indexOf_7cf53 0 = .ok (.aload_n 0, 1) := by decide +kernel
theorem dJ0_indexOf_7cf53_1 : decode cJ0_indexOf_7cf53 1 = .ok (.invokevirtual 492, 3) := by decide +kernel
theorem dJ0_indexOf_7cf53_4 : decode cJ0_indexOf_7cf53 4 = .ok (.ifCond .eq 19, 3) := by decide +kernel
theorem dJ0_indexOf_7cf53_7 : decode cJ0_indexOf_7cf53 7 = .ok (.aload_n 0, 1) := by decide +kernel
theorem dJ0_indexOf_7cf53_8 : decode cJ0_indexOf_7cf53 8 = .ok (.getfield 9, 3) := by decide +kernel
theorem dJ0_indexOf_7cf53_11 : decode cJ0_indexOf_7cf53 11 = .ok (.iload_n 1, 1) := by decide +kernel
theorem dJ0_indexOf_7cf53_12 : decode cJ0_indexOf_7cf53 12 = .ok (.iload_n 2, 1) := by decide +kernel
theorem dJ0_indexOf_7cf53_13 : decode cJ0_indexOf_7cf53 13 = .ok (.aload_n 0, 1) := by decide +kernel
theorem dJ0_indexOf_7cf53_14 : decode cJ0_indexOf_7cf53 14 = .ok (.invokevirtual 505, 3) := by decide +kernel
theorem dJ0_indexOf_7cf53_17 : decode cJ0_indexOf_7cf53 17 = .ok (.invokestatic 637, 3) := by decide +kernel
theorem dJ0_indexOf_7cf53_20 : decode cJ0_indexOf_7cf53 20 = .ok (.goto 16, 3) := by decide +kernel
theorem dJ0_indexOf_7cf53_23 : decode cJ0_indexOf_7cf53 23 = .ok (.aload_n 0, 1) := by decide +kernel
theorem dJ0_indexOf_7cf53_24 : decode cJ0_indexOf_7cf53 24 = .ok (.getfield 9, 3) := by decide +kernel
theorem dJ0_indexOf_7cf53_27 : decode cJ0_indexOf_7cf53 27 = .ok (.iload_n 1, 1) := by decide +kernel
theorem dJ0_indexOf_7cf53_28 : decode cJ0_indexOf_7cf53 28 = .ok (.iload_n 2, 1) := by decide +kernel
theorem dJ0_indexOf_7cf53_29 : decode cJ0_indexOf_7cf53 29 = .ok (.aload_n 0, 1) := by decide +kernel
theorem dJ0_indexOf_7cf53_30 : decode cJ0_indexOf_7cf53 30 = .ok (.invokevirtual 505, 3) := by decide +kernel
theorem dJ0_indexOf_7cf53_33 : decode cJ0_indexOf_7cf53 33 = .ok (.invokestatic 640, 3) := by decide +kernel
theorem dJ0_indexOf_7cf53_36 : decode cJ0_indexOf_7cf53 36 = .ok (.ireturn, 1) := by decide +kernel
theorem dJ0_coder_7d493_0 : decode cJ0_coder_7d493 0 = .ok (.getstatic 38, 3) := by decide +kernel
theorem dJ0_coder_7d493_3 : decode cJ0_coder_7d493 3 = .ok (.ifCond .eq 10, 3) := by decide +kernel
theorem dJ0_coder_7d493_6 : decode cJ0_coder_7d493 6 = .ok (.aload_n 0, 1) := by decide +kernel
theorem dJ0_coder_7d493_7 : decode cJ0_coder_7d493 7 = .ok (.getfield 15, 3) := by decide +kernel
theorem dJ0_coder_7d493_10 : decode cJ0_coder_7d493 10 = .ok (.goto 4, 3) := by decide +kernel
theorem dJ0_coder_7d493_13 : decode cJ0_coder_7d493 13 = .ok (.iconst 1, 1) := by decide +kernel
theorem dJ0_coder_7d493_14 : decode cJ0_coder_7d493 14 = .ok (.ireturn, 1) := by decide +kernel
theorem dJ0_isLatin1_aae02_0 : decode cJ0_isLatin1_aae02 0 = .ok (.getstatic 38, 3) := by decide +kernel
theorem dJ0_isLatin1_aae02_3 : decode cJ0_isLatin1_aae02 3 = .ok (.ifCond .eq 14, 3) := by decide +kernel
theorem dJ0_isLatin1_aae02_6 : decode cJ0_isLatin1_aae02 6 = .ok (.aload_n 0, 1) := by decide +kernel
theorem dJ0_isLatin1_aae02_7 : decode cJ0_isLatin1_aae02 7 = .ok (.getfield 15, 3) := by decide +kernel
theorem dJ0_isLatin1_aae02_10 : decode cJ0_isLatin1_aae02 10 = .ok (.ifCond .ne 7, 3) := by decide +kernel
theorem dJ0_isLatin1_aae02_13 : decode cJ0_isLatin1_aae02 13 = .ok (.iconst 1, 1) := by decide +kernel
theorem dJ0_isLatin1_aae02_14 : decode cJ0_isLatin1_aae02 14 = .ok (.goto 4, 3) := by decide +kernel
theorem dJ0_isLatin1_aae02_17 : decode cJ0_isLatin1_aae02 17 = .ok (.iconst 0, 1) := by decide +kernel
theorem dJ0_isLatin1_aae02_18 : decode cJ0_isLatin1_aae02 18 = .ok (.ireturn, 1) := by decide +kernel
set_option maxRecDepth 20000 in
theorem ggJ0_checkBoundsBeginEnd_23922_J3_checkFromToIndex_8c36e : GoodIn wsJ0_checkBoundsBeginEnd_23922 wsJ3_checkFromToIndex_8c36e := goodIn_r _ [5] (by decide +kernel) (by decide +kernel)
set_option maxRecDepth 20000 in
theorem gJ0_checkBoundsBeginEnd_23922_J3_checkFromToIndex_8c36e : GoodIn wsJ0_checkBoundsBeginEnd_23922 (va_wsS RJ0 1062 yJ3_checkFromToIndex_8c36e wsJ3_checkFromToIndex_8c36e) := goodIn_app (goodIn_of _ (by decide +kernel)) ggJ0_checkBoundsBeginEnd_23922_J3_checkFromToIndex_8c36e
theorem dJ0_checkBoundsBeginEnd_23922_0 : decode cJ0_checkBoundsBeginEnd_23922 0 = .ok (.iload_n 0, 1) := by decide +kernel
theorem dJ0_checkBoundsBeginEnd_23922_1 : decode cJ0_checkBoundsBeginEnd_23922 1 = .ok (.iload_n 1, 1) := by decide +kernel
theorem dJ0_checkBoundsBeginEnd_23922_2 : decode cJ0_checkBoundsBeginEnd_23922 2 = .ok (.iload_n 2, 1) := by decide +kernel
theorem dJ0_checkBoundsBeginEnd_23922_3 : decode cJ0_checkBoundsBeginEnd_23922 3 = .ok (.getstatic 1053, 3) := by decide +kernel
theorem dJ0_checkBoundsBeginEnd_23922_6 : decode cJ0_checkBoundsBeginEnd_23922 6 = .ok (.invokestatic 1062, 3) := by decide +kernel
theorem dJ0_checkBoundsBeginEnd_23922_9 : decode cJ0_checkBoundsBeginEnd_23922 9 = .ok (.pop, 1) := by decide +kernel
theorem dJ0_checkBoundsBeginEnd_23922_10 : decode cJ0_checkBoundsBeginEnd_23922 10 = .ok (.return_, 1) := by decide +kernel
theorem dJ1_canEncode_9a6ad_0 : decode cJ1_canEncode_9a6ad 0 = .ok (.iload_n 0, 1) := by decide +kernel
theorem dJ1_canEncode_9a6ad_1 : decode cJ1_canEncode_9a6ad 1 = .ok (.ifCond .lt 14, 3) := by decide +kernel
theorem dJ1_canEncode_9a6ad_4 : decode cJ1_canEncode_9a6ad 4 = .ok (.iload_n 0, 1) := by decide +kernel
theorem dJ1_canEncode_9a6ad_5 : decode cJ1_canEncode_9a6ad 5 = .ok (.sipush 255, 3) := by decide +kernel
theorem dJ1_canEncode_9a6ad_8 : decode cJ1_canEncode_9a6ad 8 = .ok (.if_icmp .gt 7, 3) := by decide +kernel
theorem dJ1_canEncode_9a6ad_11 : decode cJ1_canEncode_9a6ad 11 = .ok (.iconst 1, 1) := by decide +kernel
theorem dJ1_canEncode_9a6ad_12 : decode cJ1_canEncode_9a6ad 12 = .ok (.goto 4, 3) := by decide +kernel
theorem dJ1_canEncode_9a6ad_15 : decode cJ1_canEncode_9a6ad 15 = .ok (.iconst 0, 1) := by decide +kernel
theorem dJ1_canEncode_9a6ad_16 : decode cJ1_canEncode_9a6ad 16 = .ok (.ireturn, 1) := by decide +kernel
set_option maxRecDepth 20000 in
theorem ggJ1_indexOf_4cfef_J1_canEncode_9a6ad : GoodIn wsJ1_indexOf_4cfef wsJ1_canEncode_9a6ad := goodIn_r _ [11] (by decide +kernel) (by decide +kernel)
set_option maxRecDepth 20000 in
theorem gJ1_indexOf_4cfef_J1_canEncode_9a6ad : GoodIn wsJ1_indexOf_4cfef (va_wsS RJ1 88 yJ1_canEncode_9a6ad wsJ1_canEncode_9a6ad) := goodIn_app (goodIn_of _ (by decide +kernel)) ggJ1_indexOf_4cfef_J1_canEncode_9a6ad
set_option maxRecDepth 20000 in
theorem ggJ1_indexOf_4cfef_J1_indexOfChar_4cfef : GoodIn wsJ1_indexOf_4cfef wsJ1_indexOfChar_4cfef := goodIn_r _ [14] (by decide +kernel) (by decide +kernel)
set_option maxRecDepth 20000 in
theorem gJ1_indexOf_4cfef_J1_indexOfChar_4cfef : GoodIn wsJ1_indexOf_4cfef (va_wsS RJ1 95 yJ1_indexOfChar_4cfef wsJ1_indexOfChar_4cfef) := goodIn_app (goodIn_of _ (by decide +kernel)) ggJ1_indexOf_4cfef_J1_indexOfChar_4cfef
theorem dJ1_indexOf_4cfef_0 : decode cJ1_indexOf_4cfef 0 = .ok (.iload_n 1, 1) := by decide +kernel
theorem dJ1_indexOf_4cfef_1 : decode cJ1_indexOf_4cfef 1 = .ok (.invokestatic 88, 3) := by decide +kernel
theorem dJ1_indexOf_4cfef_4 : decode cJ1_indexOf_4cfef 4 = .ok (.ifCond .ne 5, 3) := by decide +kernel
theorem dJ1_indexOf_4cfef_7 : decode cJ1_indexOf_4cfef 7 = .ok (.iconst (-1), 1) := by decide +kernel
theorem dJ1_indexOf_4cfef_8 : decode cJ1_indexOf_4cfef 8 = .ok (.ireturn, 1) := by decide +kernel
theorem dJ1_indexOf_4cfef_9 : decode cJ1_indexOf_4cfef 9 = .ok (.iload_n 2, 1) := by decide +kernel
theorem dJ1_indexOf_4cfef_10 : decode cJ1_indexOf_4cfef 10 = .ok (.iconst 0, 1) := by decide +kernel
theorem dJ1_indexOf_4cfef_11 : decode cJ1_indexOf_4cfef 11 = .ok (.invokestatic 92, 3) := by decide +kernel
theorem dJ1_indexOf_4cfef_14 : decode cJ1_indexOf_4cfef 14 = .ok (.istore_n 2, 1) := by decide +kernel
theorem dJ1_indexOf_4cfef_15 : decode cJ1_indexOf_4cfef 15 = .ok (.iload_n 3, 1) := by decide +kernel
theorem dJ1_indexOf_4cfef_16 : decode cJ1_indexOf_4cfef 16 = .ok (.aload_n 0, 1) := by decide +kernel
theorem dJ1_indexOf_4cfef_17 : decode cJ1_indexOf_4cfef 17 = .ok (.arraylength, 1) := by decide +kernel
theorem dJ1_indexOf_4cfef_18 : decode cJ1_indexOf_4cfef 18 = .ok (.invokestatic 38, 3) := by decide +kernel
theorem dJ1_indexOf_4cfef_21 : decode cJ1_indexOf_4cfef 21 = .ok (.istore_n 3, 1) := by decide +kernel
theorem dJ1_indexOf_4cfef_22 : decode cJ1_indexOf_4cfef 22 = .ok (.iload_n 2, 1) := by decide +kernel
theorem dJ1_indexOf_4cfef_23 : decode cJ1_indexOf_4cfef 23 = .ok (.iload_n 3, 1) := by decide +kernel
theorem dJ1_indexOf_4cfef_24 : decode cJ1_indexOf_4cfef 24 = .ok (.if_icmp .lt 5, 3) := by decide +kernel
theorem dJ1_indexOf_4cfef_27 : decode cJ1_indexOf_4cfef 27 = .ok (.iconst (-1), 1) := by decide +kernel
theorem dJ1_indexOf_4cfef_28 : decode cJ1_indexOf_4cfef 28 = .ok (.ireturn, 1) := by decide +kernel
theorem dJ1_indexOf_4cfef_29 : decode cJ1_indexOf_4cfef 29 = .ok (.aload_n 0, 1) := by decide +kernel
theorem dJ1_indexOf_4cfef_30 : decode cJ1_indexOf_4cfef 30 = .ok (.iload_n 1, 1) := by decide +kernel
theorem dJ1_indexOf_4cfef_31 : decode cJ1_indexOf_4cfef 31 = .ok (.iload_n 2, 1) := by decide +kernel
theorem dJ1_indexOf_4cfef_32 : decode cJ1_indexOf_4cfef 32 = .ok (.iload_n 3, 1) := by decide +kernel
theorem dJ1_indexOf_4cfef_33 : decode cJ1_indexOf_4cfef 33 = .ok (.invokestatic 95, 3) := by decide +kernel
theorem dJ1_indexOf_4cfef_36 : decode cJ1_indexOf_4cfef 36 = .ok (.ireturn, 1) := by decide +kernel
theorem dJ1_indexOfChar_4cfef_0 : decode cJ1_indexOfChar_4cfef 0 = .ok (.iload_n 1, 1) := by decide +kernel
theorem dJ1_indexOfChar_4cfef_1 : decode cJ1_indexOfChar_4cfef 1 = .ok (.i2b, 1) := by decide +kernel
theorem dJ1_indexOfChar_4cfef_2 : decode cJ1_indexOfChar_4cfef 2 = .ok (.istore 4, 2) := by decide +kernel
theorem dJ1_indexOfChar_4cfef_4 : decode cJ1_indexOfChar_4cfef 4 = .ok (.iload_n 2, 1) := by decide +kernel
theorem dJ1_indexOfChar_4cfef_5 : decode cJ1_indexOfChar_4cfef 5 = .ok (.istore 5, 2) := by decide +kernel
theorem dJ1_indexOfChar_4cfef_7 : decode cJ1_indexOfChar_4cfef 7 = .ok (.iload 5, 2) := by decide +kernel
theorem dJ1_indexOfChar_4cfef_9 : decode cJ1_indexOfChar_4cfef 9 = .ok (.iload_n 3, 1) := by decide +kernel
theorem dJ1_indexOfChar_4cfef_10 : decode cJ1_indexOfChar_4cfef 10 = .ok (.if_icmp .ge 21, 3) := by decide +kernel
theorem dJ1_indexOfChar_4cfef_13 : decode cJ1_indexOfChar_4cfef 13 = .ok (.aload_n 0, 1) := by decide +kernel
theorem dJ1_indexOfChar_4cfef_14 : decode cJ1_indexOfChar_4cfef 14 = .ok (.iload 5, 2) := by decide +kernel
theorem dJ1_indexOfChar_4cfef_16 : decode cJ1_indexOfChar_4cfef 16 = .ok (.baload, 1) := by decide +kernel
theorem dJ1_indexOfChar_4cfef_17 : decode cJ1_indexOfChar_4cfef 17 = .ok (.iload 4, 2) := by decide +kernel
theorem dJ1_indexOfChar_4cfef_19 : decode cJ1_indexOfChar_4cfef 19 = .ok (.if_icmp .ne 6, 3) := by decide +kernel
theorem dJ1_indexOfChar_4cfef_22 : decode cJ1_indexOfChar_4cfef 22 = .ok (.iload 5, 2) := by decide +kernel
theorem dJ1_indexOfChar_4cfef_24 : decode cJ1_indexOfChar_4cfef 24 = .ok (.ireturn, 1) := by decide +kernel
theorem dJ1_indexOfChar_4cfef_25 : decode cJ1_indexOfChar_4cfef 25 = .ok (.iinc 5 1, 3) := by decide +kernel
theorem dJ1_indexOfChar_4cfef_28 : decode cJ1_indexOfChar_4cfef 28 = .ok (.goto (-21), 3) := by decide +kernel
theorem dJ1_indexOfChar_4cfef_31 : decode cJ1_indexOfChar_4cfef 31 = .ok (.iconst (-1), 1) := by decide +kernel
theorem dJ1_indexOfChar_4cfef_32 : decode cJ1_indexOfChar_4cfef 32 = .ok (.ireturn, 1) := by decide +kernel
set_option maxRecDepth 20000 in
theorem ggJ2_getChar_3b067_J2_length_9d52b : GoodIn wsJ2_getChar_3b067 wsJ2_length_9d52b := goodIn_r _ [7] (by decide +kernel) (by decide +kernel)
set_option maxRecDepth 20000 in
theorem gJ2_getChar_3b067_J2_length_9d52b : GoodIn wsJ2_getChar_3b067 (va_wsS RJ2 48 yJ2_length_9d52b wsJ2_length_9d52b) := goodIn_app (goodIn_of _ (by decide +kernel)) ggJ2_getChar_3b067_J2_length_9d52b
theorem dJ2_getChar_3b067_0 : decode cJ2_getChar_3b067 0 = .ok (.getstatic 44, 3) := by decide +kernel
theorem dJ2_getChar_3b067_3 : decode cJ2_getChar_3b067 3 = .ok (.ifCond .ne 25, 3) := by decide +kernel
theorem dJ2_getChar_3b067_6 : decode cJ2_getChar_3b067 6 = .ok (.iload_n 1, 1) := by decide +kernel
theorem dJ2_getChar_3b067_7 : decode cJ2_getChar_3b067 7 = .ok (.ifCond .lt 11, 3) := by decide +kernel
theorem dJ2_getChar_3b067_10 : decode cJ2_getChar_3b067 10 = .ok (.iload_n 1, 1) := by decide +kernel
theorem dJ2_getChar_3b067_11 : decode cJ2_getChar_3b067 11 = .ok (.aload_n 0, 1) := by decide +kernel
theorem dJ2_getChar_3b067_12 : decode cJ2_getChar_3b067 12 = .ok (.invokestatic 48, 3) := by decide +kernel
theorem dJ2_getChar_3b067_15 : decode cJ2_getChar_3b067 15 = .ok (.if_icmp .lt 13, 3) := by decide +kernel
theorem dJ2_getChar_3b067_18 : decode cJ2_getChar_3b067 18 = .ok (.new 52, 3) := by decide +kernel
theorem dJ2_getChar_3b067_21 : decode cJ2_getChar_3b067 21 = .ok (.dup, 1) := by decide +kernel
theorem dJ2_getChar_3b067_22 : decode cJ2_getChar_3b067 22 = .ok (.ldc 54, 2) := by decide +kernel
theorem dJ2_getChar_3b067_24 : decode cJ2_getChar_3b067 24 = .ok (.invokespecial 56, 3) := by decide +kernel
theorem dJ2_getChar_3b067_27 : decode cJ2_getChar_3b067 27 = .ok (.athrow, 1) := by decide +kernel
theorem dJ2_getChar_3b067_28 : decode cJ2_getChar_3b067 28 = .ok (.iload_n 1, 1) := by decide +kernel
theorem dJ2_getChar_3b067_29 : decode cJ2_getChar_3b067 29 = .ok (.iconst 1, 1) := by decide +kernel
theorem dJ2_getChar_3b067_30 : decode cJ2_getChar_3b067 30 = .ok (.ishl, 1) := by decide +kernel
theorem dJ2_getChar_3b067_31 : decode cJ2_getChar_3b067 31 = .ok (.istore_n 1, 1) := by decide +kernel
theorem dJ2_getChar_3b067_32 : decode cJ2_getChar_3b067 32 = .ok (.aload_n 0, 1) := by decide +kernel
theorem dJ2_getChar_3b067_33 : decode cJ2_getChar_3b067 33 = .ok (.iload_n 1, 1) := by decide +kernel
theorem dJ2_getChar_3b067_34 : decode cJ2_getChar_3b067 34 = .ok (.iinc 1 1, 3) := by decide +kernel
theorem dJ2_getChar_3b067_37 : decode cJ2_getChar_3b067 37 = .ok (.baload, 1) := by decide +kernel
theorem dJ2_getChar_3b067_38 : decode cJ2_getChar_3b067 38 = .ok (.sipush 255, 3) := by decide +kernel
theorem dJ2_getChar_3b067_41 : decode cJ2_getChar_3b067 41 = .ok (.iand, 1) := by decide +kernel
theorem dJ2_getChar_3b067_42 : decode cJ2_getChar_3b067 42 = .ok (.getstatic 59, 3) := by decide +kernel
theorem dJ2_getChar_3b067_45 : decode cJ2_getChar_3b067 45 = .ok (.ishl, 1) := by decide +kernel
theorem dJ2_getChar_3b067_46 : decode cJ2_getChar_3b067 46 = .ok (.aload_n 0, 1) := by decide +kernel
theorem dJ2_getChar_3b067_47 : decode cJ2_getChar_3b067 47 = .ok (.iload_n 1, 1) := by decide +kernel
theorem dJ2_getChar_3b067_48 : decode cJ2_getChar_3b067 48 = .ok (.baload, 1) := by decide +kernel
theorem dJ2_getChar_3b067_49 : decode cJ2_getChar_3b067 49 = .ok (.sipush 255, 3) := by decide +kernel
theorem dJ2_getChar_3b067_52 : decode cJ2_getChar_3b067 52 = .ok (.iand, 1) := by decide +kernel
theorem dJ2_getChar_3b067_53 : decode cJ2_getChar_3b067 53 = .ok (.getstatic 63, 3) := by decide +kernel
theorem dJ2_getChar_3b067_56 : decode cJ2_getChar_3b067 56 = .ok (.ishl, 1) := by decide +kernel
theorem dJ2_getChar_3b067_57 : decode cJ2_getChar_3b067 57 = .ok (.ior, 1) := by decide +kernel
theorem dJ2_getChar_3b067_58 : decode cJ2_getChar_3b067 58 = .ok (.i2c, 1) := by decide +kernel
theorem dJ2_getChar_3b067_59 : decode cJ2_getChar_3b067 59 = .ok (.ireturn, 1) := by decide +kernel
theorem dJ2_length_9d52b_0 : decode cJ2_length_9d52b 0 = .ok (.aload_n 0, 1) := by decide +kernel
theorem dJ2_length_9d52b_1 : decode cJ2_length_9d52b 1 = .ok (.arraylength, 1) := by decide +kernel
theorem dJ2_length_9d52b_2 : decode cJ2_length_9d52b 2 = .ok (.iconst 1, 1) := by decide +kernel
theorem dJ2_length_9d52b_3 : decode cJ2_length_9d52b 3 = .ok (.ishr, 1) := by decide +kernel
theorem dJ2_length_9d52b_4 : decode cJ2_length_9d52b 4 = .ok (.ireturn, 1) := by decide +kernel
set_option maxRecDepth 20000 in
theorem ggJ2_indexOf_4cfef_J2_indexOfChar_4cfef : GoodIn wsJ2_indexOf_4cfef wsJ2_indexOfChar_4cfef := goodIn_r _ [12, 13, 14, 11, 15, 16, 17, 18, 19, 20, 21, 22, 23, 24, 25, 26, 27, 28, 29, 30, 31, 32, 33, 34, 35, 36] (by decide +kernel) (by decide +kernel)
set_option maxRecDepth 20000 in
theorem gJ2_indexOf_4cfef_J2_indexOfChar_4cfef : GoodIn wsJ2_indexOf_4cfef (va_wsS RJ2 228 yJ2_indexOfChar_4cfef wsJ2_indexOfChar_4cfef) := goodIn_app (goodIn_of _ (by decide +kernel)) ggJ2_indexOf_4cfef_J2_indexOfChar_4cfef
set_option maxRecDepth 20000 in
theorem ggJ2_indexOf_4cfef_J2_indexOfSupplementary_4cfef : GoodIn wsJ2_indexOf_4cfef wsJ2_indexOfSupplementary_4cfef := goodIn_r _ [39, 40, 41, 42, 43, 44, 45, 46, 47, 48, 49, 50, 51, 13, 14, 11, 15, 16, 17, 18, 19, 20, 21, 22, 23, 24, 25, 26, 27, 31, 32, 33, 34, 35, 36] (by decide +kernel) (by decide +kernel)
set_option maxRecDepth 20000 in
theorem gJ2_indexOf_4cfef_J2_indexOfSupplementary_4cfef : GoodIn wsJ2_indexOf_4cfef (va_wsS RJ2 232 yJ2_indexOfSupplementary_4cfef wsJ2_indexOfSupplementary_4cfef) := goodIn_app (goodIn_of _ (by decide +kernel)) ggJ2_indexOf_4cfef_J2_indexOfSupplementary_4cfef
theorem dJ2_indexOf_4cfef_0 : decode cJ2_indexOf_4cfef 0 = .ok (.iload_n 2, 1) := by decide +kernel
theorem dJ2_indexOf_4cfef_1 : decode cJ2_indexOf_4cfef 1 = .ok (.iconst 0, 1) := by decide +kernel
theorem dJ2_indexOf_4cfef_2 : decode cJ2_indexOf_4cfef 2 = .ok (.invokestatic 224, 3) := by decide +kernel
theorem dJ2_indexOf_4cfef_5 : decode cJ2_indexOf_4cfef 5 = .ok (.istore_n 2, 1) := by decide +kernel
theorem dJ2_indexOf_4cfef_6 : decode cJ2_indexOf_4cfef 6 = .ok (.iload_n 3, 1) := by decide +kernel
theorem dJ2_indexOf_4cfef_7 : decode cJ2_indexOf_4cfef 7 = .ok (.aload_n 0, 1) := by decide +kernel
theorem dJ2_indexOf_4cfef_8 : decode cJ2_indexOf_4cfef 8 = .ok (.arraylength, 1) := by decide +kernel
theorem dJ2_indexOf_4cfef_9 : decode cJ2_indexOf_4cfef 9 = .ok (.iconst 1, 1) := by decide +kernel
theorem dJ2_indexOf_4cfef_10 : decode cJ2_indexOf_4cfef 10 = .ok (.ishr, 1) := by decide +kernel
theorem dJ2_indexOf_4cfef_11 : decode cJ2_indexOf_4cfef 11 = .ok (.invokestatic 183, 3) := by decide +kernel
theorem dJ2_indexOf_4cfef_14 : decode cJ2_indexOf_4cfef 14 = .ok (.istore_n 3, 1) := by decide +kernel
theorem dJ2_indexOf_4cfef_15 : decode cJ2_indexOf_4cfef 15 = .ok (.iload_n 2, 1) := by decide +kernel
theorem dJ2_indexOf_4cfef_16 : decode cJ2_indexOf_4cfef 16 = .ok (.iload_n 3, 1) := by decide +kernel
theorem dJ2_indexOf_4cfef_17 : decode cJ2_indexOf_4cfef 17 = .ok (.if_icmp .lt 5, 3) := by decide +kernel
theorem dJ2_indexOf_4cfef_20 : decode cJ2_indexOf_4cfef 20 = .ok (.iconst (-1), 1) := by decide +kernel
theorem dJ2_indexOf_4cfef_21 : decode cJ2_indexOf_4cfef 21 = .ok (.ireturn, 1) := by decide +kernel
theorem dJ2_indexOf_4cfef_22 : decode cJ2_indexOf_4cfef 22 = .ok (.iload_n 1, 1) := by decide +kernel
theorem dJ2_indexOf_4cfef_23 : decode cJ2_indexOf_4cfef 23 = .ok (.ldc 227, 2) := by decide +kernel
theorem dJ2_indexOf_4cfef_25 : decode cJ2_indexOf_4cfef 25 = .ok (.if_icmp .ge 11, 3) := by decide +kernel
theorem dJ2_indexOf_4cfef_28 : decode cJ2_indexOf_4cfef 28 = .ok (.aload_n 0, 1) := by decide +kernel
theorem dJ2_indexOf_4cfef_29 : decode cJ2_indexOf_4cfef 29 = .ok (.iload_n 1, 1) := by decide +kernel
theorem dJ2_indexOf_4cfef_30 : decode cJ2_indexOf_4cfef 30 = .ok (.iload_n 2, 1) := by decide +kernel
theorem dJ2_indexOf_4cfef_31 : decode cJ2_indexOf_4cfef 31 = .ok (.iload_n 3, 1) := by decide +kernel
theorem dJ2_indexOf_4cfef_32 : decode cJ2_indexOf_4cfef 32 = .ok (.invokestatic 228, 3) := by decide +kernel
theorem dJ2_indexOf_4cfef_35 : decode cJ2_indexOf_4cfef 35 = .ok (.ireturn, 1) := by decide +kernel
theorem dJ2_indexOf_4cfef_36 : decode cJ2_indexOf_4cfef 36 = .ok (.aload_n 0, 1) := by decide +kernel
theorem dJ2_indexOf_4cfef_37 : decode cJ2_indexOf_4cfef 37 = .ok (.iload_n 1, 1) := by decide +kernel
theorem dJ2_indexOf_4cfef_38 : decode cJ2_indexOf_4cfef 38 = .ok (.iload_n 2, 1) := by decide +kernel
theorem dJ2_indexOf_4cfef_39 : decode cJ2_indexOf_4cfef 39 = .ok (.iload_n 3, 1) := by decide +kernel
theorem dJ2_indexOf_4cfef_40 : decode cJ2_indexOf_4cfef 40 = .ok (.invokestatic 232, 3) := by decide +kernel
theorem dJ2_indexOf_4cfef_43 : decode cJ2_indexOf_4cfef 43 = .ok (.ireturn, 1) := by decide +kernel
set_option maxRecDepth 20000 in
theorem ggJ2_indexOfChar_4cfef_J2_checkBoundsBeginEnd_d044e : GoodIn wsJ2_indexOfChar_4cfef wsJ2_checkBoundsBeginEnd_d044e := goodIn_r _ [4, 5, 6, 3, 7, 8, 9, 10, 11, 12, 13, 14, 15, 16] (by decide +kernel) (by decide +kernel)
set_option maxRecDepth 20000 in
theorem gJ2_indexOfChar_4cfef_J2_checkBoundsBeginEnd_d044e : GoodIn wsJ2_indexOfChar_4cfef (va_wsS RJ2 96 yJ2_checkBoundsBeginEnd_d044e wsJ2_checkBoundsBeginEnd_d044e) := goodIn_app (goodIn_of _ (by decide +kernel)) ggJ2_indexOfChar_4cfef_J2_checkBoundsBeginEnd_d044e
set_option maxRecDepth 20000 in
theorem ggJ2_indexOfChar_4cfef_J2_indexOfCharUnsafe_4cfef : GoodIn wsJ2_indexOfChar_4cfef wsJ2_indexOfCharUnsafe_4cfef := goodIn_r _ [19, 20, 21, 3, 22, 23, 24, 25, 5, 6, 7] (by decide +kernel) (by decide +kernel)
set_option maxRecDepth 20000 in
theorem gJ2_indexOfChar_4cfef_J2_indexOfCharUnsafe_4cfef : GoodIn wsJ2_indexOfChar_4cfef (va_wsS RJ2 244 yJ2_indexOfCharUnsafe_4cfef wsJ2_indexOfCharUnsafe_4cfef) := goodIn_app (goodIn_of _ (by decide +kernel)) ggJ2_indexOfChar_4cfef_J2_indexOfCharUnsafe_4cfef
theorem dJ2_indexOfChar_4cfef_0 : decode cJ2_indexOfChar_4cfef 0 = .ok (.iload_n 2, 1) := by decide +kernel
theorem dJ2_indexOfChar_4cfef_1 : decode cJ2_indexOfChar_4cfef 1 = .ok (.iload_n 3, 1) := by decide +kernel
theorem dJ2_indexOfChar_4cfef_2 : decode cJ2_indexOfChar_4cfef 2 = .ok (.aload_n 0, 1) := by decide +kernel
theorem dJ2_indexOfChar_4cfef_3 : decode cJ2_indexOfChar_4cfef 3 = .ok (.invokestatic 96, 3) := by decide +kernel
theorem dJ2_indexOfChar_4cfef_6 : decode cJ2_indexOfChar_4cfef 6 = .ok (.aload_n 0, 1) := by decide +kernel
theorem dJ2_indexOfChar_4cfef_7 : decode cJ2_indexOfChar_4cfef 7 = .ok (.iload_n 1, 1) := by decide +kernel
theorem dJ2_indexOfChar_4cfef_8 : decode cJ2_indexOfChar_4cfef 8 = .ok (.iload_n 2, 1) := by decide +kernel
theorem dJ2_indexOfChar_4cfef_9 : decode cJ2_indexOfChar_4cfef 9 = .ok (.iload_n 3, 1) := by decide +kernel
theorem dJ2_indexOfChar_4cfef_10 : decode cJ2_indexOfChar_4cfef 10 = .ok (.invokestatic 244, 3) := by decide +kernel
theorem dJ2_indexOfChar_4cfef_13 : decode cJ2_indexOfChar_4cfef 13 = .ok (.ireturn, 1) := by decide +kernel
set_option maxRecDepth 20000 in
theorem ggJ2_indexOfCharUnsafe_4cfef_J2_getChar_3b067 : GoodIn wsJ2_indexOfCharUnsafe_4cfef wsJ2_getChar_3b067 := goodIn_r _ [4, 5, 6, 7, 8, 9, 3, 10] (by decide +kernel) (by decide +kernel)
set_option maxRecDepth 20000 in
theorem gJ2_indexOfCharUnsafe_4cfef_J2_getChar_3b067 : GoodIn wsJ2_indexOfCharUnsafe_4cfef (va_wsS RJ2 71 yJ2_getChar_3b067 wsJ2_getChar_3b067) := goodIn_app (goodIn_of _ (by decide +kernel)) ggJ2_indexOfCharUnsafe_4cfef_J2_getChar_3b067
theorem dJ2_indexOfCharUnsafe_4cfef_0 : decode cJ2_indexOfCharUnsafe_4cfef 0 = .ok (.iload_n 2, 1) := by decide +kernel
theorem dJ2_indexOfCharUnsafe_4cfef_1 : decode cJ2_indexOfCharUnsafe_4cfef 1 = .ok (.istore 4, 2) := by decide +kernel
theorem dJ2_indexOfCharUnsafe_4cfef_3 : decode cJ2_indexOfCharUnsafe_4cfef 3 = .ok (.iload 4, 2) := by decide +kernel
theorem dJ2_indexOfCharUnsafe_4cfef_5 : decode cJ2_indexOfCharUnsafe_4cfef 5 = .ok (.iload_n 3, 1) := by decide +kernel
theorem dJ2_indexOfCharUnsafe_4cfef_6 : decode cJ2_indexOfCharUnsafe_4cfef 6 = .ok (.if_icmp .ge 22, 3) := by decide +kernel
theorem dJ2_indexOfCharUnsafe_4cfef_9 : decode cJ2_indexOfCharUnsafe_4cfef 9 = .ok (.aload_n 0, 1) := by decide +kernel
theorem dJ2_indexOfCharUnsafe_4cfef_10 : decode cJ2_indexOfCharUnsafe_4cfef 10 = .ok (.iload 4, 2) := by decide +kernel
theorem dJ2_indexOfCharUnsafe_4cfef_12 : decode cJ2_indexOfCharUnsafe_4cfef 12 = .ok (.invokestatic 71, 3) := by decide +kernel
theorem dJ2_indexOfCharUnsafe_4cfef_15 : decode cJ2_indexOfCharUnsafe_4cfef 15 = .ok (.iload_n 1, 1) := by decide +kernel
theorem dJ2_indexOfCharUnsafe_4cfef_16 : decode cJ2_indexOfCharUnsafe_4cfef 16 = .ok (.if_icmp .ne 6, 3) := by decide +kernel
theorem dJ2_indexOfCharUnsafe_4cfef_19 : decode cJ2_indexOfCharUnsafe_4cfef 19 = .ok (.iload 4, 2) := by decide +kernel
theorem dJ2_indexOfCharUnsafe_4cfef_21 : decode cJ2_indexOfCharUnsafe_4cfef 21 = .ok (.ireturn, 1) := by decide +kernel
theorem dJ2_indexOfCharUnsafe_4cfef_22 : decode cJ2_indexOfCharUnsafe_4cfef 22 = .ok (.iinc 4 1, 3) := by decide +kernel
theorem dJ2_indexOfCharUnsafe_4cfef_25 : decode cJ2_indexOfCharUnsafe_4cfef 25 = .ok (.goto (-22), 3) := by decide +kernel
theorem dJ2_indexOfCharUnsafe_4cfef_28 : decode cJ2_indexOfCharUnsafe_4cfef 28 = .ok (.iconst (-1), 1) := by decide +kernel
theorem dJ2_indexOfCharUnsafe_4cfef_29 : decode cJ2_indexOfCharUnsafe_4cfef 29 = .ok (.ireturn, 1) := by decide +kernel
set_option maxRecDepth 20000 in
theorem ggJ2_indexOfSupplementary_4cfef_J11_isValidCodePoint_9a6ad : GoodIn wsJ2_indexOfSupplementary_4cfef wsJ11_isValidCodePoint_9a6ad := goodIn_r _ [4] (by decide +kernel) (by decide +kernel)
set_option maxRecDepth 20000 in
theorem gJ2_indexOfSupplementary_4cfef_J11_isValidCodePoint_9a6ad : GoodIn wsJ2_indexOfSupplementary_4cfef (va_wsS RJ2 164 yJ11_isValidCodePoint_9a6ad wsJ11_isValidCodePoint_9a6ad) := goodIn_app (goodIn_of _ (by decide +kernel)) ggJ2_indexOfSupplementary_4cfef_J11_isValidCodePoint_9a6ad
set_option maxRecDepth 20000 in
theorem ggJ2_indexOfSupplementary_4cfef_J11_highSurrogate_5068e : GoodIn wsJ2_indexOfSupplementary_4cfef wsJ11_highSurrogate_5068e := goodIn_r _ [7, 8] (by decide +kernel) (by decide +kernel)
set_option maxRecDepth 20000 in
theorem gJ2_indexOfSupplementary_4cfef_J11_highSurrogate_5068e : GoodIn wsJ2_indexOfSupplementary_4cfef (va_wsS RJ2 157 yJ11_highSurrogate_5068e wsJ11_highSurrogate_5068e) := goodIn_app (goodIn_of _ (by decide +kernel)) ggJ2_indexOfSupplementary_4cfef_J11_highSurrogate_5068e
set_option maxRecDepth 20000 in
theorem ggJ2_indexOfSupplementary_4cfef_J11_lowSurrogate_5068e : GoodIn wsJ2_indexOfSupplementary_4cfef wsJ11_lowSurrogate_5068e := goodIn_r _ [11, 12] (by decide +kernel) (by decide +kernel)
set_option maxRecDepth 20000 in
theorem gJ2_indexOfSupplementary_4cfef_J11_lowSurrogate_5068e : GoodIn wsJ2_indexOfSupplementary_4cfef (va_wsS RJ2 161 yJ11_lowSurrogate_5068e wsJ11_lowSurrogate_5068e) := goodIn_app (goodIn_of _ (by decide +kernel)) ggJ2_indexOfSupplementary_4cfef_J11_lowSurrogate_5068e
set_option maxRecDepth 20000 in
theorem ggJ2_indexOfSupplementary_4cfef_J2_checkBoundsBeginEnd_d044e : GoodIn wsJ2_indexOfSupplementary_4cfef wsJ2_checkBoundsBeginEnd_d044e := goodIn_r _ [16, 17, 18, 15, 19, 20, 21, 22, 23, 24, 25, 26, 27, 28] (by decide +kernel) (by decide +kernel)
set_option maxRecDepth 20000 in
theorem gJ2_indexOfSupplementary_4cfef_J2_checkBoundsBeginEnd_d044e : GoodIn wsJ2_indexOfSupplementary_4cfef (va_wsS RJ2 96 yJ2_checkBoundsBeginEnd_d044e wsJ2_checkBoundsBeginEnd_d044e) := goodIn_app (goodIn_of _ (by decide +kernel)) ggJ2_indexOfSupplementary_4cfef_J2_checkBoundsBeginEnd_d044e
set_option maxRecDepth 20000 in
theorem ggJ2_indexOfSupplementary_4cfef_J2_getChar_3b067 : GoodIn wsJ2_indexOfSupplementary_4cfef wsJ2_getChar_3b067 := goodIn_r _ [31, 32, 33, 34, 17, 18, 15, 19] (by decide +kernel) (by decide +kernel)
set_option maxRecDepth 20000 in
theorem gJ2_indexOfSupplementary_4cfef_J2_getChar_3b067 : GoodIn wsJ2_indexOfSupplementary_4cfef (va_wsS RJ2 71 yJ2_getChar_3b067 wsJ2_getChar_3b067) := goodIn_app (goodIn_of _ (by decide +kernel)) ggJ2_indexOfSupplementary_4cfef_J2_getChar_3b067
theorem dJ2_indexOfSupplementary_4cfef_0 : decode cJ2_indexOfSupplementary_4cfef 0 = .ok (.iload_n 1, 1) := by decide +kernel
theorem dJ2_indexOfSupplementary_4cfef_1 : decode cJ2_indexOfSupplementary_4cfef 1 = .ok (.invokestatic 164, 3) := by decide +kernel
theorem dJ2_indexOfSupplementary_4cfef_4 : decode cJ2_indexOfSupplementary_4cfef 4 = .ok (.ifCond .eq 65, 3) := by decide +kernel
theorem dJ2_indexOfSupplementary_4cfef_7 : decode cJ2_indexOfSupplementary_4cfef 7 = .ok (.iload_n 1, 1) := by decide +kernel
theorem dJ2_indexOfSupplementary_4cfef_8 : decode cJ2_indexOfSupplementary_4cfef 8 = .ok (.invokestatic 157, 3) := by decide +kernel
theorem dJ2_indexOfSupplementary_4cfef_11 : decode cJ2_indexOfSupplementary_4cfef 11 = .ok (.istore 4, 2) := by decide +kernel
theorem dJ2_indexOfSupplementary_4cfef_13 : decode cJ2_indexOfSupplementary_4cfef 13 = .ok (.iload_n 1, 1) := by decide +kernel
theorem dJ2_indexOfSupplementary_4cfef_14 : decode cJ2_indexOfSupplementary_4cfef 14 = .ok (.invokestatic 161, 3) := by decide +kernel
theorem dJ2_indexOfSupplementary_4cfef_17 : decode cJ2_indexOfSupplementary_4cfef 17 = .ok (.istore 5, 2) := by decide +kernel
theorem dJ2_indexOfSupplementary_4cfef_19 : decode cJ2_indexOfSupplementary_4cfef 19 = .ok (.iload_n 2, 1) := by decide +kernel
theorem dJ2_indexOfSupplementary_4cfef_20 : decode cJ2_indexOfSupplementary_4cfef 20 = .ok (.iload_n 3, 1) := by decide +kernel
theorem dJ2_indexOfSupplementary_4cfef_21 : decode cJ2_indexOfSupplementary_4cfef 21 = .ok (.aload_n 0, 1) := by decide +kernel
theorem dJ2_indexOfSupplementary_4cfef_22 : decode cJ2_indexOfSupplementary_4cfef 22 = .ok (.invokestatic 96, 3) := by decide +kernel
theorem dJ2_indexOfSupplementary_4cfef_25 : decode cJ2_indexOfSupplementary_4cfef 25 = .ok (.iload_n 2, 1) := by decide +kernel
theorem dJ2_indexOfSupplementary_4cfef_26 : decode cJ2_indexOfSupplementary_4cfef 26 = .ok (.istore 6, 2) := by decide +kernel
theorem dJ2_indexOfSupplementary_4cfef_28 : decode cJ2_indexOfSupplementary_4cfef 28 = .ok (.iload 6, 2) := by decide +kernel
theorem dJ2_indexOfSupplementary_4cfef_30 : decode cJ2_indexOfSupplementary_4cfef 30 = .ok (.iload_n 3, 1) := by decide +kernel
theorem dJ2_indexOfSupplementary_4cfef_31 : decode cJ2_indexOfSupplementary_4cfef 31 = .ok (.iconst 1, 1) := by decide +kernel
theorem dJ2_indexOfSupplementary_4cfef_32 : decode cJ2_indexOfSupplementary_4cfef 32 = .ok (.isub, 1) := by decide +kernel
theorem dJ2_indexOfSupplementary_4cfef_33 : decode cJ2_indexOfSupplementary_4cfef 33 = .ok (.if_icmp .ge 36, 3) := by decide +kernel
theorem dJ2_indexOfSupplementary_4cfef_36 : decode cJ2_indexOfSupplementary_4cfef 36 = .ok (.aload_n 0, 1) := by decide +kernel
theorem dJ2_indexOfSupplementary_4cfef_37 : decode cJ2_indexOfSupplementary_4cfef 37 = .ok (.iload 6, 2) := by decide +kernel
theorem dJ2_indexOfSupplementary_4cfef_39 : decode cJ2_indexOfSupplementary_4cfef 39 = .ok (.invokestatic 71, 3) := by decide +kernel
theorem dJ2_indexOfSupplementary_4cfef_42 : decode cJ2_indexOfSupplementary_4cfef 42 = .ok (.iload 4, 2) := by decide +kernel
theorem dJ2_indexOfSupplementary_4cfef_44 : decode cJ2_indexOfSupplementary_4cfef 44 = .ok (.if_icmp .ne 19, 3) := by decide +kernel
theorem dJ2_indexOfSupplementary_4cfef_47 : decode cJ2_indexOfSupplementary_4cfef 47 = .ok (.aload_n 0, 1) := by decide +kernel
theorem dJ2_indexOfSupplementary_4cfef_48 : decode cJ2_indexOfSupplementary_4cfef 48 = .ok (.iload 6, 2) := by decide +kernel
theorem dJ2_indexOfSupplementary_4cfef_50 : decode cJ2_indexOfSupplementary_4cfef 50 = .ok (.iconst 1, 1) := by decide +kernel
theorem dJ2_indexOfSupplementary_4cfef_51 : decode cJ2_indexOfSupplementary_4cfef 51 = .ok (.iadd, 1) := by decide +kernel
theorem dJ2_indexOfSupplementary_4cfef_52 : decode cJ2_indexOfSupplementary_4cfef 52 = .ok (.invokestatic 71, 3) := by decide +kernel
theorem dJ2_indexOfSupplementary_4cfef_55 : decode cJ2_indexOfSupplementary_4cfef 55 = .ok (.iload 5, 2) := by decide +kernel
theorem dJ2_indexOfSupplementary_4cfef_57 : decode cJ2_indexOfSupplementary_4cfef 57 = .ok (.if_icmp .ne 6, 3) := by decide +kernel
theorem dJ2_indexOfSupplementary_4cfef_60 : decode cJ2_indexOfSupplementary_4cfef 60 = .ok (.iload 6, 2) := by decide +kernel
theorem dJ2_indexOfSupplementary_4cfef_62 : decode cJ2_indexOfSupplementary_4cfef 62 = .ok (.ireturn, 1) := by decide +kernel
theorem dJ2_indexOfSupplementary_4cfef_63 : decode cJ2_indexOfSupplementary_4cfef 63 = .ok (.iinc 6 1, 3) := by decide +kernel
theorem dJ2_indexOfSupplementary_4cfef_66 : decode cJ2_indexOfSupplementary_4cfef 66 = .ok (.goto (-38), 3) := by decide +kernel
theorem dJ2_indexOfSupplementary_4cfef_69 : decode cJ2_indexOfSupplementary_4cfef 69 = .ok (.iconst (-1), 1) := by decide +kernel
theorem dJ2_indexOfSupplementary_4cfef_70 : decode cJ2_indexOfSupplementary_4cfef 70 = .ok (.ireturn, 1) := by decide +kernel
set_option maxRecDepth 20000 in
theorem ggJ2_checkBoundsBeginEnd_d044e_J2_length_9d52b : GoodIn wsJ2_checkBoundsBeginEnd_d044e wsJ2_length_9d52b := goodIn_r _ [4] (by decide +kernel) (by decide +kernel)
set_option maxRecDepth 20000 in
theorem gJ2_checkBoundsBeginEnd_d044e_J2_length_9d52b : GoodIn wsJ2_checkBoundsBeginEnd_d044e (va_wsS RJ2 48 yJ2_length_9d52b wsJ2_length_9d52b) := goodIn_app (goodIn_of _ (by decide +kernel)) ggJ2_checkBoundsBeginEnd_d044e_J2_length_9d52b
set_option maxRecDepth 20000 in
theorem ggJ2_checkBoundsBeginEnd_d044e_J0_checkBoundsBeginEnd_23922 : GoodIn wsJ2_checkBoundsBeginEnd_d044e wsJ0_checkBoundsBeginEnd_23922 := goodIn_r _ [8, 9, 10, 11, 12, 13] (by decide +kernel) (by decide +kernel)
set_option maxRecDepth 20000 in
theorem gJ2_checkBoundsBeginEnd_d044e_J0_checkBoundsBeginEnd_23922 : GoodIn wsJ2_checkBoundsBeginEnd_d044e (va_wsS RJ2 241 yJ0_checkBoundsBeginEnd_23922 wsJ0_checkBoundsBeginEnd_23922) := goodIn_app (goodIn_of _ (by decide +kernel)) ggJ2_checkBoundsBeginEnd_d044e_J0_checkBoundsBeginEnd_23922
theorem dJ2_checkBoundsBeginEnd_d044e_0 : decode cJ2_checkBoundsBeginEnd_d044e 0 = .ok (.iload_n 0, 1) := by decide +kernel
theorem dJ2_checkBoundsBeginEnd_d044e_1 : decode cJ2_checkBoundsBeginEnd_d044e 1 = .ok (.iload_n 1, 1) := by decide +kernel
theorem dJ2_checkBoundsBeginEnd_d044e_2 : decode cJ2_checkBoundsBeginEnd_d044e 2 = .ok (.aload_n 2, 1) := by decide +kernel
theorem dJ2_checkBoundsBeginEnd_d044e_3 : decode cJ2_checkBoundsBeginEnd_d044e 3 = .ok (.invokestatic 48, 3) := by decide +kernel
theorem dJ2_checkBoundsBeginEnd_d044e_6 : decode cJ2_checkBoundsBeginEnd_d044e 6 = .ok (.invokestatic 241, 3) := by decide +kernel
theorem dJ2_checkBoundsBeginEnd_d044e_9 : decode cJ2_checkBoundsBeginEnd_d044e 9 = .ok (.return_, 1) := by decide +kernel
theorem dJ3_checkFromToIndex_8c36e_0 : decode cJ3_checkFromToIndex_8c36e 0 = .ok (.iload_n 0, 1) := by decide +kernel
theorem dJ3_checkFromToIndex_8c36e_1 : decode cJ3_checkFromToIndex_8c36e 1 = .ok (.ifCond .lt 13, 3) := by decide +kernel
theorem dJ3_checkFromToIndex_8c36e_4 : decode cJ3_checkFromToIndex_8c36e 4 = .ok (.iload_n 0, 1) := by decide +kernel
theorem dJ3_checkFromToIndex_8c36e_5 : decode cJ3_checkFromToIndex_8c36e 5 = .ok (.iload_n 1, 1) := by decide +kernel
theorem dJ3_checkFromToIndex_8c36e_6 : decode cJ3_checkFromToIndex_8c36e 6 = .ok (.if_icmp .gt 8, 3) := by decide +kernel
theorem dJ3_checkFromToIndex_8c36e_9 : decode cJ3_checkFromToIndex_8c36e 9 = .ok (.iload_n 1, 1) := by decide +kernel
theorem dJ3_checkFromToIndex_8c36e_10 : decode cJ3_checkFromToIndex_8c36e 10 = .ok (.iload_n 2, 1) := by decide +kernel
theorem dJ3_checkFromToIndex_8c36e_11 : decode cJ3_checkFromToIndex_8c36e 11 = .ok (.if_icmp .le 11, 3) := by decide +kernel
theorem dJ3_checkFromToIndex_8c36e_14 : decode cJ3_checkFromToIndex_8c36e 14 = .ok (.aload_n 3, 1) := by decide +kernel
theorem dJ3_checkFromToIndex_8c36e_15 : decode cJ3_checkFromToIndex_8c36e 15 = .ok (.iload_n 0, 1) := by decide +kernel
theorem dJ3_checkFromToIndex_8c36e_16 : decode cJ3_checkFromToIndex_8c36e 16 = .ok (.iload_n 1, 1) := by decide +kernel
theorem dJ3_checkFromToIndex_8c36e_17 : decode cJ3_checkFromToIndex_8c36e 17 = .ok (.iload_n 2, 1) := by decide +kernel
theorem dJ3_checkFromToIndex_8c36e_18 : decode cJ3_checkFromToIndex_8c36e 18 = .ok (.invokestatic 99, 3) := by decide +kernel
theorem dJ3_checkFromToIndex_8c36e_21 : decode cJ3_checkFromToIndex_8c36e 21 = .ok (.athrow, 1) := by decide +kernel
theorem dJ3_checkFromToIndex_8c36e_22 : decode cJ3_checkFromToIndex_8c36e 22 = .ok (.iload_n 0, 1) := by decide +kernel
theorem dJ3_checkFromToIndex_8c36e_23 : decode cJ3_checkFromToIndex_8c36e 23 = .ok (.ireturn, 1) := by decide +kernel
abbrev vwCl : List vw_C := [(RX0, TX0, 4), (RX1, TX1, 11), (RX2, TX2, 5), (RX3, TX3, 6), (RX4, TX4, 4), (RX5, TX5, 4), (RX6, TX6, 6), (RX7, TX7, 17)]
