set_option maxRecDepth 20000 in
theorem ggX1_passIf_X1_skillAt : GoodIn wsX1_passIf wsX1_skillAt := goodIn_r _ [10, 11, 12, 13, 14, 15, 16, 3, 4, 5, 17, 18, 9, 19, 20, 21, 22, 23, 24, 25, 26, 27, 28, 29, 30, 31, 32, 33] (by decide +kernel) (by decide +kernel)
set_option maxRecDepth 20000 in
theorem gX1_passIf_X1_skillAt : GoodIn wsX1_passIf (wsV RX1 109 RX1 yX1_skillAt wsX1_skillAt) := goodIn_app (goodIn_of _ (by decide +kernel)) ggX1_passIf_X1_skillAt
theorem dX1_passIf_0 : decode cX1_passIf 0 = .ok (.ldc 108, 2) := by decide +kernel
theorem dX1_passIf_2 : decode cX1_passIf 2 = .ok (.istore 6, 2) := by decide +kernel
theorem dX1_passIf_4 : decode cX1_passIf 4 = .ok (.iconst 0, 1) := by decide +kernel
theorem dX1_passIf_5 : decode cX1_passIf 5 = .ok (.istore 7, 2) := by decide +kernel
theorem dX1_passIf_7 : decode cX1_passIf 7 = .ok (.iload 7, 2) := by decide +kernel
theorem dX1_passIf_9 : decode cX1_passIf 9 = .ok (.bipush 6, 2) := by decide +kernel
theorem dX1_passIf_11 : decode cX1_passIf 11 = .ok (.if_icmp .ge 59, 3) := by decide +kernel
theorem dX1_passIf_14 : decode cX1_passIf 14 = .ok (.aload_n 0, 1) := by decide +kernel
theorem dX1_passIf_15 : decode cX1_passIf 15 = .ok (.getfield 21, 3) := by decide +kernel
theorem dX1_passIf_18 : decode cX1_passIf 18 = .ok (.iload_n 2, 1) := by decide +kernel
theorem dX1_passIf_19 : decode cX1_passIf 19 = .ok (.iaload, 1) := by decide +kernel
theorem dX1_passIf_20 : decode cX1_passIf 20 = .ok (.iload 7, 2) := by decide +kernel
theorem dX1_passIf_22 : decode cX1_passIf 22 = .ok (.invokestatic 82, 3) := by decide +kernel
theorem dX1_passIf_25 : decode cX1_passIf 25 = .ok (.ifCond .eq 39, 3) := by decide +kernel
theorem dX1_passIf_28 : decode cX1_passIf 28 = .ok (.aload_n 0, 1) := by decide +kernel
theorem dX1_passIf_29 : decode cX1_passIf 29 = .ok (.iload_n 1, 1) := by decide +kernel
theorem dX1_passIf_30 : decode cX1_passIf 30 = .ok (.iload 7, 2) := by decide +kernel
theorem dX1_passIf_32 : decode cX1_passIf 32 = .ok (.iload 4, 2) := by decide +kernel
theorem dX1_passIf_34 : decode cX1_passIf 34 = .ok (.iload 5, 2) := by decide +kernel
theorem dX1_passIf_36 : decode cX1_passIf 36 = .ok (.invokevirtual 109, 3) := by decide +kernel
theorem dX1_passIf_39 : decode cX1_passIf 39 = .ok (.istore 8, 2) := by decide +kernel
theorem dX1_passIf_41 : decode cX1_passIf 41 = .ok (.iload 6, 2) := by decide +kernel
theorem dX1_passIf_43 : decode cX1_passIf 43 = .ok (.iload 8, 2) := by decide +kernel
theorem dX1_passIf_45 : decode cX1_passIf 45 = .ok (.iload_n 3, 1) := by decide +kernel
theorem dX1_passIf_46 : decode cX1_passIf 46 = .ok (.imul, 1) := by decide +kernel
theorem dX1_passIf_47 : decode cX1_passIf 47 = .ok (.bipush 10, 2) := by decide +kernel
theorem dX1_passIf_49 : decode cX1_passIf 49 = .ok (.iload 8, 2) := by decide +kernel
theorem dX1_passIf_51 : decode cX1_passIf 51 = .ok (.isub, 1) := by decide +kernel
theorem dX1_passIf_52 : decode cX1_passIf 52 = .ok (.bipush 10, 2) := by decide +kernel
theorem dX1_passIf_54 : decode cX1_passIf 54 = .ok (.iload_n 3, 1) := by decide +kernel
theorem dX1_passIf_55 : decode cX1_passIf 55 = .ok (.isub, 1) := by decide +kernel
theorem dX1_passIf_56 : decode cX1_passIf 56 = .ok (.imul, 1) := by decide +kernel
theorem dX1_passIf_57 : decode cX1_passIf 57 = .ok (.iadd, 1) := by decide +kernel
theorem dX1_passIf_58 : decode cX1_passIf 58 = .ok (.imul, 1) := by decide +kernel
theorem dX1_passIf_59 : decode cX1_passIf 59 = .ok (.bipush 100, 2) := by decide +kernel
theorem dX1_passIf_61 : decode cX1_passIf 61 = .ok (.idiv, 1) := by decide +kernel
theorem dX1_passIf_62 : decode cX1_passIf 62 = .ok (.istore 6, 2) := by decide +kernel
theorem dX1_passIf_64 : decode cX1_passIf 64 = .ok (.iinc 7 1, 3) := by decide +kernel
theorem dX1_passIf_67 : decode cX1_passIf 67 = .ok (.goto (-60), 3) := by decide +kernel
theorem dX1_passIf_70 : decode cX1_passIf 70 = .ok (.iload 6, 2) := by decide +kernel
theorem dX1_passIf_72 : decode cX1_passIf 72 = .ok (.ireturn, 1) := by decide +kernel
theorem dX2_init_0 : decode cX2_init 0 = .ok (.aload_n 0, 1) := by decide +kernel
theorem dX2_init_1 : decode cX2_init 1 = .ok (.invokespecial 3, 3) := by decide +kernel
theorem dX2_init_4 : decode cX2_init 4 = .ok (.aload_n 0, 1) := by decide +kernel
theorem dX2_init_5 : decode cX2_init 5 = .ok (.bipush 36, 2) := by decide +kernel
theorem dX2_init_7 : decode cX2_init 7 = .ok (.newarray .int, 2) := by decide +kernel
theorem dX2_init_9 : decode cX2_init 9 = .ok (.putfield 9, 3) := by decide +kernel
theorem dX2_init_12 : decode cX2_init 12 = .ok (.aload_n 0, 1) := by decide +kernel
theorem dX2_init_13 : decode cX2_init 13 = .ok (.bipush 64, 2) := by decide +kernel
theorem dX2_init_15 : decode cX2_init 15 = .ok (.newarray .int, 2) := by decide +kernel
theorem dX2_init_17 : decode cX2_init 17 = .ok (.putfield 15, 3) := by decide +kernel
theorem dX2_init_20 : decode cX2_init 20 = .ok (.aload_n 0, 1) := by decide +kernel
theorem dX2_init_21 : decode cX2_init 21 = .ok (.bipush 36, 2) := by decide +kernel
theorem dX2_init_23 : decode cX2_init 23 = .ok (.newarray .int, 2) := by decide +kernel
theorem dX2_init_25 : decode cX2_init 25 = .ok (.putfield 18, 3) := by decide +kernel
theorem dX2_init_28 : decode cX2_init 28 = .ok (.aload_n 0, 1) := by decide +kernel
theorem dX2_init_29 : decode cX2_init 29 = .ok (.bipush 6, 2) := by decide +kernel
theorem dX2_init_31 : decode cX2_init 31 = .ok (.newarray .long, 2) := by decide +kernel
theorem dX2_init_33 : decode cX2_init 33 = .ok (.putfield 21, 3) := by decide +kernel
theorem dX2_init_36 : decode cX2_init 36 = .ok (.aload_n 0, 1) := by decide +kernel
theorem dX2_init_37 : decode cX2_init 37 = .ok (.aload_n 1, 1) := by decide +kernel
theorem dX2_init_38 : decode cX2_init 38 = .ok (.putfield 25, 3) := by decide +kernel
theorem dX2_init_41 : decode cX2_init 41 = .ok (.return_, 1) := by decide +kernel
theorem dX2_wrongOf_0 : decode cX2_wrongOf 0 = .ok (.aload_n 0, 1) := by decide +kernel
theorem dX2_wrongOf_1 : decode cX2_wrongOf 1 = .ok (.getfield 25, 3) := by decide +kernel
theorem dX2_wrongOf_4 : decode cX2_wrongOf 4 = .ok (.getfield 29, 3) := by decide +kernel
theorem dX2_wrongOf_7 : decode cX2_wrongOf 7 = .ok (.iload_n 1, 1) := by decide +kernel
theorem dX2_wrongOf_8 : decode cX2_wrongOf 8 = .ok (.iaload, 1) := by decide +kernel
theorem dX2_wrongOf_9 : decode cX2_wrongOf 9 = .ok (.ifCond .ne 10, 3) := by decide +kernel
theorem dX2_wrongOf_12 : decode cX2_wrongOf 12 = .ok (.ldc 34, 2) := by decide +kernel
theorem dX2_wrongOf_14 : decode cX2_wrongOf 14 = .ok (.iload_n 2, 1) := by decide +kernel
theorem dX2_wrongOf_15 : decode cX2_wrongOf 15 = .ok (.isub, 1) := by decide +kernel
theorem dX2_wrongOf_16 : decode cX2_wrongOf 16 = .ok (.goto 4, 3) := by decide +kernel
theorem dX2_wrongOf_19 : decode cX2_wrongOf 19 = .ok (.iload_n 2, 1) := by decide +kernel
theorem dX2_wrongOf_20 : decode cX2_wrongOf 20 = .ok (.ireturn, 1) := by decide +kernel
set_option maxRecDepth 20000 in
theorem ggX2_wrongsBy_X1_passNow : GoodIn wsX2_wrongsBy wsX1_passNow := goodIn_r _ [9, 10, 11, 12, 13, 14, 8, 15, 16, 17, 18, 19, 20, 21, 22, 23, 24, 25, 26, 27, 28, 29, 30, 31, 32, 33, 34, 35, 36, 37, 38, 39, 40, 41, 42, 43, 44, 45, 46, 47, 48, 61, 62, 63, 64, 65, 66, 67, 68, 69, 70, 71, 72, 73, 74, 75, 76, 77] (by decide +kernel) (by decide +kernel)
set_option maxRecDepth 20000 in
theorem gX2_wrongsBy_X1_passNow : GoodIn wsX2_wrongsBy (wsV RX2 48 RX1 yX1_passNow wsX1_passNow) := goodIn_app (goodIn_of _ (by decide +kernel)) ggX2_wrongsBy_X1_passNow
set_option maxRecDepth 20000 in
theorem ggX2_wrongsBy_X2_wrongOf : GoodIn wsX2_wrongsBy wsX2_wrongOf := goodIn_r _ [53, 1, 54, 55, 56, 57, 58, 59, 60, 61, 62, 63, 64, 65, 66, 67, 68, 69, 70, 71] (by decide +kernel) (by decide +kernel)
set_option maxRecDepth 20000 in
theorem gX2_wrongsBy_X2_wrongOf : GoodIn wsX2_wrongsBy (wsV RX2 52 RX2 yX2_wrongOf wsX2_wrongOf) := goodIn_app (goodIn_of _ (by decide +kernel)) ggX2_wrongsBy_X2_wrongOf
theorem dX2_wrongsBy_0 : decode cX2_wrongsBy 0 = .ok (.iconst 0, 1) := by decide +kernel
theorem dX2_wrongsBy_1 : decode cX2_wrongsBy 1 = .ok (.istore_n 2, 1) := by decide +kernel
theorem dX2_wrongsBy_2 : decode cX2_wrongsBy 2 = .ok (.iconst 0, 1) := by decide +kernel
theorem dX2_wrongsBy_3 : decode cX2_wrongsBy 3 = .ok (.istore_n 3, 1) := by decide +kernel
theorem dX2_wrongsBy_4 : decode cX2_wrongsBy 4 = .ok (.iload_n 3, 1) := by decide +kernel
theorem dX2_wrongsBy_5 : decode cX2_wrongsBy 5 = .ok (.aload_n 0, 1) := by decide +kernel
theorem dX2_wrongsBy_6 : decode cX2_wrongsBy 6 = .ok (.getfield 25, 3) := by decide +kernel
theorem dX2_wrongsBy_9 : decode cX2_wrongsBy 9 = .ok (.getfield 35, 3) := by decide +kernel
theorem dX2_wrongsBy_12 : decode cX2_wrongsBy 12 = .ok (.if_icmp .ge 41, 3) := by decide +kernel
theorem dX2_wrongsBy_15 : decode cX2_wrongsBy 15 = .ok (.aload_n 0, 1) := by decide +kernel
theorem dX2_wrongsBy_16 : decode cX2_wrongsBy 16 = .ok (.getfield 25, 3) := by decide +kernel
theorem dX2_wrongsBy_19 : decode cX2_wrongsBy 19 = .ok (.getfield 39, 3) := by decide +kernel
theorem dX2_wrongsBy_22 : decode cX2_wrongsBy 22 = .ok (.getfield 43, 3) := by decide +kernel
theorem dX2_wrongsBy_25 : decode cX2_wrongsBy 25 = .ok (.iload_n 3, 1) := by decide +kernel
theorem dX2_wrongsBy_26 : decode cX2_wrongsBy 26 = .ok (.iaload, 1) := by decide +kernel
theorem dX2_wrongsBy_27 : decode cX2_wrongsBy 27 = .ok (.ifCond .ne 20, 3) := by decide +kernel
theorem dX2_wrongsBy_30 : decode cX2_wrongsBy 30 = .ok (.iload_n 2, 1) := by decide +kernel
theorem dX2_wrongsBy_31 : decode cX2_wrongsBy 31 = .ok (.aload_n 0, 1) := by decide +kernel
theorem dX2_wrongsBy_32 : decode cX2_wrongsBy 32 = .ok (.iload_n 3, 1) := by decide +kernel
theorem dX2_wrongsBy_33 : decode cX2_wrongsBy 33 = .ok (.aload_n 0, 1) := by decide +kernel
theorem dX2_wrongsBy_34 : decode cX2_wrongsBy 34 = .ok (.getfield 25, 3) := by decide +kernel
theorem dX2_wrongsBy_37 : decode cX2_wrongsBy 37 = .ok (.iload_n 3, 1) := by decide +kernel
theorem dX2_wrongsBy_38 : decode cX2_wrongsBy 38 = .ok (.iload_n 1, 1) := by decide +kernel
theorem dX2_wrongsBy_39 : decode cX2_wrongsBy 39 = .ok (.invokevirtual 48, 3) := by decide +kernel
theorem dX2_wrongsBy_42 : decode cX2_wrongsBy 42 = .ok (.invokevirtual 52, 3) := by decide +kernel
theorem dX2_wrongsBy_45 : decode cX2_wrongsBy 45 = .ok (.iadd, 1) := by decide +kernel
theorem dX2_wrongsBy_46 : decode cX2_wrongsBy 46 = .ok (.istore_n 2, 1) := by decide +kernel
theorem dX2_wrongsBy_47 : decode cX2_wrongsBy 47 = .ok (.iinc 3 1, 3) := by decide +kernel
theorem dX2_wrongsBy_50 : decode cX2_wrongsBy 50 = .ok (.goto (-46), 3) := by decide +kernel
theorem dX2_wrongsBy_53 : decode cX2_wrongsBy 53 = .ok (.iload_n 2, 1) := by decide +kernel
theorem dX2_wrongsBy_54 : decode cX2_wrongsBy 54 = .ok (.ireturn, 1) := by decide +kernel
set_option maxRecDepth 20000 in
theorem ggX2_partingWord_X2_wrongsBy : GoodIn wsX2_partingWord wsX2_wrongsBy := goodIn_r _ [7, 1, 8, 9, 10, 11, 12, 13, 14, 15, 16, 17, 18, 19, 20, 21, 22, 23, 24, 25, 26, 27, 28, 29, 30, 31, 32, 33, 34, 35, 36, 37, 38, 39, 40, 41, 42, 43, 44, 45, 46, 47, 48, 49, 50, 51, 52, 53, 54, 55, 56, 57, 6, 58, 59, 60, 61, 62, 63, 64, 65, 66, 67, 68, 69, 70, 71, 72, 73, 74, 75, 76, 77, 78, 79, 80, 81, 82] (by decide +kernel) (by decide +kernel)
set_option maxRecDepth 20000 in
theorem gX2_partingWord_X2_wrongsBy : GoodIn wsX2_partingWord (wsV RX2 55 RX2 yX2_wrongsBy wsX2_wrongsBy) := goodIn_app (goodIn_of _ (by decide +kernel)) ggX2_partingWord_X2_wrongsBy
theorem dX2_partingWord_0 : decode cX2_partingWord 0 = .ok (.iconst 0, 1) := by decide +kernel
theorem dX2_partingWord_1 : decode cX2_partingWord 1 = .ok (.istore_n 1, 1) := by decide +kernel
theorem dX2_partingWord_2 : decode cX2_partingWord 2 = .ok (.aload_n 0, 1) := by decide +kernel
theorem dX2_partingWord_3 : decode cX2_partingWord 3 = .ok (.iconst 0, 1) := by decide +kernel
theorem dX2_partingWord_4 : decode cX2_partingWord 4 = .ok (.invokevirtual 55, 3) := by decide +kernel
theorem dX2_partingWord_7 : decode cX2_partingWord 7 = .ok (.istore_n 2, 1) := by decide +kernel
theorem dX2_partingWord_8 : decode cX2_partingWord 8 = .ok (.iconst 1, 1) := by decide +kernel
theorem dX2_partingWord_9 : decode cX2_partingWord 9 = .ok (.istore_n 3, 1) := by decide +kernel
theorem dX2_partingWord_10 : decode cX2_partingWord 10 = .ok (.iload_n 3, 1) := by decide +kernel
theorem dX2_partingWord_11 : decode cX2_partingWord 11 = .ok (.aload_n 0, 1) := by decide +kernel
theorem dX2_partingWord_12 : decode cX2_partingWord 12 = .ok (.getfield 25, 3) := by decide +kernel
theorem dX2_partingWord_15 : decode cX2_partingWord 15 = .ok (.getfield 59, 3) := by decide +kernel
theorem dX2_partingWord_18 : decode cX2_partingWord 18 = .ok (.if_icmp .ge 27, 3) := by decide +kernel
theorem dX2_partingWord_21 : decode cX2_partingWord 21 = .ok (.aload_n 0, 1) := by decide +kernel
theorem dX2_partingWord_22 : decode cX2_partingWord 22 = .ok (.iload_n 3, 1) := by decide +kernel
theorem dX2_partingWord_23 : decode cX2_partingWord 23 = .ok (.invokevirtual 55, 3) := by decide +kernel
theorem dX2_partingWord_26 : decode cX2_partingWord 26 = .ok (.istore 4, 2) := by decide +kernel
theorem dX2_partingWord_28 : decode cX2_partingWord 28 = .ok (.iload 4, 2) := by decide +kernel
theorem dX2_partingWord_30 : decode cX2_partingWord 30 = .ok (.iload_n 2, 1) := by decide +kernel
theorem dX2_partingWord_31 : decode cX2_partingWord 31 = .ok (.if_icmp .ge 8, 3) := by decide +kernel
theorem dX2_partingWord_34 : decode cX2_partingWord 34 = .ok (.iload_n 3, 1) := by decide +kernel
theorem dX2_partingWord_35 : decode cX2_partingWord 35 = .ok (.istore_n 1, 1) := by decide +kernel
theorem dX2_partingWord_36 : decode cX2_partingWord 36 = .ok (.iload 4, 2) := by decide +kernel
theorem dX2_partingWord_38 : decode cX2_partingWord 38 = .ok (.istore_n 2, 1) := by decide +kernel
theorem dX2_partingWord_39 : decode cX2_partingWord 39 = .ok (.iinc 3 1, 3) := by decide +kernel
theorem dX2_partingWord_42 : decode cX2_partingWord 42 = .ok (.goto (-32), 3) := by decide +kernel
theorem dX2_partingWord_45 : decode cX2_partingWord 45 = .ok (.iload_n 1, 1) := by decide +kernel
theorem dX2_partingWord_46 : decode cX2_partingWord 46 = .ok (.ireturn, 1) := by decide +kernel
set_option maxRecDepth 20000 in
theorem ggX2_passOnceTaught_X1_hearsIn : GoodIn wsX2_passOnceTaught wsX1_hearsIn := goodIn_r _ [10, 11, 12, 13, 14, 15, 16, 43, 44, 45, 46, 47, 48, 49, 50, 51, 52, 53] (by decide +kernel) (by decide +kernel)
set_option maxRecDepth 20000 in
theorem gX2_passOnceTaught_X1_hearsIn : GoodIn wsX2_passOnceTaught (wsV RX2 65 RX1 yX1_hearsIn wsX1_hearsIn) := goodIn_app (goodIn_of _ (by decide +kernel)) ggX2_passOnceTaught_X1_hearsIn
set_option maxRecDepth 20000 in
theorem ggX2_passOnceTaught_X1_passIf : GoodIn wsX2_passOnceTaught wsX1_passIf := goodIn_r _ [20, 21, 22, 23, 24, 25, 26, 27, 28, 9, 29, 30, 31, 32, 33, 15, 34, 35, 36, 37, 13, 14, 16, 43, 44, 45, 46, 47, 48, 49, 50, 51, 52, 53] (by decide +kernel) (by decide +kernel)
set_option maxRecDepth 20000 in
theorem gX2_passOnceTaught_X1_passIf : GoodIn wsX2_passOnceTaught (wsV RX2 74 RX1 yX1_passIf wsX1_passIf) := goodIn_app (goodIn_of _ (by decide +kernel)) ggX2_passOnceTaught_X1_passIf
theorem dX2_passOnceTaught_0 : decode cX2_passOnceTaught 0 = .ok (.aload_n 0, 1) := by decide +kernel
theorem dX2_passOnceTaught_1 : decode cX2_passOnceTaught 1 = .ok (.getfield 25, 3) := by decide +kernel
theorem dX2_passOnceTaught_4 : decode cX2_passOnceTaught 4 = .ok (.aload_n 0, 1) := by decide +kernel
theorem dX2_passOnceTaught_5 : decode cX2_passOnceTaught 5 = .ok (.getfield 25, 3) := by decide +kernel
theorem dX2_passOnceTaught_8 : decode cX2_passOnceTaught 8 = .ok (.getfield 39, 3) := by decide +kernel
theorem dX2_passOnceTaught_11 : decode cX2_passOnceTaught 11 = .ok (.getfield 62, 3) := by decide +kernel
theorem dX2_passOnceTaught_14 : decode cX2_passOnceTaught 14 = .ok (.invokevirtual 65, 3) := by decide +kernel
theorem dX2_passOnceTaught_17 : decode cX2_passOnceTaught 17 = .ok (.istore 4, 2) := by decide +kernel
theorem dX2_passOnceTaught_19 : decode cX2_passOnceTaught 19 = .ok (.aload_n 0, 1) := by decide +kernel
theorem dX2_passOnceTaught_20 : decode cX2_passOnceTaught 20 = .ok (.getfield 25, 3) := by decide +kernel
theorem dX2_passOnceTaught_23 : decode cX2_passOnceTaught 23 = .ok (.getfield 39, 3) := by decide +kernel
theorem dX2_passOnceTaught_26 : decode cX2_passOnceTaught 26 = .ok (.getfield 68, 3) := by decide +kernel
theorem dX2_passOnceTaught_29 : decode cX2_passOnceTaught 29 = .ok (.iload_n 1, 1) := by decide +kernel
theorem dX2_passOnceTaught_30 : decode cX2_passOnceTaught 30 = .ok (.iaload, 1) := by decide +kernel
theorem dX2_passOnceTaught_31 : decode cX2_passOnceTaught 31 = .ok (.iload_n 3, 1) := by decide +kernel
theorem dX2_passOnceTaught_32 : decode cX2_passOnceTaught 32 = .ok (.ior, 1) := by decide +kernel
theorem dX2_passOnceTaught_33 : decode cX2_passOnceTaught 33 = .ok (.istore 5, 2) := by decide +kernel
theorem dX2_passOnceTaught_35 : decode cX2_passOnceTaught 35 = .ok (.aload_n 0, 1) := by decide +kernel
theorem dX2_passOnceTaught_36 : decode cX2_passOnceTaught 36 = .ok (.getfield 25, 3) := by decide +kernel
theorem dX2_passOnceTaught_39 : decode cX2_passOnceTaught 39 = .ok (.iload_n 1, 1) := by decide +kernel
theorem dX2_passOnceTaught_40 : decode cX2_passOnceTaught 40 = .ok (.iload_n 2, 1) := by decide +kernel
theorem dX2_passOnceTaught_41 : decode cX2_passOnceTaught 41 = .ok (.iload 4, 2) := by decide +kernel
theorem dX2_passOnceTaught_43 : decode cX2_passOnceTaught 43 = .ok (.iload 5, 2) := by decide +kernel
theorem dX2_passOnceTaught_45 : decode cX2_passOnceTaught 45 = .ok (.aload_n 0, 1) := by decide +kernel
theorem dX2_passOnceTaught_46 : decode cX2_passOnceTaught 46 = .ok (.getfield 25, 3) := by decide +kernel
theorem dX2_passOnceTaught_49 : decode cX2_passOnceTaught 49 = .ok (.getfield 39, 3) := by decide +kernel
theorem dX2_passOnceTaught_52 : decode cX2_passOnceTaught 52 = .ok (.getfield 71, 3) := by decide +kernel
theorem dX2_passOnceTaught_55 : decode cX2_passOnceTaught 55 = .ok (.iload_n 2, 1) := by decide +kernel
theorem dX2_passOnceTaught_56 : decode cX2_passOnceTaught 56 = .ok (.iaload, 1) := by decide +kernel
theorem dX2_passOnceTaught_57 : decode cX2_passOnceTaught 57 = .ok (.invokevirtual 74, 3) := by decide +kernel
theorem dX2_passOnceTaught_60 : decode cX2_passOnceTaught 60 = .ok (.ireturn, 1) := by decide +kernel
set_option maxRecDepth 20000 in
theorem ggX2_soundsToLearn_X2_passOnceTaught : GoodIn wsX2_soundsToLearn wsX2_passOnceTaught := goodIn_r _ [9, 1, 3, 10, 4, 11, 12, 13, 14, 15, 16, 17, 18, 19, 20, 21, 22, 23, 24, 25, 26, 27, 28, 29, 30, 31, 32, 33, 34, 35, 36, 37, 38, 39, 40, 41, 42, 43, 51, 52, 53, 54, 55, 56, 57, 58, 59, 60, 61, 62, 63, 64, 65, 66, 67, 68, 69, 70, 71, 72] (by decide +kernel) (by decide +kernel)
set_option maxRecDepth 20000 in
theorem gX2_soundsToLearn_X2_passOnceTaught : GoodIn wsX2_soundsToLearn (wsV RX2 81 RX2 yX2_passOnceTaught wsX2_passOnceTaught) := goodIn_app (goodIn_of _ (by decide +kernel)) ggX2_soundsToLearn_X2_passOnceTaught
set_option maxRecDepth 20000 in
theorem ggX2_soundsToLearn_J6_bitCount_0f7a4 : GoodIn wsX2_soundsToLearn wsJ6_bitCount_0f7a4 := goodIn_r _ [47, 48, 49, 50] (by decide +kernel) (by decide +kernel)
set_option maxRecDepth 20000 in
theorem gX2_soundsToLearn_J6_bitCount_0f7a4 : GoodIn wsX2_soundsToLearn (va_wsS RX2 85 yJ6_bitCount_0f7a4 wsJ6_bitCount_0f7a4) := goodIn_app (goodIn_of _ (by decide +kernel)) ggX2_soundsToLearn_J6_bitCount_0f7a4
theorem dX2_soundsToLearn_0 : decode cX2_soundsToLearn 0 = .ok (.aload_n 0, 1) := by decide +kernel
theorem dX2_soundsToLearn_1 : decode cX2_soundsToLearn 1 = .ok (.getfield 25, 3) := by decide +kernel
theorem dX2_soundsToLearn_4 : decode cX2_soundsToLearn 4 = .ok (.getfield 78, 3) := by decide +kernel
theorem dX2_soundsToLearn_7 : decode cX2_soundsToLearn 7 = .ok (.iload_n 2, 1) := by decide +kernel
theorem dX2_soundsToLearn_8 : decode cX2_soundsToLearn 8 = .ok (.iaload, 1) := by decide +kernel
theorem dX2_soundsToLearn_9 : decode cX2_soundsToLearn 9 = .ok (.aload_n 0, 1) := by decide +kernel
theorem dX2_soundsToLearn_10 : decode cX2_soundsToLearn 10 = .ok (.getfield 25, 3) := by decide +kernel
theorem dX2_soundsToLearn_13 : decode cX2_soundsToLearn 13 = .ok (.getfield 39, 3) := by decide +kernel
theorem dX2_soundsToLearn_16 : decode cX2_soundsToLearn 16 = .ok (.getfield 68, 3) := by decide +kernel
theorem dX2_soundsToLearn_19 : decode cX2_soundsToLearn 19 = .ok (.iload_n 1, 1) := by decide +kernel
theorem dX2_soundsToLearn_20 : decode cX2_soundsToLearn 20 = .ok (.iaload, 1) := by decide +kernel
theorem dX2_soundsToLearn_21 : decode cX2_soundsToLearn 21 = .ok (.iconst (-1), 1) := by decide +kernel
theorem dX2_soundsToLearn_22 : decode cX2_soundsToLearn 22 = .ok (.ixor, 1) := by decide +kernel
theorem dX2_soundsToLearn_23 : decode cX2_soundsToLearn 23 = .ok (.iand, 1) := by decide +kernel
theorem dX2_soundsToLearn_24 : decode cX2_soundsToLearn 24 = .ok (.istore 4, 2) := by decide +kernel
theorem dX2_soundsToLearn_26 : decode cX2_soundsToLearn 26 = .ok (.iconst 0, 1) := by decide +kernel
theorem dX2_soundsToLearn_27 : decode cX2_soundsToLearn 27 = .ok (.istore 5, 2) := by decide +kernel
theorem dX2_soundsToLearn_29 : decode cX2_soundsToLearn 29 = .ok (.aload_n 0, 1) := by decide +kernel
theorem dX2_soundsToLearn_30 : decode cX2_soundsToLearn 30 = .ok (.iload_n 1, 1) := by decide +kernel
theorem dX2_soundsToLearn_31 : decode cX2_soundsToLearn 31 = .ok (.iload_n 2, 1) := by decide +kernel
theorem dX2_soundsToLearn_32 : decode cX2_soundsToLearn 32 = .ok (.iconst 0, 1) := by decide +kernel
theorem dX2_soundsToLearn_33 : decode cX2_soundsToLearn 33 = .ok (.invokevirtual 81, 3) := by decide +kernel
theorem dX2_soundsToLearn_36 : decode cX2_soundsToLearn 36 = .ok (.istore 6, 2) := by decide +kernel
theorem dX2_soundsToLearn_38 : decode cX2_soundsToLearn 38 = .ok (.iconst 1, 1) := by decide +kernel
theorem dX2_soundsToLearn_39 : decode cX2_soundsToLearn 39 = .ok (.istore 7, 2) := by decide +kernel
theorem dX2_soundsToLearn_41 : decode cX2_soundsToLearn 41 = .ok (.iload 7, 2) := by decide +kernel
theorem dX2_soundsToLearn_43 : decode cX2_soundsToLearn 43 = .ok (.iload 4, 2) := by decide +kernel
theorem dX2_soundsToLearn_45 : decode cX2_soundsToLearn 45 = .ok (.if_icmp .gt 77, 3) := by decide +kernel
theorem dX2_soundsToLearn_48 : decode cX2_soundsToLearn 48 = .ok (.iload 7, 2) := by decide +kernel
theorem dX2_soundsToLearn_50 : decode cX2_soundsToLearn 50 = .ok (.invokestatic 85, 3) := by decide +kernel
theorem dX2_soundsToLearn_53 : decode cX2_soundsToLearn 53 = .ok (.istore 8, 2) := by decide +kernel
theorem dX2_soundsToLearn_55 : decode cX2_soundsToLearn 55 = .ok (.iload 7, 2) := by decide +kernel
theorem dX2_soundsToLearn_57 : decode cX2_soundsToLearn 57 = .ok (.iload 4, 2) := by decide +kernel
theorem dX2_soundsToLearn_59 : decode cX2_soundsToLearn 59 = .ok (.iconst (-1), 1) := by decide +kernel
theorem dX2_soundsToLearn_60 : decode cX2_soundsToLearn 60 = .ok (.ixor, 1) := by decide +kernel
theorem dX2_soundsToLearn_61 : decode cX2_soundsToLearn 61 = .ok (.iand, 1) := by decide +kernel
theorem dX2_soundsToLearn_62 : decode cX2_soundsToLearn 62 = .ok (.ifCond .ne 54, 3) := by decide +kernel
theorem dX2_soundsToLearn_65 : decode cX2_soundsToLearn 65 = .ok (.iload 8, 2) := by decide +kernel
theorem dX2_soundsToLearn_67 : decode cX2_soundsToLearn 67 = .ok (.iload_n 3, 1) := by decide +kernel
theorem dX2_soundsToLearn_68 : decode cX2_soundsToLearn 68 = .ok (.if_icmp .le 6, 3) := by decide +kernel
theorem dX2_soundsToLearn_71 : decode cX2_soundsToLearn 71 = .ok (.goto 45, 3) := by decide +kernel
theorem dX2_soundsToLearn_74 : decode cX2_soundsToLearn 74 = .ok (.aload_n 0, 1) := by decide +kernel
theorem dX2_soundsToLearn_75 : decode cX2_soundsToLearn 75 = .ok (.iload_n 1, 1) := by decide +kernel
theorem dX2_soundsToLearn_76 : decode cX2_soundsToLearn 76 = .ok (.iload_n 2, 1) := by decide +kernel
theorem dX2_soundsToLearn_77 : decode cX2_soundsToLearn 77 = .ok (.iload 7, 2) := by decide +kernel
theorem dX2_soundsToLearn_79 : decode cX2_soundsToLearn 79 = .ok (.invokevirtual 81, 3) := by decide +kernel
theorem dX2_soundsToLearn_82 : decode cX2_soundsToLearn 82 = .ok (.istore 9, 2) := by decide +kernel
theorem dX2_soundsToLearn_84 : decode cX2_soundsToLearn 84 = .ok (.iload 9, 2) := by decide +kernel
theorem dX2_soundsToLearn_86 : decode cX2_soundsToLearn 86 = .ok (.iload 6, 2) := by decide +kernel
theorem dX2_soundsToLearn_88 : decode cX2_soundsToLearn 88 = .ok (.if_icmp .gt 20, 3) := by decide +kernel
theorem dX2_soundsToLearn_91 : decode cX2_soundsToLearn 91 = .ok (.iload 9, 2) := by decide +kernel
theorem dX2_soundsToLearn_93 : decode cX2_soundsToLearn 93 = .ok (.iload 6, 2) := by decide +kernel
theorem dX2_soundsToLearn_95 : decode cX2_soundsToLearn 95 = .ok (.if_icmp .ne 21, 3) := by decide +kernel
theorem dX2_soundsToLearn_98 : decode cX2_soundsToLearn 98 = .ok (.iload 8, 2) := by decide +kernel
theorem dX2_soundsToLearn_100 : decode cX2_soundsToLearn 100 = .ok (.iload 5, 2) := by decide +kernel
theorem dX2_soundsToLearn_102 : decode cX2_soundsToLearn 102 = .ok (.invokestatic 85, 3) := by decide +kernel
theorem dX2_soundsToLearn_105 : decode cX2_soundsToLearn 105 = .ok (.if_icmp .ge 11, 3) := by decide +kernel
theorem dX2_soundsToLearn_108 : decode cX2_soundsToLearn 108 = .ok (.iload 7, 2) := by decide +kernel
theorem dX2_soundsToLearn_110 : decode cX2_soundsToLearn 110 = .ok (.istore 5, 2) := by decide +kernel
theorem dX2_soundsToLearn_112 : decode cX2_soundsToLearn 112 = .ok (.iload 9, 2) := by decide +kernel
theorem dX2_soundsToLearn_114 : decode cX2_soundsToLearn 114 = .ok (.istore 6, 2) := by decide +kernel
theorem dX2_soundsToLearn_116 : decode cX2_soundsToLearn 116 = .ok (.iinc 7 1, 3) := by decide +kernel
theorem dX2_soundsToLearn_119 : decode cX2_soundsToLearn 119 = .ok (.goto (-78), 3) := by decide +kernel
theorem dX2_soundsToLearn_122 : decode cX2_soundsToLearn 122 = .ok (.iload 5, 2) := by decide +kernel
theorem dX2_soundsToLearn_124 : decode cX2_soundsToLearn 124 = .ok (.ireturn, 1) := by decide +kernel
set_option maxRecDepth 20000 in
theorem ggX2_hourToCross_X1_passIn : GoodIn wsX2_hourToCross wsX1_passIn := goodIn_r _ [8, 9, 10, 11, 12, 13, 14, 7, 15, 16, 17, 18, 19, 20, 21, 22, 23, 24, 25, 26, 27, 28, 29, 30, 31, 32, 33, 34, 35, 36, 37, 38, 39, 40, 41, 42, 48, 49, 50, 51, 52, 53, 54, 55, 56, 57, 58, 59, 60, 61, 62, 63, 64] (by decide +kernel) (by decide +kernel)
set_option maxRecDepth 20000 in
theorem gX2_hourToCross_X1_passIn : GoodIn wsX2_hourToCross (wsV RX2 90 RX1 yX1_passIn wsX1_passIn) := goodIn_app (goodIn_of _ (by decide +kernel)) ggX2_hourToCross_X1_passIn
theorem dX2_hourToCross_0 : decode cX2_hourToCross 0 = .ok (.aload_n 0, 1) := by decide +kernel
theorem dX2_hourToCross_1 : decode cX2_hourToCross 1 = .ok (.getfield 25, 3) := by decide +kernel
theorem dX2_hourToCross_4 : decode cX2_hourToCross 4 = .ok (.getfield 39, 3) := by decide +kernel
theorem dX2_hourToCross_7 : decode cX2_hourToCross 7 = .ok (.getfield 62, 3) := by decide +kernel
theorem dX2_hourToCross_10 : decode cX2_hourToCross 10 = .ok (.istore_n 3, 1) := by decide +kernel
theorem dX2_hourToCross_11 : decode cX2_hourToCross 11 = .ok (.iload_n 3, 1) := by decide +kernel
theorem dX2_hourToCross_12 : decode cX2_hourToCross 12 = .ok (.istore 4, 2) := by decide +kernel
theorem dX2_hourToCross_14 : decode cX2_hourToCross 14 = .ok (.aload_n 0, 1) := by decide +kernel
theorem dX2_hourToCross_15 : decode cX2_hourToCross 15 = .ok (.getfield 25, 3) := by decide +kernel
theorem dX2_hourToCross_18 : decode cX2_hourToCross 18 = .ok (.iload_n 1, 1) := by decide +kernel
theorem dX2_hourToCross_19 : decode cX2_hourToCross 19 = .ok (.iload_n 2, 1) := by decide +kernel
theorem dX2_hourToCross_20 : decode cX2_hourToCross 20 = .ok (.iload_n 3, 1) := by decide +kernel
theorem dX2_hourToCross_21 : decode cX2_hourToCross 21 = .ok (.invokevirtual 90, 3) := by decide +kernel
theorem dX2_hourToCross_24 : decode cX2_hourToCross 24 = .ok (.istore 5, 2) := by decide +kernel
theorem dX2_hourToCross_26 : decode cX2_hourToCross 26 = .ok (.iload_n 3, 1) := by decide +kernel
theorem dX2_hourToCross_27 : decode cX2_hourToCross 27 = .ok (.iconst 1, 1) := by decide +kernel
theorem dX2_hourToCross_28 : decode cX2_hourToCross 28 = .ok (.iadd, 1) := by decide +kernel
theorem dX2_hourToCross_29 : decode cX2_hourToCross 29 = .ok (.istore 6, 2) := by decide +kernel
theorem dX2_hourToCross_31 : decode cX2_hourToCross 31 = .ok (.iload 6, 2) := by decide +kernel
theorem dX2_hourToCross_33 : decode cX2_hourToCross 33 = .ok (.iload_n 3, 1) := by decide +kernel
theorem dX2_hourToCross_34 : decode cX2_hourToCross 34 = .ok (.bipush 24, 2) := by decide +kernel
theorem dX2_hourToCross_36 : decode cX2_hourToCross 36 = .ok (.iadd, 1) := by decide +kernel
theorem dX2_hourToCross_37 : decode cX2_hourToCross 37 = .ok (.if_icmp .ge 37, 3) := by decide +kernel
theorem dX2_hourToCross_40 : decode cX2_hourToCross 40 = .ok (.aload_n 0, 1) := by decide +kernel
theorem dX2_hourToCross_41 : decode cX2_hourToCross 41 = .ok (.getfield 25, 3) := by decide +kernel
theorem dX2_hourToCross_44 : decode cX2_hourToCross 44 = .ok (.iload_n 1, 1) := by decide +kernel
theorem dX2_hourToCross_45 : decode cX2_hourToCross 45 = .ok (.iload_n 2, 1) := by decide +kernel
theorem dX2_hourToCross_46 : decode cX2_hourToCross 46 = .ok (.iload 6, 2) := by decide +kernel
theorem dX2_hourToCross_48 : decode cX2_hourToCross 48 = .ok (.invokevirtual 90, 3) := by decide +kernel
theorem dX2_hourToCross_51 : decode cX2_hourToCross 51 = .ok (.istore 7, 2) := by decide +kernel
theorem dX2_hourToCross_53 : decode cX2_hourToCross 53 = .ok (.iload 7, 2) := by decide +kernel
theorem dX2_hourToCross_55 : decode cX2_hourToCross 55 = .ok (.iload 5, 2) := by decide +kernel
theorem dX2_hourToCross_57 : decode cX2_hourToCross 57 = .ok (.if_icmp .le 11, 3) := by decide +kernel
theorem dX2_hourToCross_60 : decode cX2_hourToCross 60 = .ok (.iload 6, 2) := by decide +kernel
theorem dX2_hourToCross_62 : decode cX2_hourToCross 62 = .ok (.istore 4, 2) := by decide +kernel
theorem dX2_hourToCross_64 : decode cX2_hourToCross 64 = .ok (.iload 7, 2) := by decide +kernel
theorem dX2_hourToCross_66 : decode cX2_hourToCross 66 = .ok (.istore 5, 2) := by decide +kernel
theorem dX2_hourToCross_68 : decode cX2_hourToCross 68 = .ok (.iinc 6 1, 3) := by decide +kernel
theorem dX2_hourToCross_71 : decode cX2_hourToCross 71 = .ok (.goto (-40), 3) := by decide +kernel
theorem dX2_hourToCross_74 : decode cX2_hourToCross 74 = .ok (.iload 4, 2) := by decide +kernel
theorem dX2_hourToCross_76 : decode cX2_hourToCross 76 = .ok (.ireturn, 1) := by decide +kernel
set_option maxRecDepth 20000 in
theorem ggX2_weighLines_J6_bitCount_0f7a4 : GoodIn wsX2_weighLines wsJ6_bitCount_0f7a4 := goodIn_r _ [5, 6, 7, 8] (by decide +kernel) (by decide +kernel)
set_option maxRecDepth 20000 in
theorem gX2_weighLines_J6_bitCount_0f7a4 : GoodIn wsX2_weighLines (va_wsS RX2 85 yJ6_bitCount_0f7a4 wsJ6_bitCount_0f7a4) := goodIn_app (goodIn_of _ (by decide +kernel)) ggX2_weighLines_J6_bitCount_0f7a4
set_option maxRecDepth 20000 in
theorem ggX2_weighLines_X2_fillWrongInTurn : GoodIn wsX2_weighLines wsX2_fillWrongInTurn := goodIn_r _ [13, 14, 15, 16, 17, 18, 19, 20, 21, 22, 23, 24, 25, 26, 27, 28, 29, 30, 31, 32, 33, 34, 35, 36, 37, 38, 39, 40, 41, 42, 43, 44, 45, 46, 47, 48, 49, 50, 51, 52, 53, 54, 55, 12, 56, 57, 58, 69, 70, 71, 72, 73, 74, 75, 76, 77, 78, 79, 80, 81, 82, 83, 84, 85, 86, 87, 88, 89, 90] (by decide +kernel) (by decide +kernel)
set_option maxRecDepth 20000 in
theorem gX2_weighLines_X2_fillWrongInTurn : GoodIn wsX2_weighLines (wsV RX2 93 RX2 yX2_fillWrongInTurn wsX2_fillWrongInTurn) := goodIn_app (goodIn_of _ (by decide +kernel)) ggX2_weighLines_X2_fillWrongInTurn
set_option maxRecDepth 20000 in
theorem ggX2_weighLines_X2_leastFor : GoodIn wsX2_weighLines wsX2_leastFor := goodIn_r _ [62, 63, 14, 18, 64, 48, 30, 49, 38, 39, 40, 65, 66, 67, 12, 68, 20, 1, 69, 70, 71, 72, 73, 74, 75, 76, 77, 78, 79, 80, 81, 82, 83, 84] (by decide +kernel) (by decide +kernel)
set_option maxRecDepth 20000 in
theorem gX2_weighLines_X2_leastFor : GoodIn wsX2_weighLines (wsV RX2 97 RX2 yX2_leastFor wsX2_leastFor) := goodIn_app (goodIn_of _ (by decide +kernel)) ggX2_weighLines_X2_leastFor
theorem dX2_weighLines_0 : decode cX2_weighLines 0 = .ok (.iload_n 2, 1) := by decide +kernel
theorem dX2_weighLines_1 : decode cX2_weighLines 1 = .ok (.invokestatic 85, 3) := by decide +kernel
theorem dX2_weighLines_4 : decode cX2_weighLines 4 = .ok (.istore_n 3, 1) := by decide +kernel
theorem dX2_weighLines_5 : decode cX2_weighLines 5 = .ok (.aload_n 0, 1) := by decide +kernel
theorem dX2_weighLines_6 : decode cX2_weighLines 6 = .ok (.iload_n 1, 1) := by decide +kernel
theorem dX2_weighLines_7 : decode cX2_weighLines 7 = .ok (.iload_n 3, 1) := by decide +kernel
theorem dX2_weighLines_8 : decode cX2_weighLines 8 = .ok (.invokevirtual 93, 3) := by decide +kernel
theorem dX2_weighLines_11 : decode cX2_weighLines 11 = .ok (.aload_n 0, 1) := by decide +kernel
theorem dX2_weighLines_12 : decode cX2_weighLines 12 = .ok (.getfield 15, 3) := by decide +kernel
theorem dX2_weighLines_15 : decode cX2_weighLines 15 = .ok (.iconst 0, 1) := by decide +kernel
theorem dX2_weighLines_16 : decode cX2_weighLines 16 = .ok (.iconst 0, 1) := by decide +kernel
theorem dX2_weighLines_17 : decode cX2_weighLines 17 = .ok (.iastore, 1) := by decide +kernel
theorem dX2_weighLines_18 : decode cX2_weighLines 18 = .ok (.iconst 1, 1) := by decide +kernel
theorem dX2_weighLines_19 : decode cX2_weighLines 19 = .ok (.istore 4, 2) := by decide +kernel
theorem dX2_weighLines_21 : decode cX2_weighLines 21 = .ok (.iload 4, 2) := by decide +kernel
theorem dX2_weighLines_23 : decode cX2_weighLines 23 = .ok (.iload_n 2, 1) := by decide +kernel
theorem dX2_weighLines_24 : decode cX2_weighLines 24 = .ok (.if_icmp .gt 38, 3) := by decide +kernel
theorem dX2_weighLines_27 : decode cX2_weighLines 27 = .ok (.iload 4, 2) := by decide +kernel
theorem dX2_weighLines_29 : decode cX2_weighLines 29 = .ok (.iload_n 2, 1) := by decide +kernel
theorem dX2_weighLines_30 : decode cX2_weighLines 30 = .ok (.iconst (-1), 1) := by decide +kernel
theorem dX2_weighLines_31 : decode cX2_weighLines 31 = .ok (.ixor, 1) := by decide +kernel
theorem dX2_weighLines_32 : decode cX2_weighLines 32 = .ok (.iand, 1) := by decide +kernel
theorem dX2_weighLines_33 : decode cX2_weighLines 33 = .ok (.ifCond .ne 23, 3) := by decide +kernel
theorem dX2_weighLines_36 : decode cX2_weighLines 36 = .ok (.aload_n 0, 1) := by decide +kernel
theorem dX2_weighLines_37 : decode cX2_weighLines 37 = .ok (.getfield 15, 3) := by decide +kernel
theorem dX2_weighLines_40 : decode cX2_weighLines 40 = .ok (.iload 4, 2) := by decide +kernel
theorem dX2_weighLines_42 : decode cX2_weighLines 42 = .ok (.aload_n 0, 1) := by decide +kernel
theorem dX2_weighLines_43 : decode cX2_weighLines 43 = .ok (.iload 4, 2) := by decide +kernel
theorem dX2_weighLines_45 : decode cX2_weighLines 45 = .ok (.iload_n 3, 1) := by decide +kernel
theorem dX2_weighLines_46 : decode cX2_weighLines 46 = .ok (.iload 4, 2) := by decide +kernel
theorem dX2_weighLines_48 : decode cX2_weighLines 48 = .ok (.invokestatic 85, 3) := by decide +kernel
theorem dX2_weighLines_51 : decode cX2_weighLines 51 = .ok (.isub, 1) := by decide +kernel
theorem dX2_weighLines_52 : decode cX2_weighLines 52 = .ok (.invokevirtual 97, 3) := by decide +kernel
theorem dX2_weighLines_55 : decode cX2_weighLines 55 = .ok (.iastore, 1) := by decide +kernel
theorem dX2_weighLines_56 : decode cX2_weighLines 56 = .ok (.iinc 4 1, 3) := by decide +kernel
theorem dX2_weighLines_59 : decode cX2_weighLines 59 = .ok (.goto (-38), 3) := by decide +kernel
theorem dX2_weighLines_62 : decode cX2_weighLines 62 = .ok (.return_, 1) := by decide +kernel
set_option maxRecDepth 20000 in
theorem ggX2_fillWrongInTurn_X1_hearsIn : GoodIn wsX2_fillWrongInTurn wsX1_hearsIn := goodIn_r _ [12, 13, 14, 15, 16, 17, 18, 52, 53, 54, 55, 56, 57, 58, 59, 60, 61, 62] (by decide +kernel) (by decide +kernel)
set_option maxRecDepth 20000 in
theorem gX2_fillWrongInTurn_X1_hearsIn : GoodIn wsX2_fillWrongInTurn (wsV RX2 65 RX1 yX1_hearsIn wsX1_hearsIn) := goodIn_app (goodIn_of _ (by decide +kernel)) ggX2_fillWrongInTurn_X1_hearsIn
set_option maxRecDepth 20000 in
theorem ggX2_fillWrongInTurn_X1_passIf : GoodIn wsX2_fillWrongInTurn wsX1_passIf := goodIn_r _ [22, 23, 24, 25, 26, 27, 28, 29, 30, 11, 31, 32, 33, 34, 35, 17, 36, 37, 38, 39, 15, 16, 18, 52, 53, 54, 55, 56, 57, 58, 59, 60, 61, 62] (by decide +kernel) (by decide +kernel)
set_option maxRecDepth 20000 in
theorem gX2_fillWrongInTurn_X1_passIf : GoodIn wsX2_fillWrongInTurn (wsV RX2 74 RX1 yX1_passIf wsX1_passIf) := goodIn_app (goodIn_of _ (by decide +kernel)) ggX2_fillWrongInTurn_X1_passIf
set_option maxRecDepth 20000 in
theorem ggX2_fillWrongInTurn_X2_wrongOf : GoodIn wsX2_fillWrongInTurn wsX2_wrongOf := goodIn_r _ [44, 1, 45, 46, 47, 48, 49, 50, 51, 52, 53, 54, 55, 56, 57, 58, 59, 60, 61, 62] (by decide +kernel) (by decide +kernel)
set_option maxRecDepth 20000 in
theorem gX2_fillWrongInTurn_X2_wrongOf : GoodIn wsX2_fillWrongInTurn (wsV RX2 52 RX2 yX2_wrongOf wsX2_wrongOf) := goodIn_app (goodIn_of _ (by decide +kernel)) ggX2_fillWrongInTurn_X2_wrongOf
theorem dX2_fillWrongInTurn_0 : decode cX2_fillWrongInTurn 0 = .ok (.iconst 0, 1) := by decide +kernel
theorem dX2_fillWrongInTurn_1 : decode cX2_fillWrongInTurn 1 = .ok (.istore_n 3, 1) := by decide +kernel
theorem dX2_fillWrongInTurn_2 : decode cX2_fillWrongInTurn 2 = .ok (.iload_n 3, 1) := by decide +kernel
theorem dX2_fillWrongInTurn_3 : decode cX2_fillWrongInTurn 3 = .ok (.iload_n 2, 1) := by decide +kernel
theorem dX2_fillWrongInTurn_4 : decode cX2_fillWrongInTurn 4 = .ok (.if_icmp .ge 116, 3) := by decide +kernel
theorem dX2_fillWrongInTurn_7 : decode cX2_fillWrongInTurn 7 = .ok (.aload_n 0, 1) := by decide +kernel
theorem dX2_fillWrongInTurn_8 : decode cX2_fillWrongInTurn 8 = .ok (.getfield 25, 3) := by decide +kernel
theorem dX2_fillWrongInTurn_11 : decode cX2_fillWrongInTurn 11 = .ok (.aload_n 0, 1) := by decide +kernel
theorem dX2_fillWrongInTurn_12 : decode cX2_fillWrongInTurn 12 = .ok (.getfield 25, 3) := by decide +kernel
theorem dX2_fillWrongInTurn_15 : decode cX2_fillWrongInTurn 15 = .ok (.getfield 39, 3) := by decide +kernel
theorem dX2_fillWrongInTurn_18 : decode cX2_fillWrongInTurn 18 = .ok (.getfield 62, 3) := by decide +kernel
theorem dX2_fillWrongInTurn_21 : decode cX2_fillWrongInTurn 21 = .ok (.iload_n 3, 1) := by decide +kernel
theorem dX2_fillWrongInTurn_22 : decode cX2_fillWrongInTurn 22 = .ok (.iadd, 1) := by decide +kernel
theorem dX2_fillWrongInTurn_23 : decode cX2_fillWrongInTurn 23 = .ok (.invokevirtual 65, 3) := by decide +kernel
theorem dX2_fillWrongInTurn_26 : decode cX2_fillWrongInTurn 26 = .ok (.istore 4, 2) := by decide +kernel
theorem dX2_fillWrongInTurn_28 : decode cX2_fillWrongInTurn 28 = .ok (.aload_n 0, 1) := by decide +kernel
theorem dX2_fillWrongInTurn_29 : decode cX2_fillWrongInTurn 29 = .ok (.getfield 25, 3) := by decide +kernel
theorem dX2_fillWrongInTurn_32 : decode cX2_fillWrongInTurn 32 = .ok (.getfield 39, 3) := by decide +kernel
theorem dX2_fillWrongInTurn_35 : decode cX2_fillWrongInTurn 35 = .ok (.getfield 71, 3) := by decide +kernel
theorem dX2_fillWrongInTurn_38 : decode cX2_fillWrongInTurn 38 = .ok (.iload_n 1, 1) := by decide +kernel
theorem dX2_fillWrongInTurn_39 : decode cX2_fillWrongInTurn 39 = .ok (.iaload, 1) := by decide +kernel
theorem dX2_fillWrongInTurn_40 : decode cX2_fillWrongInTurn 40 = .ok (.iload_n 3, 1) := by decide +kernel
theorem dX2_fillWrongInTurn_41 : decode cX2_fillWrongInTurn 41 = .ok (.iadd, 1) := by decide +kernel
theorem dX2_fillWrongInTurn_42 : decode cX2_fillWrongInTurn 42 = .ok (.istore 5, 2) := by decide +kernel
theorem dX2_fillWrongInTurn_44 : decode cX2_fillWrongInTurn 44 = .ok (.iconst 0, 1) := by decide +kernel
theorem dX2_fillWrongInTurn_45 : decode cX2_fillWrongInTurn 45 = .ok (.istore 6, 2) := by decide +kernel
theorem dX2_fillWrongInTurn_47 : decode cX2_fillWrongInTurn 47 = .ok (.iload 6, 2) := by decide +kernel
theorem dX2_fillWrongInTurn_49 : decode cX2_fillWrongInTurn 49 = .ok (.aload_n 0, 1) := by decide +kernel
theorem dX2_fillWrongInTurn_50 : decode cX2_fillWrongInTurn 50 = .ok (.getfield 25, 3) := by decide +kernel
theorem dX2_fillWrongInTurn_53 : decode cX2_fillWrongInTurn 53 = .ok (.getfield 35, 3) := by decide +kernel
theorem dX2_fillWrongInTurn_56 : decode cX2_fillWrongInTurn 56 = .ok (.if_icmp .ge 58, 3) := by decide +kernel
theorem dX2_fillWrongInTurn_59 : decode cX2_fillWrongInTurn 59 = .ok (.aload_n 0, 1) := by decide +kernel
theorem dX2_fillWrongInTurn_60 : decode cX2_fillWrongInTurn 60 = .ok (.getfield 25, 3) := by decide +kernel
theorem dX2_fillWrongInTurn_63 : decode cX2_fillWrongInTurn 63 = .ok (.iload 6, 2) := by decide +kernel
theorem dX2_fillWrongInTurn_65 : decode cX2_fillWrongInTurn 65 = .ok (.iload_n 1, 1) := by decide +kernel
theorem dX2_fillWrongInTurn_66 : decode cX2_fillWrongInTurn 66 = .ok (.iload 4, 2) := by decide +kernel
theorem dX2_fillWrongInTurn_68 : decode cX2_fillWrongInTurn 68 = .ok (.aload_n 0, 1) := by decide +kernel
theorem dX2_fillWrongInTurn_69 : decode cX2_fillWrongInTurn 69 = .ok (.getfield 25, 3) := by decide +kernel
theorem dX2_fillWrongInTurn_72 : decode cX2_fillWrongInTurn 72 = .ok (.getfield 39, 3) := by decide +kernel
theorem dX2_fillWrongInTurn_75 : decode cX2_fillWrongInTurn 75 = .ok (.getfield 68, 3) := by decide +kernel
theorem dX2_fillWrongInTurn_78 : decode cX2_fillWrongInTurn 78 = .ok (.iload 6, 2) := by decide +kernel
theorem dX2_fillWrongInTurn_80 : decode cX2_fillWrongInTurn 80 = .ok (.iaload, 1) := by decide +kernel
theorem dX2_fillWrongInTurn_81 : decode cX2_fillWrongInTurn 81 = .ok (.iload 5, 2) := by decide +kernel
theorem dX2_fillWrongInTurn_83 : decode cX2_fillWrongInTurn 83 = .ok (.invokevirtual 74, 3) := by decide +kernel
theorem dX2_fillWrongInTurn_86 : decode cX2_fillWrongInTurn 86 = .ok (.istore 7, 2) := by decide +kernel
theorem dX2_fillWrongInTurn_88 : decode cX2_fillWrongInTurn 88 = .ok (.aload_n 0, 1) := by decide +kernel
theorem dX2_fillWrongInTurn_89 : decode cX2_fillWrongInTurn 89 = .ok (.getfield 9, 3) := by decide +kernel
theorem dX2_fillWrongInTurn_92 : decode cX2_fillWrongInTurn 92 = .ok (.iload_n 3, 1) := by decide +kernel
theorem dX2_fillWrongInTurn_93 : decode cX2_fillWrongInTurn 93 = .ok (.bipush 6, 2) := by decide +kernel
theorem dX2_fillWrongInTurn_95 : decode cX2_fillWrongInTurn 95 = .ok (.imul, 1) := by decide +kernel
theorem dX2_fillWrongInTurn_96 : decode cX2_fillWrongInTurn 96 = .ok (.iload 6, 2) := by decide +kernel
theorem dX2_fillWrongInTurn_98 : decode cX2_fillWrongInTurn 98 = .ok (.iadd, 1) := by decide +kernel
theorem dX2_fillWrongInTurn_99 : decode cX2_fillWrongInTurn 99 = .ok (.aload_n 0, 1) := by decide +kernel
theorem dX2_fillWrongInTurn_100 : decode cX2_fillWrongInTurn 100 = .ok (.iload 6, 2) := by decide +kernel
theorem dX2_fillWrongInTurn_102 : decode cX2_fillWrongInTurn 102 = .ok (.iload 7, 2) := by decide +kernel
theorem dX2_fillWrongInTurn_104 : decode cX2_fillWrongInTurn 104 = .ok (.invokevirtual 52, 3) := by decide +kernel
theorem dX2_fillWrongInTurn_107 : decode cX2_fillWrongInTurn 107 = .ok (.iastore, 1) := by decide +kernel
theorem dX2_fillWrongInTurn_108 : decode cX2_fillWrongInTurn 108 = .ok (.iinc 6 1, 3) := by decide +kernel
theorem dX2_fillWrongInTurn_111 : decode cX2_fillWrongInTurn 111 = .ok (.goto (-64), 3) := by decide +kernel
theorem dX2_fillWrongInTurn_114 : decode cX2_fillWrongInTurn 114 = .ok (.iinc 3 1, 3) := by decide +kernel
theorem dX2_fillWrongInTurn_117 : decode cX2_fillWrongInTurn 117 = .ok (.goto (-115), 3) := by decide +kernel
theorem dX2_fillWrongInTurn_120 : decode cX2_fillWrongInTurn 120 = .ok (.return_, 1) := by decide +kernel
set_option maxRecDepth 20000 in
theorem ggX2_leastFor_X6_has : GoodIn wsX2_leastFor wsX6_has := goodIn_r _ [10] (by decide +kernel) (by decide +kernel)
set_option maxRecDepth 20000 in
theorem gX2_leastFor_X6_has_n101 : GoodIn wsX2_leastFor (wsX6_has) := ggX2_leastFor_X6_has
set_option maxRecDepth 20000 in
theorem ggX2_leastFor_X2_wrongsIfNext : GoodIn wsX2_leastFor wsX2_wrongsIfNext := goodIn_r _ [15, 16, 17, 18, 19, 20, 21, 22] (by decide +kernel) (by decide +kernel)
set_option maxRecDepth 20000 in
theorem gX2_leastFor_X2_wrongsIfNext : GoodIn wsX2_leastFor (wsV RX2 105 RX2 yX2_wrongsIfNext wsX2_wrongsIfNext) := goodIn_app (goodIn_of _ (by decide +kernel)) ggX2_leastFor_X2_wrongsIfNext
theorem dX2_leastFor_0 : decode cX2_leastFor 0 = .ok (.ldc 100, 2) := by decide +kernel
theorem dX2_leastFor_2 : decode cX2_leastFor 2 = .ok (.istore_n 3, 1) := by decide +kernel
theorem dX2_leastFor_3 : decode cX2_leastFor 3 = .ok (.iconst 0, 1) := by decide +kernel
theorem dX2_leastFor_4 : decode cX2_leastFor 4 = .ok (.istore 4, 2) := by decide +kernel
theorem dX2_leastFor_6 : decode cX2_leastFor 6 = .ok (.iload 4, 2) := by decide +kernel
theorem dX2_leastFor_8 : decode cX2_leastFor 8 = .ok (.aload_n 0, 1) := by decide +kernel
theorem dX2_leastFor_9 : decode cX2_leastFor 9 = .ok (.getfield 25, 3) := by decide +kernel
theorem dX2_leastFor_12 : decode cX2_leastFor 12 = .ok (.getfield 35, 3) := by decide +kernel
theorem dX2_leastFor_15 : decode cX2_leastFor 15 = .ok (.if_icmp .ge 31, 3) := by decide +kernel
theorem dX2_leastFor_18 : decode cX2_leastFor 18 = .ok (.iload_n 1, 1) := by decide +kernel
theorem dX2_leastFor_19 : decode cX2_leastFor 19 = .ok (.iload 4, 2) := by decide +kernel
theorem dX2_leastFor_21 : decode cX2_leastFor 21 = .ok (.invokestatic 101, 3) := by decide +kernel
theorem dX2_leastFor_24 : decode cX2_leastFor 24 = .ok (.ifCond .eq 16, 3) := by decide +kernel
theorem dX2_leastFor_27 : decode cX2_leastFor 27 = .ok (.iload_n 3, 1) := by decide +kernel
theorem dX2_leastFor_28 : decode cX2_leastFor 28 = .ok (.aload_n 0, 1) := by decide +kernel
theorem dX2_leastFor_29 : decode cX2_leastFor 29 = .ok (.iload 4, 2) := by decide +kernel
theorem dX2_leastFor_31 : decode cX2_leastFor 31 = .ok (.iload_n 1, 1) := by decide +kernel
theorem dX2_leastFor_32 : decode cX2_leastFor 32 = .ok (.iload_n 2, 1) := by decide +kernel
theorem dX2_leastFor_33 : decode cX2_leastFor 33 = .ok (.invokevirtual 105, 3) := by decide +kernel
theorem dX2_leastFor_36 : decode cX2_leastFor 36 = .ok (.invokestatic 108, 3) := by decide +kernel
theorem dX2_leastFor_39 : decode cX2_leastFor 39 = .ok (.istore_n 3, 1) := by decide +kernel
theorem dX2_leastFor_40 : decode cX2_leastFor 40 = .ok (.iinc 4 1, 3) := by decide +kernel
theorem dX2_leastFor_43 : decode cX2_leastFor 43 = .ok (.goto (-37), 3) := by decide +kernel
theorem dX2_leastFor_46 : decode cX2_leastFor 46 = .ok (.iload_n 3, 1) := by decide +kernel
theorem dX2_leastFor_47 : decode cX2_leastFor 47 = .ok (.ireturn, 1) := by decide +kernel
theorem dX2_wrongsIfNext_0 : decode cX2_wrongsIfNext 0 = .ok (.aload_n 0, 1) := by decide +kernel
theorem dX2_wrongsIfNext_1 : decode cX2_wrongsIfNext 1 = .ok (.getfield 9, 3) := by decide +kernel
theorem dX2_wrongsIfNext_4 : decode cX2_wrongsIfNext 4 = .ok (.iload_n 3, 1) := by decide +kernel
theorem dX2_wrongsIfNext_5 : decode cX2_wrongsIfNext 5 = .ok (.bipush 6, 2) := by decide +kernel
theorem dX2_wrongsIfNext_7 : decode cX2_wrongsIfNext 7 = .ok (.imul, 1) := by decide +kernel
theorem dX2_wrongsIfNext_8 : decode cX2_wrongsIfNext 8 = .ok (.iload_n 1, 1) := by decide +kernel
theorem dX2_wrongsIfNext_9 : decode cX2_wrongsIfNext 9 = .ok (.iadd, 1) := by decide +kernel
theorem dX2_wrongsIfNext_10 : decode cX2_wrongsIfNext 10 = .ok (.iaload, 1) := by decide +kernel
theorem dX2_wrongsIfNext_11 : decode cX2_wrongsIfNext 11 = .ok (.aload_n 0, 1) := by decide +kernel
theorem dX2_wrongsIfNext_12 : decode cX2_wrongsIfNext 12 = .ok (.getfield 15, 3) := by decide +kernel
theorem dX2_wrongsIfNext_15 : decode cX2_wrongsIfNext 15 = .ok (.iload_n 2, 1) := by decide +kernel
theorem dX2_wrongsIfNext_16 : decode cX2_wrongsIfNext 16 = .ok (.iconst 1, 1) := by decide +kernel
theorem dX2_wrongsIfNext_17 : decode cX2_wrongsIfNext 17 = .ok (.iload_n 1, 1) := by decide +kernel
theorem dX2_wrongsIfNext_18 : decode cX2_wrongsIfNext 18 = .ok (.ishl, 1) := by decide +kernel
theorem dX2_wrongsIfNext_19 : decode cX2_wrongsIfNext 19 = .ok (.iconst (-1), 1) := by decide +kernel
theorem dX2_wrongsIfNext_20 : decode cX2_wrongsIfNext 20 = .ok (.ixor, 1) := by decide +kernel
theorem dX2_wrongsIfNext_21 : decode cX2_wrongsIfNext 21 = .ok (.iand, 1) := by decide +kernel
theorem dX2_wrongsIfNext_22 : decode cX2_wrongsIfNext 22 = .ok (.iaload, 1) := by decide +kernel
theorem dX2_wrongsIfNext_23 : decode cX2_wrongsIfNext 23 = .ok (.iadd, 1) := by decide +kernel
theorem dX2_wrongsIfNext_24 : decode cX2_wrongsIfNext 24 = .ok (.ireturn, 1) := by decide +kernel
set_option maxRecDepth 20000 in
theorem ggX2_whoComesAt_X2_firstOfBest : GoodIn wsX2_whoComesAt wsX2_firstOfBest := goodIn_r _ [5, 6, 7, 8, 9, 10, 11, 12, 13, 14, 4, 15, 16, 17, 18, 19, 20, 21, 22, 23, 24, 25, 26, 27, 28, 29, 30, 31, 32] (by decide +kernel) (by decide +kernel)
set_option maxRecDepth 20000 in
theorem gX2_whoComesAt_X2_firstOfBest : GoodIn wsX2_whoComesAt (wsV RX2 113 RX2 yX2_firstOfBest wsX2_firstOfBest) := goodIn_app (goodIn_of _ (by decide +kernel)) ggX2_whoComesAt_X2_firstOfBest
theorem dX2_whoComesAt_0 : decode cX2_whoComesAt 0 = .ok (.iload_n 2, 1) := by decide +kernel
theorem dX2_whoComesAt_1 : decode cX2_whoComesAt 1 = .ok (.istore_n 3, 1) := by decide +kernel
theorem dX2_whoComesAt_2 : decode cX2_whoComesAt 2 = .ok (.aload_n 0, 1) := by decide +kernel
theorem dX2_whoComesAt_3 : decode cX2_whoComesAt 3 = .ok (.iload_n 3, 1) := by decide +kernel
theorem dX2_whoComesAt_4 : decode cX2_whoComesAt 4 = .ok (.iconst 0, 1) := by decide +kernel
theorem dX2_whoComesAt_5 : decode cX2_whoComesAt 5 = .ok (.invokevirtual 113, 3) := by decide +kernel
theorem dX2_whoComesAt_8 : decode cX2_whoComesAt 8 = .ok (.istore 4, 2) := by decide +kernel
theorem dX2_whoComesAt_10 : decode cX2_whoComesAt 10 = .ok (.iconst 1, 1) := by decide +kernel
theorem dX2_whoComesAt_11 : decode cX2_whoComesAt 11 = .ok (.istore 5, 2) := by decide +kernel
theorem dX2_whoComesAt_13 : decode cX2_whoComesAt 13 = .ok (.iload 5, 2) := by decide +kernel
theorem dX2_whoComesAt_15 : decode cX2_whoComesAt 15 = .ok (.iload_n 1, 1) := by decide +kernel
theorem dX2_whoComesAt_16 : decode cX2_whoComesAt 16 = .ok (.if_icmp .gt 27, 3) := by decide +kernel
theorem dX2_whoComesAt_19 : decode cX2_whoComesAt 19 = .ok (.iload_n 3, 1) := by decide +kernel
theorem dX2_whoComesAt_20 : decode cX2_whoComesAt 20 = .ok (.iconst 1, 1) := by decide +kernel
theorem dX2_whoComesAt_21 : decode cX2_whoComesAt 21 = .ok (.iload 4, 2) := by decide +kernel
theorem dX2_whoComesAt_23 : decode cX2_whoComesAt 23 = .ok (.ishl, 1) := by decide +kernel
theorem dX2_whoComesAt_24 : decode cX2_whoComesAt 24 = .ok (.iconst (-1), 1) := by decide +kernel
theorem dX2_whoComesAt_25 : decode cX2_whoComesAt 25 = .ok (.ixor, 1) := by decide +kernel
theorem dX2_whoComesAt_26 : decode cX2_whoComesAt 26 = .ok (.iand, 1) := by decide +kernel
theorem dX2_whoComesAt_27 : decode cX2_whoComesAt 27 = .ok (.istore_n 3, 1) := by decide +kernel
theorem dX2_whoComesAt_28 : decode cX2_whoComesAt 28 = .ok (.aload_n 0, 1) := by decide +kernel
theorem dX2_whoComesAt_29 : decode cX2_whoComesAt 29 = .ok (.iload_n 3, 1) := by decide +kernel
theorem dX2_whoComesAt_30 : decode cX2_whoComesAt 30 = .ok (.iload 5, 2) := by decide +kernel
theorem dX2_whoComesAt_32 : decode cX2_whoComesAt 32 = .ok (.invokevirtual 113, 3) := by decide +kernel
theorem dX2_whoComesAt_35 : decode cX2_whoComesAt 35 = .ok (.istore 4, 2) := by decide +kernel
theorem dX2_whoComesAt_37 : decode cX2_whoComesAt 37 = .ok (.iinc 5 1, 3) := by decide +kernel
theorem dX2_whoComesAt_40 : decode cX2_whoComesAt 40 = .ok (.goto (-27), 3) := by decide +kernel
theorem dX2_whoComesAt_43 : decode cX2_whoComesAt 43 = .ok (.iload 4, 2) := by decide +kernel
theorem dX2_whoComesAt_45 : decode cX2_whoComesAt 45 = .ok (.ireturn, 1) := by decide +kernel
set_option maxRecDepth 20000 in
theorem ggX2_firstOfBest_X6_has : GoodIn wsX2_firstOfBest wsX6_has := goodIn_r _ [6] (by decide +kernel) (by decide +kernel)
set_option maxRecDepth 20000 in
theorem gX2_firstOfBest_X6_has_n101 : GoodIn wsX2_firstOfBest (wsX6_has) := ggX2_firstOfBest_X6_has
set_option maxRecDepth 20000 in
theorem ggX2_firstOfBest_X2_wrongsIfNext : GoodIn wsX2_firstOfBest wsX2_wrongsIfNext := goodIn_r _ [11, 12, 3, 13, 14, 15, 16, 17] (by decide +kernel) (by decide +kernel)
set_option maxRecDepth 20000 in
theorem gX2_firstOfBest_X2_wrongsIfNext : GoodIn wsX2_firstOfBest (wsV RX2 105 RX2 yX2_wrongsIfNext wsX2_wrongsIfNext) := goodIn_app (goodIn_of _ (by decide +kernel)) ggX2_firstOfBest_X2_wrongsIfNext
theorem dX2_firstOfBest_0 : decode cX2_firstOfBest 0 = .ok (.iconst 0, 1) := by decide +kernel
theorem dX2_firstOfBest_1 : decode cX2_firstOfBest 1 = .ok (.istore_n 3, 1) := by decide +kernel
theorem dX2_firstOfBest_2 : decode cX2_firstOfBest 2 = .ok (.iload_n 3, 1) := by decide +kernel
theorem dX2_firstOfBest_3 : decode cX2_firstOfBest 3 = .ok (.aload_n 0, 1) := by decide +kernel
theorem dX2_firstOfBest_4 : decode cX2_firstOfBest 4 = .ok (.getfield 25, 3) := by decide +kernel
theorem dX2_firstOfBest_7 : decode cX2_firstOfBest 7 = .ok (.getfield 35, 3) := by decide +kernel
theorem dX2_firstOfBest_10 : decode cX2_firstOfBest 10 = .ok (.iconst 1, 1) := by decide +kernel
theorem dX2_firstOfBest_11 : decode cX2_firstOfBest 11 = .ok (.isub, 1) := by decide +kernel
theorem dX2_firstOfBest_12 : decode cX2_firstOfBest 12 = .ok (.if_icmp .ge 33, 3) := by decide +kernel
theorem dX2_firstOfBest_15 : decode cX2_firstOfBest 15 = .ok (.iload_n 1, 1) := by decide +kernel
theorem dX2_firstOfBest_16 : decode cX2_firstOfBest 16 = .ok (.iload_n 3, 1) := by decide +kernel
theorem dX2_firstOfBest_17 : decode cX2_firstOfBest 17 = .ok (.invokestatic 101, 3) := by decide +kernel
theorem dX2_firstOfBest_20 : decode cX2_firstOfBest 20 = .ok (.ifCond .eq 19, 3) := by decide +kernel
theorem dX2_firstOfBest_23 : decode cX2_firstOfBest 23 = .ok (.aload_n 0, 1) := by decide +kernel
theorem dX2_firstOfBest_24 : decode cX2_firstOfBest 24 = .ok (.iload_n 3, 1) := by decide +kernel
theorem dX2_firstOfBest_25 : decode cX2_firstOfBest 25 = .ok (.iload_n 1, 1) := by decide +kernel
theorem dX2_firstOfBest_26 : decode cX2_firstOfBest 26 = .ok (.iload_n 2, 1) := by decide +kernel
theorem dX2_firstOfBest_27 : decode cX2_firstOfBest 27 = .ok (.invokevirtual 105, 3) := by decide +kernel
theorem dX2_firstOfBest_30 : decode cX2_firstOfBest 30 = .ok (.aload_n 0, 1) := by decide +kernel
theorem dX2_firstOfBest_31 : decode cX2_firstOfBest 31 = .ok (.getfield 15, 3) := by decide +kernel
theorem dX2_firstOfBest_34 : decode cX2_firstOfBest 34 = .ok (.iload_n 1, 1) := by decide +kernel
theorem dX2_firstOfBest_35 : decode cX2_firstOfBest 35 = .ok (.iaload, 1) := by decide +kernel
theorem dX2_firstOfBest_36 : decode cX2_firstOfBest 36 = .ok (.if_icmp .eq 9, 3) := by decide +kernel
theorem dX2_firstOfBest_39 : decode cX2_firstOfBest 39 = .ok (.iinc 3 1, 3) := by decide +kernel
theorem dX2_firstOfBest_42 : decode cX2_firstOfBest 42 = .ok (.goto (-40), 3) := by decide +kernel
theorem dX2_firstOfBest_45 : decode cX2_firstOfBest 45 = .ok (.iload_n 3, 1) := by decide +kernel
theorem dX2_firstOfBest_46 : decode cX2_firstOfBest 46 = .ok (.ireturn, 1) := by decide +kernel
set_option maxRecDepth 20000 in
theorem ggX2_wordsOfProof_X2_fillPasses : GoodIn wsX2_wordsOfProof wsX2_fillPasses := goodIn_r _ [7, 1, 8, 2, 9, 10, 11, 12, 13, 14, 15, 16, 17, 18, 19, 20, 21, 22, 23, 24, 25, 26, 27, 28, 29, 30, 31, 32, 33, 34, 35, 36, 37, 38, 39, 40, 41, 42, 43, 44, 45, 46, 47, 48, 49, 50, 51, 52, 53, 72, 73, 74, 75, 76, 77, 78, 79, 80, 81, 82, 83, 84, 85, 86, 87, 88, 89, 90, 91, 92, 93] (by decide +kernel) (by decide +kernel)
set_option maxRecDepth 20000 in
theorem gX2_wordsOfProof_X2_fillPasses : GoodIn wsX2_wordsOfProof (wsV RX2 116 RX2 yX2_fillPasses wsX2_fillPasses) := goodIn_app (goodIn_of _ (by decide +kernel)) ggX2_wordsOfProof_X2_fillPasses
set_option maxRecDepth 20000 in
theorem ggX2_wordsOfProof_J6_bitCount_0f7a4 : GoodIn wsX2_wordsOfProof wsJ6_bitCount_0f7a4 := goodIn_r _ [57, 58, 59, 60] (by decide +kernel) (by decide +kernel)
set_option maxRecDepth 20000 in
theorem gX2_wordsOfProof_J6_bitCount_0f7a4 : GoodIn wsX2_wordsOfProof (va_wsS RX2 85 yJ6_bitCount_0f7a4 wsJ6_bitCount_0f7a4) := goodIn_app (goodIn_of _ (by decide +kernel)) ggX2_wordsOfProof_J6_bitCount_0f7a4
set_option maxRecDepth 20000 in
theorem ggX2_wordsOfProof_X2_isProof : GoodIn wsX2_wordsOfProof wsX2_isProof := goodIn_r _ [64, 1, 8, 65, 66, 67, 68, 69, 6, 70, 71, 2, 9, 39, 40, 41, 72, 73, 74, 75, 76, 77, 78, 79, 80, 81, 82, 83, 84, 85, 86, 87] (by decide +kernel) (by decide +kernel)
set_option maxRecDepth 20000 in
theorem gX2_wordsOfProof_X2_isProof : GoodIn wsX2_wordsOfProof (wsV RX2 119 RX2 yX2_isProof wsX2_isProof) := goodIn_app (goodIn_of _ (by decide +kernel)) ggX2_wordsOfProof_X2_isProof
theorem dX2_wordsOfProof_0 : decode cX2_wordsOfProof 0 = .ok (.aload_n 0, 1) := by decide +kernel
theorem dX2_wordsOfProof_1 : decode cX2_wordsOfProof 1 = .ok (.invokevirtual 116, 3) := by decide +kernel
theorem dX2_wordsOfProof_4 : decode cX2_wordsOfProof 4 = .ok (.iconst 0, 1) := by decide +kernel
theorem dX2_wordsOfProof_5 : decode cX2_wordsOfProof 5 = .ok (.istore_n 2, 1) := by decide +kernel
theorem dX2_wordsOfProof_6 : decode cX2_wordsOfProof 6 = .ok (.iload_n 2, 1) := by decide +kernel
theorem dX2_wordsOfProof_7 : decode cX2_wordsOfProof 7 = .ok (.aload_n 0, 1) := by decide +kernel
theorem dX2_wordsOfProof_8 : decode cX2_wordsOfProof 8 = .ok (.getfield 25, 3) := by decide +kernel
theorem dX2_wordsOfProof_11 : decode cX2_wordsOfProof 11 = .ok (.getfield 59, 3) := by decide +kernel
theorem dX2_wordsOfProof_14 : decode cX2_wordsOfProof 14 = .ok (.if_icmp .gt 49, 3) := by decide +kernel
theorem dX2_wordsOfProof_17 : decode cX2_wordsOfProof 17 = .ok (.iconst 0, 1) := by decide +kernel
theorem dX2_wordsOfProof_18 : decode cX2_wordsOfProof 18 = .ok (.istore_n 3, 1) := by decide +kernel
theorem dX2_wordsOfProof_19 : decode cX2_wordsOfProof 19 = .ok (.iload_n 3, 1) := by decide +kernel
theorem dX2_wordsOfProof_20 : decode cX2_wordsOfProof 20 = .ok (.iconst 1, 1) := by decide +kernel
theorem dX2_wordsOfProof_21 : decode cX2_wordsOfProof 21 = .ok (.aload_n 0, 1) := by decide +kernel
theorem dX2_wordsOfProof_22 : decode cX2_wordsOfProof 22 = .ok (.getfield 25, 3) := by decide +kernel
theorem dX2_wordsOfProof_25 : decode cX2_wordsOfProof 25 = .ok (.getfield 59, 3) := by decide +kernel
theorem dX2_wordsOfProof_28 : decode cX2_wordsOfProof 28 = .ok (.ishl, 1) := by decide +kernel
theorem dX2_wordsOfProof_29 : decode cX2_wordsOfProof 29 = .ok (.if_icmp .ge 28, 3) := by decide +kernel
theorem dX2_wordsOfProof_32 : decode cX2_wordsOfProof 32 = .ok (.iload_n 3, 1) := by decide +kernel
theorem dX2_wordsOfProof_33 : decode cX2_wordsOfProof 33 = .ok (.invokestatic 85, 3) := by decide +kernel
theorem dX2_wordsOfProof_36 : decode cX2_wordsOfProof 36 = .ok (.iload_n 2, 1) := by decide +kernel
theorem dX2_wordsOfProof_37 : decode cX2_wordsOfProof 37 = .ok (.if_icmp .ne 14, 3) := by decide +kernel
theorem dX2_wordsOfProof_40 : decode cX2_wordsOfProof 40 = .ok (.aload_n 0, 1) := by decide +kernel
theorem dX2_wordsOfProof_41 : decode cX2_wordsOfProof 41 = .ok (.iload_n 3, 1) := by decide +kernel
theorem dX2_wordsOfProof_42 : decode cX2_wordsOfProof 42 = .ok (.iload_n 1, 1) := by decide +kernel
theorem dX2_wordsOfProof_43 : decode cX2_wordsOfProof 43 = .ok (.invokevirtual 119, 3) := by decide +kernel
theorem dX2_wordsOfProof_46 : decode cX2_wordsOfProof 46 = .ok (.ifCond .eq 5, 3) := by decide +kernel
theorem dX2_wordsOfProof_49 : decode cX2_wordsOfProof 49 = .ok (.iload_n 3, 1) := by decide +kernel
theorem dX2_wordsOfProof_50 : decode cX2_wordsOfProof 50 = .ok (.ireturn, 1) := by decide +kernel
theorem dX2_wordsOfProof_51 : decode cX2_wordsOfProof 51 = .ok (.iinc 3 1, 3) := by decide +kernel
theorem dX2_wordsOfProof_54 : decode cX2_wordsOfProof 54 = .ok (.goto (-35), 3) := by decide +kernel
theorem dX2_wordsOfProof_57 : decode cX2_wordsOfProof 57 = .ok (.iinc 2 1, 3) := by decide +kernel
theorem dX2_wordsOfProof_60 : decode cX2_wordsOfProof 60 = .ok (.goto (-54), 3) := by decide +kernel
theorem dX2_wordsOfProof_63 : decode cX2_wordsOfProof 63 = .ok (.bipush (-4), 2) := by decide +kernel
theorem dX2_wordsOfProof_65 : decode cX2_wordsOfProof 65 = .ok (.ireturn, 1) := by decide +kernel
set_option maxRecDepth 20000 in
theorem ggX2_fillPasses_X1_passNow : GoodIn wsX2_fillPasses wsX1_passNow := goodIn_r _ [9, 10, 11, 12, 13, 14, 8, 15, 16, 17, 18, 19, 20, 21, 22, 23, 24, 25, 26, 27, 28, 29, 30, 31, 32, 33, 34, 35, 36, 37, 38, 39, 40, 41, 42, 43, 44, 45, 46, 47, 48, 54, 55, 56, 57, 58, 59, 60, 61, 62, 63, 64, 65, 66, 67, 68, 69, 70] (by decide +kernel) (by decide +kernel)
set_option maxRecDepth 20000 in
theorem gX2_fillPasses_X1_passNow : GoodIn wsX2_fillPasses (wsV RX2 48 RX1 yX1_passNow wsX1_passNow) := goodIn_app (goodIn_of _ (by decide +kernel)) ggX2_fillPasses_X1_passNow
theorem dX2_fillPasses_0 : decode cX2_fillPasses 0 = .ok (.iconst 0, 1) := by decide +kernel
theorem dX2_fillPasses_1 : decode cX2_fillPasses 1 = .ok (.istore_n 1, 1) := by decide +kernel
theorem dX2_fillPasses_2 : decode cX2_fillPasses 2 = .ok (.iload_n 1, 1) := by decide +kernel
theorem dX2_fillPasses_3 : decode cX2_fillPasses 3 = .ok (.aload_n 0, 1) := by decide +kernel
theorem dX2_fillPasses_4 : decode cX2_fillPasses 4 = .ok (.getfield 25, 3) := by decide +kernel
theorem dX2_fillPasses_7 : decode cX2_fillPasses 7 = .ok (.getfield 35, 3) := by decide +kernel
theorem dX2_fillPasses_10 : decode cX2_fillPasses 10 = .ok (.if_icmp .ge 48, 3) := by decide +kernel
theorem dX2_fillPasses_13 : decode cX2_fillPasses 13 = .ok (.iconst 0, 1) := by decide +kernel
theorem dX2_fillPasses_14 : decode cX2_fillPasses 14 = .ok (.istore_n 2, 1) := by decide +kernel
theorem dX2_fillPasses_15 : decode cX2_fillPasses 15 = .ok (.iload_n 2, 1) := by decide +kernel
theorem dX2_fillPasses_16 : decode cX2_fillPasses 16 = .ok (.aload_n 0, 1) := by decide +kernel
theorem dX2_fillPasses_17 : decode cX2_fillPasses 17 = .ok (.getfield 25, 3) := by decide +kernel
theorem dX2_fillPasses_20 : decode cX2_fillPasses 20 = .ok (.getfield 59, 3) := by decide +kernel
theorem dX2_fillPasses_23 : decode cX2_fillPasses 23 = .ok (.if_icmp .ge 29, 3) := by decide +kernel
theorem dX2_fillPasses_26 : decode cX2_fillPasses 26 = .ok (.aload_n 0, 1) := by decide +kernel
theorem dX2_fillPasses_27 : decode cX2_fillPasses 27 = .ok (.getfield 18, 3) := by decide +kernel
theorem dX2_fillPasses_30 : decode cX2_fillPasses 30 = .ok (.iload_n 1, 1) := by decide +kernel
theorem dX2_fillPasses_31 : decode cX2_fillPasses 31 = .ok (.bipush 6, 2) := by decide +kernel
theorem dX2_fillPasses_33 : decode cX2_fillPasses 33 = .ok (.imul, 1) := by decide +kernel
theorem dX2_fillPasses_34 : decode cX2_fillPasses 34 = .ok (.iload_n 2, 1) := by decide +kernel
theorem dX2_fillPasses_35 : decode cX2_fillPasses 35 = .ok (.iadd, 1) := by decide +kernel
theorem dX2_fillPasses_36 : decode cX2_fillPasses 36 = .ok (.aload_n 0, 1) := by decide +kernel
theorem dX2_fillPasses_37 : decode cX2_fillPasses 37 = .ok (.getfield 25, 3) := by decide +kernel
theorem dX2_fillPasses_40 : decode cX2_fillPasses 40 = .ok (.iload_n 1, 1) := by decide +kernel
theorem dX2_fillPasses_41 : decode cX2_fillPasses 41 = .ok (.iload_n 2, 1) := by decide +kernel
theorem dX2_fillPasses_42 : decode cX2_fillPasses 42 = .ok (.invokevirtual 48, 3) := by decide +kernel
theorem dX2_fillPasses_45 : decode cX2_fillPasses 45 = .ok (.iastore, 1) := by decide +kernel
theorem dX2_fillPasses_46 : decode cX2_fillPasses 46 = .ok (.iinc 2 1, 3) := by decide +kernel
theorem dX2_fillPasses_49 : decode cX2_fillPasses 49 = .ok (.goto (-34), 3) := by decide +kernel
theorem dX2_fillPasses_52 : decode cX2_fillPasses 52 = .ok (.iinc 1 1, 3) := by decide +kernel
theorem dX2_fillPasses_55 : decode cX2_fillPasses 55 = .ok (.goto (-53), 3) := by decide +kernel
theorem dX2_fillPasses_58 : decode cX2_fillPasses 58 = .ok (.return_, 1) := by decide +kernel
set_option maxRecDepth 20000 in
theorem ggX2_isProof_X2_passByAll : GoodIn wsX2_isProof wsX2_passByAll := goodIn_r _ [9, 10, 1, 11, 12, 13, 14, 15, 16, 17, 18, 19, 20, 21, 22, 23, 24, 25, 26, 27, 28, 29, 30, 31] (by decide +kernel) (by decide +kernel)
set_option maxRecDepth 20000 in
theorem gX2_isProof_X2_passByAll : GoodIn wsX2_isProof (wsV RX2 122 RX2 yX2_passByAll wsX2_passByAll) := goodIn_app (goodIn_of _ (by decide +kernel)) ggX2_isProof_X2_passByAll
theorem dX2_isProof_0 : decode cX2_isProof 0 = .ok (.iconst 0, 1) := by decide +kernel
theorem dX2_isProof_1 : decode cX2_isProof 1 = .ok (.istore_n 3, 1) := by decide +kernel
theorem dX2_isProof_2 : decode cX2_isProof 2 = .ok (.iload_n 3, 1) := by decide +kernel
theorem dX2_isProof_3 : decode cX2_isProof 3 = .ok (.aload_n 0, 1) := by decide +kernel
theorem dX2_isProof_4 : decode cX2_isProof 4 = .ok (.getfield 25, 3) := by decide +kernel
theorem dX2_isProof_7 : decode cX2_isProof 7 = .ok (.getfield 35, 3) := by decide +kernel
theorem dX2_isProof_10 : decode cX2_isProof 10 = .ok (.if_icmp .ge 53, 3) := by decide +kernel
theorem dX2_isProof_13 : decode cX2_isProof 13 = .ok (.aload_n 0, 1) := by decide +kernel
theorem dX2_isProof_14 : decode cX2_isProof 14 = .ok (.iload_n 3, 1) := by decide +kernel
theorem dX2_isProof_15 : decode cX2_isProof 15 = .ok (.iload_n 1, 1) := by decide +kernel
theorem dX2_isProof_16 : decode cX2_isProof 16 = .ok (.invokevirtual 122, 3) := by decide +kernel
theorem dX2_isProof_19 : decode cX2_isProof 19 = .ok (.lstore 4, 2) := by decide +kernel
theorem dX2_isProof_21 : decode cX2_isProof 21 = .ok (.aload_n 0, 1) := by decide +kernel
theorem dX2_isProof_22 : decode cX2_isProof 22 = .ok (.getfield 25, 3) := by decide +kernel
theorem dX2_isProof_25 : decode cX2_isProof 25 = .ok (.getfield 29, 3) := by decide +kernel
theorem dX2_isProof_28 : decode cX2_isProof 28 = .ok (.iload_n 3, 1) := by decide +kernel
theorem dX2_isProof_29 : decode cX2_isProof 29 = .ok (.iaload, 1) := by decide +kernel
theorem dX2_isProof_30 : decode cX2_isProof 30 = .ok (.ifCond .ne 14, 3) := by decide +kernel
theorem dX2_isProof_33 : decode cX2_isProof 33 = .ok (.lload 4, 2) := by decide +kernel
theorem dX2_isProof_35 : decode cX2_isProof 35 = .ok (.iload_n 2, 1) := by decide +kernel
theorem dX2_isProof_36 : decode cX2_isProof 36 = .ok (.i2l, 1) := by decide +kernel
theorem dX2_isProof_37 : decode cX2_isProof 37 = .ok (.lcmp, 1) := by decide +kernel
theorem dX2_isProof_38 : decode cX2_isProof 38 = .ok (.ifCond .ge 19, 3) := by decide +kernel
theorem dX2_isProof_41 : decode cX2_isProof 41 = .ok (.goto 14, 3) := by decide +kernel
theorem dX2_isProof_44 : decode cX2_isProof 44 = .ok (.lload 4, 2) := by decide +kernel
theorem dX2_isProof_46 : decode cX2_isProof 46 = .ok (.ldc 34, 2) := by decide +kernel
theorem dX2_isProof_48 : decode cX2_isProof 48 = .ok (.iload_n 2, 1) := by decide +kernel
theorem dX2_isProof_49 : decode cX2_isProof 49 = .ok (.isub, 1) := by decide +kernel
theorem dX2_isProof_50 : decode cX2_isProof 50 = .ok (.i2l, 1) := by decide +kernel
theorem dX2_isProof_51 : decode cX2_isProof 51 = .ok (.lcmp, 1) := by decide +kernel
theorem dX2_isProof_52 : decode cX2_isProof 52 = .ok (.ifCond .le 5, 3) := by decide +kernel
theorem dX2_isProof_55 : decode cX2_isProof 55 = .ok (.iconst 0, 1) := by decide +kernel
theorem dX2_isProof_56 : decode cX2_isProof 56 = .ok (.ireturn, 1) := by decide +kernel
theorem dX2_isProof_57 : decode cX2_isProof 57 = .ok (.iinc 3 1, 3) := by decide +kernel
theorem dX2_isProof_60 : decode cX2_isProof 60 = .ok (.goto (-58), 3) := by decide +kernel
theorem dX2_isProof_63 : decode cX2_isProof 63 = .ok (.iconst 1, 1) := by decide +kernel
theorem dX2_isProof_64 : decode cX2_isProof 64 = .ok (.ireturn, 1) := by decide +kernel
set_option maxRecDepth 20000 in
theorem ggX2_passByAll_X6_has : GoodIn wsX2_passByAll wsX6_has := goodIn_r _ [7] (by decide +kernel) (by decide +kernel)
set_option maxRecDepth 20000 in
theorem gX2_passByAll_X6_has_n101 : GoodIn wsX2_passByAll (wsX6_has) := ggX2_passByAll_X6_has
theorem dX2_passByAll_0 : decode cX2_passByAll 0 = .ok (.ldc2_w 126, 3) := by decide +kernel
theorem dX2_passByAll_3 : decode cX2_passByAll 3 = .ok (.lstore_n 3, 1) := by decide +kernel
theorem dX2_passByAll_4 : decode cX2_passByAll 4 = .ok (.iconst 0, 1) := by decide +kernel
theorem dX2_passByAll_5 : decode cX2_passByAll 5 = .ok (.istore 5, 2) := by decide +kernel
theorem dX2_passByAll_7 : decode cX2_passByAll 7 = .ok (.iload 5, 2) := by decide +kernel
theorem dX2_passByAll_9 : decode cX2_passByAll 9 = .ok (.aload_n 0, 1) := by decide +kernel
theorem dX2_passByAll_10 : decode cX2_passByAll 10 = .ok (.getfield 25, 3) := by decide +kernel
theorem dX2_passByAll_13 : decode cX2_passByAll 13 = .ok (.getfield 59, 3) := by decide +kernel
theorem dX2_passByAll_16 : decode cX2_passByAll 16 = .ok (.if_icmp .ge 38, 3) := by decide +kernel
theorem dX2_passByAll_19 : decode cX2_passByAll 19 = .ok (.iload_n 2, 1) := by decide +kernel
theorem dX2_passByAll_20 : decode cX2_passByAll 20 = .ok (.iload 5, 2) := by decide +kernel
theorem dX2_passByAll_22 : decode cX2_passByAll 22 = .ok (.invokestatic 101, 3) := by decide +kernel
theorem dX2_passByAll_25 : decode cX2_passByAll 25 = .ok (.ifCond .eq 23, 3) := by decide +kernel
theorem dX2_passByAll_28 : decode cX2_passByAll 28 = .ok (.lload_n 3, 1) := by decide +kernel
theorem dX2_passByAll_29 : decode cX2_passByAll 29 = .ok (.aload_n 0, 1) := by decide +kernel
theorem dX2_passByAll_30 : decode cX2_passByAll 30 = .ok (.getfield 18, 3) := by decide +kernel
theorem dX2_passByAll_33 : decode cX2_passByAll 33 = .ok (.iload_n 1, 1) := by decide +kernel
theorem dX2_passByAll_34 : decode cX2_passByAll 34 = .ok (.bipush 6, 2) := by decide +kernel
theorem dX2_passByAll_36 : decode cX2_passByAll 36 = .ok (.imul, 1) := by decide +kernel
theorem dX2_passByAll_37 : decode cX2_passByAll 37 = .ok (.iload 5, 2) := by decide +kernel
theorem dX2_passByAll_39 : decode cX2_passByAll 39 = .ok (.iadd, 1) := by decide +kernel
theorem dX2_passByAll_40 : decode cX2_passByAll 40 = .ok (.iaload, 1) := by decide +kernel
theorem dX2_passByAll_41 : decode cX2_passByAll 41 = .ok (.i2l, 1) := by decide +kernel
theorem dX2_passByAll_42 : decode cX2_passByAll 42 = .ok (.lmul, 1) := by decide +kernel
theorem dX2_passByAll_43 : decode cX2_passByAll 43 = .ok (.ldc2_w 126, 3) := by decide +kernel
theorem dX2_passByAll_46 : decode cX2_passByAll 46 = .ok (.ldiv, 1) := by decide +kernel
theorem dX2_passByAll_47 : decode cX2_passByAll 47 = .ok (.lstore_n 3, 1) := by decide +kernel
theorem dX2_passByAll_48 : decode cX2_passByAll 48 = .ok (.iinc 5 1, 3) := by decide +kernel
theorem dX2_passByAll_51 : decode cX2_passByAll 51 = .ok (.goto (-44), 3) := by decide +kernel
theorem dX2_passByAll_54 : decode cX2_passByAll 54 = .ok (.lload_n 3, 1) := by decide +kernel
theorem dX2_passByAll_55 : decode cX2_passByAll 55 = .ok (.lreturn, 1) := by decide +kernel
theorem dX2_isHeardWrong_0 : decode cX2_isHeardWrong 0 = .ok (.aload_n 0, 1) := by decide +kernel
theorem dX2_isHeardWrong_1 : decode cX2_isHeardWrong 1 = .ok (.getfield 25, 3) := by decide +kernel
theorem dX2_isHeardWrong_4 : decode cX2_isHeardWrong 4 = .ok (.getfield 39, 3) := by decide +kernel
theorem dX2_isHeardWrong_7 : decode cX2_isHeardWrong 7 = .ok (.getfield 128, 3) := by decide +kernel
theorem dX2_isHeardWrong_10 : decode cX2_isHeardWrong 10 = .ok (.astore_n 2, 1) := by decide +kernel
theorem dX2_isHeardWrong_11 : decode cX2_isHeardWrong 11 = .ok (.aload_n 0, 1) := by decide +kernel
theorem dX2_isHeardWrong_12 : decode cX2_isHeardWrong 12 = .ok (.getfield 25, 3) := by decide +kernel
theorem dX2_isHeardWrong_15 : decode cX2_isHeardWrong 15 = .ok (.getfield 29, 3) := by decide +kernel
theorem dX2_isHeardWrong_18 : decode cX2_isHeardWrong 18 = .ok (.aload_n 2, 1) := by decide +kernel
theorem dX2_isHeardWrong_19 : decode cX2_isHeardWrong 19 = .ok (.getfield 132, 3) := by decide +kernel
theorem dX2_isHeardWrong_22 : decode cX2_isHeardWrong 22 = .ok (.iload_n 1, 1) := by decide +kernel
theorem dX2_isHeardWrong_23 : decode cX2_isHeardWrong 23 = .ok (.iaload, 1) := by decide +kernel
theorem dX2_isHeardWrong_24 : decode cX2_isHeardWrong 24 = .ok (.iaload, 1) := by decide +kernel
theorem dX2_isHeardWrong_25 : decode cX2_isHeardWrong 25 = .ok (.ifCond .ne 7, 3) := by decide +kernel
theorem dX2_isHeardWrong_28 : decode cX2_isHeardWrong 28 = .ok (.iconst 1, 1) := by decide +kernel
theorem dX2_isHeardWrong_29 : decode cX2_isHeardWrong 29 = .ok (.goto 4, 3) := by decide +kernel
theorem dX2_isHeardWrong_32 : decode cX2_isHeardWrong 32 = .ok (.iconst 2, 1) := by decide +kernel
theorem dX2_isHeardWrong_33 : decode cX2_isHeardWrong 33 = .ok (.istore_n 3, 1) := by decide +kernel
theorem dX2_isHeardWrong_34 : decode cX2_isHeardWrong 34 = .ok (.aload_n 2, 1) := by decide +kernel
theorem dX2_isHeardWrong_35 : decode cX2_isHeardWrong 35 = .ok (.getfield 137, 3) := by decide +kernel
theorem dX2_isHeardWrong_38 : decode cX2_isHeardWrong 38 = .ok (.iload_n 1, 1) := by decide +kernel
theorem dX2_isHeardWrong_39 : decode cX2_isHeardWrong 39 = .ok (.iaload, 1) := by decide +kernel
theorem dX2_isHeardWrong_40 : decode cX2_isHeardWrong 40 = .ok (.iload_n 3, 1) := by decide +kernel
theorem dX2_isHeardWrong_41 : decode cX2_isHeardWrong 41 = .ok (.if_icmp .eq 7, 3) := by decide +kernel
theorem dX2_isHeardWrong_44 : decode cX2_isHeardWrong 44 = .ok (.iconst 1, 1) := by decide +kernel
theorem dX2_isHeardWrong_45 : decode cX2_isHeardWrong 45 = .ok (.goto 4, 3) := by decide +kernel
theorem dX2_isHeardWrong_48 : decode cX2_isHeardWrong 48 = .ok (.iconst 0, 1) := by decide +kernel
theorem dX2_isHeardWrong_49 : decode cX2_isHeardWrong 49 = .ok (.ireturn, 1) := by decide +kernel
set_option maxRecDepth 20000 in
theorem ggX2_howManyHeardWrong_X2_isHeardWrong : GoodIn wsX2_howManyHeardWrong wsX2_isHeardWrong := goodIn_r _ [9, 1, 2, 3, 10, 11, 12, 13, 14, 15, 16, 17, 18, 19, 20, 21, 22, 23, 24, 25, 26, 27, 28, 29, 30, 31, 32, 33, 34, 35, 36, 37, 38] (by decide +kernel) (by decide +kernel)
set_option maxRecDepth 20000 in
theorem gX2_howManyHeardWrong_X2_isHeardWrong : GoodIn wsX2_howManyHeardWrong (wsV RX2 141 RX2 yX2_isHeardWrong wsX2_isHeardWrong) := goodIn_app (goodIn_of _ (by decide +kernel)) ggX2_howManyHeardWrong_X2_isHeardWrong
theorem dX2_howManyHeardWrong_0 : decode cX2_howManyHeardWrong 0 = .ok (.iconst 0, 1) := by decide +kernel
theorem dX2_howManyHeardWrong_1 : decode cX2_howManyHeardWrong 1 = .ok (.istore_n 1, 1) := by decide +kernel
theorem dX2_howManyHeardWrong_2 : decode cX2_howManyHeardWrong 2 = .ok (.iconst 0, 1) := by decide +kernel
theorem dX2_howManyHeardWrong_3 : decode cX2_howManyHeardWrong 3 = .ok (.istore_n 2, 1) := by decide +kernel
theorem dX2_howManyHeardWrong_4 : decode cX2_howManyHeardWrong 4 = .ok (.iload_n 2, 1) := by decide +kernel
theorem dX2_howManyHeardWrong_5 : decode cX2_howManyHeardWrong 5 = .ok (.aload_n 0, 1) := by decide +kernel
theorem dX2_howManyHeardWrong_6 : decode cX2_howManyHeardWrong 6 = .ok (.getfield 25, 3) := by decide +kernel
theorem dX2_howManyHeardWrong_9 : decode cX2_howManyHeardWrong 9 = .ok (.getfield 39, 3) := by decide +kernel
theorem dX2_howManyHeardWrong_12 : decode cX2_howManyHeardWrong 12 = .ok (.getfield 128, 3) := by decide +kernel
theorem dX2_howManyHeardWrong_15 : decode cX2_howManyHeardWrong 15 = .ok (.getfield 138, 3) := by decide +kernel
theorem dX2_howManyHeardWrong_18 : decode cX2_howManyHeardWrong 18 = .ok (.if_icmp .ge 20, 3) := by decide +kernel
theorem dX2_howManyHeardWrong_21 : decode cX2_howManyHeardWrong 21 = .ok (.aload_n 0, 1) := by decide +kernel
theorem dX2_howManyHeardWrong_22 : decode cX2_howManyHeardWrong 22 = .ok (.iload_n 2, 1) := by decide +kernel
theorem dX2_howManyHeardWrong_23 : decode cX2_howManyHeardWrong 23 = .ok (.invokevirtual 141, 3) := by decide +kernel
theorem dX2_howManyHeardWrong_26 : decode cX2_howManyHeardWrong 26 = .ok (.ifCond .eq 6, 3) := by decide +kernel
theorem dX2_howManyHeardWrong_29 : decode cX2_howManyHeardWrong 29 = .ok (.iinc 1 1, 3) := by decide +kernel
theorem dX2_howManyHeardWrong_32 : decode cX2_howManyHeardWrong 32 = .ok (.iinc 2 1, 3) := by decide +kernel
theorem dX2_howManyHeardWrong_35 : decode cX2_howManyHeardWrong 35 = .ok (.goto (-31), 3) := by decide +kernel
theorem dX2_howManyHeardWrong_38 : decode cX2_howManyHeardWrong 38 = .ok (.iload_n 1, 1) := by decide +kernel
theorem dX2_howManyHeardWrong_39 : decode cX2_howManyHeardWrong 39 = .ok (.ireturn, 1) := by decide +kernel
set_option maxRecDepth 20000 in
theorem ggX2_unluckiestHeardWrong_X2_isHeardWrong : GoodIn wsX2_unluckiestHeardWrong wsX2_isHeardWrong := goodIn_r _ [14, 1, 2, 3, 15, 9, 6, 16, 17, 18, 19, 20, 21, 22, 23, 24, 25, 26, 27, 28, 29, 30, 31, 32, 33, 34, 35, 36, 37, 38, 39, 40, 41] (by decide +kernel) (by decide +kernel)
set_option maxRecDepth 20000 in
theorem gX2_unluckiestHeardWrong_X2_isHeardWrong : GoodIn wsX2_unluckiestHeardWrong (wsV RX2 141 RX2 yX2_isHeardWrong wsX2_isHeardWrong) := goodIn_app (goodIn_of _ (by decide +kernel)) ggX2_unluckiestHeardWrong_X2_isHeardWrong
theorem dX2_unluckiestHeardWrong_0 : decode cX2_unluckiestHeardWrong 0 = .ok (.aload_n 0, 1) := by decide +kernel
theorem dX2_unluckiestHeardWrong_1 : decode cX2_unluckiestHeardWrong 1 = .ok (.getfield 25, 3) := by decide +kernel
theorem dX2_unluckiestHeardWrong_4 : decode cX2_unluckiestHeardWrong 4 = .ok (.getfield 39, 3) := by decide +kernel
theorem dX2_unluckiestHeardWrong_7 : decode cX2_unluckiestHeardWrong 7 = .ok (.getfield 128, 3) := by decide +kernel
theorem dX2_unluckiestHeardWrong_10 : decode cX2_unluckiestHeardWrong 10 = .ok (.astore_n 1, 1) := by decide +kernel
theorem dX2_unluckiestHeardWrong_11 : decode cX2_unluckiestHeardWrong 11 = .ok (.bipush (-4), 2) := by decide +kernel
theorem dX2_unluckiestHeardWrong_13 : decode cX2_unluckiestHeardWrong 13 = .ok (.istore_n 2, 1) := by decide +kernel
theorem dX2_unluckiestHeardWrong_14 : decode cX2_unluckiestHeardWrong 14 = .ok (.ldc 145, 2) := by decide +kernel
theorem dX2_unluckiestHeardWrong_16 : decode cX2_unluckiestHeardWrong 16 = .ok (.istore_n 3, 1) := by decide +kernel
theorem dX2_unluckiestHeardWrong_17 : decode cX2_unluckiestHeardWrong 17 = .ok (.iconst 0, 1) := by decide +kernel
theorem dX2_unluckiestHeardWrong_18 : decode cX2_unluckiestHeardWrong 18 = .ok (.istore 4, 2) := by decide +kernel
theorem dX2_unluckiestHeardWrong_20 : decode cX2_unluckiestHeardWrong 20 = .ok (.iload 4, 2) := by decide +kernel
theorem dX2_unluckiestHeardWrong_22 : decode cX2_unluckiestHeardWrong 22 = .ok (.aload_n 1, 1) := by decide +kernel
theorem dX2_unluckiestHeardWrong_23 : decode cX2_unluckiestHeardWrong 23 = .ok (.getfield 138, 3) := by decide +kernel
theorem dX2_unluckiestHeardWrong_26 : decode cX2_unluckiestHeardWrong 26 = .ok (.if_icmp .ge 68, 3) := by decide +kernel
theorem dX2_unluckiestHeardWrong_29 : decode cX2_unluckiestHeardWrong 29 = .ok (.aload_n 1, 1) := by decide +kernel
theorem dX2_unluckiestHeardWrong_30 : decode cX2_unluckiestHeardWrong 30 = .ok (.getfield 137, 3) := by decide +kernel
theorem dX2_unluckiestHeardWrong_33 : decode cX2_unluckiestHeardWrong 33 = .ok (.iload 4, 2) := by decide +kernel
theorem dX2_unluckiestHeardWrong_35 : decode cX2_unluckiestHeardWrong 35 = .ok (.iaload, 1) := by decide +kernel
theorem dX2_unluckiestHeardWrong_36 : decode cX2_unluckiestHeardWrong 36 = .ok (.iconst 1, 1) := by decide +kernel
theorem dX2_unluckiestHeardWrong_37 : decode cX2_unluckiestHeardWrong 37 = .ok (.if_icmp .ne 13, 3) := by decide +kernel
theorem dX2_unluckiestHeardWrong_40 : decode cX2_unluckiestHeardWrong 40 = .ok (.aload_n 1, 1) := by decide +kernel
theorem dX2_unluckiestHeardWrong_41 : decode cX2_unluckiestHeardWrong 41 = .ok (.getfield 146, 3) := by decide +kernel
theorem dX2_unluckiestHeardWrong_44 : decode cX2_unluckiestHeardWrong 44 = .ok (.iload 4, 2) := by decide +kernel
theorem dX2_unluckiestHeardWrong_46 : decode cX2_unluckiestHeardWrong 46 = .ok (.iaload, 1) := by decide +kernel
theorem dX2_unluckiestHeardWrong_47 : decode cX2_unluckiestHeardWrong 47 = .ok (.goto 13, 3) := by decide +kernel
theorem dX2_unluckiestHeardWrong_50 : decode cX2_unluckiestHeardWrong 50 = .ok (.ldc 34, 2) := by decide +kernel
theorem dX2_unluckiestHeardWrong_52 : decode cX2_unluckiestHeardWrong 52 = .ok (.aload_n 1, 1) := by decide +kernel
theorem dX2_unluckiestHeardWrong_53 : decode cX2_unluckiestHeardWrong 53 = .ok (.getfield 146, 3) := by decide +kernel
theorem dX2_unluckiestHeardWrong_56 : decode cX2_unluckiestHeardWrong 56 = .ok (.iload 4, 2) := by decide +kernel
theorem dX2_unluckiestHeardWrong_58 : decode cX2_unluckiestHeardWrong 58 = .ok (.iaload, 1) := by decide +kernel
theorem dX2_unluckiestHeardWrong_59 : decode cX2_unluckiestHeardWrong 59 = .ok (.isub, 1) := by decide +kernel
theorem dX2_unluckiestHeardWrong_60 : decode cX2_unluckiestHeardWrong 60 = .ok (.istore 5, 2) := by decide +kernel
theorem dX2_unluckiestHeardWrong_62 : decode cX2_unluckiestHeardWrong 62 = .ok (.aload_n 0, 1) := by decide +kernel
theorem dX2_unluckiestHeardWrong_63 : decode cX2_unluckiestHeardWrong 63 = .ok (.iload 4, 2) := by decide +kernel
theorem dX2_unluckiestHeardWrong_65 : decode cX2_unluckiestHeardWrong 65 = .ok (.invokevirtual 141, 3) := by decide +kernel
theorem dX2_unluckiestHeardWrong_68 : decode cX2_unluckiestHeardWrong 68 = .ok (.ifCond .eq 20, 3) := by decide +kernel
theorem dX2_unluckiestHeardWrong_71 : decode cX2_unluckiestHeardWrong 71 = .ok (.iload 5, 2) := by decide +kernel
theorem dX2_unluckiestHeardWrong_73 : decode cX2_unluckiestHeardWrong 73 = .ok (.iload_n 3, 1) := by decide +kernel
theorem dX2_unluckiestHeardWrong_74 : decode cX2_unluckiestHeardWrong 74 = .ok (.if_icmp .ge 14, 3) := by decide +kernel
theorem dX2_unluckiestHeardWrong_77 : decode cX2_unluckiestHeardWrong 77 = .ok (.aload_n 1, 1) := by decide +kernel
theorem dX2_unluckiestHeardWrong_78 : decode cX2_unluckiestHeardWrong 78 = .ok (.getfield 132, 3) := by decide +kernel
theorem dX2_unluckiestHeardWrong_81 : decode cX2_unluckiestHeardWrong 81 = .ok (.iload 4, 2) := by decide +kernel
theorem dX2_unluckiestHeardWrong_83 : decode cX2_unluckiestHeardWrong 83 = .ok (.iaload, 1) := by decide +kernel
theorem dX2_unluckiestHeardWrong_84 : decode cX2_unluckiestHeardWrong 84 = .ok (.istore_n 2, 1) := by decide +kernel
theorem dX2_unluckiestHeardWrong_85 : decode cX2_unluckiestHeardWrong 85 = .ok (.iload 5, 2) := by decide +kernel
theorem dX2_unluckiestHeardWrong_87 : decode cX2_unluckiestHeardWrong 87 = .ok (.istore_n 3, 1) := by decide +kernel
theorem dX2_unluckiestHeardWrong_88 : decode cX2_unluckiestHeardWrong 88 = .ok (.iinc 4 1, 3) := by decide +kernel
theorem dX2_unluckiestHeardWrong_91 : decode cX2_unluckiestHeardWrong 91 = .ok (.goto (-71), 3) := by decide +kernel
theorem dX2_unluckiestHeardWrong_94 : decode cX2_unluckiestHeardWrong 94 = .ok (.iload_n 2, 1) := by decide +kernel
theorem dX2_unluckiestHeardWrong_95 : decode cX2_unluckiestHeardWrong 95 = .ok (.ireturn, 1) := by decide +kernel
set_option maxRecDepth 20000 in
theorem ggX2_weighLikes_X1_passNow : GoodIn wsX2_weighLikes wsX1_passNow := goodIn_r _ [11, 12, 13, 14, 15, 16, 10, 17, 18, 19, 20, 21, 22, 23, 24, 25, 26, 27, 28, 29, 30, 31, 32, 33, 34, 35, 36, 37, 38, 39, 40, 41, 42, 43, 44, 45, 46, 47, 48, 49, 50, 56, 57, 58, 59, 60, 61, 62, 63, 64, 65, 66, 71, 72, 73, 74, 75, 76] (by decide +kernel) (by decide +kernel)
set_option maxRecDepth 20000 in
theorem gX2_weighLikes_X1_passNow : GoodIn wsX2_weighLikes (wsV RX2 48 RX1 yX1_passNow wsX1_passNow) := goodIn_app (goodIn_of _ (by decide +kernel)) ggX2_weighLikes_X1_passNow
theorem dX2_weighLikes_0 : decode cX2_weighLikes 0 = .ok (.iconst 0, 1) := by decide +kernel
theorem dX2_weighLikes_1 : decode cX2_weighLikes 1 = .ok (.istore 4, 2) := by decide +kernel
theorem dX2_weighLikes_3 : decode cX2_weighLikes 3 = .ok (.iload 4, 2) := by decide +kernel
theorem dX2_weighLikes_5 : decode cX2_weighLikes 5 = .ok (.aload_n 0, 1) := by decide +kernel
theorem dX2_weighLikes_6 : decode cX2_weighLikes 6 = .ok (.getfield 25, 3) := by decide +kernel
theorem dX2_weighLikes_9 : decode cX2_weighLikes 9 = .ok (.getfield 35, 3) := by decide +kernel
theorem dX2_weighLikes_12 : decode cX2_weighLikes 12 = .ok (.if_icmp .ge 105, 3) := by decide +kernel
theorem dX2_weighLikes_15 : decode cX2_weighLikes 15 = .ok (.aload_n 0, 1) := by decide +kernel
theorem dX2_weighLikes_16 : decode cX2_weighLikes 16 = .ok (.getfield 21, 3) := by decide +kernel
theorem dX2_weighLikes_19 : decode cX2_weighLikes 19 = .ok (.iload 4, 2) := by decide +kernel
theorem dX2_weighLikes_21 : decode cX2_weighLikes 21 = .ok (.ldc2_w 126, 3) := by decide +kernel
theorem dX2_weighLikes_24 : decode cX2_weighLikes 24 = .ok (.lastore, 1) := by decide +kernel
theorem dX2_weighLikes_25 : decode cX2_weighLikes 25 = .ok (.iload_n 2, 1) := by decide +kernel
theorem dX2_weighLikes_26 : decode cX2_weighLikes 26 = .ok (.istore 5, 2) := by decide +kernel
theorem dX2_weighLikes_28 : decode cX2_weighLikes 28 = .ok (.iload 5, 2) := by decide +kernel
theorem dX2_weighLikes_30 : decode cX2_weighLikes 30 = .ok (.iload_n 2, 1) := by decide +kernel
theorem dX2_weighLikes_31 : decode cX2_weighLikes 31 = .ok (.iconst 2, 1) := by decide +kernel
theorem dX2_weighLikes_32 : decode cX2_weighLikes 32 = .ok (.iload_n 3, 1) := by decide +kernel
theorem dX2_weighLikes_33 : decode cX2_weighLikes 33 = .ok (.imul, 1) := by decide +kernel
theorem dX2_weighLikes_34 : decode cX2_weighLikes 34 = .ok (.iadd, 1) := by decide +kernel
theorem dX2_weighLikes_35 : decode cX2_weighLikes 35 = .ok (.if_icmp .ge 76, 3) := by decide +kernel
theorem dX2_weighLikes_38 : decode cX2_weighLikes 38 = .ok (.aload_n 0, 1) := by decide +kernel
theorem dX2_weighLikes_39 : decode cX2_weighLikes 39 = .ok (.getfield 25, 3) := by decide +kernel
theorem dX2_weighLikes_42 : decode cX2_weighLikes 42 = .ok (.iload 4, 2) := by decide +kernel
theorem dX2_weighLikes_44 : decode cX2_weighLikes 44 = .ok (.aload_n 1, 1) := by decide +kernel
theorem dX2_weighLikes_45 : decode cX2_weighLikes 45 = .ok (.getfield 149, 3) := by decide +kernel
theorem dX2_weighLikes_48 : decode cX2_weighLikes 48 = .ok (.iload 5, 2) := by decide +kernel
theorem dX2_weighLikes_50 : decode cX2_weighLikes 50 = .ok (.laload, 1) := by decide +kernel
theorem dX2_weighLikes_51 : decode cX2_weighLikes 51 = .ok (.l2i, 1) := by decide +kernel
theorem dX2_weighLikes_52 : decode cX2_weighLikes 52 = .ok (.invokevirtual 48, 3) := by decide +kernel
theorem dX2_weighLikes_55 : decode cX2_weighLikes 55 = .ok (.istore 6, 2) := by decide +kernel
theorem dX2_weighLikes_57 : decode cX2_weighLikes 57 = .ok (.aload_n 1, 1) := by decide +kernel
theorem dX2_weighLikes_58 : decode cX2_weighLikes 58 = .ok (.getfield 149, 3) := by decide +kernel
theorem dX2_weighLikes_61 : decode cX2_weighLikes 61 = .ok (.iload 5, 2) := by decide +kernel
theorem dX2_weighLikes_63 : decode cX2_weighLikes 63 = .ok (.iconst 1, 1) := by decide +kernel
theorem dX2_weighLikes_64 : decode cX2_weighLikes 64 = .ok (.iadd, 1) := by decide +kernel
theorem dX2_weighLikes_65 : decode cX2_weighLikes 65 = .ok (.laload, 1) := by decide +kernel
theorem dX2_weighLikes_66 : decode cX2_weighLikes 66 = .ok (.lconst 1, 1) := by decide +kernel
theorem dX2_weighLikes_67 : decode cX2_weighLikes 67 = .ok (.lcmp, 1) := by decide +kernel
theorem dX2_weighLikes_68 : decode cX2_weighLikes 68 = .ok (.ifCond .ne 8, 3) := by decide +kernel
theorem dX2_weighLikes_71 : decode cX2_weighLikes 71 = .ok (.iload 6, 2) := by decide +kernel
theorem dX2_weighLikes_73 : decode cX2_weighLikes 73 = .ok (.goto 8, 3) := by decide +kernel
theorem dX2_weighLikes_76 : decode cX2_weighLikes 76 = .ok (.ldc 34, 2) := by decide +kernel
theorem dX2_weighLikes_78 : decode cX2_weighLikes 78 = .ok (.iload 6, 2) := by decide +kernel
theorem dX2_weighLikes_80 : decode cX2_weighLikes 80 = .ok (.isub, 1) := by decide +kernel
theorem dX2_weighLikes_81 : decode cX2_weighLikes 81 = .ok (.istore 7, 2) := by decide +kernel
theorem dX2_weighLikes_83 : decode cX2_weighLikes 83 = .ok (.aload_n 0, 1) := by decide +kernel
theorem dX2_weighLikes_84 : decode cX2_weighLikes 84 = .ok (.getfield 21, 3) := by decide +kernel
theorem dX2_weighLikes_87 : decode cX2_weighLikes 87 = .ok (.iload 4, 2) := by decide +kernel
theorem dX2_weighLikes_89 : decode cX2_weighLikes 89 = .ok (.aload_n 0, 1) := by decide +kernel
theorem dX2_weighLikes_90 : decode cX2_weighLikes 90 = .ok (.getfield 21, 3) := by decide +kernel
theorem dX2_weighLikes_93 : decode cX2_weighLikes 93 = .ok (.iload 4, 2) := by decide +kernel
theorem dX2_weighLikes_95 : decode cX2_weighLikes 95 = .ok (.laload, 1) := by decide +kernel
theorem dX2_weighLikes_96 : decode cX2_weighLikes 96 = .ok (.iload 7, 2) := by decide +kernel
theorem dX2_weighLikes_98 : decode cX2_weighLikes 98 = .ok (.i2l, 1) := by decide +kernel
theorem dX2_weighLikes_99 : decode cX2_weighLikes 99 = .ok (.lmul, 1) := by decide +kernel
theorem dX2_weighLikes_100 : decode cX2_weighLikes 100 = .ok (.ldc2_w 126, 3) := by decide +kernel
theorem dX2_weighLikes_103 : decode cX2_weighLikes 103 = .ok (.ldiv, 1) := by decide +kernel
theorem dX2_weighLikes_104 : decode cX2_weighLikes 104 = .ok (.lastore, 1) := by decide +kernel
theorem dX2_weighLikes_105 : decode cX2_weighLikes 105 = .ok (.iinc 5 2, 3) := by decide +kernel
theorem dX2_weighLikes_108 : decode cX2_weighLikes 108 = .ok (.goto (-80), 3) := by decide +kernel
theorem dX2_weighLikes_111 : decode cX2_weighLikes 111 = .ok (.iinc 4 1, 3) := by decide +kernel
theorem dX2_weighLikes_114 : decode cX2_weighLikes 114 = .ok (.goto (-111), 3) := by decide +kernel
theorem dX2_weighLikes_117 : decode cX2_weighLikes 117 = .ok (.return_, 1) := by decide +kernel
theorem dX2_likeliest_0 : decode cX2_likeliest 0 = .ok (.bipush (-4), 2) := by decide +kernel
theorem dX2_likeliest_2 : decode cX2_likeliest 2 = .ok (.istore_n 1, 1) := by decide +kernel
theorem dX2_likeliest_3 : decode cX2_likeliest 3 = .ok (.iconst 0, 1) := by decide +kernel
theorem dX2_likeliest_4 : decode cX2_likeliest 4 = .ok (.istore_n 2, 1) := by decide +kernel
theorem dX2_likeliest_5 : decode cX2_likeliest 5 = .ok (.iload_n 2, 1) := by decide +kernel
theorem dX2_likeliest_6 : decode cX2_likeliest 6 = .ok (.aload_n 0, 1) := by decide +kernel
theorem dX2_likeliest_7 : decode cX2_likeliest 7 = .ok (.getfield 25, 3) := by decide +kernel
theorem dX2_likeliest_10 : decode cX2_likeliest 10 = .ok (.getfield 35, 3) := by decide +kernel
theorem dX2_likeliest_13 : decode cX2_likeliest 13 = .ok (.if_icmp .ge 33, 3) := by decide +kernel
theorem dX2_likeliest_16 : decode cX2_likeliest 16 = .ok (.iload_n 1, 1) := by decide +kernel
theorem dX2_likeliest_17 : decode cX2_likeliest 17 = .ok (.bipush (-4), 2) := by decide +kernel
theorem dX2_likeliest_19 : decode cX2_likeliest 19 = .ok (.if_icmp .eq 19, 3) := by decide +kernel
theorem dX2_likeliest_22 : decode cX2_likeliest 22 = .ok (.aload_n 0, 1) := by decide +kernel
theorem dX2_likeliest_23 : decode cX2_likeliest 23 = .ok (.getfield 21, 3) := by decide +kernel
theorem dX2_likeliest_26 : decode cX2_likeliest 26 = .ok (.iload_n 2, 1) := by decide +kernel
theorem dX2_likeliest_27 : decode cX2_likeliest 27 = .ok (.laload, 1) := by decide +kernel
theorem dX2_likeliest_28 : decode cX2_likeliest 28 = .ok (.aload_n 0, 1) := by decide +kernel
theorem dX2_likeliest_29 : decode cX2_likeliest 29 = .ok (.getfield 21, 3) := by decide +kernel
theorem dX2_likeliest_32 : decode cX2_likeliest 32 = .ok (.iload_n 1, 1) := by decide +kernel
theorem dX2_likeliest_33 : decode cX2_likeliest 33 = .ok (.laload, 1) := by decide +kernel
theorem dX2_likeliest_34 : decode cX2_likeliest 34 = .ok (.lcmp, 1) := by decide +kernel
theorem dX2_likeliest_35 : decode cX2_likeliest 35 = .ok (.ifCond .le 5, 3) := by decide +kernel
theorem dX2_likeliest_38 : decode cX2_likeliest 38 = .ok (.iload_n 2, 1) := by decide +kernel
theorem dX2_likeliest_39 : decode cX2_likeliest 39 = .ok (.istore_n 1, 1) := by decide +kernel
theorem dX2_likeliest_40 : decode cX2_likeliest 40 = .ok (.iinc 2 1, 3) := by decide +kernel
theorem dX2_likeliest_43 : decode cX2_likeliest 43 = .ok (.goto (-38), 3) := by decide +kernel
theorem dX2_likeliest_46 : decode cX2_likeliest 46 = .ok (.iload_n 1, 1) := by decide +kernel
theorem dX2_likeliest_47 : decode cX2_likeliest 47 = .ok (.ireturn, 1) := by decide +kernel
theorem dX2_partFor_0 : decode cX2_partFor 0 = .ok (.lconst 0, 1) := by decide +kernel
theorem dX2_partFor_1 : decode cX2_partFor 1 = .ok (.lstore_n 2, 1) := by decide +kernel
theorem dX2_partFor_2 : decode cX2_partFor 2 = .ok (.iconst 0, 1) := by decide +kernel
theorem dX2_partFor_3 : decode cX2_partFor 3 = .ok (.istore 4, 2) := by decide +kernel
theorem dX2_partFor_5 : decode cX2_partFor 5 = .ok (.iload 4, 2) := by decide +kernel
theorem dX2_partFor_7 : decode cX2_partFor 7 = .ok (.aload_n 0, 1) := by decide +kernel
theorem dX2_partFor_8 : decode cX2_partFor 8 = .ok (.getfield 25, 3) := by decide +kernel
theorem dX2_partFor_11 : decode cX2_partFor 11 = .ok (.getfield 35, 3) := by decide +kernel
theorem dX2_partFor_14 : decode cX2_partFor 14 = .ok (.if_icmp .ge 19, 3) := by decide +kernel
theorem dX2_partFor_17 : decode cX2_partFor 17 = .ok (.lload_n 2, 1) := by decide +kernel
theorem dX2_partFor_18 : decode cX2_partFor 18 = .ok (.aload_n 0, 1) := by decide +kernel
theorem dX2_partFor_19 : decode cX2_partFor 19 = .ok (.getfield 21, 3) := by decide +kernel
theorem dX2_partFor_22 : decode cX2_partFor 22 = .ok (.iload 4, 2) := by decide +kernel
theorem dX2_partFor_24 : decode cX2_partFor 24 = .ok (.laload, 1) := by decide +kernel
theorem dX2_partFor_25 : decode cX2_partFor 25 = .ok (.ladd, 1) := by decide +kernel
theorem dX2_partFor_26 : decode cX2_partFor 26 = .ok (.lstore_n 2, 1) := by decide +kernel
theorem dX2_partFor_27 : decode cX2_partFor 27 = .ok (.iinc 4 1, 3) := by decide +kernel
theorem dX2_partFor_30 : decode cX2_partFor 30 = .ok (.goto (-25), 3) := by decide +kernel
theorem dX2_partFor_33 : decode cX2_partFor 33 = .ok (.lload_n 2, 1) := by decide +kernel
theorem dX2_partFor_34 : decode cX2_partFor 34 = .ok (.lconst 0, 1) := by decide +kernel
theorem dX2_partFor_35 : decode cX2_partFor 35 = .ok (.lcmp, 1) := by decide +kernel
theorem dX2_partFor_36 : decode cX2_partFor 36 = .ok (.ifCond .ne 7, 3) := by decide +kernel
theorem dX2_partFor_39 : decode cX2_partFor 39 = .ok (.iconst 0, 1) := by decide +kernel
theorem dX2_partFor_40 : decode cX2_partFor 40 = .ok (.goto 16, 3) := by decide +kernel
theorem dX2_partFor_43 : decode cX2_partFor 43 = .ok (.aload_n 0, 1) := by decide +kernel
theorem dX2_partFor_44 : decode cX2_partFor 44 = .ok (.getfield 21, 3) := by decide +kernel
theorem dX2_partFor_47 : decode cX2_partFor 47 = .ok (.iload_n 1, 1) := by decide +kernel
theorem dX2_partFor_48 : decode cX2_partFor 48 = .ok (.laload, 1) := by decide +kernel
theorem dX2_partFor_49 : decode cX2_partFor 49 = .ok (.ldc2_w 126, 3) := by decide +kernel
theorem dX2_partFor_52 : decode cX2_partFor 52 = .ok (.lmul, 1) := by decide +kernel
theorem dX2_partFor_53 : decode cX2_partFor 53 = .ok (.lload_n 2, 1) := by decide +kernel
theorem dX2_partFor_54 : decode cX2_partFor 54 = .ok (.ldiv, 1) := by decide +kernel
theorem dX2_partFor_55 : decode cX2_partFor 55 = .ok (.l2i, 1) := by decide +kernel
theorem dX2_partFor_56 : decode cX2_partFor 56 = .ok (.ireturn, 1) := by decide +kernel
set_option maxRecDepth 20000 in
theorem ggX3_init_X0_init : GoodIn wsX3_init wsX0_init := goodIn_r _ [14, 15, 2, 3, 4, 16, 17, 18, 25, 26, 27, 28] (by decide +kernel) (by decide +kernel)
set_option maxRecDepth 20000 in
theorem gX3_init_X0_init_n23 : GoodIn wsX3_init (wsX0_init) := ggX3_init_X0_init
theorem dX3_init_0 : decode cX3_init 0 = .ok (.aload_n 0, 1) := by decide +kernel
theorem dX3_init_1 : decode cX3_init 1 = .ok (.invokespecial 3, 3) := by decide +kernel
theorem dX3_init_4 : decode cX3_init 4 = .ok (.aload_n 0, 1) := by decide +kernel
theorem dX3_init_5 : decode cX3_init 5 = .ok (.bipush 6, 2) := by decide +kernel
theorem dX3_init_7 : decode cX3_init 7 = .ok (.newarray .int, 2) := by decide +kernel
theorem dX3_init_9 : decode cX3_init 9 = .ok (.putfield 9, 3) := by decide +kernel
theorem dX3_init_12 : decode cX3_init 12 = .ok (.aload_n 0, 1) := by decide +kernel
theorem dX3_init_13 : decode cX3_init 13 = .ok (.bipush 6, 2) := by decide +kernel
theorem dX3_init_15 : decode cX3_init 15 = .ok (.newarray .int, 2) := by decide +kernel
theorem dX3_init_17 : decode cX3_init 17 = .ok (.putfield 15, 3) := by decide +kernel
theorem dX3_init_20 : decode cX3_init 20 = .ok (.aload_n 0, 1) := by decide +kernel
theorem dX3_init_21 : decode cX3_init 21 = .ok (.bipush 6, 2) := by decide +kernel
theorem dX3_init_23 : decode cX3_init 23 = .ok (.newarray .int, 2) := by decide +kernel
theorem dX3_init_25 : decode cX3_init 25 = .ok (.putfield 18, 3) := by decide +kernel
theorem dX3_init_28 : decode cX3_init 28 = .ok (.aload_n 0, 1) := by decide +kernel
theorem dX3_init_29 : decode cX3_init 29 = .ok (.new 21, 3) := by decide +kernel
theorem dX3_init_32 : decode cX3_init 32 = .ok (.dup, 1) := by decide +kernel
theorem dX3_init_33 : decode cX3_init 33 = .ok (.invokespecial 23, 3) := by decide +kernel
theorem dX3_init_36 : decode cX3_init 36 = .ok (.putfield 24, 3) := by decide +kernel
theorem dX3_init_39 : decode cX3_init 39 = .ok (.aload_n 0, 1) := by decide +kernel
theorem dX3_init_40 : decode cX3_init 40 = .ok (.iconst 1, 1) := by decide +kernel
theorem dX3_init_41 : decode cX3_init 41 = .ok (.putfield 28, 3) := by decide +kernel
theorem dX3_init_44 : decode cX3_init 44 = .ok (.return_, 1) := by decide +kernel
set_option maxRecDepth 20000 in
theorem ggX3_becomeLike_X0_becomeLike : GoodIn wsX3_becomeLike wsX0_becomeLike := goodIn_r _ [15, 16, 17, 18, 3, 4, 5, 19, 20, 27, 28, 29, 30] (by decide +kernel) (by decide +kernel)
set_option maxRecDepth 20000 in
theorem gX3_becomeLike_X0_becomeLike : GoodIn wsX3_becomeLike (wsV RX3 38 RX0 yX0_becomeLike wsX0_becomeLike) := goodIn_app (goodIn_of _ (by decide +kernel)) ggX3_becomeLike_X0_becomeLike
theorem dX3_becomeLike_0 : decode cX3_becomeLike 0 = .ok (.aload_n 1, 1) := by decide +kernel
theorem dX3_becomeLike_1 : decode cX3_becomeLike 1 = .ok (.getfield 9, 3) := by decide +kernel
theorem dX3_becomeLike_4 : decode cX3_becomeLike 4 = .ok (.iconst 0, 1) := by decide +kernel
theorem dX3_becomeLike_5 : decode cX3_becomeLike 5 = .ok (.aload_n 0, 1) := by decide +kernel
theorem dX3_becomeLike_6 : decode cX3_becomeLike 6 = .ok (.getfield 9, 3) := by decide +kernel
theorem dX3_becomeLike_9 : decode cX3_becomeLike 9 = .ok (.iconst 0, 1) := by decide +kernel
theorem dX3_becomeLike_10 : decode cX3_becomeLike 10 = .ok (.bipush 6, 2) := by decide +kernel
theorem dX3_becomeLike_12 : decode cX3_becomeLike 12 = .ok (.invokestatic 32, 3) := by decide +kernel
theorem dX3_becomeLike_15 : decode cX3_becomeLike 15 = .ok (.aload_n 1, 1) := by decide +kernel
theorem dX3_becomeLike_16 : decode cX3_becomeLike 16 = .ok (.getfield 15, 3) := by decide +kernel
theorem dX3_becomeLike_19 : decode cX3_becomeLike 19 = .ok (.iconst 0, 1) := by decide +kernel
theorem dX3_becomeLike_20 : decode cX3_becomeLike 20 = .ok (.aload_n 0, 1) := by decide +kernel
theorem dX3_becomeLike_21 : decode cX3_becomeLike 21 = .ok (.getfield 15, 3) := by decide +kernel
theorem dX3_becomeLike_24 : decode cX3_becomeLike 24 = .ok (.iconst 0, 1) := by decide +kernel
theorem dX3_becomeLike_25 : decode cX3_becomeLike 25 = .ok (.bipush 6, 2) := by decide +kernel
theorem dX3_becomeLike_27 : decode cX3_becomeLike 27 = .ok (.invokestatic 32, 3) := by decide +kernel
theorem dX3_becomeLike_30 : decode cX3_becomeLike 30 = .ok (.aload_n 1, 1) := by decide +kernel
theorem dX3_becomeLike_31 : decode cX3_becomeLike 31 = .ok (.getfield 18, 3) := by decide +kernel
theorem dX3_becomeLike_34 : decode cX3_becomeLike 34 = .ok (.iconst 0, 1) := by decide +kernel
theorem dX3_becomeLike_35 : decode cX3_becomeLike 35 = .ok (.aload_n 0, 1) := by decide +kernel
theorem dX3_becomeLike_36 : decode cX3_becomeLike 36 = .ok (.getfield 18, 3) := by decide +kernel
theorem dX3_becomeLike_39 : decode cX3_becomeLike 39 = .ok (.iconst 0, 1) := by decide +kernel
theorem dX3_becomeLike_40 : decode cX3_becomeLike 40 = .ok (.bipush 6, 2) := by decide +kernel
theorem dX3_becomeLike_42 : decode cX3_becomeLike 42 = .ok (.invokestatic 32, 3) := by decide +kernel
theorem dX3_becomeLike_45 : decode cX3_becomeLike 45 = .ok (.aload_n 0, 1) := by decide +kernel
theorem dX3_becomeLike_46 : decode cX3_becomeLike 46 = .ok (.getfield 24, 3) := by decide +kernel
theorem dX3_becomeLike_49 : decode cX3_becomeLike 49 = .ok (.aload_n 1, 1) := by decide +kernel
theorem dX3_becomeLike_50 : decode cX3_becomeLike 50 = .ok (.getfield 24, 3) := by decide +kernel
theorem dX3_becomeLike_53 : decode cX3_becomeLike 53 = .ok (.invokevirtual 38, 3) := by decide +kernel
theorem dX3_becomeLike_56 : decode cX3_becomeLike 56 = .ok (.aload_n 0, 1) := by decide +kernel
theorem dX3_becomeLike_57 : decode cX3_becomeLike 57 = .ok (.aload_n 1, 1) := by decide +kernel
theorem dX3_becomeLike_58 : decode cX3_becomeLike 58 = .ok (.getfield 42, 3) := by decide +kernel
theorem dX3_becomeLike_61 : decode cX3_becomeLike 61 = .ok (.putfield 42, 3) := by decide +kernel
theorem dX3_becomeLike_64 : decode cX3_becomeLike 64 = .ok (.aload_n 0, 1) := by decide +kernel
theorem dX3_becomeLike_65 : decode cX3_becomeLike 65 = .ok (.aload_n 1, 1) := by decide +kernel
theorem dX3_becomeLike_66 : decode cX3_becomeLike 66 = .ok (.getfield 28, 3) := by decide +kernel
theorem dX3_becomeLike_69 : decode cX3_becomeLike 69 = .ok (.putfield 28, 3) := by decide +kernel
theorem dX3_becomeLike_72 : decode cX3_becomeLike 72 = .ok (.return_, 1) := by decide +kernel
theorem dX3_nextDraw_0 : decode cX3_nextDraw 0 = .ok (.aload_n 0, 1) := by decide +kernel
theorem dX3_nextDraw_1 : decode cX3_nextDraw 1 = .ok (.aload_n 0, 1) := by decide +kernel
theorem dX3_nextDraw_2 : decode cX3_nextDraw 2 = .ok (.getfield 28, 3) := by decide +kernel
theorem dX3_nextDraw_5 : decode cX3_nextDraw 5 = .ok (.ldc 45, 2) := by decide +kernel
theorem dX3_nextDraw_7 : decode cX3_nextDraw 7 = .ok (.imul, 1) := by decide +kernel
theorem dX3_nextDraw_8 : decode cX3_nextDraw 8 = .ok (.sipush 12345, 3) := by decide +kernel
theorem dX3_nextDraw_11 : decode cX3_nextDraw 11 = .ok (.iadd, 1) := by decide +kernel
theorem dX3_nextDraw_12 : decode cX3_nextDraw 12 = .ok (.ldc 46, 2) := by decide +kernel
theorem dX3_nextDraw_14 : decode cX3_nextDraw 14 = .ok (.iand, 1) := by decide +kernel
theorem dX3_nextDraw_15 : decode cX3_nextDraw 15 = .ok (.putfield 28, 3) := by decide +kernel
theorem dX3_nextDraw_18 : decode cX3_nextDraw 18 = .ok (.aload_n 0, 1) := by decide +kernel
theorem dX3_nextDraw_19 : decode cX3_nextDraw 19 = .ok (.getfield 28, 3) := by decide +kernel
theorem dX3_nextDraw_22 : decode cX3_nextDraw 22 = .ok (.bipush 16, 2) := by decide +kernel
theorem dX3_nextDraw_24 : decode cX3_nextDraw 24 = .ok (.idiv, 1) := by decide +kernel
theorem dX3_nextDraw_25 : decode cX3_nextDraw 25 = .ok (.ldc 47, 2) := by decide +kernel
theorem dX3_nextDraw_27 : decode cX3_nextDraw 27 = .ok (.irem, 1) := by decide +kernel
theorem dX3_nextDraw_28 : decode cX3_nextDraw 28 = .ok (.ireturn, 1) := by decide +kernel
set_option maxRecDepth 20000 in
theorem ggX3_putAsked_X0_enter : GoodIn wsX3_putAsked wsX0_enter := goodIn_r _ [9, 10, 11, 12, 13, 14, 15, 16, 8, 17, 18, 19, 20, 21, 28, 29, 30, 31] (by decide +kernel) (by decide +kernel)
set_option maxRecDepth 20000 in
theorem gX3_putAsked_X0_enter : GoodIn wsX3_putAsked (wsV RX3 48 RX0 yX0_enter wsX0_enter) := goodIn_app (goodIn_of _ (by decide +kernel)) ggX3_putAsked_X0_enter
theorem dX3_putAsked_0 : decode cX3_putAsked 0 = .ok (.aload_n 0, 1) := by decide +kernel
theorem dX3_putAsked_1 : decode cX3_putAsked 1 = .ok (.getfield 9, 3) := by decide +kernel
theorem dX3_putAsked_4 : decode cX3_putAsked 4 = .ok (.iload_n 1, 1) := by decide +kernel
theorem dX3_putAsked_5 : decode cX3_putAsked 5 = .ok (.iload 4, 2) := by decide +kernel
theorem dX3_putAsked_7 : decode cX3_putAsked 7 = .ok (.iastore, 1) := by decide +kernel
theorem dX3_putAsked_8 : decode cX3_putAsked 8 = .ok (.aload_n 0, 1) := by decide +kernel
theorem dX3_putAsked_9 : decode cX3_putAsked 9 = .ok (.getfield 18, 3) := by decide +kernel
theorem dX3_putAsked_12 : decode cX3_putAsked 12 = .ok (.iload_n 2, 1) := by decide +kernel
theorem dX3_putAsked_13 : decode cX3_putAsked 13 = .ok (.dup2, 1) := by decide +kernel
theorem dX3_putAsked_14 : decode cX3_putAsked 14 = .ok (.iaload, 1) := by decide +kernel
theorem dX3_putAsked_15 : decode cX3_putAsked 15 = .ok (.iconst 1, 1) := by decide +kernel
theorem dX3_putAsked_16 : decode cX3_putAsked 16 = .ok (.iadd, 1) := by decide +kernel
theorem dX3_putAsked_17 : decode cX3_putAsked 17 = .ok (.iastore, 1) := by decide +kernel
theorem dX3_putAsked_18 : decode cX3_putAsked 18 = .ok (.aload_n 0, 1) := by decide +kernel
theorem dX3_putAsked_19 : decode cX3_putAsked 19 = .ok (.dup, 1) := by decide +kernel
theorem dX3_putAsked_20 : decode cX3_putAsked 20 = .ok (.getfield 42, 3) := by decide +kernel
theorem dX3_putAsked_23 : decode cX3_putAsked 23 = .ok (.iconst 1, 1) := by decide +kernel
theorem dX3_putAsked_24 : decode cX3_putAsked 24 = .ok (.iadd, 1) := by decide +kernel
theorem dX3_putAsked_25 : decode cX3_putAsked 25 = .ok (.putfield 42, 3) := by decide +kernel
theorem dX3_putAsked_28 : decode cX3_putAsked 28 = .ok (.aload_n 0, 1) := by decide +kernel
theorem dX3_putAsked_29 : decode cX3_putAsked 29 = .ok (.getfield 24, 3) := by decide +kernel
theorem dX3_putAsked_32 : decode cX3_putAsked 32 = .ok (.iload_n 1, 1) := by decide +kernel
theorem dX3_putAsked_33 : decode cX3_putAsked 33 = .ok (.iload_n 3, 1) := by decide +kernel
theorem dX3_putAsked_34 : decode cX3_putAsked 34 = .ok (.iload 4, 2) := by decide +kernel
theorem dX3_putAsked_36 : decode cX3_putAsked 36 = .ok (.invokevirtual 48, 3) := by decide +kernel
theorem dX3_putAsked_39 : decode cX3_putAsked 39 = .ok (.return_, 1) := by decide +kernel
theorem dX4_init_0 : decode cX4_init 0 = .ok (.aload_n 0, 1) := by decide +kernel
theorem dX4_init_1 : decode cX4_init 1 = .ok (.invokespecial 3, 3) := by decide +kernel
theorem dX4_init_4 : decode cX4_init 4 = .ok (.aload_n 0, 1) := by decide +kernel
theorem dX4_init_5 : decode cX4_init 5 = .ok (.bipush 24, 2) := by decide +kernel
theorem dX4_init_7 : decode cX4_init 7 = .ok (.newarray .long, 2) := by decide +kernel
theorem dX4_init_9 : decode cX4_init 9 = .ok (.putfield 9, 3) := by decide +kernel
theorem dX4_init_12 : decode cX4_init 12 = .ok (.return_, 1) := by decide +kernel
theorem dX4_begin_0 : decode cX4_begin 0 = .ok (.aload_n 0, 1) := by decide +kernel
theorem dX4_begin_1 : decode cX4_begin 1 = .ok (.iconst 1, 1) := by decide +kernel
theorem dX4_begin_2 : decode cX4_begin 2 = .ok (.putfield 15, 3) := by decide +kernel
theorem dX4_begin_5 : decode cX4_begin 5 = .ok (.aload_n 0, 1) := by decide +kernel
theorem dX4_begin_6 : decode cX4_begin 6 = .ok (.iload_n 1, 1) := by decide +kernel
theorem dX4_begin_7 : decode cX4_begin 7 = .ok (.putfield 19, 3) := by decide +kernel
theorem dX4_begin_10 : decode cX4_begin 10 = .ok (.aload_n 0, 1) := by decide +kernel
theorem dX4_begin_11 : decode cX4_begin 11 = .ok (.iload_n 2, 1) := by decide +kernel
theorem dX4_begin_12 : decode cX4_begin 12 = .ok (.putfield 23, 3) := by decide +kernel
theorem dX4_begin_15 : decode cX4_begin 15 = .ok (.iconst 0, 1) := by decide +kernel
theorem dX4_begin_16 : decode cX4_begin 16 = .ok (.istore_n 3, 1) := by decide +kernel
theorem dX4_begin_17 : decode cX4_begin 17 = .ok (.iload_n 3, 1) := by decide +kernel
theorem dX4_begin_18 : decode cX4_begin 18 = .ok (.bipush 24, 2) := by decide +kernel
theorem dX4_begin_20 : decode cX4_begin 20 = .ok (.if_icmp .ge 16, 3) := by decide +kernel
theorem dX4_begin_23 : decode cX4_begin 23 = .ok (.aload_n 0, 1) := by decide +kernel
theorem dX4_begin_24 : decode cX4_begin 24 = .ok (.getfield 9, 3) := by decide +kernel
theorem dX4_begin_27 : decode cX4_begin 27 = .ok (.iload_n 3, 1) := by decide +kernel
theorem dX4_begin_28 : decode cX4_begin 28 = .ok (.lconst 0, 1) := by decide +kernel
theorem dX4_begin_29 : decode cX4_begin 29 = .ok (.lastore, 1) := by decide +kernel
theorem dX4_begin_30 : decode cX4_begin 30 = .ok (.iinc 3 1, 3) := by decide +kernel
theorem dX4_begin_33 : decode cX4_begin 33 = .ok (.goto (-16), 3) := by decide +kernel
theorem dX4_begin_36 : decode cX4_begin 36 = .ok (.return_, 1) := by decide +kernel
set_option maxRecDepth 20000 in
theorem ggX4_whyNotTaken_X4_reaches : GoodIn wsX4_whyNotTaken wsX4_reaches := goodIn_r _ [7, 8, 9, 10, 11, 12] (by decide +kernel) (by decide +kernel)
set_option maxRecDepth 20000 in
theorem gX4_whyNotTaken_X4_reaches : GoodIn wsX4_whyNotTaken (wsV RX4 26 RX4 yX4_reaches wsX4_reaches) := goodIn_app (goodIn_of _ (by decide +kernel)) ggX4_whyNotTaken_X4_reaches
theorem dX4_whyNotTaken_0 : decode cX4_whyNotTaken 0 = .ok (.aload_n 0, 1) := by decide +kernel
theorem dX4_whyNotTaken_1 : decode cX4_whyNotTaken 1 = .ok (.getfield 15, 3) := by decide +kernel
theorem dX4_whyNotTaken_4 : decode cX4_whyNotTaken 4 = .ok (.ifCond .ne 6, 3) := by decide +kernel
theorem dX4_whyNotTaken_7 : decode cX4_whyNotTaken 7 = .ok (.bipush (-11), 2) := by decide +kernel
theorem dX4_whyNotTaken_9 : decode cX4_whyNotTaken 9 = .ok (.ireturn, 1) := by decide +kernel
theorem dX4_whyNotTaken_10 : decode cX4_whyNotTaken 10 = .ok (.aload_n 0, 1) := by decide +kernel
theorem dX4_whyNotTaken_11 : decode cX4_whyNotTaken 11 = .ok (.getfield 19, 3) := by decide +kernel
theorem dX4_whyNotTaken_14 : decode cX4_whyNotTaken 14 = .ok (.iload_n 1, 1) := by decide +kernel
theorem dX4_whyNotTaken_15 : decode cX4_whyNotTaken 15 = .ok (.if_icmp .eq 6, 3) := by decide +kernel
theorem dX4_whyNotTaken_18 : decode cX4_whyNotTaken 18 = .ok (.bipush (-12), 2) := by decide +kernel
theorem dX4_whyNotTaken_20 : decode cX4_whyNotTaken 20 = .ok (.ireturn, 1) := by decide +kernel
theorem dX4_whyNotTaken_21 : decode cX4_whyNotTaken 21 = .ok (.aload_n 0, 1) := by decide +kernel
theorem dX4_whyNotTaken_22 : decode cX4_whyNotTaken 22 = .ok (.iload_n 2, 1) := by decide +kernel
theorem dX4_whyNotTaken_23 : decode cX4_whyNotTaken 23 = .ok (.iload_n 3, 1) := by decide +kernel
theorem dX4_whyNotTaken_24 : decode cX4_whyNotTaken 24 = .ok (.invokevirtual 26, 3) := by decide +kernel
theorem dX4_whyNotTaken_27 : decode cX4_whyNotTaken 27 = .ok (.ifCond .eq 7, 3) := by decide +kernel
theorem dX4_whyNotTaken_30 : decode cX4_whyNotTaken 30 = .ok (.iconst 0, 1) := by decide +kernel
theorem dX4_whyNotTaken_31 : decode cX4_whyNotTaken 31 = .ok (.goto 5, 3) := by decide +kernel
theorem dX4_whyNotTaken_34 : decode cX4_whyNotTaken 34 = .ok (.bipush (-13), 2) := by decide +kernel
theorem dX4_whyNotTaken_36 : decode cX4_whyNotTaken 36 = .ok (.ireturn, 1) := by decide +kernel
theorem dX4_reaches_0 : decode cX4_reaches 0 = .ok (.iload_n 1, 1) := by decide +kernel
theorem dX4_reaches_1 : decode cX4_reaches 1 = .ok (.ifCond .lt 29, 3) := by decide +kernel
theorem dX4_reaches_4 : decode cX4_reaches 4 = .ok (.iload_n 2, 1) := by decide +kernel
theorem dX4_reaches_5 : decode cX4_reaches 5 = .ok (.ifCond .lt 25, 3) := by decide +kernel
theorem dX4_reaches_8 : decode cX4_reaches 8 = .ok (.iload_n 2, 1) := by decide +kernel
theorem dX4_reaches_9 : decode cX4_reaches 9 = .ok (.aload_n 0, 1) := by decide +kernel
theorem dX4_reaches_10 : decode cX4_reaches 10 = .ok (.getfield 23, 3) := by decide +kernel
theorem dX4_reaches_13 : decode cX4_reaches 13 = .ok (.if_icmp .gt 17, 3) := by decide +kernel
theorem dX4_reaches_16 : decode cX4_reaches 16 = .ok (.iload_n 1, 1) := by decide +kernel
theorem dX4_reaches_17 : decode cX4_reaches 17 = .ok (.aload_n 0, 1) := by decide +kernel
theorem dX4_reaches_18 : decode cX4_reaches 18 = .ok (.getfield 23, 3) := by decide +kernel
theorem dX4_reaches_21 : decode cX4_reaches 21 = .ok (.iload_n 2, 1) := by decide +kernel
theorem dX4_reaches_22 : decode cX4_reaches 22 = .ok (.isub, 1) := by decide +kernel
theorem dX4_reaches_23 : decode cX4_reaches 23 = .ok (.if_icmp .gt 7, 3) := by decide +kernel
theorem dX4_reaches_26 : decode cX4_reaches 26 = .ok (.iconst 1, 1) := by decide +kernel
theorem dX4_reaches_27 : decode cX4_reaches 27 = .ok (.goto 4, 3) := by decide +kernel
theorem dX4_reaches_30 : decode cX4_reaches 30 = .ok (.iconst 0, 1) := by decide +kernel
theorem dX4_reaches_31 : decode cX4_reaches 31 = .ok (.ireturn, 1) := by decide +kernel
theorem dX4_put_0 : decode cX4_put 0 = .ok (.aload_n 0, 1) := by decide +kernel
theorem dX4_put_1 : decode cX4_put 1 = .ok (.getfield 19, 3) := by decide +kernel
theorem dX4_put_4 : decode cX4_put 4 = .ok (.tableswitch 66 0 2 #[28, 41, 54], 28) := by decide +kernel
theorem dX4_put_32 : decode cX4_put 32 = .ok (.aload_n 0, 1) := by decide +kernel
theorem dX4_put_33 : decode cX4_put 33 = .ok (.getfield 9, 3) := by decide +kernel
theorem dX4_put_36 : decode cX4_put 36 = .ok (.iload_n 1, 1) := by decide +kernel
theorem dX4_put_37 : decode cX4_put 37 = .ok (.lload_n 2, 1) := by decide +kernel
theorem dX4_put_38 : decode cX4_put 38 = .ok (.l2i, 1) := by decide +kernel
theorem dX4_put_39 : decode cX4_put 39 = .ok (.i2b, 1) := by decide +kernel
theorem dX4_put_40 : decode cX4_put 40 = .ok (.i2l, 1) := by decide +kernel
theorem dX4_put_41 : decode cX4_put 41 = .ok (.lastore, 1) := by decide +kernel
theorem dX4_put_42 : decode cX4_put 42 = .ok (.goto 35, 3) := by decide +kernel
theorem dX4_put_45 : decode cX4_put 45 = .ok (.aload_n 0, 1) := by decide +kernel
theorem dX4_put_46 : decode cX4_put 46 = .ok (.getfield 9, 3) := by decide +kernel
theorem dX4_put_49 : decode cX4_put 49 = .ok (.iload_n 1, 1) := by decide +kernel
theorem dX4_put_50 : decode cX4_put 50 = .ok (.lload_n 2, 1) := by decide +kernel
theorem dX4_put_51 : decode cX4_put 51 = .ok (.l2i, 1) := by decide +kernel
theorem dX4_put_52 : decode cX4_put 52 = .ok (.i2s, 1) := by decide +kernel
theorem dX4_put_53 : decode cX4_put 53 = .ok (.i2l, 1) := by decide +kernel
theorem dX4_put_54 : decode cX4_put 54 = .ok (.lastore, 1) := by decide +kernel
theorem dX4_put_55 : decode cX4_put 55 = .ok (.goto 22, 3) := by decide +kernel
theorem dX4_put_58 : decode cX4_put 58 = .ok (.aload_n 0, 1) := by decide +kernel
theorem dX4_put_59 : decode cX4_put 59 = .ok (.getfield 9, 3) := by decide +kernel
theorem dX4_put_62 : decode cX4_put 62 = .ok (.iload_n 1, 1) := by decide +kernel
theorem dX4_put_63 : decode cX4_put 63 = .ok (.lload_n 2, 1) := by decide +kernel
theorem dX4_put_64 : decode cX4_put 64 = .ok (.l2i, 1) := by decide +kernel
theorem dX4_put_65 : decode cX4_put 65 = .ok (.i2l, 1) := by decide +kernel
theorem dX4_put_66 : decode cX4_put 66 = .ok (.lastore, 1) := by decide +kernel
theorem dX4_put_67 : decode cX4_put 67 = .ok (.goto 10, 3) := by decide +kernel
theorem dX4_put_70 : decode cX4_put 70 = .ok (.aload_n 0, 1) := by decide +kernel
theorem dX4_put_71 : decode cX4_put 71 = .ok (.getfield 9, 3) := by decide +kernel
theorem dX4_put_74 : decode cX4_put 74 = .ok (.iload_n 1, 1) := by decide +kernel
theorem dX4_put_75 : decode cX4_put 75 = .ok (.lload_n 2, 1) := by decide +kernel
theorem dX4_put_76 : decode cX4_put 76 = .ok (.lastore, 1) := by decide +kernel
theorem dX4_put_77 : decode cX4_put 77 = .ok (.return_, 1) := by decide +kernel
set_option maxRecDepth 20000 in
theorem ggX5_init_X1_init : GoodIn wsX5_init wsX1_init := goodIn_r _ [12, 13, 2, 3, 14, 15, 16, 17, 18, 19, 20, 21, 22, 23, 24, 25, 26, 27, 28, 29, 30, 31, 32, 33, 34, 35, 36, 37, 38, 39, 40, 41, 42, 47, 48, 49, 50, 51, 52, 53, 54, 55, 56, 57, 58, 59, 60, 61, 62, 63, 64, 65, 66, 67] (by decide +kernel) (by decide +kernel)
set_option maxRecDepth 20000 in
theorem gX5_init_X1_init : GoodIn wsX5_init (wsX1_init) := ggX5_init_X1_init
theorem dX5_init_0 : decode cX5_init 0 = .ok (.aload_n 0, 1) := by decide +kernel
theorem dX5_init_1 : decode cX5_init 1 = .ok (.invokespecial 3, 3) := by decide +kernel
theorem dX5_init_4 : decode cX5_init 4 = .ok (.aload_n 0, 1) := by decide +kernel
theorem dX5_init_5 : decode cX5_init 5 = .ok (.bipush 90, 2) := by decide +kernel
theorem dX5_init_7 : decode cX5_init 7 = .ok (.newarray .char, 2) := by decide +kernel
theorem dX5_init_9 : decode cX5_init 9 = .ok (.putfield 9, 3) := by decide +kernel
theorem dX5_init_12 : decode cX5_init 12 = .ok (.aload_n 0, 1) := by decide +kernel
theorem dX5_init_13 : decode cX5_init 13 = .ok (.new 15, 3) := by decide +kernel
theorem dX5_init_16 : decode cX5_init 16 = .ok (.dup, 1) := by decide +kernel
theorem dX5_init_17 : decode cX5_init 17 = .ok (.invokespecial 17, 3) := by decide +kernel
theorem dX5_init_20 : decode cX5_init 20 = .ok (.putfield 18, 3) := by decide +kernel
theorem dX5_init_23 : decode cX5_init 23 = .ok (.return_, 1) := by decide +kernel
set_option maxRecDepth 20000 in
theorem ggX5_isTongues_X5_take : GoodIn wsX5_isTongues wsX5_take := goodIn_r _ [10, 1, 11, 12, 13, 9, 14, 15, 16, 17, 18, 19, 20, 21, 22, 23, 24, 25, 26, 27, 28, 29, 30, 31, 32, 33, 34, 35, 36, 37, 38, 39, 40, 41, 42, 43, 44, 45, 46, 47, 48, 49, 50, 51, 52, 53, 54, 55, 56, 57, 58, 59, 60, 61, 62, 63, 64, 65, 66, 67, 68, 69, 70, 71, 72, 73, 74, 75, 76, 77, 78, 79, 80, 81, 82, 83, 84, 85, 86, 87, 88, 89, 90, 91, 92, 93, 94, 95, 96, 97, 98, 99, 100, 101, 102, 103, 104, 105, 141, 142, 143, 144] (by decide +kernel) (by decide +kernel)
set_option maxRecDepth 20000 in
theorem gX5_isTongues_X5_take : GoodIn wsX5_isTongues (wsV RX5 34 RX5 yX5_take wsX5_take) := goodIn_app (goodIn_of _ (by decide +kernel)) ggX5_isTongues_X5_take
set_option maxRecDepth 20000 in
theorem ggX5_isTongues_X5_takeSpeakers : GoodIn wsX5_isTongues wsX5_takeSpeakers := goodIn_r _ [109, 110, 111, 112, 9, 113, 2, 114, 6, 7, 8, 10, 1, 11, 12, 13, 14, 15, 16, 17, 18, 19, 20, 21, 22, 23, 24, 25, 26, 27, 28, 29, 30, 31, 32, 33, 34, 35, 36, 37, 38, 39, 40, 41, 42, 43, 44, 45, 46, 47, 48, 49, 50, 51, 52, 53, 54, 55, 56, 57, 58, 59, 60, 61, 62, 63, 64, 65, 66, 67, 68, 69, 70, 71, 72, 73, 74, 75, 76, 77, 78, 79, 80, 81, 82, 83, 84, 85, 86, 87, 88, 89, 90, 91, 92, 93, 94, 95, 96, 97, 98, 99, 100, 101, 102, 103, 104, 105, 115, 116, 117, 118, 119, 120, 121, 122, 123, 124, 125, 141, 142, 143, 144, 145, 146, 147, 148, 149, 150, 151, 152, 153, 154, 155, 156, 157, 158, 159, 160, 161] (by decide +kernel) (by decide +kernel)
set_option maxRecDepth 20000 in
theorem gX5_isTongues_X5_takeSpeakers : GoodIn wsX5_isTongues (wsV RX5 43 RX5 yX5_takeSpeakers wsX5_takeSpeakers) := goodIn_app (goodIn_of _ (by decide +kernel)) ggX5_isTongues_X5_takeSpeakers
set_option maxRecDepth 20000 in
theorem ggX5_isTongues_X5_takeWords : GoodIn wsX5_isTongues wsX5_takeWords := goodIn_r _ [129, 130, 131, 132, 9, 133, 2, 6, 7, 8, 10, 1, 11, 12, 13, 14, 15, 16, 17, 18, 19, 20, 21, 22, 23, 24, 25, 26, 27, 28, 29, 30, 31, 32, 33, 34, 35, 36, 37, 38, 39, 40, 41, 42, 43, 44, 45, 46, 47, 48, 49, 50, 51, 52, 53, 54, 55, 56, 57, 58, 59, 60, 61, 62, 63, 64, 65, 66, 67, 68, 69, 70, 71, 72, 73, 74, 75, 76, 77, 78, 79, 80, 81, 82, 83, 84, 85, 86, 87, 88, 89, 90, 91, 92, 93, 94, 95, 96, 97, 98, 99, 100, 101, 102, 103, 104, 105, 134, 135, 136, 118, 137, 138, 139, 123, 140, 141, 142, 143, 144, 145, 146, 147, 148, 149, 150, 151, 152, 153, 154, 155, 156, 157, 158, 159, 160, 161] (by decide +kernel) (by decide +kernel)
set_option maxRecDepth 20000 in
theorem gX5_isTongues_X5_takeWords : GoodIn wsX5_isTongues (wsV RX5 47 RX5 yX5_takeWords wsX5_takeWords) := goodIn_app (goodIn_of _ (by decide +kernel)) ggX5_isTongues_X5_takeWords
theorem dX5_isTongues_0 : decode cX5_isTongues 0 = .ok (.aload_n 0, 1) := by decide +kernel
theorem dX5_isTongues_1 : decode cX5_isTongues 1 = .ok (.iconst 0, 1) := by decide +kernel
theorem dX5_isTongues_2 : decode cX5_isTongues 2 = .ok (.putfield 22, 3) := by decide +kernel
theorem dX5_isTongues_5 : decode cX5_isTongues 5 = .ok (.aload_n 0, 1) := by decide +kernel
theorem dX5_isTongues_6 : decode cX5_isTongues 6 = .ok (.getfield 18, 3) := by decide +kernel
theorem dX5_isTongues_9 : decode cX5_isTongues 9 = .ok (.iconst 0, 1) := by decide +kernel
theorem dX5_isTongues_10 : decode cX5_isTongues 10 = .ok (.putfield 26, 3) := by decide +kernel
theorem dX5_isTongues_13 : decode cX5_isTongues 13 = .ok (.aload_n 0, 1) := by decide +kernel
theorem dX5_isTongues_14 : decode cX5_isTongues 14 = .ok (.getfield 18, 3) := by decide +kernel
theorem dX5_isTongues_17 : decode cX5_isTongues 17 = .ok (.iconst 0, 1) := by decide +kernel
theorem dX5_isTongues_18 : decode cX5_isTongues 18 = .ok (.putfield 29, 3) := by decide +kernel
theorem dX5_isTongues_21 : decode cX5_isTongues 21 = .ok (.aload_n 0, 1) := by decide +kernel
theorem dX5_isTongues_22 : decode cX5_isTongues 22 = .ok (.getfield 18, 3) := by decide +kernel
theorem dX5_isTongues_25 : decode cX5_isTongues 25 = .ok (.aload_n 0, 1) := by decide +kernel
theorem dX5_isTongues_26 : decode cX5_isTongues 26 = .ok (.ldc 32, 2) := by decide +kernel
theorem dX5_isTongues_28 : decode cX5_isTongues 28 = .ok (.iconst 0, 1) := by decide +kernel
theorem dX5_isTongues_29 : decode cX5_isTongues 29 = .ok (.invokevirtual 34, 3) := by decide +kernel
theorem dX5_isTongues_32 : decode cX5_isTongues 32 = .ok (.putfield 38, 3) := by decide +kernel
theorem dX5_isTongues_35 : decode cX5_isTongues 35 = .ok (.aload_n 0, 1) := by decide +kernel
theorem dX5_isTongues_36 : decode cX5_isTongues 36 = .ok (.getfield 18, 3) := by decide +kernel
theorem dX5_isTongues_39 : decode cX5_isTongues 39 = .ok (.getfield 38, 3) := by decide +kernel
theorem dX5_isTongues_42 : decode cX5_isTongues 42 = .ok (.ifCond .lt 31, 3) := by decide +kernel
theorem dX5_isTongues_45 : decode cX5_isTongues 45 = .ok (.aload_n 0, 1) := by decide +kernel
theorem dX5_isTongues_46 : decode cX5_isTongues 46 = .ok (.ldc 41, 2) := by decide +kernel
theorem dX5_isTongues_48 : decode cX5_isTongues 48 = .ok (.iconst 0, 1) := by decide +kernel
theorem dX5_isTongues_49 : decode cX5_isTongues 49 = .ok (.invokevirtual 34, 3) := by decide +kernel
theorem dX5_isTongues_52 : decode cX5_isTongues 52 = .ok (.ifCond .lt 21, 3) := by decide +kernel
theorem dX5_isTongues_55 : decode cX5_isTongues 55 = .ok (.aload_n 0, 1) := by decide +kernel
theorem dX5_isTongues_56 : decode cX5_isTongues 56 = .ok (.invokevirtual 43, 3) := by decide +kernel
theorem dX5_isTongues_59 : decode cX5_isTongues 59 = .ok (.ifCond .eq 14, 3) := by decide +kernel
theorem dX5_isTongues_62 : decode cX5_isTongues 62 = .ok (.aload_n 0, 1) := by decide +kernel
theorem dX5_isTongues_63 : decode cX5_isTongues 63 = .ok (.invokevirtual 47, 3) := by decide +kernel
theorem dX5_isTongues_66 : decode cX5_isTongues 66 = .ok (.ifCond .eq 7, 3) := by decide +kernel
theorem dX5_isTongues_69 : decode cX5_isTongues 69 = .ok (.iconst 1, 1) := by decide +kernel
theorem dX5_isTongues_70 : decode cX5_isTongues 70 = .ok (.goto 4, 3) := by decide +kernel
theorem dX5_isTongues_73 : decode cX5_isTongues 73 = .ok (.iconst 0, 1) := by decide +kernel
theorem dX5_isTongues_74 : decode cX5_isTongues 74 = .ok (.ireturn, 1) := by decide +kernel
set_option maxRecDepth 20000 in
theorem ggX5_takeSpeakers_X5_takeSpeaker : GoodIn wsX5_takeSpeakers wsX5_takeSpeaker := goodIn_r _ [5, 6, 7, 8, 9, 10, 4, 11, 12, 13, 14, 15, 16, 17, 18, 19, 20, 21, 22, 23, 24, 25, 26, 27, 28, 29, 30, 31, 32, 33, 34, 35, 36, 37, 38, 39, 40, 41, 42, 43, 44, 45, 46, 47, 48, 49, 50, 51, 52, 53, 54, 55, 56, 57, 58, 59, 60, 61, 62, 63, 64, 65, 66, 67, 68, 69, 70, 71, 72, 73, 74, 75, 76, 77, 78, 79, 80, 81, 82, 83, 84, 85, 86, 87, 88, 89, 90, 91, 92, 93, 94, 95, 96, 97, 98, 99, 100, 101, 102, 103, 104, 105, 106, 107, 108, 109, 110, 111, 112, 113, 114, 115, 116, 117, 118, 119, 120, 121, 122, 123, 124, 125, 126, 127, 128, 129, 130, 131, 132, 133, 134, 135, 136, 137, 138, 139] (by decide +kernel) (by decide +kernel)
set_option maxRecDepth 20000 in
theorem gX5_takeSpeakers_X5_takeSpeaker : GoodIn wsX5_takeSpeakers (wsV RX5 50 RX5 yX5_takeSpeaker wsX5_takeSpeaker) := goodIn_app (goodIn_of _ (by decide +kernel)) ggX5_takeSpeakers_X5_takeSpeaker
set_option maxRecDepth 20000 in
theorem ggX5_takeSpeakers_X5_take : GoodIn wsX5_takeSpeakers wsX5_take := goodIn_r _ [11, 12, 13, 14, 15, 4, 16, 17, 18, 19, 20, 21, 22, 23, 24, 25, 26, 27, 28, 29, 30, 31, 32, 33, 34, 35, 36, 37, 38, 39, 40, 41, 42, 43, 44, 45, 46, 47, 48, 49, 50, 51, 52, 53, 54, 55, 56, 57, 58, 59, 60, 61, 62, 63, 64, 65, 66, 67, 68, 69, 70, 71, 72, 73, 74, 75, 76, 77, 78, 79, 80, 81, 82, 83, 84, 85, 86, 87, 88, 89, 90, 91, 92, 93, 94, 95, 96, 97, 98, 99, 100, 101, 102, 103, 104, 105, 106, 107, 119, 120, 121, 122] (by decide +kernel) (by decide +kernel)
set_option maxRecDepth 20000 in
theorem gX5_takeSpeakers_X5_take : GoodIn wsX5_takeSpeakers (wsV RX5 34 RX5 yX5_take wsX5_take) := goodIn_app (goodIn_of _ (by decide +kernel)) ggX5_takeSpeakers_X5_take
theorem dX5_takeSpeakers_0 : decode cX5_takeSpeakers 0 = .ok (.aload_n 0, 1) := by decide +kernel
theorem dX5_takeSpeakers_1 : decode cX5_takeSpeakers 1 = .ok (.invokevirtual 50, 3) := by decide +kernel
theorem dX5_takeSpeakers_4 : decode cX5_takeSpeakers 4 = .ok (.ifCond .ne 5, 3) := by decide +kernel
theorem dX5_takeSpeakers_7 : decode cX5_takeSpeakers 7 = .ok (.iconst 0, 1) := by decide +kernel
theorem dX5_takeSpeakers_8 : decode cX5_takeSpeakers 8 = .ok (.ireturn, 1) := by decide +kernel
theorem dX5_takeSpeakers_9 : decode cX5_takeSpeakers 9 = .ok (.iconst 1, 1) := by decide +kernel
theorem dX5_takeSpeakers_10 : decode cX5_takeSpeakers 10 = .ok (.istore_n 1, 1) := by decide +kernel
theorem dX5_takeSpeakers_11 : decode cX5_takeSpeakers 11 = .ok (.iload_n 1, 1) := by decide +kernel
theorem dX5_takeSpeakers_12 : decode cX5_takeSpeakers 12 = .ok (.bipush 6, 2) := by decide +kernel
theorem dX5_takeSpeakers_14 : decode cX5_takeSpeakers 14 = .ok (.if_icmp .ge 28, 3) := by decide +kernel
theorem dX5_takeSpeakers_17 : decode cX5_takeSpeakers 17 = .ok (.aload_n 0, 1) := by decide +kernel
theorem dX5_takeSpeakers_18 : decode cX5_takeSpeakers 18 = .ok (.ldc 53, 2) := by decide +kernel
theorem dX5_takeSpeakers_20 : decode cX5_takeSpeakers 20 = .ok (.iconst 0, 1) := by decide +kernel
theorem dX5_takeSpeakers_21 : decode cX5_takeSpeakers 21 = .ok (.invokevirtual 34, 3) := by decide +kernel
theorem dX5_takeSpeakers_24 : decode cX5_takeSpeakers 24 = .ok (.ifCond .lt 18, 3) := by decide +kernel
theorem dX5_takeSpeakers_27 : decode cX5_takeSpeakers 27 = .ok (.aload_n 0, 1) := by decide +kernel
theorem dX5_takeSpeakers_28 : decode cX5_takeSpeakers 28 = .ok (.invokevirtual 50, 3) := by decide +kernel
theorem dX5_takeSpeakers_31 : decode cX5_takeSpeakers 31 = .ok (.ifCond .ne 5, 3) := by decide +kernel
theorem dX5_takeSpeakers_34 : decode cX5_takeSpeakers 34 = .ok (.iconst 0, 1) := by decide +kernel
theorem dX5_takeSpeakers_35 : decode cX5_takeSpeakers 35 = .ok (.ireturn, 1) := by decide +kernel
theorem dX5_takeSpeakers_36 : decode cX5_takeSpeakers 36 = .ok (.iinc 1 1, 3) := by decide +kernel
theorem dX5_takeSpeakers_39 : decode cX5_takeSpeakers 39 = .ok (.goto (-28), 3) := by decide +kernel
theorem dX5_takeSpeakers_42 : decode cX5_takeSpeakers 42 = .ok (.aload_n 0, 1) := by decide +kernel
theorem dX5_takeSpeakers_43 : decode cX5_takeSpeakers 43 = .ok (.ldc 41, 2) := by decide +kernel
theorem dX5_takeSpeakers_45 : decode cX5_takeSpeakers 45 = .ok (.iconst 0, 1) := by decide +kernel
theorem dX5_takeSpeakers_46 : decode cX5_takeSpeakers 46 = .ok (.invokevirtual 34, 3) := by decide +kernel
theorem dX5_takeSpeakers_49 : decode cX5_takeSpeakers 49 = .ok (.ifCond .lt 7, 3) := by decide +kernel
theorem dX5_takeSpeakers_52 : decode cX5_takeSpeakers 52 = .ok (.iconst 1, 1) := by decide +kernel
theorem dX5_takeSpeakers_53 : decode cX5_takeSpeakers 53 = .ok (.goto 4, 3) := by decide +kernel
theorem dX5_takeSpeakers_56 : decode cX5_takeSpeakers 56 = .ok (.iconst 0, 1) := by decide +kernel
theorem dX5_takeSpeakers_57 : decode cX5_takeSpeakers 57 = .ok (.ireturn, 1) := by decide +kernel
set_option maxRecDepth 20000 in
theorem ggX5_takeSpeaker_X5_take : GoodIn wsX5_takeSpeaker wsX5_take := goodIn_r _ [7, 8, 9, 10, 11, 6, 12, 13, 14, 15, 16, 17, 18, 19, 20, 21, 22, 23, 24, 25, 26, 27, 28, 29, 30, 31, 32, 33, 34, 35, 36, 37, 38, 39, 40, 41, 42, 43, 44, 45, 46, 47, 48, 49, 50, 51, 52, 53, 54, 55, 56, 57, 58, 59, 60, 61, 62, 63, 64, 65, 66, 67, 68, 69, 70, 71, 72, 73, 74, 75, 76, 77, 78, 79, 80, 81, 82, 83, 84, 85, 86, 87, 88, 89, 90, 91, 92, 93, 94, 95, 96, 97, 98, 99, 100, 101, 102, 103, 115, 116, 117, 118] (by decide +kernel) (by decide +kernel)
set_option maxRecDepth 20000 in
theorem gX5_takeSpeaker_X5_take : GoodIn wsX5_takeSpeaker (wsV RX5 34 RX5 yX5_take wsX5_take) := goodIn_app (goodIn_of _ (by decide +kernel)) ggX5_takeSpeaker_X5_take
set_option maxRecDepth 20000 in
theorem ggX5_takeSpeaker_X1_addSpeaker : GoodIn wsX5_takeSpeaker wsX1_addSpeaker := goodIn_r _ [108, 109, 110, 111, 112, 113, 114, 119, 120, 121, 122, 123, 124, 125, 126, 127, 128, 129, 130, 131, 132, 133, 134, 135] (by decide +kernel) (by decide +kernel)
set_option maxRecDepth 20000 in
theorem gX5_takeSpeaker_X1_addSpeaker : GoodIn wsX5_takeSpeaker (wsV RX5 59 RX1 yX1_addSpeaker wsX1_addSpeaker) := goodIn_app (goodIn_of _ (by decide +kernel)) ggX5_takeSpeaker_X1_addSpeaker
theorem dX5_takeSpeaker_0 : decode cX5_takeSpeaker 0 = .ok (.aload_n 0, 1) := by decide +kernel
theorem dX5_takeSpeaker_1 : decode cX5_takeSpeaker 1 = .ok (.ldc 55, 2) := by decide +kernel
theorem dX5_takeSpeaker_3 : decode cX5_takeSpeaker 3 = .ok (.iconst 0, 1) := by decide +kernel
theorem dX5_takeSpeaker_4 : decode cX5_takeSpeaker 4 = .ok (.invokevirtual 34, 3) := by decide +kernel
theorem dX5_takeSpeaker_7 : decode cX5_takeSpeaker 7 = .ok (.istore_n 1, 1) := by decide +kernel
theorem dX5_takeSpeaker_8 : decode cX5_takeSpeaker 8 = .ok (.iload_n 1, 1) := by decide +kernel
theorem dX5_takeSpeaker_9 : decode cX5_takeSpeaker 9 = .ok (.ifCond .ge 5, 3) := by decide +kernel
theorem dX5_takeSpeaker_12 : decode cX5_takeSpeaker 12 = .ok (.iconst 0, 1) := by decide +kernel
theorem dX5_takeSpeaker_13 : decode cX5_takeSpeaker 13 = .ok (.ireturn, 1) := by decide +kernel
theorem dX5_takeSpeaker_14 : decode cX5_takeSpeaker 14 = .ok (.aload_n 0, 1) := by decide +kernel
theorem dX5_takeSpeaker_15 : decode cX5_takeSpeaker 15 = .ok (.ldc 57, 2) := by decide +kernel
theorem dX5_takeSpeaker_17 : decode cX5_takeSpeaker 17 = .ok (.iconst 0, 1) := by decide +kernel
theorem dX5_takeSpeaker_18 : decode cX5_takeSpeaker 18 = .ok (.invokevirtual 34, 3) := by decide +kernel
theorem dX5_takeSpeaker_21 : decode cX5_takeSpeaker 21 = .ok (.istore_n 2, 1) := by decide +kernel
theorem dX5_takeSpeaker_22 : decode cX5_takeSpeaker 22 = .ok (.iload_n 2, 1) := by decide +kernel
theorem dX5_takeSpeaker_23 : decode cX5_takeSpeaker 23 = .ok (.ifCond .ge 5, 3) := by decide +kernel
theorem dX5_takeSpeaker_26 : decode cX5_takeSpeaker 26 = .ok (.iconst 0, 1) := by decide +kernel
theorem dX5_takeSpeaker_27 : decode cX5_takeSpeaker 27 = .ok (.ireturn, 1) := by decide +kernel
theorem dX5_takeSpeaker_28 : decode cX5_takeSpeaker 28 = .ok (.aload_n 0, 1) := by decide +kernel
theorem dX5_takeSpeaker_29 : decode cX5_takeSpeaker 29 = .ok (.getfield 18, 3) := by decide +kernel
theorem dX5_takeSpeaker_32 : decode cX5_takeSpeaker 32 = .ok (.iload_n 1, 1) := by decide +kernel
theorem dX5_takeSpeaker_33 : decode cX5_takeSpeaker 33 = .ok (.iload_n 2, 1) := by decide +kernel
theorem dX5_takeSpeaker_34 : decode cX5_takeSpeaker 34 = .ok (.invokevirtual 59, 3) := by decide +kernel
theorem dX5_takeSpeaker_37 : decode cX5_takeSpeaker 37 = .ok (.istore_n 3, 1) := by decide +kernel
theorem dX5_takeSpeaker_38 : decode cX5_takeSpeaker 38 = .ok (.iconst 0, 1) := by decide +kernel
theorem dX5_takeSpeaker_39 : decode cX5_takeSpeaker 39 = .ok (.istore 4, 2) := by decide +kernel
theorem dX5_takeSpeaker_41 : decode cX5_takeSpeaker 41 = .ok (.iload 4, 2) := by decide +kernel
theorem dX5_takeSpeaker_43 : decode cX5_takeSpeaker 43 = .ok (.bipush 6, 2) := by decide +kernel
theorem dX5_takeSpeaker_45 : decode cX5_takeSpeaker 45 = .ok (.if_icmp .ge 42, 3) := by decide +kernel
theorem dX5_takeSpeaker_48 : decode cX5_takeSpeaker 48 = .ok (.aload_n 0, 1) := by decide +kernel
theorem dX5_takeSpeaker_49 : decode cX5_takeSpeaker 49 = .ok (.ldc 32, 2) := by decide +kernel
theorem dX5_takeSpeaker_51 : decode cX5_takeSpeaker 51 = .ok (.iconst 0, 1) := by decide +kernel
theorem dX5_takeSpeaker_52 : decode cX5_takeSpeaker 52 = .ok (.invokevirtual 34, 3) := by decide +kernel
theorem dX5_takeSpeaker_55 : decode cX5_takeSpeaker 55 = .ok (.istore 5, 2) := by decide +kernel
theorem dX5_takeSpeaker_57 : decode cX5_takeSpeaker 57 = .ok (.iload 5, 2) := by decide +kernel
theorem dX5_takeSpeaker_59 : decode cX5_takeSpeaker 59 = .ok (.ifCond .ge 5, 3) := by decide +kernel
theorem dX5_takeSpeaker_62 : decode cX5_takeSpeaker 62 = .ok (.iconst 0, 1) := by decide +kernel
theorem dX5_takeSpeaker_63 : decode cX5_takeSpeaker 63 = .ok (.ireturn, 1) := by decide +kernel
theorem dX5_takeSpeaker_64 : decode cX5_takeSpeaker 64 = .ok (.aload_n 0, 1) := by decide +kernel
theorem dX5_takeSpeaker_65 : decode cX5_takeSpeaker 65 = .ok (.getfield 18, 3) := by decide +kernel
theorem dX5_takeSpeaker_68 : decode cX5_takeSpeaker 68 = .ok (.getfield 63, 3) := by decide +kernel
theorem dX5_takeSpeaker_71 : decode cX5_takeSpeaker 71 = .ok (.iload_n 3, 1) := by decide +kernel
theorem dX5_takeSpeaker_72 : decode cX5_takeSpeaker 72 = .ok (.bipush 6, 2) := by decide +kernel
theorem dX5_takeSpeaker_74 : decode cX5_takeSpeaker 74 = .ok (.imul, 1) := by decide +kernel
theorem dX5_takeSpeaker_75 : decode cX5_takeSpeaker 75 = .ok (.iload 4, 2) := by decide +kernel
theorem dX5_takeSpeaker_77 : decode cX5_takeSpeaker 77 = .ok (.iadd, 1) := by decide +kernel
theorem dX5_takeSpeaker_78 : decode cX5_takeSpeaker 78 = .ok (.iload 5, 2) := by decide +kernel
theorem dX5_takeSpeaker_80 : decode cX5_takeSpeaker 80 = .ok (.iastore, 1) := by decide +kernel
theorem dX5_takeSpeaker_81 : decode cX5_takeSpeaker 81 = .ok (.iinc 4 1, 3) := by decide +kernel
theorem dX5_takeSpeaker_84 : decode cX5_takeSpeaker 84 = .ok (.goto (-43), 3) := by decide +kernel
theorem dX5_takeSpeaker_87 : decode cX5_takeSpeaker 87 = .ok (.iconst 1, 1) := by decide +kernel
theorem dX5_takeSpeaker_88 : decode cX5_takeSpeaker 88 = .ok (.ireturn, 1) := by decide +kernel
set_option maxRecDepth 20000 in
theorem ggX5_takeWords_X5_takeWord : GoodIn wsX5_takeWords wsX5_takeWord := goodIn_r _ [5, 6, 7, 8, 9, 4, 10, 11, 12, 13, 14, 15, 16, 17, 18, 19, 20, 21, 22, 23, 24, 25, 26, 27, 28, 29, 30, 31, 32, 33, 34, 35, 36, 37, 38, 39, 40, 41, 42, 43, 44, 45, 46, 47, 48, 49, 50, 51, 52, 53, 54, 55, 56, 57, 58, 59, 60, 61, 62, 63, 64, 65, 66, 67, 68, 69, 70, 71, 72, 73, 74, 75, 76, 77, 78, 79, 80, 81, 82, 83, 84, 85, 86, 87, 88, 89, 90, 91, 92, 93, 94, 95, 96, 97, 98, 99, 100, 101, 102, 103, 104, 105, 106, 107, 108, 109, 110, 111, 112, 113, 114, 115, 116, 117, 118, 119, 120, 121, 122, 123, 124, 125, 126, 127, 128, 129, 130, 131, 132, 133, 134, 135, 136] (by decide +kernel) (by decide +kernel)
set_option maxRecDepth 20000 in
theorem gX5_takeWords_X5_takeWord : GoodIn wsX5_takeWords (wsV RX5 67 RX5 yX5_takeWord wsX5_takeWord) := goodIn_app (goodIn_of _ (by decide +kernel)) ggX5_takeWords_X5_takeWord
set_option maxRecDepth 20000 in
theorem ggX5_takeWords_X5_take : GoodIn wsX5_takeWords wsX5_take := goodIn_r _ [10, 11, 12, 13, 14, 4, 15, 16, 17, 18, 19, 20, 21, 22, 23, 24, 25, 26, 27, 28, 29, 30, 31, 32, 33, 34, 35, 36, 37, 38, 39, 40, 41, 42, 43, 44, 45, 46, 47, 48, 49, 50, 51, 52, 53, 54, 55, 56, 57, 58, 59, 60, 61, 62, 63, 64, 65, 66, 67, 68, 69, 70, 71, 72, 73, 74, 75, 76, 77, 78, 79, 80, 81, 82, 83, 84, 85, 86, 87, 88, 89, 90, 91, 92, 93, 94, 95, 96, 97, 98, 99, 100, 101, 102, 103, 104, 105, 106, 116, 117, 118, 119] (by decide +kernel) (by decide +kernel)
set_option maxRecDepth 20000 in
theorem gX5_takeWords_X5_take : GoodIn wsX5_takeWords (wsV RX5 34 RX5 yX5_take wsX5_take) := goodIn_app (goodIn_of _ (by decide +kernel)) ggX5_takeWords_X5_take
set_option maxRecDepth 20000 in
theorem ggX5_takeWords_X5_nextLetter : GoodIn wsX5_takeWords wsX5_nextLetter := goodIn_r _ [15, 11, 16, 17, 116, 117, 118, 119] (by decide +kernel) (by decide +kernel)
set_option maxRecDepth 20000 in
theorem gX5_takeWords_X5_nextLetter : GoodIn wsX5_takeWords (wsV RX5 70 RX5 yX5_nextLetter wsX5_nextLetter) := goodIn_app (goodIn_of _ (by decide +kernel)) ggX5_takeWords_X5_nextLetter
theorem dX5_takeWords_0 : decode cX5_takeWords 0 = .ok (.aload_n 0, 1) := by decide +kernel
theorem dX5_takeWords_1 : decode cX5_takeWords 1 = .ok (.invokevirtual 67, 3) := by decide +kernel
theorem dX5_takeWords_4 : decode cX5_takeWords 4 = .ok (.ifCond .ne 5, 3) := by decide +kernel
theorem dX5_takeWords_7 : decode cX5_takeWords 7 = .ok (.iconst 0, 1) := by decide +kernel
theorem dX5_takeWords_8 : decode cX5_takeWords 8 = .ok (.ireturn, 1) := by decide +kernel
theorem dX5_takeWords_9 : decode cX5_takeWords 9 = .ok (.iconst 1, 1) := by decide +kernel
theorem dX5_takeWords_10 : decode cX5_takeWords 10 = .ok (.istore_n 1, 1) := by decide +kernel
theorem dX5_takeWords_11 : decode cX5_takeWords 11 = .ok (.iload_n 1, 1) := by decide +kernel
theorem dX5_takeWords_12 : decode cX5_takeWords 12 = .ok (.bipush 6, 2) := by decide +kernel
theorem dX5_takeWords_14 : decode cX5_takeWords 14 = .ok (.if_icmp .ge 28, 3) := by decide +kernel
theorem dX5_takeWords_17 : decode cX5_takeWords 17 = .ok (.aload_n 0, 1) := by decide +kernel
theorem dX5_takeWords_18 : decode cX5_takeWords 18 = .ok (.ldc 53, 2) := by decide +kernel
theorem dX5_takeWords_20 : decode cX5_takeWords 20 = .ok (.iconst 0, 1) := by decide +kernel
theorem dX5_takeWords_21 : decode cX5_takeWords 21 = .ok (.invokevirtual 34, 3) := by decide +kernel
theorem dX5_takeWords_24 : decode cX5_takeWords 24 = .ok (.ifCond .lt 18, 3) := by decide +kernel
theorem dX5_takeWords_27 : decode cX5_takeWords 27 = .ok (.aload_n 0, 1) := by decide +kernel
theorem dX5_takeWords_28 : decode cX5_takeWords 28 = .ok (.invokevirtual 67, 3) := by decide +kernel
theorem dX5_takeWords_31 : decode cX5_takeWords 31 = .ok (.ifCond .ne 5, 3) := by decide +kernel
theorem dX5_takeWords_34 : decode cX5_takeWords 34 = .ok (.iconst 0, 1) := by decide +kernel
theorem dX5_takeWords_35 : decode cX5_takeWords 35 = .ok (.ireturn, 1) := by decide +kernel
theorem dX5_takeWords_36 : decode cX5_takeWords 36 = .ok (.iinc 1 1, 3) := by decide +kernel
theorem dX5_takeWords_39 : decode cX5_takeWords 39 = .ok (.goto (-28), 3) := by decide +kernel
theorem dX5_takeWords_42 : decode cX5_takeWords 42 = .ok (.aload_n 0, 1) := by decide +kernel
theorem dX5_takeWords_43 : decode cX5_takeWords 43 = .ok (.invokevirtual 70, 3) := by decide +kernel
theorem dX5_takeWords_46 : decode cX5_takeWords 46 = .ok (.ifCond .ne 7, 3) := by decide +kernel
theorem dX5_takeWords_49 : decode cX5_takeWords 49 = .ok (.iconst 1, 1) := by decide +kernel
theorem dX5_takeWords_50 : decode cX5_takeWords 50 = .ok (.goto 4, 3) := by decide +kernel
theorem dX5_takeWords_53 : decode cX5_takeWords 53 = .ok (.iconst 0, 1) := by decide +kernel
theorem dX5_takeWords_54 : decode cX5_takeWords 54 = .ok (.ireturn, 1) := by decide +kernel
set_option maxRecDepth 20000 in
theorem ggX5_takeWord_X5_take : GoodIn wsX5_takeWord wsX5_take := goodIn_r _ [6, 7, 8, 9, 10, 5, 11, 12, 13, 14, 15, 16, 17, 18, 19, 20, 21, 22, 23, 24, 25, 26, 27, 28, 29, 30, 31, 32, 33, 34, 35, 36, 37, 38, 39, 40, 41, 42, 43, 44, 45, 46, 47, 48, 49, 50, 51, 52, 53, 54, 55, 56, 57, 58, 59, 60, 61, 62, 63, 64, 65, 66, 67, 68, 69, 70, 71, 72, 73, 74, 75, 76, 77, 78, 79, 80, 81, 82, 83, 84, 85, 86, 87, 88, 89, 90, 91, 92, 93, 94, 95, 96, 97, 98, 99, 100, 101, 102, 112, 113, 114, 115] (by decide +kernel) (by decide +kernel)
set_option maxRecDepth 20000 in
theorem gX5_takeWord_X5_take : GoodIn wsX5_takeWord (wsV RX5 34 RX5 yX5_take wsX5_take) := goodIn_app (goodIn_of _ (by decide +kernel)) ggX5_takeWord_X5_take
set_option maxRecDepth 20000 in
theorem ggX5_takeWord_X1_addWord : GoodIn wsX5_takeWord wsX1_addWord := goodIn_r _ [107, 108, 109, 110, 111, 116, 117, 118, 119, 120, 121, 122, 123, 124, 125, 126, 127, 128, 129, 130, 131, 132] (by decide +kernel) (by decide +kernel)
set_option maxRecDepth 20000 in
theorem gX5_takeWord_X1_addWord : GoodIn wsX5_takeWord (wsV RX5 76 RX1 yX1_addWord wsX1_addWord) := goodIn_app (goodIn_of _ (by decide +kernel)) ggX5_takeWord_X1_addWord
theorem dX5_takeWord_0 : decode cX5_takeWord 0 = .ok (.iconst 0, 1) := by decide +kernel
theorem dX5_takeWord_1 : decode cX5_takeWord 1 = .ok (.istore_n 1, 1) := by decide +kernel
theorem dX5_takeWord_2 : decode cX5_takeWord 2 = .ok (.aload_n 0, 1) := by decide +kernel
theorem dX5_takeWord_3 : decode cX5_takeWord 3 = .ok (.ldc 74, 2) := by decide +kernel
theorem dX5_takeWord_5 : decode cX5_takeWord 5 = .ok (.iconst 0, 1) := by decide +kernel
theorem dX5_takeWord_6 : decode cX5_takeWord 6 = .ok (.invokevirtual 34, 3) := by decide +kernel
theorem dX5_takeWord_9 : decode cX5_takeWord 9 = .ok (.istore_n 2, 1) := by decide +kernel
theorem dX5_takeWord_10 : decode cX5_takeWord 10 = .ok (.iconst 0, 1) := by decide +kernel
theorem dX5_takeWord_11 : decode cX5_takeWord 11 = .ok (.istore_n 3, 1) := by decide +kernel
theorem dX5_takeWord_12 : decode cX5_takeWord 12 = .ok (.iload_n 3, 1) := by decide +kernel
theorem dX5_takeWord_13 : decode cX5_takeWord 13 = .ok (.bipush 6, 2) := by decide +kernel
theorem dX5_takeWord_15 : decode cX5_takeWord 15 = .ok (.if_icmp .ge 29, 3) := by decide +kernel
theorem dX5_takeWord_18 : decode cX5_takeWord 18 = .ok (.iload_n 2, 1) := by decide +kernel
theorem dX5_takeWord_19 : decode cX5_takeWord 19 = .ok (.ifCond .lt 25, 3) := by decide +kernel
theorem dX5_takeWord_22 : decode cX5_takeWord 22 = .ok (.iload_n 1, 1) := by decide +kernel
theorem dX5_takeWord_23 : decode cX5_takeWord 23 = .ok (.iconst 1, 1) := by decide +kernel
theorem dX5_takeWord_24 : decode cX5_takeWord 24 = .ok (.iload_n 2, 1) := by decide +kernel
theorem dX5_takeWord_25 : decode cX5_takeWord 25 = .ok (.ishl, 1) := by decide +kernel
theorem dX5_takeWord_26 : decode cX5_takeWord 26 = .ok (.ior, 1) := by decide +kernel
theorem dX5_takeWord_27 : decode cX5_takeWord 27 = .ok (.istore_n 1, 1) := by decide +kernel
theorem dX5_takeWord_28 : decode cX5_takeWord 28 = .ok (.aload_n 0, 1) := by decide +kernel
theorem dX5_takeWord_29 : decode cX5_takeWord 29 = .ok (.ldc 74, 2) := by decide +kernel
theorem dX5_takeWord_31 : decode cX5_takeWord 31 = .ok (.iload_n 2, 1) := by decide +kernel
theorem dX5_takeWord_32 : decode cX5_takeWord 32 = .ok (.iconst 1, 1) := by decide +kernel
theorem dX5_takeWord_33 : decode cX5_takeWord 33 = .ok (.iadd, 1) := by decide +kernel
theorem dX5_takeWord_34 : decode cX5_takeWord 34 = .ok (.invokevirtual 34, 3) := by decide +kernel
theorem dX5_takeWord_37 : decode cX5_takeWord 37 = .ok (.istore_n 2, 1) := by decide +kernel
theorem dX5_takeWord_38 : decode cX5_takeWord 38 = .ok (.iinc 3 1, 3) := by decide +kernel
theorem dX5_takeWord_41 : decode cX5_takeWord 41 = .ok (.goto (-29), 3) := by decide +kernel
theorem dX5_takeWord_44 : decode cX5_takeWord 44 = .ok (.iload_n 1, 1) := by decide +kernel
theorem dX5_takeWord_45 : decode cX5_takeWord 45 = .ok (.ifCond .ne 5, 3) := by decide +kernel
theorem dX5_takeWord_48 : decode cX5_takeWord 48 = .ok (.iconst 0, 1) := by decide +kernel
theorem dX5_takeWord_49 : decode cX5_takeWord 49 = .ok (.ireturn, 1) := by decide +kernel
theorem dX5_takeWord_50 : decode cX5_takeWord 50 = .ok (.aload_n 0, 1) := by decide +kernel
theorem dX5_takeWord_51 : decode cX5_takeWord 51 = .ok (.getfield 18, 3) := by decide +kernel
theorem dX5_takeWord_54 : decode cX5_takeWord 54 = .ok (.iload_n 1, 1) := by decide +kernel
theorem dX5_takeWord_55 : decode cX5_takeWord 55 = .ok (.invokevirtual 76, 3) := by decide +kernel
theorem dX5_takeWord_58 : decode cX5_takeWord 58 = .ok (.pop, 1) := by decide +kernel
theorem dX5_takeWord_59 : decode cX5_takeWord 59 = .ok (.iconst 1, 1) := by decide +kernel
theorem dX5_takeWord_60 : decode cX5_takeWord 60 = .ok (.ireturn, 1) := by decide +kernel
set_option maxRecDepth 20000 in
theorem ggX5_take_X5_nextLetter : GoodIn wsX5_take wsX5_nextLetter := goodIn_r _ [6, 1, 7, 8, 98, 99, 100, 101] (by decide +kernel) (by decide +kernel)
set_option maxRecDepth 20000 in
theorem gX5_take_X5_nextLetter : GoodIn wsX5_take (wsV RX5 70 RX5 yX5_nextLetter wsX5_nextLetter) := goodIn_app (goodIn_of _ (by decide +kernel)) ggX5_take_X5_nextLetter
set_option maxRecDepth 20000 in
theorem ggX5_take_J0_indexOf_0f7a4 : GoodIn wsX5_take wsJ0_indexOf_0f7a4 := goodIn_r _ [13, 14, 15, 16, 12, 17, 18, 19, 20, 21, 22, 23, 24, 25, 26, 27, 28, 29, 30, 31, 32, 33, 34, 35, 36, 37, 38, 39, 40, 41, 42, 43, 44, 45, 46, 47, 48, 49, 50, 51, 52, 53, 54, 55, 56, 57, 58, 59, 60, 61, 62, 63, 64, 65, 66, 67, 68, 69, 70, 71, 72, 73, 74, 75, 76, 77, 78, 79, 80, 81, 82, 83, 84, 85, 86, 87, 88, 89, 90, 91, 92, 93, 94, 95, 96, 97] (by decide +kernel) (by decide +kernel)
set_option maxRecDepth 20000 in
theorem gX5_take_J0_indexOf_0f7a4 : GoodIn wsX5_take (wsV RX5 80 RJ0 yJ0_indexOf_0f7a4 wsJ0_indexOf_0f7a4) := goodIn_app (goodIn_of _ (by decide +kernel)) ggX5_take_J0_indexOf_0f7a4
theorem dX5_take_0 : decode cX5_take 0 = .ok (.aload_n 1, 1) := by decide +kernel
theorem dX5_take_1 : decode cX5_take 1 = .ok (.aload_n 0, 1) := by decide +kernel
theorem dX5_take_2 : decode cX5_take 2 = .ok (.invokevirtual 70, 3) := by decide +kernel
theorem dX5_take_5 : decode cX5_take 5 = .ok (.invokevirtual 80, 3) := by decide +kernel
theorem dX5_take_8 : decode cX5_take 8 = .ok (.istore_n 3, 1) := by decide +kernel
theorem dX5_take_9 : decode cX5_take 9 = .ok (.iload_n 3, 1) := by decide +kernel
theorem dX5_take_10 : decode cX5_take 10 = .ok (.iload_n 2, 1) := by decide +kernel
theorem dX5_take_11 : decode cX5_take 11 = .ok (.if_icmp .ge 6, 3) := by decide +kernel
theorem dX5_take_14 : decode cX5_take 14 = .ok (.bipush (-4), 2) := by decide +kernel
theorem dX5_take_16 : decode cX5_take 16 = .ok (.ireturn, 1) := by decide +kernel
theorem dX5_take_17 : decode cX5_take 17 = .ok (.aload_n 0, 1) := by decide +kernel
theorem dX5_take_18 : decode cX5_take 18 = .ok (.dup, 1) := by decide +kernel
theorem dX5_take_19 : decode cX5_take 19 = .ok (.getfield 22, 3) := by decide +kernel
theorem dX5_take_22 : decode cX5_take 22 = .ok (.iconst 1, 1) := by decide +kernel
theorem dX5_take_23 : decode cX5_take 23 = .ok (.iadd, 1) := by decide +kernel
theorem dX5_take_24 : decode cX5_take 24 = .ok (.putfield 22, 3) := by decide +kernel
theorem dX5_take_27 : decode cX5_take 27 = .ok (.iload_n 3, 1) := by decide +kernel
theorem dX5_take_28 : decode cX5_take 28 = .ok (.ireturn, 1) := by decide +kernel
theorem dX5_nextLetter_0 : decode cX5_nextLetter 0 = .ok (.aload_n 0, 1) := by decide +kernel
theorem dX5_nextLetter_1 : decode cX5_nextLetter 1 = .ok (.getfield 22, 3) := by decide +kernel
theorem dX5_nextLetter_4 : decode cX5_nextLetter 4 = .ok (.aload_n 0, 1) := by decide +kernel
theorem dX5_nextLetter_5 : decode cX5_nextLetter 5 = .ok (.getfield 85, 3) := by decide +kernel
theorem dX5_nextLetter_8 : decode cX5_nextLetter 8 = .ok (.if_icmp .ge 30, 3) := by decide +kernel
theorem dX5_nextLetter_11 : decode cX5_nextLetter 11 = .ok (.aload_n 0, 1) := by decide +kernel
theorem dX5_nextLetter_12 : decode cX5_nextLetter 12 = .ok (.getfield 9, 3) := by decide +kernel
theorem dX5_nextLetter_15 : decode cX5_nextLetter 15 = .ok (.aload_n 0, 1) := by decide +kernel
theorem dX5_nextLetter_16 : decode cX5_nextLetter 16 = .ok (.getfield 22, 3) := by decide +kernel
theorem dX5_nextLetter_19 : decode cX5_nextLetter 19 = .ok (.caload, 1) := by decide +kernel
theorem dX5_nextLetter_20 : decode cX5_nextLetter 20 = .ok (.bipush 32, 2) := by decide +kernel
theorem dX5_nextLetter_22 : decode cX5_nextLetter 22 = .ok (.if_icmp .ne 16, 3) := by decide +kernel
theorem dX5_nextLetter_25 : decode cX5_nextLetter 25 = .ok (.aload_n 0, 1) := by decide +kernel
theorem dX5_nextLetter_26 : decode cX5_nextLetter 26 = .ok (.dup, 1) := by decide +kernel
theorem dX5_nextLetter_27 : decode cX5_nextLetter 27 = .ok (.getfield 22, 3) := by decide +kernel
theorem dX5_nextLetter_30 : decode cX5_nextLetter 30 = .ok (.iconst 1, 1) := by decide +kernel
theorem dX5_nextLetter_31 : decode cX5_nextLetter 31 = .ok (.iadd, 1) := by decide +kernel
theorem dX5_nextLetter_32 : decode cX5_nextLetter 32 = .ok (.putfield 22, 3) := by decide +kernel
theorem dX5_nextLetter_35 : decode cX5_nextLetter 35 = .ok (.goto (-35), 3) := by decide +kernel
theorem dX5_nextLetter_38 : decode cX5_nextLetter 38 = .ok (.aload_n 0, 1) := by decide +kernel
theorem dX5_nextLetter_39 : decode cX5_nextLetter 39 = .ok (.getfield 22, 3) := by decide +kernel
theorem dX5_nextLetter_42 : decode cX5_nextLetter 42 = .ok (.aload_n 0, 1) := by decide +kernel
theorem dX5_nextLetter_43 : decode cX5_nextLetter 43 = .ok (.getfield 85, 3) := by decide +kernel
theorem dX5_nextLetter_46 : decode cX5_nextLetter 46 = .ok (.if_icmp .ge 15, 3) := by decide +kernel
theorem dX5_nextLetter_49 : decode cX5_nextLetter 49 = .ok (.aload_n 0, 1) := by decide +kernel
theorem dX5_nextLetter_50 : decode cX5_nextLetter 50 = .ok (.getfield 9, 3) := by decide +kernel
theorem dX5_nextLetter_53 : decode cX5_nextLetter 53 = .ok (.aload_n 0, 1) := by decide +kernel
theorem dX5_nextLetter_54 : decode cX5_nextLetter 54 = .ok (.getfield 22, 3) := by decide +kernel
theorem dX5_nextLetter_57 : decode cX5_nextLetter 57 = .ok (.caload, 1) := by decide +kernel
theorem dX5_nextLetter_58 : decode cX5_nextLetter 58 = .ok (.goto 4, 3) := by decide +kernel
theorem dX5_nextLetter_61 : decode cX5_nextLetter 61 = .ok (.iconst 0, 1) := by decide +kernel
theorem dX5_nextLetter_62 : decode cX5_nextLetter 62 = .ok (.ireturn, 1) := by decide +kernel
set_option maxRecDepth 20000 in
theorem ggX6_init_X1_init : GoodIn wsX6_init wsX1_init := goodIn_r _ [23, 24, 2, 3, 25, 26, 27, 28, 29, 30, 31, 32, 33, 34, 35, 36, 37, 38, 39, 40, 41, 42, 43, 44, 45, 46, 47, 48, 49, 50, 51, 52, 53, 76, 77, 78, 79, 80, 81, 82, 83, 84, 85, 86, 106, 107, 108, 109, 110, 111, 112, 113, 114, 115] (by decide +kernel) (by decide +kernel)
set_option maxRecDepth 20000 in
theorem gX6_init_X1_init : GoodIn wsX6_init (wsX1_init) := ggX6_init_X1_init
set_option maxRecDepth 20000 in
theorem ggX6_init_X2_init : GoodIn wsX6_init wsX2_init := goodIn_r _ [56, 57, 2, 3, 25, 58, 59, 60, 61, 62, 63, 93, 94, 95, 96, 97] (by decide +kernel) (by decide +kernel)
set_option maxRecDepth 20000 in
theorem gX6_init_X2_init : GoodIn wsX6_init (wsX2_init) := ggX6_init_X2_init
set_option maxRecDepth 20000 in
theorem ggX6_init_X5_init : GoodIn wsX6_init wsX5_init := goodIn_r _ [65, 66, 2, 3, 67, 68, 69, 5, 6, 70, 71, 22, 23, 24, 25, 26, 27, 28, 29, 30, 31, 32, 33, 34, 35, 36, 37, 38, 39, 40, 41, 42, 43, 44, 45, 46, 47, 48, 49, 50, 51, 52, 53, 98, 99, 100, 101, 76, 77, 78, 79, 80, 81, 82, 83, 84, 85, 86, 106, 107, 108, 109, 110, 111, 112, 113, 114, 115] (by decide +kernel) (by decide +kernel)
set_option maxRecDepth 20000 in
theorem gX6_init_X5_init_n30 : GoodIn wsX6_init (wsX5_init) := ggX6_init_X5_init
set_option maxRecDepth 20000 in
theorem ggX6_init_X4_init : GoodIn wsX6_init wsX4_init := goodIn_r _ [73, 74, 2, 3, 61, 75, 102, 103, 104, 105] (by decide +kernel) (by decide +kernel)
set_option maxRecDepth 20000 in
theorem gX6_init_X4_init_n41 : GoodIn wsX6_init (wsX4_init) := ggX6_init_X4_init
theorem dX6_init_0 : decode cX6_init 0 = .ok (.aload_n 0, 1) := by decide +kernel
theorem dX6_init_1 : decode cX6_init 1 = .ok (.invokespecial 3, 3) := by decide +kernel
theorem dX6_init_4 : decode cX6_init 4 = .ok (.aload_n 0, 1) := by decide +kernel
theorem dX6_init_5 : decode cX6_init 5 = .ok (.new 9, 3) := by decide +kernel
theorem dX6_init_8 : decode cX6_init 8 = .ok (.dup, 1) := by decide +kernel
theorem dX6_init_9 : decode cX6_init 9 = .ok (.invokespecial 11, 3) := by decide +kernel
theorem dX6_init_12 : decode cX6_init 12 = .ok (.putfield 12, 3) := by decide +kernel
theorem dX6_init_15 : decode cX6_init 15 = .ok (.aload_n 0, 1) := by decide +kernel
theorem dX6_init_16 : decode cX6_init 16 = .ok (.new 9, 3) := by decide +kernel
theorem dX6_init_19 : decode cX6_init 19 = .ok (.dup, 1) := by decide +kernel
theorem dX6_init_20 : decode cX6_init 20 = .ok (.invokespecial 11, 3) := by decide +kernel
theorem dX6_init_23 : decode cX6_init 23 = .ok (.putfield 16, 3) := by decide +kernel
theorem dX6_init_26 : decode cX6_init 26 = .ok (.aload_n 0, 1) := by decide +kernel
theorem dX6_init_27 : decode cX6_init 27 = .ok (.new 19, 3) := by decide +kernel
theorem dX6_init_30 : decode cX6_init 30 = .ok (.dup, 1) := by decide +kernel
theorem dX6_init_31 : decode cX6_init 31 = .ok (.aload_n 0, 1) := by decide +kernel
theorem dX6_init_32 : decode cX6_init 32 = .ok (.getfield 12, 3) := by decide +kernel
theorem dX6_init_35 : decode cX6_init 35 = .ok (.invokespecial 21, 3) := by decide +kernel
theorem dX6_init_38 : decode cX6_init 38 = .ok (.putfield 24, 3) := by decide +kernel
theorem dX6_init_41 : decode cX6_init 41 = .ok (.aload_n 0, 1) := by decide +kernel
theorem dX6_init_42 : decode cX6_init 42 = .ok (.new 28, 3) := by decide +kernel
theorem dX6_init_45 : decode cX6_init 45 = .ok (.dup, 1) := by decide +kernel
theorem dX6_init_46 : decode cX6_init 46 = .ok (.invokespecial 30, 3) := by decide +kernel
theorem dX6_init_49 : decode cX6_init 49 = .ok (.putfield 31, 3) := by decide +kernel
theorem dX6_init_52 : decode cX6_init 52 = .ok (.aload_n 0, 1) := by decide +kernel
theorem dX6_init_53 : decode cX6_init 53 = .ok (.iconst 4, 1) := by decide +kernel
theorem dX6_init_54 : decode cX6_init 54 = .ok (.anewarray 35, 3) := by decide +kernel
theorem dX6_init_57 : decode cX6_init 57 = .ok (.putfield 37, 3) := by decide +kernel
theorem dX6_init_60 : decode cX6_init 60 = .ok (.iconst 0, 1) := by decide +kernel
theorem dX6_init_61 : decode cX6_init 61 = .ok (.istore_n 1, 1) := by decide +kernel
theorem dX6_init_62 : decode cX6_init 62 = .ok (.iload_n 1, 1) := by decide +kernel
theorem dX6_init_63 : decode cX6_init 63 = .ok (.iconst 4, 1) := by decide +kernel
theorem dX6_init_64 : decode cX6_init 64 = .ok (.if_icmp .ge 22, 3) := by decide +kernel
theorem dX6_init_67 : decode cX6_init 67 = .ok (.aload_n 0, 1) := by decide +kernel
theorem dX6_init_68 : decode cX6_init 68 = .ok (.getfield 37, 3) := by decide +kernel
theorem dX6_init_71 : decode cX6_init 71 = .ok (.iload_n 1, 1) := by decide +kernel
theorem dX6_init_72 : decode cX6_init 72 = .ok (.new 35, 3) := by decide +kernel
theorem dX6_init_75 : decode cX6_init 75 = .ok (.dup, 1) := by decide +kernel
theorem dX6_init_76 : decode cX6_init 76 = .ok (.invokespecial 41, 3) := by decide +kernel
theorem dX6_init_79 : decode cX6_init 79 = .ok (.aastore, 1) := by decide +kernel
theorem dX6_init_80 : decode cX6_init 80 = .ok (.iinc 1 1, 3) := by decide +kernel
theorem dX6_init_83 : decode cX6_init 83 = .ok (.goto (-21), 3) := by decide +kernel
theorem dX6_init_86 : decode cX6_init 86 = .ok (.return_, 1) := by decide +kernel
set_option maxRecDepth 20000 in
theorem ggX6_speaker_X6_isIn : GoodIn wsX6_speaker wsX6_isIn := goodIn_r _ [8] (by decide +kernel) (by decide +kernel)
set_option maxRecDepth 20000 in
theorem gX6_speaker_X6_isIn : GoodIn wsX6_speaker (va_wsS RX6 42 yX6_isIn wsX6_isIn) := goodIn_app (goodIn_of _ (by decide +kernel)) ggX6_speaker_X6_isIn
set_option maxRecDepth 20000 in
theorem ggX6_speaker_X1_addSpeaker : GoodIn wsX6_speaker wsX1_addSpeaker := goodIn_r _ [13, 14, 15, 16, 17, 18, 19, 26, 27, 28, 29, 30, 31, 32, 33, 34, 35, 36, 37, 38, 39, 40, 41, 42] (by decide +kernel) (by decide +kernel)
set_option maxRecDepth 20000 in
theorem gX6_speaker_X1_addSpeaker : GoodIn wsX6_speaker (wsV RX6 50 RX1 yX1_addSpeaker wsX1_addSpeaker) := goodIn_app (goodIn_of _ (by decide +kernel)) ggX6_speaker_X1_addSpeaker
theorem dX6_speaker_0 : decode cX6_speaker 0 = .ok (.iload_n 1, 1) := by decide +kernel
theorem dX6_speaker_1 : decode cX6_speaker 1 = .ok (.iconst 0, 1) := by decide +kernel
theorem dX6_speaker_2 : decode cX6_speaker 2 = .ok (.iconst 4, 1) := by decide +kernel
theorem dX6_speaker_3 : decode cX6_speaker 3 = .ok (.invokestatic 42, 3) := by decide +kernel
theorem dX6_speaker_6 : decode cX6_speaker 6 = .ok (.ifCond .eq 22, 3) := by decide +kernel
theorem dX6_speaker_9 : decode cX6_speaker 9 = .ok (.iload_n 2, 1) := by decide +kernel
theorem dX6_speaker_10 : decode cX6_speaker 10 = .ok (.iconst 0, 1) := by decide +kernel
theorem dX6_speaker_11 : decode cX6_speaker 11 = .ok (.iconst 1, 1) := by decide +kernel
theorem dX6_speaker_12 : decode cX6_speaker 12 = .ok (.invokestatic 42, 3) := by decide +kernel
theorem dX6_speaker_15 : decode cX6_speaker 15 = .ok (.ifCond .eq 13, 3) := by decide +kernel
theorem dX6_speaker_18 : decode cX6_speaker 18 = .ok (.iload_n 3, 1) := by decide +kernel
theorem dX6_speaker_19 : decode cX6_speaker 19 = .ok (.iconst 0, 1) := by decide +kernel
theorem dX6_speaker_20 : decode cX6_speaker 20 = .ok (.bipush 9, 2) := by decide +kernel
theorem dX6_speaker_22 : decode cX6_speaker 22 = .ok (.invokestatic 42, 3) := by decide +kernel
theorem dX6_speaker_25 : decode cX6_speaker 25 = .ok (.ifCond .ne 5, 3) := by decide +kernel
theorem dX6_speaker_28 : decode cX6_speaker 28 = .ok (.iconst (-1), 1) := by decide +kernel
theorem dX6_speaker_29 : decode cX6_speaker 29 = .ok (.ireturn, 1) := by decide +kernel
theorem dX6_speaker_30 : decode cX6_speaker 30 = .ok (.aload_n 0, 1) := by decide +kernel
theorem dX6_speaker_31 : decode cX6_speaker 31 = .ok (.getfield 12, 3) := by decide +kernel
theorem dX6_speaker_34 : decode cX6_speaker 34 = .ok (.getfield 46, 3) := by decide +kernel
theorem dX6_speaker_37 : decode cX6_speaker 37 = .ok (.bipush 6, 2) := by decide +kernel
theorem dX6_speaker_39 : decode cX6_speaker 39 = .ok (.if_icmp .lt 6, 3) := by decide +kernel
theorem dX6_speaker_42 : decode cX6_speaker 42 = .ok (.bipush (-3), 2) := by decide +kernel
theorem dX6_speaker_44 : decode cX6_speaker 44 = .ok (.ireturn, 1) := by decide +kernel
theorem dX6_speaker_45 : decode cX6_speaker 45 = .ok (.aload_n 0, 1) := by decide +kernel
theorem dX6_speaker_46 : decode cX6_speaker 46 = .ok (.getfield 12, 3) := by decide +kernel
theorem dX6_speaker_49 : decode cX6_speaker 49 = .ok (.iload_n 1, 1) := by decide +kernel
theorem dX6_speaker_50 : decode cX6_speaker 50 = .ok (.iload_n 2, 1) := by decide +kernel
theorem dX6_speaker_51 : decode cX6_speaker 51 = .ok (.invokevirtual 50, 3) := by decide +kernel
theorem dX6_speaker_54 : decode cX6_speaker 54 = .ok (.istore 4, 2) := by decide +kernel
theorem dX6_speaker_56 : decode cX6_speaker 56 = .ok (.iconst 0, 1) := by decide +kernel
theorem dX6_speaker_57 : decode cX6_speaker 57 = .ok (.istore 5, 2) := by decide +kernel
theorem dX6_speaker_59 : decode cX6_speaker 59 = .ok (.iload 5, 2) := by decide +kernel
theorem dX6_speaker_61 : decode cX6_speaker 61 = .ok (.bipush 6, 2) := by decide +kernel
theorem dX6_speaker_63 : decode cX6_speaker 63 = .ok (.if_icmp .ge 26, 3) := by decide +kernel
theorem dX6_speaker_66 : decode cX6_speaker 66 = .ok (.aload_n 0, 1) := by decide +kernel
theorem dX6_speaker_67 : decode cX6_speaker 67 = .ok (.getfield 12, 3) := by decide +kernel
theorem dX6_speaker_70 : decode cX6_speaker 70 = .ok (.getfield 54, 3) := by decide +kernel
theorem dX6_speaker_73 : decode cX6_speaker 73 = .ok (.iload 4, 2) := by decide +kernel
theorem dX6_speaker_75 : decode cX6_speaker 75 = .ok (.bipush 6, 2) := by decide +kernel
theorem dX6_speaker_77 : decode cX6_speaker 77 = .ok (.imul, 1) := by decide +kernel
theorem dX6_speaker_78 : decode cX6_speaker 78 = .ok (.iload 5, 2) := by decide +kernel
theorem dX6_speaker_80 : decode cX6_speaker 80 = .ok (.iadd, 1) := by decide +kernel
theorem dX6_speaker_81 : decode cX6_speaker 81 = .ok (.iload_n 3, 1) := by decide +kernel
theorem dX6_speaker_82 : decode cX6_speaker 82 = .ok (.iastore, 1) := by decide +kernel
theorem dX6_speaker_83 : decode cX6_speaker 83 = .ok (.iinc 5 1, 3) := by decide +kernel
theorem dX6_speaker_86 : decode cX6_speaker 86 = .ok (.goto (-27), 3) := by decide +kernel
theorem dX6_speaker_89 : decode cX6_speaker 89 = .ok (.aload_n 0, 1) := by decide +kernel
theorem dX6_speaker_90 : decode cX6_speaker 90 = .ok (.getfield 12, 3) := by decide +kernel
theorem dX6_speaker_93 : decode cX6_speaker 93 = .ok (.iconst 0, 1) := by decide +kernel
theorem dX6_speaker_94 : decode cX6_speaker 94 = .ok (.putfield 58, 3) := by decide +kernel
theorem dX6_speaker_97 : decode cX6_speaker 97 = .ok (.iload 4, 2) := by decide +kernel
theorem dX6_speaker_99 : decode cX6_speaker 99 = .ok (.ireturn, 1) := by decide +kernel
set_option maxRecDepth 20000 in
theorem ggX6_can_X6_isSpeaker : GoodIn wsX6_can wsX6_isSpeaker := goodIn_r _ [7, 1, 8, 9, 10, 6, 11, 12, 13, 14, 15, 16, 17, 18, 19, 20, 21, 22, 23, 24, 25, 26, 27, 28] (by decide +kernel) (by decide +kernel)
set_option maxRecDepth 20000 in
theorem gX6_can_X6_isSpeaker : GoodIn wsX6_can (wsV RX6 61 RX6 yX6_isSpeaker wsX6_isSpeaker) := goodIn_app (goodIn_of _ (by decide +kernel)) ggX6_can_X6_isSpeaker
set_option maxRecDepth 20000 in
theorem ggX6_can_X6_isIn : GoodIn wsX6_can wsX6_isIn := goodIn_r _ [11] (by decide +kernel) (by decide +kernel)
set_option maxRecDepth 20000 in
theorem gX6_can_X6_isIn : GoodIn wsX6_can (va_wsS RX6 42 yX6_isIn wsX6_isIn) := goodIn_app (goodIn_of _ (by decide +kernel)) ggX6_can_X6_isIn
theorem dX6_can_0 : decode cX6_can 0 = .ok (.aload_n 0, 1) := by decide +kernel
theorem dX6_can_1 : decode cX6_can 1 = .ok (.iload_n 1, 1) := by decide +kernel
theorem dX6_can_2 : decode cX6_can 2 = .ok (.invokevirtual 61, 3) := by decide +kernel
theorem dX6_can_5 : decode cX6_can 5 = .ok (.ifCond .eq 22, 3) := by decide +kernel
theorem dX6_can_8 : decode cX6_can 8 = .ok (.iload_n 2, 1) := by decide +kernel
theorem dX6_can_9 : decode cX6_can 9 = .ok (.iconst 0, 1) := by decide +kernel
theorem dX6_can_10 : decode cX6_can 10 = .ok (.iconst 5, 1) := by decide +kernel
theorem dX6_can_11 : decode cX6_can 11 = .ok (.invokestatic 42, 3) := by decide +kernel
theorem dX6_can_14 : decode cX6_can 14 = .ok (.ifCond .eq 13, 3) := by decide +kernel
theorem dX6_can_17 : decode cX6_can 17 = .ok (.iload_n 3, 1) := by decide +kernel
theorem dX6_can_18 : decode cX6_can 18 = .ok (.iconst 0, 1) := by decide +kernel
theorem dX6_can_19 : decode cX6_can 19 = .ok (.bipush 9, 2) := by decide +kernel
theorem dX6_can_21 : decode cX6_can 21 = .ok (.invokestatic 42, 3) := by decide +kernel
theorem dX6_can_24 : decode cX6_can 24 = .ok (.ifCond .ne 5, 3) := by decide +kernel
theorem dX6_can_27 : decode cX6_can 27 = .ok (.iconst (-1), 1) := by decide +kernel
theorem dX6_can_28 : decode cX6_can 28 = .ok (.ireturn, 1) := by decide +kernel
theorem dX6_can_29 : decode cX6_can 29 = .ok (.aload_n 0, 1) := by decide +kernel
theorem dX6_can_30 : decode cX6_can 30 = .ok (.getfield 12, 3) := by decide +kernel
theorem dX6_can_33 : decode cX6_can 33 = .ok (.getfield 54, 3) := by decide +kernel
theorem dX6_can_36 : decode cX6_can 36 = .ok (.iload_n 1, 1) := by decide +kernel
theorem dX6_can_37 : decode cX6_can 37 = .ok (.bipush 6, 2) := by decide +kernel
theorem dX6_can_39 : decode cX6_can 39 = .ok (.imul, 1) := by decide +kernel
theorem dX6_can_40 : decode cX6_can 40 = .ok (.iload_n 2, 1) := by decide +kernel
theorem dX6_can_41 : decode cX6_can 41 = .ok (.iadd, 1) := by decide +kernel
theorem dX6_can_42 : decode cX6_can 42 = .ok (.iaload, 1) := by decide +kernel
theorem dX6_can_43 : decode cX6_can 43 = .ok (.istore 4, 2) := by decide +kernel
theorem dX6_can_45 : decode cX6_can 45 = .ok (.aload_n 0, 1) := by decide +kernel
theorem dX6_can_46 : decode cX6_can 46 = .ok (.getfield 12, 3) := by decide +kernel
theorem dX6_can_49 : decode cX6_can 49 = .ok (.getfield 54, 3) := by decide +kernel
theorem dX6_can_52 : decode cX6_can 52 = .ok (.iload_n 1, 1) := by decide +kernel
theorem dX6_can_53 : decode cX6_can 53 = .ok (.bipush 6, 2) := by decide +kernel
theorem dX6_can_55 : decode cX6_can 55 = .ok (.imul, 1) := by decide +kernel
theorem dX6_can_56 : decode cX6_can 56 = .ok (.iload_n 2, 1) := by decide +kernel
theorem dX6_can_57 : decode cX6_can 57 = .ok (.iadd, 1) := by decide +kernel
theorem dX6_can_58 : decode cX6_can 58 = .ok (.iload_n 3, 1) := by decide +kernel
theorem dX6_can_59 : decode cX6_can 59 = .ok (.iastore, 1) := by decide +kernel
