theorem dX6_pairsWithout_8 : decode cX6_pairsWithout 8 = .ok (.invokestatic 224, 3) := by decide +kernel
theorem dX6_pairsWithout_11 : decode cX6_pairsWithout 11 = .ok (.aload_n 0, 1) := by decide +kernel
theorem dX6_pairsWithout_12 : decode cX6_pairsWithout 12 = .ok (.getfield 23, 3) := by decide +kernel
theorem dX6_pairsWithout_15 : decode cX6_pairsWithout 15 = .ok (.getfield 88, 3) := by decide +kernel
theorem dX6_pairsWithout_18 : decode cX6_pairsWithout 18 = .ok (.iload_n 1, 1) := by decide +kernel
theorem dX6_pairsWithout_19 : decode cX6_pairsWithout 19 = .ok (.iconst 0, 1) := by decide +kernel
theorem dX6_pairsWithout_20 : decode cX6_pairsWithout 20 = .ok (.invokevirtual 267, 3) := by decide +kernel
theorem dX6_pairsWithout_23 : decode cX6_pairsWithout 23 = .ok (.aload_n 0, 1) := by decide +kernel
theorem dX6_pairsWithout_24 : decode cX6_pairsWithout 24 = .ok (.getfield 26, 3) := by decide +kernel
theorem dX6_pairsWithout_27 : decode cX6_pairsWithout 27 = .ok (.aload_n 0, 1) := by decide +kernel
theorem dX6_pairsWithout_28 : decode cX6_pairsWithout 28 = .ok (.getfield 23, 3) := by decide +kernel
theorem dX6_pairsWithout_31 : decode cX6_pairsWithout 31 = .ok (.getfield 88, 3) := by decide +kernel
theorem dX6_pairsWithout_34 : decode cX6_pairsWithout 34 = .ok (.aload_n 0, 1) := by decide +kernel
theorem dX6_pairsWithout_35 : decode cX6_pairsWithout 35 = .ok (.getfield 23, 3) := by decide +kernel
theorem dX6_pairsWithout_38 : decode cX6_pairsWithout 38 = .ok (.getfield 71, 3) := by decide +kernel
theorem dX6_pairsWithout_41 : decode cX6_pairsWithout 41 = .ok (.iconst 0, 1) := by decide +kernel
theorem dX6_pairsWithout_42 : decode cX6_pairsWithout 42 = .ok (.iaload, 1) := by decide +kernel
theorem dX6_pairsWithout_43 : decode cX6_pairsWithout 43 = .ok (.invokevirtual 257, 3) := by decide +kernel
theorem dX6_pairsWithout_46 : decode cX6_pairsWithout 46 = .ok (.aload_n 0, 1) := by decide +kernel
theorem dX6_pairsWithout_47 : decode cX6_pairsWithout 47 = .ok (.getfield 23, 3) := by decide +kernel
theorem dX6_pairsWithout_50 : decode cX6_pairsWithout 50 = .ok (.aload_n 0, 1) := by decide +kernel
theorem dX6_pairsWithout_51 : decode cX6_pairsWithout 51 = .ok (.getfield 26, 3) := by decide +kernel
theorem dX6_pairsWithout_54 : decode cX6_pairsWithout 54 = .ok (.invokevirtual 208, 3) := by decide +kernel
theorem dX6_pairsWithout_57 : decode cX6_pairsWithout 57 = .ok (.ireturn, 1) := by decide +kernel
theorem dX7_init_0 : decode cX7_init 0 = .ok (.aload_n 0, 1) := by decide +kernel
theorem dX7_init_1 : decode cX7_init 1 = .ok (.invokespecial 1, 3) := by decide +kernel
theorem dX7_init_4 : decode cX7_init 4 = .ok (.aload_n 0, 1) := by decide +kernel
theorem dX7_init_5 : decode cX7_init 5 = .ok (.sipush 560, 3) := by decide +kernel
theorem dX7_init_8 : decode cX7_init 8 = .ok (.newarray .int, 2) := by decide +kernel
theorem dX7_init_10 : decode cX7_init 10 = .ok (.putfield 7, 3) := by decide +kernel
theorem dX7_init_13 : decode cX7_init 13 = .ok (.aload_n 0, 1) := by decide +kernel
theorem dX7_init_14 : decode cX7_init 14 = .ok (.sipush 560, 3) := by decide +kernel
theorem dX7_init_17 : decode cX7_init 17 = .ok (.newarray .int, 2) := by decide +kernel
theorem dX7_init_19 : decode cX7_init 19 = .ok (.putfield 13, 3) := by decide +kernel
theorem dX7_init_22 : decode cX7_init 22 = .ok (.aload_n 0, 1) := by decide +kernel
theorem dX7_init_23 : decode cX7_init 23 = .ok (.sipush 3360, 3) := by decide +kernel
theorem dX7_init_26 : decode cX7_init 26 = .ok (.newarray .int, 2) := by decide +kernel
theorem dX7_init_28 : decode cX7_init 28 = .ok (.putfield 16, 3) := by decide +kernel
theorem dX7_init_31 : decode cX7_init 31 = .ok (.aload_n 0, 1) := by decide +kernel
theorem dX7_init_32 : decode cX7_init 32 = .ok (.sipush 1120, 3) := by decide +kernel
theorem dX7_init_35 : decode cX7_init 35 = .ok (.newarray .int, 2) := by decide +kernel
theorem dX7_init_37 : decode cX7_init 37 = .ok (.putfield 19, 3) := by decide +kernel
theorem dX7_init_40 : decode cX7_init 40 = .ok (.aload_n 0, 1) := by decide +kernel
theorem dX7_init_41 : decode cX7_init 41 = .ok (.iconst 2, 1) := by decide +kernel
theorem dX7_init_42 : decode cX7_init 42 = .ok (.newarray .boolean, 2) := by decide +kernel
theorem dX7_init_44 : decode cX7_init 44 = .ok (.putfield 22, 3) := by decide +kernel
theorem dX7_init_47 : decode cX7_init 47 = .ok (.aload_n 0, 1) := by decide +kernel
theorem dX7_init_48 : decode cX7_init 48 = .ok (.bipush 80, 2) := by decide +kernel
theorem dX7_init_50 : decode cX7_init 50 = .ok (.newarray .int, 2) := by decide +kernel
theorem dX7_init_52 : decode cX7_init 52 = .ok (.putfield 26, 3) := by decide +kernel
theorem dX7_init_55 : decode cX7_init 55 = .ok (.aload_n 0, 1) := by decide +kernel
theorem dX7_init_56 : decode cX7_init 56 = .ok (.sipush 6250, 3) := by decide +kernel
theorem dX7_init_59 : decode cX7_init 59 = .ok (.newarray .int, 2) := by decide +kernel
theorem dX7_init_61 : decode cX7_init 61 = .ok (.putfield 29, 3) := by decide +kernel
theorem dX7_init_64 : decode cX7_init 64 = .ok (.aload_n 0, 1) := by decide +kernel
theorem dX7_init_65 : decode cX7_init 65 = .ok (.sipush 6250, 3) := by decide +kernel
theorem dX7_init_68 : decode cX7_init 68 = .ok (.newarray .int, 2) := by decide +kernel
theorem dX7_init_70 : decode cX7_init 70 = .ok (.putfield 32, 3) := by decide +kernel
theorem dX7_init_73 : decode cX7_init 73 = .ok (.aload_n 0, 1) := by decide +kernel
theorem dX7_init_74 : decode cX7_init 74 = .ok (.bipush 25, 2) := by decide +kernel
theorem dX7_init_76 : decode cX7_init 76 = .ok (.newarray .boolean, 2) := by decide +kernel
theorem dX7_init_78 : decode cX7_init 78 = .ok (.putfield 35, 3) := by decide +kernel
theorem dX7_init_81 : decode cX7_init 81 = .ok (.aload_n 0, 1) := by decide +kernel
theorem dX7_init_82 : decode cX7_init 82 = .ok (.iconst 4, 1) := by decide +kernel
theorem dX7_init_83 : decode cX7_init 83 = .ok (.newarray .int, 2) := by decide +kernel
theorem dX7_init_85 : decode cX7_init 85 = .ok (.putfield 38, 3) := by decide +kernel
theorem dX7_init_88 : decode cX7_init 88 = .ok (.aload_n 0, 1) := by decide +kernel
theorem dX7_init_89 : decode cX7_init 89 = .ok (.bipush 40, 2) := by decide +kernel
theorem dX7_init_91 : decode cX7_init 91 = .ok (.newarray .boolean, 2) := by decide +kernel
theorem dX7_init_93 : decode cX7_init 93 = .ok (.putfield 41, 3) := by decide +kernel
theorem dX7_init_96 : decode cX7_init 96 = .ok (.aload_n 0, 1) := by decide +kernel
theorem dX7_init_97 : decode cX7_init 97 = .ok (.sipush 240, 3) := by decide +kernel
theorem dX7_init_100 : decode cX7_init 100 = .ok (.newarray .int, 2) := by decide +kernel
theorem dX7_init_102 : decode cX7_init 102 = .ok (.putfield 44, 3) := by decide +kernel
theorem dX7_init_105 : decode cX7_init 105 = .ok (.aload_n 0, 1) := by decide +kernel
theorem dX7_init_106 : decode cX7_init 106 = .ok (.getfield 7, 3) := by decide +kernel
theorem dX7_init_109 : decode cX7_init 109 = .ok (.iconst 0, 1) := by decide +kernel
theorem dX7_init_110 : decode cX7_init 110 = .ok (.iconst 1, 1) := by decide +kernel
theorem dX7_init_111 : decode cX7_init 111 = .ok (.iastore, 1) := by decide +kernel
theorem dX7_init_112 : decode cX7_init 112 = .ok (.aload_n 0, 1) := by decide +kernel
theorem dX7_init_113 : decode cX7_init 113 = .ok (.getfield 7, 3) := by decide +kernel
theorem dX7_init_116 : decode cX7_init 116 = .ok (.iconst 2, 1) := by decide +kernel
theorem dX7_init_117 : decode cX7_init 117 = .ok (.iconst 1, 1) := by decide +kernel
theorem dX7_init_118 : decode cX7_init 118 = .ok (.iastore, 1) := by decide +kernel
theorem dX7_init_119 : decode cX7_init 119 = .ok (.aload_n 0, 1) := by decide +kernel
theorem dX7_init_120 : decode cX7_init 120 = .ok (.getfield 7, 3) := by decide +kernel
theorem dX7_init_123 : decode cX7_init 123 = .ok (.iconst 4, 1) := by decide +kernel
theorem dX7_init_124 : decode cX7_init 124 = .ok (.iconst 4, 1) := by decide +kernel
theorem dX7_init_125 : decode cX7_init 125 = .ok (.iastore, 1) := by decide +kernel
theorem dX7_init_126 : decode cX7_init 126 = .ok (.aload_n 0, 1) := by decide +kernel
theorem dX7_init_127 : decode cX7_init 127 = .ok (.getfield 7, 3) := by decide +kernel
theorem dX7_init_130 : decode cX7_init 130 = .ok (.iconst 5, 1) := by decide +kernel
theorem dX7_init_131 : decode cX7_init 131 = .ok (.iconst 4, 1) := by decide +kernel
theorem dX7_init_132 : decode cX7_init 132 = .ok (.iastore, 1) := by decide +kernel
theorem dX7_init_133 : decode cX7_init 133 = .ok (.return_, 1) := by decide +kernel
theorem dX7_in_0 : decode cX7_in 0 = .ok (.iload_n 0, 1) := by decide +kernel
theorem dX7_in_1 : decode cX7_in 1 = .ok (.iload_n 1, 1) := by decide +kernel
theorem dX7_in_2 : decode cX7_in 2 = .ok (.if_icmp .lt 12, 3) := by decide +kernel
theorem dX7_in_5 : decode cX7_in 5 = .ok (.iload_n 0, 1) := by decide +kernel
theorem dX7_in_6 : decode cX7_in 6 = .ok (.iload_n 2, 1) := by decide +kernel
theorem dX7_in_7 : decode cX7_in 7 = .ok (.if_icmp .gt 7, 3) := by decide +kernel
theorem dX7_in_10 : decode cX7_in 10 = .ok (.iconst 1, 1) := by decide +kernel
theorem dX7_in_11 : decode cX7_in 11 = .ok (.goto 4, 3) := by decide +kernel
theorem dX7_in_14 : decode cX7_in 14 = .ok (.iconst 0, 1) := by decide +kernel
theorem dX7_in_15 : decode cX7_in 15 = .ok (.ireturn, 1) := by decide +kernel
theorem dX7_record_0 : decode cX7_record 0 = .ok (.aload_n 0, 1) := by decide +kernel
theorem dX7_record_1 : decode cX7_record 1 = .ok (.getfield 47, 3) := by decide +kernel
theorem dX7_record_4 : decode cX7_record 4 = .ok (.ifCond .eq 4, 3) := by decide +kernel
theorem dX7_record_7 : decode cX7_record 7 = .ok (.return_, 1) := by decide +kernel
theorem dX7_record_8 : decode cX7_record 8 = .ok (.aload_n 0, 1) := by decide +kernel
theorem dX7_record_9 : decode cX7_record 9 = .ok (.getfield 51, 3) := by decide +kernel
theorem dX7_record_12 : decode cX7_record 12 = .ok (.bipush 6, 2) := by decide +kernel
theorem dX7_record_14 : decode cX7_record 14 = .ok (.if_icmp .ne 39, 3) := by decide +kernel
theorem dX7_record_17 : decode cX7_record 17 = .ok (.iconst 0, 1) := by decide +kernel
theorem dX7_record_18 : decode cX7_record 18 = .ok (.istore_n 1, 1) := by decide +kernel
theorem dX7_record_19 : decode cX7_record 19 = .ok (.iload_n 1, 1) := by decide +kernel
theorem dX7_record_20 : decode cX7_record 20 = .ok (.sipush 2800, 3) := by decide +kernel
theorem dX7_record_23 : decode cX7_record 23 = .ok (.if_icmp .ge 25, 3) := by decide +kernel
theorem dX7_record_26 : decode cX7_record 26 = .ok (.aload_n 0, 1) := by decide +kernel
theorem dX7_record_27 : decode cX7_record 27 = .ok (.getfield 16, 3) := by decide +kernel
theorem dX7_record_30 : decode cX7_record 30 = .ok (.iload_n 1, 1) := by decide +kernel
theorem dX7_record_31 : decode cX7_record 31 = .ok (.aload_n 0, 1) := by decide +kernel
theorem dX7_record_32 : decode cX7_record 32 = .ok (.getfield 16, 3) := by decide +kernel
theorem dX7_record_35 : decode cX7_record 35 = .ok (.iload_n 1, 1) := by decide +kernel
theorem dX7_record_36 : decode cX7_record 36 = .ok (.sipush 560, 3) := by decide +kernel
theorem dX7_record_39 : decode cX7_record 39 = .ok (.iadd, 1) := by decide +kernel
theorem dX7_record_40 : decode cX7_record 40 = .ok (.iaload, 1) := by decide +kernel
theorem dX7_record_41 : decode cX7_record 41 = .ok (.iastore, 1) := by decide +kernel
theorem dX7_record_42 : decode cX7_record 42 = .ok (.iinc 1 1, 3) := by decide +kernel
theorem dX7_record_45 : decode cX7_record 45 = .ok (.goto (-26), 3) := by decide +kernel
theorem dX7_record_48 : decode cX7_record 48 = .ok (.aload_n 0, 1) := by decide +kernel
theorem dX7_record_49 : decode cX7_record 49 = .ok (.iconst 5, 1) := by decide +kernel
theorem dX7_record_50 : decode cX7_record 50 = .ok (.putfield 51, 3) := by decide +kernel
theorem dX7_record_53 : decode cX7_record 53 = .ok (.iconst 0, 1) := by decide +kernel
theorem dX7_record_54 : decode cX7_record 54 = .ok (.istore_n 1, 1) := by decide +kernel
theorem dX7_record_55 : decode cX7_record 55 = .ok (.iload_n 1, 1) := by decide +kernel
theorem dX7_record_56 : decode cX7_record 56 = .ok (.sipush 560, 3) := by decide +kernel
theorem dX7_record_59 : decode cX7_record 59 = .ok (.if_icmp .ge 30, 3) := by decide +kernel
theorem dX7_record_62 : decode cX7_record 62 = .ok (.aload_n 0, 1) := by decide +kernel
theorem dX7_record_63 : decode cX7_record 63 = .ok (.getfield 16, 3) := by decide +kernel
theorem dX7_record_66 : decode cX7_record 66 = .ok (.aload_n 0, 1) := by decide +kernel
theorem dX7_record_67 : decode cX7_record 67 = .ok (.getfield 51, 3) := by decide +kernel
theorem dX7_record_70 : decode cX7_record 70 = .ok (.sipush 560, 3) := by decide +kernel
theorem dX7_record_73 : decode cX7_record 73 = .ok (.imul, 1) := by decide +kernel
theorem dX7_record_74 : decode cX7_record 74 = .ok (.iload_n 1, 1) := by decide +kernel
theorem dX7_record_75 : decode cX7_record 75 = .ok (.iadd, 1) := by decide +kernel
theorem dX7_record_76 : decode cX7_record 76 = .ok (.aload_n 0, 1) := by decide +kernel
theorem dX7_record_77 : decode cX7_record 77 = .ok (.getfield 7, 3) := by decide +kernel
theorem dX7_record_80 : decode cX7_record 80 = .ok (.iload_n 1, 1) := by decide +kernel
theorem dX7_record_81 : decode cX7_record 81 = .ok (.iaload, 1) := by decide +kernel
theorem dX7_record_82 : decode cX7_record 82 = .ok (.iastore, 1) := by decide +kernel
theorem dX7_record_83 : decode cX7_record 83 = .ok (.iinc 1 1, 3) := by decide +kernel
theorem dX7_record_86 : decode cX7_record 86 = .ok (.goto (-31), 3) := by decide +kernel
theorem dX7_record_89 : decode cX7_record 89 = .ok (.aload_n 0, 1) := by decide +kernel
theorem dX7_record_90 : decode cX7_record 90 = .ok (.dup, 1) := by decide +kernel
theorem dX7_record_91 : decode cX7_record 91 = .ok (.getfield 51, 3) := by decide +kernel
theorem dX7_record_94 : decode cX7_record 94 = .ok (.iconst 1, 1) := by decide +kernel
theorem dX7_record_95 : decode cX7_record 95 = .ok (.iadd, 1) := by decide +kernel
theorem dX7_record_96 : decode cX7_record 96 = .ok (.putfield 51, 3) := by decide +kernel
theorem dX7_record_99 : decode cX7_record 99 = .ok (.return_, 1) := by decide +kernel
theorem dX7_keep_0 : decode cX7_keep 0 = .ok (.iconst 0, 1) := by decide +kernel
theorem dX7_keep_1 : decode cX7_keep 1 = .ok (.istore_n 1, 1) := by decide +kernel
theorem dX7_keep_2 : decode cX7_keep 2 = .ok (.iload_n 1, 1) := by decide +kernel
theorem dX7_keep_3 : decode cX7_keep 3 = .ok (.sipush 560, 3) := by decide +kernel
theorem dX7_keep_6 : decode cX7_keep 6 = .ok (.if_icmp .ge 21, 3) := by decide +kernel
theorem dX7_keep_9 : decode cX7_keep 9 = .ok (.aload_n 0, 1) := by decide +kernel
theorem dX7_keep_10 : decode cX7_keep 10 = .ok (.getfield 13, 3) := by decide +kernel
theorem dX7_keep_13 : decode cX7_keep 13 = .ok (.iload_n 1, 1) := by decide +kernel
theorem dX7_keep_14 : decode cX7_keep 14 = .ok (.aload_n 0, 1) := by decide +kernel
theorem dX7_keep_15 : decode cX7_keep 15 = .ok (.getfield 7, 3) := by decide +kernel
theorem dX7_keep_18 : decode cX7_keep 18 = .ok (.iload_n 1, 1) := by decide +kernel
theorem dX7_keep_19 : decode cX7_keep 19 = .ok (.iaload, 1) := by decide +kernel
theorem dX7_keep_20 : decode cX7_keep 20 = .ok (.iastore, 1) := by decide +kernel
theorem dX7_keep_21 : decode cX7_keep 21 = .ok (.iinc 1 1, 3) := by decide +kernel
theorem dX7_keep_24 : decode cX7_keep 24 = .ok (.goto (-22), 3) := by decide +kernel
theorem dX7_keep_27 : decode cX7_keep 27 = .ok (.return_, 1) := by decide +kernel
theorem dX7_comeBack_0 : decode cX7_comeBack 0 = .ok (.iconst 0, 1) := by decide +kernel
theorem dX7_comeBack_1 : decode cX7_comeBack 1 = .ok (.istore_n 1, 1) := by decide +kernel
theorem dX7_comeBack_2 : decode cX7_comeBack 2 = .ok (.iload_n 1, 1) := by decide +kernel
theorem dX7_comeBack_3 : decode cX7_comeBack 3 = .ok (.sipush 560, 3) := by decide +kernel
theorem dX7_comeBack_6 : decode cX7_comeBack 6 = .ok (.if_icmp .ge 21, 3) := by decide +kernel
theorem dX7_comeBack_9 : decode cX7_comeBack 9 = .ok (.aload_n 0, 1) := by decide +kernel
theorem dX7_comeBack_10 : decode cX7_comeBack 10 = .ok (.getfield 7, 3) := by decide +kernel
theorem dX7_comeBack_13 : decode cX7_comeBack 13 = .ok (.iload_n 1, 1) := by decide +kernel
theorem dX7_comeBack_14 : decode cX7_comeBack 14 = .ok (.aload_n 0, 1) := by decide +kernel
theorem dX7_comeBack_15 : decode cX7_comeBack 15 = .ok (.getfield 13, 3) := by decide +kernel
theorem dX7_comeBack_18 : decode cX7_comeBack 18 = .ok (.iload_n 1, 1) := by decide +kernel
theorem dX7_comeBack_19 : decode cX7_comeBack 19 = .ok (.iaload, 1) := by decide +kernel
theorem dX7_comeBack_20 : decode cX7_comeBack 20 = .ok (.iastore, 1) := by decide +kernel
theorem dX7_comeBack_21 : decode cX7_comeBack 21 = .ok (.iinc 1 1, 3) := by decide +kernel
theorem dX7_comeBack_24 : decode cX7_comeBack 24 = .ok (.goto (-22), 3) := by decide +kernel
theorem dX7_comeBack_27 : decode cX7_comeBack 27 = .ok (.return_, 1) := by decide +kernel
theorem dX7_boxes_0 : decode cX7_boxes 0 = .ok (.aload_n 0, 1) := by decide +kernel
theorem dX7_boxes_1 : decode cX7_boxes 1 = .ok (.getfield 7, 3) := by decide +kernel
theorem dX7_boxes_4 : decode cX7_boxes 4 = .ok (.iconst 4, 1) := by decide +kernel
theorem dX7_boxes_5 : decode cX7_boxes 5 = .ok (.iaload, 1) := by decide +kernel
theorem dX7_boxes_6 : decode cX7_boxes 6 = .ok (.aload_n 0, 1) := by decide +kernel
theorem dX7_boxes_7 : decode cX7_boxes 7 = .ok (.getfield 7, 3) := by decide +kernel
theorem dX7_boxes_10 : decode cX7_boxes 10 = .ok (.iconst 5, 1) := by decide +kernel
theorem dX7_boxes_11 : decode cX7_boxes 11 = .ok (.iaload, 1) := by decide +kernel
theorem dX7_boxes_12 : decode cX7_boxes 12 = .ok (.imul, 1) := by decide +kernel
theorem dX7_boxes_13 : decode cX7_boxes 13 = .ok (.ireturn, 1) := by decide +kernel
set_option maxRecDepth 20000 in
theorem ggX7_isBox_X7_boxes : GoodIn wsX7_isBox wsX7_boxes := goodIn_r _ [5, 6, 10, 11, 12, 13, 14, 15, 16, 17, 18, 19, 20, 21, 22, 23, 24, 25, 26, 27] (by decide +kernel) (by decide +kernel)
set_option maxRecDepth 20000 in
theorem gX7_isBox_X7_boxes : GoodIn wsX7_isBox (wsV RX7 55 RX7 yX7_boxes wsX7_boxes) := goodIn_app (goodIn_of _ (by decide +kernel)) ggX7_isBox_X7_boxes
set_option maxRecDepth 20000 in
theorem ggX7_isBox_X7_in : GoodIn wsX7_isBox wsX7_in := goodIn_r _ [9] (by decide +kernel) (by decide +kernel)
set_option maxRecDepth 20000 in
theorem gX7_isBox_X7_in : GoodIn wsX7_isBox (va_wsS RX7 59 yX7_in wsX7_in) := goodIn_app (goodIn_of _ (by decide +kernel)) ggX7_isBox_X7_in
theorem dX7_isBox_0 : decode cX7_isBox 0 = .ok (.iload_n 1, 1) := by decide +kernel
theorem dX7_isBox_1 : decode cX7_isBox 1 = .ok (.iconst 0, 1) := by decide +kernel
theorem dX7_isBox_2 : decode cX7_isBox 2 = .ok (.aload_n 0, 1) := by decide +kernel
theorem dX7_isBox_3 : decode cX7_isBox 3 = .ok (.invokevirtual 55, 3) := by decide +kernel
theorem dX7_isBox_6 : decode cX7_isBox 6 = .ok (.iconst 1, 1) := by decide +kernel
theorem dX7_isBox_7 : decode cX7_isBox 7 = .ok (.isub, 1) := by decide +kernel
theorem dX7_isBox_8 : decode cX7_isBox 8 = .ok (.invokestatic 59, 3) := by decide +kernel
theorem dX7_isBox_11 : decode cX7_isBox 11 = .ok (.ireturn, 1) := by decide +kernel
set_option maxRecDepth 20000 in
theorem ggX7_beside_X7_in : GoodIn wsX7_beside wsX7_in := goodIn_r _ [5] (by decide +kernel) (by decide +kernel)
set_option maxRecDepth 20000 in
theorem gX7_beside_X7_in : GoodIn wsX7_beside (va_wsS RX7 59 yX7_in wsX7_in) := goodIn_app (goodIn_of _ (by decide +kernel)) ggX7_beside_X7_in
theorem dX7_beside_0 : decode cX7_beside 0 = .ok (.iload_n 1, 1) := by decide +kernel
theorem dX7_beside_1 : decode cX7_beside 1 = .ok (.aload_n 0, 1) := by decide +kernel
theorem dX7_beside_2 : decode cX7_beside 2 = .ok (.getfield 7, 3) := by decide +kernel
theorem dX7_beside_5 : decode cX7_beside 5 = .ok (.iconst 4, 1) := by decide +kernel
theorem dX7_beside_6 : decode cX7_beside 6 = .ok (.iaload, 1) := by decide +kernel
theorem dX7_beside_7 : decode cX7_beside 7 = .ok (.irem, 1) := by decide +kernel
theorem dX7_beside_8 : decode cX7_beside 8 = .ok (.istore_n 3, 1) := by decide +kernel
theorem dX7_beside_9 : decode cX7_beside 9 = .ok (.iload_n 1, 1) := by decide +kernel
theorem dX7_beside_10 : decode cX7_beside 10 = .ok (.aload_n 0, 1) := by decide +kernel
theorem dX7_beside_11 : decode cX7_beside 11 = .ok (.getfield 7, 3) := by decide +kernel
theorem dX7_beside_14 : decode cX7_beside 14 = .ok (.iconst 4, 1) := by decide +kernel
theorem dX7_beside_15 : decode cX7_beside 15 = .ok (.iaload, 1) := by decide +kernel
theorem dX7_beside_16 : decode cX7_beside 16 = .ok (.idiv, 1) := by decide +kernel
theorem dX7_beside_17 : decode cX7_beside 17 = .ok (.istore 4, 2) := by decide +kernel
theorem dX7_beside_19 : decode cX7_beside 19 = .ok (.iload_n 2, 1) := by decide +kernel
theorem dX7_beside_20 : decode cX7_beside 20 = .ok (.iconst 2, 1) := by decide +kernel
theorem dX7_beside_21 : decode cX7_beside 21 = .ok (.if_icmp .ge 53, 3) := by decide +kernel
theorem dX7_beside_24 : decode cX7_beside 24 = .ok (.iload_n 2, 1) := by decide +kernel
theorem dX7_beside_25 : decode cX7_beside 25 = .ok (.ifCond .ne 9, 3) := by decide +kernel
theorem dX7_beside_28 : decode cX7_beside 28 = .ok (.iload_n 3, 1) := by decide +kernel
theorem dX7_beside_29 : decode cX7_beside 29 = .ok (.iconst 1, 1) := by decide +kernel
theorem dX7_beside_30 : decode cX7_beside 30 = .ok (.iadd, 1) := by decide +kernel
theorem dX7_beside_31 : decode cX7_beside 31 = .ok (.goto 6, 3) := by decide +kernel
theorem dX7_beside_34 : decode cX7_beside 34 = .ok (.iload_n 3, 1) := by decide +kernel
theorem dX7_beside_35 : decode cX7_beside 35 = .ok (.iconst 1, 1) := by decide +kernel
theorem dX7_beside_36 : decode cX7_beside 36 = .ok (.isub, 1) := by decide +kernel
theorem dX7_beside_37 : decode cX7_beside 37 = .ok (.istore 5, 2) := by decide +kernel
theorem dX7_beside_39 : decode cX7_beside 39 = .ok (.iload 5, 2) := by decide +kernel
theorem dX7_beside_41 : decode cX7_beside 41 = .ok (.iconst 0, 1) := by decide +kernel
theorem dX7_beside_42 : decode cX7_beside 42 = .ok (.aload_n 0, 1) := by decide +kernel
theorem dX7_beside_43 : decode cX7_beside 43 = .ok (.getfield 7, 3) := by decide +kernel
theorem dX7_beside_46 : decode cX7_beside 46 = .ok (.iconst 4, 1) := by decide +kernel
theorem dX7_beside_47 : decode cX7_beside 47 = .ok (.iaload, 1) := by decide +kernel
theorem dX7_beside_48 : decode cX7_beside 48 = .ok (.iconst 1, 1) := by decide +kernel
theorem dX7_beside_49 : decode cX7_beside 49 = .ok (.isub, 1) := by decide +kernel
theorem dX7_beside_50 : decode cX7_beside 50 = .ok (.invokestatic 59, 3) := by decide +kernel
theorem dX7_beside_53 : decode cX7_beside 53 = .ok (.ifCond .eq 18, 3) := by decide +kernel
theorem dX7_beside_56 : decode cX7_beside 56 = .ok (.iload 4, 2) := by decide +kernel
theorem dX7_beside_58 : decode cX7_beside 58 = .ok (.aload_n 0, 1) := by decide +kernel
theorem dX7_beside_59 : decode cX7_beside 59 = .ok (.getfield 7, 3) := by decide +kernel
theorem dX7_beside_62 : decode cX7_beside 62 = .ok (.iconst 4, 1) := by decide +kernel
theorem dX7_beside_63 : decode cX7_beside 63 = .ok (.iaload, 1) := by decide +kernel
theorem dX7_beside_64 : decode cX7_beside 64 = .ok (.imul, 1) := by decide +kernel
theorem dX7_beside_65 : decode cX7_beside 65 = .ok (.iload 5, 2) := by decide +kernel
theorem dX7_beside_67 : decode cX7_beside 67 = .ok (.iadd, 1) := by decide +kernel
theorem dX7_beside_68 : decode cX7_beside 68 = .ok (.goto 5, 3) := by decide +kernel
theorem dX7_beside_71 : decode cX7_beside 71 = .ok (.bipush (-6), 2) := by decide +kernel
theorem dX7_beside_73 : decode cX7_beside 73 = .ok (.ireturn, 1) := by decide +kernel
theorem dX7_beside_74 : decode cX7_beside 74 = .ok (.iload_n 2, 1) := by decide +kernel
theorem dX7_beside_75 : decode cX7_beside 75 = .ok (.iconst 2, 1) := by decide +kernel
theorem dX7_beside_76 : decode cX7_beside 76 = .ok (.if_icmp .ne 10, 3) := by decide +kernel
theorem dX7_beside_79 : decode cX7_beside 79 = .ok (.iload 4, 2) := by decide +kernel
theorem dX7_beside_81 : decode cX7_beside 81 = .ok (.iconst 1, 1) := by decide +kernel
theorem dX7_beside_82 : decode cX7_beside 82 = .ok (.iadd, 1) := by decide +kernel
theorem dX7_beside_83 : decode cX7_beside 83 = .ok (.goto 7, 3) := by decide +kernel
theorem dX7_beside_86 : decode cX7_beside 86 = .ok (.iload 4, 2) := by decide +kernel
theorem dX7_beside_88 : decode cX7_beside 88 = .ok (.iconst 1, 1) := by decide +kernel
theorem dX7_beside_89 : decode cX7_beside 89 = .ok (.isub, 1) := by decide +kernel
theorem dX7_beside_90 : decode cX7_beside 90 = .ok (.istore 5, 2) := by decide +kernel
theorem dX7_beside_92 : decode cX7_beside 92 = .ok (.iload 5, 2) := by decide +kernel
theorem dX7_beside_94 : decode cX7_beside 94 = .ok (.iconst 0, 1) := by decide +kernel
theorem dX7_beside_95 : decode cX7_beside 95 = .ok (.aload_n 0, 1) := by decide +kernel
theorem dX7_beside_96 : decode cX7_beside 96 = .ok (.getfield 7, 3) := by decide +kernel
theorem dX7_beside_99 : decode cX7_beside 99 = .ok (.iconst 5, 1) := by decide +kernel
theorem dX7_beside_100 : decode cX7_beside 100 = .ok (.iaload, 1) := by decide +kernel
theorem dX7_beside_101 : decode cX7_beside 101 = .ok (.iconst 1, 1) := by decide +kernel
theorem dX7_beside_102 : decode cX7_beside 102 = .ok (.isub, 1) := by decide +kernel
theorem dX7_beside_103 : decode cX7_beside 103 = .ok (.invokestatic 59, 3) := by decide +kernel
theorem dX7_beside_106 : decode cX7_beside 106 = .ok (.ifCond .eq 17, 3) := by decide +kernel
theorem dX7_beside_109 : decode cX7_beside 109 = .ok (.iload 5, 2) := by decide +kernel
theorem dX7_beside_111 : decode cX7_beside 111 = .ok (.aload_n 0, 1) := by decide +kernel
theorem dX7_beside_112 : decode cX7_beside 112 = .ok (.getfield 7, 3) := by decide +kernel
theorem dX7_beside_115 : decode cX7_beside 115 = .ok (.iconst 4, 1) := by decide +kernel
theorem dX7_beside_116 : decode cX7_beside 116 = .ok (.iaload, 1) := by decide +kernel
theorem dX7_beside_117 : decode cX7_beside 117 = .ok (.imul, 1) := by decide +kernel
theorem dX7_beside_118 : decode cX7_beside 118 = .ok (.iload_n 3, 1) := by decide +kernel
theorem dX7_beside_119 : decode cX7_beside 119 = .ok (.iadd, 1) := by decide +kernel
theorem dX7_beside_120 : decode cX7_beside 120 = .ok (.goto 5, 3) := by decide +kernel
theorem dX7_beside_123 : decode cX7_beside 123 = .ok (.bipush (-6), 2) := by decide +kernel
theorem dX7_beside_125 : decode cX7_beside 125 = .ok (.ireturn, 1) := by decide +kernel
set_option maxRecDepth 20000 in
theorem ggX7_linkOf_X7_beside : GoodIn wsX7_linkOf wsX7_beside := goodIn_r _ [5, 6, 7, 8, 4, 9, 10, 11, 12, 13, 14, 15, 16, 17, 18, 19, 20, 21, 22, 23, 24, 25, 26, 27] (by decide +kernel) (by decide +kernel)
set_option maxRecDepth 20000 in
theorem gX7_linkOf_X7_beside : GoodIn wsX7_linkOf (wsV RX7 63 RX7 yX7_beside wsX7_beside) := goodIn_app (goodIn_of _ (by decide +kernel)) ggX7_linkOf_X7_beside
theorem dX7_linkOf_0 : decode cX7_linkOf 0 = .ok (.iload_n 2, 1) := by decide +kernel
theorem dX7_linkOf_1 : decode cX7_linkOf 1 = .ok (.ifCond .eq 8, 3) := by decide +kernel
theorem dX7_linkOf_4 : decode cX7_linkOf 4 = .ok (.iload_n 2, 1) := by decide +kernel
theorem dX7_linkOf_5 : decode cX7_linkOf 5 = .ok (.iconst 2, 1) := by decide +kernel
theorem dX7_linkOf_6 : decode cX7_linkOf 6 = .ok (.if_icmp .ne 7, 3) := by decide +kernel
theorem dX7_linkOf_9 : decode cX7_linkOf 9 = .ok (.iload_n 1, 1) := by decide +kernel
theorem dX7_linkOf_10 : decode cX7_linkOf 10 = .ok (.goto 9, 3) := by decide +kernel
theorem dX7_linkOf_13 : decode cX7_linkOf 13 = .ok (.aload_n 0, 1) := by decide +kernel
theorem dX7_linkOf_14 : decode cX7_linkOf 14 = .ok (.iload_n 1, 1) := by decide +kernel
theorem dX7_linkOf_15 : decode cX7_linkOf 15 = .ok (.iload_n 2, 1) := by decide +kernel
theorem dX7_linkOf_16 : decode cX7_linkOf 16 = .ok (.invokevirtual 63, 3) := by decide +kernel
theorem dX7_linkOf_19 : decode cX7_linkOf 19 = .ok (.istore_n 3, 1) := by decide +kernel
theorem dX7_linkOf_20 : decode cX7_linkOf 20 = .ok (.bipush 10, 2) := by decide +kernel
theorem dX7_linkOf_22 : decode cX7_linkOf 22 = .ok (.iconst 2, 1) := by decide +kernel
theorem dX7_linkOf_23 : decode cX7_linkOf 23 = .ok (.iload_n 3, 1) := by decide +kernel
theorem dX7_linkOf_24 : decode cX7_linkOf 24 = .ok (.imul, 1) := by decide +kernel
theorem dX7_linkOf_25 : decode cX7_linkOf 25 = .ok (.iadd, 1) := by decide +kernel
theorem dX7_linkOf_26 : decode cX7_linkOf 26 = .ok (.iload_n 2, 1) := by decide +kernel
theorem dX7_linkOf_27 : decode cX7_linkOf 27 = .ok (.iconst 2, 1) := by decide +kernel
theorem dX7_linkOf_28 : decode cX7_linkOf 28 = .ok (.if_icmp .ge 7, 3) := by decide +kernel
theorem dX7_linkOf_31 : decode cX7_linkOf 31 = .ok (.iconst 0, 1) := by decide +kernel
theorem dX7_linkOf_32 : decode cX7_linkOf 32 = .ok (.goto 4, 3) := by decide +kernel
theorem dX7_linkOf_35 : decode cX7_linkOf 35 = .ok (.iconst 1, 1) := by decide +kernel
theorem dX7_linkOf_36 : decode cX7_linkOf 36 = .ok (.iadd, 1) := by decide +kernel
theorem dX7_linkOf_37 : decode cX7_linkOf 37 = .ok (.ireturn, 1) := by decide +kernel
set_option maxRecDepth 20000 in
theorem ggX7_isWhole_X7_beside : GoodIn wsX7_isWhole wsX7_beside := goodIn_r _ [6, 1, 7, 8, 5, 9, 14, 15, 16, 17, 18, 19, 20, 21, 22, 23, 24, 25, 26, 27, 28, 29, 30, 31] (by decide +kernel) (by decide +kernel)
set_option maxRecDepth 20000 in
theorem gX7_isWhole_X7_beside : GoodIn wsX7_isWhole (wsV RX7 63 RX7 yX7_beside wsX7_beside) := goodIn_app (goodIn_of _ (by decide +kernel)) ggX7_isWhole_X7_beside
set_option maxRecDepth 20000 in
theorem ggX7_isWhole_X7_linkOf : GoodIn wsX7_isWhole wsX7_linkOf := goodIn_r _ [13, 2, 3, 4, 5, 6, 1, 7, 8, 9, 14, 15, 16, 17, 18, 19, 20, 21, 22, 23, 24, 25, 26, 27, 28, 29, 30, 31] (by decide +kernel) (by decide +kernel)
set_option maxRecDepth 20000 in
theorem gX7_isWhole_X7_linkOf : GoodIn wsX7_isWhole (wsV RX7 67 RX7 yX7_linkOf wsX7_linkOf) := goodIn_app (goodIn_of _ (by decide +kernel)) ggX7_isWhole_X7_linkOf
theorem dX7_isWhole_0 : decode cX7_isWhole 0 = .ok (.aload_n 0, 1) := by decide +kernel
theorem dX7_isWhole_1 : decode cX7_isWhole 1 = .ok (.iload_n 1, 1) := by decide +kernel
theorem dX7_isWhole_2 : decode cX7_isWhole 2 = .ok (.iload_n 2, 1) := by decide +kernel
theorem dX7_isWhole_3 : decode cX7_isWhole 3 = .ok (.invokevirtual 63, 3) := by decide +kernel
theorem dX7_isWhole_6 : decode cX7_isWhole 6 = .ok (.ifCond .lt 21, 3) := by decide +kernel
theorem dX7_isWhole_9 : decode cX7_isWhole 9 = .ok (.aload_n 0, 1) := by decide +kernel
theorem dX7_isWhole_10 : decode cX7_isWhole 10 = .ok (.getfield 7, 3) := by decide +kernel
theorem dX7_isWhole_13 : decode cX7_isWhole 13 = .ok (.aload_n 0, 1) := by decide +kernel
theorem dX7_isWhole_14 : decode cX7_isWhole 14 = .ok (.iload_n 1, 1) := by decide +kernel
theorem dX7_isWhole_15 : decode cX7_isWhole 15 = .ok (.iload_n 2, 1) := by decide +kernel
theorem dX7_isWhole_16 : decode cX7_isWhole 16 = .ok (.invokevirtual 67, 3) := by decide +kernel
theorem dX7_isWhole_19 : decode cX7_isWhole 19 = .ok (.iaload, 1) := by decide +kernel
theorem dX7_isWhole_20 : decode cX7_isWhole 20 = .ok (.ifCond .ne 7, 3) := by decide +kernel
theorem dX7_isWhole_23 : decode cX7_isWhole 23 = .ok (.iconst 1, 1) := by decide +kernel
theorem dX7_isWhole_24 : decode cX7_isWhole 24 = .ok (.goto 4, 3) := by decide +kernel
theorem dX7_isWhole_27 : decode cX7_isWhole 27 = .ok (.iconst 0, 1) := by decide +kernel
theorem dX7_isWhole_28 : decode cX7_isWhole 28 = .ok (.ireturn, 1) := by decide +kernel
set_option maxRecDepth 20000 in
theorem ggX7_set_X7_in : GoodIn wsX7_set wsX7_in := goodIn_r _ [5] (by decide +kernel) (by decide +kernel)
set_option maxRecDepth 20000 in
theorem gX7_set_X7_in : GoodIn wsX7_set (va_wsS RX7 59 yX7_in wsX7_in) := goodIn_app (goodIn_of _ (by decide +kernel)) ggX7_set_X7_in
set_option maxRecDepth 20000 in
theorem ggX7_set_X7_record : GoodIn wsX7_set wsX7_record := goodIn_r _ [9, 10, 11, 12, 1, 18, 19, 20, 21, 22, 23, 24, 25, 26, 27, 28, 29, 30, 31, 32, 33, 34, 35] (by decide +kernel) (by decide +kernel)
set_option maxRecDepth 20000 in
theorem gX7_set_X7_record : GoodIn wsX7_set (wsV RX7 70 RX7 yX7_record wsX7_record) := goodIn_app (goodIn_of _ (by decide +kernel)) ggX7_set_X7_record
set_option maxRecDepth 20000 in
theorem ggX7_set_X7_forget : GoodIn wsX7_set wsX7_forget := goodIn_r _ [16, 17, 18, 19, 20, 21, 22, 23, 24, 25, 26, 27, 28, 29, 30, 31, 32, 33, 34, 35] (by decide +kernel) (by decide +kernel)
set_option maxRecDepth 20000 in
theorem gX7_set_X7_forget : GoodIn wsX7_set (wsV RX7 73 RX7 yX7_forget wsX7_forget) := goodIn_app (goodIn_of _ (by decide +kernel)) ggX7_set_X7_forget
theorem dX7_set_0 : decode cX7_set 0 = .ok (.iload_n 1, 1) := by decide +kernel
theorem dX7_set_1 : decode cX7_set 1 = .ok (.iconst 2, 1) := by decide +kernel
theorem dX7_set_2 : decode cX7_set 2 = .ok (.if_icmp .ne 7, 3) := by decide +kernel
theorem dX7_set_5 : decode cX7_set 5 = .ok (.iconst 1, 1) := by decide +kernel
theorem dX7_set_6 : decode cX7_set 6 = .ok (.goto 4, 3) := by decide +kernel
theorem dX7_set_9 : decode cX7_set 9 = .ok (.iconst 0, 1) := by decide +kernel
theorem dX7_set_10 : decode cX7_set 10 = .ok (.istore_n 3, 1) := by decide +kernel
theorem dX7_set_11 : decode cX7_set 11 = .ok (.iload_n 1, 1) := by decide +kernel
theorem dX7_set_12 : decode cX7_set 12 = .ok (.ifCond .ne 7, 3) := by decide +kernel
theorem dX7_set_15 : decode cX7_set 15 = .ok (.iconst 1, 1) := by decide +kernel
theorem dX7_set_16 : decode cX7_set 16 = .ok (.goto 4, 3) := by decide +kernel
theorem dX7_set_19 : decode cX7_set 19 = .ok (.iconst 4, 1) := by decide +kernel
theorem dX7_set_20 : decode cX7_set 20 = .ok (.istore 4, 2) := by decide +kernel
theorem dX7_set_22 : decode cX7_set 22 = .ok (.iload_n 1, 1) := by decide +kernel
theorem dX7_set_23 : decode cX7_set 23 = .ok (.iconst 0, 1) := by decide +kernel
theorem dX7_set_24 : decode cX7_set 24 = .ok (.iconst 2, 1) := by decide +kernel
theorem dX7_set_25 : decode cX7_set 25 = .ok (.invokestatic 59, 3) := by decide +kernel
theorem dX7_set_28 : decode cX7_set 28 = .ok (.ifCond .eq 13, 3) := by decide +kernel
theorem dX7_set_31 : decode cX7_set 31 = .ok (.iload_n 2, 1) := by decide +kernel
theorem dX7_set_32 : decode cX7_set 32 = .ok (.iload_n 3, 1) := by decide +kernel
theorem dX7_set_33 : decode cX7_set 33 = .ok (.iload 4, 2) := by decide +kernel
theorem dX7_set_35 : decode cX7_set 35 = .ok (.invokestatic 59, 3) := by decide +kernel
theorem dX7_set_38 : decode cX7_set 38 = .ok (.ifCond .ne 6, 3) := by decide +kernel
theorem dX7_set_41 : decode cX7_set 41 = .ok (.bipush (-2), 2) := by decide +kernel
theorem dX7_set_43 : decode cX7_set 43 = .ok (.ireturn, 1) := by decide +kernel
theorem dX7_set_44 : decode cX7_set 44 = .ok (.aload_n 0, 1) := by decide +kernel
theorem dX7_set_45 : decode cX7_set 45 = .ok (.invokevirtual 70, 3) := by decide +kernel
theorem dX7_set_48 : decode cX7_set 48 = .ok (.aload_n 0, 1) := by decide +kernel
theorem dX7_set_49 : decode cX7_set 49 = .ok (.getfield 7, 3) := by decide +kernel
theorem dX7_set_52 : decode cX7_set 52 = .ok (.iload_n 1, 1) := by decide +kernel
theorem dX7_set_53 : decode cX7_set 53 = .ok (.iaload, 1) := by decide +kernel
theorem dX7_set_54 : decode cX7_set 54 = .ok (.istore 5, 2) := by decide +kernel
theorem dX7_set_56 : decode cX7_set 56 = .ok (.aload_n 0, 1) := by decide +kernel
theorem dX7_set_57 : decode cX7_set 57 = .ok (.getfield 7, 3) := by decide +kernel
theorem dX7_set_60 : decode cX7_set 60 = .ok (.iload_n 1, 1) := by decide +kernel
theorem dX7_set_61 : decode cX7_set 61 = .ok (.iload_n 2, 1) := by decide +kernel
theorem dX7_set_62 : decode cX7_set 62 = .ok (.iastore, 1) := by decide +kernel
theorem dX7_set_63 : decode cX7_set 63 = .ok (.aload_n 0, 1) := by decide +kernel
theorem dX7_set_64 : decode cX7_set 64 = .ok (.invokevirtual 73, 3) := by decide +kernel
theorem dX7_set_67 : decode cX7_set 67 = .ok (.iload 5, 2) := by decide +kernel
theorem dX7_set_69 : decode cX7_set 69 = .ok (.ireturn, 1) := by decide +kernel
set_option maxRecDepth 20000 in
theorem ggX7_mesh_X7_in : GoodIn wsX7_mesh wsX7_in := goodIn_r _ [5] (by decide +kernel) (by decide +kernel)
set_option maxRecDepth 20000 in
theorem gX7_mesh_X7_in : GoodIn wsX7_mesh (va_wsS RX7 59 yX7_in wsX7_in) := goodIn_app (goodIn_of _ (by decide +kernel)) ggX7_mesh_X7_in
set_option maxRecDepth 20000 in
theorem ggX7_mesh_X7_record : GoodIn wsX7_mesh wsX7_record := goodIn_r _ [9, 10, 11, 12, 1, 22, 23, 24, 25, 26, 27, 28, 29, 30, 31, 32, 33, 34, 35, 36, 37, 38, 39] (by decide +kernel) (by decide +kernel)
set_option maxRecDepth 20000 in
theorem gX7_mesh_X7_record : GoodIn wsX7_mesh (wsV RX7 70 RX7 yX7_record wsX7_record) := goodIn_app (goodIn_of _ (by decide +kernel)) ggX7_mesh_X7_record
set_option maxRecDepth 20000 in
theorem ggX7_mesh_X7_forget : GoodIn wsX7_mesh wsX7_forget := goodIn_r _ [16, 17, 22, 23, 24, 25, 26, 27, 28, 29, 30, 31, 32, 33, 34, 35, 36, 37, 38, 39] (by decide +kernel) (by decide +kernel)
set_option maxRecDepth 20000 in
theorem gX7_mesh_X7_forget : GoodIn wsX7_mesh (wsV RX7 73 RX7 yX7_forget wsX7_forget) := goodIn_app (goodIn_of _ (by decide +kernel)) ggX7_mesh_X7_forget
set_option maxRecDepth 20000 in
theorem ggX7_mesh_X7_boxes : GoodIn wsX7_mesh wsX7_boxes := goodIn_r _ [21, 1, 22, 23, 24, 25, 26, 27, 28, 29, 30, 31, 32, 33, 34, 35, 36, 37, 38, 39] (by decide +kernel) (by decide +kernel)
set_option maxRecDepth 20000 in
theorem gX7_mesh_X7_boxes : GoodIn wsX7_mesh (wsV RX7 55 RX7 yX7_boxes wsX7_boxes) := goodIn_app (goodIn_of _ (by decide +kernel)) ggX7_mesh_X7_boxes
theorem dX7_mesh_0 : decode cX7_mesh 0 = .ok (.iload_n 1, 1) := by decide +kernel
theorem dX7_mesh_1 : decode cX7_mesh 1 = .ok (.iconst 2, 1) := by decide +kernel
theorem dX7_mesh_2 : decode cX7_mesh 2 = .ok (.iconst 5, 1) := by decide +kernel
theorem dX7_mesh_3 : decode cX7_mesh 3 = .ok (.invokestatic 59, 3) := by decide +kernel
theorem dX7_mesh_6 : decode cX7_mesh 6 = .ok (.ifCond .eq 12, 3) := by decide +kernel
theorem dX7_mesh_9 : decode cX7_mesh 9 = .ok (.iload_n 2, 1) := by decide +kernel
theorem dX7_mesh_10 : decode cX7_mesh 10 = .ok (.iconst 2, 1) := by decide +kernel
theorem dX7_mesh_11 : decode cX7_mesh 11 = .ok (.iconst 5, 1) := by decide +kernel
theorem dX7_mesh_12 : decode cX7_mesh 12 = .ok (.invokestatic 59, 3) := by decide +kernel
theorem dX7_mesh_15 : decode cX7_mesh 15 = .ok (.ifCond .ne 6, 3) := by decide +kernel
theorem dX7_mesh_18 : decode cX7_mesh 18 = .ok (.bipush (-2), 2) := by decide +kernel
theorem dX7_mesh_20 : decode cX7_mesh 20 = .ok (.ireturn, 1) := by decide +kernel
theorem dX7_mesh_21 : decode cX7_mesh 21 = .ok (.aload_n 0, 1) := by decide +kernel
theorem dX7_mesh_22 : decode cX7_mesh 22 = .ok (.getfield 7, 3) := by decide +kernel
theorem dX7_mesh_25 : decode cX7_mesh 25 = .ok (.bipush 6, 2) := by decide +kernel
theorem dX7_mesh_27 : decode cX7_mesh 27 = .ok (.iaload, 1) := by decide +kernel
theorem dX7_mesh_28 : decode cX7_mesh 28 = .ok (.ifCond .le 6, 3) := by decide +kernel
theorem dX7_mesh_31 : decode cX7_mesh 31 = .ok (.bipush (-5), 2) := by decide +kernel
theorem dX7_mesh_33 : decode cX7_mesh 33 = .ok (.ireturn, 1) := by decide +kernel
theorem dX7_mesh_34 : decode cX7_mesh 34 = .ok (.aload_n 0, 1) := by decide +kernel
theorem dX7_mesh_35 : decode cX7_mesh 35 = .ok (.invokevirtual 70, 3) := by decide +kernel
theorem dX7_mesh_38 : decode cX7_mesh 38 = .ok (.aload_n 0, 1) := by decide +kernel
theorem dX7_mesh_39 : decode cX7_mesh 39 = .ok (.getfield 7, 3) := by decide +kernel
theorem dX7_mesh_42 : decode cX7_mesh 42 = .ok (.iconst 4, 1) := by decide +kernel
theorem dX7_mesh_43 : decode cX7_mesh 43 = .ok (.iload_n 1, 1) := by decide +kernel
theorem dX7_mesh_44 : decode cX7_mesh 44 = .ok (.iastore, 1) := by decide +kernel
theorem dX7_mesh_45 : decode cX7_mesh 45 = .ok (.aload_n 0, 1) := by decide +kernel
theorem dX7_mesh_46 : decode cX7_mesh 46 = .ok (.getfield 7, 3) := by decide +kernel
theorem dX7_mesh_49 : decode cX7_mesh 49 = .ok (.iconst 5, 1) := by decide +kernel
theorem dX7_mesh_50 : decode cX7_mesh 50 = .ok (.iload_n 2, 1) := by decide +kernel
theorem dX7_mesh_51 : decode cX7_mesh 51 = .ok (.iastore, 1) := by decide +kernel
theorem dX7_mesh_52 : decode cX7_mesh 52 = .ok (.bipush 10, 2) := by decide +kernel
theorem dX7_mesh_54 : decode cX7_mesh 54 = .ok (.istore_n 3, 1) := by decide +kernel
theorem dX7_mesh_55 : decode cX7_mesh 55 = .ok (.iload_n 3, 1) := by decide +kernel
theorem dX7_mesh_56 : decode cX7_mesh 56 = .ok (.bipush 60, 2) := by decide +kernel
theorem dX7_mesh_58 : decode cX7_mesh 58 = .ok (.if_icmp .ge 16, 3) := by decide +kernel
theorem dX7_mesh_61 : decode cX7_mesh 61 = .ok (.aload_n 0, 1) := by decide +kernel
theorem dX7_mesh_62 : decode cX7_mesh 62 = .ok (.getfield 7, 3) := by decide +kernel
theorem dX7_mesh_65 : decode cX7_mesh 65 = .ok (.iload_n 3, 1) := by decide +kernel
theorem dX7_mesh_66 : decode cX7_mesh 66 = .ok (.iconst 0, 1) := by decide +kernel
theorem dX7_mesh_67 : decode cX7_mesh 67 = .ok (.iastore, 1) := by decide +kernel
theorem dX7_mesh_68 : decode cX7_mesh 68 = .ok (.iinc 3 1, 3) := by decide +kernel
theorem dX7_mesh_71 : decode cX7_mesh 71 = .ok (.goto (-16), 3) := by decide +kernel
theorem dX7_mesh_74 : decode cX7_mesh 74 = .ok (.aload_n 0, 1) := by decide +kernel
theorem dX7_mesh_75 : decode cX7_mesh 75 = .ok (.invokevirtual 73, 3) := by decide +kernel
theorem dX7_mesh_78 : decode cX7_mesh 78 = .ok (.aload_n 0, 1) := by decide +kernel
theorem dX7_mesh_79 : decode cX7_mesh 79 = .ok (.invokevirtual 55, 3) := by decide +kernel
theorem dX7_mesh_82 : decode cX7_mesh 82 = .ok (.ireturn, 1) := by decide +kernel
set_option maxRecDepth 20000 in
theorem ggX7_link_X7_isBox : GoodIn wsX7_link wsX7_isBox := goodIn_r _ [6, 7, 8, 9, 5, 10, 1, 11, 12, 13, 34, 35, 36, 37, 38, 39, 40, 41, 42, 43, 44, 45, 46, 47, 48, 49, 50, 51] (by decide +kernel) (by decide +kernel)
set_option maxRecDepth 20000 in
theorem gX7_link_X7_isBox : GoodIn wsX7_link (wsV RX7 76 RX7 yX7_isBox wsX7_isBox) := goodIn_app (goodIn_of _ (by decide +kernel)) ggX7_link_X7_isBox
set_option maxRecDepth 20000 in
theorem ggX7_link_X7_in : GoodIn wsX7_link wsX7_in := goodIn_r _ [13] (by decide +kernel) (by decide +kernel)
set_option maxRecDepth 20000 in
theorem gX7_link_X7_in : GoodIn wsX7_link (va_wsS RX7 59 yX7_in wsX7_in) := goodIn_app (goodIn_of _ (by decide +kernel)) ggX7_link_X7_in
set_option maxRecDepth 20000 in
theorem ggX7_link_X7_beside : GoodIn wsX7_link wsX7_beside := goodIn_r _ [17, 1, 11, 12, 5, 13, 34, 35, 36, 37, 38, 39, 40, 41, 42, 43, 44, 45, 46, 47, 48, 49, 50, 51] (by decide +kernel) (by decide +kernel)
set_option maxRecDepth 20000 in
theorem gX7_link_X7_beside : GoodIn wsX7_link (wsV RX7 63 RX7 yX7_beside wsX7_beside) := goodIn_app (goodIn_of _ (by decide +kernel)) ggX7_link_X7_beside
set_option maxRecDepth 20000 in
theorem ggX7_link_X7_record : GoodIn wsX7_link wsX7_record := goodIn_r _ [21, 22, 23, 24, 1, 34, 35, 36, 37, 38, 39, 40, 41, 42, 43, 44, 45, 46, 47, 48, 49, 50, 51] (by decide +kernel) (by decide +kernel)
set_option maxRecDepth 20000 in
theorem gX7_link_X7_record : GoodIn wsX7_link (wsV RX7 70 RX7 yX7_record wsX7_record) := goodIn_app (goodIn_of _ (by decide +kernel)) ggX7_link_X7_record
set_option maxRecDepth 20000 in
theorem ggX7_link_X7_linkOf : GoodIn wsX7_link wsX7_linkOf := goodIn_r _ [28, 14, 15, 16, 5, 17, 1, 11, 12, 13, 34, 35, 36, 37, 38, 39, 40, 41, 42, 43, 44, 45, 46, 47, 48, 49, 50, 51] (by decide +kernel) (by decide +kernel)
set_option maxRecDepth 20000 in
theorem gX7_link_X7_linkOf : GoodIn wsX7_link (wsV RX7 67 RX7 yX7_linkOf wsX7_linkOf) := goodIn_app (goodIn_of _ (by decide +kernel)) ggX7_link_X7_linkOf
set_option maxRecDepth 20000 in
theorem ggX7_link_X7_forget : GoodIn wsX7_link wsX7_forget := goodIn_r _ [32, 33, 34, 35, 36, 37, 38, 39, 40, 41, 42, 43, 44, 45, 46, 47, 48, 49, 50, 51] (by decide +kernel) (by decide +kernel)
set_option maxRecDepth 20000 in
theorem gX7_link_X7_forget : GoodIn wsX7_link (wsV RX7 73 RX7 yX7_forget wsX7_forget) := goodIn_app (goodIn_of _ (by decide +kernel)) ggX7_link_X7_forget
theorem dX7_link_0 : decode cX7_link 0 = .ok (.aload_n 0, 1) := by decide +kernel
theorem dX7_link_1 : decode cX7_link 1 = .ok (.iload_n 1, 1) := by decide +kernel
theorem dX7_link_2 : decode cX7_link 2 = .ok (.invokevirtual 76, 3) := by decide +kernel
theorem dX7_link_5 : decode cX7_link 5 = .ok (.ifCond .eq 21, 3) := by decide +kernel
theorem dX7_link_8 : decode cX7_link 8 = .ok (.iload_n 2, 1) := by decide +kernel
theorem dX7_link_9 : decode cX7_link 9 = .ok (.iconst 0, 1) := by decide +kernel
theorem dX7_link_10 : decode cX7_link 10 = .ok (.iconst 3, 1) := by decide +kernel
theorem dX7_link_11 : decode cX7_link 11 = .ok (.invokestatic 59, 3) := by decide +kernel
theorem dX7_link_14 : decode cX7_link 14 = .ok (.ifCond .eq 14, 3) := by decide +kernel
theorem dX7_link_17 : decode cX7_link 17 = .ok (.aload_n 0, 1) := by decide +kernel
theorem dX7_link_18 : decode cX7_link 18 = .ok (.iload_n 1, 1) := by decide +kernel
theorem dX7_link_19 : decode cX7_link 19 = .ok (.iload_n 2, 1) := by decide +kernel
theorem dX7_link_20 : decode cX7_link 20 = .ok (.invokevirtual 63, 3) := by decide +kernel
theorem dX7_link_23 : decode cX7_link 23 = .ok (.ifCond .ge 5, 3) := by decide +kernel
theorem dX7_link_26 : decode cX7_link 26 = .ok (.iconst (-1), 1) := by decide +kernel
theorem dX7_link_27 : decode cX7_link 27 = .ok (.ireturn, 1) := by decide +kernel
theorem dX7_link_28 : decode cX7_link 28 = .ok (.iload_n 2, 1) := by decide +kernel
theorem dX7_link_29 : decode cX7_link 29 = .ok (.iconst 0, 1) := by decide +kernel
theorem dX7_link_30 : decode cX7_link 30 = .ok (.iconst 3, 1) := by decide +kernel
theorem dX7_link_31 : decode cX7_link 31 = .ok (.invokestatic 59, 3) := by decide +kernel
theorem dX7_link_34 : decode cX7_link 34 = .ok (.ifCond .eq 12, 3) := by decide +kernel
theorem dX7_link_37 : decode cX7_link 37 = .ok (.iload_n 3, 1) := by decide +kernel
theorem dX7_link_38 : decode cX7_link 38 = .ok (.iconst 0, 1) := by decide +kernel
theorem dX7_link_39 : decode cX7_link 39 = .ok (.iconst 1, 1) := by decide +kernel
theorem dX7_link_40 : decode cX7_link 40 = .ok (.invokestatic 59, 3) := by decide +kernel
theorem dX7_link_43 : decode cX7_link 43 = .ok (.ifCond .ne 6, 3) := by decide +kernel
theorem dX7_link_46 : decode cX7_link 46 = .ok (.bipush (-2), 2) := by decide +kernel
theorem dX7_link_48 : decode cX7_link 48 = .ok (.ireturn, 1) := by decide +kernel
theorem dX7_link_49 : decode cX7_link 49 = .ok (.aload_n 0, 1) := by decide +kernel
theorem dX7_link_50 : decode cX7_link 50 = .ok (.invokevirtual 70, 3) := by decide +kernel
theorem dX7_link_53 : decode cX7_link 53 = .ok (.aload_n 0, 1) := by decide +kernel
theorem dX7_link_54 : decode cX7_link 54 = .ok (.iload_n 1, 1) := by decide +kernel
theorem dX7_link_55 : decode cX7_link 55 = .ok (.iload_n 2, 1) := by decide +kernel
theorem dX7_link_56 : decode cX7_link 56 = .ok (.invokevirtual 67, 3) := by decide +kernel
theorem dX7_link_59 : decode cX7_link 59 = .ok (.istore 4, 2) := by decide +kernel
theorem dX7_link_61 : decode cX7_link 61 = .ok (.iconst 1, 1) := by decide +kernel
theorem dX7_link_62 : decode cX7_link 62 = .ok (.aload_n 0, 1) := by decide +kernel
theorem dX7_link_63 : decode cX7_link 63 = .ok (.getfield 7, 3) := by decide +kernel
theorem dX7_link_66 : decode cX7_link 66 = .ok (.iload 4, 2) := by decide +kernel
theorem dX7_link_68 : decode cX7_link 68 = .ok (.iaload, 1) := by decide +kernel
theorem dX7_link_69 : decode cX7_link 69 = .ok (.isub, 1) := by decide +kernel
theorem dX7_link_70 : decode cX7_link 70 = .ok (.istore 5, 2) := by decide +kernel
theorem dX7_link_72 : decode cX7_link 72 = .ok (.aload_n 0, 1) := by decide +kernel
theorem dX7_link_73 : decode cX7_link 73 = .ok (.getfield 7, 3) := by decide +kernel
theorem dX7_link_76 : decode cX7_link 76 = .ok (.iload 4, 2) := by decide +kernel
theorem dX7_link_78 : decode cX7_link 78 = .ok (.iconst 1, 1) := by decide +kernel
theorem dX7_link_79 : decode cX7_link 79 = .ok (.iload_n 3, 1) := by decide +kernel
theorem dX7_link_80 : decode cX7_link 80 = .ok (.isub, 1) := by decide +kernel
theorem dX7_link_81 : decode cX7_link 81 = .ok (.iastore, 1) := by decide +kernel
theorem dX7_link_82 : decode cX7_link 82 = .ok (.aload_n 0, 1) := by decide +kernel
theorem dX7_link_83 : decode cX7_link 83 = .ok (.invokevirtual 73, 3) := by decide +kernel
theorem dX7_link_86 : decode cX7_link 86 = .ok (.iload 5, 2) := by decide +kernel
theorem dX7_link_88 : decode cX7_link 88 = .ok (.ireturn, 1) := by decide +kernel
theorem dX7_forget_0 : decode cX7_forget 0 = .ok (.iconst 0, 1) := by decide +kernel
theorem dX7_forget_1 : decode cX7_forget 1 = .ok (.istore_n 1, 1) := by decide +kernel
theorem dX7_forget_2 : decode cX7_forget 2 = .ok (.iload_n 1, 1) := by decide +kernel
theorem dX7_forget_3 : decode cX7_forget 3 = .ok (.bipush 25, 2) := by decide +kernel
theorem dX7_forget_5 : decode cX7_forget 5 = .ok (.if_icmp .ge 16, 3) := by decide +kernel
theorem dX7_forget_8 : decode cX7_forget 8 = .ok (.aload_n 0, 1) := by decide +kernel
theorem dX7_forget_9 : decode cX7_forget 9 = .ok (.getfield 35, 3) := by decide +kernel
theorem dX7_forget_12 : decode cX7_forget 12 = .ok (.iload_n 1, 1) := by decide +kernel
theorem dX7_forget_13 : decode cX7_forget 13 = .ok (.iconst 0, 1) := by decide +kernel
theorem dX7_forget_14 : decode cX7_forget 14 = .ok (.bastore, 1) := by decide +kernel
theorem dX7_forget_15 : decode cX7_forget 15 = .ok (.iinc 1 1, 3) := by decide +kernel
theorem dX7_forget_18 : decode cX7_forget 18 = .ok (.goto (-16), 3) := by decide +kernel
theorem dX7_forget_21 : decode cX7_forget 21 = .ok (.return_, 1) := by decide +kernel
theorem dX7_apart_0 : decode cX7_apart 0 = .ok (.iload_n 1, 1) := by decide +kernel
theorem dX7_apart_1 : decode cX7_apart 1 = .ok (.aload_n 0, 1) := by decide +kernel
theorem dX7_apart_2 : decode cX7_apart 2 = .ok (.getfield 7, 3) := by decide +kernel
theorem dX7_apart_5 : decode cX7_apart 5 = .ok (.iconst 4, 1) := by decide +kernel
theorem dX7_apart_6 : decode cX7_apart 6 = .ok (.iaload, 1) := by decide +kernel
theorem dX7_apart_7 : decode cX7_apart 7 = .ok (.irem, 1) := by decide +kernel
theorem dX7_apart_8 : decode cX7_apart 8 = .ok (.iload_n 2, 1) := by decide +kernel
theorem dX7_apart_9 : decode cX7_apart 9 = .ok (.aload_n 0, 1) := by decide +kernel
theorem dX7_apart_10 : decode cX7_apart 10 = .ok (.getfield 7, 3) := by decide +kernel
theorem dX7_apart_13 : decode cX7_apart 13 = .ok (.iconst 4, 1) := by decide +kernel
theorem dX7_apart_14 : decode cX7_apart 14 = .ok (.iaload, 1) := by decide +kernel
theorem dX7_apart_15 : decode cX7_apart 15 = .ok (.irem, 1) := by decide +kernel
theorem dX7_apart_16 : decode cX7_apart 16 = .ok (.isub, 1) := by decide +kernel
theorem dX7_apart_17 : decode cX7_apart 17 = .ok (.istore_n 3, 1) := by decide +kernel
theorem dX7_apart_18 : decode cX7_apart 18 = .ok (.iload_n 1, 1) := by decide +kernel
theorem dX7_apart_19 : decode cX7_apart 19 = .ok (.aload_n 0, 1) := by decide +kernel
theorem dX7_apart_20 : decode cX7_apart 20 = .ok (.getfield 7, 3) := by decide +kernel
theorem dX7_apart_23 : decode cX7_apart 23 = .ok (.iconst 4, 1) := by decide +kernel
theorem dX7_apart_24 : decode cX7_apart 24 = .ok (.iaload, 1) := by decide +kernel
theorem dX7_apart_25 : decode cX7_apart 25 = .ok (.idiv, 1) := by decide +kernel
theorem dX7_apart_26 : decode cX7_apart 26 = .ok (.iload_n 2, 1) := by decide +kernel
theorem dX7_apart_27 : decode cX7_apart 27 = .ok (.aload_n 0, 1) := by decide +kernel
theorem dX7_apart_28 : decode cX7_apart 28 = .ok (.getfield 7, 3) := by decide +kernel
theorem dX7_apart_31 : decode cX7_apart 31 = .ok (.iconst 4, 1) := by decide +kernel
theorem dX7_apart_32 : decode cX7_apart 32 = .ok (.iaload, 1) := by decide +kernel
theorem dX7_apart_33 : decode cX7_apart 33 = .ok (.idiv, 1) := by decide +kernel
theorem dX7_apart_34 : decode cX7_apart 34 = .ok (.isub, 1) := by decide +kernel
theorem dX7_apart_35 : decode cX7_apart 35 = .ok (.istore 4, 2) := by decide +kernel
theorem dX7_apart_37 : decode cX7_apart 37 = .ok (.iload_n 3, 1) := by decide +kernel
theorem dX7_apart_38 : decode cX7_apart 38 = .ok (.ifCond .ge 8, 3) := by decide +kernel
theorem dX7_apart_41 : decode cX7_apart 41 = .ok (.iload_n 3, 1) := by decide +kernel
theorem dX7_apart_42 : decode cX7_apart 42 = .ok (.ineg, 1) := by decide +kernel
theorem dX7_apart_43 : decode cX7_apart 43 = .ok (.goto 4, 3) := by decide +kernel
theorem dX7_apart_46 : decode cX7_apart 46 = .ok (.iload_n 3, 1) := by decide +kernel
theorem dX7_apart_47 : decode cX7_apart 47 = .ok (.iload 4, 2) := by decide +kernel
theorem dX7_apart_49 : decode cX7_apart 49 = .ok (.ifCond .ge 9, 3) := by decide +kernel
theorem dX7_apart_52 : decode cX7_apart 52 = .ok (.iload 4, 2) := by decide +kernel
theorem dX7_apart_54 : decode cX7_apart 54 = .ok (.ineg, 1) := by decide +kernel
theorem dX7_apart_55 : decode cX7_apart 55 = .ok (.goto 5, 3) := by decide +kernel
theorem dX7_apart_58 : decode cX7_apart 58 = .ok (.iload 4, 2) := by decide +kernel
theorem dX7_apart_60 : decode cX7_apart 60 = .ok (.iadd, 1) := by decide +kernel
theorem dX7_apart_61 : decode cX7_apart 61 = .ok (.ireturn, 1) := by decide +kernel
set_option maxRecDepth 20000 in
theorem ggX7_isDetour_X7_apart : GoodIn wsX7_isDetour wsX7_apart := goodIn_r _ [5, 6, 7, 8, 9, 10, 11, 12, 13, 14, 15, 16, 17, 18, 19, 20, 21, 22, 23, 24] (by decide +kernel) (by decide +kernel)
set_option maxRecDepth 20000 in
theorem gX7_isDetour_X7_apart : GoodIn wsX7_isDetour (wsV RX7 80 RX7 yX7_apart wsX7_apart) := goodIn_app (goodIn_of _ (by decide +kernel)) ggX7_isDetour_X7_apart
theorem dX7_isDetour_0 : decode cX7_isDetour 0 = .ok (.aload_n 0, 1) := by decide +kernel
theorem dX7_isDetour_1 : decode cX7_isDetour 1 = .ok (.iload_n 2, 1) := by decide +kernel
theorem dX7_isDetour_2 : decode cX7_isDetour 2 = .ok (.iload_n 3, 1) := by decide +kernel
theorem dX7_isDetour_3 : decode cX7_isDetour 3 = .ok (.invokevirtual 80, 3) := by decide +kernel
theorem dX7_isDetour_6 : decode cX7_isDetour 6 = .ok (.aload_n 0, 1) := by decide +kernel
theorem dX7_isDetour_7 : decode cX7_isDetour 7 = .ok (.iload_n 1, 1) := by decide +kernel
theorem dX7_isDetour_8 : decode cX7_isDetour 8 = .ok (.iload_n 3, 1) := by decide +kernel
theorem dX7_isDetour_9 : decode cX7_isDetour 9 = .ok (.invokevirtual 80, 3) := by decide +kernel
theorem dX7_isDetour_12 : decode cX7_isDetour 12 = .ok (.if_icmp .lt 7, 3) := by decide +kernel
theorem dX7_isDetour_15 : decode cX7_isDetour 15 = .ok (.iconst 1, 1) := by decide +kernel
theorem dX7_isDetour_16 : decode cX7_isDetour 16 = .ok (.goto 4, 3) := by decide +kernel
theorem dX7_isDetour_19 : decode cX7_isDetour 19 = .ok (.iconst 0, 1) := by decide +kernel
theorem dX7_isDetour_20 : decode cX7_isDetour 20 = .ok (.ireturn, 1) := by decide +kernel
set_option maxRecDepth 20000 in
theorem ggX7_moved_X7_isWhole : GoodIn wsX7_moved wsX7_isWhole := goodIn_r _ [6, 1, 7, 8, 9, 5, 10, 11, 12, 13, 14, 15, 16, 17, 26, 27, 28, 29, 30, 31, 32, 33, 34, 35, 36, 37, 38, 39, 40, 41, 42, 43] (by decide +kernel) (by decide +kernel)
set_option maxRecDepth 20000 in
theorem gX7_moved_X7_isWhole : GoodIn wsX7_moved (wsV RX7 83 RX7 yX7_isWhole wsX7_isWhole) := goodIn_app (goodIn_of _ (by decide +kernel)) ggX7_moved_X7_isWhole
set_option maxRecDepth 20000 in
theorem ggX7_moved_X7_beside : GoodIn wsX7_moved wsX7_beside := goodIn_r _ [10, 1, 11, 12, 5, 13, 26, 27, 28, 29, 30, 31, 32, 33, 34, 35, 36, 37, 38, 39, 40, 41, 42, 43] (by decide +kernel) (by decide +kernel)
set_option maxRecDepth 20000 in
theorem gX7_moved_X7_beside : GoodIn wsX7_moved (wsV RX7 63 RX7 yX7_beside wsX7_beside) := goodIn_app (goodIn_of _ (by decide +kernel)) ggX7_moved_X7_beside
set_option maxRecDepth 20000 in
theorem ggX7_moved_X7_isDetour : GoodIn wsX7_moved wsX7_isDetour := goodIn_r _ [21, 22, 23, 24, 5, 25, 1, 26, 27, 28, 29, 30, 31, 32, 33, 34, 35, 36, 37, 38, 39, 40, 41, 42, 43] (by decide +kernel) (by decide +kernel)
set_option maxRecDepth 20000 in
theorem gX7_moved_X7_isDetour : GoodIn wsX7_moved (wsV RX7 87 RX7 yX7_isDetour wsX7_isDetour) := goodIn_app (goodIn_of _ (by decide +kernel)) ggX7_moved_X7_isDetour
theorem dX7_moved_0 : decode cX7_moved 0 = .ok (.iload_n 1, 1) := by decide +kernel
theorem dX7_moved_1 : decode cX7_moved 1 = .ok (.bipush 10, 2) := by decide +kernel
theorem dX7_moved_3 : decode cX7_moved 3 = .ok (.idiv, 1) := by decide +kernel
theorem dX7_moved_4 : decode cX7_moved 4 = .ok (.istore 4, 2) := by decide +kernel
theorem dX7_moved_6 : decode cX7_moved 6 = .ok (.iload_n 1, 1) := by decide +kernel
theorem dX7_moved_7 : decode cX7_moved 7 = .ok (.iconst 5, 1) := by decide +kernel
theorem dX7_moved_8 : decode cX7_moved 8 = .ok (.idiv, 1) := by decide +kernel
theorem dX7_moved_9 : decode cX7_moved 9 = .ok (.iconst 2, 1) := by decide +kernel
theorem dX7_moved_10 : decode cX7_moved 10 = .ok (.irem, 1) := by decide +kernel
theorem dX7_moved_11 : decode cX7_moved 11 = .ok (.istore 5, 2) := by decide +kernel
theorem dX7_moved_13 : decode cX7_moved 13 = .ok (.iload_n 1, 1) := by decide +kernel
theorem dX7_moved_14 : decode cX7_moved 14 = .ok (.iconst 5, 1) := by decide +kernel
theorem dX7_moved_15 : decode cX7_moved 15 = .ok (.irem, 1) := by decide +kernel
theorem dX7_moved_16 : decode cX7_moved 16 = .ok (.istore 6, 2) := by decide +kernel
theorem dX7_moved_18 : decode cX7_moved 18 = .ok (.aload_n 0, 1) := by decide +kernel
theorem dX7_moved_19 : decode cX7_moved 19 = .ok (.iload 4, 2) := by decide +kernel
theorem dX7_moved_21 : decode cX7_moved 21 = .ok (.iload_n 2, 1) := by decide +kernel
theorem dX7_moved_22 : decode cX7_moved 22 = .ok (.invokevirtual 83, 3) := by decide +kernel
theorem dX7_moved_25 : decode cX7_moved 25 = .ok (.ifCond .eq 23, 3) := by decide +kernel
theorem dX7_moved_28 : decode cX7_moved 28 = .ok (.aload_n 0, 1) := by decide +kernel
theorem dX7_moved_29 : decode cX7_moved 29 = .ok (.getfield 7, 3) := by decide +kernel
theorem dX7_moved_32 : decode cX7_moved 32 = .ok (.iconst 0, 1) := by decide +kernel
theorem dX7_moved_33 : decode cX7_moved 33 = .ok (.iaload, 1) := by decide +kernel
theorem dX7_moved_34 : decode cX7_moved 34 = .ok (.iconst 1, 1) := by decide +kernel
theorem dX7_moved_35 : decode cX7_moved 35 = .ok (.if_icmp .ne 16, 3) := by decide +kernel
theorem dX7_moved_38 : decode cX7_moved 38 = .ok (.iload_n 2, 1) := by decide +kernel
theorem dX7_moved_39 : decode cX7_moved 39 = .ok (.ifCond .ne 12, 3) := by decide +kernel
theorem dX7_moved_42 : decode cX7_moved 42 = .ok (.iload 5, 2) := by decide +kernel
theorem dX7_moved_44 : decode cX7_moved 44 = .ok (.iconst 1, 1) := by decide +kernel
theorem dX7_moved_45 : decode cX7_moved 45 = .ok (.if_icmp .ne 6, 3) := by decide +kernel
theorem dX7_moved_48 : decode cX7_moved 48 = .ok (.bipush (-6), 2) := by decide +kernel
theorem dX7_moved_50 : decode cX7_moved 50 = .ok (.ireturn, 1) := by decide +kernel
theorem dX7_moved_51 : decode cX7_moved 51 = .ok (.aload_n 0, 1) := by decide +kernel
theorem dX7_moved_52 : decode cX7_moved 52 = .ok (.iload 4, 2) := by decide +kernel
theorem dX7_moved_54 : decode cX7_moved 54 = .ok (.iload_n 2, 1) := by decide +kernel
theorem dX7_moved_55 : decode cX7_moved 55 = .ok (.invokevirtual 63, 3) := by decide +kernel
theorem dX7_moved_58 : decode cX7_moved 58 = .ok (.istore 7, 2) := by decide +kernel
theorem dX7_moved_60 : decode cX7_moved 60 = .ok (.aload_n 0, 1) := by decide +kernel
theorem dX7_moved_61 : decode cX7_moved 61 = .ok (.iload 4, 2) := by decide +kernel
theorem dX7_moved_63 : decode cX7_moved 63 = .ok (.iload 7, 2) := by decide +kernel
theorem dX7_moved_65 : decode cX7_moved 65 = .ok (.iload_n 3, 1) := by decide +kernel
theorem dX7_moved_66 : decode cX7_moved 66 = .ok (.invokevirtual 87, 3) := by decide +kernel
theorem dX7_moved_69 : decode cX7_moved 69 = .ok (.istore 8, 2) := by decide +kernel
theorem dX7_moved_71 : decode cX7_moved 71 = .ok (.iload 8, 2) := by decide +kernel
theorem dX7_moved_73 : decode cX7_moved 73 = .ok (.ifCond .eq 17, 3) := by decide +kernel
theorem dX7_moved_76 : decode cX7_moved 76 = .ok (.iload 6, 2) := by decide +kernel
theorem dX7_moved_78 : decode cX7_moved 78 = .ok (.aload_n 0, 1) := by decide +kernel
theorem dX7_moved_79 : decode cX7_moved 79 = .ok (.getfield 7, 3) := by decide +kernel
theorem dX7_moved_82 : decode cX7_moved 82 = .ok (.iconst 1, 1) := by decide +kernel
theorem dX7_moved_83 : decode cX7_moved 83 = .ok (.iaload, 1) := by decide +kernel
theorem dX7_moved_84 : decode cX7_moved 84 = .ok (.if_icmp .lt 6, 3) := by decide +kernel
theorem dX7_moved_87 : decode cX7_moved 87 = .ok (.bipush (-6), 2) := by decide +kernel
theorem dX7_moved_89 : decode cX7_moved 89 = .ok (.ireturn, 1) := by decide +kernel
theorem dX7_moved_90 : decode cX7_moved 90 = .ok (.bipush 10, 2) := by decide +kernel
theorem dX7_moved_92 : decode cX7_moved 92 = .ok (.iload 7, 2) := by decide +kernel
theorem dX7_moved_94 : decode cX7_moved 94 = .ok (.imul, 1) := by decide +kernel
theorem dX7_moved_95 : decode cX7_moved 95 = .ok (.iconst 5, 1) := by decide +kernel
theorem dX7_moved_96 : decode cX7_moved 96 = .ok (.iload_n 2, 1) := by decide +kernel
theorem dX7_moved_97 : decode cX7_moved 97 = .ok (.ifCond .ne 8, 3) := by decide +kernel
theorem dX7_moved_100 : decode cX7_moved 100 = .ok (.iload 5, 2) := by decide +kernel
theorem dX7_moved_102 : decode cX7_moved 102 = .ok (.goto 4, 3) := by decide +kernel
theorem dX7_moved_105 : decode cX7_moved 105 = .ok (.iconst 1, 1) := by decide +kernel
theorem dX7_moved_106 : decode cX7_moved 106 = .ok (.imul, 1) := by decide +kernel
theorem dX7_moved_107 : decode cX7_moved 107 = .ok (.iadd, 1) := by decide +kernel
theorem dX7_moved_108 : decode cX7_moved 108 = .ok (.iload 6, 2) := by decide +kernel
theorem dX7_moved_110 : decode cX7_moved 110 = .ok (.iadd, 1) := by decide +kernel
theorem dX7_moved_111 : decode cX7_moved 111 = .ok (.iload 8, 2) := by decide +kernel
theorem dX7_moved_113 : decode cX7_moved 113 = .ok (.ifCond .eq 7, 3) := by decide +kernel
theorem dX7_moved_116 : decode cX7_moved 116 = .ok (.iconst 1, 1) := by decide +kernel
theorem dX7_moved_117 : decode cX7_moved 117 = .ok (.goto 4, 3) := by decide +kernel
theorem dX7_moved_120 : decode cX7_moved 120 = .ok (.iconst 0, 1) := by decide +kernel
theorem dX7_moved_121 : decode cX7_moved 121 = .ok (.iadd, 1) := by decide +kernel
theorem dX7_moved_122 : decode cX7_moved 122 = .ok (.ireturn, 1) := by decide +kernel
set_option maxRecDepth 20000 in
theorem ggX7_layFar_X7_boxes : GoodIn wsX7_layFar wsX7_boxes := goodIn_r _ [8, 9, 37, 38, 39, 40, 41, 42, 43, 44, 45, 46, 47, 48, 49, 50, 51, 52, 53, 54] (by decide +kernel) (by decide +kernel)
set_option maxRecDepth 20000 in
theorem gX7_layFar_X7_boxes : GoodIn wsX7_layFar (wsV RX7 55 RX7 yX7_boxes wsX7_boxes) := goodIn_app (goodIn_of _ (by decide +kernel)) ggX7_layFar_X7_boxes
set_option maxRecDepth 20000 in
theorem ggX7_layFar_X7_moved : GoodIn wsX7_layFar wsX7_moved := goodIn_r _ [13, 9, 14, 15, 16, 7, 17, 18, 19, 20, 21, 22, 23, 24, 25, 26, 27, 28, 29, 30, 31, 32, 33, 34, 35, 36, 37, 38, 39, 40, 41, 42, 43, 44, 45, 46, 47, 48, 49, 50, 51, 52, 53, 54] (by decide +kernel) (by decide +kernel)
set_option maxRecDepth 20000 in
theorem gX7_layFar_X7_moved : GoodIn wsX7_layFar (wsV RX7 90 RX7 yX7_moved wsX7_moved) := goodIn_app (goodIn_of _ (by decide +kernel)) ggX7_layFar_X7_moved
theorem dX7_layFar_0 : decode cX7_layFar 0 = .ok (.aload_n 0, 1) := by decide +kernel
theorem dX7_layFar_1 : decode cX7_layFar 1 = .ok (.getfield 35, 3) := by decide +kernel
theorem dX7_layFar_4 : decode cX7_layFar 4 = .ok (.iload_n 1, 1) := by decide +kernel
theorem dX7_layFar_5 : decode cX7_layFar 5 = .ok (.baload, 1) := by decide +kernel
theorem dX7_layFar_6 : decode cX7_layFar 6 = .ok (.ifCond .eq 4, 3) := by decide +kernel
theorem dX7_layFar_9 : decode cX7_layFar 9 = .ok (.return_, 1) := by decide +kernel
theorem dX7_layFar_10 : decode cX7_layFar 10 = .ok (.aload_n 0, 1) := by decide +kernel
theorem dX7_layFar_11 : decode cX7_layFar 11 = .ok (.getfield 35, 3) := by decide +kernel
theorem dX7_layFar_14 : decode cX7_layFar 14 = .ok (.iload_n 1, 1) := by decide +kernel
theorem dX7_layFar_15 : decode cX7_layFar 15 = .ok (.iconst 1, 1) := by decide +kernel
theorem dX7_layFar_16 : decode cX7_layFar 16 = .ok (.bastore, 1) := by decide +kernel
theorem dX7_layFar_17 : decode cX7_layFar 17 = .ok (.sipush 250, 3) := by decide +kernel
theorem dX7_layFar_20 : decode cX7_layFar 20 = .ok (.iload_n 1, 1) := by decide +kernel
theorem dX7_layFar_21 : decode cX7_layFar 21 = .ok (.imul, 1) := by decide +kernel
theorem dX7_layFar_22 : decode cX7_layFar 22 = .ok (.istore_n 2, 1) := by decide +kernel
theorem dX7_layFar_23 : decode cX7_layFar 23 = .ok (.bipush 10, 2) := by decide +kernel
theorem dX7_layFar_25 : decode cX7_layFar 25 = .ok (.aload_n 0, 1) := by decide +kernel
theorem dX7_layFar_26 : decode cX7_layFar 26 = .ok (.invokevirtual 55, 3) := by decide +kernel
theorem dX7_layFar_29 : decode cX7_layFar 29 = .ok (.imul, 1) := by decide +kernel
theorem dX7_layFar_30 : decode cX7_layFar 30 = .ok (.istore_n 3, 1) := by decide +kernel
theorem dX7_layFar_31 : decode cX7_layFar 31 = .ok (.iconst 0, 1) := by decide +kernel
theorem dX7_layFar_32 : decode cX7_layFar 32 = .ok (.istore 4, 2) := by decide +kernel
theorem dX7_layFar_34 : decode cX7_layFar 34 = .ok (.iload 4, 2) := by decide +kernel
theorem dX7_layFar_36 : decode cX7_layFar 36 = .ok (.iload_n 3, 1) := by decide +kernel
theorem dX7_layFar_37 : decode cX7_layFar 37 = .ok (.if_icmp .ge 56, 3) := by decide +kernel
theorem dX7_layFar_40 : decode cX7_layFar 40 = .ok (.aload_n 0, 1) := by decide +kernel
theorem dX7_layFar_41 : decode cX7_layFar 41 = .ok (.getfield 29, 3) := by decide +kernel
theorem dX7_layFar_44 : decode cX7_layFar 44 = .ok (.iload_n 2, 1) := by decide +kernel
theorem dX7_layFar_45 : decode cX7_layFar 45 = .ok (.iload 4, 2) := by decide +kernel
theorem dX7_layFar_47 : decode cX7_layFar 47 = .ok (.iadd, 1) := by decide +kernel
theorem dX7_layFar_48 : decode cX7_layFar 48 = .ok (.iload 4, 2) := by decide +kernel
theorem dX7_layFar_50 : decode cX7_layFar 50 = .ok (.bipush 10, 2) := by decide +kernel
theorem dX7_layFar_52 : decode cX7_layFar 52 = .ok (.idiv, 1) := by decide +kernel
theorem dX7_layFar_53 : decode cX7_layFar 53 = .ok (.iload_n 1, 1) := by decide +kernel
theorem dX7_layFar_54 : decode cX7_layFar 54 = .ok (.if_icmp .ne 7, 3) := by decide +kernel
theorem dX7_layFar_57 : decode cX7_layFar 57 = .ok (.iconst 0, 1) := by decide +kernel
theorem dX7_layFar_58 : decode cX7_layFar 58 = .ok (.goto 5, 3) := by decide +kernel
theorem dX7_layFar_61 : decode cX7_layFar 61 = .ok (.bipush (-6), 2) := by decide +kernel
theorem dX7_layFar_63 : decode cX7_layFar 63 = .ok (.iastore, 1) := by decide +kernel
theorem dX7_layFar_64 : decode cX7_layFar 64 = .ok (.aload_n 0, 1) := by decide +kernel
theorem dX7_layFar_65 : decode cX7_layFar 65 = .ok (.getfield 32, 3) := by decide +kernel
theorem dX7_layFar_68 : decode cX7_layFar 68 = .ok (.iload_n 2, 1) := by decide +kernel
theorem dX7_layFar_69 : decode cX7_layFar 69 = .ok (.iload 4, 2) := by decide +kernel
theorem dX7_layFar_71 : decode cX7_layFar 71 = .ok (.iadd, 1) := by decide +kernel
theorem dX7_layFar_72 : decode cX7_layFar 72 = .ok (.iload 4, 2) := by decide +kernel
theorem dX7_layFar_74 : decode cX7_layFar 74 = .ok (.bipush 10, 2) := by decide +kernel
theorem dX7_layFar_76 : decode cX7_layFar 76 = .ok (.idiv, 1) := by decide +kernel
theorem dX7_layFar_77 : decode cX7_layFar 77 = .ok (.iload_n 1, 1) := by decide +kernel
theorem dX7_layFar_78 : decode cX7_layFar 78 = .ok (.if_icmp .ne 7, 3) := by decide +kernel
theorem dX7_layFar_81 : decode cX7_layFar 81 = .ok (.iconst 1, 1) := by decide +kernel
theorem dX7_layFar_82 : decode cX7_layFar 82 = .ok (.goto 4, 3) := by decide +kernel
theorem dX7_layFar_85 : decode cX7_layFar 85 = .ok (.iconst 0, 1) := by decide +kernel
theorem dX7_layFar_86 : decode cX7_layFar 86 = .ok (.iastore, 1) := by decide +kernel
theorem dX7_layFar_87 : decode cX7_layFar 87 = .ok (.iinc 4 1, 3) := by decide +kernel
theorem dX7_layFar_90 : decode cX7_layFar 90 = .ok (.goto (-56), 3) := by decide +kernel
theorem dX7_layFar_93 : decode cX7_layFar 93 = .ok (.iconst 1, 1) := by decide +kernel
theorem dX7_layFar_94 : decode cX7_layFar 94 = .ok (.istore 4, 2) := by decide +kernel
theorem dX7_layFar_96 : decode cX7_layFar 96 = .ok (.iconst 1, 1) := by decide +kernel
theorem dX7_layFar_97 : decode cX7_layFar 97 = .ok (.istore 5, 2) := by decide +kernel
theorem dX7_layFar_99 : decode cX7_layFar 99 = .ok (.iload 4, 2) := by decide +kernel
theorem dX7_layFar_101 : decode cX7_layFar 101 = .ok (.ifCond .eq 139, 3) := by decide +kernel
theorem dX7_layFar_104 : decode cX7_layFar 104 = .ok (.iconst 0, 1) := by decide +kernel
theorem dX7_layFar_105 : decode cX7_layFar 105 = .ok (.istore 4, 2) := by decide +kernel
theorem dX7_layFar_107 : decode cX7_layFar 107 = .ok (.iconst 0, 1) := by decide +kernel
theorem dX7_layFar_108 : decode cX7_layFar 108 = .ok (.istore 6, 2) := by decide +kernel
theorem dX7_layFar_110 : decode cX7_layFar 110 = .ok (.iload 6, 2) := by decide +kernel
theorem dX7_layFar_112 : decode cX7_layFar 112 = .ok (.iload_n 3, 1) := by decide +kernel
theorem dX7_layFar_113 : decode cX7_layFar 113 = .ok (.if_icmp .ge 121, 3) := by decide +kernel
theorem dX7_layFar_116 : decode cX7_layFar 116 = .ok (.aload_n 0, 1) := by decide +kernel
theorem dX7_layFar_117 : decode cX7_layFar 117 = .ok (.getfield 29, 3) := by decide +kernel
theorem dX7_layFar_120 : decode cX7_layFar 120 = .ok (.iload_n 2, 1) := by decide +kernel
theorem dX7_layFar_121 : decode cX7_layFar 121 = .ok (.iload 6, 2) := by decide +kernel
theorem dX7_layFar_123 : decode cX7_layFar 123 = .ok (.iadd, 1) := by decide +kernel
theorem dX7_layFar_124 : decode cX7_layFar 124 = .ok (.iaload, 1) := by decide +kernel
theorem dX7_layFar_125 : decode cX7_layFar 125 = .ok (.bipush (-6), 2) := by decide +kernel
theorem dX7_layFar_127 : decode cX7_layFar 127 = .ok (.if_icmp .ne 101, 3) := by decide +kernel
theorem dX7_layFar_130 : decode cX7_layFar 130 = .ok (.iconst 0, 1) := by decide +kernel
theorem dX7_layFar_131 : decode cX7_layFar 131 = .ok (.istore 7, 2) := by decide +kernel
theorem dX7_layFar_133 : decode cX7_layFar 133 = .ok (.iconst 0, 1) := by decide +kernel
theorem dX7_layFar_134 : decode cX7_layFar 134 = .ok (.istore 8, 2) := by decide +kernel
theorem dX7_layFar_136 : decode cX7_layFar 136 = .ok (.iload 8, 2) := by decide +kernel
theorem dX7_layFar_138 : decode cX7_layFar 138 = .ok (.iconst 4, 1) := by decide +kernel
theorem dX7_layFar_139 : decode cX7_layFar 139 = .ok (.if_icmp .ge 59, 3) := by decide +kernel
theorem dX7_layFar_142 : decode cX7_layFar 142 = .ok (.aload_n 0, 1) := by decide +kernel
theorem dX7_layFar_143 : decode cX7_layFar 143 = .ok (.iload 6, 2) := by decide +kernel
theorem dX7_layFar_145 : decode cX7_layFar 145 = .ok (.iload 8, 2) := by decide +kernel
theorem dX7_layFar_147 : decode cX7_layFar 147 = .ok (.iload_n 1, 1) := by decide +kernel
theorem dX7_layFar_148 : decode cX7_layFar 148 = .ok (.invokevirtual 90, 3) := by decide +kernel
theorem dX7_layFar_151 : decode cX7_layFar 151 = .ok (.istore 9, 2) := by decide +kernel
theorem dX7_layFar_153 : decode cX7_layFar 153 = .ok (.iload 7, 2) := by decide +kernel
theorem dX7_layFar_155 : decode cX7_layFar 155 = .ok (.iload 9, 2) := by decide +kernel
theorem dX7_layFar_157 : decode cX7_layFar 157 = .ok (.ifCond .lt 31, 3) := by decide +kernel
theorem dX7_layFar_160 : decode cX7_layFar 160 = .ok (.aload_n 0, 1) := by decide +kernel
theorem dX7_layFar_161 : decode cX7_layFar 161 = .ok (.getfield 29, 3) := by decide +kernel
theorem dX7_layFar_164 : decode cX7_layFar 164 = .ok (.iload_n 2, 1) := by decide +kernel
theorem dX7_layFar_165 : decode cX7_layFar 165 = .ok (.iload 9, 2) := by decide +kernel
theorem dX7_layFar_167 : decode cX7_layFar 167 = .ok (.iadd, 1) := by decide +kernel
theorem dX7_layFar_168 : decode cX7_layFar 168 = .ok (.iaload, 1) := by decide +kernel
theorem dX7_layFar_169 : decode cX7_layFar 169 = .ok (.iload 5, 2) := by decide +kernel
theorem dX7_layFar_171 : decode cX7_layFar 171 = .ok (.iconst 1, 1) := by decide +kernel
theorem dX7_layFar_172 : decode cX7_layFar 172 = .ok (.isub, 1) := by decide +kernel
theorem dX7_layFar_173 : decode cX7_layFar 173 = .ok (.if_icmp .ne 15, 3) := by decide +kernel
theorem dX7_layFar_176 : decode cX7_layFar 176 = .ok (.aload_n 0, 1) := by decide +kernel
theorem dX7_layFar_177 : decode cX7_layFar 177 = .ok (.getfield 32, 3) := by decide +kernel
theorem dX7_layFar_180 : decode cX7_layFar 180 = .ok (.iload_n 2, 1) := by decide +kernel
theorem dX7_layFar_181 : decode cX7_layFar 181 = .ok (.iload 9, 2) := by decide +kernel
theorem dX7_layFar_183 : decode cX7_layFar 183 = .ok (.iadd, 1) := by decide +kernel
theorem dX7_layFar_184 : decode cX7_layFar 184 = .ok (.iaload, 1) := by decide +kernel
theorem dX7_layFar_185 : decode cX7_layFar 185 = .ok (.goto 4, 3) := by decide +kernel
theorem dX7_layFar_188 : decode cX7_layFar 188 = .ok (.iconst 0, 1) := by decide +kernel
theorem dX7_layFar_189 : decode cX7_layFar 189 = .ok (.iadd, 1) := by decide +kernel
theorem dX7_layFar_190 : decode cX7_layFar 190 = .ok (.istore 7, 2) := by decide +kernel
theorem dX7_layFar_192 : decode cX7_layFar 192 = .ok (.iinc 8 1, 3) := by decide +kernel
theorem dX7_layFar_195 : decode cX7_layFar 195 = .ok (.goto (-59), 3) := by decide +kernel
theorem dX7_layFar_198 : decode cX7_layFar 198 = .ok (.iload 7, 2) := by decide +kernel
theorem dX7_layFar_200 : decode cX7_layFar 200 = .ok (.ifCond .le 28, 3) := by decide +kernel
theorem dX7_layFar_203 : decode cX7_layFar 203 = .ok (.aload_n 0, 1) := by decide +kernel
theorem dX7_layFar_204 : decode cX7_layFar 204 = .ok (.getfield 29, 3) := by decide +kernel
theorem dX7_layFar_207 : decode cX7_layFar 207 = .ok (.iload_n 2, 1) := by decide +kernel
theorem dX7_layFar_208 : decode cX7_layFar 208 = .ok (.iload 6, 2) := by decide +kernel
theorem dX7_layFar_210 : decode cX7_layFar 210 = .ok (.iadd, 1) := by decide +kernel
theorem dX7_layFar_211 : decode cX7_layFar 211 = .ok (.iload 5, 2) := by decide +kernel
theorem dX7_layFar_213 : decode cX7_layFar 213 = .ok (.iastore, 1) := by decide +kernel
theorem dX7_layFar_214 : decode cX7_layFar 214 = .ok (.aload_n 0, 1) := by decide +kernel
theorem dX7_layFar_215 : decode cX7_layFar 215 = .ok (.getfield 32, 3) := by decide +kernel
theorem dX7_layFar_218 : decode cX7_layFar 218 = .ok (.iload_n 2, 1) := by decide +kernel
theorem dX7_layFar_219 : decode cX7_layFar 219 = .ok (.iload 6, 2) := by decide +kernel
theorem dX7_layFar_221 : decode cX7_layFar 221 = .ok (.iadd, 1) := by decide +kernel
theorem dX7_layFar_222 : decode cX7_layFar 222 = .ok (.iload 7, 2) := by decide +kernel
theorem dX7_layFar_224 : decode cX7_layFar 224 = .ok (.iastore, 1) := by decide +kernel
theorem dX7_layFar_225 : decode cX7_layFar 225 = .ok (.iconst 1, 1) := by decide +kernel
theorem dX7_layFar_226 : decode cX7_layFar 226 = .ok (.istore 4, 2) := by decide +kernel
theorem dX7_layFar_228 : decode cX7_layFar 228 = .ok (.iinc 6 1, 3) := by decide +kernel
theorem dX7_layFar_231 : decode cX7_layFar 231 = .ok (.goto (-121), 3) := by decide +kernel
theorem dX7_layFar_234 : decode cX7_layFar 234 = .ok (.iinc 5 1, 3) := by decide +kernel
theorem dX7_layFar_237 : decode cX7_layFar 237 = .ok (.goto (-138), 3) := by decide +kernel
theorem dX7_layFar_240 : decode cX7_layFar 240 = .ok (.return_, 1) := by decide +kernel
set_option maxRecDepth 20000 in
theorem ggX7_farOf_X7_layFar : GoodIn wsX7_farOf wsX7_layFar := goodIn_r _ [6, 7, 1, 8, 9, 10, 11, 5, 12, 13, 14, 15, 16, 17, 18, 19, 20, 21, 22, 23, 24, 25, 26, 27, 28, 29, 30, 31, 32, 33, 34, 35, 36, 37, 38, 39, 40, 41, 42, 43, 44, 45, 46, 47, 48, 49, 50, 51, 52, 53, 54, 55, 56, 57, 58] (by decide +kernel) (by decide +kernel)
set_option maxRecDepth 20000 in
theorem gX7_farOf_X7_layFar : GoodIn wsX7_farOf (wsV RX7 94 RX7 yX7_layFar wsX7_layFar) := goodIn_app (goodIn_of _ (by decide +kernel)) ggX7_farOf_X7_layFar
theorem dX7_farOf_0 : decode cX7_farOf 0 = .ok (.aload_n 0, 1) := by decide +kernel
theorem dX7_farOf_1 : decode cX7_farOf 1 = .ok (.iload_n 2, 1) := by decide +kernel
theorem dX7_farOf_2 : decode cX7_farOf 2 = .ok (.invokevirtual 94, 3) := by decide +kernel
theorem dX7_farOf_5 : decode cX7_farOf 5 = .ok (.aload_n 0, 1) := by decide +kernel
theorem dX7_farOf_6 : decode cX7_farOf 6 = .ok (.getfield 29, 3) := by decide +kernel
theorem dX7_farOf_9 : decode cX7_farOf 9 = .ok (.sipush 250, 3) := by decide +kernel
theorem dX7_farOf_12 : decode cX7_farOf 12 = .ok (.iload_n 2, 1) := by decide +kernel
theorem dX7_farOf_13 : decode cX7_farOf 13 = .ok (.imul, 1) := by decide +kernel
theorem dX7_farOf_14 : decode cX7_farOf 14 = .ok (.iload_n 1, 1) := by decide +kernel
theorem dX7_farOf_15 : decode cX7_farOf 15 = .ok (.iadd, 1) := by decide +kernel
theorem dX7_farOf_16 : decode cX7_farOf 16 = .ok (.iaload, 1) := by decide +kernel
theorem dX7_farOf_17 : decode cX7_farOf 17 = .ok (.ireturn, 1) := by decide +kernel
set_option maxRecDepth 20000 in
theorem ggX7_isPacket_X7_in : GoodIn wsX7_isPacket wsX7_in := goodIn_r _ [5] (by decide +kernel) (by decide +kernel)
set_option maxRecDepth 20000 in
theorem gX7_isPacket_X7_in : GoodIn wsX7_isPacket (va_wsS RX7 59 yX7_in wsX7_in) := goodIn_app (goodIn_of _ (by decide +kernel)) ggX7_isPacket_X7_in
theorem dX7_isPacket_0 : decode cX7_isPacket 0 = .ok (.iload_n 1, 1) := by decide +kernel
theorem dX7_isPacket_1 : decode cX7_isPacket 1 = .ok (.iconst 0, 1) := by decide +kernel
theorem dX7_isPacket_2 : decode cX7_isPacket 2 = .ok (.aload_n 0, 1) := by decide +kernel
theorem dX7_isPacket_3 : decode cX7_isPacket 3 = .ok (.getfield 7, 3) := by decide +kernel
theorem dX7_isPacket_6 : decode cX7_isPacket 6 = .ok (.bipush 6, 2) := by decide +kernel
theorem dX7_isPacket_8 : decode cX7_isPacket 8 = .ok (.iaload, 1) := by decide +kernel
theorem dX7_isPacket_9 : decode cX7_isPacket 9 = .ok (.iconst 1, 1) := by decide +kernel
theorem dX7_isPacket_10 : decode cX7_isPacket 10 = .ok (.isub, 1) := by decide +kernel
theorem dX7_isPacket_11 : decode cX7_isPacket 11 = .ok (.invokestatic 59, 3) := by decide +kernel
theorem dX7_isPacket_14 : decode cX7_isPacket 14 = .ok (.ireturn, 1) := by decide +kernel
theorem dX7_of_0 : decode cX7_of 0 = .ok (.aload_n 0, 1) := by decide +kernel
theorem dX7_of_1 : decode cX7_of 1 = .ok (.getfield 7, 3) := by decide +kernel
theorem dX7_of_4 : decode cX7_of 4 = .ok (.sipush 160, 3) := by decide +kernel
theorem dX7_of_7 : decode cX7_of 7 = .ok (.bipush 10, 2) := by decide +kernel
theorem dX7_of_9 : decode cX7_of 9 = .ok (.iload_n 1, 1) := by decide +kernel
theorem dX7_of_10 : decode cX7_of 10 = .ok (.imul, 1) := by decide +kernel
theorem dX7_of_11 : decode cX7_of 11 = .ok (.iadd, 1) := by decide +kernel
theorem dX7_of_12 : decode cX7_of 12 = .ok (.iload_n 2, 1) := by decide +kernel
theorem dX7_of_13 : decode cX7_of 13 = .ok (.iadd, 1) := by decide +kernel
theorem dX7_of_14 : decode cX7_of 14 = .ok (.iaload, 1) := by decide +kernel
theorem dX7_of_15 : decode cX7_of 15 = .ok (.ireturn, 1) := by decide +kernel
theorem dX7_book_0 : decode cX7_book 0 = .ok (.aload_n 0, 1) := by decide +kernel
theorem dX7_book_1 : decode cX7_book 1 = .ok (.getfield 7, 3) := by decide +kernel
theorem dX7_book_4 : decode cX7_book 4 = .ok (.sipush 160, 3) := by decide +kernel
theorem dX7_book_7 : decode cX7_book 7 = .ok (.bipush 10, 2) := by decide +kernel
theorem dX7_book_9 : decode cX7_book 9 = .ok (.iload_n 1, 1) := by decide +kernel
theorem dX7_book_10 : decode cX7_book 10 = .ok (.imul, 1) := by decide +kernel
theorem dX7_book_11 : decode cX7_book 11 = .ok (.iadd, 1) := by decide +kernel
theorem dX7_book_12 : decode cX7_book 12 = .ok (.iload_n 2, 1) := by decide +kernel
theorem dX7_book_13 : decode cX7_book 13 = .ok (.iadd, 1) := by decide +kernel
theorem dX7_book_14 : decode cX7_book 14 = .ok (.iload_n 3, 1) := by decide +kernel
theorem dX7_book_15 : decode cX7_book 15 = .ok (.iastore, 1) := by decide +kernel
theorem dX7_book_16 : decode cX7_book 16 = .ok (.return_, 1) := by decide +kernel
set_option maxRecDepth 20000 in
theorem ggX7_standing_X7_of : GoodIn wsX7_standing wsX7_of := goodIn_r _ [5, 6, 7, 8, 9, 10, 11, 12, 13, 14, 15, 16, 17, 18, 19, 20, 21, 22, 23, 24] (by decide +kernel) (by decide +kernel)
set_option maxRecDepth 20000 in
theorem gX7_standing_X7_of : GoodIn wsX7_standing (wsV RX7 98 RX7 yX7_of wsX7_of) := goodIn_app (goodIn_of _ (by decide +kernel)) ggX7_standing_X7_of
theorem dX7_standing_0 : decode cX7_standing 0 = .ok (.bipush 10, 2) := by decide +kernel
theorem dX7_standing_2 : decode cX7_standing 2 = .ok (.aload_n 0, 1) := by decide +kernel
theorem dX7_standing_3 : decode cX7_standing 3 = .ok (.iload_n 1, 1) := by decide +kernel
theorem dX7_standing_4 : decode cX7_standing 4 = .ok (.iconst 3, 1) := by decide +kernel
theorem dX7_standing_5 : decode cX7_standing 5 = .ok (.invokevirtual 98, 3) := by decide +kernel
theorem dX7_standing_8 : decode cX7_standing 8 = .ok (.imul, 1) := by decide +kernel
theorem dX7_standing_9 : decode cX7_standing 9 = .ok (.iconst 5, 1) := by decide +kernel
theorem dX7_standing_10 : decode cX7_standing 10 = .ok (.aload_n 0, 1) := by decide +kernel
theorem dX7_standing_11 : decode cX7_standing 11 = .ok (.iload_n 1, 1) := by decide +kernel
theorem dX7_standing_12 : decode cX7_standing 12 = .ok (.bipush 9, 2) := by decide +kernel
theorem dX7_standing_14 : decode cX7_standing 14 = .ok (.invokevirtual 98, 3) := by decide +kernel
theorem dX7_standing_17 : decode cX7_standing 17 = .ok (.imul, 1) := by decide +kernel
theorem dX7_standing_18 : decode cX7_standing 18 = .ok (.iadd, 1) := by decide +kernel
theorem dX7_standing_19 : decode cX7_standing 19 = .ok (.aload_n 0, 1) := by decide +kernel
theorem dX7_standing_20 : decode cX7_standing 20 = .ok (.iload_n 1, 1) := by decide +kernel
theorem dX7_standing_21 : decode cX7_standing 21 = .ok (.iconst 5, 1) := by decide +kernel
theorem dX7_standing_22 : decode cX7_standing 22 = .ok (.invokevirtual 98, 3) := by decide +kernel
theorem dX7_standing_25 : decode cX7_standing 25 = .ok (.iadd, 1) := by decide +kernel
theorem dX7_standing_26 : decode cX7_standing 26 = .ok (.ireturn, 1) := by decide +kernel
set_option maxRecDepth 20000 in
theorem ggX7_lengthOf_X7_standing : GoodIn wsX7_lengthOf wsX7_standing := goodIn_r _ [5, 6, 7, 8, 4, 9, 10, 53, 54, 55, 56, 57, 58, 59, 60, 61, 62, 63, 64, 65, 66, 67, 68, 69, 70] (by decide +kernel) (by decide +kernel)
set_option maxRecDepth 20000 in
theorem gX7_lengthOf_X7_standing : GoodIn wsX7_lengthOf (wsV RX7 101 RX7 yX7_standing wsX7_standing) := goodIn_app (goodIn_of _ (by decide +kernel)) ggX7_lengthOf_X7_standing
set_option maxRecDepth 20000 in
theorem ggX7_lengthOf_X7_of : GoodIn wsX7_lengthOf wsX7_of := goodIn_r _ [9, 10, 53, 54, 55, 56, 57, 58, 59, 60, 61, 62, 63, 64, 65, 66, 67, 68, 69, 70] (by decide +kernel) (by decide +kernel)
set_option maxRecDepth 20000 in
theorem gX7_lengthOf_X7_of : GoodIn wsX7_lengthOf (wsV RX7 98 RX7 yX7_of wsX7_of) := goodIn_app (goodIn_of _ (by decide +kernel)) ggX7_lengthOf_X7_of
set_option maxRecDepth 20000 in
theorem ggX7_lengthOf_X7_farOf : GoodIn wsX7_lengthOf wsX7_farOf := goodIn_r _ [14, 15, 16, 17, 18, 4, 19, 20, 21, 22, 23, 24, 25, 10, 26, 27, 28, 29, 30, 31, 32, 33, 34, 35, 36, 37, 38, 39, 40, 41, 42, 43, 44, 45, 46, 47, 48, 49, 50, 51, 52, 53, 54, 55, 56, 57, 58, 59, 60, 61, 62, 63, 64, 65, 66, 67, 68, 69, 70] (by decide +kernel) (by decide +kernel)
set_option maxRecDepth 20000 in
theorem gX7_lengthOf_X7_farOf : GoodIn wsX7_lengthOf (wsV RX7 105 RX7 yX7_farOf wsX7_farOf) := goodIn_app (goodIn_of _ (by decide +kernel)) ggX7_lengthOf_X7_farOf
theorem dX7_lengthOf_0 : decode cX7_lengthOf 0 = .ok (.aload_n 0, 1) := by decide +kernel
theorem dX7_lengthOf_1 : decode cX7_lengthOf 1 = .ok (.aload_n 0, 1) := by decide +kernel
theorem dX7_lengthOf_2 : decode cX7_lengthOf 2 = .ok (.iload_n 1, 1) := by decide +kernel
theorem dX7_lengthOf_3 : decode cX7_lengthOf 3 = .ok (.invokevirtual 101, 3) := by decide +kernel
theorem dX7_lengthOf_6 : decode cX7_lengthOf 6 = .ok (.aload_n 0, 1) := by decide +kernel
theorem dX7_lengthOf_7 : decode cX7_lengthOf 7 = .ok (.iload_n 1, 1) := by decide +kernel
theorem dX7_lengthOf_8 : decode cX7_lengthOf 8 = .ok (.iconst 1, 1) := by decide +kernel
theorem dX7_lengthOf_9 : decode cX7_lengthOf 9 = .ok (.invokevirtual 98, 3) := by decide +kernel
theorem dX7_lengthOf_12 : decode cX7_lengthOf 12 = .ok (.invokevirtual 105, 3) := by decide +kernel
theorem dX7_lengthOf_15 : decode cX7_lengthOf 15 = .ok (.ireturn, 1) := by decide +kernel
set_option maxRecDepth 20000 in
theorem ggX7_laySides_X7_of : GoodIn wsX7_laySides wsX7_of := goodIn_r _ [6, 7, 54, 55, 56, 57, 58, 59, 60, 61, 62, 63, 64, 65, 66, 67, 68, 69, 70, 71] (by decide +kernel) (by decide +kernel)
set_option maxRecDepth 20000 in
theorem gX7_laySides_X7_of : GoodIn wsX7_laySides (wsV RX7 98 RX7 yX7_of wsX7_of) := goodIn_app (goodIn_of _ (by decide +kernel)) ggX7_laySides_X7_of
set_option maxRecDepth 20000 in
theorem ggX7_laySides_X7_standing : GoodIn wsX7_laySides wsX7_standing := goodIn_r _ [11, 2, 3, 4, 5, 6, 7, 54, 55, 56, 57, 58, 59, 60, 61, 62, 63, 64, 65, 66, 67, 68, 69, 70, 71] (by decide +kernel) (by decide +kernel)
set_option maxRecDepth 20000 in
theorem gX7_laySides_X7_standing : GoodIn wsX7_laySides (wsV RX7 101 RX7 yX7_standing wsX7_standing) := goodIn_app (goodIn_of _ (by decide +kernel)) ggX7_laySides_X7_standing
set_option maxRecDepth 20000 in
theorem ggX7_laySides_X7_moved : GoodIn wsX7_laySides wsX7_moved := goodIn_r _ [15, 7, 16, 17, 18, 5, 19, 20, 21, 22, 23, 24, 25, 26, 27, 28, 29, 30, 31, 32, 33, 34, 35, 36, 37, 38, 54, 55, 56, 57, 58, 59, 60, 61, 62, 63, 64, 65, 66, 67, 68, 69, 70, 71] (by decide +kernel) (by decide +kernel)
set_option maxRecDepth 20000 in
theorem gX7_laySides_X7_moved : GoodIn wsX7_laySides (wsV RX7 90 RX7 yX7_moved wsX7_moved) := goodIn_app (goodIn_of _ (by decide +kernel)) ggX7_laySides_X7_moved
set_option maxRecDepth 20000 in
theorem ggX7_laySides_X7_farOf : GoodIn wsX7_laySides wsX7_farOf := goodIn_r _ [42, 43, 44, 45, 46, 5, 47, 48, 49, 50, 51, 52, 53, 7, 12, 13, 14, 15, 16, 17, 18, 19, 20, 21, 22, 23, 24, 25, 26, 27, 28, 29, 30, 31, 32, 33, 34, 35, 36, 37, 38, 54, 55, 56, 57, 58, 59, 60, 61, 62, 63, 64, 65, 66, 67, 68, 69, 70, 71] (by decide +kernel) (by decide +kernel)
set_option maxRecDepth 20000 in
theorem gX7_laySides_X7_farOf : GoodIn wsX7_laySides (wsV RX7 105 RX7 yX7_farOf wsX7_farOf) := goodIn_app (goodIn_of _ (by decide +kernel)) ggX7_laySides_X7_farOf
theorem dX7_laySides_0 : decode cX7_laySides 0 = .ok (.iconst 0, 1) := by decide +kernel
theorem dX7_laySides_1 : decode cX7_laySides 1 = .ok (.istore_n 2, 1) := by decide +kernel
theorem dX7_laySides_2 : decode cX7_laySides 2 = .ok (.aload_n 0, 1) := by decide +kernel
theorem dX7_laySides_3 : decode cX7_laySides 3 = .ok (.iload_n 1, 1) := by decide +kernel
theorem dX7_laySides_4 : decode cX7_laySides 4 = .ok (.iconst 1, 1) := by decide +kernel
theorem dX7_laySides_5 : decode cX7_laySides 5 = .ok (.invokevirtual 98, 3) := by decide +kernel
theorem dX7_laySides_8 : decode cX7_laySides 8 = .ok (.istore_n 3, 1) := by decide +kernel
theorem dX7_laySides_9 : decode cX7_laySides 9 = .ok (.aload_n 0, 1) := by decide +kernel
theorem dX7_laySides_10 : decode cX7_laySides 10 = .ok (.iload_n 1, 1) := by decide +kernel
theorem dX7_laySides_11 : decode cX7_laySides 11 = .ok (.invokevirtual 101, 3) := by decide +kernel
theorem dX7_laySides_14 : decode cX7_laySides 14 = .ok (.istore 4, 2) := by decide +kernel
theorem dX7_laySides_16 : decode cX7_laySides 16 = .ok (.iconst 0, 1) := by decide +kernel
theorem dX7_laySides_17 : decode cX7_laySides 17 = .ok (.istore 5, 2) := by decide +kernel
theorem dX7_laySides_19 : decode cX7_laySides 19 = .ok (.iload 5, 2) := by decide +kernel
theorem dX7_laySides_21 : decode cX7_laySides 21 = .ok (.iconst 4, 1) := by decide +kernel
theorem dX7_laySides_22 : decode cX7_laySides 22 = .ok (.if_icmp .ge 108, 3) := by decide +kernel
theorem dX7_laySides_25 : decode cX7_laySides 25 = .ok (.aload_n 0, 1) := by decide +kernel
theorem dX7_laySides_26 : decode cX7_laySides 26 = .ok (.iload 4, 2) := by decide +kernel
theorem dX7_laySides_28 : decode cX7_laySides 28 = .ok (.iload 5, 2) := by decide +kernel
theorem dX7_laySides_30 : decode cX7_laySides 30 = .ok (.iload_n 3, 1) := by decide +kernel
theorem dX7_laySides_31 : decode cX7_laySides 31 = .ok (.invokevirtual 90, 3) := by decide +kernel
theorem dX7_laySides_34 : decode cX7_laySides 34 = .ok (.istore 6, 2) := by decide +kernel
theorem dX7_laySides_36 : decode cX7_laySides 36 = .ok (.iload 6, 2) := by decide +kernel
theorem dX7_laySides_38 : decode cX7_laySides 38 = .ok (.ifCond .lt 86, 3) := by decide +kernel
theorem dX7_laySides_41 : decode cX7_laySides 41 = .ok (.aload_n 0, 1) := by decide +kernel
theorem dX7_laySides_42 : decode cX7_laySides 42 = .ok (.iload 6, 2) := by decide +kernel
theorem dX7_laySides_44 : decode cX7_laySides 44 = .ok (.iload_n 3, 1) := by decide +kernel
theorem dX7_laySides_45 : decode cX7_laySides 45 = .ok (.invokevirtual 105, 3) := by decide +kernel
theorem dX7_laySides_48 : decode cX7_laySides 48 = .ok (.ifCond .lt 76, 3) := by decide +kernel
theorem dX7_laySides_51 : decode cX7_laySides 51 = .ok (.iload_n 2, 1) := by decide +kernel
theorem dX7_laySides_52 : decode cX7_laySides 52 = .ok (.istore 7, 2) := by decide +kernel
theorem dX7_laySides_54 : decode cX7_laySides 54 = .ok (.iload 7, 2) := by decide +kernel
theorem dX7_laySides_56 : decode cX7_laySides 56 = .ok (.ifCond .le 56, 3) := by decide +kernel
theorem dX7_laySides_59 : decode cX7_laySides 59 = .ok (.aload_n 0, 1) := by decide +kernel
theorem dX7_laySides_60 : decode cX7_laySides 60 = .ok (.aload_n 0, 1) := by decide +kernel
theorem dX7_laySides_61 : decode cX7_laySides 61 = .ok (.iload 4, 2) := by decide +kernel
theorem dX7_laySides_63 : decode cX7_laySides 63 = .ok (.aload_n 0, 1) := by decide +kernel
theorem dX7_laySides_64 : decode cX7_laySides 64 = .ok (.getfield 38, 3) := by decide +kernel
theorem dX7_laySides_67 : decode cX7_laySides 67 = .ok (.iload 7, 2) := by decide +kernel
theorem dX7_laySides_69 : decode cX7_laySides 69 = .ok (.iconst 1, 1) := by decide +kernel
theorem dX7_laySides_70 : decode cX7_laySides 70 = .ok (.isub, 1) := by decide +kernel
theorem dX7_laySides_71 : decode cX7_laySides 71 = .ok (.iaload, 1) := by decide +kernel
theorem dX7_laySides_72 : decode cX7_laySides 72 = .ok (.iload_n 3, 1) := by decide +kernel
theorem dX7_laySides_73 : decode cX7_laySides 73 = .ok (.invokevirtual 90, 3) := by decide +kernel
theorem dX7_laySides_76 : decode cX7_laySides 76 = .ok (.iload_n 3, 1) := by decide +kernel
theorem dX7_laySides_77 : decode cX7_laySides 77 = .ok (.invokevirtual 105, 3) := by decide +kernel
theorem dX7_laySides_80 : decode cX7_laySides 80 = .ok (.aload_n 0, 1) := by decide +kernel
theorem dX7_laySides_81 : decode cX7_laySides 81 = .ok (.iload 6, 2) := by decide +kernel
theorem dX7_laySides_83 : decode cX7_laySides 83 = .ok (.iload_n 3, 1) := by decide +kernel
theorem dX7_laySides_84 : decode cX7_laySides 84 = .ok (.invokevirtual 105, 3) := by decide +kernel
theorem dX7_laySides_87 : decode cX7_laySides 87 = .ok (.if_icmp .le 25, 3) := by decide +kernel
theorem dX7_laySides_90 : decode cX7_laySides 90 = .ok (.aload_n 0, 1) := by decide +kernel
theorem dX7_laySides_91 : decode cX7_laySides 91 = .ok (.getfield 38, 3) := by decide +kernel
theorem dX7_laySides_94 : decode cX7_laySides 94 = .ok (.iload 7, 2) := by decide +kernel
theorem dX7_laySides_96 : decode cX7_laySides 96 = .ok (.aload_n 0, 1) := by decide +kernel
theorem dX7_laySides_97 : decode cX7_laySides 97 = .ok (.getfield 38, 3) := by decide +kernel
theorem dX7_laySides_100 : decode cX7_laySides 100 = .ok (.iload 7, 2) := by decide +kernel
theorem dX7_laySides_102 : decode cX7_laySides 102 = .ok (.iconst 1, 1) := by decide +kernel
theorem dX7_laySides_103 : decode cX7_laySides 103 = .ok (.isub, 1) := by decide +kernel
theorem dX7_laySides_104 : decode cX7_laySides 104 = .ok (.iaload, 1) := by decide +kernel
theorem dX7_laySides_105 : decode cX7_laySides 105 = .ok (.iastore, 1) := by decide +kernel
theorem dX7_laySides_106 : decode cX7_laySides 106 = .ok (.iinc 7 (-1), 3) := by decide +kernel
theorem dX7_laySides_109 : decode cX7_laySides 109 = .ok (.goto (-55), 3) := by decide +kernel
theorem dX7_laySides_112 : decode cX7_laySides 112 = .ok (.aload_n 0, 1) := by decide +kernel
theorem dX7_laySides_113 : decode cX7_laySides 113 = .ok (.getfield 38, 3) := by decide +kernel
theorem dX7_laySides_116 : decode cX7_laySides 116 = .ok (.iload 7, 2) := by decide +kernel
theorem dX7_laySides_118 : decode cX7_laySides 118 = .ok (.iload 5, 2) := by decide +kernel
theorem dX7_laySides_120 : decode cX7_laySides 120 = .ok (.iastore, 1) := by decide +kernel
theorem dX7_laySides_121 : decode cX7_laySides 121 = .ok (.iinc 2 1, 3) := by decide +kernel
theorem dX7_laySides_124 : decode cX7_laySides 124 = .ok (.iinc 5 1, 3) := by decide +kernel
theorem dX7_laySides_127 : decode cX7_laySides 127 = .ok (.goto (-108), 3) := by decide +kernel
theorem dX7_laySides_130 : decode cX7_laySides 130 = .ok (.iload_n 2, 1) := by decide +kernel
theorem dX7_laySides_131 : decode cX7_laySides 131 = .ok (.ireturn, 1) := by decide +kernel
set_option maxRecDepth 20000 in
theorem ggX7_insideOf_X7_of : GoodIn wsX7_insideOf wsX7_of := goodIn_r _ [6, 1, 7, 8, 9, 10, 11, 12, 13, 14, 15, 16, 17, 18, 19, 20, 21, 22, 23, 24] (by decide +kernel) (by decide +kernel)
set_option maxRecDepth 20000 in
theorem gX7_insideOf_X7_of : GoodIn wsX7_insideOf (wsV RX7 98 RX7 yX7_of wsX7_of) := goodIn_app (goodIn_of _ (by decide +kernel)) ggX7_insideOf_X7_of
theorem dX7_insideOf_0 : decode cX7_insideOf 0 = .ok (.iconst 0, 1) := by decide +kernel
theorem dX7_insideOf_1 : decode cX7_insideOf 1 = .ok (.istore_n 2, 1) := by decide +kernel
theorem dX7_insideOf_2 : decode cX7_insideOf 2 = .ok (.iconst 0, 1) := by decide +kernel
theorem dX7_insideOf_3 : decode cX7_insideOf 3 = .ok (.istore_n 3, 1) := by decide +kernel
theorem dX7_insideOf_4 : decode cX7_insideOf 4 = .ok (.iload_n 3, 1) := by decide +kernel
theorem dX7_insideOf_5 : decode cX7_insideOf 5 = .ok (.aload_n 0, 1) := by decide +kernel
theorem dX7_insideOf_6 : decode cX7_insideOf 6 = .ok (.getfield 7, 3) := by decide +kernel
theorem dX7_insideOf_9 : decode cX7_insideOf 9 = .ok (.bipush 6, 2) := by decide +kernel
theorem dX7_insideOf_11 : decode cX7_insideOf 11 = .ok (.iaload, 1) := by decide +kernel
theorem dX7_insideOf_12 : decode cX7_insideOf 12 = .ok (.if_icmp .ge 37, 3) := by decide +kernel
theorem dX7_insideOf_15 : decode cX7_insideOf 15 = .ok (.iload_n 2, 1) := by decide +kernel
theorem dX7_insideOf_16 : decode cX7_insideOf 16 = .ok (.aload_n 0, 1) := by decide +kernel
theorem dX7_insideOf_17 : decode cX7_insideOf 17 = .ok (.iload_n 3, 1) := by decide +kernel
theorem dX7_insideOf_18 : decode cX7_insideOf 18 = .ok (.iconst 2, 1) := by decide +kernel
theorem dX7_insideOf_19 : decode cX7_insideOf 19 = .ok (.invokevirtual 98, 3) := by decide +kernel
theorem dX7_insideOf_22 : decode cX7_insideOf 22 = .ok (.iconst 1, 1) := by decide +kernel
theorem dX7_insideOf_23 : decode cX7_insideOf 23 = .ok (.if_icmp .ne 17, 3) := by decide +kernel
theorem dX7_insideOf_26 : decode cX7_insideOf 26 = .ok (.aload_n 0, 1) := by decide +kernel
theorem dX7_insideOf_27 : decode cX7_insideOf 27 = .ok (.iload_n 3, 1) := by decide +kernel
theorem dX7_insideOf_28 : decode cX7_insideOf 28 = .ok (.iconst 3, 1) := by decide +kernel
theorem dX7_insideOf_29 : decode cX7_insideOf 29 = .ok (.invokevirtual 98, 3) := by decide +kernel
theorem dX7_insideOf_32 : decode cX7_insideOf 32 = .ok (.iload_n 1, 1) := by decide +kernel
theorem dX7_insideOf_33 : decode cX7_insideOf 33 = .ok (.if_icmp .ne 7, 3) := by decide +kernel
theorem dX7_insideOf_36 : decode cX7_insideOf 36 = .ok (.iconst 1, 1) := by decide +kernel
theorem dX7_insideOf_37 : decode cX7_insideOf 37 = .ok (.goto 4, 3) := by decide +kernel
theorem dX7_insideOf_40 : decode cX7_insideOf 40 = .ok (.iconst 0, 1) := by decide +kernel
theorem dX7_insideOf_41 : decode cX7_insideOf 41 = .ok (.iadd, 1) := by decide +kernel
theorem dX7_insideOf_42 : decode cX7_insideOf 42 = .ok (.istore_n 2, 1) := by decide +kernel
theorem dX7_insideOf_43 : decode cX7_insideOf 43 = .ok (.iinc 3 1, 3) := by decide +kernel
theorem dX7_insideOf_46 : decode cX7_insideOf 46 = .ok (.goto (-42), 3) := by decide +kernel
theorem dX7_insideOf_49 : decode cX7_insideOf 49 = .ok (.iload_n 2, 1) := by decide +kernel
theorem dX7_insideOf_50 : decode cX7_insideOf 50 = .ok (.ireturn, 1) := by decide +kernel
set_option maxRecDepth 20000 in
theorem ggX7_hasRoom_X7_insideOf : GoodIn wsX7_hasRoom wsX7_insideOf := goodIn_r _ [6, 1, 7, 8, 9, 5, 10, 11, 12, 13, 14, 15, 16, 17, 18, 19, 20, 21, 22, 23, 24, 25, 26, 27, 28] (by decide +kernel) (by decide +kernel)
set_option maxRecDepth 20000 in
theorem gX7_hasRoom_X7_insideOf : GoodIn wsX7_hasRoom (wsV RX7 108 RX7 yX7_insideOf wsX7_insideOf) := goodIn_app (goodIn_of _ (by decide +kernel)) ggX7_hasRoom_X7_insideOf
theorem dX7_hasRoom_0 : decode cX7_hasRoom 0 = .ok (.aload_n 0, 1) := by decide +kernel
theorem dX7_hasRoom_1 : decode cX7_hasRoom 1 = .ok (.iload_n 1, 1) := by decide +kernel
theorem dX7_hasRoom_2 : decode cX7_hasRoom 2 = .ok (.invokevirtual 108, 3) := by decide +kernel
theorem dX7_hasRoom_5 : decode cX7_hasRoom 5 = .ok (.aload_n 0, 1) := by decide +kernel
theorem dX7_hasRoom_6 : decode cX7_hasRoom 6 = .ok (.getfield 7, 3) := by decide +kernel
theorem dX7_hasRoom_9 : decode cX7_hasRoom 9 = .ok (.iconst 2, 1) := by decide +kernel
theorem dX7_hasRoom_10 : decode cX7_hasRoom 10 = .ok (.iaload, 1) := by decide +kernel
theorem dX7_hasRoom_11 : decode cX7_hasRoom 11 = .ok (.if_icmp .ge 7, 3) := by decide +kernel
theorem dX7_hasRoom_14 : decode cX7_hasRoom 14 = .ok (.iconst 1, 1) := by decide +kernel
theorem dX7_hasRoom_15 : decode cX7_hasRoom 15 = .ok (.goto 4, 3) := by decide +kernel
theorem dX7_hasRoom_18 : decode cX7_hasRoom 18 = .ok (.iconst 0, 1) := by decide +kernel
theorem dX7_hasRoom_19 : decode cX7_hasRoom 19 = .ok (.ireturn, 1) := by decide +kernel
set_option maxRecDepth 20000 in
theorem ggX7_send_X7_isBox : GoodIn wsX7_send wsX7_isBox := goodIn_r _ [6, 7, 8, 9, 5, 10, 1, 11, 12, 13, 60, 61, 62, 63, 64, 65, 66, 67, 68, 69, 70, 71, 72, 73, 74, 75, 76, 77] (by decide +kernel) (by decide +kernel)
set_option maxRecDepth 20000 in
theorem gX7_send_X7_isBox : GoodIn wsX7_send (wsV RX7 76 RX7 yX7_isBox wsX7_isBox) := goodIn_app (goodIn_of _ (by decide +kernel)) ggX7_send_X7_isBox
set_option maxRecDepth 20000 in
theorem ggX7_send_X7_farOf : GoodIn wsX7_send wsX7_farOf := goodIn_r _ [17, 18, 19, 20, 21, 5, 22, 23, 24, 7, 8, 9, 10, 1, 25, 26, 27, 28, 29, 30, 31, 32, 33, 34, 35, 36, 11, 12, 13, 37, 38, 39, 40, 41, 42, 43, 44, 45, 46, 47, 48, 60, 61, 62, 63, 64, 65, 66, 67, 68, 69, 70, 71, 72, 73, 74, 75, 76, 77] (by decide +kernel) (by decide +kernel)
set_option maxRecDepth 20000 in
theorem gX7_send_X7_farOf : GoodIn wsX7_send (wsV RX7 105 RX7 yX7_farOf wsX7_farOf) := goodIn_app (goodIn_of _ (by decide +kernel)) ggX7_send_X7_farOf
set_option maxRecDepth 20000 in
theorem ggX7_send_X7_record : GoodIn wsX7_send wsX7_record := goodIn_r _ [52, 53, 54, 55, 1, 60, 61, 62, 63, 64, 65, 66, 67, 68, 69, 70, 71, 72, 73, 74, 75, 76, 77] (by decide +kernel) (by decide +kernel)
set_option maxRecDepth 20000 in
theorem gX7_send_X7_record : GoodIn wsX7_send (wsV RX7 70 RX7 yX7_record wsX7_record) := goodIn_app (goodIn_of _ (by decide +kernel)) ggX7_send_X7_record
set_option maxRecDepth 20000 in
theorem ggX7_send_X7_book : GoodIn wsX7_send wsX7_book := goodIn_r _ [59, 1, 60, 61, 62, 63, 64, 65, 66, 67, 68, 69, 70, 71, 72, 73, 74, 75, 76, 77] (by decide +kernel) (by decide +kernel)
set_option maxRecDepth 20000 in
theorem gX7_send_X7_book : GoodIn wsX7_send (wsV RX7 111 RX7 yX7_book wsX7_book) := goodIn_app (goodIn_of _ (by decide +kernel)) ggX7_send_X7_book
theorem dX7_send_0 : decode cX7_send 0 = .ok (.aload_n 0, 1) := by decide +kernel
theorem dX7_send_1 : decode cX7_send 1 = .ok (.iload_n 1, 1) := by decide +kernel
theorem dX7_send_2 : decode cX7_send 2 = .ok (.invokevirtual 76, 3) := by decide +kernel
theorem dX7_send_5 : decode cX7_send 5 = .ok (.ifCond .eq 16, 3) := by decide +kernel
theorem dX7_send_8 : decode cX7_send 8 = .ok (.aload_n 0, 1) := by decide +kernel
theorem dX7_send_9 : decode cX7_send 9 = .ok (.iload_n 2, 1) := by decide +kernel
theorem dX7_send_10 : decode cX7_send 10 = .ok (.invokevirtual 76, 3) := by decide +kernel
theorem dX7_send_13 : decode cX7_send 13 = .ok (.ifCond .eq 8, 3) := by decide +kernel
theorem dX7_send_16 : decode cX7_send 16 = .ok (.iload_n 1, 1) := by decide +kernel
theorem dX7_send_17 : decode cX7_send 17 = .ok (.iload_n 2, 1) := by decide +kernel
theorem dX7_send_18 : decode cX7_send 18 = .ok (.if_icmp .ne 5, 3) := by decide +kernel
theorem dX7_send_21 : decode cX7_send 21 = .ok (.iconst (-1), 1) := by decide +kernel
theorem dX7_send_22 : decode cX7_send 22 = .ok (.ireturn, 1) := by decide +kernel
theorem dX7_send_23 : decode cX7_send 23 = .ok (.aload_n 0, 1) := by decide +kernel
theorem dX7_send_24 : decode cX7_send 24 = .ok (.getfield 7, 3) := by decide +kernel
theorem dX7_send_27 : decode cX7_send 27 = .ok (.bipush 6, 2) := by decide +kernel
theorem dX7_send_29 : decode cX7_send 29 = .ok (.iaload, 1) := by decide +kernel
theorem dX7_send_30 : decode cX7_send 30 = .ok (.bipush 40, 2) := by decide +kernel
theorem dX7_send_32 : decode cX7_send 32 = .ok (.if_icmp .ne 6, 3) := by decide +kernel
theorem dX7_send_35 : decode cX7_send 35 = .ok (.bipush (-4), 2) := by decide +kernel
theorem dX7_send_37 : decode cX7_send 37 = .ok (.ireturn, 1) := by decide +kernel
theorem dX7_send_38 : decode cX7_send 38 = .ok (.aload_n 0, 1) := by decide +kernel
theorem dX7_send_39 : decode cX7_send 39 = .ok (.bipush 10, 2) := by decide +kernel
theorem dX7_send_41 : decode cX7_send 41 = .ok (.iload_n 1, 1) := by decide +kernel
theorem dX7_send_42 : decode cX7_send 42 = .ok (.imul, 1) := by decide +kernel
theorem dX7_send_43 : decode cX7_send 43 = .ok (.iload_n 2, 1) := by decide +kernel
theorem dX7_send_44 : decode cX7_send 44 = .ok (.invokevirtual 105, 3) := by decide +kernel
theorem dX7_send_47 : decode cX7_send 47 = .ok (.ifCond .ge 6, 3) := by decide +kernel
theorem dX7_send_50 : decode cX7_send 50 = .ok (.bipush (-5), 2) := by decide +kernel
theorem dX7_send_52 : decode cX7_send 52 = .ok (.ireturn, 1) := by decide +kernel
theorem dX7_send_53 : decode cX7_send 53 = .ok (.aload_n 0, 1) := by decide +kernel
theorem dX7_send_54 : decode cX7_send 54 = .ok (.invokevirtual 70, 3) := by decide +kernel
theorem dX7_send_57 : decode cX7_send 57 = .ok (.aload_n 0, 1) := by decide +kernel
theorem dX7_send_58 : decode cX7_send 58 = .ok (.getfield 7, 3) := by decide +kernel
theorem dX7_send_61 : decode cX7_send 61 = .ok (.bipush 6, 2) := by decide +kernel
theorem dX7_send_63 : decode cX7_send 63 = .ok (.iaload, 1) := by decide +kernel
theorem dX7_send_64 : decode cX7_send 64 = .ok (.istore_n 3, 1) := by decide +kernel
theorem dX7_send_65 : decode cX7_send 65 = .ok (.aload_n 0, 1) := by decide +kernel
theorem dX7_send_66 : decode cX7_send 66 = .ok (.getfield 7, 3) := by decide +kernel
theorem dX7_send_69 : decode cX7_send 69 = .ok (.bipush 6, 2) := by decide +kernel
theorem dX7_send_71 : decode cX7_send 71 = .ok (.dup2, 1) := by decide +kernel
theorem dX7_send_72 : decode cX7_send 72 = .ok (.iaload, 1) := by decide +kernel
theorem dX7_send_73 : decode cX7_send 73 = .ok (.iconst 1, 1) := by decide +kernel
theorem dX7_send_74 : decode cX7_send 74 = .ok (.iadd, 1) := by decide +kernel
theorem dX7_send_75 : decode cX7_send 75 = .ok (.iastore, 1) := by decide +kernel
theorem dX7_send_76 : decode cX7_send 76 = .ok (.iconst 0, 1) := by decide +kernel
theorem dX7_send_77 : decode cX7_send 77 = .ok (.istore 4, 2) := by decide +kernel
theorem dX7_send_79 : decode cX7_send 79 = .ok (.iload 4, 2) := by decide +kernel
theorem dX7_send_81 : decode cX7_send 81 = .ok (.bipush 10, 2) := by decide +kernel
theorem dX7_send_83 : decode cX7_send 83 = .ok (.if_icmp .ge 17, 3) := by decide +kernel
theorem dX7_send_86 : decode cX7_send 86 = .ok (.aload_n 0, 1) := by decide +kernel
theorem dX7_send_87 : decode cX7_send 87 = .ok (.iload_n 3, 1) := by decide +kernel
theorem dX7_send_88 : decode cX7_send 88 = .ok (.iload 4, 2) := by decide +kernel
theorem dX7_send_90 : decode cX7_send 90 = .ok (.iconst 0, 1) := by decide +kernel
theorem dX7_send_91 : decode cX7_send 91 = .ok (.invokevirtual 111, 3) := by decide +kernel
theorem dX7_send_94 : decode cX7_send 94 = .ok (.iinc 4 1, 3) := by decide +kernel
theorem dX7_send_97 : decode cX7_send 97 = .ok (.goto (-18), 3) := by decide +kernel
theorem dX7_send_100 : decode cX7_send 100 = .ok (.aload_n 0, 1) := by decide +kernel
theorem dX7_send_101 : decode cX7_send 101 = .ok (.iload_n 3, 1) := by decide +kernel
theorem dX7_send_102 : decode cX7_send 102 = .ok (.iconst 0, 1) := by decide +kernel
theorem dX7_send_103 : decode cX7_send 103 = .ok (.iload_n 1, 1) := by decide +kernel
theorem dX7_send_104 : decode cX7_send 104 = .ok (.invokevirtual 111, 3) := by decide +kernel
theorem dX7_send_107 : decode cX7_send 107 = .ok (.aload_n 0, 1) := by decide +kernel
theorem dX7_send_108 : decode cX7_send 108 = .ok (.iload_n 3, 1) := by decide +kernel
theorem dX7_send_109 : decode cX7_send 109 = .ok (.iconst 1, 1) := by decide +kernel
theorem dX7_send_110 : decode cX7_send 110 = .ok (.iload_n 2, 1) := by decide +kernel
theorem dX7_send_111 : decode cX7_send 111 = .ok (.invokevirtual 111, 3) := by decide +kernel
theorem dX7_send_114 : decode cX7_send 114 = .ok (.aload_n 0, 1) := by decide +kernel
theorem dX7_send_115 : decode cX7_send 115 = .ok (.iload_n 3, 1) := by decide +kernel
theorem dX7_send_116 : decode cX7_send 116 = .ok (.iconst 3, 1) := by decide +kernel
theorem dX7_send_117 : decode cX7_send 117 = .ok (.iload_n 1, 1) := by decide +kernel
theorem dX7_send_118 : decode cX7_send 118 = .ok (.invokevirtual 111, 3) := by decide +kernel
theorem dX7_send_121 : decode cX7_send 121 = .ok (.aload_n 0, 1) := by decide +kernel
theorem dX7_send_122 : decode cX7_send 122 = .ok (.iload_n 3, 1) := by decide +kernel
theorem dX7_send_123 : decode cX7_send 123 = .ok (.bipush 7, 2) := by decide +kernel
theorem dX7_send_125 : decode cX7_send 125 = .ok (.aload_n 0, 1) := by decide +kernel
theorem dX7_send_126 : decode cX7_send 126 = .ok (.getfield 7, 3) := by decide +kernel
theorem dX7_send_129 : decode cX7_send 129 = .ok (.iconst 3, 1) := by decide +kernel
theorem dX7_send_130 : decode cX7_send 130 = .ok (.iaload, 1) := by decide +kernel
theorem dX7_send_131 : decode cX7_send 131 = .ok (.invokevirtual 111, 3) := by decide +kernel
theorem dX7_send_134 : decode cX7_send 134 = .ok (.aload_n 0, 1) := by decide +kernel
theorem dX7_send_135 : decode cX7_send 135 = .ok (.iload_n 3, 1) := by decide +kernel
theorem dX7_send_136 : decode cX7_send 136 = .ok (.bipush 8, 2) := by decide +kernel
theorem dX7_send_138 : decode cX7_send 138 = .ok (.bipush (-6), 2) := by decide +kernel
theorem dX7_send_140 : decode cX7_send 140 = .ok (.invokevirtual 111, 3) := by decide +kernel
theorem dX7_send_143 : decode cX7_send 143 = .ok (.iload_n 3, 1) := by decide +kernel
theorem dX7_send_144 : decode cX7_send 144 = .ok (.ireturn, 1) := by decide +kernel
set_option maxRecDepth 20000 in
theorem ggX7_goesTo_X7_laySides : GoodIn wsX7_goesTo wsX7_laySides := goodIn_r _ [6, 1, 7, 8, 9, 5, 10, 11, 12, 13, 14, 15, 16, 17, 18, 19, 20, 21, 22, 23, 24, 25, 26, 27, 28, 29, 30, 31, 32, 33, 34, 35, 36, 37, 38, 39, 40, 41, 42, 43, 44, 45, 46, 47, 48, 49, 50, 51, 52, 53, 54, 55, 56, 57, 66, 67, 68, 69, 70, 71, 72, 73, 74, 75, 76, 77, 78, 79, 80, 81, 82, 83] (by decide +kernel) (by decide +kernel)
set_option maxRecDepth 20000 in
theorem gX7_goesTo_X7_laySides : GoodIn wsX7_goesTo (wsV RX7 115 RX7 yX7_laySides wsX7_laySides) := goodIn_app (goodIn_of _ (by decide +kernel)) ggX7_goesTo_X7_laySides
set_option maxRecDepth 20000 in
theorem ggX7_goesTo_X7_of : GoodIn wsX7_goesTo wsX7_of := goodIn_r _ [10, 11, 66, 67, 68, 69, 70, 71, 72, 73, 74, 75, 76, 77, 78, 79, 80, 81, 82, 83] (by decide +kernel) (by decide +kernel)
set_option maxRecDepth 20000 in
theorem gX7_goesTo_X7_of : GoodIn wsX7_goesTo (wsV RX7 98 RX7 yX7_of wsX7_of) := goodIn_app (goodIn_of _ (by decide +kernel)) ggX7_goesTo_X7_of
set_option maxRecDepth 20000 in
theorem ggX7_goesTo_X7_beside : GoodIn wsX7_goesTo wsX7_beside := goodIn_r _ [27, 11, 28, 29, 5, 30, 66, 67, 68, 69, 70, 71, 72, 73, 74, 75, 76, 77, 78, 79, 80, 81, 82, 83] (by decide +kernel) (by decide +kernel)
set_option maxRecDepth 20000 in
theorem gX7_goesTo_X7_beside : GoodIn wsX7_goesTo (wsV RX7 63 RX7 yX7_beside wsX7_beside) := goodIn_app (goodIn_of _ (by decide +kernel)) ggX7_goesTo_X7_beside
set_option maxRecDepth 20000 in
theorem ggX7_goesTo_X7_hasRoom : GoodIn wsX7_goesTo wsX7_hasRoom := goodIn_r _ [61, 11, 62, 63, 64, 5, 65, 7, 8, 9, 10, 66, 67, 68, 69, 70, 71, 72, 73, 74, 75, 76, 77, 78, 79, 80, 81, 82, 83] (by decide +kernel) (by decide +kernel)
set_option maxRecDepth 20000 in
theorem gX7_goesTo_X7_hasRoom : GoodIn wsX7_goesTo (wsV RX7 118 RX7 yX7_hasRoom wsX7_hasRoom) := goodIn_app (goodIn_of _ (by decide +kernel)) ggX7_goesTo_X7_hasRoom
theorem dX7_goesTo_0 : decode cX7_goesTo 0 = .ok (.aload_n 0, 1) := by decide +kernel
theorem dX7_goesTo_1 : decode cX7_goesTo 1 = .ok (.iload_n 1, 1) := by decide +kernel
theorem dX7_goesTo_2 : decode cX7_goesTo 2 = .ok (.invokevirtual 115, 3) := by decide +kernel
theorem dX7_goesTo_5 : decode cX7_goesTo 5 = .ok (.istore_n 2, 1) := by decide +kernel
theorem dX7_goesTo_6 : decode cX7_goesTo 6 = .ok (.iconst 0, 1) := by decide +kernel
theorem dX7_goesTo_7 : decode cX7_goesTo 7 = .ok (.istore_n 3, 1) := by decide +kernel
theorem dX7_goesTo_8 : decode cX7_goesTo 8 = .ok (.iload_n 3, 1) := by decide +kernel
theorem dX7_goesTo_9 : decode cX7_goesTo 9 = .ok (.iload_n 2, 1) := by decide +kernel
theorem dX7_goesTo_10 : decode cX7_goesTo 10 = .ok (.if_icmp .ge 54, 3) := by decide +kernel
theorem dX7_goesTo_13 : decode cX7_goesTo 13 = .ok (.aload_n 0, 1) := by decide +kernel
theorem dX7_goesTo_14 : decode cX7_goesTo 14 = .ok (.aload_n 0, 1) := by decide +kernel
theorem dX7_goesTo_15 : decode cX7_goesTo 15 = .ok (.iload_n 1, 1) := by decide +kernel
theorem dX7_goesTo_16 : decode cX7_goesTo 16 = .ok (.iconst 3, 1) := by decide +kernel
theorem dX7_goesTo_17 : decode cX7_goesTo 17 = .ok (.invokevirtual 98, 3) := by decide +kernel
theorem dX7_goesTo_20 : decode cX7_goesTo 20 = .ok (.aload_n 0, 1) := by decide +kernel
theorem dX7_goesTo_21 : decode cX7_goesTo 21 = .ok (.getfield 38, 3) := by decide +kernel
theorem dX7_goesTo_24 : decode cX7_goesTo 24 = .ok (.iload_n 3, 1) := by decide +kernel
theorem dX7_goesTo_25 : decode cX7_goesTo 25 = .ok (.iaload, 1) := by decide +kernel
theorem dX7_goesTo_26 : decode cX7_goesTo 26 = .ok (.invokevirtual 63, 3) := by decide +kernel
theorem dX7_goesTo_29 : decode cX7_goesTo 29 = .ok (.istore 4, 2) := by decide +kernel
theorem dX7_goesTo_31 : decode cX7_goesTo 31 = .ok (.iload 4, 2) := by decide +kernel
theorem dX7_goesTo_33 : decode cX7_goesTo 33 = .ok (.aload_n 0, 1) := by decide +kernel
theorem dX7_goesTo_34 : decode cX7_goesTo 34 = .ok (.iload_n 1, 1) := by decide +kernel
theorem dX7_goesTo_35 : decode cX7_goesTo 35 = .ok (.iconst 1, 1) := by decide +kernel
theorem dX7_goesTo_36 : decode cX7_goesTo 36 = .ok (.invokevirtual 98, 3) := by decide +kernel
theorem dX7_goesTo_39 : decode cX7_goesTo 39 = .ok (.if_icmp .eq 12, 3) := by decide +kernel
theorem dX7_goesTo_42 : decode cX7_goesTo 42 = .ok (.aload_n 0, 1) := by decide +kernel
theorem dX7_goesTo_43 : decode cX7_goesTo 43 = .ok (.iload 4, 2) := by decide +kernel
theorem dX7_goesTo_45 : decode cX7_goesTo 45 = .ok (.invokevirtual 118, 3) := by decide +kernel
theorem dX7_goesTo_48 : decode cX7_goesTo 48 = .ok (.ifCond .eq 10, 3) := by decide +kernel
theorem dX7_goesTo_51 : decode cX7_goesTo 51 = .ok (.aload_n 0, 1) := by decide +kernel
theorem dX7_goesTo_52 : decode cX7_goesTo 52 = .ok (.getfield 38, 3) := by decide +kernel
theorem dX7_goesTo_55 : decode cX7_goesTo 55 = .ok (.iload_n 3, 1) := by decide +kernel
theorem dX7_goesTo_56 : decode cX7_goesTo 56 = .ok (.iaload, 1) := by decide +kernel
theorem dX7_goesTo_57 : decode cX7_goesTo 57 = .ok (.ireturn, 1) := by decide +kernel
theorem dX7_goesTo_58 : decode cX7_goesTo 58 = .ok (.iinc 3 1, 3) := by decide +kernel
theorem dX7_goesTo_61 : decode cX7_goesTo 61 = .ok (.goto (-53), 3) := by decide +kernel
theorem dX7_goesTo_64 : decode cX7_goesTo 64 = .ok (.bipush (-6), 2) := by decide +kernel
theorem dX7_goesTo_66 : decode cX7_goesTo 66 = .ok (.ireturn, 1) := by decide +kernel
set_option maxRecDepth 20000 in
theorem ggX7_move_X7_of : GoodIn wsX7_move wsX7_of := goodIn_r _ [6, 1, 26, 27, 28, 29, 30, 31, 32, 33, 34, 35, 36, 37, 38, 39, 40, 41, 42, 43] (by decide +kernel) (by decide +kernel)
set_option maxRecDepth 20000 in
theorem gX7_move_X7_of : GoodIn wsX7_move (wsV RX7 98 RX7 yX7_of wsX7_of) := goodIn_app (goodIn_of _ (by decide +kernel)) ggX7_move_X7_of
set_option maxRecDepth 20000 in
theorem ggX7_move_X7_beside : GoodIn wsX7_move wsX7_beside := goodIn_r _ [10, 1, 11, 12, 5, 13, 26, 27, 28, 29, 30, 31, 32, 33, 34, 35, 36, 37, 38, 39, 40, 41, 42, 43] (by decide +kernel) (by decide +kernel)
set_option maxRecDepth 20000 in
theorem gX7_move_X7_beside : GoodIn wsX7_move (wsV RX7 63 RX7 yX7_beside wsX7_beside) := goodIn_app (goodIn_of _ (by decide +kernel)) ggX7_move_X7_beside
set_option maxRecDepth 20000 in
theorem ggX7_move_X7_book : GoodIn wsX7_move wsX7_book := goodIn_r _ [17, 1, 26, 27, 28, 29, 30, 31, 32, 33, 34, 35, 36, 37, 38, 39, 40, 41, 42, 43] (by decide +kernel) (by decide +kernel)
set_option maxRecDepth 20000 in
theorem gX7_move_X7_book : GoodIn wsX7_move (wsV RX7 111 RX7 yX7_book wsX7_book) := goodIn_app (goodIn_of _ (by decide +kernel)) ggX7_move_X7_book
set_option maxRecDepth 20000 in
theorem ggX7_move_X7_isDetour : GoodIn wsX7_move wsX7_isDetour := goodIn_r _ [21, 22, 23, 24, 5, 25, 1, 26, 27, 28, 29, 30, 31, 32, 33, 34, 35, 36, 37, 38, 39, 40, 41, 42, 43] (by decide +kernel) (by decide +kernel)
set_option maxRecDepth 20000 in
theorem gX7_move_X7_isDetour : GoodIn wsX7_move (wsV RX7 87 RX7 yX7_isDetour wsX7_isDetour) := goodIn_app (goodIn_of _ (by decide +kernel)) ggX7_move_X7_isDetour
theorem dX7_move_0 : decode cX7_move 0 = .ok (.aload_n 0, 1) := by decide +kernel
theorem dX7_move_1 : decode cX7_move 1 = .ok (.iload_n 1, 1) := by decide +kernel
theorem dX7_move_2 : decode cX7_move 2 = .ok (.iconst 3, 1) := by decide +kernel
theorem dX7_move_3 : decode cX7_move 3 = .ok (.invokevirtual 98, 3) := by decide +kernel
theorem dX7_move_6 : decode cX7_move 6 = .ok (.istore_n 3, 1) := by decide +kernel
theorem dX7_move_7 : decode cX7_move 7 = .ok (.aload_n 0, 1) := by decide +kernel
theorem dX7_move_8 : decode cX7_move 8 = .ok (.iload_n 1, 1) := by decide +kernel
theorem dX7_move_9 : decode cX7_move 9 = .ok (.iconst 1, 1) := by decide +kernel
theorem dX7_move_10 : decode cX7_move 10 = .ok (.invokevirtual 98, 3) := by decide +kernel
theorem dX7_move_13 : decode cX7_move 13 = .ok (.istore 4, 2) := by decide +kernel
theorem dX7_move_15 : decode cX7_move 15 = .ok (.aload_n 0, 1) := by decide +kernel
theorem dX7_move_16 : decode cX7_move 16 = .ok (.iload_n 3, 1) := by decide +kernel
theorem dX7_move_17 : decode cX7_move 17 = .ok (.iload_n 2, 1) := by decide +kernel
theorem dX7_move_18 : decode cX7_move 18 = .ok (.invokevirtual 63, 3) := by decide +kernel
theorem dX7_move_21 : decode cX7_move 21 = .ok (.istore 5, 2) := by decide +kernel
theorem dX7_move_23 : decode cX7_move 23 = .ok (.aload_n 0, 1) := by decide +kernel
theorem dX7_move_24 : decode cX7_move 24 = .ok (.iload_n 1, 1) := by decide +kernel
theorem dX7_move_25 : decode cX7_move 25 = .ok (.iconst 4, 1) := by decide +kernel
theorem dX7_move_26 : decode cX7_move 26 = .ok (.aload_n 0, 1) := by decide +kernel
theorem dX7_move_27 : decode cX7_move 27 = .ok (.iload_n 1, 1) := by decide +kernel
theorem dX7_move_28 : decode cX7_move 28 = .ok (.iconst 4, 1) := by decide +kernel
theorem dX7_move_29 : decode cX7_move 29 = .ok (.invokevirtual 98, 3) := by decide +kernel
theorem dX7_move_32 : decode cX7_move 32 = .ok (.iconst 1, 1) := by decide +kernel
theorem dX7_move_33 : decode cX7_move 33 = .ok (.iadd, 1) := by decide +kernel
theorem dX7_move_34 : decode cX7_move 34 = .ok (.invokevirtual 111, 3) := by decide +kernel
theorem dX7_move_37 : decode cX7_move 37 = .ok (.aload_n 0, 1) := by decide +kernel
theorem dX7_move_38 : decode cX7_move 38 = .ok (.iload_n 1, 1) := by decide +kernel
theorem dX7_move_39 : decode cX7_move 39 = .ok (.iconst 5, 1) := by decide +kernel
theorem dX7_move_40 : decode cX7_move 40 = .ok (.aload_n 0, 1) := by decide +kernel
theorem dX7_move_41 : decode cX7_move 41 = .ok (.iload_n 1, 1) := by decide +kernel
theorem dX7_move_42 : decode cX7_move 42 = .ok (.iconst 5, 1) := by decide +kernel
theorem dX7_move_43 : decode cX7_move 43 = .ok (.invokevirtual 98, 3) := by decide +kernel
theorem dX7_move_46 : decode cX7_move 46 = .ok (.aload_n 0, 1) := by decide +kernel
theorem dX7_move_47 : decode cX7_move 47 = .ok (.iload_n 3, 1) := by decide +kernel
theorem dX7_move_48 : decode cX7_move 48 = .ok (.iload 5, 2) := by decide +kernel
theorem dX7_move_50 : decode cX7_move 50 = .ok (.iload 4, 2) := by decide +kernel
theorem dX7_move_52 : decode cX7_move 52 = .ok (.invokevirtual 87, 3) := by decide +kernel
theorem dX7_move_55 : decode cX7_move 55 = .ok (.ifCond .eq 7, 3) := by decide +kernel
theorem dX7_move_58 : decode cX7_move 58 = .ok (.iconst 1, 1) := by decide +kernel
theorem dX7_move_59 : decode cX7_move 59 = .ok (.goto 4, 3) := by decide +kernel
theorem dX7_move_62 : decode cX7_move 62 = .ok (.iconst 0, 1) := by decide +kernel
theorem dX7_move_63 : decode cX7_move 63 = .ok (.iadd, 1) := by decide +kernel
theorem dX7_move_64 : decode cX7_move 64 = .ok (.invokevirtual 111, 3) := by decide +kernel
theorem dX7_move_67 : decode cX7_move 67 = .ok (.aload_n 0, 1) := by decide +kernel
theorem dX7_move_68 : decode cX7_move 68 = .ok (.iload_n 1, 1) := by decide +kernel
theorem dX7_move_69 : decode cX7_move 69 = .ok (.bipush 9, 2) := by decide +kernel
theorem dX7_move_71 : decode cX7_move 71 = .ok (.iload_n 2, 1) := by decide +kernel
theorem dX7_move_72 : decode cX7_move 72 = .ok (.ifCond .ne 13, 3) := by decide +kernel
theorem dX7_move_75 : decode cX7_move 75 = .ok (.aload_n 0, 1) := by decide +kernel
theorem dX7_move_76 : decode cX7_move 76 = .ok (.iload_n 1, 1) := by decide +kernel
theorem dX7_move_77 : decode cX7_move 77 = .ok (.bipush 9, 2) := by decide +kernel
theorem dX7_move_79 : decode cX7_move 79 = .ok (.invokevirtual 98, 3) := by decide +kernel
theorem dX7_move_82 : decode cX7_move 82 = .ok (.goto 4, 3) := by decide +kernel
theorem dX7_move_85 : decode cX7_move 85 = .ok (.iconst 1, 1) := by decide +kernel
theorem dX7_move_86 : decode cX7_move 86 = .ok (.invokevirtual 111, 3) := by decide +kernel
theorem dX7_move_89 : decode cX7_move 89 = .ok (.aload_n 0, 1) := by decide +kernel
theorem dX7_move_90 : decode cX7_move 90 = .ok (.iload_n 1, 1) := by decide +kernel
theorem dX7_move_91 : decode cX7_move 91 = .ok (.iconst 3, 1) := by decide +kernel
theorem dX7_move_92 : decode cX7_move 92 = .ok (.iload 5, 2) := by decide +kernel
theorem dX7_move_94 : decode cX7_move 94 = .ok (.invokevirtual 111, 3) := by decide +kernel
theorem dX7_move_97 : decode cX7_move 97 = .ok (.aload_n 0, 1) := by decide +kernel
theorem dX7_move_98 : decode cX7_move 98 = .ok (.getfield 7, 3) := by decide +kernel
theorem dX7_move_101 : decode cX7_move 101 = .ok (.bipush 60, 2) := by decide +kernel
theorem dX7_move_103 : decode cX7_move 103 = .ok (.iconst 4, 1) := by decide +kernel
theorem dX7_move_104 : decode cX7_move 104 = .ok (.iload_n 3, 1) := by decide +kernel
theorem dX7_move_105 : decode cX7_move 105 = .ok (.imul, 1) := by decide +kernel
theorem dX7_move_106 : decode cX7_move 106 = .ok (.iadd, 1) := by decide +kernel
theorem dX7_move_107 : decode cX7_move 107 = .ok (.iload_n 2, 1) := by decide +kernel
theorem dX7_move_108 : decode cX7_move 108 = .ok (.iadd, 1) := by decide +kernel
theorem dX7_move_109 : decode cX7_move 109 = .ok (.dup2, 1) := by decide +kernel
theorem dX7_move_110 : decode cX7_move 110 = .ok (.iaload, 1) := by decide +kernel
theorem dX7_move_111 : decode cX7_move 111 = .ok (.iconst 1, 1) := by decide +kernel
theorem dX7_move_112 : decode cX7_move 112 = .ok (.iadd, 1) := by decide +kernel
theorem dX7_move_113 : decode cX7_move 113 = .ok (.iastore, 1) := by decide +kernel
theorem dX7_move_114 : decode cX7_move 114 = .ok (.iload 5, 2) := by decide +kernel
theorem dX7_move_116 : decode cX7_move 116 = .ok (.iload 4, 2) := by decide +kernel
theorem dX7_move_118 : decode cX7_move 118 = .ok (.if_icmp .ne 23, 3) := by decide +kernel
theorem dX7_move_121 : decode cX7_move 121 = .ok (.aload_n 0, 1) := by decide +kernel
theorem dX7_move_122 : decode cX7_move 122 = .ok (.iload_n 1, 1) := by decide +kernel
theorem dX7_move_123 : decode cX7_move 123 = .ok (.iconst 2, 1) := by decide +kernel
theorem dX7_move_124 : decode cX7_move 124 = .ok (.iconst 2, 1) := by decide +kernel
theorem dX7_move_125 : decode cX7_move 125 = .ok (.invokevirtual 111, 3) := by decide +kernel
theorem dX7_move_128 : decode cX7_move 128 = .ok (.aload_n 0, 1) := by decide +kernel
theorem dX7_move_129 : decode cX7_move 129 = .ok (.iload_n 1, 1) := by decide +kernel
theorem dX7_move_130 : decode cX7_move 130 = .ok (.bipush 8, 2) := by decide +kernel
theorem dX7_move_132 : decode cX7_move 132 = .ok (.aload_n 0, 1) := by decide +kernel
theorem dX7_move_133 : decode cX7_move 133 = .ok (.getfield 7, 3) := by decide +kernel
theorem dX7_move_136 : decode cX7_move 136 = .ok (.iconst 3, 1) := by decide +kernel
theorem dX7_move_137 : decode cX7_move 137 = .ok (.iaload, 1) := by decide +kernel
theorem dX7_move_138 : decode cX7_move 138 = .ok (.invokevirtual 111, 3) := by decide +kernel
theorem dX7_move_141 : decode cX7_move 141 = .ok (.return_, 1) := by decide +kernel
set_option maxRecDepth 20000 in
theorem ggX7_pass_X7_of : GoodIn wsX7_pass wsX7_of := goodIn_r _ [6, 1, 78, 79, 80, 81, 82, 83, 84, 85, 86, 87, 88, 89, 90, 91, 92, 93, 94, 95] (by decide +kernel) (by decide +kernel)
set_option maxRecDepth 20000 in
theorem gX7_pass_X7_of : GoodIn wsX7_pass (wsV RX7 98 RX7 yX7_of wsX7_of) := goodIn_app (goodIn_of _ (by decide +kernel)) ggX7_pass_X7_of
set_option maxRecDepth 20000 in
theorem ggX7_pass_X7_hasRoom : GoodIn wsX7_pass wsX7_hasRoom := goodIn_r _ [10, 1, 11, 12, 13, 5, 14, 2, 3, 4, 6, 78, 79, 80, 81, 82, 83, 84, 85, 86, 87, 88, 89, 90, 91, 92, 93, 94, 95] (by decide +kernel) (by decide +kernel)
set_option maxRecDepth 20000 in
theorem gX7_pass_X7_hasRoom : GoodIn wsX7_pass (wsV RX7 118 RX7 yX7_hasRoom wsX7_hasRoom) := goodIn_app (goodIn_of _ (by decide +kernel)) ggX7_pass_X7_hasRoom
set_option maxRecDepth 20000 in
theorem ggX7_pass_X7_book : GoodIn wsX7_pass wsX7_book := goodIn_r _ [18, 1, 78, 79, 80, 81, 82, 83, 84, 85, 86, 87, 88, 89, 90, 91, 92, 93, 94, 95] (by decide +kernel) (by decide +kernel)
set_option maxRecDepth 20000 in
theorem gX7_pass_X7_book : GoodIn wsX7_pass (wsV RX7 111 RX7 yX7_book wsX7_book) := goodIn_app (goodIn_of _ (by decide +kernel)) ggX7_pass_X7_book
set_option maxRecDepth 20000 in
theorem ggX7_pass_X7_goesTo : GoodIn wsX7_pass wsX7_goesTo := goodIn_r _ [22, 23, 24, 25, 26, 5, 27, 2, 3, 4, 6, 1, 28, 29, 30, 31, 32, 33, 34, 35, 36, 37, 38, 39, 40, 41, 42, 43, 44, 45, 46, 47, 48, 49, 50, 51, 52, 53, 54, 55, 56, 57, 58, 59, 60, 61, 62, 63, 64, 65, 66, 67, 68, 69, 70, 71, 72, 73, 7, 8, 9, 10, 11, 12, 13, 14, 78, 79, 80, 81, 82, 83, 84, 85, 86, 87, 88, 89, 90, 91, 92, 93, 94, 95] (by decide +kernel) (by decide +kernel)
set_option maxRecDepth 20000 in
theorem gX7_pass_X7_goesTo : GoodIn wsX7_pass (wsV RX7 121 RX7 yX7_goesTo wsX7_goesTo) := goodIn_app (goodIn_of _ (by decide +kernel)) ggX7_pass_X7_goesTo
set_option maxRecDepth 20000 in
theorem ggX7_pass_X7_move : GoodIn wsX7_pass wsX7_move := goodIn_r _ [77, 1, 2, 3, 4, 5, 6, 40, 41, 42, 43, 44, 45, 46, 15, 16, 17, 18, 51, 52, 53, 54, 55, 56, 57, 58, 78, 79, 80, 81, 82, 83, 84, 85, 86, 87, 88, 89, 90, 91, 92, 93, 94, 95] (by decide +kernel) (by decide +kernel)
set_option maxRecDepth 20000 in
theorem gX7_pass_X7_move : GoodIn wsX7_pass (wsV RX7 124 RX7 yX7_move wsX7_move) := goodIn_app (goodIn_of _ (by decide +kernel)) ggX7_pass_X7_move
theorem dX7_pass_0 : decode cX7_pass 0 = .ok (.iconst 0, 1) := by decide +kernel
theorem dX7_pass_1 : decode cX7_pass 1 = .ok (.istore_n 1, 1) := by decide +kernel
theorem dX7_pass_2 : decode cX7_pass 2 = .ok (.iload_n 1, 1) := by decide +kernel
theorem dX7_pass_3 : decode cX7_pass 3 = .ok (.aload_n 0, 1) := by decide +kernel
theorem dX7_pass_4 : decode cX7_pass 4 = .ok (.getfield 7, 3) := by decide +kernel
theorem dX7_pass_7 : decode cX7_pass 7 = .ok (.bipush 6, 2) := by decide +kernel
theorem dX7_pass_9 : decode cX7_pass 9 = .ok (.iaload, 1) := by decide +kernel
theorem dX7_pass_10 : decode cX7_pass 10 = .ok (.if_icmp .ge 116, 3) := by decide +kernel
theorem dX7_pass_13 : decode cX7_pass 13 = .ok (.aload_n 0, 1) := by decide +kernel
theorem dX7_pass_14 : decode cX7_pass 14 = .ok (.iload_n 1, 1) := by decide +kernel
theorem dX7_pass_15 : decode cX7_pass 15 = .ok (.iconst 2, 1) := by decide +kernel
theorem dX7_pass_16 : decode cX7_pass 16 = .ok (.invokevirtual 98, 3) := by decide +kernel
theorem dX7_pass_19 : decode cX7_pass 19 = .ok (.ifCond .ne 56, 3) := by decide +kernel
theorem dX7_pass_22 : decode cX7_pass 22 = .ok (.aload_n 0, 1) := by decide +kernel
theorem dX7_pass_23 : decode cX7_pass 23 = .ok (.aload_n 0, 1) := by decide +kernel
theorem dX7_pass_24 : decode cX7_pass 24 = .ok (.iload_n 1, 1) := by decide +kernel
theorem dX7_pass_25 : decode cX7_pass 25 = .ok (.iconst 3, 1) := by decide +kernel
theorem dX7_pass_26 : decode cX7_pass 26 = .ok (.invokevirtual 98, 3) := by decide +kernel
theorem dX7_pass_29 : decode cX7_pass 29 = .ok (.invokevirtual 118, 3) := by decide +kernel
theorem dX7_pass_32 : decode cX7_pass 32 = .ok (.istore_n 2, 1) := by decide +kernel
theorem dX7_pass_33 : decode cX7_pass 33 = .ok (.aload_n 0, 1) := by decide +kernel
theorem dX7_pass_34 : decode cX7_pass 34 = .ok (.iload_n 1, 1) := by decide +kernel
theorem dX7_pass_35 : decode cX7_pass 35 = .ok (.iconst 2, 1) := by decide +kernel
theorem dX7_pass_36 : decode cX7_pass 36 = .ok (.iload_n 2, 1) := by decide +kernel
theorem dX7_pass_37 : decode cX7_pass 37 = .ok (.ifCond .eq 7, 3) := by decide +kernel
theorem dX7_pass_40 : decode cX7_pass 40 = .ok (.iconst 1, 1) := by decide +kernel
theorem dX7_pass_41 : decode cX7_pass 41 = .ok (.goto 4, 3) := by decide +kernel
theorem dX7_pass_44 : decode cX7_pass 44 = .ok (.iconst 0, 1) := by decide +kernel
theorem dX7_pass_45 : decode cX7_pass 45 = .ok (.invokevirtual 111, 3) := by decide +kernel
theorem dX7_pass_48 : decode cX7_pass 48 = .ok (.aload_n 0, 1) := by decide +kernel
theorem dX7_pass_49 : decode cX7_pass 49 = .ok (.iload_n 1, 1) := by decide +kernel
theorem dX7_pass_50 : decode cX7_pass 50 = .ok (.bipush 6, 2) := by decide +kernel
theorem dX7_pass_52 : decode cX7_pass 52 = .ok (.aload_n 0, 1) := by decide +kernel
theorem dX7_pass_53 : decode cX7_pass 53 = .ok (.iload_n 1, 1) := by decide +kernel
theorem dX7_pass_54 : decode cX7_pass 54 = .ok (.bipush 6, 2) := by decide +kernel
theorem dX7_pass_56 : decode cX7_pass 56 = .ok (.invokevirtual 98, 3) := by decide +kernel
theorem dX7_pass_59 : decode cX7_pass 59 = .ok (.iload_n 2, 1) := by decide +kernel
theorem dX7_pass_60 : decode cX7_pass 60 = .ok (.ifCond .eq 7, 3) := by decide +kernel
theorem dX7_pass_63 : decode cX7_pass 63 = .ok (.iconst 0, 1) := by decide +kernel
theorem dX7_pass_64 : decode cX7_pass 64 = .ok (.goto 4, 3) := by decide +kernel
theorem dX7_pass_67 : decode cX7_pass 67 = .ok (.iconst 1, 1) := by decide +kernel
theorem dX7_pass_68 : decode cX7_pass 68 = .ok (.iadd, 1) := by decide +kernel
theorem dX7_pass_69 : decode cX7_pass 69 = .ok (.invokevirtual 111, 3) := by decide +kernel
theorem dX7_pass_72 : decode cX7_pass 72 = .ok (.goto 48, 3) := by decide +kernel
theorem dX7_pass_75 : decode cX7_pass 75 = .ok (.aload_n 0, 1) := by decide +kernel
theorem dX7_pass_76 : decode cX7_pass 76 = .ok (.iload_n 1, 1) := by decide +kernel
theorem dX7_pass_77 : decode cX7_pass 77 = .ok (.iconst 2, 1) := by decide +kernel
theorem dX7_pass_78 : decode cX7_pass 78 = .ok (.invokevirtual 98, 3) := by decide +kernel
theorem dX7_pass_81 : decode cX7_pass 81 = .ok (.iconst 1, 1) := by decide +kernel
theorem dX7_pass_82 : decode cX7_pass 82 = .ok (.if_icmp .ne 38, 3) := by decide +kernel
theorem dX7_pass_85 : decode cX7_pass 85 = .ok (.aload_n 0, 1) := by decide +kernel
theorem dX7_pass_86 : decode cX7_pass 86 = .ok (.iload_n 1, 1) := by decide +kernel
theorem dX7_pass_87 : decode cX7_pass 87 = .ok (.invokevirtual 121, 3) := by decide +kernel
theorem dX7_pass_90 : decode cX7_pass 90 = .ok (.istore_n 2, 1) := by decide +kernel
theorem dX7_pass_91 : decode cX7_pass 91 = .ok (.iload_n 2, 1) := by decide +kernel
theorem dX7_pass_92 : decode cX7_pass 92 = .ok (.ifCond .lt 12, 3) := by decide +kernel
theorem dX7_pass_95 : decode cX7_pass 95 = .ok (.aload_n 0, 1) := by decide +kernel
theorem dX7_pass_96 : decode cX7_pass 96 = .ok (.iload_n 1, 1) := by decide +kernel
theorem dX7_pass_97 : decode cX7_pass 97 = .ok (.iload_n 2, 1) := by decide +kernel
theorem dX7_pass_98 : decode cX7_pass 98 = .ok (.invokevirtual 124, 3) := by decide +kernel
theorem dX7_pass_101 : decode cX7_pass 101 = .ok (.goto 19, 3) := by decide +kernel
theorem dX7_pass_104 : decode cX7_pass 104 = .ok (.aload_n 0, 1) := by decide +kernel
theorem dX7_pass_105 : decode cX7_pass 105 = .ok (.iload_n 1, 1) := by decide +kernel
theorem dX7_pass_106 : decode cX7_pass 106 = .ok (.bipush 6, 2) := by decide +kernel
theorem dX7_pass_108 : decode cX7_pass 108 = .ok (.aload_n 0, 1) := by decide +kernel
theorem dX7_pass_109 : decode cX7_pass 109 = .ok (.iload_n 1, 1) := by decide +kernel
theorem dX7_pass_110 : decode cX7_pass 110 = .ok (.bipush 6, 2) := by decide +kernel
theorem dX7_pass_112 : decode cX7_pass 112 = .ok (.invokevirtual 98, 3) := by decide +kernel
theorem dX7_pass_115 : decode cX7_pass 115 = .ok (.iconst 1, 1) := by decide +kernel
theorem dX7_pass_116 : decode cX7_pass 116 = .ok (.iadd, 1) := by decide +kernel
theorem dX7_pass_117 : decode cX7_pass 117 = .ok (.invokevirtual 111, 3) := by decide +kernel
theorem dX7_pass_120 : decode cX7_pass 120 = .ok (.iinc 1 1, 3) := by decide +kernel
theorem dX7_pass_123 : decode cX7_pass 123 = .ok (.goto (-121), 3) := by decide +kernel
theorem dX7_pass_126 : decode cX7_pass 126 = .ok (.aload_n 0, 1) := by decide +kernel
theorem dX7_pass_127 : decode cX7_pass 127 = .ok (.getfield 7, 3) := by decide +kernel
theorem dX7_pass_130 : decode cX7_pass 130 = .ok (.iconst 3, 1) := by decide +kernel
theorem dX7_pass_131 : decode cX7_pass 131 = .ok (.dup2, 1) := by decide +kernel
theorem dX7_pass_132 : decode cX7_pass 132 = .ok (.iaload, 1) := by decide +kernel
theorem dX7_pass_133 : decode cX7_pass 133 = .ok (.iconst 1, 1) := by decide +kernel
theorem dX7_pass_134 : decode cX7_pass 134 = .ok (.iadd, 1) := by decide +kernel
theorem dX7_pass_135 : decode cX7_pass 135 = .ok (.iastore, 1) := by decide +kernel
theorem dX7_pass_136 : decode cX7_pass 136 = .ok (.return_, 1) := by decide +kernel
set_option maxRecDepth 20000 in
theorem ggX7_ticks_X7_in : GoodIn wsX7_ticks wsX7_in := goodIn_r _ [5] (by decide +kernel) (by decide +kernel)
set_option maxRecDepth 20000 in
theorem gX7_ticks_X7_in : GoodIn wsX7_ticks (va_wsS RX7 59 yX7_in wsX7_in) := goodIn_app (goodIn_of _ (by decide +kernel)) ggX7_ticks_X7_in
set_option maxRecDepth 20000 in
theorem ggX7_ticks_X7_record : GoodIn wsX7_ticks wsX7_record := goodIn_r _ [9, 10, 11, 12, 1, 89, 90, 91, 92, 93, 94, 95, 96, 97, 98, 99, 100, 101, 102, 103, 104, 105, 106] (by decide +kernel) (by decide +kernel)
set_option maxRecDepth 20000 in
theorem gX7_ticks_X7_record : GoodIn wsX7_ticks (wsV RX7 70 RX7 yX7_record wsX7_record) := goodIn_app (goodIn_of _ (by decide +kernel)) ggX7_ticks_X7_record
set_option maxRecDepth 20000 in
theorem ggX7_ticks_X7_pass : GoodIn wsX7_ticks wsX7_pass := goodIn_r _ [16, 1, 17, 18, 19, 4, 20, 21, 22, 23, 24, 25, 26, 27, 28, 29, 30, 31, 32, 33, 34, 35, 36, 37, 38, 39, 40, 41, 42, 43, 44, 45, 46, 47, 48, 49, 50, 51, 52, 53, 54, 55, 56, 57, 2, 3, 5, 58, 59, 60, 61, 62, 63, 64, 65, 66, 67, 68, 69, 70, 71, 72, 73, 74, 75, 76, 77, 78, 79, 80, 81, 82, 83, 84, 85, 86, 87, 88, 89, 90, 91, 92, 93, 94, 95, 96, 97, 98, 99, 100, 101, 102, 103, 104, 105, 106] (by decide +kernel) (by decide +kernel)
set_option maxRecDepth 20000 in
theorem gX7_ticks_X7_pass : GoodIn wsX7_ticks (wsV RX7 128 RX7 yX7_pass wsX7_pass) := goodIn_app (goodIn_of _ (by decide +kernel)) ggX7_ticks_X7_pass
theorem dX7_ticks_0 : decode cX7_ticks 0 = .ok (.iload_n 1, 1) := by decide +kernel
theorem dX7_ticks_1 : decode cX7_ticks 1 = .ok (.iconst 1, 1) := by decide +kernel
theorem dX7_ticks_2 : decode cX7_ticks 2 = .ok (.sipush 300, 3) := by decide +kernel
theorem dX7_ticks_5 : decode cX7_ticks 5 = .ok (.invokestatic 59, 3) := by decide +kernel
theorem dX7_ticks_8 : decode cX7_ticks 8 = .ok (.ifCond .ne 6, 3) := by decide +kernel
theorem dX7_ticks_11 : decode cX7_ticks 11 = .ok (.bipush (-2), 2) := by decide +kernel
theorem dX7_ticks_13 : decode cX7_ticks 13 = .ok (.ireturn, 1) := by decide +kernel
theorem dX7_ticks_14 : decode cX7_ticks 14 = .ok (.aload_n 0, 1) := by decide +kernel
theorem dX7_ticks_15 : decode cX7_ticks 15 = .ok (.invokevirtual 70, 3) := by decide +kernel
theorem dX7_ticks_18 : decode cX7_ticks 18 = .ok (.iconst 0, 1) := by decide +kernel
theorem dX7_ticks_19 : decode cX7_ticks 19 = .ok (.istore_n 2, 1) := by decide +kernel
theorem dX7_ticks_20 : decode cX7_ticks 20 = .ok (.iload_n 2, 1) := by decide +kernel
theorem dX7_ticks_21 : decode cX7_ticks 21 = .ok (.iload_n 1, 1) := by decide +kernel
theorem dX7_ticks_22 : decode cX7_ticks 22 = .ok (.if_icmp .ge 13, 3) := by decide +kernel
theorem dX7_ticks_25 : decode cX7_ticks 25 = .ok (.aload_n 0, 1) := by decide +kernel
theorem dX7_ticks_26 : decode cX7_ticks 26 = .ok (.invokevirtual 128, 3) := by decide +kernel
theorem dX7_ticks_29 : decode cX7_ticks 29 = .ok (.iinc 2 1, 3) := by decide +kernel
theorem dX7_ticks_32 : decode cX7_ticks 32 = .ok (.goto (-12), 3) := by decide +kernel
theorem dX7_ticks_35 : decode cX7_ticks 35 = .ok (.aload_n 0, 1) := by decide +kernel
theorem dX7_ticks_36 : decode cX7_ticks 36 = .ok (.getfield 7, 3) := by decide +kernel
theorem dX7_ticks_39 : decode cX7_ticks 39 = .ok (.iconst 3, 1) := by decide +kernel
theorem dX7_ticks_40 : decode cX7_ticks 40 = .ok (.iaload, 1) := by decide +kernel
theorem dX7_ticks_41 : decode cX7_ticks 41 = .ok (.ireturn, 1) := by decide +kernel
set_option maxRecDepth 20000 in
theorem ggX7_isFree_X7_laySides : GoodIn wsX7_isFree wsX7_laySides := goodIn_r _ [8, 1, 9, 10, 11, 7, 12, 2, 13, 14, 15, 16, 17, 18, 19, 20, 21, 22, 23, 24, 25, 26, 27, 28, 29, 30, 31, 32, 33, 34, 35, 36, 37, 38, 39, 40, 41, 42, 43, 44, 45, 46, 47, 48, 49, 50, 51, 52, 53, 54, 55, 56, 57, 58, 67, 68, 69, 70, 71, 72, 73, 74, 75, 76, 77, 78, 79, 80, 81, 82, 83, 84] (by decide +kernel) (by decide +kernel)
set_option maxRecDepth 20000 in
theorem gX7_isFree_X7_laySides : GoodIn wsX7_isFree (wsV RX7 115 RX7 yX7_laySides wsX7_laySides) := goodIn_app (goodIn_of _ (by decide +kernel)) ggX7_isFree_X7_laySides
set_option maxRecDepth 20000 in
theorem ggX7_isFree_X7_of : GoodIn wsX7_isFree wsX7_of := goodIn_r _ [12, 2, 67, 68, 69, 70, 71, 72, 73, 74, 75, 76, 77, 78, 79, 80, 81, 82, 83, 84] (by decide +kernel) (by decide +kernel)
set_option maxRecDepth 20000 in
theorem gX7_isFree_X7_of : GoodIn wsX7_isFree (wsV RX7 98 RX7 yX7_of wsX7_of) := goodIn_app (goodIn_of _ (by decide +kernel)) ggX7_isFree_X7_of
set_option maxRecDepth 20000 in
theorem ggX7_isFree_X7_beside : GoodIn wsX7_isFree wsX7_beside := goodIn_r _ [28, 2, 29, 30, 7, 31, 67, 68, 69, 70, 71, 72, 73, 74, 75, 76, 77, 78, 79, 80, 81, 82, 83, 84] (by decide +kernel) (by decide +kernel)
set_option maxRecDepth 20000 in
theorem gX7_isFree_X7_beside : GoodIn wsX7_isFree (wsV RX7 63 RX7 yX7_beside wsX7_beside) := goodIn_app (goodIn_of _ (by decide +kernel)) ggX7_isFree_X7_beside
set_option maxRecDepth 20000 in
theorem ggX7_isFree_X7_hasRoom : GoodIn wsX7_isFree wsX7_hasRoom := goodIn_r _ [62, 2, 63, 64, 65, 7, 66, 9, 10, 11, 12, 67, 68, 69, 70, 71, 72, 73, 74, 75, 76, 77, 78, 79, 80, 81, 82, 83, 84] (by decide +kernel) (by decide +kernel)
set_option maxRecDepth 20000 in
theorem gX7_isFree_X7_hasRoom : GoodIn wsX7_isFree (wsV RX7 118 RX7 yX7_hasRoom wsX7_hasRoom) := goodIn_app (goodIn_of _ (by decide +kernel)) ggX7_isFree_X7_hasRoom
theorem dX7_isFree_0 : decode cX7_isFree 0 = .ok (.aload_n 0, 1) := by decide +kernel
theorem dX7_isFree_1 : decode cX7_isFree 1 = .ok (.iload_n 1, 1) := by decide +kernel
theorem dX7_isFree_2 : decode cX7_isFree 2 = .ok (.invokevirtual 115, 3) := by decide +kernel
theorem dX7_isFree_5 : decode cX7_isFree 5 = .ok (.istore_n 2, 1) := by decide +kernel
theorem dX7_isFree_6 : decode cX7_isFree 6 = .ok (.iconst 0, 1) := by decide +kernel
theorem dX7_isFree_7 : decode cX7_isFree 7 = .ok (.istore_n 3, 1) := by decide +kernel
theorem dX7_isFree_8 : decode cX7_isFree 8 = .ok (.iconst 0, 1) := by decide +kernel
theorem dX7_isFree_9 : decode cX7_isFree 9 = .ok (.istore 4, 2) := by decide +kernel
theorem dX7_isFree_11 : decode cX7_isFree 11 = .ok (.iload 4, 2) := by decide +kernel
theorem dX7_isFree_13 : decode cX7_isFree 13 = .ok (.iload_n 2, 1) := by decide +kernel
theorem dX7_isFree_14 : decode cX7_isFree 14 = .ok (.if_icmp .ge 122, 3) := by decide +kernel
theorem dX7_isFree_17 : decode cX7_isFree 17 = .ok (.iload_n 3, 1) := by decide +kernel
theorem dX7_isFree_18 : decode cX7_isFree 18 = .ok (.ifCond .ne 118, 3) := by decide +kernel
theorem dX7_isFree_21 : decode cX7_isFree 21 = .ok (.aload_n 0, 1) := by decide +kernel
theorem dX7_isFree_22 : decode cX7_isFree 22 = .ok (.aload_n 0, 1) := by decide +kernel
theorem dX7_isFree_23 : decode cX7_isFree 23 = .ok (.iload_n 1, 1) := by decide +kernel
theorem dX7_isFree_24 : decode cX7_isFree 24 = .ok (.iconst 3, 1) := by decide +kernel
theorem dX7_isFree_25 : decode cX7_isFree 25 = .ok (.invokevirtual 98, 3) := by decide +kernel
theorem dX7_isFree_28 : decode cX7_isFree 28 = .ok (.aload_n 0, 1) := by decide +kernel
theorem dX7_isFree_29 : decode cX7_isFree 29 = .ok (.getfield 38, 3) := by decide +kernel
theorem dX7_isFree_32 : decode cX7_isFree 32 = .ok (.iload 4, 2) := by decide +kernel
theorem dX7_isFree_34 : decode cX7_isFree 34 = .ok (.iaload, 1) := by decide +kernel
theorem dX7_isFree_35 : decode cX7_isFree 35 = .ok (.invokevirtual 63, 3) := by decide +kernel
theorem dX7_isFree_38 : decode cX7_isFree 38 = .ok (.istore 5, 2) := by decide +kernel
theorem dX7_isFree_40 : decode cX7_isFree 40 = .ok (.iload 5, 2) := by decide +kernel
theorem dX7_isFree_42 : decode cX7_isFree 42 = .ok (.aload_n 0, 1) := by decide +kernel
theorem dX7_isFree_43 : decode cX7_isFree 43 = .ok (.iload_n 1, 1) := by decide +kernel
theorem dX7_isFree_44 : decode cX7_isFree 44 = .ok (.iconst 1, 1) := by decide +kernel
theorem dX7_isFree_45 : decode cX7_isFree 45 = .ok (.invokevirtual 98, 3) := by decide +kernel
theorem dX7_isFree_48 : decode cX7_isFree 48 = .ok (.if_icmp .eq 12, 3) := by decide +kernel
theorem dX7_isFree_51 : decode cX7_isFree 51 = .ok (.aload_n 0, 1) := by decide +kernel
theorem dX7_isFree_52 : decode cX7_isFree 52 = .ok (.iload 5, 2) := by decide +kernel
theorem dX7_isFree_54 : decode cX7_isFree 54 = .ok (.invokevirtual 118, 3) := by decide +kernel
theorem dX7_isFree_57 : decode cX7_isFree 57 = .ok (.ifCond .eq 7, 3) := by decide +kernel
theorem dX7_isFree_60 : decode cX7_isFree 60 = .ok (.iconst 1, 1) := by decide +kernel
theorem dX7_isFree_61 : decode cX7_isFree 61 = .ok (.goto 4, 3) := by decide +kernel
theorem dX7_isFree_64 : decode cX7_isFree 64 = .ok (.iconst 0, 1) := by decide +kernel
theorem dX7_isFree_65 : decode cX7_isFree 65 = .ok (.istore_n 3, 1) := by decide +kernel
theorem dX7_isFree_66 : decode cX7_isFree 66 = .ok (.iconst 0, 1) := by decide +kernel
theorem dX7_isFree_67 : decode cX7_isFree 67 = .ok (.istore 6, 2) := by decide +kernel
theorem dX7_isFree_69 : decode cX7_isFree 69 = .ok (.iload 6, 2) := by decide +kernel
theorem dX7_isFree_71 : decode cX7_isFree 71 = .ok (.aload_n 0, 1) := by decide +kernel
theorem dX7_isFree_72 : decode cX7_isFree 72 = .ok (.getfield 7, 3) := by decide +kernel
theorem dX7_isFree_75 : decode cX7_isFree 75 = .ok (.bipush 6, 2) := by decide +kernel
theorem dX7_isFree_77 : decode cX7_isFree 77 = .ok (.iaload, 1) := by decide +kernel
theorem dX7_isFree_78 : decode cX7_isFree 78 = .ok (.if_icmp .ge 52, 3) := by decide +kernel
theorem dX7_isFree_81 : decode cX7_isFree 81 = .ok (.iload_n 3, 1) := by decide +kernel
theorem dX7_isFree_82 : decode cX7_isFree 82 = .ok (.ifCond .ne 48, 3) := by decide +kernel
theorem dX7_isFree_85 : decode cX7_isFree 85 = .ok (.aload_n 0, 1) := by decide +kernel
theorem dX7_isFree_86 : decode cX7_isFree 86 = .ok (.iload 6, 2) := by decide +kernel
theorem dX7_isFree_88 : decode cX7_isFree 88 = .ok (.iconst 2, 1) := by decide +kernel
theorem dX7_isFree_89 : decode cX7_isFree 89 = .ok (.invokevirtual 98, 3) := by decide +kernel
theorem dX7_isFree_92 : decode cX7_isFree 92 = .ok (.iconst 1, 1) := by decide +kernel
theorem dX7_isFree_93 : decode cX7_isFree 93 = .ok (.if_icmp .ne 29, 3) := by decide +kernel
theorem dX7_isFree_96 : decode cX7_isFree 96 = .ok (.aload_n 0, 1) := by decide +kernel
theorem dX7_isFree_97 : decode cX7_isFree 97 = .ok (.iload 6, 2) := by decide +kernel
theorem dX7_isFree_99 : decode cX7_isFree 99 = .ok (.iconst 3, 1) := by decide +kernel
theorem dX7_isFree_100 : decode cX7_isFree 100 = .ok (.invokevirtual 98, 3) := by decide +kernel
theorem dX7_isFree_103 : decode cX7_isFree 103 = .ok (.iload 5, 2) := by decide +kernel
theorem dX7_isFree_105 : decode cX7_isFree 105 = .ok (.if_icmp .ne 17, 3) := by decide +kernel
theorem dX7_isFree_108 : decode cX7_isFree 108 = .ok (.aload_n 0, 1) := by decide +kernel
theorem dX7_isFree_109 : decode cX7_isFree 109 = .ok (.getfield 41, 3) := by decide +kernel
theorem dX7_isFree_112 : decode cX7_isFree 112 = .ok (.iload 6, 2) := by decide +kernel
theorem dX7_isFree_114 : decode cX7_isFree 114 = .ok (.baload, 1) := by decide +kernel
theorem dX7_isFree_115 : decode cX7_isFree 115 = .ok (.ifCond .ne 7, 3) := by decide +kernel
theorem dX7_isFree_118 : decode cX7_isFree 118 = .ok (.iconst 1, 1) := by decide +kernel
theorem dX7_isFree_119 : decode cX7_isFree 119 = .ok (.goto 4, 3) := by decide +kernel
theorem dX7_isFree_122 : decode cX7_isFree 122 = .ok (.iconst 0, 1) := by decide +kernel
theorem dX7_isFree_123 : decode cX7_isFree 123 = .ok (.istore_n 3, 1) := by decide +kernel
theorem dX7_isFree_124 : decode cX7_isFree 124 = .ok (.iinc 6 1, 3) := by decide +kernel
theorem dX7_isFree_127 : decode cX7_isFree 127 = .ok (.goto (-58), 3) := by decide +kernel
theorem dX7_isFree_130 : decode cX7_isFree 130 = .ok (.iinc 4 1, 3) := by decide +kernel
theorem dX7_isFree_133 : decode cX7_isFree 133 = .ok (.goto (-122), 3) := by decide +kernel
theorem dX7_isFree_136 : decode cX7_isFree 136 = .ok (.iload_n 3, 1) := by decide +kernel
theorem dX7_isFree_137 : decode cX7_isFree 137 = .ok (.ireturn, 1) := by decide +kernel
set_option maxRecDepth 20000 in
theorem ggX7_layStuck_X7_of : GoodIn wsX7_layStuck wsX7_of := goodIn_r _ [7, 2, 71, 72, 73, 74, 75, 76, 77, 78, 79, 80, 81, 82, 83, 84, 85, 86, 87, 88] (by decide +kernel) (by decide +kernel)
set_option maxRecDepth 20000 in
theorem gX7_layStuck_X7_of : GoodIn wsX7_layStuck (wsV RX7 98 RX7 yX7_of wsX7_of) := goodIn_app (goodIn_of _ (by decide +kernel)) ggX7_layStuck_X7_of
set_option maxRecDepth 20000 in
theorem ggX7_layStuck_X7_isFree : GoodIn wsX7_layStuck wsX7_isFree := goodIn_r _ [11, 12, 2, 1, 13, 14, 15, 6, 16, 3, 4, 5, 7, 17, 18, 19, 20, 21, 22, 23, 24, 25, 26, 27, 28, 29, 30, 31, 32, 33, 34, 35, 36, 37, 38, 39, 40, 41, 42, 43, 44, 45, 46, 47, 48, 49, 50, 51, 52, 53, 54, 55, 56, 57, 58, 59, 60, 61, 62, 63, 64, 65, 66, 67, 68, 69, 70, 71, 72, 73, 74, 75, 76, 77, 78, 79, 80, 81, 82, 83, 84, 85, 86, 87, 88] (by decide +kernel) (by decide +kernel)
set_option maxRecDepth 20000 in
theorem gX7_layStuck_X7_isFree : GoodIn wsX7_layStuck (wsV RX7 131 RX7 yX7_isFree wsX7_isFree) := goodIn_app (goodIn_of _ (by decide +kernel)) ggX7_layStuck_X7_isFree
theorem dX7_layStuck_0 : decode cX7_layStuck 0 = .ok (.iconst 0, 1) := by decide +kernel
theorem dX7_layStuck_1 : decode cX7_layStuck 1 = .ok (.istore_n 1, 1) := by decide +kernel
theorem dX7_layStuck_2 : decode cX7_layStuck 2 = .ok (.iload_n 1, 1) := by decide +kernel
theorem dX7_layStuck_3 : decode cX7_layStuck 3 = .ok (.bipush 40, 2) := by decide +kernel
theorem dX7_layStuck_5 : decode cX7_layStuck 5 = .ok (.if_icmp .ge 41, 3) := by decide +kernel
theorem dX7_layStuck_8 : decode cX7_layStuck 8 = .ok (.aload_n 0, 1) := by decide +kernel
theorem dX7_layStuck_9 : decode cX7_layStuck 9 = .ok (.getfield 41, 3) := by decide +kernel
theorem dX7_layStuck_12 : decode cX7_layStuck 12 = .ok (.iload_n 1, 1) := by decide +kernel
theorem dX7_layStuck_13 : decode cX7_layStuck 13 = .ok (.iload_n 1, 1) := by decide +kernel
theorem dX7_layStuck_14 : decode cX7_layStuck 14 = .ok (.aload_n 0, 1) := by decide +kernel
theorem dX7_layStuck_15 : decode cX7_layStuck 15 = .ok (.getfield 7, 3) := by decide +kernel
theorem dX7_layStuck_18 : decode cX7_layStuck 18 = .ok (.bipush 6, 2) := by decide +kernel
theorem dX7_layStuck_20 : decode cX7_layStuck 20 = .ok (.iaload, 1) := by decide +kernel
theorem dX7_layStuck_21 : decode cX7_layStuck 21 = .ok (.if_icmp .ge 17, 3) := by decide +kernel
theorem dX7_layStuck_24 : decode cX7_layStuck 24 = .ok (.aload_n 0, 1) := by decide +kernel
theorem dX7_layStuck_25 : decode cX7_layStuck 25 = .ok (.iload_n 1, 1) := by decide +kernel
theorem dX7_layStuck_26 : decode cX7_layStuck 26 = .ok (.iconst 2, 1) := by decide +kernel
theorem dX7_layStuck_27 : decode cX7_layStuck 27 = .ok (.invokevirtual 98, 3) := by decide +kernel
theorem dX7_layStuck_30 : decode cX7_layStuck 30 = .ok (.iconst 1, 1) := by decide +kernel
theorem dX7_layStuck_31 : decode cX7_layStuck 31 = .ok (.if_icmp .ne 7, 3) := by decide +kernel
theorem dX7_layStuck_34 : decode cX7_layStuck 34 = .ok (.iconst 1, 1) := by decide +kernel
theorem dX7_layStuck_35 : decode cX7_layStuck 35 = .ok (.goto 4, 3) := by decide +kernel
theorem dX7_layStuck_38 : decode cX7_layStuck 38 = .ok (.iconst 0, 1) := by decide +kernel
theorem dX7_layStuck_39 : decode cX7_layStuck 39 = .ok (.bastore, 1) := by decide +kernel
theorem dX7_layStuck_40 : decode cX7_layStuck 40 = .ok (.iinc 1 1, 3) := by decide +kernel
theorem dX7_layStuck_43 : decode cX7_layStuck 43 = .ok (.goto (-41), 3) := by decide +kernel
theorem dX7_layStuck_46 : decode cX7_layStuck 46 = .ok (.iconst 1, 1) := by decide +kernel
theorem dX7_layStuck_47 : decode cX7_layStuck 47 = .ok (.istore_n 1, 1) := by decide +kernel
theorem dX7_layStuck_48 : decode cX7_layStuck 48 = .ok (.iload_n 1, 1) := by decide +kernel
theorem dX7_layStuck_49 : decode cX7_layStuck 49 = .ok (.ifCond .eq 53, 3) := by decide +kernel
theorem dX7_layStuck_52 : decode cX7_layStuck 52 = .ok (.iconst 0, 1) := by decide +kernel
theorem dX7_layStuck_53 : decode cX7_layStuck 53 = .ok (.istore_n 1, 1) := by decide +kernel
theorem dX7_layStuck_54 : decode cX7_layStuck 54 = .ok (.iconst 0, 1) := by decide +kernel
theorem dX7_layStuck_55 : decode cX7_layStuck 55 = .ok (.istore_n 2, 1) := by decide +kernel
theorem dX7_layStuck_56 : decode cX7_layStuck 56 = .ok (.iload_n 2, 1) := by decide +kernel
theorem dX7_layStuck_57 : decode cX7_layStuck 57 = .ok (.aload_n 0, 1) := by decide +kernel
theorem dX7_layStuck_58 : decode cX7_layStuck 58 = .ok (.getfield 7, 3) := by decide +kernel
theorem dX7_layStuck_61 : decode cX7_layStuck 61 = .ok (.bipush 6, 2) := by decide +kernel
theorem dX7_layStuck_63 : decode cX7_layStuck 63 = .ok (.iaload, 1) := by decide +kernel
theorem dX7_layStuck_64 : decode cX7_layStuck 64 = .ok (.if_icmp .ge 35, 3) := by decide +kernel
theorem dX7_layStuck_67 : decode cX7_layStuck 67 = .ok (.aload_n 0, 1) := by decide +kernel
theorem dX7_layStuck_68 : decode cX7_layStuck 68 = .ok (.getfield 41, 3) := by decide +kernel
theorem dX7_layStuck_71 : decode cX7_layStuck 71 = .ok (.iload_n 2, 1) := by decide +kernel
theorem dX7_layStuck_72 : decode cX7_layStuck 72 = .ok (.baload, 1) := by decide +kernel
theorem dX7_layStuck_73 : decode cX7_layStuck 73 = .ok (.ifCond .eq 20, 3) := by decide +kernel
theorem dX7_layStuck_76 : decode cX7_layStuck 76 = .ok (.aload_n 0, 1) := by decide +kernel
theorem dX7_layStuck_77 : decode cX7_layStuck 77 = .ok (.iload_n 2, 1) := by decide +kernel
theorem dX7_layStuck_78 : decode cX7_layStuck 78 = .ok (.invokevirtual 131, 3) := by decide +kernel
theorem dX7_layStuck_81 : decode cX7_layStuck 81 = .ok (.ifCond .eq 12, 3) := by decide +kernel
theorem dX7_layStuck_84 : decode cX7_layStuck 84 = .ok (.aload_n 0, 1) := by decide +kernel
theorem dX7_layStuck_85 : decode cX7_layStuck 85 = .ok (.getfield 41, 3) := by decide +kernel
theorem dX7_layStuck_88 : decode cX7_layStuck 88 = .ok (.iload_n 2, 1) := by decide +kernel
theorem dX7_layStuck_89 : decode cX7_layStuck 89 = .ok (.iconst 0, 1) := by decide +kernel
theorem dX7_layStuck_90 : decode cX7_layStuck 90 = .ok (.bastore, 1) := by decide +kernel
theorem dX7_layStuck_91 : decode cX7_layStuck 91 = .ok (.iconst 1, 1) := by decide +kernel
theorem dX7_layStuck_92 : decode cX7_layStuck 92 = .ok (.istore_n 1, 1) := by decide +kernel
theorem dX7_layStuck_93 : decode cX7_layStuck 93 = .ok (.iinc 2 1, 3) := by decide +kernel
theorem dX7_layStuck_96 : decode cX7_layStuck 96 = .ok (.goto (-40), 3) := by decide +kernel
theorem dX7_layStuck_99 : decode cX7_layStuck 99 = .ok (.goto (-51), 3) := by decide +kernel
theorem dX7_layStuck_102 : decode cX7_layStuck 102 = .ok (.iconst 0, 1) := by decide +kernel
theorem dX7_layStuck_103 : decode cX7_layStuck 103 = .ok (.istore_n 2, 1) := by decide +kernel
theorem dX7_layStuck_104 : decode cX7_layStuck 104 = .ok (.iconst 0, 1) := by decide +kernel
theorem dX7_layStuck_105 : decode cX7_layStuck 105 = .ok (.istore_n 3, 1) := by decide +kernel
theorem dX7_layStuck_106 : decode cX7_layStuck 106 = .ok (.iload_n 3, 1) := by decide +kernel
theorem dX7_layStuck_107 : decode cX7_layStuck 107 = .ok (.aload_n 0, 1) := by decide +kernel
theorem dX7_layStuck_108 : decode cX7_layStuck 108 = .ok (.getfield 7, 3) := by decide +kernel
theorem dX7_layStuck_111 : decode cX7_layStuck 111 = .ok (.bipush 6, 2) := by decide +kernel
theorem dX7_layStuck_113 : decode cX7_layStuck 113 = .ok (.iaload, 1) := by decide +kernel
theorem dX7_layStuck_114 : decode cX7_layStuck 114 = .ok (.if_icmp .ge 26, 3) := by decide +kernel
theorem dX7_layStuck_117 : decode cX7_layStuck 117 = .ok (.iload_n 2, 1) := by decide +kernel
theorem dX7_layStuck_118 : decode cX7_layStuck 118 = .ok (.aload_n 0, 1) := by decide +kernel
theorem dX7_layStuck_119 : decode cX7_layStuck 119 = .ok (.getfield 41, 3) := by decide +kernel
theorem dX7_layStuck_122 : decode cX7_layStuck 122 = .ok (.iload_n 3, 1) := by decide +kernel
theorem dX7_layStuck_123 : decode cX7_layStuck 123 = .ok (.baload, 1) := by decide +kernel
theorem dX7_layStuck_124 : decode cX7_layStuck 124 = .ok (.ifCond .eq 7, 3) := by decide +kernel
theorem dX7_layStuck_127 : decode cX7_layStuck 127 = .ok (.iconst 1, 1) := by decide +kernel
theorem dX7_layStuck_128 : decode cX7_layStuck 128 = .ok (.goto 4, 3) := by decide +kernel
theorem dX7_layStuck_131 : decode cX7_layStuck 131 = .ok (.iconst 0, 1) := by decide +kernel
theorem dX7_layStuck_132 : decode cX7_layStuck 132 = .ok (.iadd, 1) := by decide +kernel
theorem dX7_layStuck_133 : decode cX7_layStuck 133 = .ok (.istore_n 2, 1) := by decide +kernel
theorem dX7_layStuck_134 : decode cX7_layStuck 134 = .ok (.iinc 3 1, 3) := by decide +kernel
theorem dX7_layStuck_137 : decode cX7_layStuck 137 = .ok (.goto (-31), 3) := by decide +kernel
theorem dX7_layStuck_140 : decode cX7_layStuck 140 = .ok (.iload_n 2, 1) := by decide +kernel
theorem dX7_layStuck_141 : decode cX7_layStuck 141 = .ok (.ireturn, 1) := by decide +kernel
set_option maxRecDepth 20000 in
theorem ggX7_ofPacket_X7_isPacket : GoodIn wsX7_ofPacket wsX7_isPacket := goodIn_r _ [7, 8, 9, 10, 6, 11, 83, 84, 85, 86, 87, 88, 89, 90, 91, 92, 93, 94, 95, 96, 97, 98, 99, 100] (by decide +kernel) (by decide +kernel)
set_option maxRecDepth 20000 in
theorem gX7_ofPacket_X7_isPacket : GoodIn wsX7_ofPacket (wsV RX7 134 RX7 yX7_isPacket wsX7_isPacket) := goodIn_app (goodIn_of _ (by decide +kernel)) ggX7_ofPacket_X7_isPacket
set_option maxRecDepth 20000 in
theorem ggX7_ofPacket_X7_lengthOf : GoodIn wsX7_ofPacket wsX7_lengthOf := goodIn_r _ [15, 16, 17, 18, 6, 19, 20, 21, 22, 23, 8, 24, 25, 26, 27, 28, 29, 30, 31, 32, 33, 34, 35, 36, 37, 38, 39, 40, 41, 42, 43, 44, 45, 46, 47, 48, 49, 50, 9, 10, 11, 51, 52, 53, 54, 55, 56, 57, 58, 59, 60, 61, 62, 83, 84, 85, 86, 87, 88, 89, 90, 91, 92, 93, 94, 95, 96, 97, 98, 99, 100] (by decide +kernel) (by decide +kernel)
set_option maxRecDepth 20000 in
theorem gX7_ofPacket_X7_lengthOf : GoodIn wsX7_ofPacket (wsV RX7 137 RX7 yX7_lengthOf wsX7_lengthOf) := goodIn_app (goodIn_of _ (by decide +kernel)) ggX7_ofPacket_X7_lengthOf
set_option maxRecDepth 20000 in
theorem ggX7_ofPacket_X7_of : GoodIn wsX7_ofPacket wsX7_of := goodIn_r _ [23, 8, 83, 84, 85, 86, 87, 88, 89, 90, 91, 92, 93, 94, 95, 96, 97, 98, 99, 100] (by decide +kernel) (by decide +kernel)
set_option maxRecDepth 20000 in
theorem gX7_ofPacket_X7_of : GoodIn wsX7_ofPacket (wsV RX7 98 RX7 yX7_of wsX7_of) := goodIn_app (goodIn_of _ (by decide +kernel)) ggX7_ofPacket_X7_of
set_option maxRecDepth 20000 in
theorem ggX7_ofPacket_X7_laySides : GoodIn wsX7_ofPacket wsX7_laySides := goodIn_r _ [66, 1, 20, 21, 22, 6, 23, 8, 16, 17, 18, 19, 39, 40, 41, 42, 43, 44, 45, 46, 47, 48, 49, 50, 9, 10, 11, 51, 52, 53, 54, 55, 56, 57, 58, 59, 60, 61, 62, 24, 25, 26, 27, 28, 29, 30, 31, 32, 33, 34, 35, 36, 37, 38, 83, 84, 85, 86, 87, 88, 89, 90, 91, 92, 93, 94, 95, 96, 97, 98, 99, 100] (by decide +kernel) (by decide +kernel)
set_option maxRecDepth 20000 in
theorem gX7_ofPacket_X7_laySides : GoodIn wsX7_ofPacket (wsV RX7 115 RX7 yX7_laySides wsX7_laySides) := goodIn_app (goodIn_of _ (by decide +kernel)) ggX7_ofPacket_X7_laySides
set_option maxRecDepth 20000 in
theorem ggX7_ofPacket_X7_layStuck : GoodIn wsX7_ofPacket wsX7_layStuck := goodIn_r _ [70, 2, 8, 20, 21, 22, 6, 23, 71, 72, 73, 74, 1, 63, 64, 65, 66, 16, 17, 18, 19, 39, 40, 41, 42, 43, 44, 45, 46, 47, 48, 49, 50, 9, 10, 11, 51, 52, 53, 54, 55, 56, 57, 58, 59, 60, 61, 62, 24, 25, 26, 27, 28, 29, 30, 31, 32, 33, 34, 35, 36, 37, 38, 75, 76, 77, 78, 79, 80, 81, 82, 83, 84, 85, 86, 87, 88, 89, 90, 91, 92, 93, 94, 95, 96, 97, 98, 99, 100] (by decide +kernel) (by decide +kernel)
set_option maxRecDepth 20000 in
theorem gX7_ofPacket_X7_layStuck : GoodIn wsX7_ofPacket (wsV RX7 140 RX7 yX7_layStuck wsX7_layStuck) := goodIn_app (goodIn_of _ (by decide +kernel)) ggX7_ofPacket_X7_layStuck
set_option maxRecDepth 20000 in
theorem ggX7_ofPacket_X7_in : GoodIn wsX7_ofPacket wsX7_in := goodIn_r _ [11] (by decide +kernel) (by decide +kernel)
set_option maxRecDepth 20000 in
theorem gX7_ofPacket_X7_in : GoodIn wsX7_ofPacket (va_wsS RX7 59 yX7_in wsX7_in) := goodIn_app (goodIn_of _ (by decide +kernel)) ggX7_ofPacket_X7_in
theorem dX7_ofPacket_0 : decode cX7_ofPacket 0 = .ok (.aload_n 0, 1) := by decide +kernel
theorem dX7_ofPacket_1 : decode cX7_ofPacket 1 = .ok (.iload_n 1, 1) := by decide +kernel
theorem dX7_ofPacket_2 : decode cX7_ofPacket 2 = .ok (.invokevirtual 134, 3) := by decide +kernel
theorem dX7_ofPacket_5 : decode cX7_ofPacket 5 = .ok (.ifCond .ne 5, 3) := by decide +kernel
theorem dX7_ofPacket_8 : decode cX7_ofPacket 8 = .ok (.iconst (-1), 1) := by decide +kernel
theorem dX7_ofPacket_9 : decode cX7_ofPacket 9 = .ok (.ireturn, 1) := by decide +kernel
theorem dX7_ofPacket_10 : decode cX7_ofPacket 10 = .ok (.iload_n 2, 1) := by decide +kernel
theorem dX7_ofPacket_11 : decode cX7_ofPacket 11 = .ok (.tableswitch 81 10 12 #[25, 31, 61], 25) := by decide +kernel
theorem dX7_ofPacket_36 : decode cX7_ofPacket 36 = .ok (.aload_n 0, 1) := by decide +kernel
theorem dX7_ofPacket_37 : decode cX7_ofPacket 37 = .ok (.iload_n 1, 1) := by decide +kernel
theorem dX7_ofPacket_38 : decode cX7_ofPacket 38 = .ok (.invokevirtual 137, 3) := by decide +kernel
theorem dX7_ofPacket_41 : decode cX7_ofPacket 41 = .ok (.ireturn, 1) := by decide +kernel
theorem dX7_ofPacket_42 : decode cX7_ofPacket 42 = .ok (.aload_n 0, 1) := by decide +kernel
theorem dX7_ofPacket_43 : decode cX7_ofPacket 43 = .ok (.iload_n 1, 1) := by decide +kernel
theorem dX7_ofPacket_44 : decode cX7_ofPacket 44 = .ok (.iconst 2, 1) := by decide +kernel
theorem dX7_ofPacket_45 : decode cX7_ofPacket 45 = .ok (.invokevirtual 98, 3) := by decide +kernel
theorem dX7_ofPacket_48 : decode cX7_ofPacket 48 = .ok (.iconst 2, 1) := by decide +kernel
theorem dX7_ofPacket_49 : decode cX7_ofPacket 49 = .ok (.if_icmp .eq 20, 3) := by decide +kernel
theorem dX7_ofPacket_52 : decode cX7_ofPacket 52 = .ok (.aload_n 0, 1) := by decide +kernel
theorem dX7_ofPacket_53 : decode cX7_ofPacket 53 = .ok (.iload_n 1, 1) := by decide +kernel
theorem dX7_ofPacket_54 : decode cX7_ofPacket 54 = .ok (.invokevirtual 115, 3) := by decide +kernel
theorem dX7_ofPacket_57 : decode cX7_ofPacket 57 = .ok (.ifCond .le 12, 3) := by decide +kernel
theorem dX7_ofPacket_60 : decode cX7_ofPacket 60 = .ok (.aload_n 0, 1) := by decide +kernel
theorem dX7_ofPacket_61 : decode cX7_ofPacket 61 = .ok (.getfield 38, 3) := by decide +kernel
theorem dX7_ofPacket_64 : decode cX7_ofPacket 64 = .ok (.iconst 0, 1) := by decide +kernel
theorem dX7_ofPacket_65 : decode cX7_ofPacket 65 = .ok (.iaload, 1) := by decide +kernel
theorem dX7_ofPacket_66 : decode cX7_ofPacket 66 = .ok (.goto 5, 3) := by decide +kernel
theorem dX7_ofPacket_69 : decode cX7_ofPacket 69 = .ok (.bipush (-6), 2) := by decide +kernel
theorem dX7_ofPacket_71 : decode cX7_ofPacket 71 = .ok (.ireturn, 1) := by decide +kernel
theorem dX7_ofPacket_72 : decode cX7_ofPacket 72 = .ok (.aload_n 0, 1) := by decide +kernel
theorem dX7_ofPacket_73 : decode cX7_ofPacket 73 = .ok (.invokevirtual 140, 3) := by decide +kernel
theorem dX7_ofPacket_76 : decode cX7_ofPacket 76 = .ok (.pop, 1) := by decide +kernel
theorem dX7_ofPacket_77 : decode cX7_ofPacket 77 = .ok (.aload_n 0, 1) := by decide +kernel
theorem dX7_ofPacket_78 : decode cX7_ofPacket 78 = .ok (.getfield 41, 3) := by decide +kernel
theorem dX7_ofPacket_81 : decode cX7_ofPacket 81 = .ok (.iload_n 1, 1) := by decide +kernel
theorem dX7_ofPacket_82 : decode cX7_ofPacket 82 = .ok (.baload, 1) := by decide +kernel
theorem dX7_ofPacket_83 : decode cX7_ofPacket 83 = .ok (.ifCond .eq 7, 3) := by decide +kernel
theorem dX7_ofPacket_86 : decode cX7_ofPacket 86 = .ok (.iconst 1, 1) := by decide +kernel
theorem dX7_ofPacket_87 : decode cX7_ofPacket 87 = .ok (.goto 4, 3) := by decide +kernel
theorem dX7_ofPacket_90 : decode cX7_ofPacket 90 = .ok (.iconst 0, 1) := by decide +kernel
theorem dX7_ofPacket_91 : decode cX7_ofPacket 91 = .ok (.ireturn, 1) := by decide +kernel
theorem dX7_ofPacket_92 : decode cX7_ofPacket 92 = .ok (.iload_n 2, 1) := by decide +kernel
theorem dX7_ofPacket_93 : decode cX7_ofPacket 93 = .ok (.iconst 0, 1) := by decide +kernel
theorem dX7_ofPacket_94 : decode cX7_ofPacket 94 = .ok (.bipush 9, 2) := by decide +kernel
theorem dX7_ofPacket_96 : decode cX7_ofPacket 96 = .ok (.invokestatic 59, 3) := by decide +kernel
theorem dX7_ofPacket_99 : decode cX7_ofPacket 99 = .ok (.ifCond .eq 12, 3) := by decide +kernel
theorem dX7_ofPacket_102 : decode cX7_ofPacket 102 = .ok (.aload_n 0, 1) := by decide +kernel
theorem dX7_ofPacket_103 : decode cX7_ofPacket 103 = .ok (.iload_n 1, 1) := by decide +kernel
theorem dX7_ofPacket_104 : decode cX7_ofPacket 104 = .ok (.iload_n 2, 1) := by decide +kernel
theorem dX7_ofPacket_105 : decode cX7_ofPacket 105 = .ok (.invokevirtual 98, 3) := by decide +kernel
theorem dX7_ofPacket_108 : decode cX7_ofPacket 108 = .ok (.goto 5, 3) := by decide +kernel
theorem dX7_ofPacket_111 : decode cX7_ofPacket 111 = .ok (.bipush (-2), 2) := by decide +kernel
theorem dX7_ofPacket_113 : decode cX7_ofPacket 113 = .ok (.ireturn, 1) := by decide +kernel
set_option maxRecDepth 20000 in
theorem ggX7_packetsOf_X7_of : GoodIn wsX7_packetsOf wsX7_of := goodIn_r _ [6, 1, 7, 8, 9, 10, 11, 12, 13, 14, 15, 16, 17, 18, 19, 20, 21, 22, 23, 24] (by decide +kernel) (by decide +kernel)
set_option maxRecDepth 20000 in
theorem gX7_packetsOf_X7_of : GoodIn wsX7_packetsOf (wsV RX7 98 RX7 yX7_of wsX7_of) := goodIn_app (goodIn_of _ (by decide +kernel)) ggX7_packetsOf_X7_of
theorem dX7_packetsOf_0 : decode cX7_packetsOf 0 = .ok (.iconst 0, 1) := by decide +kernel
theorem dX7_packetsOf_1 : decode cX7_packetsOf 1 = .ok (.istore_n 3, 1) := by decide +kernel
theorem dX7_packetsOf_2 : decode cX7_packetsOf 2 = .ok (.iconst 0, 1) := by decide +kernel
theorem dX7_packetsOf_3 : decode cX7_packetsOf 3 = .ok (.istore 4, 2) := by decide +kernel
theorem dX7_packetsOf_5 : decode cX7_packetsOf 5 = .ok (.iload 4, 2) := by decide +kernel
theorem dX7_packetsOf_7 : decode cX7_packetsOf 7 = .ok (.aload_n 0, 1) := by decide +kernel
theorem dX7_packetsOf_8 : decode cX7_packetsOf 8 = .ok (.getfield 7, 3) := by decide +kernel
theorem dX7_packetsOf_11 : decode cX7_packetsOf 11 = .ok (.bipush 6, 2) := by decide +kernel
theorem dX7_packetsOf_13 : decode cX7_packetsOf 13 = .ok (.iaload, 1) := by decide +kernel
theorem dX7_packetsOf_14 : decode cX7_packetsOf 14 = .ok (.if_icmp .ge 43, 3) := by decide +kernel
theorem dX7_packetsOf_17 : decode cX7_packetsOf 17 = .ok (.iload_n 3, 1) := by decide +kernel
theorem dX7_packetsOf_18 : decode cX7_packetsOf 18 = .ok (.aload_n 0, 1) := by decide +kernel
theorem dX7_packetsOf_19 : decode cX7_packetsOf 19 = .ok (.iload 4, 2) := by decide +kernel
theorem dX7_packetsOf_21 : decode cX7_packetsOf 21 = .ok (.iconst 2, 1) := by decide +kernel
theorem dX7_packetsOf_22 : decode cX7_packetsOf 22 = .ok (.invokevirtual 98, 3) := by decide +kernel
theorem dX7_packetsOf_25 : decode cX7_packetsOf 25 = .ok (.iload_n 2, 1) := by decide +kernel
theorem dX7_packetsOf_26 : decode cX7_packetsOf 26 = .ok (.if_icmp .ne 22, 3) := by decide +kernel
theorem dX7_packetsOf_29 : decode cX7_packetsOf 29 = .ok (.iload_n 1, 1) := by decide +kernel
theorem dX7_packetsOf_30 : decode cX7_packetsOf 30 = .ok (.ifCond .lt 14, 3) := by decide +kernel
theorem dX7_packetsOf_33 : decode cX7_packetsOf 33 = .ok (.aload_n 0, 1) := by decide +kernel
theorem dX7_packetsOf_34 : decode cX7_packetsOf 34 = .ok (.iload 4, 2) := by decide +kernel
theorem dX7_packetsOf_36 : decode cX7_packetsOf 36 = .ok (.iconst 3, 1) := by decide +kernel
theorem dX7_packetsOf_37 : decode cX7_packetsOf 37 = .ok (.invokevirtual 98, 3) := by decide +kernel
theorem dX7_packetsOf_40 : decode cX7_packetsOf 40 = .ok (.iload_n 1, 1) := by decide +kernel
theorem dX7_packetsOf_41 : decode cX7_packetsOf 41 = .ok (.if_icmp .ne 7, 3) := by decide +kernel
theorem dX7_packetsOf_44 : decode cX7_packetsOf 44 = .ok (.iconst 1, 1) := by decide +kernel
theorem dX7_packetsOf_45 : decode cX7_packetsOf 45 = .ok (.goto 4, 3) := by decide +kernel
theorem dX7_packetsOf_48 : decode cX7_packetsOf 48 = .ok (.iconst 0, 1) := by decide +kernel
theorem dX7_packetsOf_49 : decode cX7_packetsOf 49 = .ok (.iadd, 1) := by decide +kernel
theorem dX7_packetsOf_50 : decode cX7_packetsOf 50 = .ok (.istore_n 3, 1) := by decide +kernel
theorem dX7_packetsOf_51 : decode cX7_packetsOf 51 = .ok (.iinc 4 1, 3) := by decide +kernel
theorem dX7_packetsOf_54 : decode cX7_packetsOf 54 = .ok (.goto (-49), 3) := by decide +kernel
theorem dX7_packetsOf_57 : decode cX7_packetsOf 57 = .ok (.iload_n 3, 1) := by decide +kernel
theorem dX7_packetsOf_58 : decode cX7_packetsOf 58 = .ok (.ireturn, 1) := by decide +kernel
set_option maxRecDepth 20000 in
theorem ggX7_ofBox_X7_isBox : GoodIn wsX7_ofBox wsX7_isBox := goodIn_r _ [6, 7, 8, 9, 5, 10, 1, 11, 12, 13, 34, 35, 36, 37, 38, 39, 40, 41, 42, 43, 44, 45, 46, 47, 48, 49, 50, 51] (by decide +kernel) (by decide +kernel)
set_option maxRecDepth 20000 in
theorem gX7_ofBox_X7_isBox : GoodIn wsX7_ofBox (wsV RX7 76 RX7 yX7_isBox wsX7_isBox) := goodIn_app (goodIn_of _ (by decide +kernel)) ggX7_ofBox_X7_isBox
set_option maxRecDepth 20000 in
theorem ggX7_ofBox_X7_in : GoodIn wsX7_ofBox wsX7_in := goodIn_r _ [13] (by decide +kernel) (by decide +kernel)
set_option maxRecDepth 20000 in
theorem gX7_ofBox_X7_in : GoodIn wsX7_ofBox (va_wsS RX7 59 yX7_in wsX7_in) := goodIn_app (goodIn_of _ (by decide +kernel)) ggX7_ofBox_X7_in
set_option maxRecDepth 20000 in
theorem ggX7_ofBox_X7_beside : GoodIn wsX7_ofBox wsX7_beside := goodIn_r _ [17, 1, 11, 12, 5, 13, 34, 35, 36, 37, 38, 39, 40, 41, 42, 43, 44, 45, 46, 47, 48, 49, 50, 51] (by decide +kernel) (by decide +kernel)
set_option maxRecDepth 20000 in
theorem gX7_ofBox_X7_beside : GoodIn wsX7_ofBox (wsV RX7 63 RX7 yX7_beside wsX7_beside) := goodIn_app (goodIn_of _ (by decide +kernel)) ggX7_ofBox_X7_beside
set_option maxRecDepth 20000 in
theorem ggX7_ofBox_X7_isWhole : GoodIn wsX7_ofBox wsX7_isWhole := goodIn_r _ [21, 1, 14, 15, 16, 5, 17, 11, 12, 13, 22, 23, 24, 25, 34, 35, 36, 37, 38, 39, 40, 41, 42, 43, 44, 45, 46, 47, 48, 49, 50, 51] (by decide +kernel) (by decide +kernel)
set_option maxRecDepth 20000 in
theorem gX7_ofBox_X7_isWhole : GoodIn wsX7_ofBox (wsV RX7 83 RX7 yX7_isWhole wsX7_isWhole) := goodIn_app (goodIn_of _ (by decide +kernel)) ggX7_ofBox_X7_isWhole
set_option maxRecDepth 20000 in
theorem ggX7_ofBox_X7_packetsOf : GoodIn wsX7_ofBox wsX7_packetsOf := goodIn_r _ [29, 1, 30, 31, 32, 5, 33, 34, 35, 36, 37, 38, 39, 40, 41, 42, 43, 44, 45, 46, 47, 48, 49, 50, 51] (by decide +kernel) (by decide +kernel)
set_option maxRecDepth 20000 in
theorem gX7_ofBox_X7_packetsOf : GoodIn wsX7_ofBox (wsV RX7 143 RX7 yX7_packetsOf wsX7_packetsOf) := goodIn_app (goodIn_of _ (by decide +kernel)) ggX7_ofBox_X7_packetsOf
theorem dX7_ofBox_0 : decode cX7_ofBox 0 = .ok (.aload_n 0, 1) := by decide +kernel
theorem dX7_ofBox_1 : decode cX7_ofBox 1 = .ok (.iload_n 1, 1) := by decide +kernel
theorem dX7_ofBox_2 : decode cX7_ofBox 2 = .ok (.invokevirtual 76, 3) := by decide +kernel
theorem dX7_ofBox_5 : decode cX7_ofBox 5 = .ok (.ifCond .ne 5, 3) := by decide +kernel
theorem dX7_ofBox_8 : decode cX7_ofBox 8 = .ok (.iconst (-1), 1) := by decide +kernel
theorem dX7_ofBox_9 : decode cX7_ofBox 9 = .ok (.ireturn, 1) := by decide +kernel
theorem dX7_ofBox_10 : decode cX7_ofBox 10 = .ok (.iload_n 2, 1) := by decide +kernel
theorem dX7_ofBox_11 : decode cX7_ofBox 11 = .ok (.iconst 3, 1) := by decide +kernel
theorem dX7_ofBox_12 : decode cX7_ofBox 12 = .ok (.bipush 6, 2) := by decide +kernel
theorem dX7_ofBox_14 : decode cX7_ofBox 14 = .ok (.invokestatic 59, 3) := by decide +kernel
theorem dX7_ofBox_17 : decode cX7_ofBox 17 = .ok (.ifCond .eq 36, 3) := by decide +kernel
theorem dX7_ofBox_20 : decode cX7_ofBox 20 = .ok (.aload_n 0, 1) := by decide +kernel
theorem dX7_ofBox_21 : decode cX7_ofBox 21 = .ok (.iload_n 1, 1) := by decide +kernel
theorem dX7_ofBox_22 : decode cX7_ofBox 22 = .ok (.iload_n 2, 1) := by decide +kernel
theorem dX7_ofBox_23 : decode cX7_ofBox 23 = .ok (.iconst 3, 1) := by decide +kernel
theorem dX7_ofBox_24 : decode cX7_ofBox 24 = .ok (.isub, 1) := by decide +kernel
theorem dX7_ofBox_25 : decode cX7_ofBox 25 = .ok (.invokevirtual 63, 3) := by decide +kernel
theorem dX7_ofBox_28 : decode cX7_ofBox 28 = .ok (.ifCond .ge 8, 3) := by decide +kernel
theorem dX7_ofBox_31 : decode cX7_ofBox 31 = .ok (.bipush (-6), 2) := by decide +kernel
theorem dX7_ofBox_33 : decode cX7_ofBox 33 = .ok (.goto 19, 3) := by decide +kernel
theorem dX7_ofBox_36 : decode cX7_ofBox 36 = .ok (.aload_n 0, 1) := by decide +kernel
theorem dX7_ofBox_37 : decode cX7_ofBox 37 = .ok (.iload_n 1, 1) := by decide +kernel
theorem dX7_ofBox_38 : decode cX7_ofBox 38 = .ok (.iload_n 2, 1) := by decide +kernel
theorem dX7_ofBox_39 : decode cX7_ofBox 39 = .ok (.iconst 3, 1) := by decide +kernel
theorem dX7_ofBox_40 : decode cX7_ofBox 40 = .ok (.isub, 1) := by decide +kernel
theorem dX7_ofBox_41 : decode cX7_ofBox 41 = .ok (.invokevirtual 83, 3) := by decide +kernel
theorem dX7_ofBox_44 : decode cX7_ofBox 44 = .ok (.ifCond .eq 7, 3) := by decide +kernel
theorem dX7_ofBox_47 : decode cX7_ofBox 47 = .ok (.iconst 1, 1) := by decide +kernel
theorem dX7_ofBox_48 : decode cX7_ofBox 48 = .ok (.goto 4, 3) := by decide +kernel
theorem dX7_ofBox_51 : decode cX7_ofBox 51 = .ok (.iconst 0, 1) := by decide +kernel
theorem dX7_ofBox_52 : decode cX7_ofBox 52 = .ok (.ireturn, 1) := by decide +kernel
theorem dX7_ofBox_53 : decode cX7_ofBox 53 = .ok (.iload_n 2, 1) := by decide +kernel
theorem dX7_ofBox_54 : decode cX7_ofBox 54 = .ok (.bipush 7, 2) := by decide +kernel
theorem dX7_ofBox_56 : decode cX7_ofBox 56 = .ok (.bipush 10, 2) := by decide +kernel
theorem dX7_ofBox_58 : decode cX7_ofBox 58 = .ok (.invokestatic 59, 3) := by decide +kernel
theorem dX7_ofBox_61 : decode cX7_ofBox 61 = .ok (.ifCond .eq 20, 3) := by decide +kernel
theorem dX7_ofBox_64 : decode cX7_ofBox 64 = .ok (.aload_n 0, 1) := by decide +kernel
theorem dX7_ofBox_65 : decode cX7_ofBox 65 = .ok (.getfield 7, 3) := by decide +kernel
theorem dX7_ofBox_68 : decode cX7_ofBox 68 = .ok (.bipush 60, 2) := by decide +kernel
theorem dX7_ofBox_70 : decode cX7_ofBox 70 = .ok (.iconst 4, 1) := by decide +kernel
theorem dX7_ofBox_71 : decode cX7_ofBox 71 = .ok (.iload_n 1, 1) := by decide +kernel
theorem dX7_ofBox_72 : decode cX7_ofBox 72 = .ok (.imul, 1) := by decide +kernel
theorem dX7_ofBox_73 : decode cX7_ofBox 73 = .ok (.iadd, 1) := by decide +kernel
theorem dX7_ofBox_74 : decode cX7_ofBox 74 = .ok (.iload_n 2, 1) := by decide +kernel
theorem dX7_ofBox_75 : decode cX7_ofBox 75 = .ok (.iadd, 1) := by decide +kernel
theorem dX7_ofBox_76 : decode cX7_ofBox 76 = .ok (.bipush 7, 2) := by decide +kernel
theorem dX7_ofBox_78 : decode cX7_ofBox 78 = .ok (.isub, 1) := by decide +kernel
theorem dX7_ofBox_79 : decode cX7_ofBox 79 = .ok (.iaload, 1) := by decide +kernel
theorem dX7_ofBox_80 : decode cX7_ofBox 80 = .ok (.ireturn, 1) := by decide +kernel
theorem dX7_ofBox_81 : decode cX7_ofBox 81 = .ok (.iload_n 2, 1) := by decide +kernel
theorem dX7_ofBox_82 : decode cX7_ofBox 82 = .ok (.ifCond .ne 12, 3) := by decide +kernel
theorem dX7_ofBox_85 : decode cX7_ofBox 85 = .ok (.aload_n 0, 1) := by decide +kernel
theorem dX7_ofBox_86 : decode cX7_ofBox 86 = .ok (.iload_n 1, 1) := by decide +kernel
theorem dX7_ofBox_87 : decode cX7_ofBox 87 = .ok (.iconst 1, 1) := by decide +kernel
theorem dX7_ofBox_88 : decode cX7_ofBox 88 = .ok (.invokevirtual 143, 3) := by decide +kernel
theorem dX7_ofBox_91 : decode cX7_ofBox 91 = .ok (.goto 33, 3) := by decide +kernel
theorem dX7_ofBox_94 : decode cX7_ofBox 94 = .ok (.iload_n 2, 1) := by decide +kernel
theorem dX7_ofBox_95 : decode cX7_ofBox 95 = .ok (.iconst 1, 1) := by decide +kernel
theorem dX7_ofBox_96 : decode cX7_ofBox 96 = .ok (.if_icmp .ne 12, 3) := by decide +kernel
theorem dX7_ofBox_99 : decode cX7_ofBox 99 = .ok (.aload_n 0, 1) := by decide +kernel
theorem dX7_ofBox_100 : decode cX7_ofBox 100 = .ok (.iload_n 1, 1) := by decide +kernel
theorem dX7_ofBox_101 : decode cX7_ofBox 101 = .ok (.iconst 0, 1) := by decide +kernel
theorem dX7_ofBox_102 : decode cX7_ofBox 102 = .ok (.invokevirtual 143, 3) := by decide +kernel
theorem dX7_ofBox_105 : decode cX7_ofBox 105 = .ok (.goto 19, 3) := by decide +kernel
theorem dX7_ofBox_108 : decode cX7_ofBox 108 = .ok (.iload_n 2, 1) := by decide +kernel
theorem dX7_ofBox_109 : decode cX7_ofBox 109 = .ok (.iconst 2, 1) := by decide +kernel
theorem dX7_ofBox_110 : decode cX7_ofBox 110 = .ok (.if_icmp .ne 12, 3) := by decide +kernel
theorem dX7_ofBox_113 : decode cX7_ofBox 113 = .ok (.aload_n 0, 1) := by decide +kernel
theorem dX7_ofBox_114 : decode cX7_ofBox 114 = .ok (.iload_n 1, 1) := by decide +kernel
theorem dX7_ofBox_115 : decode cX7_ofBox 115 = .ok (.iconst 2, 1) := by decide +kernel
theorem dX7_ofBox_116 : decode cX7_ofBox 116 = .ok (.invokevirtual 143, 3) := by decide +kernel
theorem dX7_ofBox_119 : decode cX7_ofBox 119 = .ok (.goto 5, 3) := by decide +kernel
theorem dX7_ofBox_122 : decode cX7_ofBox 122 = .ok (.bipush (-2), 2) := by decide +kernel
theorem dX7_ofBox_124 : decode cX7_ofBox 124 = .ok (.ireturn, 1) := by decide +kernel
set_option maxRecDepth 20000 in
theorem ggX7_sum_X7_of : GoodIn wsX7_sum wsX7_of := goodIn_r _ [6, 1, 7, 8, 9, 10, 11, 12, 13, 14, 15, 16, 17, 18, 19, 20, 21, 22, 23, 24] (by decide +kernel) (by decide +kernel)
set_option maxRecDepth 20000 in
theorem gX7_sum_X7_of : GoodIn wsX7_sum (wsV RX7 98 RX7 yX7_of wsX7_of) := goodIn_app (goodIn_of _ (by decide +kernel)) ggX7_sum_X7_of
theorem dX7_sum_0 : decode cX7_sum 0 = .ok (.iconst 0, 1) := by decide +kernel
theorem dX7_sum_1 : decode cX7_sum 1 = .ok (.istore_n 2, 1) := by decide +kernel
theorem dX7_sum_2 : decode cX7_sum 2 = .ok (.iconst 0, 1) := by decide +kernel
theorem dX7_sum_3 : decode cX7_sum 3 = .ok (.istore_n 3, 1) := by decide +kernel
theorem dX7_sum_4 : decode cX7_sum 4 = .ok (.iload_n 3, 1) := by decide +kernel
theorem dX7_sum_5 : decode cX7_sum 5 = .ok (.aload_n 0, 1) := by decide +kernel
theorem dX7_sum_6 : decode cX7_sum 6 = .ok (.getfield 7, 3) := by decide +kernel
theorem dX7_sum_9 : decode cX7_sum 9 = .ok (.bipush 6, 2) := by decide +kernel
theorem dX7_sum_11 : decode cX7_sum 11 = .ok (.iaload, 1) := by decide +kernel
theorem dX7_sum_12 : decode cX7_sum 12 = .ok (.if_icmp .ge 18, 3) := by decide +kernel
theorem dX7_sum_15 : decode cX7_sum 15 = .ok (.iload_n 2, 1) := by decide +kernel
theorem dX7_sum_16 : decode cX7_sum 16 = .ok (.aload_n 0, 1) := by decide +kernel
theorem dX7_sum_17 : decode cX7_sum 17 = .ok (.iload_n 3, 1) := by decide +kernel
theorem dX7_sum_18 : decode cX7_sum 18 = .ok (.iload_n 1, 1) := by decide +kernel
theorem dX7_sum_19 : decode cX7_sum 19 = .ok (.invokevirtual 98, 3) := by decide +kernel
theorem dX7_sum_22 : decode cX7_sum 22 = .ok (.iadd, 1) := by decide +kernel
theorem dX7_sum_23 : decode cX7_sum 23 = .ok (.istore_n 2, 1) := by decide +kernel
theorem dX7_sum_24 : decode cX7_sum 24 = .ok (.iinc 3 1, 3) := by decide +kernel
theorem dX7_sum_27 : decode cX7_sum 27 = .ok (.goto (-23), 3) := by decide +kernel
theorem dX7_sum_30 : decode cX7_sum 30 = .ok (.iload_n 2, 1) := by decide +kernel
theorem dX7_sum_31 : decode cX7_sum 31 = .ok (.ireturn, 1) := by decide +kernel
theorem dX7_broken_0 : decode cX7_broken 0 = .ok (.iconst 0, 1) := by decide +kernel
theorem dX7_broken_1 : decode cX7_broken 1 = .ok (.istore_n 1, 1) := by decide +kernel
theorem dX7_broken_2 : decode cX7_broken 2 = .ok (.bipush 10, 2) := by decide +kernel
theorem dX7_broken_4 : decode cX7_broken 4 = .ok (.istore_n 2, 1) := by decide +kernel
theorem dX7_broken_5 : decode cX7_broken 5 = .ok (.iload_n 2, 1) := by decide +kernel
theorem dX7_broken_6 : decode cX7_broken 6 = .ok (.bipush 60, 2) := by decide +kernel
theorem dX7_broken_8 : decode cX7_broken 8 = .ok (.if_icmp .ge 18, 3) := by decide +kernel
theorem dX7_broken_11 : decode cX7_broken 11 = .ok (.iload_n 1, 1) := by decide +kernel
theorem dX7_broken_12 : decode cX7_broken 12 = .ok (.aload_n 0, 1) := by decide +kernel
theorem dX7_broken_13 : decode cX7_broken 13 = .ok (.getfield 7, 3) := by decide +kernel
theorem dX7_broken_16 : decode cX7_broken 16 = .ok (.iload_n 2, 1) := by decide +kernel
theorem dX7_broken_17 : decode cX7_broken 17 = .ok (.iaload, 1) := by decide +kernel
theorem dX7_broken_18 : decode cX7_broken 18 = .ok (.iadd, 1) := by decide +kernel
theorem dX7_broken_19 : decode cX7_broken 19 = .ok (.istore_n 1, 1) := by decide +kernel
theorem dX7_broken_20 : decode cX7_broken 20 = .ok (.iinc 2 1, 3) := by decide +kernel
theorem dX7_broken_23 : decode cX7_broken 23 = .ok (.goto (-18), 3) := by decide +kernel
theorem dX7_broken_26 : decode cX7_broken 26 = .ok (.iload_n 1, 1) := by decide +kernel
theorem dX7_broken_27 : decode cX7_broken 27 = .ok (.ireturn, 1) := by decide +kernel
set_option maxRecDepth 20000 in
theorem ggX7_count_X7_in : GoodIn wsX7_count wsX7_in := goodIn_r _ [7] (by decide +kernel) (by decide +kernel)
set_option maxRecDepth 20000 in
theorem gX7_count_X7_in : GoodIn wsX7_count (va_wsS RX7 59 yX7_in wsX7_in) := goodIn_app (goodIn_of _ (by decide +kernel)) ggX7_count_X7_in
set_option maxRecDepth 20000 in
theorem ggX7_count_X7_packetsOf : GoodIn wsX7_count wsX7_packetsOf := goodIn_r _ [11, 1, 12, 13, 14, 6, 15, 89, 90, 91, 92, 93, 94, 95, 96, 97, 98, 99, 100, 101, 102, 103, 104, 105, 106] (by decide +kernel) (by decide +kernel)
set_option maxRecDepth 20000 in
theorem gX7_count_X7_packetsOf : GoodIn wsX7_count (wsV RX7 143 RX7 yX7_packetsOf wsX7_packetsOf) := goodIn_app (goodIn_of _ (by decide +kernel)) ggX7_count_X7_packetsOf
set_option maxRecDepth 20000 in
theorem ggX7_count_X7_sum : GoodIn wsX7_count wsX7_sum := goodIn_r _ [19, 1, 12, 13, 14, 6, 15, 89, 90, 91, 92, 93, 94, 95, 96, 97, 98, 99, 100, 101, 102, 103, 104, 105, 106] (by decide +kernel) (by decide +kernel)
set_option maxRecDepth 20000 in
theorem gX7_count_X7_sum : GoodIn wsX7_count (wsV RX7 146 RX7 yX7_sum wsX7_sum) := goodIn_app (goodIn_of _ (by decide +kernel)) ggX7_count_X7_sum
set_option maxRecDepth 20000 in
theorem ggX7_count_X7_boxes : GoodIn wsX7_count wsX7_boxes := goodIn_r _ [23, 1, 89, 90, 91, 92, 93, 94, 95, 96, 97, 98, 99, 100, 101, 102, 103, 104, 105, 106] (by decide +kernel) (by decide +kernel)
set_option maxRecDepth 20000 in
theorem gX7_count_X7_boxes : GoodIn wsX7_count (wsV RX7 55 RX7 yX7_boxes wsX7_boxes) := goodIn_app (goodIn_of _ (by decide +kernel)) ggX7_count_X7_boxes
set_option maxRecDepth 20000 in
theorem ggX7_count_X7_layStuck : GoodIn wsX7_count wsX7_layStuck := goodIn_r _ [27, 28, 1, 12, 13, 14, 6, 15, 29, 30, 31, 32, 33, 34, 35, 36, 37, 38, 39, 40, 41, 42, 43, 44, 45, 46, 47, 48, 49, 50, 51, 52, 53, 4, 5, 7, 54, 55, 56, 57, 58, 59, 60, 61, 62, 63, 64, 65, 66, 67, 68, 69, 70, 71, 72, 73, 74, 75, 76, 20, 21, 22, 23, 77, 78, 79, 80, 81, 82, 83, 84, 89, 90, 91, 92, 93, 94, 95, 96, 97, 98, 99, 100, 101, 102, 103, 104, 105, 106] (by decide +kernel) (by decide +kernel)
set_option maxRecDepth 20000 in
theorem gX7_count_X7_layStuck : GoodIn wsX7_count (wsV RX7 140 RX7 yX7_layStuck wsX7_layStuck) := goodIn_app (goodIn_of _ (by decide +kernel)) ggX7_count_X7_layStuck
set_option maxRecDepth 20000 in
theorem ggX7_count_X7_broken : GoodIn wsX7_count wsX7_broken := goodIn_r _ [88, 1, 89, 90, 91, 92, 93, 94, 95, 96, 97, 98, 99, 100, 101, 102, 103, 104, 105, 106] (by decide +kernel) (by decide +kernel)
set_option maxRecDepth 20000 in
theorem gX7_count_X7_broken : GoodIn wsX7_count (wsV RX7 149 RX7 yX7_broken wsX7_broken) := goodIn_app (goodIn_of _ (by decide +kernel)) ggX7_count_X7_broken
theorem dX7_count_0 : decode cX7_count 0 = .ok (.iload_n 1, 1) := by decide +kernel
theorem dX7_count_1 : decode cX7_count 1 = .ok (.iconst 4, 1) := by decide +kernel
theorem dX7_count_2 : decode cX7_count 2 = .ok (.bipush 6, 2) := by decide +kernel
theorem dX7_count_4 : decode cX7_count 4 = .ok (.invokestatic 59, 3) := by decide +kernel
theorem dX7_count_7 : decode cX7_count 7 = .ok (.ifCond .eq 13, 3) := by decide +kernel
theorem dX7_count_10 : decode cX7_count 10 = .ok (.aload_n 0, 1) := by decide +kernel
theorem dX7_count_11 : decode cX7_count 11 = .ok (.bipush (-6), 2) := by decide +kernel
theorem dX7_count_13 : decode cX7_count 13 = .ok (.iload_n 1, 1) := by decide +kernel
theorem dX7_count_14 : decode cX7_count 14 = .ok (.iconst 4, 1) := by decide +kernel
theorem dX7_count_15 : decode cX7_count 15 = .ok (.isub, 1) := by decide +kernel
theorem dX7_count_16 : decode cX7_count 16 = .ok (.invokevirtual 143, 3) := by decide +kernel
theorem dX7_count_19 : decode cX7_count 19 = .ok (.ireturn, 1) := by decide +kernel
theorem dX7_count_20 : decode cX7_count 20 = .ok (.iload_n 1, 1) := by decide +kernel
theorem dX7_count_21 : decode cX7_count 21 = .ok (.bipush 7, 2) := by decide +kernel
theorem dX7_count_23 : decode cX7_count 23 = .ok (.bipush 9, 2) := by decide +kernel
theorem dX7_count_25 : decode cX7_count 25 = .ok (.invokestatic 59, 3) := by decide +kernel
theorem dX7_count_28 : decode cX7_count 28 = .ok (.ifCond .eq 14, 3) := by decide +kernel
theorem dX7_count_31 : decode cX7_count 31 = .ok (.aload_n 0, 1) := by decide +kernel
theorem dX7_count_32 : decode cX7_count 32 = .ok (.iload_n 1, 1) := by decide +kernel
theorem dX7_count_33 : decode cX7_count 33 = .ok (.bipush 7, 2) := by decide +kernel
theorem dX7_count_35 : decode cX7_count 35 = .ok (.isub, 1) := by decide +kernel
theorem dX7_count_36 : decode cX7_count 36 = .ok (.iconst 4, 1) := by decide +kernel
theorem dX7_count_37 : decode cX7_count 37 = .ok (.iadd, 1) := by decide +kernel
theorem dX7_count_38 : decode cX7_count 38 = .ok (.invokevirtual 146, 3) := by decide +kernel
theorem dX7_count_41 : decode cX7_count 41 = .ok (.ireturn, 1) := by decide +kernel
theorem dX7_count_42 : decode cX7_count 42 = .ok (.iload_n 1, 1) := by decide +kernel
theorem dX7_count_43 : decode cX7_count 43 = .ok (.bipush 14, 2) := by decide +kernel
theorem dX7_count_45 : decode cX7_count 45 = .ok (.bipush 16, 2) := by decide +kernel
theorem dX7_count_47 : decode cX7_count 47 = .ok (.invokestatic 59, 3) := by decide +kernel
theorem dX7_count_50 : decode cX7_count 50 = .ok (.ifCond .eq 13, 3) := by decide +kernel
theorem dX7_count_53 : decode cX7_count 53 = .ok (.aload_n 0, 1) := by decide +kernel
theorem dX7_count_54 : decode cX7_count 54 = .ok (.getfield 7, 3) := by decide +kernel
theorem dX7_count_57 : decode cX7_count 57 = .ok (.iload_n 1, 1) := by decide +kernel
theorem dX7_count_58 : decode cX7_count 58 = .ok (.bipush 14, 2) := by decide +kernel
theorem dX7_count_60 : decode cX7_count 60 = .ok (.isub, 1) := by decide +kernel
theorem dX7_count_61 : decode cX7_count 61 = .ok (.iaload, 1) := by decide +kernel
theorem dX7_count_62 : decode cX7_count 62 = .ok (.ireturn, 1) := by decide +kernel
theorem dX7_count_63 : decode cX7_count 63 = .ok (.iload_n 1, 1) := by decide +kernel
theorem dX7_count_64 : decode cX7_count 64 = .ok (.tableswitch 110 0 12 #[68, 75, 80, 87, 110, 110, 110, 110, 110, 110, 95, 100, 105], 68) := by decide +kernel
theorem dX7_count_132 : decode cX7_count 132 = .ok (.aload_n 0, 1) := by decide +kernel
theorem dX7_count_133 : decode cX7_count 133 = .ok (.getfield 7, 3) := by decide +kernel
theorem dX7_count_136 : decode cX7_count 136 = .ok (.iconst 3, 1) := by decide +kernel
theorem dX7_count_137 : decode cX7_count 137 = .ok (.iaload, 1) := by decide +kernel
theorem dX7_count_138 : decode cX7_count 138 = .ok (.ireturn, 1) := by decide +kernel
theorem dX7_count_139 : decode cX7_count 139 = .ok (.aload_n 0, 1) := by decide +kernel
theorem dX7_count_140 : decode cX7_count 140 = .ok (.invokevirtual 55, 3) := by decide +kernel
theorem dX7_count_143 : decode cX7_count 143 = .ok (.ireturn, 1) := by decide +kernel
theorem dX7_count_144 : decode cX7_count 144 = .ok (.aload_n 0, 1) := by decide +kernel
theorem dX7_count_145 : decode cX7_count 145 = .ok (.getfield 7, 3) := by decide +kernel
theorem dX7_count_148 : decode cX7_count 148 = .ok (.iconst 4, 1) := by decide +kernel
theorem dX7_count_149 : decode cX7_count 149 = .ok (.iaload, 1) := by decide +kernel
theorem dX7_count_150 : decode cX7_count 150 = .ok (.ireturn, 1) := by decide +kernel
theorem dX7_count_151 : decode cX7_count 151 = .ok (.aload_n 0, 1) := by decide +kernel
theorem dX7_count_152 : decode cX7_count 152 = .ok (.getfield 7, 3) := by decide +kernel
theorem dX7_count_155 : decode cX7_count 155 = .ok (.bipush 6, 2) := by decide +kernel
theorem dX7_count_157 : decode cX7_count 157 = .ok (.iaload, 1) := by decide +kernel
theorem dX7_count_158 : decode cX7_count 158 = .ok (.ireturn, 1) := by decide +kernel
theorem dX7_count_159 : decode cX7_count 159 = .ok (.aload_n 0, 1) := by decide +kernel
theorem dX7_count_160 : decode cX7_count 160 = .ok (.invokevirtual 140, 3) := by decide +kernel
theorem dX7_count_163 : decode cX7_count 163 = .ok (.ireturn, 1) := by decide +kernel
theorem dX7_count_164 : decode cX7_count 164 = .ok (.aload_n 0, 1) := by decide +kernel
theorem dX7_count_165 : decode cX7_count 165 = .ok (.invokevirtual 149, 3) := by decide +kernel
theorem dX7_count_168 : decode cX7_count 168 = .ok (.ireturn, 1) := by decide +kernel
theorem dX7_count_169 : decode cX7_count 169 = .ok (.aload_n 0, 1) := by decide +kernel
theorem dX7_count_170 : decode cX7_count 170 = .ok (.getfield 152, 3) := by decide +kernel
theorem dX7_count_173 : decode cX7_count 173 = .ok (.ireturn, 1) := by decide +kernel
theorem dX7_count_174 : decode cX7_count 174 = .ok (.iload_n 1, 1) := by decide +kernel
theorem dX7_count_175 : decode cX7_count 175 = .ok (.bipush 13, 2) := by decide +kernel
theorem dX7_count_177 : decode cX7_count 177 = .ok (.if_icmp .ne 10, 3) := by decide +kernel
theorem dX7_count_180 : decode cX7_count 180 = .ok (.aload_n 0, 1) := by decide +kernel
theorem dX7_count_181 : decode cX7_count 181 = .ok (.getfield 51, 3) := by decide +kernel
theorem dX7_count_184 : decode cX7_count 184 = .ok (.goto 5, 3) := by decide +kernel
theorem dX7_count_187 : decode cX7_count 187 = .ok (.bipush (-2), 2) := by decide +kernel
theorem dX7_count_189 : decode cX7_count 189 = .ok (.ireturn, 1) := by decide +kernel
set_option maxRecDepth 20000 in
theorem ggX7_leastWay_X7_isBox : GoodIn wsX7_leastWay wsX7_isBox := goodIn_r _ [5, 6, 7, 8, 4, 9, 10, 11, 12, 13, 49, 50, 51, 52, 53, 54, 55, 56, 57, 58, 59, 60, 61, 62, 63, 64, 65, 66] (by decide +kernel) (by decide +kernel)
set_option maxRecDepth 20000 in
theorem gX7_leastWay_X7_isBox : GoodIn wsX7_leastWay (wsV RX7 76 RX7 yX7_isBox wsX7_isBox) := goodIn_app (goodIn_of _ (by decide +kernel)) ggX7_leastWay_X7_isBox
set_option maxRecDepth 20000 in
theorem ggX7_leastWay_X7_farOf : GoodIn wsX7_leastWay wsX7_farOf := goodIn_r _ [17, 18, 19, 20, 21, 4, 22, 23, 24, 6, 7, 8, 9, 10, 25, 26, 27, 28, 29, 30, 31, 32, 33, 34, 35, 36, 11, 12, 13, 37, 38, 39, 40, 41, 42, 43, 44, 45, 46, 47, 48, 49, 50, 51, 52, 53, 54, 55, 56, 57, 58, 59, 60, 61, 62, 63, 64, 65, 66] (by decide +kernel) (by decide +kernel)
set_option maxRecDepth 20000 in
theorem gX7_leastWay_X7_farOf : GoodIn wsX7_leastWay (wsV RX7 105 RX7 yX7_farOf wsX7_farOf) := goodIn_app (goodIn_of _ (by decide +kernel)) ggX7_leastWay_X7_farOf
theorem dX7_leastWay_0 : decode cX7_leastWay 0 = .ok (.aload_n 0, 1) := by decide +kernel
theorem dX7_leastWay_1 : decode cX7_leastWay 1 = .ok (.iload_n 1, 1) := by decide +kernel
theorem dX7_leastWay_2 : decode cX7_leastWay 2 = .ok (.invokevirtual 76, 3) := by decide +kernel
theorem dX7_leastWay_5 : decode cX7_leastWay 5 = .ok (.ifCond .eq 23, 3) := by decide +kernel
theorem dX7_leastWay_8 : decode cX7_leastWay 8 = .ok (.aload_n 0, 1) := by decide +kernel
theorem dX7_leastWay_9 : decode cX7_leastWay 9 = .ok (.iload_n 2, 1) := by decide +kernel
theorem dX7_leastWay_10 : decode cX7_leastWay 10 = .ok (.invokevirtual 76, 3) := by decide +kernel
theorem dX7_leastWay_13 : decode cX7_leastWay 13 = .ok (.ifCond .eq 15, 3) := by decide +kernel
theorem dX7_leastWay_16 : decode cX7_leastWay 16 = .ok (.aload_n 0, 1) := by decide +kernel
theorem dX7_leastWay_17 : decode cX7_leastWay 17 = .ok (.bipush 10, 2) := by decide +kernel
theorem dX7_leastWay_19 : decode cX7_leastWay 19 = .ok (.iload_n 1, 1) := by decide +kernel
theorem dX7_leastWay_20 : decode cX7_leastWay 20 = .ok (.imul, 1) := by decide +kernel
theorem dX7_leastWay_21 : decode cX7_leastWay 21 = .ok (.iload_n 2, 1) := by decide +kernel
theorem dX7_leastWay_22 : decode cX7_leastWay 22 = .ok (.invokevirtual 105, 3) := by decide +kernel
theorem dX7_leastWay_25 : decode cX7_leastWay 25 = .ok (.goto 4, 3) := by decide +kernel
theorem dX7_leastWay_28 : decode cX7_leastWay 28 = .ok (.iconst (-1), 1) := by decide +kernel
theorem dX7_leastWay_29 : decode cX7_leastWay 29 = .ok (.ireturn, 1) := by decide +kernel
set_option maxRecDepth 20000 in
theorem ggX7_ways_X7_isBox : GoodIn wsX7_ways wsX7_isBox := goodIn_r _ [6, 7, 8, 9, 5, 10, 11, 12, 13, 14, 45, 46, 47, 48, 49, 50, 51, 52, 53, 54, 55, 56, 57, 58, 59, 60, 61, 62] (by decide +kernel) (by decide +kernel)
set_option maxRecDepth 20000 in
theorem gX7_ways_X7_isBox : GoodIn wsX7_ways (wsV RX7 76 RX7 yX7_isBox wsX7_isBox) := goodIn_app (goodIn_of _ (by decide +kernel)) ggX7_ways_X7_isBox
set_option maxRecDepth 20000 in
theorem ggX7_ways_X7_layFar : GoodIn wsX7_ways wsX7_layFar := goodIn_r _ [18, 19, 20, 1, 7, 8, 9, 5, 10, 11, 21, 22, 23, 24, 25, 26, 27, 28, 29, 30, 31, 32, 12, 13, 14, 33, 34, 35, 36, 37, 38, 39, 40, 41, 42, 43, 44, 45, 46, 47, 48, 49, 50, 51, 52, 53, 54, 55, 56, 57, 58, 59, 60, 61, 62] (by decide +kernel) (by decide +kernel)
set_option maxRecDepth 20000 in
theorem gX7_ways_X7_layFar : GoodIn wsX7_ways (wsV RX7 94 RX7 yX7_layFar wsX7_layFar) := goodIn_app (goodIn_of _ (by decide +kernel)) ggX7_ways_X7_layFar
theorem dX7_ways_0 : decode cX7_ways 0 = .ok (.aload_n 0, 1) := by decide +kernel
theorem dX7_ways_1 : decode cX7_ways 1 = .ok (.iload_n 1, 1) := by decide +kernel
theorem dX7_ways_2 : decode cX7_ways 2 = .ok (.invokevirtual 76, 3) := by decide +kernel
theorem dX7_ways_5 : decode cX7_ways 5 = .ok (.ifCond .eq 11, 3) := by decide +kernel
theorem dX7_ways_8 : decode cX7_ways 8 = .ok (.aload_n 0, 1) := by decide +kernel
theorem dX7_ways_9 : decode cX7_ways 9 = .ok (.iload_n 2, 1) := by decide +kernel
theorem dX7_ways_10 : decode cX7_ways 10 = .ok (.invokevirtual 76, 3) := by decide +kernel
theorem dX7_ways_13 : decode cX7_ways 13 = .ok (.ifCond .ne 5, 3) := by decide +kernel
theorem dX7_ways_16 : decode cX7_ways 16 = .ok (.iconst (-1), 1) := by decide +kernel
theorem dX7_ways_17 : decode cX7_ways 17 = .ok (.ireturn, 1) := by decide +kernel
theorem dX7_ways_18 : decode cX7_ways 18 = .ok (.aload_n 0, 1) := by decide +kernel
theorem dX7_ways_19 : decode cX7_ways 19 = .ok (.iload_n 2, 1) := by decide +kernel
theorem dX7_ways_20 : decode cX7_ways 20 = .ok (.invokevirtual 94, 3) := by decide +kernel
theorem dX7_ways_23 : decode cX7_ways 23 = .ok (.aload_n 0, 1) := by decide +kernel
theorem dX7_ways_24 : decode cX7_ways 24 = .ok (.getfield 32, 3) := by decide +kernel
theorem dX7_ways_27 : decode cX7_ways 27 = .ok (.sipush 250, 3) := by decide +kernel
theorem dX7_ways_30 : decode cX7_ways 30 = .ok (.iload_n 2, 1) := by decide +kernel
theorem dX7_ways_31 : decode cX7_ways 31 = .ok (.imul, 1) := by decide +kernel
theorem dX7_ways_32 : decode cX7_ways 32 = .ok (.bipush 10, 2) := by decide +kernel
theorem dX7_ways_34 : decode cX7_ways 34 = .ok (.iload_n 1, 1) := by decide +kernel
theorem dX7_ways_35 : decode cX7_ways 35 = .ok (.imul, 1) := by decide +kernel
theorem dX7_ways_36 : decode cX7_ways 36 = .ok (.iadd, 1) := by decide +kernel
theorem dX7_ways_37 : decode cX7_ways 37 = .ok (.iaload, 1) := by decide +kernel
theorem dX7_ways_38 : decode cX7_ways 38 = .ok (.ireturn, 1) := by decide +kernel
set_option maxRecDepth 20000 in
theorem ggX7_pairsNow_X7_boxes : GoodIn wsX7_pairsNow wsX7_boxes := goodIn_r _ [5, 6, 45, 46, 47, 48, 49, 50, 51, 52, 53, 54, 55, 56, 57, 58, 59, 60, 61, 62] (by decide +kernel) (by decide +kernel)
set_option maxRecDepth 20000 in
theorem gX7_pairsNow_X7_boxes : GoodIn wsX7_pairsNow (wsV RX7 55 RX7 yX7_boxes wsX7_boxes) := goodIn_app (goodIn_of _ (by decide +kernel)) ggX7_pairsNow_X7_boxes
set_option maxRecDepth 20000 in
theorem ggX7_pairsNow_X7_farOf : GoodIn wsX7_pairsNow wsX7_farOf := goodIn_r _ [10, 11, 12, 13, 14, 4, 15, 16, 17, 1, 2, 3, 5, 6, 18, 19, 20, 21, 22, 23, 24, 25, 26, 27, 28, 29, 30, 31, 32, 33, 34, 35, 36, 37, 38, 39, 40, 41, 42, 43, 44, 45, 46, 47, 48, 49, 50, 51, 52, 53, 54, 55, 56, 57, 58, 59, 60, 61, 62] (by decide +kernel) (by decide +kernel)
set_option maxRecDepth 20000 in
theorem gX7_pairsNow_X7_farOf : GoodIn wsX7_pairsNow (wsV RX7 105 RX7 yX7_farOf wsX7_farOf) := goodIn_app (goodIn_of _ (by decide +kernel)) ggX7_pairsNow_X7_farOf
theorem dX7_pairsNow_0 : decode cX7_pairsNow 0 = .ok (.iconst 0, 1) := by decide +kernel
theorem dX7_pairsNow_1 : decode cX7_pairsNow 1 = .ok (.istore_n 1, 1) := by decide +kernel
theorem dX7_pairsNow_2 : decode cX7_pairsNow 2 = .ok (.iconst 0, 1) := by decide +kernel
theorem dX7_pairsNow_3 : decode cX7_pairsNow 3 = .ok (.istore_n 2, 1) := by decide +kernel
theorem dX7_pairsNow_4 : decode cX7_pairsNow 4 = .ok (.iload_n 2, 1) := by decide +kernel
theorem dX7_pairsNow_5 : decode cX7_pairsNow 5 = .ok (.aload_n 0, 1) := by decide +kernel
theorem dX7_pairsNow_6 : decode cX7_pairsNow 6 = .ok (.invokevirtual 55, 3) := by decide +kernel
theorem dX7_pairsNow_9 : decode cX7_pairsNow 9 = .ok (.if_icmp .ge 50, 3) := by decide +kernel
theorem dX7_pairsNow_12 : decode cX7_pairsNow 12 = .ok (.iconst 0, 1) := by decide +kernel
theorem dX7_pairsNow_13 : decode cX7_pairsNow 13 = .ok (.istore_n 3, 1) := by decide +kernel
theorem dX7_pairsNow_14 : decode cX7_pairsNow 14 = .ok (.iload_n 3, 1) := by decide +kernel
theorem dX7_pairsNow_15 : decode cX7_pairsNow 15 = .ok (.aload_n 0, 1) := by decide +kernel
theorem dX7_pairsNow_16 : decode cX7_pairsNow 16 = .ok (.invokevirtual 55, 3) := by decide +kernel
theorem dX7_pairsNow_19 : decode cX7_pairsNow 19 = .ok (.if_icmp .ge 34, 3) := by decide +kernel
theorem dX7_pairsNow_22 : decode cX7_pairsNow 22 = .ok (.iload_n 1, 1) := by decide +kernel
theorem dX7_pairsNow_23 : decode cX7_pairsNow 23 = .ok (.iload_n 2, 1) := by decide +kernel
theorem dX7_pairsNow_24 : decode cX7_pairsNow 24 = .ok (.iload_n 3, 1) := by decide +kernel
theorem dX7_pairsNow_25 : decode cX7_pairsNow 25 = .ok (.if_icmp .eq 19, 3) := by decide +kernel
theorem dX7_pairsNow_28 : decode cX7_pairsNow 28 = .ok (.aload_n 0, 1) := by decide +kernel
theorem dX7_pairsNow_29 : decode cX7_pairsNow 29 = .ok (.bipush 10, 2) := by decide +kernel
theorem dX7_pairsNow_31 : decode cX7_pairsNow 31 = .ok (.iload_n 2, 1) := by decide +kernel
theorem dX7_pairsNow_32 : decode cX7_pairsNow 32 = .ok (.imul, 1) := by decide +kernel
theorem dX7_pairsNow_33 : decode cX7_pairsNow 33 = .ok (.iload_n 3, 1) := by decide +kernel
theorem dX7_pairsNow_34 : decode cX7_pairsNow 34 = .ok (.invokevirtual 105, 3) := by decide +kernel
theorem dX7_pairsNow_37 : decode cX7_pairsNow 37 = .ok (.ifCond .lt 7, 3) := by decide +kernel
theorem dX7_pairsNow_40 : decode cX7_pairsNow 40 = .ok (.iconst 1, 1) := by decide +kernel
theorem dX7_pairsNow_41 : decode cX7_pairsNow 41 = .ok (.goto 4, 3) := by decide +kernel
theorem dX7_pairsNow_44 : decode cX7_pairsNow 44 = .ok (.iconst 0, 1) := by decide +kernel
theorem dX7_pairsNow_45 : decode cX7_pairsNow 45 = .ok (.iadd, 1) := by decide +kernel
theorem dX7_pairsNow_46 : decode cX7_pairsNow 46 = .ok (.istore_n 1, 1) := by decide +kernel
theorem dX7_pairsNow_47 : decode cX7_pairsNow 47 = .ok (.iinc 3 1, 3) := by decide +kernel
theorem dX7_pairsNow_50 : decode cX7_pairsNow 50 = .ok (.goto (-36), 3) := by decide +kernel
theorem dX7_pairsNow_53 : decode cX7_pairsNow 53 = .ok (.iinc 2 1, 3) := by decide +kernel
theorem dX7_pairsNow_56 : decode cX7_pairsNow 56 = .ok (.goto (-52), 3) := by decide +kernel
theorem dX7_pairsNow_59 : decode cX7_pairsNow 59 = .ok (.iload_n 1, 1) := by decide +kernel
theorem dX7_pairsNow_60 : decode cX7_pairsNow 60 = .ok (.ireturn, 1) := by decide +kernel
set_option maxRecDepth 20000 in
theorem ggX7_pairs_X7_pairsNow : GoodIn wsX7_pairs wsX7_pairsNow := goodIn_r _ [5, 6, 7, 8, 4, 9, 10, 11, 12, 13, 14, 15, 16, 17, 18, 19, 20, 21, 22, 23, 24, 25, 26, 27, 28, 29, 30, 31, 32, 33, 34, 35, 36, 37, 38, 39, 40, 41, 42, 43, 44, 45, 46, 47, 48, 49, 50, 51, 52, 53, 54, 55, 56, 57, 58, 59, 60, 61, 62, 63, 64, 65, 66] (by decide +kernel) (by decide +kernel)
set_option maxRecDepth 20000 in
theorem gX7_pairs_X7_pairsNow : GoodIn wsX7_pairs (wsV RX7 155 RX7 yX7_pairsNow wsX7_pairsNow) := goodIn_app (goodIn_of _ (by decide +kernel)) ggX7_pairs_X7_pairsNow
theorem dX7_pairs_0 : decode cX7_pairs 0 = .ok (.aload_n 0, 1) := by decide +kernel
theorem dX7_pairs_1 : decode cX7_pairs 1 = .ok (.invokevirtual 155, 3) := by decide +kernel
theorem dX7_pairs_4 : decode cX7_pairs 4 = .ok (.ireturn, 1) := by decide +kernel
set_option maxRecDepth 20000 in
theorem ggX7_worstLink_X7_in : GoodIn wsX7_worstLink wsX7_in := goodIn_r _ [5] (by decide +kernel) (by decide +kernel)
set_option maxRecDepth 20000 in
theorem gX7_worstLink_X7_in : GoodIn wsX7_worstLink (va_wsS RX7 59 yX7_in wsX7_in) := goodIn_app (goodIn_of _ (by decide +kernel)) ggX7_worstLink_X7_in
set_option maxRecDepth 20000 in
theorem ggX7_worstLink_X7_boxes : GoodIn wsX7_worstLink wsX7_boxes := goodIn_r _ [9, 1, 53, 54, 55, 56, 57, 58, 59, 60, 61, 62, 63, 64, 65, 66, 67, 68, 69, 70] (by decide +kernel) (by decide +kernel)
set_option maxRecDepth 20000 in
theorem gX7_worstLink_X7_boxes : GoodIn wsX7_worstLink (wsV RX7 55 RX7 yX7_boxes wsX7_boxes) := goodIn_app (goodIn_of _ (by decide +kernel)) ggX7_worstLink_X7_boxes
set_option maxRecDepth 20000 in
theorem ggX7_worstLink_X7_isWhole : GoodIn wsX7_worstLink wsX7_isWhole := goodIn_r _ [13, 1, 14, 15, 16, 4, 17, 2, 3, 5, 18, 19, 20, 21, 53, 54, 55, 56, 57, 58, 59, 60, 61, 62, 63, 64, 65, 66, 67, 68, 69, 70] (by decide +kernel) (by decide +kernel)
set_option maxRecDepth 20000 in
theorem gX7_worstLink_X7_isWhole : GoodIn wsX7_worstLink (wsV RX7 83 RX7 yX7_isWhole wsX7_isWhole) := goodIn_app (goodIn_of _ (by decide +kernel)) ggX7_worstLink_X7_isWhole
set_option maxRecDepth 20000 in
theorem ggX7_worstLink_X7_linkOf : GoodIn wsX7_worstLink wsX7_linkOf := goodIn_r _ [21, 14, 15, 16, 4, 17, 1, 2, 3, 5, 53, 54, 55, 56, 57, 58, 59, 60, 61, 62, 63, 64, 65, 66, 67, 68, 69, 70] (by decide +kernel) (by decide +kernel)
set_option maxRecDepth 20000 in
theorem gX7_worstLink_X7_linkOf : GoodIn wsX7_worstLink (wsV RX7 67 RX7 yX7_linkOf wsX7_linkOf) := goodIn_app (goodIn_of _ (by decide +kernel)) ggX7_worstLink_X7_linkOf
set_option maxRecDepth 20000 in
theorem ggX7_worstLink_X7_forget : GoodIn wsX7_worstLink wsX7_forget := goodIn_r _ [25, 26, 53, 54, 55, 56, 57, 58, 59, 60, 61, 62, 63, 64, 65, 66, 67, 68, 69, 70] (by decide +kernel) (by decide +kernel)
set_option maxRecDepth 20000 in
theorem gX7_worstLink_X7_forget : GoodIn wsX7_worstLink (wsV RX7 73 RX7 yX7_forget wsX7_forget) := goodIn_app (goodIn_of _ (by decide +kernel)) ggX7_worstLink_X7_forget
set_option maxRecDepth 20000 in
theorem ggX7_worstLink_X7_pairsNow : GoodIn wsX7_worstLink wsX7_pairsNow := goodIn_r _ [30, 6, 7, 8, 4, 9, 1, 31, 32, 33, 34, 35, 36, 37, 38, 39, 26, 40, 41, 42, 43, 44, 10, 11, 12, 13, 14, 15, 16, 17, 2, 3, 5, 18, 19, 20, 21, 45, 46, 47, 48, 49, 50, 51, 52, 53, 54, 55, 56, 57, 58, 59, 60, 61, 62, 63, 64, 65, 66, 67, 68, 69, 70] (by decide +kernel) (by decide +kernel)
set_option maxRecDepth 20000 in
theorem gX7_worstLink_X7_pairsNow : GoodIn wsX7_worstLink (wsV RX7 155 RX7 yX7_pairsNow wsX7_pairsNow) := goodIn_app (goodIn_of _ (by decide +kernel)) ggX7_worstLink_X7_pairsNow
theorem dX7_worstLink_0 : decode cX7_worstLink 0 = .ok (.iload_n 1, 1) := by decide +kernel
theorem dX7_worstLink_1 : decode cX7_worstLink 1 = .ok (.iconst 0, 1) := by decide +kernel
theorem dX7_worstLink_2 : decode cX7_worstLink 2 = .ok (.iconst 2, 1) := by decide +kernel
theorem dX7_worstLink_3 : decode cX7_worstLink 3 = .ok (.invokestatic 59, 3) := by decide +kernel
theorem dX7_worstLink_6 : decode cX7_worstLink 6 = .ok (.ifCond .ne 6, 3) := by decide +kernel
theorem dX7_worstLink_9 : decode cX7_worstLink 9 = .ok (.bipush (-2), 2) := by decide +kernel
theorem dX7_worstLink_11 : decode cX7_worstLink 11 = .ok (.ireturn, 1) := by decide +kernel
theorem dX7_worstLink_12 : decode cX7_worstLink 12 = .ok (.bipush (-6), 2) := by decide +kernel
theorem dX7_worstLink_14 : decode cX7_worstLink 14 = .ok (.istore_n 2, 1) := by decide +kernel
theorem dX7_worstLink_15 : decode cX7_worstLink 15 = .ok (.iconst 0, 1) := by decide +kernel
theorem dX7_worstLink_16 : decode cX7_worstLink 16 = .ok (.istore_n 3, 1) := by decide +kernel
theorem dX7_worstLink_17 : decode cX7_worstLink 17 = .ok (.iconst 0, 1) := by decide +kernel
theorem dX7_worstLink_18 : decode cX7_worstLink 18 = .ok (.istore 4, 2) := by decide +kernel
theorem dX7_worstLink_20 : decode cX7_worstLink 20 = .ok (.iload 4, 2) := by decide +kernel
theorem dX7_worstLink_22 : decode cX7_worstLink 22 = .ok (.aload_n 0, 1) := by decide +kernel
theorem dX7_worstLink_23 : decode cX7_worstLink 23 = .ok (.invokevirtual 55, 3) := by decide +kernel
theorem dX7_worstLink_26 : decode cX7_worstLink 26 = .ok (.if_icmp .ge 98, 3) := by decide +kernel
theorem dX7_worstLink_29 : decode cX7_worstLink 29 = .ok (.iconst 0, 1) := by decide +kernel
theorem dX7_worstLink_30 : decode cX7_worstLink 30 = .ok (.istore 5, 2) := by decide +kernel
theorem dX7_worstLink_32 : decode cX7_worstLink 32 = .ok (.iload 5, 2) := by decide +kernel
theorem dX7_worstLink_34 : decode cX7_worstLink 34 = .ok (.iconst 2, 1) := by decide +kernel
theorem dX7_worstLink_35 : decode cX7_worstLink 35 = .ok (.if_icmp .gt 83, 3) := by decide +kernel
theorem dX7_worstLink_38 : decode cX7_worstLink 38 = .ok (.aload_n 0, 1) := by decide +kernel
theorem dX7_worstLink_39 : decode cX7_worstLink 39 = .ok (.iload 4, 2) := by decide +kernel
theorem dX7_worstLink_41 : decode cX7_worstLink 41 = .ok (.iload 5, 2) := by decide +kernel
theorem dX7_worstLink_43 : decode cX7_worstLink 43 = .ok (.invokevirtual 83, 3) := by decide +kernel
theorem dX7_worstLink_46 : decode cX7_worstLink 46 = .ok (.ifCond .eq 66, 3) := by decide +kernel
theorem dX7_worstLink_49 : decode cX7_worstLink 49 = .ok (.aload_n 0, 1) := by decide +kernel
theorem dX7_worstLink_50 : decode cX7_worstLink 50 = .ok (.getfield 7, 3) := by decide +kernel
theorem dX7_worstLink_53 : decode cX7_worstLink 53 = .ok (.aload_n 0, 1) := by decide +kernel
theorem dX7_worstLink_54 : decode cX7_worstLink 54 = .ok (.iload 4, 2) := by decide +kernel
theorem dX7_worstLink_56 : decode cX7_worstLink 56 = .ok (.iload 5, 2) := by decide +kernel
theorem dX7_worstLink_58 : decode cX7_worstLink 58 = .ok (.invokevirtual 67, 3) := by decide +kernel
theorem dX7_worstLink_61 : decode cX7_worstLink 61 = .ok (.iconst 1, 1) := by decide +kernel
theorem dX7_worstLink_62 : decode cX7_worstLink 62 = .ok (.iastore, 1) := by decide +kernel
theorem dX7_worstLink_63 : decode cX7_worstLink 63 = .ok (.aload_n 0, 1) := by decide +kernel
theorem dX7_worstLink_64 : decode cX7_worstLink 64 = .ok (.invokevirtual 73, 3) := by decide +kernel
theorem dX7_worstLink_67 : decode cX7_worstLink 67 = .ok (.aload_n 0, 1) := by decide +kernel
theorem dX7_worstLink_68 : decode cX7_worstLink 68 = .ok (.invokevirtual 155, 3) := by decide +kernel
theorem dX7_worstLink_71 : decode cX7_worstLink 71 = .ok (.istore 6, 2) := by decide +kernel
theorem dX7_worstLink_73 : decode cX7_worstLink 73 = .ok (.aload_n 0, 1) := by decide +kernel
theorem dX7_worstLink_74 : decode cX7_worstLink 74 = .ok (.getfield 7, 3) := by decide +kernel
theorem dX7_worstLink_77 : decode cX7_worstLink 77 = .ok (.aload_n 0, 1) := by decide +kernel
theorem dX7_worstLink_78 : decode cX7_worstLink 78 = .ok (.iload 4, 2) := by decide +kernel
theorem dX7_worstLink_80 : decode cX7_worstLink 80 = .ok (.iload 5, 2) := by decide +kernel
theorem dX7_worstLink_82 : decode cX7_worstLink 82 = .ok (.invokevirtual 67, 3) := by decide +kernel
theorem dX7_worstLink_85 : decode cX7_worstLink 85 = .ok (.iconst 0, 1) := by decide +kernel
theorem dX7_worstLink_86 : decode cX7_worstLink 86 = .ok (.iastore, 1) := by decide +kernel
theorem dX7_worstLink_87 : decode cX7_worstLink 87 = .ok (.aload_n 0, 1) := by decide +kernel
theorem dX7_worstLink_88 : decode cX7_worstLink 88 = .ok (.invokevirtual 73, 3) := by decide +kernel
theorem dX7_worstLink_91 : decode cX7_worstLink 91 = .ok (.iload_n 2, 1) := by decide +kernel
theorem dX7_worstLink_92 : decode cX7_worstLink 92 = .ok (.ifCond .lt 9, 3) := by decide +kernel
theorem dX7_worstLink_95 : decode cX7_worstLink 95 = .ok (.iload 6, 2) := by decide +kernel
theorem dX7_worstLink_97 : decode cX7_worstLink 97 = .ok (.iload_n 3, 1) := by decide +kernel
theorem dX7_worstLink_98 : decode cX7_worstLink 98 = .ok (.if_icmp .ge 14, 3) := by decide +kernel
theorem dX7_worstLink_101 : decode cX7_worstLink 101 = .ok (.iconst 4, 1) := by decide +kernel
theorem dX7_worstLink_102 : decode cX7_worstLink 102 = .ok (.iload 4, 2) := by decide +kernel
theorem dX7_worstLink_104 : decode cX7_worstLink 104 = .ok (.imul, 1) := by decide +kernel
theorem dX7_worstLink_105 : decode cX7_worstLink 105 = .ok (.iload 5, 2) := by decide +kernel
theorem dX7_worstLink_107 : decode cX7_worstLink 107 = .ok (.iadd, 1) := by decide +kernel
theorem dX7_worstLink_108 : decode cX7_worstLink 108 = .ok (.istore_n 2, 1) := by decide +kernel
theorem dX7_worstLink_109 : decode cX7_worstLink 109 = .ok (.iload 6, 2) := by decide +kernel
theorem dX7_worstLink_111 : decode cX7_worstLink 111 = .ok (.istore_n 3, 1) := by decide +kernel
theorem dX7_worstLink_112 : decode cX7_worstLink 112 = .ok (.iinc 5 2, 3) := by decide +kernel
theorem dX7_worstLink_115 : decode cX7_worstLink 115 = .ok (.goto (-83), 3) := by decide +kernel
theorem dX7_worstLink_118 : decode cX7_worstLink 118 = .ok (.iinc 4 1, 3) := by decide +kernel
theorem dX7_worstLink_121 : decode cX7_worstLink 121 = .ok (.goto (-101), 3) := by decide +kernel
theorem dX7_worstLink_124 : decode cX7_worstLink 124 = .ok (.iload_n 2, 1) := by decide +kernel
theorem dX7_worstLink_125 : decode cX7_worstLink 125 = .ok (.ifCond .ge 8, 3) := by decide +kernel
theorem dX7_worstLink_128 : decode cX7_worstLink 128 = .ok (.bipush (-6), 2) := by decide +kernel
theorem dX7_worstLink_130 : decode cX7_worstLink 130 = .ok (.goto 25, 3) := by decide +kernel
theorem dX7_worstLink_133 : decode cX7_worstLink 133 = .ok (.iload_n 1, 1) := by decide +kernel
theorem dX7_worstLink_134 : decode cX7_worstLink 134 = .ok (.ifCond .ne 9, 3) := by decide +kernel
theorem dX7_worstLink_137 : decode cX7_worstLink 137 = .ok (.iload_n 2, 1) := by decide +kernel
theorem dX7_worstLink_138 : decode cX7_worstLink 138 = .ok (.iconst 4, 1) := by decide +kernel
theorem dX7_worstLink_139 : decode cX7_worstLink 139 = .ok (.idiv, 1) := by decide +kernel
theorem dX7_worstLink_140 : decode cX7_worstLink 140 = .ok (.goto 15, 3) := by decide +kernel
theorem dX7_worstLink_143 : decode cX7_worstLink 143 = .ok (.iload_n 1, 1) := by decide +kernel
theorem dX7_worstLink_144 : decode cX7_worstLink 144 = .ok (.iconst 1, 1) := by decide +kernel
theorem dX7_worstLink_145 : decode cX7_worstLink 145 = .ok (.if_icmp .ne 9, 3) := by decide +kernel
theorem dX7_worstLink_148 : decode cX7_worstLink 148 = .ok (.iload_n 2, 1) := by decide +kernel
theorem dX7_worstLink_149 : decode cX7_worstLink 149 = .ok (.iconst 4, 1) := by decide +kernel
theorem dX7_worstLink_150 : decode cX7_worstLink 150 = .ok (.irem, 1) := by decide +kernel
theorem dX7_worstLink_151 : decode cX7_worstLink 151 = .ok (.goto 4, 3) := by decide +kernel
theorem dX7_worstLink_154 : decode cX7_worstLink 154 = .ok (.iload_n 3, 1) := by decide +kernel
theorem dX7_worstLink_155 : decode cX7_worstLink 155 = .ok (.ireturn, 1) := by decide +kernel
set_option maxRecDepth 20000 in
theorem ggX7_busiest_X7_in : GoodIn wsX7_busiest wsX7_in := goodIn_r _ [5] (by decide +kernel) (by decide +kernel)
set_option maxRecDepth 20000 in
theorem gX7_busiest_X7_in : GoodIn wsX7_busiest (va_wsS RX7 59 yX7_in wsX7_in) := goodIn_app (goodIn_of _ (by decide +kernel)) ggX7_busiest_X7_in
set_option maxRecDepth 20000 in
theorem ggX7_busiest_X7_boxes : GoodIn wsX7_busiest wsX7_boxes := goodIn_r _ [9, 1, 10, 11, 12, 13, 14, 15, 16, 17, 18, 19, 20, 21, 22, 23, 24, 25, 26, 27] (by decide +kernel) (by decide +kernel)
set_option maxRecDepth 20000 in
theorem gX7_busiest_X7_boxes : GoodIn wsX7_busiest (wsV RX7 55 RX7 yX7_boxes wsX7_boxes) := goodIn_app (goodIn_of _ (by decide +kernel)) ggX7_busiest_X7_boxes
theorem dX7_busiest_0 : decode cX7_busiest 0 = .ok (.iload_n 1, 1) := by decide +kernel
theorem dX7_busiest_1 : decode cX7_busiest 1 = .ok (.iconst 0, 1) := by decide +kernel
theorem dX7_busiest_2 : decode cX7_busiest 2 = .ok (.iconst 2, 1) := by decide +kernel
theorem dX7_busiest_3 : decode cX7_busiest 3 = .ok (.invokestatic 59, 3) := by decide +kernel
theorem dX7_busiest_6 : decode cX7_busiest 6 = .ok (.ifCond .ne 6, 3) := by decide +kernel
theorem dX7_busiest_9 : decode cX7_busiest 9 = .ok (.bipush (-2), 2) := by decide +kernel
theorem dX7_busiest_11 : decode cX7_busiest 11 = .ok (.ireturn, 1) := by decide +kernel
theorem dX7_busiest_12 : decode cX7_busiest 12 = .ok (.iconst 0, 1) := by decide +kernel
theorem dX7_busiest_13 : decode cX7_busiest 13 = .ok (.istore_n 2, 1) := by decide +kernel
theorem dX7_busiest_14 : decode cX7_busiest 14 = .ok (.iconst 1, 1) := by decide +kernel
theorem dX7_busiest_15 : decode cX7_busiest 15 = .ok (.istore_n 3, 1) := by decide +kernel
theorem dX7_busiest_16 : decode cX7_busiest 16 = .ok (.iload_n 3, 1) := by decide +kernel
theorem dX7_busiest_17 : decode cX7_busiest 17 = .ok (.iconst 4, 1) := by decide +kernel
theorem dX7_busiest_18 : decode cX7_busiest 18 = .ok (.aload_n 0, 1) := by decide +kernel
theorem dX7_busiest_19 : decode cX7_busiest 19 = .ok (.invokevirtual 55, 3) := by decide +kernel
theorem dX7_busiest_22 : decode cX7_busiest 22 = .ok (.imul, 1) := by decide +kernel
theorem dX7_busiest_23 : decode cX7_busiest 23 = .ok (.if_icmp .ge 36, 3) := by decide +kernel
theorem dX7_busiest_26 : decode cX7_busiest 26 = .ok (.aload_n 0, 1) := by decide +kernel
theorem dX7_busiest_27 : decode cX7_busiest 27 = .ok (.getfield 7, 3) := by decide +kernel
theorem dX7_busiest_30 : decode cX7_busiest 30 = .ok (.bipush 60, 2) := by decide +kernel
theorem dX7_busiest_32 : decode cX7_busiest 32 = .ok (.iload_n 3, 1) := by decide +kernel
theorem dX7_busiest_33 : decode cX7_busiest 33 = .ok (.iadd, 1) := by decide +kernel
theorem dX7_busiest_34 : decode cX7_busiest 34 = .ok (.iaload, 1) := by decide +kernel
theorem dX7_busiest_35 : decode cX7_busiest 35 = .ok (.aload_n 0, 1) := by decide +kernel
theorem dX7_busiest_36 : decode cX7_busiest 36 = .ok (.getfield 7, 3) := by decide +kernel
theorem dX7_busiest_39 : decode cX7_busiest 39 = .ok (.bipush 60, 2) := by decide +kernel
theorem dX7_busiest_41 : decode cX7_busiest 41 = .ok (.iload_n 2, 1) := by decide +kernel
theorem dX7_busiest_42 : decode cX7_busiest 42 = .ok (.iadd, 1) := by decide +kernel
theorem dX7_busiest_43 : decode cX7_busiest 43 = .ok (.iaload, 1) := by decide +kernel
theorem dX7_busiest_44 : decode cX7_busiest 44 = .ok (.if_icmp .le 7, 3) := by decide +kernel
theorem dX7_busiest_47 : decode cX7_busiest 47 = .ok (.iload_n 3, 1) := by decide +kernel
theorem dX7_busiest_48 : decode cX7_busiest 48 = .ok (.goto 4, 3) := by decide +kernel
theorem dX7_busiest_51 : decode cX7_busiest 51 = .ok (.iload_n 2, 1) := by decide +kernel
theorem dX7_busiest_52 : decode cX7_busiest 52 = .ok (.istore_n 2, 1) := by decide +kernel
theorem dX7_busiest_53 : decode cX7_busiest 53 = .ok (.iinc 3 1, 3) := by decide +kernel
theorem dX7_busiest_56 : decode cX7_busiest 56 = .ok (.goto (-40), 3) := by decide +kernel
theorem dX7_busiest_59 : decode cX7_busiest 59 = .ok (.aload_n 0, 1) := by decide +kernel
theorem dX7_busiest_60 : decode cX7_busiest 60 = .ok (.getfield 7, 3) := by decide +kernel
theorem dX7_busiest_63 : decode cX7_busiest 63 = .ok (.bipush 60, 2) := by decide +kernel
theorem dX7_busiest_65 : decode cX7_busiest 65 = .ok (.iload_n 2, 1) := by decide +kernel
theorem dX7_busiest_66 : decode cX7_busiest 66 = .ok (.iadd, 1) := by decide +kernel
theorem dX7_busiest_67 : decode cX7_busiest 67 = .ok (.iaload, 1) := by decide +kernel
theorem dX7_busiest_68 : decode cX7_busiest 68 = .ok (.istore_n 3, 1) := by decide +kernel
theorem dX7_busiest_69 : decode cX7_busiest 69 = .ok (.iload_n 3, 1) := by decide +kernel
theorem dX7_busiest_70 : decode cX7_busiest 70 = .ok (.ifCond .ne 8, 3) := by decide +kernel
theorem dX7_busiest_73 : decode cX7_busiest 73 = .ok (.bipush (-6), 2) := by decide +kernel
theorem dX7_busiest_75 : decode cX7_busiest 75 = .ok (.goto 25, 3) := by decide +kernel
theorem dX7_busiest_78 : decode cX7_busiest 78 = .ok (.iload_n 1, 1) := by decide +kernel
theorem dX7_busiest_79 : decode cX7_busiest 79 = .ok (.ifCond .ne 9, 3) := by decide +kernel
theorem dX7_busiest_82 : decode cX7_busiest 82 = .ok (.iload_n 2, 1) := by decide +kernel
theorem dX7_busiest_83 : decode cX7_busiest 83 = .ok (.iconst 4, 1) := by decide +kernel
theorem dX7_busiest_84 : decode cX7_busiest 84 = .ok (.idiv, 1) := by decide +kernel
theorem dX7_busiest_85 : decode cX7_busiest 85 = .ok (.goto 15, 3) := by decide +kernel
theorem dX7_busiest_88 : decode cX7_busiest 88 = .ok (.iload_n 1, 1) := by decide +kernel
theorem dX7_busiest_89 : decode cX7_busiest 89 = .ok (.iconst 1, 1) := by decide +kernel
theorem dX7_busiest_90 : decode cX7_busiest 90 = .ok (.if_icmp .ne 9, 3) := by decide +kernel
theorem dX7_busiest_93 : decode cX7_busiest 93 = .ok (.iload_n 2, 1) := by decide +kernel
theorem dX7_busiest_94 : decode cX7_busiest 94 = .ok (.iconst 4, 1) := by decide +kernel
theorem dX7_busiest_95 : decode cX7_busiest 95 = .ok (.irem, 1) := by decide +kernel
theorem dX7_busiest_96 : decode cX7_busiest 96 = .ok (.goto 4, 3) := by decide +kernel
theorem dX7_busiest_99 : decode cX7_busiest 99 = .ok (.iload_n 3, 1) := by decide +kernel
theorem dX7_busiest_100 : decode cX7_busiest 100 = .ok (.ireturn, 1) := by decide +kernel
set_option maxRecDepth 20000 in
theorem ggX7_arrivesIn_X7_isPacket : GoodIn wsX7_arrivesIn wsX7_isPacket := goodIn_r _ [5, 6, 7, 8, 4, 9, 95, 96, 97, 98, 99, 100, 101, 102, 103, 104, 105, 106, 107, 108, 109, 110, 111, 112] (by decide +kernel) (by decide +kernel)
set_option maxRecDepth 20000 in
theorem gX7_arrivesIn_X7_isPacket : GoodIn wsX7_arrivesIn (wsV RX7 134 RX7 yX7_isPacket wsX7_isPacket) := goodIn_app (goodIn_of _ (by decide +kernel)) ggX7_arrivesIn_X7_isPacket
set_option maxRecDepth 20000 in
theorem ggX7_arrivesIn_X7_keep : GoodIn wsX7_arrivesIn wsX7_keep := goodIn_r _ [13, 14, 6, 95, 96, 97, 98, 99, 100, 101, 102, 103, 104, 105, 106, 107, 108, 109, 110, 111, 112] (by decide +kernel) (by decide +kernel)
set_option maxRecDepth 20000 in
theorem gX7_arrivesIn_X7_keep : GoodIn wsX7_arrivesIn (wsV RX7 158 RX7 yX7_keep wsX7_keep) := goodIn_app (goodIn_of _ (by decide +kernel)) ggX7_arrivesIn_X7_keep
set_option maxRecDepth 20000 in
theorem ggX7_arrivesIn_X7_of : GoodIn wsX7_arrivesIn wsX7_of := goodIn_r _ [18, 6, 95, 96, 97, 98, 99, 100, 101, 102, 103, 104, 105, 106, 107, 108, 109, 110, 111, 112] (by decide +kernel) (by decide +kernel)
set_option maxRecDepth 20000 in
theorem gX7_arrivesIn_X7_of : GoodIn wsX7_arrivesIn (wsV RX7 98 RX7 yX7_of wsX7_of) := goodIn_app (goodIn_of _ (by decide +kernel)) ggX7_arrivesIn_X7_of
set_option maxRecDepth 20000 in
theorem ggX7_arrivesIn_X7_pass : GoodIn wsX7_arrivesIn wsX7_pass := goodIn_r _ [22, 6, 15, 16, 17, 4, 18, 23, 24, 25, 26, 27, 28, 29, 30, 31, 32, 33, 34, 35, 36, 37, 38, 39, 40, 41, 42, 43, 44, 45, 46, 47, 48, 49, 50, 51, 52, 53, 54, 55, 56, 57, 58, 59, 7, 8, 9, 60, 61, 62, 63, 64, 65, 66, 67, 68, 69, 70, 71, 72, 73, 74, 75, 76, 77, 78, 79, 80, 81, 82, 83, 84, 85, 86, 87, 88, 89, 90, 95, 96, 97, 98, 99, 100, 101, 102, 103, 104, 105, 106, 107, 108, 109, 110, 111, 112] (by decide +kernel) (by decide +kernel)
set_option maxRecDepth 20000 in
theorem gX7_arrivesIn_X7_pass : GoodIn wsX7_arrivesIn (wsV RX7 128 RX7 yX7_pass wsX7_pass) := goodIn_app (goodIn_of _ (by decide +kernel)) ggX7_arrivesIn_X7_pass
set_option maxRecDepth 20000 in
theorem ggX7_arrivesIn_X7_comeBack : GoodIn wsX7_arrivesIn wsX7_comeBack := goodIn_r _ [94, 6, 14, 95, 96, 97, 98, 99, 100, 101, 102, 103, 104, 105, 106, 107, 108, 109, 110, 111, 112] (by decide +kernel) (by decide +kernel)
set_option maxRecDepth 20000 in
theorem gX7_arrivesIn_X7_comeBack : GoodIn wsX7_arrivesIn (wsV RX7 161 RX7 yX7_comeBack wsX7_comeBack) := goodIn_app (goodIn_of _ (by decide +kernel)) ggX7_arrivesIn_X7_comeBack
theorem dX7_arrivesIn_0 : decode cX7_arrivesIn 0 = .ok (.aload_n 0, 1) := by decide +kernel
theorem dX7_arrivesIn_1 : decode cX7_arrivesIn 1 = .ok (.iload_n 1, 1) := by decide +kernel
theorem dX7_arrivesIn_2 : decode cX7_arrivesIn 2 = .ok (.invokevirtual 134, 3) := by decide +kernel
theorem dX7_arrivesIn_5 : decode cX7_arrivesIn 5 = .ok (.ifCond .ne 5, 3) := by decide +kernel
theorem dX7_arrivesIn_8 : decode cX7_arrivesIn 8 = .ok (.iconst (-1), 1) := by decide +kernel
theorem dX7_arrivesIn_9 : decode cX7_arrivesIn 9 = .ok (.ireturn, 1) := by decide +kernel
theorem dX7_arrivesIn_10 : decode cX7_arrivesIn 10 = .ok (.aload_n 0, 1) := by decide +kernel
theorem dX7_arrivesIn_11 : decode cX7_arrivesIn 11 = .ok (.invokevirtual 158, 3) := by decide +kernel
theorem dX7_arrivesIn_14 : decode cX7_arrivesIn 14 = .ok (.iconst 0, 1) := by decide +kernel
theorem dX7_arrivesIn_15 : decode cX7_arrivesIn 15 = .ok (.istore_n 2, 1) := by decide +kernel
theorem dX7_arrivesIn_16 : decode cX7_arrivesIn 16 = .ok (.aload_n 0, 1) := by decide +kernel
theorem dX7_arrivesIn_17 : decode cX7_arrivesIn 17 = .ok (.iload_n 1, 1) := by decide +kernel
theorem dX7_arrivesIn_18 : decode cX7_arrivesIn 18 = .ok (.iconst 2, 1) := by decide +kernel
theorem dX7_arrivesIn_19 : decode cX7_arrivesIn 19 = .ok (.invokevirtual 98, 3) := by decide +kernel
theorem dX7_arrivesIn_22 : decode cX7_arrivesIn 22 = .ok (.iconst 2, 1) := by decide +kernel
theorem dX7_arrivesIn_23 : decode cX7_arrivesIn 23 = .ok (.if_icmp .eq 20, 3) := by decide +kernel
theorem dX7_arrivesIn_26 : decode cX7_arrivesIn 26 = .ok (.iload_n 2, 1) := by decide +kernel
theorem dX7_arrivesIn_27 : decode cX7_arrivesIn 27 = .ok (.sipush 300, 3) := by decide +kernel
theorem dX7_arrivesIn_30 : decode cX7_arrivesIn 30 = .ok (.if_icmp .ge 13, 3) := by decide +kernel
theorem dX7_arrivesIn_33 : decode cX7_arrivesIn 33 = .ok (.aload_n 0, 1) := by decide +kernel
theorem dX7_arrivesIn_34 : decode cX7_arrivesIn 34 = .ok (.invokevirtual 128, 3) := by decide +kernel
theorem dX7_arrivesIn_37 : decode cX7_arrivesIn 37 = .ok (.iinc 2 1, 3) := by decide +kernel
theorem dX7_arrivesIn_40 : decode cX7_arrivesIn 40 = .ok (.goto (-24), 3) := by decide +kernel
theorem dX7_arrivesIn_43 : decode cX7_arrivesIn 43 = .ok (.aload_n 0, 1) := by decide +kernel
theorem dX7_arrivesIn_44 : decode cX7_arrivesIn 44 = .ok (.iload_n 1, 1) := by decide +kernel
theorem dX7_arrivesIn_45 : decode cX7_arrivesIn 45 = .ok (.iconst 2, 1) := by decide +kernel
theorem dX7_arrivesIn_46 : decode cX7_arrivesIn 46 = .ok (.invokevirtual 98, 3) := by decide +kernel
theorem dX7_arrivesIn_49 : decode cX7_arrivesIn 49 = .ok (.iconst 2, 1) := by decide +kernel
theorem dX7_arrivesIn_50 : decode cX7_arrivesIn 50 = .ok (.if_icmp .ne 7, 3) := by decide +kernel
theorem dX7_arrivesIn_53 : decode cX7_arrivesIn 53 = .ok (.iload_n 2, 1) := by decide +kernel
theorem dX7_arrivesIn_54 : decode cX7_arrivesIn 54 = .ok (.goto 5, 3) := by decide +kernel
theorem dX7_arrivesIn_57 : decode cX7_arrivesIn 57 = .ok (.bipush (-6), 2) := by decide +kernel
theorem dX7_arrivesIn_59 : decode cX7_arrivesIn 59 = .ok (.istore_n 3, 1) := by decide +kernel
theorem dX7_arrivesIn_60 : decode cX7_arrivesIn 60 = .ok (.aload_n 0, 1) := by decide +kernel
theorem dX7_arrivesIn_61 : decode cX7_arrivesIn 61 = .ok (.invokevirtual 161, 3) := by decide +kernel
theorem dX7_arrivesIn_64 : decode cX7_arrivesIn 64 = .ok (.iload_n 3, 1) := by decide +kernel
theorem dX7_arrivesIn_65 : decode cX7_arrivesIn 65 = .ok (.ireturn, 1) := by decide +kernel
set_option maxRecDepth 20000 in
theorem ggX7_arrivedBy_X7_in : GoodIn wsX7_arrivedBy wsX7_in := goodIn_r _ [4] (by decide +kernel) (by decide +kernel)
set_option maxRecDepth 20000 in
theorem gX7_arrivedBy_X7_in : GoodIn wsX7_arrivedBy (va_wsS RX7 59 yX7_in wsX7_in) := goodIn_app (goodIn_of _ (by decide +kernel)) ggX7_arrivedBy_X7_in
set_option maxRecDepth 20000 in
theorem ggX7_arrivedBy_X7_keep : GoodIn wsX7_arrivedBy wsX7_keep := goodIn_r _ [8, 9, 10, 95, 96, 97, 98, 99, 100, 101, 102, 103, 104, 105, 106, 107, 108, 109, 110, 111, 112] (by decide +kernel) (by decide +kernel)
set_option maxRecDepth 20000 in
theorem gX7_arrivedBy_X7_keep : GoodIn wsX7_arrivedBy (wsV RX7 158 RX7 yX7_keep wsX7_keep) := goodIn_app (goodIn_of _ (by decide +kernel)) ggX7_arrivedBy_X7_keep
set_option maxRecDepth 20000 in
theorem ggX7_arrivedBy_X7_pass : GoodIn wsX7_arrivedBy wsX7_pass := goodIn_r _ [14, 10, 15, 16, 17, 3, 18, 19, 20, 21, 22, 23, 24, 25, 26, 27, 28, 29, 30, 31, 32, 33, 34, 35, 36, 37, 38, 39, 40, 41, 42, 43, 44, 45, 46, 47, 48, 49, 50, 51, 52, 53, 54, 55, 1, 2, 4, 56, 57, 58, 59, 60, 61, 62, 63, 64, 65, 66, 67, 68, 69, 70, 71, 72, 73, 74, 75, 76, 77, 78, 79, 80, 81, 82, 83, 84, 85, 86, 95, 96, 97, 98, 99, 100, 101, 102, 103, 104, 105, 106, 107, 108, 109, 110, 111, 112] (by decide +kernel) (by decide +kernel)
set_option maxRecDepth 20000 in
theorem gX7_arrivedBy_X7_pass : GoodIn wsX7_arrivedBy (wsV RX7 128 RX7 yX7_pass wsX7_pass) := goodIn_app (goodIn_of _ (by decide +kernel)) ggX7_arrivedBy_X7_pass
set_option maxRecDepth 20000 in
theorem ggX7_arrivedBy_X7_packetsOf : GoodIn wsX7_arrivedBy wsX7_packetsOf := goodIn_r _ [90, 10, 15, 16, 17, 3, 18, 95, 96, 97, 98, 99, 100, 101, 102, 103, 104, 105, 106, 107, 108, 109, 110, 111, 112] (by decide +kernel) (by decide +kernel)
set_option maxRecDepth 20000 in
theorem gX7_arrivedBy_X7_packetsOf : GoodIn wsX7_arrivedBy (wsV RX7 143 RX7 yX7_packetsOf wsX7_packetsOf) := goodIn_app (goodIn_of _ (by decide +kernel)) ggX7_arrivedBy_X7_packetsOf
set_option maxRecDepth 20000 in
theorem ggX7_arrivedBy_X7_comeBack : GoodIn wsX7_arrivedBy wsX7_comeBack := goodIn_r _ [94, 10, 9, 95, 96, 97, 98, 99, 100, 101, 102, 103, 104, 105, 106, 107, 108, 109, 110, 111, 112] (by decide +kernel) (by decide +kernel)
set_option maxRecDepth 20000 in
theorem gX7_arrivedBy_X7_comeBack : GoodIn wsX7_arrivedBy (wsV RX7 161 RX7 yX7_comeBack wsX7_comeBack) := goodIn_app (goodIn_of _ (by decide +kernel)) ggX7_arrivedBy_X7_comeBack
theorem dX7_arrivedBy_0 : decode cX7_arrivedBy 0 = .ok (.iload_n 1, 1) := by decide +kernel
theorem dX7_arrivedBy_1 : decode cX7_arrivedBy 1 = .ok (.iconst 1, 1) := by decide +kernel
theorem dX7_arrivedBy_2 : decode cX7_arrivedBy 2 = .ok (.sipush 300, 3) := by decide +kernel
theorem dX7_arrivedBy_5 : decode cX7_arrivedBy 5 = .ok (.invokestatic 59, 3) := by decide +kernel
theorem dX7_arrivedBy_8 : decode cX7_arrivedBy 8 = .ok (.ifCond .ne 6, 3) := by decide +kernel
theorem dX7_arrivedBy_11 : decode cX7_arrivedBy 11 = .ok (.bipush (-2), 2) := by decide +kernel
theorem dX7_arrivedBy_13 : decode cX7_arrivedBy 13 = .ok (.ireturn, 1) := by decide +kernel
theorem dX7_arrivedBy_14 : decode cX7_arrivedBy 14 = .ok (.aload_n 0, 1) := by decide +kernel
theorem dX7_arrivedBy_15 : decode cX7_arrivedBy 15 = .ok (.invokevirtual 158, 3) := by decide +kernel
theorem dX7_arrivedBy_18 : decode cX7_arrivedBy 18 = .ok (.iconst 0, 1) := by decide +kernel
theorem dX7_arrivedBy_19 : decode cX7_arrivedBy 19 = .ok (.istore_n 2, 1) := by decide +kernel
theorem dX7_arrivedBy_20 : decode cX7_arrivedBy 20 = .ok (.iload_n 2, 1) := by decide +kernel
theorem dX7_arrivedBy_21 : decode cX7_arrivedBy 21 = .ok (.iload_n 1, 1) := by decide +kernel
theorem dX7_arrivedBy_22 : decode cX7_arrivedBy 22 = .ok (.if_icmp .ge 13, 3) := by decide +kernel
theorem dX7_arrivedBy_25 : decode cX7_arrivedBy 25 = .ok (.aload_n 0, 1) := by decide +kernel
theorem dX7_arrivedBy_26 : decode cX7_arrivedBy 26 = .ok (.invokevirtual 128, 3) := by decide +kernel
theorem dX7_arrivedBy_29 : decode cX7_arrivedBy 29 = .ok (.iinc 2 1, 3) := by decide +kernel
theorem dX7_arrivedBy_32 : decode cX7_arrivedBy 32 = .ok (.goto (-12), 3) := by decide +kernel
theorem dX7_arrivedBy_35 : decode cX7_arrivedBy 35 = .ok (.aload_n 0, 1) := by decide +kernel
theorem dX7_arrivedBy_36 : decode cX7_arrivedBy 36 = .ok (.bipush (-6), 2) := by decide +kernel
theorem dX7_arrivedBy_38 : decode cX7_arrivedBy 38 = .ok (.iconst 2, 1) := by decide +kernel
theorem dX7_arrivedBy_39 : decode cX7_arrivedBy 39 = .ok (.invokevirtual 143, 3) := by decide +kernel
theorem dX7_arrivedBy_42 : decode cX7_arrivedBy 42 = .ok (.istore_n 2, 1) := by decide +kernel
theorem dX7_arrivedBy_43 : decode cX7_arrivedBy 43 = .ok (.aload_n 0, 1) := by decide +kernel
theorem dX7_arrivedBy_44 : decode cX7_arrivedBy 44 = .ok (.invokevirtual 161, 3) := by decide +kernel
theorem dX7_arrivedBy_47 : decode cX7_arrivedBy 47 = .ok (.iload_n 2, 1) := by decide +kernel
theorem dX7_arrivedBy_48 : decode cX7_arrivedBy 48 = .ok (.ireturn, 1) := by decide +kernel
theorem dX7_sign_0 : decode cX7_sign 0 = .ok (.aload_n 0, 1) := by decide +kernel
theorem dX7_sign_1 : decode cX7_sign 1 = .ok (.getfield 164, 3) := by decide +kernel
theorem dX7_sign_4 : decode cX7_sign 4 = .ok (.aload_n 0, 1) := by decide +kernel
theorem dX7_sign_5 : decode cX7_sign 5 = .ok (.getfield 152, 3) := by decide +kernel
theorem dX7_sign_8 : decode cX7_sign 8 = .ok (.if_icmp .ge 15, 3) := by decide +kernel
theorem dX7_sign_11 : decode cX7_sign 11 = .ok (.aload_n 0, 1) := by decide +kernel
theorem dX7_sign_12 : decode cX7_sign 12 = .ok (.getfield 26, 3) := by decide +kernel
theorem dX7_sign_15 : decode cX7_sign 15 = .ok (.aload_n 0, 1) := by decide +kernel
theorem dX7_sign_16 : decode cX7_sign 16 = .ok (.getfield 164, 3) := by decide +kernel
theorem dX7_sign_19 : decode cX7_sign 19 = .ok (.iaload, 1) := by decide +kernel
theorem dX7_sign_20 : decode cX7_sign 20 = .ok (.goto 4, 3) := by decide +kernel
theorem dX7_sign_23 : decode cX7_sign 23 = .ok (.iconst 0, 1) := by decide +kernel
theorem dX7_sign_24 : decode cX7_sign 24 = .ok (.ireturn, 1) := by decide +kernel
set_option maxRecDepth 20000 in
theorem ggX7_number_X7_sign : GoodIn wsX7_number wsX7_sign := goodIn_r _ [7, 2, 8, 9, 13, 14, 15, 16, 17, 18, 19, 20, 21, 22, 23, 24, 25, 26, 27, 28, 29, 30] (by decide +kernel) (by decide +kernel)
set_option maxRecDepth 20000 in
theorem gX7_number_X7_sign : GoodIn wsX7_number (wsV RX7 167 RX7 yX7_sign wsX7_sign) := goodIn_app (goodIn_of _ (by decide +kernel)) ggX7_number_X7_sign
set_option maxRecDepth 20000 in
theorem ggX7_number_X7_in : GoodIn wsX7_number wsX7_in := goodIn_r _ [12] (by decide +kernel) (by decide +kernel)
set_option maxRecDepth 20000 in
theorem gX7_number_X7_in : GoodIn wsX7_number (va_wsS RX7 59 yX7_in wsX7_in) := goodIn_app (goodIn_of _ (by decide +kernel)) ggX7_number_X7_in
theorem dX7_number_0 : decode cX7_number 0 = .ok (.aload_n 0, 1) := by decide +kernel
theorem dX7_number_1 : decode cX7_number 1 = .ok (.invokevirtual 167, 3) := by decide +kernel
theorem dX7_number_4 : decode cX7_number 4 = .ok (.bipush 48, 2) := by decide +kernel
theorem dX7_number_6 : decode cX7_number 6 = .ok (.isub, 1) := by decide +kernel
theorem dX7_number_7 : decode cX7_number 7 = .ok (.istore_n 1, 1) := by decide +kernel
theorem dX7_number_8 : decode cX7_number 8 = .ok (.aload_n 0, 1) := by decide +kernel
theorem dX7_number_9 : decode cX7_number 9 = .ok (.aload_n 0, 1) := by decide +kernel
theorem dX7_number_10 : decode cX7_number 10 = .ok (.getfield 170, 3) := by decide +kernel
theorem dX7_number_13 : decode cX7_number 13 = .ok (.ifCond .ne 13, 3) := by decide +kernel
theorem dX7_number_16 : decode cX7_number 16 = .ok (.iload_n 1, 1) := by decide +kernel
theorem dX7_number_17 : decode cX7_number 17 = .ok (.iconst 0, 1) := by decide +kernel
theorem dX7_number_18 : decode cX7_number 18 = .ok (.bipush 9, 2) := by decide +kernel
theorem dX7_number_20 : decode cX7_number 20 = .ok (.invokestatic 59, 3) := by decide +kernel
theorem dX7_number_23 : decode cX7_number 23 = .ok (.ifCond .ne 7, 3) := by decide +kernel
theorem dX7_number_26 : decode cX7_number 26 = .ok (.iconst 1, 1) := by decide +kernel
theorem dX7_number_27 : decode cX7_number 27 = .ok (.goto 4, 3) := by decide +kernel
theorem dX7_number_30 : decode cX7_number 30 = .ok (.iconst 0, 1) := by decide +kernel
theorem dX7_number_31 : decode cX7_number 31 = .ok (.putfield 170, 3) := by decide +kernel
theorem dX7_number_34 : decode cX7_number 34 = .ok (.aload_n 0, 1) := by decide +kernel
theorem dX7_number_35 : decode cX7_number 35 = .ok (.getfield 170, 3) := by decide +kernel
theorem dX7_number_38 : decode cX7_number 38 = .ok (.ifCond .eq 5, 3) := by decide +kernel
theorem dX7_number_41 : decode cX7_number 41 = .ok (.iconst 0, 1) := by decide +kernel
theorem dX7_number_42 : decode cX7_number 42 = .ok (.ireturn, 1) := by decide +kernel
theorem dX7_number_43 : decode cX7_number 43 = .ok (.aload_n 0, 1) := by decide +kernel
theorem dX7_number_44 : decode cX7_number 44 = .ok (.dup, 1) := by decide +kernel
theorem dX7_number_45 : decode cX7_number 45 = .ok (.getfield 164, 3) := by decide +kernel
theorem dX7_number_48 : decode cX7_number 48 = .ok (.iconst 1, 1) := by decide +kernel
theorem dX7_number_49 : decode cX7_number 49 = .ok (.iadd, 1) := by decide +kernel
theorem dX7_number_50 : decode cX7_number 50 = .ok (.putfield 164, 3) := by decide +kernel
theorem dX7_number_53 : decode cX7_number 53 = .ok (.iload_n 1, 1) := by decide +kernel
theorem dX7_number_54 : decode cX7_number 54 = .ok (.ifCond .le 60, 3) := by decide +kernel
theorem dX7_number_57 : decode cX7_number 57 = .ok (.aload_n 0, 1) := by decide +kernel
theorem dX7_number_58 : decode cX7_number 58 = .ok (.invokevirtual 167, 3) := by decide +kernel
theorem dX7_number_61 : decode cX7_number 61 = .ok (.bipush 48, 2) := by decide +kernel
theorem dX7_number_63 : decode cX7_number 63 = .ok (.bipush 57, 2) := by decide +kernel
theorem dX7_number_65 : decode cX7_number 65 = .ok (.invokestatic 59, 3) := by decide +kernel
theorem dX7_number_68 : decode cX7_number 68 = .ok (.ifCond .eq 46, 3) := by decide +kernel
theorem dX7_number_71 : decode cX7_number 71 = .ok (.bipush 10, 2) := by decide +kernel
theorem dX7_number_73 : decode cX7_number 73 = .ok (.iload_n 1, 1) := by decide +kernel
theorem dX7_number_74 : decode cX7_number 74 = .ok (.imul, 1) := by decide +kernel
theorem dX7_number_75 : decode cX7_number 75 = .ok (.aload_n 0, 1) := by decide +kernel
theorem dX7_number_76 : decode cX7_number 76 = .ok (.invokevirtual 167, 3) := by decide +kernel
theorem dX7_number_79 : decode cX7_number 79 = .ok (.iadd, 1) := by decide +kernel
theorem dX7_number_80 : decode cX7_number 80 = .ok (.bipush 48, 2) := by decide +kernel
theorem dX7_number_82 : decode cX7_number 82 = .ok (.isub, 1) := by decide +kernel
theorem dX7_number_83 : decode cX7_number 83 = .ok (.bipush 99, 2) := by decide +kernel
theorem dX7_number_85 : decode cX7_number 85 = .ok (.if_icmp .gt 29, 3) := by decide +kernel
theorem dX7_number_88 : decode cX7_number 88 = .ok (.bipush 10, 2) := by decide +kernel
theorem dX7_number_90 : decode cX7_number 90 = .ok (.iload_n 1, 1) := by decide +kernel
theorem dX7_number_91 : decode cX7_number 91 = .ok (.imul, 1) := by decide +kernel
theorem dX7_number_92 : decode cX7_number 92 = .ok (.aload_n 0, 1) := by decide +kernel
theorem dX7_number_93 : decode cX7_number 93 = .ok (.invokevirtual 167, 3) := by decide +kernel
theorem dX7_number_96 : decode cX7_number 96 = .ok (.iadd, 1) := by decide +kernel
theorem dX7_number_97 : decode cX7_number 97 = .ok (.bipush 48, 2) := by decide +kernel
theorem dX7_number_99 : decode cX7_number 99 = .ok (.isub, 1) := by decide +kernel
theorem dX7_number_100 : decode cX7_number 100 = .ok (.istore_n 1, 1) := by decide +kernel
theorem dX7_number_101 : decode cX7_number 101 = .ok (.aload_n 0, 1) := by decide +kernel
theorem dX7_number_102 : decode cX7_number 102 = .ok (.dup, 1) := by decide +kernel
theorem dX7_number_103 : decode cX7_number 103 = .ok (.getfield 164, 3) := by decide +kernel
theorem dX7_number_106 : decode cX7_number 106 = .ok (.iconst 1, 1) := by decide +kernel
theorem dX7_number_107 : decode cX7_number 107 = .ok (.iadd, 1) := by decide +kernel
theorem dX7_number_108 : decode cX7_number 108 = .ok (.putfield 164, 3) := by decide +kernel
theorem dX7_number_111 : decode cX7_number 111 = .ok (.goto (-58), 3) := by decide +kernel
theorem dX7_number_114 : decode cX7_number 114 = .ok (.iload_n 1, 1) := by decide +kernel
theorem dX7_number_115 : decode cX7_number 115 = .ok (.ireturn, 1) := by decide +kernel
set_option maxRecDepth 20000 in
theorem ggX7_side_X7_sign : GoodIn wsX7_side wsX7_sign := goodIn_r _ [7, 2, 8, 9, 10, 11, 12, 13, 14, 15, 16, 17, 18, 19, 20, 21, 22, 23, 24, 25, 26, 27] (by decide +kernel) (by decide +kernel)
set_option maxRecDepth 20000 in
theorem gX7_side_X7_sign : GoodIn wsX7_side (wsV RX7 167 RX7 yX7_sign wsX7_sign) := goodIn_app (goodIn_of _ (by decide +kernel)) ggX7_side_X7_sign
theorem dX7_side_0 : decode cX7_side 0 = .ok (.aload_n 0, 1) := by decide +kernel
theorem dX7_side_1 : decode cX7_side 1 = .ok (.invokevirtual 167, 3) := by decide +kernel
theorem dX7_side_4 : decode cX7_side 4 = .ok (.istore_n 1, 1) := by decide +kernel
theorem dX7_side_5 : decode cX7_side 5 = .ok (.iload_n 1, 1) := by decide +kernel
theorem dX7_side_6 : decode cX7_side 6 = .ok (.bipush 101, 2) := by decide +kernel
theorem dX7_side_8 : decode cX7_side 8 = .ok (.if_icmp .ne 7, 3) := by decide +kernel
theorem dX7_side_11 : decode cX7_side 11 = .ok (.iconst 0, 1) := by decide +kernel
theorem dX7_side_12 : decode cX7_side 12 = .ok (.goto 35, 3) := by decide +kernel
theorem dX7_side_15 : decode cX7_side 15 = .ok (.iload_n 1, 1) := by decide +kernel
theorem dX7_side_16 : decode cX7_side 16 = .ok (.bipush 119, 2) := by decide +kernel
theorem dX7_side_18 : decode cX7_side 18 = .ok (.if_icmp .ne 7, 3) := by decide +kernel
theorem dX7_side_21 : decode cX7_side 21 = .ok (.iconst 1, 1) := by decide +kernel
theorem dX7_side_22 : decode cX7_side 22 = .ok (.goto 25, 3) := by decide +kernel
theorem dX7_side_25 : decode cX7_side 25 = .ok (.iload_n 1, 1) := by decide +kernel
theorem dX7_side_26 : decode cX7_side 26 = .ok (.bipush 110, 2) := by decide +kernel
theorem dX7_side_28 : decode cX7_side 28 = .ok (.if_icmp .ne 7, 3) := by decide +kernel
theorem dX7_side_31 : decode cX7_side 31 = .ok (.iconst 2, 1) := by decide +kernel
theorem dX7_side_32 : decode cX7_side 32 = .ok (.goto 15, 3) := by decide +kernel
theorem dX7_side_35 : decode cX7_side 35 = .ok (.iload_n 1, 1) := by decide +kernel
theorem dX7_side_36 : decode cX7_side 36 = .ok (.bipush 115, 2) := by decide +kernel
theorem dX7_side_38 : decode cX7_side 38 = .ok (.if_icmp .ne 7, 3) := by decide +kernel
theorem dX7_side_41 : decode cX7_side 41 = .ok (.iconst 3, 1) := by decide +kernel
theorem dX7_side_42 : decode cX7_side 42 = .ok (.goto 5, 3) := by decide +kernel
theorem dX7_side_45 : decode cX7_side 45 = .ok (.bipush (-6), 2) := by decide +kernel
theorem dX7_side_47 : decode cX7_side 47 = .ok (.istore_n 2, 1) := by decide +kernel
theorem dX7_side_48 : decode cX7_side 48 = .ok (.aload_n 0, 1) := by decide +kernel
theorem dX7_side_49 : decode cX7_side 49 = .ok (.aload_n 0, 1) := by decide +kernel
theorem dX7_side_50 : decode cX7_side 50 = .ok (.getfield 170, 3) := by decide +kernel
theorem dX7_side_53 : decode cX7_side 53 = .ok (.ifCond .ne 7, 3) := by decide +kernel
theorem dX7_side_56 : decode cX7_side 56 = .ok (.iload_n 2, 1) := by decide +kernel
theorem dX7_side_57 : decode cX7_side 57 = .ok (.ifCond .ge 7, 3) := by decide +kernel
theorem dX7_side_60 : decode cX7_side 60 = .ok (.iconst 1, 1) := by decide +kernel
theorem dX7_side_61 : decode cX7_side 61 = .ok (.goto 4, 3) := by decide +kernel
theorem dX7_side_64 : decode cX7_side 64 = .ok (.iconst 0, 1) := by decide +kernel
theorem dX7_side_65 : decode cX7_side 65 = .ok (.putfield 170, 3) := by decide +kernel
theorem dX7_side_68 : decode cX7_side 68 = .ok (.aload_n 0, 1) := by decide +kernel
theorem dX7_side_69 : decode cX7_side 69 = .ok (.dup, 1) := by decide +kernel
theorem dX7_side_70 : decode cX7_side 70 = .ok (.getfield 164, 3) := by decide +kernel
theorem dX7_side_73 : decode cX7_side 73 = .ok (.aload_n 0, 1) := by decide +kernel
theorem dX7_side_74 : decode cX7_side 74 = .ok (.getfield 170, 3) := by decide +kernel
theorem dX7_side_77 : decode cX7_side 77 = .ok (.ifCond .eq 7, 3) := by decide +kernel
theorem dX7_side_80 : decode cX7_side 80 = .ok (.iconst 0, 1) := by decide +kernel
theorem dX7_side_81 : decode cX7_side 81 = .ok (.goto 4, 3) := by decide +kernel
theorem dX7_side_84 : decode cX7_side 84 = .ok (.iconst 1, 1) := by decide +kernel
theorem dX7_side_85 : decode cX7_side 85 = .ok (.iadd, 1) := by decide +kernel
theorem dX7_side_86 : decode cX7_side 86 = .ok (.putfield 164, 3) := by decide +kernel
theorem dX7_side_89 : decode cX7_side 89 = .ok (.iload_n 2, 1) := by decide +kernel
theorem dX7_side_90 : decode cX7_side 90 = .ok (.ireturn, 1) := by decide +kernel
set_option maxRecDepth 20000 in
theorem ggX7_readOne_X7_sign : GoodIn wsX7_readOne wsX7_sign := goodIn_r _ [9, 4, 10, 11, 23, 24, 25, 26, 27, 28, 29, 30, 31, 32, 33, 34, 35, 36, 37, 38, 39, 40] (by decide +kernel) (by decide +kernel)
set_option maxRecDepth 20000 in
theorem gX7_readOne_X7_sign : GoodIn wsX7_readOne (wsV RX7 167 RX7 yX7_sign wsX7_sign) := goodIn_app (goodIn_of _ (by decide +kernel)) ggX7_readOne_X7_sign
set_option maxRecDepth 20000 in
theorem ggX7_readOne_X7_number : GoodIn wsX7_readOne wsX7_number := goodIn_r _ [15, 3, 4, 5, 6, 7, 8, 9, 10, 11, 16, 17, 18, 23, 24, 25, 26, 27, 28, 29, 30, 31, 32, 33, 34, 35, 36, 37, 38, 39, 40] (by decide +kernel) (by decide +kernel)
set_option maxRecDepth 20000 in
theorem gX7_readOne_X7_number : GoodIn wsX7_readOne (wsV RX7 176 RX7 yX7_number wsX7_number) := goodIn_app (goodIn_of _ (by decide +kernel)) ggX7_readOne_X7_number
set_option maxRecDepth 20000 in
theorem ggX7_readOne_X7_side : GoodIn wsX7_readOne wsX7_side := goodIn_r _ [22, 3, 4, 5, 6, 7, 8, 9, 10, 11, 23, 24, 25, 26, 27, 28, 29, 30, 31, 32, 33, 34, 35, 36, 37, 38, 39, 40] (by decide +kernel) (by decide +kernel)
set_option maxRecDepth 20000 in
theorem gX7_readOne_X7_side : GoodIn wsX7_readOne (wsV RX7 179 RX7 yX7_side wsX7_side) := goodIn_app (goodIn_of _ (by decide +kernel)) ggX7_readOne_X7_side
theorem dX7_readOne_0 : decode cX7_readOne 0 = .ok (.iconst 3, 1) := by decide +kernel
theorem dX7_readOne_1 : decode cX7_readOne 1 = .ok (.aload_n 0, 1) := by decide +kernel
theorem dX7_readOne_2 : decode cX7_readOne 2 = .ok (.getfield 173, 3) := by decide +kernel
theorem dX7_readOne_5 : decode cX7_readOne 5 = .ok (.imul, 1) := by decide +kernel
theorem dX7_readOne_6 : decode cX7_readOne 6 = .ok (.istore_n 1, 1) := by decide +kernel
theorem dX7_readOne_7 : decode cX7_readOne 7 = .ok (.aload_n 0, 1) := by decide +kernel
theorem dX7_readOne_8 : decode cX7_readOne 8 = .ok (.invokevirtual 167, 3) := by decide +kernel
theorem dX7_readOne_11 : decode cX7_readOne 11 = .ok (.istore_n 2, 1) := by decide +kernel
theorem dX7_readOne_12 : decode cX7_readOne 12 = .ok (.aload_n 0, 1) := by decide +kernel
theorem dX7_readOne_13 : decode cX7_readOne 13 = .ok (.getfield 44, 3) := by decide +kernel
theorem dX7_readOne_16 : decode cX7_readOne 16 = .ok (.iload_n 1, 1) := by decide +kernel
theorem dX7_readOne_17 : decode cX7_readOne 17 = .ok (.iload_n 2, 1) := by decide +kernel
theorem dX7_readOne_18 : decode cX7_readOne 18 = .ok (.iastore, 1) := by decide +kernel
theorem dX7_readOne_19 : decode cX7_readOne 19 = .ok (.aload_n 0, 1) := by decide +kernel
theorem dX7_readOne_20 : decode cX7_readOne 20 = .ok (.iload_n 2, 1) := by decide +kernel
theorem dX7_readOne_21 : decode cX7_readOne 21 = .ok (.bipush 115, 2) := by decide +kernel
theorem dX7_readOne_23 : decode cX7_readOne 23 = .ok (.if_icmp .eq 25, 3) := by decide +kernel
theorem dX7_readOne_26 : decode cX7_readOne 26 = .ok (.iload_n 2, 1) := by decide +kernel
theorem dX7_readOne_27 : decode cX7_readOne 27 = .ok (.bipush 98, 2) := by decide +kernel
theorem dX7_readOne_29 : decode cX7_readOne 29 = .ok (.if_icmp .eq 19, 3) := by decide +kernel
theorem dX7_readOne_32 : decode cX7_readOne 32 = .ok (.iload_n 2, 1) := by decide +kernel
theorem dX7_readOne_33 : decode cX7_readOne 33 = .ok (.bipush 109, 2) := by decide +kernel
theorem dX7_readOne_35 : decode cX7_readOne 35 = .ok (.if_icmp .eq 13, 3) := by decide +kernel
theorem dX7_readOne_38 : decode cX7_readOne 38 = .ok (.iload_n 2, 1) := by decide +kernel
theorem dX7_readOne_39 : decode cX7_readOne 39 = .ok (.bipush 116, 2) := by decide +kernel
theorem dX7_readOne_41 : decode cX7_readOne 41 = .ok (.if_icmp .eq 7, 3) := by decide +kernel
theorem dX7_readOne_44 : decode cX7_readOne 44 = .ok (.iconst 1, 1) := by decide +kernel
theorem dX7_readOne_45 : decode cX7_readOne 45 = .ok (.goto 4, 3) := by decide +kernel
theorem dX7_readOne_48 : decode cX7_readOne 48 = .ok (.iconst 0, 1) := by decide +kernel
theorem dX7_readOne_49 : decode cX7_readOne 49 = .ok (.putfield 170, 3) := by decide +kernel
theorem dX7_readOne_52 : decode cX7_readOne 52 = .ok (.aload_n 0, 1) := by decide +kernel
theorem dX7_readOne_53 : decode cX7_readOne 53 = .ok (.getfield 170, 3) := by decide +kernel
theorem dX7_readOne_56 : decode cX7_readOne 56 = .ok (.ifCond .eq 4, 3) := by decide +kernel
theorem dX7_readOne_59 : decode cX7_readOne 59 = .ok (.return_, 1) := by decide +kernel
theorem dX7_readOne_60 : decode cX7_readOne 60 = .ok (.aload_n 0, 1) := by decide +kernel
theorem dX7_readOne_61 : decode cX7_readOne 61 = .ok (.dup, 1) := by decide +kernel
theorem dX7_readOne_62 : decode cX7_readOne 62 = .ok (.getfield 164, 3) := by decide +kernel
theorem dX7_readOne_65 : decode cX7_readOne 65 = .ok (.iconst 1, 1) := by decide +kernel
theorem dX7_readOne_66 : decode cX7_readOne 66 = .ok (.iadd, 1) := by decide +kernel
theorem dX7_readOne_67 : decode cX7_readOne 67 = .ok (.putfield 164, 3) := by decide +kernel
theorem dX7_readOne_70 : decode cX7_readOne 70 = .ok (.aload_n 0, 1) := by decide +kernel
theorem dX7_readOne_71 : decode cX7_readOne 71 = .ok (.getfield 44, 3) := by decide +kernel
theorem dX7_readOne_74 : decode cX7_readOne 74 = .ok (.iload_n 1, 1) := by decide +kernel
theorem dX7_readOne_75 : decode cX7_readOne 75 = .ok (.iconst 1, 1) := by decide +kernel
theorem dX7_readOne_76 : decode cX7_readOne 76 = .ok (.iadd, 1) := by decide +kernel
theorem dX7_readOne_77 : decode cX7_readOne 77 = .ok (.aload_n 0, 1) := by decide +kernel
theorem dX7_readOne_78 : decode cX7_readOne 78 = .ok (.invokevirtual 176, 3) := by decide +kernel
theorem dX7_readOne_81 : decode cX7_readOne 81 = .ok (.iastore, 1) := by decide +kernel
theorem dX7_readOne_82 : decode cX7_readOne 82 = .ok (.iload_n 2, 1) := by decide +kernel
theorem dX7_readOne_83 : decode cX7_readOne 83 = .ok (.bipush 115, 2) := by decide +kernel
theorem dX7_readOne_85 : decode cX7_readOne 85 = .ok (.if_icmp .ne 64, 3) := by decide +kernel
theorem dX7_readOne_88 : decode cX7_readOne 88 = .ok (.aload_n 0, 1) := by decide +kernel
theorem dX7_readOne_89 : decode cX7_readOne 89 = .ok (.aload_n 0, 1) := by decide +kernel
theorem dX7_readOne_90 : decode cX7_readOne 90 = .ok (.getfield 170, 3) := by decide +kernel
theorem dX7_readOne_93 : decode cX7_readOne 93 = .ok (.ifCond .ne 12, 3) := by decide +kernel
theorem dX7_readOne_96 : decode cX7_readOne 96 = .ok (.aload_n 0, 1) := by decide +kernel
theorem dX7_readOne_97 : decode cX7_readOne 97 = .ok (.invokevirtual 167, 3) := by decide +kernel
theorem dX7_readOne_100 : decode cX7_readOne 100 = .ok (.bipush 62, 2) := by decide +kernel
theorem dX7_readOne_102 : decode cX7_readOne 102 = .ok (.if_icmp .eq 7, 3) := by decide +kernel
theorem dX7_readOne_105 : decode cX7_readOne 105 = .ok (.iconst 1, 1) := by decide +kernel
theorem dX7_readOne_106 : decode cX7_readOne 106 = .ok (.goto 4, 3) := by decide +kernel
theorem dX7_readOne_109 : decode cX7_readOne 109 = .ok (.iconst 0, 1) := by decide +kernel
theorem dX7_readOne_110 : decode cX7_readOne 110 = .ok (.putfield 170, 3) := by decide +kernel
theorem dX7_readOne_113 : decode cX7_readOne 113 = .ok (.aload_n 0, 1) := by decide +kernel
theorem dX7_readOne_114 : decode cX7_readOne 114 = .ok (.dup, 1) := by decide +kernel
theorem dX7_readOne_115 : decode cX7_readOne 115 = .ok (.getfield 164, 3) := by decide +kernel
theorem dX7_readOne_118 : decode cX7_readOne 118 = .ok (.aload_n 0, 1) := by decide +kernel
theorem dX7_readOne_119 : decode cX7_readOne 119 = .ok (.getfield 170, 3) := by decide +kernel
theorem dX7_readOne_122 : decode cX7_readOne 122 = .ok (.ifCond .eq 7, 3) := by decide +kernel
theorem dX7_readOne_125 : decode cX7_readOne 125 = .ok (.iconst 0, 1) := by decide +kernel
theorem dX7_readOne_126 : decode cX7_readOne 126 = .ok (.goto 4, 3) := by decide +kernel
theorem dX7_readOne_129 : decode cX7_readOne 129 = .ok (.iconst 1, 1) := by decide +kernel
theorem dX7_readOne_130 : decode cX7_readOne 130 = .ok (.iadd, 1) := by decide +kernel
theorem dX7_readOne_131 : decode cX7_readOne 131 = .ok (.putfield 164, 3) := by decide +kernel
theorem dX7_readOne_134 : decode cX7_readOne 134 = .ok (.aload_n 0, 1) := by decide +kernel
theorem dX7_readOne_135 : decode cX7_readOne 135 = .ok (.getfield 44, 3) := by decide +kernel
theorem dX7_readOne_138 : decode cX7_readOne 138 = .ok (.iload_n 1, 1) := by decide +kernel
theorem dX7_readOne_139 : decode cX7_readOne 139 = .ok (.iconst 2, 1) := by decide +kernel
theorem dX7_readOne_140 : decode cX7_readOne 140 = .ok (.iadd, 1) := by decide +kernel
theorem dX7_readOne_141 : decode cX7_readOne 141 = .ok (.aload_n 0, 1) := by decide +kernel
theorem dX7_readOne_142 : decode cX7_readOne 142 = .ok (.invokevirtual 176, 3) := by decide +kernel
theorem dX7_readOne_145 : decode cX7_readOne 145 = .ok (.iastore, 1) := by decide +kernel
theorem dX7_readOne_146 : decode cX7_readOne 146 = .ok (.goto 21, 3) := by decide +kernel
theorem dX7_readOne_149 : decode cX7_readOne 149 = .ok (.iload_n 2, 1) := by decide +kernel
theorem dX7_readOne_150 : decode cX7_readOne 150 = .ok (.bipush 116, 2) := by decide +kernel
theorem dX7_readOne_152 : decode cX7_readOne 152 = .ok (.if_icmp .eq 15, 3) := by decide +kernel
theorem dX7_readOne_155 : decode cX7_readOne 155 = .ok (.aload_n 0, 1) := by decide +kernel
theorem dX7_readOne_156 : decode cX7_readOne 156 = .ok (.getfield 44, 3) := by decide +kernel
theorem dX7_readOne_159 : decode cX7_readOne 159 = .ok (.iload_n 1, 1) := by decide +kernel
theorem dX7_readOne_160 : decode cX7_readOne 160 = .ok (.iconst 2, 1) := by decide +kernel
theorem dX7_readOne_161 : decode cX7_readOne 161 = .ok (.iadd, 1) := by decide +kernel
theorem dX7_readOne_162 : decode cX7_readOne 162 = .ok (.aload_n 0, 1) := by decide +kernel
theorem dX7_readOne_163 : decode cX7_readOne 163 = .ok (.invokevirtual 179, 3) := by decide +kernel
theorem dX7_readOne_166 : decode cX7_readOne 166 = .ok (.iastore, 1) := by decide +kernel
theorem dX7_readOne_167 : decode cX7_readOne 167 = .ok (.aload_n 0, 1) := by decide +kernel
theorem dX7_readOne_168 : decode cX7_readOne 168 = .ok (.dup, 1) := by decide +kernel
theorem dX7_readOne_169 : decode cX7_readOne 169 = .ok (.getfield 173, 3) := by decide +kernel
theorem dX7_readOne_172 : decode cX7_readOne 172 = .ok (.iconst 1, 1) := by decide +kernel
theorem dX7_readOne_173 : decode cX7_readOne 173 = .ok (.iadd, 1) := by decide +kernel
theorem dX7_readOne_174 : decode cX7_readOne 174 = .ok (.putfield 173, 3) := by decide +kernel
theorem dX7_readOne_177 : decode cX7_readOne 177 = .ok (.return_, 1) := by decide +kernel
set_option maxRecDepth 20000 in
theorem ggX7_faultOf_X7_readOne : GoodIn wsX7_faultOf wsX7_readOne := goodIn_r _ [9, 2, 10, 3, 1, 11, 12, 13, 8, 14, 4, 15, 16, 17, 18, 19, 20, 21, 22, 23, 24, 25, 26, 27, 28, 29, 30, 31, 32, 33, 34, 35, 36, 37, 38, 39, 40, 41, 42, 43, 44] (by decide +kernel) (by decide +kernel)
set_option maxRecDepth 20000 in
theorem gX7_faultOf_X7_readOne : GoodIn wsX7_faultOf (wsV RX7 182 RX7 yX7_readOne wsX7_readOne) := goodIn_app (goodIn_of _ (by decide +kernel)) ggX7_faultOf_X7_readOne
set_option maxRecDepth 20000 in
theorem ggX7_faultOf_X7_sign : GoodIn wsX7_faultOf wsX7_sign := goodIn_r _ [14, 1, 4, 15, 27, 28, 29, 30, 31, 32, 33, 34, 35, 36, 37, 38, 39, 40, 41, 42, 43, 44] (by decide +kernel) (by decide +kernel)
set_option maxRecDepth 20000 in
theorem gX7_faultOf_X7_sign : GoodIn wsX7_faultOf (wsV RX7 167 RX7 yX7_sign wsX7_sign) := goodIn_app (goodIn_of _ (by decide +kernel)) ggX7_faultOf_X7_sign
theorem dX7_faultOf_0 : decode cX7_faultOf 0 = .ok (.aload_n 0, 1) := by decide +kernel
theorem dX7_faultOf_1 : decode cX7_faultOf 1 = .ok (.iconst 0, 1) := by decide +kernel
theorem dX7_faultOf_2 : decode cX7_faultOf 2 = .ok (.putfield 164, 3) := by decide +kernel
theorem dX7_faultOf_5 : decode cX7_faultOf 5 = .ok (.aload_n 0, 1) := by decide +kernel
theorem dX7_faultOf_6 : decode cX7_faultOf 6 = .ok (.iconst 0, 1) := by decide +kernel
theorem dX7_faultOf_7 : decode cX7_faultOf 7 = .ok (.putfield 173, 3) := by decide +kernel
theorem dX7_faultOf_10 : decode cX7_faultOf 10 = .ok (.aload_n 0, 1) := by decide +kernel
theorem dX7_faultOf_11 : decode cX7_faultOf 11 = .ok (.iconst 0, 1) := by decide +kernel
theorem dX7_faultOf_12 : decode cX7_faultOf 12 = .ok (.putfield 170, 3) := by decide +kernel
theorem dX7_faultOf_15 : decode cX7_faultOf 15 = .ok (.aload_n 0, 1) := by decide +kernel
theorem dX7_faultOf_16 : decode cX7_faultOf 16 = .ok (.invokevirtual 182, 3) := by decide +kernel
theorem dX7_faultOf_19 : decode cX7_faultOf 19 = .ok (.aload_n 0, 1) := by decide +kernel
theorem dX7_faultOf_20 : decode cX7_faultOf 20 = .ok (.getfield 170, 3) := by decide +kernel
theorem dX7_faultOf_23 : decode cX7_faultOf 23 = .ok (.ifCond .ne 56, 3) := by decide +kernel
theorem dX7_faultOf_26 : decode cX7_faultOf 26 = .ok (.aload_n 0, 1) := by decide +kernel
theorem dX7_faultOf_27 : decode cX7_faultOf 27 = .ok (.getfield 164, 3) := by decide +kernel
theorem dX7_faultOf_30 : decode cX7_faultOf 30 = .ok (.aload_n 0, 1) := by decide +kernel
theorem dX7_faultOf_31 : decode cX7_faultOf 31 = .ok (.getfield 152, 3) := by decide +kernel
theorem dX7_faultOf_34 : decode cX7_faultOf 34 = .ok (.if_icmp .ge 45, 3) := by decide +kernel
theorem dX7_faultOf_37 : decode cX7_faultOf 37 = .ok (.aload_n 0, 1) := by decide +kernel
theorem dX7_faultOf_38 : decode cX7_faultOf 38 = .ok (.aload_n 0, 1) := by decide +kernel
theorem dX7_faultOf_39 : decode cX7_faultOf 39 = .ok (.invokevirtual 167, 3) := by decide +kernel
theorem dX7_faultOf_42 : decode cX7_faultOf 42 = .ok (.bipush 59, 2) := by decide +kernel
theorem dX7_faultOf_44 : decode cX7_faultOf 44 = .ok (.if_icmp .eq 7, 3) := by decide +kernel
theorem dX7_faultOf_47 : decode cX7_faultOf 47 = .ok (.iconst 1, 1) := by decide +kernel
theorem dX7_faultOf_48 : decode cX7_faultOf 48 = .ok (.goto 4, 3) := by decide +kernel
theorem dX7_faultOf_51 : decode cX7_faultOf 51 = .ok (.iconst 0, 1) := by decide +kernel
theorem dX7_faultOf_52 : decode cX7_faultOf 52 = .ok (.putfield 170, 3) := by decide +kernel
theorem dX7_faultOf_55 : decode cX7_faultOf 55 = .ok (.aload_n 0, 1) := by decide +kernel
theorem dX7_faultOf_56 : decode cX7_faultOf 56 = .ok (.getfield 170, 3) := by decide +kernel
theorem dX7_faultOf_59 : decode cX7_faultOf 59 = .ok (.ifCond .ne (-40), 3) := by decide +kernel
theorem dX7_faultOf_62 : decode cX7_faultOf 62 = .ok (.aload_n 0, 1) := by decide +kernel
theorem dX7_faultOf_63 : decode cX7_faultOf 63 = .ok (.dup, 1) := by decide +kernel
theorem dX7_faultOf_64 : decode cX7_faultOf 64 = .ok (.getfield 164, 3) := by decide +kernel
theorem dX7_faultOf_67 : decode cX7_faultOf 67 = .ok (.iconst 1, 1) := by decide +kernel
theorem dX7_faultOf_68 : decode cX7_faultOf 68 = .ok (.iadd, 1) := by decide +kernel
theorem dX7_faultOf_69 : decode cX7_faultOf 69 = .ok (.putfield 164, 3) := by decide +kernel
theorem dX7_faultOf_72 : decode cX7_faultOf 72 = .ok (.aload_n 0, 1) := by decide +kernel
theorem dX7_faultOf_73 : decode cX7_faultOf 73 = .ok (.invokevirtual 182, 3) := by decide +kernel
theorem dX7_faultOf_76 : decode cX7_faultOf 76 = .ok (.goto (-57), 3) := by decide +kernel
theorem dX7_faultOf_79 : decode cX7_faultOf 79 = .ok (.aload_n 0, 1) := by decide +kernel
theorem dX7_faultOf_80 : decode cX7_faultOf 80 = .ok (.getfield 170, 3) := by decide +kernel
theorem dX7_faultOf_83 : decode cX7_faultOf 83 = .ok (.ifCond .eq 10, 3) := by decide +kernel
theorem dX7_faultOf_86 : decode cX7_faultOf 86 = .ok (.aload_n 0, 1) := by decide +kernel
theorem dX7_faultOf_87 : decode cX7_faultOf 87 = .ok (.getfield 164, 3) := by decide +kernel
theorem dX7_faultOf_90 : decode cX7_faultOf 90 = .ok (.goto 5, 3) := by decide +kernel
theorem dX7_faultOf_93 : decode cX7_faultOf 93 = .ok (.bipush (-6), 2) := by decide +kernel
theorem dX7_faultOf_95 : decode cX7_faultOf 95 = .ok (.ireturn, 1) := by decide +kernel
set_option maxRecDepth 20000 in
theorem ggX7_put_X7_in : GoodIn wsX7_put wsX7_in := goodIn_r _ [7] (by decide +kernel) (by decide +kernel)
set_option maxRecDepth 20000 in
theorem gX7_put_X7_in : GoodIn wsX7_put (va_wsS RX7 59 yX7_in wsX7_in) := goodIn_app (goodIn_of _ (by decide +kernel)) ggX7_put_X7_in
theorem dX7_put_0 : decode cX7_put 0 = .ok (.iconst 0, 1) := by decide +kernel
theorem dX7_put_1 : decode cX7_put 1 = .ok (.istore_n 3, 1) := by decide +kernel
theorem dX7_put_2 : decode cX7_put 2 = .ok (.lload_n 1, 1) := by decide +kernel
theorem dX7_put_3 : decode cX7_put 3 = .ok (.lstore 4, 2) := by decide +kernel
theorem dX7_put_5 : decode cX7_put 5 = .ok (.lload 4, 2) := by decide +kernel
theorem dX7_put_7 : decode cX7_put 7 = .ok (.ldc2_w 185, 3) := by decide +kernel
theorem dX7_put_10 : decode cX7_put 10 = .ok (.land, 1) := by decide +kernel
theorem dX7_put_11 : decode cX7_put 11 = .ok (.lconst 0, 1) := by decide +kernel
theorem dX7_put_12 : decode cX7_put 12 = .ok (.lcmp, 1) := by decide +kernel
theorem dX7_put_13 : decode cX7_put 13 = .ok (.ifCond .eq 36, 3) := by decide +kernel
theorem dX7_put_16 : decode cX7_put 16 = .ok (.lload 4, 2) := by decide +kernel
theorem dX7_put_18 : decode cX7_put 18 = .ok (.ldc2_w 185, 3) := by decide +kernel
theorem dX7_put_21 : decode cX7_put 21 = .ok (.land, 1) := by decide +kernel
theorem dX7_put_22 : decode cX7_put 22 = .ok (.l2i, 1) := by decide +kernel
theorem dX7_put_23 : decode cX7_put 23 = .ok (.bipush 33, 2) := by decide +kernel
theorem dX7_put_25 : decode cX7_put 25 = .ok (.bipush 126, 2) := by decide +kernel
theorem dX7_put_27 : decode cX7_put 27 = .ok (.invokestatic 59, 3) := by decide +kernel
theorem dX7_put_30 : decode cX7_put 30 = .ok (.ifCond .ne 6, 3) := by decide +kernel
theorem dX7_put_33 : decode cX7_put 33 = .ok (.bipush (-2), 2) := by decide +kernel
theorem dX7_put_35 : decode cX7_put 35 = .ok (.ireturn, 1) := by decide +kernel
theorem dX7_put_36 : decode cX7_put 36 = .ok (.iinc 3 1, 3) := by decide +kernel
theorem dX7_put_39 : decode cX7_put 39 = .ok (.lload 4, 2) := by decide +kernel
theorem dX7_put_41 : decode cX7_put 41 = .ok (.bipush 8, 2) := by decide +kernel
theorem dX7_put_43 : decode cX7_put 43 = .ok (.lushr, 1) := by decide +kernel
theorem dX7_put_44 : decode cX7_put 44 = .ok (.lstore 4, 2) := by decide +kernel
theorem dX7_put_46 : decode cX7_put 46 = .ok (.goto (-41), 3) := by decide +kernel
theorem dX7_put_49 : decode cX7_put 49 = .ok (.lload 4, 2) := by decide +kernel
theorem dX7_put_51 : decode cX7_put 51 = .ok (.lconst 0, 1) := by decide +kernel
theorem dX7_put_52 : decode cX7_put 52 = .ok (.lcmp, 1) := by decide +kernel
theorem dX7_put_53 : decode cX7_put 53 = .ok (.ifCond .ne 7, 3) := by decide +kernel
theorem dX7_put_56 : decode cX7_put 56 = .ok (.iload_n 3, 1) := by decide +kernel
theorem dX7_put_57 : decode cX7_put 57 = .ok (.ifCond .ne 6, 3) := by decide +kernel
theorem dX7_put_60 : decode cX7_put 60 = .ok (.bipush (-2), 2) := by decide +kernel
theorem dX7_put_62 : decode cX7_put 62 = .ok (.ireturn, 1) := by decide +kernel
theorem dX7_put_63 : decode cX7_put 63 = .ok (.aload_n 0, 1) := by decide +kernel
theorem dX7_put_64 : decode cX7_put 64 = .ok (.getfield 152, 3) := by decide +kernel
theorem dX7_put_67 : decode cX7_put 67 = .ok (.iload_n 3, 1) := by decide +kernel
theorem dX7_put_68 : decode cX7_put 68 = .ok (.iadd, 1) := by decide +kernel
theorem dX7_put_69 : decode cX7_put 69 = .ok (.bipush 80, 2) := by decide +kernel
theorem dX7_put_71 : decode cX7_put 71 = .ok (.if_icmp .le 6, 3) := by decide +kernel
theorem dX7_put_74 : decode cX7_put 74 = .ok (.bipush (-4), 2) := by decide +kernel
theorem dX7_put_76 : decode cX7_put 76 = .ok (.ireturn, 1) := by decide +kernel
theorem dX7_put_77 : decode cX7_put 77 = .ok (.lload_n 1, 1) := by decide +kernel
theorem dX7_put_78 : decode cX7_put 78 = .ok (.lstore 4, 2) := by decide +kernel
theorem dX7_put_80 : decode cX7_put 80 = .ok (.iload_n 3, 1) := by decide +kernel
theorem dX7_put_81 : decode cX7_put 81 = .ok (.iconst 1, 1) := by decide +kernel
theorem dX7_put_82 : decode cX7_put 82 = .ok (.isub, 1) := by decide +kernel
theorem dX7_put_83 : decode cX7_put 83 = .ok (.istore 6, 2) := by decide +kernel
theorem dX7_put_85 : decode cX7_put 85 = .ok (.iload 6, 2) := by decide +kernel
theorem dX7_put_87 : decode cX7_put 87 = .ok (.ifCond .lt 35, 3) := by decide +kernel
theorem dX7_put_90 : decode cX7_put 90 = .ok (.aload_n 0, 1) := by decide +kernel
theorem dX7_put_91 : decode cX7_put 91 = .ok (.getfield 26, 3) := by decide +kernel
theorem dX7_put_94 : decode cX7_put 94 = .ok (.aload_n 0, 1) := by decide +kernel
theorem dX7_put_95 : decode cX7_put 95 = .ok (.getfield 152, 3) := by decide +kernel
theorem dX7_put_98 : decode cX7_put 98 = .ok (.iload 6, 2) := by decide +kernel
theorem dX7_put_100 : decode cX7_put 100 = .ok (.iadd, 1) := by decide +kernel
theorem dX7_put_101 : decode cX7_put 101 = .ok (.lload 4, 2) := by decide +kernel
theorem dX7_put_103 : decode cX7_put 103 = .ok (.ldc2_w 185, 3) := by decide +kernel
theorem dX7_put_106 : decode cX7_put 106 = .ok (.land, 1) := by decide +kernel
theorem dX7_put_107 : decode cX7_put 107 = .ok (.l2i, 1) := by decide +kernel
theorem dX7_put_108 : decode cX7_put 108 = .ok (.iastore, 1) := by decide +kernel
theorem dX7_put_109 : decode cX7_put 109 = .ok (.lload 4, 2) := by decide +kernel
theorem dX7_put_111 : decode cX7_put 111 = .ok (.bipush 8, 2) := by decide +kernel
theorem dX7_put_113 : decode cX7_put 113 = .ok (.lushr, 1) := by decide +kernel
theorem dX7_put_114 : decode cX7_put 114 = .ok (.lstore 4, 2) := by decide +kernel
theorem dX7_put_116 : decode cX7_put 116 = .ok (.iinc 6 (-1), 3) := by decide +kernel
theorem dX7_put_119 : decode cX7_put 119 = .ok (.goto (-34), 3) := by decide +kernel
theorem dX7_put_122 : decode cX7_put 122 = .ok (.aload_n 0, 1) := by decide +kernel
theorem dX7_put_123 : decode cX7_put 123 = .ok (.dup, 1) := by decide +kernel
theorem dX7_put_124 : decode cX7_put 124 = .ok (.getfield 152, 3) := by decide +kernel
theorem dX7_put_127 : decode cX7_put 127 = .ok (.iload_n 3, 1) := by decide +kernel
theorem dX7_put_128 : decode cX7_put 128 = .ok (.iadd, 1) := by decide +kernel
theorem dX7_put_129 : decode cX7_put 129 = .ok (.putfield 152, 3) := by decide +kernel
theorem dX7_put_132 : decode cX7_put 132 = .ok (.aload_n 0, 1) := by decide +kernel
theorem dX7_put_133 : decode cX7_put 133 = .ok (.getfield 152, 3) := by decide +kernel
theorem dX7_put_136 : decode cX7_put 136 = .ok (.ireturn, 1) := by decide +kernel
theorem dX7_wipe_0 : decode cX7_wipe 0 = .ok (.aload_n 0, 1) := by decide +kernel
theorem dX7_wipe_1 : decode cX7_wipe 1 = .ok (.getfield 152, 3) := by decide +kernel
theorem dX7_wipe_4 : decode cX7_wipe 4 = .ok (.istore_n 1, 1) := by decide +kernel
theorem dX7_wipe_5 : decode cX7_wipe 5 = .ok (.aload_n 0, 1) := by decide +kernel
theorem dX7_wipe_6 : decode cX7_wipe 6 = .ok (.iconst 0, 1) := by decide +kernel
theorem dX7_wipe_7 : decode cX7_wipe 7 = .ok (.putfield 152, 3) := by decide +kernel
theorem dX7_wipe_10 : decode cX7_wipe 10 = .ok (.iload_n 1, 1) := by decide +kernel
theorem dX7_wipe_11 : decode cX7_wipe 11 = .ok (.ireturn, 1) := by decide +kernel
set_option maxRecDepth 20000 in
theorem ggX7_fault_X7_faultOf : GoodIn wsX7_fault wsX7_faultOf := goodIn_r _ [5, 6, 7, 8, 9, 10, 11, 12, 4, 13, 14, 15, 16, 17, 18, 19, 20, 21, 22, 23, 24, 25, 26, 27, 28, 29, 30, 31, 32, 33, 34, 35, 36, 37, 38, 39, 40, 41, 42, 43, 44, 45, 46, 47, 48] (by decide +kernel) (by decide +kernel)
set_option maxRecDepth 20000 in
theorem gX7_fault_X7_faultOf : GoodIn wsX7_fault (wsV RX7 187 RX7 yX7_faultOf wsX7_faultOf) := goodIn_app (goodIn_of _ (by decide +kernel)) ggX7_fault_X7_faultOf
theorem dX7_fault_0 : decode cX7_fault 0 = .ok (.aload_n 0, 1) := by decide +kernel
theorem dX7_fault_1 : decode cX7_fault 1 = .ok (.invokevirtual 187, 3) := by decide +kernel
theorem dX7_fault_4 : decode cX7_fault 4 = .ok (.ireturn, 1) := by decide +kernel
set_option maxRecDepth 20000 in
theorem ggX7_carry_X7_send : GoodIn wsX7_carry wsX7_send := goodIn_r _ [6, 7, 8, 9, 10, 5, 11, 12, 13, 14, 15, 16, 17, 18, 19, 20, 21, 22, 23, 24, 25, 26, 27, 28, 29, 30, 31, 32, 33, 34, 35, 36, 37, 38, 39, 40, 41, 42, 43, 44, 45, 46, 47, 48, 49, 50, 51, 52, 53, 54, 55, 56, 57, 58, 59, 60, 61, 62, 63, 64, 110, 111, 112, 113, 114, 115, 116, 117, 118, 119, 120, 121, 122, 123, 124, 125, 126, 127] (by decide +kernel) (by decide +kernel)
set_option maxRecDepth 20000 in
theorem gX7_carry_X7_send : GoodIn wsX7_carry (wsV RX7 190 RX7 yX7_send wsX7_send) := goodIn_app (goodIn_of _ (by decide +kernel)) ggX7_carry_X7_send
set_option maxRecDepth 20000 in
theorem ggX7_carry_X7_link : GoodIn wsX7_carry wsX7_link := goodIn_r _ [68, 7, 8, 9, 10, 5, 11, 12, 13, 14, 15, 16, 17, 18, 38, 39, 40, 41, 54, 55, 56, 57, 58, 59, 60, 42, 43, 44, 45, 69, 70, 71, 72, 28, 110, 111, 112, 113, 114, 115, 116, 117, 118, 119, 120, 121, 122, 123, 124, 125, 126, 127] (by decide +kernel) (by decide +kernel)
set_option maxRecDepth 20000 in
theorem gX7_carry_X7_link : GoodIn wsX7_carry (wsV RX7 193 RX7 yX7_link wsX7_link) := goodIn_app (goodIn_of _ (by decide +kernel)) ggX7_carry_X7_link
set_option maxRecDepth 20000 in
theorem ggX7_carry_X7_ticks : GoodIn wsX7_carry wsX7_ticks := goodIn_r _ [76, 7, 16, 17, 5, 18, 54, 55, 56, 57, 58, 59, 60, 77, 78, 79, 80, 81, 82, 83, 84, 85, 86, 87, 88, 89, 90, 91, 92, 61, 62, 63, 64, 93, 94, 95, 96, 97, 98, 99, 100, 101, 102, 103, 104, 105, 30, 31, 32, 33, 34, 35, 36, 37, 38, 39, 40, 41, 42, 43, 44, 45, 46, 47, 48, 49, 50, 51, 52, 53, 19, 20, 21, 22, 23, 24, 25, 26, 27, 28, 29, 12, 13, 14, 15, 106, 107, 108, 109, 110, 111, 112, 113, 114, 115, 116, 117, 118, 119, 120, 121, 122, 123, 124, 125, 126, 127] (by decide +kernel) (by decide +kernel)
set_option maxRecDepth 20000 in
theorem gX7_carry_X7_ticks : GoodIn wsX7_carry (wsV RX7 196 RX7 yX7_ticks wsX7_ticks) := goodIn_app (goodIn_of _ (by decide +kernel)) ggX7_carry_X7_ticks
theorem dX7_carry_0 : decode cX7_carry 0 = .ok (.aload_n 0, 1) := by decide +kernel
theorem dX7_carry_1 : decode cX7_carry 1 = .ok (.getfield 44, 3) := by decide +kernel
theorem dX7_carry_4 : decode cX7_carry 4 = .ok (.iload_n 1, 1) := by decide +kernel
theorem dX7_carry_5 : decode cX7_carry 5 = .ok (.iconst 1, 1) := by decide +kernel
theorem dX7_carry_6 : decode cX7_carry 6 = .ok (.iadd, 1) := by decide +kernel
theorem dX7_carry_7 : decode cX7_carry 7 = .ok (.iaload, 1) := by decide +kernel
theorem dX7_carry_8 : decode cX7_carry 8 = .ok (.istore_n 2, 1) := by decide +kernel
theorem dX7_carry_9 : decode cX7_carry 9 = .ok (.aload_n 0, 1) := by decide +kernel
theorem dX7_carry_10 : decode cX7_carry 10 = .ok (.getfield 44, 3) := by decide +kernel
theorem dX7_carry_13 : decode cX7_carry 13 = .ok (.iload_n 1, 1) := by decide +kernel
theorem dX7_carry_14 : decode cX7_carry 14 = .ok (.iconst 2, 1) := by decide +kernel
theorem dX7_carry_15 : decode cX7_carry 15 = .ok (.iadd, 1) := by decide +kernel
theorem dX7_carry_16 : decode cX7_carry 16 = .ok (.iaload, 1) := by decide +kernel
theorem dX7_carry_17 : decode cX7_carry 17 = .ok (.istore_n 3, 1) := by decide +kernel
theorem dX7_carry_18 : decode cX7_carry 18 = .ok (.aload_n 0, 1) := by decide +kernel
theorem dX7_carry_19 : decode cX7_carry 19 = .ok (.getfield 44, 3) := by decide +kernel
theorem dX7_carry_22 : decode cX7_carry 22 = .ok (.iload_n 1, 1) := by decide +kernel
theorem dX7_carry_23 : decode cX7_carry 23 = .ok (.iaload, 1) := by decide +kernel
theorem dX7_carry_24 : decode cX7_carry 24 = .ok (.lookupswitch 59 #[(98, 43), (109, 51), (115, 36)], 36) := by decide +kernel
theorem dX7_carry_60 : decode cX7_carry 60 = .ok (.aload_n 0, 1) := by decide +kernel
theorem dX7_carry_61 : decode cX7_carry 61 = .ok (.iload_n 2, 1) := by decide +kernel
theorem dX7_carry_62 : decode cX7_carry 62 = .ok (.iload_n 3, 1) := by decide +kernel
theorem dX7_carry_63 : decode cX7_carry 63 = .ok (.invokevirtual 190, 3) := by decide +kernel
theorem dX7_carry_66 : decode cX7_carry 66 = .ok (.ireturn, 1) := by decide +kernel
theorem dX7_carry_67 : decode cX7_carry 67 = .ok (.aload_n 0, 1) := by decide +kernel
theorem dX7_carry_68 : decode cX7_carry 68 = .ok (.iload_n 2, 1) := by decide +kernel
theorem dX7_carry_69 : decode cX7_carry 69 = .ok (.iload_n 3, 1) := by decide +kernel
theorem dX7_carry_70 : decode cX7_carry 70 = .ok (.iconst 0, 1) := by decide +kernel
theorem dX7_carry_71 : decode cX7_carry 71 = .ok (.invokevirtual 193, 3) := by decide +kernel
theorem dX7_carry_74 : decode cX7_carry 74 = .ok (.ireturn, 1) := by decide +kernel
theorem dX7_carry_75 : decode cX7_carry 75 = .ok (.aload_n 0, 1) := by decide +kernel
theorem dX7_carry_76 : decode cX7_carry 76 = .ok (.iload_n 2, 1) := by decide +kernel
theorem dX7_carry_77 : decode cX7_carry 77 = .ok (.iload_n 3, 1) := by decide +kernel
theorem dX7_carry_78 : decode cX7_carry 78 = .ok (.iconst 1, 1) := by decide +kernel
theorem dX7_carry_79 : decode cX7_carry 79 = .ok (.invokevirtual 193, 3) := by decide +kernel
theorem dX7_carry_82 : decode cX7_carry 82 = .ok (.ireturn, 1) := by decide +kernel
theorem dX7_carry_83 : decode cX7_carry 83 = .ok (.aload_n 0, 1) := by decide +kernel
theorem dX7_carry_84 : decode cX7_carry 84 = .ok (.iload_n 2, 1) := by decide +kernel
theorem dX7_carry_85 : decode cX7_carry 85 = .ok (.invokevirtual 196, 3) := by decide +kernel
theorem dX7_carry_88 : decode cX7_carry 88 = .ok (.ireturn, 1) := by decide +kernel
set_option maxRecDepth 20000 in
theorem ggX7_carryOut_X7_faultOf : GoodIn wsX7_carryOut wsX7_faultOf := goodIn_r _ [8, 9, 2, 10, 3, 11, 12, 13, 7, 14, 15, 16, 17, 18, 19, 20, 21, 22, 23, 24, 25, 26, 27, 28, 29, 30, 31, 139, 140, 141, 142, 143, 144, 145, 146, 147, 148, 149, 150, 151, 152, 153, 154, 155, 156] (by decide +kernel) (by decide +kernel)
set_option maxRecDepth 20000 in
theorem gX7_carryOut_X7_faultOf : GoodIn wsX7_carryOut (wsV RX7 187 RX7 yX7_faultOf wsX7_faultOf) := goodIn_app (goodIn_of _ (by decide +kernel)) ggX7_carryOut_X7_faultOf
set_option maxRecDepth 20000 in
theorem ggX7_carryOut_X7_record : GoodIn wsX7_carryOut wsX7_record := goodIn_r _ [35, 1, 36, 37, 38, 139, 140, 141, 142, 143, 144, 145, 146, 147, 148, 149, 150, 151, 152, 153, 154, 155, 156] (by decide +kernel) (by decide +kernel)
set_option maxRecDepth 20000 in
theorem gX7_carryOut_X7_record : GoodIn wsX7_carryOut (wsV RX7 70 RX7 yX7_record wsX7_record) := goodIn_app (goodIn_of _ (by decide +kernel)) ggX7_carryOut_X7_record
set_option maxRecDepth 20000 in
theorem ggX7_carryOut_X7_carry : GoodIn wsX7_carryOut wsX7_carry := goodIn_r _ [42, 15, 43, 44, 45, 7, 46, 38, 47, 48, 49, 50, 51, 52, 53, 54, 25, 26, 27, 55, 56, 57, 58, 59, 60, 61, 62, 63, 64, 65, 66, 67, 68, 69, 70, 71, 72, 73, 74, 75, 76, 77, 78, 79, 80, 81, 82, 83, 84, 85, 86, 87, 88, 89, 32, 33, 34, 35, 1, 36, 37, 90, 91, 92, 93, 94, 95, 96, 97, 98, 99, 100, 101, 102, 103, 104, 105, 106, 107, 108, 109, 110, 111, 112, 113, 114, 115, 116, 117, 118, 119, 120, 121, 122, 123, 124, 125, 126, 127, 128, 129, 130, 131, 132, 133, 134, 135, 136, 137, 138, 139, 140, 141, 142, 143, 144, 145, 146, 147, 148, 149, 150, 151, 152, 153, 154, 155, 156] (by decide +kernel) (by decide +kernel)
set_option maxRecDepth 20000 in
theorem gX7_carryOut_X7_carry : GoodIn wsX7_carryOut (wsV RX7 199 RX7 yX7_carry wsX7_carry) := goodIn_app (goodIn_of _ (by decide +kernel)) ggX7_carryOut_X7_carry
theorem dX7_carryOut_0 : decode cX7_carryOut 0 = .ok (.aload_n 0, 1) := by decide +kernel
theorem dX7_carryOut_1 : decode cX7_carryOut 1 = .ok (.invokevirtual 187, 3) := by decide +kernel
theorem dX7_carryOut_4 : decode cX7_carryOut 4 = .ok (.bipush (-6), 2) := by decide +kernel
theorem dX7_carryOut_6 : decode cX7_carryOut 6 = .ok (.if_icmp .eq 6, 3) := by decide +kernel
theorem dX7_carryOut_9 : decode cX7_carryOut 9 = .ok (.bipush (-3), 2) := by decide +kernel
theorem dX7_carryOut_11 : decode cX7_carryOut 11 = .ok (.ireturn, 1) := by decide +kernel
theorem dX7_carryOut_12 : decode cX7_carryOut 12 = .ok (.aload_n 0, 1) := by decide +kernel
theorem dX7_carryOut_13 : decode cX7_carryOut 13 = .ok (.invokevirtual 70, 3) := by decide +kernel
theorem dX7_carryOut_16 : decode cX7_carryOut 16 = .ok (.aload_n 0, 1) := by decide +kernel
theorem dX7_carryOut_17 : decode cX7_carryOut 17 = .ok (.iconst 1, 1) := by decide +kernel
theorem dX7_carryOut_18 : decode cX7_carryOut 18 = .ok (.putfield 47, 3) := by decide +kernel
theorem dX7_carryOut_21 : decode cX7_carryOut 21 = .ok (.iconst 0, 1) := by decide +kernel
theorem dX7_carryOut_22 : decode cX7_carryOut 22 = .ok (.istore_n 1, 1) := by decide +kernel
theorem dX7_carryOut_23 : decode cX7_carryOut 23 = .ok (.iload_n 1, 1) := by decide +kernel
theorem dX7_carryOut_24 : decode cX7_carryOut 24 = .ok (.aload_n 0, 1) := by decide +kernel
theorem dX7_carryOut_25 : decode cX7_carryOut 25 = .ok (.getfield 173, 3) := by decide +kernel
theorem dX7_carryOut_28 : decode cX7_carryOut 28 = .ok (.if_icmp .ge 19, 3) := by decide +kernel
theorem dX7_carryOut_31 : decode cX7_carryOut 31 = .ok (.aload_n 0, 1) := by decide +kernel
theorem dX7_carryOut_32 : decode cX7_carryOut 32 = .ok (.iconst 3, 1) := by decide +kernel
theorem dX7_carryOut_33 : decode cX7_carryOut 33 = .ok (.iload_n 1, 1) := by decide +kernel
theorem dX7_carryOut_34 : decode cX7_carryOut 34 = .ok (.imul, 1) := by decide +kernel
theorem dX7_carryOut_35 : decode cX7_carryOut 35 = .ok (.invokevirtual 199, 3) := by decide +kernel
theorem dX7_carryOut_38 : decode cX7_carryOut 38 = .ok (.ifCond .lt 9, 3) := by decide +kernel
theorem dX7_carryOut_41 : decode cX7_carryOut 41 = .ok (.iinc 1 1, 3) := by decide +kernel
theorem dX7_carryOut_44 : decode cX7_carryOut 44 = .ok (.goto (-21), 3) := by decide +kernel
theorem dX7_carryOut_47 : decode cX7_carryOut 47 = .ok (.aload_n 0, 1) := by decide +kernel
theorem dX7_carryOut_48 : decode cX7_carryOut 48 = .ok (.iconst 0, 1) := by decide +kernel
theorem dX7_carryOut_49 : decode cX7_carryOut 49 = .ok (.putfield 47, 3) := by decide +kernel
theorem dX7_carryOut_52 : decode cX7_carryOut 52 = .ok (.aload_n 0, 1) := by decide +kernel
theorem dX7_carryOut_53 : decode cX7_carryOut 53 = .ok (.iconst 0, 1) := by decide +kernel
theorem dX7_carryOut_54 : decode cX7_carryOut 54 = .ok (.putfield 152, 3) := by decide +kernel
theorem dX7_carryOut_57 : decode cX7_carryOut 57 = .ok (.iload_n 1, 1) := by decide +kernel
theorem dX7_carryOut_58 : decode cX7_carryOut 58 = .ok (.ireturn, 1) := by decide +kernel
set_option maxRecDepth 20000 in
theorem ggX7_undo_X7_forget : GoodIn wsX7_undo wsX7_forget := goodIn_r _ [8, 9, 10, 11, 12, 13, 14, 15, 16, 17, 18, 19, 20, 21, 22, 23, 24, 25, 26, 27] (by decide +kernel) (by decide +kernel)
set_option maxRecDepth 20000 in
theorem gX7_undo_X7_forget : GoodIn wsX7_undo (wsV RX7 73 RX7 yX7_forget wsX7_forget) := goodIn_app (goodIn_of _ (by decide +kernel)) ggX7_undo_X7_forget
theorem dX7_undo_0 : decode cX7_undo 0 = .ok (.aload_n 0, 1) := by decide +kernel
theorem dX7_undo_1 : decode cX7_undo 1 = .ok (.getfield 51, 3) := by decide +kernel
theorem dX7_undo_4 : decode cX7_undo 4 = .ok (.ifCond .ne 6, 3) := by decide +kernel
theorem dX7_undo_7 : decode cX7_undo 7 = .ok (.bipush (-5), 2) := by decide +kernel
theorem dX7_undo_9 : decode cX7_undo 9 = .ok (.ireturn, 1) := by decide +kernel
theorem dX7_undo_10 : decode cX7_undo 10 = .ok (.aload_n 0, 1) := by decide +kernel
theorem dX7_undo_11 : decode cX7_undo 11 = .ok (.dup, 1) := by decide +kernel
theorem dX7_undo_12 : decode cX7_undo 12 = .ok (.getfield 51, 3) := by decide +kernel
theorem dX7_undo_15 : decode cX7_undo 15 = .ok (.iconst 1, 1) := by decide +kernel
theorem dX7_undo_16 : decode cX7_undo 16 = .ok (.isub, 1) := by decide +kernel
theorem dX7_undo_17 : decode cX7_undo 17 = .ok (.putfield 51, 3) := by decide +kernel
theorem dX7_undo_20 : decode cX7_undo 20 = .ok (.iconst 0, 1) := by decide +kernel
theorem dX7_undo_21 : decode cX7_undo 21 = .ok (.istore_n 1, 1) := by decide +kernel
theorem dX7_undo_22 : decode cX7_undo 22 = .ok (.iload_n 1, 1) := by decide +kernel
theorem dX7_undo_23 : decode cX7_undo 23 = .ok (.sipush 560, 3) := by decide +kernel
theorem dX7_undo_26 : decode cX7_undo 26 = .ok (.if_icmp .ge 30, 3) := by decide +kernel
theorem dX7_undo_29 : decode cX7_undo 29 = .ok (.aload_n 0, 1) := by decide +kernel
theorem dX7_undo_30 : decode cX7_undo 30 = .ok (.getfield 7, 3) := by decide +kernel
theorem dX7_undo_33 : decode cX7_undo 33 = .ok (.iload_n 1, 1) := by decide +kernel
theorem dX7_undo_34 : decode cX7_undo 34 = .ok (.aload_n 0, 1) := by decide +kernel
theorem dX7_undo_35 : decode cX7_undo 35 = .ok (.getfield 16, 3) := by decide +kernel
theorem dX7_undo_38 : decode cX7_undo 38 = .ok (.aload_n 0, 1) := by decide +kernel
theorem dX7_undo_39 : decode cX7_undo 39 = .ok (.getfield 51, 3) := by decide +kernel
theorem dX7_undo_42 : decode cX7_undo 42 = .ok (.sipush 560, 3) := by decide +kernel
theorem dX7_undo_45 : decode cX7_undo 45 = .ok (.imul, 1) := by decide +kernel
theorem dX7_undo_46 : decode cX7_undo 46 = .ok (.iload_n 1, 1) := by decide +kernel
theorem dX7_undo_47 : decode cX7_undo 47 = .ok (.iadd, 1) := by decide +kernel
theorem dX7_undo_48 : decode cX7_undo 48 = .ok (.iaload, 1) := by decide +kernel
theorem dX7_undo_49 : decode cX7_undo 49 = .ok (.iastore, 1) := by decide +kernel
theorem dX7_undo_50 : decode cX7_undo 50 = .ok (.iinc 1 1, 3) := by decide +kernel
theorem dX7_undo_53 : decode cX7_undo 53 = .ok (.goto (-31), 3) := by decide +kernel
theorem dX7_undo_56 : decode cX7_undo 56 = .ok (.aload_n 0, 1) := by decide +kernel
theorem dX7_undo_57 : decode cX7_undo 57 = .ok (.invokevirtual 73, 3) := by decide +kernel
theorem dX7_undo_60 : decode cX7_undo 60 = .ok (.aload_n 0, 1) := by decide +kernel
theorem dX7_undo_61 : decode cX7_undo 61 = .ok (.getfield 51, 3) := by decide +kernel
theorem dX7_undo_64 : decode cX7_undo 64 = .ok (.ireturn, 1) := by decide +kernel
set_option maxRecDepth 20000 in
theorem ggX7_save_X7_in : GoodIn wsX7_save wsX7_in := goodIn_r _ [7] (by decide +kernel) (by decide +kernel)
set_option maxRecDepth 20000 in
theorem gX7_save_X7_in : GoodIn wsX7_save (va_wsS RX7 59 yX7_in wsX7_in) := goodIn_app (goodIn_of _ (by decide +kernel)) ggX7_save_X7_in
theorem dX7_save_0 : decode cX7_save 0 = .ok (.iload_n 1, 1) := by decide +kernel
theorem dX7_save_1 : decode cX7_save 1 = .ok (.iconst 0, 1) := by decide +kernel
theorem dX7_save_2 : decode cX7_save 2 = .ok (.iconst 1, 1) := by decide +kernel
theorem dX7_save_3 : decode cX7_save 3 = .ok (.invokestatic 59, 3) := by decide +kernel
theorem dX7_save_6 : decode cX7_save 6 = .ok (.ifCond .ne 6, 3) := by decide +kernel
theorem dX7_save_9 : decode cX7_save 9 = .ok (.bipush (-2), 2) := by decide +kernel
theorem dX7_save_11 : decode cX7_save 11 = .ok (.ireturn, 1) := by decide +kernel
theorem dX7_save_12 : decode cX7_save 12 = .ok (.iconst 0, 1) := by decide +kernel
theorem dX7_save_13 : decode cX7_save 13 = .ok (.istore_n 2, 1) := by decide +kernel
theorem dX7_save_14 : decode cX7_save 14 = .ok (.iload_n 2, 1) := by decide +kernel
theorem dX7_save_15 : decode cX7_save 15 = .ok (.sipush 560, 3) := by decide +kernel
theorem dX7_save_18 : decode cX7_save 18 = .ok (.if_icmp .ge 27, 3) := by decide +kernel
theorem dX7_save_21 : decode cX7_save 21 = .ok (.aload_n 0, 1) := by decide +kernel
theorem dX7_save_22 : decode cX7_save 22 = .ok (.getfield 19, 3) := by decide +kernel
theorem dX7_save_25 : decode cX7_save 25 = .ok (.iload_n 1, 1) := by decide +kernel
theorem dX7_save_26 : decode cX7_save 26 = .ok (.sipush 560, 3) := by decide +kernel
theorem dX7_save_29 : decode cX7_save 29 = .ok (.imul, 1) := by decide +kernel
theorem dX7_save_30 : decode cX7_save 30 = .ok (.iload_n 2, 1) := by decide +kernel
theorem dX7_save_31 : decode cX7_save 31 = .ok (.iadd, 1) := by decide +kernel
theorem dX7_save_32 : decode cX7_save 32 = .ok (.aload_n 0, 1) := by decide +kernel
theorem dX7_save_33 : decode cX7_save 33 = .ok (.getfield 7, 3) := by decide +kernel
theorem dX7_save_36 : decode cX7_save 36 = .ok (.iload_n 2, 1) := by decide +kernel
theorem dX7_save_37 : decode cX7_save 37 = .ok (.iaload, 1) := by decide +kernel
theorem dX7_save_38 : decode cX7_save 38 = .ok (.iastore, 1) := by decide +kernel
theorem dX7_save_39 : decode cX7_save 39 = .ok (.iinc 2 1, 3) := by decide +kernel
theorem dX7_save_42 : decode cX7_save 42 = .ok (.goto (-28), 3) := by decide +kernel
theorem dX7_save_45 : decode cX7_save 45 = .ok (.aload_n 0, 1) := by decide +kernel
theorem dX7_save_46 : decode cX7_save 46 = .ok (.getfield 22, 3) := by decide +kernel
theorem dX7_save_49 : decode cX7_save 49 = .ok (.iload_n 1, 1) := by decide +kernel
theorem dX7_save_50 : decode cX7_save 50 = .ok (.iconst 1, 1) := by decide +kernel
theorem dX7_save_51 : decode cX7_save 51 = .ok (.bastore, 1) := by decide +kernel
theorem dX7_save_52 : decode cX7_save 52 = .ok (.aload_n 0, 1) := by decide +kernel
theorem dX7_save_53 : decode cX7_save 53 = .ok (.getfield 7, 3) := by decide +kernel
theorem dX7_save_56 : decode cX7_save 56 = .ok (.iconst 3, 1) := by decide +kernel
theorem dX7_save_57 : decode cX7_save 57 = .ok (.iaload, 1) := by decide +kernel
theorem dX7_save_58 : decode cX7_save 58 = .ok (.ireturn, 1) := by decide +kernel
set_option maxRecDepth 20000 in
theorem ggX7_restore_X7_in : GoodIn wsX7_restore wsX7_in := goodIn_r _ [7] (by decide +kernel) (by decide +kernel)
set_option maxRecDepth 20000 in
theorem gX7_restore_X7_in : GoodIn wsX7_restore (va_wsS RX7 59 yX7_in wsX7_in) := goodIn_app (goodIn_of _ (by decide +kernel)) ggX7_restore_X7_in
set_option maxRecDepth 20000 in
theorem ggX7_restore_X7_record : GoodIn wsX7_restore wsX7_record := goodIn_r _ [11, 12, 13, 14, 2, 20, 21, 22, 23, 24, 25, 26, 27, 28, 29, 30, 31, 32, 33, 34, 35, 36, 37] (by decide +kernel) (by decide +kernel)
set_option maxRecDepth 20000 in
theorem gX7_restore_X7_record : GoodIn wsX7_restore (wsV RX7 70 RX7 yX7_record wsX7_record) := goodIn_app (goodIn_of _ (by decide +kernel)) ggX7_restore_X7_record
set_option maxRecDepth 20000 in
theorem ggX7_restore_X7_forget : GoodIn wsX7_restore wsX7_forget := goodIn_r _ [18, 19, 20, 21, 22, 23, 24, 25, 26, 27, 28, 29, 30, 31, 32, 33, 34, 35, 36, 37] (by decide +kernel) (by decide +kernel)
set_option maxRecDepth 20000 in
theorem gX7_restore_X7_forget : GoodIn wsX7_restore (wsV RX7 73 RX7 yX7_forget wsX7_forget) := goodIn_app (goodIn_of _ (by decide +kernel)) ggX7_restore_X7_forget
theorem dX7_restore_0 : decode cX7_restore 0 = .ok (.iload_n 1, 1) := by decide +kernel
theorem dX7_restore_1 : decode cX7_restore 1 = .ok (.iconst 0, 1) := by decide +kernel
theorem dX7_restore_2 : decode cX7_restore 2 = .ok (.iconst 1, 1) := by decide +kernel
theorem dX7_restore_3 : decode cX7_restore 3 = .ok (.invokestatic 59, 3) := by decide +kernel
theorem dX7_restore_6 : decode cX7_restore 6 = .ok (.ifCond .ne 6, 3) := by decide +kernel
theorem dX7_restore_9 : decode cX7_restore 9 = .ok (.bipush (-2), 2) := by decide +kernel
theorem dX7_restore_11 : decode cX7_restore 11 = .ok (.ireturn, 1) := by decide +kernel
theorem dX7_restore_12 : decode cX7_restore 12 = .ok (.aload_n 0, 1) := by decide +kernel
theorem dX7_restore_13 : decode cX7_restore 13 = .ok (.getfield 22, 3) := by decide +kernel
theorem dX7_restore_16 : decode cX7_restore 16 = .ok (.iload_n 1, 1) := by decide +kernel
theorem dX7_restore_17 : decode cX7_restore 17 = .ok (.baload, 1) := by decide +kernel
theorem dX7_restore_18 : decode cX7_restore 18 = .ok (.ifCond .ne 6, 3) := by decide +kernel
theorem dX7_restore_21 : decode cX7_restore 21 = .ok (.bipush (-5), 2) := by decide +kernel
theorem dX7_restore_23 : decode cX7_restore 23 = .ok (.ireturn, 1) := by decide +kernel
theorem dX7_restore_24 : decode cX7_restore 24 = .ok (.aload_n 0, 1) := by decide +kernel
theorem dX7_restore_25 : decode cX7_restore 25 = .ok (.invokevirtual 70, 3) := by decide +kernel
theorem dX7_restore_28 : decode cX7_restore 28 = .ok (.iconst 0, 1) := by decide +kernel
theorem dX7_restore_29 : decode cX7_restore 29 = .ok (.istore_n 2, 1) := by decide +kernel
theorem dX7_restore_30 : decode cX7_restore 30 = .ok (.iload_n 2, 1) := by decide +kernel
theorem dX7_restore_31 : decode cX7_restore 31 = .ok (.sipush 560, 3) := by decide +kernel
theorem dX7_restore_34 : decode cX7_restore 34 = .ok (.if_icmp .ge 27, 3) := by decide +kernel
theorem dX7_restore_37 : decode cX7_restore 37 = .ok (.aload_n 0, 1) := by decide +kernel
theorem dX7_restore_38 : decode cX7_restore 38 = .ok (.getfield 7, 3) := by decide +kernel
theorem dX7_restore_41 : decode cX7_restore 41 = .ok (.iload_n 2, 1) := by decide +kernel
theorem dX7_restore_42 : decode cX7_restore 42 = .ok (.aload_n 0, 1) := by decide +kernel
theorem dX7_restore_43 : decode cX7_restore 43 = .ok (.getfield 19, 3) := by decide +kernel
theorem dX7_restore_46 : decode cX7_restore 46 = .ok (.iload_n 1, 1) := by decide +kernel
theorem dX7_restore_47 : decode cX7_restore 47 = .ok (.sipush 560, 3) := by decide +kernel
theorem dX7_restore_50 : decode cX7_restore 50 = .ok (.imul, 1) := by decide +kernel
theorem dX7_restore_51 : decode cX7_restore 51 = .ok (.iload_n 2, 1) := by decide +kernel
theorem dX7_restore_52 : decode cX7_restore 52 = .ok (.iadd, 1) := by decide +kernel
theorem dX7_restore_53 : decode cX7_restore 53 = .ok (.iaload, 1) := by decide +kernel
theorem dX7_restore_54 : decode cX7_restore 54 = .ok (.iastore, 1) := by decide +kernel
theorem dX7_restore_55 : decode cX7_restore 55 = .ok (.iinc 2 1, 3) := by decide +kernel
theorem dX7_restore_58 : decode cX7_restore 58 = .ok (.goto (-28), 3) := by decide +kernel
theorem dX7_restore_61 : decode cX7_restore 61 = .ok (.aload_n 0, 1) := by decide +kernel
theorem dX7_restore_62 : decode cX7_restore 62 = .ok (.invokevirtual 73, 3) := by decide +kernel
theorem dX7_restore_65 : decode cX7_restore 65 = .ok (.aload_n 0, 1) := by decide +kernel
theorem dX7_restore_66 : decode cX7_restore 66 = .ok (.getfield 7, 3) := by decide +kernel
theorem dX7_restore_69 : decode cX7_restore 69 = .ok (.iconst 3, 1) := by decide +kernel
theorem dX7_restore_70 : decode cX7_restore 70 = .ok (.iaload, 1) := by decide +kernel
theorem dX7_restore_71 : decode cX7_restore 71 = .ok (.ireturn, 1) := by decide +kernel
theorem dJ13_bitCount_95d88_0 : decode cJ13_bitCount_95d88 0 = .ok (.lload_n 0, 1) := by decide +kernel
theorem dJ13_bitCount_95d88_1 : decode cJ13_bitCount_95d88 1 = .ok (.lload_n 0, 1) := by decide +kernel
theorem dJ13_bitCount_95d88_2 : decode cJ13_bitCount_95d88 2 = .ok (.iconst 1, 1) := by decide +kernel
theorem dJ13_bitCount_95d88_3 : decode cJ13_bitCount_95d88 3 = .ok (.lushr, 1) := by decide +kernel
theorem dJ13_bitCount_95d88_4 : decode cJ13_bitCount_95d88 4 = .ok (.ldc2_w 314, 3) := by decide +kernel
theorem dJ13_bitCount_95d88_7 : decode cJ13_bitCount_95d88 7 = .ok (.land, 1) := by decide +kernel
theorem dJ13_bitCount_95d88_8 : decode cJ13_bitCount_95d88 8 = .ok (.lsub, 1) := by decide +kernel
theorem dJ13_bitCount_95d88_9 : decode cJ13_bitCount_95d88 9 = .ok (.lstore_n 0, 1) := by decide +kernel
theorem dJ13_bitCount_95d88_10 : decode cJ13_bitCount_95d88 10 = .ok (.lload_n 0, 1) := by decide +kernel
theorem dJ13_bitCount_95d88_11 : decode cJ13_bitCount_95d88 11 = .ok (.ldc2_w 316, 3) := by decide +kernel
theorem dJ13_bitCount_95d88_14 : decode cJ13_bitCount_95d88 14 = .ok (.land, 1) := by decide +kernel
theorem dJ13_bitCount_95d88_15 : decode cJ13_bitCount_95d88 15 = .ok (.lload_n 0, 1) := by decide +kernel
theorem dJ13_bitCount_95d88_16 : decode cJ13_bitCount_95d88 16 = .ok (.iconst 2, 1) := by decide +kernel
theorem dJ13_bitCount_95d88_17 : decode cJ13_bitCount_95d88 17 = .ok (.lushr, 1) := by decide +kernel
theorem dJ13_bitCount_95d88_18 : decode cJ13_bitCount_95d88 18 = .ok (.ldc2_w 316, 3) := by decide +kernel
theorem dJ13_bitCount_95d88_21 : decode cJ13_bitCount_95d88 21 = .ok (.land, 1) := by decide +kernel
theorem dJ13_bitCount_95d88_22 : decode cJ13_bitCount_95d88 22 = .ok (.ladd, 1) := by decide +kernel
theorem dJ13_bitCount_95d88_23 : decode cJ13_bitCount_95d88 23 = .ok (.lstore_n 0, 1) := by decide +kernel
theorem dJ13_bitCount_95d88_24 : decode cJ13_bitCount_95d88 24 = .ok (.lload_n 0, 1) := by decide +kernel
theorem dJ13_bitCount_95d88_25 : decode cJ13_bitCount_95d88 25 = .ok (.lload_n 0, 1) := by decide +kernel
theorem dJ13_bitCount_95d88_26 : decode cJ13_bitCount_95d88 26 = .ok (.iconst 4, 1) := by decide +kernel
theorem dJ13_bitCount_95d88_27 : decode cJ13_bitCount_95d88 27 = .ok (.lushr, 1) := by decide +kernel
theorem dJ13_bitCount_95d88_28 : decode cJ13_bitCount_95d88 28 = .ok (.ladd, 1) := by decide +kernel
theorem dJ13_bitCount_95d88_29 : decode cJ13_bitCount_95d88 29 = .ok (.ldc2_w 318, 3) := by decide +kernel
theorem dJ13_bitCount_95d88_32 : decode cJ13_bitCount_95d88 32 = .ok (.land, 1) := by decide +kernel
theorem dJ13_bitCount_95d88_33 : decode cJ13_bitCount_95d88 33 = .ok (.lstore_n 0, 1) := by decide +kernel
theorem dJ13_bitCount_95d88_34 : decode cJ13_bitCount_95d88 34 = .ok (.lload_n 0, 1) := by decide +kernel
theorem dJ13_bitCount_95d88_35 : decode cJ13_bitCount_95d88 35 = .ok (.lload_n 0, 1) := by decide +kernel
theorem dJ13_bitCount_95d88_36 : decode cJ13_bitCount_95d88 36 = .ok (.bipush 8, 2) := by decide +kernel
theorem dJ13_bitCount_95d88_38 : decode cJ13_bitCount_95d88 38 = .ok (.lushr, 1) := by decide +kernel
theorem dJ13_bitCount_95d88_39 : decode cJ13_bitCount_95d88 39 = .ok (.ladd, 1) := by decide +kernel
theorem dJ13_bitCount_95d88_40 : decode cJ13_bitCount_95d88 40 = .ok (.lstore_n 0, 1) := by decide +kernel
theorem dJ13_bitCount_95d88_41 : decode cJ13_bitCount_95d88 41 = .ok (.lload_n 0, 1) := by decide +kernel
theorem dJ13_bitCount_95d88_42 : decode cJ13_bitCount_95d88 42 = .ok (.lload_n 0, 1) := by decide +kernel
theorem dJ13_bitCount_95d88_43 : decode cJ13_bitCount_95d88 43 = .ok (.bipush 16, 2) := by decide +kernel
theorem dJ13_bitCount_95d88_45 : decode cJ13_bitCount_95d88 45 = .ok (.lushr, 1) := by decide +kernel
theorem dJ13_bitCount_95d88_46 : decode cJ13_bitCount_95d88 46 = .ok (.ladd, 1) := by decide +kernel
theorem dJ13_bitCount_95d88_47 : decode cJ13_bitCount_95d88 47 = .ok (.lstore_n 0, 1) := by decide +kernel
theorem dJ13_bitCount_95d88_48 : decode cJ13_bitCount_95d88 48 = .ok (.lload_n 0, 1) := by decide +kernel
theorem dJ13_bitCount_95d88_49 : decode cJ13_bitCount_95d88 49 = .ok (.lload_n 0, 1) := by decide +kernel
theorem dJ13_bitCount_95d88_50 : decode cJ13_bitCount_95d88 50 = .ok (.bipush 32, 2) := by decide +kernel
theorem dJ13_bitCount_95d88_52 : decode cJ13_bitCount_95d88 52 = .ok (.lushr, 1) := by decide +kernel
theorem dJ13_bitCount_95d88_53 : decode cJ13_bitCount_95d88 53 = .ok (.ladd, 1) := by decide +kernel
theorem dJ13_bitCount_95d88_54 : decode cJ13_bitCount_95d88 54 = .ok (.lstore_n 0, 1) := by decide +kernel
theorem dJ13_bitCount_95d88_55 : decode cJ13_bitCount_95d88 55 = .ok (.lload_n 0, 1) := by decide +kernel
theorem dJ13_bitCount_95d88_56 : decode cJ13_bitCount_95d88 56 = .ok (.l2i, 1) := by decide +kernel
theorem dJ13_bitCount_95d88_57 : decode cJ13_bitCount_95d88 57 = .ok (.bipush 127, 2) := by decide +kernel
theorem dJ13_bitCount_95d88_59 : decode cJ13_bitCount_95d88 59 = .ok (.iand, 1) := by decide +kernel
theorem dJ13_bitCount_95d88_60 : decode cJ13_bitCount_95d88 60 = .ok (.ireturn, 1) := by decide +kernel
theorem dJ9_abs_0f7a4_0 : decode cJ9_abs_0f7a4 0 = .ok (.iload_n 0, 1) := by decide +kernel
theorem dJ9_abs_0f7a4_1 : decode cJ9_abs_0f7a4 1 = .ok (.ifCond .ge 8, 3) := by decide +kernel
theorem dJ9_abs_0f7a4_4 : decode cJ9_abs_0f7a4 4 = .ok (.iload_n 0, 1) := by decide +kernel
theorem dJ9_abs_0f7a4_5 : decode cJ9_abs_0f7a4 5 = .ok (.ineg, 1) := by decide +kernel
theorem dJ9_abs_0f7a4_6 : decode cJ9_abs_0f7a4 6 = .ok (.goto 4, 3) := by decide +kernel
theorem dJ9_abs_0f7a4_9 : decode cJ9_abs_0f7a4 9 = .ok (.iload_n 0, 1) := by decide +kernel
theorem dJ9_abs_0f7a4_10 : decode cJ9_abs_0f7a4 10 = .ok (.ireturn, 1) := by decide +kernel
theorem dJ9_max_7cf53_0 : decode cJ9_max_7cf53 0 = .ok (.iload_n 0, 1) := by decide +kernel
theorem dJ9_max_7cf53_1 : decode cJ9_max_7cf53 1 = .ok (.iload_n 1, 1) := by decide +kernel
theorem dJ9_max_7cf53_2 : decode cJ9_max_7cf53 2 = .ok (.if_icmp .lt 7, 3) := by decide +kernel
theorem dJ9_max_7cf53_5 : decode cJ9_max_7cf53 5 = .ok (.iload_n 0, 1) := by decide +kernel
theorem dJ9_max_7cf53_6 : decode cJ9_max_7cf53 6 = .ok (.goto 4, 3) := by decide +kernel
theorem dJ9_max_7cf53_9 : decode cJ9_max_7cf53 9 = .ok (.iload_n 1, 1) := by decide +kernel
theorem dJ9_max_7cf53_10 : decode cJ9_max_7cf53 10 = .ok (.ireturn, 1) := by decide +kernel
theorem dJ9_min_7cf53_0 : decode cJ9_min_7cf53 0 = .ok (.iload_n 0, 1) := by decide +kernel
theorem dJ9_min_7cf53_1 : decode cJ9_min_7cf53 1 = .ok (.iload_n 1, 1) := by decide +kernel
theorem dJ9_min_7cf53_2 : decode cJ9_min_7cf53 2 = .ok (.if_icmp .gt 7, 3) := by decide +kernel
theorem dJ9_min_7cf53_5 : decode cJ9_min_7cf53 5 = .ok (.iload_n 0, 1) := by decide +kernel
theorem dJ9_min_7cf53_6 : decode cJ9_min_7cf53 6 = .ok (.goto 4, 3) := by decide +kernel
theorem dJ9_min_7cf53_9 : decode cJ9_min_7cf53 9 = .ok (.iload_n 1, 1) := by decide +kernel
theorem dJ9_min_7cf53_10 : decode cJ9_min_7cf53 10 = .ok (.ireturn, 1) := by decide +kernel
set_option maxRecDepth 20000 in
theorem ggL_law_X6_init : GoodIn wsL_law wsX6_init := goodIn_r _ [9, 10, 11, 12, 13, 14, 15, 16, 17, 18, 19, 20, 21, 22, 23, 24, 25, 26, 27, 28, 29, 30, 31, 32, 33, 34, 35, 36, 37, 38, 39, 40, 41, 42, 43, 44, 45, 46, 47, 48, 49, 50, 51, 52, 53, 54, 55, 56, 57, 58, 59, 60, 61, 62, 63, 64, 65, 66, 67, 68, 69, 70, 71, 72, 73, 74, 75, 76, 77, 78, 79, 80, 81, 82, 83, 84, 85, 86, 87, 88, 89, 90, 91, 92, 93, 94, 95, 96, 97, 98, 2, 99, 100, 101, 102, 103, 104, 105, 106, 107, 108, 109, 110, 111, 112, 113, 114, 115, 116, 117, 118, 119, 120, 121, 122, 123, 124, 125, 126, 127, 128, 129, 130, 131, 132, 133, 134, 135, 136, 137, 138, 139, 140, 141, 142, 143, 144, 145, 146, 147, 148, 149, 150, 151, 152, 838, 839, 840, 841, 842, 843, 810, 811, 812, 813, 814, 815, 816, 817, 818, 819, 844, 845, 846, 847, 848, 849, 850, 851, 852, 853, 854, 855, 856, 857, 858, 859, 860, 861, 862, 863, 864, 865, 866, 867, 868, 869, 870, 871] (by decide +kernel) (by decide +kernel)
set_option maxRecDepth 20000 in
theorem gL_law_X6_init : GoodIn wsL_law (wsX6_init) := ggL_law_X6_init
set_option maxRecDepth 20000 in
theorem ggL_law_X7_init : GoodIn wsL_law wsX7_init := goodIn_r _ [155, 156, 11, 12, 39, 157, 158, 159, 160, 34, 161, 162, 163, 164, 165, 166, 167, 168, 820, 821, 822, 823, 824, 825, 826, 827, 828, 829, 830, 831, 832, 833, 834, 835, 836, 837] (by decide +kernel) (by decide +kernel)
set_option maxRecDepth 20000 in
theorem gL_law_X7_init : GoodIn wsL_law (wsX7_init) := ggL_law_X7_init
set_option maxRecDepth 20000 in
theorem ggL_law_X6_set : GoodIn wsL_law wsX6_set := goodIn_r _ [172, 16, 101, 173, 174, 2, 175, 176, 177, 178, 179, 180, 181, 182, 32, 31, 183, 184, 185, 186, 187, 188, 15, 189, 40, 190, 191, 192, 193, 44, 48, 49, 50, 51, 194, 195, 196, 43, 197, 55, 56, 57, 198, 199, 200, 47, 201, 61, 62, 202, 63, 64, 65, 66, 67, 68, 69, 70, 71, 96, 97, 98, 99, 20, 100, 102, 103, 104, 19, 105, 75, 76, 106, 107, 108, 109, 110, 111, 112, 113, 114, 115, 116, 117, 118, 119, 120, 121, 122, 123, 124, 125, 126, 127, 128, 129, 130, 77, 78, 80, 79, 131, 132, 133, 134, 135, 136, 137, 138, 139, 140, 141, 142, 143, 144, 145, 146, 147, 148, 149, 150, 151, 152, 810, 811, 812, 813, 814, 815, 816, 817, 818, 819, 838, 839, 840, 841, 842, 843, 858, 859, 860, 861, 862, 863, 864, 865, 866, 867, 868, 869, 870, 871, 844, 845, 846, 847, 848, 849] (by decide +kernel) (by decide +kernel)
set_option maxRecDepth 20000 in
theorem gL_law_X6_set : GoodIn wsL_law (wsV RL 13 RX6 yX6_set wsX6_set) := goodIn_app (goodIn_of _ (by decide +kernel)) ggL_law_X6_set
set_option maxRecDepth 20000 in
theorem ggL_law_X7_set : GoodIn wsL_law wsX7_set := goodIn_r _ [206, 157, 207, 208, 5, 209, 210, 211, 212, 213, 214, 215, 159, 216, 217, 218, 219, 165, 820, 821, 822, 823, 824, 825, 826, 827, 828, 829, 830, 831, 832, 833, 834, 835, 836, 837] (by decide +kernel) (by decide +kernel)
set_option maxRecDepth 20000 in
theorem gL_law_X7_set : GoodIn wsL_law (wsV RL 17 RX7 yX7_set wsX7_set) := goodIn_app (goodIn_of _ (by decide +kernel)) ggL_law_X7_set
set_option maxRecDepth 20000 in
theorem ggL_law_X6_mesh : GoodIn wsL_law wsX6_mesh := goodIn_r _ [223, 16, 224, 225, 100, 226, 227, 2, 228, 179, 180, 181, 182, 32, 31, 183, 184, 185, 186, 187, 188, 15, 189, 40, 190, 191, 192, 193, 44, 48, 49, 50, 51, 194, 195, 196, 43, 197, 55, 56, 57, 198, 199, 200, 47, 201, 61, 62, 202, 63, 64, 65, 66, 67, 68, 69, 70, 71, 229, 230, 231, 232, 96, 97, 98, 99, 20, 101, 102, 103, 104, 19, 105, 75, 76, 106, 107, 108, 109, 110, 111, 112, 113, 114, 115, 116, 117, 118, 119, 120, 121, 122, 123, 124, 125, 126, 127, 128, 129, 130, 77, 78, 80, 79, 131, 132, 133, 134, 135, 136, 137, 138, 139, 140, 141, 142, 143, 144, 145, 146, 147, 148, 149, 150, 151, 152, 233, 810, 811, 812, 813, 814, 815, 816, 817, 818, 819, 838, 839, 840, 841, 842, 843, 861, 862, 863, 864, 865, 866, 867, 868, 869, 870, 871, 858, 859, 860, 844, 845, 846, 847, 848, 849] (by decide +kernel) (by decide +kernel)
set_option maxRecDepth 20000 in
theorem gL_law_X6_mesh : GoodIn wsL_law (wsV RL 18 RX6 yX6_mesh wsX6_mesh) := goodIn_app (goodIn_of _ (by decide +kernel)) ggL_law_X6_mesh
set_option maxRecDepth 20000 in
theorem ggL_law_X7_mesh : GoodIn wsL_law wsX7_mesh := goodIn_r _ [237, 157, 207, 208, 5, 209, 210, 211, 212, 213, 214, 215, 159, 216, 217, 218, 219, 165, 238, 239, 240, 241, 820, 821, 822, 823, 824, 825, 826, 827, 828, 829, 830, 831, 832, 833, 834, 835, 836, 837] (by decide +kernel) (by decide +kernel)
set_option maxRecDepth 20000 in
theorem gL_law_X7_mesh : GoodIn wsL_law (wsV RL 21 RX7 yX7_mesh wsX7_mesh) := goodIn_app (goodIn_of _ (by decide +kernel)) ggL_law_X7_mesh
set_option maxRecDepth 20000 in
theorem ggL_law_X6_link : GoodIn wsL_law wsX6_link := goodIn_r _ [245, 246, 247, 248, 2, 249, 16, 100, 250, 251, 252, 43, 253, 55, 56, 254, 255, 256, 257, 119, 120, 121, 179, 180, 181, 182, 32, 31, 183, 184, 185, 186, 187, 188, 15, 189, 40, 190, 191, 192, 193, 44, 48, 49, 50, 51, 194, 195, 196, 197, 57, 198, 199, 200, 47, 201, 61, 62, 202, 63, 64, 65, 66, 67, 68, 69, 70, 71, 258, 259, 260, 261, 262, 111, 112, 113, 114, 115, 116, 117, 118, 263, 123, 124, 125, 264, 265, 266, 267, 268, 96, 97, 98, 99, 20, 101, 102, 103, 104, 19, 105, 75, 76, 106, 107, 108, 109, 110, 122, 126, 127, 128, 129, 130, 77, 78, 80, 79, 131, 132, 133, 134, 135, 136, 137, 138, 139, 140, 141, 142, 143, 144, 145, 146, 147, 148, 149, 150, 151, 152, 810, 811, 812, 813, 814, 815, 816, 817, 818, 819, 838, 839, 840, 841, 842, 843, 858, 859, 860, 861, 862, 863, 864, 865, 866, 867, 868, 869, 870, 871, 844, 845, 846, 847, 848, 849] (by decide +kernel) (by decide +kernel)
set_option maxRecDepth 20000 in
theorem gL_law_X6_link : GoodIn wsL_law (wsV RL 22 RX6 yX6_link wsX6_link) := goodIn_app (goodIn_of _ (by decide +kernel)) ggL_law_X6_link
set_option maxRecDepth 20000 in
theorem ggL_law_X7_link : GoodIn wsL_law wsX7_link := goodIn_r _ [272, 157, 273, 274, 275, 5, 276, 238, 239, 240, 241, 207, 208, 209, 277, 278, 279, 280, 210, 211, 212, 213, 214, 215, 159, 281, 282, 283, 284, 216, 217, 218, 219, 165, 820, 821, 822, 823, 824, 825, 826, 827, 828, 829, 830, 831, 832, 833, 834, 835, 836, 837] (by decide +kernel) (by decide +kernel)
set_option maxRecDepth 20000 in
theorem gL_law_X7_link : GoodIn wsL_law (wsV RL 26 RX7 yX7_link wsX7_link) := goodIn_app (goodIn_of _ (by decide +kernel)) ggL_law_X7_link
set_option maxRecDepth 20000 in
theorem ggL_law_X6_send : GoodIn wsL_law wsX6_send := goodIn_r _ [288, 16, 224, 289, 290, 291, 292, 2, 293, 100, 225, 20, 250, 251, 252, 43, 253, 55, 56, 294, 295, 296, 15, 297, 44, 40, 298, 299, 300, 19, 301, 77, 131, 132, 133, 302, 303, 304, 305, 306, 307, 116, 308, 179, 180, 181, 182, 32, 31, 183, 184, 185, 186, 187, 188, 189, 190, 191, 192, 193, 48, 49, 50, 51, 194, 195, 196, 197, 57, 198, 199, 200, 47, 201, 61, 62, 202, 63, 64, 65, 66, 67, 68, 69, 70, 71, 309, 310, 311, 312, 810, 811, 812, 813, 814, 815, 816, 817, 818, 819, 838, 839, 840, 841, 842, 843, 861, 862, 863, 864, 865, 866, 867, 868, 869, 870, 871, 858, 859, 860, 844, 845, 846, 847, 848, 849] (by decide +kernel) (by decide +kernel)
set_option maxRecDepth 20000 in
theorem gL_law_X6_send : GoodIn wsL_law (wsV RL 27 RX6 yX6_send wsX6_send) := goodIn_app (goodIn_of _ (by decide +kernel)) ggL_law_X6_send
set_option maxRecDepth 20000 in
theorem ggL_law_X7_send : GoodIn wsL_law wsX7_send := goodIn_r _ [316, 157, 273, 274, 275, 5, 276, 238, 239, 240, 241, 207, 208, 209, 317, 318, 319, 320, 163, 321, 322, 323, 324, 165, 164, 325, 326, 327, 328, 329, 330, 331, 332, 277, 278, 279, 280, 281, 282, 283, 284, 333, 334, 335, 336, 337, 338, 339, 340, 210, 211, 212, 213, 214, 215, 159, 341, 342, 343, 344, 820, 821, 822, 823, 824, 825, 826, 827, 828, 829, 830, 831, 832, 833, 834, 835, 836, 837] (by decide +kernel) (by decide +kernel)
set_option maxRecDepth 20000 in
theorem gL_law_X7_send : GoodIn wsL_law (wsV RL 30 RX7 yX7_send wsX7_send) := goodIn_app (goodIn_of _ (by decide +kernel)) ggL_law_X7_send
set_option maxRecDepth 20000 in
theorem ggL_law_X6_ticks : GoodIn wsL_law wsX6_ticks := goodIn_r _ [348, 16, 20, 289, 349, 350, 2, 351, 179, 180, 181, 182, 32, 31, 183, 184, 185, 186, 187, 188, 15, 189, 40, 190, 191, 192, 193, 44, 48, 49, 50, 51, 194, 195, 196, 43, 197, 55, 56, 57, 198, 199, 200, 47, 201, 61, 62, 202, 63, 64, 65, 66, 67, 68, 69, 70, 71, 352, 353, 354, 355, 356, 357, 358, 359, 360, 361, 362, 363, 364, 365, 366, 367, 368, 369, 370, 371, 372, 373, 374, 375, 376, 377, 378, 379, 380, 381, 382, 383, 384, 385, 116, 386, 302, 303, 304, 305, 306, 307, 308, 387, 388, 389, 19, 390, 142, 143, 144, 145, 76, 146, 147, 148, 149, 75, 391, 299, 300, 301, 77, 131, 132, 133, 392, 393, 394, 395, 396, 397, 398, 399, 400, 810, 811, 812, 813, 814, 815, 816, 817, 818, 819, 838, 839, 840, 841, 842, 843, 858, 859, 860, 861, 862, 863, 864, 865, 866, 867, 868, 869, 870, 871, 844, 845, 846, 847, 848, 849] (by decide +kernel) (by decide +kernel)
set_option maxRecDepth 20000 in
theorem gL_law_X6_ticks : GoodIn wsL_law (wsV RL 31 RX6 yX6_ticks wsX6_ticks) := goodIn_app (goodIn_of _ (by decide +kernel)) ggL_law_X6_ticks
set_option maxRecDepth 20000 in
theorem ggL_law_X7_ticks : GoodIn wsL_law wsX7_ticks := goodIn_r _ [404, 157, 207, 208, 5, 209, 210, 211, 212, 213, 214, 215, 159, 405, 406, 407, 408, 409, 410, 411, 412, 413, 414, 415, 416, 417, 418, 419, 420, 341, 342, 343, 344, 421, 422, 423, 424, 166, 425, 426, 427, 428, 429, 430, 431, 432, 325, 326, 327, 328, 329, 330, 331, 332, 277, 278, 279, 280, 281, 282, 283, 284, 333, 334, 335, 336, 337, 338, 339, 340, 317, 318, 319, 320, 163, 321, 322, 323, 324, 165, 164, 238, 239, 240, 241, 433, 434, 435, 436, 820, 821, 822, 823, 824, 825, 826, 827, 828, 829, 830, 831, 832, 833, 834, 835, 836, 837] (by decide +kernel) (by decide +kernel)
set_option maxRecDepth 20000 in
theorem gL_law_X7_ticks : GoodIn wsL_law (wsV RL 35 RX7 yX7_ticks wsX7_ticks) := goodIn_app (goodIn_of _ (by decide +kernel)) ggL_law_X7_ticks
set_option maxRecDepth 20000 in
theorem ggL_law_X6_ofPacket : GoodIn wsL_law wsX6_ofPacket := goodIn_r _ [440, 16, 224, 441, 442, 443, 444, 445, 446, 447, 448, 449, 450, 20, 26, 451, 452, 453, 47, 454, 61, 455, 456, 457, 15, 458, 48, 363, 378, 372, 298, 299, 300, 19, 301, 77, 131, 132, 133, 379, 380, 381, 382, 40, 383, 384, 385, 116, 386, 44, 302, 303, 304, 43, 305, 55, 306, 307, 308, 459, 375, 376, 377, 357, 387, 388, 389, 390, 142, 143, 144, 145, 76, 146, 147, 148, 149, 75, 391, 392, 393, 394, 395, 396, 364, 365, 366, 367, 49, 460, 461, 462, 25, 463, 464, 84, 465, 466, 467, 468, 469, 470, 471, 472, 473, 474, 475, 476, 477, 478, 479, 480, 481, 482, 483, 484, 485, 486, 810, 811, 812, 813, 814, 815, 816, 817, 818, 819, 838, 839, 840, 841, 842, 843, 861, 862, 863, 864, 865, 866, 867, 868, 869, 870, 871, 844, 845, 846, 847, 848, 849, 858, 859, 860, 850] (by decide +kernel) (by decide +kernel)
set_option maxRecDepth 20000 in
theorem gL_law_X6_ofPacket : GoodIn wsL_law (wsV RL 36 RX6 yX6_ofPacket wsX6_ofPacket) := goodIn_app (goodIn_of _ (by decide +kernel)) ggL_law_X6_ofPacket
set_option maxRecDepth 20000 in
theorem ggL_law_X7_ofPacket : GoodIn wsL_law wsX7_ofPacket := goodIn_r _ [490, 166, 167, 491, 492, 493, 5, 494, 157, 207, 208, 209, 495, 496, 497, 498, 429, 430, 431, 432, 409, 410, 411, 412, 317, 318, 319, 320, 163, 321, 322, 323, 324, 165, 164, 238, 239, 240, 241, 325, 326, 327, 328, 329, 330, 331, 332, 277, 278, 279, 280, 281, 282, 283, 284, 333, 334, 335, 336, 337, 338, 339, 340, 425, 426, 427, 428, 499, 500, 501, 502, 503, 504, 505, 506, 413, 414, 415, 416, 417, 418, 419, 420, 820, 821, 822, 823, 824, 825, 826, 827, 828, 829, 830, 831, 832, 833, 834, 835, 836, 837] (by decide +kernel) (by decide +kernel)
set_option maxRecDepth 20000 in
theorem gL_law_X7_ofPacket : GoodIn wsL_law (wsV RL 39 RX7 yX7_ofPacket wsX7_ofPacket) := goodIn_app (goodIn_of _ (by decide +kernel)) ggL_law_X7_ofPacket
set_option maxRecDepth 20000 in
theorem ggL_law_X6_ofBox : GoodIn wsL_law wsX6_ofBox := goodIn_r _ [510, 16, 100, 224, 511, 250, 251, 252, 43, 253, 55, 56, 512, 513, 514, 47, 515, 61, 64, 65, 516, 517, 518, 2, 519, 262, 111, 112, 113, 114, 115, 116, 117, 118, 119, 120, 121, 263, 123, 124, 125, 57, 810, 811, 812, 813, 814, 815, 816, 817, 818, 819, 838, 839, 840, 841, 842, 843, 858, 859, 860, 861, 862, 863, 864, 865, 866, 867, 868, 869, 870, 871] (by decide +kernel) (by decide +kernel)
set_option maxRecDepth 20000 in
theorem gL_law_X6_ofBox : GoodIn wsL_law (wsV RL 40 RX6 yX6_ofBox wsX6_ofBox) := goodIn_app (goodIn_of _ (by decide +kernel)) ggL_law_X6_ofBox
set_option maxRecDepth 20000 in
theorem ggL_law_X7_ofBox : GoodIn wsL_law wsX7_ofBox := goodIn_r _ [523, 157, 273, 274, 275, 5, 276, 238, 239, 240, 241, 207, 208, 209, 277, 278, 279, 280, 329, 330, 331, 332, 281, 282, 283, 284, 524, 525, 526, 527, 409, 410, 411, 412, 820, 821, 822, 823, 824, 825, 826, 827, 828, 829, 830, 831, 832, 833, 834, 835, 836, 837] (by decide +kernel) (by decide +kernel)
set_option maxRecDepth 20000 in
theorem gL_law_X7_ofBox : GoodIn wsL_law (wsV RL 43 RX7 yX7_ofBox wsX7_ofBox) := goodIn_app (goodIn_of _ (by decide +kernel)) ggL_law_X7_ofBox
set_option maxRecDepth 20000 in
theorem ggL_law_X6_count : GoodIn wsL_law wsX6_count := goodIn_r _ [531, 16, 224, 289, 100, 532, 225, 445, 446, 447, 26, 20, 30, 533, 32, 101, 233, 107, 108, 43, 109, 55, 56, 534, 535, 536, 47, 537, 61, 64, 538, 539, 540, 541, 542, 543, 544, 25, 545, 464, 469, 84, 465, 466, 467, 468, 470, 471, 472, 473, 474, 475, 476, 477, 478, 15, 479, 48, 363, 378, 372, 387, 388, 389, 19, 390, 142, 143, 144, 145, 76, 146, 147, 148, 149, 75, 391, 299, 300, 301, 77, 131, 132, 133, 379, 380, 381, 382, 40, 383, 384, 385, 116, 386, 44, 302, 303, 304, 305, 306, 307, 308, 480, 481, 394, 395, 396, 364, 365, 366, 367, 49, 482, 483, 484, 485, 546, 547, 548, 549, 57, 550, 551, 552, 553, 554, 555, 556, 810, 811, 812, 813, 814, 815, 816, 817, 818, 819, 838, 839, 840, 841, 842, 843, 858, 859, 860, 861, 862, 863, 864, 865, 866, 867, 868, 869, 870, 871, 851, 852, 853, 854, 855, 856, 857, 850, 844, 845, 846, 847, 848, 849] (by decide +kernel) (by decide +kernel)
set_option maxRecDepth 20000 in
theorem gL_law_X6_count : GoodIn wsL_law (wsV RL 44 RX6 yX6_count wsX6_count) := goodIn_app (goodIn_of _ (by decide +kernel)) ggL_law_X6_count
set_option maxRecDepth 20000 in
theorem ggL_law_X7_count : GoodIn wsL_law wsX7_count := goodIn_r _ [560, 157, 561, 215, 207, 208, 5, 209, 524, 525, 526, 527, 409, 410, 411, 412, 562, 563, 564, 565, 238, 239, 240, 241, 499, 500, 501, 502, 167, 503, 504, 505, 506, 166, 425, 426, 427, 428, 429, 430, 431, 432, 325, 326, 327, 328, 329, 330, 331, 332, 277, 278, 279, 280, 281, 282, 283, 284, 333, 334, 335, 336, 337, 338, 339, 340, 317, 318, 319, 320, 163, 321, 322, 323, 324, 165, 164, 413, 414, 415, 416, 417, 418, 419, 420, 566, 567, 568, 569, 820, 821, 822, 823, 824, 825, 826, 827, 828, 829, 830, 831, 832, 833, 834, 835, 836, 837] (by decide +kernel) (by decide +kernel)
set_option maxRecDepth 20000 in
theorem gL_law_X7_count : GoodIn wsL_law (wsV RL 47 RX7 yX7_count wsX7_count) := goodIn_app (goodIn_of _ (by decide +kernel)) ggL_law_X7_count
set_option maxRecDepth 20000 in
theorem ggL_law_X6_leastWay : GoodIn wsL_law wsX6_leastWay := goodIn_r _ [573, 16, 100, 20, 250, 251, 252, 43, 253, 55, 56, 294, 295, 296, 15, 297, 44, 40, 298, 299, 300, 19, 301, 77, 131, 132, 133, 302, 303, 304, 305, 306, 307, 116, 308, 810, 811, 812, 813, 814, 815, 816, 817, 818, 819, 838, 839, 840, 841, 842, 843, 858, 859, 860, 844, 845, 846, 847, 848, 849] (by decide +kernel) (by decide +kernel)
set_option maxRecDepth 20000 in
theorem gL_law_X6_leastWay : GoodIn wsL_law (wsV RL 48 RX6 yX6_leastWay wsX6_leastWay) := goodIn_app (goodIn_of _ (by decide +kernel)) ggL_law_X6_leastWay
set_option maxRecDepth 20000 in
theorem ggL_law_X7_leastWay : GoodIn wsL_law wsX7_leastWay := goodIn_r _ [577, 273, 274, 275, 5, 276, 238, 239, 240, 241, 157, 207, 208, 209, 317, 318, 319, 320, 163, 321, 322, 323, 324, 165, 164, 325, 326, 327, 328, 329, 330, 331, 332, 277, 278, 279, 280, 281, 282, 283, 284, 333, 334, 335, 336, 337, 338, 339, 340, 820, 821, 822, 823, 824, 825, 826, 827, 828, 829, 830, 831, 832, 833, 834, 835, 836, 837] (by decide +kernel) (by decide +kernel)
set_option maxRecDepth 20000 in
theorem gL_law_X7_leastWay : GoodIn wsL_law (wsV RL 51 RX7 yX7_leastWay wsX7_leastWay) := goodIn_app (goodIn_of _ (by decide +kernel)) ggL_law_X7_leastWay
set_option maxRecDepth 20000 in
theorem ggL_law_X6_ways : GoodIn wsL_law wsX6_ways := goodIn_r _ [581, 16, 100, 20, 250, 251, 252, 43, 253, 55, 56, 294, 295, 296, 15, 297, 44, 40, 298, 299, 300, 19, 301, 77, 131, 132, 133, 302, 303, 304, 305, 306, 307, 116, 308, 582, 583, 584, 585, 78, 127, 128, 129, 130, 80, 79, 134, 135, 136, 137, 138, 139, 140, 141, 142, 143, 144, 145, 76, 146, 147, 148, 149, 75, 150, 151, 152, 810, 811, 812, 813, 814, 815, 816, 817, 818, 819, 838, 839, 840, 841, 842, 843, 858, 859, 860, 844, 845, 846, 847, 848, 849] (by decide +kernel) (by decide +kernel)
set_option maxRecDepth 20000 in
theorem gL_law_X6_ways : GoodIn wsL_law (wsV RL 52 RX6 yX6_ways wsX6_ways) := goodIn_app (goodIn_of _ (by decide +kernel)) ggL_law_X6_ways
set_option maxRecDepth 20000 in
theorem ggL_law_X7_ways : GoodIn wsL_law wsX7_ways := goodIn_r _ [589, 164, 273, 274, 275, 5, 276, 238, 239, 240, 241, 157, 207, 208, 209, 321, 322, 323, 324, 165, 163, 325, 326, 327, 328, 329, 330, 331, 332, 277, 278, 279, 280, 281, 282, 283, 284, 333, 334, 335, 336, 337, 338, 339, 340, 820, 821, 822, 823, 824, 825, 826, 827, 828, 829, 830, 831, 832, 833, 834, 835, 836, 837] (by decide +kernel) (by decide +kernel)
set_option maxRecDepth 20000 in
theorem gL_law_X7_ways : GoodIn wsL_law (wsV RL 55 RX7 yX7_ways wsX7_ways) := goodIn_app (goodIn_of _ (by decide +kernel)) ggL_law_X7_ways
set_option maxRecDepth 20000 in
theorem ggL_law_X6_pairs : GoodIn wsL_law wsX6_pairs := goodIn_r _ [593, 16, 20, 594, 595, 596, 15, 597, 44, 598, 107, 108, 43, 109, 55, 56, 599, 295, 296, 297, 40, 298, 299, 300, 19, 301, 77, 131, 132, 133, 302, 303, 304, 305, 306, 307, 116, 308, 810, 811, 812, 813, 814, 815, 816, 817, 818, 819, 838, 839, 840, 841, 842, 843, 858, 859, 860, 844, 845, 846, 847, 848, 849] (by decide +kernel) (by decide +kernel)
set_option maxRecDepth 20000 in
theorem gL_law_X6_pairs : GoodIn wsL_law (wsV RL 56 RX6 yX6_pairs wsX6_pairs) := goodIn_app (goodIn_of _ (by decide +kernel)) ggL_law_X6_pairs
set_option maxRecDepth 20000 in
theorem ggL_law_X7_pairs : GoodIn wsL_law wsX7_pairs := goodIn_r _ [603, 604, 605, 606, 5, 607, 238, 239, 240, 241, 157, 317, 318, 319, 320, 163, 321, 322, 323, 324, 165, 164, 325, 326, 327, 328, 329, 330, 331, 332, 277, 278, 279, 280, 207, 208, 209, 281, 282, 283, 284, 333, 334, 335, 336, 337, 338, 339, 340, 820, 821, 822, 823, 824, 825, 826, 827, 828, 829, 830, 831, 832, 833, 834, 835, 836, 837] (by decide +kernel) (by decide +kernel)
set_option maxRecDepth 20000 in
theorem gL_law_X7_pairs : GoodIn wsL_law (wsV RL 60 RX7 yX7_pairs wsX7_pairs) := goodIn_app (goodIn_of _ (by decide +kernel)) ggL_law_X7_pairs
set_option maxRecDepth 20000 in
theorem ggL_law_X6_worstLink : GoodIn wsL_law wsX6_worstLink := goodIn_r _ [611, 612, 613, 614, 2, 615, 16, 100, 233, 107, 108, 43, 109, 55, 56, 616, 617, 618, 619, 620, 621, 622, 623, 624, 625, 118, 119, 120, 121, 263, 123, 124, 125, 57, 626, 627, 628, 629, 21, 22, 101, 187, 188, 15, 189, 40, 190, 191, 192, 193, 44, 48, 49, 50, 51, 194, 195, 196, 197, 198, 199, 200, 47, 201, 61, 62, 202, 63, 64, 65, 66, 67, 68, 69, 70, 71, 264, 265, 266, 267, 268, 102, 103, 104, 19, 105, 75, 76, 106, 110, 111, 112, 113, 114, 115, 116, 117, 122, 126, 127, 128, 129, 130, 77, 78, 80, 79, 131, 132, 133, 134, 135, 136, 137, 138, 139, 140, 141, 142, 143, 144, 145, 146, 147, 148, 149, 150, 151, 152, 594, 595, 596, 597, 598, 599, 295, 296, 297, 298, 299, 300, 301, 302, 303, 304, 305, 306, 307, 308, 630, 631, 810, 811, 812, 813, 814, 815, 816, 817, 818, 819, 838, 839, 840, 841, 842, 843, 858, 859, 860, 861, 862, 863, 864, 865, 866, 867, 868, 869, 870, 871, 844, 845, 846, 847, 848, 849] (by decide +kernel) (by decide +kernel)
set_option maxRecDepth 20000 in
theorem gL_law_X6_worstLink : GoodIn wsL_law (wsV RL 61 RX6 yX6_worstLink wsX6_worstLink) := goodIn_app (goodIn_of _ (by decide +kernel)) ggL_law_X6_worstLink
set_option maxRecDepth 20000 in
theorem ggL_law_X7_worstLink : GoodIn wsL_law wsX7_worstLink := goodIn_r _ [635, 157, 207, 208, 5, 209, 238, 239, 240, 241, 329, 330, 331, 332, 277, 278, 279, 280, 281, 282, 283, 284, 216, 217, 218, 219, 165, 604, 605, 606, 607, 317, 318, 319, 320, 163, 321, 322, 323, 324, 164, 325, 326, 327, 328, 333, 334, 335, 336, 337, 338, 339, 340, 820, 821, 822, 823, 824, 825, 826, 827, 828, 829, 830, 831, 832, 833, 834, 835, 836, 837] (by decide +kernel) (by decide +kernel)
set_option maxRecDepth 20000 in
theorem gL_law_X7_worstLink : GoodIn wsL_law (wsV RL 64 RX7 yX7_worstLink wsX7_worstLink) := goodIn_app (goodIn_of _ (by decide +kernel)) ggL_law_X7_worstLink
set_option maxRecDepth 20000 in
theorem ggL_law_X6_busiest : GoodIn wsL_law wsX6_busiest := goodIn_r _ [639, 16, 511, 810, 811, 812, 813, 814, 815, 816, 817, 818, 819, 838, 839, 840, 841, 842, 843] (by decide +kernel) (by decide +kernel)
set_option maxRecDepth 20000 in
theorem gL_law_X6_busiest : GoodIn wsL_law (wsV RL 65 RX6 yX6_busiest wsX6_busiest) := goodIn_app (goodIn_of _ (by decide +kernel)) ggL_law_X6_busiest
set_option maxRecDepth 20000 in
theorem ggL_law_X7_busiest : GoodIn wsL_law wsX7_busiest := goodIn_r _ [643, 157, 207, 208, 5, 209, 238, 239, 240, 241, 820, 821, 822, 823, 824, 825, 826, 827, 828, 829, 830, 831, 832, 833, 834, 835, 836, 837] (by decide +kernel) (by decide +kernel)
set_option maxRecDepth 20000 in
theorem gL_law_X7_busiest : GoodIn wsL_law (wsV RL 68 RX7 yX7_busiest wsX7_busiest) := goodIn_app (goodIn_of _ (by decide +kernel)) ggL_law_X7_busiest
set_option maxRecDepth 20000 in
theorem ggL_law_X6_arrivesIn : GoodIn wsL_law wsX6_arrivesIn := goodIn_r _ [647, 16, 224, 21, 443, 20, 451, 452, 453, 47, 454, 61, 187, 188, 15, 189, 40, 190, 191, 192, 193, 44, 48, 49, 50, 51, 194, 195, 196, 43, 197, 55, 56, 57, 198, 199, 200, 201, 62, 202, 63, 64, 65, 66, 67, 68, 69, 70, 71, 352, 353, 354, 355, 356, 357, 358, 359, 360, 361, 362, 363, 364, 365, 366, 367, 368, 369, 370, 371, 372, 373, 374, 375, 376, 377, 378, 379, 380, 381, 382, 383, 384, 385, 116, 386, 302, 303, 304, 305, 306, 307, 308, 387, 388, 389, 19, 390, 142, 143, 144, 145, 76, 146, 147, 148, 149, 75, 391, 299, 300, 301, 77, 131, 132, 133, 392, 393, 394, 395, 396, 397, 398, 399, 400, 810, 811, 812, 813, 814, 815, 816, 817, 818, 819, 838, 839, 840, 841, 842, 843, 861, 862, 863, 864, 865, 866, 867, 868, 869, 870, 871, 858, 859, 860, 844, 845, 846, 847, 848, 849] (by decide +kernel) (by decide +kernel)
set_option maxRecDepth 20000 in
theorem gL_law_X6_arrivesIn : GoodIn wsL_law (wsV RL 69 RX6 yX6_arrivesIn wsX6_arrivesIn) := goodIn_app (goodIn_of _ (by decide +kernel)) ggL_law_X6_arrivesIn
set_option maxRecDepth 20000 in
theorem ggL_law_X7_arrivesIn : GoodIn wsL_law wsX7_arrivesIn := goodIn_r _ [651, 491, 492, 493, 5, 494, 157, 207, 208, 209, 652, 653, 654, 655, 158, 409, 410, 411, 412, 405, 406, 407, 408, 413, 414, 415, 416, 417, 418, 419, 420, 341, 342, 343, 344, 421, 422, 423, 424, 166, 425, 426, 427, 428, 429, 430, 431, 432, 325, 326, 327, 328, 329, 330, 331, 332, 277, 278, 279, 280, 281, 282, 283, 284, 333, 334, 335, 336, 337, 338, 339, 340, 317, 318, 319, 320, 163, 321, 322, 323, 324, 165, 164, 238, 239, 240, 241, 433, 434, 435, 436, 656, 657, 658, 659, 820, 821, 822, 823, 824, 825, 826, 827, 828, 829, 830, 831, 832, 833, 834, 835, 836, 837] (by decide +kernel) (by decide +kernel)
set_option maxRecDepth 20000 in
theorem gL_law_X7_arrivesIn : GoodIn wsL_law (wsV RL 72 RX7 yX7_arrivesIn wsX7_arrivesIn) := goodIn_app (goodIn_of _ (by decide +kernel)) ggL_law_X7_arrivesIn
set_option maxRecDepth 20000 in
theorem ggL_law_X6_arrivedBy : GoodIn wsL_law wsX6_arrivedBy := goodIn_r _ [663, 16, 21, 20, 224, 349, 350, 2, 351, 187, 188, 15, 189, 40, 190, 191, 192, 193, 44, 48, 49, 50, 51, 194, 195, 196, 43, 197, 55, 56, 57, 198, 199, 200, 47, 201, 61, 62, 202, 63, 64, 65, 66, 67, 68, 69, 70, 71, 352, 353, 354, 355, 356, 357, 358, 359, 360, 361, 362, 363, 364, 365, 366, 367, 368, 369, 370, 371, 372, 373, 374, 375, 376, 377, 378, 379, 380, 381, 382, 383, 384, 385, 116, 386, 302, 303, 304, 305, 306, 307, 308, 387, 388, 389, 19, 390, 142, 143, 144, 145, 76, 146, 147, 148, 149, 75, 391, 299, 300, 301, 77, 131, 132, 133, 392, 393, 394, 395, 396, 397, 398, 399, 400, 534, 535, 536, 537, 810, 811, 812, 813, 814, 815, 816, 817, 818, 819, 838, 839, 840, 841, 842, 843, 858, 859, 860, 861, 862, 863, 864, 865, 866, 867, 868, 869, 870, 871, 844, 845, 846, 847, 848, 849] (by decide +kernel) (by decide +kernel)
set_option maxRecDepth 20000 in
theorem gL_law_X6_arrivedBy : GoodIn wsL_law (wsV RL 73 RX6 yX6_arrivedBy wsX6_arrivedBy) := goodIn_app (goodIn_of _ (by decide +kernel)) ggL_law_X6_arrivedBy
set_option maxRecDepth 20000 in
theorem ggL_law_X7_arrivedBy : GoodIn wsL_law wsX7_arrivedBy := goodIn_r _ [667, 207, 208, 5, 209, 652, 653, 654, 655, 158, 157, 405, 406, 407, 408, 409, 410, 411, 412, 413, 414, 415, 416, 417, 418, 419, 420, 341, 342, 343, 344, 421, 422, 423, 424, 166, 425, 426, 427, 428, 429, 430, 431, 432, 325, 326, 327, 328, 329, 330, 331, 332, 277, 278, 279, 280, 281, 282, 283, 284, 333, 334, 335, 336, 337, 338, 339, 340, 317, 318, 319, 320, 163, 321, 322, 323, 324, 165, 164, 238, 239, 240, 241, 433, 434, 435, 436, 524, 525, 526, 527, 656, 657, 658, 659, 820, 821, 822, 823, 824, 825, 826, 827, 828, 829, 830, 831, 832, 833, 834, 835, 836, 837] (by decide +kernel) (by decide +kernel)
set_option maxRecDepth 20000 in
theorem gL_law_X7_arrivedBy : GoodIn wsL_law (wsV RL 76 RX7 yX7_arrivedBy wsX7_arrivedBy) := goodIn_app (goodIn_of _ (by decide +kernel)) ggL_law_X7_arrivedBy
set_option maxRecDepth 20000 in
theorem ggL_law_X6_put : GoodIn wsL_law wsX6_put := goodIn_r _ [671, 30, 533, 672, 673, 29, 674, 675, 676, 677, 678, 679, 90, 680, 681, 682, 683, 89, 684, 810, 811, 812, 813, 814, 815, 816, 817, 818, 819, 851, 852, 853, 854, 855, 856, 857] (by decide +kernel) (by decide +kernel)
set_option maxRecDepth 20000 in
theorem gL_law_X6_put : GoodIn wsL_law (wsV RL 79 RX6 yX6_put wsX6_put) := goodIn_app (goodIn_of _ (by decide +kernel)) ggL_law_X6_put
set_option maxRecDepth 20000 in
theorem ggL_law_X7_put : GoodIn wsL_law wsX7_put := goodIn_r _ [688, 689, 561, 162, 207, 208, 5, 209, 820, 821, 822, 823, 824, 825, 826, 827, 828, 829, 830, 831, 832, 833, 834, 835, 836, 837] (by decide +kernel) (by decide +kernel)
set_option maxRecDepth 20000 in
theorem gL_law_X7_put : GoodIn wsL_law (wsV RL 83 RX7 yX7_put wsX7_put) := goodIn_app (goodIn_of _ (by decide +kernel)) ggL_law_X7_put
set_option maxRecDepth 20000 in
theorem ggL_law_X6_wipe : GoodIn wsL_law wsX6_wipe := goodIn_r _ [693, 30, 533, 810, 811, 812, 813, 814, 815, 816, 817, 818, 819, 851, 852, 853, 854, 855, 856, 857] (by decide +kernel) (by decide +kernel)
set_option maxRecDepth 20000 in
theorem gL_law_X6_wipe : GoodIn wsL_law (wsV RL 84 RX6 yX6_wipe wsX6_wipe) := goodIn_app (goodIn_of _ (by decide +kernel)) ggL_law_X6_wipe
set_option maxRecDepth 20000 in
theorem ggL_law_X7_wipe : GoodIn wsL_law wsX7_wipe := goodIn_r _ [697, 561, 820, 821, 822, 823, 824, 825, 826, 827, 828, 829, 830, 831, 832, 833, 834, 835, 836, 837] (by decide +kernel) (by decide +kernel)
set_option maxRecDepth 20000 in
theorem gL_law_X7_wipe : GoodIn wsL_law (wsV RL 87 RX7 yX7_wipe wsX7_wipe) := goodIn_app (goodIn_of _ (by decide +kernel)) ggL_law_X7_wipe
set_option maxRecDepth 20000 in
theorem ggL_law_X6_fault : GoodIn wsL_law wsX6_fault := goodIn_r _ [701, 30, 702, 703, 704, 29, 705, 95, 91, 90, 706, 707, 708, 709, 92, 93, 94, 710, 711, 712, 713, 89, 714, 715, 716, 717, 718, 719, 720, 721, 722, 723, 724, 725, 726, 727, 728, 729, 730, 731, 732, 810, 811, 812, 813, 814, 815, 816, 817, 818, 819, 851, 852, 853, 854, 855, 856, 857] (by decide +kernel) (by decide +kernel)
set_option maxRecDepth 20000 in
theorem gL_law_X6_fault : GoodIn wsL_law (wsV RL 88 RX6 yX6_fault wsX6_fault) := goodIn_app (goodIn_of _ (by decide +kernel)) ggL_law_X6_fault
set_option maxRecDepth 20000 in
theorem ggL_law_X7_fault : GoodIn wsL_law wsX7_fault := goodIn_r _ [736, 737, 738, 739, 5, 740, 741, 742, 743, 561, 744, 745, 746, 747, 168, 748, 749, 750, 751, 162, 752, 753, 754, 755, 207, 208, 209, 756, 757, 758, 759, 820, 821, 822, 823, 824, 825, 826, 827, 828, 829, 830, 831, 832, 833, 834, 835, 836, 837] (by decide +kernel) (by decide +kernel)
set_option maxRecDepth 20000 in
theorem gL_law_X7_fault : GoodIn wsL_law (wsV RL 91 RX7 yX7_fault wsX7_fault) := goodIn_app (goodIn_of _ (by decide +kernel)) ggL_law_X7_fault
set_option maxRecDepth 20000 in
theorem ggL_law_X6_carryOut : GoodIn wsL_law wsX6_carryOut := goodIn_r _ [763, 30, 533, 764, 702, 703, 704, 29, 705, 95, 91, 90, 706, 707, 708, 709, 92, 93, 94, 710, 711, 712, 713, 89, 714, 715, 716, 717, 718, 719, 720, 721, 722, 723, 724, 725, 726, 727, 728, 729, 730, 731, 732, 179, 180, 181, 2, 182, 32, 16, 31, 183, 184, 185, 186, 187, 188, 15, 189, 40, 190, 191, 192, 193, 44, 48, 49, 50, 51, 194, 195, 196, 43, 197, 55, 56, 57, 198, 199, 200, 47, 201, 61, 62, 202, 63, 64, 65, 66, 67, 68, 69, 70, 71, 765, 766, 767, 768, 769, 770, 771, 224, 289, 20, 290, 291, 292, 293, 100, 225, 250, 251, 252, 253, 294, 295, 296, 297, 298, 299, 300, 19, 301, 77, 131, 132, 133, 302, 303, 304, 305, 306, 307, 116, 308, 309, 310, 311, 312, 246, 247, 248, 249, 254, 255, 256, 257, 119, 120, 121, 258, 259, 260, 261, 262, 111, 112, 113, 114, 115, 117, 118, 263, 123, 124, 125, 264, 265, 266, 267, 268, 96, 97, 98, 99, 101, 102, 103, 104, 105, 75, 76, 106, 107, 108, 109, 110, 122, 126, 127, 128, 129, 130, 78, 80, 79, 134, 135, 136, 137, 138, 139, 140, 141, 142, 143, 144, 145, 146, 147, 148, 149, 150, 151, 152, 349, 350, 351, 352, 353, 354, 355, 356, 357, 358, 359, 360, 361, 362, 363, 364, 365, 366, 367, 368, 369, 370, 371, 372, 373, 374, 375, 376, 377, 378, 379, 380, 381, 382, 383, 384, 385, 386, 387, 388, 389, 390, 391, 392, 393, 394, 395, 396, 397, 398, 399, 400, 810, 811, 812, 813, 814, 815, 816, 817, 818, 819, 851, 852, 853, 854, 855, 856, 857, 838, 839, 840, 841, 842, 843, 858, 859, 860, 861, 862, 863, 864, 865, 866, 867, 868, 869, 870, 871, 844, 845, 846, 847, 848, 849] (by decide +kernel) (by decide +kernel)
set_option maxRecDepth 20000 in
theorem gL_law_X6_carryOut : GoodIn wsL_law (wsV RL 92 RX6 yX6_carryOut wsX6_carryOut) := goodIn_app (goodIn_of _ (by decide +kernel)) ggL_law_X6_carryOut
set_option maxRecDepth 20000 in
theorem ggL_law_X7_carryOut : GoodIn wsL_law wsX7_carryOut := goodIn_r _ [775, 214, 742, 561, 737, 738, 739, 5, 740, 741, 743, 744, 745, 746, 747, 168, 748, 749, 750, 751, 162, 752, 753, 754, 755, 207, 208, 209, 756, 757, 758, 759, 210, 211, 212, 213, 215, 159, 157, 776, 777, 778, 779, 780, 314, 315, 316, 273, 274, 275, 276, 238, 239, 240, 241, 317, 318, 319, 320, 163, 321, 322, 323, 324, 165, 164, 325, 326, 327, 328, 329, 330, 331, 332, 277, 278, 279, 280, 281, 282, 283, 284, 333, 334, 335, 336, 337, 338, 339, 340, 341, 342, 343, 344, 781, 270, 271, 272, 216, 217, 218, 219, 782, 402, 403, 404, 405, 406, 407, 408, 409, 410, 411, 412, 413, 414, 415, 416, 417, 418, 419, 420, 421, 422, 423, 424, 166, 425, 426, 427, 428, 429, 430, 431, 432, 433, 434, 435, 436, 820, 821, 822, 823, 824, 825, 826, 827, 828, 829, 830, 831, 832, 833, 834, 835, 836, 837] (by decide +kernel) (by decide +kernel)
set_option maxRecDepth 20000 in
theorem gL_law_X7_carryOut : GoodIn wsL_law (wsV RL 95 RX7 yX7_carryOut wsX7_carryOut) := goodIn_app (goodIn_of _ (by decide +kernel)) ggL_law_X7_carryOut
set_option maxRecDepth 20000 in
theorem ggL_law_X6_undo : GoodIn wsL_law wsX6_undo := goodIn_r _ [786, 32, 31, 16, 187, 188, 15, 189, 40, 190, 191, 192, 193, 44, 48, 49, 50, 51, 194, 195, 196, 43, 197, 55, 56, 57, 198, 199, 200, 47, 201, 61, 62, 202, 63, 64, 65, 66, 67, 68, 69, 70, 71, 96, 97, 98, 2, 99, 20, 100, 101, 102, 103, 104, 19, 105, 75, 76, 106, 107, 108, 109, 110, 111, 112, 113, 114, 115, 116, 117, 118, 119, 120, 121, 122, 123, 124, 125, 126, 127, 128, 129, 130, 77, 78, 80, 79, 131, 132, 133, 134, 135, 136, 137, 138, 139, 140, 141, 142, 143, 144, 145, 146, 147, 148, 149, 150, 151, 152, 810, 811, 812, 813, 814, 815, 816, 817, 818, 819, 838, 839, 840, 841, 842, 843, 858, 859, 860, 861, 862, 863, 864, 865, 866, 867, 868, 869, 870, 871, 844, 845, 846, 847, 848, 849] (by decide +kernel) (by decide +kernel)
set_option maxRecDepth 20000 in
theorem gL_law_X6_undo : GoodIn wsL_law (wsV RL 96 RX6 yX6_undo wsX6_undo) := goodIn_app (goodIn_of _ (by decide +kernel)) ggL_law_X6_undo
set_option maxRecDepth 20000 in
theorem ggL_law_X7_undo : GoodIn wsL_law wsX7_undo := goodIn_r _ [790, 215, 157, 159, 216, 217, 218, 5, 219, 165, 820, 821, 822, 823, 824, 825, 826, 827, 828, 829, 830, 831, 832, 833, 834, 835, 836, 837] (by decide +kernel) (by decide +kernel)
set_option maxRecDepth 20000 in
theorem gL_law_X7_undo : GoodIn wsL_law (wsV RL 99 RX7 yX7_undo wsX7_undo) := goodIn_app (goodIn_of _ (by decide +kernel)) ggL_law_X7_undo
set_option maxRecDepth 20000 in
theorem ggL_law_X6_save : GoodIn wsL_law wsX6_save := goodIn_r _ [794, 16, 33, 35, 289, 795, 796, 2, 797, 187, 188, 15, 189, 40, 190, 191, 192, 193, 44, 48, 49, 50, 51, 194, 195, 196, 43, 197, 55, 56, 57, 198, 199, 200, 47, 201, 61, 62, 202, 63, 64, 65, 66, 67, 68, 69, 70, 71, 810, 811, 812, 813, 814, 815, 816, 817, 818, 819, 838, 839, 840, 841, 842, 843, 858, 859, 860, 861, 862, 863, 864, 865, 866, 867, 868, 869, 870, 871] (by decide +kernel) (by decide +kernel)
set_option maxRecDepth 20000 in
theorem gL_law_X6_save : GoodIn wsL_law (wsV RL 100 RX6 yX6_save wsX6_save) := goodIn_app (goodIn_of _ (by decide +kernel)) ggL_law_X6_save
set_option maxRecDepth 20000 in
theorem ggL_law_X7_save : GoodIn wsL_law wsX7_save := goodIn_r _ [801, 160, 157, 161, 207, 208, 5, 209, 820, 821, 822, 823, 824, 825, 826, 827, 828, 829, 830, 831, 832, 833, 834, 835, 836, 837] (by decide +kernel) (by decide +kernel)
set_option maxRecDepth 20000 in
theorem gL_law_X7_save : GoodIn wsL_law (wsV RL 103 RX7 yX7_save wsX7_save) := goodIn_app (goodIn_of _ (by decide +kernel)) ggL_law_X7_save
set_option maxRecDepth 20000 in
theorem ggL_law_X6_restore : GoodIn wsL_law wsX6_restore := goodIn_r _ [805, 35, 33, 16, 289, 795, 796, 2, 797, 179, 180, 181, 182, 32, 31, 183, 184, 185, 186, 187, 188, 15, 189, 40, 190, 191, 192, 193, 44, 48, 49, 50, 51, 194, 195, 196, 43, 197, 55, 56, 57, 198, 199, 200, 47, 201, 61, 62, 202, 63, 64, 65, 66, 67, 68, 69, 70, 71, 96, 97, 98, 99, 20, 100, 101, 102, 103, 104, 19, 105, 75, 76, 106, 107, 108, 109, 110, 111, 112, 113, 114, 115, 116, 117, 118, 119, 120, 121, 122, 123, 124, 125, 126, 127, 128, 129, 130, 77, 78, 80, 79, 131, 132, 133, 134, 135, 136, 137, 138, 139, 140, 141, 142, 143, 144, 145, 146, 147, 148, 149, 150, 151, 152, 810, 811, 812, 813, 814, 815, 816, 817, 818, 819, 838, 839, 840, 841, 842, 843, 858, 859, 860, 861, 862, 863, 864, 865, 866, 867, 868, 869, 870, 871, 844, 845, 846, 847, 848, 849] (by decide +kernel) (by decide +kernel)
set_option maxRecDepth 20000 in
theorem gL_law_X6_restore : GoodIn wsL_law (wsV RL 104 RX6 yX6_restore wsX6_restore) := goodIn_app (goodIn_of _ (by decide +kernel)) ggL_law_X6_restore
set_option maxRecDepth 20000 in
theorem ggL_law_X7_restore : GoodIn wsL_law wsX7_restore := goodIn_r _ [809, 161, 157, 160, 207, 208, 5, 209, 210, 211, 212, 213, 214, 215, 159, 216, 217, 218, 219, 165, 820, 821, 822, 823, 824, 825, 826, 827, 828, 829, 830, 831, 832, 833, 834, 835, 836, 837] (by decide +kernel) (by decide +kernel)
set_option maxRecDepth 20000 in
theorem gL_law_X7_restore : GoodIn wsL_law (wsV RL 107 RX7 yX7_restore wsX7_restore) := goodIn_app (goodIn_of _ (by decide +kernel)) ggL_law_X7_restore
theorem dL_law_0 : decode cL_law 0 = .ok (.new 7, 3) := by decide +kernel
theorem dL_law_3 : decode cL_law 3 = .ok (.dup, 1) := by decide +kernel
theorem dL_law_4 : decode cL_law 4 = .ok (.invokespecial 9, 3) := by decide +kernel
theorem dL_law_7 : decode cL_law 7 = .ok (.astore_n 1, 1) := by decide +kernel
theorem dL_law_8 : decode cL_law 8 = .ok (.new 10, 3) := by decide +kernel
theorem dL_law_11 : decode cL_law 11 = .ok (.dup, 1) := by decide +kernel
theorem dL_law_12 : decode cL_law 12 = .ok (.invokespecial 12, 3) := by decide +kernel
theorem dL_law_15 : decode cL_law 15 = .ok (.astore_n 2, 1) := by decide +kernel
theorem dL_law_16 : decode cL_law 16 = .ok (.iconst 0, 1) := by decide +kernel
theorem dL_law_17 : decode cL_law 17 = .ok (.istore_n 3, 1) := by decide +kernel
theorem dL_law_18 : decode cL_law 18 = .ok (.iload_n 3, 1) := by decide +kernel
theorem dL_law_19 : decode cL_law 19 = .ok (.aload_n 0, 1) := by decide +kernel
theorem dL_law_20 : decode cL_law 20 = .ok (.arraylength, 1) := by decide +kernel
theorem dL_law_21 : decode cL_law 21 = .ok (.iconst 4, 1) := by decide +kernel
theorem dL_law_22 : decode cL_law 22 = .ok (.isub, 1) := by decide +kernel
theorem dL_law_23 : decode cL_law 23 = .ok (.if_icmp .gt 695, 3) := by decide +kernel
theorem dL_law_26 : decode cL_law 26 = .ok (.aload_n 0, 1) := by decide +kernel
theorem dL_law_27 : decode cL_law 27 = .ok (.iload_n 3, 1) := by decide +kernel
theorem dL_law_28 : decode cL_law 28 = .ok (.iaload, 1) := by decide +kernel
theorem dL_law_29 : decode cL_law 29 = .ok (.bipush 31, 2) := by decide +kernel
theorem dL_law_31 : decode cL_law 31 = .ok (.iand, 1) := by decide +kernel
theorem dL_law_32 : decode cL_law 32 = .ok (.tableswitch 680 0 21 #[104, 137, 170, 213, 246, 269, 302, 335, 358, 391, 424, 437, 460, 483, 506, 529, 582, 595, 608, 621, 634, 657], 104) := by decide +kernel
theorem dL_law_136 : decode cL_law 136 = .ok (.aload_n 1, 1) := by decide +kernel
theorem dL_law_137 : decode cL_law 137 = .ok (.aload_n 0, 1) := by decide +kernel
theorem dL_law_138 : decode cL_law 138 = .ok (.iload_n 3, 1) := by decide +kernel
theorem dL_law_139 : decode cL_law 139 = .ok (.iconst 1, 1) := by decide +kernel
theorem dL_law_140 : decode cL_law 140 = .ok (.iadd, 1) := by decide +kernel
theorem dL_law_141 : decode cL_law 141 = .ok (.iaload, 1) := by decide +kernel
theorem dL_law_142 : decode cL_law 142 = .ok (.aload_n 0, 1) := by decide +kernel
theorem dL_law_143 : decode cL_law 143 = .ok (.iload_n 3, 1) := by decide +kernel
theorem dL_law_144 : decode cL_law 144 = .ok (.iconst 2, 1) := by decide +kernel
theorem dL_law_145 : decode cL_law 145 = .ok (.iadd, 1) := by decide +kernel
theorem dL_law_146 : decode cL_law 146 = .ok (.iaload, 1) := by decide +kernel
theorem dL_law_147 : decode cL_law 147 = .ok (.invokevirtual 13, 3) := by decide +kernel
theorem dL_law_150 : decode cL_law 150 = .ok (.aload_n 2, 1) := by decide +kernel
theorem dL_law_151 : decode cL_law 151 = .ok (.aload_n 0, 1) := by decide +kernel
theorem dL_law_152 : decode cL_law 152 = .ok (.iload_n 3, 1) := by decide +kernel
theorem dL_law_153 : decode cL_law 153 = .ok (.iconst 1, 1) := by decide +kernel
theorem dL_law_154 : decode cL_law 154 = .ok (.iadd, 1) := by decide +kernel
theorem dL_law_155 : decode cL_law 155 = .ok (.iaload, 1) := by decide +kernel
theorem dL_law_156 : decode cL_law 156 = .ok (.aload_n 0, 1) := by decide +kernel
theorem dL_law_157 : decode cL_law 157 = .ok (.iload_n 3, 1) := by decide +kernel
theorem dL_law_158 : decode cL_law 158 = .ok (.iconst 2, 1) := by decide +kernel
theorem dL_law_159 : decode cL_law 159 = .ok (.iadd, 1) := by decide +kernel
theorem dL_law_160 : decode cL_law 160 = .ok (.iaload, 1) := by decide +kernel
theorem dL_law_161 : decode cL_law 161 = .ok (.invokevirtual 17, 3) := by decide +kernel
theorem dL_law_164 : decode cL_law 164 = .ok (.if_icmp .eq 548, 3) := by decide +kernel
theorem dL_law_167 : decode cL_law 167 = .ok (.iconst 0, 1) := by decide +kernel
theorem dL_law_168 : decode cL_law 168 = .ok (.ireturn, 1) := by decide +kernel
theorem dL_law_169 : decode cL_law 169 = .ok (.aload_n 1, 1) := by decide +kernel
theorem dL_law_170 : decode cL_law 170 = .ok (.aload_n 0, 1) := by decide +kernel
theorem dL_law_171 : decode cL_law 171 = .ok (.iload_n 3, 1) := by decide +kernel
theorem dL_law_172 : decode cL_law 172 = .ok (.iconst 1, 1) := by decide +kernel
theorem dL_law_173 : decode cL_law 173 = .ok (.iadd, 1) := by decide +kernel
theorem dL_law_174 : decode cL_law 174 = .ok (.iaload, 1) := by decide +kernel
theorem dL_law_175 : decode cL_law 175 = .ok (.aload_n 0, 1) := by decide +kernel
theorem dL_law_176 : decode cL_law 176 = .ok (.iload_n 3, 1) := by decide +kernel
theorem dL_law_177 : decode cL_law 177 = .ok (.iconst 2, 1) := by decide +kernel
theorem dL_law_178 : decode cL_law 178 = .ok (.iadd, 1) := by decide +kernel
theorem dL_law_179 : decode cL_law 179 = .ok (.iaload, 1) := by decide +kernel
theorem dL_law_180 : decode cL_law 180 = .ok (.invokevirtual 18, 3) := by decide +kernel
theorem dL_law_183 : decode cL_law 183 = .ok (.aload_n 2, 1) := by decide +kernel
theorem dL_law_184 : decode cL_law 184 = .ok (.aload_n 0, 1) := by decide +kernel
theorem dL_law_185 : decode cL_law 185 = .ok (.iload_n 3, 1) := by decide +kernel
theorem dL_law_186 : decode cL_law 186 = .ok (.iconst 1, 1) := by decide +kernel
theorem dL_law_187 : decode cL_law 187 = .ok (.iadd, 1) := by decide +kernel
theorem dL_law_188 : decode cL_law 188 = .ok (.iaload, 1) := by decide +kernel
theorem dL_law_189 : decode cL_law 189 = .ok (.aload_n 0, 1) := by decide +kernel
theorem dL_law_190 : decode cL_law 190 = .ok (.iload_n 3, 1) := by decide +kernel
theorem dL_law_191 : decode cL_law 191 = .ok (.iconst 2, 1) := by decide +kernel
theorem dL_law_192 : decode cL_law 192 = .ok (.iadd, 1) := by decide +kernel
theorem dL_law_193 : decode cL_law 193 = .ok (.iaload, 1) := by decide +kernel
theorem dL_law_194 : decode cL_law 194 = .ok (.invokevirtual 21, 3) := by decide +kernel
theorem dL_law_197 : decode cL_law 197 = .ok (.if_icmp .eq 515, 3) := by decide +kernel
theorem dL_law_200 : decode cL_law 200 = .ok (.iconst 0, 1) := by decide +kernel
theorem dL_law_201 : decode cL_law 201 = .ok (.ireturn, 1) := by decide +kernel
theorem dL_law_202 : decode cL_law 202 = .ok (.aload_n 1, 1) := by decide +kernel
theorem dL_law_203 : decode cL_law 203 = .ok (.aload_n 0, 1) := by decide +kernel
theorem dL_law_204 : decode cL_law 204 = .ok (.iload_n 3, 1) := by decide +kernel
theorem dL_law_205 : decode cL_law 205 = .ok (.iconst 1, 1) := by decide +kernel
theorem dL_law_206 : decode cL_law 206 = .ok (.iadd, 1) := by decide +kernel
theorem dL_law_207 : decode cL_law 207 = .ok (.iaload, 1) := by decide +kernel
theorem dL_law_208 : decode cL_law 208 = .ok (.aload_n 0, 1) := by decide +kernel
theorem dL_law_209 : decode cL_law 209 = .ok (.iload_n 3, 1) := by decide +kernel
theorem dL_law_210 : decode cL_law 210 = .ok (.iconst 2, 1) := by decide +kernel
theorem dL_law_211 : decode cL_law 211 = .ok (.iadd, 1) := by decide +kernel
theorem dL_law_212 : decode cL_law 212 = .ok (.iaload, 1) := by decide +kernel
theorem dL_law_213 : decode cL_law 213 = .ok (.aload_n 0, 1) := by decide +kernel
theorem dL_law_214 : decode cL_law 214 = .ok (.iload_n 3, 1) := by decide +kernel
theorem dL_law_215 : decode cL_law 215 = .ok (.iconst 3, 1) := by decide +kernel
theorem dL_law_216 : decode cL_law 216 = .ok (.iadd, 1) := by decide +kernel
theorem dL_law_217 : decode cL_law 217 = .ok (.iaload, 1) := by decide +kernel
theorem dL_law_218 : decode cL_law 218 = .ok (.invokevirtual 22, 3) := by decide +kernel
theorem dL_law_221 : decode cL_law 221 = .ok (.aload_n 2, 1) := by decide +kernel
theorem dL_law_222 : decode cL_law 222 = .ok (.aload_n 0, 1) := by decide +kernel
theorem dL_law_223 : decode cL_law 223 = .ok (.iload_n 3, 1) := by decide +kernel
theorem dL_law_224 : decode cL_law 224 = .ok (.iconst 1, 1) := by decide +kernel
theorem dL_law_225 : decode cL_law 225 = .ok (.iadd, 1) := by decide +kernel
theorem dL_law_226 : decode cL_law 226 = .ok (.iaload, 1) := by decide +kernel
theorem dL_law_227 : decode cL_law 227 = .ok (.aload_n 0, 1) := by decide +kernel
theorem dL_law_228 : decode cL_law 228 = .ok (.iload_n 3, 1) := by decide +kernel
theorem dL_law_229 : decode cL_law 229 = .ok (.iconst 2, 1) := by decide +kernel
theorem dL_law_230 : decode cL_law 230 = .ok (.iadd, 1) := by decide +kernel
theorem dL_law_231 : decode cL_law 231 = .ok (.iaload, 1) := by decide +kernel
theorem dL_law_232 : decode cL_law 232 = .ok (.aload_n 0, 1) := by decide +kernel
theorem dL_law_233 : decode cL_law 233 = .ok (.iload_n 3, 1) := by decide +kernel
theorem dL_law_234 : decode cL_law 234 = .ok (.iconst 3, 1) := by decide +kernel
theorem dL_law_235 : decode cL_law 235 = .ok (.iadd, 1) := by decide +kernel
theorem dL_law_236 : decode cL_law 236 = .ok (.iaload, 1) := by decide +kernel
theorem dL_law_237 : decode cL_law 237 = .ok (.invokevirtual 26, 3) := by decide +kernel
theorem dL_law_240 : decode cL_law 240 = .ok (.if_icmp .eq 472, 3) := by decide +kernel
theorem dL_law_243 : decode cL_law 243 = .ok (.iconst 0, 1) := by decide +kernel
theorem dL_law_244 : decode cL_law 244 = .ok (.ireturn, 1) := by decide +kernel
theorem dL_law_245 : decode cL_law 245 = .ok (.aload_n 1, 1) := by decide +kernel
theorem dL_law_246 : decode cL_law 246 = .ok (.aload_n 0, 1) := by decide +kernel
theorem dL_law_247 : decode cL_law 247 = .ok (.iload_n 3, 1) := by decide +kernel
theorem dL_law_248 : decode cL_law 248 = .ok (.iconst 1, 1) := by decide +kernel
theorem dL_law_249 : decode cL_law 249 = .ok (.iadd, 1) := by decide +kernel
theorem dL_law_250 : decode cL_law 250 = .ok (.iaload, 1) := by decide +kernel
theorem dL_law_251 : decode cL_law 251 = .ok (.aload_n 0, 1) := by decide +kernel
theorem dL_law_252 : decode cL_law 252 = .ok (.iload_n 3, 1) := by decide +kernel
theorem dL_law_253 : decode cL_law 253 = .ok (.iconst 2, 1) := by decide +kernel
theorem dL_law_254 : decode cL_law 254 = .ok (.iadd, 1) := by decide +kernel
theorem dL_law_255 : decode cL_law 255 = .ok (.iaload, 1) := by decide +kernel
theorem dL_law_256 : decode cL_law 256 = .ok (.invokevirtual 27, 3) := by decide +kernel
theorem dL_law_259 : decode cL_law 259 = .ok (.aload_n 2, 1) := by decide +kernel
theorem dL_law_260 : decode cL_law 260 = .ok (.aload_n 0, 1) := by decide +kernel
theorem dL_law_261 : decode cL_law 261 = .ok (.iload_n 3, 1) := by decide +kernel
theorem dL_law_262 : decode cL_law 262 = .ok (.iconst 1, 1) := by decide +kernel
theorem dL_law_263 : decode cL_law 263 = .ok (.iadd, 1) := by decide +kernel
theorem dL_law_264 : decode cL_law 264 = .ok (.iaload, 1) := by decide +kernel
theorem dL_law_265 : decode cL_law 265 = .ok (.aload_n 0, 1) := by decide +kernel
theorem dL_law_266 : decode cL_law 266 = .ok (.iload_n 3, 1) := by decide +kernel
theorem dL_law_267 : decode cL_law 267 = .ok (.iconst 2, 1) := by decide +kernel
theorem dL_law_268 : decode cL_law 268 = .ok (.iadd, 1) := by decide +kernel
theorem dL_law_269 : decode cL_law 269 = .ok (.iaload, 1) := by decide +kernel
theorem dL_law_270 : decode cL_law 270 = .ok (.invokevirtual 30, 3) := by decide +kernel
theorem dL_law_273 : decode cL_law 273 = .ok (.if_icmp .eq 439, 3) := by decide +kernel
theorem dL_law_276 : decode cL_law 276 = .ok (.iconst 0, 1) := by decide +kernel
theorem dL_law_277 : decode cL_law 277 = .ok (.ireturn, 1) := by decide +kernel
theorem dL_law_278 : decode cL_law 278 = .ok (.aload_n 1, 1) := by decide +kernel
theorem dL_law_279 : decode cL_law 279 = .ok (.aload_n 0, 1) := by decide +kernel
theorem dL_law_280 : decode cL_law 280 = .ok (.iload_n 3, 1) := by decide +kernel
theorem dL_law_281 : decode cL_law 281 = .ok (.iconst 1, 1) := by decide +kernel
theorem dL_law_282 : decode cL_law 282 = .ok (.iadd, 1) := by decide +kernel
theorem dL_law_283 : decode cL_law 283 = .ok (.iaload, 1) := by decide +kernel
theorem dL_law_284 : decode cL_law 284 = .ok (.invokevirtual 31, 3) := by decide +kernel
theorem dL_law_287 : decode cL_law 287 = .ok (.aload_n 2, 1) := by decide +kernel
theorem dL_law_288 : decode cL_law 288 = .ok (.aload_n 0, 1) := by decide +kernel
theorem dL_law_289 : decode cL_law 289 = .ok (.iload_n 3, 1) := by decide +kernel
theorem dL_law_290 : decode cL_law 290 = .ok (.iconst 1, 1) := by decide +kernel
theorem dL_law_291 : decode cL_law 291 = .ok (.iadd, 1) := by decide +kernel
theorem dL_law_292 : decode cL_law 292 = .ok (.iaload, 1) := by decide +kernel
theorem dL_law_293 : decode cL_law 293 = .ok (.invokevirtual 35, 3) := by decide +kernel
theorem dL_law_296 : decode cL_law 296 = .ok (.if_icmp .eq 416, 3) := by decide +kernel
theorem dL_law_299 : decode cL_law 299 = .ok (.iconst 0, 1) := by decide +kernel
theorem dL_law_300 : decode cL_law 300 = .ok (.ireturn, 1) := by decide +kernel
theorem dL_law_301 : decode cL_law 301 = .ok (.aload_n 1, 1) := by decide +kernel
theorem dL_law_302 : decode cL_law 302 = .ok (.aload_n 0, 1) := by decide +kernel
theorem dL_law_303 : decode cL_law 303 = .ok (.iload_n 3, 1) := by decide +kernel
theorem dL_law_304 : decode cL_law 304 = .ok (.iconst 1, 1) := by decide +kernel
theorem dL_law_305 : decode cL_law 305 = .ok (.iadd, 1) := by decide +kernel
theorem dL_law_306 : decode cL_law 306 = .ok (.iaload, 1) := by decide +kernel
theorem dL_law_307 : decode cL_law 307 = .ok (.aload_n 0, 1) := by decide +kernel
theorem dL_law_308 : decode cL_law 308 = .ok (.iload_n 3, 1) := by decide +kernel
theorem dL_law_309 : decode cL_law 309 = .ok (.iconst 2, 1) := by decide +kernel
theorem dL_law_310 : decode cL_law 310 = .ok (.iadd, 1) := by decide +kernel
theorem dL_law_311 : decode cL_law 311 = .ok (.iaload, 1) := by decide +kernel
theorem dL_law_312 : decode cL_law 312 = .ok (.invokevirtual 36, 3) := by decide +kernel
theorem dL_law_315 : decode cL_law 315 = .ok (.aload_n 2, 1) := by decide +kernel
theorem dL_law_316 : decode cL_law 316 = .ok (.aload_n 0, 1) := by decide +kernel
theorem dL_law_317 : decode cL_law 317 = .ok (.iload_n 3, 1) := by decide +kernel
theorem dL_law_318 : decode cL_law 318 = .ok (.iconst 1, 1) := by decide +kernel
theorem dL_law_319 : decode cL_law 319 = .ok (.iadd, 1) := by decide +kernel
theorem dL_law_320 : decode cL_law 320 = .ok (.iaload, 1) := by decide +kernel
theorem dL_law_321 : decode cL_law 321 = .ok (.aload_n 0, 1) := by decide +kernel
theorem dL_law_322 : decode cL_law 322 = .ok (.iload_n 3, 1) := by decide +kernel
theorem dL_law_323 : decode cL_law 323 = .ok (.iconst 2, 1) := by decide +kernel
theorem dL_law_324 : decode cL_law 324 = .ok (.iadd, 1) := by decide +kernel
theorem dL_law_325 : decode cL_law 325 = .ok (.iaload, 1) := by decide +kernel
theorem dL_law_326 : decode cL_law 326 = .ok (.invokevirtual 39, 3) := by decide +kernel
theorem dL_law_329 : decode cL_law 329 = .ok (.if_icmp .eq 383, 3) := by decide +kernel
theorem dL_law_332 : decode cL_law 332 = .ok (.iconst 0, 1) := by decide +kernel
theorem dL_law_333 : decode cL_law 333 = .ok (.ireturn, 1) := by decide +kernel
theorem dL_law_334 : decode cL_law 334 = .ok (.aload_n 1, 1) := by decide +kernel
theorem dL_law_335 : decode cL_law 335 = .ok (.aload_n 0, 1) := by decide +kernel
theorem dL_law_336 : decode cL_law 336 = .ok (.iload_n 3, 1) := by decide +kernel
theorem dL_law_337 : decode cL_law 337 = .ok (.iconst 1, 1) := by decide +kernel
theorem dL_law_338 : decode cL_law 338 = .ok (.iadd, 1) := by decide +kernel
theorem dL_law_339 : decode cL_law 339 = .ok (.iaload, 1) := by decide +kernel
theorem dL_law_340 : decode cL_law 340 = .ok (.aload_n 0, 1) := by decide +kernel
theorem dL_law_341 : decode cL_law 341 = .ok (.iload_n 3, 1) := by decide +kernel
theorem dL_law_342 : decode cL_law 342 = .ok (.iconst 2, 1) := by decide +kernel
theorem dL_law_343 : decode cL_law 343 = .ok (.iadd, 1) := by decide +kernel
theorem dL_law_344 : decode cL_law 344 = .ok (.iaload, 1) := by decide +kernel
theorem dL_law_345 : decode cL_law 345 = .ok (.invokevirtual 40, 3) := by decide +kernel
theorem dL_law_348 : decode cL_law 348 = .ok (.aload_n 2, 1) := by decide +kernel
theorem dL_law_349 : decode cL_law 349 = .ok (.aload_n 0, 1) := by decide +kernel
theorem dL_law_350 : decode cL_law 350 = .ok (.iload_n 3, 1) := by decide +kernel
theorem dL_law_351 : decode cL_law 351 = .ok (.iconst 1, 1) := by decide +kernel
theorem dL_law_352 : decode cL_law 352 = .ok (.iadd, 1) := by decide +kernel
theorem dL_law_353 : decode cL_law 353 = .ok (.iaload, 1) := by decide +kernel
theorem dL_law_354 : decode cL_law 354 = .ok (.aload_n 0, 1) := by decide +kernel
theorem dL_law_355 : decode cL_law 355 = .ok (.iload_n 3, 1) := by decide +kernel
theorem dL_law_356 : decode cL_law 356 = .ok (.iconst 2, 1) := by decide +kernel
theorem dL_law_357 : decode cL_law 357 = .ok (.iadd, 1) := by decide +kernel
theorem dL_law_358 : decode cL_law 358 = .ok (.iaload, 1) := by decide +kernel
theorem dL_law_359 : decode cL_law 359 = .ok (.invokevirtual 43, 3) := by decide +kernel
theorem dL_law_362 : decode cL_law 362 = .ok (.if_icmp .eq 350, 3) := by decide +kernel
theorem dL_law_365 : decode cL_law 365 = .ok (.iconst 0, 1) := by decide +kernel
theorem dL_law_366 : decode cL_law 366 = .ok (.ireturn, 1) := by decide +kernel
theorem dL_law_367 : decode cL_law 367 = .ok (.aload_n 1, 1) := by decide +kernel
theorem dL_law_368 : decode cL_law 368 = .ok (.aload_n 0, 1) := by decide +kernel
theorem dL_law_369 : decode cL_law 369 = .ok (.iload_n 3, 1) := by decide +kernel
theorem dL_law_370 : decode cL_law 370 = .ok (.iconst 1, 1) := by decide +kernel
theorem dL_law_371 : decode cL_law 371 = .ok (.iadd, 1) := by decide +kernel
theorem dL_law_372 : decode cL_law 372 = .ok (.iaload, 1) := by decide +kernel
theorem dL_law_373 : decode cL_law 373 = .ok (.invokevirtual 44, 3) := by decide +kernel
theorem dL_law_376 : decode cL_law 376 = .ok (.aload_n 2, 1) := by decide +kernel
theorem dL_law_377 : decode cL_law 377 = .ok (.aload_n 0, 1) := by decide +kernel
theorem dL_law_378 : decode cL_law 378 = .ok (.iload_n 3, 1) := by decide +kernel
theorem dL_law_379 : decode cL_law 379 = .ok (.iconst 1, 1) := by decide +kernel
theorem dL_law_380 : decode cL_law 380 = .ok (.iadd, 1) := by decide +kernel
theorem dL_law_381 : decode cL_law 381 = .ok (.iaload, 1) := by decide +kernel
theorem dL_law_382 : decode cL_law 382 = .ok (.invokevirtual 47, 3) := by decide +kernel
theorem dL_law_385 : decode cL_law 385 = .ok (.if_icmp .eq 327, 3) := by decide +kernel
theorem dL_law_388 : decode cL_law 388 = .ok (.iconst 0, 1) := by decide +kernel
theorem dL_law_389 : decode cL_law 389 = .ok (.ireturn, 1) := by decide +kernel
theorem dL_law_390 : decode cL_law 390 = .ok (.aload_n 1, 1) := by decide +kernel
theorem dL_law_391 : decode cL_law 391 = .ok (.aload_n 0, 1) := by decide +kernel
theorem dL_law_392 : decode cL_law 392 = .ok (.iload_n 3, 1) := by decide +kernel
theorem dL_law_393 : decode cL_law 393 = .ok (.iconst 1, 1) := by decide +kernel
theorem dL_law_394 : decode cL_law 394 = .ok (.iadd, 1) := by decide +kernel
theorem dL_law_395 : decode cL_law 395 = .ok (.iaload, 1) := by decide +kernel
theorem dL_law_396 : decode cL_law 396 = .ok (.aload_n 0, 1) := by decide +kernel
theorem dL_law_397 : decode cL_law 397 = .ok (.iload_n 3, 1) := by decide +kernel
theorem dL_law_398 : decode cL_law 398 = .ok (.iconst 2, 1) := by decide +kernel
theorem dL_law_399 : decode cL_law 399 = .ok (.iadd, 1) := by decide +kernel
theorem dL_law_400 : decode cL_law 400 = .ok (.iaload, 1) := by decide +kernel
theorem dL_law_401 : decode cL_law 401 = .ok (.invokevirtual 48, 3) := by decide +kernel
theorem dL_law_404 : decode cL_law 404 = .ok (.aload_n 2, 1) := by decide +kernel
theorem dL_law_405 : decode cL_law 405 = .ok (.aload_n 0, 1) := by decide +kernel
theorem dL_law_406 : decode cL_law 406 = .ok (.iload_n 3, 1) := by decide +kernel
theorem dL_law_407 : decode cL_law 407 = .ok (.iconst 1, 1) := by decide +kernel
theorem dL_law_408 : decode cL_law 408 = .ok (.iadd, 1) := by decide +kernel
theorem dL_law_409 : decode cL_law 409 = .ok (.iaload, 1) := by decide +kernel
theorem dL_law_410 : decode cL_law 410 = .ok (.aload_n 0, 1) := by decide +kernel
theorem dL_law_411 : decode cL_law 411 = .ok (.iload_n 3, 1) := by decide +kernel
theorem dL_law_412 : decode cL_law 412 = .ok (.iconst 2, 1) := by decide +kernel
theorem dL_law_413 : decode cL_law 413 = .ok (.iadd, 1) := by decide +kernel
theorem dL_law_414 : decode cL_law 414 = .ok (.iaload, 1) := by decide +kernel
theorem dL_law_415 : decode cL_law 415 = .ok (.invokevirtual 51, 3) := by decide +kernel
theorem dL_law_418 : decode cL_law 418 = .ok (.if_icmp .eq 294, 3) := by decide +kernel
theorem dL_law_421 : decode cL_law 421 = .ok (.iconst 0, 1) := by decide +kernel
theorem dL_law_422 : decode cL_law 422 = .ok (.ireturn, 1) := by decide +kernel
theorem dL_law_423 : decode cL_law 423 = .ok (.aload_n 1, 1) := by decide +kernel
theorem dL_law_424 : decode cL_law 424 = .ok (.aload_n 0, 1) := by decide +kernel
theorem dL_law_425 : decode cL_law 425 = .ok (.iload_n 3, 1) := by decide +kernel
theorem dL_law_426 : decode cL_law 426 = .ok (.iconst 1, 1) := by decide +kernel
theorem dL_law_427 : decode cL_law 427 = .ok (.iadd, 1) := by decide +kernel
theorem dL_law_428 : decode cL_law 428 = .ok (.iaload, 1) := by decide +kernel
theorem dL_law_429 : decode cL_law 429 = .ok (.aload_n 0, 1) := by decide +kernel
theorem dL_law_430 : decode cL_law 430 = .ok (.iload_n 3, 1) := by decide +kernel
theorem dL_law_431 : decode cL_law 431 = .ok (.iconst 2, 1) := by decide +kernel
theorem dL_law_432 : decode cL_law 432 = .ok (.iadd, 1) := by decide +kernel
theorem dL_law_433 : decode cL_law 433 = .ok (.iaload, 1) := by decide +kernel
theorem dL_law_434 : decode cL_law 434 = .ok (.invokevirtual 52, 3) := by decide +kernel
theorem dL_law_437 : decode cL_law 437 = .ok (.aload_n 2, 1) := by decide +kernel
theorem dL_law_438 : decode cL_law 438 = .ok (.aload_n 0, 1) := by decide +kernel
theorem dL_law_439 : decode cL_law 439 = .ok (.iload_n 3, 1) := by decide +kernel
theorem dL_law_440 : decode cL_law 440 = .ok (.iconst 1, 1) := by decide +kernel
theorem dL_law_441 : decode cL_law 441 = .ok (.iadd, 1) := by decide +kernel
theorem dL_law_442 : decode cL_law 442 = .ok (.iaload, 1) := by decide +kernel
theorem dL_law_443 : decode cL_law 443 = .ok (.aload_n 0, 1) := by decide +kernel
theorem dL_law_444 : decode cL_law 444 = .ok (.iload_n 3, 1) := by decide +kernel
theorem dL_law_445 : decode cL_law 445 = .ok (.iconst 2, 1) := by decide +kernel
theorem dL_law_446 : decode cL_law 446 = .ok (.iadd, 1) := by decide +kernel
theorem dL_law_447 : decode cL_law 447 = .ok (.iaload, 1) := by decide +kernel
theorem dL_law_448 : decode cL_law 448 = .ok (.invokevirtual 55, 3) := by decide +kernel
theorem dL_law_451 : decode cL_law 451 = .ok (.if_icmp .eq 261, 3) := by decide +kernel
theorem dL_law_454 : decode cL_law 454 = .ok (.iconst 0, 1) := by decide +kernel
theorem dL_law_455 : decode cL_law 455 = .ok (.ireturn, 1) := by decide +kernel
theorem dL_law_456 : decode cL_law 456 = .ok (.aload_n 1, 1) := by decide +kernel
theorem dL_law_457 : decode cL_law 457 = .ok (.invokevirtual 56, 3) := by decide +kernel
theorem dL_law_460 : decode cL_law 460 = .ok (.aload_n 2, 1) := by decide +kernel
theorem dL_law_461 : decode cL_law 461 = .ok (.invokevirtual 60, 3) := by decide +kernel
theorem dL_law_464 : decode cL_law 464 = .ok (.if_icmp .eq 248, 3) := by decide +kernel
theorem dL_law_467 : decode cL_law 467 = .ok (.iconst 0, 1) := by decide +kernel
theorem dL_law_468 : decode cL_law 468 = .ok (.ireturn, 1) := by decide +kernel
theorem dL_law_469 : decode cL_law 469 = .ok (.aload_n 1, 1) := by decide +kernel
theorem dL_law_470 : decode cL_law 470 = .ok (.aload_n 0, 1) := by decide +kernel
theorem dL_law_471 : decode cL_law 471 = .ok (.iload_n 3, 1) := by decide +kernel
theorem dL_law_472 : decode cL_law 472 = .ok (.iconst 1, 1) := by decide +kernel
theorem dL_law_473 : decode cL_law 473 = .ok (.iadd, 1) := by decide +kernel
theorem dL_law_474 : decode cL_law 474 = .ok (.iaload, 1) := by decide +kernel
theorem dL_law_475 : decode cL_law 475 = .ok (.invokevirtual 61, 3) := by decide +kernel
theorem dL_law_478 : decode cL_law 478 = .ok (.aload_n 2, 1) := by decide +kernel
theorem dL_law_479 : decode cL_law 479 = .ok (.aload_n 0, 1) := by decide +kernel
theorem dL_law_480 : decode cL_law 480 = .ok (.iload_n 3, 1) := by decide +kernel
theorem dL_law_481 : decode cL_law 481 = .ok (.iconst 1, 1) := by decide +kernel
theorem dL_law_482 : decode cL_law 482 = .ok (.iadd, 1) := by decide +kernel
theorem dL_law_483 : decode cL_law 483 = .ok (.iaload, 1) := by decide +kernel
theorem dL_law_484 : decode cL_law 484 = .ok (.invokevirtual 64, 3) := by decide +kernel
theorem dL_law_487 : decode cL_law 487 = .ok (.if_icmp .eq 225, 3) := by decide +kernel
theorem dL_law_490 : decode cL_law 490 = .ok (.iconst 0, 1) := by decide +kernel
theorem dL_law_491 : decode cL_law 491 = .ok (.ireturn, 1) := by decide +kernel
theorem dL_law_492 : decode cL_law 492 = .ok (.aload_n 1, 1) := by decide +kernel
theorem dL_law_493 : decode cL_law 493 = .ok (.aload_n 0, 1) := by decide +kernel
theorem dL_law_494 : decode cL_law 494 = .ok (.iload_n 3, 1) := by decide +kernel
theorem dL_law_495 : decode cL_law 495 = .ok (.iconst 1, 1) := by decide +kernel
theorem dL_law_496 : decode cL_law 496 = .ok (.iadd, 1) := by decide +kernel
theorem dL_law_497 : decode cL_law 497 = .ok (.iaload, 1) := by decide +kernel
theorem dL_law_498 : decode cL_law 498 = .ok (.invokevirtual 65, 3) := by decide +kernel
theorem dL_law_501 : decode cL_law 501 = .ok (.aload_n 2, 1) := by decide +kernel
theorem dL_law_502 : decode cL_law 502 = .ok (.aload_n 0, 1) := by decide +kernel
theorem dL_law_503 : decode cL_law 503 = .ok (.iload_n 3, 1) := by decide +kernel
theorem dL_law_504 : decode cL_law 504 = .ok (.iconst 1, 1) := by decide +kernel
theorem dL_law_505 : decode cL_law 505 = .ok (.iadd, 1) := by decide +kernel
theorem dL_law_506 : decode cL_law 506 = .ok (.iaload, 1) := by decide +kernel
theorem dL_law_507 : decode cL_law 507 = .ok (.invokevirtual 68, 3) := by decide +kernel
theorem dL_law_510 : decode cL_law 510 = .ok (.if_icmp .eq 202, 3) := by decide +kernel
theorem dL_law_513 : decode cL_law 513 = .ok (.iconst 0, 1) := by decide +kernel
theorem dL_law_514 : decode cL_law 514 = .ok (.ireturn, 1) := by decide +kernel
theorem dL_law_515 : decode cL_law 515 = .ok (.aload_n 1, 1) := by decide +kernel
theorem dL_law_516 : decode cL_law 516 = .ok (.aload_n 0, 1) := by decide +kernel
theorem dL_law_517 : decode cL_law 517 = .ok (.iload_n 3, 1) := by decide +kernel
theorem dL_law_518 : decode cL_law 518 = .ok (.iconst 1, 1) := by decide +kernel
theorem dL_law_519 : decode cL_law 519 = .ok (.iadd, 1) := by decide +kernel
theorem dL_law_520 : decode cL_law 520 = .ok (.iaload, 1) := by decide +kernel
theorem dL_law_521 : decode cL_law 521 = .ok (.invokevirtual 69, 3) := by decide +kernel
theorem dL_law_524 : decode cL_law 524 = .ok (.aload_n 2, 1) := by decide +kernel
theorem dL_law_525 : decode cL_law 525 = .ok (.aload_n 0, 1) := by decide +kernel
theorem dL_law_526 : decode cL_law 526 = .ok (.iload_n 3, 1) := by decide +kernel
theorem dL_law_527 : decode cL_law 527 = .ok (.iconst 1, 1) := by decide +kernel
theorem dL_law_528 : decode cL_law 528 = .ok (.iadd, 1) := by decide +kernel
theorem dL_law_529 : decode cL_law 529 = .ok (.iaload, 1) := by decide +kernel
theorem dL_law_530 : decode cL_law 530 = .ok (.invokevirtual 72, 3) := by decide +kernel
theorem dL_law_533 : decode cL_law 533 = .ok (.if_icmp .eq 179, 3) := by decide +kernel
theorem dL_law_536 : decode cL_law 536 = .ok (.iconst 0, 1) := by decide +kernel
theorem dL_law_537 : decode cL_law 537 = .ok (.ireturn, 1) := by decide +kernel
theorem dL_law_538 : decode cL_law 538 = .ok (.aload_n 1, 1) := by decide +kernel
theorem dL_law_539 : decode cL_law 539 = .ok (.aload_n 0, 1) := by decide +kernel
theorem dL_law_540 : decode cL_law 540 = .ok (.iload_n 3, 1) := by decide +kernel
theorem dL_law_541 : decode cL_law 541 = .ok (.iconst 1, 1) := by decide +kernel
theorem dL_law_542 : decode cL_law 542 = .ok (.iadd, 1) := by decide +kernel
theorem dL_law_543 : decode cL_law 543 = .ok (.iaload, 1) := by decide +kernel
theorem dL_law_544 : decode cL_law 544 = .ok (.invokevirtual 73, 3) := by decide +kernel
theorem dL_law_547 : decode cL_law 547 = .ok (.aload_n 2, 1) := by decide +kernel
theorem dL_law_548 : decode cL_law 548 = .ok (.aload_n 0, 1) := by decide +kernel
theorem dL_law_549 : decode cL_law 549 = .ok (.iload_n 3, 1) := by decide +kernel
theorem dL_law_550 : decode cL_law 550 = .ok (.iconst 1, 1) := by decide +kernel
theorem dL_law_551 : decode cL_law 551 = .ok (.iadd, 1) := by decide +kernel
theorem dL_law_552 : decode cL_law 552 = .ok (.iaload, 1) := by decide +kernel
theorem dL_law_553 : decode cL_law 553 = .ok (.invokevirtual 76, 3) := by decide +kernel
theorem dL_law_556 : decode cL_law 556 = .ok (.if_icmp .eq 156, 3) := by decide +kernel
theorem dL_law_559 : decode cL_law 559 = .ok (.iconst 0, 1) := by decide +kernel
theorem dL_law_560 : decode cL_law 560 = .ok (.ireturn, 1) := by decide +kernel
theorem dL_law_561 : decode cL_law 561 = .ok (.aload_n 1, 1) := by decide +kernel
theorem dL_law_562 : decode cL_law 562 = .ok (.aload_n 0, 1) := by decide +kernel
theorem dL_law_563 : decode cL_law 563 = .ok (.iload_n 3, 1) := by decide +kernel
theorem dL_law_564 : decode cL_law 564 = .ok (.iconst 1, 1) := by decide +kernel
theorem dL_law_565 : decode cL_law 565 = .ok (.iadd, 1) := by decide +kernel
theorem dL_law_566 : decode cL_law 566 = .ok (.iaload, 1) := by decide +kernel
theorem dL_law_567 : decode cL_law 567 = .ok (.i2l, 1) := by decide +kernel
theorem dL_law_568 : decode cL_law 568 = .ok (.bipush 32, 2) := by decide +kernel
theorem dL_law_570 : decode cL_law 570 = .ok (.lshl, 1) := by decide +kernel
theorem dL_law_571 : decode cL_law 571 = .ok (.aload_n 0, 1) := by decide +kernel
theorem dL_law_572 : decode cL_law 572 = .ok (.iload_n 3, 1) := by decide +kernel
theorem dL_law_573 : decode cL_law 573 = .ok (.iconst 2, 1) := by decide +kernel
theorem dL_law_574 : decode cL_law 574 = .ok (.iadd, 1) := by decide +kernel
theorem dL_law_575 : decode cL_law 575 = .ok (.iaload, 1) := by decide +kernel
theorem dL_law_576 : decode cL_law 576 = .ok (.i2l, 1) := by decide +kernel
theorem dL_law_577 : decode cL_law 577 = .ok (.ldc2_w 77, 3) := by decide +kernel
theorem dL_law_580 : decode cL_law 580 = .ok (.land, 1) := by decide +kernel
theorem dL_law_581 : decode cL_law 581 = .ok (.lor, 1) := by decide +kernel
theorem dL_law_582 : decode cL_law 582 = .ok (.invokevirtual 79, 3) := by decide +kernel
theorem dL_law_585 : decode cL_law 585 = .ok (.aload_n 2, 1) := by decide +kernel
theorem dL_law_586 : decode cL_law 586 = .ok (.aload_n 0, 1) := by decide +kernel
theorem dL_law_587 : decode cL_law 587 = .ok (.iload_n 3, 1) := by decide +kernel
theorem dL_law_588 : decode cL_law 588 = .ok (.iconst 1, 1) := by decide +kernel
theorem dL_law_589 : decode cL_law 589 = .ok (.iadd, 1) := by decide +kernel
theorem dL_law_590 : decode cL_law 590 = .ok (.iaload, 1) := by decide +kernel
theorem dL_law_591 : decode cL_law 591 = .ok (.i2l, 1) := by decide +kernel
theorem dL_law_592 : decode cL_law 592 = .ok (.bipush 32, 2) := by decide +kernel
theorem dL_law_594 : decode cL_law 594 = .ok (.lshl, 1) := by decide +kernel
theorem dL_law_595 : decode cL_law 595 = .ok (.aload_n 0, 1) := by decide +kernel
theorem dL_law_596 : decode cL_law 596 = .ok (.iload_n 3, 1) := by decide +kernel
theorem dL_law_597 : decode cL_law 597 = .ok (.iconst 2, 1) := by decide +kernel
theorem dL_law_598 : decode cL_law 598 = .ok (.iadd, 1) := by decide +kernel
theorem dL_law_599 : decode cL_law 599 = .ok (.iaload, 1) := by decide +kernel
theorem dL_law_600 : decode cL_law 600 = .ok (.i2l, 1) := by decide +kernel
theorem dL_law_601 : decode cL_law 601 = .ok (.ldc2_w 77, 3) := by decide +kernel
theorem dL_law_604 : decode cL_law 604 = .ok (.land, 1) := by decide +kernel
theorem dL_law_605 : decode cL_law 605 = .ok (.lor, 1) := by decide +kernel
theorem dL_law_606 : decode cL_law 606 = .ok (.invokevirtual 83, 3) := by decide +kernel
theorem dL_law_609 : decode cL_law 609 = .ok (.if_icmp .eq 103, 3) := by decide +kernel
theorem dL_law_612 : decode cL_law 612 = .ok (.iconst 0, 1) := by decide +kernel
theorem dL_law_613 : decode cL_law 613 = .ok (.ireturn, 1) := by decide +kernel
theorem dL_law_614 : decode cL_law 614 = .ok (.aload_n 1, 1) := by decide +kernel
theorem dL_law_615 : decode cL_law 615 = .ok (.invokevirtual 84, 3) := by decide +kernel
theorem dL_law_618 : decode cL_law 618 = .ok (.aload_n 2, 1) := by decide +kernel
theorem dL_law_619 : decode cL_law 619 = .ok (.invokevirtual 87, 3) := by decide +kernel
theorem dL_law_622 : decode cL_law 622 = .ok (.if_icmp .eq 90, 3) := by decide +kernel
theorem dL_law_625 : decode cL_law 625 = .ok (.iconst 0, 1) := by decide +kernel
theorem dL_law_626 : decode cL_law 626 = .ok (.ireturn, 1) := by decide +kernel
theorem dL_law_627 : decode cL_law 627 = .ok (.aload_n 1, 1) := by decide +kernel
theorem dL_law_628 : decode cL_law 628 = .ok (.invokevirtual 88, 3) := by decide +kernel
theorem dL_law_631 : decode cL_law 631 = .ok (.aload_n 2, 1) := by decide +kernel
theorem dL_law_632 : decode cL_law 632 = .ok (.invokevirtual 91, 3) := by decide +kernel
theorem dL_law_635 : decode cL_law 635 = .ok (.if_icmp .eq 77, 3) := by decide +kernel
theorem dL_law_638 : decode cL_law 638 = .ok (.iconst 0, 1) := by decide +kernel
theorem dL_law_639 : decode cL_law 639 = .ok (.ireturn, 1) := by decide +kernel
theorem dL_law_640 : decode cL_law 640 = .ok (.aload_n 1, 1) := by decide +kernel
theorem dL_law_641 : decode cL_law 641 = .ok (.invokevirtual 92, 3) := by decide +kernel
theorem dL_law_644 : decode cL_law 644 = .ok (.aload_n 2, 1) := by decide +kernel
theorem dL_law_645 : decode cL_law 645 = .ok (.invokevirtual 95, 3) := by decide +kernel
theorem dL_law_648 : decode cL_law 648 = .ok (.if_icmp .eq 64, 3) := by decide +kernel
theorem dL_law_651 : decode cL_law 651 = .ok (.iconst 0, 1) := by decide +kernel
theorem dL_law_652 : decode cL_law 652 = .ok (.ireturn, 1) := by decide +kernel
theorem dL_law_653 : decode cL_law 653 = .ok (.aload_n 1, 1) := by decide +kernel
theorem dL_law_654 : decode cL_law 654 = .ok (.invokevirtual 96, 3) := by decide +kernel
theorem dL_law_657 : decode cL_law 657 = .ok (.aload_n 2, 1) := by decide +kernel
theorem dL_law_658 : decode cL_law 658 = .ok (.invokevirtual 99, 3) := by decide +kernel
theorem dL_law_661 : decode cL_law 661 = .ok (.if_icmp .eq 51, 3) := by decide +kernel
theorem dL_law_664 : decode cL_law 664 = .ok (.iconst 0, 1) := by decide +kernel
theorem dL_law_665 : decode cL_law 665 = .ok (.ireturn, 1) := by decide +kernel
theorem dL_law_666 : decode cL_law 666 = .ok (.aload_n 1, 1) := by decide +kernel
theorem dL_law_667 : decode cL_law 667 = .ok (.aload_n 0, 1) := by decide +kernel
theorem dL_law_668 : decode cL_law 668 = .ok (.iload_n 3, 1) := by decide +kernel
theorem dL_law_669 : decode cL_law 669 = .ok (.iconst 1, 1) := by decide +kernel
theorem dL_law_670 : decode cL_law 670 = .ok (.iadd, 1) := by decide +kernel
theorem dL_law_671 : decode cL_law 671 = .ok (.iaload, 1) := by decide +kernel
theorem dL_law_672 : decode cL_law 672 = .ok (.invokevirtual 100, 3) := by decide +kernel
theorem dL_law_675 : decode cL_law 675 = .ok (.aload_n 2, 1) := by decide +kernel
theorem dL_law_676 : decode cL_law 676 = .ok (.aload_n 0, 1) := by decide +kernel
theorem dL_law_677 : decode cL_law 677 = .ok (.iload_n 3, 1) := by decide +kernel
theorem dL_law_678 : decode cL_law 678 = .ok (.iconst 1, 1) := by decide +kernel
theorem dL_law_679 : decode cL_law 679 = .ok (.iadd, 1) := by decide +kernel
theorem dL_law_680 : decode cL_law 680 = .ok (.iaload, 1) := by decide +kernel
theorem dL_law_681 : decode cL_law 681 = .ok (.invokevirtual 103, 3) := by decide +kernel
theorem dL_law_684 : decode cL_law 684 = .ok (.if_icmp .eq 28, 3) := by decide +kernel
theorem dL_law_687 : decode cL_law 687 = .ok (.iconst 0, 1) := by decide +kernel
theorem dL_law_688 : decode cL_law 688 = .ok (.ireturn, 1) := by decide +kernel
theorem dL_law_689 : decode cL_law 689 = .ok (.aload_n 1, 1) := by decide +kernel
theorem dL_law_690 : decode cL_law 690 = .ok (.aload_n 0, 1) := by decide +kernel
theorem dL_law_691 : decode cL_law 691 = .ok (.iload_n 3, 1) := by decide +kernel
theorem dL_law_692 : decode cL_law 692 = .ok (.iconst 1, 1) := by decide +kernel
theorem dL_law_693 : decode cL_law 693 = .ok (.iadd, 1) := by decide +kernel
theorem dL_law_694 : decode cL_law 694 = .ok (.iaload, 1) := by decide +kernel
theorem dL_law_695 : decode cL_law 695 = .ok (.invokevirtual 104, 3) := by decide +kernel
theorem dL_law_698 : decode cL_law 698 = .ok (.aload_n 2, 1) := by decide +kernel
theorem dL_law_699 : decode cL_law 699 = .ok (.aload_n 0, 1) := by decide +kernel
theorem dL_law_700 : decode cL_law 700 = .ok (.iload_n 3, 1) := by decide +kernel
theorem dL_law_701 : decode cL_law 701 = .ok (.iconst 1, 1) := by decide +kernel
theorem dL_law_702 : decode cL_law 702 = .ok (.iadd, 1) := by decide +kernel
theorem dL_law_703 : decode cL_law 703 = .ok (.iaload, 1) := by decide +kernel
theorem dL_law_704 : decode cL_law 704 = .ok (.invokevirtual 107, 3) := by decide +kernel
theorem dL_law_707 : decode cL_law 707 = .ok (.if_icmp .eq 5, 3) := by decide +kernel
theorem dL_law_710 : decode cL_law 710 = .ok (.iconst 0, 1) := by decide +kernel
theorem dL_law_711 : decode cL_law 711 = .ok (.ireturn, 1) := by decide +kernel
theorem dL_law_712 : decode cL_law 712 = .ok (.iinc 3 4, 3) := by decide +kernel
theorem dL_law_715 : decode cL_law 715 = .ok (.goto (-697), 3) := by decide +kernel
theorem dL_law_718 : decode cL_law 718 = .ok (.iconst 1, 1) := by decide +kernel
theorem dL_law_719 : decode cL_law 719 = .ok (.ireturn, 1) := by decide +kernel
abbrev vwCl : List vw_C := [(RX0, TX0, 3), (RX1, TX1, 1), (RX2, TX2, 11), (RX3, TX3, 7), (RX4, TX4, 6), (RX5, TX5, 6), (RX6, TX6, 10), (RX7, TX7, 18)]
